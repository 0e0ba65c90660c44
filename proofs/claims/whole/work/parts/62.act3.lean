theorem going_M {b kd a r : Nat} (hb : b < 6) (hk : kd ≤ 6) (hr : r + 3 ≤ 20) (v : Int32) {μ : fm_I} (ν : fm_L) (e : μ 58 32 = nI r) (e0 : μ 60 b = nI kd) (e4 : μ 64 b = nI a) : m_X6_going (nI b) v μ ν = some (gF kd b a v, tMl (gL kd) r μ, ν) := by
  have B0 := fun x => body_M (by omega : r < 20) x ν e
  have B1 := fun x y => body_M (r := r + 1) (by omega) x ν (tM_n (r := r) (x := y) (μ := μ))
  have B2 := fun x y z => body_M (r := r + 1 + 1) (by omega) x ν (tM_n (r := r + 1) (x := y) (μ := tM r z μ))
  rcases (by omega : kd = 0 ∨ kd = 1 ∨ kd = 2 ∨ kd = 3 ∨ kd = 4 ∨ kd = 5 ∨ kd = 6) with rfl | rfl | rfl | rfl | rfl | rfl | rfl
  · simp -implicitDefEqProofs (disch := omega) only [m_X6_going, e0, m_X6_going_19, m_X6_going_30, m_X6_going_36, m_X6_going_46, m_X6_going_52, m_X6_going_73, m_X6_going_84, m_X6_going_95, m_X6_going_101, B0, B1, B2, tM_q, e4, ev_b, ev_b2, ev_g, ev_gF, ev_on, ev_os, ev_cl, ev_in, ev_in6, ev_eq0, ev_lt0, ev_0le, ev_le0, ev_0lt, ev_lt, ev_le, ev_eq, ev_m1a, ev_m1b, ev_m1c, ev_m1d, ev_m1e, ev_n1, ev_n4, ev_n8, ev_n9, ev_n10, ev_n11, ev_n12, ev_n13, ev_n14, ev_n15, ev_n16, ev_n17, ev_n59, ev_n60, ev_n61, ev_n62, ev_n63, ev_n64, ev_n65, ev_n66, ev_n67, ev_n68, ev_n69, ev_n70, ev_n71, ev_n72, ev_n73, ev_n74, ev_n75, ev_n76, ev_n77, ev_n78, ev_n79, ev_n80, ev_k18, ev_k34, ev_k40, ev_n26, ev_n26b, ev_n46, ev_n46b, ev_n52b, ev_uq, ev_us, ev_uj, ev_lq, ev_ls, ev_lj, ev_urq, ev_urs, ev_ulq, ev_uls, nI_add, pk_sub, pk_mul, if_true, if_false, ite_true, ite_false, decide_true, decide_false, eq_self_iff_true, Nat.reduceEqDiff, Nat.reduceLeDiff, Nat.reduceLT, Nat.reduceAdd, Nat.reduceMul, Nat.reduceSub, Nat.reduceDiv, Nat.reduceMod, ↓reduceIte]
    rfl
  · simp -implicitDefEqProofs (disch := omega) only [m_X6_going, e0, m_X6_going_19, m_X6_going_30, m_X6_going_36, m_X6_going_46, m_X6_going_52, m_X6_going_73, m_X6_going_84, m_X6_going_95, m_X6_going_101, B0, B1, B2, tM_q, e4, ev_b, ev_b2, ev_g, ev_gF, ev_on, ev_os, ev_cl, ev_in, ev_in6, ev_eq0, ev_lt0, ev_0le, ev_le0, ev_0lt, ev_lt, ev_le, ev_eq, ev_m1a, ev_m1b, ev_m1c, ev_m1d, ev_m1e, ev_n1, ev_n4, ev_n8, ev_n9, ev_n10, ev_n11, ev_n12, ev_n13, ev_n14, ev_n15, ev_n16, ev_n17, ev_n59, ev_n60, ev_n61, ev_n62, ev_n63, ev_n64, ev_n65, ev_n66, ev_n67, ev_n68, ev_n69, ev_n70, ev_n71, ev_n72, ev_n73, ev_n74, ev_n75, ev_n76, ev_n77, ev_n78, ev_n79, ev_n80, ev_k18, ev_k34, ev_k40, ev_n26, ev_n26b, ev_n46, ev_n46b, ev_n52b, ev_uq, ev_us, ev_uj, ev_lq, ev_ls, ev_lj, ev_urq, ev_urs, ev_ulq, ev_uls, nI_add, pk_sub, pk_mul, if_true, if_false, ite_true, ite_false, decide_true, decide_false, eq_self_iff_true, Nat.reduceEqDiff, Nat.reduceLeDiff, Nat.reduceLT, Nat.reduceAdd, Nat.reduceMul, Nat.reduceSub, Nat.reduceDiv, Nat.reduceMod, ↓reduceIte]
    rfl
  · simp -implicitDefEqProofs (disch := omega) only [m_X6_going, e0, m_X6_going_19, m_X6_going_30, m_X6_going_36, m_X6_going_46, m_X6_going_52, m_X6_going_73, m_X6_going_84, m_X6_going_95, m_X6_going_101, B0, B1, B2, tM_q, e4, ev_b, ev_b2, ev_g, ev_gF, ev_on, ev_os, ev_cl, ev_in, ev_in6, ev_eq0, ev_lt0, ev_0le, ev_le0, ev_0lt, ev_lt, ev_le, ev_eq, ev_m1a, ev_m1b, ev_m1c, ev_m1d, ev_m1e, ev_n1, ev_n4, ev_n8, ev_n9, ev_n10, ev_n11, ev_n12, ev_n13, ev_n14, ev_n15, ev_n16, ev_n17, ev_n59, ev_n60, ev_n61, ev_n62, ev_n63, ev_n64, ev_n65, ev_n66, ev_n67, ev_n68, ev_n69, ev_n70, ev_n71, ev_n72, ev_n73, ev_n74, ev_n75, ev_n76, ev_n77, ev_n78, ev_n79, ev_n80, ev_k18, ev_k34, ev_k40, ev_n26, ev_n26b, ev_n46, ev_n46b, ev_n52b, ev_uq, ev_us, ev_uj, ev_lq, ev_ls, ev_lj, ev_urq, ev_urs, ev_ulq, ev_uls, nI_add, pk_sub, pk_mul, if_true, if_false, ite_true, ite_false, decide_true, decide_false, eq_self_iff_true, Nat.reduceEqDiff, Nat.reduceLeDiff, Nat.reduceLT, Nat.reduceAdd, Nat.reduceMul, Nat.reduceSub, Nat.reduceDiv, Nat.reduceMod, ↓reduceIte]
    rfl
  · simp -implicitDefEqProofs (disch := omega) only [m_X6_going, e0, m_X6_going_19, m_X6_going_30, m_X6_going_36, m_X6_going_46, m_X6_going_52, m_X6_going_73, m_X6_going_84, m_X6_going_95, m_X6_going_101, B0, B1, B2, tM_q, e4, ev_b, ev_b2, ev_g, ev_gF, ev_on, ev_os, ev_cl, ev_in, ev_in6, ev_eq0, ev_lt0, ev_0le, ev_le0, ev_0lt, ev_lt, ev_le, ev_eq, ev_m1a, ev_m1b, ev_m1c, ev_m1d, ev_m1e, ev_n1, ev_n4, ev_n8, ev_n9, ev_n10, ev_n11, ev_n12, ev_n13, ev_n14, ev_n15, ev_n16, ev_n17, ev_n59, ev_n60, ev_n61, ev_n62, ev_n63, ev_n64, ev_n65, ev_n66, ev_n67, ev_n68, ev_n69, ev_n70, ev_n71, ev_n72, ev_n73, ev_n74, ev_n75, ev_n76, ev_n77, ev_n78, ev_n79, ev_n80, ev_k18, ev_k34, ev_k40, ev_n26, ev_n26b, ev_n46, ev_n46b, ev_n52b, ev_uq, ev_us, ev_uj, ev_lq, ev_ls, ev_lj, ev_urq, ev_urs, ev_ulq, ev_uls, nI_add, pk_sub, pk_mul, if_true, if_false, ite_true, ite_false, decide_true, decide_false, eq_self_iff_true, Nat.reduceEqDiff, Nat.reduceLeDiff, Nat.reduceLT, Nat.reduceAdd, Nat.reduceMul, Nat.reduceSub, Nat.reduceDiv, Nat.reduceMod, ↓reduceIte]
    rfl
  · simp -implicitDefEqProofs (disch := omega) only [m_X6_going, e0, m_X6_going_19, m_X6_going_30, m_X6_going_36, m_X6_going_46, m_X6_going_52, m_X6_going_73, m_X6_going_84, m_X6_going_95, m_X6_going_101, B0, B1, B2, tM_q, e4, ev_b, ev_b2, ev_g, ev_gF, ev_on, ev_os, ev_cl, ev_in, ev_in6, ev_eq0, ev_lt0, ev_0le, ev_le0, ev_0lt, ev_lt, ev_le, ev_eq, ev_m1a, ev_m1b, ev_m1c, ev_m1d, ev_m1e, ev_n1, ev_n4, ev_n8, ev_n9, ev_n10, ev_n11, ev_n12, ev_n13, ev_n14, ev_n15, ev_n16, ev_n17, ev_n59, ev_n60, ev_n61, ev_n62, ev_n63, ev_n64, ev_n65, ev_n66, ev_n67, ev_n68, ev_n69, ev_n70, ev_n71, ev_n72, ev_n73, ev_n74, ev_n75, ev_n76, ev_n77, ev_n78, ev_n79, ev_n80, ev_k18, ev_k34, ev_k40, ev_n26, ev_n26b, ev_n46, ev_n46b, ev_n52b, ev_uq, ev_us, ev_uj, ev_lq, ev_ls, ev_lj, ev_urq, ev_urs, ev_ulq, ev_uls, nI_add, pk_sub, pk_mul, if_true, if_false, ite_true, ite_false, decide_true, decide_false, eq_self_iff_true, Nat.reduceEqDiff, Nat.reduceLeDiff, Nat.reduceLT, Nat.reduceAdd, Nat.reduceMul, Nat.reduceSub, Nat.reduceDiv, Nat.reduceMod, ↓reduceIte]
    rfl
  · simp -implicitDefEqProofs (disch := omega) only [m_X6_going, e0, m_X6_going_19, m_X6_going_30, m_X6_going_36, m_X6_going_46, m_X6_going_52, m_X6_going_73, m_X6_going_84, m_X6_going_95, m_X6_going_101, B0, B1, B2, tM_q, e4, ev_b, ev_b2, ev_g, ev_gF, ev_on, ev_os, ev_cl, ev_in, ev_in6, ev_eq0, ev_lt0, ev_0le, ev_le0, ev_0lt, ev_lt, ev_le, ev_eq, ev_m1a, ev_m1b, ev_m1c, ev_m1d, ev_m1e, ev_n1, ev_n4, ev_n8, ev_n9, ev_n10, ev_n11, ev_n12, ev_n13, ev_n14, ev_n15, ev_n16, ev_n17, ev_n59, ev_n60, ev_n61, ev_n62, ev_n63, ev_n64, ev_n65, ev_n66, ev_n67, ev_n68, ev_n69, ev_n70, ev_n71, ev_n72, ev_n73, ev_n74, ev_n75, ev_n76, ev_n77, ev_n78, ev_n79, ev_n80, ev_k18, ev_k34, ev_k40, ev_n26, ev_n26b, ev_n46, ev_n46b, ev_n52b, ev_uq, ev_us, ev_uj, ev_lq, ev_ls, ev_lj, ev_urq, ev_urs, ev_ulq, ev_uls, nI_add, pk_sub, pk_mul, if_true, if_false, ite_true, ite_false, decide_true, decide_false, eq_self_iff_true, Nat.reduceEqDiff, Nat.reduceLeDiff, Nat.reduceLT, Nat.reduceAdd, Nat.reduceMul, Nat.reduceSub, Nat.reduceDiv, Nat.reduceMod, ↓reduceIte]
    rfl
  · simp -implicitDefEqProofs (disch := omega) only [m_X6_going, e0, m_X6_going_19, m_X6_going_30, m_X6_going_36, m_X6_going_46, m_X6_going_52, m_X6_going_73, m_X6_going_84, m_X6_going_95, m_X6_going_101, B0, B1, B2, tM_q, e4, ev_b, ev_b2, ev_g, ev_gF, ev_on, ev_os, ev_cl, ev_in, ev_in6, ev_eq0, ev_lt0, ev_0le, ev_le0, ev_0lt, ev_lt, ev_le, ev_eq, ev_m1a, ev_m1b, ev_m1c, ev_m1d, ev_m1e, ev_n1, ev_n4, ev_n8, ev_n9, ev_n10, ev_n11, ev_n12, ev_n13, ev_n14, ev_n15, ev_n16, ev_n17, ev_n59, ev_n60, ev_n61, ev_n62, ev_n63, ev_n64, ev_n65, ev_n66, ev_n67, ev_n68, ev_n69, ev_n70, ev_n71, ev_n72, ev_n73, ev_n74, ev_n75, ev_n76, ev_n77, ev_n78, ev_n79, ev_n80, ev_k18, ev_k34, ev_k40, ev_n26, ev_n26b, ev_n46, ev_n46b, ev_n52b, ev_uq, ev_us, ev_uj, ev_lq, ev_ls, ev_lj, ev_urq, ev_urs, ev_ulq, ev_uls, nI_add, pk_sub, pk_mul, if_true, if_false, ite_true, ite_false, decide_true, decide_false, eq_self_iff_true, Nat.reduceEqDiff, Nat.reduceLeDiff, Nat.reduceLT, Nat.reduceAdd, Nat.reduceMul, Nat.reduceSub, Nat.reduceDiv, Nat.reduceMod, ↓reduceIte]
    rfl
theorem gL_n (kd : Nat) : (gL kd).length ≤ 3 := by
  unfold gL
  split <;> decide
theorem turning_M {b kd a r : Nat} (hb : b < 6) (hk : kd ≤ 6) (hr : r + 5 ≤ 20) (v : Int32) {μ : fm_I} (ν : fm_L) (e : μ 58 32 = nI r) (e0 : μ 60 b = nI kd) (e4 : μ 64 b = nI a) : m_X6_turning (nI b) v μ ν = some (tF kd b a v, tMl (tL kd) r μ, ν) := by
  have B0 := fun x => body_M (by omega : r < 20) x ν e
  have B1 := fun x y => body_M (r := r + 1) (by omega) x ν (tM_n (r := r) (x := y) (μ := μ))
  have G1 := fun v x => going_M (b := b) (kd := kd) (a := a) (r := r + 1) hb hk (by omega) v ν (tM_n (r := r) (x := x) (μ := μ)) (by rw [tM_q (by decide) (by decide)]; exact e0) (by rw [tM_q (by decide) (by decide)]; exact e4)
  have G2 := fun v x y => going_M (b := b) (kd := kd) (a := a) (r := r + 1 + 1) hb hk (by omega) v ν (tM_n (r := r + 1) (x := x) (μ := tM r y μ)) (by rw [tM_q (by decide) (by decide), tM_q (by decide) (by decide)]; exact e0) (by rw [tM_q (by decide) (by decide), tM_q (by decide) (by decide)]; exact e4)
  rcases (by omega : kd = 0 ∨ kd = 1 ∨ kd = 2 ∨ kd = 3 ∨ kd = 4 ∨ kd = 5 ∨ kd = 6) with rfl | rfl | rfl | rfl | rfl | rfl | rfl
  · simp -implicitDefEqProofs (disch := omega) only [m_X6_turning, e0, m_X6_turning_26, m_X6_turning_48, m_X6_turning_58, m_X6_turning_63, m_X6_turning_76, B0, B1, G1, G2, tM_q, e4, ev_b, ev_b2, ev_g, ev_gF, ev_on, ev_os, ev_cl, ev_in, ev_in6, ev_eq0, ev_lt0, ev_0le, ev_le0, ev_0lt, ev_lt, ev_le, ev_eq, ev_m1a, ev_m1b, ev_m1c, ev_m1d, ev_m1e, ev_n1, ev_n4, ev_n8, ev_n9, ev_n10, ev_n11, ev_n12, ev_n13, ev_n14, ev_n15, ev_n16, ev_n17, ev_n59, ev_n60, ev_n61, ev_n62, ev_n63, ev_n64, ev_n65, ev_n66, ev_n67, ev_n68, ev_n69, ev_n70, ev_n71, ev_n72, ev_n73, ev_n74, ev_n75, ev_n76, ev_n77, ev_n78, ev_n79, ev_n80, ev_k18, ev_k34, ev_k40, ev_n26, ev_n26b, ev_n46, ev_n46b, ev_n52b, ev_uq, ev_us, ev_uj, ev_lq, ev_ls, ev_lj, ev_urq, ev_urs, ev_ulq, ev_uls, nI_add, pk_sub, pk_mul, if_true, if_false, ite_true, ite_false, decide_true, decide_false, eq_self_iff_true, Nat.reduceEqDiff, Nat.reduceLeDiff, Nat.reduceLT, Nat.reduceAdd, Nat.reduceMul, Nat.reduceSub, Nat.reduceDiv, Nat.reduceMod, ↓reduceIte]
    rfl
  · simp -implicitDefEqProofs (disch := omega) only [m_X6_turning, e0, m_X6_turning_26, m_X6_turning_48, m_X6_turning_58, m_X6_turning_63, m_X6_turning_76, B0, B1, G1, G2, tM_q, e4, ev_b, ev_b2, ev_g, ev_gF, ev_on, ev_os, ev_cl, ev_in, ev_in6, ev_eq0, ev_lt0, ev_0le, ev_le0, ev_0lt, ev_lt, ev_le, ev_eq, ev_m1a, ev_m1b, ev_m1c, ev_m1d, ev_m1e, ev_n1, ev_n4, ev_n8, ev_n9, ev_n10, ev_n11, ev_n12, ev_n13, ev_n14, ev_n15, ev_n16, ev_n17, ev_n59, ev_n60, ev_n61, ev_n62, ev_n63, ev_n64, ev_n65, ev_n66, ev_n67, ev_n68, ev_n69, ev_n70, ev_n71, ev_n72, ev_n73, ev_n74, ev_n75, ev_n76, ev_n77, ev_n78, ev_n79, ev_n80, ev_k18, ev_k34, ev_k40, ev_n26, ev_n26b, ev_n46, ev_n46b, ev_n52b, ev_uq, ev_us, ev_uj, ev_lq, ev_ls, ev_lj, ev_urq, ev_urs, ev_ulq, ev_uls, nI_add, pk_sub, pk_mul, if_true, if_false, ite_true, ite_false, decide_true, decide_false, eq_self_iff_true, Nat.reduceEqDiff, Nat.reduceLeDiff, Nat.reduceLT, Nat.reduceAdd, Nat.reduceMul, Nat.reduceSub, Nat.reduceDiv, Nat.reduceMod, ↓reduceIte]
    rfl
  · simp -implicitDefEqProofs (disch := omega) only [m_X6_turning, e0, m_X6_turning_26, m_X6_turning_48, m_X6_turning_58, m_X6_turning_63, m_X6_turning_76, B0, B1, G1, G2, tM_q, e4, ev_b, ev_b2, ev_g, ev_gF, ev_on, ev_os, ev_cl, ev_in, ev_in6, ev_eq0, ev_lt0, ev_0le, ev_le0, ev_0lt, ev_lt, ev_le, ev_eq, ev_m1a, ev_m1b, ev_m1c, ev_m1d, ev_m1e, ev_n1, ev_n4, ev_n8, ev_n9, ev_n10, ev_n11, ev_n12, ev_n13, ev_n14, ev_n15, ev_n16, ev_n17, ev_n59, ev_n60, ev_n61, ev_n62, ev_n63, ev_n64, ev_n65, ev_n66, ev_n67, ev_n68, ev_n69, ev_n70, ev_n71, ev_n72, ev_n73, ev_n74, ev_n75, ev_n76, ev_n77, ev_n78, ev_n79, ev_n80, ev_k18, ev_k34, ev_k40, ev_n26, ev_n26b, ev_n46, ev_n46b, ev_n52b, ev_uq, ev_us, ev_uj, ev_lq, ev_ls, ev_lj, ev_urq, ev_urs, ev_ulq, ev_uls, nI_add, pk_sub, pk_mul, if_true, if_false, ite_true, ite_false, decide_true, decide_false, eq_self_iff_true, Nat.reduceEqDiff, Nat.reduceLeDiff, Nat.reduceLT, Nat.reduceAdd, Nat.reduceMul, Nat.reduceSub, Nat.reduceDiv, Nat.reduceMod, ↓reduceIte]
    rfl
  · simp -implicitDefEqProofs (disch := omega) only [m_X6_turning, e0, m_X6_turning_26, m_X6_turning_48, m_X6_turning_58, m_X6_turning_63, m_X6_turning_76, B0, B1, G1, G2, tM_q, e4, ev_b, ev_b2, ev_g, ev_gF, ev_on, ev_os, ev_cl, ev_in, ev_in6, ev_eq0, ev_lt0, ev_0le, ev_le0, ev_0lt, ev_lt, ev_le, ev_eq, ev_m1a, ev_m1b, ev_m1c, ev_m1d, ev_m1e, ev_n1, ev_n4, ev_n8, ev_n9, ev_n10, ev_n11, ev_n12, ev_n13, ev_n14, ev_n15, ev_n16, ev_n17, ev_n59, ev_n60, ev_n61, ev_n62, ev_n63, ev_n64, ev_n65, ev_n66, ev_n67, ev_n68, ev_n69, ev_n70, ev_n71, ev_n72, ev_n73, ev_n74, ev_n75, ev_n76, ev_n77, ev_n78, ev_n79, ev_n80, ev_k18, ev_k34, ev_k40, ev_n26, ev_n26b, ev_n46, ev_n46b, ev_n52b, ev_uq, ev_us, ev_uj, ev_lq, ev_ls, ev_lj, ev_urq, ev_urs, ev_ulq, ev_uls, nI_add, pk_sub, pk_mul, if_true, if_false, ite_true, ite_false, decide_true, decide_false, eq_self_iff_true, Nat.reduceEqDiff, Nat.reduceLeDiff, Nat.reduceLT, Nat.reduceAdd, Nat.reduceMul, Nat.reduceSub, Nat.reduceDiv, Nat.reduceMod, ↓reduceIte]
    rfl
  · simp -implicitDefEqProofs (disch := omega) only [m_X6_turning, e0, m_X6_turning_26, m_X6_turning_48, m_X6_turning_58, m_X6_turning_63, m_X6_turning_76, B0, B1, G1, G2, tM_q, e4, ev_b, ev_b2, ev_g, ev_gF, ev_on, ev_os, ev_cl, ev_in, ev_in6, ev_eq0, ev_lt0, ev_0le, ev_le0, ev_0lt, ev_lt, ev_le, ev_eq, ev_m1a, ev_m1b, ev_m1c, ev_m1d, ev_m1e, ev_n1, ev_n4, ev_n8, ev_n9, ev_n10, ev_n11, ev_n12, ev_n13, ev_n14, ev_n15, ev_n16, ev_n17, ev_n59, ev_n60, ev_n61, ev_n62, ev_n63, ev_n64, ev_n65, ev_n66, ev_n67, ev_n68, ev_n69, ev_n70, ev_n71, ev_n72, ev_n73, ev_n74, ev_n75, ev_n76, ev_n77, ev_n78, ev_n79, ev_n80, ev_k18, ev_k34, ev_k40, ev_n26, ev_n26b, ev_n46, ev_n46b, ev_n52b, ev_uq, ev_us, ev_uj, ev_lq, ev_ls, ev_lj, ev_urq, ev_urs, ev_ulq, ev_uls, nI_add, pk_sub, pk_mul, if_true, if_false, ite_true, ite_false, decide_true, decide_false, eq_self_iff_true, Nat.reduceEqDiff, Nat.reduceLeDiff, Nat.reduceLT, Nat.reduceAdd, Nat.reduceMul, Nat.reduceSub, Nat.reduceDiv, Nat.reduceMod, ↓reduceIte]
    rfl
  · simp -implicitDefEqProofs (disch := omega) only [m_X6_turning, e0, m_X6_turning_26, m_X6_turning_48, m_X6_turning_58, m_X6_turning_63, m_X6_turning_76, B0, B1, G1, G2, tM_q, e4, ev_b, ev_b2, ev_g, ev_gF, ev_on, ev_os, ev_cl, ev_in, ev_in6, ev_eq0, ev_lt0, ev_0le, ev_le0, ev_0lt, ev_lt, ev_le, ev_eq, ev_m1a, ev_m1b, ev_m1c, ev_m1d, ev_m1e, ev_n1, ev_n4, ev_n8, ev_n9, ev_n10, ev_n11, ev_n12, ev_n13, ev_n14, ev_n15, ev_n16, ev_n17, ev_n59, ev_n60, ev_n61, ev_n62, ev_n63, ev_n64, ev_n65, ev_n66, ev_n67, ev_n68, ev_n69, ev_n70, ev_n71, ev_n72, ev_n73, ev_n74, ev_n75, ev_n76, ev_n77, ev_n78, ev_n79, ev_n80, ev_k18, ev_k34, ev_k40, ev_n26, ev_n26b, ev_n46, ev_n46b, ev_n52b, ev_uq, ev_us, ev_uj, ev_lq, ev_ls, ev_lj, ev_urq, ev_urs, ev_ulq, ev_uls, nI_add, pk_sub, pk_mul, if_true, if_false, ite_true, ite_false, decide_true, decide_false, eq_self_iff_true, Nat.reduceEqDiff, Nat.reduceLeDiff, Nat.reduceLT, Nat.reduceAdd, Nat.reduceMul, Nat.reduceSub, Nat.reduceDiv, Nat.reduceMod, ↓reduceIte]
    rfl
  · simp -implicitDefEqProofs (disch := omega) only [m_X6_turning, e0, m_X6_turning_26, m_X6_turning_48, m_X6_turning_58, m_X6_turning_63, m_X6_turning_76, B0, B1, G1, G2, tM_q, e4, ev_b, ev_b2, ev_g, ev_gF, ev_on, ev_os, ev_cl, ev_in, ev_in6, ev_eq0, ev_lt0, ev_0le, ev_le0, ev_0lt, ev_lt, ev_le, ev_eq, ev_m1a, ev_m1b, ev_m1c, ev_m1d, ev_m1e, ev_n1, ev_n4, ev_n8, ev_n9, ev_n10, ev_n11, ev_n12, ev_n13, ev_n14, ev_n15, ev_n16, ev_n17, ev_n59, ev_n60, ev_n61, ev_n62, ev_n63, ev_n64, ev_n65, ev_n66, ev_n67, ev_n68, ev_n69, ev_n70, ev_n71, ev_n72, ev_n73, ev_n74, ev_n75, ev_n76, ev_n77, ev_n78, ev_n79, ev_n80, ev_k18, ev_k34, ev_k40, ev_n26, ev_n26b, ev_n46, ev_n46b, ev_n52b, ev_uq, ev_us, ev_uj, ev_lq, ev_ls, ev_lj, ev_urq, ev_urs, ev_ulq, ev_uls, nI_add, pk_sub, pk_mul, if_true, if_false, ite_true, ite_false, decide_true, decide_false, eq_self_iff_true, Nat.reduceEqDiff, Nat.reduceLeDiff, Nat.reduceLT, Nat.reduceAdd, Nat.reduceMul, Nat.reduceSub, Nat.reduceDiv, Nat.reduceMod, ↓reduceIte]
    rfl
theorem tL_n (kd : Nat) : (tL kd).length ≤ 5 := by
  unfold tL
  split
  · decide
  · decide
  · decide
  · decide
  · rename_i k
    have := gL_n kd
    rw [List.length_cons]
    omega
theorem hook_M {b kd a r : Nat} (hb : b < 6) (hk : kd ≤ 6) (hr : r + 9 ≤ 20) (v : Int32) {μ : fm_I} (ν : fm_L) (e : μ 58 32 = nI r) (e0 : μ 60 b = nI kd) (e4 : μ 64 b = nI a) : m_X6_hooking_35 (nI b) v (nI kd) μ ν = some (if kd = 4 then - (tF kd b a v ^^^ gF kd b a (v - nI a)) else if kd = 6 then - (tF kd b a v ^^^ gF kd b a (v - nI a)) else if kd = 5 then tF kd b a v ^^^ gF kd b a (v - nI a) ^^^ nI 5 else tF kd b a v ^^^ gF kd b a (v - nI a), tMl (12 :: (tL kd ++ gL kd)) r μ, ν) := by
  have B0 := body_M (by omega : r < 20) 12 ν e
  have e0' : tM r 12 μ 60 b = nI kd := by rw [tM_q (by decide) (by decide)]; exact e0
  have e4' : tM r 12 μ 64 b = nI a := by rw [tM_q (by decide) (by decide)]; exact e4
  have T := turning_M (b := b) (kd := kd) (a := a) (r := r + 1) hb hk (by omega) v ν (tM_n (r := r) (x := 12) (μ := μ)) e0' e4'
  have n1 := tL_n kd
  have e0'' : tMl (tL kd) (r + 1) (tM r 12 μ) 60 b = nI kd := by rw [tMl_q _ _ _ _ (by decide) (by decide)]; exact e0'
  have e4'' : tMl (tL kd) (r + 1) (tM r 12 μ) 64 b = nI a := by rw [tMl_q _ _ _ _ (by decide) (by decide)]; exact e4'
  have G := going_M (b := b) (kd := kd) (a := a) (r := r + 1 + (tL kd).length) hb hk (by omega) (v - nI a) ν (tMl_n (tL kd) (r + 1) _ (tM_n (r := r) (x := 12) (μ := μ))) e0'' e4''
  rw [m_X6_hooking_35, B0, ev_b, T, tMl, tMl_app]
  simp -implicitDefEqProofs (disch := omega) only [e4'', G, m_X6_hooking_78, ev_b, ev_g, ev_in, ev_n64, ev_cl, ev_eq]
  by_cases h4 : kd = 4
  · rw [if_pos h4, if_pos h4]
  · by_cases h6 : kd = 6
    · rw [if_neg h4, if_neg h4, if_pos h6, if_pos h6]
    · by_cases h5 : kd = 5
      · rw [if_neg h4, if_neg h4, if_neg h6, if_neg h6, if_pos h5, if_pos h5]
      · rw [if_neg h4, if_neg h4, if_neg h6, if_neg h6, if_neg h5, if_neg h5]
theorem hooking_M {b kd a r : Nat} (hb : b < 6) (hk : kd ≤ 6) (hr : r + 10 ≤ 20) (v : Int32) {μ : fm_I} (ν : fm_L) (e : μ 58 32 = nI r) (e0 : μ 60 b = nI kd) (e4 : μ 64 b = nI a) : m_X6_hooking (nI b) v μ ν = some (hF kd b a v, tMl (hL kd) r μ, ν) := by
  have B0 := fun x => body_M (by omega : r < 20) x ν e
  have H0 := hook_M (b := b) (kd := kd) (a := a) (r := r) hb hk (by omega) v ν e e0 e4
  have H1 := fun x => hook_M (b := b) (kd := kd) (a := a) (r := r + 1) hb hk (by omega) v ν (tM_n (r := r) (x := x) (μ := μ)) (by rw [tM_q (by decide) (by decide)]; exact e0) (by rw [tM_q (by decide) (by decide)]; exact e4)
  rcases (by omega : kd = 0 ∨ kd = 1 ∨ kd = 2 ∨ kd = 3 ∨ kd = 4 ∨ kd = 5 ∨ kd = 6) with rfl | rfl | rfl | rfl | rfl | rfl | rfl
  · simp -implicitDefEqProofs (disch := omega) only [m_X6_hooking, e0, m_X6_hooking_24, m_X6_hooking_18, B0, H0, H1, ev_b, ev_b2, ev_g, ev_gF, ev_on, ev_os, ev_cl, ev_in, ev_in6, ev_eq0, ev_lt0, ev_0le, ev_le0, ev_0lt, ev_lt, ev_le, ev_eq, ev_m1a, ev_m1b, ev_m1c, ev_m1d, ev_m1e, ev_n1, ev_n4, ev_n8, ev_n9, ev_n10, ev_n11, ev_n12, ev_n13, ev_n14, ev_n15, ev_n16, ev_n17, ev_n59, ev_n60, ev_n61, ev_n62, ev_n63, ev_n64, ev_n65, ev_n66, ev_n67, ev_n68, ev_n69, ev_n70, ev_n71, ev_n72, ev_n73, ev_n74, ev_n75, ev_n76, ev_n77, ev_n78, ev_n79, ev_n80, ev_k18, ev_k34, ev_k40, ev_n26, ev_n26b, ev_n46, ev_n46b, ev_n52b, ev_uq, ev_us, ev_uj, ev_lq, ev_ls, ev_lj, ev_urq, ev_urs, ev_ulq, ev_uls, nI_add, pk_sub, pk_mul, if_true, if_false, ite_true, ite_false, decide_true, decide_false, eq_self_iff_true, Nat.reduceEqDiff, Nat.reduceLeDiff, Nat.reduceLT, Nat.reduceAdd, Nat.reduceMul, Nat.reduceSub, Nat.reduceDiv, Nat.reduceMod, ↓reduceIte]
    rfl
  · simp -implicitDefEqProofs (disch := omega) only [m_X6_hooking, e0, m_X6_hooking_24, m_X6_hooking_18, B0, H0, H1, ev_b, ev_b2, ev_g, ev_gF, ev_on, ev_os, ev_cl, ev_in, ev_in6, ev_eq0, ev_lt0, ev_0le, ev_le0, ev_0lt, ev_lt, ev_le, ev_eq, ev_m1a, ev_m1b, ev_m1c, ev_m1d, ev_m1e, ev_n1, ev_n4, ev_n8, ev_n9, ev_n10, ev_n11, ev_n12, ev_n13, ev_n14, ev_n15, ev_n16, ev_n17, ev_n59, ev_n60, ev_n61, ev_n62, ev_n63, ev_n64, ev_n65, ev_n66, ev_n67, ev_n68, ev_n69, ev_n70, ev_n71, ev_n72, ev_n73, ev_n74, ev_n75, ev_n76, ev_n77, ev_n78, ev_n79, ev_n80, ev_k18, ev_k34, ev_k40, ev_n26, ev_n26b, ev_n46, ev_n46b, ev_n52b, ev_uq, ev_us, ev_uj, ev_lq, ev_ls, ev_lj, ev_urq, ev_urs, ev_ulq, ev_uls, nI_add, pk_sub, pk_mul, if_true, if_false, ite_true, ite_false, decide_true, decide_false, eq_self_iff_true, Nat.reduceEqDiff, Nat.reduceLeDiff, Nat.reduceLT, Nat.reduceAdd, Nat.reduceMul, Nat.reduceSub, Nat.reduceDiv, Nat.reduceMod, ↓reduceIte]
    rfl
  · simp -implicitDefEqProofs (disch := omega) only [m_X6_hooking, e0, m_X6_hooking_24, m_X6_hooking_18, B0, H0, H1, ev_b, ev_b2, ev_g, ev_gF, ev_on, ev_os, ev_cl, ev_in, ev_in6, ev_eq0, ev_lt0, ev_0le, ev_le0, ev_0lt, ev_lt, ev_le, ev_eq, ev_m1a, ev_m1b, ev_m1c, ev_m1d, ev_m1e, ev_n1, ev_n4, ev_n8, ev_n9, ev_n10, ev_n11, ev_n12, ev_n13, ev_n14, ev_n15, ev_n16, ev_n17, ev_n59, ev_n60, ev_n61, ev_n62, ev_n63, ev_n64, ev_n65, ev_n66, ev_n67, ev_n68, ev_n69, ev_n70, ev_n71, ev_n72, ev_n73, ev_n74, ev_n75, ev_n76, ev_n77, ev_n78, ev_n79, ev_n80, ev_k18, ev_k34, ev_k40, ev_n26, ev_n26b, ev_n46, ev_n46b, ev_n52b, ev_uq, ev_us, ev_uj, ev_lq, ev_ls, ev_lj, ev_urq, ev_urs, ev_ulq, ev_uls, nI_add, pk_sub, pk_mul, if_true, if_false, ite_true, ite_false, decide_true, decide_false, eq_self_iff_true, Nat.reduceEqDiff, Nat.reduceLeDiff, Nat.reduceLT, Nat.reduceAdd, Nat.reduceMul, Nat.reduceSub, Nat.reduceDiv, Nat.reduceMod, ↓reduceIte]
    rfl
  · simp -implicitDefEqProofs (disch := omega) only [m_X6_hooking, e0, m_X6_hooking_24, m_X6_hooking_18, B0, H0, H1, ev_b, ev_b2, ev_g, ev_gF, ev_on, ev_os, ev_cl, ev_in, ev_in6, ev_eq0, ev_lt0, ev_0le, ev_le0, ev_0lt, ev_lt, ev_le, ev_eq, ev_m1a, ev_m1b, ev_m1c, ev_m1d, ev_m1e, ev_n1, ev_n4, ev_n8, ev_n9, ev_n10, ev_n11, ev_n12, ev_n13, ev_n14, ev_n15, ev_n16, ev_n17, ev_n59, ev_n60, ev_n61, ev_n62, ev_n63, ev_n64, ev_n65, ev_n66, ev_n67, ev_n68, ev_n69, ev_n70, ev_n71, ev_n72, ev_n73, ev_n74, ev_n75, ev_n76, ev_n77, ev_n78, ev_n79, ev_n80, ev_k18, ev_k34, ev_k40, ev_n26, ev_n26b, ev_n46, ev_n46b, ev_n52b, ev_uq, ev_us, ev_uj, ev_lq, ev_ls, ev_lj, ev_urq, ev_urs, ev_ulq, ev_uls, nI_add, pk_sub, pk_mul, if_true, if_false, ite_true, ite_false, decide_true, decide_false, eq_self_iff_true, Nat.reduceEqDiff, Nat.reduceLeDiff, Nat.reduceLT, Nat.reduceAdd, Nat.reduceMul, Nat.reduceSub, Nat.reduceDiv, Nat.reduceMod, ↓reduceIte]
    rfl
  · simp -implicitDefEqProofs (disch := omega) only [m_X6_hooking, e0, m_X6_hooking_24, m_X6_hooking_18, B0, H0, H1, ev_b, ev_b2, ev_g, ev_gF, ev_on, ev_os, ev_cl, ev_in, ev_in6, ev_eq0, ev_lt0, ev_0le, ev_le0, ev_0lt, ev_lt, ev_le, ev_eq, ev_m1a, ev_m1b, ev_m1c, ev_m1d, ev_m1e, ev_n1, ev_n4, ev_n8, ev_n9, ev_n10, ev_n11, ev_n12, ev_n13, ev_n14, ev_n15, ev_n16, ev_n17, ev_n59, ev_n60, ev_n61, ev_n62, ev_n63, ev_n64, ev_n65, ev_n66, ev_n67, ev_n68, ev_n69, ev_n70, ev_n71, ev_n72, ev_n73, ev_n74, ev_n75, ev_n76, ev_n77, ev_n78, ev_n79, ev_n80, ev_k18, ev_k34, ev_k40, ev_n26, ev_n26b, ev_n46, ev_n46b, ev_n52b, ev_uq, ev_us, ev_uj, ev_lq, ev_ls, ev_lj, ev_urq, ev_urs, ev_ulq, ev_uls, nI_add, pk_sub, pk_mul, if_true, if_false, ite_true, ite_false, decide_true, decide_false, eq_self_iff_true, Nat.reduceEqDiff, Nat.reduceLeDiff, Nat.reduceLT, Nat.reduceAdd, Nat.reduceMul, Nat.reduceSub, Nat.reduceDiv, Nat.reduceMod, ↓reduceIte]
    rfl
  · simp -implicitDefEqProofs (disch := omega) only [m_X6_hooking, e0, m_X6_hooking_24, m_X6_hooking_18, B0, H0, H1, ev_b, ev_b2, ev_g, ev_gF, ev_on, ev_os, ev_cl, ev_in, ev_in6, ev_eq0, ev_lt0, ev_0le, ev_le0, ev_0lt, ev_lt, ev_le, ev_eq, ev_m1a, ev_m1b, ev_m1c, ev_m1d, ev_m1e, ev_n1, ev_n4, ev_n8, ev_n9, ev_n10, ev_n11, ev_n12, ev_n13, ev_n14, ev_n15, ev_n16, ev_n17, ev_n59, ev_n60, ev_n61, ev_n62, ev_n63, ev_n64, ev_n65, ev_n66, ev_n67, ev_n68, ev_n69, ev_n70, ev_n71, ev_n72, ev_n73, ev_n74, ev_n75, ev_n76, ev_n77, ev_n78, ev_n79, ev_n80, ev_k18, ev_k34, ev_k40, ev_n26, ev_n26b, ev_n46, ev_n46b, ev_n52b, ev_uq, ev_us, ev_uj, ev_lq, ev_ls, ev_lj, ev_urq, ev_urs, ev_ulq, ev_uls, nI_add, pk_sub, pk_mul, if_true, if_false, ite_true, ite_false, decide_true, decide_false, eq_self_iff_true, Nat.reduceEqDiff, Nat.reduceLeDiff, Nat.reduceLT, Nat.reduceAdd, Nat.reduceMul, Nat.reduceSub, Nat.reduceDiv, Nat.reduceMod, ↓reduceIte]
    rfl
  · simp -implicitDefEqProofs (disch := omega) only [m_X6_hooking, e0, m_X6_hooking_24, m_X6_hooking_18, B0, H0, H1, ev_b, ev_b2, ev_g, ev_gF, ev_on, ev_os, ev_cl, ev_in, ev_in6, ev_eq0, ev_lt0, ev_0le, ev_le0, ev_0lt, ev_lt, ev_le, ev_eq, ev_m1a, ev_m1b, ev_m1c, ev_m1d, ev_m1e, ev_n1, ev_n4, ev_n8, ev_n9, ev_n10, ev_n11, ev_n12, ev_n13, ev_n14, ev_n15, ev_n16, ev_n17, ev_n59, ev_n60, ev_n61, ev_n62, ev_n63, ev_n64, ev_n65, ev_n66, ev_n67, ev_n68, ev_n69, ev_n70, ev_n71, ev_n72, ev_n73, ev_n74, ev_n75, ev_n76, ev_n77, ev_n78, ev_n79, ev_n80, ev_k18, ev_k34, ev_k40, ev_n26, ev_n26b, ev_n46, ev_n46b, ev_n52b, ev_uq, ev_us, ev_uj, ev_lq, ev_ls, ev_lj, ev_urq, ev_urs, ev_ulq, ev_uls, nI_add, pk_sub, pk_mul, if_true, if_false, ite_true, ite_false, decide_true, decide_false, eq_self_iff_true, Nat.reduceEqDiff, Nat.reduceLeDiff, Nat.reduceLT, Nat.reduceAdd, Nat.reduceMul, Nat.reduceSub, Nat.reduceDiv, Nat.reduceMod, ↓reduceIte]
    rfl
theorem hL_n (kd : Nat) : (hL kd).length ≤ 10 := by
  have h := tL_n kd
  have g := gL_n kd
  unfold hL
  split
  · decide
  · decide
  · decide
  · rw [List.length_cons, List.length_append]
    omega
/-- the band's number, kept -/
theorem act_inv {n : Nat} {F : Nat → Nat → Nat} {μ : fm_I} {ν : fm_L} (h : pa_In n F μ ν) (L : List Nat) (hL : L.length ≤ 20) : Inv (tMl L 0 (fm_u (tXl L 0 (fm_u μ 7 1 (nI 0))) 58 32 (nI 0))) ν := by
  obtain ⟨h1, h2, h3, h4, h5, h6, h7, h8, h9⟩ := h
  have hn := h1.1
  have K : ∀ q, q ≠ 58 → q ≠ 80 → q ≠ 7 → q ≠ 8 → tMl L 0 (fm_u (tXl L 0 (fm_u μ 7 1 (nI 0))) 58 32 (nI 0)) q = μ q := fun q a b c d => by rw [tMl_q _ _ _ _ a b, ev_uq a, tXl_q _ _ _ _ c d, ev_uq c]
  have K58 : ∀ j, j ≠ 32 → tMl L 0 (fm_u (tXl L 0 (fm_u μ 7 1 (nI 0))) 58 32 (nI 0)) 58 j = μ 58 j := fun j hj => by rw [tMl_j _ _ _ _ hj, ev_uj hj, tXl_q _ _ _ _ (by decide) (by decide), ev_uq (by decide)]
  refine ⟨n, F, ⟨hn, ?_, ?_⟩, fun b hb => ?_, fun b hb => ?_, ?_, fun k hk => ?_, fun s hs => ?_, ⟨L.length, by omega, ?_, ?_, fun i hi hr => ?_⟩, ?_, fun i hi => ?_⟩
  · rw [K 0 (by decide) (by decide) (by decide) (by decide)]; exact h1.2.1
  · rw [K58 0 (by decide)]; exact h1.2.2
  · obtain ⟨a1, a2, a3⟩ := h2 b hb
    exact ⟨a1, kp_X a2 (K _ (by omega) (by omega) (by omega) (by omega)) (K _ (by omega) (by omega) (by omega) (by omega)), kp_M a3 (fun q q1 q2 => K q (by omega) (by omega) (by omega) (by omega))⟩
  · rw [K _ (by omega) (by omega) (by omega) (by omega)]; exact h3 b hb
  · rw [K 0 (by decide) (by decide) (by decide) (by decide), K58 1 (by decide), K58 2 (by decide), K58 3 (by decide)]; exact h4
  · rw [K 59 (by decide) (by decide) (by decide) (by decide), K 4 (by decide) (by decide) (by decide) (by decide)]; exact h5 k hk
  · exact kp_S (h6 s hs) (Nat.le_refl n) (fun q q1 q2 => K q (by omega) (by omega) (by omega) (by omega)) (K _ (by omega) (by omega) (by omega) (by omega)) rfl rfl
  · rw [tMl_q _ _ _ _ (by decide) (by decide), ev_uq (by decide), tXl_n L 0 _ (by rw [ev_us]), Nat.zero_add]
  · rw [tMl_n L 0 _ (by rw [ev_us]), Nat.zero_add]
  · rw [tMl_b, if_pos (by omega), tMl_q _ _ _ _ (by decide) (by decide), ev_uq (by decide), tXl_b, if_pos (by omega)]
  · exact kp_I h8 (fun k _ _ => by rw [K 0 (by decide) (by decide) (by decide) (by decide)]) (K58 33 (by decide)) (K 75 (by decide) (by decide) (by decide) (by decide)) (fun b hb => ⟨K _ (by omega) (by omega) (by omega) (by omega), K _ (by omega) (by omega) (by omega) (by omega)⟩)
  · rw [K 72 (by decide) (by decide) (by decide) (by decide)]; exact h9 i hi
theorem op_act {μ : fm_I} {ν : fm_L} (h : Inv μ ν) (a0 : Int32) (a1 : Int32) (a2 : Int32) : pa_op (m_X5_act a0 a1 a2 μ ν) (fun μ ν => m_X6_act a0 a1 a2 μ ν) := by
  obtain ⟨n, F, hI⟩ := id h
  have hn := hI.1.1
  have e7 : fm_u μ 7 1 (nI 0) 0 7 = nI n := by rw [ev_uq (by decide)]; exact hI.1.2.1
  have e58 : ∀ L, fm_u (tXl L 0 (fm_u μ 7 1 (nI 0))) 58 32 (nI 0) 58 0 = nI n := fun L => by rw [ev_uj (by decide), tXl_q _ _ _ _ (by decide) (by decide), ev_uq (by decide)]; exact hI.1.2.2
  rcases bd_cases a0 hn with h0 | ⟨b, hb, rfl⟩
  · refine op_mk (r := nI 0) (μ1 := tXl [] 0 (fm_u μ 7 1 (nI 0))) (ν1 := ν) ?_ ?_ (act_inv hI [] (by decide))
    · rw [m_X5_act, ba_out h0 e7]; rfl
    · show m_X6_act a0 a1 a2 _ _ = _
      rw [m_X6_act, bd_outM h0 (e58 [])]; rfl
  rcases i_cases a1 2 (by decide) with h0 | ⟨b1, b2, b3, b4⟩ | ⟨k, hk, rfl⟩
  · refine op_mk (r := nI 0) (μ1 := tXl [] 0 (fm_u μ 7 1 (nI 0))) (ν1 := ν) ?_ ?_ (act_inv hI [] (by decide))
    · rw [m_X5_act, ba_in hn hb e7, ev_b, ev_os, m_X5_isAct, if_pos h0]; rfl
    · show m_X6_act (nI b) a1 a2 _ _ = _
      rw [m_X6_act, bd_inM hn hb (e58 []), ev_b, if_neg (by decide), if_pos h0]; rfl
  · refine op_mk (r := nI 0) (μ1 := tXl [] 0 (fm_u μ 7 1 (nI 0))) (ν1 := ν) ?_ ?_ (act_inv hI [] (by decide))
    · rw [m_X5_act, ba_in hn hb e7, ev_b, ev_os, m_X5_isAct, if_neg (of_eq_false b1), if_pos (of_eq_true b4)]; rfl
    · show m_X6_act (nI b) a1 a2 _ _ = _
      rw [m_X6_act, bd_inM hn hb (e58 []), ev_b, if_neg (by decide), if_neg (of_eq_false b1), if_neg (of_eq_false b3)]; rfl
  obtain ⟨d1, d2, d3⟩ := hI.2.1 b hb
  obtain ⟨c0, c1, c2, c3, c4, c5, c6⟩ := id d1
  obtain ⟨⟨g, g1, g2⟩, ⟨t, t1, t2⟩, ⟨w, w1, w2⟩⟩ := run_X (b := b) (kd := F b 0) (a := F b 4) (by omega) c0
  have x0 : fm_u μ 7 1 (nI 0) (34 + b) 0 = nI b := by rw [ev_uq (by omega)]; exact hI.2.2.1 b (by omega)
  have x2 : fm_u μ 7 1 (nI 0) (34 + b) 2 = nI (F b 0) := by rw [ev_uq (by omega)]; exact d2.1
  have x6 : fm_u μ 7 1 (nI 0) (34 + b) 6 = nI (F b 4) := by rw [ev_uq (by omega)]; exact d2.2.2.2.2.1
  have m0 : ∀ L, fm_u (tXl L 0 (fm_u μ 7 1 (nI 0))) 58 32 (nI 0) 60 b = nI (F b 0) := fun L => by rw [ev_uq (by decide), tXl_q _ _ _ _ (by decide) (by decide), ev_uq (by decide)]; exact d3.1
  have m4 : ∀ L, fm_u (tXl L 0 (fm_u μ 7 1 (nI 0))) 58 32 (nI 0) 64 b = nI (F b 4) := fun L => by rw [ev_uq (by decide), tXl_q _ _ _ _ (by decide) (by decide), ev_uq (by decide)]; exact d3.2.2.2.2.1
  have X0 : m_X5_act (nI b) (nI k) a2 μ ν = (m_X0_run (34 + b) (nI k) a2 (fm_u μ 7 1 (nI 0)) ν).bind (fun r37 => some ((r37.1, r37.2.1, r37.2.2))) := by
    rw [m_X5_act, ba_in hn hb e7, ev_b, ev_os, m_X5_isAct, if_neg (nI_pos (by omega)), if_neg (by rw [nI_ltI (by omega) (by omega)]; omega), ev_b, if_neg (by decide), ev_k34 (by omega), ev_g]
  have lg := gL_n (F b 0)
  have lt := tL_n (F b 0)
  have lh := hL_n (F b 0)
  rcases (by omega : k = 0 ∨ k = 1 ∨ k = 2) with rfl | rfl | rfl
  · refine op_mk (r := gF (F b 0) b (F b 4) a2) (μ1 := tXl (gL (F b 0)) 0 (fm_u μ 7 1 (nI 0))) (ν1 := ν) ?_ ?_ (act_inv hI (gL (F b 0)) (by omega))
    · rw [X0, m_X0_run, ev_k34 (by omega), ev_g, bodyOf_X (by omega) c0 0 (by decide) ν x2, ev_b, g1, g2 12 0 0 a2 _ ν (by decide) (by decide) (by omega) (by rw [ev_us]) x0 x2 x6, ev_b, ev_b]
    · show m_X6_act (nI b) (nI 0) a2 _ _ = _
      rw [m_X6_act, bd_inM hn hb (e58 _), ev_b, if_neg (by decide), if_neg (by decide), if_pos (by decide), if_pos (by decide), going_M (r := 0) (by omega) c0 (by decide) a2 ν (by rw [ev_us]) (m0 _) (m4 _), ev_b]
  · refine op_mk (r := tF (F b 0) b (F b 4) a2) (μ1 := tXl (tL (F b 0)) 0 (fm_u μ 7 1 (nI 0))) (ν1 := ν) ?_ ?_ (act_inv hI (tL (F b 0)) (by omega))
    · rw [X0, m_X0_run, ev_k34 (by omega), ev_g, bodyOf_X (by omega) c0 1 (by decide) ν x2, ev_b, t1, t2 12 0 0 a2 _ ν (by decide) (by decide) (by omega) (by rw [ev_us]) x0 x2 x6, ev_b, ev_b]
    · show m_X6_act (nI b) (nI 1) a2 _ _ = _
      rw [m_X6_act, bd_inM hn hb (e58 _), ev_b, if_neg (by decide), if_neg (by decide), if_pos (by decide), if_neg (by decide), if_pos (by decide), turning_M (r := 0) (by omega) c0 (by decide) a2 ν (by rw [ev_us]) (m0 _) (m4 _), ev_b]
  · refine op_mk (r := hF (F b 0) b (F b 4) a2) (μ1 := tXl (hL (F b 0)) 0 (fm_u μ 7 1 (nI 0))) (ν1 := ν) ?_ ?_ (act_inv hI (hL (F b 0)) (by omega))
    · rw [X0, m_X0_run, ev_k34 (by omega), ev_g, bodyOf_X (by omega) c0 2 (by decide) ν x2, ev_b, w1, w2 12 0 0 a2 _ ν (by decide) (by decide) (by omega) (by rw [ev_us]) x0 x2 x6, ev_b, ev_b]
    · show m_X6_act (nI b) (nI 2) a2 _ _ = _
      rw [m_X6_act, bd_inM hn hb (e58 _), ev_b, if_neg (by decide), if_neg (by decide), if_pos (by decide), if_neg (by decide), if_neg (by decide), hooking_M (r := 0) (by omega) c0 (by decide) a2 ν (by rw [ev_us]) (m0 _) (m4 _), ev_b]
