/-! THE LAW OF ONE BAND -/
theorem odd_X (a : Nat) (ha : a < 2147483648) (μ : fm_I) (ν : fm_L) : m_X5_isOdd (nI a) μ ν = some (nI (a % 2)) := by
  rw [m_X5_isOdd, pk_andN (by omega) 1 (by decide), Nat.pow_one]
  rcases (by omega : a % 2 = 0 ∨ a % 2 = 1) with e | e
  · rw [e, if_neg (by decide)]
  · rw [e, if_pos (by decide)]
def lwP (a b : Nat) : Nat := if a % 2 = 1 then (b + 1) / 2 else b
def lwS (a b : Nat) : Nat := if a % 2 = 1 ∧ 1 < b then 2 else 1
def lwT (a b : Nat) : Nat := a * lwS a b + 2 * (lwS a b - 1)
theorem lwP_X (a b : Nat) (ha : a < 2147483647) (hb : b < 2147483647) (μ : fm_I) (ν : fm_L) : m_X5_lawPieces (nI a) (nI b) μ ν = some (lN (lwP a b)) := by
  rw [m_X5_lawPieces, odd_X a (by omega), ev_b, lwP]
  rcases (by omega : a % 2 = 0 ∨ a % 2 = 1) with e | e
  · rw [e, if_pos (by decide), if_neg (by decide), nI_l (by omega)]
  · rw [e, if_neg (by decide), if_pos rfl, nI_l (by omega), lN_add, pk_lDiv (by omega) (by decide) (by decide)]
theorem lwS_X (a b : Nat) (ha : a < 2147483647) (hb : b < 2147483647) (μ : fm_I) (ν : fm_L) : m_X5_lawSize (nI a) (nI b) μ ν = some (nI (lwS a b)) := by
  rw [m_X5_lawSize, odd_X a (by omega), ev_b, lwS]
  rcases (by omega : a % 2 = 0 ∨ a % 2 = 1) with e | e
  · rw [e, if_pos (by decide), if_neg (by omega)]
  · rw [e, if_neg (by decide)]
    simp -implicitDefEqProofs (disch := omega) only [ev_le, ev_eq]
    by_cases h : b ≤ 1
    · rw [if_pos h, if_neg (by omega)]
    · rw [if_neg h, if_pos ⟨by decide, by omega⟩]
theorem lwT_X (a k : Nat) (ha : a < 2147483647) (h1 : 1 ≤ k) (hk : k ≤ 2) (μ : fm_I) (ν : fm_L) : m_X5_turnsOfSize (nI a) (nI k) μ ν = some (lN (a * k + 2 * (k - 1))) := by
  rw [m_X5_turnsOfSize, pk_sub h1, nI_l (by omega), nI_l (by omega), nI_l (by omega), lN_mul, lN_mul, lN_add]
theorem lw_big {v : Int32} (h : (nI 1000000000 < v) = True) : lN 1000000000 < v.toInt64 ∧ ¬ v.toInt64 ≤ lN 1000000000 := by
  have h2 := of_eq_true h
  rw [Int32.lt_iff_toInt_lt, nI_toInt (by decide)] at h2
  constructor
  · rw [Int64.lt_iff_toInt_lt, Int32.toInt_toInt64, lN_toInt (by decide)]
    exact h2
  · intro c
    rw [Int64.le_iff_toInt_le, Int32.toInt_toInt64, lN_toInt (by decide)] at c
    omega
theorem i_lt1 {v : Int32} (h0 : v < 0) : v < nI 1 := by
  rw [Int32.lt_iff_toInt_lt] at h0 ⊢
  rw [nI_toInt (by decide)]
  rw [show (0 : Int32).toInt = 0 by decide] at h0
  omega
theorem op_law {μ : fm_I} {ν : fm_L} (h : Inv μ ν) (a0 : Int32) (a1 : Int32) (a2 : Int32) : pa_op (m_X5_law a0 a1 a2 μ ν) (fun μ ν => m_X6_law a0 a1 a2 μ ν) := by
  rcases i_cases a2 3 (by decide) with h0 | ⟨b1, b2, b3, b4⟩ | ⟨c, hc, rfl⟩
  · refine op_rf h 5 (by decide) (r := (-5 : Int32).toInt64) ?_ ?_
    · simp -implicitDefEqProofs (disch := omega) only [m_X5_law, h0, ev_b, ev_b2, ev_g, ev_gF, ev_on, ev_os, ev_cl, ev_in, ev_in6, ev_eq0, ev_lt0, ev_0le, ev_le0, ev_0lt, ev_lt, ev_le, ev_eq, ev_m1a, ev_m1b, ev_m1c, ev_m1d, ev_m1e, ev_n1, ev_n4, ev_n8, ev_n9, ev_n10, ev_n11, ev_n12, ev_n13, ev_n14, ev_n15, ev_n16, ev_n17, ev_n59, ev_n60, ev_n61, ev_n62, ev_n63, ev_n64, ev_n65, ev_n66, ev_n67, ev_n68, ev_n69, ev_n70, ev_n71, ev_n72, ev_n73, ev_n74, ev_n75, ev_n76, ev_n77, ev_n78, ev_n79, ev_n80, ev_k18, ev_k34, ev_k40, ev_n26, ev_n26b, ev_n46, ev_n46b, ev_n52b, ev_uq, ev_us, ev_uj, ev_lq, ev_ls, ev_lj, ev_urq, ev_urs, ev_ulq, ev_uls, nI_add, pk_sub, pk_mul, if_true, if_false, ite_true, ite_false, decide_true, decide_false, eq_self_iff_true, Nat.reduceEqDiff, Nat.reduceLeDiff, Nat.reduceLT, Nat.reduceAdd, Nat.reduceMul, Nat.reduceSub, Nat.reduceDiv, Nat.reduceMod, ↓reduceIte, rX5]
    · show m_X6_law a0 a1 a2 _ ν = _
      simp -implicitDefEqProofs (disch := omega) only [m_X6_law, m_X6_law_9, h0, ev_b, ev_b2, ev_g, ev_gF, ev_on, ev_os, ev_cl, ev_in, ev_in6, ev_eq0, ev_lt0, ev_0le, ev_le0, ev_0lt, ev_lt, ev_le, ev_eq, ev_m1a, ev_m1b, ev_m1c, ev_m1d, ev_m1e, ev_n1, ev_n4, ev_n8, ev_n9, ev_n10, ev_n11, ev_n12, ev_n13, ev_n14, ev_n15, ev_n16, ev_n17, ev_n59, ev_n60, ev_n61, ev_n62, ev_n63, ev_n64, ev_n65, ev_n66, ev_n67, ev_n68, ev_n69, ev_n70, ev_n71, ev_n72, ev_n73, ev_n74, ev_n75, ev_n76, ev_n77, ev_n78, ev_n79, ev_n80, ev_k18, ev_k34, ev_k40, ev_n26, ev_n26b, ev_n46, ev_n46b, ev_n52b, ev_uq, ev_us, ev_uj, ev_lq, ev_ls, ev_lj, ev_urq, ev_urs, ev_ulq, ev_uls, nI_add, pk_sub, pk_mul, if_true, if_false, ite_true, ite_false, decide_true, decide_false, eq_self_iff_true, Nat.reduceEqDiff, Nat.reduceLeDiff, Nat.reduceLT, Nat.reduceAdd, Nat.reduceMul, Nat.reduceSub, Nat.reduceDiv, Nat.reduceMod, ↓reduceIte, rM5]
  · refine op_rf h 5 (by decide) (r := (-5 : Int32).toInt64) ?_ ?_
    · simp -implicitDefEqProofs (disch := omega) only [m_X5_law, b1, b3, ev_b, ev_b2, ev_g, ev_gF, ev_on, ev_os, ev_cl, ev_in, ev_in6, ev_eq0, ev_lt0, ev_0le, ev_le0, ev_0lt, ev_lt, ev_le, ev_eq, ev_m1a, ev_m1b, ev_m1c, ev_m1d, ev_m1e, ev_n1, ev_n4, ev_n8, ev_n9, ev_n10, ev_n11, ev_n12, ev_n13, ev_n14, ev_n15, ev_n16, ev_n17, ev_n59, ev_n60, ev_n61, ev_n62, ev_n63, ev_n64, ev_n65, ev_n66, ev_n67, ev_n68, ev_n69, ev_n70, ev_n71, ev_n72, ev_n73, ev_n74, ev_n75, ev_n76, ev_n77, ev_n78, ev_n79, ev_n80, ev_k18, ev_k34, ev_k40, ev_n26, ev_n26b, ev_n46, ev_n46b, ev_n52b, ev_uq, ev_us, ev_uj, ev_lq, ev_ls, ev_lj, ev_urq, ev_urs, ev_ulq, ev_uls, nI_add, pk_sub, pk_mul, if_true, if_false, ite_true, ite_false, decide_true, decide_false, eq_self_iff_true, Nat.reduceEqDiff, Nat.reduceLeDiff, Nat.reduceLT, Nat.reduceAdd, Nat.reduceMul, Nat.reduceSub, Nat.reduceDiv, Nat.reduceMod, ↓reduceIte, rX5]
    · show m_X6_law a0 a1 a2 _ ν = _
      simp -implicitDefEqProofs (disch := omega) only [m_X6_law, m_X6_law_9, b1, b3, ev_b, ev_b2, ev_g, ev_gF, ev_on, ev_os, ev_cl, ev_in, ev_in6, ev_eq0, ev_lt0, ev_0le, ev_le0, ev_0lt, ev_lt, ev_le, ev_eq, ev_m1a, ev_m1b, ev_m1c, ev_m1d, ev_m1e, ev_n1, ev_n4, ev_n8, ev_n9, ev_n10, ev_n11, ev_n12, ev_n13, ev_n14, ev_n15, ev_n16, ev_n17, ev_n59, ev_n60, ev_n61, ev_n62, ev_n63, ev_n64, ev_n65, ev_n66, ev_n67, ev_n68, ev_n69, ev_n70, ev_n71, ev_n72, ev_n73, ev_n74, ev_n75, ev_n76, ev_n77, ev_n78, ev_n79, ev_n80, ev_k18, ev_k34, ev_k40, ev_n26, ev_n26b, ev_n46, ev_n46b, ev_n52b, ev_uq, ev_us, ev_uj, ev_lq, ev_ls, ev_lj, ev_urq, ev_urs, ev_ulq, ev_uls, nI_add, pk_sub, pk_mul, if_true, if_false, ite_true, ite_false, decide_true, decide_false, eq_self_iff_true, Nat.reduceEqDiff, Nat.reduceLeDiff, Nat.reduceLT, Nat.reduceAdd, Nat.reduceMul, Nat.reduceSub, Nat.reduceDiv, Nat.reduceMod, ↓reduceIte, rM5]
  have hc' : (c ≤ 3) = True := eq_true hc
  rcases i_cases a0 1000000000 (by decide) with h0 | ⟨b1, b2, b3, b4⟩ | ⟨a, ha, rfl⟩
  · refine op_rf h 6 (by decide) (r := (-6 : Int32).toInt64) ?_ ?_
    · simp -implicitDefEqProofs (disch := omega) only [m_X5_law, hc', h0, ev_b, ev_b2, ev_g, ev_gF, ev_on, ev_os, ev_cl, ev_in, ev_in6, ev_eq0, ev_lt0, ev_0le, ev_le0, ev_0lt, ev_lt, ev_le, ev_eq, ev_m1a, ev_m1b, ev_m1c, ev_m1d, ev_m1e, ev_n1, ev_n4, ev_n8, ev_n9, ev_n10, ev_n11, ev_n12, ev_n13, ev_n14, ev_n15, ev_n16, ev_n17, ev_n59, ev_n60, ev_n61, ev_n62, ev_n63, ev_n64, ev_n65, ev_n66, ev_n67, ev_n68, ev_n69, ev_n70, ev_n71, ev_n72, ev_n73, ev_n74, ev_n75, ev_n76, ev_n77, ev_n78, ev_n79, ev_n80, ev_k18, ev_k34, ev_k40, ev_n26, ev_n26b, ev_n46, ev_n46b, ev_n52b, ev_uq, ev_us, ev_uj, ev_lq, ev_ls, ev_lj, ev_urq, ev_urs, ev_ulq, ev_uls, nI_add, pk_sub, pk_mul, if_true, if_false, ite_true, ite_false, decide_true, decide_false, eq_self_iff_true, Nat.reduceEqDiff, Nat.reduceLeDiff, Nat.reduceLT, Nat.reduceAdd, Nat.reduceMul, Nat.reduceSub, Nat.reduceDiv, Nat.reduceMod, ↓reduceIte, rX6]
    · show m_X6_law a0 a1 (nI c) _ ν = _
      simp -implicitDefEqProofs (disch := omega) only [m_X6_law, m_X6_law_38, hc', h0, ev_b, ev_b2, ev_g, ev_gF, ev_on, ev_os, ev_cl, ev_in, ev_in6, ev_eq0, ev_lt0, ev_0le, ev_le0, ev_0lt, ev_lt, ev_le, ev_eq, ev_m1a, ev_m1b, ev_m1c, ev_m1d, ev_m1e, ev_n1, ev_n4, ev_n8, ev_n9, ev_n10, ev_n11, ev_n12, ev_n13, ev_n14, ev_n15, ev_n16, ev_n17, ev_n59, ev_n60, ev_n61, ev_n62, ev_n63, ev_n64, ev_n65, ev_n66, ev_n67, ev_n68, ev_n69, ev_n70, ev_n71, ev_n72, ev_n73, ev_n74, ev_n75, ev_n76, ev_n77, ev_n78, ev_n79, ev_n80, ev_k18, ev_k34, ev_k40, ev_n26, ev_n26b, ev_n46, ev_n46b, ev_n52b, ev_uq, ev_us, ev_uj, ev_lq, ev_ls, ev_lj, ev_urq, ev_urs, ev_ulq, ev_uls, nI_add, pk_sub, pk_mul, if_true, if_false, ite_true, ite_false, decide_true, decide_false, eq_self_iff_true, Nat.reduceEqDiff, Nat.reduceLeDiff, Nat.reduceLT, Nat.reduceAdd, Nat.reduceMul, Nat.reduceSub, Nat.reduceDiv, Nat.reduceMod, ↓reduceIte, rM6]
  · refine op_rf h 6 (by decide) (r := (-6 : Int32).toInt64) ?_ ?_
    · simp -implicitDefEqProofs (disch := omega) only [m_X5_law, hc', b1, lg_cmp_gt, lw_big b4, ev_b, ev_b2, ev_g, ev_gF, ev_on, ev_os, ev_cl, ev_in, ev_in6, ev_eq0, ev_lt0, ev_0le, ev_le0, ev_0lt, ev_lt, ev_le, ev_eq, ev_m1a, ev_m1b, ev_m1c, ev_m1d, ev_m1e, ev_n1, ev_n4, ev_n8, ev_n9, ev_n10, ev_n11, ev_n12, ev_n13, ev_n14, ev_n15, ev_n16, ev_n17, ev_n59, ev_n60, ev_n61, ev_n62, ev_n63, ev_n64, ev_n65, ev_n66, ev_n67, ev_n68, ev_n69, ev_n70, ev_n71, ev_n72, ev_n73, ev_n74, ev_n75, ev_n76, ev_n77, ev_n78, ev_n79, ev_n80, ev_k18, ev_k34, ev_k40, ev_n26, ev_n26b, ev_n46, ev_n46b, ev_n52b, ev_uq, ev_us, ev_uj, ev_lq, ev_ls, ev_lj, ev_urq, ev_urs, ev_ulq, ev_uls, nI_add, pk_sub, pk_mul, if_true, if_false, ite_true, ite_false, decide_true, decide_false, eq_self_iff_true, Nat.reduceEqDiff, Nat.reduceLeDiff, Nat.reduceLT, Nat.reduceAdd, Nat.reduceMul, Nat.reduceSub, Nat.reduceDiv, Nat.reduceMod, ↓reduceIte, rX6]
    · show m_X6_law a0 a1 (nI c) _ ν = _
      simp -implicitDefEqProofs (disch := omega) only [m_X6_law, m_X6_law_38, hc', b1, b4, ev_b, ev_b2, ev_g, ev_gF, ev_on, ev_os, ev_cl, ev_in, ev_in6, ev_eq0, ev_lt0, ev_0le, ev_le0, ev_0lt, ev_lt, ev_le, ev_eq, ev_m1a, ev_m1b, ev_m1c, ev_m1d, ev_m1e, ev_n1, ev_n4, ev_n8, ev_n9, ev_n10, ev_n11, ev_n12, ev_n13, ev_n14, ev_n15, ev_n16, ev_n17, ev_n59, ev_n60, ev_n61, ev_n62, ev_n63, ev_n64, ev_n65, ev_n66, ev_n67, ev_n68, ev_n69, ev_n70, ev_n71, ev_n72, ev_n73, ev_n74, ev_n75, ev_n76, ev_n77, ev_n78, ev_n79, ev_n80, ev_k18, ev_k34, ev_k40, ev_n26, ev_n26b, ev_n46, ev_n46b, ev_n52b, ev_uq, ev_us, ev_uj, ev_lq, ev_ls, ev_lj, ev_urq, ev_urs, ev_ulq, ev_uls, nI_add, pk_sub, pk_mul, if_true, if_false, ite_true, ite_false, decide_true, decide_false, eq_self_iff_true, Nat.reduceEqDiff, Nat.reduceLeDiff, Nat.reduceLT, Nat.reduceAdd, Nat.reduceMul, Nat.reduceSub, Nat.reduceDiv, Nat.reduceMod, ↓reduceIte, rM6]
  have k1 : ¬ 0 < lg_cmp (nI a).toInt64 (lN 1000000000) := by
    rw [lg_cmp_gt, nI_l (by omega), lN_lt (by omega) (by omega)]
    omega
  have k2 : (1000000000 < a) = False := eq_false (by omega)
  by_cases h1 : a1 < nI 1
  · refine op_rf h 6 (by decide) (r := (-6 : Int32).toInt64) ?_ ?_
    · simp -implicitDefEqProofs (disch := omega) only [m_X5_law, hc', k1, h1, ev_b, ev_b2, ev_g, ev_gF, ev_on, ev_os, ev_cl, ev_in, ev_in6, ev_eq0, ev_lt0, ev_0le, ev_le0, ev_0lt, ev_lt, ev_le, ev_eq, ev_m1a, ev_m1b, ev_m1c, ev_m1d, ev_m1e, ev_n1, ev_n4, ev_n8, ev_n9, ev_n10, ev_n11, ev_n12, ev_n13, ev_n14, ev_n15, ev_n16, ev_n17, ev_n59, ev_n60, ev_n61, ev_n62, ev_n63, ev_n64, ev_n65, ev_n66, ev_n67, ev_n68, ev_n69, ev_n70, ev_n71, ev_n72, ev_n73, ev_n74, ev_n75, ev_n76, ev_n77, ev_n78, ev_n79, ev_n80, ev_k18, ev_k34, ev_k40, ev_n26, ev_n26b, ev_n46, ev_n46b, ev_n52b, ev_uq, ev_us, ev_uj, ev_lq, ev_ls, ev_lj, ev_urq, ev_urs, ev_ulq, ev_uls, nI_add, pk_sub, pk_mul, if_true, if_false, ite_true, ite_false, decide_true, decide_false, eq_self_iff_true, Nat.reduceEqDiff, Nat.reduceLeDiff, Nat.reduceLT, Nat.reduceAdd, Nat.reduceMul, Nat.reduceSub, Nat.reduceDiv, Nat.reduceMod, ↓reduceIte, rX6]
    · show m_X6_law (nI a) a1 (nI c) _ ν = _
      simp -implicitDefEqProofs (disch := omega) only [m_X6_law, m_X6_law_38, hc', k2, h1, ev_b, ev_b2, ev_g, ev_gF, ev_on, ev_os, ev_cl, ev_in, ev_in6, ev_eq0, ev_lt0, ev_0le, ev_le0, ev_0lt, ev_lt, ev_le, ev_eq, ev_m1a, ev_m1b, ev_m1c, ev_m1d, ev_m1e, ev_n1, ev_n4, ev_n8, ev_n9, ev_n10, ev_n11, ev_n12, ev_n13, ev_n14, ev_n15, ev_n16, ev_n17, ev_n59, ev_n60, ev_n61, ev_n62, ev_n63, ev_n64, ev_n65, ev_n66, ev_n67, ev_n68, ev_n69, ev_n70, ev_n71, ev_n72, ev_n73, ev_n74, ev_n75, ev_n76, ev_n77, ev_n78, ev_n79, ev_n80, ev_k18, ev_k34, ev_k40, ev_n26, ev_n26b, ev_n46, ev_n46b, ev_n52b, ev_uq, ev_us, ev_uj, ev_lq, ev_ls, ev_lj, ev_urq, ev_urs, ev_ulq, ev_uls, nI_add, pk_sub, pk_mul, if_true, if_false, ite_true, ite_false, decide_true, decide_false, eq_self_iff_true, Nat.reduceEqDiff, Nat.reduceLeDiff, Nat.reduceLT, Nat.reduceAdd, Nat.reduceMul, Nat.reduceSub, Nat.reduceDiv, Nat.reduceMod, ↓reduceIte, rM6]
  rcases i_cases a1 1000000000 (by decide) with h0 | ⟨b1, b2, b3, b4⟩ | ⟨b, hb, rfl⟩
  · exact absurd (i_lt1 h0) h1
  · refine op_rf h 6 (by decide) (r := (-6 : Int32).toInt64) ?_ ?_
    · simp -implicitDefEqProofs (disch := omega) only [m_X5_law, hc', k1, h1, lg_cmp_le, lw_big b4, ev_b, ev_b2, ev_g, ev_gF, ev_on, ev_os, ev_cl, ev_in, ev_in6, ev_eq0, ev_lt0, ev_0le, ev_le0, ev_0lt, ev_lt, ev_le, ev_eq, ev_m1a, ev_m1b, ev_m1c, ev_m1d, ev_m1e, ev_n1, ev_n4, ev_n8, ev_n9, ev_n10, ev_n11, ev_n12, ev_n13, ev_n14, ev_n15, ev_n16, ev_n17, ev_n59, ev_n60, ev_n61, ev_n62, ev_n63, ev_n64, ev_n65, ev_n66, ev_n67, ev_n68, ev_n69, ev_n70, ev_n71, ev_n72, ev_n73, ev_n74, ev_n75, ev_n76, ev_n77, ev_n78, ev_n79, ev_n80, ev_k18, ev_k34, ev_k40, ev_n26, ev_n26b, ev_n46, ev_n46b, ev_n52b, ev_uq, ev_us, ev_uj, ev_lq, ev_ls, ev_lj, ev_urq, ev_urs, ev_ulq, ev_uls, nI_add, pk_sub, pk_mul, if_true, if_false, ite_true, ite_false, decide_true, decide_false, eq_self_iff_true, Nat.reduceEqDiff, Nat.reduceLeDiff, Nat.reduceLT, Nat.reduceAdd, Nat.reduceMul, Nat.reduceSub, Nat.reduceDiv, Nat.reduceMod, ↓reduceIte, rX6]
    · show m_X6_law (nI a) a1 (nI c) _ ν = _
      simp -implicitDefEqProofs (disch := omega) only [m_X6_law, m_X6_law_38, hc', k2, h1, b3, ev_b, ev_b2, ev_g, ev_gF, ev_on, ev_os, ev_cl, ev_in, ev_in6, ev_eq0, ev_lt0, ev_0le, ev_le0, ev_0lt, ev_lt, ev_le, ev_eq, ev_m1a, ev_m1b, ev_m1c, ev_m1d, ev_m1e, ev_n1, ev_n4, ev_n8, ev_n9, ev_n10, ev_n11, ev_n12, ev_n13, ev_n14, ev_n15, ev_n16, ev_n17, ev_n59, ev_n60, ev_n61, ev_n62, ev_n63, ev_n64, ev_n65, ev_n66, ev_n67, ev_n68, ev_n69, ev_n70, ev_n71, ev_n72, ev_n73, ev_n74, ev_n75, ev_n76, ev_n77, ev_n78, ev_n79, ev_n80, ev_k18, ev_k34, ev_k40, ev_n26, ev_n26b, ev_n46, ev_n46b, ev_n52b, ev_uq, ev_us, ev_uj, ev_lq, ev_ls, ev_lj, ev_urq, ev_urs, ev_ulq, ev_uls, nI_add, pk_sub, pk_mul, if_true, if_false, ite_true, ite_false, decide_true, decide_false, eq_self_iff_true, Nat.reduceEqDiff, Nat.reduceLeDiff, Nat.reduceLT, Nat.reduceAdd, Nat.reduceMul, Nat.reduceSub, Nat.reduceDiv, Nat.reduceMod, ↓reduceIte, rM6]
  have k3 : lg_cmp (nI b).toInt64 (lN 1000000000) ≤ 0 := by
    rw [lg_cmp_le, nI_l (by omega), lN_le (by omega) (by omega)]
    omega
  have k4 : (b ≤ 1000000000) = True := eq_true hb
  have h1' : (b < 1) = False := by
    rw [← ev_lt (a := b) (b := 1) (by omega) (by omega)]
    exact eq_false h1
  have X : m_X5_law (nI a) (nI b) (nI c) μ ν = if c = 0 then some (lN (lwP a b), μ, ν) else if c = 1 then some (lN (lwS a b), μ, ν) else if c = 2 then some (lN (lwT a b), μ, ν) else (m_X5_lawHooks (nI a) (nI b) μ ν).bind (fun r105 => some ((r105, μ, ν))) := by
    have s1 : 1 ≤ lwS a b ∧ lwS a b ≤ 2 := by unfold lwS; split <;> omega
    simp -implicitDefEqProofs (disch := omega) only [m_X5_law, hc', k1, k3, h1', ev_b, ev_b2, ev_g, ev_gF, ev_on, ev_os, ev_cl, ev_in, ev_in6, ev_eq0, ev_lt0, ev_0le, ev_le0, ev_0lt, ev_lt, ev_le, ev_eq, ev_m1a, ev_m1b, ev_m1c, ev_m1d, ev_m1e, ev_n1, ev_n4, ev_n8, ev_n9, ev_n10, ev_n11, ev_n12, ev_n13, ev_n14, ev_n15, ev_n16, ev_n17, ev_n59, ev_n60, ev_n61, ev_n62, ev_n63, ev_n64, ev_n65, ev_n66, ev_n67, ev_n68, ev_n69, ev_n70, ev_n71, ev_n72, ev_n73, ev_n74, ev_n75, ev_n76, ev_n77, ev_n78, ev_n79, ev_n80, ev_k18, ev_k34, ev_k40, ev_n26, ev_n26b, ev_n46, ev_n46b, ev_n52b, ev_uq, ev_us, ev_uj, ev_lq, ev_ls, ev_lj, ev_urq, ev_urs, ev_ulq, ev_uls, nI_add, pk_sub, pk_mul, if_true, if_false, ite_true, ite_false, decide_true, decide_false, eq_self_iff_true, Nat.reduceEqDiff, Nat.reduceLeDiff, Nat.reduceLT, Nat.reduceAdd, Nat.reduceMul, Nat.reduceSub, Nat.reduceDiv, Nat.reduceMod, ↓reduceIte, lwP_X a b (by omega) (by omega), lwS_X a b (by omega) (by omega), lwT_X a (lwS a b) (by omega) s1.1 s1.2, lwT]
    rw [nI_l (by omega)]
  have Y : m_X6_law (nI a) (nI b) (nI c) μ ν = m_X6_law_58 (nI a) (nI b) (nI c) (nI (a % 2)) μ ν := by
    simp -implicitDefEqProofs (disch := omega) only [m_X6_law, hc', k2, h1', k4, ev_b, ev_b2, ev_g, ev_gF, ev_on, ev_os, ev_cl, ev_in, ev_in6, ev_eq0, ev_lt0, ev_0le, ev_le0, ev_0lt, ev_lt, ev_le, ev_eq, ev_m1a, ev_m1b, ev_m1c, ev_m1d, ev_m1e, ev_n1, ev_n4, ev_n8, ev_n9, ev_n10, ev_n11, ev_n12, ev_n13, ev_n14, ev_n15, ev_n16, ev_n17, ev_n59, ev_n60, ev_n61, ev_n62, ev_n63, ev_n64, ev_n65, ev_n66, ev_n67, ev_n68, ev_n69, ev_n70, ev_n71, ev_n72, ev_n73, ev_n74, ev_n75, ev_n76, ev_n77, ev_n78, ev_n79, ev_n80, ev_k18, ev_k34, ev_k40, ev_n26, ev_n26b, ev_n46, ev_n46b, ev_n52b, ev_uq, ev_us, ev_uj, ev_lq, ev_ls, ev_lj, ev_urq, ev_urs, ev_ulq, ev_uls, nI_add, pk_sub, pk_mul, if_true, if_false, ite_true, ite_false, decide_true, decide_false, eq_self_iff_true, Nat.reduceEqDiff, Nat.reduceLeDiff, Nat.reduceLT, Nat.reduceAdd, Nat.reduceMul, Nat.reduceSub, Nat.reduceDiv, Nat.reduceMod, ↓reduceIte]
    rw [pk_rem (by omega) (by decide) (by decide)]
    rcases (by omega : a % 2 = 0 ∨ a % 2 = 1) with e | e
    · rw [e, if_neg (by decide)]
    · rw [e, if_pos (by decide)]
  have b0 : 1 ≤ b := by
    have := of_eq_false h1'
    omega
  rcases (by omega : c = 0 ∨ c = 1 ∨ c = 2 ∨ c = 3) with rfl | rfl | rfl | rfl
  · refine op_mk (r := lN (lwP a b)) X ?_ h
    show m_X6_law (nI a) (nI b) (nI 0) μ ν = _
    rw [Y, m_X6_law_58, if_pos (by decide), lwP]
    rcases (by omega : a % 2 = 0 ∨ a % 2 = 1) with e | e
    · rw [e, if_pos (by decide), if_neg (by decide), nI_l (by omega)]
    · rw [e, if_neg (by decide), if_pos rfl, nI_add, pk_div (by omega) (by decide) (by decide), nI_l (by omega)]
  · refine op_mk (r := lN (lwS a b)) X ?_ h
    show m_X6_law (nI a) (nI b) (nI 1) μ ν = _
    rw [Y, m_X6_law_58, if_neg (by decide), if_pos (by decide), lwS, m_X6_law_121]
    simp -implicitDefEqProofs (disch := omega) only [ev_le, ev_eq]
    rcases (by omega : a % 2 = 0 ∨ a % 2 = 1) with e | e
    · rw [e, if_pos (by decide), if_neg (by omega)]
    · rw [e, if_neg (by decide)]
      by_cases h2 : b ≤ 1
      · rw [if_pos h2, if_neg (by omega)]
      · rw [if_neg h2, if_pos (by omega)]
  · refine op_mk (r := lN (lwT a b)) X ?_ h
    show m_X6_law (nI a) (nI b) (nI 2) μ ν = _
    rw [Y, m_X6_law_58, if_neg (by decide), if_neg (by decide), if_pos (by decide), lwT, lwS, m_X6_law_146, nI_l (by omega)]
    simp -implicitDefEqProofs (disch := omega) only [ev_le, ev_eq]
    rcases (by omega : a % 2 = 0 ∨ a % 2 = 1) with e | e
    · rw [e, if_pos (by decide), if_neg (by omega)]
      congr 2
      congr 1
      omega
    · rw [e, if_neg (by decide)]
      by_cases h2 : b ≤ 1
      · rw [if_pos h2, if_neg (by omega)]
        congr 2
        congr 1
        omega
      · rw [if_neg h2, if_pos (by omega), lN_mul, lN_add]
        congr 2
        congr 1
        omega
  · have Z : m_X5_lawHooks (nI a) (nI b) μ ν = some (if 2 ≤ lwP a b then if a % 2 = 1 then if b = 3 then lN a else lN (2 * a) else lN (a / 2) else lN 0) := by
      have pb : lwP a b ≤ 1000000000 := by unfold lwP; split <;> omega
      rw [m_X5_lawHooks, lwP_X a b (by omega) (by omega), ev_b, odd_X a (by omega), ev_b]
      by_cases h2 : 2 ≤ lwP a b
      · rw [if_pos h2, if_pos (by rw [lg_cmp_ge, lN_le (by omega) (by omega)]; exact h2)]
        rcases (by omega : a % 2 = 0 ∨ a % 2 = 1) with e | e
        · rw [e, if_pos (by decide), if_neg (by decide), pk_div (by omega) (by decide) (by decide), nI_l (by omega)]
        · rw [e, if_neg (by decide), if_pos rfl, nI_l (by omega), lN_mul]
          simp -implicitDefEqProofs (disch := omega) only [ev_le, ev_eq]
          split <;> rfl
      · rw [if_neg h2, if_neg (by rw [lg_cmp_ge, lN_le (by omega) (by omega)]; exact h2)]
    refine op_mk (r := if 2 ≤ lwP a b then if a % 2 = 1 then if b = 3 then lN a else lN (2 * a) else lN (a / 2) else lN 0) (by rw [X, if_neg (by decide), if_neg (by decide), if_neg (by decide), Z, ev_b]) ?_ h
    show m_X6_law (nI a) (nI b) (nI 3) μ ν = _
    rw [Y, m_X6_law_58, if_neg (by decide), if_neg (by decide), if_neg (by decide)]
    rcases (by omega : a % 2 = 0 ∨ a % 2 = 1) with e | e
    · rw [show lwP a b = b by rw [lwP, if_neg (by omega)], e, if_pos (by decide), pk_div (by omega) (by decide) (by decide), nI_l (by omega), if_neg (show ¬ (0 = 1) by decide)]
      simp -implicitDefEqProofs (disch := omega) only [ev_le, ev_eq]
      split <;> rfl
    · rw [show lwP a b = (b + 1) / 2 by rw [lwP, if_pos e], e, if_neg (by decide), nI_l (by omega), lN_mul, if_pos rfl]
      simp -implicitDefEqProofs (disch := omega) only [ev_le, ev_eq]
      by_cases h3 : 3 ≤ b
      · rw [if_pos h3, if_pos (show 2 ≤ (b + 1) / 2 by omega)]
        split <;> rfl
      · rw [if_neg h3, if_neg (show ¬ 2 ≤ (b + 1) / 2 by omega)]
