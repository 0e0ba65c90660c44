theorem go_S {m s : Nat} {μ μ2 : fm_I} {ν : fm_L} (hm : m < 6) (h : pa_S (m + 1) s μ ν) (hs : s < 8) (e : ∀ q, 67 ≤ q → q ≤ 69 → μ2 q s = μ q s) (e66 : μ2 66 s = if μ 66 s = nI 2 ∧ μ 69 s = nI m then nI 0 else μ 66 s) (e1 : μ2 (18 + s) 1 = μ (18 + s) 1) (e0 : μ2 (18 + s) 0 = if μ (18 + s) 0 = nI m then -1 else μ (18 + s) 0) : pa_S m s μ2 ν := by
  unfold pa_S at *
  rw [e66, e0, e1, e 67 (by omega) (by omega), e 68 (by omega) (by omega), e 69 (by omega) (by omega)]
  rcases h with ⟨a1, a2⟩ | ⟨o, w, a1, a2, a3, a4, a5, a6, a7, a8⟩ | ⟨b, hb, a1, a2, a3⟩
  · refine Or.inl ⟨?_, ?_⟩
    · split
      · rfl
      · exact a1
    · split
      · rfl
      · exact a2
  · have z : ¬ (μ 66 s = nI 2 ∧ μ 69 s = nI m) := fun z => by
      rw [a3] at z
      exact absurd z.1 (by decide)
    have z2 : ¬ (μ (18 + s) 0 = nI m) := fun z => by
      rw [a6] at z
      have := (nI_eq (by omega) (by omega)).mp z
      omega
    rw [if_neg z, if_neg z2]
    exact Or.inr (Or.inl ⟨o, w, a1, a2, a3, a4, a5, a6, a7, a8⟩)
  · by_cases c : b = m
    · subst c
      rw [if_pos ⟨a1, a2⟩, if_pos a3]
      exact Or.inl ⟨rfl, rfl⟩
    · have z : ¬ (μ 66 s = nI 2 ∧ μ 69 s = nI m) := fun z => by
        rw [a2] at z
        have := (nI_eq (by omega) (by omega)).mp z.2
        omega
      have z2 : ¬ (μ (18 + s) 0 = nI m) := fun z => by
        rw [a3] at z
        have := (nI_eq (by omega) (by omega)).mp z
        omega
      rw [if_neg z, if_neg z2]
      exact Or.inr (Or.inr ⟨b, by omega, a1, a2, a3⟩)
theorem op_goes {μ : fm_I} {ν : fm_L} (h : Inv μ ν)  : pa_op (m_X5_goes  μ ν) (fun μ ν => m_X6_goes  μ ν) := by
  obtain ⟨n, F, hI⟩ := id h
  have hn := hI.1.1
  by_cases h0 : n = 0
  · subst h0
    refine op_rf h 6 (by decide) (r := -6) ?_ ?_
    · simp -implicitDefEqProofs (disch := omega) only [m_X5_goes, hI.1.2.1, ev_b, ev_b2, ev_g, ev_gF, ev_on, ev_os, ev_cl, ev_in, ev_in6, ev_eq0, ev_lt0, ev_0le, ev_le0, ev_0lt, ev_lt, ev_le, ev_eq, ev_m1a, ev_m1b, ev_m1c, ev_m1d, ev_m1e, ev_n1, ev_n4, ev_n8, ev_n9, ev_n10, ev_n11, ev_n12, ev_n13, ev_n14, ev_n15, ev_n16, ev_n17, ev_n59, ev_n60, ev_n61, ev_n62, ev_n63, ev_n64, ev_n65, ev_n66, ev_n67, ev_n68, ev_n69, ev_n70, ev_n71, ev_n72, ev_n73, ev_n74, ev_n75, ev_n76, ev_n77, ev_n78, ev_n79, ev_n80, ev_k18, ev_k34, ev_k40, ev_n26, ev_n26b, ev_n46, ev_n46b, ev_n52b, ev_uq, ev_us, ev_uj, ev_lq, ev_ls, ev_lj, ev_urq, ev_urs, ev_ulq, ev_uls, nI_add, pk_sub, pk_mul, if_true, if_false, ite_true, ite_false, decide_true, decide_false, eq_self_iff_true, Nat.reduceEqDiff, Nat.reduceLeDiff, Nat.reduceLT, Nat.reduceAdd, Nat.reduceMul, Nat.reduceSub, Nat.reduceDiv, Nat.reduceMod, ↓reduceIte, rX6]
    · show m_X6_goes _ ν = _
      simp -implicitDefEqProofs (disch := omega) only [m_X6_goes, hI.1.2.2, ev_b, ev_b2, ev_g, ev_gF, ev_on, ev_os, ev_cl, ev_in, ev_in6, ev_eq0, ev_lt0, ev_0le, ev_le0, ev_0lt, ev_lt, ev_le, ev_eq, ev_m1a, ev_m1b, ev_m1c, ev_m1d, ev_m1e, ev_n1, ev_n4, ev_n8, ev_n9, ev_n10, ev_n11, ev_n12, ev_n13, ev_n14, ev_n15, ev_n16, ev_n17, ev_n59, ev_n60, ev_n61, ev_n62, ev_n63, ev_n64, ev_n65, ev_n66, ev_n67, ev_n68, ev_n69, ev_n70, ev_n71, ev_n72, ev_n73, ev_n74, ev_n75, ev_n76, ev_n77, ev_n78, ev_n79, ev_n80, ev_k18, ev_k34, ev_k40, ev_n26, ev_n26b, ev_n46, ev_n46b, ev_n52b, ev_uq, ev_us, ev_uj, ev_lq, ev_ls, ev_lj, ev_urq, ev_urs, ev_ulq, ev_uls, nI_add, pk_sub, pk_mul, if_true, if_false, ite_true, ite_false, decide_true, decide_false, eq_self_iff_true, Nat.reduceEqDiff, Nat.reduceLeDiff, Nat.reduceLT, Nat.reduceAdd, Nat.reduceMul, Nat.reduceSub, Nat.reduceDiv, Nat.reduceMod, ↓reduceIte, rM6]
  obtain ⟨m, rfl⟩ : ∃ m, n = m + 1 := ⟨n - 1, by omega⟩
  obtain ⟨h1, h2, h3, h4, h5, h6, h7, h8, h9⟩ := hI
  have ok : ∀ t, 0 ≤ t → t < 8 → heldOK m (fm_u μ 0 7 (nI m) (18 + t) 0) := fun t _ t2 => by
    rw [ev_uq (by omega)]
    rcases h6 t t2 with ⟨_, e⟩ | ⟨o, w, a1, a2, a3, a4, a5, a6, a7, a8⟩ | ⟨b, hb, a1, a2, a3⟩
    · exact Or.inl e
    · exact Or.inr (Or.inl ⟨o, a1, a6⟩)
    · exact Or.inr (Or.inr ⟨b, by omega, a3⟩)
  have k1 : 1 ≤ m + 1 := by omega
  have A : m_X5_goes μ ν = some (nI m, gX m 0 (fm_u μ 0 7 (nI m)), ν) := by
    simp -implicitDefEqProofs (disch := omega) only [m_X5_goes, h1.2.1, k1, Nat.add_sub_cancel, m_X5_clearShelvesOfGoneBands, ev_b, ev_b2, ev_g, ev_gF, ev_on, ev_os, ev_cl, ev_in, ev_in6, ev_eq0, ev_lt0, ev_0le, ev_le0, ev_0lt, ev_lt, ev_le, ev_eq, ev_m1a, ev_m1b, ev_m1c, ev_m1d, ev_m1e, ev_n1, ev_n4, ev_n8, ev_n9, ev_n10, ev_n11, ev_n12, ev_n13, ev_n14, ev_n15, ev_n16, ev_n17, ev_n59, ev_n60, ev_n61, ev_n62, ev_n63, ev_n64, ev_n65, ev_n66, ev_n67, ev_n68, ev_n69, ev_n70, ev_n71, ev_n72, ev_n73, ev_n74, ev_n75, ev_n76, ev_n77, ev_n78, ev_n79, ev_n80, ev_k18, ev_k34, ev_k40, ev_n26, ev_n26b, ev_n46, ev_n46b, ev_n52b, ev_uq, ev_us, ev_uj, ev_lq, ev_ls, ev_lj, ev_urq, ev_urs, ev_ulq, ev_uls, nI_add, pk_sub, pk_mul, if_true, if_false, ite_true, ite_false, decide_true, decide_false, eq_self_iff_true, Nat.reduceEqDiff, Nat.reduceLeDiff, Nat.reduceLT, Nat.reduceAdd, Nat.reduceMul, Nat.reduceSub, Nat.reduceDiv, Nat.reduceMod, ↓reduceIte]
    rw [go_X m (by omega) _ 8 0 5000 _ ν (by omega) (by omega) (by simp -implicitDefEqProofs (disch := omega) only [ev_b, ev_b2, ev_g, ev_gF, ev_on, ev_os, ev_cl, ev_in, ev_in6, ev_eq0, ev_lt0, ev_0le, ev_le0, ev_0lt, ev_lt, ev_le, ev_eq, ev_m1a, ev_m1b, ev_m1c, ev_m1d, ev_m1e, ev_n1, ev_n4, ev_n8, ev_n9, ev_n10, ev_n11, ev_n12, ev_n13, ev_n14, ev_n15, ev_n16, ev_n17, ev_n59, ev_n60, ev_n61, ev_n62, ev_n63, ev_n64, ev_n65, ev_n66, ev_n67, ev_n68, ev_n69, ev_n70, ev_n71, ev_n72, ev_n73, ev_n74, ev_n75, ev_n76, ev_n77, ev_n78, ev_n79, ev_n80, ev_k18, ev_k34, ev_k40, ev_n26, ev_n26b, ev_n46, ev_n46b, ev_n52b, ev_uq, ev_us, ev_uj, ev_lq, ev_ls, ev_lj, ev_urq, ev_urs, ev_ulq, ev_uls, nI_add, pk_sub, pk_mul, if_true, if_false, ite_true, ite_false, decide_true, decide_false, eq_self_iff_true, Nat.reduceEqDiff, Nat.reduceLeDiff, Nat.reduceLT, Nat.reduceAdd, Nat.reduceMul, Nat.reduceSub, Nat.reduceDiv, Nat.reduceMod, ↓reduceIte]) ok]
    simp -implicitDefEqProofs (disch := omega) only [gX, false_and, ev_b, ev_b2, ev_g, ev_gF, ev_on, ev_os, ev_cl, ev_in, ev_in6, ev_eq0, ev_lt0, ev_0le, ev_le0, ev_0lt, ev_lt, ev_le, ev_eq, ev_m1a, ev_m1b, ev_m1c, ev_m1d, ev_m1e, ev_n1, ev_n4, ev_n8, ev_n9, ev_n10, ev_n11, ev_n12, ev_n13, ev_n14, ev_n15, ev_n16, ev_n17, ev_n59, ev_n60, ev_n61, ev_n62, ev_n63, ev_n64, ev_n65, ev_n66, ev_n67, ev_n68, ev_n69, ev_n70, ev_n71, ev_n72, ev_n73, ev_n74, ev_n75, ev_n76, ev_n77, ev_n78, ev_n79, ev_n80, ev_k18, ev_k34, ev_k40, ev_n26, ev_n26b, ev_n46, ev_n46b, ev_n52b, ev_uq, ev_us, ev_uj, ev_lq, ev_ls, ev_lj, ev_urq, ev_urs, ev_ulq, ev_uls, nI_add, pk_sub, pk_mul, if_true, if_false, ite_true, ite_false, decide_true, decide_false, eq_self_iff_true, Nat.reduceEqDiff, Nat.reduceLeDiff, Nat.reduceLT, Nat.reduceAdd, Nat.reduceMul, Nat.reduceSub, Nat.reduceDiv, Nat.reduceMod, ↓reduceIte]
  have e58 : gX m 0 (fm_u μ 0 7 (nI m)) 58 0 = nI (m + 1) := by
    rw [gX, if_neg (by omega), ev_uq (by omega)]
    exact h1.2.2
  have B : m_X6_goes (gX m 0 (fm_u μ 0 7 (nI m))) ν = some (nI m, gM m 0 (fm_u (gX m 0 (fm_u μ 0 7 (nI m))) 58 0 (nI m)), ν) := by
    simp -implicitDefEqProofs (disch := omega) only [m_X6_goes, e58, Nat.add_sub_cancel, ev_b, ev_b2, ev_g, ev_gF, ev_on, ev_os, ev_cl, ev_in, ev_in6, ev_eq0, ev_lt0, ev_0le, ev_le0, ev_0lt, ev_lt, ev_le, ev_eq, ev_m1a, ev_m1b, ev_m1c, ev_m1d, ev_m1e, ev_n1, ev_n4, ev_n8, ev_n9, ev_n10, ev_n11, ev_n12, ev_n13, ev_n14, ev_n15, ev_n16, ev_n17, ev_n59, ev_n60, ev_n61, ev_n62, ev_n63, ev_n64, ev_n65, ev_n66, ev_n67, ev_n68, ev_n69, ev_n70, ev_n71, ev_n72, ev_n73, ev_n74, ev_n75, ev_n76, ev_n77, ev_n78, ev_n79, ev_n80, ev_k18, ev_k34, ev_k40, ev_n26, ev_n26b, ev_n46, ev_n46b, ev_n52b, ev_uq, ev_us, ev_uj, ev_lq, ev_ls, ev_lj, ev_urq, ev_urs, ev_ulq, ev_uls, nI_add, pk_sub, pk_mul, if_true, if_false, ite_true, ite_false, decide_true, decide_false, eq_self_iff_true, Nat.reduceEqDiff, Nat.reduceLeDiff, Nat.reduceLT, Nat.reduceAdd, Nat.reduceMul, Nat.reduceSub, Nat.reduceDiv, Nat.reduceMod, ↓reduceIte]
    rw [go_M m (by omega) _ 8 0 5000 _ ν (by omega) (by omega) (by simp -implicitDefEqProofs (disch := omega) only [ev_b, ev_b2, ev_g, ev_gF, ev_on, ev_os, ev_cl, ev_in, ev_in6, ev_eq0, ev_lt0, ev_0le, ev_le0, ev_0lt, ev_lt, ev_le, ev_eq, ev_m1a, ev_m1b, ev_m1c, ev_m1d, ev_m1e, ev_n1, ev_n4, ev_n8, ev_n9, ev_n10, ev_n11, ev_n12, ev_n13, ev_n14, ev_n15, ev_n16, ev_n17, ev_n59, ev_n60, ev_n61, ev_n62, ev_n63, ev_n64, ev_n65, ev_n66, ev_n67, ev_n68, ev_n69, ev_n70, ev_n71, ev_n72, ev_n73, ev_n74, ev_n75, ev_n76, ev_n77, ev_n78, ev_n79, ev_n80, ev_k18, ev_k34, ev_k40, ev_n26, ev_n26b, ev_n46, ev_n46b, ev_n52b, ev_uq, ev_us, ev_uj, ev_lq, ev_ls, ev_lj, ev_urq, ev_urs, ev_ulq, ev_uls, nI_add, pk_sub, pk_mul, if_true, if_false, ite_true, ite_false, decide_true, decide_false, eq_self_iff_true, Nat.reduceEqDiff, Nat.reduceLeDiff, Nat.reduceLT, Nat.reduceAdd, Nat.reduceMul, Nat.reduceSub, Nat.reduceDiv, Nat.reduceMod, ↓reduceIte])]
    simp -implicitDefEqProofs (disch := omega) only [gM, false_and, ev_b, ev_b2, ev_g, ev_gF, ev_on, ev_os, ev_cl, ev_in, ev_in6, ev_eq0, ev_lt0, ev_0le, ev_le0, ev_0lt, ev_lt, ev_le, ev_eq, ev_m1a, ev_m1b, ev_m1c, ev_m1d, ev_m1e, ev_n1, ev_n4, ev_n8, ev_n9, ev_n10, ev_n11, ev_n12, ev_n13, ev_n14, ev_n15, ev_n16, ev_n17, ev_n59, ev_n60, ev_n61, ev_n62, ev_n63, ev_n64, ev_n65, ev_n66, ev_n67, ev_n68, ev_n69, ev_n70, ev_n71, ev_n72, ev_n73, ev_n74, ev_n75, ev_n76, ev_n77, ev_n78, ev_n79, ev_n80, ev_k18, ev_k34, ev_k40, ev_n26, ev_n26b, ev_n46, ev_n46b, ev_n52b, ev_uq, ev_us, ev_uj, ev_lq, ev_ls, ev_lj, ev_urq, ev_urs, ev_ulq, ev_uls, nI_add, pk_sub, pk_mul, if_true, if_false, ite_true, ite_false, decide_true, decide_false, eq_self_iff_true, Nat.reduceEqDiff, Nat.reduceLeDiff, Nat.reduceLT, Nat.reduceAdd, Nat.reduceMul, Nat.reduceSub, Nat.reduceDiv, Nat.reduceMod, ↓reduceIte]
  have K : ∀ q, q ≠ 0 → q ≠ 58 → q ≠ 66 → ¬ (18 ≤ q ∧ q ≤ 25) → gM m 0 (fm_u (gX m 0 (fm_u μ 0 7 (nI m))) 58 0 (nI m)) q = μ q := fun q q1 q2 q3 q4 => by
    funext j
    rw [gM, if_neg (fun z => q3 z.1), ev_uq q2, gX, if_neg (by omega), ev_uq q1]
  have K0 : ∀ k, k ≠ 7 → gM m 0 (fm_u (gX m 0 (fm_u μ 0 7 (nI m))) 58 0 (nI m)) 0 k = μ 0 k := fun k hk => by
    rw [gM, if_neg (by omega), ev_uq (by omega), gX, if_neg (by omega), ev_uj hk]
  have K58 : ∀ k, k ≠ 0 → gM m 0 (fm_u (gX m 0 (fm_u μ 0 7 (nI m))) 58 0 (nI m)) 58 k = μ 58 k := fun k hk => by
    rw [gM, if_neg (by omega), ev_uj hk, gX, if_neg (by omega), ev_uq (by omega)]
  refine op_mk A B ⟨m, F, ⟨by omega, ?_, ?_⟩, fun b hb => ?_, fun b hb => ?_, ?_, fun k hk => ?_, fun s hs => ?_, ?_, ?_, fun i hi => ?_⟩
  · rw [gM, if_neg (by omega), ev_uq (by omega), gX, if_neg (by omega), ev_us]
  · rw [gM, if_neg (by omega), ev_us]
  · obtain ⟨a1, a2, a3⟩ := h2 b (by omega)
    exact ⟨a1, kp_X a2 (K _ (by omega) (by omega) (by omega) (by omega)) (K _ (by omega) (by omega) (by omega) (by omega)), kp_M a3 (fun q q1 q2 => K q (by omega) (by omega) (by omega) (by omega))⟩
  · rw [K _ (by omega) (by omega) (by omega) (by omega)]
    exact h3 b hb
  · rw [K0 8 (by omega), K0 9 (by omega), K0 13 (by omega), K58 1 (by omega), K58 2 (by omega), K58 3 (by omega)]
    exact h4
  · rw [K 59 (by omega) (by omega) (by omega) (by omega), K 4 (by omega) (by omega) (by omega) (by omega)]
    exact h5 k hk
  · refine go_S (by omega) (h6 s hs) hs (fun q q1 q2 => by rw [K q (by omega) (by omega) (by omega) (by omega)]) ?_ ?_ ?_
    · unfold gM
      by_cases z : μ 66 s = nI 2 ∧ μ 69 s = nI m
      · rw [if_pos z, if_pos ⟨rfl, by omega, hs, by rw [ev_uq (by omega), gX, if_neg (by omega), ev_uq (by omega)]; exact z.1, by rw [ev_uq (by omega), gX, if_neg (by omega), ev_uq (by omega)]; exact z.2⟩]
      · rw [if_neg z, if_neg (fun w => z ?_), ev_uq (by omega), gX, if_neg (by omega), ev_uq (by omega)]
        have w2 := w.2.2.2
        rw [ev_uq (q := 66) (by omega), gX, if_neg (by omega), ev_uq (q := 66) (by omega), ev_uq (q := 69) (by omega), gX, if_neg (by omega), ev_uq (q := 69) (by omega)] at w2
        exact w2
    · rw [gM, if_neg (by omega), ev_uq (by omega), gX, if_neg (by omega), ev_uq (by omega)]
    · rw [gM, if_neg (by omega), ev_uq (by omega), gX, ev_uq (by omega)]
      by_cases z : μ (18 + s) 0 = nI m
      · rw [if_pos z, if_pos ⟨by omega, by omega, rfl, z⟩]
      · rw [if_neg z, if_neg (fun w => z w.2.2.2)]
  · exact kp_T h7 (by rw [K 7 (by omega) (by omega) (by omega) (by omega)]) (K58 32 (by omega)) (K 80 (by omega) (by omega) (by omega) (by omega)) (K 8 (by omega) (by omega) (by omega) (by omega))
  · exact kp_I h8 (fun k k1 k2 => K0 k (by omega)) (K58 33 (by omega)) (K 75 (by omega) (by omega) (by omega) (by omega)) (fun b hb => ⟨K _ (by omega) (by omega) (by omega) (by omega), K _ (by omega) (by omega) (by omega) (by omega)⟩)
  · rw [K 72 (by omega) (by omega) (by omega) (by omega)]
    exact h9 i hi
