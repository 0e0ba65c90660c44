theorem op_fault {μ : fm_I} {ν : fm_L} (h : Inv μ ν)  : pa_op (pa_ro (m_X5_fault  μ ν) μ ν) (fun μ ν => pa_ro (m_X6_fault  μ ν) μ ν) := by
  obtain ⟨n, F, hI⟩ := id h
  exact op_ro (r := μ 0 13) (G := fun μ ν => m_X6_fault μ ν) h rfl (by show some (μ 58 3) = _; rw [hI.2.2.2.1.2.2])
theorem op_seed {μ : fm_I} {ν : fm_L} (h : Inv μ ν) (a0 : Int32) : pa_op (m_X5_seed a0 μ ν) (fun μ ν => m_X6_seed a0 μ ν) := by
  obtain ⟨n, F, hI⟩ := id h
  refine ⟨μ 0 8, _, _, _, _, rfl, ?_, inv_sc h 8 2 a0 (Or.inl ⟨rfl, rfl⟩)⟩
  show m_X6_seed _ _ _ = _
  unfold m_X6_seed
  rw [show (fm_u μ 0 8 a0) 58 2 = μ 0 8 by rw [ev_uq (by decide)]; exact hI.2.2.2.1.1]
theorem op_trace {μ : fm_I} {ν : fm_L} (h : Inv μ ν) (a0 : Int32) : pa_op (pa_ro (m_X5_trace a0 μ ν) μ ν) (fun μ ν => pa_ro (m_X6_trace a0 μ ν) μ ν) := by
  obtain ⟨n, F, hI⟩ := id h
  obtain ⟨r, hr, e1, e2, e3⟩ := hI.2.2.2.2.2.2.1
  rcases pk_ix a0 (n := 20) (by decide) with h0 | h0 | ⟨j, hj, rfl⟩
  · refine op_ro (r := -1) (G := fun μ ν => m_X6_trace a0 μ ν) h ?_ ?_
    · unfold m_X5_trace m_X4_bodyAt
      rw [if_pos h0]; rfl
    · show m_X6_trace a0 μ ν = _
      unfold m_X6_trace
      rw [if_pos h0]
  · refine op_ro (r := -1) (G := fun μ ν => m_X6_trace a0 μ ν) h ?_ ?_
    · unfold m_X5_trace m_X4_bodyAt
      rw [ev_n8]
      by_cases hn : a0 < 0
      · rw [if_pos hn]; rfl
      · rw [if_neg hn, if_pos h0]
        split <;> rfl
    · show m_X6_trace a0 μ ν = _
      unfold m_X6_trace
      by_cases hn : a0 < 0
      · rw [if_pos hn]
      · rw [if_neg hn, if_pos h0]
  · by_cases hjr : r ≤ j
    · refine op_ro (r := -1) (G := fun μ ν => m_X6_trace (nI j) μ ν) h ?_ ?_
      · simp (disch := omega) only [m_X5_trace, m_X4_bodyAt, e1, hjr, ev_b, ev_b2, ev_g, ev_gF, ev_on, ev_os, ev_cl, ev_in, ev_in6, ev_eq0, ev_lt0, ev_0le, ev_le0, ev_0lt, ev_lt, ev_le, ev_eq, ev_m1a, ev_m1b, ev_m1c, ev_m1d, ev_m1e, ev_n1, ev_n4, ev_n8, ev_n9, ev_n10, ev_n11, ev_n12, ev_n13, ev_n14, ev_n15, ev_n16, ev_n17, ev_n59, ev_n60, ev_n61, ev_n62, ev_n63, ev_n64, ev_n65, ev_n66, ev_n67, ev_n68, ev_n69, ev_n70, ev_n71, ev_n72, ev_n73, ev_n74, ev_n75, ev_n76, ev_n77, ev_n78, ev_n79, ev_n80, ev_k18, ev_k34, ev_k40, ev_n26, ev_n26b, ev_n46, ev_n46b, ev_n52b, ev_uq, ev_us, ev_uj, ev_lq, ev_ls, ev_lj, ev_urq, ev_urs, ev_ulq, ev_uls, nI_add, pk_sub, pk_mul, if_true, if_false, ite_true, ite_false, decide_true, decide_false, eq_self_iff_true]
      · show m_X6_trace (nI j) μ ν = _
        simp (disch := omega) only [m_X6_trace, e2, hjr, ev_b, ev_b2, ev_g, ev_gF, ev_on, ev_os, ev_cl, ev_in, ev_in6, ev_eq0, ev_lt0, ev_0le, ev_le0, ev_0lt, ev_lt, ev_le, ev_eq, ev_m1a, ev_m1b, ev_m1c, ev_m1d, ev_m1e, ev_n1, ev_n4, ev_n8, ev_n9, ev_n10, ev_n11, ev_n12, ev_n13, ev_n14, ev_n15, ev_n16, ev_n17, ev_n59, ev_n60, ev_n61, ev_n62, ev_n63, ev_n64, ev_n65, ev_n66, ev_n67, ev_n68, ev_n69, ev_n70, ev_n71, ev_n72, ev_n73, ev_n74, ev_n75, ev_n76, ev_n77, ev_n78, ev_n79, ev_n80, ev_k18, ev_k34, ev_k40, ev_n26, ev_n26b, ev_n46, ev_n46b, ev_n52b, ev_uq, ev_us, ev_uj, ev_lq, ev_ls, ev_lj, ev_urq, ev_urs, ev_ulq, ev_uls, nI_add, pk_sub, pk_mul, if_true, if_false, ite_true, ite_false, decide_true, decide_false, eq_self_iff_true]
        rw [if_neg (by omega)]
    · refine op_ro (r := μ 8 j) (G := fun μ ν => m_X6_trace (nI j) μ ν) h ?_ ?_
      · simp (disch := omega) only [m_X5_trace, m_X4_bodyAt, e1, hjr, ev_b, ev_b2, ev_g, ev_gF, ev_on, ev_os, ev_cl, ev_in, ev_in6, ev_eq0, ev_lt0, ev_0le, ev_le0, ev_0lt, ev_lt, ev_le, ev_eq, ev_m1a, ev_m1b, ev_m1c, ev_m1d, ev_m1e, ev_n1, ev_n4, ev_n8, ev_n9, ev_n10, ev_n11, ev_n12, ev_n13, ev_n14, ev_n15, ev_n16, ev_n17, ev_n59, ev_n60, ev_n61, ev_n62, ev_n63, ev_n64, ev_n65, ev_n66, ev_n67, ev_n68, ev_n69, ev_n70, ev_n71, ev_n72, ev_n73, ev_n74, ev_n75, ev_n76, ev_n77, ev_n78, ev_n79, ev_n80, ev_k18, ev_k34, ev_k40, ev_n26, ev_n26b, ev_n46, ev_n46b, ev_n52b, ev_uq, ev_us, ev_uj, ev_lq, ev_ls, ev_lj, ev_urq, ev_urs, ev_ulq, ev_uls, nI_add, pk_sub, pk_mul, if_true, if_false, ite_true, ite_false, decide_true, decide_false, eq_self_iff_true]
        rw [if_neg (by omega)]
        rfl
      · show m_X6_trace (nI j) μ ν = _
        simp (disch := omega) only [m_X6_trace, e2, hjr, ev_b, ev_b2, ev_g, ev_gF, ev_on, ev_os, ev_cl, ev_in, ev_in6, ev_eq0, ev_lt0, ev_0le, ev_le0, ev_0lt, ev_lt, ev_le, ev_eq, ev_m1a, ev_m1b, ev_m1c, ev_m1d, ev_m1e, ev_n1, ev_n4, ev_n8, ev_n9, ev_n10, ev_n11, ev_n12, ev_n13, ev_n14, ev_n15, ev_n16, ev_n17, ev_n59, ev_n60, ev_n61, ev_n62, ev_n63, ev_n64, ev_n65, ev_n66, ev_n67, ev_n68, ev_n69, ev_n70, ev_n71, ev_n72, ev_n73, ev_n74, ev_n75, ev_n76, ev_n77, ev_n78, ev_n79, ev_n80, ev_k18, ev_k34, ev_k40, ev_n26, ev_n26b, ev_n46, ev_n46b, ev_n52b, ev_uq, ev_us, ev_uj, ev_lq, ev_ls, ev_lj, ev_urq, ev_urs, ev_ulq, ev_uls, nI_add, pk_sub, pk_mul, if_true, if_false, ite_true, ite_false, decide_true, decide_false, eq_self_iff_true]
        rw [if_neg (by omega), e3 j hj (by omega)]
/-- a shelf of both -/
theorem sh_held {n s : Nat} {μ : fm_I} {ν : fm_L} (h : pa_S n s μ ν) (hn : n ≤ 6) : (μ 66 s = nI 0 ∧ μ (18 + s) 0 = -1) ∨ (∃ o m : Nat, o ≤ 3 ∧ m ≤ 160 ∧ μ 66 s = nI 1 ∧ μ 67 s = nI o ∧ μ 68 s = nI m ∧ μ (18 + s) 0 = nI (100 + o) ∧ μ (18 + s) 1 = nI m ∧ ∀ i, i < 160 → ν (26 + s) i = ν 70 (160 * s + i)) ∨ (∃ b : Nat, b < 6 ∧ b < n ∧ μ 66 s = nI 2 ∧ μ 69 s = nI b ∧ μ (18 + s) 0 = nI b) := by
  rcases h with h | h | ⟨b, hb, h⟩
  · exact Or.inl h
  · exact Or.inr (Or.inl h)
  · exact Or.inr (Or.inr ⟨b, by omega, hb, h⟩)
theorem op_holds {μ : fm_I} {ν : fm_L} (h : Inv μ ν) (a0 : Int32) : pa_op (pa_ro (m_X5_holds a0 μ ν) μ ν) (fun μ ν => pa_ro (m_X6_holds a0 μ ν) μ ν) := by
  obtain ⟨n, F, hI⟩ := id h
  rcases sh_cases a0 with h0 | ⟨s, hs, rfl⟩
  · refine op_ro (r := -1) (G := fun μ ν => m_X6_holds a0 μ ν) h ?_ ?_
    · unfold m_X5_holds
      rw [(sh_out h0 μ ν).1]
      simp (disch := omega) only [ev_b, ev_b2, ev_g, ev_gF, ev_on, ev_os, ev_cl, ev_in, ev_in6, ev_eq0, ev_lt0, ev_0le, ev_le0, ev_0lt, ev_lt, ev_le, ev_eq, ev_m1a, ev_m1b, ev_m1c, ev_m1d, ev_m1e, ev_n1, ev_n4, ev_n8, ev_n9, ev_n10, ev_n11, ev_n12, ev_n13, ev_n14, ev_n15, ev_n16, ev_n17, ev_n59, ev_n60, ev_n61, ev_n62, ev_n63, ev_n64, ev_n65, ev_n66, ev_n67, ev_n68, ev_n69, ev_n70, ev_n71, ev_n72, ev_n73, ev_n74, ev_n75, ev_n76, ev_n77, ev_n78, ev_n79, ev_n80, ev_k18, ev_k34, ev_k40, ev_n26, ev_n26b, ev_n46, ev_n46b, ev_n52b, ev_uq, ev_us, ev_uj, ev_lq, ev_ls, ev_lj, ev_urq, ev_urs, ev_ulq, ev_uls, nI_add, pk_sub, pk_mul, if_true, if_false, ite_true, ite_false, decide_true, decide_false, eq_self_iff_true]
    · show m_X6_holds a0 μ ν = _
      unfold m_X6_holds
      rw [(sh_out h0 μ ν).2]
      simp (disch := omega) only [ev_b, ev_b2, ev_g, ev_gF, ev_on, ev_os, ev_cl, ev_in, ev_in6, ev_eq0, ev_lt0, ev_0le, ev_le0, ev_0lt, ev_lt, ev_le, ev_eq, ev_m1a, ev_m1b, ev_m1c, ev_m1d, ev_m1e, ev_n1, ev_n4, ev_n8, ev_n9, ev_n10, ev_n11, ev_n12, ev_n13, ev_n14, ev_n15, ev_n16, ev_n17, ev_n59, ev_n60, ev_n61, ev_n62, ev_n63, ev_n64, ev_n65, ev_n66, ev_n67, ev_n68, ev_n69, ev_n70, ev_n71, ev_n72, ev_n73, ev_n74, ev_n75, ev_n76, ev_n77, ev_n78, ev_n79, ev_n80, ev_k18, ev_k34, ev_k40, ev_n26, ev_n26b, ev_n46, ev_n46b, ev_n52b, ev_uq, ev_us, ev_uj, ev_lq, ev_ls, ev_lj, ev_urq, ev_urs, ev_ulq, ev_uls, nI_add, pk_sub, pk_mul, if_true, if_false, ite_true, ite_false, decide_true, decide_false, eq_self_iff_true]
  · rcases sh_held (hI.2.2.2.2.2.1 s hs) hI.1.1 with ⟨e1, e2⟩ | ⟨o, m, ho, hm, e1, e2, e3, e4, e5, e6⟩ | ⟨b, hb, hbn, e1, e2, e3⟩
    · refine op_ro (r := -1) (G := fun μ ν => m_X6_holds (nI s) μ ν) h ?_ ?_
      · simp (disch := omega) only [m_X5_holds, (sh_in hs μ ν).1, e2, ev_b, ev_b2, ev_g, ev_gF, ev_on, ev_os, ev_cl, ev_in, ev_in6, ev_eq0, ev_lt0, ev_0le, ev_le0, ev_0lt, ev_lt, ev_le, ev_eq, ev_m1a, ev_m1b, ev_m1c, ev_m1d, ev_m1e, ev_n1, ev_n4, ev_n8, ev_n9, ev_n10, ev_n11, ev_n12, ev_n13, ev_n14, ev_n15, ev_n16, ev_n17, ev_n59, ev_n60, ev_n61, ev_n62, ev_n63, ev_n64, ev_n65, ev_n66, ev_n67, ev_n68, ev_n69, ev_n70, ev_n71, ev_n72, ev_n73, ev_n74, ev_n75, ev_n76, ev_n77, ev_n78, ev_n79, ev_n80, ev_k18, ev_k34, ev_k40, ev_n26, ev_n26b, ev_n46, ev_n46b, ev_n52b, ev_uq, ev_us, ev_uj, ev_lq, ev_ls, ev_lj, ev_urq, ev_urs, ev_ulq, ev_uls, nI_add, pk_sub, pk_mul, if_true, if_false, ite_true, ite_false, decide_true, decide_false, eq_self_iff_true]
        rfl
      · show m_X6_holds (nI s) μ ν = _
        simp (disch := omega) only [m_X6_holds, (sh_in hs μ ν).2, e1, ev_b, ev_b2, ev_g, ev_gF, ev_on, ev_os, ev_cl, ev_in, ev_in6, ev_eq0, ev_lt0, ev_0le, ev_le0, ev_0lt, ev_lt, ev_le, ev_eq, ev_m1a, ev_m1b, ev_m1c, ev_m1d, ev_m1e, ev_n1, ev_n4, ev_n8, ev_n9, ev_n10, ev_n11, ev_n12, ev_n13, ev_n14, ev_n15, ev_n16, ev_n17, ev_n59, ev_n60, ev_n61, ev_n62, ev_n63, ev_n64, ev_n65, ev_n66, ev_n67, ev_n68, ev_n69, ev_n70, ev_n71, ev_n72, ev_n73, ev_n74, ev_n75, ev_n76, ev_n77, ev_n78, ev_n79, ev_n80, ev_k18, ev_k34, ev_k40, ev_n26, ev_n26b, ev_n46, ev_n46b, ev_n52b, ev_uq, ev_us, ev_uj, ev_lq, ev_ls, ev_lj, ev_urq, ev_urs, ev_ulq, ev_uls, nI_add, pk_sub, pk_mul, if_true, if_false, ite_true, ite_false, decide_true, decide_false, eq_self_iff_true]
        rfl
    · refine op_ro (r := nI (100 + o)) (G := fun μ ν => m_X6_holds (nI s) μ ν) h ?_ ?_
      · simp (disch := omega) only [m_X5_holds, (sh_in hs μ ν).1, e4, ev_b, ev_b2, ev_g, ev_gF, ev_on, ev_os, ev_cl, ev_in, ev_in6, ev_eq0, ev_lt0, ev_0le, ev_le0, ev_0lt, ev_lt, ev_le, ev_eq, ev_m1a, ev_m1b, ev_m1c, ev_m1d, ev_m1e, ev_n1, ev_n4, ev_n8, ev_n9, ev_n10, ev_n11, ev_n12, ev_n13, ev_n14, ev_n15, ev_n16, ev_n17, ev_n59, ev_n60, ev_n61, ev_n62, ev_n63, ev_n64, ev_n65, ev_n66, ev_n67, ev_n68, ev_n69, ev_n70, ev_n71, ev_n72, ev_n73, ev_n74, ev_n75, ev_n76, ev_n77, ev_n78, ev_n79, ev_n80, ev_k18, ev_k34, ev_k40, ev_n26, ev_n26b, ev_n46, ev_n46b, ev_n52b, ev_uq, ev_us, ev_uj, ev_lq, ev_ls, ev_lj, ev_urq, ev_urs, ev_ulq, ev_uls, nI_add, pk_sub, pk_mul, if_true, if_false, ite_true, ite_false, decide_true, decide_false, eq_self_iff_true]
        rfl
      · show m_X6_holds (nI s) μ ν = _
        simp (disch := omega) only [m_X6_holds, (sh_in hs μ ν).2, e1, e2, ev_b, ev_b2, ev_g, ev_gF, ev_on, ev_os, ev_cl, ev_in, ev_in6, ev_eq0, ev_lt0, ev_0le, ev_le0, ev_0lt, ev_lt, ev_le, ev_eq, ev_m1a, ev_m1b, ev_m1c, ev_m1d, ev_m1e, ev_n1, ev_n4, ev_n8, ev_n9, ev_n10, ev_n11, ev_n12, ev_n13, ev_n14, ev_n15, ev_n16, ev_n17, ev_n59, ev_n60, ev_n61, ev_n62, ev_n63, ev_n64, ev_n65, ev_n66, ev_n67, ev_n68, ev_n69, ev_n70, ev_n71, ev_n72, ev_n73, ev_n74, ev_n75, ev_n76, ev_n77, ev_n78, ev_n79, ev_n80, ev_k18, ev_k34, ev_k40, ev_n26, ev_n26b, ev_n46, ev_n46b, ev_n52b, ev_uq, ev_us, ev_uj, ev_lq, ev_ls, ev_lj, ev_urq, ev_urs, ev_ulq, ev_uls, nI_add, pk_sub, pk_mul, if_true, if_false, ite_true, ite_false, decide_true, decide_false, eq_self_iff_true]
        rfl
    · refine op_ro (r := nI b) (G := fun μ ν => m_X6_holds (nI s) μ ν) h ?_ ?_
      · simp (disch := omega) only [m_X5_holds, (sh_in hs μ ν).1, e3, ev_b, ev_b2, ev_g, ev_gF, ev_on, ev_os, ev_cl, ev_in, ev_in6, ev_eq0, ev_lt0, ev_0le, ev_le0, ev_0lt, ev_lt, ev_le, ev_eq, ev_m1a, ev_m1b, ev_m1c, ev_m1d, ev_m1e, ev_n1, ev_n4, ev_n8, ev_n9, ev_n10, ev_n11, ev_n12, ev_n13, ev_n14, ev_n15, ev_n16, ev_n17, ev_n59, ev_n60, ev_n61, ev_n62, ev_n63, ev_n64, ev_n65, ev_n66, ev_n67, ev_n68, ev_n69, ev_n70, ev_n71, ev_n72, ev_n73, ev_n74, ev_n75, ev_n76, ev_n77, ev_n78, ev_n79, ev_n80, ev_k18, ev_k34, ev_k40, ev_n26, ev_n26b, ev_n46, ev_n46b, ev_n52b, ev_uq, ev_us, ev_uj, ev_lq, ev_ls, ev_lj, ev_urq, ev_urs, ev_ulq, ev_uls, nI_add, pk_sub, pk_mul, if_true, if_false, ite_true, ite_false, decide_true, decide_false, eq_self_iff_true]
        rfl
      · show m_X6_holds (nI s) μ ν = _
        simp (disch := omega) only [m_X6_holds, (sh_in hs μ ν).2, e1, e2, ev_b, ev_b2, ev_g, ev_gF, ev_on, ev_os, ev_cl, ev_in, ev_in6, ev_eq0, ev_lt0, ev_0le, ev_le0, ev_0lt, ev_lt, ev_le, ev_eq, ev_m1a, ev_m1b, ev_m1c, ev_m1d, ev_m1e, ev_n1, ev_n4, ev_n8, ev_n9, ev_n10, ev_n11, ev_n12, ev_n13, ev_n14, ev_n15, ev_n16, ev_n17, ev_n59, ev_n60, ev_n61, ev_n62, ev_n63, ev_n64, ev_n65, ev_n66, ev_n67, ev_n68, ev_n69, ev_n70, ev_n71, ev_n72, ev_n73, ev_n74, ev_n75, ev_n76, ev_n77, ev_n78, ev_n79, ev_n80, ev_k18, ev_k34, ev_k40, ev_n26, ev_n26b, ev_n46, ev_n46b, ev_n52b, ev_uq, ev_us, ev_uj, ev_lq, ev_ls, ev_lj, ev_urq, ev_urs, ev_ulq, ev_uls, nI_add, pk_sub, pk_mul, if_true, if_false, ite_true, ite_false, decide_true, decide_false, eq_self_iff_true]
        rfl
