theorem count_1 (K : Int32 → Option Int32) (v1 : Int32) (μ : fm_I) (ν : fm_L) : ∀ (d i fuel : Nat) (v2 : Int32), i + d = 12 → d < fuel → m_X6_count_4 v1 μ ν K fuel v2 (nI i) = K ((List.range d).foldl (fun a j => a + ((v1 >>> (nI (i + j) &&& 31)) &&& nI 1)) v2) := by
  intro d
  induction d with
  | zero =>
    intro i fuel v2 hi hf
    obtain ⟨k, rfl⟩ : ∃ k, fuel = k + 1 := ⟨fuel - 1, by omega⟩
    rw [m_X6_count_4, if_pos (by simp -implicitDefEqProofs (disch := omega) only [ev_b, ev_b2, ev_g, ev_gF, ev_on, ev_os, ev_cl, ev_in, ev_in6, ev_eq0, ev_lt0, ev_0le, ev_le0, ev_0lt, ev_lt, ev_le, ev_eq, ev_m1a, ev_m1b, ev_m1c, ev_m1d, ev_m1e, ev_n1, ev_n4, ev_n8, ev_n9, ev_n10, ev_n11, ev_n12, ev_n13, ev_n14, ev_n15, ev_n16, ev_n17, ev_n59, ev_n60, ev_n61, ev_n62, ev_n63, ev_n64, ev_n65, ev_n66, ev_n67, ev_n68, ev_n69, ev_n70, ev_n71, ev_n72, ev_n73, ev_n74, ev_n75, ev_n76, ev_n77, ev_n78, ev_n79, ev_n80, ev_k18, ev_k34, ev_k40, ev_n26, ev_n26b, ev_n46, ev_n46b, ev_n52b, ev_uq, ev_us, ev_uj, ev_lq, ev_ls, ev_lj, ev_urq, ev_urs, ev_ulq, ev_uls, nI_add, pk_sub, pk_mul, if_true, if_false, ite_true, ite_false, decide_true, decide_false, eq_self_iff_true, Nat.reduceEqDiff, Nat.reduceLeDiff, Nat.reduceLT, Nat.reduceAdd, Nat.reduceMul, Nat.reduceSub, Nat.reduceDiv, Nat.reduceMod, ↓reduceIte]; omega)]
    rfl
  | succ d ih =>
    intro i fuel v2 hi hf
    obtain ⟨k, rfl⟩ : ∃ k, fuel = k + 1 := ⟨fuel - 1, by omega⟩
    rw [m_X6_count_4, if_neg (by simp -implicitDefEqProofs (disch := omega) only [ev_b, ev_b2, ev_g, ev_gF, ev_on, ev_os, ev_cl, ev_in, ev_in6, ev_eq0, ev_lt0, ev_0le, ev_le0, ev_0lt, ev_lt, ev_le, ev_eq, ev_m1a, ev_m1b, ev_m1c, ev_m1d, ev_m1e, ev_n1, ev_n4, ev_n8, ev_n9, ev_n10, ev_n11, ev_n12, ev_n13, ev_n14, ev_n15, ev_n16, ev_n17, ev_n59, ev_n60, ev_n61, ev_n62, ev_n63, ev_n64, ev_n65, ev_n66, ev_n67, ev_n68, ev_n69, ev_n70, ev_n71, ev_n72, ev_n73, ev_n74, ev_n75, ev_n76, ev_n77, ev_n78, ev_n79, ev_n80, ev_k18, ev_k34, ev_k40, ev_n26, ev_n26b, ev_n46, ev_n46b, ev_n52b, ev_uq, ev_us, ev_uj, ev_lq, ev_ls, ev_lj, ev_urq, ev_urs, ev_ulq, ev_uls, nI_add, pk_sub, pk_mul, if_true, if_false, ite_true, ite_false, decide_true, decide_false, eq_self_iff_true, Nat.reduceEqDiff, Nat.reduceLeDiff, Nat.reduceLT, Nat.reduceAdd, Nat.reduceMul, Nat.reduceSub, Nat.reduceDiv, Nat.reduceMod, ↓reduceIte]; omega), nI_add, ih (i + 1) k _ (by omega) (by omega), List.range_succ_eq_map, List.foldl_cons, List.foldl_map]
    congr 2
    funext a j
    rw [show i + 1 + j = i + (j + 1) by omega]
theorem count_M (v : Int32) (μ : fm_I) (ν : fm_L) : m_X6_count v μ ν = some ((List.range 12).foldl (fun a j => a + ((v >>> (nI (0 + j) &&& 31)) &&& nI 1)) (nI 0)) := by
  rw [m_X6_count, count_1 _ v μ ν 12 0 5000 (nI 0) (by omega) (by omega)]
def cM (c : Nat → Nat) : Int32 := (((nI 0 ||| (nI 1 <<< (nI (c 0) &&& 31))) ||| (nI 1 <<< (nI (c 1) &&& 31))) ||| (nI 1 <<< (nI (c 2) &&& 31))) ||| (nI 1 <<< (nI (c 3) &&& 31))
def cC (v : Int32) : Int32 := (List.range 12).foldl (fun a j => a + ((v >>> (nI (0 + j) &&& 31)) &&& nI 1)) (nI 0)
theorem cC_v : cC (cM (cf 0 0)) = nI 1 ∧ cC (cM (cf 0 1)) = nI 1 ∧ cC (cM (cf 1 0)) = nI 1 ∧ cC (cM (cf 1 1)) = nI 2 := by decide +kernel
theorem cC_of {o1 o2 : Nat} (h1 : o1 < 2) (h2 : o2 < 2) : cC (cM (cf o1 o2)) = nI (if o1 = 1 ∧ o2 = 1 then 2 else 1) := by
  obtain ⟨a, b, c, d⟩ := cC_v
  rcases (by omega : o1 = 0 ∨ o1 = 1) with rfl | rfl <;> rcases (by omega : o2 = 0 ∨ o2 = 1) with rfl | rfl
  · exact a
  · exact b
  · exact c
  · exact d
/-- what cross answers -/
def cA (k o1 o2 h1 h2 : Nat) : Nat := if k = 0 then (if o1 = 1 ∧ o2 = 1 then 2 else 1) else if o1 = 1 ∧ o2 = 1 ∧ h1 ≠ h2 then 1 else 0
theorem fill_79 (v1 v2 v3 : Int32) (K : fm_I → fm_L → Option (Int32 × fm_I × fm_L)) (μ : fm_I) (ν : fm_L) : ∃ μ', m_X6_cross_53 v1 v2 v3 K 5000 (nI 0) μ ν = K μ' ν ∧ (∀ q, q ≠ 79 → μ' q = μ q) ∧ r79 (fun i => i) μ' := by
  refine ⟨fm_u (fm_u (fm_u (fm_u μ 79 0 (nI 0)) 79 1 (nI 1)) 79 2 (nI 2)) 79 3 (nI 3), ?_, fun q hq => by rw [ev_uq hq, ev_uq hq, ev_uq hq, ev_uq hq], fun i hi => ?_, fun i hi => hi⟩
  · rw [m_X6_cross_53, if_neg (by decide), show fm_in (nI 0) (fm_n 79) = true from rfl, ev_g, show (nI 0).toNatClampNeg = 0 from rfl, show nI 0 + nI 1 = nI 1 from rfl]
    rw [m_X6_cross_53, if_neg (by decide), show fm_in (nI 1) (fm_n 79) = true from rfl, ev_g, show (nI 1).toNatClampNeg = 1 from rfl, show nI 1 + nI 1 = nI 2 from rfl]
    rw [m_X6_cross_53, if_neg (by decide), show fm_in (nI 2) (fm_n 79) = true from rfl, ev_g, show (nI 2).toNatClampNeg = 2 from rfl, show nI 2 + nI 1 = nI 3 from rfl]
    rw [m_X6_cross_53, if_neg (by decide), show fm_in (nI 3) (fm_n 79) = true from rfl, ev_g, show (nI 3).toNatClampNeg = 3 from rfl, show nI 3 + nI 1 = nI 4 from rfl]
    rw [m_X6_cross_53, if_pos (by decide)]
  · rcases (by omega : i = 0 ∨ i = 1 ∨ i = 2 ∨ i = 3) with rfl | rfl | rfl | rfl
    · rw [ev_uj (by decide), ev_uj (by decide), ev_uj (by decide), ev_us]
    · rw [ev_uj (by decide), ev_uj (by decide), ev_us]
    · rw [ev_uj (by decide), ev_us]
    · rw [ev_us]
theorem op_cross {μ : fm_I} {ν : fm_L} (h : Inv μ ν) (a0 : Int32) (a1 : Int32) (a2 : Int32) : pa_op (m_X5_cross a0 a1 a2 μ ν) (fun μ ν => m_X6_cross a0 a1 a2 μ ν) := by
  obtain ⟨n, F, hI⟩ := id h
  have hn := hI.1.1
  rcases bd_cases a0 hn with h0 | ⟨b, hb, rfl⟩
  · rcases bd_cases a1 hn with h1 | ⟨d, hd, rfl⟩
    · refine op_rf h 1 (by decide) (r := -1) ?_ ?_
      · simp -implicitDefEqProofs (disch := omega) only [m_X5_cross, ba_out h0 hI.1.2.1, ba_out h1 hI.1.2.1, m_X5_cross_24, ev_b, ev_b2, ev_g, ev_gF, ev_on, ev_os, ev_cl, ev_in, ev_in6, ev_eq0, ev_lt0, ev_0le, ev_le0, ev_0lt, ev_lt, ev_le, ev_eq, ev_m1a, ev_m1b, ev_m1c, ev_m1d, ev_m1e, ev_n1, ev_n4, ev_n8, ev_n9, ev_n10, ev_n11, ev_n12, ev_n13, ev_n14, ev_n15, ev_n16, ev_n17, ev_n59, ev_n60, ev_n61, ev_n62, ev_n63, ev_n64, ev_n65, ev_n66, ev_n67, ev_n68, ev_n69, ev_n70, ev_n71, ev_n72, ev_n73, ev_n74, ev_n75, ev_n76, ev_n77, ev_n78, ev_n79, ev_n80, ev_k18, ev_k34, ev_k40, ev_n26, ev_n26b, ev_n46, ev_n46b, ev_n52b, ev_uq, ev_us, ev_uj, ev_lq, ev_ls, ev_lj, ev_urq, ev_urs, ev_ulq, ev_uls, nI_add, pk_sub, pk_mul, if_true, if_false, ite_true, ite_false, decide_true, decide_false, eq_self_iff_true, Nat.reduceEqDiff, Nat.reduceLeDiff, Nat.reduceLT, Nat.reduceAdd, Nat.reduceMul, Nat.reduceSub, Nat.reduceDiv, Nat.reduceMod, ↓reduceIte, rX1]
      · show m_X6_cross a0 a1 a2 _ ν = _
        simp -implicitDefEqProofs (disch := omega) only [m_X6_cross, m_X6_cross_16, bo2 h0 hI.1.2.2, ev_b, ev_b2, ev_g, ev_gF, ev_on, ev_os, ev_cl, ev_in, ev_in6, ev_eq0, ev_lt0, ev_0le, ev_le0, ev_0lt, ev_lt, ev_le, ev_eq, ev_m1a, ev_m1b, ev_m1c, ev_m1d, ev_m1e, ev_n1, ev_n4, ev_n8, ev_n9, ev_n10, ev_n11, ev_n12, ev_n13, ev_n14, ev_n15, ev_n16, ev_n17, ev_n59, ev_n60, ev_n61, ev_n62, ev_n63, ev_n64, ev_n65, ev_n66, ev_n67, ev_n68, ev_n69, ev_n70, ev_n71, ev_n72, ev_n73, ev_n74, ev_n75, ev_n76, ev_n77, ev_n78, ev_n79, ev_n80, ev_k18, ev_k34, ev_k40, ev_n26, ev_n26b, ev_n46, ev_n46b, ev_n52b, ev_uq, ev_us, ev_uj, ev_lq, ev_ls, ev_lj, ev_urq, ev_urs, ev_ulq, ev_uls, nI_add, pk_sub, pk_mul, if_true, if_false, ite_true, ite_false, decide_true, decide_false, eq_self_iff_true, Nat.reduceEqDiff, Nat.reduceLeDiff, Nat.reduceLT, Nat.reduceAdd, Nat.reduceMul, Nat.reduceSub, Nat.reduceDiv, Nat.reduceMod, ↓reduceIte, rM1]
    · refine op_rf h 1 (by decide) (r := -1) ?_ ?_
      · simp -implicitDefEqProofs (disch := omega) only [m_X5_cross, ba_out h0 hI.1.2.1, ba_in hn hd hI.1.2.1, m_X5_cross_24, ev_b, ev_b2, ev_g, ev_gF, ev_on, ev_os, ev_cl, ev_in, ev_in6, ev_eq0, ev_lt0, ev_0le, ev_le0, ev_0lt, ev_lt, ev_le, ev_eq, ev_m1a, ev_m1b, ev_m1c, ev_m1d, ev_m1e, ev_n1, ev_n4, ev_n8, ev_n9, ev_n10, ev_n11, ev_n12, ev_n13, ev_n14, ev_n15, ev_n16, ev_n17, ev_n59, ev_n60, ev_n61, ev_n62, ev_n63, ev_n64, ev_n65, ev_n66, ev_n67, ev_n68, ev_n69, ev_n70, ev_n71, ev_n72, ev_n73, ev_n74, ev_n75, ev_n76, ev_n77, ev_n78, ev_n79, ev_n80, ev_k18, ev_k34, ev_k40, ev_n26, ev_n26b, ev_n46, ev_n46b, ev_n52b, ev_uq, ev_us, ev_uj, ev_lq, ev_ls, ev_lj, ev_urq, ev_urs, ev_ulq, ev_uls, nI_add, pk_sub, pk_mul, if_true, if_false, ite_true, ite_false, decide_true, decide_false, eq_self_iff_true, Nat.reduceEqDiff, Nat.reduceLeDiff, Nat.reduceLT, Nat.reduceAdd, Nat.reduceMul, Nat.reduceSub, Nat.reduceDiv, Nat.reduceMod, ↓reduceIte, rX1]
      · show m_X6_cross a0 (nI d) a2 _ ν = _
        simp -implicitDefEqProofs (disch := omega) only [m_X6_cross, m_X6_cross_16, bo2 h0 hI.1.2.2, ev_b, ev_b2, ev_g, ev_gF, ev_on, ev_os, ev_cl, ev_in, ev_in6, ev_eq0, ev_lt0, ev_0le, ev_le0, ev_0lt, ev_lt, ev_le, ev_eq, ev_m1a, ev_m1b, ev_m1c, ev_m1d, ev_m1e, ev_n1, ev_n4, ev_n8, ev_n9, ev_n10, ev_n11, ev_n12, ev_n13, ev_n14, ev_n15, ev_n16, ev_n17, ev_n59, ev_n60, ev_n61, ev_n62, ev_n63, ev_n64, ev_n65, ev_n66, ev_n67, ev_n68, ev_n69, ev_n70, ev_n71, ev_n72, ev_n73, ev_n74, ev_n75, ev_n76, ev_n77, ev_n78, ev_n79, ev_n80, ev_k18, ev_k34, ev_k40, ev_n26, ev_n26b, ev_n46, ev_n46b, ev_n52b, ev_uq, ev_us, ev_uj, ev_lq, ev_ls, ev_lj, ev_urq, ev_urs, ev_ulq, ev_uls, nI_add, pk_sub, pk_mul, if_true, if_false, ite_true, ite_false, decide_true, decide_false, eq_self_iff_true, Nat.reduceEqDiff, Nat.reduceLeDiff, Nat.reduceLT, Nat.reduceAdd, Nat.reduceMul, Nat.reduceSub, Nat.reduceDiv, Nat.reduceMod, ↓reduceIte, rM1]
  rcases bd_cases a1 hn with h1 | ⟨d, hd, rfl⟩
  · refine op_rf h 1 (by decide) (r := -1) ?_ ?_
    · simp -implicitDefEqProofs (disch := omega) only [m_X5_cross, ba_in hn hb hI.1.2.1, ba_out h1 hI.1.2.1, m_X5_cross_24, ev_b, ev_b2, ev_g, ev_gF, ev_on, ev_os, ev_cl, ev_in, ev_in6, ev_eq0, ev_lt0, ev_0le, ev_le0, ev_0lt, ev_lt, ev_le, ev_eq, ev_m1a, ev_m1b, ev_m1c, ev_m1d, ev_m1e, ev_n1, ev_n4, ev_n8, ev_n9, ev_n10, ev_n11, ev_n12, ev_n13, ev_n14, ev_n15, ev_n16, ev_n17, ev_n59, ev_n60, ev_n61, ev_n62, ev_n63, ev_n64, ev_n65, ev_n66, ev_n67, ev_n68, ev_n69, ev_n70, ev_n71, ev_n72, ev_n73, ev_n74, ev_n75, ev_n76, ev_n77, ev_n78, ev_n79, ev_n80, ev_k18, ev_k34, ev_k40, ev_n26, ev_n26b, ev_n46, ev_n46b, ev_n52b, ev_uq, ev_us, ev_uj, ev_lq, ev_ls, ev_lj, ev_urq, ev_urs, ev_ulq, ev_uls, nI_add, pk_sub, pk_mul, if_true, if_false, ite_true, ite_false, decide_true, decide_false, eq_self_iff_true, Nat.reduceEqDiff, Nat.reduceLeDiff, Nat.reduceLT, Nat.reduceAdd, Nat.reduceMul, Nat.reduceSub, Nat.reduceDiv, Nat.reduceMod, ↓reduceIte, rX1]
    · show m_X6_cross (nI b) a1 a2 _ ν = _
      simp -implicitDefEqProofs (disch := omega) only [m_X6_cross, m_X6_cross_16, bi2 hn hb hI.1.2.2, bo2 h1 hI.1.2.2, ev_b, ev_b2, ev_g, ev_gF, ev_on, ev_os, ev_cl, ev_in, ev_in6, ev_eq0, ev_lt0, ev_0le, ev_le0, ev_0lt, ev_lt, ev_le, ev_eq, ev_m1a, ev_m1b, ev_m1c, ev_m1d, ev_m1e, ev_n1, ev_n4, ev_n8, ev_n9, ev_n10, ev_n11, ev_n12, ev_n13, ev_n14, ev_n15, ev_n16, ev_n17, ev_n59, ev_n60, ev_n61, ev_n62, ev_n63, ev_n64, ev_n65, ev_n66, ev_n67, ev_n68, ev_n69, ev_n70, ev_n71, ev_n72, ev_n73, ev_n74, ev_n75, ev_n76, ev_n77, ev_n78, ev_n79, ev_n80, ev_k18, ev_k34, ev_k40, ev_n26, ev_n26b, ev_n46, ev_n46b, ev_n52b, ev_uq, ev_us, ev_uj, ev_lq, ev_ls, ev_lj, ev_urq, ev_urs, ev_ulq, ev_uls, nI_add, pk_sub, pk_mul, if_true, if_false, ite_true, ite_false, decide_true, decide_false, eq_self_iff_true, Nat.reduceEqDiff, Nat.reduceLeDiff, Nat.reduceLT, Nat.reduceAdd, Nat.reduceMul, Nat.reduceSub, Nat.reduceDiv, Nat.reduceMod, ↓reduceIte, rM1]
  rcases i_cases a2 1 (by decide) with h0 | ⟨b1, b2, b3, b4⟩ | ⟨k, hk, rfl⟩
  · have z0 : (a2 = 0) = False := eq_false (fun z => by rw [z] at h0; exact absurd h0 (by decide))
    have z1 : (a2 = nI 1) = False := eq_false (fun z => by rw [z] at h0; exact absurd h0 (by decide))
    refine op_rf h 5 (by decide) (r := -5) ?_ ?_
    · simp -implicitDefEqProofs (disch := omega) only [m_X5_cross, ba_in hn hb hI.1.2.1, ba_in hn hd hI.1.2.1, z0, z1, ev_b, ev_b2, ev_g, ev_gF, ev_on, ev_os, ev_cl, ev_in, ev_in6, ev_eq0, ev_lt0, ev_0le, ev_le0, ev_0lt, ev_lt, ev_le, ev_eq, ev_m1a, ev_m1b, ev_m1c, ev_m1d, ev_m1e, ev_n1, ev_n4, ev_n8, ev_n9, ev_n10, ev_n11, ev_n12, ev_n13, ev_n14, ev_n15, ev_n16, ev_n17, ev_n59, ev_n60, ev_n61, ev_n62, ev_n63, ev_n64, ev_n65, ev_n66, ev_n67, ev_n68, ev_n69, ev_n70, ev_n71, ev_n72, ev_n73, ev_n74, ev_n75, ev_n76, ev_n77, ev_n78, ev_n79, ev_n80, ev_k18, ev_k34, ev_k40, ev_n26, ev_n26b, ev_n46, ev_n46b, ev_n52b, ev_uq, ev_us, ev_uj, ev_lq, ev_ls, ev_lj, ev_urq, ev_urs, ev_ulq, ev_uls, nI_add, pk_sub, pk_mul, if_true, if_false, ite_true, ite_false, decide_true, decide_false, eq_self_iff_true, Nat.reduceEqDiff, Nat.reduceLeDiff, Nat.reduceLT, Nat.reduceAdd, Nat.reduceMul, Nat.reduceSub, Nat.reduceDiv, Nat.reduceMod, ↓reduceIte, rX5]
    · show m_X6_cross (nI b) (nI d) a2 _ ν = _
      simp -implicitDefEqProofs (disch := omega) only [m_X6_cross, m_X6_cross_31, bi2 hn hb hI.1.2.2, bi2 hn hd hI.1.2.2, h0, ev_b, ev_b2, ev_g, ev_gF, ev_on, ev_os, ev_cl, ev_in, ev_in6, ev_eq0, ev_lt0, ev_0le, ev_le0, ev_0lt, ev_lt, ev_le, ev_eq, ev_m1a, ev_m1b, ev_m1c, ev_m1d, ev_m1e, ev_n1, ev_n4, ev_n8, ev_n9, ev_n10, ev_n11, ev_n12, ev_n13, ev_n14, ev_n15, ev_n16, ev_n17, ev_n59, ev_n60, ev_n61, ev_n62, ev_n63, ev_n64, ev_n65, ev_n66, ev_n67, ev_n68, ev_n69, ev_n70, ev_n71, ev_n72, ev_n73, ev_n74, ev_n75, ev_n76, ev_n77, ev_n78, ev_n79, ev_n80, ev_k18, ev_k34, ev_k40, ev_n26, ev_n26b, ev_n46, ev_n46b, ev_n52b, ev_uq, ev_us, ev_uj, ev_lq, ev_ls, ev_lj, ev_urq, ev_urs, ev_ulq, ev_uls, nI_add, pk_sub, pk_mul, if_true, if_false, ite_true, ite_false, decide_true, decide_false, eq_self_iff_true, Nat.reduceEqDiff, Nat.reduceLeDiff, Nat.reduceLT, Nat.reduceAdd, Nat.reduceMul, Nat.reduceSub, Nat.reduceDiv, Nat.reduceMod, ↓reduceIte, rM5]
  · have z0 : (a2 = 0) = False := eq_false (fun z => by rw [z] at b4; exact absurd b4 (by decide))
    have z1 : (a2 = nI 1) = False := eq_false (fun z => by rw [z] at b4; exact absurd b4 (by decide))
    refine op_rf h 5 (by decide) (r := -5) ?_ ?_
    · simp -implicitDefEqProofs (disch := omega) only [m_X5_cross, ba_in hn hb hI.1.2.1, ba_in hn hd hI.1.2.1, z0, z1, ev_b, ev_b2, ev_g, ev_gF, ev_on, ev_os, ev_cl, ev_in, ev_in6, ev_eq0, ev_lt0, ev_0le, ev_le0, ev_0lt, ev_lt, ev_le, ev_eq, ev_m1a, ev_m1b, ev_m1c, ev_m1d, ev_m1e, ev_n1, ev_n4, ev_n8, ev_n9, ev_n10, ev_n11, ev_n12, ev_n13, ev_n14, ev_n15, ev_n16, ev_n17, ev_n59, ev_n60, ev_n61, ev_n62, ev_n63, ev_n64, ev_n65, ev_n66, ev_n67, ev_n68, ev_n69, ev_n70, ev_n71, ev_n72, ev_n73, ev_n74, ev_n75, ev_n76, ev_n77, ev_n78, ev_n79, ev_n80, ev_k18, ev_k34, ev_k40, ev_n26, ev_n26b, ev_n46, ev_n46b, ev_n52b, ev_uq, ev_us, ev_uj, ev_lq, ev_ls, ev_lj, ev_urq, ev_urs, ev_ulq, ev_uls, nI_add, pk_sub, pk_mul, if_true, if_false, ite_true, ite_false, decide_true, decide_false, eq_self_iff_true, Nat.reduceEqDiff, Nat.reduceLeDiff, Nat.reduceLT, Nat.reduceAdd, Nat.reduceMul, Nat.reduceSub, Nat.reduceDiv, Nat.reduceMod, ↓reduceIte, rX5]
    · show m_X6_cross (nI b) (nI d) a2 _ ν = _
      simp -implicitDefEqProofs (disch := omega) only [m_X6_cross, m_X6_cross_31, bi2 hn hb hI.1.2.2, bi2 hn hd hI.1.2.2, b1, b3, ev_b, ev_b2, ev_g, ev_gF, ev_on, ev_os, ev_cl, ev_in, ev_in6, ev_eq0, ev_lt0, ev_0le, ev_le0, ev_0lt, ev_lt, ev_le, ev_eq, ev_m1a, ev_m1b, ev_m1c, ev_m1d, ev_m1e, ev_n1, ev_n4, ev_n8, ev_n9, ev_n10, ev_n11, ev_n12, ev_n13, ev_n14, ev_n15, ev_n16, ev_n17, ev_n59, ev_n60, ev_n61, ev_n62, ev_n63, ev_n64, ev_n65, ev_n66, ev_n67, ev_n68, ev_n69, ev_n70, ev_n71, ev_n72, ev_n73, ev_n74, ev_n75, ev_n76, ev_n77, ev_n78, ev_n79, ev_n80, ev_k18, ev_k34, ev_k40, ev_n26, ev_n26b, ev_n46, ev_n46b, ev_n52b, ev_uq, ev_us, ev_uj, ev_lq, ev_ls, ev_lj, ev_urq, ev_urs, ev_ulq, ev_uls, nI_add, pk_sub, pk_mul, if_true, if_false, ite_true, ite_false, decide_true, decide_false, eq_self_iff_true, Nat.reduceEqDiff, Nat.reduceLeDiff, Nat.reduceLT, Nat.reduceAdd, Nat.reduceMul, Nat.reduceSub, Nat.reduceDiv, Nat.reduceMod, ↓reduceIte, rM5]
  have X0 : m_X5_cross (nI b) (nI d) (nI k) μ ν = m_X5_cross_45 (nI b) (nI d) (nI k) (34 + b) (34 + d) μ ν := by
    rcases (by omega : k = 0 ∨ k = 1) with rfl | rfl
    · simp -implicitDefEqProofs (disch := omega) only [m_X5_cross, ba_in hn hb hI.1.2.1, ba_in hn hd hI.1.2.1, ev_b, ev_b2, ev_g, ev_gF, ev_on, ev_os, ev_cl, ev_in, ev_in6, ev_eq0, ev_lt0, ev_0le, ev_le0, ev_0lt, ev_lt, ev_le, ev_eq, ev_m1a, ev_m1b, ev_m1c, ev_m1d, ev_m1e, ev_n1, ev_n4, ev_n8, ev_n9, ev_n10, ev_n11, ev_n12, ev_n13, ev_n14, ev_n15, ev_n16, ev_n17, ev_n59, ev_n60, ev_n61, ev_n62, ev_n63, ev_n64, ev_n65, ev_n66, ev_n67, ev_n68, ev_n69, ev_n70, ev_n71, ev_n72, ev_n73, ev_n74, ev_n75, ev_n76, ev_n77, ev_n78, ev_n79, ev_n80, ev_k18, ev_k34, ev_k40, ev_n26, ev_n26b, ev_n46, ev_n46b, ev_n52b, ev_uq, ev_us, ev_uj, ev_lq, ev_ls, ev_lj, ev_urq, ev_urs, ev_ulq, ev_uls, nI_add, pk_sub, pk_mul, if_true, if_false, ite_true, ite_false, decide_true, decide_false, eq_self_iff_true, Nat.reduceEqDiff, Nat.reduceLeDiff, Nat.reduceLT, Nat.reduceAdd, Nat.reduceMul, Nat.reduceSub, Nat.reduceDiv, Nat.reduceMod, ↓reduceIte]
    · simp -implicitDefEqProofs (disch := omega) only [m_X5_cross, ba_in hn hb hI.1.2.1, ba_in hn hd hI.1.2.1, ev_b, ev_b2, ev_g, ev_gF, ev_on, ev_os, ev_cl, ev_in, ev_in6, ev_eq0, ev_lt0, ev_0le, ev_le0, ev_0lt, ev_lt, ev_le, ev_eq, ev_m1a, ev_m1b, ev_m1c, ev_m1d, ev_m1e, ev_n1, ev_n4, ev_n8, ev_n9, ev_n10, ev_n11, ev_n12, ev_n13, ev_n14, ev_n15, ev_n16, ev_n17, ev_n59, ev_n60, ev_n61, ev_n62, ev_n63, ev_n64, ev_n65, ev_n66, ev_n67, ev_n68, ev_n69, ev_n70, ev_n71, ev_n72, ev_n73, ev_n74, ev_n75, ev_n76, ev_n77, ev_n78, ev_n79, ev_n80, ev_k18, ev_k34, ev_k40, ev_n26, ev_n26b, ev_n46, ev_n46b, ev_n52b, ev_uq, ev_us, ev_uj, ev_lq, ev_ls, ev_lj, ev_urq, ev_urs, ev_ulq, ev_uls, nI_add, pk_sub, pk_mul, if_true, if_false, ite_true, ite_false, decide_true, decide_false, eq_self_iff_true, Nat.reduceEqDiff, Nat.reduceLeDiff, Nat.reduceLT, Nat.reduceAdd, Nat.reduceMul, Nat.reduceSub, Nat.reduceDiv, Nat.reduceMod, ↓reduceIte]
  by_cases bd : b = d
  · subst bd
    rw [X0]
    refine op_rf h 6 (by decide) (r := -6) ?_ ?_
    · rw [m_X5_cross_45, if_pos rfl, rX6, ev_b]
    · show m_X6_cross (nI b) (nI b) (nI k) _ ν = _
      simp -implicitDefEqProofs (disch := omega) only [m_X6_cross, bi2 hn hb hI.1.2.2, hk, ev_b, ev_b2, ev_g, ev_gF, ev_on, ev_os, ev_cl, ev_in, ev_in6, ev_eq0, ev_lt0, ev_0le, ev_le0, ev_0lt, ev_lt, ev_le, ev_eq, ev_m1a, ev_m1b, ev_m1c, ev_m1d, ev_m1e, ev_n1, ev_n4, ev_n8, ev_n9, ev_n10, ev_n11, ev_n12, ev_n13, ev_n14, ev_n15, ev_n16, ev_n17, ev_n59, ev_n60, ev_n61, ev_n62, ev_n63, ev_n64, ev_n65, ev_n66, ev_n67, ev_n68, ev_n69, ev_n70, ev_n71, ev_n72, ev_n73, ev_n74, ev_n75, ev_n76, ev_n77, ev_n78, ev_n79, ev_n80, ev_k18, ev_k34, ev_k40, ev_n26, ev_n26b, ev_n46, ev_n46b, ev_n52b, ev_uq, ev_us, ev_uj, ev_lq, ev_ls, ev_lj, ev_urq, ev_urs, ev_ulq, ev_uls, nI_add, pk_sub, pk_mul, if_true, if_false, ite_true, ite_false, decide_true, decide_false, eq_self_iff_true, Nat.reduceEqDiff, Nat.reduceLeDiff, Nat.reduceLT, Nat.reduceAdd, Nat.reduceMul, Nat.reduceSub, Nat.reduceDiv, Nat.reduceMod, ↓reduceIte, rM6]
  obtain ⟨d1, d2, d3⟩ := hI.2.1 b hb
  obtain ⟨e1, e2, e3⟩ := hI.2.1 d hd
  obtain ⟨c0, c1, c2, c3, c4, c5, c6⟩ := id d1
  obtain ⟨f0, f1, f2, f3, f4, f5, f6⟩ := id e1
  have X1 : m_X5_cross (nI b) (nI d) (nI k) μ ν = some (nI (cA k (F b 1 % 2) (F d 1 % 2) (F b 3) (F d 3)), μ, ν) := by
    rw [X0, m_X5_cross_45, if_neg (by rw [nI_eq (by omega) (by omega)]; exact bd), ev_k34 (by omega), ev_g, d2.2.1, odd_X _ (by omega), ev_b, ev_k34 (by omega), ev_g, e2.2.1, odd_X _ (by omega), ev_b]
    rcases (by omega : k = 0 ∨ k = 1) with rfl | rfl <;> rcases (by omega : F b 1 % 2 = 0 ∨ F b 1 % 2 = 1) with o1 | o1 <;> rcases (by omega : F d 1 % 2 = 0 ∨ F d 1 % 2 = 1) with o2 | o2
    · rw [o1, o2]; rfl
    · rw [o1, o2]; rfl
    · rw [o1, o2]; rfl
    · rw [o1, o2]; rfl
    · rw [o1, o2]; rfl
    · rw [o1, o2]; rfl
    · rw [o1, o2]; rfl
    · rw [o1, o2, if_neg (by decide), if_neg (by decide), m_X5_cross_84, if_neg (by decide), if_neg (by decide), ev_k34 (by omega), ev_g, ev_k34 (by omega), ev_g, d2.2.2.2.1, e2.2.2.2.1, cA, if_neg (show ¬ ((1 : Nat) = 0) by decide), m_X5_cross_123]
      by_cases z : F b 3 = F d 3
      · rw [if_pos (by rw [z]), if_neg (fun w => w.2.2 z)]
      · rw [if_neg (by rw [nI_eq (by omega) (by omega)]; exact z), if_pos ⟨rfl, rfl, z⟩]
  obtain ⟨μ1, p1, k1, r1⟩ := fill_79 (nI b) (nI d) (nI k) (fun μ53 ν53 => fm_g (fm_in (nI b) (fm_n 61)) (if (((μ53 61 (nI b).toNatClampNeg)) - ((μ53 61 (nI b).toNatClampNeg)) / ((nI 2)) * ((nI 2))) = (nI 1) then m_X6_cross_91 (nI b) (nI d) (nI k) ((nI 1)) μ53 ν53 else m_X6_cross_91 (nI b) (nI d) (nI k) ((nI 0)) μ53 ν53)) μ ν
  obtain ⟨μ2, k2, r2, p2⟩ := joins_4 (F b 1 % 2) (F d 1 % 2) (F d 1) (by omega) rfl f1 b d (by omega) (nI k) ν (show μ1 61 d = nI (F d 1) by rw [k1 61 (by decide)]; exact e3.2.1) r1
  have kk : ∀ q, q ≠ 79 → μ2 q = μ q := fun q hq => (k2 q hq).trans (k1 q hq)
  refine op_mk (r := nI (cA k (F b 1 % 2) (F d 1 % 2) (F b 3) (F d 3))) (μ1 := μ) (ν1 := ν) (μ2 := μ2) (ν2 := ν) X1 ?_ (inv_scr h (fun q hq => kk q (by omega)) (fun j _ => by rw [kk 58 (by decide)]) (fun _ _ => rfl))
  show m_X6_cross (nI b) (nI d) (nI k) μ ν = _
  have M0 : m_X6_cross (nI b) (nI d) (nI k) μ ν = m_X6_cross_91 (nI b) (nI d) (nI k) (nI (F b 1 % 2)) μ1 ν := by
    rw [m_X6_cross, bd_inM hn hb hI.1.2.2, ev_b, if_neg (by decide), bd_inM hn hd hI.1.2.2, ev_b, if_neg (by decide), if_neg (nI_pos (by omega)), if_pos (by rw [nI_leI (by omega) (by omega)]; exact hk), if_neg (by rw [nI_eq (by omega) (by omega)]; exact bd), p1, ev_in (by rw [ev_n61]; omega) (by omega), ev_g, ev_cl (by omega), k1 61 (by decide), d3.2.1, pk_rem (by omega) (by decide) (by decide)]
    rcases (by omega : F b 1 % 2 = 0 ∨ F b 1 % 2 = 1) with o | o
    · rw [o, if_neg (by decide)]
    · rw [o, if_pos rfl]
  have hA : (μ2 63 b = nI (F b 3)) ∧ μ2 63 d = nI (F d 3) := ⟨by rw [kk 63 (by decide)]; exact d3.2.2.2.1, by rw [kk 63 (by decide)]; exact e3.2.2.2.1⟩
  rw [M0, p2, mask_178 _ _ _ _ ν _ r2, show ((((nI 0 ||| (nI 1 <<< (nI (cf (F b 1 % 2) (F d 1 % 2) 0) &&& 31))) ||| (nI 1 <<< (nI (cf (F b 1 % 2) (F d 1 % 2) 1) &&& 31))) ||| (nI 1 <<< (nI (cf (F b 1 % 2) (F d 1 % 2) 2) &&& 31))) ||| (nI 1 <<< (nI (cf (F b 1 % 2) (F d 1 % 2) 3) &&& 31))) = cM (cf (F b 1 % 2) (F d 1 % 2)) from rfl, count_M, ev_b, ev_b, show ((List.range 12).foldl (fun a j => a + ((cM (cf (F b 1 % 2) (F d 1 % 2)) >>> (nI (0 + j) &&& 31)) &&& nI 1)) (nI 0)) = cC (cM (cf (F b 1 % 2) (F d 1 % 2))) from rfl, cC_of (by omega) (by omega), ev_cl (by omega), ev_cl (by omega), hA.1, hA.2, ev_in (by rw [show fm_n 63 = 6 from rfl]; omega) (by omega), ev_g, ev_in (by rw [show fm_n 63 = 6 from rfl]; omega) (by omega), ev_g, m_X6_cross_244, cA]
  rcases (by omega : k = 0 ∨ k = 1) with rfl | rfl
  · rw [if_pos rfl, if_pos (show nI 0 = 0 from rfl)]
  · rw [if_neg (show ¬ (nI 1 = 0) by decide), if_neg (show ¬ ((1 : Nat) = 0) by decide)]
    by_cases o : F b 1 % 2 = 1 ∧ F d 1 % 2 = 1
    · rw [if_pos o, if_pos rfl]
      by_cases z : F b 3 = F d 3
      · rw [if_pos (by rw [z]), if_neg (fun w => w.2.2 z)]
      · rw [if_neg (by rw [nI_eq (by omega) (by omega)]; exact z), if_pos ⟨o.1, o.2, z⟩]
    · rw [if_neg o, if_neg (show ¬ (nI 1 = nI 2) by decide), if_neg (fun w => o ⟨w.1, w.2.1⟩)]
