/-! CUT IN TRUTH, STATUS, SAYS -/
theorem cut_fin {n b T : Nat} {F : Nat → Nat → Nat} {μ μ1 μ2 : fm_I} {ν : fm_L} (hI : pa_In n F μ ν) (hb : b < n) (hB : pa_B (fU F b 1 T b)) (v : Int32) (x : ∀ q, q ≠ 5 → q ≠ 9 → q ≠ 10 → q ≠ 11 → μ1 q = μ q) (m : ∀ q, q ≠ 76 → q ≠ 77 → q ≠ 58 → μ2 q = (fm_u (fm_u μ1 (34 + b) 3 (nI T)) 0 9 v) q) (m58 : ∀ j, j ≠ 28 → μ2 58 j = (fm_u (fm_u μ1 (34 + b) 3 (nI T)) 0 9 v) 58 j) : Inv (fm_u (fm_u μ2 61 b (nI T)) 58 1 v) ν := by
  have hn := hI.1.1
  have A := fld_inv hI (k := 1) (t := T) hb (by decide) hB
  have B := inv_sc ⟨n, _, A⟩ 9 1 v (Or.inr (Or.inl ⟨rfl, rfl⟩))
  refine inv_scr B (fun q hq => ?_) (fun j hj => ?_) (fun _ _ => rfl)
  · rw [ev_uq (by omega), ev_uq (show q ≠ 58 by omega)]
    by_cases c1 : q = 61
    · subst c1
      rw [fm_u_self, ev_uq (by decide), show (60 + 1 : Nat) = 61 from rfl, fm_u_self, m 61 (by decide) (by decide) (by decide), ev_uq (by decide), ev_uq (by omega), ev_uq (by omega), x 61 (by decide) (by decide) (by decide) (by decide)]
    · rw [ev_uq c1, m q (by omega) (by omega) (by omega)]
      by_cases c2 : q = 0
      · subst c2
        rw [fm_u_self, fm_u_self, ev_uq (by omega), ev_uq (by omega), ev_uq (by omega), x 0 (by decide) (by decide) (by decide) (by decide)]
      · rw [ev_uq c2, ev_uq c2, ev_uq (show q ≠ 60 + 1 by omega)]
        by_cases c3 : q = 34 + b
        · subst c3
          rw [fm_u_self, fm_u_self, x (34 + b) (by omega) (by omega) (by omega) (by omega)]
        · rw [ev_uq c3, ev_uq c3, x q (by omega) (by omega) (by omega) (by omega)]
  · by_cases c : j = 1
    · subst c
      rw [ev_us, ev_us]
    · rw [ev_uj c, ev_uj c, ev_uq (by decide), m58 j (by omega), ev_uq (by decide), ev_uq (by omega), x 58 (by decide) (by decide) (by decide) (by decide), ev_uq (by decide), ev_uq (by decide), ev_uq (by omega)]
theorem op_cut {μ : fm_I} {ν : fm_L} (h : Inv μ ν) (a0 : Int32) (a1 : Int32) : pa_op (m_X5_cut a0 a1 μ ν) (fun μ ν => m_X6_cut a0 a1 μ ν) := by
  obtain ⟨n, F, hI⟩ := id h
  have hn := hI.1.1
  rcases bd_cases a0 hn with h0 | ⟨b, hb, rfl⟩
  · refine op_rf h 1 (by decide) (r := -1) ?_ ?_
    · simp -implicitDefEqProofs (disch := omega) only [m_X5_cut, ba_out h0 hI.1.2.1, ev_b, ev_b2, ev_g, ev_gF, ev_on, ev_os, ev_cl, ev_in, ev_in6, ev_eq0, ev_lt0, ev_0le, ev_le0, ev_0lt, ev_lt, ev_le, ev_eq, ev_m1a, ev_m1b, ev_m1c, ev_m1d, ev_m1e, ev_n1, ev_n4, ev_n8, ev_n9, ev_n10, ev_n11, ev_n12, ev_n13, ev_n14, ev_n15, ev_n16, ev_n17, ev_n59, ev_n60, ev_n61, ev_n62, ev_n63, ev_n64, ev_n65, ev_n66, ev_n67, ev_n68, ev_n69, ev_n70, ev_n71, ev_n72, ev_n73, ev_n74, ev_n75, ev_n76, ev_n77, ev_n78, ev_n79, ev_n80, ev_k18, ev_k34, ev_k40, ev_n26, ev_n26b, ev_n46, ev_n46b, ev_n52b, ev_uq, ev_us, ev_uj, ev_lq, ev_ls, ev_lj, ev_urq, ev_urs, ev_ulq, ev_uls, nI_add, pk_sub, pk_mul, if_true, if_false, ite_true, ite_false, decide_true, decide_false, eq_self_iff_true, Nat.reduceEqDiff, Nat.reduceLeDiff, Nat.reduceLT, Nat.reduceAdd, Nat.reduceMul, Nat.reduceSub, Nat.reduceDiv, Nat.reduceMod, ↓reduceIte, rX1]
    · show m_X6_cut a0 a1 _ ν = _
      simp -implicitDefEqProofs (disch := omega) only [m_X6_cut, m_X6_isPiece, bo2 h0 hI.1.2.2, ev_b, ev_b2, ev_g, ev_gF, ev_on, ev_os, ev_cl, ev_in, ev_in6, ev_eq0, ev_lt0, ev_0le, ev_le0, ev_0lt, ev_lt, ev_le, ev_eq, ev_m1a, ev_m1b, ev_m1c, ev_m1d, ev_m1e, ev_n1, ev_n4, ev_n8, ev_n9, ev_n10, ev_n11, ev_n12, ev_n13, ev_n14, ev_n15, ev_n16, ev_n17, ev_n59, ev_n60, ev_n61, ev_n62, ev_n63, ev_n64, ev_n65, ev_n66, ev_n67, ev_n68, ev_n69, ev_n70, ev_n71, ev_n72, ev_n73, ev_n74, ev_n75, ev_n76, ev_n77, ev_n78, ev_n79, ev_n80, ev_k18, ev_k34, ev_k40, ev_n26, ev_n26b, ev_n46, ev_n46b, ev_n52b, ev_uq, ev_us, ev_uj, ev_lq, ev_ls, ev_lj, ev_urq, ev_urs, ev_ulq, ev_uls, nI_add, pk_sub, pk_mul, if_true, if_false, ite_true, ite_false, decide_true, decide_false, eq_self_iff_true, Nat.reduceEqDiff, Nat.reduceLeDiff, Nat.reduceLT, Nat.reduceAdd, Nat.reduceMul, Nat.reduceSub, Nat.reduceDiv, Nat.reduceMod, ↓reduceIte, rM1]
  obtain ⟨d1, d2, d3⟩ := hI.2.1 b hb
  have ok := okP_of d1
  have cc := pC_le ok
  obtain ⟨μ1, p1, p3, p2, rf, is, _⟩ := laid_all h hI hb
  rcases st_cases a1 (n := pC (F b 0) (F b 2) (F b 4) (F b 1 % 2)) (by omega) with h2 | ⟨p, hp, rfl⟩
  · obtain ⟨μ2, _, z2, _, _, z5⟩ := rf 1 (by decide) a1
    refine op_mk (r := -1) (μ1 := fm_u μ1 4 1 (μ1 4 1 + nI 1)) (ν1 := ν) (μ2 := fm_u μ2 59 1 (μ2 59 1 + nI 1)) (ν2 := ν) ?_ ?_ z5
    · simp -implicitDefEqProofs (disch := omega) only [m_X5_cut, ba_in hn hb hI.1.2.1, p1, has_O p3 h2, rX1, ev_b, ev_b2, ev_g, ev_gF, ev_on, ev_os, ev_cl, ev_in, ev_in6, ev_eq0, ev_lt0, ev_0le, ev_le0, ev_0lt, ev_lt, ev_le, ev_eq, ev_m1a, ev_m1b, ev_m1c, ev_m1d, ev_m1e, ev_n1, ev_n4, ev_n8, ev_n9, ev_n10, ev_n11, ev_n12, ev_n13, ev_n14, ev_n15, ev_n16, ev_n17, ev_n59, ev_n60, ev_n61, ev_n62, ev_n63, ev_n64, ev_n65, ev_n66, ev_n67, ev_n68, ev_n69, ev_n70, ev_n71, ev_n72, ev_n73, ev_n74, ev_n75, ev_n76, ev_n77, ev_n78, ev_n79, ev_n80, ev_k18, ev_k34, ev_k40, ev_n26, ev_n26b, ev_n46, ev_n46b, ev_n52b, ev_uq, ev_us, ev_uj, ev_lq, ev_ls, ev_lj, ev_urq, ev_urs, ev_ulq, ev_uls, nI_add, pk_sub, pk_mul, if_true, if_false, ite_true, ite_false, decide_true, decide_false, eq_self_iff_true, Nat.reduceEqDiff, Nat.reduceLeDiff, Nat.reduceLT, Nat.reduceAdd, Nat.reduceMul, Nat.reduceSub, Nat.reduceDiv, Nat.reduceMod, ↓reduceIte]
    · show m_X6_cut (nI b) a1 _ ν = _
      simp -implicitDefEqProofs (disch := omega) only [m_X6_cut, z2 h2, rM1, ev_b, ev_b2, ev_g, ev_gF, ev_on, ev_os, ev_cl, ev_in, ev_in6, ev_eq0, ev_lt0, ev_0le, ev_le0, ev_0lt, ev_lt, ev_le, ev_eq, ev_m1a, ev_m1b, ev_m1c, ev_m1d, ev_m1e, ev_n1, ev_n4, ev_n8, ev_n9, ev_n10, ev_n11, ev_n12, ev_n13, ev_n14, ev_n15, ev_n16, ev_n17, ev_n59, ev_n60, ev_n61, ev_n62, ev_n63, ev_n64, ev_n65, ev_n66, ev_n67, ev_n68, ev_n69, ev_n70, ev_n71, ev_n72, ev_n73, ev_n74, ev_n75, ev_n76, ev_n77, ev_n78, ev_n79, ev_n80, ev_k18, ev_k34, ev_k40, ev_n26, ev_n26b, ev_n46, ev_n46b, ev_n52b, ev_uq, ev_us, ev_uj, ev_lq, ev_ls, ev_lj, ev_urq, ev_urs, ev_ulq, ev_uls, nI_add, pk_sub, pk_mul, if_true, if_false, ite_true, ite_false, decide_true, decide_false, eq_self_iff_true, Nat.reduceEqDiff, Nat.reduceLeDiff, Nat.reduceLT, Nat.reduceAdd, Nat.reduceMul, Nat.reduceSub, Nat.reduceDiv, Nat.reduceMod, ↓reduceIte]
  have tl := tn_lt (t := F b 1) (c := cn (pR (F b 0) (F b 2) (F b 4) (F b 1 % 2)) p (F b 2)) ok.2.2.2.2.2 (by have := (cn_pos ok hp).2; omega)
  by_cases w : tn (F b 1) (cn (pR (F b 0) (F b 2) (F b 4) (F b 1 % 2)) p (F b 2)) ≤ 9999
  · have w' : (tn (F b 1) (cn (pR (F b 0) (F b 2) (F b 4) (F b 1 % 2)) p (F b 2)) ≤ 9999) = True := eq_true w
    have tX := turns_X ok p3 hp ν
    generalize hT : tn (F b 1) (cn (pR (F b 0) (F b 2) (F b 4) (F b 1 % 2)) p (F b 2)) = T at *
    have e58 : μ1 58 0 = nI n := by rw [p2 58 (by decide) (by decide) (by decide) (by decide)]; exact hI.1.2.2
    have d3' := kp_M (μ' := μ1) d3 (fun q z1 z2 => p2 q (by omega) (by omega) (by omega) (by omega))
    have d4 : pa_M (F b) b (fm_u (fm_u μ1 (34 + b) 3 (nI T)) 0 9 (μ 0 9 + nI (F b 2 - 1))) := kp_M d3' (fun q z1 z2 => by rw [ev_uq (by omega), ev_uq (by omega)])
    obtain ⟨μ2, z1, z2, z3, z4, z5⟩ := isP_in (v := nI p) (μ := fm_u (fm_u μ1 (34 + b) 3 (nI T)) 0 9 (μ 0 9 + nI (F b 2 - 1))) ν hn hb (by rw [ev_uq (by decide), ev_uq (by omega)]; exact e58) d1 d4
    have d5 := kp_M (μ' := μ2) d4 (fun q x1 x2 => z3 q (by omega) (by omega) (by omega))
    have y := turns_M ok (by omega) d5.2.1 z5 hp ν
    rw [hT] at y
    have e9 : μ1 0 9 = μ 0 9 := by rw [p2 0 (by decide) (by decide) (by decide) (by decide)]
    have e4 : μ1 (34 + b) 4 = nI (F b 2) := by rw [p2 (34 + b) (by omega) (by omega) (by omega) (by omega)]; exact d2.2.2.1
    have e1 : μ2 58 1 = μ 0 9 := by
      rw [z4 1 (by decide), ev_uq (by decide), ev_uq (by omega), p2 58 (by decide) (by decide) (by decide) (by decide)]
      exact hI.2.2.2.1.2.1
    refine op_mk (r := nI T) (μ1 := fm_u (fm_u μ1 (34 + b) 3 (nI T)) 0 9 (μ 0 9 + nI (F b 2 - 1))) (ν1 := ν) (μ2 := fm_u (fm_u μ2 61 b (nI T)) 58 1 (μ 0 9 + nI (F b 2 - 1))) (ν2 := ν) ?_ ?_ (cut_fin hI hb ?_ _ p2 z3 z4)
    · simp -implicitDefEqProofs (disch := omega) only [m_X5_cut, ba_in hn hb hI.1.2.1, p1, has_X ok p3 hp, tX, w', e9, e4, ok.2.1, ev_b, ev_b2, ev_g, ev_gF, ev_on, ev_os, ev_cl, ev_in, ev_in6, ev_eq0, ev_lt0, ev_0le, ev_le0, ev_0lt, ev_lt, ev_le, ev_eq, ev_m1a, ev_m1b, ev_m1c, ev_m1d, ev_m1e, ev_n1, ev_n4, ev_n8, ev_n9, ev_n10, ev_n11, ev_n12, ev_n13, ev_n14, ev_n15, ev_n16, ev_n17, ev_n59, ev_n60, ev_n61, ev_n62, ev_n63, ev_n64, ev_n65, ev_n66, ev_n67, ev_n68, ev_n69, ev_n70, ev_n71, ev_n72, ev_n73, ev_n74, ev_n75, ev_n76, ev_n77, ev_n78, ev_n79, ev_n80, ev_k18, ev_k34, ev_k40, ev_n26, ev_n26b, ev_n46, ev_n46b, ev_n52b, ev_uq, ev_us, ev_uj, ev_lq, ev_ls, ev_lj, ev_urq, ev_urs, ev_ulq, ev_uls, nI_add, pk_sub, pk_mul, if_true, if_false, ite_true, ite_false, decide_true, decide_false, eq_self_iff_true, Nat.reduceEqDiff, Nat.reduceLeDiff, Nat.reduceLT, Nat.reduceAdd, Nat.reduceMul, Nat.reduceSub, Nat.reduceDiv, Nat.reduceMod, ↓reduceIte]
    · show m_X6_cut (nI b) (nI p) _ ν = _
      simp -implicitDefEqProofs (disch := omega) only [m_X6_cut, z1 p hp rfl, y, w', e1, d5.2.2.1, ok.2.1, ev_b, ev_b2, ev_g, ev_gF, ev_on, ev_os, ev_cl, ev_in, ev_in6, ev_eq0, ev_lt0, ev_0le, ev_le0, ev_0lt, ev_lt, ev_le, ev_eq, ev_m1a, ev_m1b, ev_m1c, ev_m1d, ev_m1e, ev_n1, ev_n4, ev_n8, ev_n9, ev_n10, ev_n11, ev_n12, ev_n13, ev_n14, ev_n15, ev_n16, ev_n17, ev_n59, ev_n60, ev_n61, ev_n62, ev_n63, ev_n64, ev_n65, ev_n66, ev_n67, ev_n68, ev_n69, ev_n70, ev_n71, ev_n72, ev_n73, ev_n74, ev_n75, ev_n76, ev_n77, ev_n78, ev_n79, ev_n80, ev_k18, ev_k34, ev_k40, ev_n26, ev_n26b, ev_n46, ev_n46b, ev_n52b, ev_uq, ev_us, ev_uj, ev_lq, ev_ls, ev_lj, ev_urq, ev_urs, ev_ulq, ev_uls, nI_add, pk_sub, pk_mul, if_true, if_false, ite_true, ite_false, decide_true, decide_false, eq_self_iff_true, Nat.reduceEqDiff, Nat.reduceLeDiff, Nat.reduceLT, Nat.reduceAdd, Nat.reduceMul, Nat.reduceSub, Nat.reduceDiv, Nat.reduceMod, ↓reduceIte]
    · obtain ⟨c0, c1, c2, c3, c4, c5, c6⟩ := d1
      refine ⟨?_, ?_, ?_, ?_, ?_, ?_, fun i hi => ?_⟩
      · rw [fU_n (by omega)]; exact c0
      · rw [fU_s]; exact w
      · rw [fU_n (by omega)]; exact c2
      · rw [fU_n (by omega)]; exact c3
      · rw [fU_n (by omega)]; exact c4
      · rw [fU_n (by omega)]; exact c5
      · rw [fU_n (by omega)]; exact c6 i hi
  · have w' : (tn (F b 1) (cn (pR (F b 0) (F b 2) (F b 4) (F b 1 % 2)) p (F b 2)) ≤ 9999) = False := eq_false w
    obtain ⟨μ2, z1, z2, z3, z4, z5⟩ := rf 7 (by decide) (nI p)
    refine op_mk (r := -7) (μ1 := fm_u μ1 4 7 (μ1 4 7 + nI 1)) (ν1 := ν) (μ2 := fm_u μ2 59 7 (μ2 59 7 + nI 1)) (ν2 := ν) ?_ ?_ z5
    · simp -implicitDefEqProofs (disch := omega) only [m_X5_cut, ba_in hn hb hI.1.2.1, p1, has_X ok p3 hp, turns_X ok p3 hp, w', rX7, ev_b, ev_b2, ev_g, ev_gF, ev_on, ev_os, ev_cl, ev_in, ev_in6, ev_eq0, ev_lt0, ev_0le, ev_le0, ev_0lt, ev_lt, ev_le, ev_eq, ev_m1a, ev_m1b, ev_m1c, ev_m1d, ev_m1e, ev_n1, ev_n4, ev_n8, ev_n9, ev_n10, ev_n11, ev_n12, ev_n13, ev_n14, ev_n15, ev_n16, ev_n17, ev_n59, ev_n60, ev_n61, ev_n62, ev_n63, ev_n64, ev_n65, ev_n66, ev_n67, ev_n68, ev_n69, ev_n70, ev_n71, ev_n72, ev_n73, ev_n74, ev_n75, ev_n76, ev_n77, ev_n78, ev_n79, ev_n80, ev_k18, ev_k34, ev_k40, ev_n26, ev_n26b, ev_n46, ev_n46b, ev_n52b, ev_uq, ev_us, ev_uj, ev_lq, ev_ls, ev_lj, ev_urq, ev_urs, ev_ulq, ev_uls, nI_add, pk_sub, pk_mul, if_true, if_false, ite_true, ite_false, decide_true, decide_false, eq_self_iff_true, Nat.reduceEqDiff, Nat.reduceLeDiff, Nat.reduceLT, Nat.reduceAdd, Nat.reduceMul, Nat.reduceSub, Nat.reduceDiv, Nat.reduceMod, ↓reduceIte]
    · show m_X6_cut (nI b) (nI p) _ ν = _
      simp -implicitDefEqProofs (disch := omega) only [m_X6_cut, z1 p hp rfl, turns_M ok (show b < 6 by omega) z3.2.1 z4 hp ν, w', rM7, ev_b, ev_b2, ev_g, ev_gF, ev_on, ev_os, ev_cl, ev_in, ev_in6, ev_eq0, ev_lt0, ev_0le, ev_le0, ev_0lt, ev_lt, ev_le, ev_eq, ev_m1a, ev_m1b, ev_m1c, ev_m1d, ev_m1e, ev_n1, ev_n4, ev_n8, ev_n9, ev_n10, ev_n11, ev_n12, ev_n13, ev_n14, ev_n15, ev_n16, ev_n17, ev_n59, ev_n60, ev_n61, ev_n62, ev_n63, ev_n64, ev_n65, ev_n66, ev_n67, ev_n68, ev_n69, ev_n70, ev_n71, ev_n72, ev_n73, ev_n74, ev_n75, ev_n76, ev_n77, ev_n78, ev_n79, ev_n80, ev_k18, ev_k34, ev_k40, ev_n26, ev_n26b, ev_n46, ev_n46b, ev_n52b, ev_uq, ev_us, ev_uj, ev_lq, ev_ls, ev_lj, ev_urq, ev_urs, ev_ulq, ev_uls, nI_add, pk_sub, pk_mul, if_true, if_false, ite_true, ite_false, decide_true, decide_false, eq_self_iff_true, Nat.reduceEqDiff, Nat.reduceLeDiff, Nat.reduceLT, Nat.reduceAdd, Nat.reduceMul, Nat.reduceSub, Nat.reduceDiv, Nat.reduceMod, ↓reduceIte]
/-! STATUS -/
def sC (F : Nat → Nat → Nat) : Nat → Nat
  | 0 => 0
  | b + 1 => sC F b + pC (F b 0) (F b 2) (F b 4) (F b 1 % 2)
theorem poa_X {n : Nat} {F : Nat → Nat → Nat} (hn : n ≤ 6) (hB : ∀ b, b < n → pa_B (F b)) (K : Int32 → fm_I → fm_L → Option (Int32 × fm_I × fm_L)) : ∀ (d i fuel : Nat) (μ : fm_I) (ν : fm_L), i + d = n → d < fuel → μ 0 7 = nI n → (∀ b, b < n → pa_X (F b) (34 + b) μ) → ∃ μ', m_X5_piecesOfAll_4 K fuel (nI (sC F i)) (nI i) μ ν = K (nI (sC F n)) μ' ν ∧ ∀ q, q ≠ 5 → q ≠ 9 → q ≠ 10 → q ≠ 11 → μ' q = μ q := by
  intro d
  induction d with
  | zero =>
    intro i fuel μ ν hi hf' h0 hX
    obtain ⟨f, rfl⟩ : ∃ j, fuel = j + 1 := ⟨fuel - 1, by omega⟩
    obtain rfl : i = n := by omega
    refine ⟨μ, ?_, fun _ _ _ _ _ => rfl⟩
    rw [m_X5_piecesOfAll_4, h0, if_pos (le_i (by omega) (by omega))]
  | succ d ih =>
    intro i fuel μ ν hi hf' h0 hX
    obtain ⟨f, rfl⟩ : ∃ j, fuel = j + 1 := ⟨fuel - 1, by omega⟩
    obtain ⟨μ1, p1, p2, p3⟩ := laidX ν (show i < 6 by omega) (hB i (by omega)) (hX i (by omega))
    obtain ⟨μ', q1, q2⟩ := ih (i + 1) f μ1 ν (by omega) (by omega) (by rw [p2 0 (by decide) (by decide) (by decide) (by decide)]; exact h0) (fun b hb => kp_X (hX b hb) (p2 _ (by omega) (by omega) (by omega) (by omega)) (p2 _ (by omega) (by omega) (by omega) (by omega)))
    refine ⟨μ', ?_, fun q y1 y2 y3 y4 => by rw [q2 q y1 y2 y3 y4, p2 q y1 y2 y3 y4]⟩
    rw [m_X5_piecesOfAll_4, h0, if_neg (nle_i (by omega) (by omega)), if_neg (nle_i (by omega) (by omega)), ev_in (by omega) (by omega), ev_g, ev_cl (by omega), p1, ev_b]
    show m_X5_piecesOfAll_4 K f (nI (sC F i) + μ1 5 0) (nI i + nI 1) μ1 ν = _
    rw [p3.2.2.2.2.2.1, nI_add, nI_add]
    exact q1
theorem poa_M {n : Nat} {F : Nat → Nat → Nat} (hn : n ≤ 6) (hB : ∀ b, b < n → pa_B (F b)) (K : Int32 → fm_I → fm_L → Option (Int32 × fm_I × fm_L)) : ∀ (d i fuel : Nat) (μ : fm_I) (ν : fm_L), i + d = n → d < fuel → μ 58 0 = nI n → (∀ b, b < n → pa_M (F b) b μ) → ∃ μ', m_X6_status_67 K fuel (nI (sC F i)) (nI i) μ ν = K (nI (sC F n)) μ' ν ∧ (∀ q, q ≠ 76 → q ≠ 77 → q ≠ 58 → μ' q = μ q) ∧ ∀ j, j ≠ 28 → μ' 58 j = μ 58 j := by
  intro d
  induction d with
  | zero =>
    intro i fuel μ ν hi hf' h0 hX
    obtain ⟨f, rfl⟩ : ∃ j, fuel = j + 1 := ⟨fuel - 1, by omega⟩
    obtain rfl : i = n := by omega
    refine ⟨μ, ?_, fun _ _ _ _ => rfl, fun _ _ => rfl⟩
    rw [m_X6_status_67, h0, if_pos (le_i (by omega) (by omega))]
  | succ d ih =>
    intro i fuel μ ν hi hf' h0 hX
    obtain ⟨f, rfl⟩ : ∃ j, fuel = j + 1 := ⟨fuel - 1, by omega⟩
    obtain ⟨μ1, p1, p2, p3, p4⟩ := cutsM ν (show i < 6 by omega) (hB i (by omega)) (hX i (by omega))
    obtain ⟨μ', q1, q2, q3⟩ := ih (i + 1) f μ1 ν (by omega) (by omega) (by rw [p3 0 (by decide)]; exact h0) (fun b hb => kp_M (hX b hb) (fun q z1 z2 => p2 q (by omega) (by omega) (by omega)))
    refine ⟨μ', ?_, fun q y1 y2 y3 => by rw [q2 q y1 y2 y3, p2 q y1 y2 y3], fun j hj => by rw [q3 j hj, p3 j hj]⟩
    rw [m_X6_status_67, h0, if_neg (nle_i (by omega) (by omega)), p1, ev_b]
    show m_X6_status_67 K f (nI (sC F i) + μ1 58 28) (nI i + nI 1) μ1 ν = _
    rw [p4.2.1, nI_add, nI_add]
    exact q1
theorem op_st {μ : fm_I} {ν : fm_L} (h : Inv μ ν) {r : Int32} {f : Option (Int32 × fm_I × fm_L)} {g : fm_I → fm_L → Option (Int32 × fm_I × fm_L)} (hf : f = some (r, μ, ν)) (hg : g μ ν = some (r, μ, ν)) : pa_op f g := ⟨r, μ, ν, μ, ν, hf, hg, h⟩
theorem op_status {μ : fm_I} {ν : fm_L} (h : Inv μ ν) (a0 : Int32) : pa_op (m_X5_status a0 μ ν) (fun μ ν => m_X6_status a0 μ ν) := by
  obtain ⟨n, F, hI⟩ := id h
  have hn := hI.1.1
  obtain ⟨s1, s2, s3⟩ := hI.2.2.2.1
  obtain ⟨rn, _, t1, t2, _⟩ := hI.2.2.2.2.2.2.1
  have e5 := hI.2.2.2.2.1
  rcases i_cases a0 17 (by decide) with h0 | ⟨b1, b2, b3, b4⟩ | ⟨j, hj, rfl⟩
  · have z : ∀ k : Nat, k < 2147483648 → (a0 = nI k) = False := fun k hk => eq_false (fun c => nI_pos hk (c ▸ h0))
    have l1 : (a0 ≤ nI 10) = True := eq_true (by
      rw [Int32.lt_iff_toInt_lt] at h0
      rw [Int32.le_iff_toInt_le, nI_toInt (by decide)]
      rw [show (0 : Int32).toInt = 0 by decide] at h0
      omega)
    have l2 : (a0 < nI 11) = True := eq_true (by
      rw [Int32.lt_iff_toInt_lt] at h0
      rw [Int32.lt_iff_toInt_lt, nI_toInt (by decide)]
      rw [show (0 : Int32).toInt = 0 by decide] at h0
      omega)
    refine op_st h (r := -1) ?_ ?_
    · simp -implicitDefEqProofs (disch := omega) only [m_X5_status, l1, z, ev_b, ev_b2, ev_g, ev_gF, ev_on, ev_os, ev_cl, ev_in, ev_in6, ev_eq0, ev_lt0, ev_0le, ev_le0, ev_0lt, ev_lt, ev_le, ev_eq, ev_m1a, ev_m1b, ev_m1c, ev_m1d, ev_m1e, ev_n1, ev_n4, ev_n8, ev_n9, ev_n10, ev_n11, ev_n12, ev_n13, ev_n14, ev_n15, ev_n16, ev_n17, ev_n59, ev_n60, ev_n61, ev_n62, ev_n63, ev_n64, ev_n65, ev_n66, ev_n67, ev_n68, ev_n69, ev_n70, ev_n71, ev_n72, ev_n73, ev_n74, ev_n75, ev_n76, ev_n77, ev_n78, ev_n79, ev_n80, ev_k18, ev_k34, ev_k40, ev_n26, ev_n26b, ev_n46, ev_n46b, ev_n52b, ev_uq, ev_us, ev_uj, ev_lq, ev_ls, ev_lj, ev_urq, ev_urs, ev_ulq, ev_uls, nI_add, pk_sub, pk_mul, if_true, if_false, ite_true, ite_false, decide_true, decide_false, eq_self_iff_true, Nat.reduceEqDiff, Nat.reduceLeDiff, Nat.reduceLT, Nat.reduceAdd, Nat.reduceMul, Nat.reduceSub, Nat.reduceDiv, Nat.reduceMod, ↓reduceIte]
    · show m_X6_status a0 μ ν = _
      simp -implicitDefEqProofs (disch := omega) only [m_X6_status, l2, z, ev_b, ev_b2, ev_g, ev_gF, ev_on, ev_os, ev_cl, ev_in, ev_in6, ev_eq0, ev_lt0, ev_0le, ev_le0, ev_0lt, ev_lt, ev_le, ev_eq, ev_m1a, ev_m1b, ev_m1c, ev_m1d, ev_m1e, ev_n1, ev_n4, ev_n8, ev_n9, ev_n10, ev_n11, ev_n12, ev_n13, ev_n14, ev_n15, ev_n16, ev_n17, ev_n59, ev_n60, ev_n61, ev_n62, ev_n63, ev_n64, ev_n65, ev_n66, ev_n67, ev_n68, ev_n69, ev_n70, ev_n71, ev_n72, ev_n73, ev_n74, ev_n75, ev_n76, ev_n77, ev_n78, ev_n79, ev_n80, ev_k18, ev_k34, ev_k40, ev_n26, ev_n26b, ev_n46, ev_n46b, ev_n52b, ev_uq, ev_us, ev_uj, ev_lq, ev_ls, ev_lj, ev_urq, ev_urs, ev_ulq, ev_uls, nI_add, pk_sub, pk_mul, if_true, if_false, ite_true, ite_false, decide_true, decide_false, eq_self_iff_true, Nat.reduceEqDiff, Nat.reduceLeDiff, Nat.reduceLT, Nat.reduceAdd, Nat.reduceMul, Nat.reduceSub, Nat.reduceDiv, Nat.reduceMod, ↓reduceIte]
  · have z : ∀ k : Nat, k < 17 → (a0 = nI k) = False := fun k hk => eq_false (fun c => by
      rw [c] at b4
      have := (nI_ltI (by decide) (by omega)).mp (of_eq_true b4)
      omega)
    have l1 : (a0 ≤ nI 10) = False := eq_false (fun c => by
      have d := of_eq_true b4
      rw [Int32.lt_iff_toInt_lt, nI_toInt (by decide)] at d
      rw [Int32.le_iff_toInt_le, nI_toInt (by decide)] at c
      omega)
    have l2 : (a0 < nI 11) = False := eq_false (fun c => by
      have d := of_eq_true b4
      rw [Int32.lt_iff_toInt_lt, nI_toInt (by decide)] at d
      rw [Int32.lt_iff_toInt_lt, nI_toInt (by decide)] at c
      omega)
    refine op_st h (r := -1) ?_ ?_
    · simp -implicitDefEqProofs (disch := omega) only [m_X5_status, l1, b4, z, ev_b, ev_b2, ev_g, ev_gF, ev_on, ev_os, ev_cl, ev_in, ev_in6, ev_eq0, ev_lt0, ev_0le, ev_le0, ev_0lt, ev_lt, ev_le, ev_eq, ev_m1a, ev_m1b, ev_m1c, ev_m1d, ev_m1e, ev_n1, ev_n4, ev_n8, ev_n9, ev_n10, ev_n11, ev_n12, ev_n13, ev_n14, ev_n15, ev_n16, ev_n17, ev_n59, ev_n60, ev_n61, ev_n62, ev_n63, ev_n64, ev_n65, ev_n66, ev_n67, ev_n68, ev_n69, ev_n70, ev_n71, ev_n72, ev_n73, ev_n74, ev_n75, ev_n76, ev_n77, ev_n78, ev_n79, ev_n80, ev_k18, ev_k34, ev_k40, ev_n26, ev_n26b, ev_n46, ev_n46b, ev_n52b, ev_uq, ev_us, ev_uj, ev_lq, ev_ls, ev_lj, ev_urq, ev_urs, ev_ulq, ev_uls, nI_add, pk_sub, pk_mul, if_true, if_false, ite_true, ite_false, decide_true, decide_false, eq_self_iff_true, Nat.reduceEqDiff, Nat.reduceLeDiff, Nat.reduceLT, Nat.reduceAdd, Nat.reduceMul, Nat.reduceSub, Nat.reduceDiv, Nat.reduceMod, ↓reduceIte]
    · show m_X6_status a0 μ ν = _
      simp -implicitDefEqProofs (disch := omega) only [m_X6_status, l2, b4, z, ev_b, ev_b2, ev_g, ev_gF, ev_on, ev_os, ev_cl, ev_in, ev_in6, ev_eq0, ev_lt0, ev_0le, ev_le0, ev_0lt, ev_lt, ev_le, ev_eq, ev_m1a, ev_m1b, ev_m1c, ev_m1d, ev_m1e, ev_n1, ev_n4, ev_n8, ev_n9, ev_n10, ev_n11, ev_n12, ev_n13, ev_n14, ev_n15, ev_n16, ev_n17, ev_n59, ev_n60, ev_n61, ev_n62, ev_n63, ev_n64, ev_n65, ev_n66, ev_n67, ev_n68, ev_n69, ev_n70, ev_n71, ev_n72, ev_n73, ev_n74, ev_n75, ev_n76, ev_n77, ev_n78, ev_n79, ev_n80, ev_k18, ev_k34, ev_k40, ev_n26, ev_n26b, ev_n46, ev_n46b, ev_n52b, ev_uq, ev_us, ev_uj, ev_lq, ev_ls, ev_lj, ev_urq, ev_urs, ev_ulq, ev_uls, nI_add, pk_sub, pk_mul, if_true, if_false, ite_true, ite_false, decide_true, decide_false, eq_self_iff_true, Nat.reduceEqDiff, Nat.reduceLeDiff, Nat.reduceLT, Nat.reduceAdd, Nat.reduceMul, Nat.reduceSub, Nat.reduceDiv, Nat.reduceMod, ↓reduceIte]
  by_cases h1 : j = 1
  · subst h1
    obtain ⟨μ1, p1, p2⟩ := poa_X (F := F) hn (fun b hb => (hI.2.1 b hb).1) (fun x1_4 μ4 ν4 => some (x1_4, μ4, ν4)) n 0 5000 μ ν (by omega) (by omega) hI.1.2.1 (fun b hb => (hI.2.1 b hb).2.1)
    obtain ⟨μ2, q1, q2, q3⟩ := poa_M (F := F) hn (fun b hb => (hI.2.1 b hb).1) (fun x2_67 μ67 ν67 => some (x2_67, μ67, ν67)) n 0 5000 μ1 ν (by omega) (by omega) (by rw [p2 58 (by decide) (by decide) (by decide) (by decide)]; exact hI.1.2.2) (fun b hb => kp_M (hI.2.1 b hb).2.2 (fun q z1 z2 => p2 q (by omega) (by omega) (by omega) (by omega)))
    refine op_mk (r := nI (sC F n)) (μ1 := μ1) (ν1 := ν) (μ2 := μ2) (ν2 := ν) ?_ ?_ (cut_inv h p2 q2 q3)
    · have e : m_X5_piecesOfAll μ ν = some (nI (sC F n), μ1, ν) := p1
      simp -implicitDefEqProofs (disch := omega) only [m_X5_status, e, ev_b, ev_b2, ev_g, ev_gF, ev_on, ev_os, ev_cl, ev_in, ev_in6, ev_eq0, ev_lt0, ev_0le, ev_le0, ev_0lt, ev_lt, ev_le, ev_eq, ev_m1a, ev_m1b, ev_m1c, ev_m1d, ev_m1e, ev_n1, ev_n4, ev_n8, ev_n9, ev_n10, ev_n11, ev_n12, ev_n13, ev_n14, ev_n15, ev_n16, ev_n17, ev_n59, ev_n60, ev_n61, ev_n62, ev_n63, ev_n64, ev_n65, ev_n66, ev_n67, ev_n68, ev_n69, ev_n70, ev_n71, ev_n72, ev_n73, ev_n74, ev_n75, ev_n76, ev_n77, ev_n78, ev_n79, ev_n80, ev_k18, ev_k34, ev_k40, ev_n26, ev_n26b, ev_n46, ev_n46b, ev_n52b, ev_uq, ev_us, ev_uj, ev_lq, ev_ls, ev_lj, ev_urq, ev_urs, ev_ulq, ev_uls, nI_add, pk_sub, pk_mul, if_true, if_false, ite_true, ite_false, decide_true, decide_false, eq_self_iff_true, Nat.reduceEqDiff, Nat.reduceLeDiff, Nat.reduceLT, Nat.reduceAdd, Nat.reduceMul, Nat.reduceSub, Nat.reduceDiv, Nat.reduceMod, ↓reduceIte]
    · show m_X6_status (nI 1) μ1 ν = _
      have e : m_X6_status_67 (fun x2_67 μ67 ν67 => some (x2_67, μ67, ν67)) 5000 (nI 0) (nI 0) μ1 ν = some (nI (sC F n), μ2, ν) := q1
      simp -implicitDefEqProofs (disch := omega) only [m_X6_status, e, ev_b, ev_b2, ev_g, ev_gF, ev_on, ev_os, ev_cl, ev_in, ev_in6, ev_eq0, ev_lt0, ev_0le, ev_le0, ev_0lt, ev_lt, ev_le, ev_eq, ev_m1a, ev_m1b, ev_m1c, ev_m1d, ev_m1e, ev_n1, ev_n4, ev_n8, ev_n9, ev_n10, ev_n11, ev_n12, ev_n13, ev_n14, ev_n15, ev_n16, ev_n17, ev_n59, ev_n60, ev_n61, ev_n62, ev_n63, ev_n64, ev_n65, ev_n66, ev_n67, ev_n68, ev_n69, ev_n70, ev_n71, ev_n72, ev_n73, ev_n74, ev_n75, ev_n76, ev_n77, ev_n78, ev_n79, ev_n80, ev_k18, ev_k34, ev_k40, ev_n26, ev_n26b, ev_n46, ev_n46b, ev_n52b, ev_uq, ev_us, ev_uj, ev_lq, ev_ls, ev_lj, ev_urq, ev_urs, ev_ulq, ev_uls, nI_add, pk_sub, pk_mul, if_true, if_false, ite_true, ite_false, decide_true, decide_false, eq_self_iff_true, Nat.reduceEqDiff, Nat.reduceLeDiff, Nat.reduceLT, Nat.reduceAdd, Nat.reduceMul, Nat.reduceSub, Nat.reduceDiv, Nat.reduceMod, ↓reduceIte]
  by_cases h2 : j ≤ 10
  · by_cases h3 : j ≤ 4
    · rcases (by omega : j = 0 ∨ j = 2 ∨ j = 3 ∨ j = 4) with rfl | rfl | rfl | rfl
      · refine op_st h (r := nI n) ?_ ?_
        · simp -implicitDefEqProofs (disch := omega) only [m_X5_status, hI.1.2.1, ev_b, ev_b2, ev_g, ev_gF, ev_on, ev_os, ev_cl, ev_in, ev_in6, ev_eq0, ev_lt0, ev_0le, ev_le0, ev_0lt, ev_lt, ev_le, ev_eq, ev_m1a, ev_m1b, ev_m1c, ev_m1d, ev_m1e, ev_n1, ev_n4, ev_n8, ev_n9, ev_n10, ev_n11, ev_n12, ev_n13, ev_n14, ev_n15, ev_n16, ev_n17, ev_n59, ev_n60, ev_n61, ev_n62, ev_n63, ev_n64, ev_n65, ev_n66, ev_n67, ev_n68, ev_n69, ev_n70, ev_n71, ev_n72, ev_n73, ev_n74, ev_n75, ev_n76, ev_n77, ev_n78, ev_n79, ev_n80, ev_k18, ev_k34, ev_k40, ev_n26, ev_n26b, ev_n46, ev_n46b, ev_n52b, ev_uq, ev_us, ev_uj, ev_lq, ev_ls, ev_lj, ev_urq, ev_urs, ev_ulq, ev_uls, nI_add, pk_sub, pk_mul, if_true, if_false, ite_true, ite_false, decide_true, decide_false, eq_self_iff_true, Nat.reduceEqDiff, Nat.reduceLeDiff, Nat.reduceLT, Nat.reduceAdd, Nat.reduceMul, Nat.reduceSub, Nat.reduceDiv, Nat.reduceMod, ↓reduceIte]
        · show m_X6_status _ μ ν = _
          simp -implicitDefEqProofs (disch := omega) only [m_X6_status, hI.1.2.2, ev_b, ev_b2, ev_g, ev_gF, ev_on, ev_os, ev_cl, ev_in, ev_in6, ev_eq0, ev_lt0, ev_0le, ev_le0, ev_0lt, ev_lt, ev_le, ev_eq, ev_m1a, ev_m1b, ev_m1c, ev_m1d, ev_m1e, ev_n1, ev_n4, ev_n8, ev_n9, ev_n10, ev_n11, ev_n12, ev_n13, ev_n14, ev_n15, ev_n16, ev_n17, ev_n59, ev_n60, ev_n61, ev_n62, ev_n63, ev_n64, ev_n65, ev_n66, ev_n67, ev_n68, ev_n69, ev_n70, ev_n71, ev_n72, ev_n73, ev_n74, ev_n75, ev_n76, ev_n77, ev_n78, ev_n79, ev_n80, ev_k18, ev_k34, ev_k40, ev_n26, ev_n26b, ev_n46, ev_n46b, ev_n52b, ev_uq, ev_us, ev_uj, ev_lq, ev_ls, ev_lj, ev_urq, ev_urs, ev_ulq, ev_uls, nI_add, pk_sub, pk_mul, if_true, if_false, ite_true, ite_false, decide_true, decide_false, eq_self_iff_true, Nat.reduceEqDiff, Nat.reduceLeDiff, Nat.reduceLT, Nat.reduceAdd, Nat.reduceMul, Nat.reduceSub, Nat.reduceDiv, Nat.reduceMod, ↓reduceIte]
      · refine op_st h (r := μ 0 9) ?_ ?_
        · simp -implicitDefEqProofs (disch := omega) only [m_X5_status, ev_b, ev_b2, ev_g, ev_gF, ev_on, ev_os, ev_cl, ev_in, ev_in6, ev_eq0, ev_lt0, ev_0le, ev_le0, ev_0lt, ev_lt, ev_le, ev_eq, ev_m1a, ev_m1b, ev_m1c, ev_m1d, ev_m1e, ev_n1, ev_n4, ev_n8, ev_n9, ev_n10, ev_n11, ev_n12, ev_n13, ev_n14, ev_n15, ev_n16, ev_n17, ev_n59, ev_n60, ev_n61, ev_n62, ev_n63, ev_n64, ev_n65, ev_n66, ev_n67, ev_n68, ev_n69, ev_n70, ev_n71, ev_n72, ev_n73, ev_n74, ev_n75, ev_n76, ev_n77, ev_n78, ev_n79, ev_n80, ev_k18, ev_k34, ev_k40, ev_n26, ev_n26b, ev_n46, ev_n46b, ev_n52b, ev_uq, ev_us, ev_uj, ev_lq, ev_ls, ev_lj, ev_urq, ev_urs, ev_ulq, ev_uls, nI_add, pk_sub, pk_mul, if_true, if_false, ite_true, ite_false, decide_true, decide_false, eq_self_iff_true, Nat.reduceEqDiff, Nat.reduceLeDiff, Nat.reduceLT, Nat.reduceAdd, Nat.reduceMul, Nat.reduceSub, Nat.reduceDiv, Nat.reduceMod, ↓reduceIte]
        · show m_X6_status _ μ ν = _
          simp -implicitDefEqProofs (disch := omega) only [m_X6_status, s2, ev_b, ev_b2, ev_g, ev_gF, ev_on, ev_os, ev_cl, ev_in, ev_in6, ev_eq0, ev_lt0, ev_0le, ev_le0, ev_0lt, ev_lt, ev_le, ev_eq, ev_m1a, ev_m1b, ev_m1c, ev_m1d, ev_m1e, ev_n1, ev_n4, ev_n8, ev_n9, ev_n10, ev_n11, ev_n12, ev_n13, ev_n14, ev_n15, ev_n16, ev_n17, ev_n59, ev_n60, ev_n61, ev_n62, ev_n63, ev_n64, ev_n65, ev_n66, ev_n67, ev_n68, ev_n69, ev_n70, ev_n71, ev_n72, ev_n73, ev_n74, ev_n75, ev_n76, ev_n77, ev_n78, ev_n79, ev_n80, ev_k18, ev_k34, ev_k40, ev_n26, ev_n26b, ev_n46, ev_n46b, ev_n52b, ev_uq, ev_us, ev_uj, ev_lq, ev_ls, ev_lj, ev_urq, ev_urs, ev_ulq, ev_uls, nI_add, pk_sub, pk_mul, if_true, if_false, ite_true, ite_false, decide_true, decide_false, eq_self_iff_true, Nat.reduceEqDiff, Nat.reduceLeDiff, Nat.reduceLT, Nat.reduceAdd, Nat.reduceMul, Nat.reduceSub, Nat.reduceDiv, Nat.reduceMod, ↓reduceIte]
      · refine op_st h (r := μ 0 8) ?_ ?_
        · simp -implicitDefEqProofs (disch := omega) only [m_X5_status, ev_b, ev_b2, ev_g, ev_gF, ev_on, ev_os, ev_cl, ev_in, ev_in6, ev_eq0, ev_lt0, ev_0le, ev_le0, ev_0lt, ev_lt, ev_le, ev_eq, ev_m1a, ev_m1b, ev_m1c, ev_m1d, ev_m1e, ev_n1, ev_n4, ev_n8, ev_n9, ev_n10, ev_n11, ev_n12, ev_n13, ev_n14, ev_n15, ev_n16, ev_n17, ev_n59, ev_n60, ev_n61, ev_n62, ev_n63, ev_n64, ev_n65, ev_n66, ev_n67, ev_n68, ev_n69, ev_n70, ev_n71, ev_n72, ev_n73, ev_n74, ev_n75, ev_n76, ev_n77, ev_n78, ev_n79, ev_n80, ev_k18, ev_k34, ev_k40, ev_n26, ev_n26b, ev_n46, ev_n46b, ev_n52b, ev_uq, ev_us, ev_uj, ev_lq, ev_ls, ev_lj, ev_urq, ev_urs, ev_ulq, ev_uls, nI_add, pk_sub, pk_mul, if_true, if_false, ite_true, ite_false, decide_true, decide_false, eq_self_iff_true, Nat.reduceEqDiff, Nat.reduceLeDiff, Nat.reduceLT, Nat.reduceAdd, Nat.reduceMul, Nat.reduceSub, Nat.reduceDiv, Nat.reduceMod, ↓reduceIte]
        · show m_X6_status _ μ ν = _
          simp -implicitDefEqProofs (disch := omega) only [m_X6_status, s1, ev_b, ev_b2, ev_g, ev_gF, ev_on, ev_os, ev_cl, ev_in, ev_in6, ev_eq0, ev_lt0, ev_0le, ev_le0, ev_0lt, ev_lt, ev_le, ev_eq, ev_m1a, ev_m1b, ev_m1c, ev_m1d, ev_m1e, ev_n1, ev_n4, ev_n8, ev_n9, ev_n10, ev_n11, ev_n12, ev_n13, ev_n14, ev_n15, ev_n16, ev_n17, ev_n59, ev_n60, ev_n61, ev_n62, ev_n63, ev_n64, ev_n65, ev_n66, ev_n67, ev_n68, ev_n69, ev_n70, ev_n71, ev_n72, ev_n73, ev_n74, ev_n75, ev_n76, ev_n77, ev_n78, ev_n79, ev_n80, ev_k18, ev_k34, ev_k40, ev_n26, ev_n26b, ev_n46, ev_n46b, ev_n52b, ev_uq, ev_us, ev_uj, ev_lq, ev_ls, ev_lj, ev_urq, ev_urs, ev_ulq, ev_uls, nI_add, pk_sub, pk_mul, if_true, if_false, ite_true, ite_false, decide_true, decide_false, eq_self_iff_true, Nat.reduceEqDiff, Nat.reduceLeDiff, Nat.reduceLT, Nat.reduceAdd, Nat.reduceMul, Nat.reduceSub, Nat.reduceDiv, Nat.reduceMod, ↓reduceIte]
      · refine op_st h (r := nI rn) ?_ ?_
        · simp -implicitDefEqProofs (disch := omega) only [m_X5_status, t1, ev_b, ev_b2, ev_g, ev_gF, ev_on, ev_os, ev_cl, ev_in, ev_in6, ev_eq0, ev_lt0, ev_0le, ev_le0, ev_0lt, ev_lt, ev_le, ev_eq, ev_m1a, ev_m1b, ev_m1c, ev_m1d, ev_m1e, ev_n1, ev_n4, ev_n8, ev_n9, ev_n10, ev_n11, ev_n12, ev_n13, ev_n14, ev_n15, ev_n16, ev_n17, ev_n59, ev_n60, ev_n61, ev_n62, ev_n63, ev_n64, ev_n65, ev_n66, ev_n67, ev_n68, ev_n69, ev_n70, ev_n71, ev_n72, ev_n73, ev_n74, ev_n75, ev_n76, ev_n77, ev_n78, ev_n79, ev_n80, ev_k18, ev_k34, ev_k40, ev_n26, ev_n26b, ev_n46, ev_n46b, ev_n52b, ev_uq, ev_us, ev_uj, ev_lq, ev_ls, ev_lj, ev_urq, ev_urs, ev_ulq, ev_uls, nI_add, pk_sub, pk_mul, if_true, if_false, ite_true, ite_false, decide_true, decide_false, eq_self_iff_true, Nat.reduceEqDiff, Nat.reduceLeDiff, Nat.reduceLT, Nat.reduceAdd, Nat.reduceMul, Nat.reduceSub, Nat.reduceDiv, Nat.reduceMod, ↓reduceIte]
        · show m_X6_status _ μ ν = _
          simp -implicitDefEqProofs (disch := omega) only [m_X6_status, t2, ev_b, ev_b2, ev_g, ev_gF, ev_on, ev_os, ev_cl, ev_in, ev_in6, ev_eq0, ev_lt0, ev_0le, ev_le0, ev_0lt, ev_lt, ev_le, ev_eq, ev_m1a, ev_m1b, ev_m1c, ev_m1d, ev_m1e, ev_n1, ev_n4, ev_n8, ev_n9, ev_n10, ev_n11, ev_n12, ev_n13, ev_n14, ev_n15, ev_n16, ev_n17, ev_n59, ev_n60, ev_n61, ev_n62, ev_n63, ev_n64, ev_n65, ev_n66, ev_n67, ev_n68, ev_n69, ev_n70, ev_n71, ev_n72, ev_n73, ev_n74, ev_n75, ev_n76, ev_n77, ev_n78, ev_n79, ev_n80, ev_k18, ev_k34, ev_k40, ev_n26, ev_n26b, ev_n46, ev_n46b, ev_n52b, ev_uq, ev_us, ev_uj, ev_lq, ev_ls, ev_lj, ev_urq, ev_urs, ev_ulq, ev_uls, nI_add, pk_sub, pk_mul, if_true, if_false, ite_true, ite_false, decide_true, decide_false, eq_self_iff_true, Nat.reduceEqDiff, Nat.reduceLeDiff, Nat.reduceLT, Nat.reduceAdd, Nat.reduceMul, Nat.reduceSub, Nat.reduceDiv, Nat.reduceMod, ↓reduceIte]
    · have z0 : (j = 0) = False := eq_false (by omega)
      have z1 : (j = 1) = False := eq_false (by omega)
      have z2 : (j = 2) = False := eq_false (by omega)
      have z3 : (j = 3) = False := eq_false (by omega)
      have z4 : (j = 4) = False := eq_false (by omega)
      have l1 : (j ≤ 10) = True := eq_true h2
      have l2 : (j < 11) = True := eq_true (by omega)
      refine op_st h (r := -1) ?_ ?_
      · simp -implicitDefEqProofs (disch := omega) only [m_X5_status, z0, z1, z2, z3, z4, l1, ev_b, ev_b2, ev_g, ev_gF, ev_on, ev_os, ev_cl, ev_in, ev_in6, ev_eq0, ev_lt0, ev_0le, ev_le0, ev_0lt, ev_lt, ev_le, ev_eq, ev_m1a, ev_m1b, ev_m1c, ev_m1d, ev_m1e, ev_n1, ev_n4, ev_n8, ev_n9, ev_n10, ev_n11, ev_n12, ev_n13, ev_n14, ev_n15, ev_n16, ev_n17, ev_n59, ev_n60, ev_n61, ev_n62, ev_n63, ev_n64, ev_n65, ev_n66, ev_n67, ev_n68, ev_n69, ev_n70, ev_n71, ev_n72, ev_n73, ev_n74, ev_n75, ev_n76, ev_n77, ev_n78, ev_n79, ev_n80, ev_k18, ev_k34, ev_k40, ev_n26, ev_n26b, ev_n46, ev_n46b, ev_n52b, ev_uq, ev_us, ev_uj, ev_lq, ev_ls, ev_lj, ev_urq, ev_urs, ev_ulq, ev_uls, nI_add, pk_sub, pk_mul, if_true, if_false, ite_true, ite_false, decide_true, decide_false, eq_self_iff_true, Nat.reduceEqDiff, Nat.reduceLeDiff, Nat.reduceLT, Nat.reduceAdd, Nat.reduceMul, Nat.reduceSub, Nat.reduceDiv, Nat.reduceMod, ↓reduceIte]
      · show m_X6_status _ μ ν = _
        simp -implicitDefEqProofs (disch := omega) only [m_X6_status, z0, z1, z2, z3, z4, l2, ev_b, ev_b2, ev_g, ev_gF, ev_on, ev_os, ev_cl, ev_in, ev_in6, ev_eq0, ev_lt0, ev_0le, ev_le0, ev_0lt, ev_lt, ev_le, ev_eq, ev_m1a, ev_m1b, ev_m1c, ev_m1d, ev_m1e, ev_n1, ev_n4, ev_n8, ev_n9, ev_n10, ev_n11, ev_n12, ev_n13, ev_n14, ev_n15, ev_n16, ev_n17, ev_n59, ev_n60, ev_n61, ev_n62, ev_n63, ev_n64, ev_n65, ev_n66, ev_n67, ev_n68, ev_n69, ev_n70, ev_n71, ev_n72, ev_n73, ev_n74, ev_n75, ev_n76, ev_n77, ev_n78, ev_n79, ev_n80, ev_k18, ev_k34, ev_k40, ev_n26, ev_n26b, ev_n46, ev_n46b, ev_n52b, ev_uq, ev_us, ev_uj, ev_lq, ev_ls, ev_lj, ev_urq, ev_urs, ev_ulq, ev_uls, nI_add, pk_sub, pk_mul, if_true, if_false, ite_true, ite_false, decide_true, decide_false, eq_self_iff_true, Nat.reduceEqDiff, Nat.reduceLeDiff, Nat.reduceLT, Nat.reduceAdd, Nat.reduceMul, Nat.reduceSub, Nat.reduceDiv, Nat.reduceMod, ↓reduceIte]
  · have l1 : (j ≤ 10) = False := eq_false h2
    have l2 : (j < 11) = False := eq_false (by omega)
    have l3 : (17 < j) = False := eq_false (by omega)
    have l4 : 10 ≤ j := by omega
    refine op_st h (r := μ 4 (j - 10)) ?_ ?_
    · simp -implicitDefEqProofs (disch := omega) only [m_X5_status, l1, l3, ev_b, ev_b2, ev_g, ev_gF, ev_on, ev_os, ev_cl, ev_in, ev_in6, ev_eq0, ev_lt0, ev_0le, ev_le0, ev_0lt, ev_lt, ev_le, ev_eq, ev_m1a, ev_m1b, ev_m1c, ev_m1d, ev_m1e, ev_n1, ev_n4, ev_n8, ev_n9, ev_n10, ev_n11, ev_n12, ev_n13, ev_n14, ev_n15, ev_n16, ev_n17, ev_n59, ev_n60, ev_n61, ev_n62, ev_n63, ev_n64, ev_n65, ev_n66, ev_n67, ev_n68, ev_n69, ev_n70, ev_n71, ev_n72, ev_n73, ev_n74, ev_n75, ev_n76, ev_n77, ev_n78, ev_n79, ev_n80, ev_k18, ev_k34, ev_k40, ev_n26, ev_n26b, ev_n46, ev_n46b, ev_n52b, ev_uq, ev_us, ev_uj, ev_lq, ev_ls, ev_lj, ev_urq, ev_urs, ev_ulq, ev_uls, nI_add, pk_sub, pk_mul, if_true, if_false, ite_true, ite_false, decide_true, decide_false, eq_self_iff_true, Nat.reduceEqDiff, Nat.reduceLeDiff, Nat.reduceLT, Nat.reduceAdd, Nat.reduceMul, Nat.reduceSub, Nat.reduceDiv, Nat.reduceMod, ↓reduceIte]
    · show m_X6_status _ μ ν = _
      simp -implicitDefEqProofs (disch := omega) only [m_X6_status, l2, l3, ev_b, ev_b2, ev_g, ev_gF, ev_on, ev_os, ev_cl, ev_in, ev_in6, ev_eq0, ev_lt0, ev_0le, ev_le0, ev_0lt, ev_lt, ev_le, ev_eq, ev_m1a, ev_m1b, ev_m1c, ev_m1d, ev_m1e, ev_n1, ev_n4, ev_n8, ev_n9, ev_n10, ev_n11, ev_n12, ev_n13, ev_n14, ev_n15, ev_n16, ev_n17, ev_n59, ev_n60, ev_n61, ev_n62, ev_n63, ev_n64, ev_n65, ev_n66, ev_n67, ev_n68, ev_n69, ev_n70, ev_n71, ev_n72, ev_n73, ev_n74, ev_n75, ev_n76, ev_n77, ev_n78, ev_n79, ev_n80, ev_k18, ev_k34, ev_k40, ev_n26, ev_n26b, ev_n46, ev_n46b, ev_n52b, ev_uq, ev_us, ev_uj, ev_lq, ev_ls, ev_lj, ev_urq, ev_urs, ev_ulq, ev_uls, nI_add, pk_sub, pk_mul, if_true, if_false, ite_true, ite_false, decide_true, decide_false, eq_self_iff_true, Nat.reduceEqDiff, Nat.reduceLeDiff, Nat.reduceLT, Nat.reduceAdd, Nat.reduceMul, Nat.reduceSub, Nat.reduceDiv, Nat.reduceMod, ↓reduceIte]
      rw [e5 _ (by omega)]
