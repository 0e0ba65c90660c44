/-! GROUPS -/
theorem i_nat (x : Int32) : ∃ m, m < 4294967296 ∧ x = nI m := by
  refine ⟨x.toBitVec.toNat, x.toBitVec.isLt, ?_⟩
  apply Int32.toBitVec_inj.mp
  show x.toBitVec = BitVec.ofNat 32 x.toBitVec.toNat
  rw [BitVec.ofNat_toNat, BitVec.setWidth_eq]
theorem and1 (x : Int32) : x &&& nI 1 = nI 0 ∨ x &&& nI 1 = nI 1 := by
  obtain ⟨m, hm, rfl⟩ := i_nat x
  rw [pk_andN hm 1 (by decide), Nat.pow_one]
  rcases Nat.mod_two_eq_zero_or_one m with e | e
  · exact Or.inl (by rw [e])
  · exact Or.inr (by rw [e])
noncomputable def gQ (H : Nat → Nat) : Nat → Nat → Int32 → Int32
  | 0, _, v => v
  | d + 1, q, v => gQ H d (q + 1) (if (v >>> (nI q &&& 31)) &&& nI 1 = nI 1 then v ||| nI (H q) else v)
noncomputable def gK (H : Nat → Nat) (c : Nat) : Nat → Int32 → Int32
  | 0, v => v
  | d + 1, v => gK H c d (gQ H c 0 v)
theorem gX_17 {c : Nat} {H : Nat → Nat} (hc : c ≤ 12) {μ : fm_I} (ν : fm_L) (h0 : μ 5 0 = nI c) (h : ∀ p, p < c → μ 13 p = nI (H p)) (v3 : Int32) (K : Int32 → Option Int32) : ∀ (d q fuel : Nat) (v : Int32), q + d = c → d < fuel → m_X1_groupOf_17 v3 μ ν K fuel v (nI q) = K (gQ H d q v) := by
  intro d
  induction d with
  | zero =>
    intro q fuel v hq hf'
    obtain ⟨f, rfl⟩ : ∃ j, fuel = j + 1 := ⟨fuel - 1, by omega⟩
    rw [m_X1_groupOf_17, h0, if_pos (le_i (by omega) (by omega))]
    rfl
  | succ d ih =>
    intro q fuel v hq hf'
    obtain ⟨f, rfl⟩ : ∃ j, fuel = j + 1 := ⟨fuel - 1, by omega⟩
    rw [m_X1_groupOf_17, h0, if_neg (nle_i (by omega) (by omega)), gQ]
    by_cases e : (v >>> (nI q &&& 31)) &&& nI 1 = nI 1
    · rw [if_pos e, if_pos e, ev_in (by rw [ev_n13]; omega) (by omega), ev_g, ev_cl (by omega), h q (by omega), nI_add]
      exact ih (q + 1) f _ (by omega) (by omega)
    · rw [if_neg e, if_neg e, nI_add]
      exact ih (q + 1) f _ (by omega) (by omega)
theorem gX_6 {c : Nat} {H : Nat → Nat} (hc : c ≤ 12) {μ : fm_I} (ν : fm_L) (h0 : μ 5 0 = nI c) (h : ∀ p, p < c → μ 13 p = nI (H p)) (K : Int32 → Option Int32) : ∀ (d i fuel : Nat) (v : Int32), i + d = c → d < fuel → m_X1_groupOf_6 μ ν K fuel v (nI i) = K (gK H c d v) := by
  intro d
  induction d with
  | zero =>
    intro i fuel v hi hf'
    obtain ⟨f, rfl⟩ : ∃ j, fuel = j + 1 := ⟨fuel - 1, by omega⟩
    rw [m_X1_groupOf_6, h0, if_pos (le_i (by omega) (by omega))]
    rfl
  | succ d ih =>
    intro i fuel v hi hf'
    obtain ⟨f, rfl⟩ : ∃ j, fuel = j + 1 := ⟨fuel - 1, by omega⟩
    rw [m_X1_groupOf_6, h0, if_neg (nle_i (by omega) (by omega)), gX_17 hc ν h0 h _ _ c 0 5000 v (by omega) (by omega), gK, nI_add]
    exact ih (i + 1) f _ (by omega) (by omega)
theorem gM_72 {c : Nat} {H : Nat → Nat} (hc : c ≤ 12) {μ : fm_I} (ν : fm_L) (h0 : μ 58 28 = nI c) (h : ∀ p, p < c → μ 78 p = nI (H p)) (v2 v3 v4 v6 : Int32) (K : Int32 → Option (Int32 × fm_I × fm_L)) : ∀ (d q fuel : Nat) (v : Int32), q + d = c → d < fuel → m_X6_groups_72 v2 v3 v4 v6 μ ν K fuel v (nI q) = K (gQ H d q v) := by
  intro d
  induction d with
  | zero =>
    intro q fuel v hq hf'
    obtain ⟨f, rfl⟩ : ∃ j, fuel = j + 1 := ⟨fuel - 1, by omega⟩
    rw [m_X6_groups_72, h0, if_pos (le_i (by omega) (by omega))]
    rfl
  | succ d ih =>
    intro q fuel v hq hf'
    obtain ⟨f, rfl⟩ : ∃ j, fuel = j + 1 := ⟨fuel - 1, by omega⟩
    rw [m_X6_groups_72, h0, if_neg (nle_i (by omega) (by omega)), gQ]
    by_cases e : (v >>> (nI q &&& 31)) &&& nI 1 = nI 1
    · rw [if_pos e, if_pos e, ev_in (by rw [ev_n78]; omega) (by omega), ev_g, ev_cl (by omega), h q (by omega), nI_add]
      exact ih (q + 1) f _ (by omega) (by omega)
    · rw [if_neg e, if_neg e, nI_add]
      exact ih (q + 1) f _ (by omega) (by omega)
theorem gM_60 {c : Nat} {H : Nat → Nat} (hc : c ≤ 12) {μ : fm_I} (ν : fm_L) (h0 : μ 58 28 = nI c) (h : ∀ p, p < c → μ 78 p = nI (H p)) (v2 v3 v4 : Int32) (K : Int32 → Option (Int32 × fm_I × fm_L)) : ∀ (d i fuel : Nat) (v : Int32), i + d = c → d < fuel → m_X6_groups_60 v2 v3 v4 μ ν K fuel v (nI i) = K (gK H c d v) := by
  intro d
  induction d with
  | zero =>
    intro i fuel v hi hf'
    obtain ⟨f, rfl⟩ : ∃ j, fuel = j + 1 := ⟨fuel - 1, by omega⟩
    rw [m_X6_groups_60, h0, if_pos (le_i (by omega) (by omega))]
    rfl
  | succ d ih =>
    intro i fuel v hi hf'
    obtain ⟨f, rfl⟩ : ∃ j, fuel = j + 1 := ⟨fuel - 1, by omega⟩
    rw [m_X6_groups_60, h0, if_neg (nle_i (by omega) (by omega)), gM_72 hc ν h0 h _ _ _ _ _ c 0 5000 v (by omega) (by omega), gK, nI_add]
    exact ih (i + 1) f _ (by omega) (by omega)
theorem grp_l {c : Nat} {H : Nat → Nat} (hc : c ≤ 12) {μ1 μ2 : fm_I} (ν : fm_L) (h0 : μ1 5 0 = nI c) (h : ∀ p, p < c → μ1 13 p = nI (H p)) (g0 : μ2 58 28 = nI c) (g : ∀ p, p < c → μ2 78 p = nI (H p)) (KX KM : Int32 → Option (Int32 × fm_I × fm_L)) : ∀ (d p fuel : Nat) (v w : Int32), p + d = c → d < fuel → ∃ r, m_X1_hangingGroups_10 μ1 ν KX fuel v w (nI p) = KX r ∧ m_X6_groups_26 μ2 ν KM fuel w v (nI p) = KM r := by
  intro d
  induction d with
  | zero =>
    intro p fuel v w hp hf'
    obtain ⟨f, rfl⟩ : ∃ j, fuel = j + 1 := ⟨fuel - 1, by omega⟩
    refine ⟨v, ?_, ?_⟩
    · rw [m_X1_hangingGroups_10, h0, if_pos (le_i (by omega) (by omega))]
    · rw [m_X6_groups_26, g0, if_pos (le_i (by omega) (by omega))]
  | succ d ih =>
    intro p fuel v w hp hf'
    obtain ⟨f, rfl⟩ : ∃ j, fuel = j + 1 := ⟨fuel - 1, by omega⟩
    rcases and1 (w >>> (nI p &&& 31)) with e | e
    · obtain ⟨r, q1, q2⟩ := ih (p + 1) f (v + nI 1) (w ||| gK H c c (nI 1 <<< (nI p &&& 31))) (by omega) (by omega)
      refine ⟨r, ?_, ?_⟩
      · rw [m_X1_hangingGroups_10, h0, if_neg (nle_i (by omega) (by omega)), e, if_pos (by decide), m_X1_groupOf, gX_6 hc ν h0 h _ c 0 5000 _ (by omega) (by omega), ev_b, nI_add]
        exact q1
      · rw [m_X6_groups_26, g0, if_neg (nle_i (by omega) (by omega)), e, if_neg (by decide), gM_60 hc ν g0 g _ _ _ _ c 0 5000 _ (by omega) (by omega), nI_add]
        exact q2
    · obtain ⟨r, q1, q2⟩ := ih (p + 1) f v w (by omega) (by omega)
      refine ⟨r, ?_, ?_⟩
      · rw [m_X1_hangingGroups_10, h0, if_neg (nle_i (by omega) (by omega)), e, if_neg (by decide), nI_add]
        exact q1
      · rw [m_X6_groups_26, g0, if_neg (nle_i (by omega) (by omega)), e, if_pos rfl, nI_add]
        exact q2
/-- both have cut the band b and know which hang in which -/
theorem hung_all {n b : Nat} {F : Nat → Nat → Nat} {μ : fm_I} {ν : fm_L} (h : Inv μ ν) (hI : pa_In n F μ ν) (hb : b < n) : ∃ μ1 μ2 μ3, m_X5_laid (34 + b) μ ν = some (μ1, ν) ∧ m_X1_findHung μ1 ν = some (μ2, ν) ∧ μ2 5 0 = nI (pC (F b 0) (F b 2) (F b 4) (F b 1 % 2)) ∧ (∀ p, p < pC (F b 0) (F b 2) (F b 4) (F b 1 % 2) → μ2 13 p = nI (hH (F b 0) (F b 2) (F b 4) (F b 3) (F b 1) p)) ∧ m_X6_isBand (nI b) μ2 ν = some (nI 1) ∧ m_X6_hangs (nI b) μ2 ν = some (μ3, ν) ∧ μ3 58 28 = nI (pC (F b 0) (F b 2) (F b 4) (F b 1 % 2)) ∧ (∀ p, p < pC (F b 0) (F b 2) (F b 4) (F b 1 % 2) → μ3 78 p = nI (hH (F b 0) (F b 2) (F b 4) (F b 3) (F b 1) p)) ∧ Inv μ3 ν := by
  have hn := hI.1.1
  obtain ⟨d1, d2, d3⟩ := hI.2.1 b hb
  have ok := okP_of d1
  obtain ⟨μ1, p1, p2, p3⟩ := laidX ν (by omega) d1 d2
  obtain ⟨μ2, q1, q2, q3⟩ := fh_X ok ν p3
  have e : ∀ q, q ≠ 5 → q ≠ 9 → q ≠ 10 → q ≠ 11 → q ≠ 12 → q ≠ 13 → μ2 q = μ q := fun q y1 y2 y3 y4 y5 y6 => by rw [q2 q y5 y6, p2 q y1 y2 y3 y4]
  have d3' := kp_M (μ' := μ2) d3 (fun q z1 z2 => e q (by omega) (by omega) (by omega) (by omega) (by omega) (by omega))
  have e58 : μ2 58 0 = nI n := by rw [e 58 (by omega) (by omega) (by omega) (by omega) (by omega) (by omega)]; exact hI.1.2.2
  obtain ⟨μ3, r1, r2, r3, r4, r5⟩ := hg_M (μ := μ2) ν (by omega) d1 d3'
  exact ⟨μ1, μ2, μ3, p1, q1, by rw [q2 5 (by decide) (by decide)]; exact p3.2.2.2.2.2.1, q3, bd_inM hn hb e58 ν, r1, r4, r5, cut_inv2 h p2 q2 r2 r3⟩
theorem op_groups {μ : fm_I} {ν : fm_L} (h : Inv μ ν) (a0 : Int32) : pa_op (m_X5_groups a0 μ ν) (fun μ ν => m_X6_groups a0 μ ν) := by
  obtain ⟨n, F, hI⟩ := id h
  have hn := hI.1.1
  rcases bd_cases a0 hn with h0 | ⟨b, hb, rfl⟩
  · refine op_rf h 1 (by decide) (r := -1) ?_ ?_
    · simp -implicitDefEqProofs (disch := omega) only [m_X5_groups, ba_out h0 hI.1.2.1, ev_b, ev_b2, ev_g, ev_gF, ev_on, ev_os, ev_cl, ev_in, ev_in6, ev_eq0, ev_lt0, ev_0le, ev_le0, ev_0lt, ev_lt, ev_le, ev_eq, ev_m1a, ev_m1b, ev_m1c, ev_m1d, ev_m1e, ev_n1, ev_n4, ev_n8, ev_n9, ev_n10, ev_n11, ev_n12, ev_n13, ev_n14, ev_n15, ev_n16, ev_n17, ev_n59, ev_n60, ev_n61, ev_n62, ev_n63, ev_n64, ev_n65, ev_n66, ev_n67, ev_n68, ev_n69, ev_n70, ev_n71, ev_n72, ev_n73, ev_n74, ev_n75, ev_n76, ev_n77, ev_n78, ev_n79, ev_n80, ev_k18, ev_k34, ev_k40, ev_n26, ev_n26b, ev_n46, ev_n46b, ev_n52b, ev_uq, ev_us, ev_uj, ev_lq, ev_ls, ev_lj, ev_urq, ev_urs, ev_ulq, ev_uls, nI_add, pk_sub, pk_mul, if_true, if_false, ite_true, ite_false, decide_true, decide_false, eq_self_iff_true, Nat.reduceEqDiff, Nat.reduceLeDiff, Nat.reduceLT, Nat.reduceAdd, Nat.reduceMul, Nat.reduceSub, Nat.reduceDiv, Nat.reduceMod, ↓reduceIte, rX1]
    · show m_X6_groups a0 _ ν = _
      simp -implicitDefEqProofs (disch := omega) only [m_X6_groups, bo2 h0 hI.1.2.2, ev_b, ev_b2, ev_g, ev_gF, ev_on, ev_os, ev_cl, ev_in, ev_in6, ev_eq0, ev_lt0, ev_0le, ev_le0, ev_0lt, ev_lt, ev_le, ev_eq, ev_m1a, ev_m1b, ev_m1c, ev_m1d, ev_m1e, ev_n1, ev_n4, ev_n8, ev_n9, ev_n10, ev_n11, ev_n12, ev_n13, ev_n14, ev_n15, ev_n16, ev_n17, ev_n59, ev_n60, ev_n61, ev_n62, ev_n63, ev_n64, ev_n65, ev_n66, ev_n67, ev_n68, ev_n69, ev_n70, ev_n71, ev_n72, ev_n73, ev_n74, ev_n75, ev_n76, ev_n77, ev_n78, ev_n79, ev_n80, ev_k18, ev_k34, ev_k40, ev_n26, ev_n26b, ev_n46, ev_n46b, ev_n52b, ev_uq, ev_us, ev_uj, ev_lq, ev_ls, ev_lj, ev_urq, ev_urs, ev_ulq, ev_uls, nI_add, pk_sub, pk_mul, if_true, if_false, ite_true, ite_false, decide_true, decide_false, eq_self_iff_true, Nat.reduceEqDiff, Nat.reduceLeDiff, Nat.reduceLT, Nat.reduceAdd, Nat.reduceMul, Nat.reduceSub, Nat.reduceDiv, Nat.reduceMod, ↓reduceIte, rM1]
  have ok := okP_of (hI.2.1 b hb).1
  have cc := pC_le ok
  obtain ⟨μ1, μ2, μ3, p1, p2, p3, p4, q1, q2, q3, q4, q5⟩ := hung_all h hI hb
  obtain ⟨r, r1, r2⟩ := grp_l (by omega) ν p3 p4 q3 q4 (fun x1_10 => some (x1_10, μ2, ν)) (fun x => some (x, μ3, ν)) _ 0 5000 (nI 0) (nI 0) (Nat.zero_add _) (by omega)
  refine op_mk (r := r) (μ1 := μ2) (ν1 := ν) (μ2 := μ3) (ν2 := ν) ?_ ?_ q5
  · rw [m_X5_groups, ba_in hn hb hI.1.2.1, ev_b, ev_os, p1, ev_b, m_X1_hangingGroups, p2, ev_b]
    show (m_X1_hangingGroups_10 μ2 ν (fun x1_10 => some (x1_10, μ2, ν)) 5000 (nI 0) (nI 0) (nI 0)).bind _ = _
    rw [r1, ev_b]
  · show m_X6_groups (nI b) μ2 ν = _
    rw [m_X6_groups, q1, ev_b, if_neg (by decide), q2, ev_b]
    exact r2
