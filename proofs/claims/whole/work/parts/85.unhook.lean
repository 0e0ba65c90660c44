/-! UNHOOK -/
theorem pc_le (m : Nat) : ∀ k, pc m k ≤ k := by
  intro k
  induction k with
  | zero => exact Nat.le_refl 0
  | succ k ih =>
    rw [pc]
    by_cases e : m.testBit k = true
    · rw [if_pos e]; omega
    · rw [if_neg e]; omega
theorem pc_full (m : Nat) : ∀ k, pc m k = k → ∀ i, i < k → m.testBit i = true := by
  intro k
  induction k with
  | zero => intro _ i hi; exact absurd hi (Nat.not_lt_zero i)
  | succ k ih =>
    intro h i hi
    have l := pc_le m k
    rw [pc] at h
    by_cases e : m.testBit k = true
    · rw [if_pos e] at h
      by_cases z : i = k
      · rw [z]; exact e
      · exact ih (by omega) i (by omega)
    · rw [if_neg e] at h
      omega
theorem pc_ext {m c : Nat} (h : m < 2 ^ c) : ∀ j, pc m (c + j) = pc m c := by
  intro j
  induction j with
  | zero => rfl
  | succ j ih =>
    show pc m (c + j + 1) = _
    rw [pc, ih, Nat.testBit_lt_two_pow (Nat.lt_of_lt_of_le h (Nat.pow_le_pow_right (by decide) (by omega))), if_neg (by decide), Nat.add_zero]
theorem pc_12 {m c : Nat} (hc : c ≤ 12) (h : m < 2 ^ c) : pc m 12 = pc m c := by
  have := pc_ext h (12 - c)
  rwa [show c + (12 - c) = 12 by omega] at this
theorem pc_all {c : Nat} (hc : c ≤ 12) : pc (2 ^ c - 1) 12 = c := by
  rw [pc_12 hc (by have := Nat.two_pow_pos c; omega)]
  have : ∀ k, k ≤ c → pc (2 ^ c - 1) k = k := by
    intro k
    induction k with
    | zero => intro _; rfl
    | succ k ih =>
      intro hk
      rw [pc, ih (by omega), Nat.testBit_two_pow_sub_one, if_pos (decide_eq_true (by omega))]
  exact this c (Nat.le_refl c)
theorem pc_less {m c : Nat} (hc : c ≤ 12) (h : m < 2 ^ c - 1) : pc m 12 < c := by
  have h2 : m < 2 ^ c := by omega
  rw [pc_12 hc h2]
  have l := pc_le m c
  by_cases e : pc m c = c
  · have f := pc_full m c e
    have : m = 2 ^ c - 1 := Nat.eq_of_testBit_eq (fun i => by
      rw [Nat.testBit_two_pow_sub_one]
      by_cases z : i < c
      · rw [f i z, decide_eq_true z]
      · rw [decide_eq_false z, Nat.testBit_lt_two_pow (Nat.lt_of_lt_of_le h2 (Nat.pow_le_pow_right (by decide) (by omega)))])
    omega
  · omega
theorem and_N (a b : Nat) : nI a &&& nI b = nI (a &&& b) := by
  apply Int32.toBitVec_inj.mp
  show BitVec.ofNat 32 a &&& BitVec.ofNat 32 b = BitVec.ofNat 32 (a &&& b)
  exact (BitVec.ofNat_and ..).symm
theorem xor_N (a b : Nat) : nI a ^^^ nI b = nI (a ^^^ b) := by
  apply Int32.toBitVec_inj.mp
  show BitVec.ofNat 32 a ^^^ BitVec.ofNat 32 b = BitVec.ofNat 32 (a ^^^ b)
  exact (BitVec.ofNat_xor ..).symm
theorem m1_N : (-1 : Int32) = nI (2 ^ 32 - 1) := by decide
theorem p4096 {c : Nat} (hc : c ≤ 12) : 1 ≤ 2 ^ c ∧ 2 ^ c ≤ 4096 := ⟨Nat.two_pow_pos c, Nat.pow_le_pow_right (n := 2) (by decide) hc⟩
/-- the strips left when m is taken -/
def lf (c m : Nat) : Nat := (2 ^ c - 1) &&& (m ^^^ (2 ^ 32 - 1))
theorem lf_b {c m p : Nat} (hc : c ≤ 12) (hp : p < c) : (lf c m).testBit p = !m.testBit p := by
  unfold lf
  rw [Nat.testBit_and, Nat.testBit_xor, Nat.testBit_two_pow_sub_one, Nat.testBit_two_pow_sub_one, decide_eq_true hp, decide_eq_true (by omega : p < 32), Bool.true_and, Bool.xor_true]
theorem lf_lt {c m : Nat} (hc : c ≤ 12) : lf c m < 4096 := by
  have h := p4096 hc
  have : lf c m ≤ 2 ^ c - 1 := Nat.and_le_left
  omega
theorem lf_I (c m : Nat) : nI (2 ^ c - 1) &&& (nI m ^^^ (-1 : Int32)) = nI (lf c m) := by rw [m1_N, xor_N, and_N]; rfl
theorem lf_H {c m h : Nat} (hh : h < 2 ^ c) : nI h &&& nI (lf c m) = nI h &&& (nI m ^^^ (-1 : Int32)) := by
  rw [← lf_I, ← Int32.and_assoc, and_N, Nat.and_two_pow_sub_one_of_lt_two_pow hh]
noncomputable def vB (H : Nat → Nat) (m : Nat) : Nat → Nat → Bool
  | 0, _ => true
  | d + 1, p => if m.testBit p = true then vB H m d (p + 1) else if nI (H p) &&& (nI m ^^^ (-1 : Int32)) = 0 then vB H m d (p + 1) else false
theorem nh_2 {c m : Nat} {H : Nat → Nat} (hc : c ≤ 12) (hH : ∀ p, p < c → H p < 2 ^ c) {μ : fm_I} (ν : fm_L) (h0 : μ 5 0 = nI c) (h : ∀ p, p < c → μ 13 p = nI (H p)) : ∀ (d p fuel : Nat), p + d = c → d < fuel → m_X1_noneHangIn_2 (nI (lf c m)) μ ν (some (nI 1)) fuel (nI p) = some (nI (if vB H m d p = true then 1 else 0)) := by
  intro d
  induction d with
  | zero =>
    intro p fuel hp hf'
    obtain ⟨f, rfl⟩ : ∃ j, fuel = j + 1 := ⟨fuel - 1, by omega⟩
    rw [m_X1_noneHangIn_2, h0, if_pos (le_i (by omega) (by omega))]
    rfl
  | succ d ih =>
    intro p fuel hp hf'
    obtain ⟨f, rfl⟩ : ∃ j, fuel = j + 1 := ⟨fuel - 1, by omega⟩
    have l := lf_lt (c := c) (m := m) hc
    rw [m_X1_noneHangIn_2, h0, if_neg (nle_i (by omega) (by omega)), bt_i (by omega) (by omega), lf_b hc (by omega), vB]
    by_cases e : m.testBit p = true
    · rw [e, if_pos rfl, if_neg (by decide), nI_add]
      exact ih (p + 1) f (by omega) (by omega)
    · have e' : m.testBit p = false := by
        cases z : m.testBit p
        · rfl
        · exact absurd z e
      rw [if_neg e, e', if_pos (by decide), ev_in (by rw [ev_n13]; omega) (by omega), ev_g, ev_cl (by omega), h p (by omega), lf_H (hH p (by omega))]
      by_cases y : nI (H p) &&& (nI m ^^^ (-1 : Int32)) = 0
      · rw [if_pos y, if_pos y, nI_add]
        exact ih (p + 1) f (by omega) (by omega)
      · rw [if_neg y, if_neg y, if_neg (by decide)]
theorem un_61 {c m : Nat} {H : Nat → Nat} (hc : c ≤ 12) (hm : m < 4096) {μ : fm_I} (ν : fm_L) (h0 : μ 58 28 = nI c) (h : ∀ p, p < c → μ 78 p = nI (H p)) (v2 : Int32) (K : Int32 → Option (Int32 × fm_I × fm_L)) : ∀ (d p fuel : Nat), p + d = c → d + 1 < fuel → m_X6_unhook_61 v2 (nI m) μ ν K fuel (nI 1) (nI p) = K (nI (if vB H m d p = true then 1 else 0)) ∧ m_X6_unhook_61 v2 (nI m) μ ν K fuel (nI 0) (nI p) = K (nI 0) := by
  intro d
  induction d with
  | zero =>
    intro p fuel hp hf'
    obtain ⟨f, rfl⟩ : ∃ j, fuel = j + 1 := ⟨fuel - 1, by omega⟩
    constructor
    · rw [m_X6_unhook_61, h0, if_pos (le_i (by omega) (by omega))]
      rfl
    · rw [m_X6_unhook_61, h0, if_pos (le_i (by omega) (by omega))]
  | succ d ih =>
    intro p fuel hp hf'
    obtain ⟨f, rfl⟩ : ∃ j, fuel = j + 1 := ⟨fuel - 1, by omega⟩
    obtain ⟨i1, i2⟩ := ih (p + 1) f (by omega) (by omega)
    constructor
    · rw [m_X6_unhook_61, h0, if_neg (nle_i (by omega) (by omega)), if_neg (by decide), bt_i (by omega) (by omega), vB]
      by_cases e : m.testBit p = true
      · rw [e, if_pos rfl, if_pos rfl, nI_add, if_pos rfl]
        exact i1
      · have e' : m.testBit p = false := by
          cases z : m.testBit p
          · rfl
          · exact absurd z e
        rw [if_neg e, if_neg e, if_neg (by decide), ev_in (by rw [ev_n78]; omega) (by omega), ev_g, ev_cl (by omega), h p (by omega)]
        by_cases y : nI (H p) &&& (nI m ^^^ (-1 : Int32)) = 0
        · rw [if_pos y, if_pos y, nI_add]
          exact i1
        · rw [if_neg y, if_neg y, if_neg (by decide), nI_add]
          exact i2
    · rw [m_X6_unhook_61, h0, if_neg (nle_i (by omega) (by omega)), if_pos (by decide)]
theorem vB_all {c : Nat} {H : Nat → Nat} : ∀ (d p : Nat), p + d = c → vB H (2 ^ c - 1) d p = true := by
  intro d
  induction d with
  | zero => intro p _; rfl
  | succ d ih =>
    intro p hp
    rw [vB, Nat.testBit_two_pow_sub_one, if_pos (decide_eq_true (by omega))]
    exact ih (p + 1) (by omega)
theorem cnt_M {m : Nat} (hm : m < 4096) (μ : fm_I) (ν : fm_L) : m_X6_count (nI m) μ ν = some (nI (pc m 12)) := by
  have L : ∀ (d i fuel : Nat), i + d = 12 → d < fuel → m_X6_count_4 (nI m) μ ν (fun x2_4 => some x2_4) fuel (nI (pc m i)) (nI i) = some (nI (pc m 12)) := by
    intro d
    induction d with
    | zero =>
      intro i fuel hi hf'
      obtain ⟨f, rfl⟩ : ∃ j, fuel = j + 1 := ⟨fuel - 1, by omega⟩
      obtain rfl : i = 12 := by omega
      rw [m_X6_count_4, if_pos (by decide)]
    | succ d ih =>
      intro i fuel hi hf'
      obtain ⟨f, rfl⟩ : ∃ j, fuel = j + 1 := ⟨fuel - 1, by omega⟩
      rw [m_X6_count_4, if_neg (nle_i (by omega) (by omega)), bt_i (by omega) (by omega), nI_add, nI_add]
      exact ih (i + 1) f (by omega) (by omega)
  rw [m_X6_count]
  exact L 12 0 5000 (by omega) (by omega)
theorem sh12 : ∀ x, x < 13 → nI 1 <<< (nI x &&& 31) = nI (2 ^ x) := by decide
theorem unh_l {c : Nat} {H : Nat → Nat} (hc : c ≤ 12) (hH : ∀ p, p < c → H p < 2 ^ c) {μ1 μ2 : fm_I} (ν : fm_L) (h0 : μ1 5 0 = nI c) (h : ∀ p, p < c → μ1 13 p = nI (H p)) (g0 : μ2 58 28 = nI c) (g : ∀ p, p < c → μ2 78 p = nI (H p)) (KX KM : Int32 → Option (Int32 × fm_I × fm_L)) : ∀ (d m fuel : Nat) (x y : Int32), m + d = 2 ^ c → d < fuel → ((y = -1 ∧ x = nI (2 ^ c - 1) ∧ m < 2 ^ c) ∨ ∃ B, B < 2 ^ c ∧ x = nI B ∧ y = nI B) → ∃ r, m_X1_fewestToCut_17 (nI (2 ^ c - 1)) μ1 ν KX fuel x (nI m) = KX r ∧ m_X6_unhook_23 μ2 ν KM fuel y (nI m) = KM r := by
  obtain ⟨k1, k2⟩ := p4096 hc
  intro d
  induction d with
  | zero =>
    intro m fuel x y hm hf' S
    obtain ⟨f, rfl⟩ : ∃ j, fuel = j + 1 := ⟨fuel - 1, by omega⟩
    obtain ⟨B, hB, rfl, rfl⟩ : ∃ B, B < 2 ^ c ∧ x = nI B ∧ y = nI B := by
      rcases S with ⟨_, _, z⟩ | S
      · omega
      · exact S
    refine ⟨nI B, ?_, ?_⟩
    · rw [m_X1_fewestToCut_17, if_pos ((nI_ltI (by omega) (by omega)).mpr (by omega))]
    · rw [m_X6_unhook_23, g0, sh12 c (by omega), if_pos (le_i (by omega) (by omega))]
  | succ d ih =>
    intro m fuel x y hm hf' S
    obtain ⟨f, rfl⟩ : ∃ j, fuel = j + 1 := ⟨fuel - 1, by omega⟩
    have X : ∀ B, B < 2 ^ c → m_X1_fewestToCut_17 (nI (2 ^ c - 1)) μ1 ν KX (f + 1) (nI B) (nI m) = if pc B 12 ≤ pc m 12 then m_X1_fewestToCut_17 (nI (2 ^ c - 1)) μ1 ν KX f (nI B) (nI (m + 1)) else if vB H m c 0 = true then m_X1_fewestToCut_17 (nI (2 ^ c - 1)) μ1 ν KX f (nI m) (nI (m + 1)) else m_X1_fewestToCut_17 (nI (2 ^ c - 1)) μ1 ν KX f (nI B) (nI (m + 1)) := fun B hB => by
      have l1 := pc_le B 12
      have l2 := pc_le m 12
      rw [m_X1_fewestToCut_17, if_neg (fun z => by have := (nI_ltI (by omega) (by omega)).mp z; omega), bc_X, ev_b, bc_X, ev_b, bc_m (by omega), bc_m (by omega), nI_add]
      by_cases e : pc B 12 ≤ pc m 12
      · rw [if_pos e, if_pos (le_i e (by omega))]
      · rw [if_neg e, if_neg (nle_i (by omega) (by omega)), lf_I, m_X1_noneHangIn, nh_2 hc hH ν h0 h c 0 5000 (by omega) (by omega), ev_b]
        by_cases w : vB H m c 0 = true
        · rw [if_pos w, if_pos w, if_neg (by decide)]
        · rw [if_neg w, if_neg w, if_pos (by decide)]
    have M1 : m_X6_unhook_23 μ2 ν KM (f + 1) (-1) (nI m) = if vB H m c 0 = true then m_X6_unhook_23 μ2 ν KM f (nI m) (nI (m + 1)) else m_X6_unhook_23 μ2 ν KM f (-1) (nI (m + 1)) := by
      rw [m_X6_unhook_23, g0, sh12 c (by omega), if_neg (nle_i (by omega) (by omega)), if_pos rfl, (un_61 hc (by omega) ν g0 g _ _ c 0 5000 (by omega) (by omega)).1, nI_add]
      by_cases w : vB H m c 0 = true
      · rw [if_pos w, if_pos w, if_neg (by decide)]
      · rw [if_neg w, if_neg w, if_pos (by decide)]
    have M2 : ∀ B, B < 2 ^ c → m_X6_unhook_23 μ2 ν KM (f + 1) (nI B) (nI m) = if pc B 12 ≤ pc m 12 then m_X6_unhook_23 μ2 ν KM f (nI B) (nI (m + 1)) else if vB H m c 0 = true then m_X6_unhook_23 μ2 ν KM f (nI m) (nI (m + 1)) else m_X6_unhook_23 μ2 ν KM f (nI B) (nI (m + 1)) := fun B hB => by
      have l1 := pc_le B 12
      have l2 := pc_le m 12
      rw [m_X6_unhook_23, g0, sh12 c (by omega), if_neg (nle_i (by omega) (by omega)), if_neg (by rw [ev_m1a (by omega)]; exact not_false), cnt_M (by omega), ev_b, cnt_M (by omega), ev_b, nI_add]
      by_cases e : pc B 12 ≤ pc m 12
      · rw [if_pos e, if_pos (le_i e (by omega)), (un_61 hc (by omega) ν g0 g _ _ c 0 5000 (by omega) (by omega)).2, if_pos (by decide)]
      · rw [if_neg e, if_neg (nle_i (by omega) (by omega)), (un_61 hc (by omega) ν g0 g _ _ c 0 5000 (by omega) (by omega)).1]
        by_cases w : vB H m c 0 = true
        · rw [if_pos w, if_pos w, if_neg (by decide)]
        · rw [if_neg w, if_neg w, if_pos (by decide)]
    rcases S with ⟨rfl, rfl, _⟩ | ⟨B, hB, rfl, rfl⟩
    · rw [X _ (by omega), M1]
      by_cases e : m = 2 ^ c - 1
      · subst e
        rw [if_pos (Nat.le_refl _), if_pos (vB_all c 0 (by omega))]
        exact ih _ f _ _ (by omega) (by omega) (Or.inr ⟨2 ^ c - 1, by omega, rfl, rfl⟩)
      · have l := pc_less hc (show m < 2 ^ c - 1 by omega)
        rw [if_neg (by rw [pc_all hc]; omega)]
        by_cases w : vB H m c 0 = true
        · rw [if_pos w, if_pos w]
          exact ih _ f _ _ (by omega) (by omega) (Or.inr ⟨m, by omega, rfl, rfl⟩)
        · rw [if_neg w, if_neg w]
          exact ih _ f _ _ (by omega) (by omega) (Or.inl ⟨rfl, rfl, by omega⟩)
    · rw [X B hB, M2 B hB]
      by_cases e : pc B 12 ≤ pc m 12
      · rw [if_pos e, if_pos e]
        exact ih _ f _ _ (by omega) (by omega) (Or.inr ⟨B, hB, rfl, rfl⟩)
      · rw [if_neg e, if_neg e]
        by_cases w : vB H m c 0 = true
        · rw [if_pos w, if_pos w]
          exact ih _ f _ _ (by omega) (by omega) (Or.inr ⟨m, by omega, rfl, rfl⟩)
        · rw [if_neg w, if_neg w]
          exact ih _ f _ _ (by omega) (by omega) (Or.inr ⟨B, hB, rfl, rfl⟩)
theorem op_unhook {μ : fm_I} {ν : fm_L} (h : Inv μ ν) (a0 : Int32) : pa_op (m_X5_unhook a0 μ ν) (fun μ ν => m_X6_unhook a0 μ ν) := by
  obtain ⟨n, F, hI⟩ := id h
  have hn := hI.1.1
  rcases bd_cases a0 hn with h0 | ⟨b, hb, rfl⟩
  · refine op_rf h 1 (by decide) (r := -1) ?_ ?_
    · simp -implicitDefEqProofs (disch := omega) only [m_X5_unhook, ba_out h0 hI.1.2.1, ev_b, ev_b2, ev_g, ev_gF, ev_on, ev_os, ev_cl, ev_in, ev_in6, ev_eq0, ev_lt0, ev_0le, ev_le0, ev_0lt, ev_lt, ev_le, ev_eq, ev_m1a, ev_m1b, ev_m1c, ev_m1d, ev_m1e, ev_n1, ev_n4, ev_n8, ev_n9, ev_n10, ev_n11, ev_n12, ev_n13, ev_n14, ev_n15, ev_n16, ev_n17, ev_n59, ev_n60, ev_n61, ev_n62, ev_n63, ev_n64, ev_n65, ev_n66, ev_n67, ev_n68, ev_n69, ev_n70, ev_n71, ev_n72, ev_n73, ev_n74, ev_n75, ev_n76, ev_n77, ev_n78, ev_n79, ev_n80, ev_k18, ev_k34, ev_k40, ev_n26, ev_n26b, ev_n46, ev_n46b, ev_n52b, ev_uq, ev_us, ev_uj, ev_lq, ev_ls, ev_lj, ev_urq, ev_urs, ev_ulq, ev_uls, nI_add, pk_sub, pk_mul, if_true, if_false, ite_true, ite_false, decide_true, decide_false, eq_self_iff_true, Nat.reduceEqDiff, Nat.reduceLeDiff, Nat.reduceLT, Nat.reduceAdd, Nat.reduceMul, Nat.reduceSub, Nat.reduceDiv, Nat.reduceMod, ↓reduceIte, rX1]
    · show m_X6_unhook a0 _ ν = _
      simp -implicitDefEqProofs (disch := omega) only [m_X6_unhook, bo2 h0 hI.1.2.2, ev_b, ev_b2, ev_g, ev_gF, ev_on, ev_os, ev_cl, ev_in, ev_in6, ev_eq0, ev_lt0, ev_0le, ev_le0, ev_0lt, ev_lt, ev_le, ev_eq, ev_m1a, ev_m1b, ev_m1c, ev_m1d, ev_m1e, ev_n1, ev_n4, ev_n8, ev_n9, ev_n10, ev_n11, ev_n12, ev_n13, ev_n14, ev_n15, ev_n16, ev_n17, ev_n59, ev_n60, ev_n61, ev_n62, ev_n63, ev_n64, ev_n65, ev_n66, ev_n67, ev_n68, ev_n69, ev_n70, ev_n71, ev_n72, ev_n73, ev_n74, ev_n75, ev_n76, ev_n77, ev_n78, ev_n79, ev_n80, ev_k18, ev_k34, ev_k40, ev_n26, ev_n26b, ev_n46, ev_n46b, ev_n52b, ev_uq, ev_us, ev_uj, ev_lq, ev_ls, ev_lj, ev_urq, ev_urs, ev_ulq, ev_uls, nI_add, pk_sub, pk_mul, if_true, if_false, ite_true, ite_false, decide_true, decide_false, eq_self_iff_true, Nat.reduceEqDiff, Nat.reduceLeDiff, Nat.reduceLT, Nat.reduceAdd, Nat.reduceMul, Nat.reduceSub, Nat.reduceDiv, Nat.reduceMod, ↓reduceIte, rM1]
  have ok := okP_of (hI.2.1 b hb).1
  have cc := pC_le ok
  have c12 : pC (F b 0) (F b 2) (F b 4) (F b 1 % 2) ≤ 12 := by omega
  obtain ⟨k1, k2⟩ := p4096 c12
  obtain ⟨μ1, μ2, μ3, p1, p2, p3, p4, q1, q2, q3, q4, q5⟩ := hung_all h hI hb
  obtain ⟨r, r1, r2⟩ := unh_l c12 (fun p _ => hH_lt (F b 0) (F b 2) (F b 4) (F b 3) (F b 1) p) ν p3 p4 q3 q4 (fun x2_17 => some (x2_17, μ2, ν)) (fun x => some (x, μ3, ν)) _ 0 5000 (nI (2 ^ pC (F b 0) (F b 2) (F b 4) (F b 1 % 2) - 1)) (-1) (Nat.zero_add _) (by omega) (Or.inl ⟨rfl, rfl, by omega⟩)
  refine op_mk (r := r) (μ1 := μ2) (ν1 := ν) (μ2 := μ3) (ν2 := ν) ?_ ?_ q5
  · rw [m_X5_unhook, ba_in hn hb hI.1.2.1, ev_b, ev_os, p1, ev_b, m_X1_fewestToCut, p2, ev_b]
    show (m_X1_fewestToCut_17 ((nI 1 <<< (μ2 5 0 &&& 31)) - nI 1) μ2 ν (fun x2_17 => some (x2_17, μ2, ν)) 5000 ((nI 1 <<< (μ2 5 0 &&& 31)) - nI 1) (nI 0)).bind _ = _
    rw [p3, sh12 _ (by omega), pk_sub k1, r1, ev_b]
  · show m_X6_unhook (nI b) μ2 ν = _
    rw [m_X6_unhook, q1, ev_b, if_neg (by decide), q2, ev_b]
    exact r2
