/-! ALL HOOKS: two orders of one sum -/
noncomputable def Sr (g : Nat → Int32) : Nat → Nat → Int32
  | 0, _ => 0
  | d + 1, j => g j + Sr g d (j + 1)
theorem Sr_e (g : Nat → Int32) : ∀ (d j : Nat), Sr g (d + 1) j = Sr g d j + g (j + d) := by
  intro d
  induction d with
  | zero =>
    intro j
    rw [Sr, Sr, Sr, Int32.add_zero, Int32.zero_add]
    rfl
  | succ d ih =>
    intro j
    rw [Sr, ih (j + 1), Sr, Int32.add_assoc, show j + 1 + d = j + (d + 1) by omega]
theorem Sr_c {g h : Nat → Int32} : ∀ (d j : Nat), (∀ x, j ≤ x → x < j + d → g x = h x) → Sr g d j = Sr h d j := by
  intro d
  induction d with
  | zero => intro j _; rfl
  | succ d ih =>
    intro j e
    rw [Sr, Sr, e j (by omega) (by omega), ih (j + 1) (fun x h1 h2 => e x (by omega) (by omega))]
theorem Sr_a (g h : Nat → Int32) : ∀ (d j : Nat), Sr (fun x => g x + h x) d j = Sr g d j + Sr h d j := by
  intro d
  induction d with
  | zero => intro j; rw [Sr, Sr, Sr, Int32.add_zero]
  | succ d ih =>
    intro j
    rw [Sr, Sr, Sr, ih]
    rw [Int32.add_assoc, Int32.add_assoc, ← Int32.add_assoc (h j), Int32.add_comm (h j), Int32.add_assoc (Sr g d (j + 1))]
theorem Sr_t (f : Nat → Nat → Int32) (hf : ∀ p q, f p q = f q p) : ∀ c, Sr (fun i => Sr (f i) (c - (i + 1)) (i + 1)) c 0 = Sr (fun p => Sr (f p) p 0) c 0 := by
  intro c
  induction c with
  | zero => rfl
  | succ c ih =>
    rw [Sr_e, Sr_e, ← ih]
    rw [show Sr (f (0 + c)) (c + 1 - (0 + c + 1)) (0 + c + 1) = 0 by rw [show c + 1 - (0 + c + 1) = 0 by omega]; rfl, Int32.add_zero]
    rw [show Sr (f (0 + c)) (0 + c) 0 = Sr (fun i => f i c) c 0 by rw [Nat.zero_add]; exact Sr_c c 0 (fun x _ _ => hf c x)]
    rw [← Sr_a]
    refine Sr_c c 0 (fun x _ h2 => ?_)
    show Sr (f x) (c + 1 - (x + 1)) (x + 1) = Sr (f x) (c - (x + 1)) (x + 1) + f x c
    rw [show c + 1 - (x + 1) = c - (x + 1) + 1 by omega, Sr_e, show x + 1 + (c - (x + 1)) = c by omega]
def ab (v : Int32) : Int32 := if 0 ≤ v then v else -v
noncomputable def hf (k n a s t p q : Nat) : Int32 := ab (hk k n a s t p q)
noncomputable def aH (k n a s t : Nat) : Int32 := Sr (fun p => Sr (hf k n a s t p) p 0) (pC k n a (t % 2)) 0
theorem all_20 {k n a s t p : Nat} (ok : okP k n a s t) (hp : p < pC k n a (t % 2)) {μ : fm_I} (ν : fm_L) (h : zX k n a s t μ) (ht : tbX k n a s t μ) (K : Int32 → Option (Int32 × fm_I × fm_L)) : ∀ (d j fuel : Nat) (v : Int32), j + d = pC k n a (t % 2) → d < fuel → p < j → m_X1_hooksInAll_20 (nI p) μ ν K fuel v (nI j) = K (v + Sr (hf k n a s t p) d j) := by
  have cc := pC_le ok
  intro d
  induction d with
  | zero =>
    intro j fuel v hj hf' hpj
    obtain ⟨f, rfl⟩ : ∃ j, fuel = j + 1 := ⟨fuel - 1, by omega⟩
    rw [m_X1_hooksInAll_20, h.2.2.2.2.2.1, if_pos (le_i (by omega) (by omega)), Sr, Int32.add_zero]
  | succ d ih =>
    intro j fuel v hj hf' hpj
    obtain ⟨f, rfl⟩ : ∃ j, fuel = j + 1 := ⟨fuel - 1, by omega⟩
    rw [m_X1_hooksInAll_20, h.2.2.2.2.2.1, if_neg (nle_i (by omega) (by omega)), hc_X ok ν h ht hp (show j < pC k n a (t % 2) by omega) (by omega), ev_b, nI_add, Sr, ← Int32.add_assoc, ← ih (j + 1) f _ (by omega) (by omega) (by omega)]
    unfold hf ab
    rw [Int32.zero_sub]
theorem all_8 {k n a s t : Nat} (ok : okP k n a s t) {μ : fm_I} (ν : fm_L) (h : zX k n a s t μ) (ht : tbX k n a s t μ) (K : Int32 → Option (Int32 × fm_I × fm_L)) : ∀ (d i fuel : Nat) (v : Int32), i + d = pC k n a (t % 2) → d < fuel → m_X1_hooksInAll_8 μ ν K fuel v (nI i) = K (v + Sr (fun i => Sr (hf k n a s t i) (pC k n a (t % 2) - (i + 1)) (i + 1)) d i) := by
  have cc := pC_le ok
  intro d
  induction d with
  | zero =>
    intro j fuel v hj hf'
    obtain ⟨f, rfl⟩ : ∃ j, fuel = j + 1 := ⟨fuel - 1, by omega⟩
    rw [m_X1_hooksInAll_8, h.2.2.2.2.2.1, if_pos (le_i (by omega) (by omega)), Sr, Int32.add_zero]
  | succ d ih =>
    intro i fuel v hj hf'
    obtain ⟨f, rfl⟩ : ∃ j, fuel = j + 1 := ⟨fuel - 1, by omega⟩
    rw [m_X1_hooksInAll_8, h.2.2.2.2.2.1, if_neg (nle_i (by omega) (by omega)), nI_add, all_20 ok (show i < pC k n a (t % 2) by omega) ν h ht _ (pC k n a (t % 2) - (i + 1)) (i + 1) 5000 v (by omega) (by omega) (by omega), Sr, ← Int32.add_assoc]
    exact ih (i + 1) f _ (by omega) (by omega)
theorem all_X {k n a s t : Nat} (ok : okP k n a s t) {μ : fm_I} (ν : fm_L) (h : zX k n a s t μ) : ∃ μ', m_X1_hooksInAll μ ν = some (aH k n a s t, μ', ν) ∧ (∀ q, q ≠ 12 → μ' q = μ q) := by
  have cc := pC_le ok
  obtain ⟨μ', q1, q2, q3⟩ := cnt_X ok ν h
  refine ⟨μ', ?_, q2⟩
  rw [m_X1_hooksInAll, q1, ev_b, all_8 ok ν (kp_cX h (fun q hq => q2 q (by omega))) q3 _ (pC k n a (t % 2)) 0 5000 (nI 0) (by omega) (by omega), nI0, Int32.zero_add, Sr_t _ (fun p q => by unfold hf; rw [hk_s])]
  rfl
theorem allM_20 {b k n a s t p : Nat} (ok : okP k n a s t) (hb : b < 6) (hp : p < pC k n a (t % 2)) {μ : fm_I} (ν : fm_L) (h : bM k n a s t b μ) (h2 : zM k n a t μ) (K : Int32 → Option (Int32 × fm_I × fm_L)) : ∀ (d j fuel : Nat) (v : Int32), j + d = p → d < fuel → m_X6_allOf_20 (nI b) (nI p) μ ν K fuel v (nI j) = K (v + Sr (hf k n a s t p) d j) := by
  have cc := pC_le ok
  intro d
  induction d with
  | zero =>
    intro j fuel v hj hf'
    obtain ⟨f, rfl⟩ : ∃ j, fuel = j + 1 := ⟨fuel - 1, by omega⟩
    rw [m_X6_allOf_20, if_pos (le_i (by omega) (by omega)), Sr, Int32.add_zero]
  | succ d ih =>
    intro j fuel v hj hf'
    obtain ⟨f, rfl⟩ : ∃ j, fuel = j + 1 := ⟨fuel - 1, by omega⟩
    rw [m_X6_allOf_20, if_neg (nle_i (by omega) (by omega)), hkd_M ok hb (by omega) (by omega) ν h h2, ev_b, nI_add, Sr, ← Int32.add_assoc, ← ih (j + 1) f _ (by omega) (by omega)]
    unfold hf ab
    by_cases c : 0 ≤ hk k n a s t p j
    · rw [if_pos c, if_pos c]
    · rw [if_neg c, if_neg c]
theorem allM_9 {b k n a s t : Nat} (ok : okP k n a s t) (hb : b < 6) {μ : fm_I} (ν : fm_L) (h : bM k n a s t b μ) (h2 : zM k n a t μ) (K : Int32 → Option (Int32 × fm_I × fm_L)) : ∀ (d i fuel : Nat) (v : Int32), i + d = pC k n a (t % 2) → d < fuel → m_X6_allOf_9 (nI b) μ ν K fuel v (nI i) = K (v + Sr (fun p => Sr (hf k n a s t p) p 0) d i) := by
  have cc := pC_le ok
  intro d
  induction d with
  | zero =>
    intro j fuel v hj hf'
    obtain ⟨f, rfl⟩ : ∃ j, fuel = j + 1 := ⟨fuel - 1, by omega⟩
    rw [m_X6_allOf_9, h2.2.1, if_pos (le_i (by omega) (by omega)), Sr, Int32.add_zero]
  | succ d ih =>
    intro i fuel v hj hf'
    obtain ⟨f, rfl⟩ : ∃ j, fuel = j + 1 := ⟨fuel - 1, by omega⟩
    rw [m_X6_allOf_9, h2.2.1, if_neg (nle_i (by omega) (by omega)), nI_add, allM_20 ok hb (show i < pC k n a (t % 2) by omega) ν h h2 _ i 0 5000 v (by omega) (by omega), Sr, ← Int32.add_assoc]
    exact ih (i + 1) f _ (by omega) (by omega)
theorem all_M {b k n a s t : Nat} (ok : okP k n a s t) (hb : b < 6) {μ : fm_I} (ν : fm_L) (h : bM k n a s t b μ) (h2 : zM k n a t μ) (K : Int32 → Option (Int32 × fm_I × fm_L)) : m_X6_allOf_9 (nI b) μ ν K 5000 (nI 0) (nI 0) = K (aH k n a s t) := by
  have cc := pC_le ok
  rw [allM_9 ok hb ν h h2 K (pC k n a (t % 2)) 0 5000 (nI 0) (by omega) (by omega), nI0, Int32.zero_add]
  rfl
/-- after both have cut, and the class has counted -/
theorem cut_inv2 {μ μ1 μ2 μ3 : fm_I} {ν : fm_L} (h : Inv μ ν) (x : ∀ q, q ≠ 5 → q ≠ 9 → q ≠ 10 → q ≠ 11 → μ1 q = μ q) (x2 : ∀ q, q ≠ 12 → q ≠ 13 → μ2 q = μ1 q) (m : ∀ q, q ≠ 76 → q ≠ 77 → q ≠ 78 → q ≠ 58 → μ3 q = μ2 q) (m58 : ∀ j, j ≠ 28 → μ3 58 j = μ2 58 j) : Inv μ3 ν := by
  refine inv_scr h (fun q hq => ?_) (fun j hj => ?_) (fun _ _ => rfl)
  · rw [m q (by omega) (by omega) (by omega) (by omega), x2 q (by omega) (by omega), x q (by omega) (by omega) (by omega) (by omega)]
  · rw [m58 j (by omega), x2 58 (by omega) (by omega), x 58 (by omega) (by omega) (by omega) (by omega)]
theorem op_allHooks {μ : fm_I} {ν : fm_L} (h : Inv μ ν) (a0 : Int32) : pa_op (m_X5_allHooks a0 μ ν) (fun μ ν => m_X6_allHooks a0 μ ν) := by
  obtain ⟨n, F, hI⟩ := id h
  have hn := hI.1.1
  rcases bd_cases a0 hn with h0 | ⟨b, hb, rfl⟩
  · refine op_rf h 1 (by decide) (r := -1) ?_ ?_
    · simp -implicitDefEqProofs (disch := omega) only [m_X5_allHooks, ba_out h0 hI.1.2.1, ev_b, ev_b2, ev_g, ev_gF, ev_on, ev_os, ev_cl, ev_in, ev_in6, ev_eq0, ev_lt0, ev_0le, ev_le0, ev_0lt, ev_lt, ev_le, ev_eq, ev_m1a, ev_m1b, ev_m1c, ev_m1d, ev_m1e, ev_n1, ev_n4, ev_n8, ev_n9, ev_n10, ev_n11, ev_n12, ev_n13, ev_n14, ev_n15, ev_n16, ev_n17, ev_n59, ev_n60, ev_n61, ev_n62, ev_n63, ev_n64, ev_n65, ev_n66, ev_n67, ev_n68, ev_n69, ev_n70, ev_n71, ev_n72, ev_n73, ev_n74, ev_n75, ev_n76, ev_n77, ev_n78, ev_n79, ev_n80, ev_k18, ev_k34, ev_k40, ev_n26, ev_n26b, ev_n46, ev_n46b, ev_n52b, ev_uq, ev_us, ev_uj, ev_lq, ev_ls, ev_lj, ev_urq, ev_urs, ev_ulq, ev_uls, nI_add, pk_sub, pk_mul, if_true, if_false, ite_true, ite_false, decide_true, decide_false, eq_self_iff_true, Nat.reduceEqDiff, Nat.reduceLeDiff, Nat.reduceLT, Nat.reduceAdd, Nat.reduceMul, Nat.reduceSub, Nat.reduceDiv, Nat.reduceMod, ↓reduceIte, rX1]
    · show m_X6_allHooks a0 _ ν = _
      simp -implicitDefEqProofs (disch := omega) only [m_X6_allHooks, bo2 h0 hI.1.2.2, ev_b, ev_b2, ev_g, ev_gF, ev_on, ev_os, ev_cl, ev_in, ev_in6, ev_eq0, ev_lt0, ev_0le, ev_le0, ev_0lt, ev_lt, ev_le, ev_eq, ev_m1a, ev_m1b, ev_m1c, ev_m1d, ev_m1e, ev_n1, ev_n4, ev_n8, ev_n9, ev_n10, ev_n11, ev_n12, ev_n13, ev_n14, ev_n15, ev_n16, ev_n17, ev_n59, ev_n60, ev_n61, ev_n62, ev_n63, ev_n64, ev_n65, ev_n66, ev_n67, ev_n68, ev_n69, ev_n70, ev_n71, ev_n72, ev_n73, ev_n74, ev_n75, ev_n76, ev_n77, ev_n78, ev_n79, ev_n80, ev_k18, ev_k34, ev_k40, ev_n26, ev_n26b, ev_n46, ev_n46b, ev_n52b, ev_uq, ev_us, ev_uj, ev_lq, ev_ls, ev_lj, ev_urq, ev_urs, ev_ulq, ev_uls, nI_add, pk_sub, pk_mul, if_true, if_false, ite_true, ite_false, decide_true, decide_false, eq_self_iff_true, Nat.reduceEqDiff, Nat.reduceLeDiff, Nat.reduceLT, Nat.reduceAdd, Nat.reduceMul, Nat.reduceSub, Nat.reduceDiv, Nat.reduceMod, ↓reduceIte, rM1]
  obtain ⟨d1, d2, d3⟩ := hI.2.1 b hb
  have ok := okP_of d1
  obtain ⟨μ1, p1, p2, p3⟩ := laidX ν (by omega) d1 d2
  obtain ⟨μ2, q1, q2⟩ := all_X ok ν p3
  have e : ∀ q, q ≠ 5 → q ≠ 9 → q ≠ 10 → q ≠ 11 → q ≠ 12 → μ2 q = μ q := fun q y1 y2 y3 y4 y5 => by rw [q2 q y5, p2 q y1 y2 y3 y4]
  have d3' := kp_M (μ' := μ2) d3 (fun q z1 z2 => e q (by omega) (by omega) (by omega) (by omega) (by omega))
  have e58 : μ2 58 0 = nI n := by rw [e 58 (by omega) (by omega) (by omega) (by omega) (by omega)]; exact hI.1.2.2
  obtain ⟨μ3, r1, r2, r3, r4⟩ := cutsM (μ := μ2) ν (by omega) d1 d3'
  refine op_mk (r := aH (F b 0) (F b 2) (F b 4) (F b 3) (F b 1)) (μ1 := μ2) (ν1 := ν) (μ2 := μ3) (ν2 := ν) ?_ ?_ (cut_inv2 h p2 (fun q y1 y2 => q2 q y1) (fun q y1 y2 y3 y4 => r2 q y1 y2 y4) r3)
  · rw [m_X5_allHooks, ba_in hn hb hI.1.2.1, ev_b, ev_os, p1, ev_b, q1, ev_b]
  · show m_X6_allHooks (nI b) μ2 ν = _
    rw [m_X6_allHooks, bd_inM hn hb e58, ev_b, if_neg (by decide), m_X6_allOf, r1, ev_b]
    rw [all_M ok (by omega) ν (kp_bM (bM_of d3') (fun q z1 z2 => r2 q (by omega) (by omega) (by omega))) r4, ev_b]
theorem cut_rf2 {μ μ1 μ2 : fm_I} {ν : fm_L} (h : Inv μ ν) {k : Nat} (hk : k < 8) (x : ∀ q, q ≠ 5 → q ≠ 9 → q ≠ 10 → q ≠ 11 → μ1 q = μ q) (m : ∀ q, q ≠ 76 → q ≠ 77 → q ≠ 58 → μ2 q = (fm_u μ1 4 k (μ1 4 k + nI 1)) q) (m58 : ∀ j, j ≠ 28 → μ2 58 j = (fm_u μ1 4 k (μ1 4 k + nI 1)) 58 j) : Inv (fm_u μ2 59 k (μ2 59 k + nI 1)) ν := cut_rf h hk x m m58
theorem op_hooks {μ : fm_I} {ν : fm_L} (h : Inv μ ν) (a0 : Int32) (a1 : Int32) (a2 : Int32) : pa_op (m_X5_hooks a0 a1 a2 μ ν) (fun μ ν => m_X6_hooks a0 a1 a2 μ ν) := by
  obtain ⟨n, F, hI⟩ := id h
  have hn := hI.1.1
  rcases bd_cases a0 hn with h0 | ⟨b, hb, rfl⟩
  · refine op_rf h 1 (by decide) (r := -1000001) ?_ ?_
    · simp -implicitDefEqProofs (disch := omega) only [m_X5_hooks, ba_out h0 hI.1.2.1, rXF1, ev_b, ev_b2, ev_g, ev_gF, ev_on, ev_os, ev_cl, ev_in, ev_in6, ev_eq0, ev_lt0, ev_0le, ev_le0, ev_0lt, ev_lt, ev_le, ev_eq, ev_m1a, ev_m1b, ev_m1c, ev_m1d, ev_m1e, ev_n1, ev_n4, ev_n8, ev_n9, ev_n10, ev_n11, ev_n12, ev_n13, ev_n14, ev_n15, ev_n16, ev_n17, ev_n59, ev_n60, ev_n61, ev_n62, ev_n63, ev_n64, ev_n65, ev_n66, ev_n67, ev_n68, ev_n69, ev_n70, ev_n71, ev_n72, ev_n73, ev_n74, ev_n75, ev_n76, ev_n77, ev_n78, ev_n79, ev_n80, ev_k18, ev_k34, ev_k40, ev_n26, ev_n26b, ev_n46, ev_n46b, ev_n52b, ev_uq, ev_us, ev_uj, ev_lq, ev_ls, ev_lj, ev_urq, ev_urs, ev_ulq, ev_uls, nI_add, pk_sub, pk_mul, if_true, if_false, ite_true, ite_false, decide_true, decide_false, eq_self_iff_true, Nat.reduceEqDiff, Nat.reduceLeDiff, Nat.reduceLT, Nat.reduceAdd, Nat.reduceMul, Nat.reduceSub, Nat.reduceDiv, Nat.reduceMod, ↓reduceIte]
    · show m_X6_hooks a0 a1 a2 _ ν = _
      simp -implicitDefEqProofs (disch := omega) only [m_X6_hooks, m_X6_isPiece, bo2 h0 hI.1.2.2, rMF1, ev_b, ev_b2, ev_g, ev_gF, ev_on, ev_os, ev_cl, ev_in, ev_in6, ev_eq0, ev_lt0, ev_0le, ev_le0, ev_0lt, ev_lt, ev_le, ev_eq, ev_m1a, ev_m1b, ev_m1c, ev_m1d, ev_m1e, ev_n1, ev_n4, ev_n8, ev_n9, ev_n10, ev_n11, ev_n12, ev_n13, ev_n14, ev_n15, ev_n16, ev_n17, ev_n59, ev_n60, ev_n61, ev_n62, ev_n63, ev_n64, ev_n65, ev_n66, ev_n67, ev_n68, ev_n69, ev_n70, ev_n71, ev_n72, ev_n73, ev_n74, ev_n75, ev_n76, ev_n77, ev_n78, ev_n79, ev_n80, ev_k18, ev_k34, ev_k40, ev_n26, ev_n26b, ev_n46, ev_n46b, ev_n52b, ev_uq, ev_us, ev_uj, ev_lq, ev_ls, ev_lj, ev_urq, ev_urs, ev_ulq, ev_uls, nI_add, pk_sub, pk_mul, if_true, if_false, ite_true, ite_false, decide_true, decide_false, eq_self_iff_true, Nat.reduceEqDiff, Nat.reduceLeDiff, Nat.reduceLT, Nat.reduceAdd, Nat.reduceMul, Nat.reduceSub, Nat.reduceDiv, Nat.reduceMod, ↓reduceIte]
  obtain ⟨d1, d2, d3⟩ := hI.2.1 b hb
  have ok := okP_of d1
  have cc := pC_le ok
  obtain ⟨μ1, p1, p2, p3⟩ := laidX ν (by omega) d1 d2
  have d3' := kp_M (μ' := μ1) d3 (fun q z1 z2 => p2 q (by omega) (by omega) (by omega) (by omega))
  have e58 : μ1 58 0 = nI n := by rw [p2 58 (by decide) (by decide) (by decide) (by decide)]; exact hI.1.2.2
  rcases st_cases a1 (n := pC (F b 0) (F b 2) (F b 4) (F b 1 % 2)) (by omega) with h2 | ⟨p, hp, rfl⟩
  · obtain ⟨μ2, z1, z2, z3, z4, z5⟩ := isP_in (v := a1) (μ := fm_u μ1 4 1 (μ1 4 1 + nI 1)) ν hn hb (by rw [ev_uq (by decide)]; exact e58) d1 (kp_M4 d3' _ _)
    refine op_mk (r := -1000001) (μ1 := fm_u μ1 4 1 (μ1 4 1 + nI 1)) (ν1 := ν) (μ2 := fm_u μ2 59 1 (μ2 59 1 + nI 1)) (ν2 := ν) ?_ ?_ (cut_rf h (by decide) p2 z3 z4)
    · simp -implicitDefEqProofs (disch := omega) only [m_X5_hooks, ba_in hn hb hI.1.2.1, p1, has_O p3 h2, rXF1, ev_b, ev_b2, ev_g, ev_gF, ev_on, ev_os, ev_cl, ev_in, ev_in6, ev_eq0, ev_lt0, ev_0le, ev_le0, ev_0lt, ev_lt, ev_le, ev_eq, ev_m1a, ev_m1b, ev_m1c, ev_m1d, ev_m1e, ev_n1, ev_n4, ev_n8, ev_n9, ev_n10, ev_n11, ev_n12, ev_n13, ev_n14, ev_n15, ev_n16, ev_n17, ev_n59, ev_n60, ev_n61, ev_n62, ev_n63, ev_n64, ev_n65, ev_n66, ev_n67, ev_n68, ev_n69, ev_n70, ev_n71, ev_n72, ev_n73, ev_n74, ev_n75, ev_n76, ev_n77, ev_n78, ev_n79, ev_n80, ev_k18, ev_k34, ev_k40, ev_n26, ev_n26b, ev_n46, ev_n46b, ev_n52b, ev_uq, ev_us, ev_uj, ev_lq, ev_ls, ev_lj, ev_urq, ev_urs, ev_ulq, ev_uls, nI_add, pk_sub, pk_mul, if_true, if_false, ite_true, ite_false, decide_true, decide_false, eq_self_iff_true, Nat.reduceEqDiff, Nat.reduceLeDiff, Nat.reduceLT, Nat.reduceAdd, Nat.reduceMul, Nat.reduceSub, Nat.reduceDiv, Nat.reduceMod, ↓reduceIte]
    · show m_X6_hooks (nI b) a1 a2 _ ν = _
      simp -implicitDefEqProofs (disch := omega) only [m_X6_hooks, z2 h2, rMF1, ev_b, ev_b2, ev_g, ev_gF, ev_on, ev_os, ev_cl, ev_in, ev_in6, ev_eq0, ev_lt0, ev_0le, ev_le0, ev_0lt, ev_lt, ev_le, ev_eq, ev_m1a, ev_m1b, ev_m1c, ev_m1d, ev_m1e, ev_n1, ev_n4, ev_n8, ev_n9, ev_n10, ev_n11, ev_n12, ev_n13, ev_n14, ev_n15, ev_n16, ev_n17, ev_n59, ev_n60, ev_n61, ev_n62, ev_n63, ev_n64, ev_n65, ev_n66, ev_n67, ev_n68, ev_n69, ev_n70, ev_n71, ev_n72, ev_n73, ev_n74, ev_n75, ev_n76, ev_n77, ev_n78, ev_n79, ev_n80, ev_k18, ev_k34, ev_k40, ev_n26, ev_n26b, ev_n46, ev_n46b, ev_n52b, ev_uq, ev_us, ev_uj, ev_lq, ev_ls, ev_lj, ev_urq, ev_urs, ev_ulq, ev_uls, nI_add, pk_sub, pk_mul, if_true, if_false, ite_true, ite_false, decide_true, decide_false, eq_self_iff_true, Nat.reduceEqDiff, Nat.reduceLeDiff, Nat.reduceLT, Nat.reduceAdd, Nat.reduceMul, Nat.reduceSub, Nat.reduceDiv, Nat.reduceMod, ↓reduceIte]
  have two : ∀ k, k < 8 → ∃ μ2 μ3, m_X6_isPiece (nI b) (nI p) (fm_u μ1 4 k (μ1 4 k + nI 1)) ν = some (nI 1, μ2, ν) ∧ (∀ p, p < pC (F b 0) (F b 2) (F b 4) (F b 1 % 2) → a2 = nI p → m_X6_isPiece (nI b) a2 μ2 ν = some (nI 1, μ3, ν)) ∧ ((a2 < 0 ∨ nI (pC (F b 0) (F b 2) (F b 4) (F b 1 % 2)) ≤ a2) → m_X6_isPiece (nI b) a2 μ2 ν = some (nI 0, μ3, ν)) ∧ Inv (fm_u μ3 59 k (μ3 59 k + nI 1)) ν := fun k hk => by
    obtain ⟨μ2, z1, z2, z3, z4, z5⟩ := isP_in (v := nI p) (μ := fm_u μ1 4 k (μ1 4 k + nI 1)) ν hn hb (by rw [ev_uq (by decide)]; exact e58) d1 (kp_M4 d3' _ _)
    obtain ⟨μ3, y1, y2, y3, y4, y5⟩ := isP_in (v := a2) (μ := μ2) ν hn hb (by rw [z4 0 (by decide), ev_uq (by decide)]; exact e58) d1 (kp_M (kp_M4 d3' k (μ1 4 k + nI 1)) (fun q x1 x2 => z3 q (by omega) (by omega) (by omega)))
    exact ⟨μ2, μ3, z1 p hp rfl, y1, y2, cut_rf h hk p2 (fun q x1 x2 x3 => by rw [y3 q x1 x2 x3, z3 q x1 x2 x3]) (fun j hj => by rw [y4 j hj, z4 j hj])⟩
  rcases st_cases a2 (n := pC (F b 0) (F b 2) (F b 4) (F b 1 % 2)) (by omega) with h2 | ⟨q, hq, rfl⟩
  · obtain ⟨μ2, μ3, z1, _, z2, z3⟩ := two 1 (by decide)
    refine op_mk (r := -1000001) (μ1 := fm_u μ1 4 1 (μ1 4 1 + nI 1)) (ν1 := ν) (μ2 := fm_u μ3 59 1 (μ3 59 1 + nI 1)) (ν2 := ν) ?_ ?_ z3
    · simp -implicitDefEqProofs (disch := omega) only [m_X5_hooks, ba_in hn hb hI.1.2.1, p1, has_X ok p3 hp, has_O p3 h2, rXF1, ev_b, ev_b2, ev_g, ev_gF, ev_on, ev_os, ev_cl, ev_in, ev_in6, ev_eq0, ev_lt0, ev_0le, ev_le0, ev_0lt, ev_lt, ev_le, ev_eq, ev_m1a, ev_m1b, ev_m1c, ev_m1d, ev_m1e, ev_n1, ev_n4, ev_n8, ev_n9, ev_n10, ev_n11, ev_n12, ev_n13, ev_n14, ev_n15, ev_n16, ev_n17, ev_n59, ev_n60, ev_n61, ev_n62, ev_n63, ev_n64, ev_n65, ev_n66, ev_n67, ev_n68, ev_n69, ev_n70, ev_n71, ev_n72, ev_n73, ev_n74, ev_n75, ev_n76, ev_n77, ev_n78, ev_n79, ev_n80, ev_k18, ev_k34, ev_k40, ev_n26, ev_n26b, ev_n46, ev_n46b, ev_n52b, ev_uq, ev_us, ev_uj, ev_lq, ev_ls, ev_lj, ev_urq, ev_urs, ev_ulq, ev_uls, nI_add, pk_sub, pk_mul, if_true, if_false, ite_true, ite_false, decide_true, decide_false, eq_self_iff_true, Nat.reduceEqDiff, Nat.reduceLeDiff, Nat.reduceLT, Nat.reduceAdd, Nat.reduceMul, Nat.reduceSub, Nat.reduceDiv, Nat.reduceMod, ↓reduceIte]
    · show m_X6_hooks (nI b) (nI p) a2 _ ν = _
      simp -implicitDefEqProofs (disch := omega) only [m_X6_hooks, z1, z2 h2, rMF1, ev_b, ev_b2, ev_g, ev_gF, ev_on, ev_os, ev_cl, ev_in, ev_in6, ev_eq0, ev_lt0, ev_0le, ev_le0, ev_0lt, ev_lt, ev_le, ev_eq, ev_m1a, ev_m1b, ev_m1c, ev_m1d, ev_m1e, ev_n1, ev_n4, ev_n8, ev_n9, ev_n10, ev_n11, ev_n12, ev_n13, ev_n14, ev_n15, ev_n16, ev_n17, ev_n59, ev_n60, ev_n61, ev_n62, ev_n63, ev_n64, ev_n65, ev_n66, ev_n67, ev_n68, ev_n69, ev_n70, ev_n71, ev_n72, ev_n73, ev_n74, ev_n75, ev_n76, ev_n77, ev_n78, ev_n79, ev_n80, ev_k18, ev_k34, ev_k40, ev_n26, ev_n26b, ev_n46, ev_n46b, ev_n52b, ev_uq, ev_us, ev_uj, ev_lq, ev_ls, ev_lj, ev_urq, ev_urs, ev_ulq, ev_uls, nI_add, pk_sub, pk_mul, if_true, if_false, ite_true, ite_false, decide_true, decide_false, eq_self_iff_true, Nat.reduceEqDiff, Nat.reduceLeDiff, Nat.reduceLT, Nat.reduceAdd, Nat.reduceMul, Nat.reduceSub, Nat.reduceDiv, Nat.reduceMod, ↓reduceIte]
  by_cases e : p = q
  · subst e
    obtain ⟨μ2, μ3, z1, z2, _, z3⟩ := two 6 (by decide)
    refine op_mk (r := -1000006) (μ1 := fm_u μ1 4 6 (μ1 4 6 + nI 1)) (ν1 := ν) (μ2 := fm_u μ3 59 6 (μ3 59 6 + nI 1)) (ν2 := ν) ?_ ?_ z3
    · simp -implicitDefEqProofs (disch := omega) only [m_X5_hooks, ba_in hn hb hI.1.2.1, p1, has_X ok p3 hp, rXF6, ev_b, ev_b2, ev_g, ev_gF, ev_on, ev_os, ev_cl, ev_in, ev_in6, ev_eq0, ev_lt0, ev_0le, ev_le0, ev_0lt, ev_lt, ev_le, ev_eq, ev_m1a, ev_m1b, ev_m1c, ev_m1d, ev_m1e, ev_n1, ev_n4, ev_n8, ev_n9, ev_n10, ev_n11, ev_n12, ev_n13, ev_n14, ev_n15, ev_n16, ev_n17, ev_n59, ev_n60, ev_n61, ev_n62, ev_n63, ev_n64, ev_n65, ev_n66, ev_n67, ev_n68, ev_n69, ev_n70, ev_n71, ev_n72, ev_n73, ev_n74, ev_n75, ev_n76, ev_n77, ev_n78, ev_n79, ev_n80, ev_k18, ev_k34, ev_k40, ev_n26, ev_n26b, ev_n46, ev_n46b, ev_n52b, ev_uq, ev_us, ev_uj, ev_lq, ev_ls, ev_lj, ev_urq, ev_urs, ev_ulq, ev_uls, nI_add, pk_sub, pk_mul, if_true, if_false, ite_true, ite_false, decide_true, decide_false, eq_self_iff_true, Nat.reduceEqDiff, Nat.reduceLeDiff, Nat.reduceLT, Nat.reduceAdd, Nat.reduceMul, Nat.reduceSub, Nat.reduceDiv, Nat.reduceMod, ↓reduceIte]
    · show m_X6_hooks (nI b) (nI p) (nI p) _ ν = _
      simp -implicitDefEqProofs (disch := omega) only [m_X6_hooks, z1, z2 p hp rfl, rMF6, ev_b, ev_b2, ev_g, ev_gF, ev_on, ev_os, ev_cl, ev_in, ev_in6, ev_eq0, ev_lt0, ev_0le, ev_le0, ev_0lt, ev_lt, ev_le, ev_eq, ev_m1a, ev_m1b, ev_m1c, ev_m1d, ev_m1e, ev_n1, ev_n4, ev_n8, ev_n9, ev_n10, ev_n11, ev_n12, ev_n13, ev_n14, ev_n15, ev_n16, ev_n17, ev_n59, ev_n60, ev_n61, ev_n62, ev_n63, ev_n64, ev_n65, ev_n66, ev_n67, ev_n68, ev_n69, ev_n70, ev_n71, ev_n72, ev_n73, ev_n74, ev_n75, ev_n76, ev_n77, ev_n78, ev_n79, ev_n80, ev_k18, ev_k34, ev_k40, ev_n26, ev_n26b, ev_n46, ev_n46b, ev_n52b, ev_uq, ev_us, ev_uj, ev_lq, ev_ls, ev_lj, ev_urq, ev_urs, ev_ulq, ev_uls, nI_add, pk_sub, pk_mul, if_true, if_false, ite_true, ite_false, decide_true, decide_false, eq_self_iff_true, Nat.reduceEqDiff, Nat.reduceLeDiff, Nat.reduceLT, Nat.reduceAdd, Nat.reduceMul, Nat.reduceSub, Nat.reduceDiv, Nat.reduceMod, ↓reduceIte]
  have k1 : (p = q) = False := eq_false e
  obtain ⟨μ2, w1, w2, w3⟩ := cnt_X ok ν p3
  have f : ∀ q, q ≠ 5 → q ≠ 9 → q ≠ 10 → q ≠ 11 → q ≠ 12 → μ2 q = μ q := fun q y1 y2 y3 y4 y5 => by rw [w2 q y5, p2 q y1 y2 y3 y4]
  have d4 := kp_M (μ' := μ2) d3 (fun q z1 z2 => f q (by omega) (by omega) (by omega) (by omega) (by omega))
  have g58 : μ2 58 0 = nI n := by rw [f 58 (by omega) (by omega) (by omega) (by omega) (by omega)]; exact hI.1.2.2
  obtain ⟨μ3, z1, z2, z3, z4, z5⟩ := isP_in (v := nI p) (μ := μ2) ν hn hb g58 d1 d4
  have d5 := kp_M (μ' := μ3) d4 (fun q x1 x2 => z3 q (by omega) (by omega) (by omega))
  obtain ⟨μ4, y1, y2, y3, y4, y5⟩ := isP_in (v := nI q) (μ := μ3) ν hn hb (by rw [z4 0 (by decide)]; exact g58) d1 d5
  have d6 := kp_M (μ' := μ4) d5 (fun q x1 x2 => y3 q (by omega) (by omega) (by omega))
  refine op_mk (r := hk (F b 0) (F b 2) (F b 4) (F b 3) (F b 1) p q) (μ1 := μ2) (ν1 := ν) (μ2 := μ4) (ν2 := ν) ?_ ?_ (cut_inv2 h p2 (fun q x1 x2 => w2 q x1) (fun q x1 x2 x3 x4 => by rw [y3 q x1 x2 x4, z3 q x1 x2 x4]) (fun j hj => by rw [y4 j hj, z4 j hj]))
  · simp -implicitDefEqProofs (disch := omega) only [m_X5_hooks, ba_in hn hb hI.1.2.1, p1, has_X ok p3 hp, has_X ok p3 hq, k1, m_X1_hooksBetween, w1, hc_X ok ν (kp_cX p3 (fun q hq => w2 q (by omega))) w3 hp hq e, ev_b, ev_b2, ev_g, ev_gF, ev_on, ev_os, ev_cl, ev_in, ev_in6, ev_eq0, ev_lt0, ev_0le, ev_le0, ev_0lt, ev_lt, ev_le, ev_eq, ev_m1a, ev_m1b, ev_m1c, ev_m1d, ev_m1e, ev_n1, ev_n4, ev_n8, ev_n9, ev_n10, ev_n11, ev_n12, ev_n13, ev_n14, ev_n15, ev_n16, ev_n17, ev_n59, ev_n60, ev_n61, ev_n62, ev_n63, ev_n64, ev_n65, ev_n66, ev_n67, ev_n68, ev_n69, ev_n70, ev_n71, ev_n72, ev_n73, ev_n74, ev_n75, ev_n76, ev_n77, ev_n78, ev_n79, ev_n80, ev_k18, ev_k34, ev_k40, ev_n26, ev_n26b, ev_n46, ev_n46b, ev_n52b, ev_uq, ev_us, ev_uj, ev_lq, ev_ls, ev_lj, ev_urq, ev_urs, ev_ulq, ev_uls, nI_add, pk_sub, pk_mul, if_true, if_false, ite_true, ite_false, decide_true, decide_false, eq_self_iff_true, Nat.reduceEqDiff, Nat.reduceLeDiff, Nat.reduceLT, Nat.reduceAdd, Nat.reduceMul, Nat.reduceSub, Nat.reduceDiv, Nat.reduceMod, ↓reduceIte]
  · show m_X6_hooks (nI b) (nI p) (nI q) _ ν = _
    simp -implicitDefEqProofs (disch := omega) only [m_X6_hooks, z1 p hp rfl, y1 q hq rfl, k1, hkd_M ok (show b < 6 by omega) (show p < 12 by omega) (show q < 12 by omega) ν (bM_of d6) y5, ev_b, ev_b2, ev_g, ev_gF, ev_on, ev_os, ev_cl, ev_in, ev_in6, ev_eq0, ev_lt0, ev_0le, ev_le0, ev_0lt, ev_lt, ev_le, ev_eq, ev_m1a, ev_m1b, ev_m1c, ev_m1d, ev_m1e, ev_n1, ev_n4, ev_n8, ev_n9, ev_n10, ev_n11, ev_n12, ev_n13, ev_n14, ev_n15, ev_n16, ev_n17, ev_n59, ev_n60, ev_n61, ev_n62, ev_n63, ev_n64, ev_n65, ev_n66, ev_n67, ev_n68, ev_n69, ev_n70, ev_n71, ev_n72, ev_n73, ev_n74, ev_n75, ev_n76, ev_n77, ev_n78, ev_n79, ev_n80, ev_k18, ev_k34, ev_k40, ev_n26, ev_n26b, ev_n46, ev_n46b, ev_n52b, ev_uq, ev_us, ev_uj, ev_lq, ev_ls, ev_lj, ev_urq, ev_urs, ev_ulq, ev_uls, nI_add, pk_sub, pk_mul, if_true, if_false, ite_true, ite_false, decide_true, decide_false, eq_self_iff_true, Nat.reduceEqDiff, Nat.reduceLeDiff, Nat.reduceLT, Nat.reduceAdd, Nat.reduceMul, Nat.reduceSub, Nat.reduceDiv, Nat.reduceMod, ↓reduceIte]
