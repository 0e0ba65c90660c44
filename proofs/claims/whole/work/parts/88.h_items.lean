/-! THE CLASS READS AN ITEM -/
def exN (w n : Nat) : Nat := if w = 0 then n + 1 else n
def exS (w : Nat) (x : Nat → Nat) (n : Nat) (S : Nat → Nat) : Nat → Nat := if w = 0 then (fun b => if b = n then x 2 else S b) else S
def rOK (c : Nat → Int32) (m n q : Nat) (S : Nat → Nat) (e w : Nat) (x : Nat → Nat) (μ μ' : fm_I) : Prop := rS c m e (exN w n) q (exS w x n S) μ' ∧ rF μ μ' ∧ μ' 6 0 = μ 6 0 ∧ μ' 16 q = wd (po w) ∧ (∀ y, y ≠ q → μ' 16 y = μ 16 y) ∧ (∀ j, j < cnt w → μ' 17 (q * 4 + j) = nI (x j)) ∧ ∀ y, y < q * 4 → μ' 17 y = μ 17 y
def rO (c : Nat → Int32) (m n q : Nat) (S : Nat → Nat) (μ : fm_I) (ν : fm_L) : Sum Nat (Nat × Nat × (Nat → Nat)) → Prop
  | .inl p => ∃ μ', m_X3_readItem μ ν = some (nI 0, μ', ν) ∧ rF μ μ' ∧ μ' 6 0 = nI p
  | .inr (e, w, x) => ∃ μ', m_X3_readItem μ ν = some (nI 1, μ', ν) ∧ rOK c m n q S e w x μ μ'
theorem rO_l {c : Nat → Int32} {m n q : Nat} {S : Nat → Nat} {μ : fm_I} {ν : fm_L} {p : Nat} (h : ∃ μ', m_X3_readItem μ ν = some (nI 0, μ', ν) ∧ rF μ μ' ∧ μ' 6 0 = nI p) : rO c m n q S μ ν (.inl p) := h
theorem rO_r {c : Nat → Int32} {m n q : Nat} {S : Nat → Nat} {μ : fm_I} {ν : fm_L} {e w : Nat} {x : Nat → Nat} (h : ∃ μ', m_X3_readItem μ ν = some (nI 1, μ', ν) ∧ rOK c m n q S e w x μ μ') : rO c m n q S μ ν (.inr (e, w, x)) := h
theorem b01_0 : fm_b01 (nI 0) = true := by decide
theorem b01_1 : fm_b01 (nI 1) = true := by decide
theorem fw5 {x : Int32} (h : fw x = 5) : (x = nI 98) = False ∧ (x = nI 114) = False ∧ (x = nI 108) = False ∧ (x = nI 112) = False ∧ (x = nI 116) = False := by
  refine ⟨eq_false (fun z => ?_), eq_false (fun z => ?_), eq_false (fun z => ?_), eq_false (fun z => ?_), eq_false (fun z => ?_)⟩ <;> (rw [z] at h; exact absurd h (by decide))
theorem ri_5 {c : Nat → Int32} {m a n q : Nat} {S : Nat → Nat} (hm : m ≤ 160) (ha : a ≤ m) (hq : q < 23) {μ : fm_I} (ν : fm_L) (h : rS c m a n q S μ) (hw : fwA c m a = 5) : rO c m n q S μ ν (pI c m n S a) := by
  rw [pI_5 hw]
  have LH := lh_X h hm ha ν
  have l : (( (if a < m then c a else (-1 : Int32)) = nI 98) = False) ∧ (((if a < m then c a else (-1 : Int32)) = nI 114) = False) ∧ (((if a < m then c a else (-1 : Int32)) = nI 108) = False) ∧ (((if a < m then c a else (-1 : Int32)) = nI 112) = False) ∧ (((if a < m then c a else (-1 : Int32)) = nI 116) = False) := by
    unfold fwA at hw
    by_cases z : a < m
    · rw [if_pos z] at hw ⊢
      exact fw5 hw
    · rw [if_neg z]
      refine ⟨eq_false ?_, eq_false ?_, eq_false ?_, eq_false ?_, eq_false ?_⟩ <;> decide
  generalize (if a < m then c a else (-1 : Int32)) = L at *
  obtain ⟨l1, l2, l3, l4, l5⟩ := l
  have q23 : (q < 23) = True := eq_true hq
  refine rO_l ⟨fm_u (fm_u μ 16 q L) 6 0 (nI a), ?_, fun y h6 _ h16 _ => by rw [ev_uq h6, ev_uq h16], ev_us⟩
  simp -implicitDefEqProofs (disch := omega) only [m_X3_readItem, h.1, h.2.1, LH, l1, l2, l3, l4, l5, q23, m_X3_failAt, b01_0, ev_b, ev_b2, ev_g, ev_gF, ev_on, ev_os, ev_cl, ev_in, ev_in6, ev_eq0, ev_lt0, ev_0le, ev_le0, ev_0lt, ev_lt, ev_le, ev_eq, ev_m1a, ev_m1b, ev_m1c, ev_m1d, ev_m1e, ev_n1, ev_n4, ev_n8, ev_n9, ev_n10, ev_n11, ev_n12, ev_n13, ev_n14, ev_n15, ev_n16, ev_n17, ev_n59, ev_n60, ev_n61, ev_n62, ev_n63, ev_n64, ev_n65, ev_n66, ev_n67, ev_n68, ev_n69, ev_n70, ev_n71, ev_n72, ev_n73, ev_n74, ev_n75, ev_n76, ev_n77, ev_n78, ev_n79, ev_n80, ev_k18, ev_k34, ev_k40, ev_n26, ev_n26b, ev_n46, ev_n46b, ev_n52b, ev_uq, ev_us, ev_uj, ev_lq, ev_ls, ev_lj, ev_urq, ev_urs, ev_ulq, ev_uls, nI_add, pk_sub, pk_mul, if_true, if_false, ite_true, ite_false, decide_true, decide_false, eq_self_iff_true, Nat.reduceEqDiff, Nat.reduceLeDiff, Nat.reduceLT, Nat.reduceAdd, Nat.reduceMul, Nat.reduceSub, Nat.reduceDiv, Nat.reduceMod, ↓reduceIte]
/-- the word has been read up to its blank, or not -/
theorem ri_w {c : Nat → Int32} {m a n q w : Nat} {S : Nat → Nat} (hm : m ≤ 160) (ha : a ≤ m) (hw5 : w < 5) {μ : fm_I} (ν : fm_L) (h : rS c m a n q S μ) (hw : fwA c m a = w) : m_X3_letterHere μ ν = some (wd (po w)) ∧ (wl w - 1 ≤ mW c m a w → a + (wl w - 1) ≤ m ∧ ∃ μ1, m_X3_readWord w (fm_u μ 16 q (wd (po w))) ν = some (nI 1, μ1, ν) ∧ rS c m (a + (wl w - 1)) n q S μ1 ∧ (∀ y, y ≠ 6 → y ≠ 16 → μ1 y = μ y) ∧ μ1 16 q = wd (po w) ∧ (∀ y, y ≠ q → μ1 16 y = μ 16 y) ∧ μ1 6 0 = μ 6 0) ∧ (mW c m a w < wl w - 1 → ∃ μ1, m_X3_readWord w (fm_u μ 16 q (wd (po w))) ν = some (nI 0, μ1, ν) ∧ (∀ y, y ≠ 6 → y ≠ 16 → μ1 y = μ y) ∧ μ1 6 0 = nI (a + mW c m a w)) := by
  obtain ⟨l1, am, ca⟩ := mW_1 hw5 hw
  have l := wl_5 w
  have LH := lh_X h hm ha ν
  rw [if_pos am, ca] at LH
  have s0 : rS c m (a + 0) n q S (fm_u μ 16 q (wd (po w))) := rS_k h (fun y hy => ev_uq (by omega))
  have W := rw_X hm ha hw5 (fun μ2 ν2 => some (((nI 1), μ2, ν2))) ν (wl w - 1) 0 5000 (fm_u μ 16 q (wd (po w))) (by omega) (by omega) (Nat.zero_le _) s0
  refine ⟨LH, fun z => ?_, fun z => ?_⟩
  · obtain ⟨μ1, w1, w2, w3, w4⟩ := W.1 z
    have I := (mW_i (c := c) (m := m) (a := a) (w := w) (j := wl w - 2) (by omega)).1
    exact ⟨by omega, μ1, w1, w2, fun y h6 h16 => by rw [w3 y h6, ev_uq h16], by rw [w3 16 (by decide), ev_us], fun y hy => by rw [w3 16 (by decide), ev_uj hy], by rw [w4, ev_uq (by decide)]⟩
  · obtain ⟨μ1, w1, w2, w3⟩ := W.2 z
    exact ⟨μ1, w1, fun y h6 h16 => by rw [w2 y h6, ev_uq h16], w3⟩
theorem ri_1 {c : Nat → Int32} {m a n q : Nat} {S : Nat → Nat} (hm : m ≤ 160) (ha : a ≤ m) (hq : q < 23) (hn : n ≤ 6) {μ : fm_I} (ν : fm_L) (h : rS c m a n q S μ) (hw : fwA c m a = 1) : rO c m n q S μ ν (pI c m n S a) := by
  obtain ⟨LH, W1, W2⟩ := ri_w hm ha (by decide) ν h hw
  have LH' : m_X3_letterHere μ ν = some (nI 114) := LH
  have q23 : (q < 23) = True := eq_true hq
  by_cases k : mW c m a 1 < wl 1 - 1
  · rw [pI_f hw (by decide) k]
    obtain ⟨μ1, w1, w2, w3⟩ := W2 k
    have w1' : m_X3_readWord 1 (fm_u μ 16 q (nI 114)) ν = some (nI 0, μ1, ν) := w1
    refine rO_l ⟨μ1, ?_, fun y h6 _ h16 _ => w2 y h6 h16, w3⟩
    simp -implicitDefEqProofs (disch := omega) only [m_X3_readItem, h.1, h.2.1, LH', w1', q23, ev_b, ev_b2, ev_g, ev_gF, ev_on, ev_os, ev_cl, ev_in, ev_in6, ev_eq0, ev_lt0, ev_0le, ev_le0, ev_0lt, ev_lt, ev_le, ev_eq, ev_m1a, ev_m1b, ev_m1c, ev_m1d, ev_m1e, ev_n1, ev_n4, ev_n8, ev_n9, ev_n10, ev_n11, ev_n12, ev_n13, ev_n14, ev_n15, ev_n16, ev_n17, ev_n59, ev_n60, ev_n61, ev_n62, ev_n63, ev_n64, ev_n65, ev_n66, ev_n67, ev_n68, ev_n69, ev_n70, ev_n71, ev_n72, ev_n73, ev_n74, ev_n75, ev_n76, ev_n77, ev_n78, ev_n79, ev_n80, ev_k18, ev_k34, ev_k40, ev_n26, ev_n26b, ev_n46, ev_n46b, ev_n52b, ev_uq, ev_us, ev_uj, ev_lq, ev_ls, ev_lj, ev_urq, ev_urs, ev_ulq, ev_uls, nI_add, pk_sub, pk_mul, if_true, if_false, ite_true, ite_false, decide_true, decide_false, eq_self_iff_true, Nat.reduceEqDiff, Nat.reduceLeDiff, Nat.reduceLT, Nat.reduceAdd, Nat.reduceMul, Nat.reduceSub, Nat.reduceDiv, Nat.reduceMod, ↓reduceIte]
  · obtain ⟨am, μ1, w1, s1, f1, g16, g16n, g0⟩ := W1 (by omega)
    have w1' : m_X3_readWord 1 (fm_u μ 16 q (nI 114)) ν = some (nI 1, μ1, ν) := w1
    rw [pI_n hw (by decide) (by omega) (fun z => absurd z.1 (by decide))]
    have R := rn_X (p := 0) (lw := lo 1 0) (hw := hx 1 0 n (S 0)) (v3 := μ1 6 4 - nI 1) hm am (by decide) hq (by decide) (vle_n hn s1.2.2.2.1) ν s1
    rcases hN : pN c m (a + (wl 1 - 1)) (lo 1 0) (hx 1 0 n (S 0)) with p | ⟨e0, v0⟩
    · obtain ⟨μ2, r1, r2, r3⟩ := R.2 p hN
      have r1' : m_X3_readNumber (nI 0) (nI 0) (μ1 6 4 - nI 1) μ1 ν = some (nI 0, μ2, ν) := r1
      refine rO_l ⟨μ2, ?_, fun y h6 _ h16 h17 => by rw [r2 y h6 h17, f1 y h6 h16], r3⟩
      simp -implicitDefEqProofs (disch := omega) only [m_X3_readItem, h.1, h.2.1, LH', w1', q23, m_X3_readBandNumber, r1', b01_0, ev_b, ev_b2, ev_g, ev_gF, ev_on, ev_os, ev_cl, ev_in, ev_in6, ev_eq0, ev_lt0, ev_0le, ev_le0, ev_0lt, ev_lt, ev_le, ev_eq, ev_m1a, ev_m1b, ev_m1c, ev_m1d, ev_m1e, ev_n1, ev_n4, ev_n8, ev_n9, ev_n10, ev_n11, ev_n12, ev_n13, ev_n14, ev_n15, ev_n16, ev_n17, ev_n59, ev_n60, ev_n61, ev_n62, ev_n63, ev_n64, ev_n65, ev_n66, ev_n67, ev_n68, ev_n69, ev_n70, ev_n71, ev_n72, ev_n73, ev_n74, ev_n75, ev_n76, ev_n77, ev_n78, ev_n79, ev_n80, ev_k18, ev_k34, ev_k40, ev_n26, ev_n26b, ev_n46, ev_n46b, ev_n52b, ev_uq, ev_us, ev_uj, ev_lq, ev_ls, ev_lj, ev_urq, ev_urs, ev_ulq, ev_uls, nI_add, pk_sub, pk_mul, if_true, if_false, ite_true, ite_false, decide_true, decide_false, eq_self_iff_true, Nat.reduceEqDiff, Nat.reduceLeDiff, Nat.reduceLT, Nat.reduceAdd, Nat.reduceMul, Nat.reduceSub, Nat.reduceDiv, Nat.reduceMod, ↓reduceIte]
    · obtain ⟨μ2, r1, r2, r3, r4, r5, r6⟩ := R.1 e0 v0 hN
      have r1' : m_X3_readNumber (nI 0) (nI 0) (μ1 6 4 - nI 1) μ1 ν = some (nI 1, μ2, ν) := r1
      refine rO_r (e := e0) (w := 1) (x := xU (fun _ => 0) 0 v0) ⟨μ2, ?_, r2, fun y h6 _ h16 h17 => by rw [r3 y h6 h17, f1 y h6 h16], by rw [r4, g0], by rw [r3 16 (by decide) (by decide)]; exact g16, fun y hy => by rw [r3 16 (by decide) (by decide)]; exact g16n y hy, fun j hj => ?_, fun y hy => by rw [r6 y (by omega), f1 17 (by decide) (by decide)]⟩
      · simp -implicitDefEqProofs (disch := omega) only [m_X3_readItem, h.1, h.2.1, LH', w1', q23, m_X3_readBandNumber, r1', b01_1, ev_b, ev_b2, ev_g, ev_gF, ev_on, ev_os, ev_cl, ev_in, ev_in6, ev_eq0, ev_lt0, ev_0le, ev_le0, ev_0lt, ev_lt, ev_le, ev_eq, ev_m1a, ev_m1b, ev_m1c, ev_m1d, ev_m1e, ev_n1, ev_n4, ev_n8, ev_n9, ev_n10, ev_n11, ev_n12, ev_n13, ev_n14, ev_n15, ev_n16, ev_n17, ev_n59, ev_n60, ev_n61, ev_n62, ev_n63, ev_n64, ev_n65, ev_n66, ev_n67, ev_n68, ev_n69, ev_n70, ev_n71, ev_n72, ev_n73, ev_n74, ev_n75, ev_n76, ev_n77, ev_n78, ev_n79, ev_n80, ev_k18, ev_k34, ev_k40, ev_n26, ev_n26b, ev_n46, ev_n46b, ev_n52b, ev_uq, ev_us, ev_uj, ev_lq, ev_ls, ev_lj, ev_urq, ev_urs, ev_ulq, ev_uls, nI_add, pk_sub, pk_mul, if_true, if_false, ite_true, ite_false, decide_true, decide_false, eq_self_iff_true, Nat.reduceEqDiff, Nat.reduceLeDiff, Nat.reduceLT, Nat.reduceAdd, Nat.reduceMul, Nat.reduceSub, Nat.reduceDiv, Nat.reduceMod, ↓reduceIte]
      · obtain rfl : j = 0 := by
          have : cnt 1 = 1 := rfl
          omega
        exact r5
theorem ri_2 {c : Nat → Int32} {m a n q : Nat} {S : Nat → Nat} (hm : m ≤ 160) (ha : a ≤ m) (hq : q < 23) (hn : n ≤ 6) {μ : fm_I} (ν : fm_L) (h : rS c m a n q S μ) (hw : fwA c m a = 2) : rO c m n q S μ ν (pI c m n S a) := by
  obtain ⟨LH, W1, W2⟩ := ri_w hm ha (by decide) ν h hw
  have LH' : m_X3_letterHere μ ν = some (nI 108) := LH
  have q23 : (q < 23) = True := eq_true hq
  by_cases k : mW c m a 2 < wl 2 - 1
  · rw [pI_f hw (by decide) k]
    obtain ⟨μ1, w1, w2, w3⟩ := W2 k
    have w1' : m_X3_readWord 2 (fm_u μ 16 q (nI 108)) ν = some (nI 0, μ1, ν) := w1
    refine rO_l ⟨μ1, ?_, fun y h6 _ h16 _ => w2 y h6 h16, w3⟩
    simp -implicitDefEqProofs (disch := omega) only [m_X3_readItem, h.1, h.2.1, LH', w1', q23, ev_b, ev_b2, ev_g, ev_gF, ev_on, ev_os, ev_cl, ev_in, ev_in6, ev_eq0, ev_lt0, ev_0le, ev_le0, ev_0lt, ev_lt, ev_le, ev_eq, ev_m1a, ev_m1b, ev_m1c, ev_m1d, ev_m1e, ev_n1, ev_n4, ev_n8, ev_n9, ev_n10, ev_n11, ev_n12, ev_n13, ev_n14, ev_n15, ev_n16, ev_n17, ev_n59, ev_n60, ev_n61, ev_n62, ev_n63, ev_n64, ev_n65, ev_n66, ev_n67, ev_n68, ev_n69, ev_n70, ev_n71, ev_n72, ev_n73, ev_n74, ev_n75, ev_n76, ev_n77, ev_n78, ev_n79, ev_n80, ev_k18, ev_k34, ev_k40, ev_n26, ev_n26b, ev_n46, ev_n46b, ev_n52b, ev_uq, ev_us, ev_uj, ev_lq, ev_ls, ev_lj, ev_urq, ev_urs, ev_ulq, ev_uls, nI_add, pk_sub, pk_mul, if_true, if_false, ite_true, ite_false, decide_true, decide_false, eq_self_iff_true, Nat.reduceEqDiff, Nat.reduceLeDiff, Nat.reduceLT, Nat.reduceAdd, Nat.reduceMul, Nat.reduceSub, Nat.reduceDiv, Nat.reduceMod, ↓reduceIte]
  · obtain ⟨am, μ1, w1, s1, f1, g16, g16n, g0⟩ := W1 (by omega)
    have w1' : m_X3_readWord 2 (fm_u μ 16 q (nI 108)) ν = some (nI 1, μ1, ν) := w1
    rw [pI_n hw (by decide) (by omega) (fun z => absurd z.1 (by decide))]
    have R := rn_X (p := 0) (lw := lo 2 0) (hw := hx 2 0 n (S 0)) (v3 := μ1 6 4 - nI 1) hm am (by decide) hq (by decide) (vle_n hn s1.2.2.2.1) ν s1
    rcases hN : pN c m (a + (wl 2 - 1)) (lo 2 0) (hx 2 0 n (S 0)) with p | ⟨e0, v0⟩
    · obtain ⟨μ2, r1, r2, r3⟩ := R.2 p hN
      have r1' : m_X3_readNumber (nI 0) (nI 0) (μ1 6 4 - nI 1) μ1 ν = some (nI 0, μ2, ν) := r1
      refine rO_l ⟨μ2, ?_, fun y h6 _ h16 h17 => by rw [r2 y h6 h17, f1 y h6 h16], r3⟩
      simp -implicitDefEqProofs (disch := omega) only [m_X3_readItem, h.1, h.2.1, LH', w1', q23, m_X3_readBandNumber, r1', b01_0, ev_b, ev_b2, ev_g, ev_gF, ev_on, ev_os, ev_cl, ev_in, ev_in6, ev_eq0, ev_lt0, ev_0le, ev_le0, ev_0lt, ev_lt, ev_le, ev_eq, ev_m1a, ev_m1b, ev_m1c, ev_m1d, ev_m1e, ev_n1, ev_n4, ev_n8, ev_n9, ev_n10, ev_n11, ev_n12, ev_n13, ev_n14, ev_n15, ev_n16, ev_n17, ev_n59, ev_n60, ev_n61, ev_n62, ev_n63, ev_n64, ev_n65, ev_n66, ev_n67, ev_n68, ev_n69, ev_n70, ev_n71, ev_n72, ev_n73, ev_n74, ev_n75, ev_n76, ev_n77, ev_n78, ev_n79, ev_n80, ev_k18, ev_k34, ev_k40, ev_n26, ev_n26b, ev_n46, ev_n46b, ev_n52b, ev_uq, ev_us, ev_uj, ev_lq, ev_ls, ev_lj, ev_urq, ev_urs, ev_ulq, ev_uls, nI_add, pk_sub, pk_mul, if_true, if_false, ite_true, ite_false, decide_true, decide_false, eq_self_iff_true, Nat.reduceEqDiff, Nat.reduceLeDiff, Nat.reduceLT, Nat.reduceAdd, Nat.reduceMul, Nat.reduceSub, Nat.reduceDiv, Nat.reduceMod, ↓reduceIte]
    · obtain ⟨μ2, r1, r2, r3, r4, r5, r6⟩ := R.1 e0 v0 hN
      have r1' : m_X3_readNumber (nI 0) (nI 0) (μ1 6 4 - nI 1) μ1 ν = some (nI 1, μ2, ν) := r1
      refine rO_r (e := e0) (w := 2) (x := xU (fun _ => 0) 0 v0) ⟨μ2, ?_, r2, fun y h6 _ h16 h17 => by rw [r3 y h6 h17, f1 y h6 h16], by rw [r4, g0], by rw [r3 16 (by decide) (by decide)]; exact g16, fun y hy => by rw [r3 16 (by decide) (by decide)]; exact g16n y hy, fun j hj => ?_, fun y hy => by rw [r6 y (by omega), f1 17 (by decide) (by decide)]⟩
      · simp -implicitDefEqProofs (disch := omega) only [m_X3_readItem, h.1, h.2.1, LH', w1', q23, m_X3_readBandNumber, r1', b01_1, ev_b, ev_b2, ev_g, ev_gF, ev_on, ev_os, ev_cl, ev_in, ev_in6, ev_eq0, ev_lt0, ev_0le, ev_le0, ev_0lt, ev_lt, ev_le, ev_eq, ev_m1a, ev_m1b, ev_m1c, ev_m1d, ev_m1e, ev_n1, ev_n4, ev_n8, ev_n9, ev_n10, ev_n11, ev_n12, ev_n13, ev_n14, ev_n15, ev_n16, ev_n17, ev_n59, ev_n60, ev_n61, ev_n62, ev_n63, ev_n64, ev_n65, ev_n66, ev_n67, ev_n68, ev_n69, ev_n70, ev_n71, ev_n72, ev_n73, ev_n74, ev_n75, ev_n76, ev_n77, ev_n78, ev_n79, ev_n80, ev_k18, ev_k34, ev_k40, ev_n26, ev_n26b, ev_n46, ev_n46b, ev_n52b, ev_uq, ev_us, ev_uj, ev_lq, ev_ls, ev_lj, ev_urq, ev_urs, ev_ulq, ev_uls, nI_add, pk_sub, pk_mul, if_true, if_false, ite_true, ite_false, decide_true, decide_false, eq_self_iff_true, Nat.reduceEqDiff, Nat.reduceLeDiff, Nat.reduceLT, Nat.reduceAdd, Nat.reduceMul, Nat.reduceSub, Nat.reduceDiv, Nat.reduceMod, ↓reduceIte]
      · obtain rfl : j = 0 := by
          have : cnt 2 = 1 := rfl
          omega
        exact r5
