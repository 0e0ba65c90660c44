/-! THE REFERENCE READS A WORD -/
theorem tz_0 : ∀ w, w < 5 → wd (po w + wl w) = 0 ∧ po w + wl w < 33 ∧ po w + wl w + 1 = po (w + 1) := by decide
theorem tz_k : ∀ w, w < 5 → ∀ k, k < wl w → ¬ wd (po w + k) = 0 := by decide
theorem tz_b : ∀ w, w < 5 → ∀ k, k < wl w - 1 → ¬ wd (po w + k) ≤ nI 32 ∧ nI 32 < wd (po w + k) := by decide
def qS (s m a : Nat) (μ : fm_I) : Prop := μ 58 19 = nI (160 * s) ∧ μ 58 20 = nI a ∧ μ 58 21 = nI m ∧ ∀ i, i < 33 → μ 72 i = wd i
theorem w23 {s m a w : Nat} {μ : fm_I} {ν : fm_L} {c : Nat → Int32} (hc : ∀ i, c i = (ν 70 (160 * s + i)).toInt32) (hs : s < 8) (hm : m ≤ 160) (ha : a ≤ m) (hw : w < 5) (h : qS s m a μ) (v1 v2 v3 : Int32) (K : Int32 → Int32 → Option (Int32 × fm_I × fm_L)) : ∀ (d k fuel : Nat), k + d = wl w → d < fuel → k ≤ mW c m a w → m_X6_word_23 v1 v2 v3 μ ν K fuel (nI (a + k)) (nI (po w + k)) = K (nI (a + mW c m a w)) (nI (po w + mW c m a w)) := by
  obtain ⟨t1, t2, t3⟩ := tz_0 w hw
  have ml := mW_le c m a w
  have l := wl_5 w
  intro d
  induction d with
  | zero =>
    intro k fuel hk hf' hle
    obtain ⟨f, rfl⟩ : ∃ j, fuel = j + 1 := ⟨fuel - 1, by omega⟩
    have e : mW c m a w = k := by omega
    rw [m_X6_word_23, ev_in (by rw [ev_n72]; omega) (by omega), ev_g, ev_cl (by omega), h.2.2.2 _ (by omega), e, show k = wl w by omega, if_pos t1]
  | succ d ih =>
    intro k fuel hk hf' hle
    obtain ⟨f, rfl⟩ : ∃ j, fuel = j + 1 := ⟨fuel - 1, by omega⟩
    rw [m_X6_word_23, ev_in (by rw [ev_n72]; omega) (by omega), ev_g, ev_cl (by omega), h.2.2.2 _ (by omega), if_neg (tz_k w hw k (by omega)), h.2.2.1]
    by_cases e : k < mW c m a w
    · obtain ⟨i1, i2⟩ := mW_i e
      rw [if_neg (nle_i i1 (by omega)), h.1, nI_add, ev_in (by rw [ev_n70]; omega) (by omega), ev_g, ev_cl (by omega), ← hc (a + k), if_pos i2, nI_add, nI_add]
      exact ih (k + 1) f (by omega) (by omega) e
    · have ek : k = mW c m a w := by omega
      have O := mW_o (c := c) (m := m) (a := a) (w := w) (by omega)
      rw [← ek] at O
      by_cases z : m ≤ a + k
      · rw [if_pos (le_i z (by omega)), ek]
      · rw [if_neg (nle_i (by omega) (by omega)), h.1, nI_add, ev_in (by rw [ev_n70]; omega) (by omega), ev_g, ev_cl (by omega), ← hc (a + k), if_neg (fun y => O ⟨by omega, y⟩), ek]
theorem w105 {w : Nat} {μ : fm_I} {ν : fm_L} (hw : w < 5) (h : ∀ i, i < 33 → μ 72 i = wd i) (v2 v3 : Int32) (K : Int32 → Option (Int32 × fm_I × fm_L)) : ∀ (d k fuel : Nat), k + d = wl w → d < fuel → m_X6_word_105 v2 v3 μ ν K fuel (nI (po w + k)) = K (nI (po w + wl w)) := by
  obtain ⟨t1, t2, t3⟩ := tz_0 w hw
  have l := wl_5 w
  intro d
  induction d with
  | zero =>
    intro k fuel hk hf'
    obtain ⟨f, rfl⟩ : ∃ j, fuel = j + 1 := ⟨fuel - 1, by omega⟩
    obtain rfl : k = wl w := by omega
    rw [m_X6_word_105, ev_in (by rw [ev_n72]; omega) (by omega), ev_g, ev_cl (by omega), h _ (by omega), if_pos t1]
  | succ d ih =>
    intro k fuel hk hf'
    obtain ⟨f, rfl⟩ : ∃ j, fuel = j + 1 := ⟨fuel - 1, by omega⟩
    rw [m_X6_word_105, ev_in (by rw [ev_n72]; omega) (by omega), ev_g, ev_cl (by omega), h _ (by omega), if_neg (tz_k w hw k (by omega)), nI_add]
    exact ih (k + 1) f (by omega) (by omega)
theorem w9_s {s m a w far f : Nat} {μ : fm_I} {ν : fm_L} {c : Nat → Int32} (hc : ∀ i, c i = (ν 70 (160 * s + i)).toInt32) (hs : s < 8) (hm : m ≤ 160) (ha : a ≤ m) (hw : w < 5) (hfar : far < 1000) (h : qS s m a μ) (K : Int32 → Option (Int32 × fm_I × fm_L)) : m_X6_word_9 μ ν K (f + 1) (nI (po w)) (nI far) (nI w) = if mW c m a w = wl w then some (nI w, fm_u μ 58 20 (nI (a + wl w)), ν) else m_X6_word_9 μ ν K f (nI (po (w + 1))) (nI (max far (a + mW c m a w))) (nI (w + 1)) := by
  obtain ⟨t1, t2, t3⟩ := tz_0 w hw
  have ml := mW_le c m a w
  have l := wl_5 w
  rw [m_X6_word_9, if_neg (nle_i (by omega) (by omega)), h.2.1]
  refine (w23 hc hs hm ha hw h (nI (po w)) (nI far) (nI w) _ (wl w) 0 5000 (by omega) (by omega) (Nat.zero_le _)).trans ?_
  rw [ev_in (by rw [ev_n72]; omega) (by omega), ev_g, ev_cl (by omega), h.2.2.2 _ (by omega)]
  by_cases e : mW c m a w = wl w
  · rw [e, if_pos t1, if_pos rfl]
  · rw [if_neg (tz_k w hw _ (by omega)), if_neg e]
    by_cases y : a + mW c m a w ≤ far
    · rw [if_pos (le_i y (by omega)), show max far (a + mW c m a w) = far by omega]
      refine (w105 hw h.2.2.2 (nI far) (nI w) _ (wl w) 0 5000 (by omega) (by omega)).trans ?_
      rw [nI_add, t3, nI_add]
    · rw [if_neg (nle_i (by omega) (by omega)), show max far (a + mW c m a w) = a + mW c m a w by omega]
      refine (w105 hw h.2.2.2 (nI (a + mW c m a w)) (nI w) _ (wl w) 0 5000 (by omega) (by omega)).trans ?_
      rw [nI_add, t3, nI_add]
theorem w9_z {s m a : Nat} {μ : fm_I} {ν : fm_L} {c : Nat → Int32} (hc : ∀ i, c i = (ν 70 (160 * s + i)).toInt32) (hs : s < 8) (hm : m ≤ 160) (ha : a ≤ m) (h : qS s m a μ) (K : Int32 → Option (Int32 × fm_I × fm_L)) : ∀ (d w fuel far : Nat), w + d = 5 → d < fuel → a ≤ far → far < 1000 → ¬ (w ≤ fwA c m a ∧ fwA c m a < 5) → m_X6_word_9 μ ν K fuel (nI (po w)) (nI far) (nI w) = K (nI far) := by
  intro d
  induction d with
  | zero =>
    intro w fuel far hw hf' _ _ _
    obtain ⟨f, rfl⟩ : ∃ j, fuel = j + 1 := ⟨fuel - 1, by omega⟩
    rw [m_X6_word_9, if_pos (le_i (by omega) (by omega))]
  | succ d ih =>
    intro w fuel far hw hf' h1 h2 h3
    obtain ⟨f, rfl⟩ : ∃ j, fuel = j + 1 := ⟨fuel - 1, by omega⟩
    have z := mW_z (c := c) (m := m) (a := a) (show w < 5 by omega) (by omega)
    have l := wl_5 w
    rw [w9_s hc hs hm ha (show w < 5 by omega) h2 h K, z, if_neg (by omega), show max far (a + 0) = far by omega]
    exact ih (w + 1) f far (by omega) (by omega) h1 h2 (by omega)
theorem w9_w {s m a : Nat} {μ : fm_I} {ν : fm_L} {c : Nat → Int32} (hc : ∀ i, c i = (ν 70 (160 * s + i)).toInt32) (hs : s < 8) (hm : m ≤ 160) (ha : a ≤ m) (h : qS s m a μ) (K : Int32 → Option (Int32 × fm_I × fm_L)) : ∀ (d w fuel : Nat), w + d = 5 → d < fuel → w ≤ fwA c m a → fwA c m a < 5 → m_X6_word_9 μ ν K fuel (nI (po w)) (nI a) (nI w) = if mW c m a (fwA c m a) = wl (fwA c m a) then some (nI (fwA c m a), fm_u μ 58 20 (nI (a + wl (fwA c m a))), ν) else K (nI (a + mW c m a (fwA c m a))) := by
  intro d
  induction d with
  | zero => intro w fuel hw _ _ _; omega
  | succ d ih =>
    intro w fuel hw hf' h1 h2
    obtain ⟨f, rfl⟩ : ∃ j, fuel = j + 1 := ⟨fuel - 1, by omega⟩
    have l := wl_5 w
    have ml := mW_le c m a w
    rw [w9_s hc hs hm ha (show w < 5 by omega) (show a < 1000 by omega) h K]
    by_cases e : w = fwA c m a
    · rw [← e]
      by_cases z : mW c m a w = wl w
      · rw [if_pos z, if_pos z]
      · rw [if_neg z, if_neg z, show max a (a + mW c m a w) = a + mW c m a w by omega]
        exact w9_z hc hs hm ha h K d (w + 1) f _ (by omega) (by omega) (by omega) (by omega) (by omega)
    · have z := mW_z (c := c) (m := m) (a := a) (show w < 5 by omega) (fun y => e y.symm)
      rw [z, if_neg (by omega), show max a (a + 0) = a by omega]
      exact ih (w + 1) f (by omega) (by omega) (by omega) h2
theorem wd_M {s m a : Nat} {μ : fm_I} {ν : fm_L} {c : Nat → Int32} (hc : ∀ i, c i = (ν 70 (160 * s + i)).toInt32) (hs : s < 8) (hm : m ≤ 160) (ha : a ≤ m) (h : qS s m a μ) : (fwA c m a = 5 → m_X6_word μ ν = some (-1, fm_u μ 58 23 (nI a), ν)) ∧ (fwA c m a < 5 → mW c m a (fwA c m a) = wl (fwA c m a) → m_X6_word μ ν = some (nI (fwA c m a), fm_u μ 58 20 (nI (a + wl (fwA c m a))), ν)) ∧ (fwA c m a < 5 → mW c m a (fwA c m a) < wl (fwA c m a) → m_X6_word μ ν = some (-1, fm_u μ 58 23 (nI (a + mW c m a (fwA c m a))), ν)) := by
  refine ⟨fun z => ?_, fun z y => ?_, fun z y => ?_⟩
  · rw [m_X6_word, h.2.1]
    exact w9_z hc hs hm ha h _ 5 0 5000 a (by omega) (by omega) (Nat.le_refl a) (by omega) (by omega)
  · rw [m_X6_word, h.2.1]
    refine (w9_w hc hs hm ha h _ 5 0 5000 (by omega) (by omega) (Nat.zero_le _) z).trans ?_
    rw [if_pos y]
  · rw [m_X6_word, h.2.1]
    refine (w9_w hc hs hm ha h _ 5 0 5000 (by omega) (by omega) (Nat.zero_le _) z).trans ?_
    rw [if_neg (by omega)]
/-! whether a word stands there, whatever is behind it -/
def pz (w : Nat) : Nat → Nat → Nat → Option Nat
  | 0, _, _ => none
  | f + 1, c, k => if w ≤ k then some c else if wd c = 0 then pz w f (c + 1) (k + 1) else pz w f (c + 1) k
theorem pz_w : ∀ w, w < 5 → pz w 28 0 0 = some (po w) := by decide
theorem iw4 {w : Nat} {μ : fm_I} {ν : fm_L} (hw : w < 5) (h : ∀ i, i < 33 → μ 72 i = wd i) (K : Int32 → Option Int32) : ∀ (f fuel c k r : Nat), f ≤ fuel → c + f ≤ 33 → k ≤ w → pz w f c k = some r → m_X6_isWordAt_4 (nI w) μ ν K fuel (nI c) (nI k) = K (nI r) := by
  intro f
  induction f with
  | zero => intro fuel c k r _ _ _ hp; rw [pz] at hp; cases hp
  | succ f ih =>
    intro fuel c k r hf' hc hk hp
    obtain ⟨g, rfl⟩ : ∃ j, fuel = j + 1 := ⟨fuel - 1, by omega⟩
    rw [pz] at hp
    rw [m_X6_isWordAt_4]
    by_cases z : w ≤ k
    · rw [if_pos z] at hp
      rw [if_pos (le_i z (by omega)), Option.some.inj hp]
    · rw [if_neg z] at hp
      rw [if_neg (nle_i (by omega) (by omega)), ev_in (by rw [ev_n72]; omega) (by omega), ev_g, ev_cl (by omega), h c (by omega)]
      by_cases y : wd c = 0
      · rw [if_pos y] at hp
        rw [if_pos y, nI_add, nI_add]
        exact ih g (c + 1) (k + 1) r (by omega) (by omega) (by omega) hp
      · rw [if_neg y] at hp
        rw [if_neg y, nI_add, a_n0]
        exact ih g (c + 1) k r (by omega) (by omega) hk hp
theorem w37 {s m a w : Nat} {μ : fm_I} {ν : fm_L} {c : Nat → Int32} (hc : ∀ i, c i = (ν 70 (160 * s + i)).toInt32) (hs : s < 8) (hm : m ≤ 160) (ha : a ≤ m) (hw : w < 5) (h : qS s m a μ) (K : Int32 → Option Int32) : ∀ (d k fuel : Nat), k + d = wl w - 1 → d < fuel → k ≤ mW c m a w → m_X6_isWordAt_37 μ ν K fuel (nI (po w + k)) (nI (a + k)) = K (nI (po w + min (mW c m a w) (wl w - 1))) := by
  obtain ⟨t1, t2, t3⟩ := tz_0 w hw
  have ml := mW_le c m a w
  have l := wl_5 w
  intro d
  induction d with
  | zero =>
    intro k fuel hk hf' hle
    obtain ⟨f, rfl⟩ : ∃ j, fuel = j + 1 := ⟨fuel - 1, by omega⟩
    rw [m_X6_isWordAt_37, ev_in (by rw [ev_n72]; omega) (by omega), ev_g, ev_cl (by omega), h.2.2.2 _ (by omega), show k = wl w - 1 by omega, bl_w w hw, if_pos (le_i (Nat.le_refl _) (by omega)), show min (mW c m a w) (wl w - 1) = wl w - 1 by omega]
  | succ d ih =>
    intro k fuel hk hf' hle
    obtain ⟨f, rfl⟩ : ∃ j, fuel = j + 1 := ⟨fuel - 1, by omega⟩
    rw [m_X6_isWordAt_37, ev_in (by rw [ev_n72]; omega) (by omega), ev_g, ev_cl (by omega), h.2.2.2 _ (by omega), if_neg (tz_b w hw k (by omega)).1, h.2.2.1]
    by_cases e : k < mW c m a w
    · obtain ⟨i1, i2⟩ := mW_i e
      rw [if_neg (nle_i i1 (by omega)), h.1, nI_add, ev_in (by rw [ev_n70]; omega) (by omega), ev_g, ev_cl (by omega), ← hc (a + k), if_pos i2, nI_add, nI_add]
      exact ih (k + 1) f (by omega) (by omega) e
    · have ek : k = mW c m a w := by omega
      have O := mW_o (c := c) (m := m) (a := a) (w := w) (by omega)
      rw [← ek] at O
      rw [show min (mW c m a w) (wl w - 1) = k by omega]
      by_cases z : m ≤ a + k
      · rw [if_pos (le_i z (by omega))]
      · rw [if_neg (nle_i (by omega) (by omega)), h.1, nI_add, ev_in (by rw [ev_n70]; omega) (by omega), ev_g, ev_cl (by omega), ← hc (a + k), if_neg (fun y => O ⟨by omega, y⟩)]
theorem iwa {s m a w : Nat} {μ : fm_I} {ν : fm_L} {c : Nat → Int32} (hc : ∀ i, c i = (ν 70 (160 * s + i)).toInt32) (hs : s < 8) (hm : m ≤ 160) (ha : a ≤ m) (hw : w < 5) (h : qS s m a μ) : m_X6_isWordAt (nI w) μ ν = some (nI (if wl w - 1 ≤ mW c m a w then 1 else 0)) := by
  obtain ⟨t1, t2, t3⟩ := tz_0 w hw
  have l := wl_5 w
  rw [m_X6_isWordAt]
  refine (iw4 hw h.2.2.2 _ 28 5000 0 0 (po w) (by omega) (by omega) (Nat.zero_le _) (pz_w w hw)).trans ?_
  rw [h.2.1]
  refine (w37 hc hs hm ha hw h _ (wl w - 1) 0 5000 (by omega) (by omega) (Nat.zero_le _)).trans ?_
  rw [ev_in (by rw [ev_n72]; omega) (by omega), ev_g, ev_cl (by omega), h.2.2.2 _ (by omega)]
  by_cases e : wl w - 1 ≤ mW c m a w
  · rw [show min (mW c m a w) (wl w - 1) = wl w - 1 by omega, bl_w w hw, if_neg (by decide), if_pos e]
  · rw [show min (mW c m a w) (wl w - 1) = mW c m a w by omega, if_pos (tz_b w hw _ (by omega)).2, if_neg e]
theorem it2 {s m a n : Nat} {μ : fm_I} {ν : fm_L} {c : Nat → Int32} (hc : ∀ i, c i = (ν 70 (160 * s + i)).toInt32) (hs : s < 8) (hm : m ≤ 160) (ha : a ≤ m) (h : qS s m a μ) (h0 : μ 58 0 = nI n) (hn : n ≤ 6) (K : Option (Int32 × fm_I × fm_L)) : m_X6_item_2 μ ν K 5000 (nI 0) = if 4 ≤ mW c m a 0 ∧ n = 6 then some (nI 0, fm_u μ 58 23 (nI a), ν) else K := by
  have st : ∀ (f w : Nat), 1 ≤ w → w < 5 → m_X6_item_2 μ ν K (f + 1) (nI w) = m_X6_item_2 μ ν K f (nI (w + 1)) := fun f w h1 hw => by
    rw [m_X6_item_2, if_neg (nle_i (by omega) (by omega)), iwa hc hs hm ha hw h, ev_b, nI_add]
    by_cases z : wl w - 1 ≤ mW c m a w
    · have F : m_X6_isFull (nI w) μ ν = some (nI 0) := by
        rw [m_X6_isFull, if_neg (by rw [ev_eq0 (by omega)]; omega)]
      rw [if_pos z, if_neg (by decide), F, ev_b, if_pos (by decide)]
    · rw [if_neg z, if_pos (by decide)]
  have rest : m_X6_item_2 μ ν K 4999 (nI 1) = K := by
    rw [st 4998 1 (by decide) (by decide), st 4997 2 (by decide) (by decide), st 4996 3 (by decide) (by decide), st 4995 4 (by decide) (by decide)]
    show m_X6_item_2 μ ν K (4994 + 1) (nI 5) = K
    rw [m_X6_item_2, if_pos (le_i (by omega) (by omega))]
  show m_X6_item_2 μ ν K (4999 + 1) (nI 0) = _
  rw [m_X6_item_2, if_neg (nle_i (by omega) (by omega)), iwa hc hs hm ha (show 0 < 5 by decide) h, ev_b, nI_add, rest, show wl 0 - 1 = 4 from rfl]
  by_cases z : 4 ≤ mW c m a 0
  · rw [if_pos z, if_neg (by decide)]
    by_cases y : n = 6
    · have F : m_X6_isFull (nI 0) μ ν = some (nI 1) := by
        rw [m_X6_isFull, if_pos (by decide), h0, y, if_pos rfl]
      rw [F, ev_b, if_neg (by decide), if_pos ⟨z, y⟩, m_X6_wrong, ev_b, h.2.1]
      rfl
    · have F : m_X6_isFull (nI 0) μ ν = some (nI 0) := by
        rw [m_X6_isFull, if_pos (by decide), h0, if_neg (ne_i y (by omega) (by omega))]
      rw [F, ev_b, if_pos (by decide), if_neg (fun w => y w.2)]
  · rw [if_neg z, if_pos (by decide), if_neg (fun w => z w.1)]
