/-! WHAT AN ITEM HOLDS; THE CLASS READS -/
theorem hx_0 (w n s s' : Nat) : hx w 0 n s = hx w 0 n s' := by
  unfold hx
  by_cases c : w = 0
  · rw [if_pos c, if_pos c]
  · rw [if_neg c, if_neg c, if_pos rfl, if_pos rfl]
theorem nums_r {c : Nat → Int32} {m w n : Nat} {S : Nat → Nat} : ∀ (d i a : Nat) (x : Nat → Nat) (e : Nat) (y : Nat → Nat), nums c m w n S d i a x = .inr (e, y) → (∀ j, j < i → y j = x j) ∧ (∀ j, i ≤ j → j < i + d → lo w j ≤ y j ∧ y j < hx w j n (S (y 0)) ∧ y j < 10000) ∧ a + d ≤ e ∧ (a ≤ m → e ≤ m) := by
  intro d
  induction d with
  | zero =>
    intro i a x e y h
    rw [nums] at h
    have h' := Sum.inr.inj h
    have h1 := (Prod.mk.inj h').1
    have h2 := (Prod.mk.inj h').2
    subst h1 h2
    exact ⟨fun _ _ => rfl, fun j h1 h2 => by omega, by omega, fun h => h⟩
  | succ d ih =>
    intro i a x e y h
    rw [nums] at h
    have key : ∀ e1 v, (if i = 0 then pD c m a (lo w i) (hx w i n (S (x 0))) else pN c m a (lo w i) (hx w i n (S (x 0)))) = .inr (e1, v) → a + 1 ≤ e1 ∧ (a ≤ m → e1 ≤ m) ∧ lo w i ≤ v ∧ v < hx w i n (S (x 0)) ∧ v < 10000 := by
      intro e1 v q
      by_cases z : i = 0
      · rw [if_pos z] at q
        exact pD_r q
      · rw [if_neg z] at q
        obtain ⟨q1, q2, q3, q4, q5⟩ := pN_r q
        exact ⟨by omega, fun _ => q2, q3, q4, q5⟩
    rcases hr : (if i = 0 then pD c m a (lo w i) (hx w i n (S (x 0))) else pN c m a (lo w i) (hx w i n (S (x 0)))) with p | ⟨e1, v⟩
    · rw [hr] at h
      cases h
    · rw [hr] at h
      obtain ⟨k1, k2, k3, k4, k5⟩ := key e1 v hr
      obtain ⟨g1, g2, g3, g4⟩ := ih (i + 1) e1 (xU x i v) e y h
      have yi : y i = v := by rw [g1 i (by omega)]; exact if_pos rfl
      have yj : ∀ j, j < i → y j = x j := fun j hj => by rw [g1 j (by omega)]; exact if_neg (by omega)
      refine ⟨yj, fun j h1 h2 => ?_, by omega, fun q => g4 (k2 q)⟩
      by_cases z : j = i
      · rw [z, yi]
        refine ⟨k3, ?_, k5⟩
        by_cases z0 : i = 0
        · rw [z0] at k4 ⊢
          rw [hx_0 w n (S (y 0)) (S (x 0))]
          exact k4
        · rw [yj 0 (by omega)]
          exact k4
      · exact g2 j (by omega) (by omega)
def okI (n : Nat) (S : Nat → Nat) (w : Nat) (x : Nat → Nat) : Prop := w < 5 ∧ (w = 0 → n ≠ 6 ∧ x 0 ≤ 6 ∧ x 1 ≤ 9999 ∧ 1 ≤ x 2 ∧ x 2 ≤ 12 ∧ x 3 ≤ 9) ∧ (w ≠ 0 → x 0 < n) ∧ (w = 3 → x 1 < S (x 0) ∧ x 2 ≤ 7) ∧ (w = 4 → x 1 ≤ 9999)
theorem cnt_1 (w : Nat) : 1 ≤ cnt w := by
  unfold cnt
  split <;> omega
theorem pI_r {c : Nat → Int32} {m n : Nat} {S : Nat → Nat} {a e w : Nat} {x : Nat → Nat} (h : pI c m n S a = .inr (e, w, x)) : w = fwA c m a ∧ w < 5 ∧ a + 6 ≤ e ∧ e ≤ m ∧ okI n S w x := by
  unfold pI at h
  by_cases c1 : fwA c m a = 5
  · rw [if_pos c1] at h; cases h
  · rw [if_neg c1] at h
    by_cases c2 : fwA c m a = 0 ∧ 4 ≤ mW c m a 0 ∧ n = 6
    · rw [if_pos c2] at h; cases h
    · rw [if_neg c2] at h
      by_cases c3 : mW c m a (fwA c m a) < wl (fwA c m a)
      · rw [if_pos c3] at h; cases h
      · rw [if_neg c3] at h
        have fl : fwA c m a ≤ 5 := by
          unfold fwA
          split
          · exact fw_le _
          · exact Nat.le_refl 5
        rcases hr : nums c m (fwA c m a) n S (cnt (fwA c m a)) 0 (a + wl (fwA c m a)) (fun _ => 0) with p | ⟨e1, y⟩
        · rw [hr] at h; cases h
        · rw [hr] at h
          have h' := Sum.inr.inj h
          have h1 := (Prod.mk.inj h').1
          have h2 := (Prod.mk.inj (Prod.mk.inj h').2).1
          have h3 := (Prod.mk.inj (Prod.mk.inj h').2).2
          obtain ⟨g1, g2, g3, g4⟩ := nums_r _ _ _ _ _ _ hr
          have l := wl_5 (fwA c m a)
          have l2 := cnt_1 (fwA c m a)
          have ml := mW_le c m a (fwA c m a)
          have mi := (mW_i (c := c) (m := m) (a := a) (w := fwA c m a) (j := wl (fwA c m a) - 1) (by omega)).1
          have g4' := g4 (by omega)
          subst h1 h3
          rw [h2] at g2 g3 l l2 c1 c2 c3 fl
          refine ⟨h2.symm, by omega, by rw [h2] at *; omega, g4', by omega, fun z => ?_, fun z => ?_, fun z => ?_, fun z => ?_⟩
          · subst z
            have b0 := (g2 0 (by decide) (by decide)).2.1
            have b1 := (g2 1 (by decide) (by decide)).2.1
            have b2 := g2 2 (by decide) (by decide)
            have b3 := (g2 3 (by decide) (by decide)).2.1
            have e0 : hx 0 0 n (S (y 0)) = 7 := rfl
            have e1 : hx 0 1 n (S (y 0)) = 10000 := rfl
            have e2 : hx 0 2 n (S (y 0)) = 13 := rfl
            have e3 : hx 0 3 n (S (y 0)) = 10 := rfl
            have e4 : lo 0 2 = 1 := rfl
            have e5 : wl 0 = 5 := rfl
            refine ⟨fun q => c2 ⟨rfl, by omega, q⟩, by omega, by omega, by omega, by omega, by omega⟩
          · have b0 := (g2 0 (by omega) (by omega)).2.1
            have e0 : hx w 0 n (S (y 0)) = n := by
              unfold hx
              rw [if_neg z, if_pos rfl]
            omega
          · subst z
            have b1 := (g2 1 (by decide) (by decide)).2.1
            have b2 := (g2 2 (by decide) (by decide)).2.1
            have e1 : hx 3 1 n (S (y 0)) = S (y 0) := rfl
            have e2 : hx 3 2 n (S (y 0)) = 8 := rfl
            omega
          · subst z
            have b1 := (g2 1 (by decide) (by decide)).2.2
            omega
/-- the class's reader at a place: a letters read, n bands noted, q items -/
def rS (c : Nat → Int32) (m a n q : Nat) (S : Nat → Nat) (μ : fm_I) : Prop := μ 6 1 = nI q ∧ μ 6 2 = nI a ∧ μ 6 3 = nI m ∧ μ 6 4 = nI n ∧ (∀ i, i < m → μ 14 i = c i) ∧ ∀ b, b < n → μ 15 b = nI (S b)
theorem rS_k {c : Nat → Int32} {m a n q : Nat} {S : Nat → Nat} {μ μ' : fm_I} (h : rS c m a n q S μ) (e : ∀ y, y = 6 ∨ y = 14 ∨ y = 15 → μ' y = μ y) : rS c m a n q S μ' := by
  unfold rS at *
  rw [e 6 (by omega), e 14 (by omega), e 15 (by omega)]
  exact h
theorem rS_m {c : Nat → Int32} {m a n q : Nat} {S : Nat → Nat} {μ : fm_I} (h : rS c m a n q S μ) (a' : Nat) : rS c m a' n q S (fm_u μ 6 2 (nI a')) := by
  obtain ⟨h1, h2, h3, h4, h5, h6⟩ := h
  refine ⟨by rw [ev_uj (by decide)]; exact h1, by rw [ev_us], by rw [ev_uj (by decide)]; exact h3, by rw [ev_uj (by decide)]; exact h4, fun i hi => by rw [ev_uq (by decide)]; exact h5 i hi, fun b hb => by rw [ev_uq (by decide)]; exact h6 b hb⟩
theorem ae_X {c : Nat → Int32} {m a n q : Nat} {S : Nat → Nat} {μ : fm_I} (h : rS c m a n q S μ) (hm : m ≤ 160) (ha : a ≤ m) (ν : fm_L) : m_X3_isAtEnd μ ν = some (nI (if m ≤ a then 1 else 0)) := by
  rw [m_X3_isAtEnd, h.2.1, if_neg (nI_pos (by omega)), h.2.2.1]
  by_cases z : m ≤ a
  · rw [if_pos (le_i z (by omega)), if_pos z]
  · rw [if_neg (nle_i (by omega) (by omega)), if_pos ((nI_ltI (by omega) (by omega)).mpr (by omega)), if_neg z]
theorem lh_X {c : Nat → Int32} {m a n q : Nat} {S : Nat → Nat} {μ : fm_I} (h : rS c m a n q S μ) (hm : m ≤ 160) (ha : a ≤ m) (ν : fm_L) : m_X3_letterHere μ ν = some (if a < m then c a else -1) := by
  rw [m_X3_letterHere, ae_X h hm ha, ev_b]
  by_cases z : m ≤ a
  · rw [if_pos z, if_neg (by decide), if_neg (by omega)]
  · rw [if_neg z, if_pos (by decide), h.2.1, ev_in (by rw [ev_n14]; omega) (by omega), ev_g, ev_cl (by omega), h.2.2.2.2.1 a (by omega), if_pos (by omega)]
theorem rl_X {c : Nat → Int32} {m a n q : Nat} {S : Nat → Nat} {μ : fm_I} (h : rS c m a n q S μ) (hm : m ≤ 160) (ha : a ≤ m) (v : Int32) (ν : fm_L) : (a < m ∧ c a = v → m_X3_readLetter v μ ν = some (nI 1, fm_u μ 6 2 (nI (a + 1)), ν)) ∧ (¬ (a < m ∧ c a = v) → m_X3_readLetter v μ ν = some (nI 0, fm_u μ 6 0 (nI a), ν)) := by
  constructor
  · intro z
    rw [m_X3_readLetter, ae_X h hm ha, ev_b, if_neg (show ¬ m ≤ a by omega), if_pos (by decide), lh_X h hm ha, ev_b, if_pos z.1, if_pos z.2, h.2.1, nI_add]
  · intro z
    rw [m_X3_readLetter, ae_X h hm ha, ev_b]
    by_cases y : m ≤ a
    · rw [if_pos y, if_neg (by decide), m_X3_failAt, ev_b, h.2.1]
      rfl
    · rw [if_neg y, if_pos (by decide), lh_X h hm ha, ev_b, if_pos (show a < m by omega), if_neg (fun w => z ⟨by omega, w⟩), m_X3_failAt, ev_b, h.2.1]
      rfl
theorem tl_w : ∀ t, t < 5 → fm_tl.getD t 0 = wl t - 1 := by decide
theorem ch_w : ∀ t, t < 5 → ∀ k, k < wl t - 1 → fm_ch t k = wd (po t + k) := by decide
theorem bl_w : ∀ t, t < 5 → wd (po t + (wl t - 1)) = nI 32 := by decide
/-- what stays while an item is read, and that no fault was told -/
def rF (μ μ' : fm_I) : Prop := ∀ y, y ≠ 6 → y ≠ 15 → y ≠ 16 → y ≠ 17 → μ' y = μ y
theorem rF_t {μ1 μ2 μ3 : fm_I} (h : rF μ1 μ2) (h2 : rF μ2 μ3) : rF μ1 μ3 := fun y a b c d => (h2 y a b c d).trans (h y a b c d)
theorem rw_X {c : Nat → Int32} {m a n q t : Nat} {S : Nat → Nat} (hm : m ≤ 160) (ha : a ≤ m) (ht : t < 5) (K : fm_I → fm_L → Option (Int32 × fm_I × fm_L)) (ν : fm_L) : ∀ (d k fuel : Nat) (μ : fm_I), k + d = wl t - 1 → d < fuel → k ≤ mW c m a t → rS c m (a + k) n q S μ → (wl t - 1 ≤ mW c m a t → ∃ μ', m_X3_readWord_2 t K fuel (nI k) μ ν = K μ' ν ∧ rS c m (a + (wl t - 1)) n q S μ' ∧ (∀ y, y ≠ 6 → μ' y = μ y) ∧ μ' 6 0 = μ 6 0) ∧ (mW c m a t < wl t - 1 → ∃ μ', m_X3_readWord_2 t K fuel (nI k) μ ν = some (nI 0, μ', ν) ∧ (∀ y, y ≠ 6 → μ' y = μ y) ∧ μ' 6 0 = nI (a + mW c m a t)) := by
  have l := wl_5 t
  have bt : Nat.blt t 5 = true := Nat.blt_eq.mpr ht
  intro d
  induction d with
  | zero =>
    intro k fuel μ hk hf' hle h
    obtain ⟨f, rfl⟩ : ∃ j, fuel = j + 1 := ⟨fuel - 1, by omega⟩
    obtain rfl : k = wl t - 1 := by omega
    refine ⟨fun _ => ⟨μ, ?_, h, fun _ _ => rfl, rfl⟩, fun z => absurd hle (by omega)⟩
    rw [m_X3_readWord_2, bt, ev_g, tl_w t ht, if_pos (le_i (Nat.le_refl _) (by omega))]
  | succ d ih =>
    intro k fuel μ hk hf' hle h
    obtain ⟨f, rfl⟩ : ∃ j, fuel = j + 1 := ⟨fuel - 1, by omega⟩
    have hak : a + k ≤ m := by
      by_cases z : k = 0
      · omega
      · have := (mW_i (c := c) (m := m) (a := a) (w := t) (j := k - 1) (by omega)).1
        omega
    have R := rl_X h hm hak (wd (po t + k)) ν
    by_cases e : k < mW c m a t
    · have I := mW_i e
      have R1 := R.1 I
      obtain ⟨i1, i2⟩ := ih (k + 1) f (fm_u μ 6 2 (nI (a + k + 1))) (by omega) (by omega) e (rS_m h (a + (k + 1)))
      have E : m_X3_readWord_2 t K (f + 1) (nI k) μ ν = m_X3_readWord_2 t K f (nI (k + 1)) (fm_u μ 6 2 (nI (a + k + 1))) ν := by
        rw [m_X3_readWord_2, bt, ev_g, tl_w t ht, if_neg (nle_i (by omega) (by omega)), ev_in (by omega) (by omega), Bool.and_true, ev_g, ev_cl (by omega), ch_w t ht k (by omega), R1, ev_b, nI_add]
        rfl
      rw [E]
      refine ⟨fun z => ?_, fun z => ?_⟩
      · obtain ⟨μ', q1, q2, q3, q4⟩ := i1 z
        exact ⟨μ', q1, q2, fun y hy => by rw [q3 y hy, ev_uq hy], by rw [q4, ev_uj (by decide)]⟩
      · obtain ⟨μ', q1, q2, q3⟩ := i2 z
        exact ⟨μ', q1, fun y hy => by rw [q2 y hy, ev_uq hy], q3⟩
    · have ek : k = mW c m a t := by omega
      have O := mW_o (c := c) (m := m) (a := a) (w := t) (by omega)
      rw [← ek] at O
      have R2 := R.2 O
      refine ⟨fun z => absurd z (by omega), fun _ => ⟨fm_u μ 6 0 (nI (a + k)), ?_, fun y hy => ev_uq hy, by rw [ev_us, ek]⟩⟩
      rw [m_X3_readWord_2, bt, ev_g, tl_w t ht, if_neg (nle_i (by omega) (by omega)), ev_in (by omega) (by omega), Bool.and_true, ev_g, ev_cl (by omega), ch_w t ht k (by omega), R2, ev_b]
      rfl
theorem dg_X {c : Nat → Int32} {m n q : Nat} {S : Nat → Nat} (hm : m ≤ 160) (ν : fm_L) : ∀ (d k fuel a v : Nat) (μ : fm_I), k + d = 4 → d < fuel → a ≤ m → rS c m a n q S μ → ∃ μ', (∀ (v1 v2 v3 v4 : Int32) (K : Int32 → fm_I → fm_L → Option (Int32 × fm_I × fm_L)), m_X3_readNumber_23 v1 v2 v3 v4 K fuel (nI v) (nI k) μ ν = K (nI (dg c m d a v).2) μ' ν) ∧ rS c m (dg c m d a v).1 n q S μ' ∧ (∀ y, y ≠ 6 → μ' y = μ y) ∧ μ' 6 0 = μ 6 0 := by
  intro d
  induction d with
  | zero =>
    intro k fuel a v μ hk hf' ha h
    obtain ⟨f, rfl⟩ : ∃ j, fuel = j + 1 := ⟨fuel - 1, by omega⟩
    refine ⟨μ, fun v1 v2 v3 v4 K => ?_, h, fun _ _ => rfl, rfl⟩
    rw [m_X3_readNumber_23, if_pos (le_i (by omega) (by omega))]
    rfl
  | succ d ih =>
    intro k fuel a v μ hk hf' ha h
    obtain ⟨f, rfl⟩ : ∃ j, fuel = j + 1 := ⟨fuel - 1, by omega⟩
    have L := lh_X h hm ha ν
    rw [dg]
    by_cases z : a < m ∧ nI 48 ≤ c a ∧ c a ≤ nI 57
    · rw [dif_pos z]
      obtain ⟨z1, z2, z3⟩ := isD_v (x := c a) z.2
      obtain ⟨μ', q1, q2, q3, q4⟩ := ih (k + 1) f (a + 1) (v * 10 + dV (c a) - 48) (fm_u μ 6 2 (nI (a + 1))) (by omega) (by omega) (by omega) (rS_m h (a + 1))
      refine ⟨μ', fun v1 v2 v3 v4 K => ?_, q2, fun y hy => by rw [q3 y hy, ev_uq hy], by rw [q4, ev_uj (by decide)]⟩
      rw [← q1 v1 v2 v3 v4 K, m_X3_readNumber_23, if_neg (nle_i (by omega) (by omega)), L, ev_b, if_pos z.1, if_neg (by rw [i_nlt z.2.1]; exact not_false), ev_b, if_neg (by rw [i_nlt z.2.2]; exact not_false), ev_b, h.2.1, nI_add, nI_add]
      rw [show nI v * nI 10 + c a - nI 48 = nI (v * 10 + dV (c a) - 48) by
        rw [pk_mul]
        conv => lhs; rw [z1]
        rw [nI_add, pk_sub (by omega)]]
    · rw [dif_neg z]
      refine ⟨μ, fun v1 v2 v3 v4 K => ?_, h, fun _ _ => rfl, rfl⟩
      rw [m_X3_readNumber_23, if_neg (nle_i (by omega) (by omega)), L, ev_b]
      by_cases y : a < m
      · rw [if_pos y]
        by_cases w : c a < nI 48
        · rw [if_pos w]
        · rw [if_neg w, ev_b, if_pos (by
            by_cases w2 : nI 57 < c a
            · exact w2
            · refine absurd ⟨y, ?_, ?_⟩ z
              · rw [Int32.lt_iff_toInt_lt] at w
                rw [Int32.le_iff_toInt_le]
                omega
              · rw [Int32.lt_iff_toInt_lt] at w2
                rw [Int32.le_iff_toInt_le]
                omega)]
      · rw [if_neg y, if_pos (by decide)]
