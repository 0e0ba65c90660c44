/-! TEXTS: how a table reads, without any machine -/
def wd (i : Nat) : Int32 := pa_wd.getD i 0
def po : Nat → Nat
  | 0 => 0
  | 1 => 6
  | 2 => 13
  | 3 => 19
  | 4 => 26
  | _ => 33
def wl : Nat → Nat
  | 0 => 5
  | 2 => 5
  | _ => 6
def ml (c : Nat → Int32) (m at_ p : Nat) : Nat → Nat → Nat
  | 0, k => k
  | d + 1, k => if at_ + k < m ∧ c (at_ + k) = wd (p + k) then ml c m at_ p d (k + 1) else k
theorem ml_b (c : Nat → Int32) (m a p : Nat) : ∀ d k, k ≤ ml c m a p d k ∧ ml c m a p d k ≤ k + d := by
  intro d
  induction d with
  | zero => intro k; exact ⟨Nat.le_refl k, Nat.le_refl k⟩
  | succ d ih =>
    intro k
    rw [ml]
    by_cases z : a + k < m ∧ c (a + k) = wd (p + k)
    · rw [if_pos z]
      have := ih (k + 1)
      omega
    · rw [if_neg z]
      omega
theorem ml_i (c : Nat → Int32) (m a p : Nat) : ∀ d k j, k ≤ j → j < ml c m a p d k → a + j < m ∧ c (a + j) = wd (p + j) := by
  intro d
  induction d with
  | zero => intro k j h1 h2; rw [ml] at h2; omega
  | succ d ih =>
    intro k j h1 h2
    rw [ml] at h2
    by_cases z : a + k < m ∧ c (a + k) = wd (p + k)
    · rw [if_pos z] at h2
      by_cases e : j = k
      · rw [e]; exact z
      · exact ih (k + 1) j (by omega) h2
    · rw [if_neg z] at h2
      omega
theorem ml_o (c : Nat → Int32) (m a p : Nat) : ∀ d k, ml c m a p d k < k + d → ¬ (a + ml c m a p d k < m ∧ c (a + ml c m a p d k) = wd (p + ml c m a p d k)) := by
  intro d
  induction d with
  | zero => intro k h; rw [ml] at h; omega
  | succ d ih =>
    intro k h
    rw [ml] at h ⊢
    by_cases z : a + k < m ∧ c (a + k) = wd (p + k)
    · rw [if_pos z] at h ⊢
      exact ih (k + 1) (by omega)
    · rw [if_neg z] at h ⊢
      exact z
/-- how many letters of a word (with its blank) stand there -/
def mW (c : Nat → Int32) (m a w : Nat) : Nat := ml c m a (po w) (wl w) 0
theorem mW_le (c : Nat → Int32) (m a w : Nat) : mW c m a w ≤ wl w := by
  have := (ml_b c m a (po w) (wl w) 0).2
  unfold mW
  omega
theorem mW_i {c : Nat → Int32} {m a w j : Nat} (h : j < mW c m a w) : a + j < m ∧ c (a + j) = wd (po w + j) := ml_i c m a (po w) (wl w) 0 j (Nat.zero_le j) h
theorem mW_o {c : Nat → Int32} {m a w : Nat} (h : mW c m a w < wl w) : ¬ (a + mW c m a w < m ∧ c (a + mW c m a w) = wd (po w + mW c m a w)) := ml_o c m a (po w) (wl w) 0 (by unfold mW at h; omega)
theorem wl_5 (w : Nat) : 5 ≤ wl w ∧ wl w ≤ 6 := by
  unfold wl
  split <;> omega
theorem mW_0 {c : Nat → Int32} {m a w : Nat} (h : ¬ (a < m ∧ c a = wd (po w))) : mW c m a w = 0 := by
  by_cases z : 0 < mW c m a w
  · exact absurd (mW_i z) h
  · omega
/-- which word begins with a letter -/
def fw (x : Int32) : Nat := if x = nI 98 then 0 else if x = nI 114 then 1 else if x = nI 108 then 2 else if x = nI 112 then 3 else if x = nI 116 then 4 else 5
theorem fw_le (x : Int32) : fw x ≤ 5 := by
  unfold fw
  repeat' split
  all_goals decide
theorem fw_s {x : Int32} {w : Nat} (h : fw x = w) (hw : w < 5) : x = wd (po w) := by
  unfold fw at h
  by_cases c0 : x = nI 98
  · rw [if_pos c0] at h; subst h; exact c0
  · rw [if_neg c0] at h
    by_cases c1 : x = nI 114
    · rw [if_pos c1] at h; subst h; exact c1
    · rw [if_neg c1] at h
      by_cases c2 : x = nI 108
      · rw [if_pos c2] at h; subst h; exact c2
      · rw [if_neg c2] at h
        by_cases c3 : x = nI 112
        · rw [if_pos c3] at h; subst h; exact c3
        · rw [if_neg c3] at h
          by_cases c4 : x = nI 116
          · rw [if_pos c4] at h; subst h; exact c4
          · rw [if_neg c4] at h; omega
theorem fw_n {x : Int32} {w : Nat} (h : x = wd (po w)) (hw : w < 5) : fw x = w := by
  subst h
  rcases (by omega : w = 0 ∨ w = 1 ∨ w = 2 ∨ w = 3 ∨ w = 4) with rfl | rfl | rfl | rfl | rfl <;> decide
def fwA (c : Nat → Int32) (m a : Nat) : Nat := if a < m then fw (c a) else 5
theorem mW_z {c : Nat → Int32} {m a w : Nat} (hw : w < 5) (h : fwA c m a ≠ w) : mW c m a w = 0 := by
  refine mW_0 (fun z => ?_)
  unfold fwA at h
  rw [if_pos z.1] at h
  exact h (fw_n z.2 hw)
theorem mW_1 {c : Nat → Int32} {m a w : Nat} (hw : w < 5) (h : fwA c m a = w) : 1 ≤ mW c m a w ∧ a < m ∧ c a = wd (po w) := by
  unfold fwA at h
  by_cases z : a < m
  · rw [if_pos z] at h
    have e := fw_s h hw
    refine ⟨?_, z, e⟩
    by_cases y : mW c m a w = 0
    · have l := wl_5 w
      have o := mW_o (c := c) (m := m) (a := a) (w := w) (by omega)
      rw [y] at o
      exact absurd ⟨z, e⟩ o
    · omega
  · rw [if_neg z] at h
    omega
/-! digits -/
def isD (x : Int32) : Prop := nI 48 ≤ x ∧ x ≤ nI 57
def dV (x : Int32) : Nat := x.toNatClampNeg
theorem isD_v {x : Int32} (h : isD x) : x = nI (dV x) ∧ 48 ≤ dV x ∧ dV x ≤ 57 := by
  obtain ⟨h1, h2⟩ := h
  rw [Int32.le_iff_toInt_le, nI_toInt (by decide)] at h1 h2
  have p : ¬ x < 0 := fun z => by
    rw [Int32.lt_iff_toInt_lt] at z
    rw [show (0 : Int32).toInt = 0 by decide] at z
    omega
  obtain ⟨v, hv, rfl⟩ := nI_of p
  rw [nI_toInt hv] at h1 h2
  unfold dV
  rw [nI_clamp hv]
  exact ⟨rfl, by omega, by omega⟩
noncomputable def dg (c : Nat → Int32) (m : Nat) : Nat → Nat → Nat → Nat × Nat
  | 0, a, v => (a, v)
  | d + 1, a, v => if h : a < m ∧ nI 48 ≤ c a ∧ c a ≤ nI 57 then dg c m d (a + 1) (v * 10 + dV (c a) - 48) else (a, v)
theorem dg_b (c : Nat → Int32) (m : Nat) : ∀ d a v, a ≤ (dg c m d a v).1 ∧ ((dg c m d a v).1 = a → (dg c m d a v).2 = v) ∧ (a ≤ m → (dg c m d a v).1 ≤ m) := by
  intro d
  induction d with
  | zero => intro a v; exact ⟨Nat.le_refl a, fun _ => rfl, fun h => h⟩
  | succ d ih =>
    intro a v
    rw [dg]
    by_cases z : a < m ∧ nI 48 ≤ c a ∧ c a ≤ nI 57
    · rw [dif_pos z]
      have := ih (a + 1) (v * 10 + dV (c a) - 48)
      exact ⟨by omega, fun h => by omega, fun h => this.2.2 (by omega)⟩
    · rw [dif_neg z]
      exact ⟨Nat.le_refl a, fun _ => rfl, fun h => h⟩
theorem dg_v (c : Nat → Int32) (m : Nat) : ∀ d k a v, k + d = 4 → v < 10 ^ k → (dg c m d a v).2 < 10000 := by
  intro d
  induction d with
  | zero =>
    intro k a v hk hv
    obtain rfl : k = 4 := by omega
    rw [dg]
    exact hv
  | succ d ih =>
    intro k a v hk hv
    rw [dg]
    by_cases z : a < m ∧ nI 48 ≤ c a ∧ c a ≤ nI 57
    · rw [dif_pos z]
      obtain ⟨_, y1, y2⟩ := isD_v (x := c a) z.2
      have p := Nat.pow_succ 10 k
      exact ih (k + 1) (a + 1) _ (by omega) (by omega)
    · rw [dif_neg z]
      have l : (10 : Nat) ^ k ≤ 10 ^ 4 := Nat.pow_le_pow_right (by decide) (by omega)
      have l2 : (10 : Nat) ^ 4 = 10000 := by decide
      show v < 10000
      omega
/-- a number at a place, from lo on, below hx; its blank ahead -/
noncomputable def pD (c : Nat → Int32) (m a lo hx : Nat) : Sum Nat (Nat × Nat) := if (dg c m 4 a 0).1 = a then .inl a else if (dg c m 4 a 0).2 < lo ∨ hx ≤ (dg c m 4 a 0).2 then .inl a else .inr (dg c m 4 a 0)
noncomputable def pN (c : Nat → Int32) (m a lo hx : Nat) : Sum Nat (Nat × Nat) := if a < m ∧ c a = nI 32 then pD c m (a + 1) lo hx else .inl a
theorem pD_r {c : Nat → Int32} {m a lo hx e v : Nat} (h : pD c m a lo hx = .inr (e, v)) : a + 1 ≤ e ∧ (a ≤ m → e ≤ m) ∧ lo ≤ v ∧ v < hx ∧ v < 10000 := by
  have b := dg_b c m 4 a 0
  have bv := dg_v c m 4 0 a 0 (by decide) (by decide)
  unfold pD at h
  by_cases z : (dg c m 4 a 0).1 = a
  · rw [if_pos z] at h; cases h
  · rw [if_neg z] at h
    by_cases y : (dg c m 4 a 0).2 < lo ∨ hx ≤ (dg c m 4 a 0).2
    · rw [if_pos y] at h; cases h
    · rw [if_neg y] at h
      have h' := Sum.inr.inj h
      rw [h'] at b bv z y
      have b1 := b.1
      have b3 := b.2.2
      exact ⟨by omega, b3, by omega, by omega, bv⟩
theorem pN_r {c : Nat → Int32} {m a lo hx e v : Nat} (h : pN c m a lo hx = .inr (e, v)) : a + 2 ≤ e ∧ e ≤ m ∧ lo ≤ v ∧ v < hx ∧ v < 10000 := by
  unfold pN at h
  by_cases z : a < m ∧ c a = nI 32
  · rw [if_pos z] at h
    obtain ⟨h1, h2, h3, h4, h5⟩ := pD_r h
    have l := z.1
    exact ⟨by omega, h2 (by omega), h3, h4, h5⟩
  · rw [if_neg z] at h; cases h
/-! an item -/
def cnt : Nat → Nat
  | 0 => 4
  | 3 => 3
  | 4 => 2
  | _ => 1
def lo (w i : Nat) : Nat := if w = 0 ∧ i = 2 then 1 else 0
def hx (w i n s : Nat) : Nat := if w = 0 then (if i = 0 then 7 else if i = 1 then 10000 else if i = 2 then 13 else 10) else if i = 0 then n else if w = 3 then (if i = 1 then s else 8) else 10000
def xU (x : Nat → Nat) (i v : Nat) : Nat → Nat := fun j => if j = i then v else x j
noncomputable def nums (c : Nat → Int32) (m w n : Nat) (S : Nat → Nat) : Nat → Nat → Nat → (Nat → Nat) → Sum Nat (Nat × (Nat → Nat))
  | 0, _, a, x => .inr (a, x)
  | d + 1, i, a, x => match (if i = 0 then pD c m a (lo w i) (hx w i n (S (x 0))) else pN c m a (lo w i) (hx w i n (S (x 0)))) with
    | .inl p => .inl p
    | .inr (e, v) => nums c m w n S d (i + 1) e (xU x i v)
noncomputable def pI (c : Nat → Int32) (m n : Nat) (S : Nat → Nat) (a : Nat) : Sum Nat (Nat × Nat × (Nat → Nat)) :=
  if fwA c m a = 5 then .inl a
  else if fwA c m a = 0 ∧ 4 ≤ mW c m a 0 ∧ n = 6 then .inl a
  else if mW c m a (fwA c m a) < wl (fwA c m a) then .inl (a + mW c m a (fwA c m a))
  else match nums c m (fwA c m a) n S (cnt (fwA c m a)) 0 (a + wl (fwA c m a)) (fun _ => 0) with
    | .inl p => .inl p
    | .inr (e, x) => .inr (e, fwA c m a, x)
