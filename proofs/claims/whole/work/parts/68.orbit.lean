/-! ORBITS: a strip comes back after at most n steps -/
def it (g : Nat → Nat) : Nat → Nat → Nat
  | 0, x => x
  | j + 1, x => it g j (g x)
def pr (g : Nat → Nat) (x : Nat) : Nat → Nat → Bool
  | 0, _ => false
  | d + 1, y => Nat.beq y x || pr g x d (g y)
def prA (k n a o : Nat) : Bool := (List.range n).all (fun x => pr (fo k n a o) x n (fo k n a o x))
theorem pr_of (g : Nat → Nat) (x : Nat) : ∀ (d y : Nat), pr g x d y = true → ∃ j, j < d ∧ it g j y = x := by
  intro d
  induction d with
  | zero => intro y h; rw [pr] at h; cases h
  | succ d ih =>
    intro y h
    rw [pr, Bool.or_eq_true] at h
    rcases h with h | h
    · exact ⟨0, by omega, Nat.eq_of_beq_eq_true h⟩
    · obtain ⟨j, hj, e⟩ := ih (g y) h
      exact ⟨j + 1, by omega, e⟩
theorem prA_all : ((List.range 7).all (fun k => (List.range 13).all (fun n => (List.range 10).all (fun a => prA k n a 0 && prA k n a 1)))) = true := by decide +kernel
theorem per {k n a o x : Nat} (hk : k ≤ 6) (hn : n ≤ 12) (ha : a ≤ 9) (ho : o < 2) (hx : x < n) : ∃ d, 1 ≤ d ∧ d ≤ n ∧ it (fo k n a o) d x = x := by
  have h := prA_all
  rw [List.all_eq_true] at h
  have h1 := h k (List.mem_range.mpr (by omega))
  rw [List.all_eq_true] at h1
  have h2 := h1 n (List.mem_range.mpr (by omega))
  rw [List.all_eq_true] at h2
  have h3 := h2 a (List.mem_range.mpr (by omega))
  rw [Bool.and_eq_true] at h3
  have h4 : prA k n a o = true := by
    rcases (by omega : o = 0 ∨ o = 1) with rfl | rfl
    · exact h3.1
    · exact h3.2
  unfold prA at h4
  rw [List.all_eq_true] at h4
  obtain ⟨j, hj, e⟩ := pr_of _ _ _ _ (h4 x (List.mem_range.mpr hx))
  exact ⟨j + 1, by omega, by omega, e⟩
theorem it_add (g : Nat → Nat) : ∀ (i j x : Nat), it g (i + j) x = it g i (it g j x) := by
  intro i j
  induction j with
  | zero => intro x; rfl
  | succ j ih => intro x; rw [show i + (j + 1) = (i + j) + 1 by omega, it, ih, it]
theorem it_lt {g : Nat → Nat} {n : Nat} (hg : ∀ x, x < n → g x < n) : ∀ (j x : Nat), x < n → it g j x < n := by
  intro j
  induction j with
  | zero => intro x h; exact h
  | succ j ih => intro x h; exact ih _ (hg x h)
theorem it_mul (g : Nat → Nat) {d x : Nat} (h : it g d x = x) : ∀ q, it g (q * d) x = x := by
  intro q
  induction q with
  | zero => rw [Nat.zero_mul]; rfl
  | succ q ih => rw [Nat.succ_mul, it_add, h, ih]
theorem it_mod (g : Nat → Nat) {d x : Nat} (hd : 1 ≤ d) (h : it g d x = x) (j : Nat) : it g j x = it g (j % d) x := by
  have e : j = j % d + (j / d) * d := by
    have := Nat.mod_add_div j d
    rw [Nat.mul_comm] at this
    exact this.symm
  have e2 : it g (j % d + (j / d) * d) x = it g (j % d) x := by rw [it_add, it_mul g h]
  rw [← e] at e2
  exact e2
/-- the strips that a start reaches -/
def orb (g : Nat → Nat) (n v x : Nat) : Prop := ∃ j, j < n ∧ it g j v = x
theorem orb_g {g : Nat → Nat} {n v x : Nat} (hp : ∃ d, 1 ≤ d ∧ d ≤ n ∧ it g d v = v) (h : orb g n v x) : orb g n v (g x) := by
  obtain ⟨d, d1, d2, e⟩ := hp
  obtain ⟨j, hj, rfl⟩ := h
  have := Nat.mod_lt (1 + j) (by omega : d > 0)
  exact ⟨(1 + j) % d, by omega, by rw [← it_mod g d1 e, it_add]; rfl⟩
theorem orb_b {g : Nat → Nat} {n v x : Nat} (hp : ∃ d, 1 ≤ d ∧ d ≤ n ∧ it g d v = v) (hx : ∃ d, 1 ≤ d ∧ d ≤ n ∧ it g d x = x) (h : orb g n v (g x)) : orb g n v x := by
  obtain ⟨d, d1, d2, e⟩ := hp
  obtain ⟨c, c1, c2, e2⟩ := hx
  obtain ⟨j, hj, h⟩ := h
  have := Nat.mod_lt (c - 1 + j) (by omega : d > 0)
  refine ⟨(c - 1 + j) % d, by omega, ?_⟩
  rw [← it_mod g d1 e, it_add, h]
  rw [show c = (c - 1) + 1 by omega] at e2
  exact e2
theorem orb_s (g : Nat → Nat) {n v : Nat} (h : 0 < n) : orb g n v v := ⟨0, h, rfl⟩
