/-! THE PIECES, AS BOTH NUMBER THEM -/
def orbB (g : Nat → Nat) (n v x : Nat) : Bool := (List.range n).any (fun j => Nat.beq (it g j v) x)
theorem orbB_iff (g : Nat → Nat) (n v x : Nat) : orbB g n v x = true ↔ orb g n v x := by
  unfold orbB orb
  rw [List.any_eq_true]
  constructor
  · rintro ⟨j, hj, e⟩
    exact ⟨j, List.mem_range.mp hj, Nat.eq_of_beq_eq_true e⟩
  · rintro ⟨j, hj, e⟩
    exact ⟨j, List.mem_range.mpr hj, by rw [e]; exact Nat.beq_refl x⟩
def nxt (g : Nat → Nat) (n v c : Nat) (R : Nat → Nat) : Nat → Nat := fun x => if orbB g n v x = true then c else R x
def lay (g : Nat → Nat) (n : Nat) : Nat → Nat → (Nat → Nat) → Nat → (Nat → Nat) × Nat
  | 0, _, R, c => (R, c)
  | d + 1, v, R, c => if R v = 99 then lay g n d (v + 1) (nxt g n v c R) (c + 1) else lay g n d (v + 1) R c
/-- what holds on the way: labels follow g, none reaches c -/
def Jv (g : Nat → Nat) (n c : Nat) (R : Nat → Nat) : Prop := (∀ x, x < n → R (g x) = R x) ∧ ∀ x, x < n → R x = 99 ∨ R x < c
theorem Jv_it {g : Nat → Nat} {n c : Nat} {R : Nat → Nat} (h : Jv g n c R) (hg : ∀ x, x < n → g x < n) : ∀ (j x : Nat), x < n → R (it g j x) = R x := by
  intro j
  induction j with
  | zero => intro x _; rfl
  | succ j ih => intro x hx; rw [it, ih _ (hg x hx), h.1 x hx]
theorem Jv_n {g : Nat → Nat} {n c v : Nat} {R : Nat → Nat} (h : Jv g n c R) (hper : ∀ x, x < n → ∃ d, 1 ≤ d ∧ d ≤ n ∧ it g d x = x) (hv : v < n) : Jv g n (c + 1) (nxt g n v c R) := by
  refine ⟨fun x hx => ?_, fun x hx => ?_⟩
  · unfold nxt
    by_cases o : orb g n v x
    · rw [if_pos ((orbB_iff g n v x).mpr o), if_pos ((orbB_iff g n v (g x)).mpr (orb_g (hper v hv) o))]
    · rw [if_neg (fun z => o ((orbB_iff g n v x).mp z)), if_neg (fun z => o (orb_b (hper v hv) (hper x hx) ((orbB_iff g n v (g x)).mp z))), h.1 x hx]
  · unfold nxt
    split
    · exact Or.inr (by omega)
    · rcases h.2 x hx with z | z
      · exact Or.inl z
      · exact Or.inr (by omega)
/-- the set that the reference marks is the orbit -/
theorem mark_fin {g : Nat → Nat} {n v p e : Nat} {R R' : Nat → Nat} (hg : ∀ x, x < n → g x < n) (hper : ∀ x, x < n → ∃ d, 1 ≤ d ∧ d ≤ n ∧ it g d x = x) (hv : v < n) (hp : p < 99) (J : Jv g n p R) (rv : R v = 99) (a1 : ∀ i, i < e → R' (it g i v) = p) (a2 : R' (it g e v) ≠ 99) (a3 : ∀ x, x < n → R' x ≠ R x → R x = 99 ∧ R' x = p ∧ ∃ i, i < e ∧ it g i v = x) : ∀ x, x < n → R' x = nxt g n v p R x := by
  have un : ∀ i, R (it g i v) = 99 := fun i => by rw [Jv_it J hg i v hv, rv]
  have e0 : 0 < e := by
    by_cases z : e = 0
    · subst z
      by_cases w : R' v = R v
      · exact absurd (w.trans rv) a2
      · obtain ⟨_, _, i, hi, _⟩ := a3 v hv w
        exact absurd hi (Nat.not_lt_zero i)
    · omega
  have ch : ∀ x, x < n → R' x ≠ R x → ∃ i, i < e ∧ it g i v = x := fun x hx z => (a3 x hx z).2.2
  have st : ∀ i, ∃ i', i' < e ∧ it g i v = it g i' v := by
    intro i
    induction i with
    | zero => exact ⟨0, e0, rfl⟩
    | succ i ih =>
      obtain ⟨i', h1, h2⟩ := ih
      have s : ∀ j, it g (j + 1) v = g (it g j v) := fun j => by rw [Nat.add_comm, it_add]; rfl
      rw [s, h2, ← s]
      by_cases z : i' + 1 < e
      · exact ⟨i' + 1, z, rfl⟩
      · have ee : i' + 1 = e := by omega
        rw [ee]
        obtain ⟨i2, h3, h4⟩ := ch (it g e v) (it_lt hg e v hv) (by rw [un e]; exact a2)
        exact ⟨i2, h3, h4.symm⟩
  intro x hx
  unfold nxt
  by_cases o : orb g n v x
  · rw [if_pos ((orbB_iff g n v x).mpr o)]
    obtain ⟨j, _, rfl⟩ := o
    obtain ⟨i', h1, h2⟩ := st j
    rw [h2]
    exact a1 i' h1
  · rw [if_neg (fun z => o ((orbB_iff g n v x).mp z))]
    by_cases z : R' x = R x
    · exact z
    · obtain ⟨i, h1, rfl⟩ := ch x hx z
      obtain ⟨d, d1, d2, ed⟩ := hper v hv
      have := Nat.mod_lt i (by omega : d > 0)
      exact absurd ⟨i % d, by omega, (it_mod g d1 ed i).symm⟩ o
