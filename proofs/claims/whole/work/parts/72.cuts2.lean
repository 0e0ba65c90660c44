theorem lay_J {g : Nat → Nat} {n : Nat} (hper : ∀ x, x < n → ∃ d, 1 ≤ d ∧ d ≤ n ∧ it g d x = x) : ∀ (d v : Nat) (R : Nat → Nat) (c : Nat), v + d = n → Jv g n c R → (∀ x, x < v → R x ≠ 99) → c ≤ v → v ≤ 12 → n ≤ 12 → Jv g n (lay g n d v R c).2 (lay g n d v R c).1 ∧ (∀ x, x < n → (lay g n d v R c).1 x ≠ 99) ∧ c ≤ (lay g n d v R c).2 ∧ (lay g n d v R c).2 ≤ c + d := by
  intro d
  induction d with
  | zero =>
    intro v R c hv J h _ _ _
    exact ⟨J, fun x hx => h x (by omega), Nat.le_refl _, Nat.le_refl _⟩
  | succ d ih =>
    intro v R c hv J h hc hv12 hn12
    by_cases rv : R v = 99
    · have L : lay g n (d + 1) v R c = lay g n d (v + 1) (nxt g n v c R) (c + 1) := by rw [lay, if_pos rv]
      rw [L]
      obtain ⟨a1, a2, a3, a4⟩ := ih (v + 1) (nxt g n v c R) (c + 1) (by omega) (Jv_n J hper (by omega)) (fun x hx => by
        unfold nxt
        by_cases o : orbB g n v x = true
        · rw [if_pos o]; omega
        · rw [if_neg o]
          by_cases z : x = v
          · subst z
            exact absurd ((orbB_iff g n x x).mpr (orb_s g (by omega))) o
          · exact h x (by omega)) (by omega) (by omega) hn12
      exact ⟨a1, a2, by omega, by omega⟩
    · have L : lay g n (d + 1) v R c = lay g n d (v + 1) R c := by rw [lay, if_neg rv]
      rw [L]
      obtain ⟨a1, a2, a3, a4⟩ := ih (v + 1) R c (by omega) J (fun x hx => by
        by_cases z : x = v
        · rw [z]; exact rv
        · exact h x (by omega)) (by omega) (by omega) hn12
      exact ⟨a1, a2, a3, by omega⟩
/-- the pieces of a band: of which piece a strip is, and how many there are -/
def pL (k n a o : Nat) : (Nat → Nat) × Nat := lay (fo k n a o) n n 0 (fun _ => 99) 0
def pR (k n a o : Nat) : Nat → Nat := (pL k n a o).1
def pC (k n a o : Nat) : Nat := (pL k n a o).2
theorem pR_lt {k n a o : Nat} (hk : k ≤ 6) (hn : n ≤ 12) (ha : a ≤ 9) (ho : o < 2) : (∀ x, x < n → pR k n a o x < pC k n a o) ∧ pC k n a o ≤ n := by
  obtain ⟨a1, a2, a3, a4⟩ := lay_J (g := fo k n a o) (n := n) (fun x hx => per hk hn ha ho hx) n 0 (fun _ => 99) 0 (by omega) ⟨fun _ _ => rfl, fun _ _ => Or.inl rfl⟩ (fun x hx => absurd hx (Nat.not_lt_zero x)) (Nat.le_refl 0) (by omega) hn
  refine ⟨fun x hx => ?_, by unfold pC pL; omega⟩
  rcases a1.2 x hx with z | z
  · exact absurd z (a2 x hx)
  · exact z
theorem cuts_M {G : Nat → Nat} {b : Nat} {μ : fm_I} (ν : fm_L) (hb : b < 6) (hB : pa_B G) (h : pa_M G b μ) : ∃ μ', m_X6_cuts (nI b) μ ν = some (μ', ν) ∧ (∀ q, q ≠ 76 → q ≠ 77 → q ≠ 58 → μ' q = μ q) ∧ (∀ j, j ≠ 28 → μ' 58 j = μ 58 j) ∧ (∀ x, x < G 2 → μ' 76 x = nI (pR (G 0) (G 2) (G 4) (G 1 % 2) x)) ∧ μ' 58 28 = nI (pC (G 0) (G 2) (G 4) (G 1 % 2)) ∧ ∀ q, q < pC (G 0) (G 2) (G 4) (G 1 % 2) → μ' 77 q = nI (cn (pR (G 0) (G 2) (G 4) (G 1 % 2)) q (G 2)) := by
  obtain ⟨c0, c1, c2, c3, c4, c5, c6⟩ := id hB
  obtain ⟨e0, e1, e2, e3, e4, e5⟩ := h
  obtain ⟨μ1, p1, p2, _, p4⟩ := cuts_7 (b := b) (n := G 2) hb c3 (fun μ7 ν7 => m_X6_cuts_32 (nI b) (fun μ32 ν32 => some ((μ32, ν32))) 5000 ((nI 0)) μ7 ν7) (G 2) 0 5000 (fm_u μ 58 28 (nI 0)) ν (by omega) (by omega) (by rw [ev_uq (by decide)]; exact e2)
  obtain ⟨μ2, q1, q2, q3, q4, q5, q6⟩ := cuts_32 (b := b) (k := G 0) (n := G 2) (a := G 4) (t := G 1) hb c0 c3 c5 (by omega) (fun μ32 ν32 => some ((μ32, ν32))) (G 2) 0 5000 (fun _ => 99) 0 μ1 ν (by omega) (by omega) (Nat.le_refl 0) ⟨fun _ _ => rfl, fun _ _ => Or.inl rfl⟩ (fun x hx => p4 x (Nat.zero_le x) hx) (fun q hq => absurd hq (Nat.not_lt_zero q)) (by rw [p2 58 (by decide), ev_us]) (by rw [p2 60 (by decide), ev_uq (by decide)]; exact e0) (by rw [p2 61 (by decide), ev_uq (by decide)]; exact e1) (by rw [p2 62 (by decide), ev_uq (by decide)]; exact e2) (by rw [p2 64 (by decide), ev_uq (by decide)]; exact e4)
  obtain ⟨z1, z2⟩ := pR_lt c0 c3 c5 (by omega : G 1 % 2 < 2)
  refine ⟨μ2, ?_, fun q a1 a2 a3 => by rw [q2 q a1 a2 a3, p2 q a1, ev_uq a3], fun j hj => by rw [q3 j hj, p2 58 (by decide), ev_uj hj], fun x hx => ?_, q5, q6⟩
  · rw [m_X6_cuts, p1, q1]
  · rw [q4 x hx]
    exact lab_n (by have := z1 x hx; unfold pR pL at this; omega)
