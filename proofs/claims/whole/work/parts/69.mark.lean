/-! THE REFERENCE MARKS A PIECE -/
def lab (r : Nat) : Int32 := if r = 99 then -1 else nI r
theorem lab_99 : lab 99 = -1 := rfl
theorem lab_n {r : Nat} (h : r ≠ 99) : lab r = nI r := if_neg h
theorem lab_m {r : Nat} (h : r < 1000) : (lab r = -1) = (r = 99) := by
  unfold lab
  by_cases c : r = 99
  · rw [if_pos c]
    exact propext ⟨fun _ => c, fun _ => rfl⟩
  · rw [if_neg c, ev_m1a (by omega)]
    exact propext ⟨fun z => z.elim, fun z => c z⟩
def f1 (R : Nat → Nat) (x p : Nat) : Nat → Nat := fun y => if y = x then p else R y
def cn (R : Nat → Nat) (q : Nat) : Nat → Nat
  | 0 => 0
  | k + 1 => cn R q k + (if R k = q then 1 else 0)
theorem cn_eq {R R' : Nat → Nat} {q : Nat} : ∀ n, (∀ x, x < n → (R x = q ↔ R' x = q)) → cn R q n = cn R' q n := by
  intro n
  induction n with
  | zero => intro _; rfl
  | succ n ih =>
    intro h
    rw [cn, cn, ih (fun x hx => h x (by omega))]
    congr 1
    by_cases c : R n = q
    · rw [if_pos c, if_pos ((h n (by omega)).mp c)]
    · rw [if_neg c, if_neg (fun z => c ((h n (by omega)).mpr z))]
theorem cn_in {R : Nat → Nat} {x p : Nat} : ∀ n, x < n → R x ≠ p → cn (f1 R x p) p n = cn R p n + 1 := by
  intro n
  induction n with
  | zero => intro h; omega
  | succ n ih =>
    intro h hp
    by_cases c : x = n
    · subst c
      rw [cn, cn, if_pos (show f1 R x p x = p from if_pos rfl), if_neg hp, cn_eq (R := f1 R x p) (R' := R) x (fun y hy => by rw [show f1 R x p y = R y from if_neg (by omega)])]
    · rw [cn, cn, ih (by omega) hp, show f1 R x p n = R n from if_neg (fun z => c z.symm)]
      omega
theorem cn_out {R : Nat → Nat} {x p q : Nat} (hq : q ≠ p) : ∀ n, x < n → R x = q → cn R q n = cn (f1 R x p) q n + 1 := by
  intro n
  induction n with
  | zero => intro h; omega
  | succ n ih =>
    intro h hp
    by_cases c : x = n
    · subst c
      rw [cn, cn, if_neg (show ¬ f1 R x p x = q by rw [show f1 R x p x = p from if_pos rfl]; exact fun z => hq z.symm), if_pos hp, cn_eq (R := f1 R x p) (R' := R) x (fun y hy => by rw [show f1 R x p y = R y from if_neg (by omega)])]
    · rw [cn, cn, ih (by omega) hp, show f1 R x p n = R n from if_neg (fun z => c z.symm)]
      omega
theorem mark_M {b k n a t p : Nat} (hb : b < 6) (hk : k ≤ 6) (hn : n ≤ 12) (ha : a ≤ 9) (ht : t < 2147483648) (hp : p < 12) (v2 : Int32) (K : Int32 → fm_I → fm_L → Option (fm_I × fm_L)) : ∀ (m fuel : Nat) (R : Nat → Nat) (y c : Nat) (μ : fm_I) (ν : fm_L), cn R 99 n ≤ m → m < fuel → y < n → c + m < 1000 → (∀ x, x < n → R x < 100) → (∀ x, x < n → μ 76 x = lab (R x)) → μ 58 28 = nI p → μ 60 b = nI k → μ 61 b = nI t → μ 62 b = nI n → μ 64 b = nI a → ∃ e R' μ', m_X6_cuts_60 (nI b) v2 K fuel (nI c) (nI y) μ ν = K (nI (c + e)) μ' ν ∧ (∀ q, q ≠ 76 → μ' q = μ q) ∧ (∀ x, x < n → μ' 76 x = lab (R' x)) ∧ (∀ x, x < n → R' x < 100) ∧ (∀ i, i < e → R' (it (fo k n a (t % 2)) i y) = p) ∧ R' (it (fo k n a (t % 2)) e y) ≠ 99 ∧ (∀ x, x < n → R' x ≠ R x → R x = 99 ∧ R' x = p ∧ ∃ i, i < e ∧ it (fo k n a (t % 2)) i y = x) ∧ cn R' p n = cn R p n + e := by
  intro m
  induction m with
  | zero =>
    intro fuel R y c μ ν h1 hf hy hc hR h76 h58 e0 e1 e2 e4
    obtain ⟨f, rfl⟩ : ∃ j, fuel = j + 1 := ⟨fuel - 1, by omega⟩
    have ry : R y ≠ 99 := fun z => by
      have := cn_out (R := R) (x := y) (p := 0) (q := 99) (by decide) n hy z
      omega
    refine ⟨0, R, μ, ?_, fun _ _ => rfl, h76, hR, fun i hi => absurd hi (Nat.not_lt_zero i), ry, fun x hx z => absurd rfl z, rfl⟩
    rw [m_X6_cuts_60, ev_in (by rw [ev_n76]; omega) (by omega), ev_g, ev_cl (by omega), h76 y hy, if_neg (by rw [lab_m (by have := hR y hy; omega)]; exact ry)]
    rfl
  | succ m ih =>
    intro fuel R y c μ ν h1 hf hy hc hR h76 h58 e0 e1 e2 e4
    obtain ⟨f, rfl⟩ : ∃ j, fuel = j + 1 := ⟨fuel - 1, by omega⟩
    by_cases ry : R y = 99
    · have h := cn_out (R := R) (x := y) (p := p) (q := 99) (by omega) n hy ry
      have F := fol_M (x := y) hb hk hn hy ha ht (μ := fm_u μ 76 y (nI p)) ν (by rw [ev_uq (by decide)]; exact e0) (by rw [ev_uq (by decide)]; exact e1) (by rw [ev_uq (by decide)]; exact e2) (by rw [ev_uq (by decide)]; exact e4)
      obtain ⟨e, R', μ', g1, g2, g3, g4, g5, g6, g7, g8⟩ := ih f (f1 R y p) (fo k n a (t % 2) y) (c + 1) (fm_u μ 76 y (nI p)) ν (by omega) (by omega) (fo_lt hy) (by omega) (fun x hx => by
        unfold f1
        split
        · omega
        · exact hR x hx) (fun x hx => by
        rw [ev_u]
        unfold f1
        by_cases z : x = y
        · rw [if_pos ⟨rfl, z⟩, if_pos z, lab_n (by omega)]
        · rw [if_neg (fun w => z w.2), if_neg z, h76 x hx]) (by rw [ev_uq (by decide)]; exact h58) (by rw [ev_uq (by decide)]; exact e0) (by rw [ev_uq (by decide)]; exact e1) (by rw [ev_uq (by decide)]; exact e2) (by rw [ev_uq (by decide)]; exact e4)
      have yp : R' y = p := by
        by_cases z : R' y = f1 R y p y
        · rw [z]; exact if_pos rfl
        · exact (g7 y hy z).2.1
      refine ⟨e + 1, R', μ', ?_, fun q hq => by rw [g2 q hq, ev_uq hq], g3, g4, fun i hi => ?_, g6, fun x hx z => ?_, ?_⟩
      · rw [m_X6_cuts_60, ev_in (by rw [ev_n76]; omega) (by omega), ev_g, ev_cl (by omega), h76 y hy, ry, if_pos lab_99, h58, F, ev_b, nI_add, g1, show c + (e + 1) = c + 1 + e by omega]
      · cases i with
        | zero => exact yp
        | succ i => exact g5 i (by omega)
      · by_cases w : x = y
        · subst w
          exact ⟨ry, yp, 0, by omega, rfl⟩
        · have q : f1 R y p x = R x := if_neg w
          obtain ⟨s1, s2, i, s3, s4⟩ := g7 x hx (by rw [q]; exact z)
          exact ⟨by rw [← q]; exact s1, s2, i + 1, by omega, s4⟩
      · rw [g8, cn_in n hy (by omega)]
        omega
    · refine ⟨0, R, μ, ?_, fun _ _ => rfl, h76, hR, fun i hi => absurd hi (Nat.not_lt_zero i), ry, fun x hx z => absurd rfl z, rfl⟩
      rw [m_X6_cuts_60, ev_in (by rw [ev_n76]; omega) (by omega), ev_g, ev_cl (by omega), h76 y hy, if_neg (by rw [lab_m (by have := hR y hy; omega)]; exact ry)]
      rfl
