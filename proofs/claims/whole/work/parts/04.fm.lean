/-! FLAT MEMORY: all objects of the class and of the reference are 81 places; ints by place and index, longs likewise -/
abbrev fm_I : Type := Nat → Nat → Int32
abbrev fm_L : Type := Nat → Nat → Int64
/-- the tables of a run: class numbers and slots; array classes; addresses of the places; of the static rows; of the texts and of their bytes -/
abbrev fm_G : Type := va_G × (Nat → ClassId) × (Nat → Nat) × (Nat → Nat) × (Nat → Nat) × (Nat → Nat)
/-- what is at a place: 0 Band, 1 Cutting, 2 Shelf, 3 TableReader, 4 Trace, 5 the class, 6 the reference; 7 ints, 8 longs, 9 Bands, 10 Shelves -/
def fm_k (p : Nat) : Nat := if p < 1 then 5 else if p < 2 then 10 else if p < 4 then 9 else if p < 5 then 7 else if p < 6 then 1 else if p < 7 then 3 else if p < 8 then 4 else if p < 18 then 7 else if p < 26 then 2 else if p < 34 then 8 else if p < 46 then 0 else if p < 58 then 7 else if p < 59 then 6 else if p < 70 then 7 else if p < 72 then 8 else if p < 81 then 7 else 99
/-- an array's length -/
def fm_n (p : Nat) : Nat := match p with
  | 1 => 8
  | 2 => 6
  | 3 => 6
  | 4 => 8
  | 8 => 20
  | 12 => 144
  | 14 => 160
  | 15 => 6
  | 16 => 23
  | 17 => 92
  | 59 => 8
  | 60 => 6
  | 61 => 6
  | 62 => 6
  | 63 => 6
  | 64 => 6
  | 65 => 72
  | 66 => 8
  | 67 => 8
  | 68 => 8
  | 69 => 8
  | 70 => 1280
  | 71 => 160
  | 72 => 33
  | 73 => 4
  | 74 => 110
  | 75 => 110
  | 79 => 4
  | 80 => 20
  | q => if q < 26 then 12 else if q < 34 then 160 else 12
/-- the class of a place's object -/
def fm_cn (p : Nat) : String := match fm_k p with
  | 0 => RX0
  | 1 => RX1
  | 2 => RX2
  | 3 => RX3
  | 4 => RX4
  | 5 => RX5
  | _ => RX6
def fm_rr (b n : Nat) (ad : Nat → Nat) : Nat → Option Nat := fun j => if j < n then some (ad (b + j)) else none
/-- what a place holds, by its ints and longs -/
def fm_c (G : fm_G) (p : Nat) (r : Nat → Int32) (w : Nat → Int64) : va_E := match fm_k p with
  | 0 => .inr (0, [.int (r 0), .ref (G.2.2.1 (p + 12)), .int (r 2), .int (r 3), .int (r 4), .int (r 5), .int (r 6)])
  | 1 => .inr (1, [.int (r 0), .int (r 1), .int (r 2), .int (r 3), .ref (G.2.2.1 9), .ref (G.2.2.1 10), .ref (G.2.2.1 11), .ref (G.2.2.1 12), .ref (G.2.2.1 13)])
  | 2 => .inr (2, [.int (r 0), .int (r 1), .ref (G.2.2.1 (p + 8))])
  | 3 => .inr (3, [.int (r 0), .int (r 1), .int (r 2), .int (r 3), .int (r 4), .ref (G.2.2.1 14), .ref (G.2.2.1 15), .ref (G.2.2.1 16), .ref (G.2.2.1 17)])
  | 4 => .inr (4, [.ref (G.2.2.1 8), .int (r 1)])
  | 5 => .inr (5, [.ref (G.2.2.1 1), .ref (G.2.2.1 2), .ref (G.2.2.1 3), .ref (G.2.2.1 4), .ref (G.2.2.1 5), .ref (G.2.2.1 6), .ref (G.2.2.1 7), .int (r 7), .int (r 8), .int (r 9), .int (r 10), .int (r 11), .int (r 12), .int (r 13)])
  | 6 => .inr (6, [.int (r 0), .int (r 1), .int (r 2), .int (r 3), .ref (G.2.2.1 59), .ref (G.2.2.1 60), .ref (G.2.2.1 61), .ref (G.2.2.1 62), .ref (G.2.2.1 63), .ref (G.2.2.1 64), .ref (G.2.2.1 65), .ref (G.2.2.1 66), .ref (G.2.2.1 67), .ref (G.2.2.1 68), .ref (G.2.2.1 69), .ref (G.2.2.1 70), .ref (G.2.2.1 71), .ref (G.2.2.1 72), .ref (G.2.2.1 73), .int (r 19), .int (r 20), .int (r 21), .int (r 22), .int (r 23), .ref (G.2.2.1 74), .ref (G.2.2.1 75), .ref (G.2.2.1 76), .ref (G.2.2.1 77), .int (r 28), .ref (G.2.2.1 78), .ref (G.2.2.1 79), .ref (G.2.2.1 80), .int (r 32), .int (r 33)])
  | 7 => .inl (G.2.1 0, fm_n p, .inl r)
  | 8 => .inl (G.2.1 1, fm_n p, .inr (.inl w))
  | 9 => .inl (G.2.1 2, 6, .inr (.inr (.inr (.inr (fm_rr (if p = 2 then 34 else 40) 6 G.2.2.1)))))
  | _ => .inl (G.2.1 3, 8, .inr (.inr (.inr (.inr (fm_rr 18 8 G.2.2.1)))))
/-- the world -/
def fm_ws (G : fm_G) (μ : fm_I) (ν : fm_L) : va_W := (List.range 81).map fun p => (G.2.2.1 p, fm_c G p (μ p) (ν p))
def fm_ty (G : fm_G) : List (ClassId × FieldType) := [(G.2.1 0, .int), (G.2.1 1, .long), (G.2.1 2, .object RX0), (G.2.1 3, .object RX2)]
def fm_A (G : fm_G) : Nat → Prop := fun q => ∃ p, p < 81 ∧ q = G.2.2.1 p
def fm_inj (G : fm_G) : Prop := ∀ p q, p < 81 → q < 81 → G.2.2.1 p = G.2.2.1 q → p = q
/-- a write -/
def fm_u (μ : fm_I) (p k : Nat) (v : Int32) : fm_I := fun q => if q = p then upd (μ p) k v else μ q
def fm_ul (ν : fm_L) (p k : Nat) (v : Int64) : fm_L := fun q => if q = p then vp_updL (ν p) k v else ν q
/-- a whole row -/
def fm_ur (μ : fm_I) (p : Nat) (f : Nat → Int32) : fm_I := fun q => if q = p then f else μ q
def fm_url (ν : fm_L) (p : Nat) (f : Nat → Int64) : fm_L := fun q => if q = p then f else ν q
theorem fm_ws_at {G : fm_G} {μ : fm_I} {ν : fm_L} {p : Nat} (hp : p < 81) : (fm_ws G μ ν)[p]? = some (G.2.2.1 p, fm_c G p (μ p) (ν p)) := by
  simp [fm_ws, hp]
theorem fm_ws_set {G : fm_G} {μ μ' : fm_I} {ν ν' : fm_L} {p : Nat} (hp : p < 81) {e : va_E} (he : fm_c G p (μ' p) (ν' p) = e) (ho : ∀ q, q ≠ p → μ' q = μ q ∧ ν' q = ν q) : (fm_ws G μ ν).set p (G.2.2.1 p, e) = fm_ws G μ' ν' := by
  apply List.ext_getElem?
  intro i
  by_cases hi : i < 81
  · rw [fm_ws_at hi]
    by_cases h : i = p
    · subst h
      rw [List.getElem?_set_self (by simp [fm_ws]; exact hi), he]
    · rw [List.getElem?_set_ne (Ne.symm h), fm_ws_at hi, (ho i h).1, (ho i h).2]
  · rw [List.getElem?_eq_none (by simp [fm_ws]; omega), List.getElem?_eq_none (by simp [fm_ws]; omega)]
theorem fm_D {G : fm_G} (h : fm_inj G) (μ : fm_I) (ν : fm_L) : va_D (fm_A G) (fm_ws G μ ν) := by
  have key : ∀ (k : Nat) (q : Nat × va_E), (fm_ws G μ ν)[k]? = some q → k < 81 ∧ q.1 = G.2.2.1 k := by
    intro k q hk
    have hl : k < 81 := by
      have := (List.getElem?_eq_some_iff.mp hk).1
      simpa [fm_ws] using this
    rw [fm_ws_at hl] at hk
    cases hk
    exact ⟨hl, rfl⟩
  refine ⟨fun i j p q hi hj e => ?_, fun k q hk => ⟨k, (key k q hk).1, (key k q hk).2⟩⟩
  obtain ⟨h1, e1⟩ := key i p hi
  obtain ⟨h2, e2⟩ := key j q hj
  exact h i j h1 h2 (by rw [← e1, ← e2, e])
theorem fm_k_lt {p k : Nat} (h : fm_k p = k) (hk : k < 99) : p < 81 := by
  rcases Nat.lt_or_ge p 81 with hl | hl
  · exact hl
  · have e : fm_k p = 99 := by
      unfold fm_k
      repeat rw [if_neg (by omega)]
    omega
/-! static rows: 0 KIND_ABOVE, 1 GOES, 2 TURNS, 3 HOOKS -/
def fm_sl (j : Nat) : List Int32 := match j with
  | 0 => [-1, 0, 0, 1, 0, 2, 4]
  | 1 => [10, 20, 10, 20, 51, 10, 70]
  | 2 => [11, 11, 30, 40, 11, 30, 71]
  | _ => [12, 12, 12, 12, 50, 60, 50]
def fm_sc (j : Nat) : String × String := match j with
  | 0 => (RX5, "KIND_ABOVE")
  | 1 => (RX0, "GOES_BODIES")
  | 2 => (RX0, "TURNS_BODIES")
  | _ => (RX0, "HOOKS_BODIES")
def fm_nw : List Cond := [.methodLinkNest RX0 54 yX5_isOdd RX5, .methodLinkNest RX1 78 yX5_turnsOfSize RX5, .methodLinkNest RX1 85 yX5_isOdd RX5, .methodLinkNest RX0 81 yX5_isKind RX5]
/-- the texts: 0 band, 1 right, 2 left, 3 paint, 4 twist -/
def fm_tx (i : Nat) : String := match i with
  | 0 => "band"
  | 1 => "\x72ight"
  | 2 => "left"
  | 3 => "paint"
  | _ => "twist"
def fm_tl : List Nat := [4, 5, 4, 5, 5]
def fm_tb5 : List (List Int32) := [[98, 97, 110, 100], [114, 105, 103, 104, 116], [108, 101, 102, 116], [112, 97, 105, 110, 116], [116, 119, 105, 115, 116]]
