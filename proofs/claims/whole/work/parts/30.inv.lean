/-! THE RELATION of class and reference: what both hold, in one flat memory -/
def pa_B (F : Nat → Nat) : Prop := F 0 ≤ 6 ∧ F 1 ≤ 9999 ∧ 1 ≤ F 2 ∧ F 2 ≤ 12 ∧ F 3 ≤ 1 ∧ F 4 ≤ 9 ∧ ∀ i, i < 12 → F (10 + i) ≤ 7
/-- a band of the class at the place p -/
def pa_X (F : Nat → Nat) (p : Nat) (μ : fm_I) : Prop := μ p 2 = nI (F 0) ∧ μ p 3 = nI (F 1) ∧ μ p 4 = nI (F 2) ∧ μ p 5 = nI (F 3) ∧ μ p 6 = nI (F 4) ∧ ∀ i, i < 12 → μ (p + 12) i = nI (F (10 + i))
/-- the reference's band b -/
def pa_M (F : Nat → Nat) (b : Nat) (μ : fm_I) : Prop := μ 60 b = nI (F 0) ∧ μ 61 b = nI (F 1) ∧ μ 62 b = nI (F 2) ∧ μ 63 b = nI (F 3) ∧ μ 64 b = nI (F 4) ∧ ∀ i, i < 12 → μ 65 (12 * b + i) = nI (F (10 + i))
/-- the reference's band b in a row of all (74 was, 75 kept) -/
def pa_K (F : Nat → Nat) (q b : Nat) (μ : fm_I) : Prop := μ q b = nI (F 0) ∧ μ q (6 + b) = nI (F 1) ∧ μ q (12 + b) = nI (F 2) ∧ μ q (18 + b) = nI (F 3) ∧ μ q (24 + b) = nI (F 4) ∧ ∀ i, i < 12 → μ q (30 + (12 * b + i)) = nI (F (10 + i))
def pa_S (n s : Nat) (μ : fm_I) (ν : fm_L) : Prop :=
  (μ 66 s = nI 0 ∧ μ (18 + s) 0 = -1) ∨
  (∃ o m : Nat, o ≤ 3 ∧ m ≤ 160 ∧ μ 66 s = nI 1 ∧ μ 67 s = nI o ∧ μ 68 s = nI m ∧ μ (18 + s) 0 = nI (100 + o) ∧ μ (18 + s) 1 = nI m ∧ ∀ i, i < 160 → ν (26 + s) i = ν 70 (160 * s + i)) ∨
  (∃ b : Nat, b < n ∧ μ 66 s = nI 2 ∧ μ 69 s = nI b ∧ μ (18 + s) 0 = nI b)
def pa_wd : List Int32 := [nI 98, nI 97, nI 110, nI 100, nI 32, nI 0, nI 114, nI 105, nI 103, nI 104, nI 116, nI 32, nI 0, nI 108, nI 101, nI 102, nI 116, nI 32, nI 0, nI 112, nI 97, nI 105, nI 110, nI 116, nI 32, nI 0, nI 116, nI 119, nI 105, nI 115, nI 116, nI 32, nI 0]
abbrev pa_T (μ : fm_I) : Prop := ∃ r : Nat, r ≤ 1000 ∧ μ 7 1 = nI r ∧ μ 58 32 = nI r ∧ ∀ i, i < 20 → i < r → μ 80 i = μ 8 i
abbrev pa_I (μ : fm_I) : Prop := (μ 0 10 = -1 ∧ μ 58 33 = 0) ∨ ∃ (m : Nat) (FI : Nat → Nat → Nat), m ≤ 6 ∧ μ 0 10 = nI m ∧ μ 58 33 = nI 1 ∧ μ 75 102 = nI m ∧ μ 75 103 = μ 0 12 ∧ μ 75 104 = μ 0 11 ∧ ∀ b, b < m → pa_B (FI b) ∧ pa_X (FI b) (40 + b) μ ∧ pa_K (FI b) 75 b μ
def pa_In (n : Nat) (F : Nat → Nat → Nat) (μ : fm_I) (ν : fm_L) : Prop :=
  (n ≤ 6 ∧ μ 0 7 = nI n ∧ μ 58 0 = nI n) ∧ (∀ b, b < n → pa_B (F b) ∧ pa_X (F b) (34 + b) μ ∧ pa_M (F b) b μ) ∧ (∀ b, b < 6 → μ (34 + b) 0 = nI b) ∧
  (μ 58 2 = μ 0 8 ∧ μ 58 1 = μ 0 9 ∧ μ 58 3 = μ 0 13) ∧ (∀ k, k < 8 → μ 59 k = μ 4 k) ∧ (∀ s, s < 8 → pa_S n s μ ν) ∧
  pa_T μ ∧ pa_I μ ∧
  (∀ i, i < 33 → μ 72 i = pa_wd.getD i 0)
def Inv (μ : fm_I) (ν : fm_L) : Prop := ∃ (n : Nat) (F : Nat → Nat → Nat), pa_In n F μ ν
/-- a call of both that answers alike -/
def pa_op {α : Type} (f : Option (α × fm_I × fm_L)) (g : fm_I → fm_L → Option (α × fm_I × fm_L)) : Prop := ∃ (r : α) (μ1 : fm_I) (ν1 : fm_L) (μ2 : fm_I) (ν2 : fm_L), f = some (r, μ1, ν1) ∧ g μ1 ν1 = some (r, μ2, ν2) ∧ Inv μ2 ν2
def pa_ro {α : Type} (o : Option α) (μ : fm_I) (ν : fm_L) : Option (α × fm_I × fm_L) := o.map (fun r => (r, μ, ν))
theorem pa_ro_of {α : Type} {o : Option α} {μ μ1 : fm_I} {ν ν1 : fm_L} {r : α} (h : pa_ro o μ ν = some (r, μ1, ν1)) : o = some r ∧ μ1 = μ ∧ ν1 = ν := by
  cases o with
  | none => cases h
  | some a =>
    cases h
    exact ⟨rfl, rfl, rfl⟩
/-! THE START: what the constructors leave -/
/-- a place's cell, in the order in which cells are made -/
def pa_off (p : Nat) : Nat := if p < 6 then p else if p = 6 then 11 else if p = 7 then 16 else if p = 8 then 17 else if p < 14 then p - 3 else if p < 18 then p - 2 else if p < 26 then 18 + 2 * (p - 18) else if p < 34 then 19 + 2 * (p - 26) else if p < 40 then 34 + 4 * (p - 34) else if p < 46 then 36 + 4 * (p - 40) else if p < 52 then 35 + 4 * (p - 46) else if p < 58 then 37 + 4 * (p - 52) else p
def pa_w0 : Nat → Int32 := (upd (upd (upd (upd (upd (upd (upd (upd (upd (upd (upd (upd (upd (upd (upd (upd (upd (upd (upd (upd (upd (upd (upd (upd (upd (upd (upd (upd (upd (upd (upd (upd (upd (fun _ => 0) (0 : Int32).toNatClampNeg (98 : Int32)) (1 : Int32).toNatClampNeg (97 : Int32)) (2 : Int32).toNatClampNeg (110 : Int32)) (3 : Int32).toNatClampNeg (100 : Int32)) (4 : Int32).toNatClampNeg (32 : Int32)) (5 : Int32).toNatClampNeg (0 : Int32)) (6 : Int32).toNatClampNeg (114 : Int32)) (7 : Int32).toNatClampNeg (105 : Int32)) (8 : Int32).toNatClampNeg (103 : Int32)) (9 : Int32).toNatClampNeg (104 : Int32)) (10 : Int32).toNatClampNeg (116 : Int32)) (11 : Int32).toNatClampNeg (32 : Int32)) (12 : Int32).toNatClampNeg (0 : Int32)) (13 : Int32).toNatClampNeg (108 : Int32)) (14 : Int32).toNatClampNeg (101 : Int32)) (15 : Int32).toNatClampNeg (102 : Int32)) (16 : Int32).toNatClampNeg (116 : Int32)) (17 : Int32).toNatClampNeg (32 : Int32)) (18 : Int32).toNatClampNeg (0 : Int32)) (19 : Int32).toNatClampNeg (112 : Int32)) (20 : Int32).toNatClampNeg (97 : Int32)) (21 : Int32).toNatClampNeg (105 : Int32)) (22 : Int32).toNatClampNeg (110 : Int32)) (23 : Int32).toNatClampNeg (116 : Int32)) (24 : Int32).toNatClampNeg (32 : Int32)) (25 : Int32).toNatClampNeg (0 : Int32)) (26 : Int32).toNatClampNeg (116 : Int32)) (27 : Int32).toNatClampNeg (119 : Int32)) (28 : Int32).toNatClampNeg (105 : Int32)) (29 : Int32).toNatClampNeg (115 : Int32)) (30 : Int32).toNatClampNeg (116 : Int32)) (31 : Int32).toNatClampNeg (32 : Int32)) (32 : Int32).toNatClampNeg (0 : Int32))
def pa_m0 : fm_I := fun p => match p with
  | 0 => fun k => if k = 8 then 1 else if k = 10 then -1 else if k = 13 then -1 else 0
  | 58 => fun k => if k = 2 then 1 else if k = 3 then -1 else 0
  | 72 => pa_w0
  | 18 => fun k => if k = 0 then -1 else 0
  | 19 => fun k => if k = 0 then -1 else 0
  | 20 => fun k => if k = 0 then -1 else 0
  | 21 => fun k => if k = 0 then -1 else 0
  | 22 => fun k => if k = 0 then -1 else 0
  | 23 => fun k => if k = 0 then -1 else 0
  | 24 => fun k => if k = 0 then -1 else 0
  | 25 => fun k => if k = 0 then -1 else 0
  | 34 => fun k => if k = 0 then 0 else 0
  | 40 => fun k => if k = 0 then 0 else 0
  | 35 => fun k => if k = 0 then 1 else 0
  | 41 => fun k => if k = 0 then 1 else 0
  | 36 => fun k => if k = 0 then 2 else 0
  | 42 => fun k => if k = 0 then 2 else 0
  | 37 => fun k => if k = 0 then 3 else 0
  | 43 => fun k => if k = 0 then 3 else 0
  | 38 => fun k => if k = 0 then 4 else 0
  | 44 => fun k => if k = 0 then 4 else 0
  | 39 => fun k => if k = 0 then 5 else 0
  | 45 => fun k => if k = 0 then 5 else 0
  | _ => fun _ => 0
def pa_n0 : fm_L := fun _ _ => 0
theorem pa_inj : ∀ p, p < 81 → ∀ q, q < 81 → pa_off p = pa_off q → p = q := by decide +kernel
theorem pa_off_lt : ∀ p, p < 81 → pa_off p < 81 := by decide +kernel
def pa_G (D : va_G) (cA : Nat → ClassId) (b : Nat) (tS aK aV : Nat → Nat) : fm_G := (D, cA, fun p => b + pa_off p, tS, aK, aV)
def pa_k (G : fm_G) (b : Nat) (κ0 : Nat → va_E) : Nat → va_E := fk_X6 G b (fk_u (fk_X5 G b κ0) 58 (.inr (6, [.int 0, .int 0, .int 0, .int 0, .null, .null, .null, .null, .null, .null, .null, .null, .null, .null, .null, .null, .null, .null, .null, .int 0, .int 0, .int 0, .int 0, .int 0, .null, .null, .null, .null, .int 0, .null, .null, .null, .int 0, .int 0])))
theorem pa_rr1 (b : Nat) : (va_up (va_up (va_up (va_up (va_up (va_up (va_up (va_up (fun _ => none) (0 : Int32).toNatClampNeg (some (b + 18))) (1 : Int32).toNatClampNeg (some (b + 20))) (2 : Int32).toNatClampNeg (some (b + 22))) (3 : Int32).toNatClampNeg (some (b + 24))) (4 : Int32).toNatClampNeg (some (b + 26))) (5 : Int32).toNatClampNeg (some (b + 28))) (6 : Int32).toNatClampNeg (some (b + 30))) (7 : Int32).toNatClampNeg (some (b + 32))) = fm_rr 18 8 (fun p => b + pa_off p) := by
  funext j
  have e0 : (0 : Int32).toNatClampNeg = 0 := rfl
  have e1 : (1 : Int32).toNatClampNeg = 1 := rfl
  have e2 : (2 : Int32).toNatClampNeg = 2 := rfl
  have e3 : (3 : Int32).toNatClampNeg = 3 := rfl
  have e4 : (4 : Int32).toNatClampNeg = 4 := rfl
  have e5 : (5 : Int32).toNatClampNeg = 5 := rfl
  have e6 : (6 : Int32).toNatClampNeg = 6 := rfl
  have e7 : (7 : Int32).toNatClampNeg = 7 := rfl
  rcases Nat.lt_or_ge j 8 with h | h
  · rcases (show j = 0 ∨ j = 1 ∨ j = 2 ∨ j = 3 ∨ j = 4 ∨ j = 5 ∨ j = 6 ∨ j = 7 by omega) with rfl | rfl | rfl | rfl | rfl | rfl | rfl | rfl <;> rfl
  · rw [fm_rr, if_neg (by omega)]
    simp only [va_up, e0, e1, e2, e3, e4, e5, e6, e7]
    rw [if_neg (by omega), if_neg (by omega), if_neg (by omega), if_neg (by omega), if_neg (by omega), if_neg (by omega), if_neg (by omega), if_neg (by omega)]
theorem pa_rr2 (b : Nat) : (va_up (va_up (va_up (va_up (va_up (va_up (fun _ => none) (0 : Int32).toNatClampNeg (some (b + 34))) (1 : Int32).toNatClampNeg (some (b + 38))) (2 : Int32).toNatClampNeg (some (b + 42))) (3 : Int32).toNatClampNeg (some (b + 46))) (4 : Int32).toNatClampNeg (some (b + 50))) (5 : Int32).toNatClampNeg (some (b + 54))) = fm_rr 34 6 (fun p => b + pa_off p) := by
  funext j
  have e0 : (0 : Int32).toNatClampNeg = 0 := rfl
  have e1 : (1 : Int32).toNatClampNeg = 1 := rfl
  have e2 : (2 : Int32).toNatClampNeg = 2 := rfl
  have e3 : (3 : Int32).toNatClampNeg = 3 := rfl
  have e4 : (4 : Int32).toNatClampNeg = 4 := rfl
  have e5 : (5 : Int32).toNatClampNeg = 5 := rfl
  rcases Nat.lt_or_ge j 6 with h | h
  · rcases (show j = 0 ∨ j = 1 ∨ j = 2 ∨ j = 3 ∨ j = 4 ∨ j = 5 by omega) with rfl | rfl | rfl | rfl | rfl | rfl <;> rfl
  · rw [fm_rr, if_neg (by omega)]
    simp only [va_up, e0, e1, e2, e3, e4, e5]
    rw [if_neg (by omega), if_neg (by omega), if_neg (by omega), if_neg (by omega), if_neg (by omega), if_neg (by omega)]
theorem pa_rr3 (b : Nat) : (va_up (va_up (va_up (va_up (va_up (va_up (fun _ => none) (0 : Int32).toNatClampNeg (some (b + 36))) (1 : Int32).toNatClampNeg (some (b + 40))) (2 : Int32).toNatClampNeg (some (b + 44))) (3 : Int32).toNatClampNeg (some (b + 48))) (4 : Int32).toNatClampNeg (some (b + 52))) (5 : Int32).toNatClampNeg (some (b + 56))) = fm_rr 40 6 (fun p => b + pa_off p) := by
  funext j
  have e0 : (0 : Int32).toNatClampNeg = 0 := rfl
  have e1 : (1 : Int32).toNatClampNeg = 1 := rfl
  have e2 : (2 : Int32).toNatClampNeg = 2 := rfl
  have e3 : (3 : Int32).toNatClampNeg = 3 := rfl
  have e4 : (4 : Int32).toNatClampNeg = 4 := rfl
  have e5 : (5 : Int32).toNatClampNeg = 5 := rfl
  rcases Nat.lt_or_ge j 6 with h | h
  · rcases (show j = 0 ∨ j = 1 ∨ j = 2 ∨ j = 3 ∨ j = 4 ∨ j = 5 by omega) with rfl | rfl | rfl | rfl | rfl | rfl <;> rfl
  · rw [fm_rr, if_neg (by omega)]
    simp only [va_up, e0, e1, e2, e3, e4, e5]
    rw [if_neg (by omega), if_neg (by omega), if_neg (by omega), if_neg (by omega), if_neg (by omega), if_neg (by omega)]
set_option maxRecDepth 100000 in
set_option maxHeartbeats 4000000 in
theorem pa_st0 {D : va_G} {cA : Nat → ClassId} {b : Nat} {tS aK aV : Nat → Nat} {κ0 : Nat → va_E} : pa_k (pa_G D cA b tS aK aV) b κ0 0 = fm_c (pa_G D cA b tS aK aV) 0 (pa_m0 0) (pa_n0 0) := rfl
set_option maxRecDepth 100000 in
set_option maxHeartbeats 4000000 in
theorem pa_st1 {D : va_G} {cA : Nat → ClassId} {b : Nat} {tS aK aV : Nat → Nat} {κ0 : Nat → va_E} : pa_k (pa_G D cA b tS aK aV) b κ0 1 = fm_c (pa_G D cA b tS aK aV) 1 (pa_m0 1) (pa_n0 1) := congrArg (fun f => (Sum.inl (cA 3, 8, .inr (.inr (.inr (.inr f)))) : va_E)) (pa_rr1 b)
set_option maxRecDepth 100000 in
set_option maxHeartbeats 4000000 in
theorem pa_st2 {D : va_G} {cA : Nat → ClassId} {b : Nat} {tS aK aV : Nat → Nat} {κ0 : Nat → va_E} : pa_k (pa_G D cA b tS aK aV) b κ0 2 = fm_c (pa_G D cA b tS aK aV) 2 (pa_m0 2) (pa_n0 2) := congrArg (fun f => (Sum.inl (cA 2, 6, .inr (.inr (.inr (.inr f)))) : va_E)) (pa_rr2 b)
set_option maxRecDepth 100000 in
set_option maxHeartbeats 4000000 in
theorem pa_st3 {D : va_G} {cA : Nat → ClassId} {b : Nat} {tS aK aV : Nat → Nat} {κ0 : Nat → va_E} : pa_k (pa_G D cA b tS aK aV) b κ0 3 = fm_c (pa_G D cA b tS aK aV) 3 (pa_m0 3) (pa_n0 3) := congrArg (fun f => (Sum.inl (cA 2, 6, .inr (.inr (.inr (.inr f)))) : va_E)) (pa_rr3 b)
set_option maxRecDepth 100000 in
set_option maxHeartbeats 4000000 in
theorem pa_st4 {D : va_G} {cA : Nat → ClassId} {b : Nat} {tS aK aV : Nat → Nat} {κ0 : Nat → va_E} : pa_k (pa_G D cA b tS aK aV) b κ0 4 = fm_c (pa_G D cA b tS aK aV) 4 (pa_m0 4) (pa_n0 4) := rfl
set_option maxRecDepth 100000 in
set_option maxHeartbeats 4000000 in
theorem pa_st5 {D : va_G} {cA : Nat → ClassId} {b : Nat} {tS aK aV : Nat → Nat} {κ0 : Nat → va_E} : pa_k (pa_G D cA b tS aK aV) b κ0 5 = fm_c (pa_G D cA b tS aK aV) 5 (pa_m0 5) (pa_n0 5) := rfl
set_option maxRecDepth 100000 in
set_option maxHeartbeats 4000000 in
theorem pa_st6 {D : va_G} {cA : Nat → ClassId} {b : Nat} {tS aK aV : Nat → Nat} {κ0 : Nat → va_E} : pa_k (pa_G D cA b tS aK aV) b κ0 11 = fm_c (pa_G D cA b tS aK aV) 6 (pa_m0 6) (pa_n0 6) := rfl
set_option maxRecDepth 100000 in
set_option maxHeartbeats 4000000 in
theorem pa_st7 {D : va_G} {cA : Nat → ClassId} {b : Nat} {tS aK aV : Nat → Nat} {κ0 : Nat → va_E} : pa_k (pa_G D cA b tS aK aV) b κ0 16 = fm_c (pa_G D cA b tS aK aV) 7 (pa_m0 7) (pa_n0 7) := rfl
set_option maxRecDepth 100000 in
set_option maxHeartbeats 4000000 in
theorem pa_st8 {D : va_G} {cA : Nat → ClassId} {b : Nat} {tS aK aV : Nat → Nat} {κ0 : Nat → va_E} : pa_k (pa_G D cA b tS aK aV) b κ0 17 = fm_c (pa_G D cA b tS aK aV) 8 (pa_m0 8) (pa_n0 8) := rfl
set_option maxRecDepth 100000 in
set_option maxHeartbeats 4000000 in
theorem pa_st9 {D : va_G} {cA : Nat → ClassId} {b : Nat} {tS aK aV : Nat → Nat} {κ0 : Nat → va_E} : pa_k (pa_G D cA b tS aK aV) b κ0 6 = fm_c (pa_G D cA b tS aK aV) 9 (pa_m0 9) (pa_n0 9) := rfl
set_option maxRecDepth 100000 in
set_option maxHeartbeats 4000000 in
theorem pa_st10 {D : va_G} {cA : Nat → ClassId} {b : Nat} {tS aK aV : Nat → Nat} {κ0 : Nat → va_E} : pa_k (pa_G D cA b tS aK aV) b κ0 7 = fm_c (pa_G D cA b tS aK aV) 10 (pa_m0 10) (pa_n0 10) := rfl
set_option maxRecDepth 100000 in
set_option maxHeartbeats 4000000 in
theorem pa_st11 {D : va_G} {cA : Nat → ClassId} {b : Nat} {tS aK aV : Nat → Nat} {κ0 : Nat → va_E} : pa_k (pa_G D cA b tS aK aV) b κ0 8 = fm_c (pa_G D cA b tS aK aV) 11 (pa_m0 11) (pa_n0 11) := rfl
set_option maxRecDepth 100000 in
set_option maxHeartbeats 4000000 in
theorem pa_st12 {D : va_G} {cA : Nat → ClassId} {b : Nat} {tS aK aV : Nat → Nat} {κ0 : Nat → va_E} : pa_k (pa_G D cA b tS aK aV) b κ0 9 = fm_c (pa_G D cA b tS aK aV) 12 (pa_m0 12) (pa_n0 12) := rfl
set_option maxRecDepth 100000 in
set_option maxHeartbeats 4000000 in
theorem pa_st13 {D : va_G} {cA : Nat → ClassId} {b : Nat} {tS aK aV : Nat → Nat} {κ0 : Nat → va_E} : pa_k (pa_G D cA b tS aK aV) b κ0 10 = fm_c (pa_G D cA b tS aK aV) 13 (pa_m0 13) (pa_n0 13) := rfl
set_option maxRecDepth 100000 in
set_option maxHeartbeats 4000000 in
theorem pa_st14 {D : va_G} {cA : Nat → ClassId} {b : Nat} {tS aK aV : Nat → Nat} {κ0 : Nat → va_E} : pa_k (pa_G D cA b tS aK aV) b κ0 12 = fm_c (pa_G D cA b tS aK aV) 14 (pa_m0 14) (pa_n0 14) := rfl
set_option maxRecDepth 100000 in
set_option maxHeartbeats 4000000 in
theorem pa_st15 {D : va_G} {cA : Nat → ClassId} {b : Nat} {tS aK aV : Nat → Nat} {κ0 : Nat → va_E} : pa_k (pa_G D cA b tS aK aV) b κ0 13 = fm_c (pa_G D cA b tS aK aV) 15 (pa_m0 15) (pa_n0 15) := rfl
set_option maxRecDepth 100000 in
set_option maxHeartbeats 4000000 in
theorem pa_st16 {D : va_G} {cA : Nat → ClassId} {b : Nat} {tS aK aV : Nat → Nat} {κ0 : Nat → va_E} : pa_k (pa_G D cA b tS aK aV) b κ0 14 = fm_c (pa_G D cA b tS aK aV) 16 (pa_m0 16) (pa_n0 16) := rfl
set_option maxRecDepth 100000 in
set_option maxHeartbeats 4000000 in
theorem pa_st17 {D : va_G} {cA : Nat → ClassId} {b : Nat} {tS aK aV : Nat → Nat} {κ0 : Nat → va_E} : pa_k (pa_G D cA b tS aK aV) b κ0 15 = fm_c (pa_G D cA b tS aK aV) 17 (pa_m0 17) (pa_n0 17) := rfl
set_option maxRecDepth 100000 in
set_option maxHeartbeats 4000000 in
theorem pa_st18 {D : va_G} {cA : Nat → ClassId} {b : Nat} {tS aK aV : Nat → Nat} {κ0 : Nat → va_E} : pa_k (pa_G D cA b tS aK aV) b κ0 18 = fm_c (pa_G D cA b tS aK aV) 18 (pa_m0 18) (pa_n0 18) := rfl
set_option maxRecDepth 100000 in
set_option maxHeartbeats 4000000 in
theorem pa_st19 {D : va_G} {cA : Nat → ClassId} {b : Nat} {tS aK aV : Nat → Nat} {κ0 : Nat → va_E} : pa_k (pa_G D cA b tS aK aV) b κ0 20 = fm_c (pa_G D cA b tS aK aV) 19 (pa_m0 19) (pa_n0 19) := rfl
set_option maxRecDepth 100000 in
set_option maxHeartbeats 4000000 in
theorem pa_st20 {D : va_G} {cA : Nat → ClassId} {b : Nat} {tS aK aV : Nat → Nat} {κ0 : Nat → va_E} : pa_k (pa_G D cA b tS aK aV) b κ0 22 = fm_c (pa_G D cA b tS aK aV) 20 (pa_m0 20) (pa_n0 20) := rfl
set_option maxRecDepth 100000 in
set_option maxHeartbeats 4000000 in
theorem pa_st21 {D : va_G} {cA : Nat → ClassId} {b : Nat} {tS aK aV : Nat → Nat} {κ0 : Nat → va_E} : pa_k (pa_G D cA b tS aK aV) b κ0 24 = fm_c (pa_G D cA b tS aK aV) 21 (pa_m0 21) (pa_n0 21) := rfl
set_option maxRecDepth 100000 in
set_option maxHeartbeats 4000000 in
theorem pa_st22 {D : va_G} {cA : Nat → ClassId} {b : Nat} {tS aK aV : Nat → Nat} {κ0 : Nat → va_E} : pa_k (pa_G D cA b tS aK aV) b κ0 26 = fm_c (pa_G D cA b tS aK aV) 22 (pa_m0 22) (pa_n0 22) := rfl
set_option maxRecDepth 100000 in
set_option maxHeartbeats 4000000 in
theorem pa_st23 {D : va_G} {cA : Nat → ClassId} {b : Nat} {tS aK aV : Nat → Nat} {κ0 : Nat → va_E} : pa_k (pa_G D cA b tS aK aV) b κ0 28 = fm_c (pa_G D cA b tS aK aV) 23 (pa_m0 23) (pa_n0 23) := rfl
set_option maxRecDepth 100000 in
set_option maxHeartbeats 4000000 in
theorem pa_st24 {D : va_G} {cA : Nat → ClassId} {b : Nat} {tS aK aV : Nat → Nat} {κ0 : Nat → va_E} : pa_k (pa_G D cA b tS aK aV) b κ0 30 = fm_c (pa_G D cA b tS aK aV) 24 (pa_m0 24) (pa_n0 24) := rfl
set_option maxRecDepth 100000 in
set_option maxHeartbeats 4000000 in
theorem pa_st25 {D : va_G} {cA : Nat → ClassId} {b : Nat} {tS aK aV : Nat → Nat} {κ0 : Nat → va_E} : pa_k (pa_G D cA b tS aK aV) b κ0 32 = fm_c (pa_G D cA b tS aK aV) 25 (pa_m0 25) (pa_n0 25) := rfl
set_option maxRecDepth 100000 in
set_option maxHeartbeats 4000000 in
theorem pa_st26 {D : va_G} {cA : Nat → ClassId} {b : Nat} {tS aK aV : Nat → Nat} {κ0 : Nat → va_E} : pa_k (pa_G D cA b tS aK aV) b κ0 19 = fm_c (pa_G D cA b tS aK aV) 26 (pa_m0 26) (pa_n0 26) := rfl
set_option maxRecDepth 100000 in
set_option maxHeartbeats 4000000 in
theorem pa_st27 {D : va_G} {cA : Nat → ClassId} {b : Nat} {tS aK aV : Nat → Nat} {κ0 : Nat → va_E} : pa_k (pa_G D cA b tS aK aV) b κ0 21 = fm_c (pa_G D cA b tS aK aV) 27 (pa_m0 27) (pa_n0 27) := rfl
set_option maxRecDepth 100000 in
set_option maxHeartbeats 4000000 in
theorem pa_st28 {D : va_G} {cA : Nat → ClassId} {b : Nat} {tS aK aV : Nat → Nat} {κ0 : Nat → va_E} : pa_k (pa_G D cA b tS aK aV) b κ0 23 = fm_c (pa_G D cA b tS aK aV) 28 (pa_m0 28) (pa_n0 28) := rfl
set_option maxRecDepth 100000 in
set_option maxHeartbeats 4000000 in
theorem pa_st29 {D : va_G} {cA : Nat → ClassId} {b : Nat} {tS aK aV : Nat → Nat} {κ0 : Nat → va_E} : pa_k (pa_G D cA b tS aK aV) b κ0 25 = fm_c (pa_G D cA b tS aK aV) 29 (pa_m0 29) (pa_n0 29) := rfl
set_option maxRecDepth 100000 in
set_option maxHeartbeats 4000000 in
theorem pa_st30 {D : va_G} {cA : Nat → ClassId} {b : Nat} {tS aK aV : Nat → Nat} {κ0 : Nat → va_E} : pa_k (pa_G D cA b tS aK aV) b κ0 27 = fm_c (pa_G D cA b tS aK aV) 30 (pa_m0 30) (pa_n0 30) := rfl
set_option maxRecDepth 100000 in
set_option maxHeartbeats 4000000 in
theorem pa_st31 {D : va_G} {cA : Nat → ClassId} {b : Nat} {tS aK aV : Nat → Nat} {κ0 : Nat → va_E} : pa_k (pa_G D cA b tS aK aV) b κ0 29 = fm_c (pa_G D cA b tS aK aV) 31 (pa_m0 31) (pa_n0 31) := rfl
set_option maxRecDepth 100000 in
set_option maxHeartbeats 4000000 in
theorem pa_st32 {D : va_G} {cA : Nat → ClassId} {b : Nat} {tS aK aV : Nat → Nat} {κ0 : Nat → va_E} : pa_k (pa_G D cA b tS aK aV) b κ0 31 = fm_c (pa_G D cA b tS aK aV) 32 (pa_m0 32) (pa_n0 32) := rfl
set_option maxRecDepth 100000 in
set_option maxHeartbeats 4000000 in
theorem pa_st33 {D : va_G} {cA : Nat → ClassId} {b : Nat} {tS aK aV : Nat → Nat} {κ0 : Nat → va_E} : pa_k (pa_G D cA b tS aK aV) b κ0 33 = fm_c (pa_G D cA b tS aK aV) 33 (pa_m0 33) (pa_n0 33) := rfl
set_option maxRecDepth 100000 in
set_option maxHeartbeats 4000000 in
theorem pa_st34 {D : va_G} {cA : Nat → ClassId} {b : Nat} {tS aK aV : Nat → Nat} {κ0 : Nat → va_E} : pa_k (pa_G D cA b tS aK aV) b κ0 34 = fm_c (pa_G D cA b tS aK aV) 34 (pa_m0 34) (pa_n0 34) := rfl
set_option maxRecDepth 100000 in
set_option maxHeartbeats 4000000 in
theorem pa_st35 {D : va_G} {cA : Nat → ClassId} {b : Nat} {tS aK aV : Nat → Nat} {κ0 : Nat → va_E} : pa_k (pa_G D cA b tS aK aV) b κ0 38 = fm_c (pa_G D cA b tS aK aV) 35 (pa_m0 35) (pa_n0 35) := rfl
set_option maxRecDepth 100000 in
set_option maxHeartbeats 4000000 in
theorem pa_st36 {D : va_G} {cA : Nat → ClassId} {b : Nat} {tS aK aV : Nat → Nat} {κ0 : Nat → va_E} : pa_k (pa_G D cA b tS aK aV) b κ0 42 = fm_c (pa_G D cA b tS aK aV) 36 (pa_m0 36) (pa_n0 36) := rfl
set_option maxRecDepth 100000 in
set_option maxHeartbeats 4000000 in
theorem pa_st37 {D : va_G} {cA : Nat → ClassId} {b : Nat} {tS aK aV : Nat → Nat} {κ0 : Nat → va_E} : pa_k (pa_G D cA b tS aK aV) b κ0 46 = fm_c (pa_G D cA b tS aK aV) 37 (pa_m0 37) (pa_n0 37) := rfl
set_option maxRecDepth 100000 in
set_option maxHeartbeats 4000000 in
theorem pa_st38 {D : va_G} {cA : Nat → ClassId} {b : Nat} {tS aK aV : Nat → Nat} {κ0 : Nat → va_E} : pa_k (pa_G D cA b tS aK aV) b κ0 50 = fm_c (pa_G D cA b tS aK aV) 38 (pa_m0 38) (pa_n0 38) := rfl
set_option maxRecDepth 100000 in
set_option maxHeartbeats 4000000 in
theorem pa_st39 {D : va_G} {cA : Nat → ClassId} {b : Nat} {tS aK aV : Nat → Nat} {κ0 : Nat → va_E} : pa_k (pa_G D cA b tS aK aV) b κ0 54 = fm_c (pa_G D cA b tS aK aV) 39 (pa_m0 39) (pa_n0 39) := rfl
set_option maxRecDepth 100000 in
set_option maxHeartbeats 4000000 in
theorem pa_st40 {D : va_G} {cA : Nat → ClassId} {b : Nat} {tS aK aV : Nat → Nat} {κ0 : Nat → va_E} : pa_k (pa_G D cA b tS aK aV) b κ0 36 = fm_c (pa_G D cA b tS aK aV) 40 (pa_m0 40) (pa_n0 40) := rfl
set_option maxRecDepth 100000 in
set_option maxHeartbeats 4000000 in
theorem pa_st41 {D : va_G} {cA : Nat → ClassId} {b : Nat} {tS aK aV : Nat → Nat} {κ0 : Nat → va_E} : pa_k (pa_G D cA b tS aK aV) b κ0 40 = fm_c (pa_G D cA b tS aK aV) 41 (pa_m0 41) (pa_n0 41) := rfl
set_option maxRecDepth 100000 in
set_option maxHeartbeats 4000000 in
theorem pa_st42 {D : va_G} {cA : Nat → ClassId} {b : Nat} {tS aK aV : Nat → Nat} {κ0 : Nat → va_E} : pa_k (pa_G D cA b tS aK aV) b κ0 44 = fm_c (pa_G D cA b tS aK aV) 42 (pa_m0 42) (pa_n0 42) := rfl
set_option maxRecDepth 100000 in
set_option maxHeartbeats 4000000 in
theorem pa_st43 {D : va_G} {cA : Nat → ClassId} {b : Nat} {tS aK aV : Nat → Nat} {κ0 : Nat → va_E} : pa_k (pa_G D cA b tS aK aV) b κ0 48 = fm_c (pa_G D cA b tS aK aV) 43 (pa_m0 43) (pa_n0 43) := rfl
set_option maxRecDepth 100000 in
set_option maxHeartbeats 4000000 in
theorem pa_st44 {D : va_G} {cA : Nat → ClassId} {b : Nat} {tS aK aV : Nat → Nat} {κ0 : Nat → va_E} : pa_k (pa_G D cA b tS aK aV) b κ0 52 = fm_c (pa_G D cA b tS aK aV) 44 (pa_m0 44) (pa_n0 44) := rfl
set_option maxRecDepth 100000 in
set_option maxHeartbeats 4000000 in
theorem pa_st45 {D : va_G} {cA : Nat → ClassId} {b : Nat} {tS aK aV : Nat → Nat} {κ0 : Nat → va_E} : pa_k (pa_G D cA b tS aK aV) b κ0 56 = fm_c (pa_G D cA b tS aK aV) 45 (pa_m0 45) (pa_n0 45) := rfl
set_option maxRecDepth 100000 in
set_option maxHeartbeats 4000000 in
theorem pa_st46 {D : va_G} {cA : Nat → ClassId} {b : Nat} {tS aK aV : Nat → Nat} {κ0 : Nat → va_E} : pa_k (pa_G D cA b tS aK aV) b κ0 35 = fm_c (pa_G D cA b tS aK aV) 46 (pa_m0 46) (pa_n0 46) := rfl
set_option maxRecDepth 100000 in
set_option maxHeartbeats 4000000 in
theorem pa_st47 {D : va_G} {cA : Nat → ClassId} {b : Nat} {tS aK aV : Nat → Nat} {κ0 : Nat → va_E} : pa_k (pa_G D cA b tS aK aV) b κ0 39 = fm_c (pa_G D cA b tS aK aV) 47 (pa_m0 47) (pa_n0 47) := rfl
set_option maxRecDepth 100000 in
set_option maxHeartbeats 4000000 in
theorem pa_st48 {D : va_G} {cA : Nat → ClassId} {b : Nat} {tS aK aV : Nat → Nat} {κ0 : Nat → va_E} : pa_k (pa_G D cA b tS aK aV) b κ0 43 = fm_c (pa_G D cA b tS aK aV) 48 (pa_m0 48) (pa_n0 48) := rfl
set_option maxRecDepth 100000 in
set_option maxHeartbeats 4000000 in
theorem pa_st49 {D : va_G} {cA : Nat → ClassId} {b : Nat} {tS aK aV : Nat → Nat} {κ0 : Nat → va_E} : pa_k (pa_G D cA b tS aK aV) b κ0 47 = fm_c (pa_G D cA b tS aK aV) 49 (pa_m0 49) (pa_n0 49) := rfl
set_option maxRecDepth 100000 in
set_option maxHeartbeats 4000000 in
theorem pa_st50 {D : va_G} {cA : Nat → ClassId} {b : Nat} {tS aK aV : Nat → Nat} {κ0 : Nat → va_E} : pa_k (pa_G D cA b tS aK aV) b κ0 51 = fm_c (pa_G D cA b tS aK aV) 50 (pa_m0 50) (pa_n0 50) := rfl
set_option maxRecDepth 100000 in
set_option maxHeartbeats 4000000 in
theorem pa_st51 {D : va_G} {cA : Nat → ClassId} {b : Nat} {tS aK aV : Nat → Nat} {κ0 : Nat → va_E} : pa_k (pa_G D cA b tS aK aV) b κ0 55 = fm_c (pa_G D cA b tS aK aV) 51 (pa_m0 51) (pa_n0 51) := rfl
set_option maxRecDepth 100000 in
set_option maxHeartbeats 4000000 in
theorem pa_st52 {D : va_G} {cA : Nat → ClassId} {b : Nat} {tS aK aV : Nat → Nat} {κ0 : Nat → va_E} : pa_k (pa_G D cA b tS aK aV) b κ0 37 = fm_c (pa_G D cA b tS aK aV) 52 (pa_m0 52) (pa_n0 52) := rfl
set_option maxRecDepth 100000 in
set_option maxHeartbeats 4000000 in
theorem pa_st53 {D : va_G} {cA : Nat → ClassId} {b : Nat} {tS aK aV : Nat → Nat} {κ0 : Nat → va_E} : pa_k (pa_G D cA b tS aK aV) b κ0 41 = fm_c (pa_G D cA b tS aK aV) 53 (pa_m0 53) (pa_n0 53) := rfl
set_option maxRecDepth 100000 in
set_option maxHeartbeats 4000000 in
theorem pa_st54 {D : va_G} {cA : Nat → ClassId} {b : Nat} {tS aK aV : Nat → Nat} {κ0 : Nat → va_E} : pa_k (pa_G D cA b tS aK aV) b κ0 45 = fm_c (pa_G D cA b tS aK aV) 54 (pa_m0 54) (pa_n0 54) := rfl
set_option maxRecDepth 100000 in
set_option maxHeartbeats 4000000 in
theorem pa_st55 {D : va_G} {cA : Nat → ClassId} {b : Nat} {tS aK aV : Nat → Nat} {κ0 : Nat → va_E} : pa_k (pa_G D cA b tS aK aV) b κ0 49 = fm_c (pa_G D cA b tS aK aV) 55 (pa_m0 55) (pa_n0 55) := rfl
set_option maxRecDepth 100000 in
set_option maxHeartbeats 4000000 in
theorem pa_st56 {D : va_G} {cA : Nat → ClassId} {b : Nat} {tS aK aV : Nat → Nat} {κ0 : Nat → va_E} : pa_k (pa_G D cA b tS aK aV) b κ0 53 = fm_c (pa_G D cA b tS aK aV) 56 (pa_m0 56) (pa_n0 56) := rfl
set_option maxRecDepth 100000 in
set_option maxHeartbeats 4000000 in
theorem pa_st57 {D : va_G} {cA : Nat → ClassId} {b : Nat} {tS aK aV : Nat → Nat} {κ0 : Nat → va_E} : pa_k (pa_G D cA b tS aK aV) b κ0 57 = fm_c (pa_G D cA b tS aK aV) 57 (pa_m0 57) (pa_n0 57) := rfl
set_option maxRecDepth 100000 in
set_option maxHeartbeats 4000000 in
theorem pa_st58 {D : va_G} {cA : Nat → ClassId} {b : Nat} {tS aK aV : Nat → Nat} {κ0 : Nat → va_E} : pa_k (pa_G D cA b tS aK aV) b κ0 58 = fm_c (pa_G D cA b tS aK aV) 58 (pa_m0 58) (pa_n0 58) := rfl
set_option maxRecDepth 100000 in
set_option maxHeartbeats 4000000 in
theorem pa_st59 {D : va_G} {cA : Nat → ClassId} {b : Nat} {tS aK aV : Nat → Nat} {κ0 : Nat → va_E} : pa_k (pa_G D cA b tS aK aV) b κ0 59 = fm_c (pa_G D cA b tS aK aV) 59 (pa_m0 59) (pa_n0 59) := rfl
set_option maxRecDepth 100000 in
set_option maxHeartbeats 4000000 in
theorem pa_st60 {D : va_G} {cA : Nat → ClassId} {b : Nat} {tS aK aV : Nat → Nat} {κ0 : Nat → va_E} : pa_k (pa_G D cA b tS aK aV) b κ0 60 = fm_c (pa_G D cA b tS aK aV) 60 (pa_m0 60) (pa_n0 60) := rfl
set_option maxRecDepth 100000 in
set_option maxHeartbeats 4000000 in
theorem pa_st61 {D : va_G} {cA : Nat → ClassId} {b : Nat} {tS aK aV : Nat → Nat} {κ0 : Nat → va_E} : pa_k (pa_G D cA b tS aK aV) b κ0 61 = fm_c (pa_G D cA b tS aK aV) 61 (pa_m0 61) (pa_n0 61) := rfl
set_option maxRecDepth 100000 in
set_option maxHeartbeats 4000000 in
theorem pa_st62 {D : va_G} {cA : Nat → ClassId} {b : Nat} {tS aK aV : Nat → Nat} {κ0 : Nat → va_E} : pa_k (pa_G D cA b tS aK aV) b κ0 62 = fm_c (pa_G D cA b tS aK aV) 62 (pa_m0 62) (pa_n0 62) := rfl
set_option maxRecDepth 100000 in
set_option maxHeartbeats 4000000 in
theorem pa_st63 {D : va_G} {cA : Nat → ClassId} {b : Nat} {tS aK aV : Nat → Nat} {κ0 : Nat → va_E} : pa_k (pa_G D cA b tS aK aV) b κ0 63 = fm_c (pa_G D cA b tS aK aV) 63 (pa_m0 63) (pa_n0 63) := rfl
set_option maxRecDepth 100000 in
set_option maxHeartbeats 4000000 in
theorem pa_st64 {D : va_G} {cA : Nat → ClassId} {b : Nat} {tS aK aV : Nat → Nat} {κ0 : Nat → va_E} : pa_k (pa_G D cA b tS aK aV) b κ0 64 = fm_c (pa_G D cA b tS aK aV) 64 (pa_m0 64) (pa_n0 64) := rfl
set_option maxRecDepth 100000 in
set_option maxHeartbeats 4000000 in
theorem pa_st65 {D : va_G} {cA : Nat → ClassId} {b : Nat} {tS aK aV : Nat → Nat} {κ0 : Nat → va_E} : pa_k (pa_G D cA b tS aK aV) b κ0 65 = fm_c (pa_G D cA b tS aK aV) 65 (pa_m0 65) (pa_n0 65) := rfl
set_option maxRecDepth 100000 in
set_option maxHeartbeats 4000000 in
theorem pa_st66 {D : va_G} {cA : Nat → ClassId} {b : Nat} {tS aK aV : Nat → Nat} {κ0 : Nat → va_E} : pa_k (pa_G D cA b tS aK aV) b κ0 66 = fm_c (pa_G D cA b tS aK aV) 66 (pa_m0 66) (pa_n0 66) := rfl
set_option maxRecDepth 100000 in
set_option maxHeartbeats 4000000 in
theorem pa_st67 {D : va_G} {cA : Nat → ClassId} {b : Nat} {tS aK aV : Nat → Nat} {κ0 : Nat → va_E} : pa_k (pa_G D cA b tS aK aV) b κ0 67 = fm_c (pa_G D cA b tS aK aV) 67 (pa_m0 67) (pa_n0 67) := rfl
set_option maxRecDepth 100000 in
set_option maxHeartbeats 4000000 in
theorem pa_st68 {D : va_G} {cA : Nat → ClassId} {b : Nat} {tS aK aV : Nat → Nat} {κ0 : Nat → va_E} : pa_k (pa_G D cA b tS aK aV) b κ0 68 = fm_c (pa_G D cA b tS aK aV) 68 (pa_m0 68) (pa_n0 68) := rfl
set_option maxRecDepth 100000 in
set_option maxHeartbeats 4000000 in
theorem pa_st69 {D : va_G} {cA : Nat → ClassId} {b : Nat} {tS aK aV : Nat → Nat} {κ0 : Nat → va_E} : pa_k (pa_G D cA b tS aK aV) b κ0 69 = fm_c (pa_G D cA b tS aK aV) 69 (pa_m0 69) (pa_n0 69) := rfl
set_option maxRecDepth 100000 in
set_option maxHeartbeats 4000000 in
theorem pa_st70 {D : va_G} {cA : Nat → ClassId} {b : Nat} {tS aK aV : Nat → Nat} {κ0 : Nat → va_E} : pa_k (pa_G D cA b tS aK aV) b κ0 70 = fm_c (pa_G D cA b tS aK aV) 70 (pa_m0 70) (pa_n0 70) := rfl
set_option maxRecDepth 100000 in
set_option maxHeartbeats 4000000 in
theorem pa_st71 {D : va_G} {cA : Nat → ClassId} {b : Nat} {tS aK aV : Nat → Nat} {κ0 : Nat → va_E} : pa_k (pa_G D cA b tS aK aV) b κ0 71 = fm_c (pa_G D cA b tS aK aV) 71 (pa_m0 71) (pa_n0 71) := rfl
set_option maxRecDepth 100000 in
set_option maxHeartbeats 4000000 in
theorem pa_st72 {D : va_G} {cA : Nat → ClassId} {b : Nat} {tS aK aV : Nat → Nat} {κ0 : Nat → va_E} : pa_k (pa_G D cA b tS aK aV) b κ0 72 = fm_c (pa_G D cA b tS aK aV) 72 (pa_m0 72) (pa_n0 72) := rfl
set_option maxRecDepth 100000 in
set_option maxHeartbeats 4000000 in
theorem pa_st73 {D : va_G} {cA : Nat → ClassId} {b : Nat} {tS aK aV : Nat → Nat} {κ0 : Nat → va_E} : pa_k (pa_G D cA b tS aK aV) b κ0 73 = fm_c (pa_G D cA b tS aK aV) 73 (pa_m0 73) (pa_n0 73) := rfl
set_option maxRecDepth 100000 in
set_option maxHeartbeats 4000000 in
theorem pa_st74 {D : va_G} {cA : Nat → ClassId} {b : Nat} {tS aK aV : Nat → Nat} {κ0 : Nat → va_E} : pa_k (pa_G D cA b tS aK aV) b κ0 74 = fm_c (pa_G D cA b tS aK aV) 74 (pa_m0 74) (pa_n0 74) := rfl
set_option maxRecDepth 100000 in
set_option maxHeartbeats 4000000 in
theorem pa_st75 {D : va_G} {cA : Nat → ClassId} {b : Nat} {tS aK aV : Nat → Nat} {κ0 : Nat → va_E} : pa_k (pa_G D cA b tS aK aV) b κ0 75 = fm_c (pa_G D cA b tS aK aV) 75 (pa_m0 75) (pa_n0 75) := rfl
set_option maxRecDepth 100000 in
set_option maxHeartbeats 4000000 in
theorem pa_st76 {D : va_G} {cA : Nat → ClassId} {b : Nat} {tS aK aV : Nat → Nat} {κ0 : Nat → va_E} : pa_k (pa_G D cA b tS aK aV) b κ0 76 = fm_c (pa_G D cA b tS aK aV) 76 (pa_m0 76) (pa_n0 76) := rfl
set_option maxRecDepth 100000 in
set_option maxHeartbeats 4000000 in
theorem pa_st77 {D : va_G} {cA : Nat → ClassId} {b : Nat} {tS aK aV : Nat → Nat} {κ0 : Nat → va_E} : pa_k (pa_G D cA b tS aK aV) b κ0 77 = fm_c (pa_G D cA b tS aK aV) 77 (pa_m0 77) (pa_n0 77) := rfl
set_option maxRecDepth 100000 in
set_option maxHeartbeats 4000000 in
theorem pa_st78 {D : va_G} {cA : Nat → ClassId} {b : Nat} {tS aK aV : Nat → Nat} {κ0 : Nat → va_E} : pa_k (pa_G D cA b tS aK aV) b κ0 78 = fm_c (pa_G D cA b tS aK aV) 78 (pa_m0 78) (pa_n0 78) := rfl
set_option maxRecDepth 100000 in
set_option maxHeartbeats 4000000 in
theorem pa_st79 {D : va_G} {cA : Nat → ClassId} {b : Nat} {tS aK aV : Nat → Nat} {κ0 : Nat → va_E} : pa_k (pa_G D cA b tS aK aV) b κ0 79 = fm_c (pa_G D cA b tS aK aV) 79 (pa_m0 79) (pa_n0 79) := rfl
set_option maxRecDepth 100000 in
set_option maxHeartbeats 4000000 in
theorem pa_st80 {D : va_G} {cA : Nat → ClassId} {b : Nat} {tS aK aV : Nat → Nat} {κ0 : Nat → va_E} : pa_k (pa_G D cA b tS aK aV) b κ0 80 = fm_c (pa_G D cA b tS aK aV) 80 (pa_m0 80) (pa_n0 80) := rfl
theorem pa_start {D : va_G} {cA : Nat → ClassId} {b : Nat} {tS aK aV : Nat → Nat} {κ0 : Nat → va_E} : ∀ p, p < 81 → pa_k (pa_G D cA b tS aK aV) b κ0 (pa_off p) = fm_c (pa_G D cA b tS aK aV) p (pa_m0 p) (pa_n0 p) := by
  intro p hp
  match p, hp with
  | 0, _ => exact pa_st0
  | 1, _ => exact pa_st1
  | 2, _ => exact pa_st2
  | 3, _ => exact pa_st3
  | 4, _ => exact pa_st4
  | 5, _ => exact pa_st5
  | 6, _ => exact pa_st6
  | 7, _ => exact pa_st7
  | 8, _ => exact pa_st8
  | 9, _ => exact pa_st9
  | 10, _ => exact pa_st10
  | 11, _ => exact pa_st11
  | 12, _ => exact pa_st12
  | 13, _ => exact pa_st13
  | 14, _ => exact pa_st14
  | 15, _ => exact pa_st15
  | 16, _ => exact pa_st16
  | 17, _ => exact pa_st17
  | 18, _ => exact pa_st18
  | 19, _ => exact pa_st19
  | 20, _ => exact pa_st20
  | 21, _ => exact pa_st21
  | 22, _ => exact pa_st22
  | 23, _ => exact pa_st23
  | 24, _ => exact pa_st24
  | 25, _ => exact pa_st25
  | 26, _ => exact pa_st26
  | 27, _ => exact pa_st27
  | 28, _ => exact pa_st28
  | 29, _ => exact pa_st29
  | 30, _ => exact pa_st30
  | 31, _ => exact pa_st31
  | 32, _ => exact pa_st32
  | 33, _ => exact pa_st33
  | 34, _ => exact pa_st34
  | 35, _ => exact pa_st35
  | 36, _ => exact pa_st36
  | 37, _ => exact pa_st37
  | 38, _ => exact pa_st38
  | 39, _ => exact pa_st39
  | 40, _ => exact pa_st40
  | 41, _ => exact pa_st41
  | 42, _ => exact pa_st42
  | 43, _ => exact pa_st43
  | 44, _ => exact pa_st44
  | 45, _ => exact pa_st45
  | 46, _ => exact pa_st46
  | 47, _ => exact pa_st47
  | 48, _ => exact pa_st48
  | 49, _ => exact pa_st49
  | 50, _ => exact pa_st50
  | 51, _ => exact pa_st51
  | 52, _ => exact pa_st52
  | 53, _ => exact pa_st53
  | 54, _ => exact pa_st54
  | 55, _ => exact pa_st55
  | 56, _ => exact pa_st56
  | 57, _ => exact pa_st57
  | 58, _ => exact pa_st58
  | 59, _ => exact pa_st59
  | 60, _ => exact pa_st60
  | 61, _ => exact pa_st61
  | 62, _ => exact pa_st62
  | 63, _ => exact pa_st63
  | 64, _ => exact pa_st64
  | 65, _ => exact pa_st65
  | 66, _ => exact pa_st66
  | 67, _ => exact pa_st67
  | 68, _ => exact pa_st68
  | 69, _ => exact pa_st69
  | 70, _ => exact pa_st70
  | 71, _ => exact pa_st71
  | 72, _ => exact pa_st72
  | 73, _ => exact pa_st73
  | 74, _ => exact pa_st74
  | 75, _ => exact pa_st75
  | 76, _ => exact pa_st76
  | 77, _ => exact pa_st77
  | 78, _ => exact pa_st78
  | 79, _ => exact pa_st79
  | 80, _ => exact pa_st80
  | n + 81, h => exact absurd h (by omega)
theorem pa_inv0 : Inv pa_m0 pa_n0 := by
  refine ⟨0, fun _ _ => 0, ⟨by decide, rfl, rfl⟩, fun b hb => absurd hb (Nat.not_lt_zero b), ?_, ⟨rfl, rfl, rfl⟩, ?_, ?_, ⟨0, by decide, rfl, rfl, fun i _ h => absurd h (Nat.not_lt_zero i)⟩, Or.inl ⟨rfl, rfl⟩, ?_⟩
  · have key : ∀ b, b < 6 → pa_m0 (34 + b) 0 = nI b := by decide +kernel
    exact key
  · have key : ∀ k, k < 8 → pa_m0 59 k = pa_m0 4 k := by decide +kernel
    exact key
  · intro s hs
    have key : ∀ s, s < 8 → pa_m0 66 s = nI 0 ∧ pa_m0 (18 + s) 0 = -1 := by decide +kernel
    exact Or.inl (key s hs)
  · have key : ∀ i, i < 33 → pa_m0 72 i = pa_wd.getD i 0 := by decide +kernel
    exact key
