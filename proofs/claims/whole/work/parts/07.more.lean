theorem fm_kI {p : Nat} (h : fm_k p = 0) : 34 ≤ p ∧ p < 46 := by
  have hl := fm_k_lt h (by decide)
  have key : ∀ q, q < 81 → fm_k q = 0 → 34 ≤ q ∧ q < 46 := by decide
  exact key p hl h
theorem fm_kJ {p : Nat} (h : fm_k p = 2) : 18 ≤ p ∧ p < 26 := by
  have hl := fm_k_lt h (by decide)
  have key : ∀ q, q < 81 → fm_k q = 2 → 18 ≤ q ∧ q < 26 := by decide
  exact key p hl h
theorem fm_kB {p : Nat} (h : fm_k p = 0) : fm_k (p + 12) = 7 := by
  have hl := fm_k_lt h (by decide)
  have key : ∀ q, q < 81 → fm_k q = 0 → fm_k (q + 12) = 7 := by decide
  exact key p hl h
theorem fm_kS {p : Nat} (h : fm_k p = 2) : fm_k (p + 8) = 8 := by
  have hl := fm_k_lt h (by decide)
  have key : ∀ q, q < 81 → fm_k q = 2 → fm_k (q + 8) = 8 := by decide
  exact key p hl h
theorem fm_in_lt {i : Int32} {n : Nat} (h : fm_in i n = true) : i.toNatClampNeg < n := Nat.not_le.mp fun q => fm_in_vp h (Or.inr q)
theorem fm_k18 {i : Int32} (h : fm_in i 8 = true) : fm_k (18 + i.toNatClampNeg) = 2 := by
  have key : ∀ q, q < 8 → fm_k (18 + q) = 2 := by decide
  exact key _ (fm_in_lt h)
theorem fm_k34 {i : Int32} (h : fm_in i 6 = true) : fm_k (34 + i.toNatClampNeg) = 0 := by
  have key : ∀ q, q < 6 → fm_k (34 + q) = 0 := by decide
  exact key _ (fm_in_lt h)
theorem fm_k40 {i : Int32} (h : fm_in i 6 = true) : fm_k (40 + i.toNatClampNeg) = 0 := by
  have key : ∀ q, q < 6 → fm_k (40 + q) = 0 := by decide
  exact key _ (fm_in_lt h)
theorem fm_kcn0 {p : Nat} (h : fm_k p = 0) : fm_k p < 7 ∧ fm_cn p = RX0 := by
  constructor
  · omega
  · simp only [fm_cn, h]
theorem fm_kcn2 {p : Nat} (h : fm_k p = 2) : fm_k p < 7 ∧ fm_cn p = RX2 := by
  constructor
  · omega
  · simp only [fm_cn, h]
def fm_b01 (x : Int32) : Bool := decide (x = 0) || decide (x = 1)
theorem fm_b01_n {x : Int32} (h : fm_b01 x = true) : narrow .boolean (.int x) = .int x := by
  simp only [fm_b01, Bool.or_eq_true, decide_eq_true_eq] at h
  rcases h with rfl | rfl <;> rfl
section FMN
variable {ρ : Type} {X : fm_X} {G : fm_G} {l : Launch} {cc : ByteArray} {own : String} {n : Nat} {ret : Option FieldType} {fr lo : Nat} {F : ρ → State → Prop} {o : Option ρ} {μ : fm_I} {ν : fm_L} {pc : Nat} {lv : List (Nat × Value)} {st : List Value}
theorem fm_aaldB2 (C : fm_C X G l cc own n ret fr lo) {i : Int32} (hin : fm_in i 6 = true) (hd : decode cc pc = .ok (.aaload, 1)) (kk : fm_J X G n F o μ ν (pc + 1) lv (.ref (G.2.2.1 (34 + i.toNatClampNeg)) :: st)) : fm_J X G n F o μ ν pc lv (.int i :: .ref (G.2.2.1 2) :: st) := fm_aaldB (p := 2) C (by decide) hin hd kk
theorem fm_aaldB3 (C : fm_C X G l cc own n ret fr lo) {i : Int32} (hin : fm_in i 6 = true) (hd : decode cc pc = .ok (.aaload, 1)) (kk : fm_J X G n F o μ ν (pc + 1) lv (.ref (G.2.2.1 (40 + i.toNatClampNeg)) :: st)) : fm_J X G n F o μ ν pc lv (.int i :: .ref (G.2.2.1 3) :: st) := fm_aaldB (p := 3) C (by decide) hin hd kk
theorem fm_zret0 {F : Int32 → State → Prop} (C : fm_C X G l cc own n ret fr lo) (hF : F = fun r => fm_Qi X G (r, μ, ν)) {ty : FieldType} {v : Int32} (hr0 : ret = some ty) (hn : narrow ty (.int v) = .int v) (hd : decode cc pc = .ok (.ireturn, 1)) : fm_J X G n F (some v) μ ν pc lv [.int v] := by
  intro r hr
  cases hr
  subst hF
  exact fm_zret C rfl hr0 hn hd _ rfl
theorem fm_lret0 {F : Int64 → State → Prop} (C : fm_C X G l cc own n ret fr lo) (hF : F = fun r => fm_Ql X G (r, μ, ν)) {v : Int64} (hr0 : ret = some .long) (hd : decode cc pc = .ok (.lreturn, 1)) : fm_J X G n F (some v) μ ν pc lv [.long v] := by
  intro r hr
  cases hr
  subst hF
  exact fm_lret C rfl hr0 hd _ rfl
theorem fm_aret0 {F : Option Nat → State → Prop} {x : Option Nat} (C : fm_C X G l cc own n ret fr lo) (hF : F = fun r => fm_Qq X G (r, μ, ν)) {v : Value} {nm : String} (hr0 : ret = some (.object nm)) (hv : v = fm_v G x) (hd : decode cc pc = .ok (.areturn, 1)) : fm_J X G n F (some x) μ ν pc lv [v] := by
  intro r hr
  cases hr
  subst hF
  exact fm_aret C rfl hr0 hv hd _ rfl
theorem fm_aretc {p : Nat} {F : fm_I × fm_L → State → Prop} (C : fm_C X G l cc own n ret fr lo) (hF : F = fun r => fm_Qq X G (some p, r)) {v : Value} {nm : String} (hr0 : ret = some (.object nm)) (hv : v = .ref (G.2.2.1 p)) (hd : decode cc pc = .ok (.areturn, 1)) : fm_J X G n F (some (μ, ν)) μ ν pc lv [v] := by
  intro r hr
  cases hr
  subst hF
  exact fm_aret (x := some p) C rfl hr0 hv hd _ rfl
/-! texts -/
def fm_ch (i k : Nat) : Int32 := (fm_tb5.getD i []).getD k 0 &&& 255
theorem fm_ldcS (C : fm_C X G l cc RX3 n ret fr lo) {i ix : Nat} (hi : i < 5) (hd : decode cc pc = .ok (.ldc ix, 2)) (kk : fm_J X G n F o μ ν (pc + 2) lv (.ref (G.2.2.2.2.1 i) :: st)) (hx : fm_ix i = ix := by rfl) : fm_J X G n F o μ ν pc lv st := fun r hr H locs ls hP hS hL => by
  subst hx
  exact va_ldcS C.1 C.2.1 C.2.2.2.1 (C.2.2.2.2.2.2.2.2.2.2.2.2.2.1 i hi) hd (kk r hr H locs ls hP hS hL)
theorem fm_cVi0 (C : fm_C X G l cc own n ret fr lo) {y : MethodName} {cc' : ByteArray} {n' fr' lo' k ix : Nat} {ret' : Option FieldType} {As rest : List Value} {p : Nat} {r : Int32} (hM : fm_Mi l G y cc' n' ret' fr' lo' (.ref (G.2.2.1 p) :: As) μ ν (r, μ, ν)) (ok : fm_okV y cc' n' ret' k) (hp : fm_k p < 7 ∧ fm_cn p = y.cls) (hl : Cond.methodLink own ix y ∈ fm_tb) (hd : decode cc pc = .ok (.invokevirtual ix, 3)) (hR : fr' + 1 ≤ fr ∧ 8 + (n' + 11) + lo' ≤ lo) (hk : As.length = k) (hst : st = As.reverse ++ .ref (G.2.2.1 p) :: rest) (hW : (rest.map fun v => v.category).sum ≤ 8) (kk : fm_J X G n F o μ ν (pc + 3) lv (.int r :: rest)) : fm_J X G n F o μ ν pc lv st := fm_cVi C hM ok hp hl hd hR hk hst hW kk
theorem fm_cSi0 (C : fm_C X G l cc own n ret fr lo) {y : MethodName} {cc' : ByteArray} {n' fr' lo' k ix : Nat} {ret' : Option FieldType} {As rest : List Value} {r : Int32} (hM : fm_Mi l G y cc' n' ret' fr' lo' As μ ν (r, μ, ν)) (ok : fm_okS y cc' n' ret' k) (hl : Cond.methodLink own ix y ∈ fm_tb) (hd : decode cc pc = .ok (.invokestatic ix, 3)) (hR : fr' + 1 ≤ fr ∧ 8 + (n' + 11) + lo' ≤ lo) (hk : As.length = k) (hst : st = As.reverse ++ rest) (hW : (rest.map fun v => v.category).sum ≤ 8) (kk : fm_J X G n F o μ ν (pc + 3) lv (.int r :: rest)) : fm_J X G n F o μ ν pc lv st := fm_cSi C hM ok hl hd hR hk hst hW kk
theorem fm_cNi0 (C : fm_C X G l cc own n ret fr lo) {y : MethodName} {cc' : ByteArray} {n' fr' lo' k ix : Nat} {ret' : Option FieldType} {As rest : List Value} {r : Int32} {host : String} (hM : fm_Mi l G y cc' n' ret' fr' lo' As μ ν (r, μ, ν)) (ok : fm_okS y cc' n' ret' k) (hl : va_Nw (.methodLinkNest own ix y host) (fm_s X)) (hd : decode cc pc = .ok (.invokestatic ix, 3)) (hR : fr' + 1 ≤ fr ∧ 8 + (n' + 11) + lo' ≤ lo) (hk : As.length = k) (hst : st = As.reverse ++ rest) (hW : (rest.map fun v => v.category).sum ≤ 8) (kk : fm_J X G n F o μ ν (pc + 3) lv (.int r :: rest)) : fm_J X G n F o μ ν pc lv st := fm_cNi C hM ok hl hd hR hk hst hW kk
theorem fm_cVl0 (C : fm_C X G l cc own n ret fr lo) {y : MethodName} {cc' : ByteArray} {n' fr' lo' k ix : Nat} {ret' : Option FieldType} {As rest : List Value} {p : Nat} {r : Int64} (hM : fm_Ml l G y cc' n' ret' fr' lo' (.ref (G.2.2.1 p) :: As) μ ν (r, μ, ν)) (ok : fm_okV y cc' n' ret' k) (hp : fm_k p < 7 ∧ fm_cn p = y.cls) (hl : Cond.methodLink own ix y ∈ fm_tb) (hd : decode cc pc = .ok (.invokevirtual ix, 3)) (hR : fr' + 1 ≤ fr ∧ 8 + (n' + 11) + lo' ≤ lo) (hk : As.length = k) (hst : st = As.reverse ++ .ref (G.2.2.1 p) :: rest) (hW : (rest.map fun v => v.category).sum ≤ 8) (kk : fm_J X G n F o μ ν (pc + 3) lv (.long r :: rest)) : fm_J X G n F o μ ν pc lv st := fm_cVl C hM ok hp hl hd hR hk hst hW kk
theorem fm_cSl0 (C : fm_C X G l cc own n ret fr lo) {y : MethodName} {cc' : ByteArray} {n' fr' lo' k ix : Nat} {ret' : Option FieldType} {As rest : List Value} {r : Int64} (hM : fm_Ml l G y cc' n' ret' fr' lo' As μ ν (r, μ, ν)) (ok : fm_okS y cc' n' ret' k) (hl : Cond.methodLink own ix y ∈ fm_tb) (hd : decode cc pc = .ok (.invokestatic ix, 3)) (hR : fr' + 1 ≤ fr ∧ 8 + (n' + 11) + lo' ≤ lo) (hk : As.length = k) (hst : st = As.reverse ++ rest) (hW : (rest.map fun v => v.category).sum ≤ 8) (kk : fm_J X G n F o μ ν (pc + 3) lv (.long r :: rest)) : fm_J X G n F o μ ν pc lv st := fm_cSl C hM ok hl hd hR hk hst hW kk
theorem fm_cNl0 (C : fm_C X G l cc own n ret fr lo) {y : MethodName} {cc' : ByteArray} {n' fr' lo' k ix : Nat} {ret' : Option FieldType} {As rest : List Value} {r : Int64} {host : String} (hM : fm_Ml l G y cc' n' ret' fr' lo' As μ ν (r, μ, ν)) (ok : fm_okS y cc' n' ret' k) (hl : va_Nw (.methodLinkNest own ix y host) (fm_s X)) (hd : decode cc pc = .ok (.invokestatic ix, 3)) (hR : fr' + 1 ≤ fr ∧ 8 + (n' + 11) + lo' ≤ lo) (hk : As.length = k) (hst : st = As.reverse ++ rest) (hW : (rest.map fun v => v.category).sum ≤ 8) (kk : fm_J X G n F o μ ν (pc + 3) lv (.long r :: rest)) : fm_J X G n F o μ ν pc lv st := fm_cNl C hM ok hl hd hR hk hst hW kk
theorem fm_cVq0 (C : fm_C X G l cc own n ret fr lo) {y : MethodName} {cc' : ByteArray} {n' fr' lo' k ix : Nat} {ret' : Option FieldType} {As rest : List Value} {p : Nat} {r : Option Nat} (hM : fm_Mq l G y cc' n' ret' fr' lo' (.ref (G.2.2.1 p) :: As) μ ν (r, μ, ν)) (ok : fm_okV y cc' n' ret' k) (hp : fm_k p < 7 ∧ fm_cn p = y.cls) (hl : Cond.methodLink own ix y ∈ fm_tb) (hd : decode cc pc = .ok (.invokevirtual ix, 3)) (hR : fr' + 1 ≤ fr ∧ 8 + (n' + 11) + lo' ≤ lo) (hk : As.length = k) (hst : st = As.reverse ++ .ref (G.2.2.1 p) :: rest) (hW : (rest.map fun v => v.category).sum ≤ 8) (kk : fm_J X G n F o μ ν (pc + 3) lv (fm_v G r :: rest)) : fm_J X G n F o μ ν pc lv st := fm_cVq C hM ok hp hl hd hR hk hst hW kk
theorem fm_cSq0 (C : fm_C X G l cc own n ret fr lo) {y : MethodName} {cc' : ByteArray} {n' fr' lo' k ix : Nat} {ret' : Option FieldType} {As rest : List Value} {r : Option Nat} (hM : fm_Mq l G y cc' n' ret' fr' lo' As μ ν (r, μ, ν)) (ok : fm_okS y cc' n' ret' k) (hl : Cond.methodLink own ix y ∈ fm_tb) (hd : decode cc pc = .ok (.invokestatic ix, 3)) (hR : fr' + 1 ≤ fr ∧ 8 + (n' + 11) + lo' ≤ lo) (hk : As.length = k) (hst : st = As.reverse ++ rest) (hW : (rest.map fun v => v.category).sum ≤ 8) (kk : fm_J X G n F o μ ν (pc + 3) lv (fm_v G r :: rest)) : fm_J X G n F o μ ν pc lv st := fm_cSq C hM ok hl hd hR hk hst hW kk
theorem fm_cNq0 (C : fm_C X G l cc own n ret fr lo) {y : MethodName} {cc' : ByteArray} {n' fr' lo' k ix : Nat} {ret' : Option FieldType} {As rest : List Value} {r : Option Nat} {host : String} (hM : fm_Mq l G y cc' n' ret' fr' lo' As μ ν (r, μ, ν)) (ok : fm_okS y cc' n' ret' k) (hl : va_Nw (.methodLinkNest own ix y host) (fm_s X)) (hd : decode cc pc = .ok (.invokestatic ix, 3)) (hR : fr' + 1 ≤ fr ∧ 8 + (n' + 11) + lo' ≤ lo) (hk : As.length = k) (hst : st = As.reverse ++ rest) (hW : (rest.map fun v => v.category).sum ≤ 8) (kk : fm_J X G n F o μ ν (pc + 3) lv (fm_v G r :: rest)) : fm_J X G n F o μ ν pc lv st := fm_cNq C hM ok hl hd hR hk hst hW kk
theorem fm_cVqc (C : fm_C X G l cc own n ret fr lo) {y : MethodName} {cc' : ByteArray} {n' fr' lo' k ix : Nat} {ret' : Option FieldType} {As rest : List Value} {p q : Nat} {r : fm_I × fm_L} (hM : fm_Mq l G y cc' n' ret' fr' lo' (.ref (G.2.2.1 p) :: As) μ ν (some q, r)) (ok : fm_okV y cc' n' ret' k) (hp : fm_k p < 7 ∧ fm_cn p = y.cls) (hl : Cond.methodLink own ix y ∈ fm_tb) (hd : decode cc pc = .ok (.invokevirtual ix, 3)) (hR : fr' + 1 ≤ fr ∧ 8 + (n' + 11) + lo' ≤ lo) (hk : As.length = k) (hst : st = As.reverse ++ .ref (G.2.2.1 p) :: rest) (hW : (rest.map fun v => v.category).sum ≤ 8) (kk : fm_J X G n F o r.1 r.2 (pc + 3) lv (.ref (G.2.2.1 q) :: rest)) : fm_J X G n F o μ ν pc lv st := fm_cVq C hM ok hp hl hd hR hk hst hW kk
/-! Math -/
theorem fm_mmax (C : fm_C X G l cc own n ret fr lo) {x y : Int32} {ix : Nat} (hl : Cond.methodLink own ix yJ9_max_7cf53 ∈ fm_tb) (hd : decode cc pc = .ok (.invokestatic ix, 3)) (hR : 1 ≤ fr ∧ (st.map fun v => v.category).sum + 13 ≤ lo) (kk : fm_J X G n F o μ ν (pc + 3) lv (.int (if x < y then y else x) :: st)) : fm_J X G n F o μ ν pc lv (.int y :: .int x :: st) := fun r hr H locs ls hP hS hL =>
  va_mmax C.1 C.2.1 (C.2.2.1.trans hL.1.symm) C.2.2.2.1 (C.2.2.2.2.1 _ hl) (C.2.2.2.2.1 _ m_st_J9_max_7cf53) (C.2.2.2.2.1 _ m_ini_J9) (C.2.2.2.2.1 _ m_cd_J9_max_7cf53) (by rw [C.2.2.2.2.2.2.2.1]; exact hR.1) (by rw [C.2.2.2.2.2.2.2.1]; exact hR.2) (Nat.zero_le _) (Nat.zero_le _) hd (kk r hr H locs ls hP hS hL)
theorem fm_mmin (C : fm_C X G l cc own n ret fr lo) {x y : Int32} {ix : Nat} (hl : Cond.methodLink own ix yJ9_min_7cf53 ∈ fm_tb) (hd : decode cc pc = .ok (.invokestatic ix, 3)) (hR : 1 ≤ fr ∧ (st.map fun v => v.category).sum + 13 ≤ lo) (kk : fm_J X G n F o μ ν (pc + 3) lv (.int (if y < x then y else x) :: st)) : fm_J X G n F o μ ν pc lv (.int y :: .int x :: st) := fun r hr H locs ls hP hS hL =>
  va_mmin C.1 C.2.1 (C.2.2.1.trans hL.1.symm) C.2.2.2.1 (C.2.2.2.2.1 _ hl) (C.2.2.2.2.1 _ m_st_J9_min_7cf53) (C.2.2.2.2.1 _ m_ini_J9) (C.2.2.2.2.1 _ m_cd_J9_min_7cf53) (by rw [C.2.2.2.2.2.2.2.1]; exact hR.1) (by rw [C.2.2.2.2.2.2.2.1]; exact hR.2) (Nat.zero_le _) (Nat.zero_le _) hd (kk r hr H locs ls hP hS hL)
theorem fm_mabs (C : fm_C X G l cc own n ret fr lo) {x : Int32} {ix : Nat} (hl : Cond.methodLink own ix yJ9_abs_0f7a4 ∈ fm_tb) (hd : decode cc pc = .ok (.invokestatic ix, 3)) (hR : 1 ≤ fr ∧ (st.map fun v => v.category).sum + 13 ≤ lo) (kk : fm_J X G n F o μ ν (pc + 3) lv (.int (if 0 ≤ x then x else 0 - x) :: st)) : fm_J X G n F o μ ν pc lv (.int x :: st) := fun r hr H locs ls hP hS hL =>
  va_mabs C.1 C.2.1 (C.2.2.1.trans hL.1.symm) C.2.2.2.1 (C.2.2.2.2.1 _ hl) (C.2.2.2.2.1 _ m_st_J9_abs_0f7a4) (C.2.2.2.2.1 _ m_ini_J9) (C.2.2.2.2.1 _ m_cd_J9_abs_0f7a4) (by rw [C.2.2.2.2.2.2.2.1]; exact hR.1) (by rw [C.2.2.2.2.2.2.2.1]; exact hR.2) (Nat.zero_le _) (Nat.zero_le _) hd (kk r hr H locs ls hP hS hL)
end FMN
