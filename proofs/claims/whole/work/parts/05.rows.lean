/-! JUDGEMENTS of the flat memory -/
def fm_ix (i : Nat) : Nat := match i with
  | 0 => 78
  | 1 => 90
  | 2 => 95
  | 3 => 97
  | _ => 106
/-- what of a run's start is never written: static rows, texts, nest links -/
def fm_Z (G : fm_G) (A : Nat → Prop) (U : State) (H : Heap) : Prop :=
  (∀ j, j < 4 → va_Z (fm_sc j).1 (fm_sc j).2 "[I" (.ref (G.2.2.2.1 j)) A U H ∧ va_T .int (G.2.2.2.1 j) 7 (fun i => .int ((fm_sl j).getD i 0)) A U H) ∧
  (va_Nw (.methodLinkNest RX0 54 yX5_isOdd RX5) U ∧ va_Nw (.methodLinkNest RX1 78 yX5_turnsOfSize RX5) U ∧ va_Nw (.methodLinkNest RX1 85 yX5_isOdd RX5) U ∧ va_Nw (.methodLinkNest RX0 81 yX5_isKind RX5) U) ∧
  (∀ i, i < 5 → vk_R RX3 (fm_ix i) (fm_tx i) (G.2.2.2.2.1 i) U) ∧ vk_S 5 fm_tl fm_tb5 G.2.2.2.2.1 G.2.2.2.2.2 A U H ∧
  va_Z "java/lang/String" "COMPACT_STRINGS" "Z" (.int 1) A U H ∧ va_Zq "jdk/internal/util/Preconditions" "SIOOBE_FORMATTER" "Ljava/util/function/BiFunction;" A U H
theorem fm_Z.kept {G : fm_G} {A : Nat → Prop} {s U : State} {H H1 : Heap} (h : fm_Z G A s H) (hW : s.WarmedH U.vm) (hq : ∀ a : Nat, a < H.size → ¬ A a → H1[a]? = H[a]?) : fm_Z G A U H1 := by
  obtain ⟨h1, ⟨n1, n2, n3, n4⟩, h3, h4, h5, h6⟩ := h
  exact ⟨fun j hj => ⟨((h1 j hj).1.kept hq).moved hW.alike, ((h1 j hj).2.kept hq).moved hW.alike⟩, ⟨n1.warmM hW, n2.warmM hW, n3.warmM hW, n4.warmM hW⟩, fun i hi => (h3 i hi).warm hW, (h4.kept hq).moved hW.alike, (h5.kept hq).moved hW.alike, (h6.kept hq).moved hW.alike⟩
theorem fm_Z.narrow {G : fm_G} {A B : Nat → Prop} {U : State} {H : Heap} (h : fm_Z G A U H) (hAB : ∀ q, B q → A q) : fm_Z G B U H := by
  obtain ⟨h1, h2, h3, h4, h5, h6⟩ := h
  exact ⟨fun j hj => ⟨(h1 j hj).1.narrow hAB, (h1 j hj).2.narrow hAB⟩, h2, h3, h4.narrow hAB, h5.narrow hAB, h6.narrow hAB⟩
/-- a state that holds the memory -/
def fm_At (G : fm_G) (μ : fm_I) (ν : fm_L) (U : State) : Prop := va_P G.1 vwCl (fm_ws G μ ν) U.heap ∧ va_K G.1 vwCl (fm_ty G) U ∧ fm_Z G (fm_A G) U U.heap
theorem fm_At.blind {G : fm_G} {μ : fm_I} {ν : fm_L} {U : State} {g : JFrame} {mk : MethodId} {a : Array Value} (h : fm_At G μ ν U) : fm_At G μ ν (U.calling g mk a) := by
  obtain ⟨h1, h2, h3⟩ := h
  exact ⟨h1, va_K.moved (u := U) (U := U.calling g mk a) (Vm.Alike.refl U.vm) h2, h3.kept (State.WarmedH.refl U) (fun _ _ _ => rfl)⟩
abbrev fm_X : Type := Program × Launch × Env × Room × State × MethodId × Array Value × List Frame × Method × Code
abbrev fm_s (X : fm_X) : State := X.2.2.2.2.1
abbrev fm_m (X : fm_X) : MethodId := X.2.2.2.2.2.1
abbrev fm_as (X : fm_X) : Array Value := X.2.2.2.2.2.2.1
abbrev fm_be (X : fm_X) : List Frame := X.2.2.2.2.2.2.2.1
abbrev fm_me (X : fm_X) : Method := X.2.2.2.2.2.2.2.2.1
abbrev fm_co (X : fm_X) : Code := X.2.2.2.2.2.2.2.2.2
/-- what holds all along a method's walk -/
def fm_C (X : fm_X) (G : fm_G) (l : Launch) (cc : ByteArray) (own : String) (n : Nat) (ret : Option FieldType) (fr lo : Nat) : Prop :=
  X.1.tables.exec = Jvm.exec ∧ (fm_co X).code = cc ∧ (fm_co X).maxLocals = n ∧ (fm_s X).vm.findClass own = some (fm_m X).cls ∧ (∀ w ∈ fm_tb, w.before (fm_as X) (fm_s X) = true) ∧ (fm_me X).locks = false ∧ (fm_me X).sig.returnType = ret ∧ X.2.2.2.1 = ({ frames := fr, cells := 0, slots := 0, locals := lo } : Room) ∧ X.2.1 = l ∧ va_K G.1 vwCl (fm_ty G) (fm_s X) ∧ fm_inj G ∧ fm_Z G (fm_A G) (fm_s X) (fm_s X).heap
/-- a local, by its number -/
def fm_lk : List (Nat × Value) → Nat → Option Value
  | [], _ => none
  | (k, v) :: l, i => bif Nat.beq k i then some v else fm_lk l i
theorem fm_lk_in : ∀ {l : List (Nat × Value)} {i : Nat} {v : Value}, fm_lk l i = some v → (i, v) ∈ l
  | [], _, _, h => by cases h
  | (k, u) :: l, i, v, h => by
    unfold fm_lk at h
    cases hb : Nat.beq k i with
    | true =>
      rw [hb] at h
      have e := Nat.eq_of_beq_eq_true hb
      cases h
      subst e
      exact List.mem_cons_self
    | false =>
      rw [hb] at h
      exact List.mem_cons_of_mem _ (fm_lk_in h)
theorem fm_lk_at {ls : Array Slot} {n : Nat} {l : List (Nat × Value)} {i : Nat} {v : Value} (h : lv_has ls n l) (hl : fm_lk l i = some v) : ls[i]? = some (.val v) := h.2.2 (i, v) (fm_lk_in hl)
/-- what a list of locals is known to hold -/
def fm_sb (lv : List (Nat × Value)) : List (Nat × Value) → Prop
  | [] => True
  | q :: l => fm_lk lv q.1 = some q.2 ∧ fm_sb lv l
theorem fm_sb_at {lv : List (Nat × Value)} : ∀ {l : List (Nat × Value)}, fm_sb lv l → ∀ q ∈ l, fm_lk lv q.1 = some q.2
  | [], _, q, h => by cases h
  | a :: l, hs, q, h => by
    rcases List.mem_cons.mp h with rfl | h
    · exact hs.1
    · exact fm_sb_at hs.2 q h
theorem fm_sb_has {ls : Array Slot} {n : Nat} {lv l : List (Nat × Value)} (h : lv_has ls n lv) (hs : fm_sb lv l) : lv_has ls n l := ⟨h.1, h.2.1, fun q hq => fm_lk_at h (fm_sb_at hs q hq)⟩
def fm_W (X : fm_X) (G : fm_G) (n : Nat) (Q : State → Prop) (μ : fm_I) (ν : fm_L) (pc : Nat) (lv : List (Nat × Value)) (st : List Value) : Prop :=
  ∀ (H : Heap) (locs : List Loc) (ls : Array Slot), va_P G.1 vwCl (fm_ws G μ ν) H → va_S (fm_A G) (fm_s X).heap H locs → lv_has ls n lv → W X.1 X.2.1 X.2.2.1 X.2.2.2.1 (fm_s X) (fm_m X) (fm_as X) (fm_be X) (fm_me X) (fm_co X) H locs 0 0 Q (F0 (fm_m X) pc ls st)
/-- the machine does what the program o says -/
def fm_J {ρ : Type} (X : fm_X) (G : fm_G) (n : Nat) (F : ρ → State → Prop) (o : Option ρ) (μ : fm_I) (ν : fm_L) (pc : Nat) (lv : List (Nat × Value)) (st : List Value) : Prop :=
  ∀ r, o = some r → fm_W X G n (F r) μ ν pc lv st
def fm_g {ρ : Type} (b : Bool) (o : Option ρ) : Option ρ := bif b then o else none
def fm_in (i : Int32) (n : Nat) : Bool := decide (0 ≤ i.toInt) && decide (i.toInt < n)
theorem fm_in_vp {i : Int32} {n : Nat} (h : fm_in i n = true) : vp_in i n := by
  simp only [fm_in, Bool.and_eq_true, decide_eq_true_eq] at h
  exact vp_in_iff.mpr h
/-- a reference or none -/
def fm_o {ρ α : Type} (x : Option α) (a : Option ρ) (b : α → Option ρ) : Option ρ := match x with
  | none => a
  | some y => b y
def fm_v (G : fm_G) (x : Option Nat) : Value := va_rf (x.map G.2.2.1)
/-! ends -/
def fm_Qi (X : fm_X) (G : fm_G) (r : Int32 × fm_I × fm_L) : State → Prop := MQ (fm_be X) (va_Qi (fun a (u : fm_I × fm_L) => a = r.1 ∧ u = r.2) (fun u t => fm_At G u.1 u.2 t) (fm_A G)) (fm_as X) (fm_s X) 0 0 (fm_A G)
def fm_Ql (X : fm_X) (G : fm_G) (r : Int64 × fm_I × fm_L) : State → Prop := MQ (fm_be X) (va_Ql (fun a (u : fm_I × fm_L) => a = r.1 ∧ u = r.2) (fun u t => fm_At G u.1 u.2 t) (fm_A G)) (fm_as X) (fm_s X) 0 0 (fm_A G)
def fm_Qv (X : fm_X) (G : fm_G) (r : fm_I × fm_L) : State → Prop := MQ (fm_be X) (va_Qv (fun (u : fm_I × fm_L) => u = r) (fun u t => fm_At G u.1 u.2 t) (fm_A G)) (fm_as X) (fm_s X) 0 0 (fm_A G)
def fm_Qq (X : fm_X) (G : fm_G) (r : Option Nat × fm_I × fm_L) : State → Prop := MQ (fm_be X) (va_Qq (fun a (u : fm_I × fm_L) => a = r.1.map G.2.2.1 ∧ u = r.2) (fun u t => fm_At G u.1 u.2 t) (fm_A G)) (fm_as X) (fm_s X) 0 0 (fm_A G)
/-! contracts -/
def fm_Mi (l : Launch) (G : fm_G) (y : MethodName) (cc : ByteArray) (n : Nat) (ret : Option FieldType) (fr lo : Nat) (As : List Value) (μ : fm_I) (ν : fm_L) (r : Int32 × fm_I × fm_L) : Prop :=
  Met l y (Cond.code y cc n ret :: fm_tb) { frames := fr, cells := 0, slots := 0, locals := lo } (va_Pc As (fun U => fm_inj G ∧ fm_At G μ ν U)) (va_Qi (fun a (u : fm_I × fm_L) => a = r.1 ∧ u = r.2) (fun u t => fm_At G u.1 u.2 t) (fm_A G)) 0 0 (fm_A G)
def fm_Ml (l : Launch) (G : fm_G) (y : MethodName) (cc : ByteArray) (n : Nat) (ret : Option FieldType) (fr lo : Nat) (As : List Value) (μ : fm_I) (ν : fm_L) (r : Int64 × fm_I × fm_L) : Prop :=
  Met l y (Cond.code y cc n ret :: fm_tb) { frames := fr, cells := 0, slots := 0, locals := lo } (va_Pc As (fun U => fm_inj G ∧ fm_At G μ ν U)) (va_Ql (fun a (u : fm_I × fm_L) => a = r.1 ∧ u = r.2) (fun u t => fm_At G u.1 u.2 t) (fm_A G)) 0 0 (fm_A G)
def fm_Mv (l : Launch) (G : fm_G) (y : MethodName) (cc : ByteArray) (n : Nat) (ret : Option FieldType) (fr lo : Nat) (As : List Value) (μ : fm_I) (ν : fm_L) (r : fm_I × fm_L) : Prop :=
  Met l y (Cond.code y cc n ret :: fm_tb) { frames := fr, cells := 0, slots := 0, locals := lo } (va_Pc As (fun U => fm_inj G ∧ fm_At G μ ν U)) (va_Qv (fun (u : fm_I × fm_L) => u = r) (fun u t => fm_At G u.1 u.2 t) (fm_A G)) 0 0 (fm_A G)
def fm_Mq (l : Launch) (G : fm_G) (y : MethodName) (cc : ByteArray) (n : Nat) (ret : Option FieldType) (fr lo : Nat) (As : List Value) (μ : fm_I) (ν : fm_L) (r : Option Nat × fm_I × fm_L) : Prop :=
  Met l y (Cond.code y cc n ret :: fm_tb) { frames := fr, cells := 0, slots := 0, locals := lo } (va_Pc As (fun U => fm_inj G ∧ fm_At G μ ν U)) (va_Qq (fun a (u : fm_I × fm_L) => a = r.1.map G.2.2.1 ∧ u = r.2) (fun u t => fm_At G u.1 u.2 t) (fm_A G)) 0 0 (fm_A G)

theorem fm_Mi_of {l : Launch} {G : fm_G} {y : MethodName} {cc : ByteArray} {n : Nat} {ret : Option FieldType} {fr lo : Nat} {As : List Value} {μ : fm_I} {ν : fm_L} {r : Int32 × fm_I × fm_L} (hy : plainName y.cls = true) (hn : (lg_sl As).length ≤ n)
    (body : ∀ X : fm_X, fm_C X G l cc y.cls n ret fr lo → fm_W X G n (fm_Qi X G r) μ ν 0 (lv_args 0 As) []) : fm_Mi l G y cc n ret fr lo As μ ν r := by
  refine Met.ofW (cc := cc) (maxL := n) (ret := ret) hy rfl ?_
  intro p e s m args below meth c s₁ B hml hv
  obtain ⟨rfl, hinj, hP, hK, hZ⟩ := hv
  have hts := atoms_spec (ws := Cond.code y cc n ret :: fm_tb) B.pre
  have hown : s.vm.findClass y.cls = some m.cls := findClass_of_methodNamed B.named
  have hl := lv_entry As (n := n) hn
  rw [lg_entry_eq]
  exact body (p, l, e, { frames := fr, cells := 0, slots := 0, locals := lo }, s, m, As.toArray, below, meth, c) ⟨B.exec, B.bytes, hml, hown, fun w hw => hts w (List.mem_cons_of_mem _ hw), B.notSynchronized, B.returns, rfl, rfl, hK, hinj, hZ⟩ s.heap [] _ hP va_S.rf hl
theorem fm_Ml_of {l : Launch} {G : fm_G} {y : MethodName} {cc : ByteArray} {n : Nat} {ret : Option FieldType} {fr lo : Nat} {As : List Value} {μ : fm_I} {ν : fm_L} {r : Int64 × fm_I × fm_L} (hy : plainName y.cls = true) (hn : (lg_sl As).length ≤ n)
    (body : ∀ X : fm_X, fm_C X G l cc y.cls n ret fr lo → fm_W X G n (fm_Ql X G r) μ ν 0 (lv_args 0 As) []) : fm_Ml l G y cc n ret fr lo As μ ν r := by
  refine Met.ofW (cc := cc) (maxL := n) (ret := ret) hy rfl ?_
  intro p e s m args below meth c s₁ B hml hv
  obtain ⟨rfl, hinj, hP, hK, hZ⟩ := hv
  have hts := atoms_spec (ws := Cond.code y cc n ret :: fm_tb) B.pre
  have hown : s.vm.findClass y.cls = some m.cls := findClass_of_methodNamed B.named
  have hl := lv_entry As (n := n) hn
  rw [lg_entry_eq]
  exact body (p, l, e, { frames := fr, cells := 0, slots := 0, locals := lo }, s, m, As.toArray, below, meth, c) ⟨B.exec, B.bytes, hml, hown, fun w hw => hts w (List.mem_cons_of_mem _ hw), B.notSynchronized, B.returns, rfl, rfl, hK, hinj, hZ⟩ s.heap [] _ hP va_S.rf hl
theorem fm_Mv_of {l : Launch} {G : fm_G} {y : MethodName} {cc : ByteArray} {n : Nat} {ret : Option FieldType} {fr lo : Nat} {As : List Value} {μ : fm_I} {ν : fm_L} {r : fm_I × fm_L} (hy : plainName y.cls = true) (hn : (lg_sl As).length ≤ n)
    (body : ∀ X : fm_X, fm_C X G l cc y.cls n ret fr lo → fm_W X G n (fm_Qv X G r) μ ν 0 (lv_args 0 As) []) : fm_Mv l G y cc n ret fr lo As μ ν r := by
  refine Met.ofW (cc := cc) (maxL := n) (ret := ret) hy rfl ?_
  intro p e s m args below meth c s₁ B hml hv
  obtain ⟨rfl, hinj, hP, hK, hZ⟩ := hv
  have hts := atoms_spec (ws := Cond.code y cc n ret :: fm_tb) B.pre
  have hown : s.vm.findClass y.cls = some m.cls := findClass_of_methodNamed B.named
  have hl := lv_entry As (n := n) hn
  rw [lg_entry_eq]
  exact body (p, l, e, { frames := fr, cells := 0, slots := 0, locals := lo }, s, m, As.toArray, below, meth, c) ⟨B.exec, B.bytes, hml, hown, fun w hw => hts w (List.mem_cons_of_mem _ hw), B.notSynchronized, B.returns, rfl, rfl, hK, hinj, hZ⟩ s.heap [] _ hP va_S.rf hl
theorem fm_Mq_of {l : Launch} {G : fm_G} {y : MethodName} {cc : ByteArray} {n : Nat} {ret : Option FieldType} {fr lo : Nat} {As : List Value} {μ : fm_I} {ν : fm_L} {r : Option Nat × fm_I × fm_L} (hy : plainName y.cls = true) (hn : (lg_sl As).length ≤ n)
    (body : ∀ X : fm_X, fm_C X G l cc y.cls n ret fr lo → fm_W X G n (fm_Qq X G r) μ ν 0 (lv_args 0 As) []) : fm_Mq l G y cc n ret fr lo As μ ν r := by
  refine Met.ofW (cc := cc) (maxL := n) (ret := ret) hy rfl ?_
  intro p e s m args below meth c s₁ B hml hv
  obtain ⟨rfl, hinj, hP, hK, hZ⟩ := hv
  have hts := atoms_spec (ws := Cond.code y cc n ret :: fm_tb) B.pre
  have hown : s.vm.findClass y.cls = some m.cls := findClass_of_methodNamed B.named
  have hl := lv_entry As (n := n) hn
  rw [lg_entry_eq]
  exact body (p, l, e, { frames := fr, cells := 0, slots := 0, locals := lo }, s, m, As.toArray, below, meth, c) ⟨B.exec, B.bytes, hml, hown, fun w hw => hts w (List.mem_cons_of_mem _ hw), B.notSynchronized, B.returns, rfl, rfl, hK, hinj, hZ⟩ s.heap [] _ hP va_S.rf hl
section FMR
variable {ρ : Type} {X : fm_X} {G : fm_G} {l : Launch} {cc : ByteArray} {own : String} {n : Nat} {ret : Option FieldType} {fr lo : Nat} {F : ρ → State → Prop} {o : Option ρ} {μ : fm_I} {ν : fm_L} {pc : Nat} {lv : List (Nat × Value)} {st : List Value}
theorem fm_none : fm_J X G n F (none : Option ρ) μ ν pc lv st := fun _ h => by cases h
theorem fm_guard {b : Bool} (k : b = true → fm_J X G n F o μ ν pc lv st) : fm_J X G n F (fm_g b o) μ ν pc lv st := by
  intro r hr
  cases b with
  | true => exact k rfl r hr
  | false => cases hr
theorem fm_bind {α : Type} {f : Option α} {K : α → Option ρ} (k : ∀ a, f = some a → fm_J X G n F (K a) μ ν pc lv st) : fm_J X G n F (f.bind K) μ ν pc lv st := by
  intro r hr
  cases hf : f with
  | none => rw [hf] at hr; cases hr
  | some a => rw [hf] at hr; exact k a hf r hr
theorem fm_ite {c : Prop} [Decidable c] {a b : Option ρ} (ka : c → fm_J X G n F a μ ν pc lv st) (kb : ¬ c → fm_J X G n F b μ ν pc lv st) : fm_J X G n F (if c then a else b) μ ν pc lv st := by
  by_cases h : c
  · rw [if_pos h]; exact ka h
  · rw [if_neg h]; exact kb h
theorem fm_opt {α : Type} {x : Option α} {a : Option ρ} {b : α → Option ρ} (ka : x = none → fm_J X G n F a μ ν pc lv st) (kb : ∀ y, x = some y → fm_J X G n F (b y) μ ν pc lv st) : fm_J X G n F (fm_o x a b) μ ν pc lv st := by
  cases x with
  | none => exact ka rfl
  | some y => exact kb y rfl
theorem fm_less {lv' : List (Nat × Value)} (h : fm_sb lv lv') (k : fm_J X G n F o μ ν pc lv' st) : fm_J X G n F o μ ν pc lv st := fun r hr H locs ls hP hS hL => k r hr H locs ls hP hS (fm_sb_has hL h)
theorem fm_eqo {o' : Option ρ} (h : o = o') (k : fm_J X G n F o' μ ν pc lv st) : fm_J X G n F o μ ν pc lv st := h ▸ k
theorem fm_iconst (C : fm_C X G l cc own n ret fr lo) {z : Int} {v : Int32} (hd : decode cc pc = .ok (.iconst z, 1)) (hv : Int32.ofInt z = v) (k : fm_J X G n F o μ ν (pc + 1) lv (.int v :: st)) : fm_J X G n F o μ ν pc lv (st) := fun r hr H locs ls hP hS hL => lv_iconst C.1 C.2.1 hd hv (k r hr H locs ls hP hS hL)
theorem fm_bipush (C : fm_C X G l cc own n ret fr lo) {z : Int} {v : Int32} (hd : decode cc pc = .ok (.bipush z, 2)) (hv : (Int8.ofInt z).toInt32 = v) (k : fm_J X G n F o μ ν (pc + 2) lv (.int v :: st)) : fm_J X G n F o μ ν pc lv (st) := fun r hr H locs ls hP hS hL => lv_bipush C.1 C.2.1 hd hv (k r hr H locs ls hP hS hL)
theorem fm_sipush (C : fm_C X G l cc own n ret fr lo) {z : Int} {v : Int32} (hd : decode cc pc = .ok (.sipush z, 3)) (hv : (Int16.ofInt z).toInt32 = v) (k : fm_J X G n F o μ ν (pc + 3) lv (.int v :: st)) : fm_J X G n F o μ ν pc lv (st) := fun r hr H locs ls hP hS hL => lv_sipush C.1 C.2.1 hd hv (k r hr H locs ls hP hS hL)
theorem fm_lconst (C : fm_C X G l cc own n ret fr lo) {z : Fin 2} {v : Int64} (hd : decode cc pc = .ok (.lconst z, 1)) (hv : Int64.ofNat (z : Nat) = v) (k : fm_J X G n F o μ ν (pc + 1) lv (.long v :: st)) : fm_J X G n F o μ ν pc lv (st) := fun r hr H locs ls hP hS hL => lv_lconst C.1 C.2.1 hd hv (k r hr H locs ls hP hS hL)
theorem fm_ldc (C : fm_C X G l cc own n ret fr lo) {i : Nat} {v : Int32} (hd : decode cc pc = .ok (.ldc i, 2)) (hw : Cond.constant own i v ∈ fm_tb) (k : fm_J X G n F o μ ν (pc + 2) lv (.int v :: st)) : fm_J X G n F o μ ν pc lv (st) := fun r hr H locs ls hP hS hL => lv_ldc C.1 C.2.1 C.2.2.2.1 (C.2.2.2.2.1 _ hw) hd (k r hr H locs ls hP hS hL)
theorem fm_ldcw (C : fm_C X G l cc own n ret fr lo) {i : Nat} {v : Int32} (hd : decode cc pc = .ok (.ldc_w i, 3)) (hw : Cond.constant own i v ∈ fm_tb) (k : fm_J X G n F o μ ν (pc + 3) lv (.int v :: st)) : fm_J X G n F o μ ν pc lv (st) := fun r hr H locs ls hP hS hL => lv_ldcw C.1 C.2.1 C.2.2.2.1 (C.2.2.2.2.1 _ hw) hd (k r hr H locs ls hP hS hL)
theorem fm_ldc2 (C : fm_C X G l cc own n ret fr lo) {i : Nat} {v : Int64} (hd : decode cc pc = .ok (.ldc2_w i, 3)) (hw : Cond.constantLong own i v ∈ fm_tb) (k : fm_J X G n F o μ ν (pc + 3) lv (.long v :: st)) : fm_J X G n F o μ ν pc lv (st) := fun r hr H locs ls hP hS hL => lv_ldc2 C.1 C.2.1 C.2.2.2.1 (C.2.2.2.2.1 _ hw) hd (k r hr H locs ls hP hS hL)
theorem fm_null (C : fm_C X G l cc own n ret fr lo)  (hd : decode cc pc = .ok (.aconst_null, 1)) (k : fm_J X G n F o μ ν (pc + 1) lv (.null :: st)) : fm_J X G n F o μ ν pc lv (st) := fun r hr H locs ls hP hS hL => lv_null C.1 C.2.1 hd (k r hr H locs ls hP hS hL)
theorem fm_iload (C : fm_C X G l cc own n ret fr lo) {i : Nat} {x : Int32} (hd : decode cc pc = .ok (.iload i, 2)) (hl : fm_lk lv i = some (.int x)) (k : fm_J X G n F o μ ν (pc + 2) lv (.int x :: st)) : fm_J X G n F o μ ν pc lv (st) := fun r hr H locs ls hP hS hL => lv_iload C.1 C.2.1 hd (fm_lk_at hL hl) (k r hr H locs ls hP hS hL)
theorem fm_iload_n (C : fm_C X G l cc own n ret fr lo) {z : Fin 4} {i : Nat} {x : Int32} (hd : decode cc pc = .ok (.iload_n z, 1)) (hi : (z : Nat) = i) (hl : fm_lk lv i = some (.int x)) (k : fm_J X G n F o μ ν (pc + 1) lv (.int x :: st)) : fm_J X G n F o μ ν pc lv (st) := fun r hr H locs ls hP hS hL => lv_iload_n C.1 C.2.1 hd hi (fm_lk_at hL hl) (k r hr H locs ls hP hS hL)
theorem fm_lload (C : fm_C X G l cc own n ret fr lo) {i : Nat} {x : Int64} (hd : decode cc pc = .ok (.lload i, 2)) (hl : fm_lk lv i = some (.long x)) (k : fm_J X G n F o μ ν (pc + 2) lv (.long x :: st)) : fm_J X G n F o μ ν pc lv (st) := fun r hr H locs ls hP hS hL => lv_lload C.1 C.2.1 hd (fm_lk_at hL hl) (k r hr H locs ls hP hS hL)
theorem fm_lload_n (C : fm_C X G l cc own n ret fr lo) {z : Fin 4} {i : Nat} {x : Int64} (hd : decode cc pc = .ok (.lload_n z, 1)) (hi : (z : Nat) = i) (hl : fm_lk lv i = some (.long x)) (k : fm_J X G n F o μ ν (pc + 1) lv (.long x :: st)) : fm_J X G n F o μ ν pc lv (st) := fun r hr H locs ls hP hS hL => lv_lload_n C.1 C.2.1 hd hi (fm_lk_at hL hl) (k r hr H locs ls hP hS hL)
theorem fm_aload (C : fm_C X G l cc own n ret fr lo) {i : Nat} {x : Nat} (hd : decode cc pc = .ok (.aload i, 2)) (hl : fm_lk lv i = some (.ref x)) (k : fm_J X G n F o μ ν (pc + 2) lv (.ref x :: st)) : fm_J X G n F o μ ν pc lv (st) := fun r hr H locs ls hP hS hL => lv_aload C.1 C.2.1 hd (fm_lk_at hL hl) (k r hr H locs ls hP hS hL)
theorem fm_aload_n (C : fm_C X G l cc own n ret fr lo) {z : Fin 4} {i : Nat} {x : Nat} (hd : decode cc pc = .ok (.aload_n z, 1)) (hi : (z : Nat) = i) (hl : fm_lk lv i = some (.ref x)) (k : fm_J X G n F o μ ν (pc + 1) lv (.ref x :: st)) : fm_J X G n F o μ ν pc lv (st) := fun r hr H locs ls hP hS hL => lv_aload_n C.1 C.2.1 hd hi (fm_lk_at hL hl) (k r hr H locs ls hP hS hL)
def fm_p1 (i : Nat) (v : Value) (lv : List (Nat × Value)) : List (Nat × Value) := (i, v) :: lv.filter (fun q => !(q.1 == i) && !(q.1 + 1 == i && q.2.category == 2))
def fm_p2 (i : Nat) (v : Value) (lv : List (Nat × Value)) : List (Nat × Value) := (i, v) :: lv.filter (fun q => !(q.1 == i) && (!(q.1 == i + 1) && !(q.1 + 1 == i && q.2.category == 2)))
theorem fm_istore (C : fm_C X G l cc own n ret fr lo) {i : Nat} {x : Int32} {lv' : List (Nat × Value)} (hd : decode cc pc = .ok (.istore i, 2)) (hn : i < n) (hl : fm_p1 i (.int x) lv = lv') (k : fm_J X G n F o μ ν (pc + 2) lv' st) : fm_J X G n F o μ ν pc lv (.int x :: st) := fun r hr H locs ls hP hS hL => lv_istore C.1 C.2.1 hd hL hn hl (fun ls hL => (k r hr H locs ls hP hS hL))
theorem fm_istore_n (C : fm_C X G l cc own n ret fr lo) {z : Fin 4} {i : Nat} {x : Int32} {lv' : List (Nat × Value)} (hd : decode cc pc = .ok (.istore_n z, 1)) (hi : (z : Nat) = i) (hn : i < n) (hl : fm_p1 i (.int x) lv = lv') (k : fm_J X G n F o μ ν (pc + 1) lv' st) : fm_J X G n F o μ ν pc lv (.int x :: st) := fun r hr H locs ls hP hS hL => lv_istore_n C.1 C.2.1 hd hi hL hn hl (fun ls hL => (k r hr H locs ls hP hS hL))
theorem fm_lstore (C : fm_C X G l cc own n ret fr lo) {i : Nat} {x : Int64} {lv' : List (Nat × Value)} (hd : decode cc pc = .ok (.lstore i, 2)) (hn : i + 1 < n) (hl : fm_p2 i (.long x) lv = lv') (k : fm_J X G n F o μ ν (pc + 2) lv' st) : fm_J X G n F o μ ν pc lv (.long x :: st) := fun r hr H locs ls hP hS hL => lv_lstore C.1 C.2.1 hd hL hn hl (fun ls hL => (k r hr H locs ls hP hS hL))
theorem fm_lstore_n (C : fm_C X G l cc own n ret fr lo) {z : Fin 4} {i : Nat} {x : Int64} {lv' : List (Nat × Value)} (hd : decode cc pc = .ok (.lstore_n z, 1)) (hi : (z : Nat) = i) (hn : i + 1 < n) (hl : fm_p2 i (.long x) lv = lv') (k : fm_J X G n F o μ ν (pc + 1) lv' st) : fm_J X G n F o μ ν pc lv (.long x :: st) := fun r hr H locs ls hP hS hL => lv_lstore_n C.1 C.2.1 hd hi hL hn hl (fun ls hL => (k r hr H locs ls hP hS hL))
theorem fm_astore (C : fm_C X G l cc own n ret fr lo) {i : Nat} {x : Nat} {lv' : List (Nat × Value)} (hd : decode cc pc = .ok (.astore i, 2)) (hn : i < n) (hl : fm_p1 i (.ref x) lv = lv') (k : fm_J X G n F o μ ν (pc + 2) lv' st) : fm_J X G n F o μ ν pc lv (.ref x :: st) := fun r hr H locs ls hP hS hL => lv_astore C.1 C.2.1 hd hL hn hl (fun ls hL => (k r hr H locs ls hP hS hL))
theorem fm_astore_n (C : fm_C X G l cc own n ret fr lo) {z : Fin 4} {i : Nat} {x : Nat} {lv' : List (Nat × Value)} (hd : decode cc pc = .ok (.astore_n z, 1)) (hi : (z : Nat) = i) (hn : i < n) (hl : fm_p1 i (.ref x) lv = lv') (k : fm_J X G n F o μ ν (pc + 1) lv' st) : fm_J X G n F o μ ν pc lv (.ref x :: st) := fun r hr H locs ls hP hS hL => lv_astore_n C.1 C.2.1 hd hi hL hn hl (fun ls hL => (k r hr H locs ls hP hS hL))
theorem fm_iinc (C : fm_C X G l cc own n ret fr lo) {i : Nat} {z : Int} {x v : Int32} {lv' : List (Nat × Value)} (hd : decode cc pc = .ok (.iinc i z, 3)) (hx : fm_lk lv i = some (.int x)) (hv : x + Int32.ofInt z = v) (hn : i < n) (hl : fm_p1 i (.int v) lv = lv') (k : fm_J X G n F o μ ν (pc + 3) lv' st) : fm_J X G n F o μ ν pc lv st := fun r hr H locs ls hP hS hL => by
  obtain ⟨j, hj⟩ := List.getElem?_of_mem (fm_lk_in hx)
  exact lv_iinc C.1 C.2.1 hd hL hj hv hn hl (fun ls hL => (k r hr H locs ls hP hS hL))
theorem fm_iadd (C : fm_C X G l cc own n ret fr lo) {x y : Int32} (hd : decode cc pc = .ok (.iadd, 1)) (k : fm_J X G n F o μ ν (pc + 1) lv (.int (x + y) :: st)) : fm_J X G n F o μ ν pc lv (.int y :: .int x :: st) := fun r hr H locs ls hP hS hL => lv_iadd C.1 C.2.1 hd (k r hr H locs ls hP hS hL)
theorem fm_isub (C : fm_C X G l cc own n ret fr lo) {x y : Int32} (hd : decode cc pc = .ok (.isub, 1)) (k : fm_J X G n F o μ ν (pc + 1) lv (.int (x - y) :: st)) : fm_J X G n F o μ ν pc lv (.int y :: .int x :: st) := fun r hr H locs ls hP hS hL => lv_isub C.1 C.2.1 hd (k r hr H locs ls hP hS hL)
theorem fm_imul (C : fm_C X G l cc own n ret fr lo) {x y : Int32} (hd : decode cc pc = .ok (.imul, 1)) (k : fm_J X G n F o μ ν (pc + 1) lv (.int (x * y) :: st)) : fm_J X G n F o μ ν pc lv (.int y :: .int x :: st) := fun r hr H locs ls hP hS hL => lv_imul C.1 C.2.1 hd (k r hr H locs ls hP hS hL)
theorem fm_iand (C : fm_C X G l cc own n ret fr lo) {x y : Int32} (hd : decode cc pc = .ok (.iand, 1)) (k : fm_J X G n F o μ ν (pc + 1) lv (.int (x &&& y) :: st)) : fm_J X G n F o μ ν pc lv (.int y :: .int x :: st) := fun r hr H locs ls hP hS hL => lv_iand C.1 C.2.1 hd (k r hr H locs ls hP hS hL)
theorem fm_ior (C : fm_C X G l cc own n ret fr lo) {x y : Int32} (hd : decode cc pc = .ok (.ior, 1)) (k : fm_J X G n F o μ ν (pc + 1) lv (.int (x ||| y) :: st)) : fm_J X G n F o μ ν pc lv (.int y :: .int x :: st) := fun r hr H locs ls hP hS hL => lv_ior C.1 C.2.1 hd (k r hr H locs ls hP hS hL)
theorem fm_ixor (C : fm_C X G l cc own n ret fr lo) {x y : Int32} (hd : decode cc pc = .ok (.ixor, 1)) (k : fm_J X G n F o μ ν (pc + 1) lv (.int (x ^^^ y) :: st)) : fm_J X G n F o μ ν pc lv (.int y :: .int x :: st) := fun r hr H locs ls hP hS hL => lv_ixor C.1 C.2.1 hd (k r hr H locs ls hP hS hL)
theorem fm_ishl (C : fm_C X G l cc own n ret fr lo) {x y : Int32} (hd : decode cc pc = .ok (.ishl, 1)) (k : fm_J X G n F o μ ν (pc + 1) lv (.int (x <<< (y &&& 31)) :: st)) : fm_J X G n F o μ ν pc lv (.int y :: .int x :: st) := fun r hr H locs ls hP hS hL => lv_ishl C.1 C.2.1 hd (k r hr H locs ls hP hS hL)
theorem fm_ishr (C : fm_C X G l cc own n ret fr lo) {x y : Int32} (hd : decode cc pc = .ok (.ishr, 1)) (k : fm_J X G n F o μ ν (pc + 1) lv (.int (x >>> (y &&& 31)) :: st)) : fm_J X G n F o μ ν pc lv (.int y :: .int x :: st) := fun r hr H locs ls hP hS hL => lv_ishr C.1 C.2.1 hd (k r hr H locs ls hP hS hL)
theorem fm_ineg (C : fm_C X G l cc own n ret fr lo) {x : Int32} (hd : decode cc pc = .ok (.ineg, 1)) (k : fm_J X G n F o μ ν (pc + 1) lv (.int (-x) :: st)) : fm_J X G n F o μ ν pc lv (.int x :: st) := fun r hr H locs ls hP hS hL => lv_ineg C.1 C.2.1 hd (k r hr H locs ls hP hS hL)
theorem fm_idiv (C : fm_C X G l cc own n ret fr lo) {x y : Int32} (hd : decode cc pc = .ok (.idiv, 1)) (hne : decide (¬ y = 0) = true) (k : fm_J X G n F o μ ν (pc + 1) lv (.int (x / y) :: st)) : fm_J X G n F o μ ν pc lv (.int y :: .int x :: st) := fun r hr H locs ls hP hS hL => lv_idiv C.1 C.2.1 hd (of_decide_eq_true hne) (k r hr H locs ls hP hS hL)
theorem fm_irem (C : fm_C X G l cc own n ret fr lo) {x y : Int32} (hd : decode cc pc = .ok (.irem, 1)) (hne : decide (¬ y = 0) = true) (k : fm_J X G n F o μ ν (pc + 1) lv (.int (x - x / y * y) :: st)) : fm_J X G n F o μ ν pc lv (.int y :: .int x :: st) := fun r hr H locs ls hP hS hL => lv_irem C.1 C.2.1 hd (of_decide_eq_true hne) (k r hr H locs ls hP hS hL)
theorem fm_ldiv (C : fm_C X G l cc own n ret fr lo) {x y : Int64} (hd : decode cc pc = .ok (.ldiv, 1)) (hne : decide (¬ y = 0) = true) (k : fm_J X G n F o μ ν (pc + 1) lv (.long (x / y) :: st)) : fm_J X G n F o μ ν pc lv (.long y :: .long x :: st) := fun r hr H locs ls hP hS hL => lv_ldiv C.1 C.2.1 hd (of_decide_eq_true hne) (k r hr H locs ls hP hS hL)
theorem fm_iushr (C : fm_C X G l cc own n ret fr lo) {x y : Int32} (hd : decode cc pc = .ok (.iushr, 1)) (k : fm_J X G n F o μ ν (pc + 1) lv (.int ((x.toUInt32 >>> (y.toUInt32 &&& Int32.toUInt32 31)).toInt32) :: st)) : fm_J X G n F o μ ν pc lv (.int y :: .int x :: st) := fun r hr H locs ls hP hS hL => lv_iushr C.1 C.2.1 hd rfl (k r hr H locs ls hP hS hL)
theorem fm_ladd (C : fm_C X G l cc own n ret fr lo) {x y : Int64} (hd : decode cc pc = .ok (.ladd, 1)) (k : fm_J X G n F o μ ν (pc + 1) lv (.long (x + y) :: st)) : fm_J X G n F o μ ν pc lv (.long y :: .long x :: st) := fun r hr H locs ls hP hS hL => lv_ladd C.1 C.2.1 hd (k r hr H locs ls hP hS hL)
theorem fm_lsub (C : fm_C X G l cc own n ret fr lo) {x y : Int64} (hd : decode cc pc = .ok (.lsub, 1)) (k : fm_J X G n F o μ ν (pc + 1) lv (.long (x - y) :: st)) : fm_J X G n F o μ ν pc lv (.long y :: .long x :: st) := fun r hr H locs ls hP hS hL => lv_lsub C.1 C.2.1 hd (k r hr H locs ls hP hS hL)
theorem fm_lmul (C : fm_C X G l cc own n ret fr lo) {x y : Int64} (hd : decode cc pc = .ok (.lmul, 1)) (k : fm_J X G n F o μ ν (pc + 1) lv (.long (x * y) :: st)) : fm_J X G n F o μ ν pc lv (.long y :: .long x :: st) := fun r hr H locs ls hP hS hL => lv_lmul C.1 C.2.1 hd (k r hr H locs ls hP hS hL)
theorem fm_land (C : fm_C X G l cc own n ret fr lo) {x y : Int64} (hd : decode cc pc = .ok (.land, 1)) (k : fm_J X G n F o μ ν (pc + 1) lv (.long (x &&& y) :: st)) : fm_J X G n F o μ ν pc lv (.long y :: .long x :: st) := fun r hr H locs ls hP hS hL => lv_land C.1 C.2.1 hd (k r hr H locs ls hP hS hL)
theorem fm_lor (C : fm_C X G l cc own n ret fr lo) {x y : Int64} (hd : decode cc pc = .ok (.lor, 1)) (k : fm_J X G n F o μ ν (pc + 1) lv (.long (x ||| y) :: st)) : fm_J X G n F o μ ν pc lv (.long y :: .long x :: st) := fun r hr H locs ls hP hS hL => lv_lor C.1 C.2.1 hd (k r hr H locs ls hP hS hL)
theorem fm_lshl (C : fm_C X G l cc own n ret fr lo) {x : Int64} {y : Int32} (hd : decode cc pc = .ok (.lshl, 1)) (k : fm_J X G n F o μ ν (pc + 1) lv (.long (x <<< (y.toInt64 &&& 63)) :: st)) : fm_J X G n F o μ ν pc lv (.int y :: .long x :: st) := fun r hr H locs ls hP hS hL => lv_lshl C.1 C.2.1 hd rfl (k r hr H locs ls hP hS hL)
theorem fm_lcmp (C : fm_C X G l cc own n ret fr lo) {x y : Int64} (hd : decode cc pc = .ok (.lcmp, 1)) (k : fm_J X G n F o μ ν (pc + 1) lv (.int (lg_cmp x y) :: st)) : fm_J X G n F o μ ν pc lv (.long y :: .long x :: st) := fun r hr H locs ls hP hS hL => W.lcmp C.1 C.2.1 hd (k r hr H locs ls hP hS hL)
theorem fm_i2l (C : fm_C X G l cc own n ret fr lo) {x : Int32} (hd : decode cc pc = .ok (.i2l, 1)) (k : fm_J X G n F o μ ν (pc + 1) lv (.long x.toInt64 :: st)) : fm_J X G n F o μ ν pc lv (.int x :: st) := fun r hr H locs ls hP hS hL => lv_i2l C.1 C.2.1 hd rfl (k r hr H locs ls hP hS hL)
theorem fm_l2i (C : fm_C X G l cc own n ret fr lo) {x : Int64} (hd : decode cc pc = .ok (.l2i, 1)) (k : fm_J X G n F o μ ν (pc + 1) lv (.int x.toInt32 :: st)) : fm_J X G n F o μ ν pc lv (.long x :: st) := fun r hr H locs ls hP hS hL => lv_l2i C.1 C.2.1 hd rfl (k r hr H locs ls hP hS hL)
theorem fm_i2b (C : fm_C X G l cc own n ret fr lo) {x : Int32} (hd : decode cc pc = .ok (.i2b, 1)) (k : fm_J X G n F o μ ν (pc + 1) lv (.int x.toInt8.toInt32 :: st)) : fm_J X G n F o μ ν pc lv (.int x :: st) := fun r hr H locs ls hP hS hL => lv_i2b C.1 C.2.1 hd rfl (k r hr H locs ls hP hS hL)
theorem fm_i2s (C : fm_C X G l cc own n ret fr lo) {x : Int32} (hd : decode cc pc = .ok (.i2s, 1)) (k : fm_J X G n F o μ ν (pc + 1) lv (.int x.toInt16.toInt32 :: st)) : fm_J X G n F o μ ν pc lv (.int x :: st) := fun r hr H locs ls hP hS hL => lv_i2s C.1 C.2.1 hd rfl (k r hr H locs ls hP hS hL)
theorem fm_pop (C : fm_C X G l cc own n ret fr lo) {va : Value} (hd : decode cc pc = .ok (.pop, 1)) (hva : va.category = 1) (k : fm_J X G n F o μ ν (pc + 1) lv (st)) : fm_J X G n F o μ ν pc lv (va :: st) := fun r hr H locs ls hP hS hL => lv_pop C.1 C.2.1 hd hva (k r hr H locs ls hP hS hL)
theorem fm_dup (C : fm_C X G l cc own n ret fr lo) {va : Value} (hd : decode cc pc = .ok (.dup, 1)) (hva : va.category = 1) (k : fm_J X G n F o μ ν (pc + 1) lv (va :: va :: st)) : fm_J X G n F o μ ν pc lv (va :: st) := fun r hr H locs ls hP hS hL => lv_dup C.1 C.2.1 hd hva (k r hr H locs ls hP hS hL)
theorem fm_dup2 (C : fm_C X G l cc own n ret fr lo) {va vb : Value} (hd : decode cc pc = .ok (.dup2, 1)) (hva : va.category = 1) (hvb : vb.category = 1) (k : fm_J X G n F o μ ν (pc + 1) lv (va :: vb :: va :: vb :: st)) : fm_J X G n F o μ ν pc lv (va :: vb :: st) := fun r hr H locs ls hP hS hL => lv_dup2_11 C.1 C.2.1 hd hva hvb (k r hr H locs ls hP hS hL)
theorem fm_dup_x1 (C : fm_C X G l cc own n ret fr lo) {va vb : Value} (hd : decode cc pc = .ok (.dup_x1, 1)) (hva : va.category = 1) (hvb : vb.category = 1) (k : fm_J X G n F o μ ν (pc + 1) lv (va :: vb :: va :: st)) : fm_J X G n F o μ ν pc lv (va :: vb :: st) := fun r hr H locs ls hP hS hL => lv_dup_x1 C.1 C.2.1 hd hva hvb (k r hr H locs ls hP hS hL)
theorem fm_goto (C : fm_C X G l cc own n ret fr lo) {z : Int} {tgt : Nat} (hd : decode cc pc = .ok (.goto z, 3)) (ht : (pc : Int) + z = (tgt : Int)) (k : fm_J X G n F o μ ν (tgt) lv (st)) : fm_J X G n F o μ ν pc lv (st) := fun r hr H locs ls hP hS hL => lv_goto C.1 C.2.1 hd ht (k r hr H locs ls hP hS hL)
theorem fm_if_eq (C : fm_C X G l cc own n ret fr lo) {x : Int32} {z : Int} {tgt : Nat} {a b : Option ρ} (hd : decode cc pc = .ok (.ifCond .eq z, 3)) (ht : (pc : Int) + z = (tgt : Int)) (ka : x = 0 → fm_J X G n F a μ ν (tgt) lv st) (kb : ¬ x = 0 → fm_J X G n F b μ ν (pc + 3) lv st) : fm_J X G n F (if x = 0 then a else b) μ ν pc lv (.int x :: st) := fun r hr H locs ls hP hS hL =>
  lv_if_eq C.1 C.2.1 hd ht (fun h => ka h r (by rw [if_pos h] at hr; exact hr) H locs ls hP hS hL) (fun h => kb h r (by rw [if_neg h] at hr; exact hr) H locs ls hP hS hL)
theorem fm_if_ne (C : fm_C X G l cc own n ret fr lo) {x : Int32} {z : Int} {tgt : Nat} {a b : Option ρ} (hd : decode cc pc = .ok (.ifCond .ne z, 3)) (ht : (pc : Int) + z = (tgt : Int)) (ka : x = 0 → fm_J X G n F a μ ν (pc + 3) lv st) (kb : ¬ x = 0 → fm_J X G n F b μ ν (tgt) lv st) : fm_J X G n F (if x = 0 then a else b) μ ν pc lv (.int x :: st) := fun r hr H locs ls hP hS hL =>
  lv_if_ne C.1 C.2.1 hd ht (fun h => kb h r (by rw [if_neg h] at hr; exact hr) H locs ls hP hS hL) (fun h => ka h r (by rw [if_pos h] at hr; exact hr) H locs ls hP hS hL)
theorem fm_if_lt (C : fm_C X G l cc own n ret fr lo) {x : Int32} {z : Int} {tgt : Nat} {a b : Option ρ} (hd : decode cc pc = .ok (.ifCond .lt z, 3)) (ht : (pc : Int) + z = (tgt : Int)) (ka : x < 0 → fm_J X G n F a μ ν (tgt) lv st) (kb : ¬ x < 0 → fm_J X G n F b μ ν (pc + 3) lv st) : fm_J X G n F (if x < 0 then a else b) μ ν pc lv (.int x :: st) := fun r hr H locs ls hP hS hL =>
  lv_if_lt C.1 C.2.1 hd ht (fun h => ka h r (by rw [if_pos h] at hr; exact hr) H locs ls hP hS hL) (fun h => kb h r (by rw [if_neg h] at hr; exact hr) H locs ls hP hS hL)
theorem fm_if_ge (C : fm_C X G l cc own n ret fr lo) {x : Int32} {z : Int} {tgt : Nat} {a b : Option ρ} (hd : decode cc pc = .ok (.ifCond .ge z, 3)) (ht : (pc : Int) + z = (tgt : Int)) (ka : 0 ≤ x → fm_J X G n F a μ ν (tgt) lv st) (kb : ¬ 0 ≤ x → fm_J X G n F b μ ν (pc + 3) lv st) : fm_J X G n F (if 0 ≤ x then a else b) μ ν pc lv (.int x :: st) := fun r hr H locs ls hP hS hL =>
  lv_if_ge C.1 C.2.1 hd ht (fun h => ka h r (by rw [if_pos h] at hr; exact hr) H locs ls hP hS hL) (fun h => kb h r (by rw [if_neg h] at hr; exact hr) H locs ls hP hS hL)
theorem fm_if_gt (C : fm_C X G l cc own n ret fr lo) {x : Int32} {z : Int} {tgt : Nat} {a b : Option ρ} (hd : decode cc pc = .ok (.ifCond .gt z, 3)) (ht : (pc : Int) + z = (tgt : Int)) (ka : 0 < x → fm_J X G n F a μ ν (tgt) lv st) (kb : ¬ 0 < x → fm_J X G n F b μ ν (pc + 3) lv st) : fm_J X G n F (if 0 < x then a else b) μ ν pc lv (.int x :: st) := fun r hr H locs ls hP hS hL =>
  lv_if_gt C.1 C.2.1 hd ht (fun h => ka h r (by rw [if_pos h] at hr; exact hr) H locs ls hP hS hL) (fun h => kb h r (by rw [if_neg h] at hr; exact hr) H locs ls hP hS hL)
theorem fm_if_le (C : fm_C X G l cc own n ret fr lo) {x : Int32} {z : Int} {tgt : Nat} {a b : Option ρ} (hd : decode cc pc = .ok (.ifCond .le z, 3)) (ht : (pc : Int) + z = (tgt : Int)) (ka : x ≤ 0 → fm_J X G n F a μ ν (tgt) lv st) (kb : ¬ x ≤ 0 → fm_J X G n F b μ ν (pc + 3) lv st) : fm_J X G n F (if x ≤ 0 then a else b) μ ν pc lv (.int x :: st) := fun r hr H locs ls hP hS hL =>
  lv_if_le C.1 C.2.1 hd ht (fun h => ka h r (by rw [if_pos h] at hr; exact hr) H locs ls hP hS hL) (fun h => kb h r (by rw [if_neg h] at hr; exact hr) H locs ls hP hS hL)
theorem fm_icmp_eq (C : fm_C X G l cc own n ret fr lo) {x y : Int32} {z : Int} {tgt : Nat} {a b : Option ρ} (hd : decode cc pc = .ok (.if_icmp .eq z, 3)) (ht : (pc : Int) + z = (tgt : Int)) (ka : x = y → fm_J X G n F a μ ν (tgt) lv st) (kb : ¬ x = y → fm_J X G n F b μ ν (pc + 3) lv st) : fm_J X G n F (if x = y then a else b) μ ν pc lv (.int y :: .int x :: st) := fun r hr H locs ls hP hS hL =>
  lv_icmp_eq C.1 C.2.1 hd ht (fun h => ka h r (by rw [if_pos h] at hr; exact hr) H locs ls hP hS hL) (fun h => kb h r (by rw [if_neg h] at hr; exact hr) H locs ls hP hS hL)
theorem fm_icmp_ne (C : fm_C X G l cc own n ret fr lo) {x y : Int32} {z : Int} {tgt : Nat} {a b : Option ρ} (hd : decode cc pc = .ok (.if_icmp .ne z, 3)) (ht : (pc : Int) + z = (tgt : Int)) (ka : x = y → fm_J X G n F a μ ν (pc + 3) lv st) (kb : ¬ x = y → fm_J X G n F b μ ν (tgt) lv st) : fm_J X G n F (if x = y then a else b) μ ν pc lv (.int y :: .int x :: st) := fun r hr H locs ls hP hS hL =>
  lv_icmp_ne C.1 C.2.1 hd ht (fun h => kb h r (by rw [if_neg h] at hr; exact hr) H locs ls hP hS hL) (fun h => ka h r (by rw [if_pos h] at hr; exact hr) H locs ls hP hS hL)
theorem fm_icmp_lt (C : fm_C X G l cc own n ret fr lo) {x y : Int32} {z : Int} {tgt : Nat} {a b : Option ρ} (hd : decode cc pc = .ok (.if_icmp .lt z, 3)) (ht : (pc : Int) + z = (tgt : Int)) (ka : x < y → fm_J X G n F a μ ν (tgt) lv st) (kb : ¬ x < y → fm_J X G n F b μ ν (pc + 3) lv st) : fm_J X G n F (if x < y then a else b) μ ν pc lv (.int y :: .int x :: st) := fun r hr H locs ls hP hS hL =>
  lv_icmp_lt C.1 C.2.1 hd ht (fun h => ka h r (by rw [if_pos h] at hr; exact hr) H locs ls hP hS hL) (fun h => kb h r (by rw [if_neg h] at hr; exact hr) H locs ls hP hS hL)
theorem fm_icmp_ge (C : fm_C X G l cc own n ret fr lo) {x y : Int32} {z : Int} {tgt : Nat} {a b : Option ρ} (hd : decode cc pc = .ok (.if_icmp .ge z, 3)) (ht : (pc : Int) + z = (tgt : Int)) (ka : y ≤ x → fm_J X G n F a μ ν (tgt) lv st) (kb : ¬ y ≤ x → fm_J X G n F b μ ν (pc + 3) lv st) : fm_J X G n F (if y ≤ x then a else b) μ ν pc lv (.int y :: .int x :: st) := fun r hr H locs ls hP hS hL =>
  lv_icmp_ge C.1 C.2.1 hd ht (fun h => ka h r (by rw [if_pos h] at hr; exact hr) H locs ls hP hS hL) (fun h => kb h r (by rw [if_neg h] at hr; exact hr) H locs ls hP hS hL)
theorem fm_icmp_gt (C : fm_C X G l cc own n ret fr lo) {x y : Int32} {z : Int} {tgt : Nat} {a b : Option ρ} (hd : decode cc pc = .ok (.if_icmp .gt z, 3)) (ht : (pc : Int) + z = (tgt : Int)) (ka : y < x → fm_J X G n F a μ ν (tgt) lv st) (kb : ¬ y < x → fm_J X G n F b μ ν (pc + 3) lv st) : fm_J X G n F (if y < x then a else b) μ ν pc lv (.int y :: .int x :: st) := fun r hr H locs ls hP hS hL =>
  lv_icmp_gt C.1 C.2.1 hd ht (fun h => ka h r (by rw [if_pos h] at hr; exact hr) H locs ls hP hS hL) (fun h => kb h r (by rw [if_neg h] at hr; exact hr) H locs ls hP hS hL)
theorem fm_icmp_le (C : fm_C X G l cc own n ret fr lo) {x y : Int32} {z : Int} {tgt : Nat} {a b : Option ρ} (hd : decode cc pc = .ok (.if_icmp .le z, 3)) (ht : (pc : Int) + z = (tgt : Int)) (ka : x ≤ y → fm_J X G n F a μ ν (tgt) lv st) (kb : ¬ x ≤ y → fm_J X G n F b μ ν (pc + 3) lv st) : fm_J X G n F (if x ≤ y then a else b) μ ν pc lv (.int y :: .int x :: st) := fun r hr H locs ls hP hS hL =>
  lv_icmp_le C.1 C.2.1 hd ht (fun h => ka h r (by rw [if_pos h] at hr; exact hr) H locs ls hP hS hL) (fun h => kb h r (by rw [if_neg h] at hr; exact hr) H locs ls hP hS hL)
theorem fm_ifnonnull (C : fm_C X G l cc own n ret fr lo) {x : Option Nat} {z : Int} {tgt : Nat} {a : Option ρ} {b : Nat → Option ρ} (hd : decode cc pc = .ok (.ifnonnull z, 3)) (ht : (pc : Int) + z = (tgt : Int)) (ka : x = none → fm_J X G n F a μ ν (pc + 3) lv st) (kb : ∀ y, x = some y → fm_J X G n F (b y) μ ν tgt lv st) : fm_J X G n F (fm_o x a b) μ ν pc lv (fm_v G x :: st) := fun r hr H locs ls hP hS hL => by
  cases x with
  | none => exact lv_ifnonnullN C.1 C.2.1 hd (ka rfl r hr H locs ls hP hS hL)
  | some y => exact lv_ifnonnull C.1 C.2.1 hd ht (kb y rfl r hr H locs ls hP hS hL)
theorem fm_ifnull (C : fm_C X G l cc own n ret fr lo) {x : Option Nat} {z : Int} {tgt : Nat} {a : Option ρ} {b : Nat → Option ρ} (hd : decode cc pc = .ok (.ifnull z, 3)) (ht : (pc : Int) + z = (tgt : Int)) (ka : x = none → fm_J X G n F a μ ν tgt lv st) (kb : ∀ y, x = some y → fm_J X G n F (b y) μ ν (pc + 3) lv st) : fm_J X G n F (fm_o x a b) μ ν pc lv (fm_v G x :: st) := fun r hr H locs ls hP hS hL => by
  cases x with
  | none => exact lv_ifnullN C.1 C.2.1 hd ht (ka rfl r hr H locs ls hP hS hL)
  | some y => exact lv_ifnull C.1 C.2.1 hd (kb y rfl r hr H locs ls hP hS hL)
theorem fm_ifnonnullR (C : fm_C X G l cc own n ret fr lo) {x : Nat} {z : Int} {tgt : Nat} (hd : decode cc pc = .ok (.ifnonnull z, 3)) (ht : (pc : Int) + z = (tgt : Int)) (k : fm_J X G n F o μ ν tgt lv st) : fm_J X G n F o μ ν pc lv (.ref x :: st) := fun r hr H locs ls hP hS hL => lv_ifnonnull C.1 C.2.1 hd ht (k r hr H locs ls hP hS hL)
theorem fm_ifnullR (C : fm_C X G l cc own n ret fr lo) {x : Nat} {z : Int} (hd : decode cc pc = .ok (.ifnull z, 3)) (k : fm_J X G n F o μ ν (pc + 3) lv st) : fm_J X G n F o μ ν pc lv (.ref x :: st) := fun r hr H locs ls hP hS hL => lv_ifnull C.1 C.2.1 hd (k r hr H locs ls hP hS hL)
theorem fm_ifnonnullN (C : fm_C X G l cc own n ret fr lo) {z : Int} (hd : decode cc pc = .ok (.ifnonnull z, 3)) (k : fm_J X G n F o μ ν (pc + 3) lv st) : fm_J X G n F o μ ν pc lv (.null :: st) := fun r hr H locs ls hP hS hL => lv_ifnonnullN C.1 C.2.1 hd (k r hr H locs ls hP hS hL)
theorem fm_ifnullN (C : fm_C X G l cc own n ret fr lo) {z : Int} {tgt : Nat} (hd : decode cc pc = .ok (.ifnull z, 3)) (ht : (pc : Int) + z = (tgt : Int)) (k : fm_J X G n F o μ ν tgt lv st) : fm_J X G n F o μ ν pc lv (.null :: st) := fun r hr H locs ls hP hS hL => lv_ifnullN C.1 C.2.1 hd ht (k r hr H locs ls hP hS hL)
theorem fm_aloadq_n (C : fm_C X G l cc own n ret fr lo) {z : Fin 4} {i : Nat} {x : Option Nat} (hd : decode cc pc = .ok (.aload_n z, 1)) (hi : (z : Nat) = i) (hl : fm_lk lv i = some (fm_v G x)) (k : fm_J X G n F o μ ν (pc + 1) lv (fm_v G x :: st)) : fm_J X G n F o μ ν pc lv st := fun r hr H locs ls hP hS hL => by
  cases x with
  | none => exact lv_aload_nN C.1 C.2.1 hd hi (fm_lk_at hL hl) (k r hr H locs ls hP hS hL)
  | some y => exact lv_aload_n C.1 C.2.1 hd hi (fm_lk_at hL hl) (k r hr H locs ls hP hS hL)
theorem fm_aloadq (C : fm_C X G l cc own n ret fr lo) {i : Nat} {x : Option Nat} (hd : decode cc pc = .ok (.aload i, 2)) (hl : fm_lk lv i = some (fm_v G x)) (k : fm_J X G n F o μ ν (pc + 2) lv (fm_v G x :: st)) : fm_J X G n F o μ ν pc lv st := fun r hr H locs ls hP hS hL => by
  cases x with
  | none => exact lv_aloadN C.1 C.2.1 hd (fm_lk_at hL hl) (k r hr H locs ls hP hS hL)
  | some y => exact lv_aload C.1 C.2.1 hd (fm_lk_at hL hl) (k r hr H locs ls hP hS hL)
theorem fm_v_cat (G : fm_G) (x : Option Nat) : (fm_v G x).category = 1 := by cases x <;> rfl
theorem fm_astoreq_n (C : fm_C X G l cc own n ret fr lo) {z : Fin 4} {i : Nat} {x : Option Nat} {lv' : List (Nat × Value)} (hd : decode cc pc = .ok (.astore_n z, 1)) (hi : (z : Nat) = i) (hn : i < n) (hl : fm_p1 i (fm_v G x) lv = lv') (k : fm_J X G n F o μ ν (pc + 1) lv' st) : fm_J X G n F o μ ν pc lv (fm_v G x :: st) := fun r hr H locs ls hP hS hL => by
  cases x with
  | none => exact lv_astore_nN C.1 C.2.1 hd hi hL hn hl (fun ls hL => k r hr H locs ls hP hS hL)
  | some y => exact lv_astore_n C.1 C.2.1 hd hi hL hn hl (fun ls hL => k r hr H locs ls hP hS hL)
theorem fm_astoreq (C : fm_C X G l cc own n ret fr lo) {i : Nat} {x : Option Nat} {lv' : List (Nat × Value)} (hd : decode cc pc = .ok (.astore i, 2)) (hn : i < n) (hl : fm_p1 i (fm_v G x) lv = lv') (k : fm_J X G n F o μ ν (pc + 2) lv' st) : fm_J X G n F o μ ν pc lv (fm_v G x :: st) := fun r hr H locs ls hP hS hL => by
  cases x with
  | none => exact lv_astoreN C.1 C.2.1 hd hL hn hl (fun ls hL => k r hr H locs ls hP hS hL)
  | some y => exact lv_astore C.1 C.2.1 hd hL hn hl (fun ls hL => k r hr H locs ls hP hS hL)
theorem fm_tabIn (C : fm_C X G l cc own n ret fr lo) {d lo1 hi1 off : Int} {offs : Array Int} {len : Nat} {x : Int32} {tgt : Nat} (hd : decode cc pc = .ok (.tableswitch d lo1 hi1 offs, len)) (h1 : ¬ x.toInt < lo1) (h2 : ¬ hi1 < x.toInt) (ho : offs[(x.toInt - lo1).toNat]? = some off) (ht : (pc : Int) + off = (tgt : Int)) (k : fm_J X G n F o μ ν tgt lv st) : fm_J X G n F o μ ν pc lv (.int x :: st) := fun r hr H locs ls hP hS hL => lv_tableIn C.1 C.2.1 hd h1 h2 ho ht (k r hr H locs ls hP hS hL)
theorem fm_tabOut (C : fm_C X G l cc own n ret fr lo) {d lo1 hi1 : Int} {offs : Array Int} {len : Nat} {x : Int32} {tgt : Nat} (hd : decode cc pc = .ok (.tableswitch d lo1 hi1 offs, len)) (h : x.toInt < lo1 ∨ hi1 < x.toInt) (ht : (pc : Int) + d = (tgt : Int)) (k : fm_J X G n F o μ ν tgt lv st) : fm_J X G n F o μ ν pc lv (.int x :: st) := fun r hr H locs ls hP hS hL => lv_tableOut C.1 C.2.1 hd h ht (k r hr H locs ls hP hS hL)
theorem fm_look (C : fm_C X G l cc own n ret fr lo) {d off : Int} {ps : Array (Int × Int)} {len : Nat} {x : Int32} {tgt : Nat} (hd : decode cc pc = .ok (.lookupswitch d ps, len)) (hp : (ps.toList.zip (ps.toList.drop 1)).all (fun (a, next) => a.1 < next.1) = true) (ho : Op.lookupswitch.offset ps.toList d x.toInt = off) (ht : (pc : Int) + off = (tgt : Int)) (k : fm_J X G n F o μ ν tgt lv st) : fm_J X G n F o μ ν pc lv (.int x :: st) := fun r hr H locs ls hP hS hL => lv_lookup C.1 C.2.1 hd hp ho ht (k r hr H locs ls hP hS hL)
theorem fm_ne {x : Int32} {k : Int} (c : Int32) (hc : c.toInt = k) (h : ¬ x = c) : ¬ x.toInt = k := fun e => h (Int32.toInt_inj.mp (e.trans hc.symm))
theorem fm_zret {F : Int32 × fm_I × fm_L → State → Prop} (C : fm_C X G l cc own n ret fr lo) {ty : FieldType} {v : Int32} (hF : F = fm_Qi X G) (hr0 : ret = some ty) (hn : narrow ty (.int v) = .int v) (hd : decode cc pc = .ok (.ireturn, 1)) : fm_J X G n F (some (v, μ, ν)) μ ν pc lv [.int v] := by
  intro r hr H locs ls hP hS hL
  cases hr
  subst hF
  exact W.zret C.1 C.2.1 (C.2.2.2.2.2.2.1.trans hr0) hn (fun t ht hW => ⟨⟨v, (μ, ν), rfl, ⟨rfl, rfl⟩, by show va_P _ _ _ t.heap; rw [ht]; exact hP, va_K.moved hW.alike C.2.2.2.2.2.2.2.2.2.1, C.2.2.2.2.2.2.2.2.2.2.2.kept hW (fun a h1 h2 => by rw [ht]; exact hS.2.1 a h1 h2)⟩, hS.F ht⟩) hS.2.2 hd C.2.2.2.2.2.1
theorem fm_lret {F : Int64 × fm_I × fm_L → State → Prop} (C : fm_C X G l cc own n ret fr lo) {v : Int64} (hF : F = fm_Ql X G) (hr0 : ret = some .long) (hd : decode cc pc = .ok (.lreturn, 1)) : fm_J X G n F (some (v, μ, ν)) μ ν pc lv [.long v] := by
  intro r hr H locs ls hP hS hL
  cases hr
  subst hF
  exact W.lret C.1 C.2.1 (C.2.2.2.2.2.2.1.trans hr0) (fun t ht hW => ⟨⟨v, (μ, ν), rfl, ⟨rfl, rfl⟩, by show va_P _ _ _ t.heap; rw [ht]; exact hP, va_K.moved hW.alike C.2.2.2.2.2.2.2.2.2.1, C.2.2.2.2.2.2.2.2.2.2.2.kept hW (fun a h1 h2 => by rw [ht]; exact hS.2.1 a h1 h2)⟩, hS.F ht⟩) hS.2.2 hd C.2.2.2.2.2.1
theorem fm_vret {F : fm_I × fm_L → State → Prop} (C : fm_C X G l cc own n ret fr lo) (hF : F = fm_Qv X G) (hr0 : ret = none) (hd : decode cc pc = .ok (.return_, 1)) : fm_J X G n F (some (μ, ν)) μ ν pc lv [] := by
  intro r hr H locs ls hP hS hL
  cases hr
  subst hF
  exact W.vret C.1 C.2.1 (C.2.2.2.2.2.2.1.trans hr0) (fun t ht hW => ⟨⟨(μ, ν), rfl, rfl, by show va_P _ _ _ t.heap; rw [ht]; exact hP, va_K.moved hW.alike C.2.2.2.2.2.2.2.2.2.1, C.2.2.2.2.2.2.2.2.2.2.2.kept hW (fun a h1 h2 => by rw [ht]; exact hS.2.1 a h1 h2)⟩, hS.F ht⟩) hS.2.2 hd C.2.2.2.2.2.1
theorem fm_aret {F : Option Nat × fm_I × fm_L → State → Prop} (C : fm_C X G l cc own n ret fr lo) {x : Option Nat} {v : Value} {nm : String} (hF : F = fm_Qq X G) (hr0 : ret = some (.object nm)) (hv : v = fm_v G x) (hd : decode cc pc = .ok (.areturn, 1)) : fm_J X G n F (some (x, μ, ν)) μ ν pc lv [v] := by
  intro r hr H locs ls hP hS hL
  cases hr
  subst hF
  subst hv
  exact W.aret C.1 C.2.1 (C.2.2.2.2.2.2.1.trans hr0) (Or.inl ⟨_, rfl⟩) (va_rf_or _) (fun t ht hW => ⟨⟨x.map G.2.2.1, (μ, ν), rfl, ⟨rfl, rfl⟩, by show va_P _ _ _ t.heap; rw [ht]; exact hP, va_K.moved hW.alike C.2.2.2.2.2.2.2.2.2.1, C.2.2.2.2.2.2.2.2.2.2.2.kept hW (fun a h1 h2 => by rw [ht]; exact hS.2.1 a h1 h2)⟩, hS.F ht⟩) hS.2.2 hd C.2.2.2.2.2.1
end FMR
