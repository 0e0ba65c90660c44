/-! THE START of the law: what the statement gives, the two constructors, the relation -/
def fl_C (X : fm_X) (G : fm_G) (l : Launch) (cc : ByteArray) (own : String) (n fr lo mc ms b : Nat) : Prop :=
  X.1.tables.exec = Jvm.exec ∧ (fm_co X).code = cc ∧ (fm_co X).maxLocals = n ∧ (fm_s X).vm.findClass own = some (fm_m X).cls ∧ (∀ w ∈ fm_tb, w.before (fm_as X) (fm_s X) = true) ∧ (fm_me X).locks = false ∧ True ∧ X.2.2.2.1 = ({ frames := fr, cells := mc, slots := ms, locals := lo } : Room) ∧ X.2.1 = l ∧ va_K G.1 vwCl (fm_ty G) (fm_s X) ∧ b ≤ (fm_s X).heap.size ∧ True ∧ fk_E (fm_s X)
section FL
variable {X : fm_X} {G : fm_G} {l : Launch} {cc : ByteArray} {own : String} {n fr lo mc ms b : Nat} {Q : State → Prop} {κ : Nat → va_E} {k cells slots pc : Nat} {lv : List (Nat × Value)} {st : List Value}
theorem fl_iconst (C : fl_C X G l cc own n fr lo mc ms b) {z : Int} {v : Int32} (hd : decode cc pc = .ok (.iconst z, 1)) (hv : Int32.ofInt z = v) (kk : fk_W X G n b Q κ k cells slots (pc + 1) lv (.int v :: st)) : fk_W X G n b Q κ k cells slots pc lv (st) := fun H locs ls hz hP hS hL => lv_iconst C.1 C.2.1 hd hv (kk H locs ls hz hP hS hL)
theorem fl_dup (C : fl_C X G l cc own n fr lo mc ms b) {va : Value} (hd : decode cc pc = .ok (.dup, 1)) (hva : va.category = 1) (kk : fk_W X G n b Q κ k cells slots (pc + 1) lv (va :: va :: st)) : fk_W X G n b Q κ k cells slots pc lv (va :: st) := fun H locs ls hz hP hS hL => lv_dup C.1 C.2.1 hd hva (kk H locs ls hz hP hS hL)
theorem fl_istore_n (C : fl_C X G l cc own n fr lo mc ms b) {z : Fin 4} {i : Nat} {x : Int32} {lv' : List (Nat × Value)} (hd : decode cc pc = .ok (.istore_n z, 1)) (hi : (z : Nat) = i) (hn : i < n) (hl : fm_p1 i (.int x) lv = lv') (kk : fk_W X G n b Q κ k cells slots (pc + 1) lv' st) : fk_W X G n b Q κ k cells slots pc lv (.int x :: st) := fun H locs ls hz hP hS hL => lv_istore_n C.1 C.2.1 hd hi hL hn hl (fun ls hL => (kk H locs ls hz hP hS hL))
theorem fl_new (C : fl_C X G l cc own n fr lo mc ms b) {ix ci N : Nat} {Cn : String} {T : u_T} {tyk : Nat → FieldType} {fs : List Value} (hcl : vwCl[ci]? = some (Cn, T, N)) (hin : ∀ w ∈ u_ws Cn T N, w ∈ fm_tb) (hty : ∀ k, k < N → parseFieldDescriptor (T k).2.2.1 = some (tyk k)) (hfs : ∀ j, j < N → defaultValue (tyk j) = vp_V fs j) (hw : Cond.classLink own ix Cn ∈ fm_tb) (hi : Cond.instantiable Cn N ∈ fm_tb) (hini : Cond.initialized Cn ∈ fm_tb) (hcells : cells + 1 ≤ mc) (hslots : slots + N ≤ ms) (hd : decode cc pc = .ok (.new ix, 3))
    (kk : fk_W X G n b Q (fk_u κ k (.inr (ci, fs))) (k + 1) (cells + 1) (slots + N) (pc + 3) lv (.ref (b + k) :: st)) : fk_W X G n b Q κ k cells slots pc lv st := fun H locs ls hz hP hS hL => by
  have hKn := C.2.2.2.2.2.2.2.2.2.1.1 ci _ hcl
  refine W.newcK C.1 C.2.1 C.2.2.2.1 (C.2.2.2.2.1 _ hw) (C.2.2.2.2.1 _ hi) (C.2.2.2.2.1 _ hini) rfl hd (by rw [C.2.2.2.2.2.2.2.1]; exact hcells) (by rw [C.2.2.2.2.2.2.2.1]; exact hslots) hKn.2.1 hz fun H1 kC hkC e1 z1 o1 => ?_
  exact kk H1 locs ls (by rw [z1]; rfl) (fk_grow hz hP o1 ⟨_, hcl, (u_born tyk C.2.2.2.2.1 hin hKn hkC e1 hty).to hfs⟩) (fk_growS hz hS z1 o1) hL
theorem fl_pre (C : fl_C X G l cc own n fr lo mc ms b) {a : Nat} {As : List Value} {H : Heap} (hz : H.size = b + k) (hP : va_P G.1 vwCl (fk_ws b κ k) H) (U : State) (hU : U.heap = H) (hW : (fm_s X).WarmedH U.vm) : va_Pc (.ref a :: As) (fk_At G b κ k) (Value.ref a :: As).toArray U :=
  ⟨rfl, by rw [hU]; exact hz, by rw [hU]; exact hP, va_K.moved hW.alike C.2.2.2.2.2.2.2.2.2.1, C.2.2.2.2.2.2.2.2.2.2.2.2.warm hW⟩
theorem fl_call (C : fl_C X G l cc own n fr lo mc ms b) {y : MethodName} {cc' : ByteArray} {n' fr' lo' mc' ms' c ix kp : Nat} {κ' : Nat → va_E} {As rest : List Value} (hM : fk_M l G y cc' n' fr' lo' mc' ms' b c k κ κ' As) (ok : fk_ok y cc' n' kp) (hl : Cond.methodLink own ix y ∈ fm_tb) (hd : decode cc pc = .ok (.invokespecial ix, 3)) (hR : fr' + 1 ≤ fr ∧ 8 + (n' + 11) + lo' ≤ lo) (hk : As.length = kp) (hst : st = As.reverse ++ .ref (b + c) :: rest) (hW : (rest.map fun v => v.category).sum ≤ 8) (hcells : cells + mc' ≤ mc) (hslots : slots + ms' ≤ ms)
    (kk : fk_W X G n b Q κ' (k + mc') (cells + mc') (slots + ms') (pc + 3) lv rest) : fk_W X G n b Q κ k cells slots pc lv st := fun H locs ls hz hP hS hL => by
  have hM' := hM
  unfold fk_M at hM'
  rw [← C.2.2.2.2.2.2.2.2.1] at hM'
  have hrun := va_runI (As := As) (rest := rest) (cells := cells) (slots := slots) (g := F0 (fm_m X) pc ls st) (below := fm_be X) (R := X.2.2.2.1) (e := X.2.2.1) (meth := fm_me X) (locs := locs) ⟨C.1, C.2.1, C.2.2.1, C.2.2.2.1, C.2.2.2.2.1⟩ hM' (cwI kp C.2.2.2.2.1 (fm_goodC ok.1) rfl rfl rfl (C.2.2.2.2.1 _ ok.2.2.1) (C.2.2.2.2.1 _ hl) (C.2.2.2.2.1 _ ok.2.1) ok.2.2.2.1 ok.2.2.2.2 (by rw [C.2.2.2.2.2.2.2.1]; exact hR)) ⟨fk_blind, fl_pre C hz hP⟩ rfl hk hL.1 hst (lv_room hW) hd ⟨by rw [C.2.2.2.2.2.2.2.1]; exact hcells, by rw [C.2.2.2.2.2.2.2.1]; exact hslots⟩
  refine va_callv hrun hS (fun _ _ h => h) (fun _ h => h) (fun u t H1 locs1 ht hvm hw hB _ _ hS1 => ?_)
  exact kk H1 locs1 ls (by have h := hB.1; rw [ht] at h; exact h) (by have h := hB.2; rw [ht] at h; exact h) hS1 hL
theorem fl_astore_n (C : fl_C X G l cc own n fr lo mc ms b) {z : Fin 4} {i x : Nat} {lv' : List (Nat × Value)} (hd : decode cc pc = .ok (.astore_n z, 1)) (hi : (z : Nat) = i) (hn : i < n) (hl : fm_p1 i (.ref x) lv = lv') (kk : fk_W X G n b Q κ k cells slots (pc + 1) lv' st) : fk_W X G n b Q κ k cells slots pc lv (.ref x :: st) := fun H locs ls hz hP hS hL => lv_astore_n C.1 C.2.1 hd hi hL hn hl (fun ls hL => kk H locs ls hz hP hS hL)
end FL
theorem fl_fx {X : fm_X} {G : fm_G} {Q : State → Prop} {κ : Nat → va_E} {μ : fm_I} {ν : fm_L} {cells slots pc : Nat} {lv : List (Nat × Value)} {st : List Value} (had : ∀ p, G.2.2.1 p = (fm_s X).heap.size + pa_off p) (hκ : ∀ p, p < 81 → κ (pa_off p) = fm_c G p (μ p) (ν p)) (kk : fx_W X G Q cells slots μ ν pc lv st) : fk_W X G 4 (fm_s X).heap.size Q κ 81 cells slots pc lv st := fun H locs ls hz hP hS hL => by
  refine kk H locs ls (fun i q hq => ?_) hS hL
  have hl : i < 81 := by
    have h := (List.getElem?_eq_some_iff.mp hq).1
    simpa [fm_ws] using h
  rw [fm_ws_at hl] at hq
  cases hq
  have h := hP (pa_off i) _ (fk_at (pa_off_lt i hl))
  rw [hκ i hl, ← had i] at h
  exact h
theorem ws_noA {s : State} : ∀ a : Nat, a < s.heap.size → ¬ (fun q : Nat => s.heap.size ≤ q) a := fun _ h => Nat.not_le.mpr h
theorem ws_st0 {s : State} {args : Array Value} (hs : ∀ c ∈ flatC (Jvm.Cond.and given_1 narrow_1), c.before args s = true) (hts : ∀ w ∈ lw_tbl, w.before args s = true) : ∃ t : Nat, va_Z RX5 "KIND_ABOVE" "[I" (.ref t) (fun q => s.heap.size ≤ q) s s.heap ∧ va_T .int t 7 (fun i => .int ((fm_sl 0).getD i 0)) (fun q => s.heap.size ≤ q) s s.heap := by
  obtain ⟨t, ht, hT⟩ := va_Tof (args := args) (s := s) (tm := .static RX5 "KIND_ABOVE" "[I") (ty := .int) (N := 7) (f := fun i => .int ((fm_sl 0).getD i 0)) (A := fun q => s.heap.size ≤ q) (by decide) (hs _ (by decide +kernel)) (va_eqt (z := Int32.ofNat 7) (hs _ (by decide +kernel))) (fun i hi => by
    rcases (show i = 0 ∨ i = 1 ∨ i = 2 ∨ i = 3 ∨ i = 4 ∨ i = 5 ∨ i = 6 by omega) with rfl | rfl | rfl | rfl | rfl | rfl | rfl <;> exact va_eqt (hs _ (by decide +kernel))) ws_noA
  exact ⟨t, va_Zof (hts (.laysStatic RX5 "KIND_ABOVE" "[I") (by decide +kernel)) (hts (.initialized RX5) (by decide +kernel)) ht ws_noA, hT⟩
theorem ws_st1 {s : State} {args : Array Value} (hs : ∀ c ∈ flatC (Jvm.Cond.and given_1 narrow_1), c.before args s = true) (hts : ∀ w ∈ lw_tbl, w.before args s = true) : ∃ t : Nat, va_Z RX0 "GOES_BODIES" "[I" (.ref t) (fun q => s.heap.size ≤ q) s s.heap ∧ va_T .int t 7 (fun i => .int ((fm_sl 1).getD i 0)) (fun q => s.heap.size ≤ q) s s.heap := by
  obtain ⟨t, ht, hT⟩ := va_Tof (args := args) (s := s) (tm := .static RX0 "GOES_BODIES" "[I") (ty := .int) (N := 7) (f := fun i => .int ((fm_sl 1).getD i 0)) (A := fun q => s.heap.size ≤ q) (by decide) (hs _ (by decide +kernel)) (va_eqt (z := Int32.ofNat 7) (hs _ (by decide +kernel))) (fun i hi => by
    rcases (show i = 0 ∨ i = 1 ∨ i = 2 ∨ i = 3 ∨ i = 4 ∨ i = 5 ∨ i = 6 by omega) with rfl | rfl | rfl | rfl | rfl | rfl | rfl <;> exact va_eqt (hs _ (by decide +kernel))) ws_noA
  exact ⟨t, va_Zof (hts (.laysStatic RX0 "GOES_BODIES" "[I") (by decide +kernel)) (hts (.initialized RX0) (by decide +kernel)) ht ws_noA, hT⟩
theorem ws_st2 {s : State} {args : Array Value} (hs : ∀ c ∈ flatC (Jvm.Cond.and given_1 narrow_1), c.before args s = true) (hts : ∀ w ∈ lw_tbl, w.before args s = true) : ∃ t : Nat, va_Z RX0 "TURNS_BODIES" "[I" (.ref t) (fun q => s.heap.size ≤ q) s s.heap ∧ va_T .int t 7 (fun i => .int ((fm_sl 2).getD i 0)) (fun q => s.heap.size ≤ q) s s.heap := by
  obtain ⟨t, ht, hT⟩ := va_Tof (args := args) (s := s) (tm := .static RX0 "TURNS_BODIES" "[I") (ty := .int) (N := 7) (f := fun i => .int ((fm_sl 2).getD i 0)) (A := fun q => s.heap.size ≤ q) (by decide) (hs _ (by decide +kernel)) (va_eqt (z := Int32.ofNat 7) (hs _ (by decide +kernel))) (fun i hi => by
    rcases (show i = 0 ∨ i = 1 ∨ i = 2 ∨ i = 3 ∨ i = 4 ∨ i = 5 ∨ i = 6 by omega) with rfl | rfl | rfl | rfl | rfl | rfl | rfl <;> exact va_eqt (hs _ (by decide +kernel))) ws_noA
  exact ⟨t, va_Zof (hts (.laysStatic RX0 "TURNS_BODIES" "[I") (by decide +kernel)) (hts (.initialized RX0) (by decide +kernel)) ht ws_noA, hT⟩
theorem ws_st3 {s : State} {args : Array Value} (hs : ∀ c ∈ flatC (Jvm.Cond.and given_1 narrow_1), c.before args s = true) (hts : ∀ w ∈ lw_tbl, w.before args s = true) : ∃ t : Nat, va_Z RX0 "HOOKS_BODIES" "[I" (.ref t) (fun q => s.heap.size ≤ q) s s.heap ∧ va_T .int t 7 (fun i => .int ((fm_sl 3).getD i 0)) (fun q => s.heap.size ≤ q) s s.heap := by
  obtain ⟨t, ht, hT⟩ := va_Tof (args := args) (s := s) (tm := .static RX0 "HOOKS_BODIES" "[I") (ty := .int) (N := 7) (f := fun i => .int ((fm_sl 3).getD i 0)) (A := fun q => s.heap.size ≤ q) (by decide) (hs _ (by decide +kernel)) (va_eqt (z := Int32.ofNat 7) (hs _ (by decide +kernel))) (fun i hi => by
    rcases (show i = 0 ∨ i = 1 ∨ i = 2 ∨ i = 3 ∨ i = 4 ∨ i = 5 ∨ i = 6 by omega) with rfl | rfl | rfl | rfl | rfl | rfl | rfl <;> exact va_eqt (hs _ (by decide +kernel))) ws_noA
  exact ⟨t, va_Zof (hts (.laysStatic RX0 "HOOKS_BODIES" "[I") (by decide +kernel)) (hts (.initialized RX0) (by decide +kernel)) ht ws_noA, hT⟩
theorem ws_txt {s : State} {args : Array Value} (hs : ∀ c ∈ flatC (Jvm.Cond.and given_1 narrow_1), c.before args s = true) (hts : ∀ w ∈ lw_tbl, w.before args s = true) : ∃ aK aV : Nat → Nat, vk_S 5 fm_tl fm_tb5 aK aV (fun q => s.heap.size ≤ q) s s.heap ∧ ∀ i, i < 5 → vk_R RX3 (fm_ix i) (fm_tx i) (aK i) s := by
  obtain ⟨aK, aV, h1, h2⟩ := vk_Sof (args := args) (s := s) (N := 5) (tm := fun i => .string RX3 (fm_ix i)) (len := fm_tl) (byt := fm_tb5) (A := fun q => s.heap.size ≤ q) (fun i hi => fm_tl31 hi)
    (fun i hi => by rcases (show i = 0 ∨ i = 1 ∨ i = 2 ∨ i = 3 ∨ i = 4 by omega) with rfl | rfl | rfl | rfl | rfl <;> exact hs _ (by decide +kernel))
    (fun i hi => by rcases (show i = 0 ∨ i = 1 ∨ i = 2 ∨ i = 3 ∨ i = 4 by omega) with rfl | rfl | rfl | rfl | rfl <;> exact hs _ (by decide +kernel))
    (fun i hi => by rcases (show i = 0 ∨ i = 1 ∨ i = 2 ∨ i = 3 ∨ i = 4 by omega) with rfl | rfl | rfl | rfl | rfl <;> exact hs _ (by decide +kernel))
    (fun i hi => by rcases (show i = 0 ∨ i = 1 ∨ i = 2 ∨ i = 3 ∨ i = 4 by omega) with rfl | rfl | rfl | rfl | rfl <;> exact hs _ (by decide +kernel))
    (fun i hi j hj => by
      have hj5 : j < 5 := by
        have key : ∀ q, q < 5 → fm_tl.getD q 0 ≤ 5 := by decide
        have := key i hi
        omega
      rcases (show i = 0 ∨ i = 1 ∨ i = 2 ∨ i = 3 ∨ i = 4 by omega) with rfl | rfl | rfl | rfl | rfl <;> rcases (show j = 0 ∨ j = 1 ∨ j = 2 ∨ j = 3 ∨ j = 4 by omega) with rfl | rfl | rfl | rfl | rfl <;> first | exact hs _ (by decide +kernel) | exact absurd hj (by decide))
    (fun i j hi hj hne => by
      rcases (show i = 0 ∨ i = 1 ∨ i = 2 ∨ i = 3 ∨ i = 4 by omega) with rfl | rfl | rfl | rfl | rfl <;> rcases (show j = 0 ∨ j = 1 ∨ j = 2 ∨ j = 3 ∨ j = 4 by omega) with rfl | rfl | rfl | rfl | rfl <;> first | exact absurd rfl hne | exact Or.inl (hs _ (by decide +kernel)) | exact Or.inr (hs _ (by decide +kernel))) ws_noA
  refine ⟨aK, aV, h1, fun i hi => ?_⟩
  have h3 := h2 i hi
  rcases (show i = 0 ∨ i = 1 ∨ i = 2 ∨ i = 3 ∨ i = 4 by omega) with rfl | rfl | rfl | rfl | rfl <;> exact vk_R.of (hts _ (by decide +kernel)) h3
theorem ws_cs {s : State} {args : Array Value} (hs : ∀ c ∈ flatC (Jvm.Cond.and given_1 narrow_1), c.before args s = true) (hts : ∀ w ∈ lw_tbl, w.before args s = true) : va_Z "java/lang/String" "COMPACT_STRINGS" "Z" (.int 1) (fun q => s.heap.size ≤ q) s s.heap := va_Zof (hts _ (by decide +kernel)) (hts (.initialized "java/lang/String") (by decide +kernel)) (va_eqi (hs _ (by decide +kernel))) ws_noA
theorem ws_fm {s : State} {args : Array Value} (hs : ∀ c ∈ flatC (Jvm.Cond.and given_1 narrow_1), c.before args s = true) (hts : ∀ w ∈ lw_tbl, w.before args s = true) : va_Zq "jdk/internal/util/Preconditions" "SIOOBE_FORMATTER" "Ljava/util/function/BiFunction;" (fun q => s.heap.size ≤ q) s s.heap := va_Zqof (hts _ (by decide +kernel)) (hts (.initialized "jdk/internal/util/Preconditions") (by decide +kernel)) (hs _ (by decide +kernel)) ws_noA
theorem ws_E {s : State} {args : Array Value} (hts : ∀ w ∈ lw_tbl, w.before args s = true) : fk_E s := ⟨⟨va_AO.of (hts (.arrayOver (.object RX0)) (by decide +kernel)), va_AO.of (hts (.arrayOver (.object RX2)) (by decide +kernel))⟩, va_Nw.of rfl (hts (.methodLinkNest RX5 30 yX1_init RX5) (by decide +kernel)), va_Nw.of rfl (hts (.methodLinkNest RX5 37 yX3_init RX5) (by decide +kernel)), va_Nw.of rfl (hts (.methodLinkNest RX5 44 yX4_init RX5) (by decide +kernel)), va_Nw.of rfl (hts (.methodLinkNest RX5 59 yX2_init RX5) (by decide +kernel))⟩
theorem ws_N {s : State} {args : Array Value} (hts : ∀ w ∈ lw_tbl, w.before args s = true) : va_Nw (.methodLinkNest RX0 54 yX5_isOdd RX5) s ∧ va_Nw (.methodLinkNest RX1 78 yX5_turnsOfSize RX5) s ∧ va_Nw (.methodLinkNest RX1 85 yX5_isOdd RX5) s ∧ va_Nw (.methodLinkNest RX0 81 yX5_isKind RX5) s := ⟨va_Nw.of rfl (hts _ (by decide +kernel)), va_Nw.of rfl (hts _ (by decide +kernel)), va_Nw.of rfl (hts _ (by decide +kernel)), va_Nw.of rfl (hts _ (by decide +kernel))⟩
theorem ws_prim {s : State} {args : Array Value} {ty : FieldType} (h : (Cond.arrayClass ty).before args s = true) (hp : ∀ C, ty ≠ .object C) : ∃ cA : ClassId, ArrOfT s cA ty ∧ va_RA s cA ty := by
  obtain ⟨cA, kA, comp, h1, h2, h3⟩ := Cond.arrayClass_spec (args := args) (first := s) (o := none) (s := s) (idx := []) h
  refine ⟨cA, fun n z => ⟨fun k h => (by cases h), kA, h2, comp, h3⟩, ?_⟩
  cases ty <;> first | exact h1 | exact absurd rfl (hp _)
theorem ws_obj {s : State} {args : Array Value} {C : String} (h : (Cond.arrayOver (.object C)).before args s = true) : ∃ cA : ClassId, ArrOfT s cA (.object C) ∧ va_RA s cA (.object C) := by
  obtain ⟨comp, cA, kA, h1, -, h2, h3, h4⟩ := Cond.arrayOver_spec (args := args) (first := s) (o := none) (s := s) (idx := []) h
  exact ⟨cA, fun N z => ⟨(fun k h => by cases h), kA, h2, comp, h3⟩, kA, comp, h2, h3, h1, h4⟩
set_option maxHeartbeats 4000000 in
set_option maxRecDepth 100000 in
/-- from the entry -/
theorem whole_start {p : Program} {e : Env} {s : State} {m : MethodId} {below : List Frame} {meth : Method} {c : Code} (l : Launch) (hflags : l.flags = flags0) {b L : Nat} {xs : Nat → Int32} (hL : L ≤ 3072) (C0 : lw_At p s m meth c b L xs) : W p l e room_1 s m #[Value.ref b] below meth c s.heap [] 0 0 (lw_Z below #[Value.ref b] s) (entryFrame m ([Value.ref b] : List Value).toArray 4) := by
  obtain ⟨hx, hb, hr, hml, hown, hts, hX, hbl, hlocks, hgv⟩ := id C0
  have hs := flat_of_before _ hgv
  have htb : ∀ w ∈ fm_tb, w.before #[Value.ref b] s = true := fun w hw => hts w (fm_tb_in w hw)
  obtain ⟨c0, i0, hk0⟩ := u_known (C := RX0) (T := TX0) (N := 7) (n := 7) htb in_X0 (htb _ m_in_X0)
  obtain ⟨c1, i1, hk1⟩ := u_known (C := RX1) (T := TX1) (N := 9) (n := 9) htb in_X1 (htb _ m_in_X1)
  obtain ⟨c2, i2, hk2⟩ := u_known (C := RX2) (T := TX2) (N := 3) (n := 3) htb in_X2 (htb _ m_in_X2)
  obtain ⟨c3, i3, hk3⟩ := u_known (C := RX3) (T := TX3) (N := 9) (n := 9) htb in_X3 (htb _ m_in_X3)
  obtain ⟨c4, i4, hk4⟩ := u_known (C := RX4) (T := TX4) (N := 2) (n := 2) htb in_X4 (htb _ m_in_X4)
  obtain ⟨c5, i5, hk5⟩ := u_known (C := RX5) (T := TX5) (N := 14) (n := 14) htb in_X5 (htb _ m_in_X5)
  obtain ⟨c6, i6, hk6⟩ := u_known (C := RX6) (T := TX6) (N := 34) (n := 34) htb in_X6 (htb _ m_in_X6)
  obtain ⟨dC, dI, hKc⟩ : ∃ (dC : Nat → ClassId) (dI : Nat → Nat → Nat), ∀ (k : Nat) (q : vw_C), vwCl[k]? = some q → u_Kn s q.1 q.2.1 q.2.2 (dC k) (dI k) := by
    refine ⟨fun k => if k = 0 then c0 else if k = 1 then c1 else if k = 2 then c2 else if k = 3 then c3 else if k = 4 then c4 else if k = 5 then c5 else c6, fun k => if k = 0 then i0 else if k = 1 then i1 else if k = 2 then i2 else if k = 3 then i3 else if k = 4 then i4 else if k = 5 then i5 else i6, ?_⟩
    intro k q hq
    match k, hq with
    | 0, hq => cases hq; exact hk0
    | 1, hq => cases hq; exact hk1
    | 2, hq => cases hq; exact hk2
    | 3, hq => cases hq; exact hk3
    | 4, hq => cases hq; exact hk4
    | 5, hq => cases hq; exact hk5
    | 6, hq => cases hq; exact hk6
    | k + 7, hq => simp [vwCl] at hq
  obtain ⟨a0, ha0⟩ := ws_prim (ty := .int) (htb _ m_ac_int) (fun C h => by cases h)
  obtain ⟨a1, ha1⟩ := ws_prim (ty := .long) (htb _ m_ac_long) (fun C h => by cases h)
  obtain ⟨a2, ha2⟩ := ws_obj (C := RX0) (hts (.arrayOver (.object RX0)) (by decide +kernel))
  obtain ⟨a3, ha3⟩ := ws_obj (C := RX2) (hts (.arrayOver (.object RX2)) (by decide +kernel))
  obtain ⟨t0, z0, y0⟩ := ws_st0 hs hts
  obtain ⟨t1, z1, y1⟩ := ws_st1 hs hts
  obtain ⟨t2, z2, y2⟩ := ws_st2 hs hts
  obtain ⟨t3, z3, y3⟩ := ws_st3 hs hts
  obtain ⟨aK, aV, hT1, hT2⟩ := ws_txt hs hts
  have hG : ∃ G : fm_G, G = pa_G (dC, dI) (fun k => if k = 0 then a0 else if k = 1 then a1 else if k = 2 then a2 else a3) s.heap.size (fun k => if k = 0 then t0 else if k = 1 then t1 else if k = 2 then t2 else t3) aK aV := ⟨_, rfl⟩
  obtain ⟨G, hG⟩ := hG
  have had : ∀ p, G.2.2.1 p = s.heap.size + pa_off p := fun p => by rw [hG]; rfl
  have hK : va_K G.1 vwCl (fm_ty G) s := by
    rw [hG]
    refine ⟨hKc, fun k q h => ?_⟩
    match k, h with
    | 0, h => cases h; exact ha0
    | 1, h => cases h; exact ha1
    | 2, h => cases h; exact ha2
    | 3, h => cases h; exact ha3
    | k + 4, h => simp [fm_ty] at h
  have hinj : fm_inj G := fun p q hp hq h => by
    rw [had, had] at h
    exact pa_inj p hp q hq (by omega)
  have hZ : fm_Z G (fun q => s.heap.size ≤ q) s s.heap := by
    rw [hG]
    refine ⟨fun j hj => ?_, ws_N hts, hT2, hT1, ws_cs hs hts, ws_fm hs hts⟩
    rcases (show j = 0 ∨ j = 1 ∨ j = 2 ∨ j = 3 by omega) with rfl | rfl | rfl | rfl
    · exact ⟨z0, y0⟩
    · exact ⟨z1, y1⟩
    · exact ⟨z2, y2⟩
    · exact ⟨z3, y3⟩
  have hE : fk_E s := ws_E hts
  have hXX : ∃ X : fm_X, X = (p, l, e, room_1, s, m, #[Value.ref b], below, meth, c) := ⟨_, rfl⟩
  obtain ⟨X, hXX⟩ := hXX
  have C1 : fl_C X G l cL_law RL 4 2048 84000 600000 7302250 s.heap.size := by
    rw [hXX]
    exact ⟨hx, hb, hml, hown, htb, hlocks, trivial, rfl, rfl, hK, Nat.le_refl _, trivial, hE⟩
  have C2 : fx_C X G l b L xs := by
    rw [hXX]
    exact ⟨hx, hb, hml, hown, htb, hlocks, hr, rfl, rfl, hK, hinj, hZ, fun p _ => by rw [had]; exact Nat.le_add_right _ _, hX, hbl, hL⟩
  have hsX : fm_s X = s := by rw [hXX]
  have hκ : ∀ p, p < 81 → pa_k G s.heap.size (fk_u (fun _ => .inr (5, [.null, .null, .null, .null, .null, .null, .null, .int 0, .int 0, .int 0, .int 0, .int 0, .int 0, .int 0])) 0 (.inr (5, [.null, .null, .null, .null, .null, .null, .null, .int 0, .int 0, .int 0, .int 0, .int 0, .int 0, .int 0]))) (pa_off p) = fm_c G p (pa_m0 p) (pa_n0 p) := by
    rw [hG]
    exact pa_start
  have hQ : (lw_Z below #[Value.ref b] s) = lw_Z (fm_be X) #[Value.ref b] (fm_s X) := by rw [hXX]
  have main : fk_W X G 4 s.heap.size (lw_Z below #[Value.ref b] s) (fun _ => .inr (5, [.null, .null, .null, .null, .null, .null, .null, .int 0, .int 0, .int 0, .int 0, .int 0, .int 0, .int 0])) 0 0 0 0 [(0, .ref b)] [] := by
    refine fl_new (pc := 0) (ci := 5) (fs := [.null, .null, .null, .null, .null, .null, .null, .int 0, .int 0, .int 0, .int 0, .int 0, .int 0, .int 0]) C1 rfl in_X5 tyX5_ok (fun j hj => by rcases (show j = 0 ∨ j = 1 ∨ j = 2 ∨ j = 3 ∨ j = 4 ∨ j = 5 ∨ j = 6 ∨ j = 7 ∨ j = 8 ∨ j = 9 ∨ j = 10 ∨ j = 11 ∨ j = 12 ∨ j = 13 by omega) with rfl | rfl | rfl | rfl | rfl | rfl | rfl | rfl | rfl | rfl | rfl | rfl | rfl | rfl <;> rfl) m_kl_L_7 m_in_X5 m_ini_X5 (Nat.le_of_ble_eq_true rfl) (Nat.le_of_ble_eq_true rfl) dL_law_0 ?_
    refine fl_dup (pc := 3) C1 dL_law_3 rfl ?_
    refine fl_call (pc := 4) (c := 0) (rest := [.ref (s.heap.size + 0)]) C1 (c_X5_init fk_s) ok_X5_init m_ml_L_9 dL_law_4 ⟨Nat.le_of_ble_eq_true rfl, Nat.le_of_ble_eq_true rfl⟩ rfl rfl (Nat.le_of_ble_eq_true rfl) (Nat.le_of_ble_eq_true rfl) (Nat.le_of_ble_eq_true rfl) ?_
    refine fl_astore_n (pc := 7) C1 dL_law_7 rfl (by decide) rfl ?_
    refine fl_new (pc := 8) (ci := 6) (fs := [.int 0, .int 0, .int 0, .int 0, .null, .null, .null, .null, .null, .null, .null, .null, .null, .null, .null, .null, .null, .null, .null, .int 0, .int 0, .int 0, .int 0, .int 0, .null, .null, .null, .null, .int 0, .null, .null, .null, .int 0, .int 0]) C1 rfl in_X6 tyX6_ok (fun j hj => by rcases (show j = 0 ∨ j = 1 ∨ j = 2 ∨ j = 3 ∨ j = 4 ∨ j = 5 ∨ j = 6 ∨ j = 7 ∨ j = 8 ∨ j = 9 ∨ j = 10 ∨ j = 11 ∨ j = 12 ∨ j = 13 ∨ j = 14 ∨ j = 15 ∨ j = 16 ∨ j = 17 ∨ j = 18 ∨ j = 19 ∨ j = 20 ∨ j = 21 ∨ j = 22 ∨ j = 23 ∨ j = 24 ∨ j = 25 ∨ j = 26 ∨ j = 27 ∨ j = 28 ∨ j = 29 ∨ j = 30 ∨ j = 31 ∨ j = 32 ∨ j = 33 by omega) with rfl | rfl | rfl | rfl | rfl | rfl | rfl | rfl | rfl | rfl | rfl | rfl | rfl | rfl | rfl | rfl | rfl | rfl | rfl | rfl | rfl | rfl | rfl | rfl | rfl | rfl | rfl | rfl | rfl | rfl | rfl | rfl | rfl | rfl <;> rfl) m_kl_L_10 m_in_X6 m_ini_X6 (Nat.le_of_ble_eq_true rfl) (Nat.le_of_ble_eq_true rfl) dL_law_8 ?_
    refine fl_dup (pc := 11) C1 dL_law_11 rfl ?_
    refine fl_call (pc := 12) (c := 58) (rest := [.ref (s.heap.size + 58)]) C1 (c_X6_init fk_s) ok_X6_init m_ml_L_12 dL_law_12 ⟨Nat.le_of_ble_eq_true rfl, Nat.le_of_ble_eq_true rfl⟩ rfl rfl (Nat.le_of_ble_eq_true rfl) (Nat.le_of_ble_eq_true rfl) (Nat.le_of_ble_eq_true rfl) ?_
    refine fl_astore_n (pc := 15) C1 dL_law_15 rfl (by decide) rfl ?_
    refine fl_iconst (pc := 16) (v := nI 0) C1 dL_law_16 (by decide) ?_
    refine fl_istore_n (pc := 17) C1 dL_law_17 rfl (by decide) rfl ?_
    rw [hQ]
    have hz : s.heap.size = (fm_s X).heap.size := by rw [hsX]
    rw [hz] at hκ ⊢
    refine fl_fx (fun p => by rw [had, hz]) hκ ?_
    refine fx_less (lv' := [(0, .ref b), (1, .ref (G.2.2.1 0)), (2, .ref (G.2.2.1 58)), (3, .int (nI 0))]) ⟨rfl, by rw [had, hz]; rfl, by rw [had, hz]; rfl, rfl, trivial⟩ ?_
    exact law_loop C2 (by rw [hXX]) rfl (L + 1) 0 pa_m0 pa_n0 pa_inv0 (Nat.zero_le _) (by omega)
  have hl := lv_entry ([.ref b]) (n := 4) (Nat.le_of_ble_eq_true rfl)
  rw [lg_entry_eq]
  subst hXX
  exact main s.heap [] _ rfl (fun k q h => by simp [fk_ws] at h) va_S.rf hl
