/-! THE LAW -/
def fx_A (X : fm_X) : Nat → Prop := fun q => (fm_s X).heap.size ≤ q
def fx_C (X : fm_X) (G : fm_G) (l : Launch) (b L : Nat) (xs : Nat → Int32) : Prop :=
  X.1.tables.exec = Jvm.exec ∧ (fm_co X).code = cL_law ∧ (fm_co X).maxLocals = 4 ∧ (fm_s X).vm.findClass RL = some (fm_m X).cls ∧ (∀ w ∈ fm_tb, w.before (fm_as X) (fm_s X) = true) ∧ (fm_me X).locks = false ∧ (fm_me X).sig.returnType = ret ∧ X.2.2.2.1 = room_1 ∧ X.2.1 = l ∧ va_K G.1 vwCl (fm_ty G) (fm_s X) ∧ fm_inj G ∧ fm_Z G (fx_A X) (fm_s X) (fm_s X).heap ∧ (∀ p, p < 81 → (fm_s X).heap.size ≤ G.2.2.1 p) ∧ va_X b L xs (fm_s X) (fm_s X).heap ∧ b < (fm_s X).heap.size ∧ L ≤ 3072
def fx_W (X : fm_X) (G : fm_G) (Q : State → Prop) (cells slots : Nat) (μ : fm_I) (ν : fm_L) (pc : Nat) (lv : List (Nat × Value)) (st : List Value) : Prop :=
  ∀ (H : Heap) (locs : List Loc) (ls : Array Slot), va_P G.1 vwCl (fm_ws G μ ν) H → va_S (fx_A X) (fm_s X).heap H locs → lv_has ls 4 lv → W X.1 X.2.1 X.2.2.1 X.2.2.2.1 (fm_s X) (fm_m X) (fm_as X) (fm_be X) (fm_me X) (fm_co X) H locs cells slots Q (F0 (fm_m X) pc ls st)
section FX
variable {X : fm_X} {G : fm_G} {l : Launch} {b L : Nat} {xs : Nat → Int32} {Q : State → Prop} {cells slots : Nat} {μ : fm_I} {ν : fm_L} {pc : Nat} {lv : List (Nat × Value)} {st : List Value}
theorem fx_iconst (C : fx_C X G l b L xs) {z : Int} {v : Int32} (hd : decode cL_law pc = .ok (.iconst z, 1)) (hv : Int32.ofInt z = v) (kk : fx_W X G Q cells slots μ ν (pc + 1) lv (.int v :: st)) : fx_W X G Q cells slots μ ν pc lv (st) := fun H locs ls hP hS hL => lv_iconst C.1 C.2.1 hd hv (kk H locs ls hP hS hL)
theorem fx_bipush (C : fx_C X G l b L xs) {z : Int} {v : Int32} (hd : decode cL_law pc = .ok (.bipush z, 2)) (hv : (Int8.ofInt z).toInt32 = v) (kk : fx_W X G Q cells slots μ ν (pc + 2) lv (.int v :: st)) : fx_W X G Q cells slots μ ν pc lv (st) := fun H locs ls hP hS hL => lv_bipush C.1 C.2.1 hd hv (kk H locs ls hP hS hL)
theorem fx_aload_n (C : fx_C X G l b L xs) {z : Fin 4} {i x : Nat} (hd : decode cL_law pc = .ok (.aload_n z, 1)) (hi : (z : Nat) = i) (hl : fm_lk lv i = some (.ref x)) (kk : fx_W X G Q cells slots μ ν (pc + 1) lv (.ref x :: st)) : fx_W X G Q cells slots μ ν pc lv (st) := fun H locs ls hP hS hL => lv_aload_n C.1 C.2.1 hd hi (fm_lk_at hL hl) (kk H locs ls hP hS hL)
theorem fx_iload_n (C : fx_C X G l b L xs) {z : Fin 4} {i : Nat} {x : Int32} (hd : decode cL_law pc = .ok (.iload_n z, 1)) (hi : (z : Nat) = i) (hl : fm_lk lv i = some (.int x)) (kk : fx_W X G Q cells slots μ ν (pc + 1) lv (.int x :: st)) : fx_W X G Q cells slots μ ν pc lv (st) := fun H locs ls hP hS hL => lv_iload_n C.1 C.2.1 hd hi (fm_lk_at hL hl) (kk H locs ls hP hS hL)
theorem fx_iadd (C : fx_C X G l b L xs) {x y : Int32} (hd : decode cL_law pc = .ok (.iadd, 1)) (kk : fx_W X G Q cells slots μ ν (pc + 1) lv (.int (x + y) :: st)) : fx_W X G Q cells slots μ ν pc lv (.int y :: .int x :: st) := fun H locs ls hP hS hL => lv_iadd C.1 C.2.1 hd (kk H locs ls hP hS hL)
theorem fx_isub (C : fx_C X G l b L xs) {x y : Int32} (hd : decode cL_law pc = .ok (.isub, 1)) (kk : fx_W X G Q cells slots μ ν (pc + 1) lv (.int (x - y) :: st)) : fx_W X G Q cells slots μ ν pc lv (.int y :: .int x :: st) := fun H locs ls hP hS hL => lv_isub C.1 C.2.1 hd (kk H locs ls hP hS hL)
theorem fx_iand (C : fx_C X G l b L xs) {x y : Int32} (hd : decode cL_law pc = .ok (.iand, 1)) (kk : fx_W X G Q cells slots μ ν (pc + 1) lv (.int (x &&& y) :: st)) : fx_W X G Q cells slots μ ν pc lv (.int y :: .int x :: st) := fun H locs ls hP hS hL => lv_iand C.1 C.2.1 hd (kk H locs ls hP hS hL)
theorem fx_lor (C : fx_C X G l b L xs) {x y : Int64} (hd : decode cL_law pc = .ok (.lor, 1)) (kk : fx_W X G Q cells slots μ ν (pc + 1) lv (.long (x ||| y) :: st)) : fx_W X G Q cells slots μ ν pc lv (.long y :: .long x :: st) := fun H locs ls hP hS hL => lv_lor C.1 C.2.1 hd (kk H locs ls hP hS hL)
theorem fx_land (C : fx_C X G l b L xs) {x y : Int64} (hd : decode cL_law pc = .ok (.land, 1)) (kk : fx_W X G Q cells slots μ ν (pc + 1) lv (.long (x &&& y) :: st)) : fx_W X G Q cells slots μ ν pc lv (.long y :: .long x :: st) := fun H locs ls hP hS hL => lv_land C.1 C.2.1 hd (kk H locs ls hP hS hL)
theorem fx_i2l (C : fx_C X G l b L xs) {x : Int32} (hd : decode cL_law pc = .ok (.i2l, 1)) (kk : fx_W X G Q cells slots μ ν (pc + 1) lv (.long x.toInt64 :: st)) : fx_W X G Q cells slots μ ν pc lv (.int x :: st) := fun H locs ls hP hS hL => lv_i2l C.1 C.2.1 hd rfl (kk H locs ls hP hS hL)
theorem fx_lshl (C : fx_C X G l b L xs) {x : Int64} {y : Int32} (hd : decode cL_law pc = .ok (.lshl, 1)) (kk : fx_W X G Q cells slots μ ν (pc + 1) lv (.long (x <<< (y.toInt64 &&& 63)) :: st)) : fx_W X G Q cells slots μ ν pc lv (.int y :: .long x :: st) := fun H locs ls hP hS hL => lv_lshl C.1 C.2.1 hd rfl (kk H locs ls hP hS hL)
theorem fx_lcmp (C : fx_C X G l b L xs) {x y : Int64} (hd : decode cL_law pc = .ok (.lcmp, 1)) (kk : fx_W X G Q cells slots μ ν (pc + 1) lv (.int (lg_cmp x y) :: st)) : fx_W X G Q cells slots μ ν pc lv (.long y :: .long x :: st) := fun H locs ls hP hS hL => W.lcmp C.1 C.2.1 hd (kk H locs ls hP hS hL)
theorem fx_ldc2 (C : fx_C X G l b L xs) {i : Nat} {v : Int64} (hd : decode cL_law pc = .ok (.ldc2_w i, 3)) (hw : Cond.constantLong RL i v ∈ fm_tb) (kk : fx_W X G Q cells slots μ ν (pc + 3) lv (.long v :: st)) : fx_W X G Q cells slots μ ν pc lv (st) := fun H locs ls hP hS hL => lv_ldc2 C.1 C.2.1 C.2.2.2.1 (C.2.2.2.2.1 _ hw) hd (kk H locs ls hP hS hL)
theorem fx_goto (C : fx_C X G l b L xs) {z : Int} {tgt : Nat} (hd : decode cL_law pc = .ok (.goto z, 3)) (ht : (pc : Int) + z = (tgt : Int)) (kk : fx_W X G Q cells slots μ ν (tgt) lv (st)) : fx_W X G Q cells slots μ ν pc lv (st) := fun H locs ls hP hS hL => lv_goto C.1 C.2.1 hd ht (kk H locs ls hP hS hL)
theorem fx_less {lv' : List (Nat × Value)} (h : fm_sb lv lv') (k : fx_W X G Q cells slots μ ν pc lv' st) : fx_W X G Q cells slots μ ν pc lv st := fun H locs ls hP hS hL => k H locs ls hP hS (fm_sb_has hL h)
theorem fx_iinc (C : fx_C X G l b L xs) {i : Nat} {z : Int} {x v : Int32} {lv' : List (Nat × Value)} (hd : decode cL_law pc = .ok (.iinc i z, 3)) (hx : fm_lk lv i = some (.int x)) (hv : x + Int32.ofInt z = v) (hn : i < 4) (hl : fm_p1 i (.int v) lv = lv') (kk : fx_W X G Q cells slots μ ν (pc + 3) lv' st) : fx_W X G Q cells slots μ ν pc lv st := fun H locs ls hP hS hL => by
  obtain ⟨j, hj⟩ := List.getElem?_of_mem (fm_lk_in hx)
  exact lv_iinc C.1 C.2.1 hd hL hj hv hn hl (fun ls hL => kk H locs ls hP hS hL)
theorem fx_gt (C : fx_C X G l b L xs) {x y : Int32} {z : Int} {tgt : Nat} (hd : decode cL_law pc = .ok (.if_icmp .gt z, 3)) (ht : (pc : Int) + z = (tgt : Int)) (ka : y < x → fx_W X G Q cells slots μ ν tgt lv st) (kb : ¬ y < x → fx_W X G Q cells slots μ ν (pc + 3) lv st) : fx_W X G Q cells slots μ ν pc lv (.int y :: .int x :: st) := fun H locs ls hP hS hL => lv_icmp_gt C.1 C.2.1 hd ht (fun h => ka h H locs ls hP hS hL) (fun h => kb h H locs ls hP hS hL)
theorem fx_same (C : fx_C X G l b L xs) {x : Int32} {z : Int} {tgt : Nat} (hd : decode cL_law pc = .ok (.if_icmp .eq z, 3)) (ht : (pc : Int) + z = (tgt : Int)) (kk : fx_W X G Q cells slots μ ν tgt lv st) : fx_W X G Q cells slots μ ν pc lv (.int x :: .int x :: st) := fun H locs ls hP hS hL => lv_icmp_eq C.1 C.2.1 hd ht (fun _ => kk H locs ls hP hS hL) (fun h => absurd rfl h)
theorem fx_if0 (C : fx_C X G l b L xs) {x : Int32} {z : Int} {tgt : Nat} (hd : decode cL_law pc = .ok (.ifCond .eq z, 3)) (ht : (pc : Int) + z = (tgt : Int)) (hx : x = 0) (kk : fx_W X G Q cells slots μ ν tgt lv st) : fx_W X G Q cells slots μ ν pc lv (.int x :: st) := fun H locs ls hP hS hL => lv_if_eq C.1 C.2.1 hd ht (fun _ => kk H locs ls hP hS hL) (fun h => absurd hx h)
theorem fx_tabIn (C : fx_C X G l b L xs) {d lo1 hi1 off : Int} {offs : Array Int} {len : Nat} {x : Int32} {tgt : Nat} (hd : decode cL_law pc = .ok (.tableswitch d lo1 hi1 offs, len)) (h1 : ¬ x.toInt < lo1) (h2 : ¬ hi1 < x.toInt) (ho : offs[(x.toInt - lo1).toNat]? = some off) (ht : (pc : Int) + off = (tgt : Int)) (kk : fx_W X G Q cells slots μ ν tgt lv st) : fx_W X G Q cells slots μ ν pc lv (.int x :: st) := fun H locs ls hP hS hL => lv_tableIn C.1 C.2.1 hd h1 h2 ho ht (kk H locs ls hP hS hL)
theorem fx_tabOut (C : fx_C X G l b L xs) {d lo1 hi1 : Int} {offs : Array Int} {len : Nat} {x : Int32} {tgt : Nat} (hd : decode cL_law pc = .ok (.tableswitch d lo1 hi1 offs, len)) (h : x.toInt < lo1 ∨ hi1 < x.toInt) (ht : (pc : Int) + d = (tgt : Int)) (kk : fx_W X G Q cells slots μ ν tgt lv st) : fx_W X G Q cells slots μ ν pc lv (.int x :: st) := fun H locs ls hP hS hL => lv_tableOut C.1 C.2.1 hd h ht (kk H locs ls hP hS hL)
theorem fx_slen (C : fx_C X G l b L xs) (hd : decode cL_law pc = .ok (.arraylength, 1)) (kk : fx_W X G Q cells slots μ ν (pc + 1) lv (.int (nI L) :: st)) : fx_W X G Q cells slots μ ν pc lv (.ref b :: st) := fun H locs ls hP hS hL =>
  va_slen C.1 C.2.1 C.2.2.2.2.2.2.2.2.2.2.2.2.2.1 C.2.2.2.2.2.2.2.2.2.2.2.2.2.2.1 (Nat.not_le.mpr C.2.2.2.2.2.2.2.2.2.2.2.2.2.2.1) hS hd (kk H locs ls hP hS hL)
theorem fx_sld (C : fx_C X G l b L xs) {j : Nat} {i : Int32} (hi : i = nI j) (hj : j < L) (hd : decode cL_law pc = .ok (.iaload, 1)) (kk : fx_W X G Q cells slots μ ν (pc + 1) lv (.int (xs j) :: st)) : fx_W X G Q cells slots μ ν pc lv (.int i :: .ref b :: st) := fun H locs ls hP hS hL => by
  have hL3 := C.2.2.2.2.2.2.2.2.2.2.2.2.2.2.2
  subst hi
  have hc : (nI j).toNatClampNeg = j := nI_clamp (by omega)
  refine va_sld C.1 C.2.1 C.2.2.2.2.2.2.2.2.2.2.2.2.2.1 C.2.2.2.2.2.2.2.2.2.2.2.2.2.2.1 (Nat.not_le.mpr C.2.2.2.2.2.2.2.2.2.2.2.2.2.2.1) hS (vp_in_nI hj (by omega)) hd ?_
  rw [hc]
  exact kk H locs ls hP hS hL
/-- a word of the script: five instructions -/
theorem fx_arg (C : fx_C X G l b L xs) {i j : Nat} {z : Int} (h0 : fm_lk lv 0 = some (.ref b)) (h3 : fm_lk lv 3 = some (.int (nI i))) (hj : i + j < L) (d0 : decode cL_law pc = .ok (.aload_n 0, 1)) (d1 : decode cL_law (pc + 1) = .ok (.iload_n 3, 1)) (d2 : decode cL_law (pc + 1 + 1) = .ok (.iconst z, 1)) (hz : Int32.ofInt z = nI j) (d3 : decode cL_law (pc + 1 + 1 + 1) = .ok (.iadd, 1)) (d4 : decode cL_law (pc + 1 + 1 + 1 + 1) = .ok (.iaload, 1)) (kk : fx_W X G Q cells slots μ ν (pc + 1 + 1 + 1 + 1 + 1) lv (.int (xs (i + j)) :: st)) : fx_W X G Q cells slots μ ν pc lv st := by
  refine fx_aload_n C d0 rfl h0 ?_
  refine fx_iload_n C d1 rfl h3 ?_
  refine fx_iconst C d2 hz ?_
  refine fx_iadd C d3 ?_
  exact fx_sld C (nI_add i j) hj d4 kk
theorem fx_pre (C : fx_C X G l b L xs) {As : List Value} {H : Heap} {locs : List Loc} (hP : va_P G.1 vwCl (fm_ws G μ ν) H) (hS : va_S (fx_A X) (fm_s X).heap H locs) (U : State) (hU : U.heap = H) (hW : (fm_s X).WarmedH U.vm) : va_Pc As (fun U => fm_inj G ∧ fm_At G μ ν U) As.toArray U :=
  ⟨rfl, C.2.2.2.2.2.2.2.2.2.2.1, by rw [hU]; exact hP, va_K.moved hW.alike C.2.2.2.2.2.2.2.2.2.1, (C.2.2.2.2.2.2.2.2.2.2.2.1.kept hW (fun a h1 h2 => by rw [hU]; exact hS.2.1 a h1 h2)).narrow (fun q hq => by
    obtain ⟨p, hp, rfl⟩ := hq
    exact C.2.2.2.2.2.2.2.2.2.2.2.2.1 p hp)⟩
theorem fx_cVi (C : fx_C X G l b L xs) {y : MethodName} {cc' : ByteArray} {n' fr' lo' k ix p : Nat} {ret' : Option FieldType} {As rest : List Value} {r : Int32 × fm_I × fm_L} (hM : fm_Mi l G y cc' n' ret' fr' lo' (.ref (G.2.2.1 p) :: As) μ ν r) (ok : fm_okV y cc' n' ret' k) (hp : fm_k p < 7 ∧ fm_cn p = y.cls) (hl : Cond.methodLink RL ix y ∈ fm_tb) (hd : decode cL_law pc = .ok (.invokevirtual ix, 3)) (hR : fr' + 1 ≤ 2048 ∧ 8 + (n' + 11) + lo' ≤ 84000) (hk : As.length = k) (hst : st = As.reverse ++ .ref (G.2.2.1 p) :: rest) (hW : (rest.map fun v => v.category).sum ≤ 8) (hcs : cells ≤ 600000 ∧ slots ≤ 7302250) (kk : fx_W X G Q cells slots r.2.1 r.2.2 (pc + 3) lv (.int r.1 :: rest)) : fx_W X G Q cells slots μ ν pc lv st := fun H locs ls hP hS hL => by
  have hM' := hM
  unfold fm_Mi at hM'
  rw [← C.2.2.2.2.2.2.2.2.1] at hM'
  have hrc := fm_recv C.2.2.2.2.2.2.2.2.2.1 hP hp.1
  rw [hp.2] at hrc
  have hA : ∀ q, fm_A G q → fx_A X q := fun q hq => by
    obtain ⟨p, hp, rfl⟩ := hq
    exact C.2.2.2.2.2.2.2.2.2.2.2.2.1 p hp
  have hrun := va_runV (As := As) (rest := rest) (cells := cells) (slots := slots) (g := F0 (fm_m X) pc ls st) (below := fm_be X) (R := X.2.2.2.1) (e := X.2.2.1) (meth := fm_me X) (locs := locs) ⟨C.1, C.2.1, C.2.2.1, C.2.2.2.1, C.2.2.2.2.1⟩ hM' (cwV k C.2.2.2.2.1 (fm_goodV ok hl) rfl rfl rfl ⟨rfl, ok.2.2.2.2⟩ (by rw [C.2.2.2.2.2.2.2.1]; exact hR)) ⟨fm_blind, hrc, fx_pre C hP hS⟩ rfl hk hL.1 hst (lv_room hW) hd ⟨by rw [C.2.2.2.2.2.2.2.1]; exact hcs.1, by rw [C.2.2.2.2.2.2.2.1]; exact hcs.2⟩
  refine va_calli hrun hS (fun q _ h => hA q h) (fun q h => hA q h) (fun a u t H1 locs1 ht hvm hw hB _ _ hS1 => ?_)
  obtain ⟨e1, e2⟩ := hw
  subst e1; subst e2
  exact kk H1 locs1 ls (by have h2 := hB.1; rw [ht] at h2; exact h2) hS1 hL
theorem fx_cVl (C : fx_C X G l b L xs) {y : MethodName} {cc' : ByteArray} {n' fr' lo' k ix p : Nat} {ret' : Option FieldType} {As rest : List Value} {r : Int64 × fm_I × fm_L} (hM : fm_Ml l G y cc' n' ret' fr' lo' (.ref (G.2.2.1 p) :: As) μ ν r) (ok : fm_okV y cc' n' ret' k) (hp : fm_k p < 7 ∧ fm_cn p = y.cls) (hl : Cond.methodLink RL ix y ∈ fm_tb) (hd : decode cL_law pc = .ok (.invokevirtual ix, 3)) (hR : fr' + 1 ≤ 2048 ∧ 8 + (n' + 11) + lo' ≤ 84000) (hk : As.length = k) (hst : st = As.reverse ++ .ref (G.2.2.1 p) :: rest) (hW : (rest.map fun v => v.category).sum ≤ 8) (hcs : cells ≤ 600000 ∧ slots ≤ 7302250) (kk : fx_W X G Q cells slots r.2.1 r.2.2 (pc + 3) lv (.long r.1 :: rest)) : fx_W X G Q cells slots μ ν pc lv st := fun H locs ls hP hS hL => by
  have hM' := hM
  unfold fm_Ml at hM'
  rw [← C.2.2.2.2.2.2.2.2.1] at hM'
  have hrc := fm_recv C.2.2.2.2.2.2.2.2.2.1 hP hp.1
  rw [hp.2] at hrc
  have hA : ∀ q, fm_A G q → fx_A X q := fun q hq => by
    obtain ⟨p, hp, rfl⟩ := hq
    exact C.2.2.2.2.2.2.2.2.2.2.2.2.1 p hp
  have hrun := va_runV (As := As) (rest := rest) (cells := cells) (slots := slots) (g := F0 (fm_m X) pc ls st) (below := fm_be X) (R := X.2.2.2.1) (e := X.2.2.1) (meth := fm_me X) (locs := locs) ⟨C.1, C.2.1, C.2.2.1, C.2.2.2.1, C.2.2.2.2.1⟩ hM' (cwV k C.2.2.2.2.1 (fm_goodV ok hl) rfl rfl rfl ⟨rfl, ok.2.2.2.2⟩ (by rw [C.2.2.2.2.2.2.2.1]; exact hR)) ⟨fm_blind, hrc, fx_pre C hP hS⟩ rfl hk hL.1 hst (lv_room hW) hd ⟨by rw [C.2.2.2.2.2.2.2.1]; exact hcs.1, by rw [C.2.2.2.2.2.2.2.1]; exact hcs.2⟩
  refine va_calll hrun hS (fun q _ h => hA q h) (fun q h => hA q h) (fun a u t H1 locs1 ht hvm hw hB _ _ hS1 => ?_)
  obtain ⟨e1, e2⟩ := hw
  subst e1; subst e2
  exact kk H1 locs1 ls (by have h2 := hB.1; rw [ht] at h2; exact h2) hS1 hL
theorem fx_end (C : fx_C X G l b L xs) (hargs : fm_as X = #[Value.ref b]) (hcs : cells ≤ 600000 ∧ slots ≤ 7302250) (hQ : Q = lw_Z (fm_be X) #[Value.ref b] (fm_s X)) (d0 : decode cL_law pc = .ok (.iconst 1, 1)) (d1 : decode cL_law (pc + 1) = .ok (.ireturn, 1)) : fx_W X G Q cells slots μ ν pc lv [] := fun H locs ls hP hS hL => by
  subst hQ
  rcases X with ⟨p, l0, e, R, s, m, args, below, meth, c⟩
  have hargs : args = #[Value.ref b] := hargs
  subst hargs
  have hR : R = room_1 := C.2.2.2.2.2.2.2.1
  subst hR
  refine lv_iconst (v := 1) C.1 C.2.1 d0 (by decide) ?_
  refine va_forget (fun q hq => hS.2.2 q hq) ?_
  refine W.widen (k := 600000) (n := 7302250) hcs.1 hcs.2 ?_
  exact lw_ret C.1 C.2.1 C.2.2.2.2.2.2.1 C.2.2.2.2.2.1 d1
theorem fx_cond {i L : Nat} (hi : i ≤ L) (hL : L ≤ 3072) (h : ¬ (nI L - nI 6) < nI i) : i + 6 ≤ L := by
  rcases Nat.lt_or_ge L (i + 6) with q | q
  · exfalso
    apply h
    rw [Int32.lt_iff_toInt_lt, pk_sub_toInt (by omega) (by omega), nI_toInt (by omega)]
    omega
  · exact q
end FX
set_option maxHeartbeats 4000000 in
set_option maxRecDepth 100000 in
theorem lc_0 {X : fm_X} {G : fm_G} {l : Launch} {b L : Nat} {xs : Nat → Int32} (C : fx_C X G l b L xs) {Q : State → Prop} {i : Nat} {μ : fm_I} {ν : fm_L} (hI : Inv μ ν) (hi : i + 6 ≤ L) (k : ∀ (μ : fm_I) (ν : fm_L), Inv μ ν → fx_W X G Q 81 4020 μ ν 1575 [(0, .ref b), (1, .ref (G.2.2.1 0)), (2, .ref (G.2.2.1 58)), (3, .int (nI i))] []) : fx_W X G Q 81 4020 μ ν 216 [(0, .ref b), (1, .ref (G.2.2.1 0)), (2, .ref (G.2.2.1 58)), (3, .int (nI i))] [] := by
  obtain ⟨r, μ1, ν1, μ2, ν2, hf, hg, hI2⟩ := op_row hI (xs (i + 1)) (xs (i + 2)) (xs (i + 3))
  refine fx_aload_n (pc := 216) C dL_law_216 rfl rfl ?_
  refine fx_arg (pc := 217) (i := i) (j := 1) C rfl rfl (by omega) dL_law_217 dL_law_218 dL_law_219 (by decide) dL_law_220 dL_law_221 ?_
  refine fx_arg (pc := 222) (i := i) (j := 2) C rfl rfl (by omega) dL_law_222 dL_law_223 dL_law_224 (by decide) dL_law_225 dL_law_226 ?_
  refine fx_arg (pc := 227) (i := i) (j := 3) C rfl rfl (by omega) dL_law_227 dL_law_228 dL_law_229 (by decide) dL_law_230 dL_law_231 ?_
  refine fx_cVi (pc := 232) (p := 0) (rest := []) C (t_X5_row hf) ok_X5_row ⟨by decide, rfl⟩ m_ml_L_13 dL_law_232 ⟨Nat.le_of_ble_eq_true rfl, Nat.le_of_ble_eq_true rfl⟩ rfl rfl (Nat.le_of_ble_eq_true rfl) ⟨Nat.le_of_ble_eq_true rfl, Nat.le_of_ble_eq_true rfl⟩ ?_
  refine fx_aload_n (pc := 235) C dL_law_235 rfl rfl ?_
  refine fx_arg (pc := 236) (i := i) (j := 1) C rfl rfl (by omega) dL_law_236 dL_law_237 dL_law_238 (by decide) dL_law_239 dL_law_240 ?_
  refine fx_arg (pc := 241) (i := i) (j := 2) C rfl rfl (by omega) dL_law_241 dL_law_242 dL_law_243 (by decide) dL_law_244 dL_law_245 ?_
  refine fx_arg (pc := 246) (i := i) (j := 3) C rfl rfl (by omega) dL_law_246 dL_law_247 dL_law_248 (by decide) dL_law_249 dL_law_250 ?_
  refine fx_cVi (pc := 251) (p := 58) (rest := [.int r]) C (t_X6_row hg) ok_X6_row ⟨by decide, rfl⟩ m_ml_L_17 dL_law_251 ⟨Nat.le_of_ble_eq_true rfl, Nat.le_of_ble_eq_true rfl⟩ rfl rfl (Nat.le_of_ble_eq_true rfl) ⟨Nat.le_of_ble_eq_true rfl, Nat.le_of_ble_eq_true rfl⟩ ?_
  refine fx_same (pc := 254) (tgt := 1575) C dL_law_254 (by decide) ?_
  exact k _ _ hI2
set_option maxHeartbeats 4000000 in
set_option maxRecDepth 100000 in
theorem lc_1 {X : fm_X} {G : fm_G} {l : Launch} {b L : Nat} {xs : Nat → Int32} (C : fx_C X G l b L xs) {Q : State → Prop} {i : Nat} {μ : fm_I} {ν : fm_L} (hI : Inv μ ν) (hi : i + 6 ≤ L) (k : ∀ (μ : fm_I) (ν : fm_L), Inv μ ν → fx_W X G Q 81 4020 μ ν 1575 [(0, .ref b), (1, .ref (G.2.2.1 0)), (2, .ref (G.2.2.1 58)), (3, .int (nI i))] []) : fx_W X G Q 81 4020 μ ν 259 [(0, .ref b), (1, .ref (G.2.2.1 0)), (2, .ref (G.2.2.1 58)), (3, .int (nI i))] [] := by
  obtain ⟨r, μ1, ν1, μ2, ν2, hf, hg, hI2⟩ := op_set hI (xs (i + 1)) (xs (i + 2)) (((xs (i + 3)).toInt64 <<< ((nI 32).toInt64 &&& 63)) ||| ((xs (i + 4)).toInt64 &&& 4294967295))
  refine fx_aload_n (pc := 259) C dL_law_259 rfl rfl ?_
  refine fx_arg (pc := 260) (i := i) (j := 1) C rfl rfl (by omega) dL_law_260 dL_law_261 dL_law_262 (by decide) dL_law_263 dL_law_264 ?_
  refine fx_arg (pc := 265) (i := i) (j := 2) C rfl rfl (by omega) dL_law_265 dL_law_266 dL_law_267 (by decide) dL_law_268 dL_law_269 ?_
  refine fx_arg (pc := 270) (i := i) (j := 3) C rfl rfl (by omega) dL_law_270 dL_law_271 dL_law_272 (by decide) dL_law_273 dL_law_274 ?_
  refine fx_i2l (pc := 275) C dL_law_275 ?_
  refine fx_bipush (pc := 276) (v := nI 32) C dL_law_276 (by decide) ?_
  refine fx_lshl (pc := 278) C dL_law_278 ?_
  refine fx_arg (pc := 279) (i := i) (j := 4) C rfl rfl (by omega) dL_law_279 dL_law_280 dL_law_281 (by decide) dL_law_282 dL_law_283 ?_
  refine fx_i2l (pc := 284) C dL_law_284 ?_
  refine fx_ldc2 (pc := 285) (v := 4294967295) C dL_law_285 m_cl_L_18 ?_
  refine fx_land (pc := 288) C dL_law_288 ?_
  refine fx_lor (pc := 289) C dL_law_289 ?_
  refine fx_cVi (pc := 290) (p := 0) (rest := []) C (t_X5_set hf) ok_X5_set ⟨by decide, rfl⟩ m_ml_L_20 dL_law_290 ⟨Nat.le_of_ble_eq_true rfl, Nat.le_of_ble_eq_true rfl⟩ rfl rfl (Nat.le_of_ble_eq_true rfl) ⟨Nat.le_of_ble_eq_true rfl, Nat.le_of_ble_eq_true rfl⟩ ?_
  refine fx_aload_n (pc := 293) C dL_law_293 rfl rfl ?_
  refine fx_arg (pc := 294) (i := i) (j := 1) C rfl rfl (by omega) dL_law_294 dL_law_295 dL_law_296 (by decide) dL_law_297 dL_law_298 ?_
  refine fx_arg (pc := 299) (i := i) (j := 2) C rfl rfl (by omega) dL_law_299 dL_law_300 dL_law_301 (by decide) dL_law_302 dL_law_303 ?_
  refine fx_arg (pc := 304) (i := i) (j := 3) C rfl rfl (by omega) dL_law_304 dL_law_305 dL_law_306 (by decide) dL_law_307 dL_law_308 ?_
  refine fx_i2l (pc := 309) C dL_law_309 ?_
  refine fx_bipush (pc := 310) (v := nI 32) C dL_law_310 (by decide) ?_
  refine fx_lshl (pc := 312) C dL_law_312 ?_
  refine fx_arg (pc := 313) (i := i) (j := 4) C rfl rfl (by omega) dL_law_313 dL_law_314 dL_law_315 (by decide) dL_law_316 dL_law_317 ?_
  refine fx_i2l (pc := 318) C dL_law_318 ?_
  refine fx_ldc2 (pc := 319) (v := 4294967295) C dL_law_319 m_cl_L_18 ?_
  refine fx_land (pc := 322) C dL_law_322 ?_
  refine fx_lor (pc := 323) C dL_law_323 ?_
  refine fx_cVi (pc := 324) (p := 58) (rest := [.int r]) C (t_X6_set hg) ok_X6_set ⟨by decide, rfl⟩ m_ml_L_24 dL_law_324 ⟨Nat.le_of_ble_eq_true rfl, Nat.le_of_ble_eq_true rfl⟩ rfl rfl (Nat.le_of_ble_eq_true rfl) ⟨Nat.le_of_ble_eq_true rfl, Nat.le_of_ble_eq_true rfl⟩ ?_
  refine fx_same (pc := 327) (tgt := 1575) C dL_law_327 (by decide) ?_
  exact k _ _ hI2
set_option maxHeartbeats 4000000 in
set_option maxRecDepth 100000 in
theorem lc_2 {X : fm_X} {G : fm_G} {l : Launch} {b L : Nat} {xs : Nat → Int32} (C : fx_C X G l b L xs) {Q : State → Prop} {i : Nat} {μ : fm_I} {ν : fm_L} (hI : Inv μ ν) (hi : i + 6 ≤ L) (k : ∀ (μ : fm_I) (ν : fm_L), Inv μ ν → fx_W X G Q 81 4020 μ ν 1575 [(0, .ref b), (1, .ref (G.2.2.1 0)), (2, .ref (G.2.2.1 58)), (3, .int (nI i))] []) : fx_W X G Q 81 4020 μ ν 332 [(0, .ref b), (1, .ref (G.2.2.1 0)), (2, .ref (G.2.2.1 58)), (3, .int (nI i))] [] := by
  obtain ⟨r, μ1, ν1, μ2, ν2, hf, hg, hI2⟩ := op_copy hI (xs (i + 1)) (xs (i + 2)) (xs (i + 3)) (xs (i + 4)) (xs (i + 5))
  refine fx_aload_n (pc := 332) C dL_law_332 rfl rfl ?_
  refine fx_arg (pc := 333) (i := i) (j := 1) C rfl rfl (by omega) dL_law_333 dL_law_334 dL_law_335 (by decide) dL_law_336 dL_law_337 ?_
  refine fx_arg (pc := 338) (i := i) (j := 2) C rfl rfl (by omega) dL_law_338 dL_law_339 dL_law_340 (by decide) dL_law_341 dL_law_342 ?_
  refine fx_arg (pc := 343) (i := i) (j := 3) C rfl rfl (by omega) dL_law_343 dL_law_344 dL_law_345 (by decide) dL_law_346 dL_law_347 ?_
  refine fx_arg (pc := 348) (i := i) (j := 4) C rfl rfl (by omega) dL_law_348 dL_law_349 dL_law_350 (by decide) dL_law_351 dL_law_352 ?_
  refine fx_arg (pc := 353) (i := i) (j := 5) C rfl rfl (by omega) dL_law_353 dL_law_354 dL_law_355 (by decide) dL_law_356 dL_law_357 ?_
  refine fx_cVi (pc := 358) (p := 0) (rest := []) C (t_X5_copy hf) ok_X5_copy ⟨by decide, rfl⟩ m_ml_L_25 dL_law_358 ⟨Nat.le_of_ble_eq_true rfl, Nat.le_of_ble_eq_true rfl⟩ rfl rfl (Nat.le_of_ble_eq_true rfl) ⟨Nat.le_of_ble_eq_true rfl, Nat.le_of_ble_eq_true rfl⟩ ?_
  refine fx_aload_n (pc := 361) C dL_law_361 rfl rfl ?_
  refine fx_arg (pc := 362) (i := i) (j := 1) C rfl rfl (by omega) dL_law_362 dL_law_363 dL_law_364 (by decide) dL_law_365 dL_law_366 ?_
  refine fx_arg (pc := 367) (i := i) (j := 2) C rfl rfl (by omega) dL_law_367 dL_law_368 dL_law_369 (by decide) dL_law_370 dL_law_371 ?_
  refine fx_arg (pc := 372) (i := i) (j := 3) C rfl rfl (by omega) dL_law_372 dL_law_373 dL_law_374 (by decide) dL_law_375 dL_law_376 ?_
  refine fx_arg (pc := 377) (i := i) (j := 4) C rfl rfl (by omega) dL_law_377 dL_law_378 dL_law_379 (by decide) dL_law_380 dL_law_381 ?_
  refine fx_arg (pc := 382) (i := i) (j := 5) C rfl rfl (by omega) dL_law_382 dL_law_383 dL_law_384 (by decide) dL_law_385 dL_law_386 ?_
  refine fx_cVi (pc := 387) (p := 58) (rest := [.int r]) C (t_X6_copy hg) ok_X6_copy ⟨by decide, rfl⟩ m_ml_L_29 dL_law_387 ⟨Nat.le_of_ble_eq_true rfl, Nat.le_of_ble_eq_true rfl⟩ rfl rfl (Nat.le_of_ble_eq_true rfl) ⟨Nat.le_of_ble_eq_true rfl, Nat.le_of_ble_eq_true rfl⟩ ?_
  refine fx_same (pc := 390) (tgt := 1575) C dL_law_390 (by decide) ?_
  exact k _ _ hI2
set_option maxHeartbeats 4000000 in
set_option maxRecDepth 100000 in
theorem lc_3 {X : fm_X} {G : fm_G} {l : Launch} {b L : Nat} {xs : Nat → Int32} (C : fx_C X G l b L xs) {Q : State → Prop} {i : Nat} {μ : fm_I} {ν : fm_L} (hI : Inv μ ν) (hi : i + 6 ≤ L) (k : ∀ (μ : fm_I) (ν : fm_L), Inv μ ν → fx_W X G Q 81 4020 μ ν 1575 [(0, .ref b), (1, .ref (G.2.2.1 0)), (2, .ref (G.2.2.1 58)), (3, .int (nI i))] []) : fx_W X G Q 81 4020 μ ν 395 [(0, .ref b), (1, .ref (G.2.2.1 0)), (2, .ref (G.2.2.1 58)), (3, .int (nI i))] [] := by
  obtain ⟨r, μ1, ν1, μ2, ν2, hf, hg, hI2⟩ := op_element hI (xs (i + 1)) (xs (i + 2))
  obtain ⟨hf, rfl, rfl⟩ := pa_ro_of hf
  obtain ⟨hg, rfl, rfl⟩ := pa_ro_of hg
  refine fx_aload_n (pc := 395) C dL_law_395 rfl rfl ?_
  refine fx_arg (pc := 396) (i := i) (j := 1) C rfl rfl (by omega) dL_law_396 dL_law_397 dL_law_398 (by decide) dL_law_399 dL_law_400 ?_
  refine fx_arg (pc := 401) (i := i) (j := 2) C rfl rfl (by omega) dL_law_401 dL_law_402 dL_law_403 (by decide) dL_law_404 dL_law_405 ?_
  refine fx_cVl (pc := 406) (p := 0) (rest := []) C (t_X5_element hf) ok_X5_element ⟨by decide, rfl⟩ m_ml_L_30 dL_law_406 ⟨Nat.le_of_ble_eq_true rfl, Nat.le_of_ble_eq_true rfl⟩ rfl rfl (Nat.le_of_ble_eq_true rfl) ⟨Nat.le_of_ble_eq_true rfl, Nat.le_of_ble_eq_true rfl⟩ ?_
  refine fx_aload_n (pc := 409) C dL_law_409 rfl rfl ?_
  refine fx_arg (pc := 410) (i := i) (j := 1) C rfl rfl (by omega) dL_law_410 dL_law_411 dL_law_412 (by decide) dL_law_413 dL_law_414 ?_
  refine fx_arg (pc := 415) (i := i) (j := 2) C rfl rfl (by omega) dL_law_415 dL_law_416 dL_law_417 (by decide) dL_law_418 dL_law_419 ?_
  refine fx_cVl (pc := 420) (p := 58) (rest := [.long r]) C (t_X6_element hg) ok_X6_element ⟨by decide, rfl⟩ m_ml_L_34 dL_law_420 ⟨Nat.le_of_ble_eq_true rfl, Nat.le_of_ble_eq_true rfl⟩ rfl rfl (Nat.le_of_ble_eq_true rfl) ⟨Nat.le_of_ble_eq_true rfl, Nat.le_of_ble_eq_true rfl⟩ ?_
  refine fx_lcmp (pc := 423) C dL_law_423 ?_
  refine fx_if0 (pc := 424) (tgt := 1575) C dL_law_424 (by decide) (by simp [lg_cmp]) ?_
  exact k _ _ hI2
set_option maxHeartbeats 4000000 in
set_option maxRecDepth 100000 in
theorem lc_4 {X : fm_X} {G : fm_G} {l : Launch} {b L : Nat} {xs : Nat → Int32} (C : fx_C X G l b L xs) {Q : State → Prop} {i : Nat} {μ : fm_I} {ν : fm_L} (hI : Inv μ ν) (hi : i + 6 ≤ L) (k : ∀ (μ : fm_I) (ν : fm_L), Inv μ ν → fx_W X G Q 81 4020 μ ν 1575 [(0, .ref b), (1, .ref (G.2.2.1 0)), (2, .ref (G.2.2.1 58)), (3, .int (nI i))] []) : fx_W X G Q 81 4020 μ ν 429 [(0, .ref b), (1, .ref (G.2.2.1 0)), (2, .ref (G.2.2.1 58)), (3, .int (nI i))] [] := by
  obtain ⟨r, μ1, ν1, μ2, ν2, hf, hg, hI2⟩ := op_show hI (xs (i + 1)) (xs (i + 2))
  refine fx_aload_n (pc := 429) C dL_law_429 rfl rfl ?_
  refine fx_arg (pc := 430) (i := i) (j := 1) C rfl rfl (by omega) dL_law_430 dL_law_431 dL_law_432 (by decide) dL_law_433 dL_law_434 ?_
  refine fx_arg (pc := 435) (i := i) (j := 2) C rfl rfl (by omega) dL_law_435 dL_law_436 dL_law_437 (by decide) dL_law_438 dL_law_439 ?_
  refine fx_cVi (pc := 440) (p := 0) (rest := []) C (t_X5_show hf) ok_X5_show ⟨by decide, rfl⟩ m_ml_L_35 dL_law_440 ⟨Nat.le_of_ble_eq_true rfl, Nat.le_of_ble_eq_true rfl⟩ rfl rfl (Nat.le_of_ble_eq_true rfl) ⟨Nat.le_of_ble_eq_true rfl, Nat.le_of_ble_eq_true rfl⟩ ?_
  refine fx_aload_n (pc := 443) C dL_law_443 rfl rfl ?_
  refine fx_arg (pc := 444) (i := i) (j := 1) C rfl rfl (by omega) dL_law_444 dL_law_445 dL_law_446 (by decide) dL_law_447 dL_law_448 ?_
  refine fx_arg (pc := 449) (i := i) (j := 2) C rfl rfl (by omega) dL_law_449 dL_law_450 dL_law_451 (by decide) dL_law_452 dL_law_453 ?_
  refine fx_cVi (pc := 454) (p := 58) (rest := [.int r]) C (t_X6_show hg) ok_X6_show ⟨by decide, rfl⟩ m_ml_L_39 dL_law_454 ⟨Nat.le_of_ble_eq_true rfl, Nat.le_of_ble_eq_true rfl⟩ rfl rfl (Nat.le_of_ble_eq_true rfl) ⟨Nat.le_of_ble_eq_true rfl, Nat.le_of_ble_eq_true rfl⟩ ?_
  refine fx_same (pc := 457) (tgt := 1575) C dL_law_457 (by decide) ?_
  exact k _ _ hI2
set_option maxHeartbeats 4000000 in
set_option maxRecDepth 100000 in
theorem lc_5 {X : fm_X} {G : fm_G} {l : Launch} {b L : Nat} {xs : Nat → Int32} (C : fx_C X G l b L xs) {Q : State → Prop} {i : Nat} {μ : fm_I} {ν : fm_L} (hI : Inv μ ν) (hi : i + 6 ≤ L) (k : ∀ (μ : fm_I) (ν : fm_L), Inv μ ν → fx_W X G Q 81 4020 μ ν 1575 [(0, .ref b), (1, .ref (G.2.2.1 0)), (2, .ref (G.2.2.1 58)), (3, .int (nI i))] []) : fx_W X G Q 81 4020 μ ν 462 [(0, .ref b), (1, .ref (G.2.2.1 0)), (2, .ref (G.2.2.1 58)), (3, .int (nI i))] [] := by
  obtain ⟨r, μ1, ν1, μ2, ν2, hf, hg, hI2⟩ := op_holds hI (xs (i + 1))
  obtain ⟨hf, rfl, rfl⟩ := pa_ro_of hf
  obtain ⟨hg, rfl, rfl⟩ := pa_ro_of hg
  refine fx_aload_n (pc := 462) C dL_law_462 rfl rfl ?_
  refine fx_arg (pc := 463) (i := i) (j := 1) C rfl rfl (by omega) dL_law_463 dL_law_464 dL_law_465 (by decide) dL_law_466 dL_law_467 ?_
  refine fx_cVi (pc := 468) (p := 0) (rest := []) C (t_X5_holds hf) ok_X5_holds ⟨by decide, rfl⟩ m_ml_L_40 dL_law_468 ⟨Nat.le_of_ble_eq_true rfl, Nat.le_of_ble_eq_true rfl⟩ rfl rfl (Nat.le_of_ble_eq_true rfl) ⟨Nat.le_of_ble_eq_true rfl, Nat.le_of_ble_eq_true rfl⟩ ?_
  refine fx_aload_n (pc := 471) C dL_law_471 rfl rfl ?_
  refine fx_arg (pc := 472) (i := i) (j := 1) C rfl rfl (by omega) dL_law_472 dL_law_473 dL_law_474 (by decide) dL_law_475 dL_law_476 ?_
  refine fx_cVi (pc := 477) (p := 58) (rest := [.int r]) C (t_X6_holds hg) ok_X6_holds ⟨by decide, rfl⟩ m_ml_L_44 dL_law_477 ⟨Nat.le_of_ble_eq_true rfl, Nat.le_of_ble_eq_true rfl⟩ rfl rfl (Nat.le_of_ble_eq_true rfl) ⟨Nat.le_of_ble_eq_true rfl, Nat.le_of_ble_eq_true rfl⟩ ?_
  refine fx_same (pc := 480) (tgt := 1575) C dL_law_480 (by decide) ?_
  exact k _ _ hI2
set_option maxHeartbeats 4000000 in
set_option maxRecDepth 100000 in
theorem lc_6 {X : fm_X} {G : fm_G} {l : Launch} {b L : Nat} {xs : Nat → Int32} (C : fx_C X G l b L xs) {Q : State → Prop} {i : Nat} {μ : fm_I} {ν : fm_L} (hI : Inv μ ν) (hi : i + 6 ≤ L) (k : ∀ (μ : fm_I) (ν : fm_L), Inv μ ν → fx_W X G Q 81 4020 μ ν 1575 [(0, .ref b), (1, .ref (G.2.2.1 0)), (2, .ref (G.2.2.1 58)), (3, .int (nI i))] []) : fx_W X G Q 81 4020 μ ν 485 [(0, .ref b), (1, .ref (G.2.2.1 0)), (2, .ref (G.2.2.1 58)), (3, .int (nI i))] [] := by
  obtain ⟨r, μ1, ν1, μ2, ν2, hf, hg, hI2⟩ := op_says hI (xs (i + 1)) (xs (i + 2))
  refine fx_aload_n (pc := 485) C dL_law_485 rfl rfl ?_
  refine fx_arg (pc := 486) (i := i) (j := 1) C rfl rfl (by omega) dL_law_486 dL_law_487 dL_law_488 (by decide) dL_law_489 dL_law_490 ?_
  refine fx_arg (pc := 491) (i := i) (j := 2) C rfl rfl (by omega) dL_law_491 dL_law_492 dL_law_493 (by decide) dL_law_494 dL_law_495 ?_
  refine fx_cVi (pc := 496) (p := 0) (rest := []) C (t_X5_says hf) ok_X5_says ⟨by decide, rfl⟩ m_ml_L_45 dL_law_496 ⟨Nat.le_of_ble_eq_true rfl, Nat.le_of_ble_eq_true rfl⟩ rfl rfl (Nat.le_of_ble_eq_true rfl) ⟨Nat.le_of_ble_eq_true rfl, Nat.le_of_ble_eq_true rfl⟩ ?_
  refine fx_aload_n (pc := 499) C dL_law_499 rfl rfl ?_
  refine fx_arg (pc := 500) (i := i) (j := 1) C rfl rfl (by omega) dL_law_500 dL_law_501 dL_law_502 (by decide) dL_law_503 dL_law_504 ?_
  refine fx_arg (pc := 505) (i := i) (j := 2) C rfl rfl (by omega) dL_law_505 dL_law_506 dL_law_507 (by decide) dL_law_508 dL_law_509 ?_
  refine fx_cVi (pc := 510) (p := 58) (rest := [.int r]) C (t_X6_says hg) ok_X6_says ⟨by decide, rfl⟩ m_ml_L_48 dL_law_510 ⟨Nat.le_of_ble_eq_true rfl, Nat.le_of_ble_eq_true rfl⟩ rfl rfl (Nat.le_of_ble_eq_true rfl) ⟨Nat.le_of_ble_eq_true rfl, Nat.le_of_ble_eq_true rfl⟩ ?_
  refine fx_same (pc := 513) (tgt := 1575) C dL_law_513 (by decide) ?_
  exact k _ _ hI2
set_option maxHeartbeats 4000000 in
set_option maxRecDepth 100000 in
theorem lc_7 {X : fm_X} {G : fm_G} {l : Launch} {b L : Nat} {xs : Nat → Int32} (C : fx_C X G l b L xs) {Q : State → Prop} {i : Nat} {μ : fm_I} {ν : fm_L} (hI : Inv μ ν) (hi : i + 6 ≤ L) (k : ∀ (μ : fm_I) (ν : fm_L), Inv μ ν → fx_W X G Q 81 4020 μ ν 1575 [(0, .ref b), (1, .ref (G.2.2.1 0)), (2, .ref (G.2.2.1 58)), (3, .int (nI i))] []) : fx_W X G Q 81 4020 μ ν 518 [(0, .ref b), (1, .ref (G.2.2.1 0)), (2, .ref (G.2.2.1 58)), (3, .int (nI i))] [] := by
  obtain ⟨r, μ1, ν1, μ2, ν2, hf, hg, hI2⟩ := op_band hI (xs (i + 1)) (xs (i + 2)) (xs (i + 3)) (xs (i + 4)) (xs (i + 5))
  refine fx_aload_n (pc := 518) C dL_law_518 rfl rfl ?_
  refine fx_arg (pc := 519) (i := i) (j := 1) C rfl rfl (by omega) dL_law_519 dL_law_520 dL_law_521 (by decide) dL_law_522 dL_law_523 ?_
  refine fx_arg (pc := 524) (i := i) (j := 2) C rfl rfl (by omega) dL_law_524 dL_law_525 dL_law_526 (by decide) dL_law_527 dL_law_528 ?_
  refine fx_arg (pc := 529) (i := i) (j := 3) C rfl rfl (by omega) dL_law_529 dL_law_530 dL_law_531 (by decide) dL_law_532 dL_law_533 ?_
  refine fx_arg (pc := 534) (i := i) (j := 4) C rfl rfl (by omega) dL_law_534 dL_law_535 dL_law_536 (by decide) dL_law_537 dL_law_538 ?_
  refine fx_arg (pc := 539) (i := i) (j := 5) C rfl rfl (by omega) dL_law_539 dL_law_540 dL_law_541 (by decide) dL_law_542 dL_law_543 ?_
  refine fx_cVi (pc := 544) (p := 0) (rest := []) C (t_X5_band hf) ok_X5_band ⟨by decide, rfl⟩ m_ml_L_49 dL_law_544 ⟨Nat.le_of_ble_eq_true rfl, Nat.le_of_ble_eq_true rfl⟩ rfl rfl (Nat.le_of_ble_eq_true rfl) ⟨Nat.le_of_ble_eq_true rfl, Nat.le_of_ble_eq_true rfl⟩ ?_
  refine fx_aload_n (pc := 547) C dL_law_547 rfl rfl ?_
  refine fx_arg (pc := 548) (i := i) (j := 1) C rfl rfl (by omega) dL_law_548 dL_law_549 dL_law_550 (by decide) dL_law_551 dL_law_552 ?_
  refine fx_arg (pc := 553) (i := i) (j := 2) C rfl rfl (by omega) dL_law_553 dL_law_554 dL_law_555 (by decide) dL_law_556 dL_law_557 ?_
  refine fx_arg (pc := 558) (i := i) (j := 3) C rfl rfl (by omega) dL_law_558 dL_law_559 dL_law_560 (by decide) dL_law_561 dL_law_562 ?_
  refine fx_arg (pc := 563) (i := i) (j := 4) C rfl rfl (by omega) dL_law_563 dL_law_564 dL_law_565 (by decide) dL_law_566 dL_law_567 ?_
  refine fx_arg (pc := 568) (i := i) (j := 5) C rfl rfl (by omega) dL_law_568 dL_law_569 dL_law_570 (by decide) dL_law_571 dL_law_572 ?_
  refine fx_cVi (pc := 573) (p := 58) (rest := [.int r]) C (t_X6_band hg) ok_X6_band ⟨by decide, rfl⟩ m_ml_L_52 dL_law_573 ⟨Nat.le_of_ble_eq_true rfl, Nat.le_of_ble_eq_true rfl⟩ rfl rfl (Nat.le_of_ble_eq_true rfl) ⟨Nat.le_of_ble_eq_true rfl, Nat.le_of_ble_eq_true rfl⟩ ?_
  refine fx_same (pc := 576) (tgt := 1575) C dL_law_576 (by decide) ?_
  exact k _ _ hI2
set_option maxHeartbeats 4000000 in
set_option maxRecDepth 100000 in
theorem lc_8 {X : fm_X} {G : fm_G} {l : Launch} {b L : Nat} {xs : Nat → Int32} (C : fx_C X G l b L xs) {Q : State → Prop} {i : Nat} {μ : fm_I} {ν : fm_L} (hI : Inv μ ν) (hi : i + 6 ≤ L) (k : ∀ (μ : fm_I) (ν : fm_L), Inv μ ν → fx_W X G Q 81 4020 μ ν 1575 [(0, .ref b), (1, .ref (G.2.2.1 0)), (2, .ref (G.2.2.1 58)), (3, .int (nI i))] []) : fx_W X G Q 81 4020 μ ν 581 [(0, .ref b), (1, .ref (G.2.2.1 0)), (2, .ref (G.2.2.1 58)), (3, .int (nI i))] [] := by
  obtain ⟨r, μ1, ν1, μ2, ν2, hf, hg, hI2⟩ := op_bandOf hI (xs (i + 1)) (xs (i + 2))
  refine fx_aload_n (pc := 581) C dL_law_581 rfl rfl ?_
  refine fx_arg (pc := 582) (i := i) (j := 1) C rfl rfl (by omega) dL_law_582 dL_law_583 dL_law_584 (by decide) dL_law_585 dL_law_586 ?_
  refine fx_arg (pc := 587) (i := i) (j := 2) C rfl rfl (by omega) dL_law_587 dL_law_588 dL_law_589 (by decide) dL_law_590 dL_law_591 ?_
  refine fx_cVi (pc := 592) (p := 0) (rest := []) C (t_X5_bandOf hf) ok_X5_bandOf ⟨by decide, rfl⟩ m_ml_L_53 dL_law_592 ⟨Nat.le_of_ble_eq_true rfl, Nat.le_of_ble_eq_true rfl⟩ rfl rfl (Nat.le_of_ble_eq_true rfl) ⟨Nat.le_of_ble_eq_true rfl, Nat.le_of_ble_eq_true rfl⟩ ?_
  refine fx_aload_n (pc := 595) C dL_law_595 rfl rfl ?_
  refine fx_arg (pc := 596) (i := i) (j := 1) C rfl rfl (by omega) dL_law_596 dL_law_597 dL_law_598 (by decide) dL_law_599 dL_law_600 ?_
  refine fx_arg (pc := 601) (i := i) (j := 2) C rfl rfl (by omega) dL_law_601 dL_law_602 dL_law_603 (by decide) dL_law_604 dL_law_605 ?_
  refine fx_cVi (pc := 606) (p := 58) (rest := [.int r]) C (t_X6_bandOf hg) ok_X6_bandOf ⟨by decide, rfl⟩ m_ml_L_56 dL_law_606 ⟨Nat.le_of_ble_eq_true rfl, Nat.le_of_ble_eq_true rfl⟩ rfl rfl (Nat.le_of_ble_eq_true rfl) ⟨Nat.le_of_ble_eq_true rfl, Nat.le_of_ble_eq_true rfl⟩ ?_
  refine fx_same (pc := 609) (tgt := 1575) C dL_law_609 (by decide) ?_
  exact k _ _ hI2
set_option maxHeartbeats 4000000 in
set_option maxRecDepth 100000 in
theorem lc_9 {X : fm_X} {G : fm_G} {l : Launch} {b L : Nat} {xs : Nat → Int32} (C : fx_C X G l b L xs) {Q : State → Prop} {i : Nat} {μ : fm_I} {ν : fm_L} (hI : Inv μ ν) (hi : i + 6 ≤ L) (k : ∀ (μ : fm_I) (ν : fm_L), Inv μ ν → fx_W X G Q 81 4020 μ ν 1575 [(0, .ref b), (1, .ref (G.2.2.1 0)), (2, .ref (G.2.2.1 58)), (3, .int (nI i))] []) : fx_W X G Q 81 4020 μ ν 614 [(0, .ref b), (1, .ref (G.2.2.1 0)), (2, .ref (G.2.2.1 58)), (3, .int (nI i))] [] := by
  obtain ⟨r, μ1, ν1, μ2, ν2, hf, hg, hI2⟩ := op_twist hI (xs (i + 1)) (xs (i + 2))
  refine fx_aload_n (pc := 614) C dL_law_614 rfl rfl ?_
  refine fx_arg (pc := 615) (i := i) (j := 1) C rfl rfl (by omega) dL_law_615 dL_law_616 dL_law_617 (by decide) dL_law_618 dL_law_619 ?_
  refine fx_arg (pc := 620) (i := i) (j := 2) C rfl rfl (by omega) dL_law_620 dL_law_621 dL_law_622 (by decide) dL_law_623 dL_law_624 ?_
  refine fx_cVi (pc := 625) (p := 0) (rest := []) C (t_X5_twist hf) ok_X5_twist ⟨by decide, rfl⟩ m_ml_L_57 dL_law_625 ⟨Nat.le_of_ble_eq_true rfl, Nat.le_of_ble_eq_true rfl⟩ rfl rfl (Nat.le_of_ble_eq_true rfl) ⟨Nat.le_of_ble_eq_true rfl, Nat.le_of_ble_eq_true rfl⟩ ?_
  refine fx_aload_n (pc := 628) C dL_law_628 rfl rfl ?_
  refine fx_arg (pc := 629) (i := i) (j := 1) C rfl rfl (by omega) dL_law_629 dL_law_630 dL_law_631 (by decide) dL_law_632 dL_law_633 ?_
  refine fx_arg (pc := 634) (i := i) (j := 2) C rfl rfl (by omega) dL_law_634 dL_law_635 dL_law_636 (by decide) dL_law_637 dL_law_638 ?_
  refine fx_cVi (pc := 639) (p := 58) (rest := [.int r]) C (t_X6_twist hg) ok_X6_twist ⟨by decide, rfl⟩ m_ml_L_60 dL_law_639 ⟨Nat.le_of_ble_eq_true rfl, Nat.le_of_ble_eq_true rfl⟩ rfl rfl (Nat.le_of_ble_eq_true rfl) ⟨Nat.le_of_ble_eq_true rfl, Nat.le_of_ble_eq_true rfl⟩ ?_
  refine fx_same (pc := 642) (tgt := 1575) C dL_law_642 (by decide) ?_
  exact k _ _ hI2
set_option maxHeartbeats 4000000 in
set_option maxRecDepth 100000 in
theorem lc_10 {X : fm_X} {G : fm_G} {l : Launch} {b L : Nat} {xs : Nat → Int32} (C : fx_C X G l b L xs) {Q : State → Prop} {i : Nat} {μ : fm_I} {ν : fm_L} (hI : Inv μ ν) (hi : i + 6 ≤ L) (k : ∀ (μ : fm_I) (ν : fm_L), Inv μ ν → fx_W X G Q 81 4020 μ ν 1575 [(0, .ref b), (1, .ref (G.2.2.1 0)), (2, .ref (G.2.2.1 58)), (3, .int (nI i))] []) : fx_W X G Q 81 4020 μ ν 647 [(0, .ref b), (1, .ref (G.2.2.1 0)), (2, .ref (G.2.2.1 58)), (3, .int (nI i))] [] := by
  obtain ⟨r, μ1, ν1, μ2, ν2, hf, hg, hI2⟩ := op_turn hI (xs (i + 1))
  refine fx_aload_n (pc := 647) C dL_law_647 rfl rfl ?_
  refine fx_arg (pc := 648) (i := i) (j := 1) C rfl rfl (by omega) dL_law_648 dL_law_649 dL_law_650 (by decide) dL_law_651 dL_law_652 ?_
  refine fx_cVi (pc := 653) (p := 0) (rest := []) C (t_X5_turn hf) ok_X5_turn ⟨by decide, rfl⟩ m_ml_L_61 dL_law_653 ⟨Nat.le_of_ble_eq_true rfl, Nat.le_of_ble_eq_true rfl⟩ rfl rfl (Nat.le_of_ble_eq_true rfl) ⟨Nat.le_of_ble_eq_true rfl, Nat.le_of_ble_eq_true rfl⟩ ?_
  refine fx_aload_n (pc := 656) C dL_law_656 rfl rfl ?_
  refine fx_arg (pc := 657) (i := i) (j := 1) C rfl rfl (by omega) dL_law_657 dL_law_658 dL_law_659 (by decide) dL_law_660 dL_law_661 ?_
  refine fx_cVi (pc := 662) (p := 58) (rest := [.int r]) C (t_X6_turn hg) ok_X6_turn ⟨by decide, rfl⟩ m_ml_L_64 dL_law_662 ⟨Nat.le_of_ble_eq_true rfl, Nat.le_of_ble_eq_true rfl⟩ rfl rfl (Nat.le_of_ble_eq_true rfl) ⟨Nat.le_of_ble_eq_true rfl, Nat.le_of_ble_eq_true rfl⟩ ?_
  refine fx_same (pc := 665) (tgt := 1575) C dL_law_665 (by decide) ?_
  exact k _ _ hI2
set_option maxHeartbeats 4000000 in
set_option maxRecDepth 100000 in
theorem lc_11 {X : fm_X} {G : fm_G} {l : Launch} {b L : Nat} {xs : Nat → Int32} (C : fx_C X G l b L xs) {Q : State → Prop} {i : Nat} {μ : fm_I} {ν : fm_L} (hI : Inv μ ν) (hi : i + 6 ≤ L) (k : ∀ (μ : fm_I) (ν : fm_L), Inv μ ν → fx_W X G Q 81 4020 μ ν 1575 [(0, .ref b), (1, .ref (G.2.2.1 0)), (2, .ref (G.2.2.1 58)), (3, .int (nI i))] []) : fx_W X G Q 81 4020 μ ν 670 [(0, .ref b), (1, .ref (G.2.2.1 0)), (2, .ref (G.2.2.1 58)), (3, .int (nI i))] [] := by
  obtain ⟨r, μ1, ν1, μ2, ν2, hf, hg, hI2⟩ := op_paint hI (xs (i + 1)) (xs (i + 2)) (xs (i + 3))
  refine fx_aload_n (pc := 670) C dL_law_670 rfl rfl ?_
  refine fx_arg (pc := 671) (i := i) (j := 1) C rfl rfl (by omega) dL_law_671 dL_law_672 dL_law_673 (by decide) dL_law_674 dL_law_675 ?_
  refine fx_arg (pc := 676) (i := i) (j := 2) C rfl rfl (by omega) dL_law_676 dL_law_677 dL_law_678 (by decide) dL_law_679 dL_law_680 ?_
  refine fx_arg (pc := 681) (i := i) (j := 3) C rfl rfl (by omega) dL_law_681 dL_law_682 dL_law_683 (by decide) dL_law_684 dL_law_685 ?_
  refine fx_cVi (pc := 686) (p := 0) (rest := []) C (t_X5_paint hf) ok_X5_paint ⟨by decide, rfl⟩ m_ml_L_65 dL_law_686 ⟨Nat.le_of_ble_eq_true rfl, Nat.le_of_ble_eq_true rfl⟩ rfl rfl (Nat.le_of_ble_eq_true rfl) ⟨Nat.le_of_ble_eq_true rfl, Nat.le_of_ble_eq_true rfl⟩ ?_
  refine fx_aload_n (pc := 689) C dL_law_689 rfl rfl ?_
  refine fx_arg (pc := 690) (i := i) (j := 1) C rfl rfl (by omega) dL_law_690 dL_law_691 dL_law_692 (by decide) dL_law_693 dL_law_694 ?_
  refine fx_arg (pc := 695) (i := i) (j := 2) C rfl rfl (by omega) dL_law_695 dL_law_696 dL_law_697 (by decide) dL_law_698 dL_law_699 ?_
  refine fx_arg (pc := 700) (i := i) (j := 3) C rfl rfl (by omega) dL_law_700 dL_law_701 dL_law_702 (by decide) dL_law_703 dL_law_704 ?_
  refine fx_cVi (pc := 705) (p := 58) (rest := [.int r]) C (t_X6_paint hg) ok_X6_paint ⟨by decide, rfl⟩ m_ml_L_68 dL_law_705 ⟨Nat.le_of_ble_eq_true rfl, Nat.le_of_ble_eq_true rfl⟩ rfl rfl (Nat.le_of_ble_eq_true rfl) ⟨Nat.le_of_ble_eq_true rfl, Nat.le_of_ble_eq_true rfl⟩ ?_
  refine fx_same (pc := 708) (tgt := 1575) C dL_law_708 (by decide) ?_
  exact k _ _ hI2
set_option maxHeartbeats 4000000 in
set_option maxRecDepth 100000 in
theorem lc_12 {X : fm_X} {G : fm_G} {l : Launch} {b L : Nat} {xs : Nat → Int32} (C : fx_C X G l b L xs) {Q : State → Prop} {i : Nat} {μ : fm_I} {ν : fm_L} (hI : Inv μ ν) (hi : i + 6 ≤ L) (k : ∀ (μ : fm_I) (ν : fm_L), Inv μ ν → fx_W X G Q 81 4020 μ ν 1575 [(0, .ref b), (1, .ref (G.2.2.1 0)), (2, .ref (G.2.2.1 58)), (3, .int (nI i))] []) : fx_W X G Q 81 4020 μ ν 713 [(0, .ref b), (1, .ref (G.2.2.1 0)), (2, .ref (G.2.2.1 58)), (3, .int (nI i))] [] := by
  obtain ⟨r, μ1, ν1, μ2, ν2, hf, hg, hI2⟩ := op_table hI (xs (i + 1))
  refine fx_aload_n (pc := 713) C dL_law_713 rfl rfl ?_
  refine fx_arg (pc := 714) (i := i) (j := 1) C rfl rfl (by omega) dL_law_714 dL_law_715 dL_law_716 (by decide) dL_law_717 dL_law_718 ?_
  refine fx_cVi (pc := 719) (p := 0) (rest := []) C (t_X5_table hf) ok_X5_table ⟨by decide, rfl⟩ m_ml_L_69 dL_law_719 ⟨Nat.le_of_ble_eq_true rfl, Nat.le_of_ble_eq_true rfl⟩ rfl rfl (Nat.le_of_ble_eq_true rfl) ⟨Nat.le_of_ble_eq_true rfl, Nat.le_of_ble_eq_true rfl⟩ ?_
  refine fx_aload_n (pc := 722) C dL_law_722 rfl rfl ?_
  refine fx_arg (pc := 723) (i := i) (j := 1) C rfl rfl (by omega) dL_law_723 dL_law_724 dL_law_725 (by decide) dL_law_726 dL_law_727 ?_
  refine fx_cVi (pc := 728) (p := 58) (rest := [.int r]) C (t_X6_table hg) ok_X6_table ⟨by decide, rfl⟩ m_ml_L_72 dL_law_728 ⟨Nat.le_of_ble_eq_true rfl, Nat.le_of_ble_eq_true rfl⟩ rfl rfl (Nat.le_of_ble_eq_true rfl) ⟨Nat.le_of_ble_eq_true rfl, Nat.le_of_ble_eq_true rfl⟩ ?_
  refine fx_same (pc := 731) (tgt := 1575) C dL_law_731 (by decide) ?_
  exact k _ _ hI2
set_option maxHeartbeats 4000000 in
set_option maxRecDepth 100000 in
theorem lc_13 {X : fm_X} {G : fm_G} {l : Launch} {b L : Nat} {xs : Nat → Int32} (C : fx_C X G l b L xs) {Q : State → Prop} {i : Nat} {μ : fm_I} {ν : fm_L} (hI : Inv μ ν) (hi : i + 6 ≤ L) (k : ∀ (μ : fm_I) (ν : fm_L), Inv μ ν → fx_W X G Q 81 4020 μ ν 1575 [(0, .ref b), (1, .ref (G.2.2.1 0)), (2, .ref (G.2.2.1 58)), (3, .int (nI i))] []) : fx_W X G Q 81 4020 μ ν 736 [(0, .ref b), (1, .ref (G.2.2.1 0)), (2, .ref (G.2.2.1 58)), (3, .int (nI i))] [] := by
  obtain ⟨r, μ1, ν1, μ2, ν2, hf, hg, hI2⟩ := op_fault hI 
  obtain ⟨hf, rfl, rfl⟩ := pa_ro_of hf
  obtain ⟨hg, rfl, rfl⟩ := pa_ro_of hg
  refine fx_aload_n (pc := 736) C dL_law_736 rfl rfl ?_
  refine fx_cVi (pc := 737) (p := 0) (rest := []) C (t_X5_fault hf) ok_X5_fault ⟨by decide, rfl⟩ m_ml_L_73 dL_law_737 ⟨Nat.le_of_ble_eq_true rfl, Nat.le_of_ble_eq_true rfl⟩ rfl rfl (Nat.le_of_ble_eq_true rfl) ⟨Nat.le_of_ble_eq_true rfl, Nat.le_of_ble_eq_true rfl⟩ ?_
  refine fx_aload_n (pc := 740) C dL_law_740 rfl rfl ?_
  refine fx_cVi (pc := 741) (p := 58) (rest := [.int r]) C (t_X6_fault hg) ok_X6_fault ⟨by decide, rfl⟩ m_ml_L_77 dL_law_741 ⟨Nat.le_of_ble_eq_true rfl, Nat.le_of_ble_eq_true rfl⟩ rfl rfl (Nat.le_of_ble_eq_true rfl) ⟨Nat.le_of_ble_eq_true rfl, Nat.le_of_ble_eq_true rfl⟩ ?_
  refine fx_same (pc := 744) (tgt := 1575) C dL_law_744 (by decide) ?_
  exact k _ _ hI2
set_option maxHeartbeats 4000000 in
set_option maxRecDepth 100000 in
theorem lc_14 {X : fm_X} {G : fm_G} {l : Launch} {b L : Nat} {xs : Nat → Int32} (C : fx_C X G l b L xs) {Q : State → Prop} {i : Nat} {μ : fm_I} {ν : fm_L} (hI : Inv μ ν) (hi : i + 6 ≤ L) (k : ∀ (μ : fm_I) (ν : fm_L), Inv μ ν → fx_W X G Q 81 4020 μ ν 1575 [(0, .ref b), (1, .ref (G.2.2.1 0)), (2, .ref (G.2.2.1 58)), (3, .int (nI i))] []) : fx_W X G Q 81 4020 μ ν 749 [(0, .ref b), (1, .ref (G.2.2.1 0)), (2, .ref (G.2.2.1 58)), (3, .int (nI i))] [] := by
  obtain ⟨r, μ1, ν1, μ2, ν2, hf, hg, hI2⟩ := op_on hI (xs (i + 1)) (xs (i + 2))
  refine fx_aload_n (pc := 749) C dL_law_749 rfl rfl ?_
  refine fx_arg (pc := 750) (i := i) (j := 1) C rfl rfl (by omega) dL_law_750 dL_law_751 dL_law_752 (by decide) dL_law_753 dL_law_754 ?_
  refine fx_arg (pc := 755) (i := i) (j := 2) C rfl rfl (by omega) dL_law_755 dL_law_756 dL_law_757 (by decide) dL_law_758 dL_law_759 ?_
  refine fx_cVi (pc := 760) (p := 0) (rest := []) C (t_X5_on hf) ok_X5_on ⟨by decide, rfl⟩ m_ml_L_78 dL_law_760 ⟨Nat.le_of_ble_eq_true rfl, Nat.le_of_ble_eq_true rfl⟩ rfl rfl (Nat.le_of_ble_eq_true rfl) ⟨Nat.le_of_ble_eq_true rfl, Nat.le_of_ble_eq_true rfl⟩ ?_
  refine fx_aload_n (pc := 763) C dL_law_763 rfl rfl ?_
  refine fx_arg (pc := 764) (i := i) (j := 1) C rfl rfl (by omega) dL_law_764 dL_law_765 dL_law_766 (by decide) dL_law_767 dL_law_768 ?_
  refine fx_arg (pc := 769) (i := i) (j := 2) C rfl rfl (by omega) dL_law_769 dL_law_770 dL_law_771 (by decide) dL_law_772 dL_law_773 ?_
  refine fx_cVi (pc := 774) (p := 58) (rest := [.int r]) C (t_X6_on hg) ok_X6_on ⟨by decide, rfl⟩ m_ml_L_81 dL_law_774 ⟨Nat.le_of_ble_eq_true rfl, Nat.le_of_ble_eq_true rfl⟩ rfl rfl (Nat.le_of_ble_eq_true rfl) ⟨Nat.le_of_ble_eq_true rfl, Nat.le_of_ble_eq_true rfl⟩ ?_
  refine fx_same (pc := 777) (tgt := 1575) C dL_law_777 (by decide) ?_
  exact k _ _ hI2
set_option maxHeartbeats 4000000 in
set_option maxRecDepth 100000 in
theorem lc_15 {X : fm_X} {G : fm_G} {l : Launch} {b L : Nat} {xs : Nat → Int32} (C : fx_C X G l b L xs) {Q : State → Prop} {i : Nat} {μ : fm_I} {ν : fm_L} (hI : Inv μ ν) (hi : i + 6 ≤ L) (k : ∀ (μ : fm_I) (ν : fm_L), Inv μ ν → fx_W X G Q 81 4020 μ ν 1575 [(0, .ref b), (1, .ref (G.2.2.1 0)), (2, .ref (G.2.2.1 58)), (3, .int (nI i))] []) : fx_W X G Q 81 4020 μ ν 782 [(0, .ref b), (1, .ref (G.2.2.1 0)), (2, .ref (G.2.2.1 58)), (3, .int (nI i))] [] := by
  obtain ⟨r, μ1, ν1, μ2, ν2, hf, hg, hI2⟩ := op_pieces hI (xs (i + 1))
  refine fx_aload_n (pc := 782) C dL_law_782 rfl rfl ?_
  refine fx_arg (pc := 783) (i := i) (j := 1) C rfl rfl (by omega) dL_law_783 dL_law_784 dL_law_785 (by decide) dL_law_786 dL_law_787 ?_
  refine fx_cVi (pc := 788) (p := 0) (rest := []) C (t_X5_pieces hf) ok_X5_pieces ⟨by decide, rfl⟩ m_ml_L_82 dL_law_788 ⟨Nat.le_of_ble_eq_true rfl, Nat.le_of_ble_eq_true rfl⟩ rfl rfl (Nat.le_of_ble_eq_true rfl) ⟨Nat.le_of_ble_eq_true rfl, Nat.le_of_ble_eq_true rfl⟩ ?_
  refine fx_aload_n (pc := 791) C dL_law_791 rfl rfl ?_
  refine fx_arg (pc := 792) (i := i) (j := 1) C rfl rfl (by omega) dL_law_792 dL_law_793 dL_law_794 (by decide) dL_law_795 dL_law_796 ?_
  refine fx_cVi (pc := 797) (p := 58) (rest := [.int r]) C (t_X6_pieces hg) ok_X6_pieces ⟨by decide, rfl⟩ m_ml_L_85 dL_law_797 ⟨Nat.le_of_ble_eq_true rfl, Nat.le_of_ble_eq_true rfl⟩ rfl rfl (Nat.le_of_ble_eq_true rfl) ⟨Nat.le_of_ble_eq_true rfl, Nat.le_of_ble_eq_true rfl⟩ ?_
  refine fx_same (pc := 800) (tgt := 1575) C dL_law_800 (by decide) ?_
  exact k _ _ hI2
set_option maxHeartbeats 4000000 in
set_option maxRecDepth 100000 in
theorem lc_16 {X : fm_X} {G : fm_G} {l : Launch} {b L : Nat} {xs : Nat → Int32} (C : fx_C X G l b L xs) {Q : State → Prop} {i : Nat} {μ : fm_I} {ν : fm_L} (hI : Inv μ ν) (hi : i + 6 ≤ L) (k : ∀ (μ : fm_I) (ν : fm_L), Inv μ ν → fx_W X G Q 81 4020 μ ν 1575 [(0, .ref b), (1, .ref (G.2.2.1 0)), (2, .ref (G.2.2.1 58)), (3, .int (nI i))] []) : fx_W X G Q 81 4020 μ ν 805 [(0, .ref b), (1, .ref (G.2.2.1 0)), (2, .ref (G.2.2.1 58)), (3, .int (nI i))] [] := by
  obtain ⟨r, μ1, ν1, μ2, ν2, hf, hg, hI2⟩ := op_pieceOf hI (xs (i + 1)) (xs (i + 2)) (xs (i + 3))
  refine fx_aload_n (pc := 805) C dL_law_805 rfl rfl ?_
  refine fx_arg (pc := 806) (i := i) (j := 1) C rfl rfl (by omega) dL_law_806 dL_law_807 dL_law_808 (by decide) dL_law_809 dL_law_810 ?_
  refine fx_arg (pc := 811) (i := i) (j := 2) C rfl rfl (by omega) dL_law_811 dL_law_812 dL_law_813 (by decide) dL_law_814 dL_law_815 ?_
  refine fx_arg (pc := 816) (i := i) (j := 3) C rfl rfl (by omega) dL_law_816 dL_law_817 dL_law_818 (by decide) dL_law_819 dL_law_820 ?_
  refine fx_cVi (pc := 821) (p := 0) (rest := []) C (t_X5_pieceOf hf) ok_X5_pieceOf ⟨by decide, rfl⟩ m_ml_L_86 dL_law_821 ⟨Nat.le_of_ble_eq_true rfl, Nat.le_of_ble_eq_true rfl⟩ rfl rfl (Nat.le_of_ble_eq_true rfl) ⟨Nat.le_of_ble_eq_true rfl, Nat.le_of_ble_eq_true rfl⟩ ?_
  refine fx_aload_n (pc := 824) C dL_law_824 rfl rfl ?_
  refine fx_arg (pc := 825) (i := i) (j := 1) C rfl rfl (by omega) dL_law_825 dL_law_826 dL_law_827 (by decide) dL_law_828 dL_law_829 ?_
  refine fx_arg (pc := 830) (i := i) (j := 2) C rfl rfl (by omega) dL_law_830 dL_law_831 dL_law_832 (by decide) dL_law_833 dL_law_834 ?_
  refine fx_arg (pc := 835) (i := i) (j := 3) C rfl rfl (by omega) dL_law_835 dL_law_836 dL_law_837 (by decide) dL_law_838 dL_law_839 ?_
  refine fx_cVi (pc := 840) (p := 58) (rest := [.int r]) C (t_X6_pieceOf hg) ok_X6_pieceOf ⟨by decide, rfl⟩ m_ml_L_89 dL_law_840 ⟨Nat.le_of_ble_eq_true rfl, Nat.le_of_ble_eq_true rfl⟩ rfl rfl (Nat.le_of_ble_eq_true rfl) ⟨Nat.le_of_ble_eq_true rfl, Nat.le_of_ble_eq_true rfl⟩ ?_
  refine fx_same (pc := 843) (tgt := 1575) C dL_law_843 (by decide) ?_
  exact k _ _ hI2
set_option maxHeartbeats 4000000 in
set_option maxRecDepth 100000 in
theorem lc_17 {X : fm_X} {G : fm_G} {l : Launch} {b L : Nat} {xs : Nat → Int32} (C : fx_C X G l b L xs) {Q : State → Prop} {i : Nat} {μ : fm_I} {ν : fm_L} (hI : Inv μ ν) (hi : i + 6 ≤ L) (k : ∀ (μ : fm_I) (ν : fm_L), Inv μ ν → fx_W X G Q 81 4020 μ ν 1575 [(0, .ref b), (1, .ref (G.2.2.1 0)), (2, .ref (G.2.2.1 58)), (3, .int (nI i))] []) : fx_W X G Q 81 4020 μ ν 848 [(0, .ref b), (1, .ref (G.2.2.1 0)), (2, .ref (G.2.2.1 58)), (3, .int (nI i))] [] := by
  obtain ⟨r, μ1, ν1, μ2, ν2, hf, hg, hI2⟩ := op_pieceAt hI (xs (i + 1)) (xs (i + 2))
  refine fx_aload_n (pc := 848) C dL_law_848 rfl rfl ?_
  refine fx_arg (pc := 849) (i := i) (j := 1) C rfl rfl (by omega) dL_law_849 dL_law_850 dL_law_851 (by decide) dL_law_852 dL_law_853 ?_
  refine fx_arg (pc := 854) (i := i) (j := 2) C rfl rfl (by omega) dL_law_854 dL_law_855 dL_law_856 (by decide) dL_law_857 dL_law_858 ?_
  refine fx_cVi (pc := 859) (p := 0) (rest := []) C (t_X5_pieceAt hf) ok_X5_pieceAt ⟨by decide, rfl⟩ m_ml_L_90 dL_law_859 ⟨Nat.le_of_ble_eq_true rfl, Nat.le_of_ble_eq_true rfl⟩ rfl rfl (Nat.le_of_ble_eq_true rfl) ⟨Nat.le_of_ble_eq_true rfl, Nat.le_of_ble_eq_true rfl⟩ ?_
  refine fx_aload_n (pc := 862) C dL_law_862 rfl rfl ?_
  refine fx_arg (pc := 863) (i := i) (j := 1) C rfl rfl (by omega) dL_law_863 dL_law_864 dL_law_865 (by decide) dL_law_866 dL_law_867 ?_
  refine fx_arg (pc := 868) (i := i) (j := 2) C rfl rfl (by omega) dL_law_868 dL_law_869 dL_law_870 (by decide) dL_law_871 dL_law_872 ?_
  refine fx_cVi (pc := 873) (p := 58) (rest := [.int r]) C (t_X6_pieceAt hg) ok_X6_pieceAt ⟨by decide, rfl⟩ m_ml_L_93 dL_law_873 ⟨Nat.le_of_ble_eq_true rfl, Nat.le_of_ble_eq_true rfl⟩ rfl rfl (Nat.le_of_ble_eq_true rfl) ⟨Nat.le_of_ble_eq_true rfl, Nat.le_of_ble_eq_true rfl⟩ ?_
  refine fx_same (pc := 876) (tgt := 1575) C dL_law_876 (by decide) ?_
  exact k _ _ hI2
set_option maxHeartbeats 4000000 in
set_option maxRecDepth 100000 in
theorem lc_18 {X : fm_X} {G : fm_G} {l : Launch} {b L : Nat} {xs : Nat → Int32} (C : fx_C X G l b L xs) {Q : State → Prop} {i : Nat} {μ : fm_I} {ν : fm_L} (hI : Inv μ ν) (hi : i + 6 ≤ L) (k : ∀ (μ : fm_I) (ν : fm_L), Inv μ ν → fx_W X G Q 81 4020 μ ν 1575 [(0, .ref b), (1, .ref (G.2.2.1 0)), (2, .ref (G.2.2.1 58)), (3, .int (nI i))] []) : fx_W X G Q 81 4020 μ ν 881 [(0, .ref b), (1, .ref (G.2.2.1 0)), (2, .ref (G.2.2.1 58)), (3, .int (nI i))] [] := by
  obtain ⟨r, μ1, ν1, μ2, ν2, hf, hg, hI2⟩ := op_crossings hI (xs (i + 1)) (xs (i + 2)) (xs (i + 3))
  refine fx_aload_n (pc := 881) C dL_law_881 rfl rfl ?_
  refine fx_arg (pc := 882) (i := i) (j := 1) C rfl rfl (by omega) dL_law_882 dL_law_883 dL_law_884 (by decide) dL_law_885 dL_law_886 ?_
  refine fx_arg (pc := 887) (i := i) (j := 2) C rfl rfl (by omega) dL_law_887 dL_law_888 dL_law_889 (by decide) dL_law_890 dL_law_891 ?_
  refine fx_arg (pc := 892) (i := i) (j := 3) C rfl rfl (by omega) dL_law_892 dL_law_893 dL_law_894 (by decide) dL_law_895 dL_law_896 ?_
  refine fx_cVi (pc := 897) (p := 0) (rest := []) C (t_X5_crossings hf) ok_X5_crossings ⟨by decide, rfl⟩ m_ml_L_94 dL_law_897 ⟨Nat.le_of_ble_eq_true rfl, Nat.le_of_ble_eq_true rfl⟩ rfl rfl (Nat.le_of_ble_eq_true rfl) ⟨Nat.le_of_ble_eq_true rfl, Nat.le_of_ble_eq_true rfl⟩ ?_
  refine fx_aload_n (pc := 900) C dL_law_900 rfl rfl ?_
  refine fx_arg (pc := 901) (i := i) (j := 1) C rfl rfl (by omega) dL_law_901 dL_law_902 dL_law_903 (by decide) dL_law_904 dL_law_905 ?_
  refine fx_arg (pc := 906) (i := i) (j := 2) C rfl rfl (by omega) dL_law_906 dL_law_907 dL_law_908 (by decide) dL_law_909 dL_law_910 ?_
  refine fx_arg (pc := 911) (i := i) (j := 3) C rfl rfl (by omega) dL_law_911 dL_law_912 dL_law_913 (by decide) dL_law_914 dL_law_915 ?_
  refine fx_cVi (pc := 916) (p := 58) (rest := [.int r]) C (t_X6_crossings hg) ok_X6_crossings ⟨by decide, rfl⟩ m_ml_L_97 dL_law_916 ⟨Nat.le_of_ble_eq_true rfl, Nat.le_of_ble_eq_true rfl⟩ rfl rfl (Nat.le_of_ble_eq_true rfl) ⟨Nat.le_of_ble_eq_true rfl, Nat.le_of_ble_eq_true rfl⟩ ?_
  refine fx_same (pc := 919) (tgt := 1575) C dL_law_919 (by decide) ?_
  exact k _ _ hI2
set_option maxHeartbeats 4000000 in
set_option maxRecDepth 100000 in
theorem lc_19 {X : fm_X} {G : fm_G} {l : Launch} {b L : Nat} {xs : Nat → Int32} (C : fx_C X G l b L xs) {Q : State → Prop} {i : Nat} {μ : fm_I} {ν : fm_L} (hI : Inv μ ν) (hi : i + 6 ≤ L) (k : ∀ (μ : fm_I) (ν : fm_L), Inv μ ν → fx_W X G Q 81 4020 μ ν 1575 [(0, .ref b), (1, .ref (G.2.2.1 0)), (2, .ref (G.2.2.1 58)), (3, .int (nI i))] []) : fx_W X G Q 81 4020 μ ν 924 [(0, .ref b), (1, .ref (G.2.2.1 0)), (2, .ref (G.2.2.1 58)), (3, .int (nI i))] [] := by
  obtain ⟨r, μ1, ν1, μ2, ν2, hf, hg, hI2⟩ := op_hooks hI (xs (i + 1)) (xs (i + 2)) (xs (i + 3))
  refine fx_aload_n (pc := 924) C dL_law_924 rfl rfl ?_
  refine fx_arg (pc := 925) (i := i) (j := 1) C rfl rfl (by omega) dL_law_925 dL_law_926 dL_law_927 (by decide) dL_law_928 dL_law_929 ?_
  refine fx_arg (pc := 930) (i := i) (j := 2) C rfl rfl (by omega) dL_law_930 dL_law_931 dL_law_932 (by decide) dL_law_933 dL_law_934 ?_
  refine fx_arg (pc := 935) (i := i) (j := 3) C rfl rfl (by omega) dL_law_935 dL_law_936 dL_law_937 (by decide) dL_law_938 dL_law_939 ?_
  refine fx_cVi (pc := 940) (p := 0) (rest := []) C (t_X5_hooks hf) ok_X5_hooks ⟨by decide, rfl⟩ m_ml_L_98 dL_law_940 ⟨Nat.le_of_ble_eq_true rfl, Nat.le_of_ble_eq_true rfl⟩ rfl rfl (Nat.le_of_ble_eq_true rfl) ⟨Nat.le_of_ble_eq_true rfl, Nat.le_of_ble_eq_true rfl⟩ ?_
  refine fx_aload_n (pc := 943) C dL_law_943 rfl rfl ?_
  refine fx_arg (pc := 944) (i := i) (j := 1) C rfl rfl (by omega) dL_law_944 dL_law_945 dL_law_946 (by decide) dL_law_947 dL_law_948 ?_
  refine fx_arg (pc := 949) (i := i) (j := 2) C rfl rfl (by omega) dL_law_949 dL_law_950 dL_law_951 (by decide) dL_law_952 dL_law_953 ?_
  refine fx_arg (pc := 954) (i := i) (j := 3) C rfl rfl (by omega) dL_law_954 dL_law_955 dL_law_956 (by decide) dL_law_957 dL_law_958 ?_
  refine fx_cVi (pc := 959) (p := 58) (rest := [.int r]) C (t_X6_hooks hg) ok_X6_hooks ⟨by decide, rfl⟩ m_ml_L_101 dL_law_959 ⟨Nat.le_of_ble_eq_true rfl, Nat.le_of_ble_eq_true rfl⟩ rfl rfl (Nat.le_of_ble_eq_true rfl) ⟨Nat.le_of_ble_eq_true rfl, Nat.le_of_ble_eq_true rfl⟩ ?_
  refine fx_same (pc := 962) (tgt := 1575) C dL_law_962 (by decide) ?_
  exact k _ _ hI2
set_option maxHeartbeats 4000000 in
set_option maxRecDepth 100000 in
theorem lc_20 {X : fm_X} {G : fm_G} {l : Launch} {b L : Nat} {xs : Nat → Int32} (C : fx_C X G l b L xs) {Q : State → Prop} {i : Nat} {μ : fm_I} {ν : fm_L} (hI : Inv μ ν) (hi : i + 6 ≤ L) (k : ∀ (μ : fm_I) (ν : fm_L), Inv μ ν → fx_W X G Q 81 4020 μ ν 1575 [(0, .ref b), (1, .ref (G.2.2.1 0)), (2, .ref (G.2.2.1 58)), (3, .int (nI i))] []) : fx_W X G Q 81 4020 μ ν 967 [(0, .ref b), (1, .ref (G.2.2.1 0)), (2, .ref (G.2.2.1 58)), (3, .int (nI i))] [] := by
  obtain ⟨r, μ1, ν1, μ2, ν2, hf, hg, hI2⟩ := op_allHooks hI (xs (i + 1))
  refine fx_aload_n (pc := 967) C dL_law_967 rfl rfl ?_
  refine fx_arg (pc := 968) (i := i) (j := 1) C rfl rfl (by omega) dL_law_968 dL_law_969 dL_law_970 (by decide) dL_law_971 dL_law_972 ?_
  refine fx_cVi (pc := 973) (p := 0) (rest := []) C (t_X5_allHooks hf) ok_X5_allHooks ⟨by decide, rfl⟩ m_ml_L_102 dL_law_973 ⟨Nat.le_of_ble_eq_true rfl, Nat.le_of_ble_eq_true rfl⟩ rfl rfl (Nat.le_of_ble_eq_true rfl) ⟨Nat.le_of_ble_eq_true rfl, Nat.le_of_ble_eq_true rfl⟩ ?_
  refine fx_aload_n (pc := 976) C dL_law_976 rfl rfl ?_
  refine fx_arg (pc := 977) (i := i) (j := 1) C rfl rfl (by omega) dL_law_977 dL_law_978 dL_law_979 (by decide) dL_law_980 dL_law_981 ?_
  refine fx_cVi (pc := 982) (p := 58) (rest := [.int r]) C (t_X6_allHooks hg) ok_X6_allHooks ⟨by decide, rfl⟩ m_ml_L_105 dL_law_982 ⟨Nat.le_of_ble_eq_true rfl, Nat.le_of_ble_eq_true rfl⟩ rfl rfl (Nat.le_of_ble_eq_true rfl) ⟨Nat.le_of_ble_eq_true rfl, Nat.le_of_ble_eq_true rfl⟩ ?_
  refine fx_same (pc := 985) (tgt := 1575) C dL_law_985 (by decide) ?_
  exact k _ _ hI2
set_option maxHeartbeats 4000000 in
set_option maxRecDepth 100000 in
theorem lc_21 {X : fm_X} {G : fm_G} {l : Launch} {b L : Nat} {xs : Nat → Int32} (C : fx_C X G l b L xs) {Q : State → Prop} {i : Nat} {μ : fm_I} {ν : fm_L} (hI : Inv μ ν) (hi : i + 6 ≤ L) (k : ∀ (μ : fm_I) (ν : fm_L), Inv μ ν → fx_W X G Q 81 4020 μ ν 1575 [(0, .ref b), (1, .ref (G.2.2.1 0)), (2, .ref (G.2.2.1 58)), (3, .int (nI i))] []) : fx_W X G Q 81 4020 μ ν 990 [(0, .ref b), (1, .ref (G.2.2.1 0)), (2, .ref (G.2.2.1 58)), (3, .int (nI i))] [] := by
  obtain ⟨r, μ1, ν1, μ2, ν2, hf, hg, hI2⟩ := op_groups hI (xs (i + 1))
  refine fx_aload_n (pc := 990) C dL_law_990 rfl rfl ?_
  refine fx_arg (pc := 991) (i := i) (j := 1) C rfl rfl (by omega) dL_law_991 dL_law_992 dL_law_993 (by decide) dL_law_994 dL_law_995 ?_
  refine fx_cVi (pc := 996) (p := 0) (rest := []) C (t_X5_groups hf) ok_X5_groups ⟨by decide, rfl⟩ m_ml_L_106 dL_law_996 ⟨Nat.le_of_ble_eq_true rfl, Nat.le_of_ble_eq_true rfl⟩ rfl rfl (Nat.le_of_ble_eq_true rfl) ⟨Nat.le_of_ble_eq_true rfl, Nat.le_of_ble_eq_true rfl⟩ ?_
  refine fx_aload_n (pc := 999) C dL_law_999 rfl rfl ?_
  refine fx_arg (pc := 1000) (i := i) (j := 1) C rfl rfl (by omega) dL_law_1000 dL_law_1001 dL_law_1002 (by decide) dL_law_1003 dL_law_1004 ?_
  refine fx_cVi (pc := 1005) (p := 58) (rest := [.int r]) C (t_X6_groups hg) ok_X6_groups ⟨by decide, rfl⟩ m_ml_L_109 dL_law_1005 ⟨Nat.le_of_ble_eq_true rfl, Nat.le_of_ble_eq_true rfl⟩ rfl rfl (Nat.le_of_ble_eq_true rfl) ⟨Nat.le_of_ble_eq_true rfl, Nat.le_of_ble_eq_true rfl⟩ ?_
  refine fx_same (pc := 1008) (tgt := 1575) C dL_law_1008 (by decide) ?_
  exact k _ _ hI2
set_option maxHeartbeats 4000000 in
set_option maxRecDepth 100000 in
theorem lc_22 {X : fm_X} {G : fm_G} {l : Launch} {b L : Nat} {xs : Nat → Int32} (C : fx_C X G l b L xs) {Q : State → Prop} {i : Nat} {μ : fm_I} {ν : fm_L} (hI : Inv μ ν) (hi : i + 6 ≤ L) (k : ∀ (μ : fm_I) (ν : fm_L), Inv μ ν → fx_W X G Q 81 4020 μ ν 1575 [(0, .ref b), (1, .ref (G.2.2.1 0)), (2, .ref (G.2.2.1 58)), (3, .int (nI i))] []) : fx_W X G Q 81 4020 μ ν 1013 [(0, .ref b), (1, .ref (G.2.2.1 0)), (2, .ref (G.2.2.1 58)), (3, .int (nI i))] [] := by
  obtain ⟨r, μ1, ν1, μ2, ν2, hf, hg, hI2⟩ := op_unhook hI (xs (i + 1))
  refine fx_aload_n (pc := 1013) C dL_law_1013 rfl rfl ?_
  refine fx_arg (pc := 1014) (i := i) (j := 1) C rfl rfl (by omega) dL_law_1014 dL_law_1015 dL_law_1016 (by decide) dL_law_1017 dL_law_1018 ?_
  refine fx_cVi (pc := 1019) (p := 0) (rest := []) C (t_X5_unhook hf) ok_X5_unhook ⟨by decide, rfl⟩ m_ml_L_110 dL_law_1019 ⟨Nat.le_of_ble_eq_true rfl, Nat.le_of_ble_eq_true rfl⟩ rfl rfl (Nat.le_of_ble_eq_true rfl) ⟨Nat.le_of_ble_eq_true rfl, Nat.le_of_ble_eq_true rfl⟩ ?_
  refine fx_aload_n (pc := 1022) C dL_law_1022 rfl rfl ?_
  refine fx_arg (pc := 1023) (i := i) (j := 1) C rfl rfl (by omega) dL_law_1023 dL_law_1024 dL_law_1025 (by decide) dL_law_1026 dL_law_1027 ?_
  refine fx_cVi (pc := 1028) (p := 58) (rest := [.int r]) C (t_X6_unhook hg) ok_X6_unhook ⟨by decide, rfl⟩ m_ml_L_113 dL_law_1028 ⟨Nat.le_of_ble_eq_true rfl, Nat.le_of_ble_eq_true rfl⟩ rfl rfl (Nat.le_of_ble_eq_true rfl) ⟨Nat.le_of_ble_eq_true rfl, Nat.le_of_ble_eq_true rfl⟩ ?_
  refine fx_same (pc := 1031) (tgt := 1575) C dL_law_1031 (by decide) ?_
  exact k _ _ hI2
set_option maxHeartbeats 4000000 in
set_option maxRecDepth 100000 in
theorem lc_23 {X : fm_X} {G : fm_G} {l : Launch} {b L : Nat} {xs : Nat → Int32} (C : fx_C X G l b L xs) {Q : State → Prop} {i : Nat} {μ : fm_I} {ν : fm_L} (hI : Inv μ ν) (hi : i + 6 ≤ L) (k : ∀ (μ : fm_I) (ν : fm_L), Inv μ ν → fx_W X G Q 81 4020 μ ν 1575 [(0, .ref b), (1, .ref (G.2.2.1 0)), (2, .ref (G.2.2.1 58)), (3, .int (nI i))] []) : fx_W X G Q 81 4020 μ ν 1036 [(0, .ref b), (1, .ref (G.2.2.1 0)), (2, .ref (G.2.2.1 58)), (3, .int (nI i))] [] := by
  obtain ⟨r, μ1, ν1, μ2, ν2, hf, hg, hI2⟩ := op_painted hI (xs (i + 1))
  refine fx_aload_n (pc := 1036) C dL_law_1036 rfl rfl ?_
  refine fx_arg (pc := 1037) (i := i) (j := 1) C rfl rfl (by omega) dL_law_1037 dL_law_1038 dL_law_1039 (by decide) dL_law_1040 dL_law_1041 ?_
  refine fx_cVi (pc := 1042) (p := 0) (rest := []) C (t_X5_painted hf) ok_X5_painted ⟨by decide, rfl⟩ m_ml_L_114 dL_law_1042 ⟨Nat.le_of_ble_eq_true rfl, Nat.le_of_ble_eq_true rfl⟩ rfl rfl (Nat.le_of_ble_eq_true rfl) ⟨Nat.le_of_ble_eq_true rfl, Nat.le_of_ble_eq_true rfl⟩ ?_
  refine fx_aload_n (pc := 1045) C dL_law_1045 rfl rfl ?_
  refine fx_arg (pc := 1046) (i := i) (j := 1) C rfl rfl (by omega) dL_law_1046 dL_law_1047 dL_law_1048 (by decide) dL_law_1049 dL_law_1050 ?_
  refine fx_cVi (pc := 1051) (p := 58) (rest := [.int r]) C (t_X6_painted hg) ok_X6_painted ⟨by decide, rfl⟩ m_ml_L_117 dL_law_1051 ⟨Nat.le_of_ble_eq_true rfl, Nat.le_of_ble_eq_true rfl⟩ rfl rfl (Nat.le_of_ble_eq_true rfl) ⟨Nat.le_of_ble_eq_true rfl, Nat.le_of_ble_eq_true rfl⟩ ?_
  refine fx_same (pc := 1054) (tgt := 1575) C dL_law_1054 (by decide) ?_
  exact k _ _ hI2
set_option maxHeartbeats 4000000 in
set_option maxRecDepth 100000 in
theorem lc_24 {X : fm_X} {G : fm_G} {l : Launch} {b L : Nat} {xs : Nat → Int32} (C : fx_C X G l b L xs) {Q : State → Prop} {i : Nat} {μ : fm_I} {ν : fm_L} (hI : Inv μ ν) (hi : i + 6 ≤ L) (k : ∀ (μ : fm_I) (ν : fm_L), Inv μ ν → fx_W X G Q 81 4020 μ ν 1575 [(0, .ref b), (1, .ref (G.2.2.1 0)), (2, .ref (G.2.2.1 58)), (3, .int (nI i))] []) : fx_W X G Q 81 4020 μ ν 1059 [(0, .ref b), (1, .ref (G.2.2.1 0)), (2, .ref (G.2.2.1 58)), (3, .int (nI i))] [] := by
  obtain ⟨r, μ1, ν1, μ2, ν2, hf, hg, hI2⟩ := op_repaint hI (xs (i + 1))
  refine fx_aload_n (pc := 1059) C dL_law_1059 rfl rfl ?_
  refine fx_arg (pc := 1060) (i := i) (j := 1) C rfl rfl (by omega) dL_law_1060 dL_law_1061 dL_law_1062 (by decide) dL_law_1063 dL_law_1064 ?_
  refine fx_cVi (pc := 1065) (p := 0) (rest := []) C (t_X5_repaint hf) ok_X5_repaint ⟨by decide, rfl⟩ m_ml_L_118 dL_law_1065 ⟨Nat.le_of_ble_eq_true rfl, Nat.le_of_ble_eq_true rfl⟩ rfl rfl (Nat.le_of_ble_eq_true rfl) ⟨Nat.le_of_ble_eq_true rfl, Nat.le_of_ble_eq_true rfl⟩ ?_
  refine fx_aload_n (pc := 1068) C dL_law_1068 rfl rfl ?_
  refine fx_arg (pc := 1069) (i := i) (j := 1) C rfl rfl (by omega) dL_law_1069 dL_law_1070 dL_law_1071 (by decide) dL_law_1072 dL_law_1073 ?_
  refine fx_cVi (pc := 1074) (p := 58) (rest := [.int r]) C (t_X6_repaint hg) ok_X6_repaint ⟨by decide, rfl⟩ m_ml_L_121 dL_law_1074 ⟨Nat.le_of_ble_eq_true rfl, Nat.le_of_ble_eq_true rfl⟩ rfl rfl (Nat.le_of_ble_eq_true rfl) ⟨Nat.le_of_ble_eq_true rfl, Nat.le_of_ble_eq_true rfl⟩ ?_
  refine fx_same (pc := 1077) (tgt := 1575) C dL_law_1077 (by decide) ?_
  exact k _ _ hI2
set_option maxHeartbeats 4000000 in
set_option maxRecDepth 100000 in
theorem lc_25 {X : fm_X} {G : fm_G} {l : Launch} {b L : Nat} {xs : Nat → Int32} (C : fx_C X G l b L xs) {Q : State → Prop} {i : Nat} {μ : fm_I} {ν : fm_L} (hI : Inv μ ν) (hi : i + 6 ≤ L) (k : ∀ (μ : fm_I) (ν : fm_L), Inv μ ν → fx_W X G Q 81 4020 μ ν 1575 [(0, .ref b), (1, .ref (G.2.2.1 0)), (2, .ref (G.2.2.1 58)), (3, .int (nI i))] []) : fx_W X G Q 81 4020 μ ν 1082 [(0, .ref b), (1, .ref (G.2.2.1 0)), (2, .ref (G.2.2.1 58)), (3, .int (nI i))] [] := by
  obtain ⟨r, μ1, ν1, μ2, ν2, hf, hg, hI2⟩ := op_worn hI (xs (i + 1))
  refine fx_aload_n (pc := 1082) C dL_law_1082 rfl rfl ?_
  refine fx_arg (pc := 1083) (i := i) (j := 1) C rfl rfl (by omega) dL_law_1083 dL_law_1084 dL_law_1085 (by decide) dL_law_1086 dL_law_1087 ?_
  refine fx_cVi (pc := 1088) (p := 0) (rest := []) C (t_X5_worn hf) ok_X5_worn ⟨by decide, rfl⟩ m_ml_L_122 dL_law_1088 ⟨Nat.le_of_ble_eq_true rfl, Nat.le_of_ble_eq_true rfl⟩ rfl rfl (Nat.le_of_ble_eq_true rfl) ⟨Nat.le_of_ble_eq_true rfl, Nat.le_of_ble_eq_true rfl⟩ ?_
  refine fx_aload_n (pc := 1091) C dL_law_1091 rfl rfl ?_
  refine fx_arg (pc := 1092) (i := i) (j := 1) C rfl rfl (by omega) dL_law_1092 dL_law_1093 dL_law_1094 (by decide) dL_law_1095 dL_law_1096 ?_
  refine fx_cVi (pc := 1097) (p := 58) (rest := [.int r]) C (t_X6_worn hg) ok_X6_worn ⟨by decide, rfl⟩ m_ml_L_125 dL_law_1097 ⟨Nat.le_of_ble_eq_true rfl, Nat.le_of_ble_eq_true rfl⟩ rfl rfl (Nat.le_of_ble_eq_true rfl) ⟨Nat.le_of_ble_eq_true rfl, Nat.le_of_ble_eq_true rfl⟩ ?_
  refine fx_same (pc := 1100) (tgt := 1575) C dL_law_1100 (by decide) ?_
  exact k _ _ hI2
set_option maxHeartbeats 4000000 in
set_option maxRecDepth 100000 in
theorem lc_26 {X : fm_X} {G : fm_G} {l : Launch} {b L : Nat} {xs : Nat → Int32} (C : fx_C X G l b L xs) {Q : State → Prop} {i : Nat} {μ : fm_I} {ν : fm_L} (hI : Inv μ ν) (hi : i + 6 ≤ L) (k : ∀ (μ : fm_I) (ν : fm_L), Inv μ ν → fx_W X G Q 81 4020 μ ν 1575 [(0, .ref b), (1, .ref (G.2.2.1 0)), (2, .ref (G.2.2.1 58)), (3, .int (nI i))] []) : fx_W X G Q 81 4020 μ ν 1105 [(0, .ref b), (1, .ref (G.2.2.1 0)), (2, .ref (G.2.2.1 58)), (3, .int (nI i))] [] := by
  obtain ⟨r, μ1, ν1, μ2, ν2, hf, hg, hI2⟩ := op_law hI (xs (i + 1)) (xs (i + 2)) (xs (i + 3))
  refine fx_aload_n (pc := 1105) C dL_law_1105 rfl rfl ?_
  refine fx_arg (pc := 1106) (i := i) (j := 1) C rfl rfl (by omega) dL_law_1106 dL_law_1107 dL_law_1108 (by decide) dL_law_1109 dL_law_1110 ?_
  refine fx_arg (pc := 1111) (i := i) (j := 2) C rfl rfl (by omega) dL_law_1111 dL_law_1112 dL_law_1113 (by decide) dL_law_1114 dL_law_1115 ?_
  refine fx_arg (pc := 1116) (i := i) (j := 3) C rfl rfl (by omega) dL_law_1116 dL_law_1117 dL_law_1118 (by decide) dL_law_1119 dL_law_1120 ?_
  refine fx_cVl (pc := 1121) (p := 0) (rest := []) C (t_X5_law hf) ok_X5_law ⟨by decide, rfl⟩ m_ml_L_126 dL_law_1121 ⟨Nat.le_of_ble_eq_true rfl, Nat.le_of_ble_eq_true rfl⟩ rfl rfl (Nat.le_of_ble_eq_true rfl) ⟨Nat.le_of_ble_eq_true rfl, Nat.le_of_ble_eq_true rfl⟩ ?_
  refine fx_aload_n (pc := 1124) C dL_law_1124 rfl rfl ?_
  refine fx_arg (pc := 1125) (i := i) (j := 1) C rfl rfl (by omega) dL_law_1125 dL_law_1126 dL_law_1127 (by decide) dL_law_1128 dL_law_1129 ?_
  refine fx_arg (pc := 1130) (i := i) (j := 2) C rfl rfl (by omega) dL_law_1130 dL_law_1131 dL_law_1132 (by decide) dL_law_1133 dL_law_1134 ?_
  refine fx_arg (pc := 1135) (i := i) (j := 3) C rfl rfl (by omega) dL_law_1135 dL_law_1136 dL_law_1137 (by decide) dL_law_1138 dL_law_1139 ?_
  refine fx_cVl (pc := 1140) (p := 58) (rest := [.long r]) C (t_X6_law hg) ok_X6_law ⟨by decide, rfl⟩ m_ml_L_130 dL_law_1140 ⟨Nat.le_of_ble_eq_true rfl, Nat.le_of_ble_eq_true rfl⟩ rfl rfl (Nat.le_of_ble_eq_true rfl) ⟨Nat.le_of_ble_eq_true rfl, Nat.le_of_ble_eq_true rfl⟩ ?_
  refine fx_lcmp (pc := 1143) C dL_law_1143 ?_
  refine fx_if0 (pc := 1144) (tgt := 1575) C dL_law_1144 (by decide) (by simp [lg_cmp]) ?_
  exact k _ _ hI2
set_option maxHeartbeats 4000000 in
set_option maxRecDepth 100000 in
theorem lc_27 {X : fm_X} {G : fm_G} {l : Launch} {b L : Nat} {xs : Nat → Int32} (C : fx_C X G l b L xs) {Q : State → Prop} {i : Nat} {μ : fm_I} {ν : fm_L} (hI : Inv μ ν) (hi : i + 6 ≤ L) (k : ∀ (μ : fm_I) (ν : fm_L), Inv μ ν → fx_W X G Q 81 4020 μ ν 1575 [(0, .ref b), (1, .ref (G.2.2.1 0)), (2, .ref (G.2.2.1 58)), (3, .int (nI i))] []) : fx_W X G Q 81 4020 μ ν 1149 [(0, .ref b), (1, .ref (G.2.2.1 0)), (2, .ref (G.2.2.1 58)), (3, .int (nI i))] [] := by
  obtain ⟨r, μ1, ν1, μ2, ν2, hf, hg, hI2⟩ := op_judge hI (xs (i + 1)) (xs (i + 2)) (xs (i + 3))
  refine fx_aload_n (pc := 1149) C dL_law_1149 rfl rfl ?_
  refine fx_arg (pc := 1150) (i := i) (j := 1) C rfl rfl (by omega) dL_law_1150 dL_law_1151 dL_law_1152 (by decide) dL_law_1153 dL_law_1154 ?_
  refine fx_arg (pc := 1155) (i := i) (j := 2) C rfl rfl (by omega) dL_law_1155 dL_law_1156 dL_law_1157 (by decide) dL_law_1158 dL_law_1159 ?_
  refine fx_arg (pc := 1160) (i := i) (j := 3) C rfl rfl (by omega) dL_law_1160 dL_law_1161 dL_law_1162 (by decide) dL_law_1163 dL_law_1164 ?_
  refine fx_cVi (pc := 1165) (p := 0) (rest := []) C (t_X5_judge hf) ok_X5_judge ⟨by decide, rfl⟩ m_ml_L_131 dL_law_1165 ⟨Nat.le_of_ble_eq_true rfl, Nat.le_of_ble_eq_true rfl⟩ rfl rfl (Nat.le_of_ble_eq_true rfl) ⟨Nat.le_of_ble_eq_true rfl, Nat.le_of_ble_eq_true rfl⟩ ?_
  refine fx_aload_n (pc := 1168) C dL_law_1168 rfl rfl ?_
  refine fx_arg (pc := 1169) (i := i) (j := 1) C rfl rfl (by omega) dL_law_1169 dL_law_1170 dL_law_1171 (by decide) dL_law_1172 dL_law_1173 ?_
  refine fx_arg (pc := 1174) (i := i) (j := 2) C rfl rfl (by omega) dL_law_1174 dL_law_1175 dL_law_1176 (by decide) dL_law_1177 dL_law_1178 ?_
  refine fx_arg (pc := 1179) (i := i) (j := 3) C rfl rfl (by omega) dL_law_1179 dL_law_1180 dL_law_1181 (by decide) dL_law_1182 dL_law_1183 ?_
  refine fx_cVi (pc := 1184) (p := 58) (rest := [.int r]) C (t_X6_judge hg) ok_X6_judge ⟨by decide, rfl⟩ m_ml_L_134 dL_law_1184 ⟨Nat.le_of_ble_eq_true rfl, Nat.le_of_ble_eq_true rfl⟩ rfl rfl (Nat.le_of_ble_eq_true rfl) ⟨Nat.le_of_ble_eq_true rfl, Nat.le_of_ble_eq_true rfl⟩ ?_
  refine fx_same (pc := 1187) (tgt := 1575) C dL_law_1187 (by decide) ?_
  exact k _ _ hI2
set_option maxHeartbeats 4000000 in
set_option maxRecDepth 100000 in
theorem lc_28 {X : fm_X} {G : fm_G} {l : Launch} {b L : Nat} {xs : Nat → Int32} (C : fx_C X G l b L xs) {Q : State → Prop} {i : Nat} {μ : fm_I} {ν : fm_L} (hI : Inv μ ν) (hi : i + 6 ≤ L) (k : ∀ (μ : fm_I) (ν : fm_L), Inv μ ν → fx_W X G Q 81 4020 μ ν 1575 [(0, .ref b), (1, .ref (G.2.2.1 0)), (2, .ref (G.2.2.1 58)), (3, .int (nI i))] []) : fx_W X G Q 81 4020 μ ν 1192 [(0, .ref b), (1, .ref (G.2.2.1 0)), (2, .ref (G.2.2.1 58)), (3, .int (nI i))] [] := by
  obtain ⟨r, μ1, ν1, μ2, ν2, hf, hg, hI2⟩ := op_fits hI (xs (i + 1)) (xs (i + 2)) (xs (i + 3))
  refine fx_aload_n (pc := 1192) C dL_law_1192 rfl rfl ?_
  refine fx_arg (pc := 1193) (i := i) (j := 1) C rfl rfl (by omega) dL_law_1193 dL_law_1194 dL_law_1195 (by decide) dL_law_1196 dL_law_1197 ?_
  refine fx_arg (pc := 1198) (i := i) (j := 2) C rfl rfl (by omega) dL_law_1198 dL_law_1199 dL_law_1200 (by decide) dL_law_1201 dL_law_1202 ?_
  refine fx_arg (pc := 1203) (i := i) (j := 3) C rfl rfl (by omega) dL_law_1203 dL_law_1204 dL_law_1205 (by decide) dL_law_1206 dL_law_1207 ?_
  refine fx_cVl (pc := 1208) (p := 0) (rest := []) C (t_X5_fits hf) ok_X5_fits ⟨by decide, rfl⟩ m_ml_L_135 dL_law_1208 ⟨Nat.le_of_ble_eq_true rfl, Nat.le_of_ble_eq_true rfl⟩ rfl rfl (Nat.le_of_ble_eq_true rfl) ⟨Nat.le_of_ble_eq_true rfl, Nat.le_of_ble_eq_true rfl⟩ ?_
  refine fx_aload_n (pc := 1211) C dL_law_1211 rfl rfl ?_
  refine fx_arg (pc := 1212) (i := i) (j := 1) C rfl rfl (by omega) dL_law_1212 dL_law_1213 dL_law_1214 (by decide) dL_law_1215 dL_law_1216 ?_
  refine fx_arg (pc := 1217) (i := i) (j := 2) C rfl rfl (by omega) dL_law_1217 dL_law_1218 dL_law_1219 (by decide) dL_law_1220 dL_law_1221 ?_
  refine fx_arg (pc := 1222) (i := i) (j := 3) C rfl rfl (by omega) dL_law_1222 dL_law_1223 dL_law_1224 (by decide) dL_law_1225 dL_law_1226 ?_
  refine fx_cVl (pc := 1227) (p := 58) (rest := [.long r]) C (t_X6_fits hg) ok_X6_fits ⟨by decide, rfl⟩ m_ml_L_138 dL_law_1227 ⟨Nat.le_of_ble_eq_true rfl, Nat.le_of_ble_eq_true rfl⟩ rfl rfl (Nat.le_of_ble_eq_true rfl) ⟨Nat.le_of_ble_eq_true rfl, Nat.le_of_ble_eq_true rfl⟩ ?_
  refine fx_lcmp (pc := 1230) C dL_law_1230 ?_
  refine fx_if0 (pc := 1231) (tgt := 1575) C dL_law_1231 (by decide) (by simp [lg_cmp]) ?_
  exact k _ _ hI2
set_option maxHeartbeats 4000000 in
set_option maxRecDepth 100000 in
theorem lc_29 {X : fm_X} {G : fm_G} {l : Launch} {b L : Nat} {xs : Nat → Int32} (C : fx_C X G l b L xs) {Q : State → Prop} {i : Nat} {μ : fm_I} {ν : fm_L} (hI : Inv μ ν) (hi : i + 6 ≤ L) (k : ∀ (μ : fm_I) (ν : fm_L), Inv μ ν → fx_W X G Q 81 4020 μ ν 1575 [(0, .ref b), (1, .ref (G.2.2.1 0)), (2, .ref (G.2.2.1 58)), (3, .int (nI i))] []) : fx_W X G Q 81 4020 μ ν 1236 [(0, .ref b), (1, .ref (G.2.2.1 0)), (2, .ref (G.2.2.1 58)), (3, .int (nI i))] [] := by
  obtain ⟨r, μ1, ν1, μ2, ν2, hf, hg, hI2⟩ := op_make hI (xs (i + 1)) (xs (i + 2))
  refine fx_aload_n (pc := 1236) C dL_law_1236 rfl rfl ?_
  refine fx_arg (pc := 1237) (i := i) (j := 1) C rfl rfl (by omega) dL_law_1237 dL_law_1238 dL_law_1239 (by decide) dL_law_1240 dL_law_1241 ?_
  refine fx_arg (pc := 1242) (i := i) (j := 2) C rfl rfl (by omega) dL_law_1242 dL_law_1243 dL_law_1244 (by decide) dL_law_1245 dL_law_1246 ?_
  refine fx_cVi (pc := 1247) (p := 0) (rest := []) C (t_X5_make hf) ok_X5_make ⟨by decide, rfl⟩ m_ml_L_139 dL_law_1247 ⟨Nat.le_of_ble_eq_true rfl, Nat.le_of_ble_eq_true rfl⟩ rfl rfl (Nat.le_of_ble_eq_true rfl) ⟨Nat.le_of_ble_eq_true rfl, Nat.le_of_ble_eq_true rfl⟩ ?_
  refine fx_aload_n (pc := 1250) C dL_law_1250 rfl rfl ?_
  refine fx_arg (pc := 1251) (i := i) (j := 1) C rfl rfl (by omega) dL_law_1251 dL_law_1252 dL_law_1253 (by decide) dL_law_1254 dL_law_1255 ?_
  refine fx_arg (pc := 1256) (i := i) (j := 2) C rfl rfl (by omega) dL_law_1256 dL_law_1257 dL_law_1258 (by decide) dL_law_1259 dL_law_1260 ?_
  refine fx_cVi (pc := 1261) (p := 58) (rest := [.int r]) C (t_X6_make hg) ok_X6_make ⟨by decide, rfl⟩ m_ml_L_142 dL_law_1261 ⟨Nat.le_of_ble_eq_true rfl, Nat.le_of_ble_eq_true rfl⟩ rfl rfl (Nat.le_of_ble_eq_true rfl) ⟨Nat.le_of_ble_eq_true rfl, Nat.le_of_ble_eq_true rfl⟩ ?_
  refine fx_same (pc := 1264) (tgt := 1575) C dL_law_1264 (by decide) ?_
  exact k _ _ hI2
set_option maxHeartbeats 4000000 in
set_option maxRecDepth 100000 in
theorem lc_30 {X : fm_X} {G : fm_G} {l : Launch} {b L : Nat} {xs : Nat → Int32} (C : fx_C X G l b L xs) {Q : State → Prop} {i : Nat} {μ : fm_I} {ν : fm_L} (hI : Inv μ ν) (hi : i + 6 ≤ L) (k : ∀ (μ : fm_I) (ν : fm_L), Inv μ ν → fx_W X G Q 81 4020 μ ν 1575 [(0, .ref b), (1, .ref (G.2.2.1 0)), (2, .ref (G.2.2.1 58)), (3, .int (nI i))] []) : fx_W X G Q 81 4020 μ ν 1269 [(0, .ref b), (1, .ref (G.2.2.1 0)), (2, .ref (G.2.2.1 58)), (3, .int (nI i))] [] := by
  obtain ⟨r, μ1, ν1, μ2, ν2, hf, hg, hI2⟩ := op_leastTwist hI (xs (i + 1)) (xs (i + 2))
  refine fx_aload_n (pc := 1269) C dL_law_1269 rfl rfl ?_
  refine fx_arg (pc := 1270) (i := i) (j := 1) C rfl rfl (by omega) dL_law_1270 dL_law_1271 dL_law_1272 (by decide) dL_law_1273 dL_law_1274 ?_
  refine fx_arg (pc := 1275) (i := i) (j := 2) C rfl rfl (by omega) dL_law_1275 dL_law_1276 dL_law_1277 (by decide) dL_law_1278 dL_law_1279 ?_
  refine fx_cVi (pc := 1280) (p := 0) (rest := []) C (t_X5_leastTwist hf) ok_X5_leastTwist ⟨by decide, rfl⟩ m_ml_L_143 dL_law_1280 ⟨Nat.le_of_ble_eq_true rfl, Nat.le_of_ble_eq_true rfl⟩ rfl rfl (Nat.le_of_ble_eq_true rfl) ⟨Nat.le_of_ble_eq_true rfl, Nat.le_of_ble_eq_true rfl⟩ ?_
  refine fx_aload_n (pc := 1283) C dL_law_1283 rfl rfl ?_
  refine fx_arg (pc := 1284) (i := i) (j := 1) C rfl rfl (by omega) dL_law_1284 dL_law_1285 dL_law_1286 (by decide) dL_law_1287 dL_law_1288 ?_
  refine fx_arg (pc := 1289) (i := i) (j := 2) C rfl rfl (by omega) dL_law_1289 dL_law_1290 dL_law_1291 (by decide) dL_law_1292 dL_law_1293 ?_
  refine fx_cVi (pc := 1294) (p := 58) (rest := [.int r]) C (t_X6_leastTwist hg) ok_X6_leastTwist ⟨by decide, rfl⟩ m_ml_L_146 dL_law_1294 ⟨Nat.le_of_ble_eq_true rfl, Nat.le_of_ble_eq_true rfl⟩ rfl rfl (Nat.le_of_ble_eq_true rfl) ⟨Nat.le_of_ble_eq_true rfl, Nat.le_of_ble_eq_true rfl⟩ ?_
  refine fx_same (pc := 1297) (tgt := 1575) C dL_law_1297 (by decide) ?_
  exact k _ _ hI2
set_option maxHeartbeats 4000000 in
set_option maxRecDepth 100000 in
theorem lc_31 {X : fm_X} {G : fm_G} {l : Launch} {b L : Nat} {xs : Nat → Int32} (C : fx_C X G l b L xs) {Q : State → Prop} {i : Nat} {μ : fm_I} {ν : fm_L} (hI : Inv μ ν) (hi : i + 6 ≤ L) (k : ∀ (μ : fm_I) (ν : fm_L), Inv μ ν → fx_W X G Q 81 4020 μ ν 1575 [(0, .ref b), (1, .ref (G.2.2.1 0)), (2, .ref (G.2.2.1 58)), (3, .int (nI i))] []) : fx_W X G Q 81 4020 μ ν 1302 [(0, .ref b), (1, .ref (G.2.2.1 0)), (2, .ref (G.2.2.1 58)), (3, .int (nI i))] [] := by
  obtain ⟨r, μ1, ν1, μ2, ν2, hf, hg, hI2⟩ := op_most hI (xs (i + 1))
  refine fx_aload_n (pc := 1302) C dL_law_1302 rfl rfl ?_
  refine fx_arg (pc := 1303) (i := i) (j := 1) C rfl rfl (by omega) dL_law_1303 dL_law_1304 dL_law_1305 (by decide) dL_law_1306 dL_law_1307 ?_
  refine fx_cVi (pc := 1308) (p := 0) (rest := []) C (t_X5_most hf) ok_X5_most ⟨by decide, rfl⟩ m_ml_L_147 dL_law_1308 ⟨Nat.le_of_ble_eq_true rfl, Nat.le_of_ble_eq_true rfl⟩ rfl rfl (Nat.le_of_ble_eq_true rfl) ⟨Nat.le_of_ble_eq_true rfl, Nat.le_of_ble_eq_true rfl⟩ ?_
  refine fx_aload_n (pc := 1311) C dL_law_1311 rfl rfl ?_
  refine fx_arg (pc := 1312) (i := i) (j := 1) C rfl rfl (by omega) dL_law_1312 dL_law_1313 dL_law_1314 (by decide) dL_law_1315 dL_law_1316 ?_
  refine fx_cVi (pc := 1317) (p := 58) (rest := [.int r]) C (t_X6_most hg) ok_X6_most ⟨by decide, rfl⟩ m_ml_L_150 dL_law_1317 ⟨Nat.le_of_ble_eq_true rfl, Nat.le_of_ble_eq_true rfl⟩ rfl rfl (Nat.le_of_ble_eq_true rfl) ⟨Nat.le_of_ble_eq_true rfl, Nat.le_of_ble_eq_true rfl⟩ ?_
  refine fx_same (pc := 1320) (tgt := 1575) C dL_law_1320 (by decide) ?_
  exact k _ _ hI2
set_option maxHeartbeats 4000000 in
set_option maxRecDepth 100000 in
theorem lc_32 {X : fm_X} {G : fm_G} {l : Launch} {b L : Nat} {xs : Nat → Int32} (C : fx_C X G l b L xs) {Q : State → Prop} {i : Nat} {μ : fm_I} {ν : fm_L} (hI : Inv μ ν) (hi : i + 6 ≤ L) (k : ∀ (μ : fm_I) (ν : fm_L), Inv μ ν → fx_W X G Q 81 4020 μ ν 1575 [(0, .ref b), (1, .ref (G.2.2.1 0)), (2, .ref (G.2.2.1 58)), (3, .int (nI i))] []) : fx_W X G Q 81 4020 μ ν 1325 [(0, .ref b), (1, .ref (G.2.2.1 0)), (2, .ref (G.2.2.1 58)), (3, .int (nI i))] [] := by
  obtain ⟨r, μ1, ν1, μ2, ν2, hf, hg, hI2⟩ := op_cross hI (xs (i + 1)) (xs (i + 2)) (xs (i + 3))
  refine fx_aload_n (pc := 1325) C dL_law_1325 rfl rfl ?_
  refine fx_arg (pc := 1326) (i := i) (j := 1) C rfl rfl (by omega) dL_law_1326 dL_law_1327 dL_law_1328 (by decide) dL_law_1329 dL_law_1330 ?_
  refine fx_arg (pc := 1331) (i := i) (j := 2) C rfl rfl (by omega) dL_law_1331 dL_law_1332 dL_law_1333 (by decide) dL_law_1334 dL_law_1335 ?_
  refine fx_arg (pc := 1336) (i := i) (j := 3) C rfl rfl (by omega) dL_law_1336 dL_law_1337 dL_law_1338 (by decide) dL_law_1339 dL_law_1340 ?_
  refine fx_cVi (pc := 1341) (p := 0) (rest := []) C (t_X5_cross hf) ok_X5_cross ⟨by decide, rfl⟩ m_ml_L_151 dL_law_1341 ⟨Nat.le_of_ble_eq_true rfl, Nat.le_of_ble_eq_true rfl⟩ rfl rfl (Nat.le_of_ble_eq_true rfl) ⟨Nat.le_of_ble_eq_true rfl, Nat.le_of_ble_eq_true rfl⟩ ?_
  refine fx_aload_n (pc := 1344) C dL_law_1344 rfl rfl ?_
  refine fx_arg (pc := 1345) (i := i) (j := 1) C rfl rfl (by omega) dL_law_1345 dL_law_1346 dL_law_1347 (by decide) dL_law_1348 dL_law_1349 ?_
  refine fx_arg (pc := 1350) (i := i) (j := 2) C rfl rfl (by omega) dL_law_1350 dL_law_1351 dL_law_1352 (by decide) dL_law_1353 dL_law_1354 ?_
  refine fx_arg (pc := 1355) (i := i) (j := 3) C rfl rfl (by omega) dL_law_1355 dL_law_1356 dL_law_1357 (by decide) dL_law_1358 dL_law_1359 ?_
  refine fx_cVi (pc := 1360) (p := 58) (rest := [.int r]) C (t_X6_cross hg) ok_X6_cross ⟨by decide, rfl⟩ m_ml_L_154 dL_law_1360 ⟨Nat.le_of_ble_eq_true rfl, Nat.le_of_ble_eq_true rfl⟩ rfl rfl (Nat.le_of_ble_eq_true rfl) ⟨Nat.le_of_ble_eq_true rfl, Nat.le_of_ble_eq_true rfl⟩ ?_
  refine fx_same (pc := 1363) (tgt := 1575) C dL_law_1363 (by decide) ?_
  exact k _ _ hI2
set_option maxHeartbeats 4000000 in
set_option maxRecDepth 100000 in
theorem lc_33 {X : fm_X} {G : fm_G} {l : Launch} {b L : Nat} {xs : Nat → Int32} (C : fx_C X G l b L xs) {Q : State → Prop} {i : Nat} {μ : fm_I} {ν : fm_L} (hI : Inv μ ν) (hi : i + 6 ≤ L) (k : ∀ (μ : fm_I) (ν : fm_L), Inv μ ν → fx_W X G Q 81 4020 μ ν 1575 [(0, .ref b), (1, .ref (G.2.2.1 0)), (2, .ref (G.2.2.1 58)), (3, .int (nI i))] []) : fx_W X G Q 81 4020 μ ν 1368 [(0, .ref b), (1, .ref (G.2.2.1 0)), (2, .ref (G.2.2.1 58)), (3, .int (nI i))] [] := by
  obtain ⟨r, μ1, ν1, μ2, ν2, hf, hg, hI2⟩ := op_cut hI (xs (i + 1)) (xs (i + 2))
  refine fx_aload_n (pc := 1368) C dL_law_1368 rfl rfl ?_
  refine fx_arg (pc := 1369) (i := i) (j := 1) C rfl rfl (by omega) dL_law_1369 dL_law_1370 dL_law_1371 (by decide) dL_law_1372 dL_law_1373 ?_
  refine fx_arg (pc := 1374) (i := i) (j := 2) C rfl rfl (by omega) dL_law_1374 dL_law_1375 dL_law_1376 (by decide) dL_law_1377 dL_law_1378 ?_
  refine fx_cVi (pc := 1379) (p := 0) (rest := []) C (t_X5_cut hf) ok_X5_cut ⟨by decide, rfl⟩ m_ml_L_155 dL_law_1379 ⟨Nat.le_of_ble_eq_true rfl, Nat.le_of_ble_eq_true rfl⟩ rfl rfl (Nat.le_of_ble_eq_true rfl) ⟨Nat.le_of_ble_eq_true rfl, Nat.le_of_ble_eq_true rfl⟩ ?_
  refine fx_aload_n (pc := 1382) C dL_law_1382 rfl rfl ?_
  refine fx_arg (pc := 1383) (i := i) (j := 1) C rfl rfl (by omega) dL_law_1383 dL_law_1384 dL_law_1385 (by decide) dL_law_1386 dL_law_1387 ?_
  refine fx_arg (pc := 1388) (i := i) (j := 2) C rfl rfl (by omega) dL_law_1388 dL_law_1389 dL_law_1390 (by decide) dL_law_1391 dL_law_1392 ?_
  refine fx_cVi (pc := 1393) (p := 58) (rest := [.int r]) C (t_X6_cut hg) ok_X6_cut ⟨by decide, rfl⟩ m_ml_L_158 dL_law_1393 ⟨Nat.le_of_ble_eq_true rfl, Nat.le_of_ble_eq_true rfl⟩ rfl rfl (Nat.le_of_ble_eq_true rfl) ⟨Nat.le_of_ble_eq_true rfl, Nat.le_of_ble_eq_true rfl⟩ ?_
  refine fx_same (pc := 1396) (tgt := 1575) C dL_law_1396 (by decide) ?_
  exact k _ _ hI2
set_option maxHeartbeats 4000000 in
set_option maxRecDepth 100000 in
theorem lc_34 {X : fm_X} {G : fm_G} {l : Launch} {b L : Nat} {xs : Nat → Int32} (C : fx_C X G l b L xs) {Q : State → Prop} {i : Nat} {μ : fm_I} {ν : fm_L} (hI : Inv μ ν) (hi : i + 6 ≤ L) (k : ∀ (μ : fm_I) (ν : fm_L), Inv μ ν → fx_W X G Q 81 4020 μ ν 1575 [(0, .ref b), (1, .ref (G.2.2.1 0)), (2, .ref (G.2.2.1 58)), (3, .int (nI i))] []) : fx_W X G Q 81 4020 μ ν 1401 [(0, .ref b), (1, .ref (G.2.2.1 0)), (2, .ref (G.2.2.1 58)), (3, .int (nI i))] [] := by
  obtain ⟨r, μ1, ν1, μ2, ν2, hf, hg, hI2⟩ := op_draws hI (xs (i + 1))
  refine fx_aload_n (pc := 1401) C dL_law_1401 rfl rfl ?_
  refine fx_arg (pc := 1402) (i := i) (j := 1) C rfl rfl (by omega) dL_law_1402 dL_law_1403 dL_law_1404 (by decide) dL_law_1405 dL_law_1406 ?_
  refine fx_cVi (pc := 1407) (p := 0) (rest := []) C (t_X5_draws hf) ok_X5_draws ⟨by decide, rfl⟩ m_ml_L_159 dL_law_1407 ⟨Nat.le_of_ble_eq_true rfl, Nat.le_of_ble_eq_true rfl⟩ rfl rfl (Nat.le_of_ble_eq_true rfl) ⟨Nat.le_of_ble_eq_true rfl, Nat.le_of_ble_eq_true rfl⟩ ?_
  refine fx_aload_n (pc := 1410) C dL_law_1410 rfl rfl ?_
  refine fx_arg (pc := 1411) (i := i) (j := 1) C rfl rfl (by omega) dL_law_1411 dL_law_1412 dL_law_1413 (by decide) dL_law_1414 dL_law_1415 ?_
  refine fx_cVi (pc := 1416) (p := 58) (rest := [.int r]) C (t_X6_draws hg) ok_X6_draws ⟨by decide, rfl⟩ m_ml_L_162 dL_law_1416 ⟨Nat.le_of_ble_eq_true rfl, Nat.le_of_ble_eq_true rfl⟩ rfl rfl (Nat.le_of_ble_eq_true rfl) ⟨Nat.le_of_ble_eq_true rfl, Nat.le_of_ble_eq_true rfl⟩ ?_
  refine fx_same (pc := 1419) (tgt := 1575) C dL_law_1419 (by decide) ?_
  exact k _ _ hI2
set_option maxHeartbeats 4000000 in
set_option maxRecDepth 100000 in
theorem lc_35 {X : fm_X} {G : fm_G} {l : Launch} {b L : Nat} {xs : Nat → Int32} (C : fx_C X G l b L xs) {Q : State → Prop} {i : Nat} {μ : fm_I} {ν : fm_L} (hI : Inv μ ν) (hi : i + 6 ≤ L) (k : ∀ (μ : fm_I) (ν : fm_L), Inv μ ν → fx_W X G Q 81 4020 μ ν 1575 [(0, .ref b), (1, .ref (G.2.2.1 0)), (2, .ref (G.2.2.1 58)), (3, .int (nI i))] []) : fx_W X G Q 81 4020 μ ν 1424 [(0, .ref b), (1, .ref (G.2.2.1 0)), (2, .ref (G.2.2.1 58)), (3, .int (nI i))] [] := by
  obtain ⟨r, μ1, ν1, μ2, ν2, hf, hg, hI2⟩ := op_goes hI 
  refine fx_aload_n (pc := 1424) C dL_law_1424 rfl rfl ?_
  refine fx_cVi (pc := 1425) (p := 0) (rest := []) C (t_X5_goes hf) ok_X5_goes ⟨by decide, rfl⟩ m_ml_L_163 dL_law_1425 ⟨Nat.le_of_ble_eq_true rfl, Nat.le_of_ble_eq_true rfl⟩ rfl rfl (Nat.le_of_ble_eq_true rfl) ⟨Nat.le_of_ble_eq_true rfl, Nat.le_of_ble_eq_true rfl⟩ ?_
  refine fx_aload_n (pc := 1428) C dL_law_1428 rfl rfl ?_
  refine fx_cVi (pc := 1429) (p := 58) (rest := [.int r]) C (t_X6_goes hg) ok_X6_goes ⟨by decide, rfl⟩ m_ml_L_166 dL_law_1429 ⟨Nat.le_of_ble_eq_true rfl, Nat.le_of_ble_eq_true rfl⟩ rfl rfl (Nat.le_of_ble_eq_true rfl) ⟨Nat.le_of_ble_eq_true rfl, Nat.le_of_ble_eq_true rfl⟩ ?_
  refine fx_same (pc := 1432) (tgt := 1575) C dL_law_1432 (by decide) ?_
  exact k _ _ hI2
set_option maxHeartbeats 4000000 in
set_option maxRecDepth 100000 in
theorem lc_36 {X : fm_X} {G : fm_G} {l : Launch} {b L : Nat} {xs : Nat → Int32} (C : fx_C X G l b L xs) {Q : State → Prop} {i : Nat} {μ : fm_I} {ν : fm_L} (hI : Inv μ ν) (hi : i + 6 ≤ L) (k : ∀ (μ : fm_I) (ν : fm_L), Inv μ ν → fx_W X G Q 81 4020 μ ν 1575 [(0, .ref b), (1, .ref (G.2.2.1 0)), (2, .ref (G.2.2.1 58)), (3, .int (nI i))] []) : fx_W X G Q 81 4020 μ ν 1437 [(0, .ref b), (1, .ref (G.2.2.1 0)), (2, .ref (G.2.2.1 58)), (3, .int (nI i))] [] := by
  obtain ⟨r, μ1, ν1, μ2, ν2, hf, hg, hI2⟩ := op_seed hI (xs (i + 1))
  refine fx_aload_n (pc := 1437) C dL_law_1437 rfl rfl ?_
  refine fx_arg (pc := 1438) (i := i) (j := 1) C rfl rfl (by omega) dL_law_1438 dL_law_1439 dL_law_1440 (by decide) dL_law_1441 dL_law_1442 ?_
  refine fx_cVi (pc := 1443) (p := 0) (rest := []) C (t_X5_seed hf) ok_X5_seed ⟨by decide, rfl⟩ m_ml_L_167 dL_law_1443 ⟨Nat.le_of_ble_eq_true rfl, Nat.le_of_ble_eq_true rfl⟩ rfl rfl (Nat.le_of_ble_eq_true rfl) ⟨Nat.le_of_ble_eq_true rfl, Nat.le_of_ble_eq_true rfl⟩ ?_
  refine fx_aload_n (pc := 1446) C dL_law_1446 rfl rfl ?_
  refine fx_arg (pc := 1447) (i := i) (j := 1) C rfl rfl (by omega) dL_law_1447 dL_law_1448 dL_law_1449 (by decide) dL_law_1450 dL_law_1451 ?_
  refine fx_cVi (pc := 1452) (p := 58) (rest := [.int r]) C (t_X6_seed hg) ok_X6_seed ⟨by decide, rfl⟩ m_ml_L_170 dL_law_1452 ⟨Nat.le_of_ble_eq_true rfl, Nat.le_of_ble_eq_true rfl⟩ rfl rfl (Nat.le_of_ble_eq_true rfl) ⟨Nat.le_of_ble_eq_true rfl, Nat.le_of_ble_eq_true rfl⟩ ?_
  refine fx_same (pc := 1455) (tgt := 1575) C dL_law_1455 (by decide) ?_
  exact k _ _ hI2
set_option maxHeartbeats 4000000 in
set_option maxRecDepth 100000 in
theorem lc_37 {X : fm_X} {G : fm_G} {l : Launch} {b L : Nat} {xs : Nat → Int32} (C : fx_C X G l b L xs) {Q : State → Prop} {i : Nat} {μ : fm_I} {ν : fm_L} (hI : Inv μ ν) (hi : i + 6 ≤ L) (k : ∀ (μ : fm_I) (ν : fm_L), Inv μ ν → fx_W X G Q 81 4020 μ ν 1575 [(0, .ref b), (1, .ref (G.2.2.1 0)), (2, .ref (G.2.2.1 58)), (3, .int (nI i))] []) : fx_W X G Q 81 4020 μ ν 1460 [(0, .ref b), (1, .ref (G.2.2.1 0)), (2, .ref (G.2.2.1 58)), (3, .int (nI i))] [] := by
  obtain ⟨r, μ1, ν1, μ2, ν2, hf, hg, hI2⟩ := op_act hI (xs (i + 1)) (xs (i + 2)) (xs (i + 3))
  refine fx_aload_n (pc := 1460) C dL_law_1460 rfl rfl ?_
  refine fx_arg (pc := 1461) (i := i) (j := 1) C rfl rfl (by omega) dL_law_1461 dL_law_1462 dL_law_1463 (by decide) dL_law_1464 dL_law_1465 ?_
  refine fx_arg (pc := 1466) (i := i) (j := 2) C rfl rfl (by omega) dL_law_1466 dL_law_1467 dL_law_1468 (by decide) dL_law_1469 dL_law_1470 ?_
  refine fx_arg (pc := 1471) (i := i) (j := 3) C rfl rfl (by omega) dL_law_1471 dL_law_1472 dL_law_1473 (by decide) dL_law_1474 dL_law_1475 ?_
  refine fx_cVi (pc := 1476) (p := 0) (rest := []) C (t_X5_act hf) ok_X5_act ⟨by decide, rfl⟩ m_ml_L_171 dL_law_1476 ⟨Nat.le_of_ble_eq_true rfl, Nat.le_of_ble_eq_true rfl⟩ rfl rfl (Nat.le_of_ble_eq_true rfl) ⟨Nat.le_of_ble_eq_true rfl, Nat.le_of_ble_eq_true rfl⟩ ?_
  refine fx_aload_n (pc := 1479) C dL_law_1479 rfl rfl ?_
  refine fx_arg (pc := 1480) (i := i) (j := 1) C rfl rfl (by omega) dL_law_1480 dL_law_1481 dL_law_1482 (by decide) dL_law_1483 dL_law_1484 ?_
  refine fx_arg (pc := 1485) (i := i) (j := 2) C rfl rfl (by omega) dL_law_1485 dL_law_1486 dL_law_1487 (by decide) dL_law_1488 dL_law_1489 ?_
  refine fx_arg (pc := 1490) (i := i) (j := 3) C rfl rfl (by omega) dL_law_1490 dL_law_1491 dL_law_1492 (by decide) dL_law_1493 dL_law_1494 ?_
  refine fx_cVi (pc := 1495) (p := 58) (rest := [.int r]) C (t_X6_act hg) ok_X6_act ⟨by decide, rfl⟩ m_ml_L_174 dL_law_1495 ⟨Nat.le_of_ble_eq_true rfl, Nat.le_of_ble_eq_true rfl⟩ rfl rfl (Nat.le_of_ble_eq_true rfl) ⟨Nat.le_of_ble_eq_true rfl, Nat.le_of_ble_eq_true rfl⟩ ?_
  refine fx_same (pc := 1498) (tgt := 1575) C dL_law_1498 (by decide) ?_
  exact k _ _ hI2
set_option maxHeartbeats 4000000 in
set_option maxRecDepth 100000 in
theorem lc_38 {X : fm_X} {G : fm_G} {l : Launch} {b L : Nat} {xs : Nat → Int32} (C : fx_C X G l b L xs) {Q : State → Prop} {i : Nat} {μ : fm_I} {ν : fm_L} (hI : Inv μ ν) (hi : i + 6 ≤ L) (k : ∀ (μ : fm_I) (ν : fm_L), Inv μ ν → fx_W X G Q 81 4020 μ ν 1575 [(0, .ref b), (1, .ref (G.2.2.1 0)), (2, .ref (G.2.2.1 58)), (3, .int (nI i))] []) : fx_W X G Q 81 4020 μ ν 1503 [(0, .ref b), (1, .ref (G.2.2.1 0)), (2, .ref (G.2.2.1 58)), (3, .int (nI i))] [] := by
  obtain ⟨r, μ1, ν1, μ2, ν2, hf, hg, hI2⟩ := op_trace hI (xs (i + 1))
  obtain ⟨hf, rfl, rfl⟩ := pa_ro_of hf
  obtain ⟨hg, rfl, rfl⟩ := pa_ro_of hg
  refine fx_aload_n (pc := 1503) C dL_law_1503 rfl rfl ?_
  refine fx_arg (pc := 1504) (i := i) (j := 1) C rfl rfl (by omega) dL_law_1504 dL_law_1505 dL_law_1506 (by decide) dL_law_1507 dL_law_1508 ?_
  refine fx_cVi (pc := 1509) (p := 0) (rest := []) C (t_X5_trace hf) ok_X5_trace ⟨by decide, rfl⟩ m_ml_L_175 dL_law_1509 ⟨Nat.le_of_ble_eq_true rfl, Nat.le_of_ble_eq_true rfl⟩ rfl rfl (Nat.le_of_ble_eq_true rfl) ⟨Nat.le_of_ble_eq_true rfl, Nat.le_of_ble_eq_true rfl⟩ ?_
  refine fx_aload_n (pc := 1512) C dL_law_1512 rfl rfl ?_
  refine fx_arg (pc := 1513) (i := i) (j := 1) C rfl rfl (by omega) dL_law_1513 dL_law_1514 dL_law_1515 (by decide) dL_law_1516 dL_law_1517 ?_
  refine fx_cVi (pc := 1518) (p := 58) (rest := [.int r]) C (t_X6_trace hg) ok_X6_trace ⟨by decide, rfl⟩ m_ml_L_178 dL_law_1518 ⟨Nat.le_of_ble_eq_true rfl, Nat.le_of_ble_eq_true rfl⟩ rfl rfl (Nat.le_of_ble_eq_true rfl) ⟨Nat.le_of_ble_eq_true rfl, Nat.le_of_ble_eq_true rfl⟩ ?_
  refine fx_same (pc := 1521) (tgt := 1575) C dL_law_1521 (by decide) ?_
  exact k _ _ hI2
set_option maxHeartbeats 4000000 in
set_option maxRecDepth 100000 in
theorem lc_39 {X : fm_X} {G : fm_G} {l : Launch} {b L : Nat} {xs : Nat → Int32} (C : fx_C X G l b L xs) {Q : State → Prop} {i : Nat} {μ : fm_I} {ν : fm_L} (hI : Inv μ ν) (hi : i + 6 ≤ L) (k : ∀ (μ : fm_I) (ν : fm_L), Inv μ ν → fx_W X G Q 81 4020 μ ν 1575 [(0, .ref b), (1, .ref (G.2.2.1 0)), (2, .ref (G.2.2.1 58)), (3, .int (nI i))] []) : fx_W X G Q 81 4020 μ ν 1526 [(0, .ref b), (1, .ref (G.2.2.1 0)), (2, .ref (G.2.2.1 58)), (3, .int (nI i))] [] := by
  obtain ⟨r, μ1, ν1, μ2, ν2, hf, hg, hI2⟩ := op_image hI 
  refine fx_aload_n (pc := 1526) C dL_law_1526 rfl rfl ?_
  refine fx_cVi (pc := 1527) (p := 0) (rest := []) C (t_X5_image hf) ok_X5_image ⟨by decide, rfl⟩ m_ml_L_179 dL_law_1527 ⟨Nat.le_of_ble_eq_true rfl, Nat.le_of_ble_eq_true rfl⟩ rfl rfl (Nat.le_of_ble_eq_true rfl) ⟨Nat.le_of_ble_eq_true rfl, Nat.le_of_ble_eq_true rfl⟩ ?_
  refine fx_aload_n (pc := 1530) C dL_law_1530 rfl rfl ?_
  refine fx_cVi (pc := 1531) (p := 58) (rest := [.int r]) C (t_X6_image hg) ok_X6_image ⟨by decide, rfl⟩ m_ml_L_182 dL_law_1531 ⟨Nat.le_of_ble_eq_true rfl, Nat.le_of_ble_eq_true rfl⟩ rfl rfl (Nat.le_of_ble_eq_true rfl) ⟨Nat.le_of_ble_eq_true rfl, Nat.le_of_ble_eq_true rfl⟩ ?_
  refine fx_same (pc := 1534) (tgt := 1575) C dL_law_1534 (by decide) ?_
  exact k _ _ hI2
set_option maxHeartbeats 4000000 in
set_option maxRecDepth 100000 in
theorem lc_40 {X : fm_X} {G : fm_G} {l : Launch} {b L : Nat} {xs : Nat → Int32} (C : fx_C X G l b L xs) {Q : State → Prop} {i : Nat} {μ : fm_I} {ν : fm_L} (hI : Inv μ ν) (hi : i + 6 ≤ L) (k : ∀ (μ : fm_I) (ν : fm_L), Inv μ ν → fx_W X G Q 81 4020 μ ν 1575 [(0, .ref b), (1, .ref (G.2.2.1 0)), (2, .ref (G.2.2.1 58)), (3, .int (nI i))] []) : fx_W X G Q 81 4020 μ ν 1539 [(0, .ref b), (1, .ref (G.2.2.1 0)), (2, .ref (G.2.2.1 58)), (3, .int (nI i))] [] := by
  obtain ⟨r, μ1, ν1, μ2, ν2, hf, hg, hI2⟩ := op_restore hI 
  refine fx_aload_n (pc := 1539) C dL_law_1539 rfl rfl ?_
  refine fx_cVi (pc := 1540) (p := 0) (rest := []) C (t_X5_restore hf) ok_X5_restore ⟨by decide, rfl⟩ m_ml_L_183 dL_law_1540 ⟨Nat.le_of_ble_eq_true rfl, Nat.le_of_ble_eq_true rfl⟩ rfl rfl (Nat.le_of_ble_eq_true rfl) ⟨Nat.le_of_ble_eq_true rfl, Nat.le_of_ble_eq_true rfl⟩ ?_
  refine fx_aload_n (pc := 1543) C dL_law_1543 rfl rfl ?_
  refine fx_cVi (pc := 1544) (p := 58) (rest := [.int r]) C (t_X6_restore hg) ok_X6_restore ⟨by decide, rfl⟩ m_ml_L_186 dL_law_1544 ⟨Nat.le_of_ble_eq_true rfl, Nat.le_of_ble_eq_true rfl⟩ rfl rfl (Nat.le_of_ble_eq_true rfl) ⟨Nat.le_of_ble_eq_true rfl, Nat.le_of_ble_eq_true rfl⟩ ?_
  refine fx_same (pc := 1547) (tgt := 1575) C dL_law_1547 (by decide) ?_
  exact k _ _ hI2
set_option maxHeartbeats 4000000 in
set_option maxRecDepth 100000 in
theorem lc_41 {X : fm_X} {G : fm_G} {l : Launch} {b L : Nat} {xs : Nat → Int32} (C : fx_C X G l b L xs) {Q : State → Prop} {i : Nat} {μ : fm_I} {ν : fm_L} (hI : Inv μ ν) (hi : i + 6 ≤ L) (k : ∀ (μ : fm_I) (ν : fm_L), Inv μ ν → fx_W X G Q 81 4020 μ ν 1575 [(0, .ref b), (1, .ref (G.2.2.1 0)), (2, .ref (G.2.2.1 58)), (3, .int (nI i))] []) : fx_W X G Q 81 4020 μ ν 1552 [(0, .ref b), (1, .ref (G.2.2.1 0)), (2, .ref (G.2.2.1 58)), (3, .int (nI i))] [] := by
  obtain ⟨r, μ1, ν1, μ2, ν2, hf, hg, hI2⟩ := op_status hI (xs (i + 1))
  refine fx_aload_n (pc := 1552) C dL_law_1552 rfl rfl ?_
  refine fx_arg (pc := 1553) (i := i) (j := 1) C rfl rfl (by omega) dL_law_1553 dL_law_1554 dL_law_1555 (by decide) dL_law_1556 dL_law_1557 ?_
  refine fx_cVi (pc := 1558) (p := 0) (rest := []) C (t_X5_status hf) ok_X5_status ⟨by decide, rfl⟩ m_ml_L_187 dL_law_1558 ⟨Nat.le_of_ble_eq_true rfl, Nat.le_of_ble_eq_true rfl⟩ rfl rfl (Nat.le_of_ble_eq_true rfl) ⟨Nat.le_of_ble_eq_true rfl, Nat.le_of_ble_eq_true rfl⟩ ?_
  refine fx_aload_n (pc := 1561) C dL_law_1561 rfl rfl ?_
  refine fx_arg (pc := 1562) (i := i) (j := 1) C rfl rfl (by omega) dL_law_1562 dL_law_1563 dL_law_1564 (by decide) dL_law_1565 dL_law_1566 ?_
  refine fx_cVi (pc := 1567) (p := 58) (rest := [.int r]) C (t_X6_status hg) ok_X6_status ⟨by decide, rfl⟩ m_ml_L_190 dL_law_1567 ⟨Nat.le_of_ble_eq_true rfl, Nat.le_of_ble_eq_true rfl⟩ rfl rfl (Nat.le_of_ble_eq_true rfl) ⟨Nat.le_of_ble_eq_true rfl, Nat.le_of_ble_eq_true rfl⟩ ?_
  refine fx_same (pc := 1570) (tgt := 1575) C dL_law_1570 (by decide) ?_
  exact k _ _ hI2
set_option maxHeartbeats 4000000 in
set_option maxRecDepth 100000 in
theorem law_step {X : fm_X} {G : fm_G} {l : Launch} {b L : Nat} {xs : Nat → Int32} (C : fx_C X G l b L xs) {Q : State → Prop} {i : Nat} {μ : fm_I} {ν : fm_L} (hI : Inv μ ν) (h6 : i + 6 ≤ L) (hk : ∀ (μ : fm_I) (ν : fm_L), Inv μ ν → fx_W X G Q 81 4020 μ ν 1575 [(0, .ref b), (1, .ref (G.2.2.1 0)), (2, .ref (G.2.2.1 58)), (3, .int (nI i))] []) : fx_W X G Q 81 4020 μ ν 33 [(0, .ref b), (1, .ref (G.2.2.1 0)), (2, .ref (G.2.2.1 58)), (3, .int (nI i))] [.int (xs i &&& nI 63)] := by
  by_cases s0 : (xs i &&& nI 63) = nI 0
  · refine fx_tabIn (pc := 33) (tgt := 216) (off := 183) C dL_law_33 (by rw [s0]; decide) (by rw [s0]; decide) (by rw [s0]; decide) (by decide) ?_
    exact lc_0 C hI h6 hk
  by_cases s1 : (xs i &&& nI 63) = nI 1
  · refine fx_tabIn (pc := 33) (tgt := 259) (off := 226) C dL_law_33 (by rw [s1]; decide) (by rw [s1]; decide) (by rw [s1]; decide) (by decide) ?_
    exact lc_1 C hI h6 hk
  by_cases s2 : (xs i &&& nI 63) = nI 2
  · refine fx_tabIn (pc := 33) (tgt := 332) (off := 299) C dL_law_33 (by rw [s2]; decide) (by rw [s2]; decide) (by rw [s2]; decide) (by decide) ?_
    exact lc_2 C hI h6 hk
  by_cases s3 : (xs i &&& nI 63) = nI 3
  · refine fx_tabIn (pc := 33) (tgt := 395) (off := 362) C dL_law_33 (by rw [s3]; decide) (by rw [s3]; decide) (by rw [s3]; decide) (by decide) ?_
    exact lc_3 C hI h6 hk
  by_cases s4 : (xs i &&& nI 63) = nI 4
  · refine fx_tabIn (pc := 33) (tgt := 429) (off := 396) C dL_law_33 (by rw [s4]; decide) (by rw [s4]; decide) (by rw [s4]; decide) (by decide) ?_
    exact lc_4 C hI h6 hk
  by_cases s5 : (xs i &&& nI 63) = nI 5
  · refine fx_tabIn (pc := 33) (tgt := 462) (off := 429) C dL_law_33 (by rw [s5]; decide) (by rw [s5]; decide) (by rw [s5]; decide) (by decide) ?_
    exact lc_5 C hI h6 hk
  by_cases s6 : (xs i &&& nI 63) = nI 6
  · refine fx_tabIn (pc := 33) (tgt := 485) (off := 452) C dL_law_33 (by rw [s6]; decide) (by rw [s6]; decide) (by rw [s6]; decide) (by decide) ?_
    exact lc_6 C hI h6 hk
  by_cases s7 : (xs i &&& nI 63) = nI 7
  · refine fx_tabIn (pc := 33) (tgt := 518) (off := 485) C dL_law_33 (by rw [s7]; decide) (by rw [s7]; decide) (by rw [s7]; decide) (by decide) ?_
    exact lc_7 C hI h6 hk
  by_cases s8 : (xs i &&& nI 63) = nI 8
  · refine fx_tabIn (pc := 33) (tgt := 581) (off := 548) C dL_law_33 (by rw [s8]; decide) (by rw [s8]; decide) (by rw [s8]; decide) (by decide) ?_
    exact lc_8 C hI h6 hk
  by_cases s9 : (xs i &&& nI 63) = nI 9
  · refine fx_tabIn (pc := 33) (tgt := 614) (off := 581) C dL_law_33 (by rw [s9]; decide) (by rw [s9]; decide) (by rw [s9]; decide) (by decide) ?_
    exact lc_9 C hI h6 hk
  by_cases s10 : (xs i &&& nI 63) = nI 10
  · refine fx_tabIn (pc := 33) (tgt := 647) (off := 614) C dL_law_33 (by rw [s10]; decide) (by rw [s10]; decide) (by rw [s10]; decide) (by decide) ?_
    exact lc_10 C hI h6 hk
  by_cases s11 : (xs i &&& nI 63) = nI 11
  · refine fx_tabIn (pc := 33) (tgt := 670) (off := 637) C dL_law_33 (by rw [s11]; decide) (by rw [s11]; decide) (by rw [s11]; decide) (by decide) ?_
    exact lc_11 C hI h6 hk
  by_cases s12 : (xs i &&& nI 63) = nI 12
  · refine fx_tabIn (pc := 33) (tgt := 713) (off := 680) C dL_law_33 (by rw [s12]; decide) (by rw [s12]; decide) (by rw [s12]; decide) (by decide) ?_
    exact lc_12 C hI h6 hk
  by_cases s13 : (xs i &&& nI 63) = nI 13
  · refine fx_tabIn (pc := 33) (tgt := 736) (off := 703) C dL_law_33 (by rw [s13]; decide) (by rw [s13]; decide) (by rw [s13]; decide) (by decide) ?_
    exact lc_13 C hI h6 hk
  by_cases s14 : (xs i &&& nI 63) = nI 14
  · refine fx_tabIn (pc := 33) (tgt := 749) (off := 716) C dL_law_33 (by rw [s14]; decide) (by rw [s14]; decide) (by rw [s14]; decide) (by decide) ?_
    exact lc_14 C hI h6 hk
  by_cases s15 : (xs i &&& nI 63) = nI 15
  · refine fx_tabIn (pc := 33) (tgt := 782) (off := 749) C dL_law_33 (by rw [s15]; decide) (by rw [s15]; decide) (by rw [s15]; decide) (by decide) ?_
    exact lc_15 C hI h6 hk
  by_cases s16 : (xs i &&& nI 63) = nI 16
  · refine fx_tabIn (pc := 33) (tgt := 805) (off := 772) C dL_law_33 (by rw [s16]; decide) (by rw [s16]; decide) (by rw [s16]; decide) (by decide) ?_
    exact lc_16 C hI h6 hk
  by_cases s17 : (xs i &&& nI 63) = nI 17
  · refine fx_tabIn (pc := 33) (tgt := 848) (off := 815) C dL_law_33 (by rw [s17]; decide) (by rw [s17]; decide) (by rw [s17]; decide) (by decide) ?_
    exact lc_17 C hI h6 hk
  by_cases s18 : (xs i &&& nI 63) = nI 18
  · refine fx_tabIn (pc := 33) (tgt := 881) (off := 848) C dL_law_33 (by rw [s18]; decide) (by rw [s18]; decide) (by rw [s18]; decide) (by decide) ?_
    exact lc_18 C hI h6 hk
  by_cases s19 : (xs i &&& nI 63) = nI 19
  · refine fx_tabIn (pc := 33) (tgt := 924) (off := 891) C dL_law_33 (by rw [s19]; decide) (by rw [s19]; decide) (by rw [s19]; decide) (by decide) ?_
    exact lc_19 C hI h6 hk
  by_cases s20 : (xs i &&& nI 63) = nI 20
  · refine fx_tabIn (pc := 33) (tgt := 967) (off := 934) C dL_law_33 (by rw [s20]; decide) (by rw [s20]; decide) (by rw [s20]; decide) (by decide) ?_
    exact lc_20 C hI h6 hk
  by_cases s21 : (xs i &&& nI 63) = nI 21
  · refine fx_tabIn (pc := 33) (tgt := 990) (off := 957) C dL_law_33 (by rw [s21]; decide) (by rw [s21]; decide) (by rw [s21]; decide) (by decide) ?_
    exact lc_21 C hI h6 hk
  by_cases s22 : (xs i &&& nI 63) = nI 22
  · refine fx_tabIn (pc := 33) (tgt := 1013) (off := 980) C dL_law_33 (by rw [s22]; decide) (by rw [s22]; decide) (by rw [s22]; decide) (by decide) ?_
    exact lc_22 C hI h6 hk
  by_cases s23 : (xs i &&& nI 63) = nI 23
  · refine fx_tabIn (pc := 33) (tgt := 1036) (off := 1003) C dL_law_33 (by rw [s23]; decide) (by rw [s23]; decide) (by rw [s23]; decide) (by decide) ?_
    exact lc_23 C hI h6 hk
  by_cases s24 : (xs i &&& nI 63) = nI 24
  · refine fx_tabIn (pc := 33) (tgt := 1059) (off := 1026) C dL_law_33 (by rw [s24]; decide) (by rw [s24]; decide) (by rw [s24]; decide) (by decide) ?_
    exact lc_24 C hI h6 hk
  by_cases s25 : (xs i &&& nI 63) = nI 25
  · refine fx_tabIn (pc := 33) (tgt := 1082) (off := 1049) C dL_law_33 (by rw [s25]; decide) (by rw [s25]; decide) (by rw [s25]; decide) (by decide) ?_
    exact lc_25 C hI h6 hk
  by_cases s26 : (xs i &&& nI 63) = nI 26
  · refine fx_tabIn (pc := 33) (tgt := 1105) (off := 1072) C dL_law_33 (by rw [s26]; decide) (by rw [s26]; decide) (by rw [s26]; decide) (by decide) ?_
    exact lc_26 C hI h6 hk
  by_cases s27 : (xs i &&& nI 63) = nI 27
  · refine fx_tabIn (pc := 33) (tgt := 1149) (off := 1116) C dL_law_33 (by rw [s27]; decide) (by rw [s27]; decide) (by rw [s27]; decide) (by decide) ?_
    exact lc_27 C hI h6 hk
  by_cases s28 : (xs i &&& nI 63) = nI 28
  · refine fx_tabIn (pc := 33) (tgt := 1192) (off := 1159) C dL_law_33 (by rw [s28]; decide) (by rw [s28]; decide) (by rw [s28]; decide) (by decide) ?_
    exact lc_28 C hI h6 hk
  by_cases s29 : (xs i &&& nI 63) = nI 29
  · refine fx_tabIn (pc := 33) (tgt := 1236) (off := 1203) C dL_law_33 (by rw [s29]; decide) (by rw [s29]; decide) (by rw [s29]; decide) (by decide) ?_
    exact lc_29 C hI h6 hk
  by_cases s30 : (xs i &&& nI 63) = nI 30
  · refine fx_tabIn (pc := 33) (tgt := 1269) (off := 1236) C dL_law_33 (by rw [s30]; decide) (by rw [s30]; decide) (by rw [s30]; decide) (by decide) ?_
    exact lc_30 C hI h6 hk
  by_cases s31 : (xs i &&& nI 63) = nI 31
  · refine fx_tabIn (pc := 33) (tgt := 1302) (off := 1269) C dL_law_33 (by rw [s31]; decide) (by rw [s31]; decide) (by rw [s31]; decide) (by decide) ?_
    exact lc_31 C hI h6 hk
  by_cases s32 : (xs i &&& nI 63) = nI 32
  · refine fx_tabIn (pc := 33) (tgt := 1325) (off := 1292) C dL_law_33 (by rw [s32]; decide) (by rw [s32]; decide) (by rw [s32]; decide) (by decide) ?_
    exact lc_32 C hI h6 hk
  by_cases s33 : (xs i &&& nI 63) = nI 33
  · refine fx_tabIn (pc := 33) (tgt := 1368) (off := 1335) C dL_law_33 (by rw [s33]; decide) (by rw [s33]; decide) (by rw [s33]; decide) (by decide) ?_
    exact lc_33 C hI h6 hk
  by_cases s34 : (xs i &&& nI 63) = nI 34
  · refine fx_tabIn (pc := 33) (tgt := 1401) (off := 1368) C dL_law_33 (by rw [s34]; decide) (by rw [s34]; decide) (by rw [s34]; decide) (by decide) ?_
    exact lc_34 C hI h6 hk
  by_cases s35 : (xs i &&& nI 63) = nI 35
  · refine fx_tabIn (pc := 33) (tgt := 1424) (off := 1391) C dL_law_33 (by rw [s35]; decide) (by rw [s35]; decide) (by rw [s35]; decide) (by decide) ?_
    exact lc_35 C hI h6 hk
  by_cases s36 : (xs i &&& nI 63) = nI 36
  · refine fx_tabIn (pc := 33) (tgt := 1437) (off := 1404) C dL_law_33 (by rw [s36]; decide) (by rw [s36]; decide) (by rw [s36]; decide) (by decide) ?_
    exact lc_36 C hI h6 hk
  by_cases s37 : (xs i &&& nI 63) = nI 37
  · refine fx_tabIn (pc := 33) (tgt := 1460) (off := 1427) C dL_law_33 (by rw [s37]; decide) (by rw [s37]; decide) (by rw [s37]; decide) (by decide) ?_
    exact lc_37 C hI h6 hk
  by_cases s38 : (xs i &&& nI 63) = nI 38
  · refine fx_tabIn (pc := 33) (tgt := 1503) (off := 1470) C dL_law_33 (by rw [s38]; decide) (by rw [s38]; decide) (by rw [s38]; decide) (by decide) ?_
    exact lc_38 C hI h6 hk
  by_cases s39 : (xs i &&& nI 63) = nI 39
  · refine fx_tabIn (pc := 33) (tgt := 1526) (off := 1493) C dL_law_33 (by rw [s39]; decide) (by rw [s39]; decide) (by rw [s39]; decide) (by decide) ?_
    exact lc_39 C hI h6 hk
  by_cases s40 : (xs i &&& nI 63) = nI 40
  · refine fx_tabIn (pc := 33) (tgt := 1539) (off := 1506) C dL_law_33 (by rw [s40]; decide) (by rw [s40]; decide) (by rw [s40]; decide) (by decide) ?_
    exact lc_40 C hI h6 hk
  by_cases s41 : (xs i &&& nI 63) = nI 41
  · refine fx_tabIn (pc := 33) (tgt := 1552) (off := 1519) C dL_law_33 (by rw [s41]; decide) (by rw [s41]; decide) (by rw [s41]; decide) (by decide) ?_
    exact lc_41 C hI h6 hk
  refine fx_tabOut (pc := 33) (tgt := 1575) C dL_law_33 (by have a0 := fm_ne (nI 0) (k := 0) (by decide) s0; have a1 := fm_ne (nI 1) (k := 1) (by decide) s1; have a2 := fm_ne (nI 2) (k := 2) (by decide) s2; have a3 := fm_ne (nI 3) (k := 3) (by decide) s3; have a4 := fm_ne (nI 4) (k := 4) (by decide) s4; have a5 := fm_ne (nI 5) (k := 5) (by decide) s5; have a6 := fm_ne (nI 6) (k := 6) (by decide) s6; have a7 := fm_ne (nI 7) (k := 7) (by decide) s7; have a8 := fm_ne (nI 8) (k := 8) (by decide) s8; have a9 := fm_ne (nI 9) (k := 9) (by decide) s9; have a10 := fm_ne (nI 10) (k := 10) (by decide) s10; have a11 := fm_ne (nI 11) (k := 11) (by decide) s11; have a12 := fm_ne (nI 12) (k := 12) (by decide) s12; have a13 := fm_ne (nI 13) (k := 13) (by decide) s13; have a14 := fm_ne (nI 14) (k := 14) (by decide) s14; have a15 := fm_ne (nI 15) (k := 15) (by decide) s15; have a16 := fm_ne (nI 16) (k := 16) (by decide) s16; have a17 := fm_ne (nI 17) (k := 17) (by decide) s17; have a18 := fm_ne (nI 18) (k := 18) (by decide) s18; have a19 := fm_ne (nI 19) (k := 19) (by decide) s19; have a20 := fm_ne (nI 20) (k := 20) (by decide) s20; have a21 := fm_ne (nI 21) (k := 21) (by decide) s21; have a22 := fm_ne (nI 22) (k := 22) (by decide) s22; have a23 := fm_ne (nI 23) (k := 23) (by decide) s23; have a24 := fm_ne (nI 24) (k := 24) (by decide) s24; have a25 := fm_ne (nI 25) (k := 25) (by decide) s25; have a26 := fm_ne (nI 26) (k := 26) (by decide) s26; have a27 := fm_ne (nI 27) (k := 27) (by decide) s27; have a28 := fm_ne (nI 28) (k := 28) (by decide) s28; have a29 := fm_ne (nI 29) (k := 29) (by decide) s29; have a30 := fm_ne (nI 30) (k := 30) (by decide) s30; have a31 := fm_ne (nI 31) (k := 31) (by decide) s31; have a32 := fm_ne (nI 32) (k := 32) (by decide) s32; have a33 := fm_ne (nI 33) (k := 33) (by decide) s33; have a34 := fm_ne (nI 34) (k := 34) (by decide) s34; have a35 := fm_ne (nI 35) (k := 35) (by decide) s35; have a36 := fm_ne (nI 36) (k := 36) (by decide) s36; have a37 := fm_ne (nI 37) (k := 37) (by decide) s37; have a38 := fm_ne (nI 38) (k := 38) (by decide) s38; have a39 := fm_ne (nI 39) (k := 39) (by decide) s39; have a40 := fm_ne (nI 40) (k := 40) (by decide) s40; have a41 := fm_ne (nI 41) (k := 41) (by decide) s41; omega) (by decide) ?_
  exact hk μ ν hI
set_option maxHeartbeats 4000000 in
set_option maxRecDepth 100000 in
theorem law_loop {X : fm_X} {G : fm_G} {l : Launch} {b L : Nat} {xs : Nat → Int32} (C : fx_C X G l b L xs) (hargs : fm_as X = #[Value.ref b]) {Q : State → Prop} (hQ : Q = lw_Z (fm_be X) #[Value.ref b] (fm_s X)) : ∀ (n i : Nat) (μ : fm_I) (ν : fm_L), Inv μ ν → i ≤ L → L - i < n → fx_W X G Q 81 4020 μ ν 18 [(0, .ref b), (1, .ref (G.2.2.1 0)), (2, .ref (G.2.2.1 58)), (3, .int (nI i))] [] := by
  have hL := C.2.2.2.2.2.2.2.2.2.2.2.2.2.2.2
  intro n
  induction n with
  | zero =>
    intro i μ ν _ _ h
    exact absurd h (Nat.not_lt_zero _)
  | succ n ih =>
    intro i μ ν hI hi hn
    refine fx_iload_n (pc := 18) C dL_law_18 rfl rfl ?_
    refine fx_aload_n (pc := 19) C dL_law_19 rfl rfl ?_
    refine fx_slen (pc := 20) C dL_law_20 ?_
    refine fx_bipush (pc := 21) (v := nI 6) C dL_law_21 (by decide) ?_
    refine fx_isub (pc := 23) C dL_law_23 ?_
    refine fx_gt (pc := 24) (tgt := 1581) C dL_law_24 (by decide) (fun _ => ?_) (fun c => ?_)
    · exact fx_end C hargs ⟨Nat.le_of_ble_eq_true rfl, Nat.le_of_ble_eq_true rfl⟩ hQ dL_law_1581 dL_law_1582
    · have h6 := fx_cond hi hL c
      refine fx_aload_n (pc := 27) C dL_law_27 rfl rfl ?_
      refine fx_iload_n (pc := 28) C dL_law_28 rfl rfl ?_
      refine fx_sld (pc := 29) (j := i) C rfl (by omega) dL_law_29 ?_
      refine fx_bipush (pc := 30) (v := nI 63) C dL_law_30 (by decide) ?_
      refine fx_iand (pc := 32) C dL_law_32 ?_
      refine law_step C hI h6 (fun μ ν hI => ?_)
      refine fx_iinc (pc := 1575) (v := nI (i + 6)) C dL_law_1575 rfl (nI_add i 6) (by decide) rfl ?_
      refine fx_goto (pc := 1578) (tgt := 18) C dL_law_1578 (by decide) ?_
      refine fx_less (lv' := [(0, .ref b), (1, .ref (G.2.2.1 0)), (2, .ref (G.2.2.1 58)), (3, .int (nI (i + 6)))]) (by repeat (first | exact trivial | refine ⟨rfl, ?_⟩)) ?_
      exact ih (i + 6) μ ν hI h6 (by omega)
