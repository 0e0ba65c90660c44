theorem dJ0_length_8abf5_0 : decode cJ0_length_8abf5 0 = .ok (.aload_n 0, 1) := by decide +kernel
theorem dJ0_length_8abf5_1 : decode cJ0_length_8abf5 1 = .ok (.getfield 9, 3) := by decide +kernel
theorem dJ0_length_8abf5_4 : decode cJ0_length_8abf5 4 = .ok (.arraylength, 1) := by decide +kernel
theorem dJ0_length_8abf5_5 : decode cJ0_length_8abf5 5 = .ok (.aload_n 0, 1) := by decide +kernel
theorem dJ0_length_8abf5_6 : decode cJ0_length_8abf5 6 = .ok (.invokevirtual 335, 3) := by decide +kernel
theorem dJ0_length_8abf5_9 : decode cJ0_length_8abf5 9 = .ok (.ishr, 1) := by decide +kernel
theorem dJ0_length_8abf5_10 : decode cJ0_length_8abf5 10 = .ok (.ireturn, 1) := by decide +kernel
theorem dJ0_coder_7d493_0 : decode cJ0_coder_7d493 0 = .ok (.getstatic 38, 3) := by decide +kernel
theorem dJ0_coder_7d493_3 : decode cJ0_coder_7d493 3 = .ok (.ifCond .eq 10, 3) := by decide +kernel
theorem dJ0_coder_7d493_6 : decode cJ0_coder_7d493 6 = .ok (.aload_n 0, 1) := by decide +kernel
theorem dJ0_coder_7d493_7 : decode cJ0_coder_7d493 7 = .ok (.getfield 15, 3) := by decide +kernel
theorem dJ0_coder_7d493_10 : decode cJ0_coder_7d493 10 = .ok (.goto 4, 3) := by decide +kernel
theorem dJ0_coder_7d493_13 : decode cJ0_coder_7d493 13 = .ok (.iconst 1, 1) := by decide +kernel
theorem dJ0_coder_7d493_14 : decode cJ0_coder_7d493 14 = .ok (.ireturn, 1) := by decide +kernel
theorem dJ0_isLatin1_aae02_0 : decode cJ0_isLatin1_aae02 0 = .ok (.getstatic 38, 3) := by decide +kernel
theorem dJ0_isLatin1_aae02_3 : decode cJ0_isLatin1_aae02 3 = .ok (.ifCond .eq 14, 3) := by decide +kernel
theorem dJ0_isLatin1_aae02_6 : decode cJ0_isLatin1_aae02 6 = .ok (.aload_n 0, 1) := by decide +kernel
theorem dJ0_isLatin1_aae02_7 : decode cJ0_isLatin1_aae02 7 = .ok (.getfield 15, 3) := by decide +kernel
theorem dJ0_isLatin1_aae02_10 : decode cJ0_isLatin1_aae02 10 = .ok (.ifCond .ne 7, 3) := by decide +kernel
theorem dJ0_isLatin1_aae02_13 : decode cJ0_isLatin1_aae02 13 = .ok (.iconst 1, 1) := by decide +kernel
theorem dJ0_isLatin1_aae02_14 : decode cJ0_isLatin1_aae02 14 = .ok (.goto 4, 3) := by decide +kernel
theorem dJ0_isLatin1_aae02_17 : decode cJ0_isLatin1_aae02 17 = .ok (.iconst 0, 1) := by decide +kernel
theorem dJ0_isLatin1_aae02_18 : decode cJ0_isLatin1_aae02 18 = .ok (.ireturn, 1) := by decide +kernel
theorem dJ0_charAt_5068e_0 : decode cJ0_charAt_5068e 0 = .ok (.aload_n 0, 1) := by decide +kernel
theorem dJ0_charAt_5068e_1 : decode cJ0_charAt_5068e 1 = .ok (.invokevirtual 492, 3) := by decide +kernel
theorem dJ0_charAt_5068e_4 : decode cJ0_charAt_5068e 4 = .ok (.ifCond .eq 12, 3) := by decide +kernel
theorem dJ0_charAt_5068e_7 : decode cJ0_charAt_5068e 7 = .ok (.aload_n 0, 1) := by decide +kernel
theorem dJ0_charAt_5068e_8 : decode cJ0_charAt_5068e 8 = .ok (.getfield 9, 3) := by decide +kernel
theorem dJ0_charAt_5068e_11 : decode cJ0_charAt_5068e 11 = .ok (.iload_n 1, 1) := by decide +kernel
theorem dJ0_charAt_5068e_12 : decode cJ0_charAt_5068e 12 = .ok (.invokestatic 495, 3) := by decide +kernel
theorem dJ0_charAt_5068e_15 : decode cJ0_charAt_5068e 15 = .ok (.ireturn, 1) := by decide +kernel
theorem dJ0_charAt_5068e_16 : decode cJ0_charAt_5068e 16 = .ok (.aload_n 0, 1) := by decide +kernel
theorem dJ0_charAt_5068e_17 : decode cJ0_charAt_5068e 17 = .ok (.getfield 9, 3) := by decide +kernel
theorem dJ0_charAt_5068e_20 : decode cJ0_charAt_5068e 20 = .ok (.iload_n 1, 1) := by decide +kernel
theorem dJ0_charAt_5068e_21 : decode cJ0_charAt_5068e 21 = .ok (.invokestatic 498, 3) := by decide +kernel
theorem dJ0_charAt_5068e_24 : decode cJ0_charAt_5068e 24 = .ok (.ireturn, 1) := by decide +kernel
theorem dJ0_checkIndex_df160_0 : decode cJ0_checkIndex_df160 0 = .ok (.iload_n 0, 1) := by decide +kernel
theorem dJ0_checkIndex_df160_1 : decode cJ0_checkIndex_df160 1 = .ok (.iload_n 1, 1) := by decide +kernel
theorem dJ0_checkIndex_df160_2 : decode cJ0_checkIndex_df160 2 = .ok (.getstatic 1053, 3) := by decide +kernel
theorem dJ0_checkIndex_df160_5 : decode cJ0_checkIndex_df160 5 = .ok (.invokestatic 1059, 3) := by decide +kernel
theorem dJ0_checkIndex_df160_8 : decode cJ0_checkIndex_df160 8 = .ok (.pop, 1) := by decide +kernel
theorem dJ0_checkIndex_df160_9 : decode cJ0_checkIndex_df160 9 = .ok (.return_, 1) := by decide +kernel
theorem dJ1_charAt_3b067_0 : decode cJ1_charAt_3b067 0 = .ok (.iload_n 1, 1) := by decide +kernel
theorem dJ1_charAt_3b067_1 : decode cJ1_charAt_3b067 1 = .ok (.aload_n 0, 1) := by decide +kernel
theorem dJ1_charAt_3b067_2 : decode cJ1_charAt_3b067 2 = .ok (.arraylength, 1) := by decide +kernel
theorem dJ1_charAt_3b067_3 : decode cJ1_charAt_3b067 3 = .ok (.invokestatic 9, 3) := by decide +kernel
theorem dJ1_charAt_3b067_6 : decode cJ1_charAt_3b067 6 = .ok (.aload_n 0, 1) := by decide +kernel
theorem dJ1_charAt_3b067_7 : decode cJ1_charAt_3b067 7 = .ok (.iload_n 1, 1) := by decide +kernel
theorem dJ1_charAt_3b067_8 : decode cJ1_charAt_3b067 8 = .ok (.baload, 1) := by decide +kernel
theorem dJ1_charAt_3b067_9 : decode cJ1_charAt_3b067 9 = .ok (.sipush 255, 3) := by decide +kernel
theorem dJ1_charAt_3b067_12 : decode cJ1_charAt_3b067 12 = .ok (.iand, 1) := by decide +kernel
theorem dJ1_charAt_3b067_13 : decode cJ1_charAt_3b067 13 = .ok (.i2c, 1) := by decide +kernel
theorem dJ1_charAt_3b067_14 : decode cJ1_charAt_3b067 14 = .ok (.ireturn, 1) := by decide +kernel
theorem dJ3_checkIndex_8e157_0 : decode cJ3_checkIndex_8e157 0 = .ok (.iload_n 0, 1) := by decide +kernel
theorem dJ3_checkIndex_8e157_1 : decode cJ3_checkIndex_8e157 1 = .ok (.ifCond .lt 8, 3) := by decide +kernel
theorem dJ3_checkIndex_8e157_4 : decode cJ3_checkIndex_8e157 4 = .ok (.iload_n 0, 1) := by decide +kernel
theorem dJ3_checkIndex_8e157_5 : decode cJ3_checkIndex_8e157 5 = .ok (.iload_n 1, 1) := by decide +kernel
theorem dJ3_checkIndex_8e157_6 : decode cJ3_checkIndex_8e157 6 = .ok (.if_icmp .lt 10, 3) := by decide +kernel
theorem dJ3_checkIndex_8e157_9 : decode cJ3_checkIndex_8e157 9 = .ok (.aload_n 2, 1) := by decide +kernel
theorem dJ3_checkIndex_8e157_10 : decode cJ3_checkIndex_8e157 10 = .ok (.iload_n 0, 1) := by decide +kernel
theorem dJ3_checkIndex_8e157_11 : decode cJ3_checkIndex_8e157 11 = .ok (.iload_n 1, 1) := by decide +kernel
theorem dJ3_checkIndex_8e157_12 : decode cJ3_checkIndex_8e157 12 = .ok (.invokestatic 95, 3) := by decide +kernel
theorem dJ3_checkIndex_8e157_15 : decode cJ3_checkIndex_8e157 15 = .ok (.athrow, 1) := by decide +kernel
theorem dJ3_checkIndex_8e157_16 : decode cJ3_checkIndex_8e157 16 = .ok (.iload_n 0, 1) := by decide +kernel
theorem dJ3_checkIndex_8e157_17 : decode cJ3_checkIndex_8e157 17 = .ok (.ireturn, 1) := by decide +kernel
theorem ok_J0_length_8abf5 : fm_okV yJ0_length_8abf5 cJ0_length_8abf5 1 (some .int) 0 := ⟨m_cd_J0_length_8abf5, m_im_J0_length_8abf5, m_se_J0_J0_length_8abf5, m_ini_J0, by decide +kernel, by decide +kernel, by decide +kernel⟩
theorem ok_J0_coder_7d493 : fm_okV yJ0_coder_7d493 cJ0_coder_7d493 1 (some .byte) 0 := ⟨m_cd_J0_coder_7d493, m_im_J0_coder_7d493, m_se_J0_J0_coder_7d493, m_ini_J0, by decide +kernel, by decide +kernel, by decide +kernel⟩
theorem ok_J0_isLatin1_aae02 : fm_okV yJ0_isLatin1_aae02 cJ0_isLatin1_aae02 1 (some .boolean) 0 := ⟨m_cd_J0_isLatin1_aae02, m_im_J0_isLatin1_aae02, m_se_J0_J0_isLatin1_aae02, m_ini_J0, by decide +kernel, by decide +kernel, by decide +kernel⟩
theorem ok_J0_charAt_5068e : fm_okV yJ0_charAt_5068e cJ0_charAt_5068e 2 (some .char) 1 := ⟨m_cd_J0_charAt_5068e, m_im_J0_charAt_5068e, m_se_J0_J0_charAt_5068e, m_ini_J0, by decide +kernel, by decide +kernel, by decide +kernel⟩
theorem ok_J0_checkIndex_df160 : fm_okS yJ0_checkIndex_df160 cJ0_checkIndex_df160 2 none 2 := ⟨m_cd_J0_checkIndex_df160, m_st_J0_checkIndex_df160, m_ini_J0, by decide +kernel, by decide +kernel, by decide +kernel⟩
theorem ok_J1_charAt_3b067 : fm_okS yJ1_charAt_3b067 cJ1_charAt_3b067 2 (some .char) 2 := ⟨m_cd_J1_charAt_3b067, m_st_J1_charAt_3b067, m_ini_J1, by decide +kernel, by decide +kernel, by decide +kernel⟩
theorem ok_J3_checkIndex_8e157 : fm_okS yJ3_checkIndex_8e157 cJ3_checkIndex_8e157 3 (some .int) 3 := ⟨m_cd_J3_checkIndex_8e157, m_st_J3_checkIndex_8e157, m_ini_J3, by decide +kernel, by decide +kernel, by decide +kernel⟩
section FMS
variable {ρ : Type} {X : fm_X} {G : fm_G} {l : Launch} {cc : ByteArray} {own : String} {n : Nat} {ret : Option FieldType} {fr lo : Nat} {F : ρ → State → Prop} {o : Option ρ} {μ : fm_I} {ν : fm_L} {pc : Nat} {lv : List (Nat × Value)} {st : List Value}
theorem fm_zS (C : fm_C X G l cc own n ret fr lo) : vk_S 5 fm_tl fm_tb5 G.2.2.2.2.1 G.2.2.2.2.2 (fm_A G) (fm_s X) (fm_s X).heap := C.2.2.2.2.2.2.2.2.2.2.2.2.2.2.1
theorem fm_sval (C : fm_C X G l cc own n ret fr lo) {t ix : Nat} (ht : t < 5) (hd : decode cc pc = .ok (.getfield ix, 3)) (hw : Cond.fieldLink own ix "java/lang/String" "value" "[B" ∈ fm_tb) (kk : fm_J X G n F o μ ν (pc + 3) lv (.ref (G.2.2.2.2.2 t) :: st)) : fm_J X G n F o μ ν pc lv (.ref (G.2.2.2.2.1 t) :: st) := fun r hr H locs ls hP hS hL =>
  vk_getf C.1 C.2.1 ((fm_zS C).1 t ht).2.2.1 hS C.2.2.2.1 (C.2.2.2.2.1 _ hw) (fun _ h => h) hd (kk r hr H locs ls hP hS hL)
theorem fm_scod (C : fm_C X G l cc own n ret fr lo) {t ix : Nat} (ht : t < 5) (hd : decode cc pc = .ok (.getfield ix, 3)) (hw : Cond.fieldLink own ix "java/lang/String" "coder" "B" ∈ fm_tb) (kk : fm_J X G n F o μ ν (pc + 3) lv (.int 0 :: st)) : fm_J X G n F o μ ν pc lv (.ref (G.2.2.2.2.1 t) :: st) := fun r hr H locs ls hP hS hL =>
  vk_getf C.1 C.2.1 ((fm_zS C).1 t ht).2.1 hS C.2.2.2.1 (C.2.2.2.2.1 _ hw) (fun _ h => h) hd (kk r hr H locs ls hP hS hL)
theorem fm_sCS (C : fm_C X G l cc own n ret fr lo) {ix : Nat} (hd : decode cc pc = .ok (.getstatic ix, 3)) (hw : Cond.fieldLink own ix "java/lang/String" "COMPACT_STRINGS" "Z" ∈ fm_tb) (kk : fm_J X G n F o μ ν (pc + 3) lv (.int 1 :: st)) : fm_J X G n F o μ ν pc lv st := fun r hr H locs ls hP hS hL =>
  va_gets C.1 C.2.1 C.2.2.2.2.2.2.2.2.2.2.2.2.2.2.2.1 hS C.2.2.2.1 (C.2.2.2.2.1 _ hw) (fun _ h => h) hd (kk r hr H locs ls hP hS hL)
theorem fm_sFM (C : fm_C X G l cc own n ret fr lo) {ix : Nat} (hd : decode cc pc = .ok (.getstatic ix, 3)) (hw : Cond.fieldLink own ix "jdk/internal/util/Preconditions" "SIOOBE_FORMATTER" "Ljava/util/function/BiFunction;" ∈ fm_tb) (kk : ∀ v : Value, v.category = 1 → fm_J X G n F o μ ν (pc + 3) lv (v :: st)) : fm_J X G n F o μ ν pc lv st := fun r hr H locs ls hP hS hL => by
  rcases C.2.2.2.2.2.2.2.2.2.2.2.2.2.2.2.2 with h | ⟨t, h⟩
  · exact va_gets C.1 C.2.1 h hS C.2.2.2.1 (C.2.2.2.2.1 _ hw) (fun _ h => h) hd (kk .null rfl r hr H locs ls hP hS hL)
  · exact va_gets C.1 C.2.1 h hS C.2.2.2.1 (C.2.2.2.2.1 _ hw) (fun _ h => h) hd (kk (.ref t) rfl r hr H locs ls hP hS hL)
theorem fm_salen (C : fm_C X G l cc own n ret fr lo) {t : Nat} (ht : t < 5) (hd : decode cc pc = .ok (.arraylength, 1)) (kk : fm_J X G n F o μ ν (pc + 1) lv (.int (nI (fm_tl.getD t 0)) :: st)) : fm_J X G n F o μ ν pc lv (.ref (G.2.2.2.2.2 t) :: st) := fun r hr H locs ls hP hS hL =>
  va_tlen C.1 C.2.1 ((fm_zS C).1 t ht).2.2.2 hS rfl hd (kk r hr H locs ls hP hS hL)
theorem fm_sbald (C : fm_C X G l cc own n ret fr lo) {t : Nat} {i : Int32} (ht : t < 5) (hin : fm_in i (fm_tl.getD t 0) = true) (hd : decode cc pc = .ok (.baload, 1)) (kk : fm_J X G n F o μ ν (pc + 1) lv (.int ((fm_tb5.getD t []).getD i.toNatClampNeg 0) :: st)) : fm_J X G n F o μ ν pc lv (.int i :: .ref (G.2.2.2.2.2 t) :: st) := fun r hr H locs ls hP hS hL =>
  va_tb C.1 C.2.1 ((fm_zS C).1 t ht).2.2.2 hS (fm_in_vp hin) rfl hd (kk r hr H locs ls hP hS hL)
theorem fm_i2c (C : fm_C X G l cc own n ret fr lo) {x : Int32} (hd : decode cc pc = .ok (.i2c, 1)) (kk : fm_J X G n F o μ ν (pc + 1) lv (.int (x.toUInt32 % 65536).toInt32 :: st)) : fm_J X G n F o μ ν pc lv (.int x :: st) := fun r hr H locs ls hP hS hL =>
  lv_i2c C.1 C.2.1 hd rfl (kk r hr H locs ls hP hS hL)
theorem fm_cT (C : fm_C X G l cc own n ret fr lo) {y : MethodName} {cc' : ByteArray} {n' fr' lo' k ix : Nat} {ret' : Option FieldType} {As rest : List Value} {t : Nat} {r : Int32} (ht : t < 5) (hM : fm_Mi l G y cc' n' ret' fr' lo' (.ref (G.2.2.2.2.1 t) :: As) μ ν (r, μ, ν)) (ok : fm_okV y cc' n' ret' k) (hp : y.cls = "java/lang/String") (hl : Cond.methodLink own ix y ∈ fm_tb) (hd : decode cc pc = .ok (.invokevirtual ix, 3)) (hR : fr' + 1 ≤ fr ∧ 8 + (n' + 11) + lo' ≤ lo) (hk : As.length = k) (hst : st = As.reverse ++ .ref (G.2.2.2.2.1 t) :: rest) (hW : (rest.map fun v => v.category).sum ≤ 8) (kk : fm_J X G n F o μ ν (pc + 3) lv (.int r :: rest)) : fm_J X G n F o μ ν pc lv st := fun z hz H locs ls hP hS hL => by
  have hM' := hM
  unfold fm_Mi at hM'
  rw [← C.2.2.2.2.2.2.2.2.1] at hM'
  have hrc := vk_recv (fm_zS C) ht hS
  rw [← hp] at hrc
  have hrun := va_runV (As := As) (rest := rest) (cells := 0) (slots := 0) (g := F0 (fm_m X) pc ls st) (below := fm_be X) (R := X.2.2.2.1) (e := X.2.2.1) (meth := fm_me X) (locs := locs) ⟨C.1, C.2.1, C.2.2.1, C.2.2.2.1, C.2.2.2.2.1⟩ hM' (cwV k C.2.2.2.2.1 (fm_goodV ok hl) rfl rfl rfl ⟨rfl, ok.2.2.2.2⟩ (by rw [C.2.2.2.2.2.2.2.1]; exact hR)) ⟨fm_blind, hrc, fm_pre C hP hS⟩ rfl hk hL.1 hst (lv_room hW) hd ⟨Nat.zero_le _, Nat.zero_le _⟩
  refine va_calli hrun hS (fun _ _ h => h) (fun _ h => h) (fun a u t H1 locs1 ht hvm hw hB _ _ hS1 => ?_)
  obtain ⟨e1, e2⟩ := hw
  subst e1; subst e2
  exact kk z hz H1 locs1 ls (by have h2 := hB.1; rw [ht] at h2; exact h2) hS1 hL
end FMS
theorem t_J0_coder_7d493 {l : Launch} {G : fm_G} {t : Nat} {μ : fm_I} {ν : fm_L} (ht : t < 5) : fm_Mi l G yJ0_coder_7d493 cJ0_coder_7d493 1 (some .byte) 1 12 [.ref (G.2.2.2.2.1 t)] μ ν (0, μ, ν) := fm_Mi_of (by decide +kernel) (Nat.le_of_ble_eq_true rfl) (fun X C => by
  have h : fm_J X G 1 (fun r => fm_Qi X G (r, μ, ν)) (some (0 : Int32)) μ ν 0 [(0, .ref (G.2.2.2.2.1 t))] [] := by
    refine fm_sCS (pc := 0) C dJ0_coder_7d493_0 m_fl_J0_38 ?_
    refine fm_eqo (o' := if (1 : Int32) = 0 then none else some 0) rfl ?_
    refine fm_if_eq (pc := 3) (tgt := 13) C dJ0_coder_7d493_3 (by decide) (fun _ => fm_none) (fun _ => ?_)
    refine fm_aload_n (pc := 6) C dJ0_coder_7d493_6 rfl rfl ?_
    refine fm_scod (pc := 7) C ht dJ0_coder_7d493_7 m_fl_J0_15 ?_
    refine fm_goto (pc := 10) (tgt := 14) C dJ0_coder_7d493_10 (by decide) ?_
    exact fm_zret0 C rfl rfl rfl dJ0_coder_7d493_14
  exact h 0 rfl)
theorem t_J0_isLatin1_aae02 {l : Launch} {G : fm_G} {t : Nat} {μ : fm_I} {ν : fm_L} (ht : t < 5) : fm_Mi l G yJ0_isLatin1_aae02 cJ0_isLatin1_aae02 1 (some .boolean) 1 12 [.ref (G.2.2.2.2.1 t)] μ ν (1, μ, ν) := fm_Mi_of (by decide +kernel) (Nat.le_of_ble_eq_true rfl) (fun X C => by
  have h : fm_J X G 1 (fun r => fm_Qi X G (r, μ, ν)) (some (1 : Int32)) μ ν 0 [(0, .ref (G.2.2.2.2.1 t))] [] := by
    refine fm_sCS (pc := 0) C dJ0_isLatin1_aae02_0 m_fl_J0_38 ?_
    refine fm_eqo (o' := if (1 : Int32) = 0 then none else some 1) rfl ?_
    refine fm_if_eq (pc := 3) (tgt := 17) C dJ0_isLatin1_aae02_3 (by decide) (fun _ => fm_none) (fun _ => ?_)
    refine fm_aload_n (pc := 6) C dJ0_isLatin1_aae02_6 rfl rfl ?_
    refine fm_scod (pc := 7) C ht dJ0_isLatin1_aae02_7 m_fl_J0_15 ?_
    refine fm_eqo (o' := if (0 : Int32) = 0 then some 1 else none) rfl ?_
    refine fm_if_ne (pc := 10) (tgt := 17) C dJ0_isLatin1_aae02_10 (by decide) (fun _ => ?_) (fun _ => fm_none)
    refine fm_iconst (pc := 13) (v := 1) C dJ0_isLatin1_aae02_13 (by decide) ?_
    refine fm_goto (pc := 14) (tgt := 18) C dJ0_isLatin1_aae02_14 (by decide) ?_
    exact fm_zret0 C rfl rfl rfl dJ0_isLatin1_aae02_18
  exact h 1 rfl)
theorem fm_tl31 {t : Nat} (ht : t < 5) : fm_tl.getD t 0 < 2 ^ 31 := by
  have key : ∀ q, q < 5 → fm_tl.getD q 0 < 2 ^ 31 := by decide
  exact key t ht
theorem t_J0_length_8abf5 {l : Launch} {G : fm_G} {t : Nat} {μ : fm_I} {ν : fm_L} (ht : t < 5) : fm_Mi l G yJ0_length_8abf5 cJ0_length_8abf5 1 (some .int) 4 80 [.ref (G.2.2.2.2.1 t)] μ ν (nI (fm_tl.getD t 0), μ, ν) := fm_Mi_of (by decide +kernel) (Nat.le_of_ble_eq_true rfl) (fun X C => by
  have h : fm_J X G 1 (fun r => fm_Qi X G (r, μ, ν)) (some (nI (fm_tl.getD t 0))) μ ν 0 [(0, .ref (G.2.2.2.2.1 t))] [] := by
    refine fm_aload_n (pc := 0) C dJ0_length_8abf5_0 rfl rfl ?_
    refine fm_sval (pc := 1) C ht dJ0_length_8abf5_1 m_fl_J0_9 ?_
    refine fm_salen (pc := 4) C ht dJ0_length_8abf5_4 ?_
    refine fm_aload_n (pc := 5) C dJ0_length_8abf5_5 rfl rfl ?_
    refine fm_cT (pc := 6) C ht (t_J0_coder_7d493 ht) ok_J0_coder_7d493 rfl m_ml_J0_335 dJ0_length_8abf5_6 ⟨Nat.le_of_ble_eq_true rfl, Nat.le_of_ble_eq_true rfl⟩ rfl rfl (Nat.le_of_ble_eq_true rfl) ?_
    refine fm_ishr (pc := 9) C dJ0_length_8abf5_9 ?_
    rw [sc_shr0 (fm_tl31 ht)]
    exact fm_zret0 C rfl rfl rfl dJ0_length_8abf5_10
  exact h _ rfl)
theorem t_J3_checkIndex_8e157 {l : Launch} {G : fm_G} {i m : Int32} {v : Value} {μ : fm_I} {ν : fm_L} (h1 : ¬ i < 0) (h2 : i < m) (hv : v.category = 1) (hlen : (lg_sl [.int i, .int m, v]).length ≤ 3) (hlv : lv_args 0 [.int i, .int m, v] = [(0, .int i), (1, .int m), (2, v)]) : fm_Mi l G yJ3_checkIndex_8e157 cJ3_checkIndex_8e157 3 (some .int) 1 12 [.int i, .int m, v] μ ν (i, μ, ν) := fm_Mi_of (by decide +kernel) hlen (fun X C => by
  rw [hlv]
  have h : fm_J X G 3 (fun r => fm_Qi X G (r, μ, ν)) (some i) μ ν 0 [(0, .int i), (1, .int m), (2, v)] [] := by
    refine fm_iload_n (pc := 0) C dJ3_checkIndex_8e157_0 rfl rfl ?_
    refine fm_eqo (o' := if i < 0 then none else some i) (by rw [if_neg h1]) ?_
    refine fm_if_lt (pc := 1) (tgt := 9) C dJ3_checkIndex_8e157_1 (by decide) (fun _ => fm_none) (fun _ => ?_)
    refine fm_iload_n (pc := 4) C dJ3_checkIndex_8e157_4 rfl rfl ?_
    refine fm_iload_n (pc := 5) C dJ3_checkIndex_8e157_5 rfl rfl ?_
    refine fm_eqo (o' := if i < m then some i else none) (by rw [if_pos h2]) ?_
    refine fm_icmp_lt (pc := 6) (tgt := 16) C dJ3_checkIndex_8e157_6 (by decide) (fun _ => ?_) (fun _ => fm_none)
    refine fm_iload_n (pc := 16) C dJ3_checkIndex_8e157_16 rfl rfl ?_
    exact fm_zret0 C rfl rfl rfl dJ3_checkIndex_8e157_17
  exact h _ rfl)
theorem t_J0_checkIndex_df160 {l : Launch} {G : fm_G} {i m : Int32} {μ : fm_I} {ν : fm_L} (h1 : ¬ i < 0) (h2 : i < m) : fm_Mv l G yJ0_checkIndex_df160 cJ0_checkIndex_df160 2 none 2 40 [.int i, .int m] μ ν (μ, ν) := fm_Mv_of (by decide +kernel) (Nat.le_of_ble_eq_true rfl) (fun X C => by
  have h : fm_J X G 2 (fm_Qv X G) (some (μ, ν)) μ ν 0 [(0, .int i), (1, .int m)] [] := by
    refine fm_iload_n (pc := 0) C dJ0_checkIndex_df160_0 rfl rfl ?_
    refine fm_iload_n (pc := 1) C dJ0_checkIndex_df160_1 rfl rfl ?_
    refine fm_sFM (pc := 2) C dJ0_checkIndex_df160_2 m_fl_J0_1053 (fun v hv => ?_)
    refine fm_cSi0 (pc := 5) (As := [.int i, .int m, v]) (rest := []) C (t_J3_checkIndex_8e157 h1 h2 hv (by cases v <;> first | exact Nat.le_of_ble_eq_true rfl | cases hv) (by cases v <;> rfl)) ok_J3_checkIndex_8e157 m_ml_J0_1059 dJ0_checkIndex_df160_5 ⟨Nat.le_of_ble_eq_true rfl, Nat.le_of_ble_eq_true rfl⟩ rfl rfl (Nat.le_of_ble_eq_true rfl) ?_
    refine fm_pop (pc := 8) C dJ0_checkIndex_df160_8 rfl ?_
    exact fm_vret C rfl rfl dJ0_checkIndex_df160_9
  exact h _ rfl)
theorem t_J1_charAt_3b067 {l : Launch} {G : fm_G} {t : Nat} {i : Int32} {μ : fm_I} {ν : fm_L} (ht : t < 5) (hi : fm_in i (fm_tl.getD t 0) = true) : fm_Mi l G yJ1_charAt_3b067 cJ1_charAt_3b067 2 (some .char) 3 80 [.ref (G.2.2.2.2.2 t), .int i] μ ν (fm_ch t i.toNatClampNeg, μ, ν) := fm_Mi_of (by decide +kernel) (Nat.le_of_ble_eq_true rfl) (fun X C => by
  have hv := vp_in_iff.mp (fm_in_vp hi)
  have h1 : ¬ i < 0 := by rw [Int32.lt_iff_toInt_lt, Int32.toInt_zero]; omega
  have h2 : i < nI (fm_tl.getD t 0) := by rw [Int32.lt_iff_toInt_lt, nI_toInt (fm_tl31 ht)]; omega
  have h : fm_J X G 2 (fun r => fm_Qi X G (r, μ, ν)) (some (fm_ch t i.toNatClampNeg)) μ ν 0 [(0, .ref (G.2.2.2.2.2 t)), (1, .int i)] [] := by
    refine fm_iload_n (pc := 0) C dJ1_charAt_3b067_0 rfl rfl ?_
    refine fm_aload_n (pc := 1) C dJ1_charAt_3b067_1 rfl rfl ?_
    refine fm_salen (pc := 2) C ht dJ1_charAt_3b067_2 ?_
    refine fm_cSv (pc := 3) (As := [.int i, .int (nI (fm_tl.getD t 0))]) (rest := []) C (t_J0_checkIndex_df160 h1 h2) ok_J0_checkIndex_df160 m_ml_J1_9 dJ1_charAt_3b067_3 ⟨Nat.le_of_ble_eq_true rfl, Nat.le_of_ble_eq_true rfl⟩ rfl rfl (Nat.le_of_ble_eq_true rfl) ?_
    refine fm_aload_n (pc := 6) C dJ1_charAt_3b067_6 rfl rfl ?_
    refine fm_iload_n (pc := 7) C dJ1_charAt_3b067_7 rfl rfl ?_
    refine fm_sbald (pc := 8) C ht hi dJ1_charAt_3b067_8 ?_
    refine fm_sipush (pc := 9) (v := 255) C dJ1_charAt_3b067_9 (by decide) ?_
    refine fm_iand (pc := 12) C dJ1_charAt_3b067_12 ?_
    refine fm_i2c (pc := 13) C dJ1_charAt_3b067_13 ?_
    rw [sc_c2]
    exact fm_zret0 C rfl rfl (sc_nar _) dJ1_charAt_3b067_14
  exact h _ rfl)
theorem t_J0_charAt_5068e {l : Launch} {G : fm_G} {t : Nat} {i : Int32} {μ : fm_I} {ν : fm_L} (ht : t < 5) (hi : fm_in i (fm_tl.getD t 0) = true) : fm_Mi l G yJ0_charAt_5068e cJ0_charAt_5068e 2 (some .char) 8 240 [.ref (G.2.2.2.2.1 t), .int i] μ ν (fm_ch t i.toNatClampNeg, μ, ν) := fm_Mi_of (by decide +kernel) (Nat.le_of_ble_eq_true rfl) (fun X C => by
  have h : fm_J X G 2 (fun r => fm_Qi X G (r, μ, ν)) (some (fm_ch t i.toNatClampNeg)) μ ν 0 [(0, .ref (G.2.2.2.2.1 t)), (1, .int i)] [] := by
    refine fm_aload_n (pc := 0) C dJ0_charAt_5068e_0 rfl rfl ?_
    refine fm_cT (pc := 1) C ht (t_J0_isLatin1_aae02 ht) ok_J0_isLatin1_aae02 rfl m_ml_J0_492 dJ0_charAt_5068e_1 ⟨Nat.le_of_ble_eq_true rfl, Nat.le_of_ble_eq_true rfl⟩ rfl rfl (Nat.le_of_ble_eq_true rfl) ?_
    refine fm_eqo (o' := if (1 : Int32) = 0 then none else some (fm_ch t i.toNatClampNeg)) rfl ?_
    refine fm_if_eq (pc := 4) (tgt := 16) C dJ0_charAt_5068e_4 (by decide) (fun _ => fm_none) (fun _ => ?_)
    refine fm_aload_n (pc := 7) C dJ0_charAt_5068e_7 rfl rfl ?_
    refine fm_sval (pc := 8) C ht dJ0_charAt_5068e_8 m_fl_J0_9 ?_
    refine fm_iload_n (pc := 11) C dJ0_charAt_5068e_11 rfl rfl ?_
    refine fm_cSi0 (pc := 12) (As := [.ref (G.2.2.2.2.2 t), .int i]) (rest := []) C (t_J1_charAt_3b067 ht hi) ok_J1_charAt_3b067 m_ml_J0_495 dJ0_charAt_5068e_12 ⟨Nat.le_of_ble_eq_true rfl, Nat.le_of_ble_eq_true rfl⟩ rfl rfl (Nat.le_of_ble_eq_true rfl) ?_
    exact fm_zret0 C rfl rfl (sc_nar _) dJ0_charAt_5068e_15
  exact h _ rfl)
section FMT
variable {ρ : Type} {X : fm_X} {G : fm_G} {l : Launch} {cc : ByteArray} {own : String} {n : Nat} {ret : Option FieldType} {fr lo : Nat} {F : ρ → State → Prop} {o : Option ρ} {μ : fm_I} {ν : fm_L} {pc : Nat} {lv : List (Nat × Value)} {st : List Value}
theorem fm_slen (C : fm_C X G l cc own n ret fr lo) {t ix : Nat} (ht : Nat.blt t 5 = true) (hl : Cond.methodLink own ix yJ0_length_8abf5 ∈ fm_tb) (hd : decode cc pc = .ok (.invokevirtual ix, 3)) (hR : 4 + 1 ≤ fr ∧ 8 + (1 + 11) + 80 ≤ lo) (hW : (st.map fun v => v.category).sum ≤ 8) (kk : fm_J X G n F o μ ν (pc + 3) lv (.int (nI (fm_tl.getD t 0)) :: st)) : fm_J X G n F o μ ν pc lv (.ref (G.2.2.2.2.1 t) :: st) :=
  fm_cT (As := []) C (Nat.le_of_ble_eq_true ht) (t_J0_length_8abf5 (Nat.le_of_ble_eq_true ht)) ok_J0_length_8abf5 rfl hl hd hR rfl rfl hW kk
theorem fm_schar (C : fm_C X G l cc own n ret fr lo) {t ix : Nat} {i : Int32} (h : (Nat.blt t 5 && fm_in i (fm_tl.getD t 0)) = true) (hl : Cond.methodLink own ix yJ0_charAt_5068e ∈ fm_tb) (hd : decode cc pc = .ok (.invokevirtual ix, 3)) (hR : 8 + 1 ≤ fr ∧ 8 + (2 + 11) + 240 ≤ lo) (hW : (st.map fun v => v.category).sum ≤ 8) (kk : fm_J X G n F o μ ν (pc + 3) lv (.int (fm_ch t i.toNatClampNeg) :: st)) : fm_J X G n F o μ ν pc lv (.int i :: .ref (G.2.2.2.2.1 t) :: st) := by
  rw [Bool.and_eq_true] at h
  exact fm_cT (As := [.int i]) C (Nat.le_of_ble_eq_true h.1) (t_J0_charAt_5068e (Nat.le_of_ble_eq_true h.1) h.2) ok_J0_charAt_5068e rfl hl hd hR rfl rfl hW kk
end FMT
