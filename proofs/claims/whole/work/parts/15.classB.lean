theorem dX5_crossings_0 : decode cX5_crossings 0 = .ok (.aload_n 0, 1) := by decide +kernel
theorem dX5_crossings_1 : decode cX5_crossings 1 = .ok (.iload_n 1, 1) := by decide +kernel
theorem dX5_crossings_2 : decode cX5_crossings 2 = .ok (.invokevirtual 112, 3) := by decide +kernel
theorem dX5_crossings_5 : decode cX5_crossings 5 = .ok (.astore 4, 2) := by decide +kernel
theorem dX5_crossings_7 : decode cX5_crossings 7 = .ok (.aload 4, 2) := by decide +kernel
theorem dX5_crossings_9 : decode cX5_crossings 9 = .ok (.ifnull 21, 3) := by decide +kernel
theorem dX5_crossings_12 : decode cX5_crossings 12 = .ok (.aload 4, 2) := by decide +kernel
theorem dX5_crossings_14 : decode cX5_crossings 14 = .ok (.iload_n 2, 1) := by decide +kernel
theorem dX5_crossings_15 : decode cX5_crossings 15 = .ok (.invokevirtual 163, 3) := by decide +kernel
theorem dX5_crossings_18 : decode cX5_crossings 18 = .ok (.ifCond .eq 12, 3) := by decide +kernel
theorem dX5_crossings_21 : decode cX5_crossings 21 = .ok (.aload 4, 2) := by decide +kernel
theorem dX5_crossings_23 : decode cX5_crossings 23 = .ok (.iload_n 3, 1) := by decide +kernel
theorem dX5_crossings_24 : decode cX5_crossings 24 = .ok (.invokevirtual 163, 3) := by decide +kernel
theorem dX5_crossings_27 : decode cX5_crossings 27 = .ok (.ifCond .ne 11, 3) := by decide +kernel
theorem dX5_crossings_30 : decode cX5_crossings 30 = .ok (.aload_n 0, 1) := by decide +kernel
theorem dX5_crossings_31 : decode cX5_crossings 31 = .ok (.ldc 217, 2) := by decide +kernel
theorem dX5_crossings_33 : decode cX5_crossings 33 = .ok (.iconst 1, 1) := by decide +kernel
theorem dX5_crossings_34 : decode cX5_crossings 34 = .ok (.invokevirtual 218, 3) := by decide +kernel
theorem dX5_crossings_37 : decode cX5_crossings 37 = .ok (.ireturn, 1) := by decide +kernel
theorem dX5_crossings_38 : decode cX5_crossings 38 = .ok (.iload_n 2, 1) := by decide +kernel
theorem dX5_crossings_39 : decode cX5_crossings 39 = .ok (.iload_n 3, 1) := by decide +kernel
theorem dX5_crossings_40 : decode cX5_crossings 40 = .ok (.if_icmp .ne 12, 3) := by decide +kernel
theorem dX5_crossings_43 : decode cX5_crossings 43 = .ok (.aload_n 0, 1) := by decide +kernel
theorem dX5_crossings_44 : decode cX5_crossings 44 = .ok (.ldc 217, 2) := by decide +kernel
theorem dX5_crossings_46 : decode cX5_crossings 46 = .ok (.bipush 6, 2) := by decide +kernel
theorem dX5_crossings_48 : decode cX5_crossings 48 = .ok (.invokevirtual 218, 3) := by decide +kernel
theorem dX5_crossings_51 : decode cX5_crossings 51 = .ok (.ireturn, 1) := by decide +kernel
theorem dX5_crossings_52 : decode cX5_crossings 52 = .ok (.aload_n 0, 1) := by decide +kernel
theorem dX5_crossings_53 : decode cX5_crossings 53 = .ok (.aload 4, 2) := by decide +kernel
theorem dX5_crossings_55 : decode cX5_crossings 55 = .ok (.invokevirtual 192, 3) := by decide +kernel
theorem dX5_crossings_58 : decode cX5_crossings 58 = .ok (.iload_n 2, 1) := by decide +kernel
theorem dX5_crossings_59 : decode cX5_crossings 59 = .ok (.iload_n 3, 1) := by decide +kernel
theorem dX5_crossings_60 : decode cX5_crossings 60 = .ok (.invokevirtual 221, 3) := by decide +kernel
theorem dX5_crossings_63 : decode cX5_crossings 63 = .ok (.ireturn, 1) := by decide +kernel
def m_X5_crossings (v1 : Int32) (v2 : Int32) (v3 : Int32) (μ : fm_I) (ν : fm_L) : Option (Int32 × fm_I × fm_L) :=
  (m_X5_bandAt v1 μ ν).bind (fun r2 => fm_o r2 ((m_X5_refuseOffBy ((nI 1000000)) ((nI 1)) μ ν).bind (fun r34 => some ((r34.1, r34.2.1, r34.2.2)))) (fun y2 => fm_g (Nat.beq (fm_k y2) 0) ((m_X0_hasStrip y2 v2 μ ν).bind (fun r15 => if r15 = 0 then (m_X5_refuseOffBy ((nI 1000000)) ((nI 1)) μ ν).bind (fun r34 => some ((r34.1, r34.2.1, r34.2.2))) else (m_X0_hasStrip y2 v3 μ ν).bind (fun r24 => if r24 = 0 then (m_X5_refuseOffBy ((nI 1000000)) ((nI 1)) μ ν).bind (fun r34 => some ((r34.1, r34.2.1, r34.2.2))) else if v2 = v3 then (m_X5_refuseOffBy ((nI 1000000)) ((nI 6)) μ ν).bind (fun r48 => some ((r48.1, r48.2.1, r48.2.2))) else (m_X5_laid y2 μ ν).bind (fun r55 => (m_X1_crossing v2 v3 r55.1 r55.2).bind (fun r60 => some ((r60, r55.1, r55.2)))))))))
theorem ok_X5_crossings : fm_okV yX5_crossings cX5_crossings 5 (some .int) 3 := ⟨m_cd_X5_crossings, m_im_X5_crossings, m_se_X5_X5_crossings, m_ini_X5, by decide +kernel, by decide +kernel, by decide +kernel⟩
set_option maxHeartbeats 4000000 in
set_option maxRecDepth 100000 in
theorem j_X5_crossings {X : fm_X} {G : fm_G} {l : Launch} {v1 : Int32} {v2 : Int32} {v3 : Int32} {μ : fm_I} {ν : fm_L} (C : fm_C X G l cX5_crossings RX5 5 (some .int) 5 106) {F : (Int32 × fm_I × fm_L) → State → Prop} (hF : F = fm_Qi X G) : fm_J X G 5 F (m_X5_crossings v1 v2 v3 μ ν) μ ν 0 [(0, .ref (G.2.2.1 0)), (1, .int v1), (2, .int v2), (3, .int v3)] [] := by
  unfold m_X5_crossings
  refine fm_aload_n (pc := 0) C dX5_crossings_0 rfl rfl ?_
  refine fm_iload_n (pc := 1) C dX5_crossings_1 rfl rfl ?_
  refine fm_bind (fun r2 e2 => ?_)
  refine fm_cVq0 (pc := 2) C (t_X5_bandAt e2) ok_X5_bandAt ⟨by decide, rfl⟩ m_ml_X5_112 dX5_crossings_2 ⟨Nat.le_of_ble_eq_true rfl, Nat.le_of_ble_eq_true rfl⟩ rfl rfl (Nat.le_of_ble_eq_true rfl) ?_
  refine fm_opt (fun e2 => ?_) (fun y2 e2 => ?_)
  · subst e2
    refine fm_astoreq (x := none) (pc := 5) C dX5_crossings_5 (by decide) rfl ?_
    refine fm_aloadq (x := none) (pc := 7) C dX5_crossings_7 rfl ?_
    refine fm_ifnullN (pc := 9) (tgt := 30) C dX5_crossings_9 (by decide) ?_
    refine fm_aload_n (pc := 30) C dX5_crossings_30 rfl rfl ?_
    refine fm_ldc (pc := 31) (v := (nI 1000000)) C dX5_crossings_31 m_ct_X5_217 ?_
    refine fm_iconst (pc := 33) (v := (nI 1)) C dX5_crossings_33 (by decide) ?_
    refine fm_bind (fun r34 e34 => ?_)
    refine fm_cVi (pc := 34) C (t_X5_refuseOffBy e34) ok_X5_refuseOffBy ⟨by decide, rfl⟩ m_ml_X5_218 dX5_crossings_34 ⟨Nat.le_of_ble_eq_true rfl, Nat.le_of_ble_eq_true rfl⟩ rfl rfl (Nat.le_of_ble_eq_true rfl) ?_
    exact fm_zret (pc := 37) C hF rfl rfl dX5_crossings_37
  · subst e2
    refine fm_astore (pc := 5) C dX5_crossings_5 (by decide) rfl ?_
    refine fm_aload (pc := 7) C dX5_crossings_7 rfl ?_
    refine fm_ifnullR (pc := 9) C dX5_crossings_9 ?_
    refine fm_aload (pc := 12) C dX5_crossings_12 rfl ?_
    refine fm_iload_n (pc := 14) C dX5_crossings_14 rfl rfl ?_
    refine fm_guard (fun h1 => ?_)
    refine fm_bind (fun r15 e15 => ?_)
    refine fm_cVi0 (pc := 15) C (t_X0_hasStrip e15) ok_X0_hasStrip (fm_kcn0 (Nat.eq_of_beq_eq_true h1)) m_ml_X5_163 dX5_crossings_15 ⟨Nat.le_of_ble_eq_true rfl, Nat.le_of_ble_eq_true rfl⟩ rfl rfl (Nat.le_of_ble_eq_true rfl) ?_
    refine fm_if_eq (pc := 18) (tgt := 30) C dX5_crossings_18 (by decide) (fun c2 => ?_) (fun c2 => ?_)
    · refine fm_aload_n (pc := 30) C dX5_crossings_30 rfl rfl ?_
      refine fm_ldc (pc := 31) (v := (nI 1000000)) C dX5_crossings_31 m_ct_X5_217 ?_
      refine fm_iconst (pc := 33) (v := (nI 1)) C dX5_crossings_33 (by decide) ?_
      refine fm_bind (fun r34 e34 => ?_)
      refine fm_cVi (pc := 34) C (t_X5_refuseOffBy e34) ok_X5_refuseOffBy ⟨by decide, rfl⟩ m_ml_X5_218 dX5_crossings_34 ⟨Nat.le_of_ble_eq_true rfl, Nat.le_of_ble_eq_true rfl⟩ rfl rfl (Nat.le_of_ble_eq_true rfl) ?_
      exact fm_zret (pc := 37) C hF rfl rfl dX5_crossings_37
    · refine fm_aload (pc := 21) C dX5_crossings_21 rfl ?_
      refine fm_iload_n (pc := 23) C dX5_crossings_23 rfl rfl ?_
      refine fm_bind (fun r24 e24 => ?_)
      refine fm_cVi0 (pc := 24) C (t_X0_hasStrip e24) ok_X0_hasStrip (fm_kcn0 (Nat.eq_of_beq_eq_true h1)) m_ml_X5_163 dX5_crossings_24 ⟨Nat.le_of_ble_eq_true rfl, Nat.le_of_ble_eq_true rfl⟩ rfl rfl (Nat.le_of_ble_eq_true rfl) ?_
      refine fm_if_ne (pc := 27) (tgt := 38) C dX5_crossings_27 (by decide) (fun c3 => ?_) (fun c3 => ?_)
      · refine fm_aload_n (pc := 30) C dX5_crossings_30 rfl rfl ?_
        refine fm_ldc (pc := 31) (v := (nI 1000000)) C dX5_crossings_31 m_ct_X5_217 ?_
        refine fm_iconst (pc := 33) (v := (nI 1)) C dX5_crossings_33 (by decide) ?_
        refine fm_bind (fun r34 e34 => ?_)
        refine fm_cVi (pc := 34) C (t_X5_refuseOffBy e34) ok_X5_refuseOffBy ⟨by decide, rfl⟩ m_ml_X5_218 dX5_crossings_34 ⟨Nat.le_of_ble_eq_true rfl, Nat.le_of_ble_eq_true rfl⟩ rfl rfl (Nat.le_of_ble_eq_true rfl) ?_
        exact fm_zret (pc := 37) C hF rfl rfl dX5_crossings_37
      · refine fm_iload_n (pc := 38) C dX5_crossings_38 rfl rfl ?_
        refine fm_iload_n (pc := 39) C dX5_crossings_39 rfl rfl ?_
        refine fm_icmp_ne (pc := 40) (tgt := 52) C dX5_crossings_40 (by decide) (fun c4 => ?_) (fun c4 => ?_)
        · refine fm_aload_n (pc := 43) C dX5_crossings_43 rfl rfl ?_
          refine fm_ldc (pc := 44) (v := (nI 1000000)) C dX5_crossings_44 m_ct_X5_217 ?_
          refine fm_bipush (pc := 46) (v := (nI 6)) C dX5_crossings_46 (by decide) ?_
          refine fm_bind (fun r48 e48 => ?_)
          refine fm_cVi (pc := 48) C (t_X5_refuseOffBy e48) ok_X5_refuseOffBy ⟨by decide, rfl⟩ m_ml_X5_218 dX5_crossings_48 ⟨Nat.le_of_ble_eq_true rfl, Nat.le_of_ble_eq_true rfl⟩ rfl rfl (Nat.le_of_ble_eq_true rfl) ?_
          exact fm_zret (pc := 51) C hF rfl rfl dX5_crossings_51
        · refine fm_aload_n (pc := 52) C dX5_crossings_52 rfl rfl ?_
          refine fm_aload (pc := 53) C dX5_crossings_53 rfl ?_
          refine fm_bind (fun r55 e55 => ?_)
          refine fm_cVqc (pc := 55) C (t_X5_laid e55) ok_X5_laid ⟨by decide, rfl⟩ m_ml_X5_192 dX5_crossings_55 ⟨Nat.le_of_ble_eq_true rfl, Nat.le_of_ble_eq_true rfl⟩ rfl rfl (Nat.le_of_ble_eq_true rfl) ?_
          refine fm_iload_n (pc := 58) C dX5_crossings_58 rfl rfl ?_
          refine fm_iload_n (pc := 59) C dX5_crossings_59 rfl rfl ?_
          refine fm_bind (fun r60 e60 => ?_)
          refine fm_cVi0 (pc := 60) C (t_X1_crossing e60) ok_X1_crossing ⟨by decide, rfl⟩ m_ml_X5_221 dX5_crossings_60 ⟨Nat.le_of_ble_eq_true rfl, Nat.le_of_ble_eq_true rfl⟩ rfl rfl (Nat.le_of_ble_eq_true rfl) ?_
          exact fm_zret (pc := 63) C hF rfl rfl dX5_crossings_63
theorem t_X5_crossings {l : Launch} {G : fm_G} {v1 : Int32} {v2 : Int32} {v3 : Int32} {μ : fm_I} {ν : fm_L} {r : Int32 × fm_I × fm_L} (h : m_X5_crossings v1 v2 v3 μ ν = some r) : fm_Mi l G yX5_crossings cX5_crossings 5 (some .int) 5 106 [.ref (G.2.2.1 0), .int v1, .int v2, .int v3] μ ν r := fm_Mi_of (by decide +kernel) (Nat.le_of_ble_eq_true rfl) (fun _ C => j_X5_crossings C rfl r h)
theorem dX5_hooks_0 : decode cX5_hooks 0 = .ok (.aload_n 0, 1) := by decide +kernel
theorem dX5_hooks_1 : decode cX5_hooks 1 = .ok (.iload_n 1, 1) := by decide +kernel
theorem dX5_hooks_2 : decode cX5_hooks 2 = .ok (.invokevirtual 112, 3) := by decide +kernel
theorem dX5_hooks_5 : decode cX5_hooks 5 = .ok (.astore 4, 2) := by decide +kernel
theorem dX5_hooks_7 : decode cX5_hooks 7 = .ok (.aload 4, 2) := by decide +kernel
theorem dX5_hooks_9 : decode cX5_hooks 9 = .ok (.ifnull 27, 3) := by decide +kernel
theorem dX5_hooks_12 : decode cX5_hooks 12 = .ok (.aload_n 0, 1) := by decide +kernel
theorem dX5_hooks_13 : decode cX5_hooks 13 = .ok (.aload 4, 2) := by decide +kernel
theorem dX5_hooks_15 : decode cX5_hooks 15 = .ok (.invokevirtual 192, 3) := by decide +kernel
theorem dX5_hooks_18 : decode cX5_hooks 18 = .ok (.iload_n 2, 1) := by decide +kernel
theorem dX5_hooks_19 : decode cX5_hooks 19 = .ok (.invokevirtual 199, 3) := by decide +kernel
theorem dX5_hooks_22 : decode cX5_hooks 22 = .ok (.ifCond .eq 14, 3) := by decide +kernel
theorem dX5_hooks_25 : decode cX5_hooks 25 = .ok (.aload_n 0, 1) := by decide +kernel
theorem dX5_hooks_26 : decode cX5_hooks 26 = .ok (.getfield 31, 3) := by decide +kernel
theorem dX5_hooks_29 : decode cX5_hooks 29 = .ok (.iload_n 3, 1) := by decide +kernel
theorem dX5_hooks_30 : decode cX5_hooks 30 = .ok (.invokevirtual 199, 3) := by decide +kernel
theorem dX5_hooks_33 : decode cX5_hooks 33 = .ok (.ifCond .ne 11, 3) := by decide +kernel
theorem dX5_hooks_36 : decode cX5_hooks 36 = .ok (.aload_n 0, 1) := by decide +kernel
theorem dX5_hooks_37 : decode cX5_hooks 37 = .ok (.ldc 217, 2) := by decide +kernel
theorem dX5_hooks_39 : decode cX5_hooks 39 = .ok (.iconst 1, 1) := by decide +kernel
theorem dX5_hooks_40 : decode cX5_hooks 40 = .ok (.invokevirtual 218, 3) := by decide +kernel
theorem dX5_hooks_43 : decode cX5_hooks 43 = .ok (.ireturn, 1) := by decide +kernel
theorem dX5_hooks_44 : decode cX5_hooks 44 = .ok (.iload_n 2, 1) := by decide +kernel
theorem dX5_hooks_45 : decode cX5_hooks 45 = .ok (.iload_n 3, 1) := by decide +kernel
theorem dX5_hooks_46 : decode cX5_hooks 46 = .ok (.if_icmp .ne 12, 3) := by decide +kernel
theorem dX5_hooks_49 : decode cX5_hooks 49 = .ok (.aload_n 0, 1) := by decide +kernel
theorem dX5_hooks_50 : decode cX5_hooks 50 = .ok (.ldc 217, 2) := by decide +kernel
theorem dX5_hooks_52 : decode cX5_hooks 52 = .ok (.bipush 6, 2) := by decide +kernel
theorem dX5_hooks_54 : decode cX5_hooks 54 = .ok (.invokevirtual 218, 3) := by decide +kernel
theorem dX5_hooks_57 : decode cX5_hooks 57 = .ok (.ireturn, 1) := by decide +kernel
theorem dX5_hooks_58 : decode cX5_hooks 58 = .ok (.aload_n 0, 1) := by decide +kernel
theorem dX5_hooks_59 : decode cX5_hooks 59 = .ok (.getfield 31, 3) := by decide +kernel
theorem dX5_hooks_62 : decode cX5_hooks 62 = .ok (.iload_n 2, 1) := by decide +kernel
theorem dX5_hooks_63 : decode cX5_hooks 63 = .ok (.iload_n 3, 1) := by decide +kernel
theorem dX5_hooks_64 : decode cX5_hooks 64 = .ok (.invokevirtual 224, 3) := by decide +kernel
theorem dX5_hooks_67 : decode cX5_hooks 67 = .ok (.ireturn, 1) := by decide +kernel
def m_X5_hooks (v1 : Int32) (v2 : Int32) (v3 : Int32) (μ : fm_I) (ν : fm_L) : Option (Int32 × fm_I × fm_L) :=
  (m_X5_bandAt v1 μ ν).bind (fun r2 => fm_o r2 ((m_X5_refuseOffBy ((nI 1000000)) ((nI 1)) μ ν).bind (fun r40 => some ((r40.1, r40.2.1, r40.2.2)))) (fun y2 => (m_X5_laid y2 μ ν).bind (fun r15 => (m_X1_hasPiece v2 r15.1 r15.2).bind (fun r19 => if r19 = 0 then (m_X5_refuseOffBy ((nI 1000000)) ((nI 1)) r15.1 r15.2).bind (fun r40 => some ((r40.1, r40.2.1, r40.2.2))) else (m_X1_hasPiece v3 r15.1 r15.2).bind (fun r30 => if r30 = 0 then (m_X5_refuseOffBy ((nI 1000000)) ((nI 1)) r15.1 r15.2).bind (fun r40 => some ((r40.1, r40.2.1, r40.2.2))) else if v2 = v3 then (m_X5_refuseOffBy ((nI 1000000)) ((nI 6)) r15.1 r15.2).bind (fun r54 => some ((r54.1, r54.2.1, r54.2.2))) else (m_X1_hooksBetween v2 v3 r15.1 r15.2).bind (fun r64 => some ((r64.1, r64.2.1, r64.2.2))))))))
theorem ok_X5_hooks : fm_okV yX5_hooks cX5_hooks 5 (some .int) 3 := ⟨m_cd_X5_hooks, m_im_X5_hooks, m_se_X5_X5_hooks, m_ini_X5, by decide +kernel, by decide +kernel, by decide +kernel⟩
set_option maxHeartbeats 4000000 in
set_option maxRecDepth 100000 in
theorem j_X5_hooks {X : fm_X} {G : fm_G} {l : Launch} {v1 : Int32} {v2 : Int32} {v3 : Int32} {μ : fm_I} {ν : fm_L} (C : fm_C X G l cX5_hooks RX5 5 (some .int) 5 110) {F : (Int32 × fm_I × fm_L) → State → Prop} (hF : F = fm_Qi X G) : fm_J X G 5 F (m_X5_hooks v1 v2 v3 μ ν) μ ν 0 [(0, .ref (G.2.2.1 0)), (1, .int v1), (2, .int v2), (3, .int v3)] [] := by
  unfold m_X5_hooks
  refine fm_aload_n (pc := 0) C dX5_hooks_0 rfl rfl ?_
  refine fm_iload_n (pc := 1) C dX5_hooks_1 rfl rfl ?_
  refine fm_bind (fun r2 e2 => ?_)
  refine fm_cVq0 (pc := 2) C (t_X5_bandAt e2) ok_X5_bandAt ⟨by decide, rfl⟩ m_ml_X5_112 dX5_hooks_2 ⟨Nat.le_of_ble_eq_true rfl, Nat.le_of_ble_eq_true rfl⟩ rfl rfl (Nat.le_of_ble_eq_true rfl) ?_
  refine fm_opt (fun e2 => ?_) (fun y2 e2 => ?_)
  · subst e2
    refine fm_astoreq (x := none) (pc := 5) C dX5_hooks_5 (by decide) rfl ?_
    refine fm_aloadq (x := none) (pc := 7) C dX5_hooks_7 rfl ?_
    refine fm_ifnullN (pc := 9) (tgt := 36) C dX5_hooks_9 (by decide) ?_
    refine fm_aload_n (pc := 36) C dX5_hooks_36 rfl rfl ?_
    refine fm_ldc (pc := 37) (v := (nI 1000000)) C dX5_hooks_37 m_ct_X5_217 ?_
    refine fm_iconst (pc := 39) (v := (nI 1)) C dX5_hooks_39 (by decide) ?_
    refine fm_bind (fun r40 e40 => ?_)
    refine fm_cVi (pc := 40) C (t_X5_refuseOffBy e40) ok_X5_refuseOffBy ⟨by decide, rfl⟩ m_ml_X5_218 dX5_hooks_40 ⟨Nat.le_of_ble_eq_true rfl, Nat.le_of_ble_eq_true rfl⟩ rfl rfl (Nat.le_of_ble_eq_true rfl) ?_
    exact fm_zret (pc := 43) C hF rfl rfl dX5_hooks_43
  · subst e2
    refine fm_astore (pc := 5) C dX5_hooks_5 (by decide) rfl ?_
    refine fm_aload (pc := 7) C dX5_hooks_7 rfl ?_
    refine fm_ifnullR (pc := 9) C dX5_hooks_9 ?_
    refine fm_aload_n (pc := 12) C dX5_hooks_12 rfl rfl ?_
    refine fm_aload (pc := 13) C dX5_hooks_13 rfl ?_
    refine fm_bind (fun r15 e15 => ?_)
    refine fm_cVqc (pc := 15) C (t_X5_laid e15) ok_X5_laid ⟨by decide, rfl⟩ m_ml_X5_192 dX5_hooks_15 ⟨Nat.le_of_ble_eq_true rfl, Nat.le_of_ble_eq_true rfl⟩ rfl rfl (Nat.le_of_ble_eq_true rfl) ?_
    refine fm_iload_n (pc := 18) C dX5_hooks_18 rfl rfl ?_
    refine fm_bind (fun r19 e19 => ?_)
    refine fm_cVi0 (pc := 19) C (t_X1_hasPiece e19) ok_X1_hasPiece ⟨by decide, rfl⟩ m_ml_X5_199 dX5_hooks_19 ⟨Nat.le_of_ble_eq_true rfl, Nat.le_of_ble_eq_true rfl⟩ rfl rfl (Nat.le_of_ble_eq_true rfl) ?_
    refine fm_if_eq (pc := 22) (tgt := 36) C dX5_hooks_22 (by decide) (fun c1 => ?_) (fun c1 => ?_)
    · refine fm_aload_n (pc := 36) C dX5_hooks_36 rfl rfl ?_
      refine fm_ldc (pc := 37) (v := (nI 1000000)) C dX5_hooks_37 m_ct_X5_217 ?_
      refine fm_iconst (pc := 39) (v := (nI 1)) C dX5_hooks_39 (by decide) ?_
      refine fm_bind (fun r40 e40 => ?_)
      refine fm_cVi (pc := 40) C (t_X5_refuseOffBy e40) ok_X5_refuseOffBy ⟨by decide, rfl⟩ m_ml_X5_218 dX5_hooks_40 ⟨Nat.le_of_ble_eq_true rfl, Nat.le_of_ble_eq_true rfl⟩ rfl rfl (Nat.le_of_ble_eq_true rfl) ?_
      exact fm_zret (pc := 43) C hF rfl rfl dX5_hooks_43
    · refine fm_aload_n (pc := 25) C dX5_hooks_25 rfl rfl ?_
      refine g5_cutting (pc := 26) C (by decide) dX5_hooks_26 m_fl_X5_31 ?_
      refine fm_iload_n (pc := 29) C dX5_hooks_29 rfl rfl ?_
      refine fm_bind (fun r30 e30 => ?_)
      refine fm_cVi0 (pc := 30) C (t_X1_hasPiece e30) ok_X1_hasPiece ⟨by decide, rfl⟩ m_ml_X5_199 dX5_hooks_30 ⟨Nat.le_of_ble_eq_true rfl, Nat.le_of_ble_eq_true rfl⟩ rfl rfl (Nat.le_of_ble_eq_true rfl) ?_
      refine fm_if_ne (pc := 33) (tgt := 44) C dX5_hooks_33 (by decide) (fun c2 => ?_) (fun c2 => ?_)
      · refine fm_aload_n (pc := 36) C dX5_hooks_36 rfl rfl ?_
        refine fm_ldc (pc := 37) (v := (nI 1000000)) C dX5_hooks_37 m_ct_X5_217 ?_
        refine fm_iconst (pc := 39) (v := (nI 1)) C dX5_hooks_39 (by decide) ?_
        refine fm_bind (fun r40 e40 => ?_)
        refine fm_cVi (pc := 40) C (t_X5_refuseOffBy e40) ok_X5_refuseOffBy ⟨by decide, rfl⟩ m_ml_X5_218 dX5_hooks_40 ⟨Nat.le_of_ble_eq_true rfl, Nat.le_of_ble_eq_true rfl⟩ rfl rfl (Nat.le_of_ble_eq_true rfl) ?_
        exact fm_zret (pc := 43) C hF rfl rfl dX5_hooks_43
      · refine fm_iload_n (pc := 44) C dX5_hooks_44 rfl rfl ?_
        refine fm_iload_n (pc := 45) C dX5_hooks_45 rfl rfl ?_
        refine fm_icmp_ne (pc := 46) (tgt := 58) C dX5_hooks_46 (by decide) (fun c3 => ?_) (fun c3 => ?_)
        · refine fm_aload_n (pc := 49) C dX5_hooks_49 rfl rfl ?_
          refine fm_ldc (pc := 50) (v := (nI 1000000)) C dX5_hooks_50 m_ct_X5_217 ?_
          refine fm_bipush (pc := 52) (v := (nI 6)) C dX5_hooks_52 (by decide) ?_
          refine fm_bind (fun r54 e54 => ?_)
          refine fm_cVi (pc := 54) C (t_X5_refuseOffBy e54) ok_X5_refuseOffBy ⟨by decide, rfl⟩ m_ml_X5_218 dX5_hooks_54 ⟨Nat.le_of_ble_eq_true rfl, Nat.le_of_ble_eq_true rfl⟩ rfl rfl (Nat.le_of_ble_eq_true rfl) ?_
          exact fm_zret (pc := 57) C hF rfl rfl dX5_hooks_57
        · refine fm_aload_n (pc := 58) C dX5_hooks_58 rfl rfl ?_
          refine g5_cutting (pc := 59) C (by decide) dX5_hooks_59 m_fl_X5_31 ?_
          refine fm_iload_n (pc := 62) C dX5_hooks_62 rfl rfl ?_
          refine fm_iload_n (pc := 63) C dX5_hooks_63 rfl rfl ?_
          refine fm_bind (fun r64 e64 => ?_)
          refine fm_cVi (pc := 64) C (t_X1_hooksBetween e64) ok_X1_hooksBetween ⟨by decide, rfl⟩ m_ml_X5_224 dX5_hooks_64 ⟨Nat.le_of_ble_eq_true rfl, Nat.le_of_ble_eq_true rfl⟩ rfl rfl (Nat.le_of_ble_eq_true rfl) ?_
          exact fm_zret (pc := 67) C hF rfl rfl dX5_hooks_67
theorem t_X5_hooks {l : Launch} {G : fm_G} {v1 : Int32} {v2 : Int32} {v3 : Int32} {μ : fm_I} {ν : fm_L} {r : Int32 × fm_I × fm_L} (h : m_X5_hooks v1 v2 v3 μ ν = some r) : fm_Mi l G yX5_hooks cX5_hooks 5 (some .int) 5 110 [.ref (G.2.2.1 0), .int v1, .int v2, .int v3] μ ν r := fm_Mi_of (by decide +kernel) (Nat.le_of_ble_eq_true rfl) (fun _ C => j_X5_hooks C rfl r h)
theorem dX5_allHooks_0 : decode cX5_allHooks 0 = .ok (.aload_n 0, 1) := by decide +kernel
theorem dX5_allHooks_1 : decode cX5_allHooks 1 = .ok (.iload_n 1, 1) := by decide +kernel
theorem dX5_allHooks_2 : decode cX5_allHooks 2 = .ok (.invokevirtual 112, 3) := by decide +kernel
theorem dX5_allHooks_5 : decode cX5_allHooks 5 = .ok (.astore_n 2, 1) := by decide +kernel
theorem dX5_allHooks_6 : decode cX5_allHooks 6 = .ok (.aload_n 2, 1) := by decide +kernel
theorem dX5_allHooks_7 : decode cX5_allHooks 7 = .ok (.ifnonnull 11, 3) := by decide +kernel
theorem dX5_allHooks_10 : decode cX5_allHooks 10 = .ok (.aload_n 0, 1) := by decide +kernel
theorem dX5_allHooks_11 : decode cX5_allHooks 11 = .ok (.iconst 1, 1) := by decide +kernel
theorem dX5_allHooks_12 : decode cX5_allHooks 12 = .ok (.invokevirtual 67, 3) := by decide +kernel
theorem dX5_allHooks_15 : decode cX5_allHooks 15 = .ok (.goto 11, 3) := by decide +kernel
theorem dX5_allHooks_18 : decode cX5_allHooks 18 = .ok (.aload_n 0, 1) := by decide +kernel
theorem dX5_allHooks_19 : decode cX5_allHooks 19 = .ok (.aload_n 2, 1) := by decide +kernel
theorem dX5_allHooks_20 : decode cX5_allHooks 20 = .ok (.invokevirtual 192, 3) := by decide +kernel
theorem dX5_allHooks_23 : decode cX5_allHooks 23 = .ok (.invokevirtual 227, 3) := by decide +kernel
theorem dX5_allHooks_26 : decode cX5_allHooks 26 = .ok (.ireturn, 1) := by decide +kernel
def m_X5_allHooks (v1 : Int32) (μ : fm_I) (ν : fm_L) : Option (Int32 × fm_I × fm_L) :=
  (m_X5_bandAt v1 μ ν).bind (fun r2 => fm_o r2 ((m_X5_refuse ((nI 1)) μ ν).bind (fun r12 => some ((r12.1, r12.2.1, r12.2.2)))) (fun y2 => (m_X5_laid y2 μ ν).bind (fun r20 => (m_X1_hooksInAll  r20.1 r20.2).bind (fun r23 => some ((r23.1, r23.2.1, r23.2.2))))))
theorem ok_X5_allHooks : fm_okV yX5_allHooks cX5_allHooks 3 (some .int) 1 := ⟨m_cd_X5_allHooks, m_im_X5_allHooks, m_se_X5_X5_allHooks, m_ini_X5, by decide +kernel, by decide +kernel, by decide +kernel⟩
set_option maxHeartbeats 4000000 in
set_option maxRecDepth 100000 in
theorem j_X5_allHooks {X : fm_X} {G : fm_G} {l : Launch} {v1 : Int32} {μ : fm_I} {ν : fm_L} (C : fm_C X G l cX5_allHooks RX5 3 (some .int) 5 111) {F : (Int32 × fm_I × fm_L) → State → Prop} (hF : F = fm_Qi X G) : fm_J X G 3 F (m_X5_allHooks v1 μ ν) μ ν 0 [(0, .ref (G.2.2.1 0)), (1, .int v1)] [] := by
  unfold m_X5_allHooks
  refine fm_aload_n (pc := 0) C dX5_allHooks_0 rfl rfl ?_
  refine fm_iload_n (pc := 1) C dX5_allHooks_1 rfl rfl ?_
  refine fm_bind (fun r2 e2 => ?_)
  refine fm_cVq0 (pc := 2) C (t_X5_bandAt e2) ok_X5_bandAt ⟨by decide, rfl⟩ m_ml_X5_112 dX5_allHooks_2 ⟨Nat.le_of_ble_eq_true rfl, Nat.le_of_ble_eq_true rfl⟩ rfl rfl (Nat.le_of_ble_eq_true rfl) ?_
  refine fm_opt (fun e2 => ?_) (fun y2 e2 => ?_)
  · subst e2
    refine fm_astoreq_n (x := none) (pc := 5) C dX5_allHooks_5 rfl (by decide) rfl ?_
    refine fm_aloadq_n (x := none) (pc := 6) C dX5_allHooks_6 rfl rfl ?_
    refine fm_ifnonnullN (pc := 7) C dX5_allHooks_7 ?_
    refine fm_aload_n (pc := 10) C dX5_allHooks_10 rfl rfl ?_
    refine fm_iconst (pc := 11) (v := (nI 1)) C dX5_allHooks_11 (by decide) ?_
    refine fm_bind (fun r12 e12 => ?_)
    refine fm_cVi (pc := 12) C (t_X5_refuse e12) ok_X5_refuse ⟨by decide, rfl⟩ m_ml_X5_67 dX5_allHooks_12 ⟨Nat.le_of_ble_eq_true rfl, Nat.le_of_ble_eq_true rfl⟩ rfl rfl (Nat.le_of_ble_eq_true rfl) ?_
    refine fm_goto (pc := 15) (tgt := 26) C dX5_allHooks_15 (by decide) ?_
    exact fm_zret (pc := 26) C hF rfl rfl dX5_allHooks_26
  · subst e2
    refine fm_astore_n (pc := 5) C dX5_allHooks_5 rfl (by decide) rfl ?_
    refine fm_aload_n (pc := 6) C dX5_allHooks_6 rfl rfl ?_
    refine fm_ifnonnullR (pc := 7) (tgt := 18) C dX5_allHooks_7 (by decide) ?_
    refine fm_aload_n (pc := 18) C dX5_allHooks_18 rfl rfl ?_
    refine fm_aload_n (pc := 19) C dX5_allHooks_19 rfl rfl ?_
    refine fm_bind (fun r20 e20 => ?_)
    refine fm_cVqc (pc := 20) C (t_X5_laid e20) ok_X5_laid ⟨by decide, rfl⟩ m_ml_X5_192 dX5_allHooks_20 ⟨Nat.le_of_ble_eq_true rfl, Nat.le_of_ble_eq_true rfl⟩ rfl rfl (Nat.le_of_ble_eq_true rfl) ?_
    refine fm_bind (fun r23 e23 => ?_)
    refine fm_cVi (pc := 23) C (t_X1_hooksInAll e23) ok_X1_hooksInAll ⟨by decide, rfl⟩ m_ml_X5_227 dX5_allHooks_23 ⟨Nat.le_of_ble_eq_true rfl, Nat.le_of_ble_eq_true rfl⟩ rfl rfl (Nat.le_of_ble_eq_true rfl) ?_
    exact fm_zret (pc := 26) C hF rfl rfl dX5_allHooks_26
theorem t_X5_allHooks {l : Launch} {G : fm_G} {v1 : Int32} {μ : fm_I} {ν : fm_L} {r : Int32 × fm_I × fm_L} (h : m_X5_allHooks v1 μ ν = some r) : fm_Mi l G yX5_allHooks cX5_allHooks 3 (some .int) 5 111 [.ref (G.2.2.1 0), .int v1] μ ν r := fm_Mi_of (by decide +kernel) (Nat.le_of_ble_eq_true rfl) (fun _ C => j_X5_allHooks C rfl r h)
theorem dX5_groups_0 : decode cX5_groups 0 = .ok (.aload_n 0, 1) := by decide +kernel
theorem dX5_groups_1 : decode cX5_groups 1 = .ok (.iload_n 1, 1) := by decide +kernel
theorem dX5_groups_2 : decode cX5_groups 2 = .ok (.invokevirtual 112, 3) := by decide +kernel
theorem dX5_groups_5 : decode cX5_groups 5 = .ok (.astore_n 2, 1) := by decide +kernel
theorem dX5_groups_6 : decode cX5_groups 6 = .ok (.aload_n 2, 1) := by decide +kernel
theorem dX5_groups_7 : decode cX5_groups 7 = .ok (.ifnonnull 11, 3) := by decide +kernel
theorem dX5_groups_10 : decode cX5_groups 10 = .ok (.aload_n 0, 1) := by decide +kernel
theorem dX5_groups_11 : decode cX5_groups 11 = .ok (.iconst 1, 1) := by decide +kernel
theorem dX5_groups_12 : decode cX5_groups 12 = .ok (.invokevirtual 67, 3) := by decide +kernel
theorem dX5_groups_15 : decode cX5_groups 15 = .ok (.goto 11, 3) := by decide +kernel
theorem dX5_groups_18 : decode cX5_groups 18 = .ok (.aload_n 0, 1) := by decide +kernel
theorem dX5_groups_19 : decode cX5_groups 19 = .ok (.aload_n 2, 1) := by decide +kernel
theorem dX5_groups_20 : decode cX5_groups 20 = .ok (.invokevirtual 192, 3) := by decide +kernel
theorem dX5_groups_23 : decode cX5_groups 23 = .ok (.invokevirtual 230, 3) := by decide +kernel
theorem dX5_groups_26 : decode cX5_groups 26 = .ok (.ireturn, 1) := by decide +kernel
def m_X5_groups (v1 : Int32) (μ : fm_I) (ν : fm_L) : Option (Int32 × fm_I × fm_L) :=
  (m_X5_bandAt v1 μ ν).bind (fun r2 => fm_o r2 ((m_X5_refuse ((nI 1)) μ ν).bind (fun r12 => some ((r12.1, r12.2.1, r12.2.2)))) (fun y2 => (m_X5_laid y2 μ ν).bind (fun r20 => (m_X1_hangingGroups  r20.1 r20.2).bind (fun r23 => some ((r23.1, r23.2.1, r23.2.2))))))
theorem ok_X5_groups : fm_okV yX5_groups cX5_groups 3 (some .int) 1 := ⟨m_cd_X5_groups, m_im_X5_groups, m_se_X5_X5_groups, m_ini_X5, by decide +kernel, by decide +kernel, by decide +kernel⟩
set_option maxHeartbeats 4000000 in
set_option maxRecDepth 100000 in
theorem j_X5_groups {X : fm_X} {G : fm_G} {l : Launch} {v1 : Int32} {μ : fm_I} {ν : fm_L} (C : fm_C X G l cX5_groups RX5 3 (some .int) 6 133) {F : (Int32 × fm_I × fm_L) → State → Prop} (hF : F = fm_Qi X G) : fm_J X G 3 F (m_X5_groups v1 μ ν) μ ν 0 [(0, .ref (G.2.2.1 0)), (1, .int v1)] [] := by
  unfold m_X5_groups
  refine fm_aload_n (pc := 0) C dX5_groups_0 rfl rfl ?_
  refine fm_iload_n (pc := 1) C dX5_groups_1 rfl rfl ?_
  refine fm_bind (fun r2 e2 => ?_)
  refine fm_cVq0 (pc := 2) C (t_X5_bandAt e2) ok_X5_bandAt ⟨by decide, rfl⟩ m_ml_X5_112 dX5_groups_2 ⟨Nat.le_of_ble_eq_true rfl, Nat.le_of_ble_eq_true rfl⟩ rfl rfl (Nat.le_of_ble_eq_true rfl) ?_
  refine fm_opt (fun e2 => ?_) (fun y2 e2 => ?_)
  · subst e2
    refine fm_astoreq_n (x := none) (pc := 5) C dX5_groups_5 rfl (by decide) rfl ?_
    refine fm_aloadq_n (x := none) (pc := 6) C dX5_groups_6 rfl rfl ?_
    refine fm_ifnonnullN (pc := 7) C dX5_groups_7 ?_
    refine fm_aload_n (pc := 10) C dX5_groups_10 rfl rfl ?_
    refine fm_iconst (pc := 11) (v := (nI 1)) C dX5_groups_11 (by decide) ?_
    refine fm_bind (fun r12 e12 => ?_)
    refine fm_cVi (pc := 12) C (t_X5_refuse e12) ok_X5_refuse ⟨by decide, rfl⟩ m_ml_X5_67 dX5_groups_12 ⟨Nat.le_of_ble_eq_true rfl, Nat.le_of_ble_eq_true rfl⟩ rfl rfl (Nat.le_of_ble_eq_true rfl) ?_
    refine fm_goto (pc := 15) (tgt := 26) C dX5_groups_15 (by decide) ?_
    exact fm_zret (pc := 26) C hF rfl rfl dX5_groups_26
  · subst e2
    refine fm_astore_n (pc := 5) C dX5_groups_5 rfl (by decide) rfl ?_
    refine fm_aload_n (pc := 6) C dX5_groups_6 rfl rfl ?_
    refine fm_ifnonnullR (pc := 7) (tgt := 18) C dX5_groups_7 (by decide) ?_
    refine fm_aload_n (pc := 18) C dX5_groups_18 rfl rfl ?_
    refine fm_aload_n (pc := 19) C dX5_groups_19 rfl rfl ?_
    refine fm_bind (fun r20 e20 => ?_)
    refine fm_cVqc (pc := 20) C (t_X5_laid e20) ok_X5_laid ⟨by decide, rfl⟩ m_ml_X5_192 dX5_groups_20 ⟨Nat.le_of_ble_eq_true rfl, Nat.le_of_ble_eq_true rfl⟩ rfl rfl (Nat.le_of_ble_eq_true rfl) ?_
    refine fm_bind (fun r23 e23 => ?_)
    refine fm_cVi (pc := 23) C (t_X1_hangingGroups e23) ok_X1_hangingGroups ⟨by decide, rfl⟩ m_ml_X5_230 dX5_groups_23 ⟨Nat.le_of_ble_eq_true rfl, Nat.le_of_ble_eq_true rfl⟩ rfl rfl (Nat.le_of_ble_eq_true rfl) ?_
    exact fm_zret (pc := 26) C hF rfl rfl dX5_groups_26
theorem t_X5_groups {l : Launch} {G : fm_G} {v1 : Int32} {μ : fm_I} {ν : fm_L} {r : Int32 × fm_I × fm_L} (h : m_X5_groups v1 μ ν = some r) : fm_Mi l G yX5_groups cX5_groups 3 (some .int) 6 133 [.ref (G.2.2.1 0), .int v1] μ ν r := fm_Mi_of (by decide +kernel) (Nat.le_of_ble_eq_true rfl) (fun _ C => j_X5_groups C rfl r h)
theorem dX5_unhook_0 : decode cX5_unhook 0 = .ok (.aload_n 0, 1) := by decide +kernel
theorem dX5_unhook_1 : decode cX5_unhook 1 = .ok (.iload_n 1, 1) := by decide +kernel
theorem dX5_unhook_2 : decode cX5_unhook 2 = .ok (.invokevirtual 112, 3) := by decide +kernel
theorem dX5_unhook_5 : decode cX5_unhook 5 = .ok (.astore_n 2, 1) := by decide +kernel
theorem dX5_unhook_6 : decode cX5_unhook 6 = .ok (.aload_n 2, 1) := by decide +kernel
theorem dX5_unhook_7 : decode cX5_unhook 7 = .ok (.ifnonnull 11, 3) := by decide +kernel
theorem dX5_unhook_10 : decode cX5_unhook 10 = .ok (.aload_n 0, 1) := by decide +kernel
theorem dX5_unhook_11 : decode cX5_unhook 11 = .ok (.iconst 1, 1) := by decide +kernel
theorem dX5_unhook_12 : decode cX5_unhook 12 = .ok (.invokevirtual 67, 3) := by decide +kernel
theorem dX5_unhook_15 : decode cX5_unhook 15 = .ok (.goto 11, 3) := by decide +kernel
theorem dX5_unhook_18 : decode cX5_unhook 18 = .ok (.aload_n 0, 1) := by decide +kernel
theorem dX5_unhook_19 : decode cX5_unhook 19 = .ok (.aload_n 2, 1) := by decide +kernel
theorem dX5_unhook_20 : decode cX5_unhook 20 = .ok (.invokevirtual 192, 3) := by decide +kernel
theorem dX5_unhook_23 : decode cX5_unhook 23 = .ok (.invokevirtual 233, 3) := by decide +kernel
theorem dX5_unhook_26 : decode cX5_unhook 26 = .ok (.ireturn, 1) := by decide +kernel
def m_X5_unhook (v1 : Int32) (μ : fm_I) (ν : fm_L) : Option (Int32 × fm_I × fm_L) :=
  (m_X5_bandAt v1 μ ν).bind (fun r2 => fm_o r2 ((m_X5_refuse ((nI 1)) μ ν).bind (fun r12 => some ((r12.1, r12.2.1, r12.2.2)))) (fun y2 => (m_X5_laid y2 μ ν).bind (fun r20 => (m_X1_fewestToCut  r20.1 r20.2).bind (fun r23 => some ((r23.1, r23.2.1, r23.2.2))))))
theorem ok_X5_unhook : fm_okV yX5_unhook cX5_unhook 3 (some .int) 1 := ⟨m_cd_X5_unhook, m_im_X5_unhook, m_se_X5_X5_unhook, m_ini_X5, by decide +kernel, by decide +kernel, by decide +kernel⟩
set_option maxHeartbeats 4000000 in
set_option maxRecDepth 100000 in
theorem j_X5_unhook {X : fm_X} {G : fm_G} {l : Launch} {v1 : Int32} {μ : fm_I} {ν : fm_L} (C : fm_C X G l cX5_unhook RX5 3 (some .int) 6 133) {F : (Int32 × fm_I × fm_L) → State → Prop} (hF : F = fm_Qi X G) : fm_J X G 3 F (m_X5_unhook v1 μ ν) μ ν 0 [(0, .ref (G.2.2.1 0)), (1, .int v1)] [] := by
  unfold m_X5_unhook
  refine fm_aload_n (pc := 0) C dX5_unhook_0 rfl rfl ?_
  refine fm_iload_n (pc := 1) C dX5_unhook_1 rfl rfl ?_
  refine fm_bind (fun r2 e2 => ?_)
  refine fm_cVq0 (pc := 2) C (t_X5_bandAt e2) ok_X5_bandAt ⟨by decide, rfl⟩ m_ml_X5_112 dX5_unhook_2 ⟨Nat.le_of_ble_eq_true rfl, Nat.le_of_ble_eq_true rfl⟩ rfl rfl (Nat.le_of_ble_eq_true rfl) ?_
  refine fm_opt (fun e2 => ?_) (fun y2 e2 => ?_)
  · subst e2
    refine fm_astoreq_n (x := none) (pc := 5) C dX5_unhook_5 rfl (by decide) rfl ?_
    refine fm_aloadq_n (x := none) (pc := 6) C dX5_unhook_6 rfl rfl ?_
    refine fm_ifnonnullN (pc := 7) C dX5_unhook_7 ?_
    refine fm_aload_n (pc := 10) C dX5_unhook_10 rfl rfl ?_
    refine fm_iconst (pc := 11) (v := (nI 1)) C dX5_unhook_11 (by decide) ?_
    refine fm_bind (fun r12 e12 => ?_)
    refine fm_cVi (pc := 12) C (t_X5_refuse e12) ok_X5_refuse ⟨by decide, rfl⟩ m_ml_X5_67 dX5_unhook_12 ⟨Nat.le_of_ble_eq_true rfl, Nat.le_of_ble_eq_true rfl⟩ rfl rfl (Nat.le_of_ble_eq_true rfl) ?_
    refine fm_goto (pc := 15) (tgt := 26) C dX5_unhook_15 (by decide) ?_
    exact fm_zret (pc := 26) C hF rfl rfl dX5_unhook_26
  · subst e2
    refine fm_astore_n (pc := 5) C dX5_unhook_5 rfl (by decide) rfl ?_
    refine fm_aload_n (pc := 6) C dX5_unhook_6 rfl rfl ?_
    refine fm_ifnonnullR (pc := 7) (tgt := 18) C dX5_unhook_7 (by decide) ?_
    refine fm_aload_n (pc := 18) C dX5_unhook_18 rfl rfl ?_
    refine fm_aload_n (pc := 19) C dX5_unhook_19 rfl rfl ?_
    refine fm_bind (fun r20 e20 => ?_)
    refine fm_cVqc (pc := 20) C (t_X5_laid e20) ok_X5_laid ⟨by decide, rfl⟩ m_ml_X5_192 dX5_unhook_20 ⟨Nat.le_of_ble_eq_true rfl, Nat.le_of_ble_eq_true rfl⟩ rfl rfl (Nat.le_of_ble_eq_true rfl) ?_
    refine fm_bind (fun r23 e23 => ?_)
    refine fm_cVi (pc := 23) C (t_X1_fewestToCut e23) ok_X1_fewestToCut ⟨by decide, rfl⟩ m_ml_X5_233 dX5_unhook_23 ⟨Nat.le_of_ble_eq_true rfl, Nat.le_of_ble_eq_true rfl⟩ rfl rfl (Nat.le_of_ble_eq_true rfl) ?_
    exact fm_zret (pc := 26) C hF rfl rfl dX5_unhook_26
theorem t_X5_unhook {l : Launch} {G : fm_G} {v1 : Int32} {μ : fm_I} {ν : fm_L} {r : Int32 × fm_I × fm_L} (h : m_X5_unhook v1 μ ν = some r) : fm_Mi l G yX5_unhook cX5_unhook 3 (some .int) 6 133 [.ref (G.2.2.1 0), .int v1] μ ν r := fm_Mi_of (by decide +kernel) (Nat.le_of_ble_eq_true rfl) (fun _ C => j_X5_unhook C rfl r h)
theorem dX5_painted_0 : decode cX5_painted 0 = .ok (.aload_n 0, 1) := by decide +kernel
theorem dX5_painted_1 : decode cX5_painted 1 = .ok (.iload_n 1, 1) := by decide +kernel
theorem dX5_painted_2 : decode cX5_painted 2 = .ok (.invokevirtual 112, 3) := by decide +kernel
theorem dX5_painted_5 : decode cX5_painted 5 = .ok (.astore_n 2, 1) := by decide +kernel
theorem dX5_painted_6 : decode cX5_painted 6 = .ok (.aload_n 2, 1) := by decide +kernel
theorem dX5_painted_7 : decode cX5_painted 7 = .ok (.ifnonnull 9, 3) := by decide +kernel
theorem dX5_painted_10 : decode cX5_painted 10 = .ok (.aload_n 0, 1) := by decide +kernel
theorem dX5_painted_11 : decode cX5_painted 11 = .ok (.iconst 1, 1) := by decide +kernel
theorem dX5_painted_12 : decode cX5_painted 12 = .ok (.invokevirtual 67, 3) := by decide +kernel
theorem dX5_painted_15 : decode cX5_painted 15 = .ok (.ireturn, 1) := by decide +kernel
theorem dX5_painted_16 : decode cX5_painted 16 = .ok (.aload_n 0, 1) := by decide +kernel
theorem dX5_painted_17 : decode cX5_painted 17 = .ok (.aload_n 2, 1) := by decide +kernel
theorem dX5_painted_18 : decode cX5_painted 18 = .ok (.invokevirtual 192, 3) := by decide +kernel
theorem dX5_painted_21 : decode cX5_painted 21 = .ok (.pop, 1) := by decide +kernel
theorem dX5_painted_22 : decode cX5_painted 22 = .ok (.iconst 0, 1) := by decide +kernel
theorem dX5_painted_23 : decode cX5_painted 23 = .ok (.istore_n 3, 1) := by decide +kernel
theorem dX5_painted_24 : decode cX5_painted 24 = .ok (.iconst 0, 1) := by decide +kernel
theorem dX5_painted_25 : decode cX5_painted 25 = .ok (.istore 4, 2) := by decide +kernel
theorem dX5_painted_27 : decode cX5_painted 27 = .ok (.iload 4, 2) := by decide +kernel
theorem dX5_painted_29 : decode cX5_painted 29 = .ok (.aload_n 0, 1) := by decide +kernel
theorem dX5_painted_30 : decode cX5_painted 30 = .ok (.getfield 31, 3) := by decide +kernel
theorem dX5_painted_33 : decode cX5_painted 33 = .ok (.getfield 196, 3) := by decide +kernel
theorem dX5_painted_36 : decode cX5_painted 36 = .ok (.if_icmp .ge 41, 3) := by decide +kernel
theorem dX5_painted_39 : decode cX5_painted 39 = .ok (.aload_n 2, 1) := by decide +kernel
theorem dX5_painted_40 : decode cX5_painted 40 = .ok (.aload_n 0, 1) := by decide +kernel
theorem dX5_painted_41 : decode cX5_painted 41 = .ok (.getfield 31, 3) := by decide +kernel
theorem dX5_painted_44 : decode cX5_painted 44 = .ok (.iload 4, 2) := by decide +kernel
theorem dX5_painted_46 : decode cX5_painted 46 = .ok (.invokevirtual 205, 3) := by decide +kernel
theorem dX5_painted_49 : decode cX5_painted 49 = .ok (.invokevirtual 236, 3) := by decide +kernel
theorem dX5_painted_52 : decode cX5_painted 52 = .ok (.aload_n 0, 1) := by decide +kernel
theorem dX5_painted_53 : decode cX5_painted 53 = .ok (.getfield 31, 3) := by decide +kernel
theorem dX5_painted_56 : decode cX5_painted 56 = .ok (.iload 4, 2) := by decide +kernel
theorem dX5_painted_58 : decode cX5_painted 58 = .ok (.invokevirtual 202, 3) := by decide +kernel
theorem dX5_painted_61 : decode cX5_painted 61 = .ok (.if_icmp .ne 10, 3) := by decide +kernel
theorem dX5_painted_64 : decode cX5_painted 64 = .ok (.iload_n 3, 1) := by decide +kernel
theorem dX5_painted_65 : decode cX5_painted 65 = .ok (.iconst 1, 1) := by decide +kernel
theorem dX5_painted_66 : decode cX5_painted 66 = .ok (.iload 4, 2) := by decide +kernel
theorem dX5_painted_68 : decode cX5_painted 68 = .ok (.ishl, 1) := by decide +kernel
theorem dX5_painted_69 : decode cX5_painted 69 = .ok (.ior, 1) := by decide +kernel
theorem dX5_painted_70 : decode cX5_painted 70 = .ok (.istore_n 3, 1) := by decide +kernel
theorem dX5_painted_71 : decode cX5_painted 71 = .ok (.iinc 4 1, 3) := by decide +kernel
theorem dX5_painted_74 : decode cX5_painted 74 = .ok (.goto (-47), 3) := by decide +kernel
theorem dX5_painted_77 : decode cX5_painted 77 = .ok (.iload_n 3, 1) := by decide +kernel
theorem dX5_painted_78 : decode cX5_painted 78 = .ok (.ireturn, 1) := by decide +kernel
def m_X5_painted_27 (q2 : Nat) (μ : fm_I) (ν : fm_L) (K : Int32 → Option (Int32 × fm_I × fm_L)) : Nat → Int32 → Int32 → Option (Int32 × fm_I × fm_L)
  | 0, _, _ => none
  | k + 1, v3, v4 => if (μ 5 0) ≤ v4 then K v3 else (m_X1_members v4 μ ν).bind (fun r46 => fm_g (Nat.beq (fm_k q2) 0) ((m_X0_mostOfOneColour q2 r46 μ ν).bind (fun r49 => (m_X1_size v4 μ ν).bind (fun r58 => if r49 = r58 then m_X5_painted_27 q2 μ ν K k ((v3 ||| ((((nI 1)) <<< (v4 &&& 31))))) ((v4 + nI 1)) else m_X5_painted_27 q2 μ ν K k v3 ((v4 + nI 1))))))
def m_X5_painted (v1 : Int32) (μ : fm_I) (ν : fm_L) : Option (Int32 × fm_I × fm_L) :=
  (m_X5_bandAt v1 μ ν).bind (fun r2 => fm_o r2 ((m_X5_refuse ((nI 1)) μ ν).bind (fun r12 => some ((r12.1, r12.2.1, r12.2.2)))) (fun y2 => (m_X5_laid y2 μ ν).bind (fun r18 => m_X5_painted_27 y2 r18.1 r18.2 (fun x3_27 => some ((x3_27, r18.1, r18.2))) 5000 ((nI 0)) ((nI 0)))))
theorem ok_X5_painted : fm_okV yX5_painted cX5_painted 5 (some .int) 1 := ⟨m_cd_X5_painted, m_im_X5_painted, m_se_X5_X5_painted, m_ini_X5, by decide +kernel, by decide +kernel, by decide +kernel⟩
set_option maxHeartbeats 4000000 in
set_option maxRecDepth 100000 in
theorem j_X5_painted_27_ {X : fm_X} {G : fm_G} {l : Launch} {q2 : Nat} {μ : fm_I} {ν : fm_L} (C : fm_C X G l cX5_painted RX5 5 (some .int) 5 106) {F : (Int32 × fm_I × fm_L) → State → Prop} (hF : F = fm_Qi X G)  {K : Int32 → Option (Int32 × fm_I × fm_L)} (hK : ∀ (v3 : Int32), fm_J X G 5 F (K v3) μ ν 77 [(3, .int v3)] []) : ∀ (k : Nat) (v3 : Int32) (v4 : Int32), fm_J X G 5 F (m_X5_painted_27 q2 μ ν K k v3 v4) μ ν 27 [(0, .ref (G.2.2.1 0)), (2, .ref (G.2.2.1 q2)), (3, .int v3), (4, .int v4)] [] := by
  intro k
  induction k with
  | zero =>
    intro v3 v4
    exact fm_none
  | succ k ih =>
    intro v3 v4
    rw [m_X5_painted_27]
    refine fm_iload (pc := 27) C dX5_painted_27 rfl ?_
    refine fm_aload_n (pc := 29) C dX5_painted_29 rfl rfl ?_
    refine g5_cutting (pc := 30) C (by decide) dX5_painted_30 m_fl_X5_31 ?_
    refine g1_count (pc := 33) C (by decide) dX5_painted_33 m_fl_X5_196 ?_
    refine fm_icmp_ge (pc := 36) (tgt := 77) C dX5_painted_36 (by decide) (fun c1 => ?_) (fun c1 => ?_)
    · refine fm_less (lv' := [(3, .int v3)]) (by repeat (first | exact trivial | refine ⟨rfl, ?_⟩)) ?_
      exact hK _
    · refine fm_aload_n (pc := 39) C dX5_painted_39 rfl rfl ?_
      refine fm_aload_n (pc := 40) C dX5_painted_40 rfl rfl ?_
      refine g5_cutting (pc := 41) C (by decide) dX5_painted_41 m_fl_X5_31 ?_
      refine fm_iload (pc := 44) C dX5_painted_44 rfl ?_
      refine fm_bind (fun r46 e46 => ?_)
      refine fm_cVi0 (pc := 46) C (t_X1_members e46) ok_X1_members ⟨by decide, rfl⟩ m_ml_X5_205 dX5_painted_46 ⟨Nat.le_of_ble_eq_true rfl, Nat.le_of_ble_eq_true rfl⟩ rfl rfl (Nat.le_of_ble_eq_true rfl) ?_
      refine fm_guard (fun h2 => ?_)
      refine fm_bind (fun r49 e49 => ?_)
      refine fm_cVi0 (pc := 49) C (t_X0_mostOfOneColour e49) ok_X0_mostOfOneColour (fm_kcn0 (Nat.eq_of_beq_eq_true h2)) m_ml_X5_236 dX5_painted_49 ⟨Nat.le_of_ble_eq_true rfl, Nat.le_of_ble_eq_true rfl⟩ rfl rfl (Nat.le_of_ble_eq_true rfl) ?_
      refine fm_aload_n (pc := 52) C dX5_painted_52 rfl rfl ?_
      refine g5_cutting (pc := 53) C (by decide) dX5_painted_53 m_fl_X5_31 ?_
      refine fm_iload (pc := 56) C dX5_painted_56 rfl ?_
      refine fm_bind (fun r58 e58 => ?_)
      refine fm_cVi0 (pc := 58) C (t_X1_size e58) ok_X1_size ⟨by decide, rfl⟩ m_ml_X5_202 dX5_painted_58 ⟨Nat.le_of_ble_eq_true rfl, Nat.le_of_ble_eq_true rfl⟩ rfl rfl (Nat.le_of_ble_eq_true rfl) ?_
      refine fm_icmp_ne (pc := 61) (tgt := 71) C dX5_painted_61 (by decide) (fun c3 => ?_) (fun c3 => ?_)
      · refine fm_iload_n (pc := 64) C dX5_painted_64 rfl rfl ?_
        refine fm_iconst (pc := 65) (v := (nI 1)) C dX5_painted_65 (by decide) ?_
        refine fm_iload (pc := 66) C dX5_painted_66 rfl ?_
        refine fm_ishl (pc := 68) C dX5_painted_68 ?_
        refine fm_ior (pc := 69) C dX5_painted_69 ?_
        refine fm_istore_n (pc := 70) C dX5_painted_70 rfl (by decide) rfl ?_
        refine fm_iinc (pc := 71) C dX5_painted_71 rfl (v := (v4 + nI 1)) rfl (by decide) rfl ?_
        refine fm_goto (pc := 74) (tgt := 27) C dX5_painted_74 (by decide) ?_
        refine fm_less (lv' := [(0, .ref (G.2.2.1 0)), (2, .ref (G.2.2.1 q2)), (3, .int ((v3 ||| ((((nI 1)) <<< (v4 &&& 31)))))), (4, .int ((v4 + nI 1)))]) (by repeat (first | exact trivial | refine ⟨rfl, ?_⟩)) ?_
        exact ih _ _
      · refine fm_iinc (pc := 71) C dX5_painted_71 rfl (v := (v4 + nI 1)) rfl (by decide) rfl ?_
        refine fm_goto (pc := 74) (tgt := 27) C dX5_painted_74 (by decide) ?_
        refine fm_less (lv' := [(0, .ref (G.2.2.1 0)), (2, .ref (G.2.2.1 q2)), (3, .int v3), (4, .int ((v4 + nI 1)))]) (by repeat (first | exact trivial | refine ⟨rfl, ?_⟩)) ?_
        exact ih _ _
set_option maxHeartbeats 4000000 in
set_option maxRecDepth 100000 in
theorem j_X5_painted {X : fm_X} {G : fm_G} {l : Launch} {v1 : Int32} {μ : fm_I} {ν : fm_L} (C : fm_C X G l cX5_painted RX5 5 (some .int) 5 106) {F : (Int32 × fm_I × fm_L) → State → Prop} (hF : F = fm_Qi X G) : fm_J X G 5 F (m_X5_painted v1 μ ν) μ ν 0 [(0, .ref (G.2.2.1 0)), (1, .int v1)] [] := by
  unfold m_X5_painted
  refine fm_aload_n (pc := 0) C dX5_painted_0 rfl rfl ?_
  refine fm_iload_n (pc := 1) C dX5_painted_1 rfl rfl ?_
  refine fm_bind (fun r2 e2 => ?_)
  refine fm_cVq0 (pc := 2) C (t_X5_bandAt e2) ok_X5_bandAt ⟨by decide, rfl⟩ m_ml_X5_112 dX5_painted_2 ⟨Nat.le_of_ble_eq_true rfl, Nat.le_of_ble_eq_true rfl⟩ rfl rfl (Nat.le_of_ble_eq_true rfl) ?_
  refine fm_opt (fun e2 => ?_) (fun y2 e2 => ?_)
  · subst e2
    refine fm_astoreq_n (x := none) (pc := 5) C dX5_painted_5 rfl (by decide) rfl ?_
    refine fm_aloadq_n (x := none) (pc := 6) C dX5_painted_6 rfl rfl ?_
    refine fm_ifnonnullN (pc := 7) C dX5_painted_7 ?_
    refine fm_aload_n (pc := 10) C dX5_painted_10 rfl rfl ?_
    refine fm_iconst (pc := 11) (v := (nI 1)) C dX5_painted_11 (by decide) ?_
    refine fm_bind (fun r12 e12 => ?_)
    refine fm_cVi (pc := 12) C (t_X5_refuse e12) ok_X5_refuse ⟨by decide, rfl⟩ m_ml_X5_67 dX5_painted_12 ⟨Nat.le_of_ble_eq_true rfl, Nat.le_of_ble_eq_true rfl⟩ rfl rfl (Nat.le_of_ble_eq_true rfl) ?_
    exact fm_zret (pc := 15) C hF rfl rfl dX5_painted_15
  · subst e2
    refine fm_astore_n (pc := 5) C dX5_painted_5 rfl (by decide) rfl ?_
    refine fm_aload_n (pc := 6) C dX5_painted_6 rfl rfl ?_
    refine fm_ifnonnullR (pc := 7) (tgt := 16) C dX5_painted_7 (by decide) ?_
    refine fm_aload_n (pc := 16) C dX5_painted_16 rfl rfl ?_
    refine fm_aload_n (pc := 17) C dX5_painted_17 rfl rfl ?_
    refine fm_bind (fun r18 e18 => ?_)
    refine fm_cVqc (pc := 18) C (t_X5_laid e18) ok_X5_laid ⟨by decide, rfl⟩ m_ml_X5_192 dX5_painted_18 ⟨Nat.le_of_ble_eq_true rfl, Nat.le_of_ble_eq_true rfl⟩ rfl rfl (Nat.le_of_ble_eq_true rfl) ?_
    refine fm_pop (pc := 21) C dX5_painted_21 rfl ?_
    refine fm_iconst (pc := 22) (v := (nI 0)) C dX5_painted_22 (by decide) ?_
    refine fm_istore_n (pc := 23) C dX5_painted_23 rfl (by decide) rfl ?_
    refine fm_iconst (pc := 24) (v := (nI 0)) C dX5_painted_24 (by decide) ?_
    refine fm_istore (pc := 25) C dX5_painted_25 (by decide) rfl ?_
    refine fm_less (lv' := [(0, .ref (G.2.2.1 0)), (2, .ref (G.2.2.1 y2)), (3, .int ((nI 0))), (4, .int ((nI 0)))]) (by repeat (first | exact trivial | refine ⟨rfl, ?_⟩)) ?_
    refine j_X5_painted_27_ C (q2 := y2) hF  (fun x3_27 => ?_) _ _ _
    refine fm_iload_n (pc := 77) C dX5_painted_77 rfl rfl ?_
    exact fm_zret (pc := 78) C hF rfl rfl dX5_painted_78
theorem t_X5_painted {l : Launch} {G : fm_G} {v1 : Int32} {μ : fm_I} {ν : fm_L} {r : Int32 × fm_I × fm_L} (h : m_X5_painted v1 μ ν = some r) : fm_Mi l G yX5_painted cX5_painted 5 (some .int) 5 106 [.ref (G.2.2.1 0), .int v1] μ ν r := fm_Mi_of (by decide +kernel) (Nat.le_of_ble_eq_true rfl) (fun _ C => j_X5_painted C rfl r h)
theorem dX5_repaint_0 : decode cX5_repaint 0 = .ok (.aload_n 0, 1) := by decide +kernel
theorem dX5_repaint_1 : decode cX5_repaint 1 = .ok (.iload_n 1, 1) := by decide +kernel
theorem dX5_repaint_2 : decode cX5_repaint 2 = .ok (.invokevirtual 112, 3) := by decide +kernel
theorem dX5_repaint_5 : decode cX5_repaint 5 = .ok (.astore_n 2, 1) := by decide +kernel
theorem dX5_repaint_6 : decode cX5_repaint 6 = .ok (.aload_n 2, 1) := by decide +kernel
theorem dX5_repaint_7 : decode cX5_repaint 7 = .ok (.ifnonnull 9, 3) := by decide +kernel
theorem dX5_repaint_10 : decode cX5_repaint 10 = .ok (.aload_n 0, 1) := by decide +kernel
theorem dX5_repaint_11 : decode cX5_repaint 11 = .ok (.iconst 1, 1) := by decide +kernel
theorem dX5_repaint_12 : decode cX5_repaint 12 = .ok (.invokevirtual 67, 3) := by decide +kernel
theorem dX5_repaint_15 : decode cX5_repaint 15 = .ok (.ireturn, 1) := by decide +kernel
theorem dX5_repaint_16 : decode cX5_repaint 16 = .ok (.aload_n 0, 1) := by decide +kernel
theorem dX5_repaint_17 : decode cX5_repaint 17 = .ok (.aload_n 2, 1) := by decide +kernel
theorem dX5_repaint_18 : decode cX5_repaint 18 = .ok (.invokevirtual 192, 3) := by decide +kernel
theorem dX5_repaint_21 : decode cX5_repaint 21 = .ok (.pop, 1) := by decide +kernel
theorem dX5_repaint_22 : decode cX5_repaint 22 = .ok (.iconst 0, 1) := by decide +kernel
theorem dX5_repaint_23 : decode cX5_repaint 23 = .ok (.istore_n 3, 1) := by decide +kernel
theorem dX5_repaint_24 : decode cX5_repaint 24 = .ok (.iconst 0, 1) := by decide +kernel
theorem dX5_repaint_25 : decode cX5_repaint 25 = .ok (.istore 4, 2) := by decide +kernel
theorem dX5_repaint_27 : decode cX5_repaint 27 = .ok (.iload 4, 2) := by decide +kernel
theorem dX5_repaint_29 : decode cX5_repaint 29 = .ok (.aload_n 0, 1) := by decide +kernel
theorem dX5_repaint_30 : decode cX5_repaint 30 = .ok (.getfield 31, 3) := by decide +kernel
theorem dX5_repaint_33 : decode cX5_repaint 33 = .ok (.getfield 196, 3) := by decide +kernel
theorem dX5_repaint_36 : decode cX5_repaint 36 = .ok (.if_icmp .ge 35, 3) := by decide +kernel
theorem dX5_repaint_39 : decode cX5_repaint 39 = .ok (.iload_n 3, 1) := by decide +kernel
theorem dX5_repaint_40 : decode cX5_repaint 40 = .ok (.aload_n 0, 1) := by decide +kernel
theorem dX5_repaint_41 : decode cX5_repaint 41 = .ok (.getfield 31, 3) := by decide +kernel
theorem dX5_repaint_44 : decode cX5_repaint 44 = .ok (.iload 4, 2) := by decide +kernel
theorem dX5_repaint_46 : decode cX5_repaint 46 = .ok (.invokevirtual 202, 3) := by decide +kernel
theorem dX5_repaint_49 : decode cX5_repaint 49 = .ok (.aload_n 2, 1) := by decide +kernel
theorem dX5_repaint_50 : decode cX5_repaint 50 = .ok (.aload_n 0, 1) := by decide +kernel
theorem dX5_repaint_51 : decode cX5_repaint 51 = .ok (.getfield 31, 3) := by decide +kernel
theorem dX5_repaint_54 : decode cX5_repaint 54 = .ok (.iload 4, 2) := by decide +kernel
theorem dX5_repaint_56 : decode cX5_repaint 56 = .ok (.invokevirtual 205, 3) := by decide +kernel
theorem dX5_repaint_59 : decode cX5_repaint 59 = .ok (.invokevirtual 236, 3) := by decide +kernel
theorem dX5_repaint_62 : decode cX5_repaint 62 = .ok (.isub, 1) := by decide +kernel
theorem dX5_repaint_63 : decode cX5_repaint 63 = .ok (.iadd, 1) := by decide +kernel
theorem dX5_repaint_64 : decode cX5_repaint 64 = .ok (.istore_n 3, 1) := by decide +kernel
theorem dX5_repaint_65 : decode cX5_repaint 65 = .ok (.iinc 4 1, 3) := by decide +kernel
theorem dX5_repaint_68 : decode cX5_repaint 68 = .ok (.goto (-41), 3) := by decide +kernel
theorem dX5_repaint_71 : decode cX5_repaint 71 = .ok (.iload_n 3, 1) := by decide +kernel
theorem dX5_repaint_72 : decode cX5_repaint 72 = .ok (.ireturn, 1) := by decide +kernel
def m_X5_repaint_27 (q2 : Nat) (μ : fm_I) (ν : fm_L) (K : Int32 → Option (Int32 × fm_I × fm_L)) : Nat → Int32 → Int32 → Option (Int32 × fm_I × fm_L)
  | 0, _, _ => none
  | k + 1, v3, v4 => if (μ 5 0) ≤ v4 then K v3 else (m_X1_size v4 μ ν).bind (fun r46 => (m_X1_members v4 μ ν).bind (fun r56 => fm_g (Nat.beq (fm_k q2) 0) ((m_X0_mostOfOneColour q2 r56 μ ν).bind (fun r59 => m_X5_repaint_27 q2 μ ν K k ((v3 + ((r46 - r59)))) ((v4 + nI 1))))))
def m_X5_repaint (v1 : Int32) (μ : fm_I) (ν : fm_L) : Option (Int32 × fm_I × fm_L) :=
  (m_X5_bandAt v1 μ ν).bind (fun r2 => fm_o r2 ((m_X5_refuse ((nI 1)) μ ν).bind (fun r12 => some ((r12.1, r12.2.1, r12.2.2)))) (fun y2 => (m_X5_laid y2 μ ν).bind (fun r18 => m_X5_repaint_27 y2 r18.1 r18.2 (fun x3_27 => some ((x3_27, r18.1, r18.2))) 5000 ((nI 0)) ((nI 0)))))
theorem ok_X5_repaint : fm_okV yX5_repaint cX5_repaint 5 (some .int) 1 := ⟨m_cd_X5_repaint, m_im_X5_repaint, m_se_X5_X5_repaint, m_ini_X5, by decide +kernel, by decide +kernel, by decide +kernel⟩
set_option maxHeartbeats 4000000 in
set_option maxRecDepth 100000 in
theorem j_X5_repaint_27_ {X : fm_X} {G : fm_G} {l : Launch} {q2 : Nat} {μ : fm_I} {ν : fm_L} (C : fm_C X G l cX5_repaint RX5 5 (some .int) 5 106) {F : (Int32 × fm_I × fm_L) → State → Prop} (hF : F = fm_Qi X G)  {K : Int32 → Option (Int32 × fm_I × fm_L)} (hK : ∀ (v3 : Int32), fm_J X G 5 F (K v3) μ ν 71 [(3, .int v3)] []) : ∀ (k : Nat) (v3 : Int32) (v4 : Int32), fm_J X G 5 F (m_X5_repaint_27 q2 μ ν K k v3 v4) μ ν 27 [(0, .ref (G.2.2.1 0)), (2, .ref (G.2.2.1 q2)), (3, .int v3), (4, .int v4)] [] := by
  intro k
  induction k with
  | zero =>
    intro v3 v4
    exact fm_none
  | succ k ih =>
    intro v3 v4
    rw [m_X5_repaint_27]
    refine fm_iload (pc := 27) C dX5_repaint_27 rfl ?_
    refine fm_aload_n (pc := 29) C dX5_repaint_29 rfl rfl ?_
    refine g5_cutting (pc := 30) C (by decide) dX5_repaint_30 m_fl_X5_31 ?_
    refine g1_count (pc := 33) C (by decide) dX5_repaint_33 m_fl_X5_196 ?_
    refine fm_icmp_ge (pc := 36) (tgt := 71) C dX5_repaint_36 (by decide) (fun c1 => ?_) (fun c1 => ?_)
    · refine fm_less (lv' := [(3, .int v3)]) (by repeat (first | exact trivial | refine ⟨rfl, ?_⟩)) ?_
      exact hK _
    · refine fm_iload_n (pc := 39) C dX5_repaint_39 rfl rfl ?_
      refine fm_aload_n (pc := 40) C dX5_repaint_40 rfl rfl ?_
      refine g5_cutting (pc := 41) C (by decide) dX5_repaint_41 m_fl_X5_31 ?_
      refine fm_iload (pc := 44) C dX5_repaint_44 rfl ?_
      refine fm_bind (fun r46 e46 => ?_)
      refine fm_cVi0 (pc := 46) C (t_X1_size e46) ok_X1_size ⟨by decide, rfl⟩ m_ml_X5_202 dX5_repaint_46 ⟨Nat.le_of_ble_eq_true rfl, Nat.le_of_ble_eq_true rfl⟩ rfl rfl (Nat.le_of_ble_eq_true rfl) ?_
      refine fm_aload_n (pc := 49) C dX5_repaint_49 rfl rfl ?_
      refine fm_aload_n (pc := 50) C dX5_repaint_50 rfl rfl ?_
      refine g5_cutting (pc := 51) C (by decide) dX5_repaint_51 m_fl_X5_31 ?_
      refine fm_iload (pc := 54) C dX5_repaint_54 rfl ?_
      refine fm_bind (fun r56 e56 => ?_)
      refine fm_cVi0 (pc := 56) C (t_X1_members e56) ok_X1_members ⟨by decide, rfl⟩ m_ml_X5_205 dX5_repaint_56 ⟨Nat.le_of_ble_eq_true rfl, Nat.le_of_ble_eq_true rfl⟩ rfl rfl (Nat.le_of_ble_eq_true rfl) ?_
      refine fm_guard (fun h2 => ?_)
      refine fm_bind (fun r59 e59 => ?_)
      refine fm_cVi0 (pc := 59) C (t_X0_mostOfOneColour e59) ok_X0_mostOfOneColour (fm_kcn0 (Nat.eq_of_beq_eq_true h2)) m_ml_X5_236 dX5_repaint_59 ⟨Nat.le_of_ble_eq_true rfl, Nat.le_of_ble_eq_true rfl⟩ rfl rfl (Nat.le_of_ble_eq_true rfl) ?_
      refine fm_isub (pc := 62) C dX5_repaint_62 ?_
      refine fm_iadd (pc := 63) C dX5_repaint_63 ?_
      refine fm_istore_n (pc := 64) C dX5_repaint_64 rfl (by decide) rfl ?_
      refine fm_iinc (pc := 65) C dX5_repaint_65 rfl (v := (v4 + nI 1)) rfl (by decide) rfl ?_
      refine fm_goto (pc := 68) (tgt := 27) C dX5_repaint_68 (by decide) ?_
      refine fm_less (lv' := [(0, .ref (G.2.2.1 0)), (2, .ref (G.2.2.1 q2)), (3, .int ((v3 + ((r46 - r59))))), (4, .int ((v4 + nI 1)))]) (by repeat (first | exact trivial | refine ⟨rfl, ?_⟩)) ?_
      exact ih _ _
set_option maxHeartbeats 4000000 in
set_option maxRecDepth 100000 in
theorem j_X5_repaint {X : fm_X} {G : fm_G} {l : Launch} {v1 : Int32} {μ : fm_I} {ν : fm_L} (C : fm_C X G l cX5_repaint RX5 5 (some .int) 5 106) {F : (Int32 × fm_I × fm_L) → State → Prop} (hF : F = fm_Qi X G) : fm_J X G 5 F (m_X5_repaint v1 μ ν) μ ν 0 [(0, .ref (G.2.2.1 0)), (1, .int v1)] [] := by
  unfold m_X5_repaint
  refine fm_aload_n (pc := 0) C dX5_repaint_0 rfl rfl ?_
  refine fm_iload_n (pc := 1) C dX5_repaint_1 rfl rfl ?_
  refine fm_bind (fun r2 e2 => ?_)
  refine fm_cVq0 (pc := 2) C (t_X5_bandAt e2) ok_X5_bandAt ⟨by decide, rfl⟩ m_ml_X5_112 dX5_repaint_2 ⟨Nat.le_of_ble_eq_true rfl, Nat.le_of_ble_eq_true rfl⟩ rfl rfl (Nat.le_of_ble_eq_true rfl) ?_
  refine fm_opt (fun e2 => ?_) (fun y2 e2 => ?_)
  · subst e2
    refine fm_astoreq_n (x := none) (pc := 5) C dX5_repaint_5 rfl (by decide) rfl ?_
    refine fm_aloadq_n (x := none) (pc := 6) C dX5_repaint_6 rfl rfl ?_
    refine fm_ifnonnullN (pc := 7) C dX5_repaint_7 ?_
    refine fm_aload_n (pc := 10) C dX5_repaint_10 rfl rfl ?_
    refine fm_iconst (pc := 11) (v := (nI 1)) C dX5_repaint_11 (by decide) ?_
    refine fm_bind (fun r12 e12 => ?_)
    refine fm_cVi (pc := 12) C (t_X5_refuse e12) ok_X5_refuse ⟨by decide, rfl⟩ m_ml_X5_67 dX5_repaint_12 ⟨Nat.le_of_ble_eq_true rfl, Nat.le_of_ble_eq_true rfl⟩ rfl rfl (Nat.le_of_ble_eq_true rfl) ?_
    exact fm_zret (pc := 15) C hF rfl rfl dX5_repaint_15
  · subst e2
    refine fm_astore_n (pc := 5) C dX5_repaint_5 rfl (by decide) rfl ?_
    refine fm_aload_n (pc := 6) C dX5_repaint_6 rfl rfl ?_
    refine fm_ifnonnullR (pc := 7) (tgt := 16) C dX5_repaint_7 (by decide) ?_
    refine fm_aload_n (pc := 16) C dX5_repaint_16 rfl rfl ?_
    refine fm_aload_n (pc := 17) C dX5_repaint_17 rfl rfl ?_
    refine fm_bind (fun r18 e18 => ?_)
    refine fm_cVqc (pc := 18) C (t_X5_laid e18) ok_X5_laid ⟨by decide, rfl⟩ m_ml_X5_192 dX5_repaint_18 ⟨Nat.le_of_ble_eq_true rfl, Nat.le_of_ble_eq_true rfl⟩ rfl rfl (Nat.le_of_ble_eq_true rfl) ?_
    refine fm_pop (pc := 21) C dX5_repaint_21 rfl ?_
    refine fm_iconst (pc := 22) (v := (nI 0)) C dX5_repaint_22 (by decide) ?_
    refine fm_istore_n (pc := 23) C dX5_repaint_23 rfl (by decide) rfl ?_
    refine fm_iconst (pc := 24) (v := (nI 0)) C dX5_repaint_24 (by decide) ?_
    refine fm_istore (pc := 25) C dX5_repaint_25 (by decide) rfl ?_
    refine fm_less (lv' := [(0, .ref (G.2.2.1 0)), (2, .ref (G.2.2.1 y2)), (3, .int ((nI 0))), (4, .int ((nI 0)))]) (by repeat (first | exact trivial | refine ⟨rfl, ?_⟩)) ?_
    refine j_X5_repaint_27_ C (q2 := y2) hF  (fun x3_27 => ?_) _ _ _
    refine fm_iload_n (pc := 71) C dX5_repaint_71 rfl rfl ?_
    exact fm_zret (pc := 72) C hF rfl rfl dX5_repaint_72
theorem t_X5_repaint {l : Launch} {G : fm_G} {v1 : Int32} {μ : fm_I} {ν : fm_L} {r : Int32 × fm_I × fm_L} (h : m_X5_repaint v1 μ ν = some r) : fm_Mi l G yX5_repaint cX5_repaint 5 (some .int) 5 106 [.ref (G.2.2.1 0), .int v1] μ ν r := fm_Mi_of (by decide +kernel) (Nat.le_of_ble_eq_true rfl) (fun _ C => j_X5_repaint C rfl r h)
theorem dX5_worn_0 : decode cX5_worn 0 = .ok (.aload_n 0, 1) := by decide +kernel
theorem dX5_worn_1 : decode cX5_worn 1 = .ok (.iload_n 1, 1) := by decide +kernel
theorem dX5_worn_2 : decode cX5_worn 2 = .ok (.invokevirtual 112, 3) := by decide +kernel
theorem dX5_worn_5 : decode cX5_worn 5 = .ok (.astore_n 2, 1) := by decide +kernel
theorem dX5_worn_6 : decode cX5_worn 6 = .ok (.aload_n 2, 1) := by decide +kernel
theorem dX5_worn_7 : decode cX5_worn 7 = .ok (.ifnonnull 9, 3) := by decide +kernel
theorem dX5_worn_10 : decode cX5_worn 10 = .ok (.aload_n 0, 1) := by decide +kernel
theorem dX5_worn_11 : decode cX5_worn 11 = .ok (.iconst 1, 1) := by decide +kernel
theorem dX5_worn_12 : decode cX5_worn 12 = .ok (.invokevirtual 67, 3) := by decide +kernel
theorem dX5_worn_15 : decode cX5_worn 15 = .ok (.ireturn, 1) := by decide +kernel
theorem dX5_worn_16 : decode cX5_worn 16 = .ok (.aload_n 0, 1) := by decide +kernel
theorem dX5_worn_17 : decode cX5_worn 17 = .ok (.aload_n 2, 1) := by decide +kernel
theorem dX5_worn_18 : decode cX5_worn 18 = .ok (.invokevirtual 192, 3) := by decide +kernel
theorem dX5_worn_21 : decode cX5_worn 21 = .ok (.pop, 1) := by decide +kernel
theorem dX5_worn_22 : decode cX5_worn 22 = .ok (.iconst 0, 1) := by decide +kernel
theorem dX5_worn_23 : decode cX5_worn 23 = .ok (.istore_n 3, 1) := by decide +kernel
theorem dX5_worn_24 : decode cX5_worn 24 = .ok (.iconst 0, 1) := by decide +kernel
theorem dX5_worn_25 : decode cX5_worn 25 = .ok (.istore 4, 2) := by decide +kernel
theorem dX5_worn_27 : decode cX5_worn 27 = .ok (.iload 4, 2) := by decide +kernel
theorem dX5_worn_29 : decode cX5_worn 29 = .ok (.aload_n 0, 1) := by decide +kernel
theorem dX5_worn_30 : decode cX5_worn 30 = .ok (.getfield 31, 3) := by decide +kernel
theorem dX5_worn_33 : decode cX5_worn 33 = .ok (.getfield 196, 3) := by decide +kernel
theorem dX5_worn_36 : decode cX5_worn 36 = .ok (.if_icmp .ge 28, 3) := by decide +kernel
theorem dX5_worn_39 : decode cX5_worn 39 = .ok (.aload_n 0, 1) := by decide +kernel
theorem dX5_worn_40 : decode cX5_worn 40 = .ok (.getfield 31, 3) := by decide +kernel
theorem dX5_worn_43 : decode cX5_worn 43 = .ok (.iload 4, 2) := by decide +kernel
theorem dX5_worn_45 : decode cX5_worn 45 = .ok (.invokevirtual 211, 3) := by decide +kernel
theorem dX5_worn_48 : decode cX5_worn 48 = .ok (.ifCond .eq 10, 3) := by decide +kernel
theorem dX5_worn_51 : decode cX5_worn 51 = .ok (.iload_n 3, 1) := by decide +kernel
theorem dX5_worn_52 : decode cX5_worn 52 = .ok (.iconst 1, 1) := by decide +kernel
theorem dX5_worn_53 : decode cX5_worn 53 = .ok (.iload 4, 2) := by decide +kernel
theorem dX5_worn_55 : decode cX5_worn 55 = .ok (.ishl, 1) := by decide +kernel
theorem dX5_worn_56 : decode cX5_worn 56 = .ok (.ior, 1) := by decide +kernel
theorem dX5_worn_57 : decode cX5_worn 57 = .ok (.istore_n 3, 1) := by decide +kernel
theorem dX5_worn_58 : decode cX5_worn 58 = .ok (.iinc 4 1, 3) := by decide +kernel
theorem dX5_worn_61 : decode cX5_worn 61 = .ok (.goto (-34), 3) := by decide +kernel
theorem dX5_worn_64 : decode cX5_worn 64 = .ok (.iload_n 3, 1) := by decide +kernel
theorem dX5_worn_65 : decode cX5_worn 65 = .ok (.ireturn, 1) := by decide +kernel
def m_X5_worn_27  (μ : fm_I) (ν : fm_L) (K : Int32 → Option (Int32 × fm_I × fm_L)) : Nat → Int32 → Int32 → Option (Int32 × fm_I × fm_L)
  | 0, _, _ => none
  | k + 1, v3, v4 => if (μ 5 0) ≤ v4 then K v3 else (m_X1_isOneSided v4 μ ν).bind (fun r45 => if r45 = 0 then m_X5_worn_27 μ ν K k v3 ((v4 + nI 1)) else m_X5_worn_27 μ ν K k ((v3 ||| ((((nI 1)) <<< (v4 &&& 31))))) ((v4 + nI 1)))
def m_X5_worn (v1 : Int32) (μ : fm_I) (ν : fm_L) : Option (Int32 × fm_I × fm_L) :=
  (m_X5_bandAt v1 μ ν).bind (fun r2 => fm_o r2 ((m_X5_refuse ((nI 1)) μ ν).bind (fun r12 => some ((r12.1, r12.2.1, r12.2.2)))) (fun y2 => (m_X5_laid y2 μ ν).bind (fun r18 => m_X5_worn_27 r18.1 r18.2 (fun x3_27 => some ((x3_27, r18.1, r18.2))) 5000 ((nI 0)) ((nI 0)))))
theorem ok_X5_worn : fm_okV yX5_worn cX5_worn 5 (some .int) 1 := ⟨m_cd_X5_worn, m_im_X5_worn, m_se_X5_X5_worn, m_ini_X5, by decide +kernel, by decide +kernel, by decide +kernel⟩
set_option maxHeartbeats 4000000 in
set_option maxRecDepth 100000 in
theorem j_X5_worn_27_ {X : fm_X} {G : fm_G} {l : Launch}  {μ : fm_I} {ν : fm_L} (C : fm_C X G l cX5_worn RX5 5 (some .int) 6 117) {F : (Int32 × fm_I × fm_L) → State → Prop} (hF : F = fm_Qi X G)  {K : Int32 → Option (Int32 × fm_I × fm_L)} (hK : ∀ (v3 : Int32), fm_J X G 5 F (K v3) μ ν 64 [(3, .int v3)] []) : ∀ (k : Nat) (v3 : Int32) (v4 : Int32), fm_J X G 5 F (m_X5_worn_27  μ ν K k v3 v4) μ ν 27 [(0, .ref (G.2.2.1 0)), (3, .int v3), (4, .int v4)] [] := by
  intro k
  induction k with
  | zero =>
    intro v3 v4
    exact fm_none
  | succ k ih =>
    intro v3 v4
    rw [m_X5_worn_27]
    refine fm_iload (pc := 27) C dX5_worn_27 rfl ?_
    refine fm_aload_n (pc := 29) C dX5_worn_29 rfl rfl ?_
    refine g5_cutting (pc := 30) C (by decide) dX5_worn_30 m_fl_X5_31 ?_
    refine g1_count (pc := 33) C (by decide) dX5_worn_33 m_fl_X5_196 ?_
    refine fm_icmp_ge (pc := 36) (tgt := 64) C dX5_worn_36 (by decide) (fun c1 => ?_) (fun c1 => ?_)
    · refine fm_less (lv' := [(3, .int v3)]) (by repeat (first | exact trivial | refine ⟨rfl, ?_⟩)) ?_
      exact hK _
    · refine fm_aload_n (pc := 39) C dX5_worn_39 rfl rfl ?_
      refine g5_cutting (pc := 40) C (by decide) dX5_worn_40 m_fl_X5_31 ?_
      refine fm_iload (pc := 43) C dX5_worn_43 rfl ?_
      refine fm_bind (fun r45 e45 => ?_)
      refine fm_cVi0 (pc := 45) C (t_X1_isOneSided e45) ok_X1_isOneSided ⟨by decide, rfl⟩ m_ml_X5_211 dX5_worn_45 ⟨Nat.le_of_ble_eq_true rfl, Nat.le_of_ble_eq_true rfl⟩ rfl rfl (Nat.le_of_ble_eq_true rfl) ?_
      refine fm_if_eq (pc := 48) (tgt := 58) C dX5_worn_48 (by decide) (fun c2 => ?_) (fun c2 => ?_)
      · refine fm_iinc (pc := 58) C dX5_worn_58 rfl (v := (v4 + nI 1)) rfl (by decide) rfl ?_
        refine fm_goto (pc := 61) (tgt := 27) C dX5_worn_61 (by decide) ?_
        refine fm_less (lv' := [(0, .ref (G.2.2.1 0)), (3, .int v3), (4, .int ((v4 + nI 1)))]) (by repeat (first | exact trivial | refine ⟨rfl, ?_⟩)) ?_
        exact ih _ _
      · refine fm_iload_n (pc := 51) C dX5_worn_51 rfl rfl ?_
        refine fm_iconst (pc := 52) (v := (nI 1)) C dX5_worn_52 (by decide) ?_
        refine fm_iload (pc := 53) C dX5_worn_53 rfl ?_
        refine fm_ishl (pc := 55) C dX5_worn_55 ?_
        refine fm_ior (pc := 56) C dX5_worn_56 ?_
        refine fm_istore_n (pc := 57) C dX5_worn_57 rfl (by decide) rfl ?_
        refine fm_iinc (pc := 58) C dX5_worn_58 rfl (v := (v4 + nI 1)) rfl (by decide) rfl ?_
        refine fm_goto (pc := 61) (tgt := 27) C dX5_worn_61 (by decide) ?_
        refine fm_less (lv' := [(0, .ref (G.2.2.1 0)), (3, .int ((v3 ||| ((((nI 1)) <<< (v4 &&& 31)))))), (4, .int ((v4 + nI 1)))]) (by repeat (first | exact trivial | refine ⟨rfl, ?_⟩)) ?_
        exact ih _ _
set_option maxHeartbeats 4000000 in
set_option maxRecDepth 100000 in
theorem j_X5_worn {X : fm_X} {G : fm_G} {l : Launch} {v1 : Int32} {μ : fm_I} {ν : fm_L} (C : fm_C X G l cX5_worn RX5 5 (some .int) 6 117) {F : (Int32 × fm_I × fm_L) → State → Prop} (hF : F = fm_Qi X G) : fm_J X G 5 F (m_X5_worn v1 μ ν) μ ν 0 [(0, .ref (G.2.2.1 0)), (1, .int v1)] [] := by
  unfold m_X5_worn
  refine fm_aload_n (pc := 0) C dX5_worn_0 rfl rfl ?_
  refine fm_iload_n (pc := 1) C dX5_worn_1 rfl rfl ?_
  refine fm_bind (fun r2 e2 => ?_)
  refine fm_cVq0 (pc := 2) C (t_X5_bandAt e2) ok_X5_bandAt ⟨by decide, rfl⟩ m_ml_X5_112 dX5_worn_2 ⟨Nat.le_of_ble_eq_true rfl, Nat.le_of_ble_eq_true rfl⟩ rfl rfl (Nat.le_of_ble_eq_true rfl) ?_
  refine fm_opt (fun e2 => ?_) (fun y2 e2 => ?_)
  · subst e2
    refine fm_astoreq_n (x := none) (pc := 5) C dX5_worn_5 rfl (by decide) rfl ?_
    refine fm_aloadq_n (x := none) (pc := 6) C dX5_worn_6 rfl rfl ?_
    refine fm_ifnonnullN (pc := 7) C dX5_worn_7 ?_
    refine fm_aload_n (pc := 10) C dX5_worn_10 rfl rfl ?_
    refine fm_iconst (pc := 11) (v := (nI 1)) C dX5_worn_11 (by decide) ?_
    refine fm_bind (fun r12 e12 => ?_)
    refine fm_cVi (pc := 12) C (t_X5_refuse e12) ok_X5_refuse ⟨by decide, rfl⟩ m_ml_X5_67 dX5_worn_12 ⟨Nat.le_of_ble_eq_true rfl, Nat.le_of_ble_eq_true rfl⟩ rfl rfl (Nat.le_of_ble_eq_true rfl) ?_
    exact fm_zret (pc := 15) C hF rfl rfl dX5_worn_15
  · subst e2
    refine fm_astore_n (pc := 5) C dX5_worn_5 rfl (by decide) rfl ?_
    refine fm_aload_n (pc := 6) C dX5_worn_6 rfl rfl ?_
    refine fm_ifnonnullR (pc := 7) (tgt := 16) C dX5_worn_7 (by decide) ?_
    refine fm_aload_n (pc := 16) C dX5_worn_16 rfl rfl ?_
    refine fm_aload_n (pc := 17) C dX5_worn_17 rfl rfl ?_
    refine fm_bind (fun r18 e18 => ?_)
    refine fm_cVqc (pc := 18) C (t_X5_laid e18) ok_X5_laid ⟨by decide, rfl⟩ m_ml_X5_192 dX5_worn_18 ⟨Nat.le_of_ble_eq_true rfl, Nat.le_of_ble_eq_true rfl⟩ rfl rfl (Nat.le_of_ble_eq_true rfl) ?_
    refine fm_pop (pc := 21) C dX5_worn_21 rfl ?_
    refine fm_iconst (pc := 22) (v := (nI 0)) C dX5_worn_22 (by decide) ?_
    refine fm_istore_n (pc := 23) C dX5_worn_23 rfl (by decide) rfl ?_
    refine fm_iconst (pc := 24) (v := (nI 0)) C dX5_worn_24 (by decide) ?_
    refine fm_istore (pc := 25) C dX5_worn_25 (by decide) rfl ?_
    refine fm_less (lv' := [(0, .ref (G.2.2.1 0)), (3, .int ((nI 0))), (4, .int ((nI 0)))]) (by repeat (first | exact trivial | refine ⟨rfl, ?_⟩)) ?_
    refine j_X5_worn_27_ C  hF  (fun x3_27 => ?_) _ _ _
    refine fm_iload_n (pc := 64) C dX5_worn_64 rfl rfl ?_
    exact fm_zret (pc := 65) C hF rfl rfl dX5_worn_65
theorem t_X5_worn {l : Launch} {G : fm_G} {v1 : Int32} {μ : fm_I} {ν : fm_L} {r : Int32 × fm_I × fm_L} (h : m_X5_worn v1 μ ν = some r) : fm_Mi l G yX5_worn cX5_worn 5 (some .int) 6 117 [.ref (G.2.2.1 0), .int v1] μ ν r := fm_Mi_of (by decide +kernel) (Nat.le_of_ble_eq_true rfl) (fun _ C => j_X5_worn C rfl r h)
theorem dX5_toldRefusal_0 : decode cX5_toldRefusal 0 = .ok (.aload_n 0, 1) := by decide +kernel
theorem dX5_toldRefusal_1 : decode cX5_toldRefusal 1 = .ok (.iload_n 1, 1) := by decide +kernel
theorem dX5_toldRefusal_2 : decode cX5_toldRefusal 2 = .ok (.invokevirtual 103, 3) := by decide +kernel
theorem dX5_toldRefusal_5 : decode cX5_toldRefusal 5 = .ok (.ifCond .ne 5, 3) := by decide +kernel
theorem dX5_toldRefusal_8 : decode cX5_toldRefusal 8 = .ok (.iconst 1, 1) := by decide +kernel
theorem dX5_toldRefusal_9 : decode cX5_toldRefusal 9 = .ok (.ireturn, 1) := by decide +kernel
theorem dX5_toldRefusal_10 : decode cX5_toldRefusal 10 = .ok (.aload_n 0, 1) := by decide +kernel
theorem dX5_toldRefusal_11 : decode cX5_toldRefusal 11 = .ok (.iload_n 2, 1) := by decide +kernel
theorem dX5_toldRefusal_12 : decode cX5_toldRefusal 12 = .ok (.invokevirtual 75, 3) := by decide +kernel
theorem dX5_toldRefusal_15 : decode cX5_toldRefusal 15 = .ok (.istore 4, 2) := by decide +kernel
theorem dX5_toldRefusal_17 : decode cX5_toldRefusal 17 = .ok (.iload 4, 2) := by decide +kernel
theorem dX5_toldRefusal_19 : decode cX5_toldRefusal 19 = .ok (.ifCond .eq 6, 3) := by decide +kernel
theorem dX5_toldRefusal_22 : decode cX5_toldRefusal 22 = .ok (.iload 4, 2) := by decide +kernel
theorem dX5_toldRefusal_24 : decode cX5_toldRefusal 24 = .ok (.ireturn, 1) := by decide +kernel
theorem dX5_toldRefusal_25 : decode cX5_toldRefusal 25 = .ok (.iload_n 3, 1) := by decide +kernel
theorem dX5_toldRefusal_26 : decode cX5_toldRefusal 26 = .ok (.ifCond .ge 5, 3) := by decide +kernel
theorem dX5_toldRefusal_29 : decode cX5_toldRefusal 29 = .ok (.iconst 4, 1) := by decide +kernel
theorem dX5_toldRefusal_30 : decode cX5_toldRefusal 30 = .ok (.ireturn, 1) := by decide +kernel
theorem dX5_toldRefusal_31 : decode cX5_toldRefusal 31 = .ok (.aload_n 0, 1) := by decide +kernel
theorem dX5_toldRefusal_32 : decode cX5_toldRefusal 32 = .ok (.getfield 11, 3) := by decide +kernel
theorem dX5_toldRefusal_35 : decode cX5_toldRefusal 35 = .ok (.iload_n 2, 1) := by decide +kernel
theorem dX5_toldRefusal_36 : decode cX5_toldRefusal 36 = .ok (.aaload, 1) := by decide +kernel
theorem dX5_toldRefusal_37 : decode cX5_toldRefusal 37 = .ok (.iconst 0, 1) := by decide +kernel
theorem dX5_toldRefusal_38 : decode cX5_toldRefusal 38 = .ok (.iload_n 3, 1) := by decide +kernel
theorem dX5_toldRefusal_39 : decode cX5_toldRefusal 39 = .ok (.invokevirtual 318, 3) := by decide +kernel
theorem dX5_toldRefusal_42 : decode cX5_toldRefusal 42 = .ok (.ifCond .eq 7, 3) := by decide +kernel
theorem dX5_toldRefusal_45 : decode cX5_toldRefusal 45 = .ok (.iconst 0, 1) := by decide +kernel
theorem dX5_toldRefusal_46 : decode cX5_toldRefusal 46 = .ok (.goto 4, 3) := by decide +kernel
theorem dX5_toldRefusal_49 : decode cX5_toldRefusal 49 = .ok (.iconst 5, 1) := by decide +kernel
theorem dX5_toldRefusal_50 : decode cX5_toldRefusal 50 = .ok (.ireturn, 1) := by decide +kernel
def m_X5_toldRefusal (v1 : Int32) (v2 : Int32) (v3 : Int32) (μ : fm_I) (ν : fm_L) : Option (Int32) :=
  (m_X5_isBand v1 μ ν).bind (fun r2 => if r2 = 0 then some ((nI 1)) else (m_X5_rowRefusal v2 μ ν).bind (fun r12 => if r12 = 0 then if 0 ≤ v3 then fm_g (fm_in v2 8) ((m_X2_hasElements ((18 + v2.toNatClampNeg)) ((nI 0)) v3 μ ν).bind (fun r39 => if r39 = 0 then some ((nI 5)) else some ((nI 0)))) else some ((nI 4)) else some r12))
theorem ok_X5_toldRefusal : fm_okV yX5_toldRefusal cX5_toldRefusal 5 (some .int) 3 := ⟨m_cd_X5_toldRefusal, m_im_X5_toldRefusal, m_se_X5_X5_toldRefusal, m_ini_X5, by decide +kernel, by decide +kernel, by decide +kernel⟩
set_option maxHeartbeats 4000000 in
set_option maxRecDepth 100000 in
theorem j_X5_toldRefusal {X : fm_X} {G : fm_G} {l : Launch} {v1 : Int32} {v2 : Int32} {v3 : Int32} {μ : fm_I} {ν : fm_L} (C : fm_C X G l cX5_toldRefusal RX5 5 (some .int) 3 54) {F : Int32 → State → Prop} (hF : F = fun r => fm_Qi X G (r, μ, ν)) : fm_J X G 5 F (m_X5_toldRefusal v1 v2 v3 μ ν) μ ν 0 [(0, .ref (G.2.2.1 0)), (1, .int v1), (2, .int v2), (3, .int v3)] [] := by
  unfold m_X5_toldRefusal
  refine fm_aload_n (pc := 0) C dX5_toldRefusal_0 rfl rfl ?_
  refine fm_iload_n (pc := 1) C dX5_toldRefusal_1 rfl rfl ?_
  refine fm_bind (fun r2 e2 => ?_)
  refine fm_cVi0 (pc := 2) C (t_X5_isBand e2) ok_X5_isBand ⟨by decide, rfl⟩ m_ml_X5_103 dX5_toldRefusal_2 ⟨Nat.le_of_ble_eq_true rfl, Nat.le_of_ble_eq_true rfl⟩ rfl rfl (Nat.le_of_ble_eq_true rfl) ?_
  refine fm_if_ne (pc := 5) (tgt := 10) C dX5_toldRefusal_5 (by decide) (fun c1 => ?_) (fun c1 => ?_)
  · refine fm_iconst (pc := 8) (v := (nI 1)) C dX5_toldRefusal_8 (by decide) ?_
    exact fm_zret0 (pc := 9) C hF rfl rfl dX5_toldRefusal_9
  · refine fm_aload_n (pc := 10) C dX5_toldRefusal_10 rfl rfl ?_
    refine fm_iload_n (pc := 11) C dX5_toldRefusal_11 rfl rfl ?_
    refine fm_bind (fun r12 e12 => ?_)
    refine fm_cVi0 (pc := 12) C (t_X5_rowRefusal e12) ok_X5_rowRefusal ⟨by decide, rfl⟩ m_ml_X5_75 dX5_toldRefusal_12 ⟨Nat.le_of_ble_eq_true rfl, Nat.le_of_ble_eq_true rfl⟩ rfl rfl (Nat.le_of_ble_eq_true rfl) ?_
    refine fm_istore (pc := 15) C dX5_toldRefusal_15 (by decide) rfl ?_
    refine fm_iload (pc := 17) C dX5_toldRefusal_17 rfl ?_
    refine fm_if_eq (pc := 19) (tgt := 25) C dX5_toldRefusal_19 (by decide) (fun c2 => ?_) (fun c2 => ?_)
    · refine fm_iload_n (pc := 25) C dX5_toldRefusal_25 rfl rfl ?_
      refine fm_if_ge (pc := 26) (tgt := 31) C dX5_toldRefusal_26 (by decide) (fun c3 => ?_) (fun c3 => ?_)
      · refine fm_aload_n (pc := 31) C dX5_toldRefusal_31 rfl rfl ?_
        refine g5_shelves (pc := 32) C (by decide) dX5_toldRefusal_32 m_fl_X5_11 ?_
        refine fm_iload_n (pc := 35) C dX5_toldRefusal_35 rfl rfl ?_
        refine fm_guard (fun h4 => ?_)
        refine fm_aaldS (pc := 36) C h4 dX5_toldRefusal_36 ?_
        refine fm_iconst (pc := 37) (v := (nI 0)) C dX5_toldRefusal_37 (by decide) ?_
        refine fm_iload_n (pc := 38) C dX5_toldRefusal_38 rfl rfl ?_
        refine fm_bind (fun r39 e39 => ?_)
        refine fm_cVi0 (pc := 39) C (t_X2_hasElements e39) ok_X2_hasElements (fm_kcn2 (fm_k18 h4)) m_ml_X5_318 dX5_toldRefusal_39 ⟨Nat.le_of_ble_eq_true rfl, Nat.le_of_ble_eq_true rfl⟩ rfl rfl (Nat.le_of_ble_eq_true rfl) ?_
        refine fm_if_eq (pc := 42) (tgt := 49) C dX5_toldRefusal_42 (by decide) (fun c5 => ?_) (fun c5 => ?_)
        · refine fm_iconst (pc := 49) (v := (nI 5)) C dX5_toldRefusal_49 (by decide) ?_
          exact fm_zret0 (pc := 50) C hF rfl rfl dX5_toldRefusal_50
        · refine fm_iconst (pc := 45) (v := (nI 0)) C dX5_toldRefusal_45 (by decide) ?_
          refine fm_goto (pc := 46) (tgt := 50) C dX5_toldRefusal_46 (by decide) ?_
          exact fm_zret0 (pc := 50) C hF rfl rfl dX5_toldRefusal_50
      · refine fm_iconst (pc := 29) (v := (nI 4)) C dX5_toldRefusal_29 (by decide) ?_
        exact fm_zret0 (pc := 30) C hF rfl rfl dX5_toldRefusal_30
    · refine fm_iload (pc := 22) C dX5_toldRefusal_22 rfl ?_
      exact fm_zret0 (pc := 24) C hF rfl rfl dX5_toldRefusal_24
theorem t_X5_toldRefusal {l : Launch} {G : fm_G} {v1 : Int32} {v2 : Int32} {v3 : Int32} {μ : fm_I} {ν : fm_L} {r : Int32} (h : m_X5_toldRefusal v1 v2 v3 μ ν = some r) : fm_Mi l G yX5_toldRefusal cX5_toldRefusal 5 (some .int) 3 54 [.ref (G.2.2.1 0), .int v1, .int v2, .int v3] μ ν (r, μ, ν) := fm_Mi_of (by decide +kernel) (Nat.le_of_ble_eq_true rfl) (fun _ C => j_X5_toldRefusal C rfl r h)
theorem dX5_judge_0 : decode cX5_judge 0 = .ok (.aload_n 0, 1) := by decide +kernel
theorem dX5_judge_1 : decode cX5_judge 1 = .ok (.iload_n 1, 1) := by decide +kernel
theorem dX5_judge_2 : decode cX5_judge 2 = .ok (.iload_n 2, 1) := by decide +kernel
theorem dX5_judge_3 : decode cX5_judge 3 = .ok (.iload_n 3, 1) := by decide +kernel
theorem dX5_judge_4 : decode cX5_judge 4 = .ok (.invokevirtual 239, 3) := by decide +kernel
theorem dX5_judge_7 : decode cX5_judge 7 = .ok (.istore 4, 2) := by decide +kernel
theorem dX5_judge_9 : decode cX5_judge 9 = .ok (.iload 4, 2) := by decide +kernel
theorem dX5_judge_11 : decode cX5_judge 11 = .ok (.ifCond .eq 12, 3) := by decide +kernel
theorem dX5_judge_14 : decode cX5_judge 14 = .ok (.aload_n 0, 1) := by decide +kernel
theorem dX5_judge_15 : decode cX5_judge 15 = .ok (.bipush 10, 2) := by decide +kernel
theorem dX5_judge_17 : decode cX5_judge 17 = .ok (.iload 4, 2) := by decide +kernel
theorem dX5_judge_19 : decode cX5_judge 19 = .ok (.invokevirtual 218, 3) := by decide +kernel
theorem dX5_judge_22 : decode cX5_judge 22 = .ok (.ireturn, 1) := by decide +kernel
theorem dX5_judge_23 : decode cX5_judge 23 = .ok (.aload_n 0, 1) := by decide +kernel
theorem dX5_judge_24 : decode cX5_judge 24 = .ok (.aload_n 0, 1) := by decide +kernel
theorem dX5_judge_25 : decode cX5_judge 25 = .ok (.getfield 17, 3) := by decide +kernel
theorem dX5_judge_28 : decode cX5_judge 28 = .ok (.iload_n 1, 1) := by decide +kernel
theorem dX5_judge_29 : decode cX5_judge 29 = .ok (.aaload, 1) := by decide +kernel
theorem dX5_judge_30 : decode cX5_judge 30 = .ok (.invokevirtual 192, 3) := by decide +kernel
theorem dX5_judge_33 : decode cX5_judge 33 = .ok (.pop, 1) := by decide +kernel
theorem dX5_judge_34 : decode cX5_judge 34 = .ok (.iconst 0, 1) := by decide +kernel
theorem dX5_judge_35 : decode cX5_judge 35 = .ok (.istore 5, 2) := by decide +kernel
theorem dX5_judge_37 : decode cX5_judge 37 = .ok (.iload 5, 2) := by decide +kernel
theorem dX5_judge_39 : decode cX5_judge 39 = .ok (.iload_n 3, 1) := by decide +kernel
theorem dX5_judge_40 : decode cX5_judge 40 = .ok (.if_icmp .ge 47, 3) := by decide +kernel
theorem dX5_judge_43 : decode cX5_judge 43 = .ok (.aload_n 0, 1) := by decide +kernel
theorem dX5_judge_44 : decode cX5_judge 44 = .ok (.getfield 31, 3) := by decide +kernel
theorem dX5_judge_47 : decode cX5_judge 47 = .ok (.iload 5, 2) := by decide +kernel
theorem dX5_judge_49 : decode cX5_judge 49 = .ok (.invokevirtual 199, 3) := by decide +kernel
theorem dX5_judge_52 : decode cX5_judge 52 = .ok (.ifCond .eq 26, 3) := by decide +kernel
theorem dX5_judge_55 : decode cX5_judge 55 = .ok (.aload_n 0, 1) := by decide +kernel
theorem dX5_judge_56 : decode cX5_judge 56 = .ok (.getfield 11, 3) := by decide +kernel
theorem dX5_judge_59 : decode cX5_judge 59 = .ok (.iload_n 2, 1) := by decide +kernel
theorem dX5_judge_60 : decode cX5_judge 60 = .ok (.aaload, 1) := by decide +kernel
theorem dX5_judge_61 : decode cX5_judge 61 = .ok (.iload 5, 2) := by decide +kernel
theorem dX5_judge_63 : decode cX5_judge 63 = .ok (.invokevirtual 243, 3) := by decide +kernel
theorem dX5_judge_66 : decode cX5_judge 66 = .ok (.aload_n 0, 1) := by decide +kernel
theorem dX5_judge_67 : decode cX5_judge 67 = .ok (.getfield 31, 3) := by decide +kernel
theorem dX5_judge_70 : decode cX5_judge 70 = .ok (.iload 5, 2) := by decide +kernel
theorem dX5_judge_72 : decode cX5_judge 72 = .ok (.invokevirtual 202, 3) := by decide +kernel
theorem dX5_judge_75 : decode cX5_judge 75 = .ok (.if_icmp .eq 6, 3) := by decide +kernel
theorem dX5_judge_78 : decode cX5_judge 78 = .ok (.iload 5, 2) := by decide +kernel
theorem dX5_judge_80 : decode cX5_judge 80 = .ok (.ireturn, 1) := by decide +kernel
theorem dX5_judge_81 : decode cX5_judge 81 = .ok (.iinc 5 1, 3) := by decide +kernel
theorem dX5_judge_84 : decode cX5_judge 84 = .ok (.goto (-47), 3) := by decide +kernel
theorem dX5_judge_87 : decode cX5_judge 87 = .ok (.aload_n 0, 1) := by decide +kernel
theorem dX5_judge_88 : decode cX5_judge 88 = .ok (.getfield 31, 3) := by decide +kernel
theorem dX5_judge_91 : decode cX5_judge 91 = .ok (.getfield 196, 3) := by decide +kernel
theorem dX5_judge_94 : decode cX5_judge 94 = .ok (.iload_n 3, 1) := by decide +kernel
theorem dX5_judge_95 : decode cX5_judge 95 = .ok (.if_icmp .le 7, 3) := by decide +kernel
theorem dX5_judge_98 : decode cX5_judge 98 = .ok (.iload_n 3, 1) := by decide +kernel
theorem dX5_judge_99 : decode cX5_judge 99 = .ok (.goto 4, 3) := by decide +kernel
theorem dX5_judge_102 : decode cX5_judge 102 = .ok (.iconst (-1), 1) := by decide +kernel
theorem dX5_judge_103 : decode cX5_judge 103 = .ok (.ireturn, 1) := by decide +kernel
def m_X5_judge_37 (v2 : Int32) (v3 : Int32) (μ : fm_I) (ν : fm_L) (K : Option (Int32 × fm_I × fm_L)) : Nat → Int32 → Option (Int32 × fm_I × fm_L)
  | 0, _ => none
  | k + 1, v5 => if v3 ≤ v5 then K else (m_X1_hasPiece v5 μ ν).bind (fun r49 => if r49 = 0 then some ((v5, μ, ν)) else fm_g (fm_in v2 8) ((m_X2_intAt ((18 + v2.toNatClampNeg)) v5 μ ν).bind (fun r63 => (m_X1_size v5 μ ν).bind (fun r72 => if r63 = r72 then m_X5_judge_37 v2 v3 μ ν K k ((v5 + nI 1)) else some ((v5, μ, ν))))))
def m_X5_judge (v1 : Int32) (v2 : Int32) (v3 : Int32) (μ : fm_I) (ν : fm_L) : Option (Int32 × fm_I × fm_L) :=
  (m_X5_toldRefusal v1 v2 v3 μ ν).bind (fun r4 => if r4 = 0 then fm_g (fm_in v1 6) ((m_X5_laid ((34 + v1.toNatClampNeg)) μ ν).bind (fun r30 => m_X5_judge_37 v2 v3 r30.1 r30.2 (if (r30.1 5 0) ≤ v3 then some (((-1 : Int32), r30.1, r30.2)) else some ((v3, r30.1, r30.2))) 5000 ((nI 0)))) else (m_X5_refuseOffBy ((nI 10)) r4 μ ν).bind (fun r19 => some ((r19.1, r19.2.1, r19.2.2))))
theorem ok_X5_judge : fm_okV yX5_judge cX5_judge 6 (some .int) 3 := ⟨m_cd_X5_judge, m_im_X5_judge, m_se_X5_X5_judge, m_ini_X5, by decide +kernel, by decide +kernel, by decide +kernel⟩
set_option maxHeartbeats 4000000 in
set_option maxRecDepth 100000 in
theorem j_X5_judge_37_ {X : fm_X} {G : fm_G} {l : Launch} {v2 : Int32} {v3 : Int32} {μ : fm_I} {ν : fm_L} (C : fm_C X G l cX5_judge RX5 6 (some .int) 5 106) {F : (Int32 × fm_I × fm_L) → State → Prop} (hF : F = fm_Qi X G)  {K : Option (Int32 × fm_I × fm_L)} (hK : fm_J X G 6 F (K ) μ ν 87 [(0, .ref (G.2.2.1 0)), (3, .int v3)] []) : ∀ (k : Nat) (v5 : Int32), fm_J X G 6 F (m_X5_judge_37 v2 v3 μ ν K k v5) μ ν 37 [(0, .ref (G.2.2.1 0)), (2, .int v2), (3, .int v3), (5, .int v5)] [] := by
  intro k
  induction k with
  | zero =>
    intro v5
    exact fm_none
  | succ k ih =>
    intro v5
    rw [m_X5_judge_37]
    refine fm_iload (pc := 37) C dX5_judge_37 rfl ?_
    refine fm_iload_n (pc := 39) C dX5_judge_39 rfl rfl ?_
    refine fm_icmp_ge (pc := 40) (tgt := 87) C dX5_judge_40 (by decide) (fun c3 => ?_) (fun c3 => ?_)
    · refine fm_less (lv' := [(0, .ref (G.2.2.1 0)), (3, .int v3)]) (by repeat (first | exact trivial | refine ⟨rfl, ?_⟩)) ?_
      exact hK
    · refine fm_aload_n (pc := 43) C dX5_judge_43 rfl rfl ?_
      refine g5_cutting (pc := 44) C (by decide) dX5_judge_44 m_fl_X5_31 ?_
      refine fm_iload (pc := 47) C dX5_judge_47 rfl ?_
      refine fm_bind (fun r49 e49 => ?_)
      refine fm_cVi0 (pc := 49) C (t_X1_hasPiece e49) ok_X1_hasPiece ⟨by decide, rfl⟩ m_ml_X5_199 dX5_judge_49 ⟨Nat.le_of_ble_eq_true rfl, Nat.le_of_ble_eq_true rfl⟩ rfl rfl (Nat.le_of_ble_eq_true rfl) ?_
      refine fm_if_eq (pc := 52) (tgt := 78) C dX5_judge_52 (by decide) (fun c4 => ?_) (fun c4 => ?_)
      · refine fm_iload (pc := 78) C dX5_judge_78 rfl ?_
        exact fm_zret (pc := 80) C hF rfl rfl dX5_judge_80
      · refine fm_aload_n (pc := 55) C dX5_judge_55 rfl rfl ?_
        refine g5_shelves (pc := 56) C (by decide) dX5_judge_56 m_fl_X5_11 ?_
        refine fm_iload_n (pc := 59) C dX5_judge_59 rfl rfl ?_
        refine fm_guard (fun h5 => ?_)
        refine fm_aaldS (pc := 60) C h5 dX5_judge_60 ?_
        refine fm_iload (pc := 61) C dX5_judge_61 rfl ?_
        refine fm_bind (fun r63 e63 => ?_)
        refine fm_cVi0 (pc := 63) C (t_X2_intAt e63) ok_X2_intAt (fm_kcn2 (fm_k18 h5)) m_ml_X5_243 dX5_judge_63 ⟨Nat.le_of_ble_eq_true rfl, Nat.le_of_ble_eq_true rfl⟩ rfl rfl (Nat.le_of_ble_eq_true rfl) ?_
        refine fm_aload_n (pc := 66) C dX5_judge_66 rfl rfl ?_
        refine g5_cutting (pc := 67) C (by decide) dX5_judge_67 m_fl_X5_31 ?_
        refine fm_iload (pc := 70) C dX5_judge_70 rfl ?_
        refine fm_bind (fun r72 e72 => ?_)
        refine fm_cVi0 (pc := 72) C (t_X1_size e72) ok_X1_size ⟨by decide, rfl⟩ m_ml_X5_202 dX5_judge_72 ⟨Nat.le_of_ble_eq_true rfl, Nat.le_of_ble_eq_true rfl⟩ rfl rfl (Nat.le_of_ble_eq_true rfl) ?_
        refine fm_icmp_eq (pc := 75) (tgt := 81) C dX5_judge_75 (by decide) (fun c6 => ?_) (fun c6 => ?_)
        · refine fm_iinc (pc := 81) C dX5_judge_81 rfl (v := (v5 + nI 1)) rfl (by decide) rfl ?_
          refine fm_goto (pc := 84) (tgt := 37) C dX5_judge_84 (by decide) ?_
          refine fm_less (lv' := [(0, .ref (G.2.2.1 0)), (2, .int v2), (3, .int v3), (5, .int ((v5 + nI 1)))]) (by repeat (first | exact trivial | refine ⟨rfl, ?_⟩)) ?_
          exact ih _
        · refine fm_iload (pc := 78) C dX5_judge_78 rfl ?_
          exact fm_zret (pc := 80) C hF rfl rfl dX5_judge_80
set_option maxHeartbeats 4000000 in
set_option maxRecDepth 100000 in
theorem j_X5_judge {X : fm_X} {G : fm_G} {l : Launch} {v1 : Int32} {v2 : Int32} {v3 : Int32} {μ : fm_I} {ν : fm_L} (C : fm_C X G l cX5_judge RX5 6 (some .int) 5 106) {F : (Int32 × fm_I × fm_L) → State → Prop} (hF : F = fm_Qi X G) : fm_J X G 6 F (m_X5_judge v1 v2 v3 μ ν) μ ν 0 [(0, .ref (G.2.2.1 0)), (1, .int v1), (2, .int v2), (3, .int v3)] [] := by
  unfold m_X5_judge
  refine fm_aload_n (pc := 0) C dX5_judge_0 rfl rfl ?_
  refine fm_iload_n (pc := 1) C dX5_judge_1 rfl rfl ?_
  refine fm_iload_n (pc := 2) C dX5_judge_2 rfl rfl ?_
  refine fm_iload_n (pc := 3) C dX5_judge_3 rfl rfl ?_
  refine fm_bind (fun r4 e4 => ?_)
  refine fm_cVi0 (pc := 4) C (t_X5_toldRefusal e4) ok_X5_toldRefusal ⟨by decide, rfl⟩ m_ml_X5_239 dX5_judge_4 ⟨Nat.le_of_ble_eq_true rfl, Nat.le_of_ble_eq_true rfl⟩ rfl rfl (Nat.le_of_ble_eq_true rfl) ?_
  refine fm_istore (pc := 7) C dX5_judge_7 (by decide) rfl ?_
  refine fm_iload (pc := 9) C dX5_judge_9 rfl ?_
  refine fm_if_eq (pc := 11) (tgt := 23) C dX5_judge_11 (by decide) (fun c1 => ?_) (fun c1 => ?_)
  · refine fm_aload_n (pc := 23) C dX5_judge_23 rfl rfl ?_
    refine fm_aload_n (pc := 24) C dX5_judge_24 rfl rfl ?_
    refine g5_bands (pc := 25) C (by decide) dX5_judge_25 m_fl_X5_17 ?_
    refine fm_iload_n (pc := 28) C dX5_judge_28 rfl rfl ?_
    refine fm_guard (fun h2 => ?_)
    refine fm_aaldB2 (pc := 29) C h2 dX5_judge_29 ?_
    refine fm_bind (fun r30 e30 => ?_)
    refine fm_cVqc (pc := 30) C (t_X5_laid e30) ok_X5_laid ⟨by decide, rfl⟩ m_ml_X5_192 dX5_judge_30 ⟨Nat.le_of_ble_eq_true rfl, Nat.le_of_ble_eq_true rfl⟩ rfl rfl (Nat.le_of_ble_eq_true rfl) ?_
    refine fm_pop (pc := 33) C dX5_judge_33 rfl ?_
    refine fm_iconst (pc := 34) (v := (nI 0)) C dX5_judge_34 (by decide) ?_
    refine fm_istore (pc := 35) C dX5_judge_35 (by decide) rfl ?_
    refine fm_less (lv' := [(0, .ref (G.2.2.1 0)), (2, .int v2), (3, .int v3), (5, .int ((nI 0)))]) (by repeat (first | exact trivial | refine ⟨rfl, ?_⟩)) ?_
    refine j_X5_judge_37_ C (v2 := v2) (v3 := v3) hF  ?_ _ _
    refine fm_aload_n (pc := 87) C dX5_judge_87 rfl rfl ?_
    refine g5_cutting (pc := 88) C (by decide) dX5_judge_88 m_fl_X5_31 ?_
    refine g1_count (pc := 91) C (by decide) dX5_judge_91 m_fl_X5_196 ?_
    refine fm_iload_n (pc := 94) C dX5_judge_94 rfl rfl ?_
    refine fm_icmp_le (pc := 95) (tgt := 102) C dX5_judge_95 (by decide) (fun c7 => ?_) (fun c7 => ?_)
    · refine fm_iconst (pc := 102) (v := (-1 : Int32)) C dX5_judge_102 (by decide) ?_
      exact fm_zret (pc := 103) C hF rfl rfl dX5_judge_103
    · refine fm_iload_n (pc := 98) C dX5_judge_98 rfl rfl ?_
      refine fm_goto (pc := 99) (tgt := 103) C dX5_judge_99 (by decide) ?_
      exact fm_zret (pc := 103) C hF rfl rfl dX5_judge_103
  · refine fm_aload_n (pc := 14) C dX5_judge_14 rfl rfl ?_
    refine fm_bipush (pc := 15) (v := (nI 10)) C dX5_judge_15 (by decide) ?_
    refine fm_iload (pc := 17) C dX5_judge_17 rfl ?_
    refine fm_bind (fun r19 e19 => ?_)
    refine fm_cVi (pc := 19) C (t_X5_refuseOffBy e19) ok_X5_refuseOffBy ⟨by decide, rfl⟩ m_ml_X5_218 dX5_judge_19 ⟨Nat.le_of_ble_eq_true rfl, Nat.le_of_ble_eq_true rfl⟩ rfl rfl (Nat.le_of_ble_eq_true rfl) ?_
    exact fm_zret (pc := 22) C hF rfl rfl dX5_judge_22
theorem t_X5_judge {l : Launch} {G : fm_G} {v1 : Int32} {v2 : Int32} {v3 : Int32} {μ : fm_I} {ν : fm_L} {r : Int32 × fm_I × fm_L} (h : m_X5_judge v1 v2 v3 μ ν = some r) : fm_Mi l G yX5_judge cX5_judge 6 (some .int) 5 106 [.ref (G.2.2.1 0), .int v1, .int v2, .int v3] μ ν r := fm_Mi_of (by decide +kernel) (Nat.le_of_ble_eq_true rfl) (fun _ C => j_X5_judge C rfl r h)
theorem dX5_fits_0 : decode cX5_fits 0 = .ok (.aload_n 0, 1) := by decide +kernel
theorem dX5_fits_1 : decode cX5_fits 1 = .ok (.iload_n 1, 1) := by decide +kernel
theorem dX5_fits_2 : decode cX5_fits 2 = .ok (.iload_n 2, 1) := by decide +kernel
theorem dX5_fits_3 : decode cX5_fits 3 = .ok (.iload_n 3, 1) := by decide +kernel
theorem dX5_fits_4 : decode cX5_fits 4 = .ok (.invokevirtual 239, 3) := by decide +kernel
theorem dX5_fits_7 : decode cX5_fits 7 = .ok (.istore 4, 2) := by decide +kernel
theorem dX5_fits_9 : decode cX5_fits 9 = .ok (.iload 4, 2) := by decide +kernel
theorem dX5_fits_11 : decode cX5_fits 11 = .ok (.ifCond .eq 11, 3) := by decide +kernel
theorem dX5_fits_14 : decode cX5_fits 14 = .ok (.aload_n 0, 1) := by decide +kernel
theorem dX5_fits_15 : decode cX5_fits 15 = .ok (.iload 4, 2) := by decide +kernel
theorem dX5_fits_17 : decode cX5_fits 17 = .ok (.invokevirtual 67, 3) := by decide +kernel
theorem dX5_fits_20 : decode cX5_fits 20 = .ok (.i2l, 1) := by decide +kernel
theorem dX5_fits_21 : decode cX5_fits 21 = .ok (.lreturn, 1) := by decide +kernel
theorem dX5_fits_22 : decode cX5_fits 22 = .ok (.aload_n 0, 1) := by decide +kernel
theorem dX5_fits_23 : decode cX5_fits 23 = .ok (.getfield 17, 3) := by decide +kernel
theorem dX5_fits_26 : decode cX5_fits 26 = .ok (.iload_n 1, 1) := by decide +kernel
theorem dX5_fits_27 : decode cX5_fits 27 = .ok (.aaload, 1) := by decide +kernel
theorem dX5_fits_28 : decode cX5_fits 28 = .ok (.astore 5, 2) := by decide +kernel
theorem dX5_fits_30 : decode cX5_fits 30 = .ok (.lconst 0, 1) := by decide +kernel
theorem dX5_fits_31 : decode cX5_fits 31 = .ok (.lstore 6, 2) := by decide +kernel
theorem dX5_fits_33 : decode cX5_fits 33 = .ok (.iconst 0, 1) := by decide +kernel
theorem dX5_fits_34 : decode cX5_fits 34 = .ok (.istore 8, 2) := by decide +kernel
theorem dX5_fits_36 : decode cX5_fits 36 = .ok (.iload 8, 2) := by decide +kernel
theorem dX5_fits_38 : decode cX5_fits 38 = .ok (.bipush 40, 2) := by decide +kernel
theorem dX5_fits_40 : decode cX5_fits 40 = .ok (.if_icmp .gt 51, 3) := by decide +kernel
theorem dX5_fits_43 : decode cX5_fits 43 = .ok (.aload_n 0, 1) := by decide +kernel
theorem dX5_fits_44 : decode cX5_fits 44 = .ok (.getfield 31, 3) := by decide +kernel
theorem dX5_fits_47 : decode cX5_fits 47 = .ok (.aload 5, 2) := by decide +kernel
theorem dX5_fits_49 : decode cX5_fits 49 = .ok (.aload 5, 2) := by decide +kernel
theorem dX5_fits_51 : decode cX5_fits 51 = .ok (.getfield 131, 3) := by decide +kernel
theorem dX5_fits_54 : decode cX5_fits 54 = .ok (.iload 8, 2) := by decide +kernel
theorem dX5_fits_56 : decode cX5_fits 56 = .ok (.invokevirtual 246, 3) := by decide +kernel
theorem dX5_fits_59 : decode cX5_fits 59 = .ok (.aload_n 0, 1) := by decide +kernel
theorem dX5_fits_60 : decode cX5_fits 60 = .ok (.getfield 31, 3) := by decide +kernel
theorem dX5_fits_63 : decode cX5_fits 63 = .ok (.aload_n 0, 1) := by decide +kernel
theorem dX5_fits_64 : decode cX5_fits 64 = .ok (.getfield 11, 3) := by decide +kernel
theorem dX5_fits_67 : decode cX5_fits 67 = .ok (.iload_n 2, 1) := by decide +kernel
theorem dX5_fits_68 : decode cX5_fits 68 = .ok (.aaload, 1) := by decide +kernel
theorem dX5_fits_69 : decode cX5_fits 69 = .ok (.iload_n 3, 1) := by decide +kernel
theorem dX5_fits_70 : decode cX5_fits 70 = .ok (.invokevirtual 250, 3) := by decide +kernel
theorem dX5_fits_73 : decode cX5_fits 73 = .ok (.ifCond .eq 12, 3) := by decide +kernel
theorem dX5_fits_76 : decode cX5_fits 76 = .ok (.lload 6, 2) := by decide +kernel
theorem dX5_fits_78 : decode cX5_fits 78 = .ok (.lconst 1, 1) := by decide +kernel
theorem dX5_fits_79 : decode cX5_fits 79 = .ok (.iload 8, 2) := by decide +kernel
theorem dX5_fits_81 : decode cX5_fits 81 = .ok (.lshl, 1) := by decide +kernel
theorem dX5_fits_82 : decode cX5_fits 82 = .ok (.lor, 1) := by decide +kernel
theorem dX5_fits_83 : decode cX5_fits 83 = .ok (.lstore 6, 2) := by decide +kernel
theorem dX5_fits_85 : decode cX5_fits 85 = .ok (.iinc 8 1, 3) := by decide +kernel
theorem dX5_fits_88 : decode cX5_fits 88 = .ok (.goto (-52), 3) := by decide +kernel
theorem dX5_fits_91 : decode cX5_fits 91 = .ok (.lload 6, 2) := by decide +kernel
theorem dX5_fits_93 : decode cX5_fits 93 = .ok (.lreturn, 1) := by decide +kernel
def m_X5_fits_36 (v2 : Int32) (v3 : Int32) (q5 : Nat) (K : Int64 → fm_I → fm_L → Option (Int64 × fm_I × fm_L)) : Nat → Int64 → Int32 → fm_I → fm_L → Option (Int64 × fm_I × fm_L)
  | 0, _, _, _, _ => none
  | k + 1, v6, v8, μ, ν => if (nI 40) < v8 then K v6 μ ν else (m_X1_lay q5 ((μ q5 4)) v8 μ ν).bind (fun r56 => fm_g (fm_in v2 8) ((m_X1_hasJustTurns ((18 + v2.toNatClampNeg)) v3 r56.1 r56.2).bind (fun r70 => if r70 = 0 then m_X5_fits_36 v2 v3 q5 K k v6 ((v8 + nI 1)) r56.1 r56.2 else m_X5_fits_36 v2 v3 q5 K k ((v6 ||| ((((lN 1)) <<< (v8.toInt64 &&& 63))))) ((v8 + nI 1)) r56.1 r56.2)))
def m_X5_fits (v1 : Int32) (v2 : Int32) (v3 : Int32) (μ : fm_I) (ν : fm_L) : Option (Int64 × fm_I × fm_L) :=
  (m_X5_toldRefusal v1 v2 v3 μ ν).bind (fun r4 => if r4 = 0 then fm_g (fm_in v1 6) (m_X5_fits_36 v2 v3 ((34 + v1.toNatClampNeg))  (fun x6_36 μ36 ν36 => some ((x6_36, μ36, ν36))) 5000 ((lN 0)) ((nI 0)) μ ν) else (m_X5_refuse r4 μ ν).bind (fun r17 => some ((r17.1.toInt64, r17.2.1, r17.2.2))))
theorem ok_X5_fits : fm_okV yX5_fits cX5_fits 9 (some .long) 3 := ⟨m_cd_X5_fits, m_im_X5_fits, m_se_X5_X5_fits, m_ini_X5, by decide +kernel, by decide +kernel, by decide +kernel⟩
set_option maxHeartbeats 4000000 in
set_option maxRecDepth 100000 in
theorem j_X5_fits_36_ {X : fm_X} {G : fm_G} {l : Launch} {v2 : Int32} {v3 : Int32} {q5 : Nat} (C : fm_C X G l cX5_fits RX5 9 (some .long) 6 123) {F : (Int64 × fm_I × fm_L) → State → Prop} (hF : F = fm_Ql X G) (hk0 : fm_k q5 = 0) {K : Int64 → fm_I → fm_L → Option (Int64 × fm_I × fm_L)} (hK : ∀ (v6 : Int64) (μ : fm_I) (ν : fm_L), fm_J X G 9 F (K v6 μ ν) μ ν 91 [(6, .long v6)] []) : ∀ (k : Nat) (v6 : Int64) (v8 : Int32) (μ : fm_I) (ν : fm_L), fm_J X G 9 F (m_X5_fits_36 v2 v3 q5 K k v6 v8 μ ν) μ ν 36 [(0, .ref (G.2.2.1 0)), (2, .int v2), (3, .int v3), (5, .ref (G.2.2.1 q5)), (6, .long v6), (8, .int v8)] [] := by
  intro k
  induction k with
  | zero =>
    intro v6 v8 μ ν
    exact fm_none
  | succ k ih =>
    intro v6 v8 μ ν
    rw [m_X5_fits_36]
    refine fm_iload (pc := 36) C dX5_fits_36 rfl ?_
    refine fm_bipush (pc := 38) (v := (nI 40)) C dX5_fits_38 (by decide) ?_
    refine fm_icmp_gt (pc := 40) (tgt := 91) C dX5_fits_40 (by decide) (fun c3 => ?_) (fun c3 => ?_)
    · refine fm_less (lv' := [(6, .long v6)]) (by repeat (first | exact trivial | refine ⟨rfl, ?_⟩)) ?_
      exact hK _ _ _
    · refine fm_aload_n (pc := 43) C dX5_fits_43 rfl rfl ?_
      refine g5_cutting (pc := 44) C (by decide) dX5_fits_44 m_fl_X5_31 ?_
      refine fm_aload (pc := 47) C dX5_fits_47 rfl ?_
      refine fm_aload (pc := 49) C dX5_fits_49 rfl ?_
      refine g0_strips (pc := 51) C hk0 dX5_fits_51 m_fl_X5_131 ?_
      refine fm_iload (pc := 54) C dX5_fits_54 rfl ?_
      refine fm_bind (fun r56 e56 => ?_)
      refine fm_cVv (pc := 56) C (t_X1_lay e56) ok_X1_lay ⟨by decide, rfl⟩ m_ml_X5_246 dX5_fits_56 ⟨Nat.le_of_ble_eq_true rfl, Nat.le_of_ble_eq_true rfl⟩ rfl rfl (Nat.le_of_ble_eq_true rfl) ?_
      refine fm_aload_n (pc := 59) C dX5_fits_59 rfl rfl ?_
      refine g5_cutting (pc := 60) C (by decide) dX5_fits_60 m_fl_X5_31 ?_
      refine fm_aload_n (pc := 63) C dX5_fits_63 rfl rfl ?_
      refine g5_shelves (pc := 64) C (by decide) dX5_fits_64 m_fl_X5_11 ?_
      refine fm_iload_n (pc := 67) C dX5_fits_67 rfl rfl ?_
      refine fm_guard (fun h4 => ?_)
      refine fm_aaldS (pc := 68) C h4 dX5_fits_68 ?_
      refine fm_iload_n (pc := 69) C dX5_fits_69 rfl rfl ?_
      refine fm_bind (fun r70 e70 => ?_)
      refine fm_cVi0 (pc := 70) C (t_X1_hasJustTurns e70) ok_X1_hasJustTurns ⟨by decide, rfl⟩ m_ml_X5_250 dX5_fits_70 ⟨Nat.le_of_ble_eq_true rfl, Nat.le_of_ble_eq_true rfl⟩ rfl rfl (Nat.le_of_ble_eq_true rfl) ?_
      refine fm_if_eq (pc := 73) (tgt := 85) C dX5_fits_73 (by decide) (fun c5 => ?_) (fun c5 => ?_)
      · refine fm_iinc (pc := 85) C dX5_fits_85 rfl (v := (v8 + nI 1)) rfl (by decide) rfl ?_
        refine fm_goto (pc := 88) (tgt := 36) C dX5_fits_88 (by decide) ?_
        refine fm_less (lv' := [(0, .ref (G.2.2.1 0)), (2, .int v2), (3, .int v3), (5, .ref (G.2.2.1 q5)), (6, .long v6), (8, .int ((v8 + nI 1)))]) (by repeat (first | exact trivial | refine ⟨rfl, ?_⟩)) ?_
        exact ih _ _ _ _
      · refine fm_lload (pc := 76) C dX5_fits_76 rfl ?_
        refine fm_lconst (pc := 78) (v := lN 1) C dX5_fits_78 (by decide) ?_
        refine fm_iload (pc := 79) C dX5_fits_79 rfl ?_
        refine fm_lshl (pc := 81) C dX5_fits_81 ?_
        refine fm_lor (pc := 82) C dX5_fits_82 ?_
        refine fm_lstore (pc := 83) C dX5_fits_83 (by decide) rfl ?_
        refine fm_iinc (pc := 85) C dX5_fits_85 rfl (v := (v8 + nI 1)) rfl (by decide) rfl ?_
        refine fm_goto (pc := 88) (tgt := 36) C dX5_fits_88 (by decide) ?_
        refine fm_less (lv' := [(0, .ref (G.2.2.1 0)), (2, .int v2), (3, .int v3), (5, .ref (G.2.2.1 q5)), (6, .long ((v6 ||| ((((lN 1)) <<< (v8.toInt64 &&& 63)))))), (8, .int ((v8 + nI 1)))]) (by repeat (first | exact trivial | refine ⟨rfl, ?_⟩)) ?_
        exact ih _ _ _ _
set_option maxHeartbeats 4000000 in
set_option maxRecDepth 100000 in
theorem j_X5_fits {X : fm_X} {G : fm_G} {l : Launch} {v1 : Int32} {v2 : Int32} {v3 : Int32} {μ : fm_I} {ν : fm_L} (C : fm_C X G l cX5_fits RX5 9 (some .long) 6 123) {F : (Int64 × fm_I × fm_L) → State → Prop} (hF : F = fm_Ql X G) : fm_J X G 9 F (m_X5_fits v1 v2 v3 μ ν) μ ν 0 [(0, .ref (G.2.2.1 0)), (1, .int v1), (2, .int v2), (3, .int v3)] [] := by
  unfold m_X5_fits
  refine fm_aload_n (pc := 0) C dX5_fits_0 rfl rfl ?_
  refine fm_iload_n (pc := 1) C dX5_fits_1 rfl rfl ?_
  refine fm_iload_n (pc := 2) C dX5_fits_2 rfl rfl ?_
  refine fm_iload_n (pc := 3) C dX5_fits_3 rfl rfl ?_
  refine fm_bind (fun r4 e4 => ?_)
  refine fm_cVi0 (pc := 4) C (t_X5_toldRefusal e4) ok_X5_toldRefusal ⟨by decide, rfl⟩ m_ml_X5_239 dX5_fits_4 ⟨Nat.le_of_ble_eq_true rfl, Nat.le_of_ble_eq_true rfl⟩ rfl rfl (Nat.le_of_ble_eq_true rfl) ?_
  refine fm_istore (pc := 7) C dX5_fits_7 (by decide) rfl ?_
  refine fm_iload (pc := 9) C dX5_fits_9 rfl ?_
  refine fm_if_eq (pc := 11) (tgt := 22) C dX5_fits_11 (by decide) (fun c1 => ?_) (fun c1 => ?_)
  · refine fm_aload_n (pc := 22) C dX5_fits_22 rfl rfl ?_
    refine g5_bands (pc := 23) C (by decide) dX5_fits_23 m_fl_X5_17 ?_
    refine fm_iload_n (pc := 26) C dX5_fits_26 rfl rfl ?_
    refine fm_guard (fun h2 => ?_)
    refine fm_aaldB2 (pc := 27) C h2 dX5_fits_27 ?_
    refine fm_astore (pc := 28) C dX5_fits_28 (by decide) rfl ?_
    refine fm_lconst (pc := 30) (v := lN 0) C dX5_fits_30 (by decide) ?_
    refine fm_lstore (pc := 31) C dX5_fits_31 (by decide) rfl ?_
    refine fm_iconst (pc := 33) (v := (nI 0)) C dX5_fits_33 (by decide) ?_
    refine fm_istore (pc := 34) C dX5_fits_34 (by decide) rfl ?_
    refine fm_less (lv' := [(0, .ref (G.2.2.1 0)), (2, .int v2), (3, .int v3), (5, .ref (G.2.2.1 ((34 + v1.toNatClampNeg)))), (6, .long ((lN 0))), (8, .int ((nI 0)))]) (by repeat (first | exact trivial | refine ⟨rfl, ?_⟩)) ?_
    refine j_X5_fits_36_ C (v2 := v2) (v3 := v3) (q5 := (34 + v1.toNatClampNeg)) hF (fm_k34 h2) (fun x6_36 μ36 ν36 => ?_) _ _ _ _ _
    refine fm_lload (pc := 91) C dX5_fits_91 rfl ?_
    exact fm_lret (pc := 93) C hF rfl dX5_fits_93
  · refine fm_aload_n (pc := 14) C dX5_fits_14 rfl rfl ?_
    refine fm_iload (pc := 15) C dX5_fits_15 rfl ?_
    refine fm_bind (fun r17 e17 => ?_)
    refine fm_cVi (pc := 17) C (t_X5_refuse e17) ok_X5_refuse ⟨by decide, rfl⟩ m_ml_X5_67 dX5_fits_17 ⟨Nat.le_of_ble_eq_true rfl, Nat.le_of_ble_eq_true rfl⟩ rfl rfl (Nat.le_of_ble_eq_true rfl) ?_
    refine fm_i2l (pc := 20) C dX5_fits_20 ?_
    exact fm_lret (pc := 21) C hF rfl dX5_fits_21
theorem t_X5_fits {l : Launch} {G : fm_G} {v1 : Int32} {v2 : Int32} {v3 : Int32} {μ : fm_I} {ν : fm_L} {r : Int64 × fm_I × fm_L} (h : m_X5_fits v1 v2 v3 μ ν = some r) : fm_Ml l G yX5_fits cX5_fits 9 (some .long) 6 123 [.ref (G.2.2.1 0), .int v1, .int v2, .int v3] μ ν r := fm_Ml_of (by decide +kernel) (Nat.le_of_ble_eq_true rfl) (fun _ C => j_X5_fits C rfl r h)
theorem dX5_leastTwist_0 : decode cX5_leastTwist 0 = .ok (.aload_n 0, 1) := by decide +kernel
theorem dX5_leastTwist_1 : decode cX5_leastTwist 1 = .ok (.iload_n 1, 1) := by decide +kernel
theorem dX5_leastTwist_2 : decode cX5_leastTwist 2 = .ok (.invokevirtual 112, 3) := by decide +kernel
theorem dX5_leastTwist_5 : decode cX5_leastTwist 5 = .ok (.astore_n 3, 1) := by decide +kernel
theorem dX5_leastTwist_6 : decode cX5_leastTwist 6 = .ok (.aload_n 3, 1) := by decide +kernel
theorem dX5_leastTwist_7 : decode cX5_leastTwist 7 = .ok (.ifnonnull 11, 3) := by decide +kernel
theorem dX5_leastTwist_10 : decode cX5_leastTwist 10 = .ok (.aload_n 0, 1) := by decide +kernel
theorem dX5_leastTwist_11 : decode cX5_leastTwist 11 = .ok (.bipush 10, 2) := by decide +kernel
theorem dX5_leastTwist_13 : decode cX5_leastTwist 13 = .ok (.iconst 1, 1) := by decide +kernel
theorem dX5_leastTwist_14 : decode cX5_leastTwist 14 = .ok (.invokevirtual 218, 3) := by decide +kernel
theorem dX5_leastTwist_17 : decode cX5_leastTwist 17 = .ok (.ireturn, 1) := by decide +kernel
theorem dX5_leastTwist_18 : decode cX5_leastTwist 18 = .ok (.iload_n 2, 1) := by decide +kernel
theorem dX5_leastTwist_19 : decode cX5_leastTwist 19 = .ok (.iconst 1, 1) := by decide +kernel
theorem dX5_leastTwist_20 : decode cX5_leastTwist 20 = .ok (.if_icmp .lt 9, 3) := by decide +kernel
theorem dX5_leastTwist_23 : decode cX5_leastTwist 23 = .ok (.iload_n 2, 1) := by decide +kernel
theorem dX5_leastTwist_24 : decode cX5_leastTwist 24 = .ok (.bipush 12, 2) := by decide +kernel
theorem dX5_leastTwist_26 : decode cX5_leastTwist 26 = .ok (.if_icmp .le 12, 3) := by decide +kernel
theorem dX5_leastTwist_29 : decode cX5_leastTwist 29 = .ok (.aload_n 0, 1) := by decide +kernel
theorem dX5_leastTwist_30 : decode cX5_leastTwist 30 = .ok (.bipush 10, 2) := by decide +kernel
theorem dX5_leastTwist_32 : decode cX5_leastTwist 32 = .ok (.bipush 6, 2) := by decide +kernel
theorem dX5_leastTwist_34 : decode cX5_leastTwist 34 = .ok (.invokevirtual 218, 3) := by decide +kernel
theorem dX5_leastTwist_37 : decode cX5_leastTwist 37 = .ok (.ireturn, 1) := by decide +kernel
theorem dX5_leastTwist_38 : decode cX5_leastTwist 38 = .ok (.iconst 0, 1) := by decide +kernel
theorem dX5_leastTwist_39 : decode cX5_leastTwist 39 = .ok (.istore 4, 2) := by decide +kernel
theorem dX5_leastTwist_41 : decode cX5_leastTwist 41 = .ok (.iload 4, 2) := by decide +kernel
theorem dX5_leastTwist_43 : decode cX5_leastTwist 43 = .ok (.bipush 40, 2) := by decide +kernel
theorem dX5_leastTwist_45 : decode cX5_leastTwist 45 = .ok (.if_icmp .gt 42, 3) := by decide +kernel
theorem dX5_leastTwist_48 : decode cX5_leastTwist 48 = .ok (.aload_n 0, 1) := by decide +kernel
theorem dX5_leastTwist_49 : decode cX5_leastTwist 49 = .ok (.getfield 31, 3) := by decide +kernel
theorem dX5_leastTwist_52 : decode cX5_leastTwist 52 = .ok (.aload_n 3, 1) := by decide +kernel
theorem dX5_leastTwist_53 : decode cX5_leastTwist 53 = .ok (.aload_n 3, 1) := by decide +kernel
theorem dX5_leastTwist_54 : decode cX5_leastTwist 54 = .ok (.getfield 131, 3) := by decide +kernel
theorem dX5_leastTwist_57 : decode cX5_leastTwist 57 = .ok (.aload_n 3, 1) := by decide +kernel
theorem dX5_leastTwist_58 : decode cX5_leastTwist 58 = .ok (.getfield 141, 3) := by decide +kernel
theorem dX5_leastTwist_61 : decode cX5_leastTwist 61 = .ok (.iload 4, 2) := by decide +kernel
theorem dX5_leastTwist_63 : decode cX5_leastTwist 63 = .ok (.iadd, 1) := by decide +kernel
theorem dX5_leastTwist_64 : decode cX5_leastTwist 64 = .ok (.invokevirtual 246, 3) := by decide +kernel
theorem dX5_leastTwist_67 : decode cX5_leastTwist 67 = .ok (.aload_n 0, 1) := by decide +kernel
theorem dX5_leastTwist_68 : decode cX5_leastTwist 68 = .ok (.getfield 31, 3) := by decide +kernel
theorem dX5_leastTwist_71 : decode cX5_leastTwist 71 = .ok (.getfield 196, 3) := by decide +kernel
theorem dX5_leastTwist_74 : decode cX5_leastTwist 74 = .ok (.iload_n 2, 1) := by decide +kernel
theorem dX5_leastTwist_75 : decode cX5_leastTwist 75 = .ok (.if_icmp .ne 6, 3) := by decide +kernel
theorem dX5_leastTwist_78 : decode cX5_leastTwist 78 = .ok (.iload 4, 2) := by decide +kernel
theorem dX5_leastTwist_80 : decode cX5_leastTwist 80 = .ok (.ireturn, 1) := by decide +kernel
theorem dX5_leastTwist_81 : decode cX5_leastTwist 81 = .ok (.iinc 4 1, 3) := by decide +kernel
theorem dX5_leastTwist_84 : decode cX5_leastTwist 84 = .ok (.goto (-43), 3) := by decide +kernel
theorem dX5_leastTwist_87 : decode cX5_leastTwist 87 = .ok (.iconst (-1), 1) := by decide +kernel
theorem dX5_leastTwist_88 : decode cX5_leastTwist 88 = .ok (.ireturn, 1) := by decide +kernel
def m_X5_leastTwist_41 (v2 : Int32) (q3 : Nat) (K : fm_I → fm_L → Option (Int32 × fm_I × fm_L)) : Nat → Int32 → fm_I → fm_L → Option (Int32 × fm_I × fm_L)
  | 0, _, _, _ => none
  | k + 1, v4, μ, ν => if (nI 40) < v4 then K  μ ν else fm_g (Nat.beq (fm_k q3) 0) ((m_X1_lay q3 ((μ q3 4)) ((((μ q3 3)) + v4)) μ ν).bind (fun r64 => if (r64.1 5 0) = v2 then some ((v4, r64.1, r64.2)) else m_X5_leastTwist_41 v2 q3 K k ((v4 + nI 1)) r64.1 r64.2))
def m_X5_leastTwist (v1 : Int32) (v2 : Int32) (μ : fm_I) (ν : fm_L) : Option (Int32 × fm_I × fm_L) :=
  (m_X5_bandAt v1 μ ν).bind (fun r2 => fm_o r2 ((m_X5_refuseOffBy ((nI 10)) ((nI 1)) μ ν).bind (fun r14 => some ((r14.1, r14.2.1, r14.2.2)))) (fun y2 => if v2 < (nI 1) then (m_X5_refuseOffBy ((nI 10)) ((nI 6)) μ ν).bind (fun r34 => some ((r34.1, r34.2.1, r34.2.2))) else if v2 ≤ (nI 12) then m_X5_leastTwist_41 v2 y2  (fun μ41 ν41 => some (((-1 : Int32), μ41, ν41))) 5000 ((nI 0)) μ ν else (m_X5_refuseOffBy ((nI 10)) ((nI 6)) μ ν).bind (fun r34 => some ((r34.1, r34.2.1, r34.2.2)))))
theorem ok_X5_leastTwist : fm_okV yX5_leastTwist cX5_leastTwist 5 (some .int) 2 := ⟨m_cd_X5_leastTwist, m_im_X5_leastTwist, m_se_X5_X5_leastTwist, m_ini_X5, by decide +kernel, by decide +kernel, by decide +kernel⟩
set_option maxHeartbeats 4000000 in
set_option maxRecDepth 100000 in
theorem j_X5_leastTwist_41_ {X : fm_X} {G : fm_G} {l : Launch} {v2 : Int32} {q3 : Nat} (C : fm_C X G l cX5_leastTwist RX5 5 (some .int) 4 85) {F : (Int32 × fm_I × fm_L) → State → Prop} (hF : F = fm_Qi X G)  {K : fm_I → fm_L → Option (Int32 × fm_I × fm_L)} (hK : ∀  (μ : fm_I) (ν : fm_L), fm_J X G 5 F (K μ ν) μ ν 87 [] []) : ∀ (k : Nat) (v4 : Int32) (μ : fm_I) (ν : fm_L), fm_J X G 5 F (m_X5_leastTwist_41 v2 q3 K k v4 μ ν) μ ν 41 [(0, .ref (G.2.2.1 0)), (2, .int v2), (3, .ref (G.2.2.1 q3)), (4, .int v4)] [] := by
  intro k
  induction k with
  | zero =>
    intro v4 μ ν
    exact fm_none
  | succ k ih =>
    intro v4 μ ν
    rw [m_X5_leastTwist_41]
    refine fm_iload (pc := 41) C dX5_leastTwist_41 rfl ?_
    refine fm_bipush (pc := 43) (v := (nI 40)) C dX5_leastTwist_43 (by decide) ?_
    refine fm_icmp_gt (pc := 45) (tgt := 87) C dX5_leastTwist_45 (by decide) (fun c3 => ?_) (fun c3 => ?_)
    · refine fm_less (lv' := []) (by repeat (first | exact trivial | refine ⟨rfl, ?_⟩)) ?_
      exact hK  _ _
    · refine fm_aload_n (pc := 48) C dX5_leastTwist_48 rfl rfl ?_
      refine g5_cutting (pc := 49) C (by decide) dX5_leastTwist_49 m_fl_X5_31 ?_
      refine fm_aload_n (pc := 52) C dX5_leastTwist_52 rfl rfl ?_
      refine fm_aload_n (pc := 53) C dX5_leastTwist_53 rfl rfl ?_
      refine fm_guard (fun h4 => ?_)
      refine g0_strips (pc := 54) C (Nat.eq_of_beq_eq_true h4) dX5_leastTwist_54 m_fl_X5_131 ?_
      refine fm_aload_n (pc := 57) C dX5_leastTwist_57 rfl rfl ?_
      refine g0_twists (pc := 58) C (Nat.eq_of_beq_eq_true h4) dX5_leastTwist_58 m_fl_X5_141 ?_
      refine fm_iload (pc := 61) C dX5_leastTwist_61 rfl ?_
      refine fm_iadd (pc := 63) C dX5_leastTwist_63 ?_
      refine fm_bind (fun r64 e64 => ?_)
      refine fm_cVv (pc := 64) C (t_X1_lay e64) ok_X1_lay ⟨by decide, rfl⟩ m_ml_X5_246 dX5_leastTwist_64 ⟨Nat.le_of_ble_eq_true rfl, Nat.le_of_ble_eq_true rfl⟩ rfl rfl (Nat.le_of_ble_eq_true rfl) ?_
      refine fm_aload_n (pc := 67) C dX5_leastTwist_67 rfl rfl ?_
      refine g5_cutting (pc := 68) C (by decide) dX5_leastTwist_68 m_fl_X5_31 ?_
      refine g1_count (pc := 71) C (by decide) dX5_leastTwist_71 m_fl_X5_196 ?_
      refine fm_iload_n (pc := 74) C dX5_leastTwist_74 rfl rfl ?_
      refine fm_icmp_ne (pc := 75) (tgt := 81) C dX5_leastTwist_75 (by decide) (fun c5 => ?_) (fun c5 => ?_)
      · refine fm_iload (pc := 78) C dX5_leastTwist_78 rfl ?_
        exact fm_zret (pc := 80) C hF rfl rfl dX5_leastTwist_80
      · refine fm_iinc (pc := 81) C dX5_leastTwist_81 rfl (v := (v4 + nI 1)) rfl (by decide) rfl ?_
        refine fm_goto (pc := 84) (tgt := 41) C dX5_leastTwist_84 (by decide) ?_
        refine fm_less (lv' := [(0, .ref (G.2.2.1 0)), (2, .int v2), (3, .ref (G.2.2.1 q3)), (4, .int ((v4 + nI 1)))]) (by repeat (first | exact trivial | refine ⟨rfl, ?_⟩)) ?_
        exact ih _ _ _
set_option maxHeartbeats 4000000 in
set_option maxRecDepth 100000 in
theorem j_X5_leastTwist {X : fm_X} {G : fm_G} {l : Launch} {v1 : Int32} {v2 : Int32} {μ : fm_I} {ν : fm_L} (C : fm_C X G l cX5_leastTwist RX5 5 (some .int) 4 85) {F : (Int32 × fm_I × fm_L) → State → Prop} (hF : F = fm_Qi X G) : fm_J X G 5 F (m_X5_leastTwist v1 v2 μ ν) μ ν 0 [(0, .ref (G.2.2.1 0)), (1, .int v1), (2, .int v2)] [] := by
  unfold m_X5_leastTwist
  refine fm_aload_n (pc := 0) C dX5_leastTwist_0 rfl rfl ?_
  refine fm_iload_n (pc := 1) C dX5_leastTwist_1 rfl rfl ?_
  refine fm_bind (fun r2 e2 => ?_)
  refine fm_cVq0 (pc := 2) C (t_X5_bandAt e2) ok_X5_bandAt ⟨by decide, rfl⟩ m_ml_X5_112 dX5_leastTwist_2 ⟨Nat.le_of_ble_eq_true rfl, Nat.le_of_ble_eq_true rfl⟩ rfl rfl (Nat.le_of_ble_eq_true rfl) ?_
  refine fm_opt (fun e2 => ?_) (fun y2 e2 => ?_)
  · subst e2
    refine fm_astoreq_n (x := none) (pc := 5) C dX5_leastTwist_5 rfl (by decide) rfl ?_
    refine fm_aloadq_n (x := none) (pc := 6) C dX5_leastTwist_6 rfl rfl ?_
    refine fm_ifnonnullN (pc := 7) C dX5_leastTwist_7 ?_
    refine fm_aload_n (pc := 10) C dX5_leastTwist_10 rfl rfl ?_
    refine fm_bipush (pc := 11) (v := (nI 10)) C dX5_leastTwist_11 (by decide) ?_
    refine fm_iconst (pc := 13) (v := (nI 1)) C dX5_leastTwist_13 (by decide) ?_
    refine fm_bind (fun r14 e14 => ?_)
    refine fm_cVi (pc := 14) C (t_X5_refuseOffBy e14) ok_X5_refuseOffBy ⟨by decide, rfl⟩ m_ml_X5_218 dX5_leastTwist_14 ⟨Nat.le_of_ble_eq_true rfl, Nat.le_of_ble_eq_true rfl⟩ rfl rfl (Nat.le_of_ble_eq_true rfl) ?_
    exact fm_zret (pc := 17) C hF rfl rfl dX5_leastTwist_17
  · subst e2
    refine fm_astore_n (pc := 5) C dX5_leastTwist_5 rfl (by decide) rfl ?_
    refine fm_aload_n (pc := 6) C dX5_leastTwist_6 rfl rfl ?_
    refine fm_ifnonnullR (pc := 7) (tgt := 18) C dX5_leastTwist_7 (by decide) ?_
    refine fm_iload_n (pc := 18) C dX5_leastTwist_18 rfl rfl ?_
    refine fm_iconst (pc := 19) (v := (nI 1)) C dX5_leastTwist_19 (by decide) ?_
    refine fm_icmp_lt (pc := 20) (tgt := 29) C dX5_leastTwist_20 (by decide) (fun c1 => ?_) (fun c1 => ?_)
    · refine fm_aload_n (pc := 29) C dX5_leastTwist_29 rfl rfl ?_
      refine fm_bipush (pc := 30) (v := (nI 10)) C dX5_leastTwist_30 (by decide) ?_
      refine fm_bipush (pc := 32) (v := (nI 6)) C dX5_leastTwist_32 (by decide) ?_
      refine fm_bind (fun r34 e34 => ?_)
      refine fm_cVi (pc := 34) C (t_X5_refuseOffBy e34) ok_X5_refuseOffBy ⟨by decide, rfl⟩ m_ml_X5_218 dX5_leastTwist_34 ⟨Nat.le_of_ble_eq_true rfl, Nat.le_of_ble_eq_true rfl⟩ rfl rfl (Nat.le_of_ble_eq_true rfl) ?_
      exact fm_zret (pc := 37) C hF rfl rfl dX5_leastTwist_37
    · refine fm_iload_n (pc := 23) C dX5_leastTwist_23 rfl rfl ?_
      refine fm_bipush (pc := 24) (v := (nI 12)) C dX5_leastTwist_24 (by decide) ?_
      refine fm_icmp_le (pc := 26) (tgt := 38) C dX5_leastTwist_26 (by decide) (fun c2 => ?_) (fun c2 => ?_)
      · refine fm_iconst (pc := 38) (v := (nI 0)) C dX5_leastTwist_38 (by decide) ?_
        refine fm_istore (pc := 39) C dX5_leastTwist_39 (by decide) rfl ?_
        refine fm_less (lv' := [(0, .ref (G.2.2.1 0)), (2, .int v2), (3, .ref (G.2.2.1 y2)), (4, .int ((nI 0)))]) (by repeat (first | exact trivial | refine ⟨rfl, ?_⟩)) ?_
        refine j_X5_leastTwist_41_ C (v2 := v2) (q3 := y2) hF  (fun μ41 ν41 => ?_) _ _ _ _
        refine fm_iconst (pc := 87) (v := (-1 : Int32)) C dX5_leastTwist_87 (by decide) ?_
        exact fm_zret (pc := 88) C hF rfl rfl dX5_leastTwist_88
      · refine fm_aload_n (pc := 29) C dX5_leastTwist_29 rfl rfl ?_
        refine fm_bipush (pc := 30) (v := (nI 10)) C dX5_leastTwist_30 (by decide) ?_
        refine fm_bipush (pc := 32) (v := (nI 6)) C dX5_leastTwist_32 (by decide) ?_
        refine fm_bind (fun r34 e34 => ?_)
        refine fm_cVi (pc := 34) C (t_X5_refuseOffBy e34) ok_X5_refuseOffBy ⟨by decide, rfl⟩ m_ml_X5_218 dX5_leastTwist_34 ⟨Nat.le_of_ble_eq_true rfl, Nat.le_of_ble_eq_true rfl⟩ rfl rfl (Nat.le_of_ble_eq_true rfl) ?_
        exact fm_zret (pc := 37) C hF rfl rfl dX5_leastTwist_37
theorem t_X5_leastTwist {l : Launch} {G : fm_G} {v1 : Int32} {v2 : Int32} {μ : fm_I} {ν : fm_L} {r : Int32 × fm_I × fm_L} (h : m_X5_leastTwist v1 v2 μ ν = some r) : fm_Mi l G yX5_leastTwist cX5_leastTwist 5 (some .int) 4 85 [.ref (G.2.2.1 0), .int v1, .int v2] μ ν r := fm_Mi_of (by decide +kernel) (Nat.le_of_ble_eq_true rfl) (fun _ C => j_X5_leastTwist C rfl r h)
theorem dX5_most_0 : decode cX5_most 0 = .ok (.aload_n 0, 1) := by decide +kernel
theorem dX5_most_1 : decode cX5_most 1 = .ok (.iload_n 1, 1) := by decide +kernel
theorem dX5_most_2 : decode cX5_most 2 = .ok (.invokevirtual 112, 3) := by decide +kernel
theorem dX5_most_5 : decode cX5_most 5 = .ok (.astore_n 2, 1) := by decide +kernel
theorem dX5_most_6 : decode cX5_most 6 = .ok (.aload_n 2, 1) := by decide +kernel
theorem dX5_most_7 : decode cX5_most 7 = .ok (.ifnonnull 9, 3) := by decide +kernel
theorem dX5_most_10 : decode cX5_most 10 = .ok (.aload_n 0, 1) := by decide +kernel
theorem dX5_most_11 : decode cX5_most 11 = .ok (.iconst 1, 1) := by decide +kernel
theorem dX5_most_12 : decode cX5_most 12 = .ok (.invokevirtual 67, 3) := by decide +kernel
theorem dX5_most_15 : decode cX5_most 15 = .ok (.ireturn, 1) := by decide +kernel
theorem dX5_most_16 : decode cX5_most 16 = .ok (.iconst 1, 1) := by decide +kernel
theorem dX5_most_17 : decode cX5_most 17 = .ok (.istore_n 3, 1) := by decide +kernel
theorem dX5_most_18 : decode cX5_most 18 = .ok (.iconst 0, 1) := by decide +kernel
theorem dX5_most_19 : decode cX5_most 19 = .ok (.istore 4, 2) := by decide +kernel
theorem dX5_most_21 : decode cX5_most 21 = .ok (.iconst 1, 1) := by decide +kernel
theorem dX5_most_22 : decode cX5_most 22 = .ok (.istore 5, 2) := by decide +kernel
theorem dX5_most_24 : decode cX5_most 24 = .ok (.iload 5, 2) := by decide +kernel
theorem dX5_most_26 : decode cX5_most 26 = .ok (.bipush 12, 2) := by decide +kernel
theorem dX5_most_28 : decode cX5_most 28 = .ok (.if_icmp .gt 46, 3) := by decide +kernel
theorem dX5_most_31 : decode cX5_most 31 = .ok (.aload_n 0, 1) := by decide +kernel
theorem dX5_most_32 : decode cX5_most 32 = .ok (.getfield 31, 3) := by decide +kernel
theorem dX5_most_35 : decode cX5_most 35 = .ok (.aload_n 2, 1) := by decide +kernel
theorem dX5_most_36 : decode cX5_most 36 = .ok (.iload 5, 2) := by decide +kernel
theorem dX5_most_38 : decode cX5_most 38 = .ok (.aload_n 2, 1) := by decide +kernel
theorem dX5_most_39 : decode cX5_most 39 = .ok (.getfield 141, 3) := by decide +kernel
theorem dX5_most_42 : decode cX5_most 42 = .ok (.invokevirtual 246, 3) := by decide +kernel
theorem dX5_most_45 : decode cX5_most 45 = .ok (.aload_n 0, 1) := by decide +kernel
theorem dX5_most_46 : decode cX5_most 46 = .ok (.getfield 31, 3) := by decide +kernel
theorem dX5_most_49 : decode cX5_most 49 = .ok (.invokevirtual 227, 3) := by decide +kernel
theorem dX5_most_52 : decode cX5_most 52 = .ok (.istore 6, 2) := by decide +kernel
theorem dX5_most_54 : decode cX5_most 54 = .ok (.iload 6, 2) := by decide +kernel
theorem dX5_most_56 : decode cX5_most 56 = .ok (.iload 4, 2) := by decide +kernel
theorem dX5_most_58 : decode cX5_most 58 = .ok (.if_icmp .le 10, 3) := by decide +kernel
theorem dX5_most_61 : decode cX5_most 61 = .ok (.iload 5, 2) := by decide +kernel
theorem dX5_most_63 : decode cX5_most 63 = .ok (.istore_n 3, 1) := by decide +kernel
theorem dX5_most_64 : decode cX5_most 64 = .ok (.iload 6, 2) := by decide +kernel
theorem dX5_most_66 : decode cX5_most 66 = .ok (.istore 4, 2) := by decide +kernel
theorem dX5_most_68 : decode cX5_most 68 = .ok (.iinc 5 1, 3) := by decide +kernel
theorem dX5_most_71 : decode cX5_most 71 = .ok (.goto (-47), 3) := by decide +kernel
theorem dX5_most_74 : decode cX5_most 74 = .ok (.iload_n 3, 1) := by decide +kernel
theorem dX5_most_75 : decode cX5_most 75 = .ok (.ireturn, 1) := by decide +kernel
def m_X5_most_24 (q2 : Nat) (K : Int32 → fm_I → fm_L → Option (Int32 × fm_I × fm_L)) : Nat → Int32 → Int32 → Int32 → fm_I → fm_L → Option (Int32 × fm_I × fm_L)
  | 0, _, _, _, _, _ => none
  | k + 1, v3, v4, v5, μ, ν => if (nI 12) < v5 then K v3 μ ν else fm_g (Nat.beq (fm_k q2) 0) ((m_X1_lay q2 v5 ((μ q2 3)) μ ν).bind (fun r42 => (m_X1_hooksInAll  r42.1 r42.2).bind (fun r49 => if r49.1 ≤ v4 then m_X5_most_24 q2 K k v3 v4 ((v5 + nI 1)) r49.2.1 r49.2.2 else m_X5_most_24 q2 K k v5 r49.1 ((v5 + nI 1)) r49.2.1 r49.2.2)))
def m_X5_most (v1 : Int32) (μ : fm_I) (ν : fm_L) : Option (Int32 × fm_I × fm_L) :=
  (m_X5_bandAt v1 μ ν).bind (fun r2 => fm_o r2 ((m_X5_refuse ((nI 1)) μ ν).bind (fun r12 => some ((r12.1, r12.2.1, r12.2.2)))) (fun y2 => m_X5_most_24 y2  (fun x3_24 μ24 ν24 => some ((x3_24, μ24, ν24))) 5000 ((nI 1)) ((nI 0)) ((nI 1)) μ ν))
theorem ok_X5_most : fm_okV yX5_most cX5_most 7 (some .int) 1 := ⟨m_cd_X5_most, m_im_X5_most, m_se_X5_X5_most, m_ini_X5, by decide +kernel, by decide +kernel, by decide +kernel⟩
set_option maxHeartbeats 4000000 in
set_option maxRecDepth 100000 in
theorem j_X5_most_24_ {X : fm_X} {G : fm_G} {l : Launch} {q2 : Nat} (C : fm_C X G l cX5_most RX5 7 (some .int) 5 111) {F : (Int32 × fm_I × fm_L) → State → Prop} (hF : F = fm_Qi X G)  {K : Int32 → fm_I → fm_L → Option (Int32 × fm_I × fm_L)} (hK : ∀ (v3 : Int32) (μ : fm_I) (ν : fm_L), fm_J X G 7 F (K v3 μ ν) μ ν 74 [(3, .int v3)] []) : ∀ (k : Nat) (v3 : Int32) (v4 : Int32) (v5 : Int32) (μ : fm_I) (ν : fm_L), fm_J X G 7 F (m_X5_most_24 q2 K k v3 v4 v5 μ ν) μ ν 24 [(0, .ref (G.2.2.1 0)), (2, .ref (G.2.2.1 q2)), (3, .int v3), (4, .int v4), (5, .int v5)] [] := by
  intro k
  induction k with
  | zero =>
    intro v3 v4 v5 μ ν
    exact fm_none
  | succ k ih =>
    intro v3 v4 v5 μ ν
    rw [m_X5_most_24]
    refine fm_iload (pc := 24) C dX5_most_24 rfl ?_
    refine fm_bipush (pc := 26) (v := (nI 12)) C dX5_most_26 (by decide) ?_
    refine fm_icmp_gt (pc := 28) (tgt := 74) C dX5_most_28 (by decide) (fun c1 => ?_) (fun c1 => ?_)
    · refine fm_less (lv' := [(3, .int v3)]) (by repeat (first | exact trivial | refine ⟨rfl, ?_⟩)) ?_
      exact hK _ _ _
    · refine fm_aload_n (pc := 31) C dX5_most_31 rfl rfl ?_
      refine g5_cutting (pc := 32) C (by decide) dX5_most_32 m_fl_X5_31 ?_
      refine fm_aload_n (pc := 35) C dX5_most_35 rfl rfl ?_
      refine fm_iload (pc := 36) C dX5_most_36 rfl ?_
      refine fm_aload_n (pc := 38) C dX5_most_38 rfl rfl ?_
      refine fm_guard (fun h2 => ?_)
      refine g0_twists (pc := 39) C (Nat.eq_of_beq_eq_true h2) dX5_most_39 m_fl_X5_141 ?_
      refine fm_bind (fun r42 e42 => ?_)
      refine fm_cVv (pc := 42) C (t_X1_lay e42) ok_X1_lay ⟨by decide, rfl⟩ m_ml_X5_246 dX5_most_42 ⟨Nat.le_of_ble_eq_true rfl, Nat.le_of_ble_eq_true rfl⟩ rfl rfl (Nat.le_of_ble_eq_true rfl) ?_
      refine fm_aload_n (pc := 45) C dX5_most_45 rfl rfl ?_
      refine g5_cutting (pc := 46) C (by decide) dX5_most_46 m_fl_X5_31 ?_
      refine fm_bind (fun r49 e49 => ?_)
      refine fm_cVi (pc := 49) C (t_X1_hooksInAll e49) ok_X1_hooksInAll ⟨by decide, rfl⟩ m_ml_X5_227 dX5_most_49 ⟨Nat.le_of_ble_eq_true rfl, Nat.le_of_ble_eq_true rfl⟩ rfl rfl (Nat.le_of_ble_eq_true rfl) ?_
      refine fm_istore (pc := 52) C dX5_most_52 (by decide) rfl ?_
      refine fm_iload (pc := 54) C dX5_most_54 rfl ?_
      refine fm_iload (pc := 56) C dX5_most_56 rfl ?_
      refine fm_icmp_le (pc := 58) (tgt := 68) C dX5_most_58 (by decide) (fun c3 => ?_) (fun c3 => ?_)
      · refine fm_iinc (pc := 68) C dX5_most_68 rfl (v := (v5 + nI 1)) rfl (by decide) rfl ?_
        refine fm_goto (pc := 71) (tgt := 24) C dX5_most_71 (by decide) ?_
        refine fm_less (lv' := [(0, .ref (G.2.2.1 0)), (2, .ref (G.2.2.1 q2)), (3, .int v3), (4, .int v4), (5, .int ((v5 + nI 1)))]) (by repeat (first | exact trivial | refine ⟨rfl, ?_⟩)) ?_
        exact ih _ _ _ _ _
      · refine fm_iload (pc := 61) C dX5_most_61 rfl ?_
        refine fm_istore_n (pc := 63) C dX5_most_63 rfl (by decide) rfl ?_
        refine fm_iload (pc := 64) C dX5_most_64 rfl ?_
        refine fm_istore (pc := 66) C dX5_most_66 (by decide) rfl ?_
        refine fm_iinc (pc := 68) C dX5_most_68 rfl (v := (v5 + nI 1)) rfl (by decide) rfl ?_
        refine fm_goto (pc := 71) (tgt := 24) C dX5_most_71 (by decide) ?_
        refine fm_less (lv' := [(0, .ref (G.2.2.1 0)), (2, .ref (G.2.2.1 q2)), (3, .int v5), (4, .int r49.1), (5, .int ((v5 + nI 1)))]) (by repeat (first | exact trivial | refine ⟨rfl, ?_⟩)) ?_
        exact ih _ _ _ _ _
set_option maxHeartbeats 4000000 in
set_option maxRecDepth 100000 in
theorem j_X5_most {X : fm_X} {G : fm_G} {l : Launch} {v1 : Int32} {μ : fm_I} {ν : fm_L} (C : fm_C X G l cX5_most RX5 7 (some .int) 5 111) {F : (Int32 × fm_I × fm_L) → State → Prop} (hF : F = fm_Qi X G) : fm_J X G 7 F (m_X5_most v1 μ ν) μ ν 0 [(0, .ref (G.2.2.1 0)), (1, .int v1)] [] := by
  unfold m_X5_most
  refine fm_aload_n (pc := 0) C dX5_most_0 rfl rfl ?_
  refine fm_iload_n (pc := 1) C dX5_most_1 rfl rfl ?_
  refine fm_bind (fun r2 e2 => ?_)
  refine fm_cVq0 (pc := 2) C (t_X5_bandAt e2) ok_X5_bandAt ⟨by decide, rfl⟩ m_ml_X5_112 dX5_most_2 ⟨Nat.le_of_ble_eq_true rfl, Nat.le_of_ble_eq_true rfl⟩ rfl rfl (Nat.le_of_ble_eq_true rfl) ?_
  refine fm_opt (fun e2 => ?_) (fun y2 e2 => ?_)
  · subst e2
    refine fm_astoreq_n (x := none) (pc := 5) C dX5_most_5 rfl (by decide) rfl ?_
    refine fm_aloadq_n (x := none) (pc := 6) C dX5_most_6 rfl rfl ?_
    refine fm_ifnonnullN (pc := 7) C dX5_most_7 ?_
    refine fm_aload_n (pc := 10) C dX5_most_10 rfl rfl ?_
    refine fm_iconst (pc := 11) (v := (nI 1)) C dX5_most_11 (by decide) ?_
    refine fm_bind (fun r12 e12 => ?_)
    refine fm_cVi (pc := 12) C (t_X5_refuse e12) ok_X5_refuse ⟨by decide, rfl⟩ m_ml_X5_67 dX5_most_12 ⟨Nat.le_of_ble_eq_true rfl, Nat.le_of_ble_eq_true rfl⟩ rfl rfl (Nat.le_of_ble_eq_true rfl) ?_
    exact fm_zret (pc := 15) C hF rfl rfl dX5_most_15
  · subst e2
    refine fm_astore_n (pc := 5) C dX5_most_5 rfl (by decide) rfl ?_
    refine fm_aload_n (pc := 6) C dX5_most_6 rfl rfl ?_
    refine fm_ifnonnullR (pc := 7) (tgt := 16) C dX5_most_7 (by decide) ?_
    refine fm_iconst (pc := 16) (v := (nI 1)) C dX5_most_16 (by decide) ?_
    refine fm_istore_n (pc := 17) C dX5_most_17 rfl (by decide) rfl ?_
    refine fm_iconst (pc := 18) (v := (nI 0)) C dX5_most_18 (by decide) ?_
    refine fm_istore (pc := 19) C dX5_most_19 (by decide) rfl ?_
    refine fm_iconst (pc := 21) (v := (nI 1)) C dX5_most_21 (by decide) ?_
    refine fm_istore (pc := 22) C dX5_most_22 (by decide) rfl ?_
    refine fm_less (lv' := [(0, .ref (G.2.2.1 0)), (2, .ref (G.2.2.1 y2)), (3, .int ((nI 1))), (4, .int ((nI 0))), (5, .int ((nI 1)))]) (by repeat (first | exact trivial | refine ⟨rfl, ?_⟩)) ?_
    refine j_X5_most_24_ C (q2 := y2) hF  (fun x3_24 μ24 ν24 => ?_) _ _ _ _ _ _
    refine fm_iload_n (pc := 74) C dX5_most_74 rfl rfl ?_
    exact fm_zret (pc := 75) C hF rfl rfl dX5_most_75
theorem t_X5_most {l : Launch} {G : fm_G} {v1 : Int32} {μ : fm_I} {ν : fm_L} {r : Int32 × fm_I × fm_L} (h : m_X5_most v1 μ ν = some r) : fm_Mi l G yX5_most cX5_most 7 (some .int) 5 111 [.ref (G.2.2.1 0), .int v1] μ ν r := fm_Mi_of (by decide +kernel) (Nat.le_of_ble_eq_true rfl) (fun _ C => j_X5_most C rfl r h)
theorem dX5_cross_0 : decode cX5_cross 0 = .ok (.aload_n 0, 1) := by decide +kernel
theorem dX5_cross_1 : decode cX5_cross 1 = .ok (.iload_n 1, 1) := by decide +kernel
theorem dX5_cross_2 : decode cX5_cross 2 = .ok (.invokevirtual 112, 3) := by decide +kernel
theorem dX5_cross_5 : decode cX5_cross 5 = .ok (.astore 4, 2) := by decide +kernel
theorem dX5_cross_7 : decode cX5_cross 7 = .ok (.aload_n 0, 1) := by decide +kernel
theorem dX5_cross_8 : decode cX5_cross 8 = .ok (.iload_n 2, 1) := by decide +kernel
theorem dX5_cross_9 : decode cX5_cross 9 = .ok (.invokevirtual 112, 3) := by decide +kernel
theorem dX5_cross_12 : decode cX5_cross 12 = .ok (.astore 5, 2) := by decide +kernel
theorem dX5_cross_14 : decode cX5_cross 14 = .ok (.aload 4, 2) := by decide +kernel
theorem dX5_cross_16 : decode cX5_cross 16 = .ok (.ifnull 8, 3) := by decide +kernel
theorem dX5_cross_19 : decode cX5_cross 19 = .ok (.aload 5, 2) := by decide +kernel
theorem dX5_cross_21 : decode cX5_cross 21 = .ok (.ifnonnull 9, 3) := by decide +kernel
theorem dX5_cross_24 : decode cX5_cross 24 = .ok (.aload_n 0, 1) := by decide +kernel
theorem dX5_cross_25 : decode cX5_cross 25 = .ok (.iconst 1, 1) := by decide +kernel
theorem dX5_cross_26 : decode cX5_cross 26 = .ok (.invokevirtual 67, 3) := by decide +kernel
theorem dX5_cross_29 : decode cX5_cross 29 = .ok (.ireturn, 1) := by decide +kernel
theorem dX5_cross_30 : decode cX5_cross 30 = .ok (.iload_n 3, 1) := by decide +kernel
theorem dX5_cross_31 : decode cX5_cross 31 = .ok (.ifCond .eq 14, 3) := by decide +kernel
theorem dX5_cross_34 : decode cX5_cross 34 = .ok (.iload_n 3, 1) := by decide +kernel
theorem dX5_cross_35 : decode cX5_cross 35 = .ok (.iconst 1, 1) := by decide +kernel
theorem dX5_cross_36 : decode cX5_cross 36 = .ok (.if_icmp .eq 9, 3) := by decide +kernel
theorem dX5_cross_39 : decode cX5_cross 39 = .ok (.aload_n 0, 1) := by decide +kernel
theorem dX5_cross_40 : decode cX5_cross 40 = .ok (.iconst 5, 1) := by decide +kernel
theorem dX5_cross_41 : decode cX5_cross 41 = .ok (.invokevirtual 67, 3) := by decide +kernel
theorem dX5_cross_44 : decode cX5_cross 44 = .ok (.ireturn, 1) := by decide +kernel
theorem dX5_cross_45 : decode cX5_cross 45 = .ok (.iload_n 1, 1) := by decide +kernel
theorem dX5_cross_46 : decode cX5_cross 46 = .ok (.iload_n 2, 1) := by decide +kernel
theorem dX5_cross_47 : decode cX5_cross 47 = .ok (.if_icmp .ne 10, 3) := by decide +kernel
theorem dX5_cross_50 : decode cX5_cross 50 = .ok (.aload_n 0, 1) := by decide +kernel
theorem dX5_cross_51 : decode cX5_cross 51 = .ok (.bipush 6, 2) := by decide +kernel
theorem dX5_cross_53 : decode cX5_cross 53 = .ok (.invokevirtual 67, 3) := by decide +kernel
theorem dX5_cross_56 : decode cX5_cross 56 = .ok (.ireturn, 1) := by decide +kernel
theorem dX5_cross_57 : decode cX5_cross 57 = .ok (.aload 4, 2) := by decide +kernel
theorem dX5_cross_59 : decode cX5_cross 59 = .ok (.getfield 141, 3) := by decide +kernel
theorem dX5_cross_62 : decode cX5_cross 62 = .ok (.invokestatic 254, 3) := by decide +kernel
theorem dX5_cross_65 : decode cX5_cross 65 = .ok (.ifCond .eq 18, 3) := by decide +kernel
theorem dX5_cross_68 : decode cX5_cross 68 = .ok (.aload 5, 2) := by decide +kernel
theorem dX5_cross_70 : decode cX5_cross 70 = .ok (.getfield 141, 3) := by decide +kernel
theorem dX5_cross_73 : decode cX5_cross 73 = .ok (.invokestatic 254, 3) := by decide +kernel
theorem dX5_cross_76 : decode cX5_cross 76 = .ok (.ifCond .eq 7, 3) := by decide +kernel
theorem dX5_cross_79 : decode cX5_cross 79 = .ok (.iconst 1, 1) := by decide +kernel
theorem dX5_cross_80 : decode cX5_cross 80 = .ok (.goto 4, 3) := by decide +kernel
theorem dX5_cross_83 : decode cX5_cross 83 = .ok (.iconst 0, 1) := by decide +kernel
theorem dX5_cross_84 : decode cX5_cross 84 = .ok (.istore 6, 2) := by decide +kernel
theorem dX5_cross_86 : decode cX5_cross 86 = .ok (.iload_n 3, 1) := by decide +kernel
theorem dX5_cross_87 : decode cX5_cross 87 = .ok (.ifCond .ne 14, 3) := by decide +kernel
theorem dX5_cross_90 : decode cX5_cross 90 = .ok (.iload 6, 2) := by decide +kernel
theorem dX5_cross_92 : decode cX5_cross 92 = .ok (.ifCond .eq 7, 3) := by decide +kernel
theorem dX5_cross_95 : decode cX5_cross 95 = .ok (.iconst 2, 1) := by decide +kernel
theorem dX5_cross_96 : decode cX5_cross 96 = .ok (.goto 4, 3) := by decide +kernel
theorem dX5_cross_99 : decode cX5_cross 99 = .ok (.iconst 1, 1) := by decide +kernel
theorem dX5_cross_100 : decode cX5_cross 100 = .ok (.ireturn, 1) := by decide +kernel
theorem dX5_cross_101 : decode cX5_cross 101 = .ok (.iload 6, 2) := by decide +kernel
theorem dX5_cross_103 : decode cX5_cross 103 = .ok (.ifCond .eq 20, 3) := by decide +kernel
theorem dX5_cross_106 : decode cX5_cross 106 = .ok (.aload 4, 2) := by decide +kernel
theorem dX5_cross_108 : decode cX5_cross 108 = .ok (.getfield 160, 3) := by decide +kernel
theorem dX5_cross_111 : decode cX5_cross 111 = .ok (.aload 5, 2) := by decide +kernel
theorem dX5_cross_113 : decode cX5_cross 113 = .ok (.getfield 160, 3) := by decide +kernel
theorem dX5_cross_116 : decode cX5_cross 116 = .ok (.if_icmp .eq 7, 3) := by decide +kernel
theorem dX5_cross_119 : decode cX5_cross 119 = .ok (.iconst 1, 1) := by decide +kernel
theorem dX5_cross_120 : decode cX5_cross 120 = .ok (.goto 4, 3) := by decide +kernel
theorem dX5_cross_123 : decode cX5_cross 123 = .ok (.iconst 0, 1) := by decide +kernel
theorem dX5_cross_124 : decode cX5_cross 124 = .ok (.ireturn, 1) := by decide +kernel
def m_X5_cross_24  (μ : fm_I) (ν : fm_L) : Option (Int32 × fm_I × fm_L) :=
  (m_X5_refuse ((nI 1)) μ ν).bind (fun r26 => some ((r26.1, r26.2.1, r26.2.2)))
def m_X5_cross_123  (μ : fm_I) (ν : fm_L) : Option (Int32 × fm_I × fm_L) :=
  some (((nI 0), μ, ν))
def m_X5_cross_84 (v3 : Int32) (q4 : Nat) (q5 : Nat) (s0 : Int32) (μ : fm_I) (ν : fm_L) : Option (Int32 × fm_I × fm_L) :=
  if v3 = 0 then if s0 = 0 then some (((nI 1), μ, ν)) else some (((nI 2), μ, ν)) else if s0 = 0 then m_X5_cross_123  μ ν else fm_g (Nat.beq (fm_k q4) 0) (fm_g (Nat.beq (fm_k q5) 0) (if (μ q4 5) = (μ q5 5) then m_X5_cross_123  μ ν else some (((nI 1), μ, ν))))
def m_X5_cross_83 (v3 : Int32) (q4 : Nat) (q5 : Nat) (μ : fm_I) (ν : fm_L) : Option (Int32 × fm_I × fm_L) :=
  m_X5_cross_84 v3 q4 q5 ((nI 0)) μ ν
def m_X5_cross_45 (v1 : Int32) (v2 : Int32) (v3 : Int32) (q4 : Nat) (q5 : Nat) (μ : fm_I) (ν : fm_L) : Option (Int32 × fm_I × fm_L) :=
  if v1 = v2 then (m_X5_refuse ((nI 6)) μ ν).bind (fun r53 => some ((r53.1, r53.2.1, r53.2.2))) else fm_g (Nat.beq (fm_k q4) 0) ((m_X5_isOdd ((μ q4 3)) μ ν).bind (fun r62 => if r62 = 0 then m_X5_cross_83 v3 q4 q5 μ ν else fm_g (Nat.beq (fm_k q5) 0) ((m_X5_isOdd ((μ q5 3)) μ ν).bind (fun r73 => if r73 = 0 then m_X5_cross_83 v3 q4 q5 μ ν else m_X5_cross_84 v3 q4 q5 ((nI 1)) μ ν))))
def m_X5_cross (v1 : Int32) (v2 : Int32) (v3 : Int32) (μ : fm_I) (ν : fm_L) : Option (Int32 × fm_I × fm_L) :=
  (m_X5_bandAt v1 μ ν).bind (fun r2 => fm_o r2 ((m_X5_bandAt v2 μ ν).bind (fun r9 => fm_o r9 (m_X5_cross_24  μ ν) (fun y9 => m_X5_cross_24  μ ν))) (fun y2 => (m_X5_bandAt v2 μ ν).bind (fun r9 => fm_o r9 (m_X5_cross_24  μ ν) (fun y9 => if v3 = 0 then m_X5_cross_45 v1 v2 v3 y2 y9 μ ν else if v3 = (nI 1) then m_X5_cross_45 v1 v2 v3 y2 y9 μ ν else (m_X5_refuse ((nI 5)) μ ν).bind (fun r41 => some ((r41.1, r41.2.1, r41.2.2)))))))
theorem ok_X5_cross : fm_okV yX5_cross cX5_cross 7 (some .int) 3 := ⟨m_cd_X5_cross, m_im_X5_cross, m_se_X5_X5_cross, m_ini_X5, by decide +kernel, by decide +kernel, by decide +kernel⟩
set_option maxHeartbeats 4000000 in
set_option maxRecDepth 100000 in
theorem j_X5_cross_24_ {X : fm_X} {G : fm_G} {l : Launch}  {μ : fm_I} {ν : fm_L} (C : fm_C X G l cX5_cross RX5 7 (some .int) 3 55) {F : (Int32 × fm_I × fm_L) → State → Prop} (hF : F = fm_Qi X G)  : fm_J X G 7 F (m_X5_cross_24  μ ν) μ ν 24 [(0, .ref (G.2.2.1 0))] [] := by
  unfold m_X5_cross_24
  refine fm_aload_n (pc := 24) C dX5_cross_24 rfl rfl ?_
  refine fm_iconst (pc := 25) (v := (nI 1)) C dX5_cross_25 (by decide) ?_
  refine fm_bind (fun r26 e26 => ?_)
  refine fm_cVi (pc := 26) C (t_X5_refuse e26) ok_X5_refuse ⟨by decide, rfl⟩ m_ml_X5_67 dX5_cross_26 ⟨Nat.le_of_ble_eq_true rfl, Nat.le_of_ble_eq_true rfl⟩ rfl rfl (Nat.le_of_ble_eq_true rfl) ?_
  exact fm_zret (pc := 29) C hF rfl rfl dX5_cross_29
set_option maxHeartbeats 4000000 in
set_option maxRecDepth 100000 in
theorem j_X5_cross_123_ {X : fm_X} {G : fm_G} {l : Launch}  {μ : fm_I} {ν : fm_L} (C : fm_C X G l cX5_cross RX5 7 (some .int) 3 55) {F : (Int32 × fm_I × fm_L) → State → Prop} (hF : F = fm_Qi X G)  : fm_J X G 7 F (m_X5_cross_123  μ ν) μ ν 123 [] [] := by
  unfold m_X5_cross_123
  refine fm_iconst (pc := 123) (v := (nI 0)) C dX5_cross_123 (by decide) ?_
  exact fm_zret (pc := 124) C hF rfl rfl dX5_cross_124
set_option maxHeartbeats 4000000 in
set_option maxRecDepth 100000 in
theorem j_X5_cross_84_ {X : fm_X} {G : fm_G} {l : Launch} {v3 : Int32} {q4 : Nat} {q5 : Nat} {s0 : Int32} {μ : fm_I} {ν : fm_L} (C : fm_C X G l cX5_cross RX5 7 (some .int) 3 55) {F : (Int32 × fm_I × fm_L) → State → Prop} (hF : F = fm_Qi X G)  : fm_J X G 7 F (m_X5_cross_84 v3 q4 q5 s0 μ ν) μ ν 84 [(3, .int v3), (4, .ref (G.2.2.1 q4)), (5, .ref (G.2.2.1 q5))] [.int s0] := by
  unfold m_X5_cross_84
  refine fm_istore (pc := 84) C dX5_cross_84 (by decide) rfl ?_
  refine fm_iload_n (pc := 86) C dX5_cross_86 rfl rfl ?_
  refine fm_if_ne (pc := 87) (tgt := 101) C dX5_cross_87 (by decide) (fun c5 => ?_) (fun c5 => ?_)
  · refine fm_iload (pc := 90) C dX5_cross_90 rfl ?_
    refine fm_if_eq (pc := 92) (tgt := 99) C dX5_cross_92 (by decide) (fun c6 => ?_) (fun c6 => ?_)
    · refine fm_iconst (pc := 99) (v := (nI 1)) C dX5_cross_99 (by decide) ?_
      exact fm_zret (pc := 100) C hF rfl rfl dX5_cross_100
    · refine fm_iconst (pc := 95) (v := (nI 2)) C dX5_cross_95 (by decide) ?_
      refine fm_goto (pc := 96) (tgt := 100) C dX5_cross_96 (by decide) ?_
      exact fm_zret (pc := 100) C hF rfl rfl dX5_cross_100
  · refine fm_iload (pc := 101) C dX5_cross_101 rfl ?_
    refine fm_if_eq (pc := 103) (tgt := 123) C dX5_cross_103 (by decide) (fun c7 => ?_) (fun c7 => ?_)
    · refine fm_less (lv' := []) (by repeat (first | exact trivial | refine ⟨rfl, ?_⟩)) ?_
      exact j_X5_cross_123_ C hF 
    · refine fm_aload (pc := 106) C dX5_cross_106 rfl ?_
      refine fm_guard (fun h8 => ?_)
      refine g0_hand (pc := 108) C (Nat.eq_of_beq_eq_true h8) dX5_cross_108 m_fl_X5_160 ?_
      refine fm_aload (pc := 111) C dX5_cross_111 rfl ?_
      refine fm_guard (fun h9 => ?_)
      refine g0_hand (pc := 113) C (Nat.eq_of_beq_eq_true h9) dX5_cross_113 m_fl_X5_160 ?_
      refine fm_icmp_eq (pc := 116) (tgt := 123) C dX5_cross_116 (by decide) (fun c10 => ?_) (fun c10 => ?_)
      · refine fm_less (lv' := []) (by repeat (first | exact trivial | refine ⟨rfl, ?_⟩)) ?_
        exact j_X5_cross_123_ C hF 
      · refine fm_iconst (pc := 119) (v := (nI 1)) C dX5_cross_119 (by decide) ?_
        refine fm_goto (pc := 120) (tgt := 124) C dX5_cross_120 (by decide) ?_
        exact fm_zret (pc := 124) C hF rfl rfl dX5_cross_124
set_option maxHeartbeats 4000000 in
set_option maxRecDepth 100000 in
theorem j_X5_cross_83_ {X : fm_X} {G : fm_G} {l : Launch} {v3 : Int32} {q4 : Nat} {q5 : Nat} {μ : fm_I} {ν : fm_L} (C : fm_C X G l cX5_cross RX5 7 (some .int) 3 55) {F : (Int32 × fm_I × fm_L) → State → Prop} (hF : F = fm_Qi X G)  : fm_J X G 7 F (m_X5_cross_83 v3 q4 q5 μ ν) μ ν 83 [(3, .int v3), (4, .ref (G.2.2.1 q4)), (5, .ref (G.2.2.1 q5))] [] := by
  unfold m_X5_cross_83
  refine fm_iconst (pc := 83) (v := (nI 0)) C dX5_cross_83 (by decide) ?_
  refine fm_less (lv' := [(3, .int v3), (4, .ref (G.2.2.1 q4)), (5, .ref (G.2.2.1 q5))]) (by repeat (first | exact trivial | refine ⟨rfl, ?_⟩)) ?_
  exact j_X5_cross_84_ C hF 
set_option maxHeartbeats 4000000 in
set_option maxRecDepth 100000 in
theorem j_X5_cross_45_ {X : fm_X} {G : fm_G} {l : Launch} {v1 : Int32} {v2 : Int32} {v3 : Int32} {q4 : Nat} {q5 : Nat} {μ : fm_I} {ν : fm_L} (C : fm_C X G l cX5_cross RX5 7 (some .int) 3 55) {F : (Int32 × fm_I × fm_L) → State → Prop} (hF : F = fm_Qi X G)  : fm_J X G 7 F (m_X5_cross_45 v1 v2 v3 q4 q5 μ ν) μ ν 45 [(0, .ref (G.2.2.1 0)), (1, .int v1), (2, .int v2), (3, .int v3), (4, .ref (G.2.2.1 q4)), (5, .ref (G.2.2.1 q5))] [] := by
  unfold m_X5_cross_45
  refine fm_iload_n (pc := 45) C dX5_cross_45 rfl rfl ?_
  refine fm_iload_n (pc := 46) C dX5_cross_46 rfl rfl ?_
  refine fm_icmp_ne (pc := 47) (tgt := 57) C dX5_cross_47 (by decide) (fun c2 => ?_) (fun c2 => ?_)
  · refine fm_aload_n (pc := 50) C dX5_cross_50 rfl rfl ?_
    refine fm_bipush (pc := 51) (v := (nI 6)) C dX5_cross_51 (by decide) ?_
    refine fm_bind (fun r53 e53 => ?_)
    refine fm_cVi (pc := 53) C (t_X5_refuse e53) ok_X5_refuse ⟨by decide, rfl⟩ m_ml_X5_67 dX5_cross_53 ⟨Nat.le_of_ble_eq_true rfl, Nat.le_of_ble_eq_true rfl⟩ rfl rfl (Nat.le_of_ble_eq_true rfl) ?_
    exact fm_zret (pc := 56) C hF rfl rfl dX5_cross_56
  · refine fm_aload (pc := 57) C dX5_cross_57 rfl ?_
    refine fm_guard (fun h3 => ?_)
    refine g0_twists (pc := 59) C (Nat.eq_of_beq_eq_true h3) dX5_cross_59 m_fl_X5_141 ?_
    refine fm_bind (fun r62 e62 => ?_)
    refine fm_cSi0 (pc := 62) C (t_X5_isOdd e62) ok_X5_isOdd m_ml_X5_254 dX5_cross_62 ⟨Nat.le_of_ble_eq_true rfl, Nat.le_of_ble_eq_true rfl⟩ rfl rfl (Nat.le_of_ble_eq_true rfl) ?_
    refine fm_if_eq (pc := 65) (tgt := 83) C dX5_cross_65 (by decide) (fun c4 => ?_) (fun c4 => ?_)
    · refine fm_less (lv' := [(3, .int v3), (4, .ref (G.2.2.1 q4)), (5, .ref (G.2.2.1 q5))]) (by repeat (first | exact trivial | refine ⟨rfl, ?_⟩)) ?_
      exact j_X5_cross_83_ C hF 
    · refine fm_aload (pc := 68) C dX5_cross_68 rfl ?_
      refine fm_guard (fun h11 => ?_)
      refine g0_twists (pc := 70) C (Nat.eq_of_beq_eq_true h11) dX5_cross_70 m_fl_X5_141 ?_
      refine fm_bind (fun r73 e73 => ?_)
      refine fm_cSi0 (pc := 73) C (t_X5_isOdd e73) ok_X5_isOdd m_ml_X5_254 dX5_cross_73 ⟨Nat.le_of_ble_eq_true rfl, Nat.le_of_ble_eq_true rfl⟩ rfl rfl (Nat.le_of_ble_eq_true rfl) ?_
      refine fm_if_eq (pc := 76) (tgt := 83) C dX5_cross_76 (by decide) (fun c12 => ?_) (fun c12 => ?_)
      · refine fm_less (lv' := [(3, .int v3), (4, .ref (G.2.2.1 q4)), (5, .ref (G.2.2.1 q5))]) (by repeat (first | exact trivial | refine ⟨rfl, ?_⟩)) ?_
        exact j_X5_cross_83_ C hF 
      · refine fm_iconst (pc := 79) (v := (nI 1)) C dX5_cross_79 (by decide) ?_
        refine fm_goto (pc := 80) (tgt := 84) C dX5_cross_80 (by decide) ?_
        refine fm_less (lv' := [(3, .int v3), (4, .ref (G.2.2.1 q4)), (5, .ref (G.2.2.1 q5))]) (by repeat (first | exact trivial | refine ⟨rfl, ?_⟩)) ?_
        exact j_X5_cross_84_ C hF 
set_option maxHeartbeats 4000000 in
set_option maxRecDepth 100000 in
theorem j_X5_cross {X : fm_X} {G : fm_G} {l : Launch} {v1 : Int32} {v2 : Int32} {v3 : Int32} {μ : fm_I} {ν : fm_L} (C : fm_C X G l cX5_cross RX5 7 (some .int) 3 55) {F : (Int32 × fm_I × fm_L) → State → Prop} (hF : F = fm_Qi X G) : fm_J X G 7 F (m_X5_cross v1 v2 v3 μ ν) μ ν 0 [(0, .ref (G.2.2.1 0)), (1, .int v1), (2, .int v2), (3, .int v3)] [] := by
  unfold m_X5_cross
  refine fm_aload_n (pc := 0) C dX5_cross_0 rfl rfl ?_
  refine fm_iload_n (pc := 1) C dX5_cross_1 rfl rfl ?_
  refine fm_bind (fun r2 e2 => ?_)
  refine fm_cVq0 (pc := 2) C (t_X5_bandAt e2) ok_X5_bandAt ⟨by decide, rfl⟩ m_ml_X5_112 dX5_cross_2 ⟨Nat.le_of_ble_eq_true rfl, Nat.le_of_ble_eq_true rfl⟩ rfl rfl (Nat.le_of_ble_eq_true rfl) ?_
  refine fm_opt (fun e2 => ?_) (fun y2 e2 => ?_)
  · subst e2
    refine fm_astoreq (x := none) (pc := 5) C dX5_cross_5 (by decide) rfl ?_
    refine fm_aload_n (pc := 7) C dX5_cross_7 rfl rfl ?_
    refine fm_iload_n (pc := 8) C dX5_cross_8 rfl rfl ?_
    refine fm_bind (fun r9 e9 => ?_)
    refine fm_cVq0 (pc := 9) C (t_X5_bandAt e9) ok_X5_bandAt ⟨by decide, rfl⟩ m_ml_X5_112 dX5_cross_9 ⟨Nat.le_of_ble_eq_true rfl, Nat.le_of_ble_eq_true rfl⟩ rfl rfl (Nat.le_of_ble_eq_true rfl) ?_
    refine fm_opt (fun e9 => ?_) (fun y9 e9 => ?_)
    · subst e9
      refine fm_astoreq (x := none) (pc := 12) C dX5_cross_12 (by decide) rfl ?_
      refine fm_aloadq (x := none) (pc := 14) C dX5_cross_14 rfl ?_
      refine fm_ifnullN (pc := 16) (tgt := 24) C dX5_cross_16 (by decide) ?_
      refine fm_less (lv' := [(0, .ref (G.2.2.1 0))]) (by repeat (first | exact trivial | refine ⟨rfl, ?_⟩)) ?_
      exact j_X5_cross_24_ C hF 
    · subst e9
      refine fm_astore (pc := 12) C dX5_cross_12 (by decide) rfl ?_
      refine fm_aloadq (x := none) (pc := 14) C dX5_cross_14 rfl ?_
      refine fm_ifnullN (pc := 16) (tgt := 24) C dX5_cross_16 (by decide) ?_
      refine fm_less (lv' := [(0, .ref (G.2.2.1 0))]) (by repeat (first | exact trivial | refine ⟨rfl, ?_⟩)) ?_
      exact j_X5_cross_24_ C hF 
  · subst e2
    refine fm_astore (pc := 5) C dX5_cross_5 (by decide) rfl ?_
    refine fm_aload_n (pc := 7) C dX5_cross_7 rfl rfl ?_
    refine fm_iload_n (pc := 8) C dX5_cross_8 rfl rfl ?_
    refine fm_bind (fun r9 e9 => ?_)
    refine fm_cVq0 (pc := 9) C (t_X5_bandAt e9) ok_X5_bandAt ⟨by decide, rfl⟩ m_ml_X5_112 dX5_cross_9 ⟨Nat.le_of_ble_eq_true rfl, Nat.le_of_ble_eq_true rfl⟩ rfl rfl (Nat.le_of_ble_eq_true rfl) ?_
    refine fm_opt (fun e9 => ?_) (fun y9 e9 => ?_)
    · subst e9
      refine fm_astoreq (x := none) (pc := 12) C dX5_cross_12 (by decide) rfl ?_
      refine fm_aload (pc := 14) C dX5_cross_14 rfl ?_
      refine fm_ifnullR (pc := 16) C dX5_cross_16 ?_
      refine fm_aloadq (x := none) (pc := 19) C dX5_cross_19 rfl ?_
      refine fm_ifnonnullN (pc := 21) C dX5_cross_21 ?_
      refine fm_less (lv' := [(0, .ref (G.2.2.1 0))]) (by repeat (first | exact trivial | refine ⟨rfl, ?_⟩)) ?_
      exact j_X5_cross_24_ C hF 
    · subst e9
      refine fm_astore (pc := 12) C dX5_cross_12 (by decide) rfl ?_
      refine fm_aload (pc := 14) C dX5_cross_14 rfl ?_
      refine fm_ifnullR (pc := 16) C dX5_cross_16 ?_
      refine fm_aload (pc := 19) C dX5_cross_19 rfl ?_
      refine fm_ifnonnullR (pc := 21) (tgt := 30) C dX5_cross_21 (by decide) ?_
      refine fm_iload_n (pc := 30) C dX5_cross_30 rfl rfl ?_
      refine fm_if_eq (pc := 31) (tgt := 45) C dX5_cross_31 (by decide) (fun c1 => ?_) (fun c1 => ?_)
      · refine fm_less (lv' := [(0, .ref (G.2.2.1 0)), (1, .int v1), (2, .int v2), (3, .int v3), (4, .ref (G.2.2.1 y2)), (5, .ref (G.2.2.1 y9))]) (by repeat (first | exact trivial | refine ⟨rfl, ?_⟩)) ?_
        exact j_X5_cross_45_ C hF 
      · refine fm_iload_n (pc := 34) C dX5_cross_34 rfl rfl ?_
        refine fm_iconst (pc := 35) (v := (nI 1)) C dX5_cross_35 (by decide) ?_
        refine fm_icmp_eq (pc := 36) (tgt := 45) C dX5_cross_36 (by decide) (fun c13 => ?_) (fun c13 => ?_)
        · refine fm_less (lv' := [(0, .ref (G.2.2.1 0)), (1, .int v1), (2, .int v2), (3, .int v3), (4, .ref (G.2.2.1 y2)), (5, .ref (G.2.2.1 y9))]) (by repeat (first | exact trivial | refine ⟨rfl, ?_⟩)) ?_
          exact j_X5_cross_45_ C hF 
        · refine fm_aload_n (pc := 39) C dX5_cross_39 rfl rfl ?_
          refine fm_iconst (pc := 40) (v := (nI 5)) C dX5_cross_40 (by decide) ?_
          refine fm_bind (fun r41 e41 => ?_)
          refine fm_cVi (pc := 41) C (t_X5_refuse e41) ok_X5_refuse ⟨by decide, rfl⟩ m_ml_X5_67 dX5_cross_41 ⟨Nat.le_of_ble_eq_true rfl, Nat.le_of_ble_eq_true rfl⟩ rfl rfl (Nat.le_of_ble_eq_true rfl) ?_
          exact fm_zret (pc := 44) C hF rfl rfl dX5_cross_44
theorem t_X5_cross {l : Launch} {G : fm_G} {v1 : Int32} {v2 : Int32} {v3 : Int32} {μ : fm_I} {ν : fm_L} {r : Int32 × fm_I × fm_L} (h : m_X5_cross v1 v2 v3 μ ν = some r) : fm_Mi l G yX5_cross cX5_cross 7 (some .int) 3 55 [.ref (G.2.2.1 0), .int v1, .int v2, .int v3] μ ν r := fm_Mi_of (by decide +kernel) (Nat.le_of_ble_eq_true rfl) (fun _ C => j_X5_cross C rfl r h)
theorem dX5_lawPieces_0 : decode cX5_lawPieces 0 = .ok (.iload_n 0, 1) := by decide +kernel
theorem dX5_lawPieces_1 : decode cX5_lawPieces 1 = .ok (.invokestatic 254, 3) := by decide +kernel
theorem dX5_lawPieces_4 : decode cX5_lawPieces 4 = .ok (.ifCond .eq 14, 3) := by decide +kernel
theorem dX5_lawPieces_7 : decode cX5_lawPieces 7 = .ok (.iload_n 1, 1) := by decide +kernel
theorem dX5_lawPieces_8 : decode cX5_lawPieces 8 = .ok (.i2l, 1) := by decide +kernel
theorem dX5_lawPieces_9 : decode cX5_lawPieces 9 = .ok (.lconst 1, 1) := by decide +kernel
theorem dX5_lawPieces_10 : decode cX5_lawPieces 10 = .ok (.ladd, 1) := by decide +kernel
theorem dX5_lawPieces_11 : decode cX5_lawPieces 11 = .ok (.ldc2_w 272, 3) := by decide +kernel
theorem dX5_lawPieces_14 : decode cX5_lawPieces 14 = .ok (.ldiv, 1) := by decide +kernel
theorem dX5_lawPieces_15 : decode cX5_lawPieces 15 = .ok (.goto 5, 3) := by decide +kernel
theorem dX5_lawPieces_18 : decode cX5_lawPieces 18 = .ok (.iload_n 1, 1) := by decide +kernel
theorem dX5_lawPieces_19 : decode cX5_lawPieces 19 = .ok (.i2l, 1) := by decide +kernel
theorem dX5_lawPieces_20 : decode cX5_lawPieces 20 = .ok (.lreturn, 1) := by decide +kernel
def m_X5_lawPieces (v0 : Int32) (v1 : Int32) (μ : fm_I) (ν : fm_L) : Option (Int64) :=
  (m_X5_isOdd v0 μ ν).bind (fun r1 => if r1 = 0 then some v1.toInt64 else some ((((v1.toInt64 + ((lN 1)))) / ((lN 2)))))
theorem ok_X5_lawPieces : fm_okS yX5_lawPieces cX5_lawPieces 2 (some .long) 2 := ⟨m_cd_X5_lawPieces, m_st_X5_lawPieces, m_ini_X5, by decide +kernel, by decide +kernel, by decide +kernel⟩
set_option maxHeartbeats 4000000 in
set_option maxRecDepth 100000 in
theorem j_X5_lawPieces {X : fm_X} {G : fm_G} {l : Launch} {v0 : Int32} {v1 : Int32} {μ : fm_I} {ν : fm_L} (C : fm_C X G l cX5_lawPieces RX5 2 (some .long) 2 32) {F : Int64 → State → Prop} (hF : F = fun r => fm_Ql X G (r, μ, ν)) : fm_J X G 2 F (m_X5_lawPieces v0 v1 μ ν) μ ν 0 [(0, .int v0), (1, .int v1)] [] := by
  unfold m_X5_lawPieces
  refine fm_iload_n (pc := 0) C dX5_lawPieces_0 rfl rfl ?_
  refine fm_bind (fun r1 e1 => ?_)
  refine fm_cSi0 (pc := 1) C (t_X5_isOdd e1) ok_X5_isOdd m_ml_X5_254 dX5_lawPieces_1 ⟨Nat.le_of_ble_eq_true rfl, Nat.le_of_ble_eq_true rfl⟩ rfl rfl (Nat.le_of_ble_eq_true rfl) ?_
  refine fm_if_eq (pc := 4) (tgt := 18) C dX5_lawPieces_4 (by decide) (fun c1 => ?_) (fun c1 => ?_)
  · refine fm_iload_n (pc := 18) C dX5_lawPieces_18 rfl rfl ?_
    refine fm_i2l (pc := 19) C dX5_lawPieces_19 ?_
    exact fm_lret0 (pc := 20) C hF rfl dX5_lawPieces_20
  · refine fm_iload_n (pc := 7) C dX5_lawPieces_7 rfl rfl ?_
    refine fm_i2l (pc := 8) C dX5_lawPieces_8 ?_
    refine fm_lconst (pc := 9) (v := lN 1) C dX5_lawPieces_9 (by decide) ?_
    refine fm_ladd (pc := 10) C dX5_lawPieces_10 ?_
    refine fm_ldc2 (pc := 11) (v := (lN 2)) C dX5_lawPieces_11 m_cl_X5_272 ?_
    refine fm_ldiv (pc := 14) C dX5_lawPieces_14 (by decide) ?_
    refine fm_goto (pc := 15) (tgt := 20) C dX5_lawPieces_15 (by decide) ?_
    exact fm_lret0 (pc := 20) C hF rfl dX5_lawPieces_20
theorem t_X5_lawPieces {l : Launch} {G : fm_G} {v0 : Int32} {v1 : Int32} {μ : fm_I} {ν : fm_L} {r : Int64} (h : m_X5_lawPieces v0 v1 μ ν = some r) : fm_Ml l G yX5_lawPieces cX5_lawPieces 2 (some .long) 2 32 [.int v0, .int v1] μ ν (r, μ, ν) := fm_Ml_of (by decide +kernel) (Nat.le_of_ble_eq_true rfl) (fun _ C => j_X5_lawPieces C rfl r h)
theorem dX5_lawSize_0 : decode cX5_lawSize 0 = .ok (.iload_n 0, 1) := by decide +kernel
theorem dX5_lawSize_1 : decode cX5_lawSize 1 = .ok (.invokestatic 254, 3) := by decide +kernel
theorem dX5_lawSize_4 : decode cX5_lawSize 4 = .ok (.ifCond .eq 12, 3) := by decide +kernel
theorem dX5_lawSize_7 : decode cX5_lawSize 7 = .ok (.iload_n 1, 1) := by decide +kernel
theorem dX5_lawSize_8 : decode cX5_lawSize 8 = .ok (.iconst 1, 1) := by decide +kernel
theorem dX5_lawSize_9 : decode cX5_lawSize 9 = .ok (.if_icmp .le 7, 3) := by decide +kernel
theorem dX5_lawSize_12 : decode cX5_lawSize 12 = .ok (.iconst 2, 1) := by decide +kernel
theorem dX5_lawSize_13 : decode cX5_lawSize 13 = .ok (.goto 4, 3) := by decide +kernel
theorem dX5_lawSize_16 : decode cX5_lawSize 16 = .ok (.iconst 1, 1) := by decide +kernel
theorem dX5_lawSize_17 : decode cX5_lawSize 17 = .ok (.ireturn, 1) := by decide +kernel
def m_X5_lawSize (v0 : Int32) (v1 : Int32) (μ : fm_I) (ν : fm_L) : Option (Int32) :=
  (m_X5_isOdd v0 μ ν).bind (fun r1 => if r1 = 0 then some ((nI 1)) else if v1 ≤ (nI 1) then some ((nI 1)) else some ((nI 2)))
theorem ok_X5_lawSize : fm_okS yX5_lawSize cX5_lawSize 2 (some .int) 2 := ⟨m_cd_X5_lawSize, m_st_X5_lawSize, m_ini_X5, by decide +kernel, by decide +kernel, by decide +kernel⟩
set_option maxHeartbeats 4000000 in
set_option maxRecDepth 100000 in
theorem j_X5_lawSize {X : fm_X} {G : fm_G} {l : Launch} {v0 : Int32} {v1 : Int32} {μ : fm_I} {ν : fm_L} (C : fm_C X G l cX5_lawSize RX5 2 (some .int) 2 32) {F : Int32 → State → Prop} (hF : F = fun r => fm_Qi X G (r, μ, ν)) : fm_J X G 2 F (m_X5_lawSize v0 v1 μ ν) μ ν 0 [(0, .int v0), (1, .int v1)] [] := by
  unfold m_X5_lawSize
  refine fm_iload_n (pc := 0) C dX5_lawSize_0 rfl rfl ?_
  refine fm_bind (fun r1 e1 => ?_)
  refine fm_cSi0 (pc := 1) C (t_X5_isOdd e1) ok_X5_isOdd m_ml_X5_254 dX5_lawSize_1 ⟨Nat.le_of_ble_eq_true rfl, Nat.le_of_ble_eq_true rfl⟩ rfl rfl (Nat.le_of_ble_eq_true rfl) ?_
  refine fm_if_eq (pc := 4) (tgt := 16) C dX5_lawSize_4 (by decide) (fun c1 => ?_) (fun c1 => ?_)
  · refine fm_iconst (pc := 16) (v := (nI 1)) C dX5_lawSize_16 (by decide) ?_
    exact fm_zret0 (pc := 17) C hF rfl rfl dX5_lawSize_17
  · refine fm_iload_n (pc := 7) C dX5_lawSize_7 rfl rfl ?_
    refine fm_iconst (pc := 8) (v := (nI 1)) C dX5_lawSize_8 (by decide) ?_
    refine fm_icmp_le (pc := 9) (tgt := 16) C dX5_lawSize_9 (by decide) (fun c2 => ?_) (fun c2 => ?_)
    · refine fm_iconst (pc := 16) (v := (nI 1)) C dX5_lawSize_16 (by decide) ?_
      exact fm_zret0 (pc := 17) C hF rfl rfl dX5_lawSize_17
    · refine fm_iconst (pc := 12) (v := (nI 2)) C dX5_lawSize_12 (by decide) ?_
      refine fm_goto (pc := 13) (tgt := 17) C dX5_lawSize_13 (by decide) ?_
      exact fm_zret0 (pc := 17) C hF rfl rfl dX5_lawSize_17
theorem t_X5_lawSize {l : Launch} {G : fm_G} {v0 : Int32} {v1 : Int32} {μ : fm_I} {ν : fm_L} {r : Int32} (h : m_X5_lawSize v0 v1 μ ν = some r) : fm_Mi l G yX5_lawSize cX5_lawSize 2 (some .int) 2 32 [.int v0, .int v1] μ ν (r, μ, ν) := fm_Mi_of (by decide +kernel) (Nat.le_of_ble_eq_true rfl) (fun _ C => j_X5_lawSize C rfl r h)
theorem dX5_lawHooks_0 : decode cX5_lawHooks 0 = .ok (.iload_n 0, 1) := by decide +kernel
theorem dX5_lawHooks_1 : decode cX5_lawHooks 1 = .ok (.iload_n 1, 1) := by decide +kernel
theorem dX5_lawHooks_2 : decode cX5_lawHooks 2 = .ok (.invokestatic 259, 3) := by decide +kernel
theorem dX5_lawHooks_5 : decode cX5_lawHooks 5 = .ok (.ldc2_w 272, 3) := by decide +kernel
theorem dX5_lawHooks_8 : decode cX5_lawHooks 8 = .ok (.lcmp, 1) := by decide +kernel
theorem dX5_lawHooks_9 : decode cX5_lawHooks 9 = .ok (.ifCond .ge 5, 3) := by decide +kernel
theorem dX5_lawHooks_12 : decode cX5_lawHooks 12 = .ok (.lconst 0, 1) := by decide +kernel
theorem dX5_lawHooks_13 : decode cX5_lawHooks 13 = .ok (.lreturn, 1) := by decide +kernel
theorem dX5_lawHooks_14 : decode cX5_lawHooks 14 = .ok (.iload_n 0, 1) := by decide +kernel
theorem dX5_lawHooks_15 : decode cX5_lawHooks 15 = .ok (.invokestatic 254, 3) := by decide +kernel
theorem dX5_lawHooks_18 : decode cX5_lawHooks 18 = .ok (.ifCond .ne 8, 3) := by decide +kernel
theorem dX5_lawHooks_21 : decode cX5_lawHooks 21 = .ok (.iload_n 0, 1) := by decide +kernel
theorem dX5_lawHooks_22 : decode cX5_lawHooks 22 = .ok (.iconst 2, 1) := by decide +kernel
theorem dX5_lawHooks_23 : decode cX5_lawHooks 23 = .ok (.idiv, 1) := by decide +kernel
theorem dX5_lawHooks_24 : decode cX5_lawHooks 24 = .ok (.i2l, 1) := by decide +kernel
theorem dX5_lawHooks_25 : decode cX5_lawHooks 25 = .ok (.lreturn, 1) := by decide +kernel
theorem dX5_lawHooks_26 : decode cX5_lawHooks 26 = .ok (.iload_n 1, 1) := by decide +kernel
theorem dX5_lawHooks_27 : decode cX5_lawHooks 27 = .ok (.iconst 3, 1) := by decide +kernel
theorem dX5_lawHooks_28 : decode cX5_lawHooks 28 = .ok (.if_icmp .ne 8, 3) := by decide +kernel
theorem dX5_lawHooks_31 : decode cX5_lawHooks 31 = .ok (.iload_n 0, 1) := by decide +kernel
theorem dX5_lawHooks_32 : decode cX5_lawHooks 32 = .ok (.i2l, 1) := by decide +kernel
theorem dX5_lawHooks_33 : decode cX5_lawHooks 33 = .ok (.goto 9, 3) := by decide +kernel
theorem dX5_lawHooks_36 : decode cX5_lawHooks 36 = .ok (.ldc2_w 272, 3) := by decide +kernel
theorem dX5_lawHooks_39 : decode cX5_lawHooks 39 = .ok (.iload_n 0, 1) := by decide +kernel
theorem dX5_lawHooks_40 : decode cX5_lawHooks 40 = .ok (.i2l, 1) := by decide +kernel
theorem dX5_lawHooks_41 : decode cX5_lawHooks 41 = .ok (.lmul, 1) := by decide +kernel
theorem dX5_lawHooks_42 : decode cX5_lawHooks 42 = .ok (.lreturn, 1) := by decide +kernel
def m_X5_lawHooks (v0 : Int32) (v1 : Int32) (μ : fm_I) (ν : fm_L) : Option (Int64) :=
  (m_X5_lawPieces v0 v1 μ ν).bind (fun r2 => if 0 ≤ (lg_cmp r2 ((lN 2))) then (m_X5_isOdd v0 μ ν).bind (fun r15 => if r15 = 0 then some (((v0 / ((nI 2)))).toInt64) else if v1 = (nI 3) then some v0.toInt64 else some ((((lN 2)) * v0.toInt64))) else some ((lN 0)))
theorem ok_X5_lawHooks : fm_okS yX5_lawHooks cX5_lawHooks 2 (some .long) 2 := ⟨m_cd_X5_lawHooks, m_st_X5_lawHooks, m_ini_X5, by decide +kernel, by decide +kernel, by decide +kernel⟩
set_option maxHeartbeats 4000000 in
set_option maxRecDepth 100000 in
theorem j_X5_lawHooks {X : fm_X} {G : fm_G} {l : Launch} {v0 : Int32} {v1 : Int32} {μ : fm_I} {ν : fm_L} (C : fm_C X G l cX5_lawHooks RX5 2 (some .long) 3 53) {F : Int64 → State → Prop} (hF : F = fun r => fm_Ql X G (r, μ, ν)) : fm_J X G 2 F (m_X5_lawHooks v0 v1 μ ν) μ ν 0 [(0, .int v0), (1, .int v1)] [] := by
  unfold m_X5_lawHooks
  refine fm_iload_n (pc := 0) C dX5_lawHooks_0 rfl rfl ?_
  refine fm_iload_n (pc := 1) C dX5_lawHooks_1 rfl rfl ?_
  refine fm_bind (fun r2 e2 => ?_)
  refine fm_cSl0 (pc := 2) C (t_X5_lawPieces e2) ok_X5_lawPieces m_ml_X5_259 dX5_lawHooks_2 ⟨Nat.le_of_ble_eq_true rfl, Nat.le_of_ble_eq_true rfl⟩ rfl rfl (Nat.le_of_ble_eq_true rfl) ?_
  refine fm_ldc2 (pc := 5) (v := (lN 2)) C dX5_lawHooks_5 m_cl_X5_272 ?_
  refine fm_lcmp (pc := 8) C dX5_lawHooks_8 ?_
  refine fm_if_ge (pc := 9) (tgt := 14) C dX5_lawHooks_9 (by decide) (fun c1 => ?_) (fun c1 => ?_)
  · refine fm_iload_n (pc := 14) C dX5_lawHooks_14 rfl rfl ?_
    refine fm_bind (fun r15 e15 => ?_)
    refine fm_cSi0 (pc := 15) C (t_X5_isOdd e15) ok_X5_isOdd m_ml_X5_254 dX5_lawHooks_15 ⟨Nat.le_of_ble_eq_true rfl, Nat.le_of_ble_eq_true rfl⟩ rfl rfl (Nat.le_of_ble_eq_true rfl) ?_
    refine fm_if_ne (pc := 18) (tgt := 26) C dX5_lawHooks_18 (by decide) (fun c2 => ?_) (fun c2 => ?_)
    · refine fm_iload_n (pc := 21) C dX5_lawHooks_21 rfl rfl ?_
      refine fm_iconst (pc := 22) (v := (nI 2)) C dX5_lawHooks_22 (by decide) ?_
      refine fm_idiv (pc := 23) C dX5_lawHooks_23 (by decide) ?_
      refine fm_i2l (pc := 24) C dX5_lawHooks_24 ?_
      exact fm_lret0 (pc := 25) C hF rfl dX5_lawHooks_25
    · refine fm_iload_n (pc := 26) C dX5_lawHooks_26 rfl rfl ?_
      refine fm_iconst (pc := 27) (v := (nI 3)) C dX5_lawHooks_27 (by decide) ?_
      refine fm_icmp_ne (pc := 28) (tgt := 36) C dX5_lawHooks_28 (by decide) (fun c3 => ?_) (fun c3 => ?_)
      · refine fm_iload_n (pc := 31) C dX5_lawHooks_31 rfl rfl ?_
        refine fm_i2l (pc := 32) C dX5_lawHooks_32 ?_
        refine fm_goto (pc := 33) (tgt := 42) C dX5_lawHooks_33 (by decide) ?_
        exact fm_lret0 (pc := 42) C hF rfl dX5_lawHooks_42
      · refine fm_ldc2 (pc := 36) (v := (lN 2)) C dX5_lawHooks_36 m_cl_X5_272 ?_
        refine fm_iload_n (pc := 39) C dX5_lawHooks_39 rfl rfl ?_
        refine fm_i2l (pc := 40) C dX5_lawHooks_40 ?_
        refine fm_lmul (pc := 41) C dX5_lawHooks_41 ?_
        exact fm_lret0 (pc := 42) C hF rfl dX5_lawHooks_42
  · refine fm_lconst (pc := 12) (v := lN 0) C dX5_lawHooks_12 (by decide) ?_
    exact fm_lret0 (pc := 13) C hF rfl dX5_lawHooks_13
theorem t_X5_lawHooks {l : Launch} {G : fm_G} {v0 : Int32} {v1 : Int32} {μ : fm_I} {ν : fm_L} {r : Int64} (h : m_X5_lawHooks v0 v1 μ ν = some r) : fm_Ml l G yX5_lawHooks cX5_lawHooks 2 (some .long) 3 53 [.int v0, .int v1] μ ν (r, μ, ν) := fm_Ml_of (by decide +kernel) (Nat.le_of_ble_eq_true rfl) (fun _ C => j_X5_lawHooks C rfl r h)
theorem dX5_law_0 : decode cX5_law 0 = .ok (.iload_n 3, 1) := by decide +kernel
theorem dX5_law_1 : decode cX5_law 1 = .ok (.ifCond .lt 8, 3) := by decide +kernel
theorem dX5_law_4 : decode cX5_law 4 = .ok (.iload_n 3, 1) := by decide +kernel
theorem dX5_law_5 : decode cX5_law 5 = .ok (.iconst 3, 1) := by decide +kernel
theorem dX5_law_6 : decode cX5_law 6 = .ok (.if_icmp .le 10, 3) := by decide +kernel
theorem dX5_law_9 : decode cX5_law 9 = .ok (.aload_n 0, 1) := by decide +kernel
theorem dX5_law_10 : decode cX5_law 10 = .ok (.iconst 5, 1) := by decide +kernel
theorem dX5_law_11 : decode cX5_law 11 = .ok (.invokevirtual 67, 3) := by decide +kernel
theorem dX5_law_14 : decode cX5_law 14 = .ok (.i2l, 1) := by decide +kernel
theorem dX5_law_15 : decode cX5_law 15 = .ok (.lreturn, 1) := by decide +kernel
theorem dX5_law_16 : decode cX5_law 16 = .ok (.iload_n 1, 1) := by decide +kernel
theorem dX5_law_17 : decode cX5_law 17 = .ok (.ifCond .lt 26, 3) := by decide +kernel
theorem dX5_law_20 : decode cX5_law 20 = .ok (.iload_n 1, 1) := by decide +kernel
theorem dX5_law_21 : decode cX5_law 21 = .ok (.i2l, 1) := by decide +kernel
theorem dX5_law_22 : decode cX5_law 22 = .ok (.ldc2_w 257, 3) := by decide +kernel
theorem dX5_law_25 : decode cX5_law 25 = .ok (.lcmp, 1) := by decide +kernel
theorem dX5_law_26 : decode cX5_law 26 = .ok (.ifCond .gt 17, 3) := by decide +kernel
theorem dX5_law_29 : decode cX5_law 29 = .ok (.iload_n 2, 1) := by decide +kernel
theorem dX5_law_30 : decode cX5_law 30 = .ok (.iconst 1, 1) := by decide +kernel
theorem dX5_law_31 : decode cX5_law 31 = .ok (.if_icmp .lt 12, 3) := by decide +kernel
theorem dX5_law_34 : decode cX5_law 34 = .ok (.iload_n 2, 1) := by decide +kernel
theorem dX5_law_35 : decode cX5_law 35 = .ok (.i2l, 1) := by decide +kernel
theorem dX5_law_36 : decode cX5_law 36 = .ok (.ldc2_w 257, 3) := by decide +kernel
theorem dX5_law_39 : decode cX5_law 39 = .ok (.lcmp, 1) := by decide +kernel
theorem dX5_law_40 : decode cX5_law 40 = .ok (.ifCond .le 11, 3) := by decide +kernel
theorem dX5_law_43 : decode cX5_law 43 = .ok (.aload_n 0, 1) := by decide +kernel
theorem dX5_law_44 : decode cX5_law 44 = .ok (.bipush 6, 2) := by decide +kernel
theorem dX5_law_46 : decode cX5_law 46 = .ok (.invokevirtual 67, 3) := by decide +kernel
theorem dX5_law_49 : decode cX5_law 49 = .ok (.i2l, 1) := by decide +kernel
theorem dX5_law_50 : decode cX5_law 50 = .ok (.lreturn, 1) := by decide +kernel
theorem dX5_law_51 : decode cX5_law 51 = .ok (.iload_n 3, 1) := by decide +kernel
theorem dX5_law_52 : decode cX5_law 52 = .ok (.tableswitch 51 0 2 #[28, 34, 41], 28) := by decide +kernel
theorem dX5_law_80 : decode cX5_law 80 = .ok (.iload_n 1, 1) := by decide +kernel
theorem dX5_law_81 : decode cX5_law 81 = .ok (.iload_n 2, 1) := by decide +kernel
theorem dX5_law_82 : decode cX5_law 82 = .ok (.invokestatic 259, 3) := by decide +kernel
theorem dX5_law_85 : decode cX5_law 85 = .ok (.lreturn, 1) := by decide +kernel
theorem dX5_law_86 : decode cX5_law 86 = .ok (.iload_n 1, 1) := by decide +kernel
theorem dX5_law_87 : decode cX5_law 87 = .ok (.iload_n 2, 1) := by decide +kernel
theorem dX5_law_88 : decode cX5_law 88 = .ok (.invokestatic 263, 3) := by decide +kernel
theorem dX5_law_91 : decode cX5_law 91 = .ok (.i2l, 1) := by decide +kernel
theorem dX5_law_92 : decode cX5_law 92 = .ok (.lreturn, 1) := by decide +kernel
theorem dX5_law_93 : decode cX5_law 93 = .ok (.iload_n 1, 1) := by decide +kernel
theorem dX5_law_94 : decode cX5_law 94 = .ok (.iload_n 1, 1) := by decide +kernel
theorem dX5_law_95 : decode cX5_law 95 = .ok (.iload_n 2, 1) := by decide +kernel
theorem dX5_law_96 : decode cX5_law 96 = .ok (.invokestatic 263, 3) := by decide +kernel
theorem dX5_law_99 : decode cX5_law 99 = .ok (.invokestatic 266, 3) := by decide +kernel
theorem dX5_law_102 : decode cX5_law 102 = .ok (.lreturn, 1) := by decide +kernel
theorem dX5_law_103 : decode cX5_law 103 = .ok (.iload_n 1, 1) := by decide +kernel
theorem dX5_law_104 : decode cX5_law 104 = .ok (.iload_n 2, 1) := by decide +kernel
theorem dX5_law_105 : decode cX5_law 105 = .ok (.invokestatic 269, 3) := by decide +kernel
theorem dX5_law_108 : decode cX5_law 108 = .ok (.lreturn, 1) := by decide +kernel
def m_X5_law (v1 : Int32) (v2 : Int32) (v3 : Int32) (μ : fm_I) (ν : fm_L) : Option (Int64 × fm_I × fm_L) :=
  if v3 < 0 then (m_X5_refuse ((nI 5)) μ ν).bind (fun r11 => some ((r11.1.toInt64, r11.2.1, r11.2.2))) else if v3 ≤ (nI 3) then if v1 < 0 then (m_X5_refuse ((nI 6)) μ ν).bind (fun r46 => some ((r46.1.toInt64, r46.2.1, r46.2.2))) else if 0 < (lg_cmp v1.toInt64 ((lN 1000000000))) then (m_X5_refuse ((nI 6)) μ ν).bind (fun r46 => some ((r46.1.toInt64, r46.2.1, r46.2.2))) else if v2 < (nI 1) then (m_X5_refuse ((nI 6)) μ ν).bind (fun r46 => some ((r46.1.toInt64, r46.2.1, r46.2.2))) else if (lg_cmp v2.toInt64 ((lN 1000000000))) ≤ 0 then if v3 = (nI 0) then (m_X5_lawPieces v1 v2 μ ν).bind (fun r82 => some ((r82, μ, ν))) else if v3 = (nI 1) then (m_X5_lawSize v1 v2 μ ν).bind (fun r88 => some ((r88.toInt64, μ, ν))) else if v3 = (nI 2) then (m_X5_lawSize v1 v2 μ ν).bind (fun r96 => (m_X5_turnsOfSize v1 r96 μ ν).bind (fun r99 => some ((r99, μ, ν)))) else (m_X5_lawHooks v1 v2 μ ν).bind (fun r105 => some ((r105, μ, ν))) else (m_X5_refuse ((nI 6)) μ ν).bind (fun r46 => some ((r46.1.toInt64, r46.2.1, r46.2.2))) else (m_X5_refuse ((nI 5)) μ ν).bind (fun r11 => some ((r11.1.toInt64, r11.2.1, r11.2.2)))
theorem ok_X5_law : fm_okV yX5_law cX5_law 4 (some .long) 3 := ⟨m_cd_X5_law, m_im_X5_law, m_se_X5_X5_law, m_ini_X5, by decide +kernel, by decide +kernel, by decide +kernel⟩
set_option maxHeartbeats 4000000 in
set_option maxRecDepth 100000 in
theorem j_X5_law {X : fm_X} {G : fm_G} {l : Launch} {v1 : Int32} {v2 : Int32} {v3 : Int32} {μ : fm_I} {ν : fm_L} (C : fm_C X G l cX5_law RX5 4 (some .long) 4 74) {F : (Int64 × fm_I × fm_L) → State → Prop} (hF : F = fm_Ql X G) : fm_J X G 4 F (m_X5_law v1 v2 v3 μ ν) μ ν 0 [(0, .ref (G.2.2.1 0)), (1, .int v1), (2, .int v2), (3, .int v3)] [] := by
  unfold m_X5_law
  refine fm_iload_n (pc := 0) C dX5_law_0 rfl rfl ?_
  refine fm_if_lt (pc := 1) (tgt := 9) C dX5_law_1 (by decide) (fun c1 => ?_) (fun c1 => ?_)
  · refine fm_aload_n (pc := 9) C dX5_law_9 rfl rfl ?_
    refine fm_iconst (pc := 10) (v := (nI 5)) C dX5_law_10 (by decide) ?_
    refine fm_bind (fun r11 e11 => ?_)
    refine fm_cVi (pc := 11) C (t_X5_refuse e11) ok_X5_refuse ⟨by decide, rfl⟩ m_ml_X5_67 dX5_law_11 ⟨Nat.le_of_ble_eq_true rfl, Nat.le_of_ble_eq_true rfl⟩ rfl rfl (Nat.le_of_ble_eq_true rfl) ?_
    refine fm_i2l (pc := 14) C dX5_law_14 ?_
    exact fm_lret (pc := 15) C hF rfl dX5_law_15
  · refine fm_iload_n (pc := 4) C dX5_law_4 rfl rfl ?_
    refine fm_iconst (pc := 5) (v := (nI 3)) C dX5_law_5 (by decide) ?_
    refine fm_icmp_le (pc := 6) (tgt := 16) C dX5_law_6 (by decide) (fun c2 => ?_) (fun c2 => ?_)
    · refine fm_iload_n (pc := 16) C dX5_law_16 rfl rfl ?_
      refine fm_if_lt (pc := 17) (tgt := 43) C dX5_law_17 (by decide) (fun c3 => ?_) (fun c3 => ?_)
      · refine fm_aload_n (pc := 43) C dX5_law_43 rfl rfl ?_
        refine fm_bipush (pc := 44) (v := (nI 6)) C dX5_law_44 (by decide) ?_
        refine fm_bind (fun r46 e46 => ?_)
        refine fm_cVi (pc := 46) C (t_X5_refuse e46) ok_X5_refuse ⟨by decide, rfl⟩ m_ml_X5_67 dX5_law_46 ⟨Nat.le_of_ble_eq_true rfl, Nat.le_of_ble_eq_true rfl⟩ rfl rfl (Nat.le_of_ble_eq_true rfl) ?_
        refine fm_i2l (pc := 49) C dX5_law_49 ?_
        exact fm_lret (pc := 50) C hF rfl dX5_law_50
      · refine fm_iload_n (pc := 20) C dX5_law_20 rfl rfl ?_
        refine fm_i2l (pc := 21) C dX5_law_21 ?_
        refine fm_ldc2 (pc := 22) (v := (lN 1000000000)) C dX5_law_22 m_cl_X5_257 ?_
        refine fm_lcmp (pc := 25) C dX5_law_25 ?_
        refine fm_if_gt (pc := 26) (tgt := 43) C dX5_law_26 (by decide) (fun c4 => ?_) (fun c4 => ?_)
        · refine fm_aload_n (pc := 43) C dX5_law_43 rfl rfl ?_
          refine fm_bipush (pc := 44) (v := (nI 6)) C dX5_law_44 (by decide) ?_
          refine fm_bind (fun r46 e46 => ?_)
          refine fm_cVi (pc := 46) C (t_X5_refuse e46) ok_X5_refuse ⟨by decide, rfl⟩ m_ml_X5_67 dX5_law_46 ⟨Nat.le_of_ble_eq_true rfl, Nat.le_of_ble_eq_true rfl⟩ rfl rfl (Nat.le_of_ble_eq_true rfl) ?_
          refine fm_i2l (pc := 49) C dX5_law_49 ?_
          exact fm_lret (pc := 50) C hF rfl dX5_law_50
        · refine fm_iload_n (pc := 29) C dX5_law_29 rfl rfl ?_
          refine fm_iconst (pc := 30) (v := (nI 1)) C dX5_law_30 (by decide) ?_
          refine fm_icmp_lt (pc := 31) (tgt := 43) C dX5_law_31 (by decide) (fun c5 => ?_) (fun c5 => ?_)
          · refine fm_aload_n (pc := 43) C dX5_law_43 rfl rfl ?_
            refine fm_bipush (pc := 44) (v := (nI 6)) C dX5_law_44 (by decide) ?_
            refine fm_bind (fun r46 e46 => ?_)
            refine fm_cVi (pc := 46) C (t_X5_refuse e46) ok_X5_refuse ⟨by decide, rfl⟩ m_ml_X5_67 dX5_law_46 ⟨Nat.le_of_ble_eq_true rfl, Nat.le_of_ble_eq_true rfl⟩ rfl rfl (Nat.le_of_ble_eq_true rfl) ?_
            refine fm_i2l (pc := 49) C dX5_law_49 ?_
            exact fm_lret (pc := 50) C hF rfl dX5_law_50
          · refine fm_iload_n (pc := 34) C dX5_law_34 rfl rfl ?_
            refine fm_i2l (pc := 35) C dX5_law_35 ?_
            refine fm_ldc2 (pc := 36) (v := (lN 1000000000)) C dX5_law_36 m_cl_X5_257 ?_
            refine fm_lcmp (pc := 39) C dX5_law_39 ?_
            refine fm_if_le (pc := 40) (tgt := 51) C dX5_law_40 (by decide) (fun c6 => ?_) (fun c6 => ?_)
            · refine fm_iload_n (pc := 51) C dX5_law_51 rfl rfl ?_
              refine fm_ite (fun s7 => ?_) (fun s7 => ?_)
              · refine fm_tabIn (pc := 52) (tgt := 80) (off := 28) C dX5_law_52 (by rw [s7]; decide) (by rw [s7]; decide) (by rw [s7]; decide) (by decide) ?_
                refine fm_iload_n (pc := 80) C dX5_law_80 rfl rfl ?_
                refine fm_iload_n (pc := 81) C dX5_law_81 rfl rfl ?_
                refine fm_bind (fun r82 e82 => ?_)
                refine fm_cSl0 (pc := 82) C (t_X5_lawPieces e82) ok_X5_lawPieces m_ml_X5_259 dX5_law_82 ⟨Nat.le_of_ble_eq_true rfl, Nat.le_of_ble_eq_true rfl⟩ rfl rfl (Nat.le_of_ble_eq_true rfl) ?_
                exact fm_lret (pc := 85) C hF rfl dX5_law_85
              · refine fm_ite (fun s8 => ?_) (fun s8 => ?_)
                · refine fm_tabIn (pc := 52) (tgt := 86) (off := 34) C dX5_law_52 (by rw [s8]; decide) (by rw [s8]; decide) (by rw [s8]; decide) (by decide) ?_
                  refine fm_iload_n (pc := 86) C dX5_law_86 rfl rfl ?_
                  refine fm_iload_n (pc := 87) C dX5_law_87 rfl rfl ?_
                  refine fm_bind (fun r88 e88 => ?_)
                  refine fm_cSi0 (pc := 88) C (t_X5_lawSize e88) ok_X5_lawSize m_ml_X5_263 dX5_law_88 ⟨Nat.le_of_ble_eq_true rfl, Nat.le_of_ble_eq_true rfl⟩ rfl rfl (Nat.le_of_ble_eq_true rfl) ?_
                  refine fm_i2l (pc := 91) C dX5_law_91 ?_
                  exact fm_lret (pc := 92) C hF rfl dX5_law_92
                · refine fm_ite (fun s9 => ?_) (fun s9 => ?_)
                  · refine fm_tabIn (pc := 52) (tgt := 93) (off := 41) C dX5_law_52 (by rw [s9]; decide) (by rw [s9]; decide) (by rw [s9]; decide) (by decide) ?_
                    refine fm_iload_n (pc := 93) C dX5_law_93 rfl rfl ?_
                    refine fm_iload_n (pc := 94) C dX5_law_94 rfl rfl ?_
                    refine fm_iload_n (pc := 95) C dX5_law_95 rfl rfl ?_
                    refine fm_bind (fun r96 e96 => ?_)
                    refine fm_cSi0 (pc := 96) C (t_X5_lawSize e96) ok_X5_lawSize m_ml_X5_263 dX5_law_96 ⟨Nat.le_of_ble_eq_true rfl, Nat.le_of_ble_eq_true rfl⟩ rfl rfl (Nat.le_of_ble_eq_true rfl) ?_
                    refine fm_bind (fun r99 e99 => ?_)
                    refine fm_cSl0 (pc := 99) C (t_X5_turnsOfSize e99) ok_X5_turnsOfSize m_ml_X5_266 dX5_law_99 ⟨Nat.le_of_ble_eq_true rfl, Nat.le_of_ble_eq_true rfl⟩ rfl rfl (Nat.le_of_ble_eq_true rfl) ?_
                    exact fm_lret (pc := 102) C hF rfl dX5_law_102
                  · refine fm_tabOut (pc := 52) (tgt := 103) C dX5_law_52 (by have a0 := fm_ne (nI 0) (k := 0) (by decide) s7; have a1 := fm_ne (nI 1) (k := 1) (by decide) s8; have a2 := fm_ne (nI 2) (k := 2) (by decide) s9; omega) (by decide) ?_
                    refine fm_iload_n (pc := 103) C dX5_law_103 rfl rfl ?_
                    refine fm_iload_n (pc := 104) C dX5_law_104 rfl rfl ?_
                    refine fm_bind (fun r105 e105 => ?_)
                    refine fm_cSl0 (pc := 105) C (t_X5_lawHooks e105) ok_X5_lawHooks m_ml_X5_269 dX5_law_105 ⟨Nat.le_of_ble_eq_true rfl, Nat.le_of_ble_eq_true rfl⟩ rfl rfl (Nat.le_of_ble_eq_true rfl) ?_
                    exact fm_lret (pc := 108) C hF rfl dX5_law_108
            · refine fm_aload_n (pc := 43) C dX5_law_43 rfl rfl ?_
              refine fm_bipush (pc := 44) (v := (nI 6)) C dX5_law_44 (by decide) ?_
              refine fm_bind (fun r46 e46 => ?_)
              refine fm_cVi (pc := 46) C (t_X5_refuse e46) ok_X5_refuse ⟨by decide, rfl⟩ m_ml_X5_67 dX5_law_46 ⟨Nat.le_of_ble_eq_true rfl, Nat.le_of_ble_eq_true rfl⟩ rfl rfl (Nat.le_of_ble_eq_true rfl) ?_
              refine fm_i2l (pc := 49) C dX5_law_49 ?_
              exact fm_lret (pc := 50) C hF rfl dX5_law_50
    · refine fm_aload_n (pc := 9) C dX5_law_9 rfl rfl ?_
      refine fm_iconst (pc := 10) (v := (nI 5)) C dX5_law_10 (by decide) ?_
      refine fm_bind (fun r11 e11 => ?_)
      refine fm_cVi (pc := 11) C (t_X5_refuse e11) ok_X5_refuse ⟨by decide, rfl⟩ m_ml_X5_67 dX5_law_11 ⟨Nat.le_of_ble_eq_true rfl, Nat.le_of_ble_eq_true rfl⟩ rfl rfl (Nat.le_of_ble_eq_true rfl) ?_
      refine fm_i2l (pc := 14) C dX5_law_14 ?_
      exact fm_lret (pc := 15) C hF rfl dX5_law_15
theorem t_X5_law {l : Launch} {G : fm_G} {v1 : Int32} {v2 : Int32} {v3 : Int32} {μ : fm_I} {ν : fm_L} {r : Int64 × fm_I × fm_L} (h : m_X5_law v1 v2 v3 μ ν = some r) : fm_Ml l G yX5_law cX5_law 4 (some .long) 4 74 [.ref (G.2.2.1 0), .int v1, .int v2, .int v3] μ ν r := fm_Ml_of (by decide +kernel) (Nat.le_of_ble_eq_true rfl) (fun _ C => j_X5_law C rfl r h)
theorem dX5_make_0 : decode cX5_make 0 = .ok (.iload_n 1, 1) := by decide +kernel
theorem dX5_make_1 : decode cX5_make 1 = .ok (.iconst 1, 1) := by decide +kernel
theorem dX5_make_2 : decode cX5_make 2 = .ok (.if_icmp .lt 13, 3) := by decide +kernel
theorem dX5_make_5 : decode cX5_make 5 = .ok (.iload_n 1, 1) := by decide +kernel
theorem dX5_make_6 : decode cX5_make 6 = .ok (.bipush 12, 2) := by decide +kernel
theorem dX5_make_8 : decode cX5_make 8 = .ok (.if_icmp .gt 7, 3) := by decide +kernel
theorem dX5_make_11 : decode cX5_make 11 = .ok (.iload_n 2, 1) := by decide +kernel
theorem dX5_make_12 : decode cX5_make 12 = .ok (.ifCond .ge 12, 3) := by decide +kernel
theorem dX5_make_15 : decode cX5_make 15 = .ok (.aload_n 0, 1) := by decide +kernel
theorem dX5_make_16 : decode cX5_make 16 = .ok (.bipush 10, 2) := by decide +kernel
theorem dX5_make_18 : decode cX5_make 18 = .ok (.bipush 6, 2) := by decide +kernel
theorem dX5_make_20 : decode cX5_make 20 = .ok (.invokevirtual 218, 3) := by decide +kernel
theorem dX5_make_23 : decode cX5_make 23 = .ok (.ireturn, 1) := by decide +kernel
theorem dX5_make_24 : decode cX5_make 24 = .ok (.iconst 1, 1) := by decide +kernel
theorem dX5_make_25 : decode cX5_make 25 = .ok (.istore_n 3, 1) := by decide +kernel
theorem dX5_make_26 : decode cX5_make 26 = .ok (.iload_n 3, 1) := by decide +kernel
theorem dX5_make_27 : decode cX5_make 27 = .ok (.bipush 12, 2) := by decide +kernel
theorem dX5_make_29 : decode cX5_make 29 = .ok (.if_icmp .gt 66, 3) := by decide +kernel
theorem dX5_make_32 : decode cX5_make 32 = .ok (.iconst 0, 1) := by decide +kernel
theorem dX5_make_33 : decode cX5_make 33 = .ok (.istore 4, 2) := by decide +kernel
theorem dX5_make_35 : decode cX5_make 35 = .ok (.iload 4, 2) := by decide +kernel
theorem dX5_make_37 : decode cX5_make 37 = .ok (.bipush 40, 2) := by decide +kernel
theorem dX5_make_39 : decode cX5_make 39 = .ok (.if_icmp .gt 50, 3) := by decide +kernel
theorem dX5_make_42 : decode cX5_make 42 = .ok (.iload 4, 2) := by decide +kernel
theorem dX5_make_44 : decode cX5_make 44 = .ok (.iload 4, 2) := by decide +kernel
theorem dX5_make_46 : decode cX5_make 46 = .ok (.iload_n 3, 1) := by decide +kernel
theorem dX5_make_47 : decode cX5_make 47 = .ok (.invokestatic 263, 3) := by decide +kernel
theorem dX5_make_50 : decode cX5_make 50 = .ok (.invokestatic 266, 3) := by decide +kernel
theorem dX5_make_53 : decode cX5_make 53 = .ok (.lstore 5, 2) := by decide +kernel
theorem dX5_make_55 : decode cX5_make 55 = .ok (.iload 4, 2) := by decide +kernel
theorem dX5_make_57 : decode cX5_make 57 = .ok (.iload_n 3, 1) := by decide +kernel
theorem dX5_make_58 : decode cX5_make 58 = .ok (.invokestatic 259, 3) := by decide +kernel
theorem dX5_make_61 : decode cX5_make 61 = .ok (.iload_n 1, 1) := by decide +kernel
theorem dX5_make_62 : decode cX5_make 62 = .ok (.i2l, 1) := by decide +kernel
theorem dX5_make_63 : decode cX5_make 63 = .ok (.lcmp, 1) := by decide +kernel
theorem dX5_make_64 : decode cX5_make 64 = .ok (.ifCond .ne 19, 3) := by decide +kernel
theorem dX5_make_67 : decode cX5_make 67 = .ok (.lload 5, 2) := by decide +kernel
theorem dX5_make_69 : decode cX5_make 69 = .ok (.iload_n 2, 1) := by decide +kernel
theorem dX5_make_70 : decode cX5_make 70 = .ok (.i2l, 1) := by decide +kernel
theorem dX5_make_71 : decode cX5_make 71 = .ok (.lcmp, 1) := by decide +kernel
theorem dX5_make_72 : decode cX5_make 72 = .ok (.ifCond .ne 11, 3) := by decide +kernel
theorem dX5_make_75 : decode cX5_make 75 = .ok (.bipush 100, 2) := by decide +kernel
theorem dX5_make_77 : decode cX5_make 77 = .ok (.iload_n 3, 1) := by decide +kernel
theorem dX5_make_78 : decode cX5_make 78 = .ok (.imul, 1) := by decide +kernel
theorem dX5_make_79 : decode cX5_make 79 = .ok (.iload 4, 2) := by decide +kernel
theorem dX5_make_81 : decode cX5_make 81 = .ok (.iadd, 1) := by decide +kernel
theorem dX5_make_82 : decode cX5_make 82 = .ok (.ireturn, 1) := by decide +kernel
theorem dX5_make_83 : decode cX5_make 83 = .ok (.iinc 4 1, 3) := by decide +kernel
theorem dX5_make_86 : decode cX5_make 86 = .ok (.goto (-51), 3) := by decide +kernel
theorem dX5_make_89 : decode cX5_make 89 = .ok (.iinc 3 1, 3) := by decide +kernel
theorem dX5_make_92 : decode cX5_make 92 = .ok (.goto (-66), 3) := by decide +kernel
theorem dX5_make_95 : decode cX5_make 95 = .ok (.iconst (-1), 1) := by decide +kernel
theorem dX5_make_96 : decode cX5_make 96 = .ok (.ireturn, 1) := by decide +kernel
def m_X5_make_35 (v1 : Int32) (v2 : Int32) (v3 : Int32) (μ : fm_I) (ν : fm_L) (K : Option (Int32 × fm_I × fm_L)) : Nat → Int32 → Option (Int32 × fm_I × fm_L)
  | 0, _ => none
  | k + 1, v4 => if (nI 40) < v4 then K else (m_X5_lawSize v4 v3 μ ν).bind (fun r47 => (m_X5_turnsOfSize v4 r47 μ ν).bind (fun r50 => (m_X5_lawPieces v4 v3 μ ν).bind (fun r58 => if (lg_cmp r58 v1.toInt64) = 0 then if (lg_cmp r50 v2.toInt64) = 0 then some (((((((nI 100)) * v3)) + v4), μ, ν)) else m_X5_make_35 v1 v2 v3 μ ν K k ((v4 + nI 1)) else m_X5_make_35 v1 v2 v3 μ ν K k ((v4 + nI 1)))))
def m_X5_make_26 (v1 : Int32) (v2 : Int32) (μ : fm_I) (ν : fm_L) (K : Option (Int32 × fm_I × fm_L)) : Nat → Int32 → Option (Int32 × fm_I × fm_L)
  | 0, _ => none
  | k + 1, v3 => if (nI 12) < v3 then K else m_X5_make_35 v1 v2 v3 μ ν (m_X5_make_26 v1 v2 μ ν K k ((v3 + nI 1))) 5000 ((nI 0))
def m_X5_make (v1 : Int32) (v2 : Int32) (μ : fm_I) (ν : fm_L) : Option (Int32 × fm_I × fm_L) :=
  if v1 < (nI 1) then (m_X5_refuseOffBy ((nI 10)) ((nI 6)) μ ν).bind (fun r20 => some ((r20.1, r20.2.1, r20.2.2))) else if (nI 12) < v1 then (m_X5_refuseOffBy ((nI 10)) ((nI 6)) μ ν).bind (fun r20 => some ((r20.1, r20.2.1, r20.2.2))) else if 0 ≤ v2 then m_X5_make_26 v1 v2 μ ν (some (((-1 : Int32), μ, ν))) 5000 ((nI 1)) else (m_X5_refuseOffBy ((nI 10)) ((nI 6)) μ ν).bind (fun r20 => some ((r20.1, r20.2.1, r20.2.2)))
theorem ok_X5_make : fm_okV yX5_make cX5_make 7 (some .int) 2 := ⟨m_cd_X5_make, m_im_X5_make, m_se_X5_X5_make, m_ini_X5, by decide +kernel, by decide +kernel, by decide +kernel⟩
set_option maxHeartbeats 4000000 in
set_option maxRecDepth 100000 in
theorem j_X5_make_35_ {X : fm_X} {G : fm_G} {l : Launch} {v1 : Int32} {v2 : Int32} {v3 : Int32} {μ : fm_I} {ν : fm_L} (C : fm_C X G l cX5_make RX5 7 (some .int) 3 53) {F : (Int32 × fm_I × fm_L) → State → Prop} (hF : F = fm_Qi X G)  {K : Option (Int32 × fm_I × fm_L)} (hK : fm_J X G 7 F (K ) μ ν 89 [(1, .int v1), (2, .int v2), (3, .int v3)] []) : ∀ (k : Nat) (v4 : Int32), fm_J X G 7 F (m_X5_make_35 v1 v2 v3 μ ν K k v4) μ ν 35 [(1, .int v1), (2, .int v2), (3, .int v3), (4, .int v4)] [] := by
  intro k
  induction k with
  | zero =>
    intro v4
    exact fm_none
  | succ k ih =>
    intro v4
    rw [m_X5_make_35]
    refine fm_iload (pc := 35) C dX5_make_35 rfl ?_
    refine fm_bipush (pc := 37) (v := (nI 40)) C dX5_make_37 (by decide) ?_
    refine fm_icmp_gt (pc := 39) (tgt := 89) C dX5_make_39 (by decide) (fun c5 => ?_) (fun c5 => ?_)
    · refine fm_less (lv' := [(1, .int v1), (2, .int v2), (3, .int v3)]) (by repeat (first | exact trivial | refine ⟨rfl, ?_⟩)) ?_
      exact hK
    · refine fm_iload (pc := 42) C dX5_make_42 rfl ?_
      refine fm_iload (pc := 44) C dX5_make_44 rfl ?_
      refine fm_iload_n (pc := 46) C dX5_make_46 rfl rfl ?_
      refine fm_bind (fun r47 e47 => ?_)
      refine fm_cSi0 (pc := 47) C (t_X5_lawSize e47) ok_X5_lawSize m_ml_X5_263 dX5_make_47 ⟨Nat.le_of_ble_eq_true rfl, Nat.le_of_ble_eq_true rfl⟩ rfl rfl (Nat.le_of_ble_eq_true rfl) ?_
      refine fm_bind (fun r50 e50 => ?_)
      refine fm_cSl0 (pc := 50) C (t_X5_turnsOfSize e50) ok_X5_turnsOfSize m_ml_X5_266 dX5_make_50 ⟨Nat.le_of_ble_eq_true rfl, Nat.le_of_ble_eq_true rfl⟩ rfl rfl (Nat.le_of_ble_eq_true rfl) ?_
      refine fm_lstore (pc := 53) C dX5_make_53 (by decide) rfl ?_
      refine fm_iload (pc := 55) C dX5_make_55 rfl ?_
      refine fm_iload_n (pc := 57) C dX5_make_57 rfl rfl ?_
      refine fm_bind (fun r58 e58 => ?_)
      refine fm_cSl0 (pc := 58) C (t_X5_lawPieces e58) ok_X5_lawPieces m_ml_X5_259 dX5_make_58 ⟨Nat.le_of_ble_eq_true rfl, Nat.le_of_ble_eq_true rfl⟩ rfl rfl (Nat.le_of_ble_eq_true rfl) ?_
      refine fm_iload_n (pc := 61) C dX5_make_61 rfl rfl ?_
      refine fm_i2l (pc := 62) C dX5_make_62 ?_
      refine fm_lcmp (pc := 63) C dX5_make_63 ?_
      refine fm_if_ne (pc := 64) (tgt := 83) C dX5_make_64 (by decide) (fun c6 => ?_) (fun c6 => ?_)
      · refine fm_lload (pc := 67) C dX5_make_67 rfl ?_
        refine fm_iload_n (pc := 69) C dX5_make_69 rfl rfl ?_
        refine fm_i2l (pc := 70) C dX5_make_70 ?_
        refine fm_lcmp (pc := 71) C dX5_make_71 ?_
        refine fm_if_ne (pc := 72) (tgt := 83) C dX5_make_72 (by decide) (fun c7 => ?_) (fun c7 => ?_)
        · refine fm_bipush (pc := 75) (v := (nI 100)) C dX5_make_75 (by decide) ?_
          refine fm_iload_n (pc := 77) C dX5_make_77 rfl rfl ?_
          refine fm_imul (pc := 78) C dX5_make_78 ?_
          refine fm_iload (pc := 79) C dX5_make_79 rfl ?_
          refine fm_iadd (pc := 81) C dX5_make_81 ?_
          exact fm_zret (pc := 82) C hF rfl rfl dX5_make_82
        · refine fm_iinc (pc := 83) C dX5_make_83 rfl (v := (v4 + nI 1)) rfl (by decide) rfl ?_
          refine fm_goto (pc := 86) (tgt := 35) C dX5_make_86 (by decide) ?_
          refine fm_less (lv' := [(1, .int v1), (2, .int v2), (3, .int v3), (4, .int ((v4 + nI 1)))]) (by repeat (first | exact trivial | refine ⟨rfl, ?_⟩)) ?_
          exact ih _
      · refine fm_iinc (pc := 83) C dX5_make_83 rfl (v := (v4 + nI 1)) rfl (by decide) rfl ?_
        refine fm_goto (pc := 86) (tgt := 35) C dX5_make_86 (by decide) ?_
        refine fm_less (lv' := [(1, .int v1), (2, .int v2), (3, .int v3), (4, .int ((v4 + nI 1)))]) (by repeat (first | exact trivial | refine ⟨rfl, ?_⟩)) ?_
        exact ih _
set_option maxHeartbeats 4000000 in
set_option maxRecDepth 100000 in
theorem j_X5_make_26_ {X : fm_X} {G : fm_G} {l : Launch} {v1 : Int32} {v2 : Int32} {μ : fm_I} {ν : fm_L} (C : fm_C X G l cX5_make RX5 7 (some .int) 3 53) {F : (Int32 × fm_I × fm_L) → State → Prop} (hF : F = fm_Qi X G)  {K : Option (Int32 × fm_I × fm_L)} (hK : fm_J X G 7 F (K ) μ ν 95 [] []) : ∀ (k : Nat) (v3 : Int32), fm_J X G 7 F (m_X5_make_26 v1 v2 μ ν K k v3) μ ν 26 [(1, .int v1), (2, .int v2), (3, .int v3)] [] := by
  intro k
  induction k with
  | zero =>
    intro v3
    exact fm_none
  | succ k ih =>
    intro v3
    rw [m_X5_make_26]
    refine fm_iload_n (pc := 26) C dX5_make_26 rfl rfl ?_
    refine fm_bipush (pc := 27) (v := (nI 12)) C dX5_make_27 (by decide) ?_
    refine fm_icmp_gt (pc := 29) (tgt := 95) C dX5_make_29 (by decide) (fun c4 => ?_) (fun c4 => ?_)
    · refine fm_less (lv' := []) (by repeat (first | exact trivial | refine ⟨rfl, ?_⟩)) ?_
      exact hK
    · refine fm_iconst (pc := 32) (v := (nI 0)) C dX5_make_32 (by decide) ?_
      refine fm_istore (pc := 33) C dX5_make_33 (by decide) rfl ?_
      refine fm_less (lv' := [(1, .int v1), (2, .int v2), (3, .int v3), (4, .int ((nI 0)))]) (by repeat (first | exact trivial | refine ⟨rfl, ?_⟩)) ?_
      refine j_X5_make_35_ C (v1 := v1) (v2 := v2) (v3 := v3) hF  ?_ _ _
      refine fm_iinc (pc := 89) C dX5_make_89 rfl (v := (v3 + nI 1)) rfl (by decide) rfl ?_
      refine fm_goto (pc := 92) (tgt := 26) C dX5_make_92 (by decide) ?_
      refine fm_less (lv' := [(1, .int v1), (2, .int v2), (3, .int ((v3 + nI 1)))]) (by repeat (first | exact trivial | refine ⟨rfl, ?_⟩)) ?_
      exact ih _
set_option maxHeartbeats 4000000 in
set_option maxRecDepth 100000 in
theorem j_X5_make {X : fm_X} {G : fm_G} {l : Launch} {v1 : Int32} {v2 : Int32} {μ : fm_I} {ν : fm_L} (C : fm_C X G l cX5_make RX5 7 (some .int) 3 53) {F : (Int32 × fm_I × fm_L) → State → Prop} (hF : F = fm_Qi X G) : fm_J X G 7 F (m_X5_make v1 v2 μ ν) μ ν 0 [(0, .ref (G.2.2.1 0)), (1, .int v1), (2, .int v2)] [] := by
  unfold m_X5_make
  refine fm_iload_n (pc := 0) C dX5_make_0 rfl rfl ?_
  refine fm_iconst (pc := 1) (v := (nI 1)) C dX5_make_1 (by decide) ?_
  refine fm_icmp_lt (pc := 2) (tgt := 15) C dX5_make_2 (by decide) (fun c1 => ?_) (fun c1 => ?_)
  · refine fm_aload_n (pc := 15) C dX5_make_15 rfl rfl ?_
    refine fm_bipush (pc := 16) (v := (nI 10)) C dX5_make_16 (by decide) ?_
    refine fm_bipush (pc := 18) (v := (nI 6)) C dX5_make_18 (by decide) ?_
    refine fm_bind (fun r20 e20 => ?_)
    refine fm_cVi (pc := 20) C (t_X5_refuseOffBy e20) ok_X5_refuseOffBy ⟨by decide, rfl⟩ m_ml_X5_218 dX5_make_20 ⟨Nat.le_of_ble_eq_true rfl, Nat.le_of_ble_eq_true rfl⟩ rfl rfl (Nat.le_of_ble_eq_true rfl) ?_
    exact fm_zret (pc := 23) C hF rfl rfl dX5_make_23
  · refine fm_iload_n (pc := 5) C dX5_make_5 rfl rfl ?_
    refine fm_bipush (pc := 6) (v := (nI 12)) C dX5_make_6 (by decide) ?_
    refine fm_icmp_gt (pc := 8) (tgt := 15) C dX5_make_8 (by decide) (fun c2 => ?_) (fun c2 => ?_)
    · refine fm_aload_n (pc := 15) C dX5_make_15 rfl rfl ?_
      refine fm_bipush (pc := 16) (v := (nI 10)) C dX5_make_16 (by decide) ?_
      refine fm_bipush (pc := 18) (v := (nI 6)) C dX5_make_18 (by decide) ?_
      refine fm_bind (fun r20 e20 => ?_)
      refine fm_cVi (pc := 20) C (t_X5_refuseOffBy e20) ok_X5_refuseOffBy ⟨by decide, rfl⟩ m_ml_X5_218 dX5_make_20 ⟨Nat.le_of_ble_eq_true rfl, Nat.le_of_ble_eq_true rfl⟩ rfl rfl (Nat.le_of_ble_eq_true rfl) ?_
      exact fm_zret (pc := 23) C hF rfl rfl dX5_make_23
    · refine fm_iload_n (pc := 11) C dX5_make_11 rfl rfl ?_
      refine fm_if_ge (pc := 12) (tgt := 24) C dX5_make_12 (by decide) (fun c3 => ?_) (fun c3 => ?_)
      · refine fm_iconst (pc := 24) (v := (nI 1)) C dX5_make_24 (by decide) ?_
        refine fm_istore_n (pc := 25) C dX5_make_25 rfl (by decide) rfl ?_
        refine fm_less (lv' := [(1, .int v1), (2, .int v2), (3, .int ((nI 1)))]) (by repeat (first | exact trivial | refine ⟨rfl, ?_⟩)) ?_
        refine j_X5_make_26_ C (v1 := v1) (v2 := v2) hF  ?_ _ _
        refine fm_iconst (pc := 95) (v := (-1 : Int32)) C dX5_make_95 (by decide) ?_
        exact fm_zret (pc := 96) C hF rfl rfl dX5_make_96
      · refine fm_aload_n (pc := 15) C dX5_make_15 rfl rfl ?_
        refine fm_bipush (pc := 16) (v := (nI 10)) C dX5_make_16 (by decide) ?_
        refine fm_bipush (pc := 18) (v := (nI 6)) C dX5_make_18 (by decide) ?_
        refine fm_bind (fun r20 e20 => ?_)
        refine fm_cVi (pc := 20) C (t_X5_refuseOffBy e20) ok_X5_refuseOffBy ⟨by decide, rfl⟩ m_ml_X5_218 dX5_make_20 ⟨Nat.le_of_ble_eq_true rfl, Nat.le_of_ble_eq_true rfl⟩ rfl rfl (Nat.le_of_ble_eq_true rfl) ?_
        exact fm_zret (pc := 23) C hF rfl rfl dX5_make_23
theorem t_X5_make {l : Launch} {G : fm_G} {v1 : Int32} {v2 : Int32} {μ : fm_I} {ν : fm_L} {r : Int32 × fm_I × fm_L} (h : m_X5_make v1 v2 μ ν = some r) : fm_Mi l G yX5_make cX5_make 7 (some .int) 3 53 [.ref (G.2.2.1 0), .int v1, .int v2] μ ν r := fm_Mi_of (by decide +kernel) (Nat.le_of_ble_eq_true rfl) (fun _ C => j_X5_make C rfl r h)
theorem dX5_cut_0 : decode cX5_cut 0 = .ok (.aload_n 0, 1) := by decide +kernel
theorem dX5_cut_1 : decode cX5_cut 1 = .ok (.iload_n 1, 1) := by decide +kernel
theorem dX5_cut_2 : decode cX5_cut 2 = .ok (.invokevirtual 112, 3) := by decide +kernel
theorem dX5_cut_5 : decode cX5_cut 5 = .ok (.astore_n 3, 1) := by decide +kernel
theorem dX5_cut_6 : decode cX5_cut 6 = .ok (.aload_n 3, 1) := by decide +kernel
theorem dX5_cut_7 : decode cX5_cut 7 = .ok (.ifnull 15, 3) := by decide +kernel
theorem dX5_cut_10 : decode cX5_cut 10 = .ok (.aload_n 0, 1) := by decide +kernel
theorem dX5_cut_11 : decode cX5_cut 11 = .ok (.aload_n 3, 1) := by decide +kernel
theorem dX5_cut_12 : decode cX5_cut 12 = .ok (.invokevirtual 192, 3) := by decide +kernel
theorem dX5_cut_15 : decode cX5_cut 15 = .ok (.iload_n 2, 1) := by decide +kernel
theorem dX5_cut_16 : decode cX5_cut 16 = .ok (.invokevirtual 199, 3) := by decide +kernel
theorem dX5_cut_19 : decode cX5_cut 19 = .ok (.ifCond .ne 9, 3) := by decide +kernel
theorem dX5_cut_22 : decode cX5_cut 22 = .ok (.aload_n 0, 1) := by decide +kernel
theorem dX5_cut_23 : decode cX5_cut 23 = .ok (.iconst 1, 1) := by decide +kernel
theorem dX5_cut_24 : decode cX5_cut 24 = .ok (.invokevirtual 67, 3) := by decide +kernel
theorem dX5_cut_27 : decode cX5_cut 27 = .ok (.ireturn, 1) := by decide +kernel
theorem dX5_cut_28 : decode cX5_cut 28 = .ok (.aload_n 0, 1) := by decide +kernel
theorem dX5_cut_29 : decode cX5_cut 29 = .ok (.getfield 31, 3) := by decide +kernel
theorem dX5_cut_32 : decode cX5_cut 32 = .ok (.iload_n 2, 1) := by decide +kernel
theorem dX5_cut_33 : decode cX5_cut 33 = .ok (.invokevirtual 208, 3) := by decide +kernel
theorem dX5_cut_36 : decode cX5_cut 36 = .ok (.istore 4, 2) := by decide +kernel
theorem dX5_cut_38 : decode cX5_cut 38 = .ok (.iload 4, 2) := by decide +kernel
theorem dX5_cut_40 : decode cX5_cut 40 = .ok (.sipush 9999, 3) := by decide +kernel
theorem dX5_cut_43 : decode cX5_cut 43 = .ok (.if_icmp .le 10, 3) := by decide +kernel
theorem dX5_cut_46 : decode cX5_cut 46 = .ok (.aload_n 0, 1) := by decide +kernel
theorem dX5_cut_47 : decode cX5_cut 47 = .ok (.bipush 7, 2) := by decide +kernel
theorem dX5_cut_49 : decode cX5_cut 49 = .ok (.invokevirtual 67, 3) := by decide +kernel
theorem dX5_cut_52 : decode cX5_cut 52 = .ok (.ireturn, 1) := by decide +kernel
theorem dX5_cut_53 : decode cX5_cut 53 = .ok (.aload_n 3, 1) := by decide +kernel
theorem dX5_cut_54 : decode cX5_cut 54 = .ok (.iload 4, 2) := by decide +kernel
theorem dX5_cut_56 : decode cX5_cut 56 = .ok (.putfield 141, 3) := by decide +kernel
theorem dX5_cut_59 : decode cX5_cut 59 = .ok (.aload_n 0, 1) := by decide +kernel
theorem dX5_cut_60 : decode cX5_cut 60 = .ok (.dup, 1) := by decide +kernel
theorem dX5_cut_61 : decode cX5_cut 61 = .ok (.getfield 274, 3) := by decide +kernel
theorem dX5_cut_64 : decode cX5_cut 64 = .ok (.aload_n 3, 1) := by decide +kernel
theorem dX5_cut_65 : decode cX5_cut 65 = .ok (.getfield 131, 3) := by decide +kernel
theorem dX5_cut_68 : decode cX5_cut 68 = .ok (.iconst 1, 1) := by decide +kernel
theorem dX5_cut_69 : decode cX5_cut 69 = .ok (.isub, 1) := by decide +kernel
theorem dX5_cut_70 : decode cX5_cut 70 = .ok (.iadd, 1) := by decide +kernel
theorem dX5_cut_71 : decode cX5_cut 71 = .ok (.putfield 274, 3) := by decide +kernel
theorem dX5_cut_74 : decode cX5_cut 74 = .ok (.iload 4, 2) := by decide +kernel
theorem dX5_cut_76 : decode cX5_cut 76 = .ok (.ireturn, 1) := by decide +kernel
def m_X5_cut (v1 : Int32) (v2 : Int32) (μ : fm_I) (ν : fm_L) : Option (Int32 × fm_I × fm_L) :=
  (m_X5_bandAt v1 μ ν).bind (fun r2 => fm_o r2 ((m_X5_refuse ((nI 1)) μ ν).bind (fun r24 => some ((r24.1, r24.2.1, r24.2.2)))) (fun y2 => (m_X5_laid y2 μ ν).bind (fun r12 => (m_X1_hasPiece v2 r12.1 r12.2).bind (fun r16 => if r16 = 0 then (m_X5_refuse ((nI 1)) r12.1 r12.2).bind (fun r24 => some ((r24.1, r24.2.1, r24.2.2))) else (m_X1_turnsOf v2 r12.1 r12.2).bind (fun r33 => if r33 ≤ (nI 9999) then fm_g (Nat.beq (fm_k y2) 0) (some ((r33, (fm_u (fm_u r12.1 y2 3 r33) 0 9 ((((((fm_u r12.1 y2 3 r33)) 0 9)) + ((((((fm_u r12.1 y2 3 r33)) y2 4)) - ((nI 1))))))), r12.2))) else (m_X5_refuse ((nI 7)) r12.1 r12.2).bind (fun r49 => some ((r49.1, r49.2.1, r49.2.2))))))))
theorem ok_X5_cut : fm_okV yX5_cut cX5_cut 5 (some .int) 2 := ⟨m_cd_X5_cut, m_im_X5_cut, m_se_X5_X5_cut, m_ini_X5, by decide +kernel, by decide +kernel, by decide +kernel⟩
set_option maxHeartbeats 4000000 in
set_option maxRecDepth 100000 in
theorem j_X5_cut {X : fm_X} {G : fm_G} {l : Launch} {v1 : Int32} {v2 : Int32} {μ : fm_I} {ν : fm_L} (C : fm_C X G l cX5_cut RX5 5 (some .int) 5 106) {F : (Int32 × fm_I × fm_L) → State → Prop} (hF : F = fm_Qi X G) : fm_J X G 5 F (m_X5_cut v1 v2 μ ν) μ ν 0 [(0, .ref (G.2.2.1 0)), (1, .int v1), (2, .int v2)] [] := by
  unfold m_X5_cut
  refine fm_aload_n (pc := 0) C dX5_cut_0 rfl rfl ?_
  refine fm_iload_n (pc := 1) C dX5_cut_1 rfl rfl ?_
  refine fm_bind (fun r2 e2 => ?_)
  refine fm_cVq0 (pc := 2) C (t_X5_bandAt e2) ok_X5_bandAt ⟨by decide, rfl⟩ m_ml_X5_112 dX5_cut_2 ⟨Nat.le_of_ble_eq_true rfl, Nat.le_of_ble_eq_true rfl⟩ rfl rfl (Nat.le_of_ble_eq_true rfl) ?_
  refine fm_opt (fun e2 => ?_) (fun y2 e2 => ?_)
  · subst e2
    refine fm_astoreq_n (x := none) (pc := 5) C dX5_cut_5 rfl (by decide) rfl ?_
    refine fm_aloadq_n (x := none) (pc := 6) C dX5_cut_6 rfl rfl ?_
    refine fm_ifnullN (pc := 7) (tgt := 22) C dX5_cut_7 (by decide) ?_
    refine fm_aload_n (pc := 22) C dX5_cut_22 rfl rfl ?_
    refine fm_iconst (pc := 23) (v := (nI 1)) C dX5_cut_23 (by decide) ?_
    refine fm_bind (fun r24 e24 => ?_)
    refine fm_cVi (pc := 24) C (t_X5_refuse e24) ok_X5_refuse ⟨by decide, rfl⟩ m_ml_X5_67 dX5_cut_24 ⟨Nat.le_of_ble_eq_true rfl, Nat.le_of_ble_eq_true rfl⟩ rfl rfl (Nat.le_of_ble_eq_true rfl) ?_
    exact fm_zret (pc := 27) C hF rfl rfl dX5_cut_27
  · subst e2
    refine fm_astore_n (pc := 5) C dX5_cut_5 rfl (by decide) rfl ?_
    refine fm_aload_n (pc := 6) C dX5_cut_6 rfl rfl ?_
    refine fm_ifnullR (pc := 7) C dX5_cut_7 ?_
    refine fm_aload_n (pc := 10) C dX5_cut_10 rfl rfl ?_
    refine fm_aload_n (pc := 11) C dX5_cut_11 rfl rfl ?_
    refine fm_bind (fun r12 e12 => ?_)
    refine fm_cVqc (pc := 12) C (t_X5_laid e12) ok_X5_laid ⟨by decide, rfl⟩ m_ml_X5_192 dX5_cut_12 ⟨Nat.le_of_ble_eq_true rfl, Nat.le_of_ble_eq_true rfl⟩ rfl rfl (Nat.le_of_ble_eq_true rfl) ?_
    refine fm_iload_n (pc := 15) C dX5_cut_15 rfl rfl ?_
    refine fm_bind (fun r16 e16 => ?_)
    refine fm_cVi0 (pc := 16) C (t_X1_hasPiece e16) ok_X1_hasPiece ⟨by decide, rfl⟩ m_ml_X5_199 dX5_cut_16 ⟨Nat.le_of_ble_eq_true rfl, Nat.le_of_ble_eq_true rfl⟩ rfl rfl (Nat.le_of_ble_eq_true rfl) ?_
    refine fm_if_ne (pc := 19) (tgt := 28) C dX5_cut_19 (by decide) (fun c1 => ?_) (fun c1 => ?_)
    · refine fm_aload_n (pc := 22) C dX5_cut_22 rfl rfl ?_
      refine fm_iconst (pc := 23) (v := (nI 1)) C dX5_cut_23 (by decide) ?_
      refine fm_bind (fun r24 e24 => ?_)
      refine fm_cVi (pc := 24) C (t_X5_refuse e24) ok_X5_refuse ⟨by decide, rfl⟩ m_ml_X5_67 dX5_cut_24 ⟨Nat.le_of_ble_eq_true rfl, Nat.le_of_ble_eq_true rfl⟩ rfl rfl (Nat.le_of_ble_eq_true rfl) ?_
      exact fm_zret (pc := 27) C hF rfl rfl dX5_cut_27
    · refine fm_aload_n (pc := 28) C dX5_cut_28 rfl rfl ?_
      refine g5_cutting (pc := 29) C (by decide) dX5_cut_29 m_fl_X5_31 ?_
      refine fm_iload_n (pc := 32) C dX5_cut_32 rfl rfl ?_
      refine fm_bind (fun r33 e33 => ?_)
      refine fm_cVi0 (pc := 33) C (t_X1_turnsOf e33) ok_X1_turnsOf ⟨by decide, rfl⟩ m_ml_X5_208 dX5_cut_33 ⟨Nat.le_of_ble_eq_true rfl, Nat.le_of_ble_eq_true rfl⟩ rfl rfl (Nat.le_of_ble_eq_true rfl) ?_
      refine fm_istore (pc := 36) C dX5_cut_36 (by decide) rfl ?_
      refine fm_iload (pc := 38) C dX5_cut_38 rfl ?_
      refine fm_sipush (pc := 40) (v := (nI 9999)) C dX5_cut_40 (by decide) ?_
      refine fm_icmp_le (pc := 43) (tgt := 53) C dX5_cut_43 (by decide) (fun c2 => ?_) (fun c2 => ?_)
      · refine fm_aload_n (pc := 53) C dX5_cut_53 rfl rfl ?_
        refine fm_iload (pc := 54) C dX5_cut_54 rfl ?_
        refine fm_guard (fun h3 => ?_)
        refine p0_twists (pc := 56) C (Nat.eq_of_beq_eq_true h3) dX5_cut_56 m_fl_X5_141 ?_
        refine fm_aload_n (pc := 59) C dX5_cut_59 rfl rfl ?_
        refine fm_dup (pc := 60) C dX5_cut_60 rfl ?_
        refine g5_snips (pc := 61) C (by decide) dX5_cut_61 m_fl_X5_274 ?_
        refine fm_aload_n (pc := 64) C dX5_cut_64 rfl rfl ?_
        refine g0_strips (pc := 65) C (Nat.eq_of_beq_eq_true h3) dX5_cut_65 m_fl_X5_131 ?_
        refine fm_iconst (pc := 68) (v := (nI 1)) C dX5_cut_68 (by decide) ?_
        refine fm_isub (pc := 69) C dX5_cut_69 ?_
        refine fm_iadd (pc := 70) C dX5_cut_70 ?_
        refine p5_snips (pc := 71) C (by decide) dX5_cut_71 m_fl_X5_274 ?_
        refine fm_iload (pc := 74) C dX5_cut_74 rfl ?_
        exact fm_zret (pc := 76) C hF rfl rfl dX5_cut_76
      · refine fm_aload_n (pc := 46) C dX5_cut_46 rfl rfl ?_
        refine fm_bipush (pc := 47) (v := (nI 7)) C dX5_cut_47 (by decide) ?_
        refine fm_bind (fun r49 e49 => ?_)
        refine fm_cVi (pc := 49) C (t_X5_refuse e49) ok_X5_refuse ⟨by decide, rfl⟩ m_ml_X5_67 dX5_cut_49 ⟨Nat.le_of_ble_eq_true rfl, Nat.le_of_ble_eq_true rfl⟩ rfl rfl (Nat.le_of_ble_eq_true rfl) ?_
        exact fm_zret (pc := 52) C hF rfl rfl dX5_cut_52
theorem t_X5_cut {l : Launch} {G : fm_G} {v1 : Int32} {v2 : Int32} {μ : fm_I} {ν : fm_L} {r : Int32 × fm_I × fm_L} (h : m_X5_cut v1 v2 μ ν = some r) : fm_Mi l G yX5_cut cX5_cut 5 (some .int) 5 106 [.ref (G.2.2.1 0), .int v1, .int v2] μ ν r := fm_Mi_of (by decide +kernel) (Nat.le_of_ble_eq_true rfl) (fun _ C => j_X5_cut C rfl r h)
theorem dX5_draw_0 : decode cX5_draw 0 = .ok (.aload_n 0, 1) := by decide +kernel
theorem dX5_draw_1 : decode cX5_draw 1 = .ok (.aload_n 0, 1) := by decide +kernel
theorem dX5_draw_2 : decode cX5_draw 2 = .ok (.getfield 49, 3) := by decide +kernel
theorem dX5_draw_5 : decode cX5_draw 5 = .ok (.ldc_w 285, 3) := by decide +kernel
theorem dX5_draw_8 : decode cX5_draw 8 = .ok (.imul, 1) := by decide +kernel
theorem dX5_draw_9 : decode cX5_draw 9 = .ok (.sipush 12345, 3) := by decide +kernel
theorem dX5_draw_12 : decode cX5_draw 12 = .ok (.iadd, 1) := by decide +kernel
theorem dX5_draw_13 : decode cX5_draw 13 = .ok (.putfield 49, 3) := by decide +kernel
theorem dX5_draw_16 : decode cX5_draw 16 = .ok (.iload_n 1, 1) := by decide +kernel
theorem dX5_draw_17 : decode cX5_draw 17 = .ok (.iconst 1, 1) := by decide +kernel
theorem dX5_draw_18 : decode cX5_draw 18 = .ok (.if_icmp .ge 7, 3) := by decide +kernel
theorem dX5_draw_21 : decode cX5_draw 21 = .ok (.iconst 0, 1) := by decide +kernel
theorem dX5_draw_22 : decode cX5_draw 22 = .ok (.goto 12, 3) := by decide +kernel
theorem dX5_draw_25 : decode cX5_draw 25 = .ok (.aload_n 0, 1) := by decide +kernel
theorem dX5_draw_26 : decode cX5_draw 26 = .ok (.getfield 49, 3) := by decide +kernel
theorem dX5_draw_29 : decode cX5_draw 29 = .ok (.bipush 16, 2) := by decide +kernel
theorem dX5_draw_31 : decode cX5_draw 31 = .ok (.iushr, 1) := by decide +kernel
theorem dX5_draw_32 : decode cX5_draw 32 = .ok (.iload_n 1, 1) := by decide +kernel
theorem dX5_draw_33 : decode cX5_draw 33 = .ok (.irem, 1) := by decide +kernel
theorem dX5_draw_34 : decode cX5_draw 34 = .ok (.ireturn, 1) := by decide +kernel
def m_X5_draw (v1 : Int32) (μ : fm_I) (ν : fm_L) : Option (Int32 × fm_I × fm_L) :=
  if (nI 1) ≤ v1 then fm_g (decide (¬ v1 = 0)) (some ((((((((((fm_u μ 0 8 ((((((μ 0 8)) * ((nI 1103515245)))) + ((nI 12345)))))) 0 8)).toUInt32 >>> (((nI 16)).toUInt32 &&& Int32.toUInt32 31)).toInt32)) - (((((((fm_u μ 0 8 ((((((μ 0 8)) * ((nI 1103515245)))) + ((nI 12345)))))) 0 8)).toUInt32 >>> (((nI 16)).toUInt32 &&& Int32.toUInt32 31)).toInt32)) / v1 * v1), (fm_u μ 0 8 ((((((μ 0 8)) * ((nI 1103515245)))) + ((nI 12345))))), ν))) else some (((nI 0), (fm_u μ 0 8 ((((((μ 0 8)) * ((nI 1103515245)))) + ((nI 12345))))), ν))
theorem ok_X5_draw : fm_okV yX5_draw cX5_draw 2 (some .int) 1 := ⟨m_cd_X5_draw, m_im_X5_draw, m_se_X5_X5_draw, m_ini_X5, by decide +kernel, by decide +kernel, by decide +kernel⟩
set_option maxHeartbeats 4000000 in
set_option maxRecDepth 100000 in
theorem j_X5_draw {X : fm_X} {G : fm_G} {l : Launch} {v1 : Int32} {μ : fm_I} {ν : fm_L} (C : fm_C X G l cX5_draw RX5 2 (some .int) 1 12) {F : (Int32 × fm_I × fm_L) → State → Prop} (hF : F = fm_Qi X G) : fm_J X G 2 F (m_X5_draw v1 μ ν) μ ν 0 [(0, .ref (G.2.2.1 0)), (1, .int v1)] [] := by
  unfold m_X5_draw
  refine fm_aload_n (pc := 0) C dX5_draw_0 rfl rfl ?_
  refine fm_aload_n (pc := 1) C dX5_draw_1 rfl rfl ?_
  refine g5_seed (pc := 2) C (by decide) dX5_draw_2 m_fl_X5_49 ?_
  refine fm_ldcw (pc := 5) (v := (nI 1103515245)) C dX5_draw_5 m_ct_X5_285 ?_
  refine fm_imul (pc := 8) C dX5_draw_8 ?_
  refine fm_sipush (pc := 9) (v := (nI 12345)) C dX5_draw_9 (by decide) ?_
  refine fm_iadd (pc := 12) C dX5_draw_12 ?_
  refine p5_seed (pc := 13) C (by decide) dX5_draw_13 m_fl_X5_49 ?_
  refine fm_iload_n (pc := 16) C dX5_draw_16 rfl rfl ?_
  refine fm_iconst (pc := 17) (v := (nI 1)) C dX5_draw_17 (by decide) ?_
  refine fm_icmp_ge (pc := 18) (tgt := 25) C dX5_draw_18 (by decide) (fun c1 => ?_) (fun c1 => ?_)
  · refine fm_aload_n (pc := 25) C dX5_draw_25 rfl rfl ?_
    refine g5_seed (pc := 26) C (by decide) dX5_draw_26 m_fl_X5_49 ?_
    refine fm_bipush (pc := 29) (v := (nI 16)) C dX5_draw_29 (by decide) ?_
    refine fm_iushr (pc := 31) C dX5_draw_31 ?_
    refine fm_iload_n (pc := 32) C dX5_draw_32 rfl rfl ?_
    refine fm_guard (fun h2 => ?_)
    refine fm_irem (pc := 33) C dX5_draw_33 h2 ?_
    exact fm_zret (pc := 34) C hF rfl rfl dX5_draw_34
  · refine fm_iconst (pc := 21) (v := (nI 0)) C dX5_draw_21 (by decide) ?_
    refine fm_goto (pc := 22) (tgt := 34) C dX5_draw_22 (by decide) ?_
    exact fm_zret (pc := 34) C hF rfl rfl dX5_draw_34
theorem t_X5_draw {l : Launch} {G : fm_G} {v1 : Int32} {μ : fm_I} {ν : fm_L} {r : Int32 × fm_I × fm_L} (h : m_X5_draw v1 μ ν = some r) : fm_Mi l G yX5_draw cX5_draw 2 (some .int) 1 12 [.ref (G.2.2.1 0), .int v1] μ ν r := fm_Mi_of (by decide +kernel) (Nat.le_of_ble_eq_true rfl) (fun _ C => j_X5_draw C rfl r h)
theorem dX5_draws_0 : decode cX5_draws 0 = .ok (.iload_n 1, 1) := by decide +kernel
theorem dX5_draws_1 : decode cX5_draws 1 = .ok (.iconst 1, 1) := by decide +kernel
theorem dX5_draws_2 : decode cX5_draws 2 = .ok (.if_icmp .lt 9, 3) := by decide +kernel
theorem dX5_draws_5 : decode cX5_draws 5 = .ok (.iload_n 1, 1) := by decide +kernel
theorem dX5_draws_6 : decode cX5_draws 6 = .ok (.bipush 6, 2) := by decide +kernel
theorem dX5_draws_8 : decode cX5_draws 8 = .ok (.if_icmp .le 10, 3) := by decide +kernel
theorem dX5_draws_11 : decode cX5_draws 11 = .ok (.aload_n 0, 1) := by decide +kernel
theorem dX5_draws_12 : decode cX5_draws 12 = .ok (.bipush 6, 2) := by decide +kernel
theorem dX5_draws_14 : decode cX5_draws 14 = .ok (.invokevirtual 67, 3) := by decide +kernel
theorem dX5_draws_17 : decode cX5_draws 17 = .ok (.ireturn, 1) := by decide +kernel
theorem dX5_draws_18 : decode cX5_draws 18 = .ok (.iload_n 1, 1) := by decide +kernel
theorem dX5_draws_19 : decode cX5_draws 19 = .ok (.bipush 6, 2) := by decide +kernel
theorem dX5_draws_21 : decode cX5_draws 21 = .ok (.aload_n 0, 1) := by decide +kernel
theorem dX5_draws_22 : decode cX5_draws 22 = .ok (.getfield 153, 3) := by decide +kernel
theorem dX5_draws_25 : decode cX5_draws 25 = .ok (.isub, 1) := by decide +kernel
theorem dX5_draws_26 : decode cX5_draws 26 = .ok (.invokestatic 277, 3) := by decide +kernel
theorem dX5_draws_29 : decode cX5_draws 29 = .ok (.istore_n 2, 1) := by decide +kernel
theorem dX5_draws_30 : decode cX5_draws 30 = .ok (.iconst 0, 1) := by decide +kernel
theorem dX5_draws_31 : decode cX5_draws 31 = .ok (.istore_n 3, 1) := by decide +kernel
theorem dX5_draws_32 : decode cX5_draws 32 = .ok (.iload_n 3, 1) := by decide +kernel
theorem dX5_draws_33 : decode cX5_draws 33 = .ok (.iload_n 2, 1) := by decide +kernel
theorem dX5_draws_34 : decode cX5_draws 34 = .ok (.if_icmp .ge 60, 3) := by decide +kernel
theorem dX5_draws_37 : decode cX5_draws 37 = .ok (.aload_n 0, 1) := by decide +kernel
theorem dX5_draws_38 : decode cX5_draws 38 = .ok (.bipush 7, 2) := by decide +kernel
theorem dX5_draws_40 : decode cX5_draws 40 = .ok (.invokevirtual 282, 3) := by decide +kernel
theorem dX5_draws_43 : decode cX5_draws 43 = .ok (.istore 4, 2) := by decide +kernel
theorem dX5_draws_45 : decode cX5_draws 45 = .ok (.aload_n 0, 1) := by decide +kernel
theorem dX5_draws_46 : decode cX5_draws 46 = .ok (.bipush 9, 2) := by decide +kernel
theorem dX5_draws_48 : decode cX5_draws 48 = .ok (.invokevirtual 282, 3) := by decide +kernel
theorem dX5_draws_51 : decode cX5_draws 51 = .ok (.istore 5, 2) := by decide +kernel
theorem dX5_draws_53 : decode cX5_draws 53 = .ok (.aload_n 0, 1) := by decide +kernel
theorem dX5_draws_54 : decode cX5_draws 54 = .ok (.bipush 12, 2) := by decide +kernel
theorem dX5_draws_56 : decode cX5_draws 56 = .ok (.invokevirtual 282, 3) := by decide +kernel
theorem dX5_draws_59 : decode cX5_draws 59 = .ok (.iconst 1, 1) := by decide +kernel
theorem dX5_draws_60 : decode cX5_draws 60 = .ok (.iadd, 1) := by decide +kernel
theorem dX5_draws_61 : decode cX5_draws 61 = .ok (.istore 6, 2) := by decide +kernel
theorem dX5_draws_63 : decode cX5_draws 63 = .ok (.aload_n 0, 1) := by decide +kernel
theorem dX5_draws_64 : decode cX5_draws 64 = .ok (.iconst 2, 1) := by decide +kernel
theorem dX5_draws_65 : decode cX5_draws 65 = .ok (.invokevirtual 282, 3) := by decide +kernel
theorem dX5_draws_68 : decode cX5_draws 68 = .ok (.istore 7, 2) := by decide +kernel
theorem dX5_draws_70 : decode cX5_draws 70 = .ok (.aload_n 0, 1) := by decide +kernel
theorem dX5_draws_71 : decode cX5_draws 71 = .ok (.iload 4, 2) := by decide +kernel
theorem dX5_draws_73 : decode cX5_draws 73 = .ok (.iload 5, 2) := by decide +kernel
theorem dX5_draws_75 : decode cX5_draws 75 = .ok (.iload 6, 2) := by decide +kernel
theorem dX5_draws_77 : decode cX5_draws 77 = .ok (.iload 7, 2) := by decide +kernel
theorem dX5_draws_79 : decode cX5_draws 79 = .ok (.aload_n 0, 1) := by decide +kernel
theorem dX5_draws_80 : decode cX5_draws 80 = .ok (.bipush 10, 2) := by decide +kernel
theorem dX5_draws_82 : decode cX5_draws 82 = .ok (.invokevirtual 282, 3) := by decide +kernel
theorem dX5_draws_85 : decode cX5_draws 85 = .ok (.invokevirtual 156, 3) := by decide +kernel
theorem dX5_draws_88 : decode cX5_draws 88 = .ok (.iinc 3 1, 3) := by decide +kernel
theorem dX5_draws_91 : decode cX5_draws 91 = .ok (.goto (-59), 3) := by decide +kernel
theorem dX5_draws_94 : decode cX5_draws 94 = .ok (.iload_n 2, 1) := by decide +kernel
theorem dX5_draws_95 : decode cX5_draws 95 = .ok (.ireturn, 1) := by decide +kernel
def m_X5_draws_32 (v2 : Int32) (K : fm_I → fm_L → Option (Int32 × fm_I × fm_L)) : Nat → Int32 → fm_I → fm_L → Option (Int32 × fm_I × fm_L)
  | 0, _, _, _ => none
  | k + 1, v3, μ, ν => if v2 ≤ v3 then K  μ ν else (m_X5_draw ((nI 7)) μ ν).bind (fun r40 => (m_X5_draw ((nI 9)) r40.2.1 r40.2.2).bind (fun r48 => (m_X5_draw ((nI 12)) r48.2.1 r48.2.2).bind (fun r56 => (m_X5_draw ((nI 2)) r56.2.1 r56.2.2).bind (fun r65 => (m_X5_draw ((nI 10)) r65.2.1 r65.2.2).bind (fun r82 => (m_X5_addBand r40.1 r48.1 ((r56.1 + ((nI 1)))) r65.1 r82.1 r82.2.1 r82.2.2).bind (fun r85 => m_X5_draws_32 v2 K k ((v3 + nI 1)) r85.1 r85.2))))))
def m_X5_draws (v1 : Int32) (μ : fm_I) (ν : fm_L) : Option (Int32 × fm_I × fm_L) :=
  if v1 < (nI 1) then (m_X5_refuse ((nI 6)) μ ν).bind (fun r14 => some ((r14.1, r14.2.1, r14.2.2))) else if v1 ≤ (nI 6) then m_X5_draws_32 ((if (((nI 6)) - ((μ 0 7))) < v1 then (((nI 6)) - ((μ 0 7))) else v1))  (fun μ32 ν32 => some (((if (((nI 6)) - ((μ 0 7))) < v1 then (((nI 6)) - ((μ 0 7))) else v1), μ32, ν32))) 5000 ((nI 0)) μ ν else (m_X5_refuse ((nI 6)) μ ν).bind (fun r14 => some ((r14.1, r14.2.1, r14.2.2)))
theorem ok_X5_draws : fm_okV yX5_draws cX5_draws 8 (some .int) 1 := ⟨m_cd_X5_draws, m_im_X5_draws, m_se_X5_X5_draws, m_ini_X5, by decide +kernel, by decide +kernel, by decide +kernel⟩
set_option maxHeartbeats 4000000 in
set_option maxRecDepth 100000 in
theorem j_X5_draws_32_ {X : fm_X} {G : fm_G} {l : Launch} {v2 : Int32} (C : fm_C X G l cX5_draws RX5 8 (some .int) 4 85) {F : (Int32 × fm_I × fm_L) → State → Prop} (hF : F = fm_Qi X G)  {K : fm_I → fm_L → Option (Int32 × fm_I × fm_L)} (hK : ∀  (μ : fm_I) (ν : fm_L), fm_J X G 8 F (K μ ν) μ ν 94 [(2, .int v2)] []) : ∀ (k : Nat) (v3 : Int32) (μ : fm_I) (ν : fm_L), fm_J X G 8 F (m_X5_draws_32 v2 K k v3 μ ν) μ ν 32 [(0, .ref (G.2.2.1 0)), (2, .int v2), (3, .int v3)] [] := by
  intro k
  induction k with
  | zero =>
    intro v3 μ ν
    exact fm_none
  | succ k ih =>
    intro v3 μ ν
    rw [m_X5_draws_32]
    refine fm_iload_n (pc := 32) C dX5_draws_32 rfl rfl ?_
    refine fm_iload_n (pc := 33) C dX5_draws_33 rfl rfl ?_
    refine fm_icmp_ge (pc := 34) (tgt := 94) C dX5_draws_34 (by decide) (fun c3 => ?_) (fun c3 => ?_)
    · refine fm_less (lv' := [(2, .int v2)]) (by repeat (first | exact trivial | refine ⟨rfl, ?_⟩)) ?_
      exact hK  _ _
    · refine fm_aload_n (pc := 37) C dX5_draws_37 rfl rfl ?_
      refine fm_bipush (pc := 38) (v := (nI 7)) C dX5_draws_38 (by decide) ?_
      refine fm_bind (fun r40 e40 => ?_)
      refine fm_cVi (pc := 40) C (t_X5_draw e40) ok_X5_draw ⟨by decide, rfl⟩ m_ml_X5_282 dX5_draws_40 ⟨Nat.le_of_ble_eq_true rfl, Nat.le_of_ble_eq_true rfl⟩ rfl rfl (Nat.le_of_ble_eq_true rfl) ?_
      refine fm_istore (pc := 43) C dX5_draws_43 (by decide) rfl ?_
      refine fm_aload_n (pc := 45) C dX5_draws_45 rfl rfl ?_
      refine fm_bipush (pc := 46) (v := (nI 9)) C dX5_draws_46 (by decide) ?_
      refine fm_bind (fun r48 e48 => ?_)
      refine fm_cVi (pc := 48) C (t_X5_draw e48) ok_X5_draw ⟨by decide, rfl⟩ m_ml_X5_282 dX5_draws_48 ⟨Nat.le_of_ble_eq_true rfl, Nat.le_of_ble_eq_true rfl⟩ rfl rfl (Nat.le_of_ble_eq_true rfl) ?_
      refine fm_istore (pc := 51) C dX5_draws_51 (by decide) rfl ?_
      refine fm_aload_n (pc := 53) C dX5_draws_53 rfl rfl ?_
      refine fm_bipush (pc := 54) (v := (nI 12)) C dX5_draws_54 (by decide) ?_
      refine fm_bind (fun r56 e56 => ?_)
      refine fm_cVi (pc := 56) C (t_X5_draw e56) ok_X5_draw ⟨by decide, rfl⟩ m_ml_X5_282 dX5_draws_56 ⟨Nat.le_of_ble_eq_true rfl, Nat.le_of_ble_eq_true rfl⟩ rfl rfl (Nat.le_of_ble_eq_true rfl) ?_
      refine fm_iconst (pc := 59) (v := (nI 1)) C dX5_draws_59 (by decide) ?_
      refine fm_iadd (pc := 60) C dX5_draws_60 ?_
      refine fm_istore (pc := 61) C dX5_draws_61 (by decide) rfl ?_
      refine fm_aload_n (pc := 63) C dX5_draws_63 rfl rfl ?_
      refine fm_iconst (pc := 64) (v := (nI 2)) C dX5_draws_64 (by decide) ?_
      refine fm_bind (fun r65 e65 => ?_)
      refine fm_cVi (pc := 65) C (t_X5_draw e65) ok_X5_draw ⟨by decide, rfl⟩ m_ml_X5_282 dX5_draws_65 ⟨Nat.le_of_ble_eq_true rfl, Nat.le_of_ble_eq_true rfl⟩ rfl rfl (Nat.le_of_ble_eq_true rfl) ?_
      refine fm_istore (pc := 68) C dX5_draws_68 (by decide) rfl ?_
      refine fm_aload_n (pc := 70) C dX5_draws_70 rfl rfl ?_
      refine fm_iload (pc := 71) C dX5_draws_71 rfl ?_
      refine fm_iload (pc := 73) C dX5_draws_73 rfl ?_
      refine fm_iload (pc := 75) C dX5_draws_75 rfl ?_
      refine fm_iload (pc := 77) C dX5_draws_77 rfl ?_
      refine fm_aload_n (pc := 79) C dX5_draws_79 rfl rfl ?_
      refine fm_bipush (pc := 80) (v := (nI 10)) C dX5_draws_80 (by decide) ?_
      refine fm_bind (fun r82 e82 => ?_)
      refine fm_cVi (pc := 82) C (t_X5_draw e82) ok_X5_draw ⟨by decide, rfl⟩ m_ml_X5_282 dX5_draws_82 ⟨Nat.le_of_ble_eq_true rfl, Nat.le_of_ble_eq_true rfl⟩ rfl rfl (Nat.le_of_ble_eq_true rfl) ?_
      refine fm_bind (fun r85 e85 => ?_)
      refine fm_cVv (pc := 85) C (t_X5_addBand e85) ok_X5_addBand ⟨by decide, rfl⟩ m_ml_X5_156 dX5_draws_85 ⟨Nat.le_of_ble_eq_true rfl, Nat.le_of_ble_eq_true rfl⟩ rfl rfl (Nat.le_of_ble_eq_true rfl) ?_
      refine fm_iinc (pc := 88) C dX5_draws_88 rfl (v := (v3 + nI 1)) rfl (by decide) rfl ?_
      refine fm_goto (pc := 91) (tgt := 32) C dX5_draws_91 (by decide) ?_
      refine fm_less (lv' := [(0, .ref (G.2.2.1 0)), (2, .int v2), (3, .int ((v3 + nI 1)))]) (by repeat (first | exact trivial | refine ⟨rfl, ?_⟩)) ?_
      exact ih _ _ _
set_option maxHeartbeats 4000000 in
set_option maxRecDepth 100000 in
theorem j_X5_draws {X : fm_X} {G : fm_G} {l : Launch} {v1 : Int32} {μ : fm_I} {ν : fm_L} (C : fm_C X G l cX5_draws RX5 8 (some .int) 4 85) {F : (Int32 × fm_I × fm_L) → State → Prop} (hF : F = fm_Qi X G) : fm_J X G 8 F (m_X5_draws v1 μ ν) μ ν 0 [(0, .ref (G.2.2.1 0)), (1, .int v1)] [] := by
  unfold m_X5_draws
  refine fm_iload_n (pc := 0) C dX5_draws_0 rfl rfl ?_
  refine fm_iconst (pc := 1) (v := (nI 1)) C dX5_draws_1 (by decide) ?_
  refine fm_icmp_lt (pc := 2) (tgt := 11) C dX5_draws_2 (by decide) (fun c1 => ?_) (fun c1 => ?_)
  · refine fm_aload_n (pc := 11) C dX5_draws_11 rfl rfl ?_
    refine fm_bipush (pc := 12) (v := (nI 6)) C dX5_draws_12 (by decide) ?_
    refine fm_bind (fun r14 e14 => ?_)
    refine fm_cVi (pc := 14) C (t_X5_refuse e14) ok_X5_refuse ⟨by decide, rfl⟩ m_ml_X5_67 dX5_draws_14 ⟨Nat.le_of_ble_eq_true rfl, Nat.le_of_ble_eq_true rfl⟩ rfl rfl (Nat.le_of_ble_eq_true rfl) ?_
    exact fm_zret (pc := 17) C hF rfl rfl dX5_draws_17
  · refine fm_iload_n (pc := 5) C dX5_draws_5 rfl rfl ?_
    refine fm_bipush (pc := 6) (v := (nI 6)) C dX5_draws_6 (by decide) ?_
    refine fm_icmp_le (pc := 8) (tgt := 18) C dX5_draws_8 (by decide) (fun c2 => ?_) (fun c2 => ?_)
    · refine fm_iload_n (pc := 18) C dX5_draws_18 rfl rfl ?_
      refine fm_bipush (pc := 19) (v := (nI 6)) C dX5_draws_19 (by decide) ?_
      refine fm_aload_n (pc := 21) C dX5_draws_21 rfl rfl ?_
      refine g5_bandCount (pc := 22) C (by decide) dX5_draws_22 m_fl_X5_153 ?_
      refine fm_isub (pc := 25) C dX5_draws_25 ?_
      refine fm_mmin (pc := 26) C m_ml_X5_277 dX5_draws_26 ⟨Nat.le_of_ble_eq_true rfl, Nat.le_of_ble_eq_true rfl⟩ ?_
      refine fm_istore_n (pc := 29) C dX5_draws_29 rfl (by decide) rfl ?_
      refine fm_iconst (pc := 30) (v := (nI 0)) C dX5_draws_30 (by decide) ?_
      refine fm_istore_n (pc := 31) C dX5_draws_31 rfl (by decide) rfl ?_
      refine fm_less (lv' := [(0, .ref (G.2.2.1 0)), (2, .int ((if (((nI 6)) - ((μ 0 7))) < v1 then (((nI 6)) - ((μ 0 7))) else v1))), (3, .int ((nI 0)))]) (by repeat (first | exact trivial | refine ⟨rfl, ?_⟩)) ?_
      refine j_X5_draws_32_ C (v2 := (if (((nI 6)) - ((μ 0 7))) < v1 then (((nI 6)) - ((μ 0 7))) else v1)) hF  (fun μ32 ν32 => ?_) _ _ _ _
      refine fm_iload_n (pc := 94) C dX5_draws_94 rfl rfl ?_
      exact fm_zret (pc := 95) C hF rfl rfl dX5_draws_95
    · refine fm_aload_n (pc := 11) C dX5_draws_11 rfl rfl ?_
      refine fm_bipush (pc := 12) (v := (nI 6)) C dX5_draws_12 (by decide) ?_
      refine fm_bind (fun r14 e14 => ?_)
      refine fm_cVi (pc := 14) C (t_X5_refuse e14) ok_X5_refuse ⟨by decide, rfl⟩ m_ml_X5_67 dX5_draws_14 ⟨Nat.le_of_ble_eq_true rfl, Nat.le_of_ble_eq_true rfl⟩ rfl rfl (Nat.le_of_ble_eq_true rfl) ?_
      exact fm_zret (pc := 17) C hF rfl rfl dX5_draws_17
theorem t_X5_draws {l : Launch} {G : fm_G} {v1 : Int32} {μ : fm_I} {ν : fm_L} {r : Int32 × fm_I × fm_L} (h : m_X5_draws v1 μ ν = some r) : fm_Mi l G yX5_draws cX5_draws 8 (some .int) 4 85 [.ref (G.2.2.1 0), .int v1] μ ν r := fm_Mi_of (by decide +kernel) (Nat.le_of_ble_eq_true rfl) (fun _ C => j_X5_draws C rfl r h)
theorem dX5_clearShelvesOfGoneBands_0 : decode cX5_clearShelvesOfGoneBands 0 = .ok (.iconst 0, 1) := by decide +kernel
theorem dX5_clearShelvesOfGoneBands_1 : decode cX5_clearShelvesOfGoneBands 1 = .ok (.istore_n 1, 1) := by decide +kernel
theorem dX5_clearShelvesOfGoneBands_2 : decode cX5_clearShelvesOfGoneBands 2 = .ok (.iload_n 1, 1) := by decide +kernel
theorem dX5_clearShelvesOfGoneBands_3 : decode cX5_clearShelvesOfGoneBands 3 = .ok (.bipush 8, 2) := by decide +kernel
theorem dX5_clearShelvesOfGoneBands_5 : decode cX5_clearShelvesOfGoneBands 5 = .ok (.if_icmp .ge 47, 3) := by decide +kernel
theorem dX5_clearShelvesOfGoneBands_8 : decode cX5_clearShelvesOfGoneBands 8 = .ok (.aload_n 0, 1) := by decide +kernel
theorem dX5_clearShelvesOfGoneBands_9 : decode cX5_clearShelvesOfGoneBands 9 = .ok (.getfield 11, 3) := by decide +kernel
theorem dX5_clearShelvesOfGoneBands_12 : decode cX5_clearShelvesOfGoneBands 12 = .ok (.iload_n 1, 1) := by decide +kernel
theorem dX5_clearShelvesOfGoneBands_13 : decode cX5_clearShelvesOfGoneBands 13 = .ok (.aaload, 1) := by decide +kernel
theorem dX5_clearShelvesOfGoneBands_14 : decode cX5_clearShelvesOfGoneBands 14 = .ok (.invokevirtual 299, 3) := by decide +kernel
theorem dX5_clearShelvesOfGoneBands_17 : decode cX5_clearShelvesOfGoneBands 17 = .ok (.ifCond .eq 29, 3) := by decide +kernel
theorem dX5_clearShelvesOfGoneBands_20 : decode cX5_clearShelvesOfGoneBands 20 = .ok (.aload_n 0, 1) := by decide +kernel
theorem dX5_clearShelvesOfGoneBands_21 : decode cX5_clearShelvesOfGoneBands 21 = .ok (.aload_n 0, 1) := by decide +kernel
theorem dX5_clearShelvesOfGoneBands_22 : decode cX5_clearShelvesOfGoneBands 22 = .ok (.getfield 11, 3) := by decide +kernel
theorem dX5_clearShelvesOfGoneBands_25 : decode cX5_clearShelvesOfGoneBands 25 = .ok (.iload_n 1, 1) := by decide +kernel
theorem dX5_clearShelvesOfGoneBands_26 : decode cX5_clearShelvesOfGoneBands 26 = .ok (.aaload, 1) := by decide +kernel
theorem dX5_clearShelvesOfGoneBands_27 : decode cX5_clearShelvesOfGoneBands 27 = .ok (.getfield 106, 3) := by decide +kernel
theorem dX5_clearShelvesOfGoneBands_30 : decode cX5_clearShelvesOfGoneBands 30 = .ok (.invokevirtual 103, 3) := by decide +kernel
theorem dX5_clearShelvesOfGoneBands_33 : decode cX5_clearShelvesOfGoneBands 33 = .ok (.ifCond .ne 13, 3) := by decide +kernel
theorem dX5_clearShelvesOfGoneBands_36 : decode cX5_clearShelvesOfGoneBands 36 = .ok (.aload_n 0, 1) := by decide +kernel
theorem dX5_clearShelvesOfGoneBands_37 : decode cX5_clearShelvesOfGoneBands 37 = .ok (.getfield 11, 3) := by decide +kernel
theorem dX5_clearShelvesOfGoneBands_40 : decode cX5_clearShelvesOfGoneBands 40 = .ok (.iload_n 1, 1) := by decide +kernel
theorem dX5_clearShelvesOfGoneBands_41 : decode cX5_clearShelvesOfGoneBands 41 = .ok (.aaload, 1) := by decide +kernel
theorem dX5_clearShelvesOfGoneBands_42 : decode cX5_clearShelvesOfGoneBands 42 = .ok (.iconst (-1), 1) := by decide +kernel
theorem dX5_clearShelvesOfGoneBands_43 : decode cX5_clearShelvesOfGoneBands 43 = .ok (.putfield 106, 3) := by decide +kernel
theorem dX5_clearShelvesOfGoneBands_46 : decode cX5_clearShelvesOfGoneBands 46 = .ok (.iinc 1 1, 3) := by decide +kernel
theorem dX5_clearShelvesOfGoneBands_49 : decode cX5_clearShelvesOfGoneBands 49 = .ok (.goto (-47), 3) := by decide +kernel
theorem dX5_clearShelvesOfGoneBands_52 : decode cX5_clearShelvesOfGoneBands 52 = .ok (.return_, 1) := by decide +kernel
def m_X5_clearShelvesOfGoneBands_2  (K : fm_I → fm_L → Option (fm_I × fm_L)) : Nat → Int32 → fm_I → fm_L → Option (fm_I × fm_L)
  | 0, _, _, _ => none
  | k + 1, v1, μ, ν => if (nI 8) ≤ v1 then K  μ ν else fm_g (fm_in v1 8) ((m_X2_hasBand ((18 + v1.toNatClampNeg)) μ ν).bind (fun r14 => if r14 = 0 then m_X5_clearShelvesOfGoneBands_2 K k ((v1 + nI 1)) μ ν else (m_X5_isBand ((μ ((18 + v1.toNatClampNeg)) 0)) μ ν).bind (fun r30 => if r30 = 0 then m_X5_clearShelvesOfGoneBands_2 K k ((v1 + nI 1)) (fm_u μ ((18 + v1.toNatClampNeg)) 0 ((-1 : Int32))) ν else m_X5_clearShelvesOfGoneBands_2 K k ((v1 + nI 1)) μ ν)))
def m_X5_clearShelvesOfGoneBands  (μ : fm_I) (ν : fm_L) : Option (fm_I × fm_L) :=
  m_X5_clearShelvesOfGoneBands_2  (fun μ2 ν2 => some ((μ2, ν2))) 5000 ((nI 0)) μ ν
theorem ok_X5_clearShelvesOfGoneBands : fm_okV yX5_clearShelvesOfGoneBands cX5_clearShelvesOfGoneBands 2 (none : Option Jvm.ClassFile.FieldType) 0 := ⟨m_cd_X5_clearShelvesOfGoneBands, m_im_X5_clearShelvesOfGoneBands, m_se_X5_X5_clearShelvesOfGoneBands, m_ini_X5, by decide +kernel, by decide +kernel, by decide +kernel⟩
set_option maxHeartbeats 4000000 in
set_option maxRecDepth 100000 in
theorem j_X5_clearShelvesOfGoneBands_2_ {X : fm_X} {G : fm_G} {l : Launch}  (C : fm_C X G l cX5_clearShelvesOfGoneBands RX5 2 (none : Option Jvm.ClassFile.FieldType) 2 33) {F : (fm_I × fm_L) → State → Prop} (hF : F = fm_Qv X G)  {K : fm_I → fm_L → Option (fm_I × fm_L)} (hK : ∀  (μ : fm_I) (ν : fm_L), fm_J X G 2 F (K μ ν) μ ν 52 [] []) : ∀ (k : Nat) (v1 : Int32) (μ : fm_I) (ν : fm_L), fm_J X G 2 F (m_X5_clearShelvesOfGoneBands_2  K k v1 μ ν) μ ν 2 [(0, .ref (G.2.2.1 0)), (1, .int v1)] [] := by
  intro k
  induction k with
  | zero =>
    intro v1 μ ν
    exact fm_none
  | succ k ih =>
    intro v1 μ ν
    rw [m_X5_clearShelvesOfGoneBands_2]
    refine fm_iload_n (pc := 2) C dX5_clearShelvesOfGoneBands_2 rfl rfl ?_
    refine fm_bipush (pc := 3) (v := (nI 8)) C dX5_clearShelvesOfGoneBands_3 (by decide) ?_
    refine fm_icmp_ge (pc := 5) (tgt := 52) C dX5_clearShelvesOfGoneBands_5 (by decide) (fun c1 => ?_) (fun c1 => ?_)
    · refine fm_less (lv' := []) (by repeat (first | exact trivial | refine ⟨rfl, ?_⟩)) ?_
      exact hK  _ _
    · refine fm_aload_n (pc := 8) C dX5_clearShelvesOfGoneBands_8 rfl rfl ?_
      refine g5_shelves (pc := 9) C (by decide) dX5_clearShelvesOfGoneBands_9 m_fl_X5_11 ?_
      refine fm_iload_n (pc := 12) C dX5_clearShelvesOfGoneBands_12 rfl rfl ?_
      refine fm_guard (fun h2 => ?_)
      refine fm_aaldS (pc := 13) C h2 dX5_clearShelvesOfGoneBands_13 ?_
      refine fm_bind (fun r14 e14 => ?_)
      refine fm_cVi0 (pc := 14) C (t_X2_hasBand e14) ok_X2_hasBand (fm_kcn2 (fm_k18 h2)) m_ml_X5_299 dX5_clearShelvesOfGoneBands_14 ⟨Nat.le_of_ble_eq_true rfl, Nat.le_of_ble_eq_true rfl⟩ rfl rfl (Nat.le_of_ble_eq_true rfl) ?_
      refine fm_if_eq (pc := 17) (tgt := 46) C dX5_clearShelvesOfGoneBands_17 (by decide) (fun c3 => ?_) (fun c3 => ?_)
      · refine fm_iinc (pc := 46) C dX5_clearShelvesOfGoneBands_46 rfl (v := (v1 + nI 1)) rfl (by decide) rfl ?_
        refine fm_goto (pc := 49) (tgt := 2) C dX5_clearShelvesOfGoneBands_49 (by decide) ?_
        refine fm_less (lv' := [(0, .ref (G.2.2.1 0)), (1, .int ((v1 + nI 1)))]) (by repeat (first | exact trivial | refine ⟨rfl, ?_⟩)) ?_
        exact ih _ _ _
      · refine fm_aload_n (pc := 20) C dX5_clearShelvesOfGoneBands_20 rfl rfl ?_
        refine fm_aload_n (pc := 21) C dX5_clearShelvesOfGoneBands_21 rfl rfl ?_
        refine g5_shelves (pc := 22) C (by decide) dX5_clearShelvesOfGoneBands_22 m_fl_X5_11 ?_
        refine fm_iload_n (pc := 25) C dX5_clearShelvesOfGoneBands_25 rfl rfl ?_
        refine fm_aaldS (pc := 26) C h2 dX5_clearShelvesOfGoneBands_26 ?_
        refine g2_held (pc := 27) C (fm_k18 h2) dX5_clearShelvesOfGoneBands_27 m_fl_X5_106 ?_
        refine fm_bind (fun r30 e30 => ?_)
        refine fm_cVi0 (pc := 30) C (t_X5_isBand e30) ok_X5_isBand ⟨by decide, rfl⟩ m_ml_X5_103 dX5_clearShelvesOfGoneBands_30 ⟨Nat.le_of_ble_eq_true rfl, Nat.le_of_ble_eq_true rfl⟩ rfl rfl (Nat.le_of_ble_eq_true rfl) ?_
        refine fm_if_ne (pc := 33) (tgt := 46) C dX5_clearShelvesOfGoneBands_33 (by decide) (fun c4 => ?_) (fun c4 => ?_)
        · refine fm_aload_n (pc := 36) C dX5_clearShelvesOfGoneBands_36 rfl rfl ?_
          refine g5_shelves (pc := 37) C (by decide) dX5_clearShelvesOfGoneBands_37 m_fl_X5_11 ?_
          refine fm_iload_n (pc := 40) C dX5_clearShelvesOfGoneBands_40 rfl rfl ?_
          refine fm_aaldS (pc := 41) C h2 dX5_clearShelvesOfGoneBands_41 ?_
          refine fm_iconst (pc := 42) (v := (-1 : Int32)) C dX5_clearShelvesOfGoneBands_42 (by decide) ?_
          refine p2_held (pc := 43) C (fm_k18 h2) dX5_clearShelvesOfGoneBands_43 m_fl_X5_106 ?_
          refine fm_iinc (pc := 46) C dX5_clearShelvesOfGoneBands_46 rfl (v := (v1 + nI 1)) rfl (by decide) rfl ?_
          refine fm_goto (pc := 49) (tgt := 2) C dX5_clearShelvesOfGoneBands_49 (by decide) ?_
          refine fm_less (lv' := [(0, .ref (G.2.2.1 0)), (1, .int ((v1 + nI 1)))]) (by repeat (first | exact trivial | refine ⟨rfl, ?_⟩)) ?_
          exact ih _ _ _
        · refine fm_iinc (pc := 46) C dX5_clearShelvesOfGoneBands_46 rfl (v := (v1 + nI 1)) rfl (by decide) rfl ?_
          refine fm_goto (pc := 49) (tgt := 2) C dX5_clearShelvesOfGoneBands_49 (by decide) ?_
          refine fm_less (lv' := [(0, .ref (G.2.2.1 0)), (1, .int ((v1 + nI 1)))]) (by repeat (first | exact trivial | refine ⟨rfl, ?_⟩)) ?_
          exact ih _ _ _
set_option maxHeartbeats 4000000 in
set_option maxRecDepth 100000 in
theorem j_X5_clearShelvesOfGoneBands {X : fm_X} {G : fm_G} {l : Launch}  {μ : fm_I} {ν : fm_L} (C : fm_C X G l cX5_clearShelvesOfGoneBands RX5 2 (none : Option Jvm.ClassFile.FieldType) 2 33) {F : (fm_I × fm_L) → State → Prop} (hF : F = fm_Qv X G) : fm_J X G 2 F (m_X5_clearShelvesOfGoneBands  μ ν) μ ν 0 [(0, .ref (G.2.2.1 0))] [] := by
  unfold m_X5_clearShelvesOfGoneBands
  refine fm_iconst (pc := 0) (v := (nI 0)) C dX5_clearShelvesOfGoneBands_0 (by decide) ?_
  refine fm_istore_n (pc := 1) C dX5_clearShelvesOfGoneBands_1 rfl (by decide) rfl ?_
  refine fm_less (lv' := [(0, .ref (G.2.2.1 0)), (1, .int ((nI 0)))]) (by repeat (first | exact trivial | refine ⟨rfl, ?_⟩)) ?_
  refine j_X5_clearShelvesOfGoneBands_2_ C  hF  (fun μ2 ν2 => ?_) _ _ _ _
  exact fm_vret (pc := 52) C hF rfl dX5_clearShelvesOfGoneBands_52
theorem t_X5_clearShelvesOfGoneBands {l : Launch} {G : fm_G}  {μ : fm_I} {ν : fm_L} {r : fm_I × fm_L} (h : m_X5_clearShelvesOfGoneBands  μ ν = some r) : fm_Mv l G yX5_clearShelvesOfGoneBands cX5_clearShelvesOfGoneBands 2 (none : Option Jvm.ClassFile.FieldType) 2 33 [.ref (G.2.2.1 0)] μ ν r := fm_Mv_of (by decide +kernel) (Nat.le_of_ble_eq_true rfl) (fun _ C => j_X5_clearShelvesOfGoneBands C rfl r h)
theorem dX5_goes_0 : decode cX5_goes 0 = .ok (.aload_n 0, 1) := by decide +kernel
theorem dX5_goes_1 : decode cX5_goes 1 = .ok (.getfield 153, 3) := by decide +kernel
theorem dX5_goes_4 : decode cX5_goes 4 = .ok (.iconst 1, 1) := by decide +kernel
theorem dX5_goes_5 : decode cX5_goes 5 = .ok (.if_icmp .ge 10, 3) := by decide +kernel
theorem dX5_goes_8 : decode cX5_goes 8 = .ok (.aload_n 0, 1) := by decide +kernel
theorem dX5_goes_9 : decode cX5_goes 9 = .ok (.bipush 6, 2) := by decide +kernel
theorem dX5_goes_11 : decode cX5_goes 11 = .ok (.invokevirtual 67, 3) := by decide +kernel
theorem dX5_goes_14 : decode cX5_goes 14 = .ok (.ireturn, 1) := by decide +kernel
theorem dX5_goes_15 : decode cX5_goes 15 = .ok (.aload_n 0, 1) := by decide +kernel
theorem dX5_goes_16 : decode cX5_goes 16 = .ok (.dup, 1) := by decide +kernel
theorem dX5_goes_17 : decode cX5_goes 17 = .ok (.getfield 153, 3) := by decide +kernel
theorem dX5_goes_20 : decode cX5_goes 20 = .ok (.iconst 1, 1) := by decide +kernel
theorem dX5_goes_21 : decode cX5_goes 21 = .ok (.isub, 1) := by decide +kernel
theorem dX5_goes_22 : decode cX5_goes 22 = .ok (.putfield 153, 3) := by decide +kernel
theorem dX5_goes_25 : decode cX5_goes 25 = .ok (.aload_n 0, 1) := by decide +kernel
theorem dX5_goes_26 : decode cX5_goes 26 = .ok (.invokevirtual 286, 3) := by decide +kernel
theorem dX5_goes_29 : decode cX5_goes 29 = .ok (.aload_n 0, 1) := by decide +kernel
theorem dX5_goes_30 : decode cX5_goes 30 = .ok (.getfield 153, 3) := by decide +kernel
theorem dX5_goes_33 : decode cX5_goes 33 = .ok (.ireturn, 1) := by decide +kernel
def m_X5_goes  (μ : fm_I) (ν : fm_L) : Option (Int32 × fm_I × fm_L) :=
  if (nI 1) ≤ (μ 0 7) then (m_X5_clearShelvesOfGoneBands  (fm_u μ 0 7 ((((μ 0 7)) - ((nI 1))))) ν).bind (fun r26 => some (((r26.1 0 7), r26.1, r26.2))) else (m_X5_refuse ((nI 6)) μ ν).bind (fun r11 => some ((r11.1, r11.2.1, r11.2.2)))
theorem ok_X5_goes : fm_okV yX5_goes cX5_goes 1 (some .int) 0 := ⟨m_cd_X5_goes, m_im_X5_goes, m_se_X5_X5_goes, m_ini_X5, by decide +kernel, by decide +kernel, by decide +kernel⟩
set_option maxHeartbeats 4000000 in
set_option maxRecDepth 100000 in
theorem j_X5_goes {X : fm_X} {G : fm_G} {l : Launch}  {μ : fm_I} {ν : fm_L} (C : fm_C X G l cX5_goes RX5 1 (some .int) 3 55) {F : (Int32 × fm_I × fm_L) → State → Prop} (hF : F = fm_Qi X G) : fm_J X G 1 F (m_X5_goes  μ ν) μ ν 0 [(0, .ref (G.2.2.1 0))] [] := by
  unfold m_X5_goes
  refine fm_aload_n (pc := 0) C dX5_goes_0 rfl rfl ?_
  refine g5_bandCount (pc := 1) C (by decide) dX5_goes_1 m_fl_X5_153 ?_
  refine fm_iconst (pc := 4) (v := (nI 1)) C dX5_goes_4 (by decide) ?_
  refine fm_icmp_ge (pc := 5) (tgt := 15) C dX5_goes_5 (by decide) (fun c1 => ?_) (fun c1 => ?_)
  · refine fm_aload_n (pc := 15) C dX5_goes_15 rfl rfl ?_
    refine fm_dup (pc := 16) C dX5_goes_16 rfl ?_
    refine g5_bandCount (pc := 17) C (by decide) dX5_goes_17 m_fl_X5_153 ?_
    refine fm_iconst (pc := 20) (v := (nI 1)) C dX5_goes_20 (by decide) ?_
    refine fm_isub (pc := 21) C dX5_goes_21 ?_
    refine p5_bandCount (pc := 22) C (by decide) dX5_goes_22 m_fl_X5_153 ?_
    refine fm_aload_n (pc := 25) C dX5_goes_25 rfl rfl ?_
    refine fm_bind (fun r26 e26 => ?_)
    refine fm_cVv (pc := 26) C (t_X5_clearShelvesOfGoneBands e26) ok_X5_clearShelvesOfGoneBands ⟨by decide, rfl⟩ m_ml_X5_286 dX5_goes_26 ⟨Nat.le_of_ble_eq_true rfl, Nat.le_of_ble_eq_true rfl⟩ rfl rfl (Nat.le_of_ble_eq_true rfl) ?_
    refine fm_aload_n (pc := 29) C dX5_goes_29 rfl rfl ?_
    refine g5_bandCount (pc := 30) C (by decide) dX5_goes_30 m_fl_X5_153 ?_
    exact fm_zret (pc := 33) C hF rfl rfl dX5_goes_33
  · refine fm_aload_n (pc := 8) C dX5_goes_8 rfl rfl ?_
    refine fm_bipush (pc := 9) (v := (nI 6)) C dX5_goes_9 (by decide) ?_
    refine fm_bind (fun r11 e11 => ?_)
    refine fm_cVi (pc := 11) C (t_X5_refuse e11) ok_X5_refuse ⟨by decide, rfl⟩ m_ml_X5_67 dX5_goes_11 ⟨Nat.le_of_ble_eq_true rfl, Nat.le_of_ble_eq_true rfl⟩ rfl rfl (Nat.le_of_ble_eq_true rfl) ?_
    exact fm_zret (pc := 14) C hF rfl rfl dX5_goes_14
theorem t_X5_goes {l : Launch} {G : fm_G}  {μ : fm_I} {ν : fm_L} {r : Int32 × fm_I × fm_L} (h : m_X5_goes  μ ν = some r) : fm_Mi l G yX5_goes cX5_goes 1 (some .int) 3 55 [.ref (G.2.2.1 0)] μ ν r := fm_Mi_of (by decide +kernel) (Nat.le_of_ble_eq_true rfl) (fun _ C => j_X5_goes C rfl r h)
theorem dX5_seed_0 : decode cX5_seed 0 = .ok (.aload_n 0, 1) := by decide +kernel
theorem dX5_seed_1 : decode cX5_seed 1 = .ok (.getfield 49, 3) := by decide +kernel
theorem dX5_seed_4 : decode cX5_seed 4 = .ok (.istore_n 2, 1) := by decide +kernel
theorem dX5_seed_5 : decode cX5_seed 5 = .ok (.aload_n 0, 1) := by decide +kernel
theorem dX5_seed_6 : decode cX5_seed 6 = .ok (.iload_n 1, 1) := by decide +kernel
theorem dX5_seed_7 : decode cX5_seed 7 = .ok (.putfield 49, 3) := by decide +kernel
theorem dX5_seed_10 : decode cX5_seed 10 = .ok (.iload_n 2, 1) := by decide +kernel
theorem dX5_seed_11 : decode cX5_seed 11 = .ok (.ireturn, 1) := by decide +kernel
def m_X5_seed (v1 : Int32) (μ : fm_I) (ν : fm_L) : Option (Int32 × fm_I × fm_L) :=
  some (((μ 0 8), (fm_u μ 0 8 v1), ν))
theorem ok_X5_seed : fm_okV yX5_seed cX5_seed 3 (some .int) 1 := ⟨m_cd_X5_seed, m_im_X5_seed, m_se_X5_X5_seed, m_ini_X5, by decide +kernel, by decide +kernel, by decide +kernel⟩
set_option maxHeartbeats 4000000 in
set_option maxRecDepth 100000 in
theorem j_X5_seed {X : fm_X} {G : fm_G} {l : Launch} {v1 : Int32} {μ : fm_I} {ν : fm_L} (C : fm_C X G l cX5_seed RX5 3 (some .int) 1 12) {F : (Int32 × fm_I × fm_L) → State → Prop} (hF : F = fm_Qi X G) : fm_J X G 3 F (m_X5_seed v1 μ ν) μ ν 0 [(0, .ref (G.2.2.1 0)), (1, .int v1)] [] := by
  unfold m_X5_seed
  refine fm_aload_n (pc := 0) C dX5_seed_0 rfl rfl ?_
  refine g5_seed (pc := 1) C (by decide) dX5_seed_1 m_fl_X5_49 ?_
  refine fm_istore_n (pc := 4) C dX5_seed_4 rfl (by decide) rfl ?_
  refine fm_aload_n (pc := 5) C dX5_seed_5 rfl rfl ?_
  refine fm_iload_n (pc := 6) C dX5_seed_6 rfl rfl ?_
  refine p5_seed (pc := 7) C (by decide) dX5_seed_7 m_fl_X5_49 ?_
  refine fm_iload_n (pc := 10) C dX5_seed_10 rfl rfl ?_
  exact fm_zret (pc := 11) C hF rfl rfl dX5_seed_11
theorem t_X5_seed {l : Launch} {G : fm_G} {v1 : Int32} {μ : fm_I} {ν : fm_L} {r : Int32 × fm_I × fm_L} (h : m_X5_seed v1 μ ν = some r) : fm_Mi l G yX5_seed cX5_seed 3 (some .int) 1 12 [.ref (G.2.2.1 0), .int v1] μ ν r := fm_Mi_of (by decide +kernel) (Nat.le_of_ble_eq_true rfl) (fun _ C => j_X5_seed C rfl r h)
theorem dX5_image_0 : decode cX5_image 0 = .ok (.iconst 0, 1) := by decide +kernel
theorem dX5_image_1 : decode cX5_image 1 = .ok (.istore_n 1, 1) := by decide +kernel
theorem dX5_image_2 : decode cX5_image 2 = .ok (.iload_n 1, 1) := by decide +kernel
theorem dX5_image_3 : decode cX5_image 3 = .ok (.aload_n 0, 1) := by decide +kernel
theorem dX5_image_4 : decode cX5_image 4 = .ok (.getfield 153, 3) := by decide +kernel
theorem dX5_image_7 : decode cX5_image 7 = .ok (.if_icmp .ge 30, 3) := by decide +kernel
theorem dX5_image_10 : decode cX5_image 10 = .ok (.iload_n 1, 1) := by decide +kernel
theorem dX5_image_11 : decode cX5_image 11 = .ok (.bipush 6, 2) := by decide +kernel
theorem dX5_image_13 : decode cX5_image 13 = .ok (.if_icmp .ge 24, 3) := by decide +kernel
theorem dX5_image_16 : decode cX5_image 16 = .ok (.aload_n 0, 1) := by decide +kernel
theorem dX5_image_17 : decode cX5_image 17 = .ok (.getfield 21, 3) := by decide +kernel
theorem dX5_image_20 : decode cX5_image 20 = .ok (.iload_n 1, 1) := by decide +kernel
theorem dX5_image_21 : decode cX5_image 21 = .ok (.aaload, 1) := by decide +kernel
theorem dX5_image_22 : decode cX5_image 22 = .ok (.aload_n 0, 1) := by decide +kernel
theorem dX5_image_23 : decode cX5_image 23 = .ok (.getfield 17, 3) := by decide +kernel
theorem dX5_image_26 : decode cX5_image 26 = .ok (.iload_n 1, 1) := by decide +kernel
theorem dX5_image_27 : decode cX5_image 27 = .ok (.aaload, 1) := by decide +kernel
theorem dX5_image_28 : decode cX5_image 28 = .ok (.invokevirtual 289, 3) := by decide +kernel
theorem dX5_image_31 : decode cX5_image 31 = .ok (.iinc 1 1, 3) := by decide +kernel
theorem dX5_image_34 : decode cX5_image 34 = .ok (.goto (-32), 3) := by decide +kernel
theorem dX5_image_37 : decode cX5_image 37 = .ok (.aload_n 0, 1) := by decide +kernel
theorem dX5_image_38 : decode cX5_image 38 = .ok (.aload_n 0, 1) := by decide +kernel
theorem dX5_image_39 : decode cX5_image 39 = .ok (.getfield 153, 3) := by decide +kernel
theorem dX5_image_42 : decode cX5_image 42 = .ok (.putfield 53, 3) := by decide +kernel
theorem dX5_image_45 : decode cX5_image 45 = .ok (.aload_n 0, 1) := by decide +kernel
theorem dX5_image_46 : decode cX5_image 46 = .ok (.aload_n 0, 1) := by decide +kernel
theorem dX5_image_47 : decode cX5_image 47 = .ok (.getfield 49, 3) := by decide +kernel
theorem dX5_image_50 : decode cX5_image 50 = .ok (.putfield 293, 3) := by decide +kernel
theorem dX5_image_53 : decode cX5_image 53 = .ok (.aload_n 0, 1) := by decide +kernel
theorem dX5_image_54 : decode cX5_image 54 = .ok (.aload_n 0, 1) := by decide +kernel
theorem dX5_image_55 : decode cX5_image 55 = .ok (.getfield 274, 3) := by decide +kernel
theorem dX5_image_58 : decode cX5_image 58 = .ok (.putfield 296, 3) := by decide +kernel
theorem dX5_image_61 : decode cX5_image 61 = .ok (.aload_n 0, 1) := by decide +kernel
theorem dX5_image_62 : decode cX5_image 62 = .ok (.getfield 153, 3) := by decide +kernel
theorem dX5_image_65 : decode cX5_image 65 = .ok (.ireturn, 1) := by decide +kernel
def m_X5_image_2  (K : fm_I → fm_L → Option (Int32 × fm_I × fm_L)) : Nat → Int32 → fm_I → fm_L → Option (Int32 × fm_I × fm_L)
  | 0, _, _, _ => none
  | k + 1, v1, μ, ν => if (μ 0 7) ≤ v1 then K  μ ν else if (nI 6) ≤ v1 then K  μ ν else fm_g (fm_in v1 6) ((m_X0_becomeLike ((40 + v1.toNatClampNeg)) ((34 + v1.toNatClampNeg)) μ ν).bind (fun r28 => m_X5_image_2 K k ((v1 + nI 1)) r28.1 r28.2))
def m_X5_image  (μ : fm_I) (ν : fm_L) : Option (Int32 × fm_I × fm_L) :=
  m_X5_image_2  (fun μ2 ν2 => some (((((fm_u (fm_u (fm_u μ2 0 10 ((μ2 0 7))) 0 11 ((((fm_u μ2 0 10 ((μ2 0 7)))) 0 8))) 0 12 ((((fm_u (fm_u μ2 0 10 ((μ2 0 7))) 0 11 ((((fm_u μ2 0 10 ((μ2 0 7)))) 0 8)))) 0 9)))) 0 7), (fm_u (fm_u (fm_u μ2 0 10 ((μ2 0 7))) 0 11 ((((fm_u μ2 0 10 ((μ2 0 7)))) 0 8))) 0 12 ((((fm_u (fm_u μ2 0 10 ((μ2 0 7))) 0 11 ((((fm_u μ2 0 10 ((μ2 0 7)))) 0 8)))) 0 9))), ν2))) 5000 ((nI 0)) μ ν
theorem ok_X5_image : fm_okV yX5_image cX5_image 2 (some .int) 0 := ⟨m_cd_X5_image, m_im_X5_image, m_se_X5_X5_image, m_ini_X5, by decide +kernel, by decide +kernel, by decide +kernel⟩
set_option maxHeartbeats 4000000 in
set_option maxRecDepth 100000 in
theorem j_X5_image_2_ {X : fm_X} {G : fm_G} {l : Launch}  (C : fm_C X G l cX5_image RX5 2 (some .int) 4 141) {F : (Int32 × fm_I × fm_L) → State → Prop} (hF : F = fm_Qi X G)  {K : fm_I → fm_L → Option (Int32 × fm_I × fm_L)} (hK : ∀  (μ : fm_I) (ν : fm_L), fm_J X G 2 F (K μ ν) μ ν 37 [(0, .ref (G.2.2.1 0))] []) : ∀ (k : Nat) (v1 : Int32) (μ : fm_I) (ν : fm_L), fm_J X G 2 F (m_X5_image_2  K k v1 μ ν) μ ν 2 [(0, .ref (G.2.2.1 0)), (1, .int v1)] [] := by
  intro k
  induction k with
  | zero =>
    intro v1 μ ν
    exact fm_none
  | succ k ih =>
    intro v1 μ ν
    rw [m_X5_image_2]
    refine fm_iload_n (pc := 2) C dX5_image_2 rfl rfl ?_
    refine fm_aload_n (pc := 3) C dX5_image_3 rfl rfl ?_
    refine g5_bandCount (pc := 4) C (by decide) dX5_image_4 m_fl_X5_153 ?_
    refine fm_icmp_ge (pc := 7) (tgt := 37) C dX5_image_7 (by decide) (fun c1 => ?_) (fun c1 => ?_)
    · refine fm_less (lv' := [(0, .ref (G.2.2.1 0))]) (by repeat (first | exact trivial | refine ⟨rfl, ?_⟩)) ?_
      exact hK  _ _
    · refine fm_iload_n (pc := 10) C dX5_image_10 rfl rfl ?_
      refine fm_bipush (pc := 11) (v := (nI 6)) C dX5_image_11 (by decide) ?_
      refine fm_icmp_ge (pc := 13) (tgt := 37) C dX5_image_13 (by decide) (fun c2 => ?_) (fun c2 => ?_)
      · refine fm_less (lv' := [(0, .ref (G.2.2.1 0))]) (by repeat (first | exact trivial | refine ⟨rfl, ?_⟩)) ?_
        exact hK  _ _
      · refine fm_aload_n (pc := 16) C dX5_image_16 rfl rfl ?_
        refine g5_imageBands (pc := 17) C (by decide) dX5_image_17 m_fl_X5_21 ?_
        refine fm_iload_n (pc := 20) C dX5_image_20 rfl rfl ?_
        refine fm_guard (fun h3 => ?_)
        refine fm_aaldB3 (pc := 21) C h3 dX5_image_21 ?_
        refine fm_aload_n (pc := 22) C dX5_image_22 rfl rfl ?_
        refine g5_bands (pc := 23) C (by decide) dX5_image_23 m_fl_X5_17 ?_
        refine fm_iload_n (pc := 26) C dX5_image_26 rfl rfl ?_
        refine fm_aaldB2 (pc := 27) C h3 dX5_image_27 ?_
        refine fm_bind (fun r28 e28 => ?_)
        refine fm_cVv (pc := 28) C (t_X0_becomeLike e28) ok_X0_becomeLike (fm_kcn0 (fm_k40 h3)) m_ml_X5_289 dX5_image_28 ⟨Nat.le_of_ble_eq_true rfl, Nat.le_of_ble_eq_true rfl⟩ rfl rfl (Nat.le_of_ble_eq_true rfl) ?_
        refine fm_iinc (pc := 31) C dX5_image_31 rfl (v := (v1 + nI 1)) rfl (by decide) rfl ?_
        refine fm_goto (pc := 34) (tgt := 2) C dX5_image_34 (by decide) ?_
        refine fm_less (lv' := [(0, .ref (G.2.2.1 0)), (1, .int ((v1 + nI 1)))]) (by repeat (first | exact trivial | refine ⟨rfl, ?_⟩)) ?_
        exact ih _ _ _
set_option maxHeartbeats 4000000 in
set_option maxRecDepth 100000 in
theorem j_X5_image {X : fm_X} {G : fm_G} {l : Launch}  {μ : fm_I} {ν : fm_L} (C : fm_C X G l cX5_image RX5 2 (some .int) 4 141) {F : (Int32 × fm_I × fm_L) → State → Prop} (hF : F = fm_Qi X G) : fm_J X G 2 F (m_X5_image  μ ν) μ ν 0 [(0, .ref (G.2.2.1 0))] [] := by
  unfold m_X5_image
  refine fm_iconst (pc := 0) (v := (nI 0)) C dX5_image_0 (by decide) ?_
  refine fm_istore_n (pc := 1) C dX5_image_1 rfl (by decide) rfl ?_
  refine fm_less (lv' := [(0, .ref (G.2.2.1 0)), (1, .int ((nI 0)))]) (by repeat (first | exact trivial | refine ⟨rfl, ?_⟩)) ?_
  refine j_X5_image_2_ C  hF  (fun μ2 ν2 => ?_) _ _ _ _
  refine fm_aload_n (pc := 37) C dX5_image_37 rfl rfl ?_
  refine fm_aload_n (pc := 38) C dX5_image_38 rfl rfl ?_
  refine g5_bandCount (pc := 39) C (by decide) dX5_image_39 m_fl_X5_153 ?_
  refine p5_imageCount (pc := 42) C (by decide) dX5_image_42 m_fl_X5_53 ?_
  refine fm_aload_n (pc := 45) C dX5_image_45 rfl rfl ?_
  refine fm_aload_n (pc := 46) C dX5_image_46 rfl rfl ?_
  refine g5_seed (pc := 47) C (by decide) dX5_image_47 m_fl_X5_49 ?_
  refine p5_imageSeed (pc := 50) C (by decide) dX5_image_50 m_fl_X5_293 ?_
  refine fm_aload_n (pc := 53) C dX5_image_53 rfl rfl ?_
  refine fm_aload_n (pc := 54) C dX5_image_54 rfl rfl ?_
  refine g5_snips (pc := 55) C (by decide) dX5_image_55 m_fl_X5_274 ?_
  refine p5_imageSnips (pc := 58) C (by decide) dX5_image_58 m_fl_X5_296 ?_
  refine fm_aload_n (pc := 61) C dX5_image_61 rfl rfl ?_
  refine g5_bandCount (pc := 62) C (by decide) dX5_image_62 m_fl_X5_153 ?_
  exact fm_zret (pc := 65) C hF rfl rfl dX5_image_65
theorem t_X5_image {l : Launch} {G : fm_G}  {μ : fm_I} {ν : fm_L} {r : Int32 × fm_I × fm_L} (h : m_X5_image  μ ν = some r) : fm_Mi l G yX5_image cX5_image 2 (some .int) 4 141 [.ref (G.2.2.1 0)] μ ν r := fm_Mi_of (by decide +kernel) (Nat.le_of_ble_eq_true rfl) (fun _ C => j_X5_image C rfl r h)
theorem dX5_restore_0 : decode cX5_restore 0 = .ok (.aload_n 0, 1) := by decide +kernel
theorem dX5_restore_1 : decode cX5_restore 1 = .ok (.getfield 53, 3) := by decide +kernel
theorem dX5_restore_4 : decode cX5_restore 4 = .ok (.iconst (-1), 1) := by decide +kernel
theorem dX5_restore_5 : decode cX5_restore 5 = .ok (.if_icmp .ne 10, 3) := by decide +kernel
theorem dX5_restore_8 : decode cX5_restore 8 = .ok (.aload_n 0, 1) := by decide +kernel
theorem dX5_restore_9 : decode cX5_restore 9 = .ok (.bipush 6, 2) := by decide +kernel
theorem dX5_restore_11 : decode cX5_restore 11 = .ok (.invokevirtual 67, 3) := by decide +kernel
theorem dX5_restore_14 : decode cX5_restore 14 = .ok (.ireturn, 1) := by decide +kernel
theorem dX5_restore_15 : decode cX5_restore 15 = .ok (.iconst 0, 1) := by decide +kernel
theorem dX5_restore_16 : decode cX5_restore 16 = .ok (.istore_n 1, 1) := by decide +kernel
theorem dX5_restore_17 : decode cX5_restore 17 = .ok (.iload_n 1, 1) := by decide +kernel
theorem dX5_restore_18 : decode cX5_restore 18 = .ok (.aload_n 0, 1) := by decide +kernel
theorem dX5_restore_19 : decode cX5_restore 19 = .ok (.getfield 53, 3) := by decide +kernel
theorem dX5_restore_22 : decode cX5_restore 22 = .ok (.if_icmp .ge 30, 3) := by decide +kernel
theorem dX5_restore_25 : decode cX5_restore 25 = .ok (.iload_n 1, 1) := by decide +kernel
theorem dX5_restore_26 : decode cX5_restore 26 = .ok (.bipush 6, 2) := by decide +kernel
theorem dX5_restore_28 : decode cX5_restore 28 = .ok (.if_icmp .ge 24, 3) := by decide +kernel
theorem dX5_restore_31 : decode cX5_restore 31 = .ok (.aload_n 0, 1) := by decide +kernel
theorem dX5_restore_32 : decode cX5_restore 32 = .ok (.getfield 17, 3) := by decide +kernel
theorem dX5_restore_35 : decode cX5_restore 35 = .ok (.iload_n 1, 1) := by decide +kernel
theorem dX5_restore_36 : decode cX5_restore 36 = .ok (.aaload, 1) := by decide +kernel
theorem dX5_restore_37 : decode cX5_restore 37 = .ok (.aload_n 0, 1) := by decide +kernel
theorem dX5_restore_38 : decode cX5_restore 38 = .ok (.getfield 21, 3) := by decide +kernel
theorem dX5_restore_41 : decode cX5_restore 41 = .ok (.iload_n 1, 1) := by decide +kernel
theorem dX5_restore_42 : decode cX5_restore 42 = .ok (.aaload, 1) := by decide +kernel
theorem dX5_restore_43 : decode cX5_restore 43 = .ok (.invokevirtual 289, 3) := by decide +kernel
theorem dX5_restore_46 : decode cX5_restore 46 = .ok (.iinc 1 1, 3) := by decide +kernel
theorem dX5_restore_49 : decode cX5_restore 49 = .ok (.goto (-32), 3) := by decide +kernel
theorem dX5_restore_52 : decode cX5_restore 52 = .ok (.aload_n 0, 1) := by decide +kernel
theorem dX5_restore_53 : decode cX5_restore 53 = .ok (.aload_n 0, 1) := by decide +kernel
theorem dX5_restore_54 : decode cX5_restore 54 = .ok (.getfield 53, 3) := by decide +kernel
theorem dX5_restore_57 : decode cX5_restore 57 = .ok (.putfield 153, 3) := by decide +kernel
theorem dX5_restore_60 : decode cX5_restore 60 = .ok (.aload_n 0, 1) := by decide +kernel
theorem dX5_restore_61 : decode cX5_restore 61 = .ok (.aload_n 0, 1) := by decide +kernel
theorem dX5_restore_62 : decode cX5_restore 62 = .ok (.getfield 293, 3) := by decide +kernel
theorem dX5_restore_65 : decode cX5_restore 65 = .ok (.putfield 49, 3) := by decide +kernel
theorem dX5_restore_68 : decode cX5_restore 68 = .ok (.aload_n 0, 1) := by decide +kernel
theorem dX5_restore_69 : decode cX5_restore 69 = .ok (.aload_n 0, 1) := by decide +kernel
theorem dX5_restore_70 : decode cX5_restore 70 = .ok (.getfield 296, 3) := by decide +kernel
theorem dX5_restore_73 : decode cX5_restore 73 = .ok (.putfield 274, 3) := by decide +kernel
theorem dX5_restore_76 : decode cX5_restore 76 = .ok (.aload_n 0, 1) := by decide +kernel
theorem dX5_restore_77 : decode cX5_restore 77 = .ok (.invokevirtual 286, 3) := by decide +kernel
theorem dX5_restore_80 : decode cX5_restore 80 = .ok (.aload_n 0, 1) := by decide +kernel
theorem dX5_restore_81 : decode cX5_restore 81 = .ok (.getfield 153, 3) := by decide +kernel
theorem dX5_restore_84 : decode cX5_restore 84 = .ok (.ireturn, 1) := by decide +kernel
def m_X5_restore_17  (K : fm_I → fm_L → Option (Int32 × fm_I × fm_L)) : Nat → Int32 → fm_I → fm_L → Option (Int32 × fm_I × fm_L)
  | 0, _, _, _ => none
  | k + 1, v1, μ, ν => if (μ 0 10) ≤ v1 then K  μ ν else if (nI 6) ≤ v1 then K  μ ν else fm_g (fm_in v1 6) ((m_X0_becomeLike ((34 + v1.toNatClampNeg)) ((40 + v1.toNatClampNeg)) μ ν).bind (fun r43 => m_X5_restore_17 K k ((v1 + nI 1)) r43.1 r43.2))
def m_X5_restore  (μ : fm_I) (ν : fm_L) : Option (Int32 × fm_I × fm_L) :=
  if (μ 0 10) = (-1 : Int32) then (m_X5_refuse ((nI 6)) μ ν).bind (fun r11 => some ((r11.1, r11.2.1, r11.2.2))) else m_X5_restore_17  (fun μ17 ν17 => (m_X5_clearShelvesOfGoneBands  (fm_u (fm_u (fm_u μ17 0 7 ((μ17 0 10))) 0 8 ((((fm_u μ17 0 7 ((μ17 0 10)))) 0 11))) 0 9 ((((fm_u (fm_u μ17 0 7 ((μ17 0 10))) 0 8 ((((fm_u μ17 0 7 ((μ17 0 10)))) 0 11)))) 0 12))) ν17).bind (fun r77 => some (((r77.1 0 7), r77.1, r77.2)))) 5000 ((nI 0)) μ ν
theorem ok_X5_restore : fm_okV yX5_restore cX5_restore 2 (some .int) 0 := ⟨m_cd_X5_restore, m_im_X5_restore, m_se_X5_X5_restore, m_ini_X5, by decide +kernel, by decide +kernel, by decide +kernel⟩
set_option maxHeartbeats 4000000 in
set_option maxRecDepth 100000 in
theorem j_X5_restore_17_ {X : fm_X} {G : fm_G} {l : Launch}  (C : fm_C X G l cX5_restore RX5 2 (some .int) 4 141) {F : (Int32 × fm_I × fm_L) → State → Prop} (hF : F = fm_Qi X G)  {K : fm_I → fm_L → Option (Int32 × fm_I × fm_L)} (hK : ∀  (μ : fm_I) (ν : fm_L), fm_J X G 2 F (K μ ν) μ ν 52 [(0, .ref (G.2.2.1 0))] []) : ∀ (k : Nat) (v1 : Int32) (μ : fm_I) (ν : fm_L), fm_J X G 2 F (m_X5_restore_17  K k v1 μ ν) μ ν 17 [(0, .ref (G.2.2.1 0)), (1, .int v1)] [] := by
  intro k
  induction k with
  | zero =>
    intro v1 μ ν
    exact fm_none
  | succ k ih =>
    intro v1 μ ν
    rw [m_X5_restore_17]
    refine fm_iload_n (pc := 17) C dX5_restore_17 rfl rfl ?_
    refine fm_aload_n (pc := 18) C dX5_restore_18 rfl rfl ?_
    refine g5_imageCount (pc := 19) C (by decide) dX5_restore_19 m_fl_X5_53 ?_
    refine fm_icmp_ge (pc := 22) (tgt := 52) C dX5_restore_22 (by decide) (fun c2 => ?_) (fun c2 => ?_)
    · refine fm_less (lv' := [(0, .ref (G.2.2.1 0))]) (by repeat (first | exact trivial | refine ⟨rfl, ?_⟩)) ?_
      exact hK  _ _
    · refine fm_iload_n (pc := 25) C dX5_restore_25 rfl rfl ?_
      refine fm_bipush (pc := 26) (v := (nI 6)) C dX5_restore_26 (by decide) ?_
      refine fm_icmp_ge (pc := 28) (tgt := 52) C dX5_restore_28 (by decide) (fun c3 => ?_) (fun c3 => ?_)
      · refine fm_less (lv' := [(0, .ref (G.2.2.1 0))]) (by repeat (first | exact trivial | refine ⟨rfl, ?_⟩)) ?_
        exact hK  _ _
      · refine fm_aload_n (pc := 31) C dX5_restore_31 rfl rfl ?_
        refine g5_bands (pc := 32) C (by decide) dX5_restore_32 m_fl_X5_17 ?_
        refine fm_iload_n (pc := 35) C dX5_restore_35 rfl rfl ?_
        refine fm_guard (fun h4 => ?_)
        refine fm_aaldB2 (pc := 36) C h4 dX5_restore_36 ?_
        refine fm_aload_n (pc := 37) C dX5_restore_37 rfl rfl ?_
        refine g5_imageBands (pc := 38) C (by decide) dX5_restore_38 m_fl_X5_21 ?_
        refine fm_iload_n (pc := 41) C dX5_restore_41 rfl rfl ?_
        refine fm_aaldB3 (pc := 42) C h4 dX5_restore_42 ?_
        refine fm_bind (fun r43 e43 => ?_)
        refine fm_cVv (pc := 43) C (t_X0_becomeLike e43) ok_X0_becomeLike (fm_kcn0 (fm_k34 h4)) m_ml_X5_289 dX5_restore_43 ⟨Nat.le_of_ble_eq_true rfl, Nat.le_of_ble_eq_true rfl⟩ rfl rfl (Nat.le_of_ble_eq_true rfl) ?_
        refine fm_iinc (pc := 46) C dX5_restore_46 rfl (v := (v1 + nI 1)) rfl (by decide) rfl ?_
        refine fm_goto (pc := 49) (tgt := 17) C dX5_restore_49 (by decide) ?_
        refine fm_less (lv' := [(0, .ref (G.2.2.1 0)), (1, .int ((v1 + nI 1)))]) (by repeat (first | exact trivial | refine ⟨rfl, ?_⟩)) ?_
        exact ih _ _ _
set_option maxHeartbeats 4000000 in
set_option maxRecDepth 100000 in
theorem j_X5_restore {X : fm_X} {G : fm_G} {l : Launch}  {μ : fm_I} {ν : fm_L} (C : fm_C X G l cX5_restore RX5 2 (some .int) 4 141) {F : (Int32 × fm_I × fm_L) → State → Prop} (hF : F = fm_Qi X G) : fm_J X G 2 F (m_X5_restore  μ ν) μ ν 0 [(0, .ref (G.2.2.1 0))] [] := by
  unfold m_X5_restore
  refine fm_aload_n (pc := 0) C dX5_restore_0 rfl rfl ?_
  refine g5_imageCount (pc := 1) C (by decide) dX5_restore_1 m_fl_X5_53 ?_
  refine fm_iconst (pc := 4) (v := (-1 : Int32)) C dX5_restore_4 (by decide) ?_
  refine fm_icmp_ne (pc := 5) (tgt := 15) C dX5_restore_5 (by decide) (fun c1 => ?_) (fun c1 => ?_)
  · refine fm_aload_n (pc := 8) C dX5_restore_8 rfl rfl ?_
    refine fm_bipush (pc := 9) (v := (nI 6)) C dX5_restore_9 (by decide) ?_
    refine fm_bind (fun r11 e11 => ?_)
    refine fm_cVi (pc := 11) C (t_X5_refuse e11) ok_X5_refuse ⟨by decide, rfl⟩ m_ml_X5_67 dX5_restore_11 ⟨Nat.le_of_ble_eq_true rfl, Nat.le_of_ble_eq_true rfl⟩ rfl rfl (Nat.le_of_ble_eq_true rfl) ?_
    exact fm_zret (pc := 14) C hF rfl rfl dX5_restore_14
  · refine fm_iconst (pc := 15) (v := (nI 0)) C dX5_restore_15 (by decide) ?_
    refine fm_istore_n (pc := 16) C dX5_restore_16 rfl (by decide) rfl ?_
    refine fm_less (lv' := [(0, .ref (G.2.2.1 0)), (1, .int ((nI 0)))]) (by repeat (first | exact trivial | refine ⟨rfl, ?_⟩)) ?_
    refine j_X5_restore_17_ C  hF  (fun μ17 ν17 => ?_) _ _ _ _
    refine fm_aload_n (pc := 52) C dX5_restore_52 rfl rfl ?_
    refine fm_aload_n (pc := 53) C dX5_restore_53 rfl rfl ?_
    refine g5_imageCount (pc := 54) C (by decide) dX5_restore_54 m_fl_X5_53 ?_
    refine p5_bandCount (pc := 57) C (by decide) dX5_restore_57 m_fl_X5_153 ?_
    refine fm_aload_n (pc := 60) C dX5_restore_60 rfl rfl ?_
    refine fm_aload_n (pc := 61) C dX5_restore_61 rfl rfl ?_
    refine g5_imageSeed (pc := 62) C (by decide) dX5_restore_62 m_fl_X5_293 ?_
    refine p5_seed (pc := 65) C (by decide) dX5_restore_65 m_fl_X5_49 ?_
    refine fm_aload_n (pc := 68) C dX5_restore_68 rfl rfl ?_
    refine fm_aload_n (pc := 69) C dX5_restore_69 rfl rfl ?_
    refine g5_imageSnips (pc := 70) C (by decide) dX5_restore_70 m_fl_X5_296 ?_
    refine p5_snips (pc := 73) C (by decide) dX5_restore_73 m_fl_X5_274 ?_
    refine fm_aload_n (pc := 76) C dX5_restore_76 rfl rfl ?_
    refine fm_bind (fun r77 e77 => ?_)
    refine fm_cVv (pc := 77) C (t_X5_clearShelvesOfGoneBands e77) ok_X5_clearShelvesOfGoneBands ⟨by decide, rfl⟩ m_ml_X5_286 dX5_restore_77 ⟨Nat.le_of_ble_eq_true rfl, Nat.le_of_ble_eq_true rfl⟩ rfl rfl (Nat.le_of_ble_eq_true rfl) ?_
    refine fm_aload_n (pc := 80) C dX5_restore_80 rfl rfl ?_
    refine g5_bandCount (pc := 81) C (by decide) dX5_restore_81 m_fl_X5_153 ?_
    exact fm_zret (pc := 84) C hF rfl rfl dX5_restore_84
theorem t_X5_restore {l : Launch} {G : fm_G}  {μ : fm_I} {ν : fm_L} {r : Int32 × fm_I × fm_L} (h : m_X5_restore  μ ν = some r) : fm_Mi l G yX5_restore cX5_restore 2 (some .int) 4 141 [.ref (G.2.2.1 0)] μ ν r := fm_Mi_of (by decide +kernel) (Nat.le_of_ble_eq_true rfl) (fun _ C => j_X5_restore C rfl r h)
theorem dX5_isAct_0 : decode cX5_isAct 0 = .ok (.iload_n 0, 1) := by decide +kernel
theorem dX5_isAct_1 : decode cX5_isAct 1 = .ok (.ifCond .lt 12, 3) := by decide +kernel
theorem dX5_isAct_4 : decode cX5_isAct 4 = .ok (.iload_n 0, 1) := by decide +kernel
theorem dX5_isAct_5 : decode cX5_isAct 5 = .ok (.iconst 2, 1) := by decide +kernel
theorem dX5_isAct_6 : decode cX5_isAct 6 = .ok (.if_icmp .gt 7, 3) := by decide +kernel
theorem dX5_isAct_9 : decode cX5_isAct 9 = .ok (.iconst 1, 1) := by decide +kernel
theorem dX5_isAct_10 : decode cX5_isAct 10 = .ok (.goto 4, 3) := by decide +kernel
theorem dX5_isAct_13 : decode cX5_isAct 13 = .ok (.iconst 0, 1) := by decide +kernel
theorem dX5_isAct_14 : decode cX5_isAct 14 = .ok (.ireturn, 1) := by decide +kernel
def m_X5_isAct (v0 : Int32) (μ : fm_I) (ν : fm_L) : Option (Int32) :=
  if v0 < 0 then some ((nI 0)) else if (nI 2) < v0 then some ((nI 0)) else some ((nI 1))
theorem ok_X5_isAct : fm_okS yX5_isAct cX5_isAct 1 (some .boolean) 1 := ⟨m_cd_X5_isAct, m_st_X5_isAct, m_ini_X5, by decide +kernel, by decide +kernel, by decide +kernel⟩
set_option maxHeartbeats 4000000 in
set_option maxRecDepth 100000 in
theorem j_X5_isAct {X : fm_X} {G : fm_G} {l : Launch} {v0 : Int32} {μ : fm_I} {ν : fm_L} (C : fm_C X G l cX5_isAct RX5 1 (some .boolean) 1 12) {F : Int32 → State → Prop} (hF : F = fun r => fm_Qi X G (r, μ, ν)) : fm_J X G 1 F (m_X5_isAct v0 μ ν) μ ν 0 [(0, .int v0)] [] := by
  unfold m_X5_isAct
  refine fm_iload_n (pc := 0) C dX5_isAct_0 rfl rfl ?_
  refine fm_if_lt (pc := 1) (tgt := 13) C dX5_isAct_1 (by decide) (fun c1 => ?_) (fun c1 => ?_)
  · refine fm_iconst (pc := 13) (v := (nI 0)) C dX5_isAct_13 (by decide) ?_
    exact fm_zret0 (pc := 14) C hF rfl rfl dX5_isAct_14
  · refine fm_iload_n (pc := 4) C dX5_isAct_4 rfl rfl ?_
    refine fm_iconst (pc := 5) (v := (nI 2)) C dX5_isAct_5 (by decide) ?_
    refine fm_icmp_gt (pc := 6) (tgt := 13) C dX5_isAct_6 (by decide) (fun c2 => ?_) (fun c2 => ?_)
    · refine fm_iconst (pc := 13) (v := (nI 0)) C dX5_isAct_13 (by decide) ?_
      exact fm_zret0 (pc := 14) C hF rfl rfl dX5_isAct_14
    · refine fm_iconst (pc := 9) (v := (nI 1)) C dX5_isAct_9 (by decide) ?_
      refine fm_goto (pc := 10) (tgt := 14) C dX5_isAct_10 (by decide) ?_
      exact fm_zret0 (pc := 14) C hF rfl rfl dX5_isAct_14
theorem t_X5_isAct {l : Launch} {G : fm_G} {v0 : Int32} {μ : fm_I} {ν : fm_L} {r : Int32} (h : m_X5_isAct v0 μ ν = some r) : fm_Mi l G yX5_isAct cX5_isAct 1 (some .boolean) 1 12 [.int v0] μ ν (r, μ, ν) := fm_Mi_of (by decide +kernel) (Nat.le_of_ble_eq_true rfl) (fun _ C => j_X5_isAct C rfl r h)
theorem dX5_act_0 : decode cX5_act 0 = .ok (.aload_n 0, 1) := by decide +kernel
theorem dX5_act_1 : decode cX5_act 1 = .ok (.getfield 45, 3) := by decide +kernel
theorem dX5_act_4 : decode cX5_act 4 = .ok (.iconst 0, 1) := by decide +kernel
theorem dX5_act_5 : decode cX5_act 5 = .ok (.putfield 302, 3) := by decide +kernel
theorem dX5_act_8 : decode cX5_act 8 = .ok (.aload_n 0, 1) := by decide +kernel
theorem dX5_act_9 : decode cX5_act 9 = .ok (.iload_n 1, 1) := by decide +kernel
theorem dX5_act_10 : decode cX5_act 10 = .ok (.invokevirtual 112, 3) := by decide +kernel
theorem dX5_act_13 : decode cX5_act 13 = .ok (.astore 4, 2) := by decide +kernel
theorem dX5_act_15 : decode cX5_act 15 = .ok (.aload 4, 2) := by decide +kernel
theorem dX5_act_17 : decode cX5_act 17 = .ok (.ifnonnull 5, 3) := by decide +kernel
theorem dX5_act_20 : decode cX5_act 20 = .ok (.iconst 0, 1) := by decide +kernel
theorem dX5_act_21 : decode cX5_act 21 = .ok (.ireturn, 1) := by decide +kernel
theorem dX5_act_22 : decode cX5_act 22 = .ok (.iload_n 2, 1) := by decide +kernel
theorem dX5_act_23 : decode cX5_act 23 = .ok (.invokestatic 305, 3) := by decide +kernel
theorem dX5_act_26 : decode cX5_act 26 = .ok (.ifCond .eq 17, 3) := by decide +kernel
theorem dX5_act_29 : decode cX5_act 29 = .ok (.aload 4, 2) := by decide +kernel
theorem dX5_act_31 : decode cX5_act 31 = .ok (.iload_n 2, 1) := by decide +kernel
theorem dX5_act_32 : decode cX5_act 32 = .ok (.iload_n 3, 1) := by decide +kernel
theorem dX5_act_33 : decode cX5_act 33 = .ok (.aload_n 0, 1) := by decide +kernel
theorem dX5_act_34 : decode cX5_act 34 = .ok (.getfield 45, 3) := by decide +kernel
theorem dX5_act_37 : decode cX5_act 37 = .ok (.invokevirtual 308, 3) := by decide +kernel
theorem dX5_act_40 : decode cX5_act 40 = .ok (.goto 4, 3) := by decide +kernel
theorem dX5_act_43 : decode cX5_act 43 = .ok (.iconst 0, 1) := by decide +kernel
theorem dX5_act_44 : decode cX5_act 44 = .ok (.ireturn, 1) := by decide +kernel
def m_X5_act (v1 : Int32) (v2 : Int32) (v3 : Int32) (μ : fm_I) (ν : fm_L) : Option (Int32 × fm_I × fm_L) :=
  (m_X5_bandAt v1 (fm_u μ 7 1 ((nI 0))) ν).bind (fun r10 => fm_o r10 (some (((nI 0), (fm_u μ 7 1 ((nI 0))), ν))) (fun y10 => (m_X5_isAct v2 (fm_u μ 7 1 ((nI 0))) ν).bind (fun r23 => if r23 = 0 then some (((nI 0), (fm_u μ 7 1 ((nI 0))), ν)) else fm_g (Nat.beq (fm_k y10) 0) ((m_X0_run y10 v2 v3 (fm_u μ 7 1 ((nI 0))) ν).bind (fun r37 => some ((r37.1, r37.2.1, r37.2.2)))))))
theorem ok_X5_act : fm_okV yX5_act cX5_act 5 (some .int) 3 := ⟨m_cd_X5_act, m_im_X5_act, m_se_X5_X5_act, m_ini_X5, by decide +kernel, by decide +kernel, by decide +kernel⟩
set_option maxHeartbeats 4000000 in
set_option maxRecDepth 100000 in
theorem j_X5_act {X : fm_X} {G : fm_G} {l : Launch} {v1 : Int32} {v2 : Int32} {v3 : Int32} {μ : fm_I} {ν : fm_L} (C : fm_C X G l cX5_act RX5 5 (some .int) 19 882) {F : (Int32 × fm_I × fm_L) → State → Prop} (hF : F = fm_Qi X G) : fm_J X G 5 F (m_X5_act v1 v2 v3 μ ν) μ ν 0 [(0, .ref (G.2.2.1 0)), (1, .int v1), (2, .int v2), (3, .int v3)] [] := by
  unfold m_X5_act
  refine fm_aload_n (pc := 0) C dX5_act_0 rfl rfl ?_
  refine g5_trace (pc := 1) C (by decide) dX5_act_1 m_fl_X5_45 ?_
  refine fm_iconst (pc := 4) (v := (nI 0)) C dX5_act_4 (by decide) ?_
  refine p4_ran (pc := 5) C (by decide) dX5_act_5 m_fl_X5_302 ?_
  refine fm_aload_n (pc := 8) C dX5_act_8 rfl rfl ?_
  refine fm_iload_n (pc := 9) C dX5_act_9 rfl rfl ?_
  refine fm_bind (fun r10 e10 => ?_)
  refine fm_cVq0 (pc := 10) C (t_X5_bandAt e10) ok_X5_bandAt ⟨by decide, rfl⟩ m_ml_X5_112 dX5_act_10 ⟨Nat.le_of_ble_eq_true rfl, Nat.le_of_ble_eq_true rfl⟩ rfl rfl (Nat.le_of_ble_eq_true rfl) ?_
  refine fm_opt (fun e10 => ?_) (fun y10 e10 => ?_)
  · subst e10
    refine fm_astoreq (x := none) (pc := 13) C dX5_act_13 (by decide) rfl ?_
    refine fm_aloadq (x := none) (pc := 15) C dX5_act_15 rfl ?_
    refine fm_ifnonnullN (pc := 17) C dX5_act_17 ?_
    refine fm_iconst (pc := 20) (v := (nI 0)) C dX5_act_20 (by decide) ?_
    exact fm_zret (pc := 21) C hF rfl rfl dX5_act_21
  · subst e10
    refine fm_astore (pc := 13) C dX5_act_13 (by decide) rfl ?_
    refine fm_aload (pc := 15) C dX5_act_15 rfl ?_
    refine fm_ifnonnullR (pc := 17) (tgt := 22) C dX5_act_17 (by decide) ?_
    refine fm_iload_n (pc := 22) C dX5_act_22 rfl rfl ?_
    refine fm_bind (fun r23 e23 => ?_)
    refine fm_cSi0 (pc := 23) C (t_X5_isAct e23) ok_X5_isAct m_ml_X5_305 dX5_act_23 ⟨Nat.le_of_ble_eq_true rfl, Nat.le_of_ble_eq_true rfl⟩ rfl rfl (Nat.le_of_ble_eq_true rfl) ?_
    refine fm_if_eq (pc := 26) (tgt := 43) C dX5_act_26 (by decide) (fun c1 => ?_) (fun c1 => ?_)
    · refine fm_iconst (pc := 43) (v := (nI 0)) C dX5_act_43 (by decide) ?_
      exact fm_zret (pc := 44) C hF rfl rfl dX5_act_44
    · refine fm_aload (pc := 29) C dX5_act_29 rfl ?_
      refine fm_iload_n (pc := 31) C dX5_act_31 rfl rfl ?_
      refine fm_iload_n (pc := 32) C dX5_act_32 rfl rfl ?_
      refine fm_aload_n (pc := 33) C dX5_act_33 rfl rfl ?_
      refine g5_trace (pc := 34) C (by decide) dX5_act_34 m_fl_X5_45 ?_
      refine fm_guard (fun h2 => ?_)
      refine fm_bind (fun r37 e37 => ?_)
      refine fm_cVi (pc := 37) C (t_X0_run e37) ok_X0_run (fm_kcn0 (Nat.eq_of_beq_eq_true h2)) m_ml_X5_308 dX5_act_37 ⟨Nat.le_of_ble_eq_true rfl, Nat.le_of_ble_eq_true rfl⟩ rfl rfl (Nat.le_of_ble_eq_true rfl) ?_
      refine fm_goto (pc := 40) (tgt := 44) C dX5_act_40 (by decide) ?_
      exact fm_zret (pc := 44) C hF rfl rfl dX5_act_44
theorem t_X5_act {l : Launch} {G : fm_G} {v1 : Int32} {v2 : Int32} {v3 : Int32} {μ : fm_I} {ν : fm_L} {r : Int32 × fm_I × fm_L} (h : m_X5_act v1 v2 v3 μ ν = some r) : fm_Mi l G yX5_act cX5_act 5 (some .int) 19 882 [.ref (G.2.2.1 0), .int v1, .int v2, .int v3] μ ν r := fm_Mi_of (by decide +kernel) (Nat.le_of_ble_eq_true rfl) (fun _ C => j_X5_act C rfl r h)
theorem dX5_trace_0 : decode cX5_trace 0 = .ok (.aload_n 0, 1) := by decide +kernel
theorem dX5_trace_1 : decode cX5_trace 1 = .ok (.getfield 45, 3) := by decide +kernel
theorem dX5_trace_4 : decode cX5_trace 4 = .ok (.iload_n 1, 1) := by decide +kernel
theorem dX5_trace_5 : decode cX5_trace 5 = .ok (.invokevirtual 312, 3) := by decide +kernel
theorem dX5_trace_8 : decode cX5_trace 8 = .ok (.ireturn, 1) := by decide +kernel
def m_X5_trace (v1 : Int32) (μ : fm_I) (ν : fm_L) : Option (Int32) :=
  (m_X4_bodyAt v1 μ ν).bind (fun r5 => some r5)
theorem ok_X5_trace : fm_okV yX5_trace cX5_trace 2 (some .int) 1 := ⟨m_cd_X5_trace, m_im_X5_trace, m_se_X5_X5_trace, m_ini_X5, by decide +kernel, by decide +kernel, by decide +kernel⟩
set_option maxHeartbeats 4000000 in
set_option maxRecDepth 100000 in
theorem j_X5_trace {X : fm_X} {G : fm_G} {l : Launch} {v1 : Int32} {μ : fm_I} {ν : fm_L} (C : fm_C X G l cX5_trace RX5 2 (some .int) 2 33) {F : Int32 → State → Prop} (hF : F = fun r => fm_Qi X G (r, μ, ν)) : fm_J X G 2 F (m_X5_trace v1 μ ν) μ ν 0 [(0, .ref (G.2.2.1 0)), (1, .int v1)] [] := by
  unfold m_X5_trace
  refine fm_aload_n (pc := 0) C dX5_trace_0 rfl rfl ?_
  refine g5_trace (pc := 1) C (by decide) dX5_trace_1 m_fl_X5_45 ?_
  refine fm_iload_n (pc := 4) C dX5_trace_4 rfl rfl ?_
  refine fm_bind (fun r5 e5 => ?_)
  refine fm_cVi0 (pc := 5) C (t_X4_bodyAt e5) ok_X4_bodyAt ⟨by decide, rfl⟩ m_ml_X5_312 dX5_trace_5 ⟨Nat.le_of_ble_eq_true rfl, Nat.le_of_ble_eq_true rfl⟩ rfl rfl (Nat.le_of_ble_eq_true rfl) ?_
  exact fm_zret0 (pc := 8) C hF rfl rfl dX5_trace_8
theorem t_X5_trace {l : Launch} {G : fm_G} {v1 : Int32} {μ : fm_I} {ν : fm_L} {r : Int32} (h : m_X5_trace v1 μ ν = some r) : fm_Mi l G yX5_trace cX5_trace 2 (some .int) 2 33 [.ref (G.2.2.1 0), .int v1] μ ν (r, μ, ν) := fm_Mi_of (by decide +kernel) (Nat.le_of_ble_eq_true rfl) (fun _ C => j_X5_trace C rfl r h)
theorem dX5_piecesOfAll_0 : decode cX5_piecesOfAll 0 = .ok (.iconst 0, 1) := by decide +kernel
theorem dX5_piecesOfAll_1 : decode cX5_piecesOfAll 1 = .ok (.istore_n 1, 1) := by decide +kernel
theorem dX5_piecesOfAll_2 : decode cX5_piecesOfAll 2 = .ok (.iconst 0, 1) := by decide +kernel
theorem dX5_piecesOfAll_3 : decode cX5_piecesOfAll 3 = .ok (.istore_n 2, 1) := by decide +kernel
theorem dX5_piecesOfAll_4 : decode cX5_piecesOfAll 4 = .ok (.iload_n 2, 1) := by decide +kernel
theorem dX5_piecesOfAll_5 : decode cX5_piecesOfAll 5 = .ok (.aload_n 0, 1) := by decide +kernel
theorem dX5_piecesOfAll_6 : decode cX5_piecesOfAll 6 = .ok (.getfield 153, 3) := by decide +kernel
theorem dX5_piecesOfAll_9 : decode cX5_piecesOfAll 9 = .ok (.if_icmp .ge 31, 3) := by decide +kernel
theorem dX5_piecesOfAll_12 : decode cX5_piecesOfAll 12 = .ok (.iload_n 2, 1) := by decide +kernel
theorem dX5_piecesOfAll_13 : decode cX5_piecesOfAll 13 = .ok (.bipush 6, 2) := by decide +kernel
theorem dX5_piecesOfAll_15 : decode cX5_piecesOfAll 15 = .ok (.if_icmp .ge 25, 3) := by decide +kernel
theorem dX5_piecesOfAll_18 : decode cX5_piecesOfAll 18 = .ok (.iload_n 1, 1) := by decide +kernel
theorem dX5_piecesOfAll_19 : decode cX5_piecesOfAll 19 = .ok (.aload_n 0, 1) := by decide +kernel
theorem dX5_piecesOfAll_20 : decode cX5_piecesOfAll 20 = .ok (.aload_n 0, 1) := by decide +kernel
theorem dX5_piecesOfAll_21 : decode cX5_piecesOfAll 21 = .ok (.getfield 17, 3) := by decide +kernel
theorem dX5_piecesOfAll_24 : decode cX5_piecesOfAll 24 = .ok (.iload_n 2, 1) := by decide +kernel
theorem dX5_piecesOfAll_25 : decode cX5_piecesOfAll 25 = .ok (.aaload, 1) := by decide +kernel
theorem dX5_piecesOfAll_26 : decode cX5_piecesOfAll 26 = .ok (.invokevirtual 192, 3) := by decide +kernel
theorem dX5_piecesOfAll_29 : decode cX5_piecesOfAll 29 = .ok (.getfield 196, 3) := by decide +kernel
theorem dX5_piecesOfAll_32 : decode cX5_piecesOfAll 32 = .ok (.iadd, 1) := by decide +kernel
theorem dX5_piecesOfAll_33 : decode cX5_piecesOfAll 33 = .ok (.istore_n 1, 1) := by decide +kernel
theorem dX5_piecesOfAll_34 : decode cX5_piecesOfAll 34 = .ok (.iinc 2 1, 3) := by decide +kernel
theorem dX5_piecesOfAll_37 : decode cX5_piecesOfAll 37 = .ok (.goto (-33), 3) := by decide +kernel
theorem dX5_piecesOfAll_40 : decode cX5_piecesOfAll 40 = .ok (.iload_n 1, 1) := by decide +kernel
theorem dX5_piecesOfAll_41 : decode cX5_piecesOfAll 41 = .ok (.ireturn, 1) := by decide +kernel
def m_X5_piecesOfAll_4  (K : Int32 → fm_I → fm_L → Option (Int32 × fm_I × fm_L)) : Nat → Int32 → Int32 → fm_I → fm_L → Option (Int32 × fm_I × fm_L)
  | 0, _, _, _, _ => none
  | k + 1, v1, v2, μ, ν => if (μ 0 7) ≤ v2 then K v1 μ ν else if (nI 6) ≤ v2 then K v1 μ ν else fm_g (fm_in v2 6) ((m_X5_laid ((34 + v2.toNatClampNeg)) μ ν).bind (fun r26 => m_X5_piecesOfAll_4 K k ((v1 + ((r26.1 5 0)))) ((v2 + nI 1)) r26.1 r26.2))
def m_X5_piecesOfAll  (μ : fm_I) (ν : fm_L) : Option (Int32 × fm_I × fm_L) :=
  m_X5_piecesOfAll_4  (fun x1_4 μ4 ν4 => some ((x1_4, μ4, ν4))) 5000 ((nI 0)) ((nI 0)) μ ν
theorem ok_X5_piecesOfAll : fm_okV yX5_piecesOfAll cX5_piecesOfAll 3 (some .int) 0 := ⟨m_cd_X5_piecesOfAll, m_im_X5_piecesOfAll, m_se_X5_X5_piecesOfAll, m_ini_X5, by decide +kernel, by decide +kernel, by decide +kernel⟩
set_option maxHeartbeats 4000000 in
set_option maxRecDepth 100000 in
theorem j_X5_piecesOfAll_4_ {X : fm_X} {G : fm_G} {l : Launch}  (C : fm_C X G l cX5_piecesOfAll RX5 3 (some .int) 5 106) {F : (Int32 × fm_I × fm_L) → State → Prop} (hF : F = fm_Qi X G)  {K : Int32 → fm_I → fm_L → Option (Int32 × fm_I × fm_L)} (hK : ∀ (v1 : Int32) (μ : fm_I) (ν : fm_L), fm_J X G 3 F (K v1 μ ν) μ ν 40 [(1, .int v1)] []) : ∀ (k : Nat) (v1 : Int32) (v2 : Int32) (μ : fm_I) (ν : fm_L), fm_J X G 3 F (m_X5_piecesOfAll_4  K k v1 v2 μ ν) μ ν 4 [(0, .ref (G.2.2.1 0)), (1, .int v1), (2, .int v2)] [] := by
  intro k
  induction k with
  | zero =>
    intro v1 v2 μ ν
    exact fm_none
  | succ k ih =>
    intro v1 v2 μ ν
    rw [m_X5_piecesOfAll_4]
    refine fm_iload_n (pc := 4) C dX5_piecesOfAll_4 rfl rfl ?_
    refine fm_aload_n (pc := 5) C dX5_piecesOfAll_5 rfl rfl ?_
    refine g5_bandCount (pc := 6) C (by decide) dX5_piecesOfAll_6 m_fl_X5_153 ?_
    refine fm_icmp_ge (pc := 9) (tgt := 40) C dX5_piecesOfAll_9 (by decide) (fun c1 => ?_) (fun c1 => ?_)
    · refine fm_less (lv' := [(1, .int v1)]) (by repeat (first | exact trivial | refine ⟨rfl, ?_⟩)) ?_
      exact hK _ _ _
    · refine fm_iload_n (pc := 12) C dX5_piecesOfAll_12 rfl rfl ?_
      refine fm_bipush (pc := 13) (v := (nI 6)) C dX5_piecesOfAll_13 (by decide) ?_
      refine fm_icmp_ge (pc := 15) (tgt := 40) C dX5_piecesOfAll_15 (by decide) (fun c2 => ?_) (fun c2 => ?_)
      · refine fm_less (lv' := [(1, .int v1)]) (by repeat (first | exact trivial | refine ⟨rfl, ?_⟩)) ?_
        exact hK _ _ _
      · refine fm_iload_n (pc := 18) C dX5_piecesOfAll_18 rfl rfl ?_
        refine fm_aload_n (pc := 19) C dX5_piecesOfAll_19 rfl rfl ?_
        refine fm_aload_n (pc := 20) C dX5_piecesOfAll_20 rfl rfl ?_
        refine g5_bands (pc := 21) C (by decide) dX5_piecesOfAll_21 m_fl_X5_17 ?_
        refine fm_iload_n (pc := 24) C dX5_piecesOfAll_24 rfl rfl ?_
        refine fm_guard (fun h3 => ?_)
        refine fm_aaldB2 (pc := 25) C h3 dX5_piecesOfAll_25 ?_
        refine fm_bind (fun r26 e26 => ?_)
        refine fm_cVqc (pc := 26) C (t_X5_laid e26) ok_X5_laid ⟨by decide, rfl⟩ m_ml_X5_192 dX5_piecesOfAll_26 ⟨Nat.le_of_ble_eq_true rfl, Nat.le_of_ble_eq_true rfl⟩ rfl rfl (Nat.le_of_ble_eq_true rfl) ?_
        refine g1_count (pc := 29) C (by decide) dX5_piecesOfAll_29 m_fl_X5_196 ?_
        refine fm_iadd (pc := 32) C dX5_piecesOfAll_32 ?_
        refine fm_istore_n (pc := 33) C dX5_piecesOfAll_33 rfl (by decide) rfl ?_
        refine fm_iinc (pc := 34) C dX5_piecesOfAll_34 rfl (v := (v2 + nI 1)) rfl (by decide) rfl ?_
        refine fm_goto (pc := 37) (tgt := 4) C dX5_piecesOfAll_37 (by decide) ?_
        refine fm_less (lv' := [(0, .ref (G.2.2.1 0)), (1, .int ((v1 + ((r26.1 5 0))))), (2, .int ((v2 + nI 1)))]) (by repeat (first | exact trivial | refine ⟨rfl, ?_⟩)) ?_
        exact ih _ _ _ _
set_option maxHeartbeats 4000000 in
set_option maxRecDepth 100000 in
theorem j_X5_piecesOfAll {X : fm_X} {G : fm_G} {l : Launch}  {μ : fm_I} {ν : fm_L} (C : fm_C X G l cX5_piecesOfAll RX5 3 (some .int) 5 106) {F : (Int32 × fm_I × fm_L) → State → Prop} (hF : F = fm_Qi X G) : fm_J X G 3 F (m_X5_piecesOfAll  μ ν) μ ν 0 [(0, .ref (G.2.2.1 0))] [] := by
  unfold m_X5_piecesOfAll
  refine fm_iconst (pc := 0) (v := (nI 0)) C dX5_piecesOfAll_0 (by decide) ?_
  refine fm_istore_n (pc := 1) C dX5_piecesOfAll_1 rfl (by decide) rfl ?_
  refine fm_iconst (pc := 2) (v := (nI 0)) C dX5_piecesOfAll_2 (by decide) ?_
  refine fm_istore_n (pc := 3) C dX5_piecesOfAll_3 rfl (by decide) rfl ?_
  refine fm_less (lv' := [(0, .ref (G.2.2.1 0)), (1, .int ((nI 0))), (2, .int ((nI 0)))]) (by repeat (first | exact trivial | refine ⟨rfl, ?_⟩)) ?_
  refine j_X5_piecesOfAll_4_ C  hF  (fun x1_4 μ4 ν4 => ?_) _ _ _ _ _
  refine fm_iload_n (pc := 40) C dX5_piecesOfAll_40 rfl rfl ?_
  exact fm_zret (pc := 41) C hF rfl rfl dX5_piecesOfAll_41
theorem t_X5_piecesOfAll {l : Launch} {G : fm_G}  {μ : fm_I} {ν : fm_L} {r : Int32 × fm_I × fm_L} (h : m_X5_piecesOfAll  μ ν = some r) : fm_Mi l G yX5_piecesOfAll cX5_piecesOfAll 3 (some .int) 5 106 [.ref (G.2.2.1 0)] μ ν r := fm_Mi_of (by decide +kernel) (Nat.le_of_ble_eq_true rfl) (fun _ C => j_X5_piecesOfAll C rfl r h)
theorem dX5_status_0 : decode cX5_status 0 = .ok (.iload_n 1, 1) := by decide +kernel
theorem dX5_status_1 : decode cX5_status 1 = .ok (.bipush 10, 2) := by decide +kernel
theorem dX5_status_3 : decode cX5_status 3 = .ok (.if_icmp .le 19, 3) := by decide +kernel
theorem dX5_status_6 : decode cX5_status 6 = .ok (.iload_n 1, 1) := by decide +kernel
theorem dX5_status_7 : decode cX5_status 7 = .ok (.bipush 17, 2) := by decide +kernel
theorem dX5_status_9 : decode cX5_status 9 = .ok (.if_icmp .gt 13, 3) := by decide +kernel
theorem dX5_status_12 : decode cX5_status 12 = .ok (.aload_n 0, 1) := by decide +kernel
theorem dX5_status_13 : decode cX5_status 13 = .ok (.getfield 24, 3) := by decide +kernel
theorem dX5_status_16 : decode cX5_status 16 = .ok (.iload_n 1, 1) := by decide +kernel
theorem dX5_status_17 : decode cX5_status 17 = .ok (.bipush 10, 2) := by decide +kernel
theorem dX5_status_19 : decode cX5_status 19 = .ok (.isub, 1) := by decide +kernel
theorem dX5_status_20 : decode cX5_status 20 = .ok (.iaload, 1) := by decide +kernel
theorem dX5_status_21 : decode cX5_status 21 = .ok (.ireturn, 1) := by decide +kernel
theorem dX5_status_22 : decode cX5_status 22 = .ok (.iload_n 1, 1) := by decide +kernel
theorem dX5_status_23 : decode cX5_status 23 = .ok (.tableswitch 61 0 4 #[33, 38, 43, 48, 53], 33) := by decide +kernel
theorem dX5_status_56 : decode cX5_status 56 = .ok (.aload_n 0, 1) := by decide +kernel
theorem dX5_status_57 : decode cX5_status 57 = .ok (.getfield 153, 3) := by decide +kernel
theorem dX5_status_60 : decode cX5_status 60 = .ok (.ireturn, 1) := by decide +kernel
theorem dX5_status_61 : decode cX5_status 61 = .ok (.aload_n 0, 1) := by decide +kernel
theorem dX5_status_62 : decode cX5_status 62 = .ok (.invokevirtual 315, 3) := by decide +kernel
theorem dX5_status_65 : decode cX5_status 65 = .ok (.ireturn, 1) := by decide +kernel
theorem dX5_status_66 : decode cX5_status 66 = .ok (.aload_n 0, 1) := by decide +kernel
theorem dX5_status_67 : decode cX5_status 67 = .ok (.getfield 274, 3) := by decide +kernel
theorem dX5_status_70 : decode cX5_status 70 = .ok (.ireturn, 1) := by decide +kernel
theorem dX5_status_71 : decode cX5_status 71 = .ok (.aload_n 0, 1) := by decide +kernel
theorem dX5_status_72 : decode cX5_status 72 = .ok (.getfield 49, 3) := by decide +kernel
theorem dX5_status_75 : decode cX5_status 75 = .ok (.ireturn, 1) := by decide +kernel
theorem dX5_status_76 : decode cX5_status 76 = .ok (.aload_n 0, 1) := by decide +kernel
theorem dX5_status_77 : decode cX5_status 77 = .ok (.getfield 45, 3) := by decide +kernel
theorem dX5_status_80 : decode cX5_status 80 = .ok (.getfield 302, 3) := by decide +kernel
theorem dX5_status_83 : decode cX5_status 83 = .ok (.ireturn, 1) := by decide +kernel
theorem dX5_status_84 : decode cX5_status 84 = .ok (.iconst (-1), 1) := by decide +kernel
theorem dX5_status_85 : decode cX5_status 85 = .ok (.ireturn, 1) := by decide +kernel
def m_X5_status (v1 : Int32) (μ : fm_I) (ν : fm_L) : Option (Int32 × fm_I × fm_L) :=
  if v1 ≤ (nI 10) then if v1 = (nI 0) then some (((μ 0 7), μ, ν)) else if v1 = (nI 1) then (m_X5_piecesOfAll  μ ν).bind (fun r62 => some ((r62.1, r62.2.1, r62.2.2))) else if v1 = (nI 2) then some (((μ 0 9), μ, ν)) else if v1 = (nI 3) then some (((μ 0 8), μ, ν)) else if v1 = (nI 4) then some (((μ 7 1), μ, ν)) else some (((-1 : Int32), μ, ν)) else if (nI 17) < v1 then if v1 = (nI 0) then some (((μ 0 7), μ, ν)) else if v1 = (nI 1) then (m_X5_piecesOfAll  μ ν).bind (fun r62 => some ((r62.1, r62.2.1, r62.2.2))) else if v1 = (nI 2) then some (((μ 0 9), μ, ν)) else if v1 = (nI 3) then some (((μ 0 8), μ, ν)) else if v1 = (nI 4) then some (((μ 7 1), μ, ν)) else some (((-1 : Int32), μ, ν)) else fm_g (fm_in ((v1 - ((nI 10)))) (fm_n 4)) (some (((μ 4 ((v1 - ((nI 10)))).toNatClampNeg), μ, ν)))
theorem ok_X5_status : fm_okV yX5_status cX5_status 2 (some .int) 1 := ⟨m_cd_X5_status, m_im_X5_status, m_se_X5_X5_status, m_ini_X5, by decide +kernel, by decide +kernel, by decide +kernel⟩
set_option maxHeartbeats 4000000 in
set_option maxRecDepth 100000 in
theorem j_X5_status {X : fm_X} {G : fm_G} {l : Launch} {v1 : Int32} {μ : fm_I} {ν : fm_L} (C : fm_C X G l cX5_status RX5 2 (some .int) 6 128) {F : (Int32 × fm_I × fm_L) → State → Prop} (hF : F = fm_Qi X G) : fm_J X G 2 F (m_X5_status v1 μ ν) μ ν 0 [(0, .ref (G.2.2.1 0)), (1, .int v1)] [] := by
  unfold m_X5_status
  refine fm_iload_n (pc := 0) C dX5_status_0 rfl rfl ?_
  refine fm_bipush (pc := 1) (v := (nI 10)) C dX5_status_1 (by decide) ?_
  refine fm_icmp_le (pc := 3) (tgt := 22) C dX5_status_3 (by decide) (fun c1 => ?_) (fun c1 => ?_)
  · refine fm_iload_n (pc := 22) C dX5_status_22 rfl rfl ?_
    refine fm_ite (fun s2 => ?_) (fun s2 => ?_)
    · refine fm_tabIn (pc := 23) (tgt := 56) (off := 33) C dX5_status_23 (by rw [s2]; decide) (by rw [s2]; decide) (by rw [s2]; decide) (by decide) ?_
      refine fm_aload_n (pc := 56) C dX5_status_56 rfl rfl ?_
      refine g5_bandCount (pc := 57) C (by decide) dX5_status_57 m_fl_X5_153 ?_
      exact fm_zret (pc := 60) C hF rfl rfl dX5_status_60
    · refine fm_ite (fun s3 => ?_) (fun s3 => ?_)
      · refine fm_tabIn (pc := 23) (tgt := 61) (off := 38) C dX5_status_23 (by rw [s3]; decide) (by rw [s3]; decide) (by rw [s3]; decide) (by decide) ?_
        refine fm_aload_n (pc := 61) C dX5_status_61 rfl rfl ?_
        refine fm_bind (fun r62 e62 => ?_)
        refine fm_cVi (pc := 62) C (t_X5_piecesOfAll e62) ok_X5_piecesOfAll ⟨by decide, rfl⟩ m_ml_X5_315 dX5_status_62 ⟨Nat.le_of_ble_eq_true rfl, Nat.le_of_ble_eq_true rfl⟩ rfl rfl (Nat.le_of_ble_eq_true rfl) ?_
        exact fm_zret (pc := 65) C hF rfl rfl dX5_status_65
      · refine fm_ite (fun s4 => ?_) (fun s4 => ?_)
        · refine fm_tabIn (pc := 23) (tgt := 66) (off := 43) C dX5_status_23 (by rw [s4]; decide) (by rw [s4]; decide) (by rw [s4]; decide) (by decide) ?_
          refine fm_aload_n (pc := 66) C dX5_status_66 rfl rfl ?_
          refine g5_snips (pc := 67) C (by decide) dX5_status_67 m_fl_X5_274 ?_
          exact fm_zret (pc := 70) C hF rfl rfl dX5_status_70
        · refine fm_ite (fun s5 => ?_) (fun s5 => ?_)
          · refine fm_tabIn (pc := 23) (tgt := 71) (off := 48) C dX5_status_23 (by rw [s5]; decide) (by rw [s5]; decide) (by rw [s5]; decide) (by decide) ?_
            refine fm_aload_n (pc := 71) C dX5_status_71 rfl rfl ?_
            refine g5_seed (pc := 72) C (by decide) dX5_status_72 m_fl_X5_49 ?_
            exact fm_zret (pc := 75) C hF rfl rfl dX5_status_75
          · refine fm_ite (fun s6 => ?_) (fun s6 => ?_)
            · refine fm_tabIn (pc := 23) (tgt := 76) (off := 53) C dX5_status_23 (by rw [s6]; decide) (by rw [s6]; decide) (by rw [s6]; decide) (by decide) ?_
              refine fm_aload_n (pc := 76) C dX5_status_76 rfl rfl ?_
              refine g5_trace (pc := 77) C (by decide) dX5_status_77 m_fl_X5_45 ?_
              refine g4_ran (pc := 80) C (by decide) dX5_status_80 m_fl_X5_302 ?_
              exact fm_zret (pc := 83) C hF rfl rfl dX5_status_83
            · refine fm_tabOut (pc := 23) (tgt := 84) C dX5_status_23 (by have a0 := fm_ne (nI 0) (k := 0) (by decide) s2; have a1 := fm_ne (nI 1) (k := 1) (by decide) s3; have a2 := fm_ne (nI 2) (k := 2) (by decide) s4; have a3 := fm_ne (nI 3) (k := 3) (by decide) s5; have a4 := fm_ne (nI 4) (k := 4) (by decide) s6; omega) (by decide) ?_
              refine fm_iconst (pc := 84) (v := (-1 : Int32)) C dX5_status_84 (by decide) ?_
              exact fm_zret (pc := 85) C hF rfl rfl dX5_status_85
  · refine fm_iload_n (pc := 6) C dX5_status_6 rfl rfl ?_
    refine fm_bipush (pc := 7) (v := (nI 17)) C dX5_status_7 (by decide) ?_
    refine fm_icmp_gt (pc := 9) (tgt := 22) C dX5_status_9 (by decide) (fun c7 => ?_) (fun c7 => ?_)
    · refine fm_iload_n (pc := 22) C dX5_status_22 rfl rfl ?_
      refine fm_ite (fun s8 => ?_) (fun s8 => ?_)
      · refine fm_tabIn (pc := 23) (tgt := 56) (off := 33) C dX5_status_23 (by rw [s8]; decide) (by rw [s8]; decide) (by rw [s8]; decide) (by decide) ?_
        refine fm_aload_n (pc := 56) C dX5_status_56 rfl rfl ?_
        refine g5_bandCount (pc := 57) C (by decide) dX5_status_57 m_fl_X5_153 ?_
        exact fm_zret (pc := 60) C hF rfl rfl dX5_status_60
      · refine fm_ite (fun s9 => ?_) (fun s9 => ?_)
        · refine fm_tabIn (pc := 23) (tgt := 61) (off := 38) C dX5_status_23 (by rw [s9]; decide) (by rw [s9]; decide) (by rw [s9]; decide) (by decide) ?_
          refine fm_aload_n (pc := 61) C dX5_status_61 rfl rfl ?_
          refine fm_bind (fun r62 e62 => ?_)
          refine fm_cVi (pc := 62) C (t_X5_piecesOfAll e62) ok_X5_piecesOfAll ⟨by decide, rfl⟩ m_ml_X5_315 dX5_status_62 ⟨Nat.le_of_ble_eq_true rfl, Nat.le_of_ble_eq_true rfl⟩ rfl rfl (Nat.le_of_ble_eq_true rfl) ?_
          exact fm_zret (pc := 65) C hF rfl rfl dX5_status_65
        · refine fm_ite (fun s10 => ?_) (fun s10 => ?_)
          · refine fm_tabIn (pc := 23) (tgt := 66) (off := 43) C dX5_status_23 (by rw [s10]; decide) (by rw [s10]; decide) (by rw [s10]; decide) (by decide) ?_
            refine fm_aload_n (pc := 66) C dX5_status_66 rfl rfl ?_
            refine g5_snips (pc := 67) C (by decide) dX5_status_67 m_fl_X5_274 ?_
            exact fm_zret (pc := 70) C hF rfl rfl dX5_status_70
          · refine fm_ite (fun s11 => ?_) (fun s11 => ?_)
            · refine fm_tabIn (pc := 23) (tgt := 71) (off := 48) C dX5_status_23 (by rw [s11]; decide) (by rw [s11]; decide) (by rw [s11]; decide) (by decide) ?_
              refine fm_aload_n (pc := 71) C dX5_status_71 rfl rfl ?_
              refine g5_seed (pc := 72) C (by decide) dX5_status_72 m_fl_X5_49 ?_
              exact fm_zret (pc := 75) C hF rfl rfl dX5_status_75
            · refine fm_ite (fun s12 => ?_) (fun s12 => ?_)
              · refine fm_tabIn (pc := 23) (tgt := 76) (off := 53) C dX5_status_23 (by rw [s12]; decide) (by rw [s12]; decide) (by rw [s12]; decide) (by decide) ?_
                refine fm_aload_n (pc := 76) C dX5_status_76 rfl rfl ?_
                refine g5_trace (pc := 77) C (by decide) dX5_status_77 m_fl_X5_45 ?_
                refine g4_ran (pc := 80) C (by decide) dX5_status_80 m_fl_X5_302 ?_
                exact fm_zret (pc := 83) C hF rfl rfl dX5_status_83
              · refine fm_tabOut (pc := 23) (tgt := 84) C dX5_status_23 (by have a0 := fm_ne (nI 0) (k := 0) (by decide) s8; have a1 := fm_ne (nI 1) (k := 1) (by decide) s9; have a2 := fm_ne (nI 2) (k := 2) (by decide) s10; have a3 := fm_ne (nI 3) (k := 3) (by decide) s11; have a4 := fm_ne (nI 4) (k := 4) (by decide) s12; omega) (by decide) ?_
                refine fm_iconst (pc := 84) (v := (-1 : Int32)) C dX5_status_84 (by decide) ?_
                exact fm_zret (pc := 85) C hF rfl rfl dX5_status_85
    · refine fm_aload_n (pc := 12) C dX5_status_12 rfl rfl ?_
      refine g5_refusals (pc := 13) C (by decide) dX5_status_13 m_fl_X5_24 ?_
      refine fm_iload_n (pc := 16) C dX5_status_16 rfl rfl ?_
      refine fm_bipush (pc := 17) (v := (nI 10)) C dX5_status_17 (by decide) ?_
      refine fm_isub (pc := 19) C dX5_status_19 ?_
      refine fm_guard (fun h13 => ?_)
      refine fm_iald (pc := 20) C (by decide) h13 dX5_status_20 ?_
      exact fm_zret (pc := 21) C hF rfl rfl dX5_status_21
theorem t_X5_status {l : Launch} {G : fm_G} {v1 : Int32} {μ : fm_I} {ν : fm_L} {r : Int32 × fm_I × fm_L} (h : m_X5_status v1 μ ν = some r) : fm_Mi l G yX5_status cX5_status 2 (some .int) 6 128 [.ref (G.2.2.1 0), .int v1] μ ν r := fm_Mi_of (by decide +kernel) (Nat.le_of_ble_eq_true rfl) (fun _ C => j_X5_status C rfl r h)
