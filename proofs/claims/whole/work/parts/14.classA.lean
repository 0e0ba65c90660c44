theorem dX5_isShelf_0 : decode cX5_isShelf 0 = .ok (.iload_n 0, 1) := by decide +kernel
theorem dX5_isShelf_1 : decode cX5_isShelf 1 = .ok (.ifCond .lt 13, 3) := by decide +kernel
theorem dX5_isShelf_4 : decode cX5_isShelf 4 = .ok (.iload_n 0, 1) := by decide +kernel
theorem dX5_isShelf_5 : decode cX5_isShelf 5 = .ok (.bipush 8, 2) := by decide +kernel
theorem dX5_isShelf_7 : decode cX5_isShelf 7 = .ok (.if_icmp .ge 7, 3) := by decide +kernel
theorem dX5_isShelf_10 : decode cX5_isShelf 10 = .ok (.iconst 1, 1) := by decide +kernel
theorem dX5_isShelf_11 : decode cX5_isShelf 11 = .ok (.goto 4, 3) := by decide +kernel
theorem dX5_isShelf_14 : decode cX5_isShelf 14 = .ok (.iconst 0, 1) := by decide +kernel
theorem dX5_isShelf_15 : decode cX5_isShelf 15 = .ok (.ireturn, 1) := by decide +kernel
def m_X5_isShelf (v0 : Int32) (μ : fm_I) (ν : fm_L) : Option (Int32) :=
  if v0 < 0 then some ((nI 0)) else if (nI 8) ≤ v0 then some ((nI 0)) else some ((nI 1))
theorem ok_X5_isShelf : fm_okS yX5_isShelf cX5_isShelf 1 (some .boolean) 1 := ⟨m_cd_X5_isShelf, m_st_X5_isShelf, m_ini_X5, by decide +kernel, by decide +kernel, by decide +kernel⟩
set_option maxHeartbeats 4000000 in
set_option maxRecDepth 100000 in
theorem j_X5_isShelf {X : fm_X} {G : fm_G} {l : Launch} {v0 : Int32} {μ : fm_I} {ν : fm_L} (C : fm_C X G l cX5_isShelf RX5 1 (some .boolean) 1 12) {F : Int32 → State → Prop} (hF : F = fun r => fm_Qi X G (r, μ, ν)) : fm_J X G 1 F (m_X5_isShelf v0 μ ν) μ ν 0 [(0, .int v0)] [] := by
  unfold m_X5_isShelf
  refine fm_iload_n (pc := 0) C dX5_isShelf_0 rfl rfl ?_
  refine fm_if_lt (pc := 1) (tgt := 14) C dX5_isShelf_1 (by decide) (fun c1 => ?_) (fun c1 => ?_)
  · refine fm_iconst (pc := 14) (v := (nI 0)) C dX5_isShelf_14 (by decide) ?_
    exact fm_zret0 (pc := 15) C hF rfl rfl dX5_isShelf_15
  · refine fm_iload_n (pc := 4) C dX5_isShelf_4 rfl rfl ?_
    refine fm_bipush (pc := 5) (v := (nI 8)) C dX5_isShelf_5 (by decide) ?_
    refine fm_icmp_ge (pc := 7) (tgt := 14) C dX5_isShelf_7 (by decide) (fun c2 => ?_) (fun c2 => ?_)
    · refine fm_iconst (pc := 14) (v := (nI 0)) C dX5_isShelf_14 (by decide) ?_
      exact fm_zret0 (pc := 15) C hF rfl rfl dX5_isShelf_15
    · refine fm_iconst (pc := 10) (v := (nI 1)) C dX5_isShelf_10 (by decide) ?_
      refine fm_goto (pc := 11) (tgt := 15) C dX5_isShelf_11 (by decide) ?_
      exact fm_zret0 (pc := 15) C hF rfl rfl dX5_isShelf_15
theorem t_X5_isShelf {l : Launch} {G : fm_G} {v0 : Int32} {μ : fm_I} {ν : fm_L} {r : Int32} (h : m_X5_isShelf v0 μ ν = some r) : fm_Mi l G yX5_isShelf cX5_isShelf 1 (some .boolean) 1 12 [.int v0] μ ν (r, μ, ν) := fm_Mi_of (by decide +kernel) (Nat.le_of_ble_eq_true rfl) (fun _ C => j_X5_isShelf C rfl r h)
theorem dX5_refuseOffBy_0 : decode cX5_refuseOffBy 0 = .ok (.iload_n 2, 1) := by decide +kernel
theorem dX5_refuseOffBy_1 : decode cX5_refuseOffBy 1 = .ok (.iconst 1, 1) := by decide +kernel
theorem dX5_refuseOffBy_2 : decode cX5_refuseOffBy 2 = .ok (.if_icmp .lt 19, 3) := by decide +kernel
theorem dX5_refuseOffBy_5 : decode cX5_refuseOffBy 5 = .ok (.iload_n 2, 1) := by decide +kernel
theorem dX5_refuseOffBy_6 : decode cX5_refuseOffBy 6 = .ok (.bipush 7, 2) := by decide +kernel
theorem dX5_refuseOffBy_8 : decode cX5_refuseOffBy 8 = .ok (.if_icmp .gt 13, 3) := by decide +kernel
theorem dX5_refuseOffBy_11 : decode cX5_refuseOffBy 11 = .ok (.aload_n 0, 1) := by decide +kernel
theorem dX5_refuseOffBy_12 : decode cX5_refuseOffBy 12 = .ok (.getfield 24, 3) := by decide +kernel
theorem dX5_refuseOffBy_15 : decode cX5_refuseOffBy 15 = .ok (.iload_n 2, 1) := by decide +kernel
theorem dX5_refuseOffBy_16 : decode cX5_refuseOffBy 16 = .ok (.dup2, 1) := by decide +kernel
theorem dX5_refuseOffBy_17 : decode cX5_refuseOffBy 17 = .ok (.iaload, 1) := by decide +kernel
theorem dX5_refuseOffBy_18 : decode cX5_refuseOffBy 18 = .ok (.iconst 1, 1) := by decide +kernel
theorem dX5_refuseOffBy_19 : decode cX5_refuseOffBy 19 = .ok (.iadd, 1) := by decide +kernel
theorem dX5_refuseOffBy_20 : decode cX5_refuseOffBy 20 = .ok (.iastore, 1) := by decide +kernel
theorem dX5_refuseOffBy_21 : decode cX5_refuseOffBy 21 = .ok (.iload_n 1, 1) := by decide +kernel
theorem dX5_refuseOffBy_22 : decode cX5_refuseOffBy 22 = .ok (.ineg, 1) := by decide +kernel
theorem dX5_refuseOffBy_23 : decode cX5_refuseOffBy 23 = .ok (.iload_n 2, 1) := by decide +kernel
theorem dX5_refuseOffBy_24 : decode cX5_refuseOffBy 24 = .ok (.isub, 1) := by decide +kernel
theorem dX5_refuseOffBy_25 : decode cX5_refuseOffBy 25 = .ok (.ireturn, 1) := by decide +kernel
def m_X5_refuseOffBy (v1 : Int32) (v2 : Int32) (μ : fm_I) (ν : fm_L) : Option (Int32 × fm_I × fm_L) :=
  if v2 < (nI 1) then some (((((-v1)) - v2), μ, ν)) else if (nI 7) < v2 then some (((((-v1)) - v2), μ, ν)) else fm_g (fm_in v2 (fm_n 4)) (some (((((-v1)) - v2), (fm_u μ 4 v2.toNatClampNeg ((((μ 4 v2.toNatClampNeg)) + ((nI 1))))), ν)))
theorem ok_X5_refuseOffBy : fm_okV yX5_refuseOffBy cX5_refuseOffBy 3 (some .int) 2 := ⟨m_cd_X5_refuseOffBy, m_im_X5_refuseOffBy, m_se_X5_X5_refuseOffBy, m_ini_X5, by decide +kernel, by decide +kernel, by decide +kernel⟩
set_option maxHeartbeats 4000000 in
set_option maxRecDepth 100000 in
theorem j_X5_refuseOffBy {X : fm_X} {G : fm_G} {l : Launch} {v1 : Int32} {v2 : Int32} {μ : fm_I} {ν : fm_L} (C : fm_C X G l cX5_refuseOffBy RX5 3 (some .int) 1 12) {F : (Int32 × fm_I × fm_L) → State → Prop} (hF : F = fm_Qi X G) : fm_J X G 3 F (m_X5_refuseOffBy v1 v2 μ ν) μ ν 0 [(0, .ref (G.2.2.1 0)), (1, .int v1), (2, .int v2)] [] := by
  unfold m_X5_refuseOffBy
  refine fm_iload_n (pc := 0) C dX5_refuseOffBy_0 rfl rfl ?_
  refine fm_iconst (pc := 1) (v := (nI 1)) C dX5_refuseOffBy_1 (by decide) ?_
  refine fm_icmp_lt (pc := 2) (tgt := 21) C dX5_refuseOffBy_2 (by decide) (fun c1 => ?_) (fun c1 => ?_)
  · refine fm_iload_n (pc := 21) C dX5_refuseOffBy_21 rfl rfl ?_
    refine fm_ineg (pc := 22) C dX5_refuseOffBy_22 ?_
    refine fm_iload_n (pc := 23) C dX5_refuseOffBy_23 rfl rfl ?_
    refine fm_isub (pc := 24) C dX5_refuseOffBy_24 ?_
    exact fm_zret (pc := 25) C hF rfl rfl dX5_refuseOffBy_25
  · refine fm_iload_n (pc := 5) C dX5_refuseOffBy_5 rfl rfl ?_
    refine fm_bipush (pc := 6) (v := (nI 7)) C dX5_refuseOffBy_6 (by decide) ?_
    refine fm_icmp_gt (pc := 8) (tgt := 21) C dX5_refuseOffBy_8 (by decide) (fun c2 => ?_) (fun c2 => ?_)
    · refine fm_iload_n (pc := 21) C dX5_refuseOffBy_21 rfl rfl ?_
      refine fm_ineg (pc := 22) C dX5_refuseOffBy_22 ?_
      refine fm_iload_n (pc := 23) C dX5_refuseOffBy_23 rfl rfl ?_
      refine fm_isub (pc := 24) C dX5_refuseOffBy_24 ?_
      exact fm_zret (pc := 25) C hF rfl rfl dX5_refuseOffBy_25
    · refine fm_aload_n (pc := 11) C dX5_refuseOffBy_11 rfl rfl ?_
      refine g5_refusals (pc := 12) C (by decide) dX5_refuseOffBy_12 m_fl_X5_24 ?_
      refine fm_iload_n (pc := 15) C dX5_refuseOffBy_15 rfl rfl ?_
      refine fm_dup2 (pc := 16) C dX5_refuseOffBy_16 rfl rfl ?_
      refine fm_guard (fun h3 => ?_)
      refine fm_iald (pc := 17) C (by decide) h3 dX5_refuseOffBy_17 ?_
      refine fm_iconst (pc := 18) (v := (nI 1)) C dX5_refuseOffBy_18 (by decide) ?_
      refine fm_iadd (pc := 19) C dX5_refuseOffBy_19 ?_
      refine fm_iast (pc := 20) C (by decide) h3 dX5_refuseOffBy_20 ?_
      refine fm_iload_n (pc := 21) C dX5_refuseOffBy_21 rfl rfl ?_
      refine fm_ineg (pc := 22) C dX5_refuseOffBy_22 ?_
      refine fm_iload_n (pc := 23) C dX5_refuseOffBy_23 rfl rfl ?_
      refine fm_isub (pc := 24) C dX5_refuseOffBy_24 ?_
      exact fm_zret (pc := 25) C hF rfl rfl dX5_refuseOffBy_25
theorem t_X5_refuseOffBy {l : Launch} {G : fm_G} {v1 : Int32} {v2 : Int32} {μ : fm_I} {ν : fm_L} {r : Int32 × fm_I × fm_L} (h : m_X5_refuseOffBy v1 v2 μ ν = some r) : fm_Mi l G yX5_refuseOffBy cX5_refuseOffBy 3 (some .int) 1 12 [.ref (G.2.2.1 0), .int v1, .int v2] μ ν r := fm_Mi_of (by decide +kernel) (Nat.le_of_ble_eq_true rfl) (fun _ C => j_X5_refuseOffBy C rfl r h)
theorem dX5_refuse_0 : decode cX5_refuse 0 = .ok (.aload_n 0, 1) := by decide +kernel
theorem dX5_refuse_1 : decode cX5_refuse 1 = .ok (.iconst 0, 1) := by decide +kernel
theorem dX5_refuse_2 : decode cX5_refuse 2 = .ok (.iload_n 1, 1) := by decide +kernel
theorem dX5_refuse_3 : decode cX5_refuse 3 = .ok (.invokevirtual 218, 3) := by decide +kernel
theorem dX5_refuse_6 : decode cX5_refuse 6 = .ok (.ireturn, 1) := by decide +kernel
def m_X5_refuse (v1 : Int32) (μ : fm_I) (ν : fm_L) : Option (Int32 × fm_I × fm_L) :=
  (m_X5_refuseOffBy ((nI 0)) v1 μ ν).bind (fun r3 => some ((r3.1, r3.2.1, r3.2.2)))
theorem ok_X5_refuse : fm_okV yX5_refuse cX5_refuse 2 (some .int) 1 := ⟨m_cd_X5_refuse, m_im_X5_refuse, m_se_X5_X5_refuse, m_ini_X5, by decide +kernel, by decide +kernel, by decide +kernel⟩
set_option maxHeartbeats 4000000 in
set_option maxRecDepth 100000 in
theorem j_X5_refuse {X : fm_X} {G : fm_G} {l : Launch} {v1 : Int32} {μ : fm_I} {ν : fm_L} (C : fm_C X G l cX5_refuse RX5 2 (some .int) 2 34) {F : (Int32 × fm_I × fm_L) → State → Prop} (hF : F = fm_Qi X G) : fm_J X G 2 F (m_X5_refuse v1 μ ν) μ ν 0 [(0, .ref (G.2.2.1 0)), (1, .int v1)] [] := by
  unfold m_X5_refuse
  refine fm_aload_n (pc := 0) C dX5_refuse_0 rfl rfl ?_
  refine fm_iconst (pc := 1) (v := (nI 0)) C dX5_refuse_1 (by decide) ?_
  refine fm_iload_n (pc := 2) C dX5_refuse_2 rfl rfl ?_
  refine fm_bind (fun r3 e3 => ?_)
  refine fm_cVi (pc := 3) C (t_X5_refuseOffBy e3) ok_X5_refuseOffBy ⟨by decide, rfl⟩ m_ml_X5_218 dX5_refuse_3 ⟨Nat.le_of_ble_eq_true rfl, Nat.le_of_ble_eq_true rfl⟩ rfl rfl (Nat.le_of_ble_eq_true rfl) ?_
  exact fm_zret (pc := 6) C hF rfl rfl dX5_refuse_6
theorem t_X5_refuse {l : Launch} {G : fm_G} {v1 : Int32} {μ : fm_I} {ν : fm_L} {r : Int32 × fm_I × fm_L} (h : m_X5_refuse v1 μ ν = some r) : fm_Mi l G yX5_refuse cX5_refuse 2 (some .int) 2 34 [.ref (G.2.2.1 0), .int v1] μ ν r := fm_Mi_of (by decide +kernel) (Nat.le_of_ble_eq_true rfl) (fun _ C => j_X5_refuse C rfl r h)
theorem dX5_row_0 : decode cX5_row 0 = .ok (.iload_n 1, 1) := by decide +kernel
theorem dX5_row_1 : decode cX5_row 1 = .ok (.invokestatic 63, 3) := by decide +kernel
theorem dX5_row_4 : decode cX5_row 4 = .ok (.ifCond .ne 9, 3) := by decide +kernel
theorem dX5_row_7 : decode cX5_row 7 = .ok (.aload_n 0, 1) := by decide +kernel
theorem dX5_row_8 : decode cX5_row 8 = .ok (.iconst 1, 1) := by decide +kernel
theorem dX5_row_9 : decode cX5_row 9 = .ok (.invokevirtual 67, 3) := by decide +kernel
theorem dX5_row_12 : decode cX5_row 12 = .ok (.ireturn, 1) := by decide +kernel
theorem dX5_row_13 : decode cX5_row 13 = .ok (.iload_n 3, 1) := by decide +kernel
theorem dX5_row_14 : decode cX5_row 14 = .ok (.ifCond .ge 9, 3) := by decide +kernel
theorem dX5_row_17 : decode cX5_row 17 = .ok (.aload_n 0, 1) := by decide +kernel
theorem dX5_row_18 : decode cX5_row 18 = .ok (.iconst 4, 1) := by decide +kernel
theorem dX5_row_19 : decode cX5_row 19 = .ok (.invokevirtual 67, 3) := by decide +kernel
theorem dX5_row_22 : decode cX5_row 22 = .ok (.ireturn, 1) := by decide +kernel
theorem dX5_row_23 : decode cX5_row 23 = .ok (.iload_n 2, 1) := by decide +kernel
theorem dX5_row_24 : decode cX5_row 24 = .ok (.ifCond .lt 8, 3) := by decide +kernel
theorem dX5_row_27 : decode cX5_row 27 = .ok (.iload_n 2, 1) := by decide +kernel
theorem dX5_row_28 : decode cX5_row 28 = .ok (.iconst 3, 1) := by decide +kernel
theorem dX5_row_29 : decode cX5_row 29 = .ok (.if_icmp .le 10, 3) := by decide +kernel
theorem dX5_row_32 : decode cX5_row 32 = .ok (.aload_n 0, 1) := by decide +kernel
theorem dX5_row_33 : decode cX5_row 33 = .ok (.bipush 6, 2) := by decide +kernel
theorem dX5_row_35 : decode cX5_row 35 = .ok (.invokevirtual 67, 3) := by decide +kernel
theorem dX5_row_38 : decode cX5_row 38 = .ok (.ireturn, 1) := by decide +kernel
theorem dX5_row_39 : decode cX5_row 39 = .ok (.iload_n 3, 1) := by decide +kernel
theorem dX5_row_40 : decode cX5_row 40 = .ok (.sipush 160, 3) := by decide +kernel
theorem dX5_row_43 : decode cX5_row 43 = .ok (.if_icmp .le 10, 3) := by decide +kernel
theorem dX5_row_46 : decode cX5_row 46 = .ok (.aload_n 0, 1) := by decide +kernel
theorem dX5_row_47 : decode cX5_row 47 = .ok (.bipush 7, 2) := by decide +kernel
theorem dX5_row_49 : decode cX5_row 49 = .ok (.invokevirtual 67, 3) := by decide +kernel
theorem dX5_row_52 : decode cX5_row 52 = .ok (.ireturn, 1) := by decide +kernel
theorem dX5_row_53 : decode cX5_row 53 = .ok (.aload_n 0, 1) := by decide +kernel
theorem dX5_row_54 : decode cX5_row 54 = .ok (.getfield 11, 3) := by decide +kernel
theorem dX5_row_57 : decode cX5_row 57 = .ok (.iload_n 1, 1) := by decide +kernel
theorem dX5_row_58 : decode cX5_row 58 = .ok (.aaload, 1) := by decide +kernel
theorem dX5_row_59 : decode cX5_row 59 = .ok (.iload_n 2, 1) := by decide +kernel
theorem dX5_row_60 : decode cX5_row 60 = .ok (.iload_n 3, 1) := by decide +kernel
theorem dX5_row_61 : decode cX5_row 61 = .ok (.invokevirtual 71, 3) := by decide +kernel
theorem dX5_row_64 : decode cX5_row 64 = .ok (.iconst 1, 1) := by decide +kernel
theorem dX5_row_65 : decode cX5_row 65 = .ok (.ireturn, 1) := by decide +kernel
def m_X5_row (v1 : Int32) (v2 : Int32) (v3 : Int32) (μ : fm_I) (ν : fm_L) : Option (Int32 × fm_I × fm_L) :=
  (m_X5_isShelf v1 μ ν).bind (fun r1 => if r1 = 0 then (m_X5_refuse ((nI 1)) μ ν).bind (fun r9 => some ((r9.1, r9.2.1, r9.2.2))) else if 0 ≤ v3 then if v2 < 0 then (m_X5_refuse ((nI 6)) μ ν).bind (fun r35 => some ((r35.1, r35.2.1, r35.2.2))) else if v2 ≤ (nI 3) then if v3 ≤ (nI 160) then fm_g (fm_in v1 8) ((m_X2_holdRow ((18 + v1.toNatClampNeg)) v2 v3 μ ν).bind (fun r61 => some (((nI 1), r61.1, r61.2)))) else (m_X5_refuse ((nI 7)) μ ν).bind (fun r49 => some ((r49.1, r49.2.1, r49.2.2))) else (m_X5_refuse ((nI 6)) μ ν).bind (fun r35 => some ((r35.1, r35.2.1, r35.2.2))) else (m_X5_refuse ((nI 4)) μ ν).bind (fun r19 => some ((r19.1, r19.2.1, r19.2.2))))
theorem ok_X5_row : fm_okV yX5_row cX5_row 4 (some .int) 3 := ⟨m_cd_X5_row, m_im_X5_row, m_se_X5_X5_row, m_ini_X5, by decide +kernel, by decide +kernel, by decide +kernel⟩
set_option maxHeartbeats 4000000 in
set_option maxRecDepth 100000 in
theorem j_X5_row {X : fm_X} {G : fm_G} {l : Launch} {v1 : Int32} {v2 : Int32} {v3 : Int32} {μ : fm_I} {ν : fm_L} (C : fm_C X G l cX5_row RX5 4 (some .int) 3 58) {F : (Int32 × fm_I × fm_L) → State → Prop} (hF : F = fm_Qi X G) : fm_J X G 4 F (m_X5_row v1 v2 v3 μ ν) μ ν 0 [(0, .ref (G.2.2.1 0)), (1, .int v1), (2, .int v2), (3, .int v3)] [] := by
  unfold m_X5_row
  refine fm_iload_n (pc := 0) C dX5_row_0 rfl rfl ?_
  refine fm_bind (fun r1 e1 => ?_)
  refine fm_cSi0 (pc := 1) C (t_X5_isShelf e1) ok_X5_isShelf m_ml_X5_63 dX5_row_1 ⟨Nat.le_of_ble_eq_true rfl, Nat.le_of_ble_eq_true rfl⟩ rfl rfl (Nat.le_of_ble_eq_true rfl) ?_
  refine fm_if_ne (pc := 4) (tgt := 13) C dX5_row_4 (by decide) (fun c1 => ?_) (fun c1 => ?_)
  · refine fm_aload_n (pc := 7) C dX5_row_7 rfl rfl ?_
    refine fm_iconst (pc := 8) (v := (nI 1)) C dX5_row_8 (by decide) ?_
    refine fm_bind (fun r9 e9 => ?_)
    refine fm_cVi (pc := 9) C (t_X5_refuse e9) ok_X5_refuse ⟨by decide, rfl⟩ m_ml_X5_67 dX5_row_9 ⟨Nat.le_of_ble_eq_true rfl, Nat.le_of_ble_eq_true rfl⟩ rfl rfl (Nat.le_of_ble_eq_true rfl) ?_
    exact fm_zret (pc := 12) C hF rfl rfl dX5_row_12
  · refine fm_iload_n (pc := 13) C dX5_row_13 rfl rfl ?_
    refine fm_if_ge (pc := 14) (tgt := 23) C dX5_row_14 (by decide) (fun c2 => ?_) (fun c2 => ?_)
    · refine fm_iload_n (pc := 23) C dX5_row_23 rfl rfl ?_
      refine fm_if_lt (pc := 24) (tgt := 32) C dX5_row_24 (by decide) (fun c3 => ?_) (fun c3 => ?_)
      · refine fm_aload_n (pc := 32) C dX5_row_32 rfl rfl ?_
        refine fm_bipush (pc := 33) (v := (nI 6)) C dX5_row_33 (by decide) ?_
        refine fm_bind (fun r35 e35 => ?_)
        refine fm_cVi (pc := 35) C (t_X5_refuse e35) ok_X5_refuse ⟨by decide, rfl⟩ m_ml_X5_67 dX5_row_35 ⟨Nat.le_of_ble_eq_true rfl, Nat.le_of_ble_eq_true rfl⟩ rfl rfl (Nat.le_of_ble_eq_true rfl) ?_
        exact fm_zret (pc := 38) C hF rfl rfl dX5_row_38
      · refine fm_iload_n (pc := 27) C dX5_row_27 rfl rfl ?_
        refine fm_iconst (pc := 28) (v := (nI 3)) C dX5_row_28 (by decide) ?_
        refine fm_icmp_le (pc := 29) (tgt := 39) C dX5_row_29 (by decide) (fun c4 => ?_) (fun c4 => ?_)
        · refine fm_iload_n (pc := 39) C dX5_row_39 rfl rfl ?_
          refine fm_sipush (pc := 40) (v := (nI 160)) C dX5_row_40 (by decide) ?_
          refine fm_icmp_le (pc := 43) (tgt := 53) C dX5_row_43 (by decide) (fun c5 => ?_) (fun c5 => ?_)
          · refine fm_aload_n (pc := 53) C dX5_row_53 rfl rfl ?_
            refine g5_shelves (pc := 54) C (by decide) dX5_row_54 m_fl_X5_11 ?_
            refine fm_iload_n (pc := 57) C dX5_row_57 rfl rfl ?_
            refine fm_guard (fun h6 => ?_)
            refine fm_aaldS (pc := 58) C h6 dX5_row_58 ?_
            refine fm_iload_n (pc := 59) C dX5_row_59 rfl rfl ?_
            refine fm_iload_n (pc := 60) C dX5_row_60 rfl rfl ?_
            refine fm_bind (fun r61 e61 => ?_)
            refine fm_cVv (pc := 61) C (t_X2_holdRow e61) ok_X2_holdRow (fm_kcn2 (fm_k18 h6)) m_ml_X5_71 dX5_row_61 ⟨Nat.le_of_ble_eq_true rfl, Nat.le_of_ble_eq_true rfl⟩ rfl rfl (Nat.le_of_ble_eq_true rfl) ?_
            refine fm_iconst (pc := 64) (v := (nI 1)) C dX5_row_64 (by decide) ?_
            exact fm_zret (pc := 65) C hF rfl rfl dX5_row_65
          · refine fm_aload_n (pc := 46) C dX5_row_46 rfl rfl ?_
            refine fm_bipush (pc := 47) (v := (nI 7)) C dX5_row_47 (by decide) ?_
            refine fm_bind (fun r49 e49 => ?_)
            refine fm_cVi (pc := 49) C (t_X5_refuse e49) ok_X5_refuse ⟨by decide, rfl⟩ m_ml_X5_67 dX5_row_49 ⟨Nat.le_of_ble_eq_true rfl, Nat.le_of_ble_eq_true rfl⟩ rfl rfl (Nat.le_of_ble_eq_true rfl) ?_
            exact fm_zret (pc := 52) C hF rfl rfl dX5_row_52
        · refine fm_aload_n (pc := 32) C dX5_row_32 rfl rfl ?_
          refine fm_bipush (pc := 33) (v := (nI 6)) C dX5_row_33 (by decide) ?_
          refine fm_bind (fun r35 e35 => ?_)
          refine fm_cVi (pc := 35) C (t_X5_refuse e35) ok_X5_refuse ⟨by decide, rfl⟩ m_ml_X5_67 dX5_row_35 ⟨Nat.le_of_ble_eq_true rfl, Nat.le_of_ble_eq_true rfl⟩ rfl rfl (Nat.le_of_ble_eq_true rfl) ?_
          exact fm_zret (pc := 38) C hF rfl rfl dX5_row_38
    · refine fm_aload_n (pc := 17) C dX5_row_17 rfl rfl ?_
      refine fm_iconst (pc := 18) (v := (nI 4)) C dX5_row_18 (by decide) ?_
      refine fm_bind (fun r19 e19 => ?_)
      refine fm_cVi (pc := 19) C (t_X5_refuse e19) ok_X5_refuse ⟨by decide, rfl⟩ m_ml_X5_67 dX5_row_19 ⟨Nat.le_of_ble_eq_true rfl, Nat.le_of_ble_eq_true rfl⟩ rfl rfl (Nat.le_of_ble_eq_true rfl) ?_
      exact fm_zret (pc := 22) C hF rfl rfl dX5_row_22
theorem t_X5_row {l : Launch} {G : fm_G} {v1 : Int32} {v2 : Int32} {v3 : Int32} {μ : fm_I} {ν : fm_L} {r : Int32 × fm_I × fm_L} (h : m_X5_row v1 v2 v3 μ ν = some r) : fm_Mi l G yX5_row cX5_row 4 (some .int) 3 58 [.ref (G.2.2.1 0), .int v1, .int v2, .int v3] μ ν r := fm_Mi_of (by decide +kernel) (Nat.le_of_ble_eq_true rfl) (fun _ C => j_X5_row C rfl r h)
theorem dX5_rowRefusal_0 : decode cX5_rowRefusal 0 = .ok (.iload_n 1, 1) := by decide +kernel
theorem dX5_rowRefusal_1 : decode cX5_rowRefusal 1 = .ok (.invokestatic 63, 3) := by decide +kernel
theorem dX5_rowRefusal_4 : decode cX5_rowRefusal 4 = .ok (.ifCond .ne 5, 3) := by decide +kernel
theorem dX5_rowRefusal_7 : decode cX5_rowRefusal 7 = .ok (.iconst 1, 1) := by decide +kernel
theorem dX5_rowRefusal_8 : decode cX5_rowRefusal 8 = .ok (.ireturn, 1) := by decide +kernel
theorem dX5_rowRefusal_9 : decode cX5_rowRefusal 9 = .ok (.aload_n 0, 1) := by decide +kernel
theorem dX5_rowRefusal_10 : decode cX5_rowRefusal 10 = .ok (.getfield 11, 3) := by decide +kernel
theorem dX5_rowRefusal_13 : decode cX5_rowRefusal 13 = .ok (.iload_n 1, 1) := by decide +kernel
theorem dX5_rowRefusal_14 : decode cX5_rowRefusal 14 = .ok (.aaload, 1) := by decide +kernel
theorem dX5_rowRefusal_15 : decode cX5_rowRefusal 15 = .ok (.invokevirtual 299, 3) := by decide +kernel
theorem dX5_rowRefusal_18 : decode cX5_rowRefusal 18 = .ok (.ifCond .eq 5, 3) := by decide +kernel
theorem dX5_rowRefusal_21 : decode cX5_rowRefusal 21 = .ok (.iconst 2, 1) := by decide +kernel
theorem dX5_rowRefusal_22 : decode cX5_rowRefusal 22 = .ok (.ireturn, 1) := by decide +kernel
theorem dX5_rowRefusal_23 : decode cX5_rowRefusal 23 = .ok (.aload_n 0, 1) := by decide +kernel
theorem dX5_rowRefusal_24 : decode cX5_rowRefusal 24 = .ok (.getfield 11, 3) := by decide +kernel
theorem dX5_rowRefusal_27 : decode cX5_rowRefusal 27 = .ok (.iload_n 1, 1) := by decide +kernel
theorem dX5_rowRefusal_28 : decode cX5_rowRefusal 28 = .ok (.aaload, 1) := by decide +kernel
theorem dX5_rowRefusal_29 : decode cX5_rowRefusal 29 = .ok (.invokevirtual 116, 3) := by decide +kernel
theorem dX5_rowRefusal_32 : decode cX5_rowRefusal 32 = .ok (.ifCond .eq 7, 3) := by decide +kernel
theorem dX5_rowRefusal_35 : decode cX5_rowRefusal 35 = .ok (.iconst 0, 1) := by decide +kernel
theorem dX5_rowRefusal_36 : decode cX5_rowRefusal 36 = .ok (.goto 4, 3) := by decide +kernel
theorem dX5_rowRefusal_39 : decode cX5_rowRefusal 39 = .ok (.iconst 3, 1) := by decide +kernel
theorem dX5_rowRefusal_40 : decode cX5_rowRefusal 40 = .ok (.ireturn, 1) := by decide +kernel
def m_X5_rowRefusal (v1 : Int32) (μ : fm_I) (ν : fm_L) : Option (Int32) :=
  (m_X5_isShelf v1 μ ν).bind (fun r1 => if r1 = 0 then some ((nI 1)) else fm_g (fm_in v1 8) ((m_X2_hasBand ((18 + v1.toNatClampNeg)) μ ν).bind (fun r15 => if r15 = 0 then (m_X2_hasRow ((18 + v1.toNatClampNeg)) μ ν).bind (fun r29 => if r29 = 0 then some ((nI 3)) else some ((nI 0))) else some ((nI 2)))))
theorem ok_X5_rowRefusal : fm_okV yX5_rowRefusal cX5_rowRefusal 2 (some .int) 1 := ⟨m_cd_X5_rowRefusal, m_im_X5_rowRefusal, m_se_X5_X5_rowRefusal, m_ini_X5, by decide +kernel, by decide +kernel, by decide +kernel⟩
set_option maxHeartbeats 4000000 in
set_option maxRecDepth 100000 in
theorem j_X5_rowRefusal {X : fm_X} {G : fm_G} {l : Launch} {v1 : Int32} {μ : fm_I} {ν : fm_L} (C : fm_C X G l cX5_rowRefusal RX5 2 (some .int) 2 32) {F : Int32 → State → Prop} (hF : F = fun r => fm_Qi X G (r, μ, ν)) : fm_J X G 2 F (m_X5_rowRefusal v1 μ ν) μ ν 0 [(0, .ref (G.2.2.1 0)), (1, .int v1)] [] := by
  unfold m_X5_rowRefusal
  refine fm_iload_n (pc := 0) C dX5_rowRefusal_0 rfl rfl ?_
  refine fm_bind (fun r1 e1 => ?_)
  refine fm_cSi0 (pc := 1) C (t_X5_isShelf e1) ok_X5_isShelf m_ml_X5_63 dX5_rowRefusal_1 ⟨Nat.le_of_ble_eq_true rfl, Nat.le_of_ble_eq_true rfl⟩ rfl rfl (Nat.le_of_ble_eq_true rfl) ?_
  refine fm_if_ne (pc := 4) (tgt := 9) C dX5_rowRefusal_4 (by decide) (fun c1 => ?_) (fun c1 => ?_)
  · refine fm_iconst (pc := 7) (v := (nI 1)) C dX5_rowRefusal_7 (by decide) ?_
    exact fm_zret0 (pc := 8) C hF rfl rfl dX5_rowRefusal_8
  · refine fm_aload_n (pc := 9) C dX5_rowRefusal_9 rfl rfl ?_
    refine g5_shelves (pc := 10) C (by decide) dX5_rowRefusal_10 m_fl_X5_11 ?_
    refine fm_iload_n (pc := 13) C dX5_rowRefusal_13 rfl rfl ?_
    refine fm_guard (fun h2 => ?_)
    refine fm_aaldS (pc := 14) C h2 dX5_rowRefusal_14 ?_
    refine fm_bind (fun r15 e15 => ?_)
    refine fm_cVi0 (pc := 15) C (t_X2_hasBand e15) ok_X2_hasBand (fm_kcn2 (fm_k18 h2)) m_ml_X5_299 dX5_rowRefusal_15 ⟨Nat.le_of_ble_eq_true rfl, Nat.le_of_ble_eq_true rfl⟩ rfl rfl (Nat.le_of_ble_eq_true rfl) ?_
    refine fm_if_eq (pc := 18) (tgt := 23) C dX5_rowRefusal_18 (by decide) (fun c3 => ?_) (fun c3 => ?_)
    · refine fm_aload_n (pc := 23) C dX5_rowRefusal_23 rfl rfl ?_
      refine g5_shelves (pc := 24) C (by decide) dX5_rowRefusal_24 m_fl_X5_11 ?_
      refine fm_iload_n (pc := 27) C dX5_rowRefusal_27 rfl rfl ?_
      refine fm_aaldS (pc := 28) C h2 dX5_rowRefusal_28 ?_
      refine fm_bind (fun r29 e29 => ?_)
      refine fm_cVi0 (pc := 29) C (t_X2_hasRow e29) ok_X2_hasRow (fm_kcn2 (fm_k18 h2)) m_ml_X5_116 dX5_rowRefusal_29 ⟨Nat.le_of_ble_eq_true rfl, Nat.le_of_ble_eq_true rfl⟩ rfl rfl (Nat.le_of_ble_eq_true rfl) ?_
      refine fm_if_eq (pc := 32) (tgt := 39) C dX5_rowRefusal_32 (by decide) (fun c4 => ?_) (fun c4 => ?_)
      · refine fm_iconst (pc := 39) (v := (nI 3)) C dX5_rowRefusal_39 (by decide) ?_
        exact fm_zret0 (pc := 40) C hF rfl rfl dX5_rowRefusal_40
      · refine fm_iconst (pc := 35) (v := (nI 0)) C dX5_rowRefusal_35 (by decide) ?_
        refine fm_goto (pc := 36) (tgt := 40) C dX5_rowRefusal_36 (by decide) ?_
        exact fm_zret0 (pc := 40) C hF rfl rfl dX5_rowRefusal_40
    · refine fm_iconst (pc := 21) (v := (nI 2)) C dX5_rowRefusal_21 (by decide) ?_
      exact fm_zret0 (pc := 22) C hF rfl rfl dX5_rowRefusal_22
theorem t_X5_rowRefusal {l : Launch} {G : fm_G} {v1 : Int32} {μ : fm_I} {ν : fm_L} {r : Int32} (h : m_X5_rowRefusal v1 μ ν = some r) : fm_Mi l G yX5_rowRefusal cX5_rowRefusal 2 (some .int) 2 32 [.ref (G.2.2.1 0), .int v1] μ ν (r, μ, ν) := fm_Mi_of (by decide +kernel) (Nat.le_of_ble_eq_true rfl) (fun _ C => j_X5_rowRefusal C rfl r h)
theorem dX5_set_0 : decode cX5_set 0 = .ok (.aload_n 0, 1) := by decide +kernel
theorem dX5_set_1 : decode cX5_set 1 = .ok (.iload_n 1, 1) := by decide +kernel
theorem dX5_set_2 : decode cX5_set 2 = .ok (.invokevirtual 75, 3) := by decide +kernel
theorem dX5_set_5 : decode cX5_set 5 = .ok (.istore 5, 2) := by decide +kernel
theorem dX5_set_7 : decode cX5_set 7 = .ok (.iload 5, 2) := by decide +kernel
theorem dX5_set_9 : decode cX5_set 9 = .ok (.ifCond .ne 19, 3) := by decide +kernel
theorem dX5_set_12 : decode cX5_set 12 = .ok (.aload_n 0, 1) := by decide +kernel
theorem dX5_set_13 : decode cX5_set 13 = .ok (.getfield 11, 3) := by decide +kernel
theorem dX5_set_16 : decode cX5_set 16 = .ok (.iload_n 1, 1) := by decide +kernel
theorem dX5_set_17 : decode cX5_set 17 = .ok (.aaload, 1) := by decide +kernel
theorem dX5_set_18 : decode cX5_set 18 = .ok (.iload_n 2, 1) := by decide +kernel
theorem dX5_set_19 : decode cX5_set 19 = .ok (.invokevirtual 78, 3) := by decide +kernel
theorem dX5_set_22 : decode cX5_set 22 = .ok (.ifCond .ne 6, 3) := by decide +kernel
theorem dX5_set_25 : decode cX5_set 25 = .ok (.iconst 5, 1) := by decide +kernel
theorem dX5_set_26 : decode cX5_set 26 = .ok (.istore 5, 2) := by decide +kernel
theorem dX5_set_28 : decode cX5_set 28 = .ok (.iload 5, 2) := by decide +kernel
theorem dX5_set_30 : decode cX5_set 30 = .ok (.ifCond .eq 10, 3) := by decide +kernel
theorem dX5_set_33 : decode cX5_set 33 = .ok (.aload_n 0, 1) := by decide +kernel
theorem dX5_set_34 : decode cX5_set 34 = .ok (.iload 5, 2) := by decide +kernel
theorem dX5_set_36 : decode cX5_set 36 = .ok (.invokevirtual 67, 3) := by decide +kernel
theorem dX5_set_39 : decode cX5_set 39 = .ok (.ireturn, 1) := by decide +kernel
theorem dX5_set_40 : decode cX5_set 40 = .ok (.aload_n 0, 1) := by decide +kernel
theorem dX5_set_41 : decode cX5_set 41 = .ok (.getfield 11, 3) := by decide +kernel
theorem dX5_set_44 : decode cX5_set 44 = .ok (.iload_n 1, 1) := by decide +kernel
theorem dX5_set_45 : decode cX5_set 45 = .ok (.aaload, 1) := by decide +kernel
theorem dX5_set_46 : decode cX5_set 46 = .ok (.iload_n 2, 1) := by decide +kernel
theorem dX5_set_47 : decode cX5_set 47 = .ok (.lload_n 3, 1) := by decide +kernel
theorem dX5_set_48 : decode cX5_set 48 = .ok (.invokevirtual 81, 3) := by decide +kernel
theorem dX5_set_51 : decode cX5_set 51 = .ok (.iconst 1, 1) := by decide +kernel
theorem dX5_set_52 : decode cX5_set 52 = .ok (.ireturn, 1) := by decide +kernel
def m_X5_set (v1 : Int32) (v2 : Int32) (w3 : Int64) (μ : fm_I) (ν : fm_L) : Option (Int32 × fm_I × fm_L) :=
  (m_X5_rowRefusal v1 μ ν).bind (fun r2 => if r2 = 0 then fm_g (fm_in v1 8) ((m_X2_hasElement ((18 + v1.toNatClampNeg)) v2 μ ν).bind (fun r19 => if r19 = 0 then if (nI 5) = 0 then (m_X2_put ((18 + v1.toNatClampNeg)) v2 w3 μ ν).bind (fun r48 => some (((nI 1), r48.1, r48.2))) else (m_X5_refuse ((nI 5)) μ ν).bind (fun r36 => some ((r36.1, r36.2.1, r36.2.2))) else if r2 = 0 then (m_X2_put ((18 + v1.toNatClampNeg)) v2 w3 μ ν).bind (fun r48 => some (((nI 1), r48.1, r48.2))) else (m_X5_refuse r2 μ ν).bind (fun r36 => some ((r36.1, r36.2.1, r36.2.2))))) else if r2 = 0 then fm_g (fm_in v1 8) ((m_X2_put ((18 + v1.toNatClampNeg)) v2 w3 μ ν).bind (fun r48 => some (((nI 1), r48.1, r48.2)))) else (m_X5_refuse r2 μ ν).bind (fun r36 => some ((r36.1, r36.2.1, r36.2.2))))
theorem ok_X5_set : fm_okV yX5_set cX5_set 6 (some .int) 3 := ⟨m_cd_X5_set, m_im_X5_set, m_se_X5_X5_set, m_ini_X5, by decide +kernel, by decide +kernel, by decide +kernel⟩
set_option maxHeartbeats 4000000 in
set_option maxRecDepth 100000 in
theorem j_X5_set {X : fm_X} {G : fm_G} {l : Launch} {v1 : Int32} {v2 : Int32} {w3 : Int64} {μ : fm_I} {ν : fm_L} (C : fm_C X G l cX5_set RX5 6 (some .int) 4 76) {F : (Int32 × fm_I × fm_L) → State → Prop} (hF : F = fm_Qi X G) : fm_J X G 6 F (m_X5_set v1 v2 w3 μ ν) μ ν 0 [(0, .ref (G.2.2.1 0)), (1, .int v1), (2, .int v2), (3, .long w3)] [] := by
  unfold m_X5_set
  refine fm_aload_n (pc := 0) C dX5_set_0 rfl rfl ?_
  refine fm_iload_n (pc := 1) C dX5_set_1 rfl rfl ?_
  refine fm_bind (fun r2 e2 => ?_)
  refine fm_cVi0 (pc := 2) C (t_X5_rowRefusal e2) ok_X5_rowRefusal ⟨by decide, rfl⟩ m_ml_X5_75 dX5_set_2 ⟨Nat.le_of_ble_eq_true rfl, Nat.le_of_ble_eq_true rfl⟩ rfl rfl (Nat.le_of_ble_eq_true rfl) ?_
  refine fm_istore (pc := 5) C dX5_set_5 (by decide) rfl ?_
  refine fm_iload (pc := 7) C dX5_set_7 rfl ?_
  refine fm_if_ne (pc := 9) (tgt := 28) C dX5_set_9 (by decide) (fun c1 => ?_) (fun c1 => ?_)
  · refine fm_aload_n (pc := 12) C dX5_set_12 rfl rfl ?_
    refine g5_shelves (pc := 13) C (by decide) dX5_set_13 m_fl_X5_11 ?_
    refine fm_iload_n (pc := 16) C dX5_set_16 rfl rfl ?_
    refine fm_guard (fun h2 => ?_)
    refine fm_aaldS (pc := 17) C h2 dX5_set_17 ?_
    refine fm_iload_n (pc := 18) C dX5_set_18 rfl rfl ?_
    refine fm_bind (fun r19 e19 => ?_)
    refine fm_cVi0 (pc := 19) C (t_X2_hasElement e19) ok_X2_hasElement (fm_kcn2 (fm_k18 h2)) m_ml_X5_78 dX5_set_19 ⟨Nat.le_of_ble_eq_true rfl, Nat.le_of_ble_eq_true rfl⟩ rfl rfl (Nat.le_of_ble_eq_true rfl) ?_
    refine fm_if_ne (pc := 22) (tgt := 28) C dX5_set_22 (by decide) (fun c3 => ?_) (fun c3 => ?_)
    · refine fm_iconst (pc := 25) (v := (nI 5)) C dX5_set_25 (by decide) ?_
      refine fm_istore (pc := 26) C dX5_set_26 (by decide) rfl ?_
      refine fm_iload (pc := 28) C dX5_set_28 rfl ?_
      refine fm_if_eq (pc := 30) (tgt := 40) C dX5_set_30 (by decide) (fun c4 => ?_) (fun c4 => ?_)
      · refine fm_aload_n (pc := 40) C dX5_set_40 rfl rfl ?_
        refine g5_shelves (pc := 41) C (by decide) dX5_set_41 m_fl_X5_11 ?_
        refine fm_iload_n (pc := 44) C dX5_set_44 rfl rfl ?_
        refine fm_aaldS (pc := 45) C h2 dX5_set_45 ?_
        refine fm_iload_n (pc := 46) C dX5_set_46 rfl rfl ?_
        refine fm_lload_n (pc := 47) C dX5_set_47 rfl rfl ?_
        refine fm_bind (fun r48 e48 => ?_)
        refine fm_cVv (pc := 48) C (t_X2_put e48) ok_X2_put (fm_kcn2 (fm_k18 h2)) m_ml_X5_81 dX5_set_48 ⟨Nat.le_of_ble_eq_true rfl, Nat.le_of_ble_eq_true rfl⟩ rfl rfl (Nat.le_of_ble_eq_true rfl) ?_
        refine fm_iconst (pc := 51) (v := (nI 1)) C dX5_set_51 (by decide) ?_
        exact fm_zret (pc := 52) C hF rfl rfl dX5_set_52
      · refine fm_aload_n (pc := 33) C dX5_set_33 rfl rfl ?_
        refine fm_iload (pc := 34) C dX5_set_34 rfl ?_
        refine fm_bind (fun r36 e36 => ?_)
        refine fm_cVi (pc := 36) C (t_X5_refuse e36) ok_X5_refuse ⟨by decide, rfl⟩ m_ml_X5_67 dX5_set_36 ⟨Nat.le_of_ble_eq_true rfl, Nat.le_of_ble_eq_true rfl⟩ rfl rfl (Nat.le_of_ble_eq_true rfl) ?_
        exact fm_zret (pc := 39) C hF rfl rfl dX5_set_39
    · refine fm_iload (pc := 28) C dX5_set_28 rfl ?_
      refine fm_if_eq (pc := 30) (tgt := 40) C dX5_set_30 (by decide) (fun c5 => ?_) (fun c5 => ?_)
      · refine fm_aload_n (pc := 40) C dX5_set_40 rfl rfl ?_
        refine g5_shelves (pc := 41) C (by decide) dX5_set_41 m_fl_X5_11 ?_
        refine fm_iload_n (pc := 44) C dX5_set_44 rfl rfl ?_
        refine fm_aaldS (pc := 45) C h2 dX5_set_45 ?_
        refine fm_iload_n (pc := 46) C dX5_set_46 rfl rfl ?_
        refine fm_lload_n (pc := 47) C dX5_set_47 rfl rfl ?_
        refine fm_bind (fun r48 e48 => ?_)
        refine fm_cVv (pc := 48) C (t_X2_put e48) ok_X2_put (fm_kcn2 (fm_k18 h2)) m_ml_X5_81 dX5_set_48 ⟨Nat.le_of_ble_eq_true rfl, Nat.le_of_ble_eq_true rfl⟩ rfl rfl (Nat.le_of_ble_eq_true rfl) ?_
        refine fm_iconst (pc := 51) (v := (nI 1)) C dX5_set_51 (by decide) ?_
        exact fm_zret (pc := 52) C hF rfl rfl dX5_set_52
      · refine fm_aload_n (pc := 33) C dX5_set_33 rfl rfl ?_
        refine fm_iload (pc := 34) C dX5_set_34 rfl ?_
        refine fm_bind (fun r36 e36 => ?_)
        refine fm_cVi (pc := 36) C (t_X5_refuse e36) ok_X5_refuse ⟨by decide, rfl⟩ m_ml_X5_67 dX5_set_36 ⟨Nat.le_of_ble_eq_true rfl, Nat.le_of_ble_eq_true rfl⟩ rfl rfl (Nat.le_of_ble_eq_true rfl) ?_
        exact fm_zret (pc := 39) C hF rfl rfl dX5_set_39
  · refine fm_iload (pc := 28) C dX5_set_28 rfl ?_
    refine fm_if_eq (pc := 30) (tgt := 40) C dX5_set_30 (by decide) (fun c6 => ?_) (fun c6 => ?_)
    · refine fm_aload_n (pc := 40) C dX5_set_40 rfl rfl ?_
      refine g5_shelves (pc := 41) C (by decide) dX5_set_41 m_fl_X5_11 ?_
      refine fm_iload_n (pc := 44) C dX5_set_44 rfl rfl ?_
      refine fm_guard (fun h7 => ?_)
      refine fm_aaldS (pc := 45) C h7 dX5_set_45 ?_
      refine fm_iload_n (pc := 46) C dX5_set_46 rfl rfl ?_
      refine fm_lload_n (pc := 47) C dX5_set_47 rfl rfl ?_
      refine fm_bind (fun r48 e48 => ?_)
      refine fm_cVv (pc := 48) C (t_X2_put e48) ok_X2_put (fm_kcn2 (fm_k18 h7)) m_ml_X5_81 dX5_set_48 ⟨Nat.le_of_ble_eq_true rfl, Nat.le_of_ble_eq_true rfl⟩ rfl rfl (Nat.le_of_ble_eq_true rfl) ?_
      refine fm_iconst (pc := 51) (v := (nI 1)) C dX5_set_51 (by decide) ?_
      exact fm_zret (pc := 52) C hF rfl rfl dX5_set_52
    · refine fm_aload_n (pc := 33) C dX5_set_33 rfl rfl ?_
      refine fm_iload (pc := 34) C dX5_set_34 rfl ?_
      refine fm_bind (fun r36 e36 => ?_)
      refine fm_cVi (pc := 36) C (t_X5_refuse e36) ok_X5_refuse ⟨by decide, rfl⟩ m_ml_X5_67 dX5_set_36 ⟨Nat.le_of_ble_eq_true rfl, Nat.le_of_ble_eq_true rfl⟩ rfl rfl (Nat.le_of_ble_eq_true rfl) ?_
      exact fm_zret (pc := 39) C hF rfl rfl dX5_set_39
theorem t_X5_set {l : Launch} {G : fm_G} {v1 : Int32} {v2 : Int32} {w3 : Int64} {μ : fm_I} {ν : fm_L} {r : Int32 × fm_I × fm_L} (h : m_X5_set v1 v2 w3 μ ν = some r) : fm_Mi l G yX5_set cX5_set 6 (some .int) 4 76 [.ref (G.2.2.1 0), .int v1, .int v2, .long w3] μ ν r := fm_Mi_of (by decide +kernel) (Nat.le_of_ble_eq_true rfl) (fun _ C => j_X5_set C rfl r h)
theorem dX5_copyRefusal_0 : decode cX5_copyRefusal 0 = .ok (.iload_n 1, 1) := by decide +kernel
theorem dX5_copyRefusal_1 : decode cX5_copyRefusal 1 = .ok (.invokestatic 63, 3) := by decide +kernel
theorem dX5_copyRefusal_4 : decode cX5_copyRefusal 4 = .ok (.ifCond .eq 10, 3) := by decide +kernel
theorem dX5_copyRefusal_7 : decode cX5_copyRefusal 7 = .ok (.iload_n 2, 1) := by decide +kernel
theorem dX5_copyRefusal_8 : decode cX5_copyRefusal 8 = .ok (.invokestatic 63, 3) := by decide +kernel
theorem dX5_copyRefusal_11 : decode cX5_copyRefusal 11 = .ok (.ifCond .ne 5, 3) := by decide +kernel
theorem dX5_copyRefusal_14 : decode cX5_copyRefusal 14 = .ok (.iconst 1, 1) := by decide +kernel
theorem dX5_copyRefusal_15 : decode cX5_copyRefusal 15 = .ok (.ireturn, 1) := by decide +kernel
theorem dX5_copyRefusal_16 : decode cX5_copyRefusal 16 = .ok (.aload_n 0, 1) := by decide +kernel
theorem dX5_copyRefusal_17 : decode cX5_copyRefusal 17 = .ok (.getfield 11, 3) := by decide +kernel
theorem dX5_copyRefusal_20 : decode cX5_copyRefusal 20 = .ok (.iload_n 1, 1) := by decide +kernel
theorem dX5_copyRefusal_21 : decode cX5_copyRefusal 21 = .ok (.aaload, 1) := by decide +kernel
theorem dX5_copyRefusal_22 : decode cX5_copyRefusal 22 = .ok (.astore 6, 2) := by decide +kernel
theorem dX5_copyRefusal_24 : decode cX5_copyRefusal 24 = .ok (.aload_n 0, 1) := by decide +kernel
theorem dX5_copyRefusal_25 : decode cX5_copyRefusal 25 = .ok (.getfield 11, 3) := by decide +kernel
theorem dX5_copyRefusal_28 : decode cX5_copyRefusal 28 = .ok (.iload_n 2, 1) := by decide +kernel
theorem dX5_copyRefusal_29 : decode cX5_copyRefusal 29 = .ok (.aaload, 1) := by decide +kernel
theorem dX5_copyRefusal_30 : decode cX5_copyRefusal 30 = .ok (.astore 7, 2) := by decide +kernel
theorem dX5_copyRefusal_32 : decode cX5_copyRefusal 32 = .ok (.aload 6, 2) := by decide +kernel
theorem dX5_copyRefusal_34 : decode cX5_copyRefusal 34 = .ok (.invokevirtual 116, 3) := by decide +kernel
theorem dX5_copyRefusal_37 : decode cX5_copyRefusal 37 = .ok (.ifCond .eq 15, 3) := by decide +kernel
theorem dX5_copyRefusal_40 : decode cX5_copyRefusal 40 = .ok (.aload 7, 2) := by decide +kernel
theorem dX5_copyRefusal_42 : decode cX5_copyRefusal 42 = .ok (.invokevirtual 116, 3) := by decide +kernel
theorem dX5_copyRefusal_45 : decode cX5_copyRefusal 45 = .ok (.ifCond .eq 7, 3) := by decide +kernel
theorem dX5_copyRefusal_48 : decode cX5_copyRefusal 48 = .ok (.iconst 1, 1) := by decide +kernel
theorem dX5_copyRefusal_49 : decode cX5_copyRefusal 49 = .ok (.goto 4, 3) := by decide +kernel
theorem dX5_copyRefusal_52 : decode cX5_copyRefusal 52 = .ok (.iconst 0, 1) := by decide +kernel
theorem dX5_copyRefusal_53 : decode cX5_copyRefusal 53 = .ok (.istore 8, 2) := by decide +kernel
theorem dX5_copyRefusal_55 : decode cX5_copyRefusal 55 = .ok (.aload 6, 2) := by decide +kernel
theorem dX5_copyRefusal_57 : decode cX5_copyRefusal 57 = .ok (.invokevirtual 299, 3) := by decide +kernel
theorem dX5_copyRefusal_60 : decode cX5_copyRefusal 60 = .ok (.ifCond .ne 29, 3) := by decide +kernel
theorem dX5_copyRefusal_63 : decode cX5_copyRefusal 63 = .ok (.aload 7, 2) := by decide +kernel
theorem dX5_copyRefusal_65 : decode cX5_copyRefusal 65 = .ok (.invokevirtual 299, 3) := by decide +kernel
theorem dX5_copyRefusal_68 : decode cX5_copyRefusal 68 = .ok (.ifCond .ne 21, 3) := by decide +kernel
theorem dX5_copyRefusal_71 : decode cX5_copyRefusal 71 = .ok (.iload 8, 2) := by decide +kernel
theorem dX5_copyRefusal_73 : decode cX5_copyRefusal 73 = .ok (.ifCond .eq 18, 3) := by decide +kernel
theorem dX5_copyRefusal_76 : decode cX5_copyRefusal 76 = .ok (.aload 6, 2) := by decide +kernel
theorem dX5_copyRefusal_78 : decode cX5_copyRefusal 78 = .ok (.getfield 106, 3) := by decide +kernel
theorem dX5_copyRefusal_81 : decode cX5_copyRefusal 81 = .ok (.aload 7, 2) := by decide +kernel
theorem dX5_copyRefusal_83 : decode cX5_copyRefusal 83 = .ok (.getfield 106, 3) := by decide +kernel
theorem dX5_copyRefusal_86 : decode cX5_copyRefusal 86 = .ok (.if_icmp .eq 5, 3) := by decide +kernel
theorem dX5_copyRefusal_89 : decode cX5_copyRefusal 89 = .ok (.iconst 2, 1) := by decide +kernel
theorem dX5_copyRefusal_90 : decode cX5_copyRefusal 90 = .ok (.ireturn, 1) := by decide +kernel
theorem dX5_copyRefusal_91 : decode cX5_copyRefusal 91 = .ok (.iload 8, 2) := by decide +kernel
theorem dX5_copyRefusal_93 : decode cX5_copyRefusal 93 = .ok (.ifCond .ne 5, 3) := by decide +kernel
theorem dX5_copyRefusal_96 : decode cX5_copyRefusal 96 = .ok (.iconst 3, 1) := by decide +kernel
theorem dX5_copyRefusal_97 : decode cX5_copyRefusal 97 = .ok (.ireturn, 1) := by decide +kernel
theorem dX5_copyRefusal_98 : decode cX5_copyRefusal 98 = .ok (.iload 5, 2) := by decide +kernel
theorem dX5_copyRefusal_100 : decode cX5_copyRefusal 100 = .ok (.ifCond .ge 5, 3) := by decide +kernel
theorem dX5_copyRefusal_103 : decode cX5_copyRefusal 103 = .ok (.iconst 4, 1) := by decide +kernel
theorem dX5_copyRefusal_104 : decode cX5_copyRefusal 104 = .ok (.ireturn, 1) := by decide +kernel
theorem dX5_copyRefusal_105 : decode cX5_copyRefusal 105 = .ok (.aload 6, 2) := by decide +kernel
theorem dX5_copyRefusal_107 : decode cX5_copyRefusal 107 = .ok (.iload_n 3, 1) := by decide +kernel
theorem dX5_copyRefusal_108 : decode cX5_copyRefusal 108 = .ok (.iload 5, 2) := by decide +kernel
theorem dX5_copyRefusal_110 : decode cX5_copyRefusal 110 = .ok (.invokevirtual 318, 3) := by decide +kernel
theorem dX5_copyRefusal_113 : decode cX5_copyRefusal 113 = .ok (.ifCond .eq 19, 3) := by decide +kernel
theorem dX5_copyRefusal_116 : decode cX5_copyRefusal 116 = .ok (.aload 7, 2) := by decide +kernel
theorem dX5_copyRefusal_118 : decode cX5_copyRefusal 118 = .ok (.iload 4, 2) := by decide +kernel
theorem dX5_copyRefusal_120 : decode cX5_copyRefusal 120 = .ok (.iload 5, 2) := by decide +kernel
theorem dX5_copyRefusal_122 : decode cX5_copyRefusal 122 = .ok (.invokevirtual 318, 3) := by decide +kernel
theorem dX5_copyRefusal_125 : decode cX5_copyRefusal 125 = .ok (.ifCond .eq 7, 3) := by decide +kernel
theorem dX5_copyRefusal_128 : decode cX5_copyRefusal 128 = .ok (.iconst 0, 1) := by decide +kernel
theorem dX5_copyRefusal_129 : decode cX5_copyRefusal 129 = .ok (.goto 4, 3) := by decide +kernel
theorem dX5_copyRefusal_132 : decode cX5_copyRefusal 132 = .ok (.iconst 5, 1) := by decide +kernel
theorem dX5_copyRefusal_133 : decode cX5_copyRefusal 133 = .ok (.ireturn, 1) := by decide +kernel
def m_X5_copyRefusal (v1 : Int32) (v2 : Int32) (v3 : Int32) (v4 : Int32) (v5 : Int32) (μ : fm_I) (ν : fm_L) : Option (Int32) :=
  (m_X5_isShelf v1 μ ν).bind (fun r1 => if r1 = 0 then some ((nI 1)) else (m_X5_isShelf v2 μ ν).bind (fun r8 => if r8 = 0 then some ((nI 1)) else fm_g (fm_in v1 8) (fm_g (fm_in v2 8) ((m_X2_hasRow ((18 + v1.toNatClampNeg)) μ ν).bind (fun r34 => if r34 = 0 then (m_X2_hasBand ((18 + v1.toNatClampNeg)) μ ν).bind (fun r57 => if r57 = 0 then (m_X2_hasBand ((18 + v2.toNatClampNeg)) μ ν).bind (fun r65 => if r65 = 0 then if (nI 0) = 0 then if (nI 0) = 0 then some ((nI 3)) else if 0 ≤ v5 then (m_X2_hasElements ((18 + v1.toNatClampNeg)) v3 v5 μ ν).bind (fun r110 => if r110 = 0 then some ((nI 5)) else (m_X2_hasElements ((18 + v2.toNatClampNeg)) v4 v5 μ ν).bind (fun r122 => if r122 = 0 then some ((nI 5)) else some ((nI 0)))) else some ((nI 4)) else if (μ ((18 + v1.toNatClampNeg)) 0) = (μ ((18 + v2.toNatClampNeg)) 0) then if (nI 0) = 0 then some ((nI 3)) else if 0 ≤ v5 then (m_X2_hasElements ((18 + v1.toNatClampNeg)) v3 v5 μ ν).bind (fun r110 => if r110 = 0 then some ((nI 5)) else (m_X2_hasElements ((18 + v2.toNatClampNeg)) v4 v5 μ ν).bind (fun r122 => if r122 = 0 then some ((nI 5)) else some ((nI 0)))) else some ((nI 4)) else some ((nI 2)) else some ((nI 2))) else some ((nI 2))) else (m_X2_hasRow ((18 + v2.toNatClampNeg)) μ ν).bind (fun r42 => if r42 = 0 then (m_X2_hasBand ((18 + v1.toNatClampNeg)) μ ν).bind (fun r57 => if r57 = 0 then (m_X2_hasBand ((18 + v2.toNatClampNeg)) μ ν).bind (fun r65 => if r65 = 0 then if (nI 0) = 0 then if (nI 0) = 0 then some ((nI 3)) else if 0 ≤ v5 then (m_X2_hasElements ((18 + v1.toNatClampNeg)) v3 v5 μ ν).bind (fun r110 => if r110 = 0 then some ((nI 5)) else (m_X2_hasElements ((18 + v2.toNatClampNeg)) v4 v5 μ ν).bind (fun r122 => if r122 = 0 then some ((nI 5)) else some ((nI 0)))) else some ((nI 4)) else if (μ ((18 + v1.toNatClampNeg)) 0) = (μ ((18 + v2.toNatClampNeg)) 0) then if (nI 0) = 0 then some ((nI 3)) else if 0 ≤ v5 then (m_X2_hasElements ((18 + v1.toNatClampNeg)) v3 v5 μ ν).bind (fun r110 => if r110 = 0 then some ((nI 5)) else (m_X2_hasElements ((18 + v2.toNatClampNeg)) v4 v5 μ ν).bind (fun r122 => if r122 = 0 then some ((nI 5)) else some ((nI 0)))) else some ((nI 4)) else some ((nI 2)) else some ((nI 2))) else some ((nI 2))) else (m_X2_hasBand ((18 + v1.toNatClampNeg)) μ ν).bind (fun r57 => if r57 = 0 then (m_X2_hasBand ((18 + v2.toNatClampNeg)) μ ν).bind (fun r65 => if r65 = 0 then if (nI 1) = 0 then if (nI 1) = 0 then some ((nI 3)) else if 0 ≤ v5 then (m_X2_hasElements ((18 + v1.toNatClampNeg)) v3 v5 μ ν).bind (fun r110 => if r110 = 0 then some ((nI 5)) else (m_X2_hasElements ((18 + v2.toNatClampNeg)) v4 v5 μ ν).bind (fun r122 => if r122 = 0 then some ((nI 5)) else some ((nI 0)))) else some ((nI 4)) else if (μ ((18 + v1.toNatClampNeg)) 0) = (μ ((18 + v2.toNatClampNeg)) 0) then if (nI 1) = 0 then some ((nI 3)) else if 0 ≤ v5 then (m_X2_hasElements ((18 + v1.toNatClampNeg)) v3 v5 μ ν).bind (fun r110 => if r110 = 0 then some ((nI 5)) else (m_X2_hasElements ((18 + v2.toNatClampNeg)) v4 v5 μ ν).bind (fun r122 => if r122 = 0 then some ((nI 5)) else some ((nI 0)))) else some ((nI 4)) else some ((nI 2)) else some ((nI 2))) else some ((nI 2)))))))))
theorem ok_X5_copyRefusal : fm_okV yX5_copyRefusal cX5_copyRefusal 9 (some .int) 5 := ⟨m_cd_X5_copyRefusal, m_im_X5_copyRefusal, m_se_X5_X5_copyRefusal, m_ini_X5, by decide +kernel, by decide +kernel, by decide +kernel⟩
set_option maxHeartbeats 4000000 in
set_option maxRecDepth 100000 in
theorem j_X5_copyRefusal {X : fm_X} {G : fm_G} {l : Launch} {v1 : Int32} {v2 : Int32} {v3 : Int32} {v4 : Int32} {v5 : Int32} {μ : fm_I} {ν : fm_L} (C : fm_C X G l cX5_copyRefusal RX5 9 (some .int) 3 54) {F : Int32 → State → Prop} (hF : F = fun r => fm_Qi X G (r, μ, ν)) : fm_J X G 9 F (m_X5_copyRefusal v1 v2 v3 v4 v5 μ ν) μ ν 0 [(0, .ref (G.2.2.1 0)), (1, .int v1), (2, .int v2), (3, .int v3), (4, .int v4), (5, .int v5)] [] := by
  unfold m_X5_copyRefusal
  refine fm_iload_n (pc := 0) C dX5_copyRefusal_0 rfl rfl ?_
  refine fm_bind (fun r1 e1 => ?_)
  refine fm_cSi0 (pc := 1) C (t_X5_isShelf e1) ok_X5_isShelf m_ml_X5_63 dX5_copyRefusal_1 ⟨Nat.le_of_ble_eq_true rfl, Nat.le_of_ble_eq_true rfl⟩ rfl rfl (Nat.le_of_ble_eq_true rfl) ?_
  refine fm_if_eq (pc := 4) (tgt := 14) C dX5_copyRefusal_4 (by decide) (fun c1 => ?_) (fun c1 => ?_)
  · refine fm_iconst (pc := 14) (v := (nI 1)) C dX5_copyRefusal_14 (by decide) ?_
    exact fm_zret0 (pc := 15) C hF rfl rfl dX5_copyRefusal_15
  · refine fm_iload_n (pc := 7) C dX5_copyRefusal_7 rfl rfl ?_
    refine fm_bind (fun r8 e8 => ?_)
    refine fm_cSi0 (pc := 8) C (t_X5_isShelf e8) ok_X5_isShelf m_ml_X5_63 dX5_copyRefusal_8 ⟨Nat.le_of_ble_eq_true rfl, Nat.le_of_ble_eq_true rfl⟩ rfl rfl (Nat.le_of_ble_eq_true rfl) ?_
    refine fm_if_ne (pc := 11) (tgt := 16) C dX5_copyRefusal_11 (by decide) (fun c2 => ?_) (fun c2 => ?_)
    · refine fm_iconst (pc := 14) (v := (nI 1)) C dX5_copyRefusal_14 (by decide) ?_
      exact fm_zret0 (pc := 15) C hF rfl rfl dX5_copyRefusal_15
    · refine fm_aload_n (pc := 16) C dX5_copyRefusal_16 rfl rfl ?_
      refine g5_shelves (pc := 17) C (by decide) dX5_copyRefusal_17 m_fl_X5_11 ?_
      refine fm_iload_n (pc := 20) C dX5_copyRefusal_20 rfl rfl ?_
      refine fm_guard (fun h3 => ?_)
      refine fm_aaldS (pc := 21) C h3 dX5_copyRefusal_21 ?_
      refine fm_astore (pc := 22) C dX5_copyRefusal_22 (by decide) rfl ?_
      refine fm_aload_n (pc := 24) C dX5_copyRefusal_24 rfl rfl ?_
      refine g5_shelves (pc := 25) C (by decide) dX5_copyRefusal_25 m_fl_X5_11 ?_
      refine fm_iload_n (pc := 28) C dX5_copyRefusal_28 rfl rfl ?_
      refine fm_guard (fun h4 => ?_)
      refine fm_aaldS (pc := 29) C h4 dX5_copyRefusal_29 ?_
      refine fm_astore (pc := 30) C dX5_copyRefusal_30 (by decide) rfl ?_
      refine fm_aload (pc := 32) C dX5_copyRefusal_32 rfl ?_
      refine fm_bind (fun r34 e34 => ?_)
      refine fm_cVi0 (pc := 34) C (t_X2_hasRow e34) ok_X2_hasRow (fm_kcn2 (fm_k18 h3)) m_ml_X5_116 dX5_copyRefusal_34 ⟨Nat.le_of_ble_eq_true rfl, Nat.le_of_ble_eq_true rfl⟩ rfl rfl (Nat.le_of_ble_eq_true rfl) ?_
      refine fm_if_eq (pc := 37) (tgt := 52) C dX5_copyRefusal_37 (by decide) (fun c5 => ?_) (fun c5 => ?_)
      · refine fm_iconst (pc := 52) (v := (nI 0)) C dX5_copyRefusal_52 (by decide) ?_
        refine fm_istore (pc := 53) C dX5_copyRefusal_53 (by decide) rfl ?_
        refine fm_aload (pc := 55) C dX5_copyRefusal_55 rfl ?_
        refine fm_bind (fun r57 e57 => ?_)
        refine fm_cVi0 (pc := 57) C (t_X2_hasBand e57) ok_X2_hasBand (fm_kcn2 (fm_k18 h3)) m_ml_X5_299 dX5_copyRefusal_57 ⟨Nat.le_of_ble_eq_true rfl, Nat.le_of_ble_eq_true rfl⟩ rfl rfl (Nat.le_of_ble_eq_true rfl) ?_
        refine fm_if_ne (pc := 60) (tgt := 89) C dX5_copyRefusal_60 (by decide) (fun c6 => ?_) (fun c6 => ?_)
        · refine fm_aload (pc := 63) C dX5_copyRefusal_63 rfl ?_
          refine fm_bind (fun r65 e65 => ?_)
          refine fm_cVi0 (pc := 65) C (t_X2_hasBand e65) ok_X2_hasBand (fm_kcn2 (fm_k18 h4)) m_ml_X5_299 dX5_copyRefusal_65 ⟨Nat.le_of_ble_eq_true rfl, Nat.le_of_ble_eq_true rfl⟩ rfl rfl (Nat.le_of_ble_eq_true rfl) ?_
          refine fm_if_ne (pc := 68) (tgt := 89) C dX5_copyRefusal_68 (by decide) (fun c7 => ?_) (fun c7 => ?_)
          · refine fm_iload (pc := 71) C dX5_copyRefusal_71 rfl ?_
            refine fm_if_eq (pc := 73) (tgt := 91) C dX5_copyRefusal_73 (by decide) (fun c8 => ?_) (fun c8 => ?_)
            · refine fm_iload (pc := 91) C dX5_copyRefusal_91 rfl ?_
              refine fm_if_ne (pc := 93) (tgt := 98) C dX5_copyRefusal_93 (by decide) (fun c9 => ?_) (fun c9 => ?_)
              · refine fm_iconst (pc := 96) (v := (nI 3)) C dX5_copyRefusal_96 (by decide) ?_
                exact fm_zret0 (pc := 97) C hF rfl rfl dX5_copyRefusal_97
              · refine fm_iload (pc := 98) C dX5_copyRefusal_98 rfl ?_
                refine fm_if_ge (pc := 100) (tgt := 105) C dX5_copyRefusal_100 (by decide) (fun c10 => ?_) (fun c10 => ?_)
                · refine fm_aload (pc := 105) C dX5_copyRefusal_105 rfl ?_
                  refine fm_iload_n (pc := 107) C dX5_copyRefusal_107 rfl rfl ?_
                  refine fm_iload (pc := 108) C dX5_copyRefusal_108 rfl ?_
                  refine fm_bind (fun r110 e110 => ?_)
                  refine fm_cVi0 (pc := 110) C (t_X2_hasElements e110) ok_X2_hasElements (fm_kcn2 (fm_k18 h3)) m_ml_X5_318 dX5_copyRefusal_110 ⟨Nat.le_of_ble_eq_true rfl, Nat.le_of_ble_eq_true rfl⟩ rfl rfl (Nat.le_of_ble_eq_true rfl) ?_
                  refine fm_if_eq (pc := 113) (tgt := 132) C dX5_copyRefusal_113 (by decide) (fun c11 => ?_) (fun c11 => ?_)
                  · refine fm_iconst (pc := 132) (v := (nI 5)) C dX5_copyRefusal_132 (by decide) ?_
                    exact fm_zret0 (pc := 133) C hF rfl rfl dX5_copyRefusal_133
                  · refine fm_aload (pc := 116) C dX5_copyRefusal_116 rfl ?_
                    refine fm_iload (pc := 118) C dX5_copyRefusal_118 rfl ?_
                    refine fm_iload (pc := 120) C dX5_copyRefusal_120 rfl ?_
                    refine fm_bind (fun r122 e122 => ?_)
                    refine fm_cVi0 (pc := 122) C (t_X2_hasElements e122) ok_X2_hasElements (fm_kcn2 (fm_k18 h4)) m_ml_X5_318 dX5_copyRefusal_122 ⟨Nat.le_of_ble_eq_true rfl, Nat.le_of_ble_eq_true rfl⟩ rfl rfl (Nat.le_of_ble_eq_true rfl) ?_
                    refine fm_if_eq (pc := 125) (tgt := 132) C dX5_copyRefusal_125 (by decide) (fun c12 => ?_) (fun c12 => ?_)
                    · refine fm_iconst (pc := 132) (v := (nI 5)) C dX5_copyRefusal_132 (by decide) ?_
                      exact fm_zret0 (pc := 133) C hF rfl rfl dX5_copyRefusal_133
                    · refine fm_iconst (pc := 128) (v := (nI 0)) C dX5_copyRefusal_128 (by decide) ?_
                      refine fm_goto (pc := 129) (tgt := 133) C dX5_copyRefusal_129 (by decide) ?_
                      exact fm_zret0 (pc := 133) C hF rfl rfl dX5_copyRefusal_133
                · refine fm_iconst (pc := 103) (v := (nI 4)) C dX5_copyRefusal_103 (by decide) ?_
                  exact fm_zret0 (pc := 104) C hF rfl rfl dX5_copyRefusal_104
            · refine fm_aload (pc := 76) C dX5_copyRefusal_76 rfl ?_
              refine g2_held (pc := 78) C (fm_k18 h3) dX5_copyRefusal_78 m_fl_X5_106 ?_
              refine fm_aload (pc := 81) C dX5_copyRefusal_81 rfl ?_
              refine g2_held (pc := 83) C (fm_k18 h4) dX5_copyRefusal_83 m_fl_X5_106 ?_
              refine fm_icmp_eq (pc := 86) (tgt := 91) C dX5_copyRefusal_86 (by decide) (fun c13 => ?_) (fun c13 => ?_)
              · refine fm_iload (pc := 91) C dX5_copyRefusal_91 rfl ?_
                refine fm_if_ne (pc := 93) (tgt := 98) C dX5_copyRefusal_93 (by decide) (fun c14 => ?_) (fun c14 => ?_)
                · refine fm_iconst (pc := 96) (v := (nI 3)) C dX5_copyRefusal_96 (by decide) ?_
                  exact fm_zret0 (pc := 97) C hF rfl rfl dX5_copyRefusal_97
                · refine fm_iload (pc := 98) C dX5_copyRefusal_98 rfl ?_
                  refine fm_if_ge (pc := 100) (tgt := 105) C dX5_copyRefusal_100 (by decide) (fun c15 => ?_) (fun c15 => ?_)
                  · refine fm_aload (pc := 105) C dX5_copyRefusal_105 rfl ?_
                    refine fm_iload_n (pc := 107) C dX5_copyRefusal_107 rfl rfl ?_
                    refine fm_iload (pc := 108) C dX5_copyRefusal_108 rfl ?_
                    refine fm_bind (fun r110 e110 => ?_)
                    refine fm_cVi0 (pc := 110) C (t_X2_hasElements e110) ok_X2_hasElements (fm_kcn2 (fm_k18 h3)) m_ml_X5_318 dX5_copyRefusal_110 ⟨Nat.le_of_ble_eq_true rfl, Nat.le_of_ble_eq_true rfl⟩ rfl rfl (Nat.le_of_ble_eq_true rfl) ?_
                    refine fm_if_eq (pc := 113) (tgt := 132) C dX5_copyRefusal_113 (by decide) (fun c16 => ?_) (fun c16 => ?_)
                    · refine fm_iconst (pc := 132) (v := (nI 5)) C dX5_copyRefusal_132 (by decide) ?_
                      exact fm_zret0 (pc := 133) C hF rfl rfl dX5_copyRefusal_133
                    · refine fm_aload (pc := 116) C dX5_copyRefusal_116 rfl ?_
                      refine fm_iload (pc := 118) C dX5_copyRefusal_118 rfl ?_
                      refine fm_iload (pc := 120) C dX5_copyRefusal_120 rfl ?_
                      refine fm_bind (fun r122 e122 => ?_)
                      refine fm_cVi0 (pc := 122) C (t_X2_hasElements e122) ok_X2_hasElements (fm_kcn2 (fm_k18 h4)) m_ml_X5_318 dX5_copyRefusal_122 ⟨Nat.le_of_ble_eq_true rfl, Nat.le_of_ble_eq_true rfl⟩ rfl rfl (Nat.le_of_ble_eq_true rfl) ?_
                      refine fm_if_eq (pc := 125) (tgt := 132) C dX5_copyRefusal_125 (by decide) (fun c17 => ?_) (fun c17 => ?_)
                      · refine fm_iconst (pc := 132) (v := (nI 5)) C dX5_copyRefusal_132 (by decide) ?_
                        exact fm_zret0 (pc := 133) C hF rfl rfl dX5_copyRefusal_133
                      · refine fm_iconst (pc := 128) (v := (nI 0)) C dX5_copyRefusal_128 (by decide) ?_
                        refine fm_goto (pc := 129) (tgt := 133) C dX5_copyRefusal_129 (by decide) ?_
                        exact fm_zret0 (pc := 133) C hF rfl rfl dX5_copyRefusal_133
                  · refine fm_iconst (pc := 103) (v := (nI 4)) C dX5_copyRefusal_103 (by decide) ?_
                    exact fm_zret0 (pc := 104) C hF rfl rfl dX5_copyRefusal_104
              · refine fm_iconst (pc := 89) (v := (nI 2)) C dX5_copyRefusal_89 (by decide) ?_
                exact fm_zret0 (pc := 90) C hF rfl rfl dX5_copyRefusal_90
          · refine fm_iconst (pc := 89) (v := (nI 2)) C dX5_copyRefusal_89 (by decide) ?_
            exact fm_zret0 (pc := 90) C hF rfl rfl dX5_copyRefusal_90
        · refine fm_iconst (pc := 89) (v := (nI 2)) C dX5_copyRefusal_89 (by decide) ?_
          exact fm_zret0 (pc := 90) C hF rfl rfl dX5_copyRefusal_90
      · refine fm_aload (pc := 40) C dX5_copyRefusal_40 rfl ?_
        refine fm_bind (fun r42 e42 => ?_)
        refine fm_cVi0 (pc := 42) C (t_X2_hasRow e42) ok_X2_hasRow (fm_kcn2 (fm_k18 h4)) m_ml_X5_116 dX5_copyRefusal_42 ⟨Nat.le_of_ble_eq_true rfl, Nat.le_of_ble_eq_true rfl⟩ rfl rfl (Nat.le_of_ble_eq_true rfl) ?_
        refine fm_if_eq (pc := 45) (tgt := 52) C dX5_copyRefusal_45 (by decide) (fun c18 => ?_) (fun c18 => ?_)
        · refine fm_iconst (pc := 52) (v := (nI 0)) C dX5_copyRefusal_52 (by decide) ?_
          refine fm_istore (pc := 53) C dX5_copyRefusal_53 (by decide) rfl ?_
          refine fm_aload (pc := 55) C dX5_copyRefusal_55 rfl ?_
          refine fm_bind (fun r57 e57 => ?_)
          refine fm_cVi0 (pc := 57) C (t_X2_hasBand e57) ok_X2_hasBand (fm_kcn2 (fm_k18 h3)) m_ml_X5_299 dX5_copyRefusal_57 ⟨Nat.le_of_ble_eq_true rfl, Nat.le_of_ble_eq_true rfl⟩ rfl rfl (Nat.le_of_ble_eq_true rfl) ?_
          refine fm_if_ne (pc := 60) (tgt := 89) C dX5_copyRefusal_60 (by decide) (fun c19 => ?_) (fun c19 => ?_)
          · refine fm_aload (pc := 63) C dX5_copyRefusal_63 rfl ?_
            refine fm_bind (fun r65 e65 => ?_)
            refine fm_cVi0 (pc := 65) C (t_X2_hasBand e65) ok_X2_hasBand (fm_kcn2 (fm_k18 h4)) m_ml_X5_299 dX5_copyRefusal_65 ⟨Nat.le_of_ble_eq_true rfl, Nat.le_of_ble_eq_true rfl⟩ rfl rfl (Nat.le_of_ble_eq_true rfl) ?_
            refine fm_if_ne (pc := 68) (tgt := 89) C dX5_copyRefusal_68 (by decide) (fun c20 => ?_) (fun c20 => ?_)
            · refine fm_iload (pc := 71) C dX5_copyRefusal_71 rfl ?_
              refine fm_if_eq (pc := 73) (tgt := 91) C dX5_copyRefusal_73 (by decide) (fun c21 => ?_) (fun c21 => ?_)
              · refine fm_iload (pc := 91) C dX5_copyRefusal_91 rfl ?_
                refine fm_if_ne (pc := 93) (tgt := 98) C dX5_copyRefusal_93 (by decide) (fun c22 => ?_) (fun c22 => ?_)
                · refine fm_iconst (pc := 96) (v := (nI 3)) C dX5_copyRefusal_96 (by decide) ?_
                  exact fm_zret0 (pc := 97) C hF rfl rfl dX5_copyRefusal_97
                · refine fm_iload (pc := 98) C dX5_copyRefusal_98 rfl ?_
                  refine fm_if_ge (pc := 100) (tgt := 105) C dX5_copyRefusal_100 (by decide) (fun c23 => ?_) (fun c23 => ?_)
                  · refine fm_aload (pc := 105) C dX5_copyRefusal_105 rfl ?_
                    refine fm_iload_n (pc := 107) C dX5_copyRefusal_107 rfl rfl ?_
                    refine fm_iload (pc := 108) C dX5_copyRefusal_108 rfl ?_
                    refine fm_bind (fun r110 e110 => ?_)
                    refine fm_cVi0 (pc := 110) C (t_X2_hasElements e110) ok_X2_hasElements (fm_kcn2 (fm_k18 h3)) m_ml_X5_318 dX5_copyRefusal_110 ⟨Nat.le_of_ble_eq_true rfl, Nat.le_of_ble_eq_true rfl⟩ rfl rfl (Nat.le_of_ble_eq_true rfl) ?_
                    refine fm_if_eq (pc := 113) (tgt := 132) C dX5_copyRefusal_113 (by decide) (fun c24 => ?_) (fun c24 => ?_)
                    · refine fm_iconst (pc := 132) (v := (nI 5)) C dX5_copyRefusal_132 (by decide) ?_
                      exact fm_zret0 (pc := 133) C hF rfl rfl dX5_copyRefusal_133
                    · refine fm_aload (pc := 116) C dX5_copyRefusal_116 rfl ?_
                      refine fm_iload (pc := 118) C dX5_copyRefusal_118 rfl ?_
                      refine fm_iload (pc := 120) C dX5_copyRefusal_120 rfl ?_
                      refine fm_bind (fun r122 e122 => ?_)
                      refine fm_cVi0 (pc := 122) C (t_X2_hasElements e122) ok_X2_hasElements (fm_kcn2 (fm_k18 h4)) m_ml_X5_318 dX5_copyRefusal_122 ⟨Nat.le_of_ble_eq_true rfl, Nat.le_of_ble_eq_true rfl⟩ rfl rfl (Nat.le_of_ble_eq_true rfl) ?_
                      refine fm_if_eq (pc := 125) (tgt := 132) C dX5_copyRefusal_125 (by decide) (fun c25 => ?_) (fun c25 => ?_)
                      · refine fm_iconst (pc := 132) (v := (nI 5)) C dX5_copyRefusal_132 (by decide) ?_
                        exact fm_zret0 (pc := 133) C hF rfl rfl dX5_copyRefusal_133
                      · refine fm_iconst (pc := 128) (v := (nI 0)) C dX5_copyRefusal_128 (by decide) ?_
                        refine fm_goto (pc := 129) (tgt := 133) C dX5_copyRefusal_129 (by decide) ?_
                        exact fm_zret0 (pc := 133) C hF rfl rfl dX5_copyRefusal_133
                  · refine fm_iconst (pc := 103) (v := (nI 4)) C dX5_copyRefusal_103 (by decide) ?_
                    exact fm_zret0 (pc := 104) C hF rfl rfl dX5_copyRefusal_104
              · refine fm_aload (pc := 76) C dX5_copyRefusal_76 rfl ?_
                refine g2_held (pc := 78) C (fm_k18 h3) dX5_copyRefusal_78 m_fl_X5_106 ?_
                refine fm_aload (pc := 81) C dX5_copyRefusal_81 rfl ?_
                refine g2_held (pc := 83) C (fm_k18 h4) dX5_copyRefusal_83 m_fl_X5_106 ?_
                refine fm_icmp_eq (pc := 86) (tgt := 91) C dX5_copyRefusal_86 (by decide) (fun c26 => ?_) (fun c26 => ?_)
                · refine fm_iload (pc := 91) C dX5_copyRefusal_91 rfl ?_
                  refine fm_if_ne (pc := 93) (tgt := 98) C dX5_copyRefusal_93 (by decide) (fun c27 => ?_) (fun c27 => ?_)
                  · refine fm_iconst (pc := 96) (v := (nI 3)) C dX5_copyRefusal_96 (by decide) ?_
                    exact fm_zret0 (pc := 97) C hF rfl rfl dX5_copyRefusal_97
                  · refine fm_iload (pc := 98) C dX5_copyRefusal_98 rfl ?_
                    refine fm_if_ge (pc := 100) (tgt := 105) C dX5_copyRefusal_100 (by decide) (fun c28 => ?_) (fun c28 => ?_)
                    · refine fm_aload (pc := 105) C dX5_copyRefusal_105 rfl ?_
                      refine fm_iload_n (pc := 107) C dX5_copyRefusal_107 rfl rfl ?_
                      refine fm_iload (pc := 108) C dX5_copyRefusal_108 rfl ?_
                      refine fm_bind (fun r110 e110 => ?_)
                      refine fm_cVi0 (pc := 110) C (t_X2_hasElements e110) ok_X2_hasElements (fm_kcn2 (fm_k18 h3)) m_ml_X5_318 dX5_copyRefusal_110 ⟨Nat.le_of_ble_eq_true rfl, Nat.le_of_ble_eq_true rfl⟩ rfl rfl (Nat.le_of_ble_eq_true rfl) ?_
                      refine fm_if_eq (pc := 113) (tgt := 132) C dX5_copyRefusal_113 (by decide) (fun c29 => ?_) (fun c29 => ?_)
                      · refine fm_iconst (pc := 132) (v := (nI 5)) C dX5_copyRefusal_132 (by decide) ?_
                        exact fm_zret0 (pc := 133) C hF rfl rfl dX5_copyRefusal_133
                      · refine fm_aload (pc := 116) C dX5_copyRefusal_116 rfl ?_
                        refine fm_iload (pc := 118) C dX5_copyRefusal_118 rfl ?_
                        refine fm_iload (pc := 120) C dX5_copyRefusal_120 rfl ?_
                        refine fm_bind (fun r122 e122 => ?_)
                        refine fm_cVi0 (pc := 122) C (t_X2_hasElements e122) ok_X2_hasElements (fm_kcn2 (fm_k18 h4)) m_ml_X5_318 dX5_copyRefusal_122 ⟨Nat.le_of_ble_eq_true rfl, Nat.le_of_ble_eq_true rfl⟩ rfl rfl (Nat.le_of_ble_eq_true rfl) ?_
                        refine fm_if_eq (pc := 125) (tgt := 132) C dX5_copyRefusal_125 (by decide) (fun c30 => ?_) (fun c30 => ?_)
                        · refine fm_iconst (pc := 132) (v := (nI 5)) C dX5_copyRefusal_132 (by decide) ?_
                          exact fm_zret0 (pc := 133) C hF rfl rfl dX5_copyRefusal_133
                        · refine fm_iconst (pc := 128) (v := (nI 0)) C dX5_copyRefusal_128 (by decide) ?_
                          refine fm_goto (pc := 129) (tgt := 133) C dX5_copyRefusal_129 (by decide) ?_
                          exact fm_zret0 (pc := 133) C hF rfl rfl dX5_copyRefusal_133
                    · refine fm_iconst (pc := 103) (v := (nI 4)) C dX5_copyRefusal_103 (by decide) ?_
                      exact fm_zret0 (pc := 104) C hF rfl rfl dX5_copyRefusal_104
                · refine fm_iconst (pc := 89) (v := (nI 2)) C dX5_copyRefusal_89 (by decide) ?_
                  exact fm_zret0 (pc := 90) C hF rfl rfl dX5_copyRefusal_90
            · refine fm_iconst (pc := 89) (v := (nI 2)) C dX5_copyRefusal_89 (by decide) ?_
              exact fm_zret0 (pc := 90) C hF rfl rfl dX5_copyRefusal_90
          · refine fm_iconst (pc := 89) (v := (nI 2)) C dX5_copyRefusal_89 (by decide) ?_
            exact fm_zret0 (pc := 90) C hF rfl rfl dX5_copyRefusal_90
        · refine fm_iconst (pc := 48) (v := (nI 1)) C dX5_copyRefusal_48 (by decide) ?_
          refine fm_goto (pc := 49) (tgt := 53) C dX5_copyRefusal_49 (by decide) ?_
          refine fm_istore (pc := 53) C dX5_copyRefusal_53 (by decide) rfl ?_
          refine fm_aload (pc := 55) C dX5_copyRefusal_55 rfl ?_
          refine fm_bind (fun r57 e57 => ?_)
          refine fm_cVi0 (pc := 57) C (t_X2_hasBand e57) ok_X2_hasBand (fm_kcn2 (fm_k18 h3)) m_ml_X5_299 dX5_copyRefusal_57 ⟨Nat.le_of_ble_eq_true rfl, Nat.le_of_ble_eq_true rfl⟩ rfl rfl (Nat.le_of_ble_eq_true rfl) ?_
          refine fm_if_ne (pc := 60) (tgt := 89) C dX5_copyRefusal_60 (by decide) (fun c31 => ?_) (fun c31 => ?_)
          · refine fm_aload (pc := 63) C dX5_copyRefusal_63 rfl ?_
            refine fm_bind (fun r65 e65 => ?_)
            refine fm_cVi0 (pc := 65) C (t_X2_hasBand e65) ok_X2_hasBand (fm_kcn2 (fm_k18 h4)) m_ml_X5_299 dX5_copyRefusal_65 ⟨Nat.le_of_ble_eq_true rfl, Nat.le_of_ble_eq_true rfl⟩ rfl rfl (Nat.le_of_ble_eq_true rfl) ?_
            refine fm_if_ne (pc := 68) (tgt := 89) C dX5_copyRefusal_68 (by decide) (fun c32 => ?_) (fun c32 => ?_)
            · refine fm_iload (pc := 71) C dX5_copyRefusal_71 rfl ?_
              refine fm_if_eq (pc := 73) (tgt := 91) C dX5_copyRefusal_73 (by decide) (fun c33 => ?_) (fun c33 => ?_)
              · refine fm_iload (pc := 91) C dX5_copyRefusal_91 rfl ?_
                refine fm_if_ne (pc := 93) (tgt := 98) C dX5_copyRefusal_93 (by decide) (fun c34 => ?_) (fun c34 => ?_)
                · refine fm_iconst (pc := 96) (v := (nI 3)) C dX5_copyRefusal_96 (by decide) ?_
                  exact fm_zret0 (pc := 97) C hF rfl rfl dX5_copyRefusal_97
                · refine fm_iload (pc := 98) C dX5_copyRefusal_98 rfl ?_
                  refine fm_if_ge (pc := 100) (tgt := 105) C dX5_copyRefusal_100 (by decide) (fun c35 => ?_) (fun c35 => ?_)
                  · refine fm_aload (pc := 105) C dX5_copyRefusal_105 rfl ?_
                    refine fm_iload_n (pc := 107) C dX5_copyRefusal_107 rfl rfl ?_
                    refine fm_iload (pc := 108) C dX5_copyRefusal_108 rfl ?_
                    refine fm_bind (fun r110 e110 => ?_)
                    refine fm_cVi0 (pc := 110) C (t_X2_hasElements e110) ok_X2_hasElements (fm_kcn2 (fm_k18 h3)) m_ml_X5_318 dX5_copyRefusal_110 ⟨Nat.le_of_ble_eq_true rfl, Nat.le_of_ble_eq_true rfl⟩ rfl rfl (Nat.le_of_ble_eq_true rfl) ?_
                    refine fm_if_eq (pc := 113) (tgt := 132) C dX5_copyRefusal_113 (by decide) (fun c36 => ?_) (fun c36 => ?_)
                    · refine fm_iconst (pc := 132) (v := (nI 5)) C dX5_copyRefusal_132 (by decide) ?_
                      exact fm_zret0 (pc := 133) C hF rfl rfl dX5_copyRefusal_133
                    · refine fm_aload (pc := 116) C dX5_copyRefusal_116 rfl ?_
                      refine fm_iload (pc := 118) C dX5_copyRefusal_118 rfl ?_
                      refine fm_iload (pc := 120) C dX5_copyRefusal_120 rfl ?_
                      refine fm_bind (fun r122 e122 => ?_)
                      refine fm_cVi0 (pc := 122) C (t_X2_hasElements e122) ok_X2_hasElements (fm_kcn2 (fm_k18 h4)) m_ml_X5_318 dX5_copyRefusal_122 ⟨Nat.le_of_ble_eq_true rfl, Nat.le_of_ble_eq_true rfl⟩ rfl rfl (Nat.le_of_ble_eq_true rfl) ?_
                      refine fm_if_eq (pc := 125) (tgt := 132) C dX5_copyRefusal_125 (by decide) (fun c37 => ?_) (fun c37 => ?_)
                      · refine fm_iconst (pc := 132) (v := (nI 5)) C dX5_copyRefusal_132 (by decide) ?_
                        exact fm_zret0 (pc := 133) C hF rfl rfl dX5_copyRefusal_133
                      · refine fm_iconst (pc := 128) (v := (nI 0)) C dX5_copyRefusal_128 (by decide) ?_
                        refine fm_goto (pc := 129) (tgt := 133) C dX5_copyRefusal_129 (by decide) ?_
                        exact fm_zret0 (pc := 133) C hF rfl rfl dX5_copyRefusal_133
                  · refine fm_iconst (pc := 103) (v := (nI 4)) C dX5_copyRefusal_103 (by decide) ?_
                    exact fm_zret0 (pc := 104) C hF rfl rfl dX5_copyRefusal_104
              · refine fm_aload (pc := 76) C dX5_copyRefusal_76 rfl ?_
                refine g2_held (pc := 78) C (fm_k18 h3) dX5_copyRefusal_78 m_fl_X5_106 ?_
                refine fm_aload (pc := 81) C dX5_copyRefusal_81 rfl ?_
                refine g2_held (pc := 83) C (fm_k18 h4) dX5_copyRefusal_83 m_fl_X5_106 ?_
                refine fm_icmp_eq (pc := 86) (tgt := 91) C dX5_copyRefusal_86 (by decide) (fun c38 => ?_) (fun c38 => ?_)
                · refine fm_iload (pc := 91) C dX5_copyRefusal_91 rfl ?_
                  refine fm_if_ne (pc := 93) (tgt := 98) C dX5_copyRefusal_93 (by decide) (fun c39 => ?_) (fun c39 => ?_)
                  · refine fm_iconst (pc := 96) (v := (nI 3)) C dX5_copyRefusal_96 (by decide) ?_
                    exact fm_zret0 (pc := 97) C hF rfl rfl dX5_copyRefusal_97
                  · refine fm_iload (pc := 98) C dX5_copyRefusal_98 rfl ?_
                    refine fm_if_ge (pc := 100) (tgt := 105) C dX5_copyRefusal_100 (by decide) (fun c40 => ?_) (fun c40 => ?_)
                    · refine fm_aload (pc := 105) C dX5_copyRefusal_105 rfl ?_
                      refine fm_iload_n (pc := 107) C dX5_copyRefusal_107 rfl rfl ?_
                      refine fm_iload (pc := 108) C dX5_copyRefusal_108 rfl ?_
                      refine fm_bind (fun r110 e110 => ?_)
                      refine fm_cVi0 (pc := 110) C (t_X2_hasElements e110) ok_X2_hasElements (fm_kcn2 (fm_k18 h3)) m_ml_X5_318 dX5_copyRefusal_110 ⟨Nat.le_of_ble_eq_true rfl, Nat.le_of_ble_eq_true rfl⟩ rfl rfl (Nat.le_of_ble_eq_true rfl) ?_
                      refine fm_if_eq (pc := 113) (tgt := 132) C dX5_copyRefusal_113 (by decide) (fun c41 => ?_) (fun c41 => ?_)
                      · refine fm_iconst (pc := 132) (v := (nI 5)) C dX5_copyRefusal_132 (by decide) ?_
                        exact fm_zret0 (pc := 133) C hF rfl rfl dX5_copyRefusal_133
                      · refine fm_aload (pc := 116) C dX5_copyRefusal_116 rfl ?_
                        refine fm_iload (pc := 118) C dX5_copyRefusal_118 rfl ?_
                        refine fm_iload (pc := 120) C dX5_copyRefusal_120 rfl ?_
                        refine fm_bind (fun r122 e122 => ?_)
                        refine fm_cVi0 (pc := 122) C (t_X2_hasElements e122) ok_X2_hasElements (fm_kcn2 (fm_k18 h4)) m_ml_X5_318 dX5_copyRefusal_122 ⟨Nat.le_of_ble_eq_true rfl, Nat.le_of_ble_eq_true rfl⟩ rfl rfl (Nat.le_of_ble_eq_true rfl) ?_
                        refine fm_if_eq (pc := 125) (tgt := 132) C dX5_copyRefusal_125 (by decide) (fun c42 => ?_) (fun c42 => ?_)
                        · refine fm_iconst (pc := 132) (v := (nI 5)) C dX5_copyRefusal_132 (by decide) ?_
                          exact fm_zret0 (pc := 133) C hF rfl rfl dX5_copyRefusal_133
                        · refine fm_iconst (pc := 128) (v := (nI 0)) C dX5_copyRefusal_128 (by decide) ?_
                          refine fm_goto (pc := 129) (tgt := 133) C dX5_copyRefusal_129 (by decide) ?_
                          exact fm_zret0 (pc := 133) C hF rfl rfl dX5_copyRefusal_133
                    · refine fm_iconst (pc := 103) (v := (nI 4)) C dX5_copyRefusal_103 (by decide) ?_
                      exact fm_zret0 (pc := 104) C hF rfl rfl dX5_copyRefusal_104
                · refine fm_iconst (pc := 89) (v := (nI 2)) C dX5_copyRefusal_89 (by decide) ?_
                  exact fm_zret0 (pc := 90) C hF rfl rfl dX5_copyRefusal_90
            · refine fm_iconst (pc := 89) (v := (nI 2)) C dX5_copyRefusal_89 (by decide) ?_
              exact fm_zret0 (pc := 90) C hF rfl rfl dX5_copyRefusal_90
          · refine fm_iconst (pc := 89) (v := (nI 2)) C dX5_copyRefusal_89 (by decide) ?_
            exact fm_zret0 (pc := 90) C hF rfl rfl dX5_copyRefusal_90
theorem t_X5_copyRefusal {l : Launch} {G : fm_G} {v1 : Int32} {v2 : Int32} {v3 : Int32} {v4 : Int32} {v5 : Int32} {μ : fm_I} {ν : fm_L} {r : Int32} (h : m_X5_copyRefusal v1 v2 v3 v4 v5 μ ν = some r) : fm_Mi l G yX5_copyRefusal cX5_copyRefusal 9 (some .int) 3 54 [.ref (G.2.2.1 0), .int v1, .int v2, .int v3, .int v4, .int v5] μ ν (r, μ, ν) := fm_Mi_of (by decide +kernel) (Nat.le_of_ble_eq_true rfl) (fun _ C => j_X5_copyRefusal C rfl r h)
theorem dX5_copy_0 : decode cX5_copy 0 = .ok (.aload_n 0, 1) := by decide +kernel
theorem dX5_copy_1 : decode cX5_copy 1 = .ok (.iload_n 1, 1) := by decide +kernel
theorem dX5_copy_2 : decode cX5_copy 2 = .ok (.iload_n 2, 1) := by decide +kernel
theorem dX5_copy_3 : decode cX5_copy 3 = .ok (.iload_n 3, 1) := by decide +kernel
theorem dX5_copy_4 : decode cX5_copy 4 = .ok (.iload 4, 2) := by decide +kernel
theorem dX5_copy_6 : decode cX5_copy 6 = .ok (.iload 5, 2) := by decide +kernel
theorem dX5_copy_8 : decode cX5_copy 8 = .ok (.invokevirtual 85, 3) := by decide +kernel
theorem dX5_copy_11 : decode cX5_copy 11 = .ok (.istore 6, 2) := by decide +kernel
theorem dX5_copy_13 : decode cX5_copy 13 = .ok (.iload 6, 2) := by decide +kernel
theorem dX5_copy_15 : decode cX5_copy 15 = .ok (.ifCond .eq 10, 3) := by decide +kernel
theorem dX5_copy_18 : decode cX5_copy 18 = .ok (.aload_n 0, 1) := by decide +kernel
theorem dX5_copy_19 : decode cX5_copy 19 = .ok (.iload 6, 2) := by decide +kernel
theorem dX5_copy_21 : decode cX5_copy 21 = .ok (.invokevirtual 67, 3) := by decide +kernel
theorem dX5_copy_24 : decode cX5_copy 24 = .ok (.ireturn, 1) := by decide +kernel
theorem dX5_copy_25 : decode cX5_copy 25 = .ok (.aload_n 0, 1) := by decide +kernel
theorem dX5_copy_26 : decode cX5_copy 26 = .ok (.getfield 11, 3) := by decide +kernel
theorem dX5_copy_29 : decode cX5_copy 29 = .ok (.iload_n 1, 1) := by decide +kernel
theorem dX5_copy_30 : decode cX5_copy 30 = .ok (.aaload, 1) := by decide +kernel
theorem dX5_copy_31 : decode cX5_copy 31 = .ok (.getfield 89, 3) := by decide +kernel
theorem dX5_copy_34 : decode cX5_copy 34 = .ok (.iload_n 3, 1) := by decide +kernel
theorem dX5_copy_35 : decode cX5_copy 35 = .ok (.aload_n 0, 1) := by decide +kernel
theorem dX5_copy_36 : decode cX5_copy 36 = .ok (.getfield 11, 3) := by decide +kernel
theorem dX5_copy_39 : decode cX5_copy 39 = .ok (.iload_n 2, 1) := by decide +kernel
theorem dX5_copy_40 : decode cX5_copy 40 = .ok (.aaload, 1) := by decide +kernel
theorem dX5_copy_41 : decode cX5_copy 41 = .ok (.getfield 89, 3) := by decide +kernel
theorem dX5_copy_44 : decode cX5_copy 44 = .ok (.iload 4, 2) := by decide +kernel
theorem dX5_copy_46 : decode cX5_copy 46 = .ok (.iload 5, 2) := by decide +kernel
theorem dX5_copy_48 : decode cX5_copy 48 = .ok (.invokestatic 93, 3) := by decide +kernel
theorem dX5_copy_51 : decode cX5_copy 51 = .ok (.iconst 1, 1) := by decide +kernel
theorem dX5_copy_52 : decode cX5_copy 52 = .ok (.ireturn, 1) := by decide +kernel
def m_X5_copy (v1 : Int32) (v2 : Int32) (v3 : Int32) (v4 : Int32) (v5 : Int32) (μ : fm_I) (ν : fm_L) : Option (Int32 × fm_I × fm_L) :=
  (m_X5_copyRefusal v1 v2 v3 v4 v5 μ ν).bind (fun r8 => if r8 = 0 then fm_g (fm_in v1 8) (fm_g (fm_in v2 8) (fm_g (fm_cg v3 v4 v5 (fm_n (((18 + v1.toNatClampNeg) + 8))) (fm_n (((18 + v2.toNatClampNeg) + 8)))) (some (((nI 1), μ, (fm_url ν (((18 + v2.toNatClampNeg) + 8)) (va_cpy (ν (((18 + v1.toNatClampNeg) + 8))) (ν (((18 + v2.toNatClampNeg) + 8))) v3.toNatClampNeg v4.toNatClampNeg v5.toNatClampNeg))))))) else (m_X5_refuse r8 μ ν).bind (fun r21 => some ((r21.1, r21.2.1, r21.2.2))))
theorem ok_X5_copy : fm_okV yX5_copy cX5_copy 7 (some .int) 5 := ⟨m_cd_X5_copy, m_im_X5_copy, m_se_X5_X5_copy, m_ini_X5, by decide +kernel, by decide +kernel, by decide +kernel⟩
set_option maxHeartbeats 4000000 in
set_option maxRecDepth 100000 in
theorem j_X5_copy {X : fm_X} {G : fm_G} {l : Launch} {v1 : Int32} {v2 : Int32} {v3 : Int32} {v4 : Int32} {v5 : Int32} {μ : fm_I} {ν : fm_L} (C : fm_C X G l cX5_copy RX5 7 (some .int) 4 120) {F : (Int32 × fm_I × fm_L) → State → Prop} (hF : F = fm_Qi X G) : fm_J X G 7 F (m_X5_copy v1 v2 v3 v4 v5 μ ν) μ ν 0 [(0, .ref (G.2.2.1 0)), (1, .int v1), (2, .int v2), (3, .int v3), (4, .int v4), (5, .int v5)] [] := by
  unfold m_X5_copy
  refine fm_aload_n (pc := 0) C dX5_copy_0 rfl rfl ?_
  refine fm_iload_n (pc := 1) C dX5_copy_1 rfl rfl ?_
  refine fm_iload_n (pc := 2) C dX5_copy_2 rfl rfl ?_
  refine fm_iload_n (pc := 3) C dX5_copy_3 rfl rfl ?_
  refine fm_iload (pc := 4) C dX5_copy_4 rfl ?_
  refine fm_iload (pc := 6) C dX5_copy_6 rfl ?_
  refine fm_bind (fun r8 e8 => ?_)
  refine fm_cVi0 (pc := 8) C (t_X5_copyRefusal e8) ok_X5_copyRefusal ⟨by decide, rfl⟩ m_ml_X5_85 dX5_copy_8 ⟨Nat.le_of_ble_eq_true rfl, Nat.le_of_ble_eq_true rfl⟩ rfl rfl (Nat.le_of_ble_eq_true rfl) ?_
  refine fm_istore (pc := 11) C dX5_copy_11 (by decide) rfl ?_
  refine fm_iload (pc := 13) C dX5_copy_13 rfl ?_
  refine fm_if_eq (pc := 15) (tgt := 25) C dX5_copy_15 (by decide) (fun c1 => ?_) (fun c1 => ?_)
  · refine fm_aload_n (pc := 25) C dX5_copy_25 rfl rfl ?_
    refine g5_shelves (pc := 26) C (by decide) dX5_copy_26 m_fl_X5_11 ?_
    refine fm_iload_n (pc := 29) C dX5_copy_29 rfl rfl ?_
    refine fm_guard (fun h2 => ?_)
    refine fm_aaldS (pc := 30) C h2 dX5_copy_30 ?_
    refine g2_elements (pc := 31) C (fm_k18 h2) dX5_copy_31 m_fl_X5_89 ?_
    refine fm_iload_n (pc := 34) C dX5_copy_34 rfl rfl ?_
    refine fm_aload_n (pc := 35) C dX5_copy_35 rfl rfl ?_
    refine g5_shelves (pc := 36) C (by decide) dX5_copy_36 m_fl_X5_11 ?_
    refine fm_iload_n (pc := 39) C dX5_copy_39 rfl rfl ?_
    refine fm_guard (fun h3 => ?_)
    refine fm_aaldS (pc := 40) C h3 dX5_copy_40 ?_
    refine g2_elements (pc := 41) C (fm_k18 h3) dX5_copy_41 m_fl_X5_89 ?_
    refine fm_iload (pc := 44) C dX5_copy_44 rfl ?_
    refine fm_iload (pc := 46) C dX5_copy_46 rfl ?_
    refine fm_guard (fun h4 => ?_)
    refine fm_copyl (pc := 48) C (fm_kS (fm_k18 h2)) (fm_kS (fm_k18 h3)) h4 m_ml_X5_93 m_na_java_lang_System_arraycopy m_st_java_lang_System_arraycopy m_ini_J10 ⟨Nat.le_of_ble_eq_true rfl, by decide⟩ dX5_copy_48 ?_
    refine fm_iconst (pc := 51) (v := (nI 1)) C dX5_copy_51 (by decide) ?_
    exact fm_zret (pc := 52) C hF rfl rfl dX5_copy_52
  · refine fm_aload_n (pc := 18) C dX5_copy_18 rfl rfl ?_
    refine fm_iload (pc := 19) C dX5_copy_19 rfl ?_
    refine fm_bind (fun r21 e21 => ?_)
    refine fm_cVi (pc := 21) C (t_X5_refuse e21) ok_X5_refuse ⟨by decide, rfl⟩ m_ml_X5_67 dX5_copy_21 ⟨Nat.le_of_ble_eq_true rfl, Nat.le_of_ble_eq_true rfl⟩ rfl rfl (Nat.le_of_ble_eq_true rfl) ?_
    exact fm_zret (pc := 24) C hF rfl rfl dX5_copy_24
theorem t_X5_copy {l : Launch} {G : fm_G} {v1 : Int32} {v2 : Int32} {v3 : Int32} {v4 : Int32} {v5 : Int32} {μ : fm_I} {ν : fm_L} {r : Int32 × fm_I × fm_L} (h : m_X5_copy v1 v2 v3 v4 v5 μ ν = some r) : fm_Mi l G yX5_copy cX5_copy 7 (some .int) 4 120 [.ref (G.2.2.1 0), .int v1, .int v2, .int v3, .int v4, .int v5] μ ν r := fm_Mi_of (by decide +kernel) (Nat.le_of_ble_eq_true rfl) (fun _ C => j_X5_copy C rfl r h)
theorem dX5_element_0 : decode cX5_element 0 = .ok (.iload_n 1, 1) := by decide +kernel
theorem dX5_element_1 : decode cX5_element 1 = .ok (.invokestatic 63, 3) := by decide +kernel
theorem dX5_element_4 : decode cX5_element 4 = .ok (.ifCond .eq 29, 3) := by decide +kernel
theorem dX5_element_7 : decode cX5_element 7 = .ok (.aload_n 0, 1) := by decide +kernel
theorem dX5_element_8 : decode cX5_element 8 = .ok (.getfield 11, 3) := by decide +kernel
theorem dX5_element_11 : decode cX5_element 11 = .ok (.iload_n 1, 1) := by decide +kernel
theorem dX5_element_12 : decode cX5_element 12 = .ok (.aaload, 1) := by decide +kernel
theorem dX5_element_13 : decode cX5_element 13 = .ok (.iload_n 2, 1) := by decide +kernel
theorem dX5_element_14 : decode cX5_element 14 = .ok (.invokevirtual 78, 3) := by decide +kernel
theorem dX5_element_17 : decode cX5_element 17 = .ok (.ifCond .eq 16, 3) := by decide +kernel
theorem dX5_element_20 : decode cX5_element 20 = .ok (.aload_n 0, 1) := by decide +kernel
theorem dX5_element_21 : decode cX5_element 21 = .ok (.getfield 11, 3) := by decide +kernel
theorem dX5_element_24 : decode cX5_element 24 = .ok (.iload_n 1, 1) := by decide +kernel
theorem dX5_element_25 : decode cX5_element 25 = .ok (.aaload, 1) := by decide +kernel
theorem dX5_element_26 : decode cX5_element 26 = .ok (.iload_n 2, 1) := by decide +kernel
theorem dX5_element_27 : decode cX5_element 27 = .ok (.invokevirtual 99, 3) := by decide +kernel
theorem dX5_element_30 : decode cX5_element 30 = .ok (.goto 4, 3) := by decide +kernel
theorem dX5_element_33 : decode cX5_element 33 = .ok (.lconst 0, 1) := by decide +kernel
theorem dX5_element_34 : decode cX5_element 34 = .ok (.lreturn, 1) := by decide +kernel
def m_X5_element (v1 : Int32) (v2 : Int32) (μ : fm_I) (ν : fm_L) : Option (Int64) :=
  (m_X5_isShelf v1 μ ν).bind (fun r1 => if r1 = 0 then some ((lN 0)) else fm_g (fm_in v1 8) ((m_X2_hasElement ((18 + v1.toNatClampNeg)) v2 μ ν).bind (fun r14 => if r14 = 0 then some ((lN 0)) else (m_X2_elementAt ((18 + v1.toNatClampNeg)) v2 μ ν).bind (fun r27 => some r27))))
theorem ok_X5_element : fm_okV yX5_element cX5_element 3 (some .long) 2 := ⟨m_cd_X5_element, m_im_X5_element, m_se_X5_X5_element, m_ini_X5, by decide +kernel, by decide +kernel, by decide +kernel⟩
set_option maxHeartbeats 4000000 in
set_option maxRecDepth 100000 in
theorem j_X5_element {X : fm_X} {G : fm_G} {l : Launch} {v1 : Int32} {v2 : Int32} {μ : fm_I} {ν : fm_L} (C : fm_C X G l cX5_element RX5 3 (some .long) 4 74) {F : Int64 → State → Prop} (hF : F = fun r => fm_Ql X G (r, μ, ν)) : fm_J X G 3 F (m_X5_element v1 v2 μ ν) μ ν 0 [(0, .ref (G.2.2.1 0)), (1, .int v1), (2, .int v2)] [] := by
  unfold m_X5_element
  refine fm_iload_n (pc := 0) C dX5_element_0 rfl rfl ?_
  refine fm_bind (fun r1 e1 => ?_)
  refine fm_cSi0 (pc := 1) C (t_X5_isShelf e1) ok_X5_isShelf m_ml_X5_63 dX5_element_1 ⟨Nat.le_of_ble_eq_true rfl, Nat.le_of_ble_eq_true rfl⟩ rfl rfl (Nat.le_of_ble_eq_true rfl) ?_
  refine fm_if_eq (pc := 4) (tgt := 33) C dX5_element_4 (by decide) (fun c1 => ?_) (fun c1 => ?_)
  · refine fm_lconst (pc := 33) (v := lN 0) C dX5_element_33 (by decide) ?_
    exact fm_lret0 (pc := 34) C hF rfl dX5_element_34
  · refine fm_aload_n (pc := 7) C dX5_element_7 rfl rfl ?_
    refine g5_shelves (pc := 8) C (by decide) dX5_element_8 m_fl_X5_11 ?_
    refine fm_iload_n (pc := 11) C dX5_element_11 rfl rfl ?_
    refine fm_guard (fun h2 => ?_)
    refine fm_aaldS (pc := 12) C h2 dX5_element_12 ?_
    refine fm_iload_n (pc := 13) C dX5_element_13 rfl rfl ?_
    refine fm_bind (fun r14 e14 => ?_)
    refine fm_cVi0 (pc := 14) C (t_X2_hasElement e14) ok_X2_hasElement (fm_kcn2 (fm_k18 h2)) m_ml_X5_78 dX5_element_14 ⟨Nat.le_of_ble_eq_true rfl, Nat.le_of_ble_eq_true rfl⟩ rfl rfl (Nat.le_of_ble_eq_true rfl) ?_
    refine fm_if_eq (pc := 17) (tgt := 33) C dX5_element_17 (by decide) (fun c3 => ?_) (fun c3 => ?_)
    · refine fm_lconst (pc := 33) (v := lN 0) C dX5_element_33 (by decide) ?_
      exact fm_lret0 (pc := 34) C hF rfl dX5_element_34
    · refine fm_aload_n (pc := 20) C dX5_element_20 rfl rfl ?_
      refine g5_shelves (pc := 21) C (by decide) dX5_element_21 m_fl_X5_11 ?_
      refine fm_iload_n (pc := 24) C dX5_element_24 rfl rfl ?_
      refine fm_aaldS (pc := 25) C h2 dX5_element_25 ?_
      refine fm_iload_n (pc := 26) C dX5_element_26 rfl rfl ?_
      refine fm_bind (fun r27 e27 => ?_)
      refine fm_cVl0 (pc := 27) C (t_X2_elementAt e27) ok_X2_elementAt (fm_kcn2 (fm_k18 h2)) m_ml_X5_99 dX5_element_27 ⟨Nat.le_of_ble_eq_true rfl, Nat.le_of_ble_eq_true rfl⟩ rfl rfl (Nat.le_of_ble_eq_true rfl) ?_
      refine fm_goto (pc := 30) (tgt := 34) C dX5_element_30 (by decide) ?_
      exact fm_lret0 (pc := 34) C hF rfl dX5_element_34
theorem t_X5_element {l : Launch} {G : fm_G} {v1 : Int32} {v2 : Int32} {μ : fm_I} {ν : fm_L} {r : Int64} (h : m_X5_element v1 v2 μ ν = some r) : fm_Ml l G yX5_element cX5_element 3 (some .long) 4 74 [.ref (G.2.2.1 0), .int v1, .int v2] μ ν (r, μ, ν) := fm_Ml_of (by decide +kernel) (Nat.le_of_ble_eq_true rfl) (fun _ C => j_X5_element C rfl r h)
theorem dX5_isBand_0 : decode cX5_isBand 0 = .ok (.iload_n 1, 1) := by decide +kernel
theorem dX5_isBand_1 : decode cX5_isBand 1 = .ok (.ifCond .lt 15, 3) := by decide +kernel
theorem dX5_isBand_4 : decode cX5_isBand 4 = .ok (.iload_n 1, 1) := by decide +kernel
theorem dX5_isBand_5 : decode cX5_isBand 5 = .ok (.aload_n 0, 1) := by decide +kernel
theorem dX5_isBand_6 : decode cX5_isBand 6 = .ok (.getfield 153, 3) := by decide +kernel
theorem dX5_isBand_9 : decode cX5_isBand 9 = .ok (.if_icmp .ge 7, 3) := by decide +kernel
theorem dX5_isBand_12 : decode cX5_isBand 12 = .ok (.iconst 1, 1) := by decide +kernel
theorem dX5_isBand_13 : decode cX5_isBand 13 = .ok (.goto 4, 3) := by decide +kernel
theorem dX5_isBand_16 : decode cX5_isBand 16 = .ok (.iconst 0, 1) := by decide +kernel
theorem dX5_isBand_17 : decode cX5_isBand 17 = .ok (.ireturn, 1) := by decide +kernel
def m_X5_isBand (v1 : Int32) (μ : fm_I) (ν : fm_L) : Option (Int32) :=
  if v1 < 0 then some ((nI 0)) else if (μ 0 7) ≤ v1 then some ((nI 0)) else some ((nI 1))
theorem ok_X5_isBand : fm_okV yX5_isBand cX5_isBand 2 (some .boolean) 1 := ⟨m_cd_X5_isBand, m_im_X5_isBand, m_se_X5_X5_isBand, m_ini_X5, by decide +kernel, by decide +kernel, by decide +kernel⟩
set_option maxHeartbeats 4000000 in
set_option maxRecDepth 100000 in
theorem j_X5_isBand {X : fm_X} {G : fm_G} {l : Launch} {v1 : Int32} {μ : fm_I} {ν : fm_L} (C : fm_C X G l cX5_isBand RX5 2 (some .boolean) 1 12) {F : Int32 → State → Prop} (hF : F = fun r => fm_Qi X G (r, μ, ν)) : fm_J X G 2 F (m_X5_isBand v1 μ ν) μ ν 0 [(0, .ref (G.2.2.1 0)), (1, .int v1)] [] := by
  unfold m_X5_isBand
  refine fm_iload_n (pc := 0) C dX5_isBand_0 rfl rfl ?_
  refine fm_if_lt (pc := 1) (tgt := 16) C dX5_isBand_1 (by decide) (fun c1 => ?_) (fun c1 => ?_)
  · refine fm_iconst (pc := 16) (v := (nI 0)) C dX5_isBand_16 (by decide) ?_
    exact fm_zret0 (pc := 17) C hF rfl rfl dX5_isBand_17
  · refine fm_iload_n (pc := 4) C dX5_isBand_4 rfl rfl ?_
    refine fm_aload_n (pc := 5) C dX5_isBand_5 rfl rfl ?_
    refine g5_bandCount (pc := 6) C (by decide) dX5_isBand_6 m_fl_X5_153 ?_
    refine fm_icmp_ge (pc := 9) (tgt := 16) C dX5_isBand_9 (by decide) (fun c2 => ?_) (fun c2 => ?_)
    · refine fm_iconst (pc := 16) (v := (nI 0)) C dX5_isBand_16 (by decide) ?_
      exact fm_zret0 (pc := 17) C hF rfl rfl dX5_isBand_17
    · refine fm_iconst (pc := 12) (v := (nI 1)) C dX5_isBand_12 (by decide) ?_
      refine fm_goto (pc := 13) (tgt := 17) C dX5_isBand_13 (by decide) ?_
      exact fm_zret0 (pc := 17) C hF rfl rfl dX5_isBand_17
theorem t_X5_isBand {l : Launch} {G : fm_G} {v1 : Int32} {μ : fm_I} {ν : fm_L} {r : Int32} (h : m_X5_isBand v1 μ ν = some r) : fm_Mi l G yX5_isBand cX5_isBand 2 (some .boolean) 1 12 [.ref (G.2.2.1 0), .int v1] μ ν (r, μ, ν) := fm_Mi_of (by decide +kernel) (Nat.le_of_ble_eq_true rfl) (fun _ C => j_X5_isBand C rfl r h)
theorem dX5_show_0 : decode cX5_show 0 = .ok (.iload_n 1, 1) := by decide +kernel
theorem dX5_show_1 : decode cX5_show 1 = .ok (.invokestatic 63, 3) := by decide +kernel
theorem dX5_show_4 : decode cX5_show 4 = .ok (.ifCond .eq 16, 3) := by decide +kernel
theorem dX5_show_7 : decode cX5_show 7 = .ok (.iload_n 2, 1) := by decide +kernel
theorem dX5_show_8 : decode cX5_show 8 = .ok (.iconst (-1), 1) := by decide +kernel
theorem dX5_show_9 : decode cX5_show 9 = .ok (.if_icmp .eq 17, 3) := by decide +kernel
theorem dX5_show_12 : decode cX5_show 12 = .ok (.aload_n 0, 1) := by decide +kernel
theorem dX5_show_13 : decode cX5_show 13 = .ok (.iload_n 2, 1) := by decide +kernel
theorem dX5_show_14 : decode cX5_show 14 = .ok (.invokevirtual 103, 3) := by decide +kernel
theorem dX5_show_17 : decode cX5_show 17 = .ok (.ifCond .ne 9, 3) := by decide +kernel
theorem dX5_show_20 : decode cX5_show 20 = .ok (.aload_n 0, 1) := by decide +kernel
theorem dX5_show_21 : decode cX5_show 21 = .ok (.iconst 1, 1) := by decide +kernel
theorem dX5_show_22 : decode cX5_show 22 = .ok (.invokevirtual 67, 3) := by decide +kernel
theorem dX5_show_25 : decode cX5_show 25 = .ok (.ireturn, 1) := by decide +kernel
theorem dX5_show_26 : decode cX5_show 26 = .ok (.aload_n 0, 1) := by decide +kernel
theorem dX5_show_27 : decode cX5_show 27 = .ok (.getfield 11, 3) := by decide +kernel
theorem dX5_show_30 : decode cX5_show 30 = .ok (.iload_n 1, 1) := by decide +kernel
theorem dX5_show_31 : decode cX5_show 31 = .ok (.aaload, 1) := by decide +kernel
theorem dX5_show_32 : decode cX5_show 32 = .ok (.iload_n 2, 1) := by decide +kernel
theorem dX5_show_33 : decode cX5_show 33 = .ok (.putfield 106, 3) := by decide +kernel
theorem dX5_show_36 : decode cX5_show 36 = .ok (.iload_n 2, 1) := by decide +kernel
theorem dX5_show_37 : decode cX5_show 37 = .ok (.iconst (-1), 1) := by decide +kernel
theorem dX5_show_38 : decode cX5_show 38 = .ok (.if_icmp .ne 7, 3) := by decide +kernel
theorem dX5_show_41 : decode cX5_show 41 = .ok (.iconst 0, 1) := by decide +kernel
theorem dX5_show_42 : decode cX5_show 42 = .ok (.goto 4, 3) := by decide +kernel
theorem dX5_show_45 : decode cX5_show 45 = .ok (.iconst 1, 1) := by decide +kernel
theorem dX5_show_46 : decode cX5_show 46 = .ok (.ireturn, 1) := by decide +kernel
def m_X5_show (v1 : Int32) (v2 : Int32) (μ : fm_I) (ν : fm_L) : Option (Int32 × fm_I × fm_L) :=
  (m_X5_isShelf v1 μ ν).bind (fun r1 => if r1 = 0 then (m_X5_refuse ((nI 1)) μ ν).bind (fun r22 => some ((r22.1, r22.2.1, r22.2.2))) else if v2 = (-1 : Int32) then fm_g (fm_in v1 8) (if v2 = (-1 : Int32) then some (((nI 0), (fm_u μ ((18 + v1.toNatClampNeg)) 0 v2), ν)) else some (((nI 1), (fm_u μ ((18 + v1.toNatClampNeg)) 0 v2), ν))) else (m_X5_isBand v2 μ ν).bind (fun r14 => if r14 = 0 then (m_X5_refuse ((nI 1)) μ ν).bind (fun r22 => some ((r22.1, r22.2.1, r22.2.2))) else fm_g (fm_in v1 8) (if v2 = (-1 : Int32) then some (((nI 0), (fm_u μ ((18 + v1.toNatClampNeg)) 0 v2), ν)) else some (((nI 1), (fm_u μ ((18 + v1.toNatClampNeg)) 0 v2), ν)))))
theorem ok_X5_show : fm_okV yX5_show cX5_show 3 (some .int) 2 := ⟨m_cd_X5_show, m_im_X5_show, m_se_X5_X5_show, m_ini_X5, by decide +kernel, by decide +kernel, by decide +kernel⟩
set_option maxHeartbeats 4000000 in
set_option maxRecDepth 100000 in
theorem j_X5_show {X : fm_X} {G : fm_G} {l : Launch} {v1 : Int32} {v2 : Int32} {μ : fm_I} {ν : fm_L} (C : fm_C X G l cX5_show RX5 3 (some .int) 3 55) {F : (Int32 × fm_I × fm_L) → State → Prop} (hF : F = fm_Qi X G) : fm_J X G 3 F (m_X5_show v1 v2 μ ν) μ ν 0 [(0, .ref (G.2.2.1 0)), (1, .int v1), (2, .int v2)] [] := by
  unfold m_X5_show
  refine fm_iload_n (pc := 0) C dX5_show_0 rfl rfl ?_
  refine fm_bind (fun r1 e1 => ?_)
  refine fm_cSi0 (pc := 1) C (t_X5_isShelf e1) ok_X5_isShelf m_ml_X5_63 dX5_show_1 ⟨Nat.le_of_ble_eq_true rfl, Nat.le_of_ble_eq_true rfl⟩ rfl rfl (Nat.le_of_ble_eq_true rfl) ?_
  refine fm_if_eq (pc := 4) (tgt := 20) C dX5_show_4 (by decide) (fun c1 => ?_) (fun c1 => ?_)
  · refine fm_aload_n (pc := 20) C dX5_show_20 rfl rfl ?_
    refine fm_iconst (pc := 21) (v := (nI 1)) C dX5_show_21 (by decide) ?_
    refine fm_bind (fun r22 e22 => ?_)
    refine fm_cVi (pc := 22) C (t_X5_refuse e22) ok_X5_refuse ⟨by decide, rfl⟩ m_ml_X5_67 dX5_show_22 ⟨Nat.le_of_ble_eq_true rfl, Nat.le_of_ble_eq_true rfl⟩ rfl rfl (Nat.le_of_ble_eq_true rfl) ?_
    exact fm_zret (pc := 25) C hF rfl rfl dX5_show_25
  · refine fm_iload_n (pc := 7) C dX5_show_7 rfl rfl ?_
    refine fm_iconst (pc := 8) (v := (-1 : Int32)) C dX5_show_8 (by decide) ?_
    refine fm_icmp_eq (pc := 9) (tgt := 26) C dX5_show_9 (by decide) (fun c2 => ?_) (fun c2 => ?_)
    · refine fm_aload_n (pc := 26) C dX5_show_26 rfl rfl ?_
      refine g5_shelves (pc := 27) C (by decide) dX5_show_27 m_fl_X5_11 ?_
      refine fm_iload_n (pc := 30) C dX5_show_30 rfl rfl ?_
      refine fm_guard (fun h3 => ?_)
      refine fm_aaldS (pc := 31) C h3 dX5_show_31 ?_
      refine fm_iload_n (pc := 32) C dX5_show_32 rfl rfl ?_
      refine p2_held (pc := 33) C (fm_k18 h3) dX5_show_33 m_fl_X5_106 ?_
      refine fm_iload_n (pc := 36) C dX5_show_36 rfl rfl ?_
      refine fm_iconst (pc := 37) (v := (-1 : Int32)) C dX5_show_37 (by decide) ?_
      refine fm_icmp_ne (pc := 38) (tgt := 45) C dX5_show_38 (by decide) (fun c4 => ?_) (fun c4 => ?_)
      · refine fm_iconst (pc := 41) (v := (nI 0)) C dX5_show_41 (by decide) ?_
        refine fm_goto (pc := 42) (tgt := 46) C dX5_show_42 (by decide) ?_
        exact fm_zret (pc := 46) C hF rfl rfl dX5_show_46
      · refine fm_iconst (pc := 45) (v := (nI 1)) C dX5_show_45 (by decide) ?_
        exact fm_zret (pc := 46) C hF rfl rfl dX5_show_46
    · refine fm_aload_n (pc := 12) C dX5_show_12 rfl rfl ?_
      refine fm_iload_n (pc := 13) C dX5_show_13 rfl rfl ?_
      refine fm_bind (fun r14 e14 => ?_)
      refine fm_cVi0 (pc := 14) C (t_X5_isBand e14) ok_X5_isBand ⟨by decide, rfl⟩ m_ml_X5_103 dX5_show_14 ⟨Nat.le_of_ble_eq_true rfl, Nat.le_of_ble_eq_true rfl⟩ rfl rfl (Nat.le_of_ble_eq_true rfl) ?_
      refine fm_if_ne (pc := 17) (tgt := 26) C dX5_show_17 (by decide) (fun c5 => ?_) (fun c5 => ?_)
      · refine fm_aload_n (pc := 20) C dX5_show_20 rfl rfl ?_
        refine fm_iconst (pc := 21) (v := (nI 1)) C dX5_show_21 (by decide) ?_
        refine fm_bind (fun r22 e22 => ?_)
        refine fm_cVi (pc := 22) C (t_X5_refuse e22) ok_X5_refuse ⟨by decide, rfl⟩ m_ml_X5_67 dX5_show_22 ⟨Nat.le_of_ble_eq_true rfl, Nat.le_of_ble_eq_true rfl⟩ rfl rfl (Nat.le_of_ble_eq_true rfl) ?_
        exact fm_zret (pc := 25) C hF rfl rfl dX5_show_25
      · refine fm_aload_n (pc := 26) C dX5_show_26 rfl rfl ?_
        refine g5_shelves (pc := 27) C (by decide) dX5_show_27 m_fl_X5_11 ?_
        refine fm_iload_n (pc := 30) C dX5_show_30 rfl rfl ?_
        refine fm_guard (fun h6 => ?_)
        refine fm_aaldS (pc := 31) C h6 dX5_show_31 ?_
        refine fm_iload_n (pc := 32) C dX5_show_32 rfl rfl ?_
        refine p2_held (pc := 33) C (fm_k18 h6) dX5_show_33 m_fl_X5_106 ?_
        refine fm_iload_n (pc := 36) C dX5_show_36 rfl rfl ?_
        refine fm_iconst (pc := 37) (v := (-1 : Int32)) C dX5_show_37 (by decide) ?_
        refine fm_icmp_ne (pc := 38) (tgt := 45) C dX5_show_38 (by decide) (fun c7 => ?_) (fun c7 => ?_)
        · refine fm_iconst (pc := 41) (v := (nI 0)) C dX5_show_41 (by decide) ?_
          refine fm_goto (pc := 42) (tgt := 46) C dX5_show_42 (by decide) ?_
          exact fm_zret (pc := 46) C hF rfl rfl dX5_show_46
        · refine fm_iconst (pc := 45) (v := (nI 1)) C dX5_show_45 (by decide) ?_
          exact fm_zret (pc := 46) C hF rfl rfl dX5_show_46
theorem t_X5_show {l : Launch} {G : fm_G} {v1 : Int32} {v2 : Int32} {μ : fm_I} {ν : fm_L} {r : Int32 × fm_I × fm_L} (h : m_X5_show v1 v2 μ ν = some r) : fm_Mi l G yX5_show cX5_show 3 (some .int) 3 55 [.ref (G.2.2.1 0), .int v1, .int v2] μ ν r := fm_Mi_of (by decide +kernel) (Nat.le_of_ble_eq_true rfl) (fun _ C => j_X5_show C rfl r h)
theorem dX5_holds_0 : decode cX5_holds 0 = .ok (.iload_n 1, 1) := by decide +kernel
theorem dX5_holds_1 : decode cX5_holds 1 = .ok (.invokestatic 63, 3) := by decide +kernel
theorem dX5_holds_4 : decode cX5_holds 4 = .ok (.ifCond .eq 15, 3) := by decide +kernel
theorem dX5_holds_7 : decode cX5_holds 7 = .ok (.aload_n 0, 1) := by decide +kernel
theorem dX5_holds_8 : decode cX5_holds 8 = .ok (.getfield 11, 3) := by decide +kernel
theorem dX5_holds_11 : decode cX5_holds 11 = .ok (.iload_n 1, 1) := by decide +kernel
theorem dX5_holds_12 : decode cX5_holds 12 = .ok (.aaload, 1) := by decide +kernel
theorem dX5_holds_13 : decode cX5_holds 13 = .ok (.getfield 106, 3) := by decide +kernel
theorem dX5_holds_16 : decode cX5_holds 16 = .ok (.goto 4, 3) := by decide +kernel
theorem dX5_holds_19 : decode cX5_holds 19 = .ok (.iconst (-1), 1) := by decide +kernel
theorem dX5_holds_20 : decode cX5_holds 20 = .ok (.ireturn, 1) := by decide +kernel
def m_X5_holds (v1 : Int32) (μ : fm_I) (ν : fm_L) : Option (Int32) :=
  (m_X5_isShelf v1 μ ν).bind (fun r1 => if r1 = 0 then some ((-1 : Int32)) else fm_g (fm_in v1 8) (some ((μ ((18 + v1.toNatClampNeg)) 0))))
theorem ok_X5_holds : fm_okV yX5_holds cX5_holds 2 (some .int) 1 := ⟨m_cd_X5_holds, m_im_X5_holds, m_se_X5_X5_holds, m_ini_X5, by decide +kernel, by decide +kernel, by decide +kernel⟩
set_option maxHeartbeats 4000000 in
set_option maxRecDepth 100000 in
theorem j_X5_holds {X : fm_X} {G : fm_G} {l : Launch} {v1 : Int32} {μ : fm_I} {ν : fm_L} (C : fm_C X G l cX5_holds RX5 2 (some .int) 2 32) {F : Int32 → State → Prop} (hF : F = fun r => fm_Qi X G (r, μ, ν)) : fm_J X G 2 F (m_X5_holds v1 μ ν) μ ν 0 [(0, .ref (G.2.2.1 0)), (1, .int v1)] [] := by
  unfold m_X5_holds
  refine fm_iload_n (pc := 0) C dX5_holds_0 rfl rfl ?_
  refine fm_bind (fun r1 e1 => ?_)
  refine fm_cSi0 (pc := 1) C (t_X5_isShelf e1) ok_X5_isShelf m_ml_X5_63 dX5_holds_1 ⟨Nat.le_of_ble_eq_true rfl, Nat.le_of_ble_eq_true rfl⟩ rfl rfl (Nat.le_of_ble_eq_true rfl) ?_
  refine fm_if_eq (pc := 4) (tgt := 19) C dX5_holds_4 (by decide) (fun c1 => ?_) (fun c1 => ?_)
  · refine fm_iconst (pc := 19) (v := (-1 : Int32)) C dX5_holds_19 (by decide) ?_
    exact fm_zret0 (pc := 20) C hF rfl rfl dX5_holds_20
  · refine fm_aload_n (pc := 7) C dX5_holds_7 rfl rfl ?_
    refine g5_shelves (pc := 8) C (by decide) dX5_holds_8 m_fl_X5_11 ?_
    refine fm_iload_n (pc := 11) C dX5_holds_11 rfl rfl ?_
    refine fm_guard (fun h2 => ?_)
    refine fm_aaldS (pc := 12) C h2 dX5_holds_12 ?_
    refine g2_held (pc := 13) C (fm_k18 h2) dX5_holds_13 m_fl_X5_106 ?_
    refine fm_goto (pc := 16) (tgt := 20) C dX5_holds_16 (by decide) ?_
    exact fm_zret0 (pc := 20) C hF rfl rfl dX5_holds_20
theorem t_X5_holds {l : Launch} {G : fm_G} {v1 : Int32} {μ : fm_I} {ν : fm_L} {r : Int32} (h : m_X5_holds v1 μ ν = some r) : fm_Mi l G yX5_holds cX5_holds 2 (some .int) 2 32 [.ref (G.2.2.1 0), .int v1] μ ν (r, μ, ν) := fm_Mi_of (by decide +kernel) (Nat.le_of_ble_eq_true rfl) (fun _ C => j_X5_holds C rfl r h)
theorem dX5_bandAt_0 : decode cX5_bandAt 0 = .ok (.aload_n 0, 1) := by decide +kernel
theorem dX5_bandAt_1 : decode cX5_bandAt 1 = .ok (.iload_n 1, 1) := by decide +kernel
theorem dX5_bandAt_2 : decode cX5_bandAt 2 = .ok (.invokevirtual 103, 3) := by decide +kernel
theorem dX5_bandAt_5 : decode cX5_bandAt 5 = .ok (.ifCond .eq 12, 3) := by decide +kernel
theorem dX5_bandAt_8 : decode cX5_bandAt 8 = .ok (.aload_n 0, 1) := by decide +kernel
theorem dX5_bandAt_9 : decode cX5_bandAt 9 = .ok (.getfield 17, 3) := by decide +kernel
theorem dX5_bandAt_12 : decode cX5_bandAt 12 = .ok (.iload_n 1, 1) := by decide +kernel
theorem dX5_bandAt_13 : decode cX5_bandAt 13 = .ok (.aaload, 1) := by decide +kernel
theorem dX5_bandAt_14 : decode cX5_bandAt 14 = .ok (.goto 4, 3) := by decide +kernel
theorem dX5_bandAt_17 : decode cX5_bandAt 17 = .ok (.aconst_null, 1) := by decide +kernel
theorem dX5_bandAt_18 : decode cX5_bandAt 18 = .ok (.areturn, 1) := by decide +kernel
def m_X5_bandAt (v1 : Int32) (μ : fm_I) (ν : fm_L) : Option (Option Nat) :=
  (m_X5_isBand v1 μ ν).bind (fun r2 => if r2 = 0 then some ((none)) else fm_g (fm_in v1 6) (some ((some ((34 + v1.toNatClampNeg))))))
theorem ok_X5_bandAt : fm_okV yX5_bandAt cX5_bandAt 2 (some (.object "DownTheMiddle$Band")) 1 := ⟨m_cd_X5_bandAt, m_im_X5_bandAt, m_se_X5_X5_bandAt, m_ini_X5, by decide +kernel, by decide +kernel, by decide +kernel⟩
set_option maxHeartbeats 4000000 in
set_option maxRecDepth 100000 in
theorem j_X5_bandAt {X : fm_X} {G : fm_G} {l : Launch} {v1 : Int32} {μ : fm_I} {ν : fm_L} (C : fm_C X G l cX5_bandAt RX5 2 (some (.object "DownTheMiddle$Band")) 2 33) {F : (Option Nat) → State → Prop} (hF : F = fun r => fm_Qq X G (r, μ, ν)) : fm_J X G 2 F (m_X5_bandAt v1 μ ν) μ ν 0 [(0, .ref (G.2.2.1 0)), (1, .int v1)] [] := by
  unfold m_X5_bandAt
  refine fm_aload_n (pc := 0) C dX5_bandAt_0 rfl rfl ?_
  refine fm_iload_n (pc := 1) C dX5_bandAt_1 rfl rfl ?_
  refine fm_bind (fun r2 e2 => ?_)
  refine fm_cVi0 (pc := 2) C (t_X5_isBand e2) ok_X5_isBand ⟨by decide, rfl⟩ m_ml_X5_103 dX5_bandAt_2 ⟨Nat.le_of_ble_eq_true rfl, Nat.le_of_ble_eq_true rfl⟩ rfl rfl (Nat.le_of_ble_eq_true rfl) ?_
  refine fm_if_eq (pc := 5) (tgt := 17) C dX5_bandAt_5 (by decide) (fun c1 => ?_) (fun c1 => ?_)
  · refine fm_null (pc := 17) C dX5_bandAt_17 ?_
    exact fm_aret0 (x := none) (pc := 18) C hF rfl rfl dX5_bandAt_18
  · refine fm_aload_n (pc := 8) C dX5_bandAt_8 rfl rfl ?_
    refine g5_bands (pc := 9) C (by decide) dX5_bandAt_9 m_fl_X5_17 ?_
    refine fm_iload_n (pc := 12) C dX5_bandAt_12 rfl rfl ?_
    refine fm_guard (fun h2 => ?_)
    refine fm_aaldB2 (pc := 13) C h2 dX5_bandAt_13 ?_
    refine fm_goto (pc := 14) (tgt := 18) C dX5_bandAt_14 (by decide) ?_
    exact fm_aret0 (x := some ((34 + v1.toNatClampNeg))) (pc := 18) C hF rfl rfl dX5_bandAt_18
theorem t_X5_bandAt {l : Launch} {G : fm_G} {v1 : Int32} {μ : fm_I} {ν : fm_L} {r : Option Nat} (h : m_X5_bandAt v1 μ ν = some r) : fm_Mq l G yX5_bandAt cX5_bandAt 2 (some (.object "DownTheMiddle$Band")) 2 33 [.ref (G.2.2.1 0), .int v1] μ ν (r, μ, ν) := fm_Mq_of (by decide +kernel) (Nat.le_of_ble_eq_true rfl) (fun _ C => j_X5_bandAt C rfl r h)
theorem dX5_isOfKind_0 : decode cX5_isOfKind 0 = .ok (.aload_n 0, 1) := by decide +kernel
theorem dX5_isOfKind_1 : decode cX5_isOfKind 1 = .ok (.getfield 144, 3) := by decide +kernel
theorem dX5_isOfKind_4 : decode cX5_isOfKind 4 = .ok (.invokestatic 109, 3) := by decide +kernel
theorem dX5_isOfKind_7 : decode cX5_isOfKind 7 = .ok (.ifCond .eq 19, 3) := by decide +kernel
theorem dX5_isOfKind_10 : decode cX5_isOfKind 10 = .ok (.iload_n 1, 1) := by decide +kernel
theorem dX5_isOfKind_11 : decode cX5_isOfKind 11 = .ok (.getstatic 147, 3) := by decide +kernel
theorem dX5_isOfKind_14 : decode cX5_isOfKind 14 = .ok (.aload_n 0, 1) := by decide +kernel
theorem dX5_isOfKind_15 : decode cX5_isOfKind 15 = .ok (.getfield 144, 3) := by decide +kernel
theorem dX5_isOfKind_18 : decode cX5_isOfKind 18 = .ok (.iaload, 1) := by decide +kernel
theorem dX5_isOfKind_19 : decode cX5_isOfKind 19 = .ok (.if_icmp .ne 7, 3) := by decide +kernel
theorem dX5_isOfKind_22 : decode cX5_isOfKind 22 = .ok (.iconst 1, 1) := by decide +kernel
theorem dX5_isOfKind_23 : decode cX5_isOfKind 23 = .ok (.goto 4, 3) := by decide +kernel
theorem dX5_isOfKind_26 : decode cX5_isOfKind 26 = .ok (.iconst 0, 1) := by decide +kernel
theorem dX5_isOfKind_27 : decode cX5_isOfKind 27 = .ok (.istore_n 2, 1) := by decide +kernel
theorem dX5_isOfKind_28 : decode cX5_isOfKind 28 = .ok (.iload_n 1, 1) := by decide +kernel
theorem dX5_isOfKind_29 : decode cX5_isOfKind 29 = .ok (.ifCond .eq 15, 3) := by decide +kernel
theorem dX5_isOfKind_32 : decode cX5_isOfKind 32 = .ok (.iload_n 1, 1) := by decide +kernel
theorem dX5_isOfKind_33 : decode cX5_isOfKind 33 = .ok (.aload_n 0, 1) := by decide +kernel
theorem dX5_isOfKind_34 : decode cX5_isOfKind 34 = .ok (.getfield 144, 3) := by decide +kernel
theorem dX5_isOfKind_37 : decode cX5_isOfKind 37 = .ok (.if_icmp .eq 7, 3) := by decide +kernel
theorem dX5_isOfKind_40 : decode cX5_isOfKind 40 = .ok (.iload_n 2, 1) := by decide +kernel
theorem dX5_isOfKind_41 : decode cX5_isOfKind 41 = .ok (.ifCond .eq 7, 3) := by decide +kernel
theorem dX5_isOfKind_44 : decode cX5_isOfKind 44 = .ok (.iconst 1, 1) := by decide +kernel
theorem dX5_isOfKind_45 : decode cX5_isOfKind 45 = .ok (.goto 4, 3) := by decide +kernel
theorem dX5_isOfKind_48 : decode cX5_isOfKind 48 = .ok (.iconst 0, 1) := by decide +kernel
theorem dX5_isOfKind_49 : decode cX5_isOfKind 49 = .ok (.ireturn, 1) := by decide +kernel
def m_X5_isOfKind (q0 : Nat) (v1 : Int32) (μ : fm_I) (ν : fm_L) : Option (Int32) :=
  fm_g (Nat.beq (fm_k q0) 0) ((m_X5_isKind ((μ q0 2)) μ ν).bind (fun r4 => if r4 = 0 then if v1 = 0 then some ((nI 1)) else if v1 = (μ q0 2) then some ((nI 1)) else if (nI 0) = 0 then some ((nI 0)) else some ((nI 1)) else fm_g (fm_in ((μ q0 2)) 7) (if v1 = ((fm_sl 0).getD ((μ q0 2)).toNatClampNeg 0) then if v1 = 0 then some ((nI 1)) else if v1 = (μ q0 2) then some ((nI 1)) else if (nI 1) = 0 then some ((nI 0)) else some ((nI 1)) else if v1 = 0 then some ((nI 1)) else if v1 = (μ q0 2) then some ((nI 1)) else if (nI 0) = 0 then some ((nI 0)) else some ((nI 1)))))
theorem ok_X5_isOfKind : fm_okS yX5_isOfKind cX5_isOfKind 3 (some .boolean) 2 := ⟨m_cd_X5_isOfKind, m_st_X5_isOfKind, m_ini_X5, by decide +kernel, by decide +kernel, by decide +kernel⟩
set_option maxHeartbeats 4000000 in
set_option maxRecDepth 100000 in
theorem j_X5_isOfKind {X : fm_X} {G : fm_G} {l : Launch} {q0 : Nat} {v1 : Int32} {μ : fm_I} {ν : fm_L} (C : fm_C X G l cX5_isOfKind RX5 3 (some .boolean) 2 32) {F : Int32 → State → Prop} (hF : F = fun r => fm_Qi X G (r, μ, ν)) : fm_J X G 3 F (m_X5_isOfKind q0 v1 μ ν) μ ν 0 [(0, .ref (G.2.2.1 q0)), (1, .int v1)] [] := by
  unfold m_X5_isOfKind
  refine fm_guard (fun h1 => ?_)
  refine fm_aload_n (pc := 0) C dX5_isOfKind_0 rfl rfl ?_
  refine g0_kind (pc := 1) C (Nat.eq_of_beq_eq_true h1) dX5_isOfKind_1 m_fl_X5_144 ?_
  refine fm_bind (fun r4 e4 => ?_)
  refine fm_cSi0 (pc := 4) C (t_X5_isKind e4) ok_X5_isKind m_ml_X5_109 dX5_isOfKind_4 ⟨Nat.le_of_ble_eq_true rfl, Nat.le_of_ble_eq_true rfl⟩ rfl rfl (Nat.le_of_ble_eq_true rfl) ?_
  refine fm_if_eq (pc := 7) (tgt := 26) C dX5_isOfKind_7 (by decide) (fun c2 => ?_) (fun c2 => ?_)
  · refine fm_iconst (pc := 26) (v := (nI 0)) C dX5_isOfKind_26 (by decide) ?_
    refine fm_istore_n (pc := 27) C dX5_isOfKind_27 rfl (by decide) rfl ?_
    refine fm_iload_n (pc := 28) C dX5_isOfKind_28 rfl rfl ?_
    refine fm_if_eq (pc := 29) (tgt := 44) C dX5_isOfKind_29 (by decide) (fun c3 => ?_) (fun c3 => ?_)
    · refine fm_iconst (pc := 44) (v := (nI 1)) C dX5_isOfKind_44 (by decide) ?_
      refine fm_goto (pc := 45) (tgt := 49) C dX5_isOfKind_45 (by decide) ?_
      exact fm_zret0 (pc := 49) C hF rfl rfl dX5_isOfKind_49
    · refine fm_iload_n (pc := 32) C dX5_isOfKind_32 rfl rfl ?_
      refine fm_aload_n (pc := 33) C dX5_isOfKind_33 rfl rfl ?_
      refine g0_kind (pc := 34) C (Nat.eq_of_beq_eq_true h1) dX5_isOfKind_34 m_fl_X5_144 ?_
      refine fm_icmp_eq (pc := 37) (tgt := 44) C dX5_isOfKind_37 (by decide) (fun c4 => ?_) (fun c4 => ?_)
      · refine fm_iconst (pc := 44) (v := (nI 1)) C dX5_isOfKind_44 (by decide) ?_
        refine fm_goto (pc := 45) (tgt := 49) C dX5_isOfKind_45 (by decide) ?_
        exact fm_zret0 (pc := 49) C hF rfl rfl dX5_isOfKind_49
      · refine fm_iload_n (pc := 40) C dX5_isOfKind_40 rfl rfl ?_
        refine fm_if_eq (pc := 41) (tgt := 48) C dX5_isOfKind_41 (by decide) (fun c5 => ?_) (fun c5 => ?_)
        · refine fm_iconst (pc := 48) (v := (nI 0)) C dX5_isOfKind_48 (by decide) ?_
          exact fm_zret0 (pc := 49) C hF rfl rfl dX5_isOfKind_49
        · refine fm_iconst (pc := 44) (v := (nI 1)) C dX5_isOfKind_44 (by decide) ?_
          refine fm_goto (pc := 45) (tgt := 49) C dX5_isOfKind_45 (by decide) ?_
          exact fm_zret0 (pc := 49) C hF rfl rfl dX5_isOfKind_49
  · refine fm_iload_n (pc := 10) C dX5_isOfKind_10 rfl rfl ?_
    refine fm_gst (pc := 11) C 0 (by decide) m_fl_X5_147 dX5_isOfKind_11 ?_
    refine fm_aload_n (pc := 14) C dX5_isOfKind_14 rfl rfl ?_
    refine g0_kind (pc := 15) C (Nat.eq_of_beq_eq_true h1) dX5_isOfKind_15 m_fl_X5_144 ?_
    refine fm_guard (fun h6 => ?_)
    refine fm_sald (pc := 18) C (by decide) h6 dX5_isOfKind_18 ?_
    refine fm_icmp_ne (pc := 19) (tgt := 26) C dX5_isOfKind_19 (by decide) (fun c7 => ?_) (fun c7 => ?_)
    · refine fm_iconst (pc := 22) (v := (nI 1)) C dX5_isOfKind_22 (by decide) ?_
      refine fm_goto (pc := 23) (tgt := 27) C dX5_isOfKind_23 (by decide) ?_
      refine fm_istore_n (pc := 27) C dX5_isOfKind_27 rfl (by decide) rfl ?_
      refine fm_iload_n (pc := 28) C dX5_isOfKind_28 rfl rfl ?_
      refine fm_if_eq (pc := 29) (tgt := 44) C dX5_isOfKind_29 (by decide) (fun c8 => ?_) (fun c8 => ?_)
      · refine fm_iconst (pc := 44) (v := (nI 1)) C dX5_isOfKind_44 (by decide) ?_
        refine fm_goto (pc := 45) (tgt := 49) C dX5_isOfKind_45 (by decide) ?_
        exact fm_zret0 (pc := 49) C hF rfl rfl dX5_isOfKind_49
      · refine fm_iload_n (pc := 32) C dX5_isOfKind_32 rfl rfl ?_
        refine fm_aload_n (pc := 33) C dX5_isOfKind_33 rfl rfl ?_
        refine g0_kind (pc := 34) C (Nat.eq_of_beq_eq_true h1) dX5_isOfKind_34 m_fl_X5_144 ?_
        refine fm_icmp_eq (pc := 37) (tgt := 44) C dX5_isOfKind_37 (by decide) (fun c9 => ?_) (fun c9 => ?_)
        · refine fm_iconst (pc := 44) (v := (nI 1)) C dX5_isOfKind_44 (by decide) ?_
          refine fm_goto (pc := 45) (tgt := 49) C dX5_isOfKind_45 (by decide) ?_
          exact fm_zret0 (pc := 49) C hF rfl rfl dX5_isOfKind_49
        · refine fm_iload_n (pc := 40) C dX5_isOfKind_40 rfl rfl ?_
          refine fm_if_eq (pc := 41) (tgt := 48) C dX5_isOfKind_41 (by decide) (fun c10 => ?_) (fun c10 => ?_)
          · refine fm_iconst (pc := 48) (v := (nI 0)) C dX5_isOfKind_48 (by decide) ?_
            exact fm_zret0 (pc := 49) C hF rfl rfl dX5_isOfKind_49
          · refine fm_iconst (pc := 44) (v := (nI 1)) C dX5_isOfKind_44 (by decide) ?_
            refine fm_goto (pc := 45) (tgt := 49) C dX5_isOfKind_45 (by decide) ?_
            exact fm_zret0 (pc := 49) C hF rfl rfl dX5_isOfKind_49
    · refine fm_iconst (pc := 26) (v := (nI 0)) C dX5_isOfKind_26 (by decide) ?_
      refine fm_istore_n (pc := 27) C dX5_isOfKind_27 rfl (by decide) rfl ?_
      refine fm_iload_n (pc := 28) C dX5_isOfKind_28 rfl rfl ?_
      refine fm_if_eq (pc := 29) (tgt := 44) C dX5_isOfKind_29 (by decide) (fun c11 => ?_) (fun c11 => ?_)
      · refine fm_iconst (pc := 44) (v := (nI 1)) C dX5_isOfKind_44 (by decide) ?_
        refine fm_goto (pc := 45) (tgt := 49) C dX5_isOfKind_45 (by decide) ?_
        exact fm_zret0 (pc := 49) C hF rfl rfl dX5_isOfKind_49
      · refine fm_iload_n (pc := 32) C dX5_isOfKind_32 rfl rfl ?_
        refine fm_aload_n (pc := 33) C dX5_isOfKind_33 rfl rfl ?_
        refine g0_kind (pc := 34) C (Nat.eq_of_beq_eq_true h1) dX5_isOfKind_34 m_fl_X5_144 ?_
        refine fm_icmp_eq (pc := 37) (tgt := 44) C dX5_isOfKind_37 (by decide) (fun c12 => ?_) (fun c12 => ?_)
        · refine fm_iconst (pc := 44) (v := (nI 1)) C dX5_isOfKind_44 (by decide) ?_
          refine fm_goto (pc := 45) (tgt := 49) C dX5_isOfKind_45 (by decide) ?_
          exact fm_zret0 (pc := 49) C hF rfl rfl dX5_isOfKind_49
        · refine fm_iload_n (pc := 40) C dX5_isOfKind_40 rfl rfl ?_
          refine fm_if_eq (pc := 41) (tgt := 48) C dX5_isOfKind_41 (by decide) (fun c13 => ?_) (fun c13 => ?_)
          · refine fm_iconst (pc := 48) (v := (nI 0)) C dX5_isOfKind_48 (by decide) ?_
            exact fm_zret0 (pc := 49) C hF rfl rfl dX5_isOfKind_49
          · refine fm_iconst (pc := 44) (v := (nI 1)) C dX5_isOfKind_44 (by decide) ?_
            refine fm_goto (pc := 45) (tgt := 49) C dX5_isOfKind_45 (by decide) ?_
            exact fm_zret0 (pc := 49) C hF rfl rfl dX5_isOfKind_49
theorem t_X5_isOfKind {l : Launch} {G : fm_G} {q0 : Nat} {v1 : Int32} {μ : fm_I} {ν : fm_L} {r : Int32} (h : m_X5_isOfKind q0 v1 μ ν = some r) : fm_Mi l G yX5_isOfKind cX5_isOfKind 3 (some .boolean) 2 32 [.ref (G.2.2.1 q0), .int v1] μ ν (r, μ, ν) := fm_Mi_of (by decide +kernel) (Nat.le_of_ble_eq_true rfl) (fun _ C => j_X5_isOfKind C rfl r h)
theorem dX5_saying_0 : decode cX5_saying 0 = .ok (.iload_n 1, 1) := by decide +kernel
theorem dX5_saying_1 : decode cX5_saying 1 = .ok (.tableswitch 78 1 6 #[39, 45, 57, 68, 68, 73], 39) := by decide +kernel
theorem dX5_saying_40 : decode cX5_saying 40 = .ok (.aload_n 0, 1) := by decide +kernel
theorem dX5_saying_41 : decode cX5_saying 41 = .ok (.iconst 0, 1) := by decide +kernel
theorem dX5_saying_42 : decode cX5_saying 42 = .ok (.invokevirtual 128, 3) := by decide +kernel
theorem dX5_saying_45 : decode cX5_saying 45 = .ok (.ireturn, 1) := by decide +kernel
theorem dX5_saying_46 : decode cX5_saying 46 = .ok (.aload_n 0, 1) := by decide +kernel
theorem dX5_saying_47 : decode cX5_saying 47 = .ok (.getfield 131, 3) := by decide +kernel
theorem dX5_saying_50 : decode cX5_saying 50 = .ok (.aload_n 0, 1) := by decide +kernel
theorem dX5_saying_51 : decode cX5_saying 51 = .ok (.getfield 131, 3) := by decide +kernel
theorem dX5_saying_54 : decode cX5_saying 54 = .ok (.iconst 2, 1) := by decide +kernel
theorem dX5_saying_55 : decode cX5_saying 55 = .ok (.irem, 1) := by decide +kernel
theorem dX5_saying_56 : decode cX5_saying 56 = .ok (.isub, 1) := by decide +kernel
theorem dX5_saying_57 : decode cX5_saying 57 = .ok (.ireturn, 1) := by decide +kernel
theorem dX5_saying_58 : decode cX5_saying 58 = .ok (.aload_n 0, 1) := by decide +kernel
theorem dX5_saying_59 : decode cX5_saying 59 = .ok (.aload_n 0, 1) := by decide +kernel
theorem dX5_saying_60 : decode cX5_saying 60 = .ok (.getfield 131, 3) := by decide +kernel
theorem dX5_saying_63 : decode cX5_saying 63 = .ok (.iconst 1, 1) := by decide +kernel
theorem dX5_saying_64 : decode cX5_saying 64 = .ok (.isub, 1) := by decide +kernel
theorem dX5_saying_65 : decode cX5_saying 65 = .ok (.invokevirtual 128, 3) := by decide +kernel
theorem dX5_saying_68 : decode cX5_saying 68 = .ok (.ireturn, 1) := by decide +kernel
theorem dX5_saying_69 : decode cX5_saying 69 = .ok (.aload_n 0, 1) := by decide +kernel
theorem dX5_saying_70 : decode cX5_saying 70 = .ok (.invokevirtual 134, 3) := by decide +kernel
theorem dX5_saying_73 : decode cX5_saying 73 = .ok (.ireturn, 1) := by decide +kernel
theorem dX5_saying_74 : decode cX5_saying 74 = .ok (.aload_n 0, 1) := by decide +kernel
theorem dX5_saying_75 : decode cX5_saying 75 = .ok (.getfield 138, 3) := by decide +kernel
theorem dX5_saying_78 : decode cX5_saying 78 = .ok (.ireturn, 1) := by decide +kernel
theorem dX5_saying_79 : decode cX5_saying 79 = .ok (.aload_n 0, 1) := by decide +kernel
theorem dX5_saying_80 : decode cX5_saying 80 = .ok (.getfield 141, 3) := by decide +kernel
theorem dX5_saying_83 : decode cX5_saying 83 = .ok (.ireturn, 1) := by decide +kernel
def m_X5_saying (q0 : Nat) (v1 : Int32) (μ : fm_I) (ν : fm_L) : Option (Int32) :=
  fm_g (Nat.beq (fm_k q0) 0) (if v1 = (nI 1) then (m_X0_follower q0 ((nI 0)) μ ν).bind (fun r42 => some r42) else if v1 = (nI 2) then some ((((μ q0 4)) - ((((μ q0 4)) - ((μ q0 4)) / ((nI 2)) * ((nI 2)))))) else if v1 = (nI 3) then (m_X0_follower q0 ((((μ q0 4)) - ((nI 1)))) μ ν).bind (fun r65 => some r65) else if v1 = (nI 4) then (m_X0_stayingStrips q0 μ ν).bind (fun r70 => some r70) else if v1 = (nI 5) then (m_X0_stayingStrips q0 μ ν).bind (fun r70 => some r70) else if v1 = (nI 6) then some ((μ q0 6)) else some ((μ q0 3)))
theorem ok_X5_saying : fm_okS yX5_saying cX5_saying 2 (some .int) 2 := ⟨m_cd_X5_saying, m_st_X5_saying, m_ini_X5, by decide +kernel, by decide +kernel, by decide +kernel⟩
set_option maxHeartbeats 4000000 in
set_option maxRecDepth 100000 in
theorem j_X5_saying {X : fm_X} {G : fm_G} {l : Launch} {q0 : Nat} {v1 : Int32} {μ : fm_I} {ν : fm_L} (C : fm_C X G l cX5_saying RX5 2 (some .int) 5 104) {F : Int32 → State → Prop} (hF : F = fun r => fm_Qi X G (r, μ, ν)) : fm_J X G 2 F (m_X5_saying q0 v1 μ ν) μ ν 0 [(0, .ref (G.2.2.1 q0)), (1, .int v1)] [] := by
  unfold m_X5_saying
  refine fm_guard (fun h1 => ?_)
  refine fm_iload_n (pc := 0) C dX5_saying_0 rfl rfl ?_
  refine fm_ite (fun s2 => ?_) (fun s2 => ?_)
  · refine fm_tabIn (pc := 1) (tgt := 40) (off := 39) C dX5_saying_1 (by rw [s2]; decide) (by rw [s2]; decide) (by rw [s2]; decide) (by decide) ?_
    refine fm_aload_n (pc := 40) C dX5_saying_40 rfl rfl ?_
    refine fm_iconst (pc := 41) (v := (nI 0)) C dX5_saying_41 (by decide) ?_
    refine fm_bind (fun r42 e42 => ?_)
    refine fm_cVi0 (pc := 42) C (t_X0_follower e42) ok_X0_follower (fm_kcn0 (Nat.eq_of_beq_eq_true h1)) m_ml_X5_128 dX5_saying_42 ⟨Nat.le_of_ble_eq_true rfl, Nat.le_of_ble_eq_true rfl⟩ rfl rfl (Nat.le_of_ble_eq_true rfl) ?_
    exact fm_zret0 (pc := 45) C hF rfl rfl dX5_saying_45
  · refine fm_ite (fun s3 => ?_) (fun s3 => ?_)
    · refine fm_tabIn (pc := 1) (tgt := 46) (off := 45) C dX5_saying_1 (by rw [s3]; decide) (by rw [s3]; decide) (by rw [s3]; decide) (by decide) ?_
      refine fm_aload_n (pc := 46) C dX5_saying_46 rfl rfl ?_
      refine g0_strips (pc := 47) C (Nat.eq_of_beq_eq_true h1) dX5_saying_47 m_fl_X5_131 ?_
      refine fm_aload_n (pc := 50) C dX5_saying_50 rfl rfl ?_
      refine g0_strips (pc := 51) C (Nat.eq_of_beq_eq_true h1) dX5_saying_51 m_fl_X5_131 ?_
      refine fm_iconst (pc := 54) (v := (nI 2)) C dX5_saying_54 (by decide) ?_
      refine fm_irem (pc := 55) C dX5_saying_55 (by decide) ?_
      refine fm_isub (pc := 56) C dX5_saying_56 ?_
      exact fm_zret0 (pc := 57) C hF rfl rfl dX5_saying_57
    · refine fm_ite (fun s4 => ?_) (fun s4 => ?_)
      · refine fm_tabIn (pc := 1) (tgt := 58) (off := 57) C dX5_saying_1 (by rw [s4]; decide) (by rw [s4]; decide) (by rw [s4]; decide) (by decide) ?_
        refine fm_aload_n (pc := 58) C dX5_saying_58 rfl rfl ?_
        refine fm_aload_n (pc := 59) C dX5_saying_59 rfl rfl ?_
        refine g0_strips (pc := 60) C (Nat.eq_of_beq_eq_true h1) dX5_saying_60 m_fl_X5_131 ?_
        refine fm_iconst (pc := 63) (v := (nI 1)) C dX5_saying_63 (by decide) ?_
        refine fm_isub (pc := 64) C dX5_saying_64 ?_
        refine fm_bind (fun r65 e65 => ?_)
        refine fm_cVi0 (pc := 65) C (t_X0_follower e65) ok_X0_follower (fm_kcn0 (Nat.eq_of_beq_eq_true h1)) m_ml_X5_128 dX5_saying_65 ⟨Nat.le_of_ble_eq_true rfl, Nat.le_of_ble_eq_true rfl⟩ rfl rfl (Nat.le_of_ble_eq_true rfl) ?_
        exact fm_zret0 (pc := 68) C hF rfl rfl dX5_saying_68
      · refine fm_ite (fun s5 => ?_) (fun s5 => ?_)
        · refine fm_tabIn (pc := 1) (tgt := 69) (off := 68) C dX5_saying_1 (by rw [s5]; decide) (by rw [s5]; decide) (by rw [s5]; decide) (by decide) ?_
          refine fm_aload_n (pc := 69) C dX5_saying_69 rfl rfl ?_
          refine fm_bind (fun r70 e70 => ?_)
          refine fm_cVi0 (pc := 70) C (t_X0_stayingStrips e70) ok_X0_stayingStrips (fm_kcn0 (Nat.eq_of_beq_eq_true h1)) m_ml_X5_134 dX5_saying_70 ⟨Nat.le_of_ble_eq_true rfl, Nat.le_of_ble_eq_true rfl⟩ rfl rfl (Nat.le_of_ble_eq_true rfl) ?_
          exact fm_zret0 (pc := 73) C hF rfl rfl dX5_saying_73
        · refine fm_ite (fun s6 => ?_) (fun s6 => ?_)
          · refine fm_tabIn (pc := 1) (tgt := 69) (off := 68) C dX5_saying_1 (by rw [s6]; decide) (by rw [s6]; decide) (by rw [s6]; decide) (by decide) ?_
            refine fm_aload_n (pc := 69) C dX5_saying_69 rfl rfl ?_
            refine fm_bind (fun r70 e70 => ?_)
            refine fm_cVi0 (pc := 70) C (t_X0_stayingStrips e70) ok_X0_stayingStrips (fm_kcn0 (Nat.eq_of_beq_eq_true h1)) m_ml_X5_134 dX5_saying_70 ⟨Nat.le_of_ble_eq_true rfl, Nat.le_of_ble_eq_true rfl⟩ rfl rfl (Nat.le_of_ble_eq_true rfl) ?_
            exact fm_zret0 (pc := 73) C hF rfl rfl dX5_saying_73
          · refine fm_ite (fun s7 => ?_) (fun s7 => ?_)
            · refine fm_tabIn (pc := 1) (tgt := 74) (off := 73) C dX5_saying_1 (by rw [s7]; decide) (by rw [s7]; decide) (by rw [s7]; decide) (by decide) ?_
              refine fm_aload_n (pc := 74) C dX5_saying_74 rfl rfl ?_
              refine g0_a (pc := 75) C (Nat.eq_of_beq_eq_true h1) dX5_saying_75 m_fl_X5_138 ?_
              exact fm_zret0 (pc := 78) C hF rfl rfl dX5_saying_78
            · refine fm_tabOut (pc := 1) (tgt := 79) C dX5_saying_1 (by have a0 := fm_ne (nI 1) (k := 1) (by decide) s2; have a1 := fm_ne (nI 2) (k := 2) (by decide) s3; have a2 := fm_ne (nI 3) (k := 3) (by decide) s4; have a3 := fm_ne (nI 4) (k := 4) (by decide) s5; have a4 := fm_ne (nI 5) (k := 5) (by decide) s6; have a5 := fm_ne (nI 6) (k := 6) (by decide) s7; omega) (by decide) ?_
              refine fm_aload_n (pc := 79) C dX5_saying_79 rfl rfl ?_
              refine g0_twists (pc := 80) C (Nat.eq_of_beq_eq_true h1) dX5_saying_80 m_fl_X5_141 ?_
              exact fm_zret0 (pc := 83) C hF rfl rfl dX5_saying_83
theorem t_X5_saying {l : Launch} {G : fm_G} {q0 : Nat} {v1 : Int32} {μ : fm_I} {ν : fm_L} {r : Int32} (h : m_X5_saying q0 v1 μ ν = some r) : fm_Mi l G yX5_saying cX5_saying 2 (some .int) 5 104 [.ref (G.2.2.1 q0), .int v1] μ ν (r, μ, ν) := fm_Mi_of (by decide +kernel) (Nat.le_of_ble_eq_true rfl) (fun _ C => j_X5_saying C rfl r h)
theorem dX5_says_0 : decode cX5_says 0 = .ok (.iload_n 1, 1) := by decide +kernel
theorem dX5_says_1 : decode cX5_says 1 = .ok (.invokestatic 63, 3) := by decide +kernel
theorem dX5_says_4 : decode cX5_says 4 = .ok (.ifCond .eq 10, 3) := by decide +kernel
theorem dX5_says_7 : decode cX5_says 7 = .ok (.iload_n 2, 1) := by decide +kernel
theorem dX5_says_8 : decode cX5_says 8 = .ok (.invokestatic 109, 3) := by decide +kernel
theorem dX5_says_11 : decode cX5_says 11 = .ok (.ifCond .ne 9, 3) := by decide +kernel
theorem dX5_says_14 : decode cX5_says 14 = .ok (.aload_n 0, 1) := by decide +kernel
theorem dX5_says_15 : decode cX5_says 15 = .ok (.iconst 1, 1) := by decide +kernel
theorem dX5_says_16 : decode cX5_says 16 = .ok (.invokevirtual 67, 3) := by decide +kernel
theorem dX5_says_19 : decode cX5_says 19 = .ok (.ireturn, 1) := by decide +kernel
theorem dX5_says_20 : decode cX5_says 20 = .ok (.aload_n 0, 1) := by decide +kernel
theorem dX5_says_21 : decode cX5_says 21 = .ok (.aload_n 0, 1) := by decide +kernel
theorem dX5_says_22 : decode cX5_says 22 = .ok (.getfield 11, 3) := by decide +kernel
theorem dX5_says_25 : decode cX5_says 25 = .ok (.iload_n 1, 1) := by decide +kernel
theorem dX5_says_26 : decode cX5_says 26 = .ok (.aaload, 1) := by decide +kernel
theorem dX5_says_27 : decode cX5_says 27 = .ok (.getfield 106, 3) := by decide +kernel
theorem dX5_says_30 : decode cX5_says 30 = .ok (.invokevirtual 112, 3) := by decide +kernel
theorem dX5_says_33 : decode cX5_says 33 = .ok (.astore_n 3, 1) := by decide +kernel
theorem dX5_says_34 : decode cX5_says 34 = .ok (.aload_n 0, 1) := by decide +kernel
theorem dX5_says_35 : decode cX5_says 35 = .ok (.getfield 11, 3) := by decide +kernel
theorem dX5_says_38 : decode cX5_says 38 = .ok (.iload_n 1, 1) := by decide +kernel
theorem dX5_says_39 : decode cX5_says 39 = .ok (.aaload, 1) := by decide +kernel
theorem dX5_says_40 : decode cX5_says 40 = .ok (.invokevirtual 116, 3) := by decide +kernel
theorem dX5_says_43 : decode cX5_says 43 = .ok (.ifCond .ne 15, 3) := by decide +kernel
theorem dX5_says_46 : decode cX5_says 46 = .ok (.aload_n 3, 1) := by decide +kernel
theorem dX5_says_47 : decode cX5_says 47 = .ok (.ifnull 17, 3) := by decide +kernel
theorem dX5_says_50 : decode cX5_says 50 = .ok (.aload_n 3, 1) := by decide +kernel
theorem dX5_says_51 : decode cX5_says 51 = .ok (.iload_n 2, 1) := by decide +kernel
theorem dX5_says_52 : decode cX5_says 52 = .ok (.invokestatic 120, 3) := by decide +kernel
theorem dX5_says_55 : decode cX5_says 55 = .ok (.ifCond .ne 9, 3) := by decide +kernel
theorem dX5_says_58 : decode cX5_says 58 = .ok (.aload_n 0, 1) := by decide +kernel
theorem dX5_says_59 : decode cX5_says 59 = .ok (.iconst 2, 1) := by decide +kernel
theorem dX5_says_60 : decode cX5_says 60 = .ok (.invokevirtual 67, 3) := by decide +kernel
theorem dX5_says_63 : decode cX5_says 63 = .ok (.ireturn, 1) := by decide +kernel
theorem dX5_says_64 : decode cX5_says 64 = .ok (.aload_n 3, 1) := by decide +kernel
theorem dX5_says_65 : decode cX5_says 65 = .ok (.ifnonnull 9, 3) := by decide +kernel
theorem dX5_says_68 : decode cX5_says 68 = .ok (.aload_n 0, 1) := by decide +kernel
theorem dX5_says_69 : decode cX5_says 69 = .ok (.iconst 3, 1) := by decide +kernel
theorem dX5_says_70 : decode cX5_says 70 = .ok (.invokevirtual 67, 3) := by decide +kernel
theorem dX5_says_73 : decode cX5_says 73 = .ok (.ireturn, 1) := by decide +kernel
theorem dX5_says_74 : decode cX5_says 74 = .ok (.aload_n 3, 1) := by decide +kernel
theorem dX5_says_75 : decode cX5_says 75 = .ok (.iload_n 2, 1) := by decide +kernel
theorem dX5_says_76 : decode cX5_says 76 = .ok (.invokestatic 124, 3) := by decide +kernel
theorem dX5_says_79 : decode cX5_says 79 = .ok (.ireturn, 1) := by decide +kernel
def m_X5_says (v1 : Int32) (v2 : Int32) (μ : fm_I) (ν : fm_L) : Option (Int32 × fm_I × fm_L) :=
  (m_X5_isShelf v1 μ ν).bind (fun r1 => if r1 = 0 then (m_X5_refuse ((nI 1)) μ ν).bind (fun r16 => some ((r16.1, r16.2.1, r16.2.2))) else (m_X5_isKind v2 μ ν).bind (fun r8 => if r8 = 0 then (m_X5_refuse ((nI 1)) μ ν).bind (fun r16 => some ((r16.1, r16.2.1, r16.2.2))) else fm_g (fm_in v1 8) ((m_X5_bandAt ((μ ((18 + v1.toNatClampNeg)) 0)) μ ν).bind (fun r30 => fm_o r30 ((m_X2_hasRow ((18 + v1.toNatClampNeg)) μ ν).bind (fun r40 => if r40 = 0 then (m_X5_refuse ((nI 3)) μ ν).bind (fun r70 => some ((r70.1, r70.2.1, r70.2.2))) else (m_X5_refuse ((nI 2)) μ ν).bind (fun r60 => some ((r60.1, r60.2.1, r60.2.2))))) (fun y30 => (m_X2_hasRow ((18 + v1.toNatClampNeg)) μ ν).bind (fun r40 => if r40 = 0 then (m_X5_isOfKind y30 v2 μ ν).bind (fun r52 => if r52 = 0 then (m_X5_refuse ((nI 2)) μ ν).bind (fun r60 => some ((r60.1, r60.2.1, r60.2.2))) else (m_X5_saying y30 v2 μ ν).bind (fun r76 => some ((r76, μ, ν)))) else (m_X5_refuse ((nI 2)) μ ν).bind (fun r60 => some ((r60.1, r60.2.1, r60.2.2)))))))))
theorem ok_X5_says : fm_okV yX5_says cX5_says 4 (some .int) 2 := ⟨m_cd_X5_says, m_im_X5_says, m_se_X5_X5_says, m_ini_X5, by decide +kernel, by decide +kernel, by decide +kernel⟩
set_option maxHeartbeats 4000000 in
set_option maxRecDepth 100000 in
theorem j_X5_says {X : fm_X} {G : fm_G} {l : Launch} {v1 : Int32} {v2 : Int32} {μ : fm_I} {ν : fm_L} (C : fm_C X G l cX5_says RX5 4 (some .int) 6 125) {F : (Int32 × fm_I × fm_L) → State → Prop} (hF : F = fm_Qi X G) : fm_J X G 4 F (m_X5_says v1 v2 μ ν) μ ν 0 [(0, .ref (G.2.2.1 0)), (1, .int v1), (2, .int v2)] [] := by
  unfold m_X5_says
  refine fm_iload_n (pc := 0) C dX5_says_0 rfl rfl ?_
  refine fm_bind (fun r1 e1 => ?_)
  refine fm_cSi0 (pc := 1) C (t_X5_isShelf e1) ok_X5_isShelf m_ml_X5_63 dX5_says_1 ⟨Nat.le_of_ble_eq_true rfl, Nat.le_of_ble_eq_true rfl⟩ rfl rfl (Nat.le_of_ble_eq_true rfl) ?_
  refine fm_if_eq (pc := 4) (tgt := 14) C dX5_says_4 (by decide) (fun c1 => ?_) (fun c1 => ?_)
  · refine fm_aload_n (pc := 14) C dX5_says_14 rfl rfl ?_
    refine fm_iconst (pc := 15) (v := (nI 1)) C dX5_says_15 (by decide) ?_
    refine fm_bind (fun r16 e16 => ?_)
    refine fm_cVi (pc := 16) C (t_X5_refuse e16) ok_X5_refuse ⟨by decide, rfl⟩ m_ml_X5_67 dX5_says_16 ⟨Nat.le_of_ble_eq_true rfl, Nat.le_of_ble_eq_true rfl⟩ rfl rfl (Nat.le_of_ble_eq_true rfl) ?_
    exact fm_zret (pc := 19) C hF rfl rfl dX5_says_19
  · refine fm_iload_n (pc := 7) C dX5_says_7 rfl rfl ?_
    refine fm_bind (fun r8 e8 => ?_)
    refine fm_cSi0 (pc := 8) C (t_X5_isKind e8) ok_X5_isKind m_ml_X5_109 dX5_says_8 ⟨Nat.le_of_ble_eq_true rfl, Nat.le_of_ble_eq_true rfl⟩ rfl rfl (Nat.le_of_ble_eq_true rfl) ?_
    refine fm_if_ne (pc := 11) (tgt := 20) C dX5_says_11 (by decide) (fun c2 => ?_) (fun c2 => ?_)
    · refine fm_aload_n (pc := 14) C dX5_says_14 rfl rfl ?_
      refine fm_iconst (pc := 15) (v := (nI 1)) C dX5_says_15 (by decide) ?_
      refine fm_bind (fun r16 e16 => ?_)
      refine fm_cVi (pc := 16) C (t_X5_refuse e16) ok_X5_refuse ⟨by decide, rfl⟩ m_ml_X5_67 dX5_says_16 ⟨Nat.le_of_ble_eq_true rfl, Nat.le_of_ble_eq_true rfl⟩ rfl rfl (Nat.le_of_ble_eq_true rfl) ?_
      exact fm_zret (pc := 19) C hF rfl rfl dX5_says_19
    · refine fm_aload_n (pc := 20) C dX5_says_20 rfl rfl ?_
      refine fm_aload_n (pc := 21) C dX5_says_21 rfl rfl ?_
      refine g5_shelves (pc := 22) C (by decide) dX5_says_22 m_fl_X5_11 ?_
      refine fm_iload_n (pc := 25) C dX5_says_25 rfl rfl ?_
      refine fm_guard (fun h3 => ?_)
      refine fm_aaldS (pc := 26) C h3 dX5_says_26 ?_
      refine g2_held (pc := 27) C (fm_k18 h3) dX5_says_27 m_fl_X5_106 ?_
      refine fm_bind (fun r30 e30 => ?_)
      refine fm_cVq0 (pc := 30) C (t_X5_bandAt e30) ok_X5_bandAt ⟨by decide, rfl⟩ m_ml_X5_112 dX5_says_30 ⟨Nat.le_of_ble_eq_true rfl, Nat.le_of_ble_eq_true rfl⟩ rfl rfl (Nat.le_of_ble_eq_true rfl) ?_
      refine fm_opt (fun e30 => ?_) (fun y30 e30 => ?_)
      · subst e30
        refine fm_astoreq_n (x := none) (pc := 33) C dX5_says_33 rfl (by decide) rfl ?_
        refine fm_aload_n (pc := 34) C dX5_says_34 rfl rfl ?_
        refine g5_shelves (pc := 35) C (by decide) dX5_says_35 m_fl_X5_11 ?_
        refine fm_iload_n (pc := 38) C dX5_says_38 rfl rfl ?_
        refine fm_aaldS (pc := 39) C h3 dX5_says_39 ?_
        refine fm_bind (fun r40 e40 => ?_)
        refine fm_cVi0 (pc := 40) C (t_X2_hasRow e40) ok_X2_hasRow (fm_kcn2 (fm_k18 h3)) m_ml_X5_116 dX5_says_40 ⟨Nat.le_of_ble_eq_true rfl, Nat.le_of_ble_eq_true rfl⟩ rfl rfl (Nat.le_of_ble_eq_true rfl) ?_
        refine fm_if_ne (pc := 43) (tgt := 58) C dX5_says_43 (by decide) (fun c4 => ?_) (fun c4 => ?_)
        · refine fm_aloadq_n (x := none) (pc := 46) C dX5_says_46 rfl rfl ?_
          refine fm_ifnullN (pc := 47) (tgt := 64) C dX5_says_47 (by decide) ?_
          refine fm_aloadq_n (x := none) (pc := 64) C dX5_says_64 rfl rfl ?_
          refine fm_ifnonnullN (pc := 65) C dX5_says_65 ?_
          refine fm_aload_n (pc := 68) C dX5_says_68 rfl rfl ?_
          refine fm_iconst (pc := 69) (v := (nI 3)) C dX5_says_69 (by decide) ?_
          refine fm_bind (fun r70 e70 => ?_)
          refine fm_cVi (pc := 70) C (t_X5_refuse e70) ok_X5_refuse ⟨by decide, rfl⟩ m_ml_X5_67 dX5_says_70 ⟨Nat.le_of_ble_eq_true rfl, Nat.le_of_ble_eq_true rfl⟩ rfl rfl (Nat.le_of_ble_eq_true rfl) ?_
          exact fm_zret (pc := 73) C hF rfl rfl dX5_says_73
        · refine fm_aload_n (pc := 58) C dX5_says_58 rfl rfl ?_
          refine fm_iconst (pc := 59) (v := (nI 2)) C dX5_says_59 (by decide) ?_
          refine fm_bind (fun r60 e60 => ?_)
          refine fm_cVi (pc := 60) C (t_X5_refuse e60) ok_X5_refuse ⟨by decide, rfl⟩ m_ml_X5_67 dX5_says_60 ⟨Nat.le_of_ble_eq_true rfl, Nat.le_of_ble_eq_true rfl⟩ rfl rfl (Nat.le_of_ble_eq_true rfl) ?_
          exact fm_zret (pc := 63) C hF rfl rfl dX5_says_63
      · subst e30
        refine fm_astore_n (pc := 33) C dX5_says_33 rfl (by decide) rfl ?_
        refine fm_aload_n (pc := 34) C dX5_says_34 rfl rfl ?_
        refine g5_shelves (pc := 35) C (by decide) dX5_says_35 m_fl_X5_11 ?_
        refine fm_iload_n (pc := 38) C dX5_says_38 rfl rfl ?_
        refine fm_aaldS (pc := 39) C h3 dX5_says_39 ?_
        refine fm_bind (fun r40 e40 => ?_)
        refine fm_cVi0 (pc := 40) C (t_X2_hasRow e40) ok_X2_hasRow (fm_kcn2 (fm_k18 h3)) m_ml_X5_116 dX5_says_40 ⟨Nat.le_of_ble_eq_true rfl, Nat.le_of_ble_eq_true rfl⟩ rfl rfl (Nat.le_of_ble_eq_true rfl) ?_
        refine fm_if_ne (pc := 43) (tgt := 58) C dX5_says_43 (by decide) (fun c5 => ?_) (fun c5 => ?_)
        · refine fm_aload_n (pc := 46) C dX5_says_46 rfl rfl ?_
          refine fm_ifnullR (pc := 47) C dX5_says_47 ?_
          refine fm_aload_n (pc := 50) C dX5_says_50 rfl rfl ?_
          refine fm_iload_n (pc := 51) C dX5_says_51 rfl rfl ?_
          refine fm_bind (fun r52 e52 => ?_)
          refine fm_cSi0 (pc := 52) C (t_X5_isOfKind e52) ok_X5_isOfKind m_ml_X5_120 dX5_says_52 ⟨Nat.le_of_ble_eq_true rfl, Nat.le_of_ble_eq_true rfl⟩ rfl rfl (Nat.le_of_ble_eq_true rfl) ?_
          refine fm_if_ne (pc := 55) (tgt := 64) C dX5_says_55 (by decide) (fun c6 => ?_) (fun c6 => ?_)
          · refine fm_aload_n (pc := 58) C dX5_says_58 rfl rfl ?_
            refine fm_iconst (pc := 59) (v := (nI 2)) C dX5_says_59 (by decide) ?_
            refine fm_bind (fun r60 e60 => ?_)
            refine fm_cVi (pc := 60) C (t_X5_refuse e60) ok_X5_refuse ⟨by decide, rfl⟩ m_ml_X5_67 dX5_says_60 ⟨Nat.le_of_ble_eq_true rfl, Nat.le_of_ble_eq_true rfl⟩ rfl rfl (Nat.le_of_ble_eq_true rfl) ?_
            exact fm_zret (pc := 63) C hF rfl rfl dX5_says_63
          · refine fm_aload_n (pc := 64) C dX5_says_64 rfl rfl ?_
            refine fm_ifnonnullR (pc := 65) (tgt := 74) C dX5_says_65 (by decide) ?_
            refine fm_aload_n (pc := 74) C dX5_says_74 rfl rfl ?_
            refine fm_iload_n (pc := 75) C dX5_says_75 rfl rfl ?_
            refine fm_bind (fun r76 e76 => ?_)
            refine fm_cSi0 (pc := 76) C (t_X5_saying e76) ok_X5_saying m_ml_X5_124 dX5_says_76 ⟨Nat.le_of_ble_eq_true rfl, Nat.le_of_ble_eq_true rfl⟩ rfl rfl (Nat.le_of_ble_eq_true rfl) ?_
            exact fm_zret (pc := 79) C hF rfl rfl dX5_says_79
        · refine fm_aload_n (pc := 58) C dX5_says_58 rfl rfl ?_
          refine fm_iconst (pc := 59) (v := (nI 2)) C dX5_says_59 (by decide) ?_
          refine fm_bind (fun r60 e60 => ?_)
          refine fm_cVi (pc := 60) C (t_X5_refuse e60) ok_X5_refuse ⟨by decide, rfl⟩ m_ml_X5_67 dX5_says_60 ⟨Nat.le_of_ble_eq_true rfl, Nat.le_of_ble_eq_true rfl⟩ rfl rfl (Nat.le_of_ble_eq_true rfl) ?_
          exact fm_zret (pc := 63) C hF rfl rfl dX5_says_63
theorem t_X5_says {l : Launch} {G : fm_G} {v1 : Int32} {v2 : Int32} {μ : fm_I} {ν : fm_L} {r : Int32 × fm_I × fm_L} (h : m_X5_says v1 v2 μ ν = some r) : fm_Mi l G yX5_says cX5_says 4 (some .int) 6 125 [.ref (G.2.2.1 0), .int v1, .int v2] μ ν r := fm_Mi_of (by decide +kernel) (Nat.le_of_ble_eq_true rfl) (fun _ C => j_X5_says C rfl r h)
theorem dX5_areTwists_0 : decode cX5_areTwists 0 = .ok (.iload_n 0, 1) := by decide +kernel
theorem dX5_areTwists_1 : decode cX5_areTwists 1 = .ok (.ifCond .lt 14, 3) := by decide +kernel
theorem dX5_areTwists_4 : decode cX5_areTwists 4 = .ok (.iload_n 0, 1) := by decide +kernel
theorem dX5_areTwists_5 : decode cX5_areTwists 5 = .ok (.sipush 9999, 3) := by decide +kernel
theorem dX5_areTwists_8 : decode cX5_areTwists 8 = .ok (.if_icmp .gt 7, 3) := by decide +kernel
theorem dX5_areTwists_11 : decode cX5_areTwists 11 = .ok (.iconst 1, 1) := by decide +kernel
theorem dX5_areTwists_12 : decode cX5_areTwists 12 = .ok (.goto 4, 3) := by decide +kernel
theorem dX5_areTwists_15 : decode cX5_areTwists 15 = .ok (.iconst 0, 1) := by decide +kernel
theorem dX5_areTwists_16 : decode cX5_areTwists 16 = .ok (.ireturn, 1) := by decide +kernel
def m_X5_areTwists (v0 : Int32) (μ : fm_I) (ν : fm_L) : Option (Int32) :=
  if v0 < 0 then some ((nI 0)) else if (nI 9999) < v0 then some ((nI 0)) else some ((nI 1))
theorem ok_X5_areTwists : fm_okS yX5_areTwists cX5_areTwists 1 (some .boolean) 1 := ⟨m_cd_X5_areTwists, m_st_X5_areTwists, m_ini_X5, by decide +kernel, by decide +kernel, by decide +kernel⟩
set_option maxHeartbeats 4000000 in
set_option maxRecDepth 100000 in
theorem j_X5_areTwists {X : fm_X} {G : fm_G} {l : Launch} {v0 : Int32} {μ : fm_I} {ν : fm_L} (C : fm_C X G l cX5_areTwists RX5 1 (some .boolean) 1 12) {F : Int32 → State → Prop} (hF : F = fun r => fm_Qi X G (r, μ, ν)) : fm_J X G 1 F (m_X5_areTwists v0 μ ν) μ ν 0 [(0, .int v0)] [] := by
  unfold m_X5_areTwists
  refine fm_iload_n (pc := 0) C dX5_areTwists_0 rfl rfl ?_
  refine fm_if_lt (pc := 1) (tgt := 15) C dX5_areTwists_1 (by decide) (fun c1 => ?_) (fun c1 => ?_)
  · refine fm_iconst (pc := 15) (v := (nI 0)) C dX5_areTwists_15 (by decide) ?_
    exact fm_zret0 (pc := 16) C hF rfl rfl dX5_areTwists_16
  · refine fm_iload_n (pc := 4) C dX5_areTwists_4 rfl rfl ?_
    refine fm_sipush (pc := 5) (v := (nI 9999)) C dX5_areTwists_5 (by decide) ?_
    refine fm_icmp_gt (pc := 8) (tgt := 15) C dX5_areTwists_8 (by decide) (fun c2 => ?_) (fun c2 => ?_)
    · refine fm_iconst (pc := 15) (v := (nI 0)) C dX5_areTwists_15 (by decide) ?_
      exact fm_zret0 (pc := 16) C hF rfl rfl dX5_areTwists_16
    · refine fm_iconst (pc := 11) (v := (nI 1)) C dX5_areTwists_11 (by decide) ?_
      refine fm_goto (pc := 12) (tgt := 16) C dX5_areTwists_12 (by decide) ?_
      exact fm_zret0 (pc := 16) C hF rfl rfl dX5_areTwists_16
theorem t_X5_areTwists {l : Launch} {G : fm_G} {v0 : Int32} {μ : fm_I} {ν : fm_L} {r : Int32} (h : m_X5_areTwists v0 μ ν = some r) : fm_Mi l G yX5_areTwists cX5_areTwists 1 (some .boolean) 1 12 [.int v0] μ ν (r, μ, ν) := fm_Mi_of (by decide +kernel) (Nat.le_of_ble_eq_true rfl) (fun _ C => j_X5_areTwists C rfl r h)
theorem dX5_addBand_0 : decode cX5_addBand 0 = .ok (.aload_n 0, 1) := by decide +kernel
theorem dX5_addBand_1 : decode cX5_addBand 1 = .ok (.getfield 153, 3) := by decide +kernel
theorem dX5_addBand_4 : decode cX5_addBand 4 = .ok (.bipush 6, 2) := by decide +kernel
theorem dX5_addBand_6 : decode cX5_addBand 6 = .ok (.if_icmp .lt 4, 3) := by decide +kernel
theorem dX5_addBand_9 : decode cX5_addBand 9 = .ok (.return_, 1) := by decide +kernel
theorem dX5_addBand_10 : decode cX5_addBand 10 = .ok (.aload_n 0, 1) := by decide +kernel
theorem dX5_addBand_11 : decode cX5_addBand 11 = .ok (.getfield 17, 3) := by decide +kernel
theorem dX5_addBand_14 : decode cX5_addBand 14 = .ok (.aload_n 0, 1) := by decide +kernel
theorem dX5_addBand_15 : decode cX5_addBand 15 = .ok (.getfield 153, 3) := by decide +kernel
theorem dX5_addBand_18 : decode cX5_addBand 18 = .ok (.aaload, 1) := by decide +kernel
theorem dX5_addBand_19 : decode cX5_addBand 19 = .ok (.iload_n 1, 1) := by decide +kernel
theorem dX5_addBand_20 : decode cX5_addBand 20 = .ok (.iload_n 2, 1) := by decide +kernel
theorem dX5_addBand_21 : decode cX5_addBand 21 = .ok (.iload_n 3, 1) := by decide +kernel
theorem dX5_addBand_22 : decode cX5_addBand 22 = .ok (.iload 4, 2) := by decide +kernel
theorem dX5_addBand_24 : decode cX5_addBand 24 = .ok (.iload 5, 2) := by decide +kernel
theorem dX5_addBand_26 : decode cX5_addBand 26 = .ok (.invokevirtual 322, 3) := by decide +kernel
theorem dX5_addBand_29 : decode cX5_addBand 29 = .ok (.aload_n 0, 1) := by decide +kernel
theorem dX5_addBand_30 : decode cX5_addBand 30 = .ok (.dup, 1) := by decide +kernel
theorem dX5_addBand_31 : decode cX5_addBand 31 = .ok (.getfield 153, 3) := by decide +kernel
theorem dX5_addBand_34 : decode cX5_addBand 34 = .ok (.iconst 1, 1) := by decide +kernel
theorem dX5_addBand_35 : decode cX5_addBand 35 = .ok (.iadd, 1) := by decide +kernel
theorem dX5_addBand_36 : decode cX5_addBand 36 = .ok (.putfield 153, 3) := by decide +kernel
theorem dX5_addBand_39 : decode cX5_addBand 39 = .ok (.return_, 1) := by decide +kernel
def m_X5_addBand (v1 : Int32) (v2 : Int32) (v3 : Int32) (v4 : Int32) (v5 : Int32) (μ : fm_I) (ν : fm_L) : Option (fm_I × fm_L) :=
  if (μ 0 7) < (nI 6) then fm_g (fm_in ((μ 0 7)) 6) ((m_X0_become ((34 + ((μ 0 7)).toNatClampNeg)) v1 v2 v3 v4 v5 μ ν).bind (fun r26 => some (((fm_u r26.1 0 7 ((((r26.1 0 7)) + ((nI 1))))), r26.2)))) else some ((μ, ν))
theorem ok_X5_addBand : fm_okV yX5_addBand cX5_addBand 6 (none : Option Jvm.ClassFile.FieldType) 5 := ⟨m_cd_X5_addBand, m_im_X5_addBand, m_se_X5_X5_addBand, m_ini_X5, by decide +kernel, by decide +kernel, by decide +kernel⟩
set_option maxHeartbeats 4000000 in
set_option maxRecDepth 100000 in
theorem j_X5_addBand {X : fm_X} {G : fm_G} {l : Launch} {v1 : Int32} {v2 : Int32} {v3 : Int32} {v4 : Int32} {v5 : Int32} {μ : fm_I} {ν : fm_L} (C : fm_C X G l cX5_addBand RX5 6 (none : Option Jvm.ClassFile.FieldType) 3 60) {F : (fm_I × fm_L) → State → Prop} (hF : F = fm_Qv X G) : fm_J X G 6 F (m_X5_addBand v1 v2 v3 v4 v5 μ ν) μ ν 0 [(0, .ref (G.2.2.1 0)), (1, .int v1), (2, .int v2), (3, .int v3), (4, .int v4), (5, .int v5)] [] := by
  unfold m_X5_addBand
  refine fm_aload_n (pc := 0) C dX5_addBand_0 rfl rfl ?_
  refine g5_bandCount (pc := 1) C (by decide) dX5_addBand_1 m_fl_X5_153 ?_
  refine fm_bipush (pc := 4) (v := (nI 6)) C dX5_addBand_4 (by decide) ?_
  refine fm_icmp_lt (pc := 6) (tgt := 10) C dX5_addBand_6 (by decide) (fun c1 => ?_) (fun c1 => ?_)
  · refine fm_aload_n (pc := 10) C dX5_addBand_10 rfl rfl ?_
    refine g5_bands (pc := 11) C (by decide) dX5_addBand_11 m_fl_X5_17 ?_
    refine fm_aload_n (pc := 14) C dX5_addBand_14 rfl rfl ?_
    refine g5_bandCount (pc := 15) C (by decide) dX5_addBand_15 m_fl_X5_153 ?_
    refine fm_guard (fun h2 => ?_)
    refine fm_aaldB2 (pc := 18) C h2 dX5_addBand_18 ?_
    refine fm_iload_n (pc := 19) C dX5_addBand_19 rfl rfl ?_
    refine fm_iload_n (pc := 20) C dX5_addBand_20 rfl rfl ?_
    refine fm_iload_n (pc := 21) C dX5_addBand_21 rfl rfl ?_
    refine fm_iload (pc := 22) C dX5_addBand_22 rfl ?_
    refine fm_iload (pc := 24) C dX5_addBand_24 rfl ?_
    refine fm_bind (fun r26 e26 => ?_)
    refine fm_cVv (pc := 26) C (t_X0_become e26) ok_X0_become (fm_kcn0 (fm_k34 h2)) m_ml_X5_322 dX5_addBand_26 ⟨Nat.le_of_ble_eq_true rfl, Nat.le_of_ble_eq_true rfl⟩ rfl rfl (Nat.le_of_ble_eq_true rfl) ?_
    refine fm_aload_n (pc := 29) C dX5_addBand_29 rfl rfl ?_
    refine fm_dup (pc := 30) C dX5_addBand_30 rfl ?_
    refine g5_bandCount (pc := 31) C (by decide) dX5_addBand_31 m_fl_X5_153 ?_
    refine fm_iconst (pc := 34) (v := (nI 1)) C dX5_addBand_34 (by decide) ?_
    refine fm_iadd (pc := 35) C dX5_addBand_35 ?_
    refine p5_bandCount (pc := 36) C (by decide) dX5_addBand_36 m_fl_X5_153 ?_
    exact fm_vret (pc := 39) C hF rfl dX5_addBand_39
  · exact fm_vret (pc := 9) C hF rfl dX5_addBand_9
theorem t_X5_addBand {l : Launch} {G : fm_G} {v1 : Int32} {v2 : Int32} {v3 : Int32} {v4 : Int32} {v5 : Int32} {μ : fm_I} {ν : fm_L} {r : fm_I × fm_L} (h : m_X5_addBand v1 v2 v3 v4 v5 μ ν = some r) : fm_Mv l G yX5_addBand cX5_addBand 6 (none : Option Jvm.ClassFile.FieldType) 3 60 [.ref (G.2.2.1 0), .int v1, .int v2, .int v3, .int v4, .int v5] μ ν r := fm_Mv_of (by decide +kernel) (Nat.le_of_ble_eq_true rfl) (fun _ C => j_X5_addBand C rfl r h)
theorem dX5_band_0 : decode cX5_band 0 = .ok (.iload_n 1, 1) := by decide +kernel
theorem dX5_band_1 : decode cX5_band 1 = .ok (.invokestatic 109, 3) := by decide +kernel
theorem dX5_band_4 : decode cX5_band 4 = .ok (.ifCond .ne 9, 3) := by decide +kernel
theorem dX5_band_7 : decode cX5_band 7 = .ok (.aload_n 0, 1) := by decide +kernel
theorem dX5_band_8 : decode cX5_band 8 = .ok (.iconst 1, 1) := by decide +kernel
theorem dX5_band_9 : decode cX5_band 9 = .ok (.invokevirtual 67, 3) := by decide +kernel
theorem dX5_band_12 : decode cX5_band 12 = .ok (.ireturn, 1) := by decide +kernel
theorem dX5_band_13 : decode cX5_band 13 = .ok (.iload_n 2, 1) := by decide +kernel
theorem dX5_band_14 : decode cX5_band 14 = .ok (.invokestatic 150, 3) := by decide +kernel
theorem dX5_band_17 : decode cX5_band 17 = .ok (.ifCond .eq 18, 3) := by decide +kernel
theorem dX5_band_20 : decode cX5_band 20 = .ok (.iload_n 3, 1) := by decide +kernel
theorem dX5_band_21 : decode cX5_band 21 = .ok (.iconst 1, 1) := by decide +kernel
theorem dX5_band_22 : decode cX5_band 22 = .ok (.if_icmp .lt 13, 3) := by decide +kernel
theorem dX5_band_25 : decode cX5_band 25 = .ok (.iload_n 3, 1) := by decide +kernel
theorem dX5_band_26 : decode cX5_band 26 = .ok (.bipush 12, 2) := by decide +kernel
theorem dX5_band_28 : decode cX5_band 28 = .ok (.if_icmp .gt 7, 3) := by decide +kernel
theorem dX5_band_31 : decode cX5_band 31 = .ok (.iconst 1, 1) := by decide +kernel
theorem dX5_band_32 : decode cX5_band 32 = .ok (.goto 4, 3) := by decide +kernel
theorem dX5_band_35 : decode cX5_band 35 = .ok (.iconst 0, 1) := by decide +kernel
theorem dX5_band_36 : decode cX5_band 36 = .ok (.istore 6, 2) := by decide +kernel
theorem dX5_band_38 : decode cX5_band 38 = .ok (.iload 6, 2) := by decide +kernel
theorem dX5_band_40 : decode cX5_band 40 = .ok (.ifCond .eq 26, 3) := by decide +kernel
theorem dX5_band_43 : decode cX5_band 43 = .ok (.iload 4, 2) := by decide +kernel
theorem dX5_band_45 : decode cX5_band 45 = .ok (.ifCond .eq 9, 3) := by decide +kernel
theorem dX5_band_48 : decode cX5_band 48 = .ok (.iload 4, 2) := by decide +kernel
theorem dX5_band_50 : decode cX5_band 50 = .ok (.iconst 1, 1) := by decide +kernel
theorem dX5_band_51 : decode cX5_band 51 = .ok (.if_icmp .ne 15, 3) := by decide +kernel
theorem dX5_band_54 : decode cX5_band 54 = .ok (.iload 5, 2) := by decide +kernel
theorem dX5_band_56 : decode cX5_band 56 = .ok (.ifCond .lt 10, 3) := by decide +kernel
theorem dX5_band_59 : decode cX5_band 59 = .ok (.iload 5, 2) := by decide +kernel
theorem dX5_band_61 : decode cX5_band 61 = .ok (.bipush 9, 2) := by decide +kernel
theorem dX5_band_63 : decode cX5_band 63 = .ok (.if_icmp .le 10, 3) := by decide +kernel
theorem dX5_band_66 : decode cX5_band 66 = .ok (.aload_n 0, 1) := by decide +kernel
theorem dX5_band_67 : decode cX5_band 67 = .ok (.bipush 6, 2) := by decide +kernel
theorem dX5_band_69 : decode cX5_band 69 = .ok (.invokevirtual 67, 3) := by decide +kernel
theorem dX5_band_72 : decode cX5_band 72 = .ok (.ireturn, 1) := by decide +kernel
theorem dX5_band_73 : decode cX5_band 73 = .ok (.aload_n 0, 1) := by decide +kernel
theorem dX5_band_74 : decode cX5_band 74 = .ok (.getfield 153, 3) := by decide +kernel
theorem dX5_band_77 : decode cX5_band 77 = .ok (.bipush 6, 2) := by decide +kernel
theorem dX5_band_79 : decode cX5_band 79 = .ok (.if_icmp .lt 10, 3) := by decide +kernel
theorem dX5_band_82 : decode cX5_band 82 = .ok (.aload_n 0, 1) := by decide +kernel
theorem dX5_band_83 : decode cX5_band 83 = .ok (.bipush 7, 2) := by decide +kernel
theorem dX5_band_85 : decode cX5_band 85 = .ok (.invokevirtual 67, 3) := by decide +kernel
theorem dX5_band_88 : decode cX5_band 88 = .ok (.ireturn, 1) := by decide +kernel
theorem dX5_band_89 : decode cX5_band 89 = .ok (.aload_n 0, 1) := by decide +kernel
theorem dX5_band_90 : decode cX5_band 90 = .ok (.iload_n 1, 1) := by decide +kernel
theorem dX5_band_91 : decode cX5_band 91 = .ok (.iload_n 2, 1) := by decide +kernel
theorem dX5_band_92 : decode cX5_band 92 = .ok (.iload_n 3, 1) := by decide +kernel
theorem dX5_band_93 : decode cX5_band 93 = .ok (.iload 4, 2) := by decide +kernel
theorem dX5_band_95 : decode cX5_band 95 = .ok (.iload 5, 2) := by decide +kernel
theorem dX5_band_97 : decode cX5_band 97 = .ok (.invokevirtual 156, 3) := by decide +kernel
theorem dX5_band_100 : decode cX5_band 100 = .ok (.aload_n 0, 1) := by decide +kernel
theorem dX5_band_101 : decode cX5_band 101 = .ok (.getfield 153, 3) := by decide +kernel
theorem dX5_band_104 : decode cX5_band 104 = .ok (.iconst 1, 1) := by decide +kernel
theorem dX5_band_105 : decode cX5_band 105 = .ok (.isub, 1) := by decide +kernel
theorem dX5_band_106 : decode cX5_band 106 = .ok (.ireturn, 1) := by decide +kernel
def m_X5_band_66  (μ : fm_I) (ν : fm_L) : Option (Int32 × fm_I × fm_L) :=
  (m_X5_refuse ((nI 6)) μ ν).bind (fun r69 => some ((r69.1, r69.2.1, r69.2.2)))
def m_X5_band_54 (v1 : Int32) (v2 : Int32) (v3 : Int32) (v4 : Int32) (v5 : Int32) (μ : fm_I) (ν : fm_L) : Option (Int32 × fm_I × fm_L) :=
  if v5 < 0 then m_X5_band_66  μ ν else if v5 ≤ (nI 9) then if (μ 0 7) < (nI 6) then (m_X5_addBand v1 v2 v3 v4 v5 μ ν).bind (fun r97 => some (((((r97.1 0 7)) - ((nI 1))), r97.1, r97.2))) else (m_X5_refuse ((nI 7)) μ ν).bind (fun r85 => some ((r85.1, r85.2.1, r85.2.2))) else m_X5_band_66  μ ν
def m_X5_band_36 (v1 : Int32) (v2 : Int32) (v3 : Int32) (v4 : Int32) (v5 : Int32) (s0 : Int32) (μ : fm_I) (ν : fm_L) : Option (Int32 × fm_I × fm_L) :=
  if s0 = 0 then m_X5_band_66  μ ν else if v4 = 0 then m_X5_band_54 v1 v2 v3 v4 v5 μ ν else if v4 = (nI 1) then m_X5_band_54 v1 v2 v3 v4 v5 μ ν else m_X5_band_66  μ ν
def m_X5_band_35 (v1 : Int32) (v2 : Int32) (v3 : Int32) (v4 : Int32) (v5 : Int32) (μ : fm_I) (ν : fm_L) : Option (Int32 × fm_I × fm_L) :=
  m_X5_band_36 v1 v2 v3 v4 v5 ((nI 0)) μ ν
def m_X5_band (v1 : Int32) (v2 : Int32) (v3 : Int32) (v4 : Int32) (v5 : Int32) (μ : fm_I) (ν : fm_L) : Option (Int32 × fm_I × fm_L) :=
  (m_X5_isKind v1 μ ν).bind (fun r1 => if r1 = 0 then (m_X5_refuse ((nI 1)) μ ν).bind (fun r9 => some ((r9.1, r9.2.1, r9.2.2))) else (m_X5_areTwists v2 μ ν).bind (fun r14 => if r14 = 0 then m_X5_band_35 v1 v2 v3 v4 v5 μ ν else if v3 < (nI 1) then m_X5_band_35 v1 v2 v3 v4 v5 μ ν else if (nI 12) < v3 then m_X5_band_35 v1 v2 v3 v4 v5 μ ν else m_X5_band_36 v1 v2 v3 v4 v5 ((nI 1)) μ ν))
theorem ok_X5_band : fm_okV yX5_band cX5_band 7 (some .int) 5 := ⟨m_cd_X5_band, m_im_X5_band, m_se_X5_X5_band, m_ini_X5, by decide +kernel, by decide +kernel, by decide +kernel⟩
set_option maxHeartbeats 4000000 in
set_option maxRecDepth 100000 in
theorem j_X5_band_66_ {X : fm_X} {G : fm_G} {l : Launch}  {μ : fm_I} {ν : fm_L} (C : fm_C X G l cX5_band RX5 7 (some .int) 4 85) {F : (Int32 × fm_I × fm_L) → State → Prop} (hF : F = fm_Qi X G)  : fm_J X G 7 F (m_X5_band_66  μ ν) μ ν 66 [(0, .ref (G.2.2.1 0))] [] := by
  unfold m_X5_band_66
  refine fm_aload_n (pc := 66) C dX5_band_66 rfl rfl ?_
  refine fm_bipush (pc := 67) (v := (nI 6)) C dX5_band_67 (by decide) ?_
  refine fm_bind (fun r69 e69 => ?_)
  refine fm_cVi (pc := 69) C (t_X5_refuse e69) ok_X5_refuse ⟨by decide, rfl⟩ m_ml_X5_67 dX5_band_69 ⟨Nat.le_of_ble_eq_true rfl, Nat.le_of_ble_eq_true rfl⟩ rfl rfl (Nat.le_of_ble_eq_true rfl) ?_
  exact fm_zret (pc := 72) C hF rfl rfl dX5_band_72
set_option maxHeartbeats 4000000 in
set_option maxRecDepth 100000 in
theorem j_X5_band_54_ {X : fm_X} {G : fm_G} {l : Launch} {v1 : Int32} {v2 : Int32} {v3 : Int32} {v4 : Int32} {v5 : Int32} {μ : fm_I} {ν : fm_L} (C : fm_C X G l cX5_band RX5 7 (some .int) 4 85) {F : (Int32 × fm_I × fm_L) → State → Prop} (hF : F = fm_Qi X G)  : fm_J X G 7 F (m_X5_band_54 v1 v2 v3 v4 v5 μ ν) μ ν 54 [(0, .ref (G.2.2.1 0)), (1, .int v1), (2, .int v2), (3, .int v3), (4, .int v4), (5, .int v5)] [] := by
  unfold m_X5_band_54
  refine fm_iload (pc := 54) C dX5_band_54 rfl ?_
  refine fm_if_lt (pc := 56) (tgt := 66) C dX5_band_56 (by decide) (fun c5 => ?_) (fun c5 => ?_)
  · refine fm_less (lv' := [(0, .ref (G.2.2.1 0))]) (by repeat (first | exact trivial | refine ⟨rfl, ?_⟩)) ?_
    exact j_X5_band_66_ C hF 
  · refine fm_iload (pc := 59) C dX5_band_59 rfl ?_
    refine fm_bipush (pc := 61) (v := (nI 9)) C dX5_band_61 (by decide) ?_
    refine fm_icmp_le (pc := 63) (tgt := 73) C dX5_band_63 (by decide) (fun c6 => ?_) (fun c6 => ?_)
    · refine fm_aload_n (pc := 73) C dX5_band_73 rfl rfl ?_
      refine g5_bandCount (pc := 74) C (by decide) dX5_band_74 m_fl_X5_153 ?_
      refine fm_bipush (pc := 77) (v := (nI 6)) C dX5_band_77 (by decide) ?_
      refine fm_icmp_lt (pc := 79) (tgt := 89) C dX5_band_79 (by decide) (fun c7 => ?_) (fun c7 => ?_)
      · refine fm_aload_n (pc := 89) C dX5_band_89 rfl rfl ?_
        refine fm_iload_n (pc := 90) C dX5_band_90 rfl rfl ?_
        refine fm_iload_n (pc := 91) C dX5_band_91 rfl rfl ?_
        refine fm_iload_n (pc := 92) C dX5_band_92 rfl rfl ?_
        refine fm_iload (pc := 93) C dX5_band_93 rfl ?_
        refine fm_iload (pc := 95) C dX5_band_95 rfl ?_
        refine fm_bind (fun r97 e97 => ?_)
        refine fm_cVv (pc := 97) C (t_X5_addBand e97) ok_X5_addBand ⟨by decide, rfl⟩ m_ml_X5_156 dX5_band_97 ⟨Nat.le_of_ble_eq_true rfl, Nat.le_of_ble_eq_true rfl⟩ rfl rfl (Nat.le_of_ble_eq_true rfl) ?_
        refine fm_aload_n (pc := 100) C dX5_band_100 rfl rfl ?_
        refine g5_bandCount (pc := 101) C (by decide) dX5_band_101 m_fl_X5_153 ?_
        refine fm_iconst (pc := 104) (v := (nI 1)) C dX5_band_104 (by decide) ?_
        refine fm_isub (pc := 105) C dX5_band_105 ?_
        exact fm_zret (pc := 106) C hF rfl rfl dX5_band_106
      · refine fm_aload_n (pc := 82) C dX5_band_82 rfl rfl ?_
        refine fm_bipush (pc := 83) (v := (nI 7)) C dX5_band_83 (by decide) ?_
        refine fm_bind (fun r85 e85 => ?_)
        refine fm_cVi (pc := 85) C (t_X5_refuse e85) ok_X5_refuse ⟨by decide, rfl⟩ m_ml_X5_67 dX5_band_85 ⟨Nat.le_of_ble_eq_true rfl, Nat.le_of_ble_eq_true rfl⟩ rfl rfl (Nat.le_of_ble_eq_true rfl) ?_
        exact fm_zret (pc := 88) C hF rfl rfl dX5_band_88
    · refine fm_less (lv' := [(0, .ref (G.2.2.1 0))]) (by repeat (first | exact trivial | refine ⟨rfl, ?_⟩)) ?_
      exact j_X5_band_66_ C hF 
set_option maxHeartbeats 4000000 in
set_option maxRecDepth 100000 in
theorem j_X5_band_36_ {X : fm_X} {G : fm_G} {l : Launch} {v1 : Int32} {v2 : Int32} {v3 : Int32} {v4 : Int32} {v5 : Int32} {s0 : Int32} {μ : fm_I} {ν : fm_L} (C : fm_C X G l cX5_band RX5 7 (some .int) 4 85) {F : (Int32 × fm_I × fm_L) → State → Prop} (hF : F = fm_Qi X G)  : fm_J X G 7 F (m_X5_band_36 v1 v2 v3 v4 v5 s0 μ ν) μ ν 36 [(0, .ref (G.2.2.1 0)), (1, .int v1), (2, .int v2), (3, .int v3), (4, .int v4), (5, .int v5)] [.int s0] := by
  unfold m_X5_band_36
  refine fm_istore (pc := 36) C dX5_band_36 (by decide) rfl ?_
  refine fm_iload (pc := 38) C dX5_band_38 rfl ?_
  refine fm_if_eq (pc := 40) (tgt := 66) C dX5_band_40 (by decide) (fun c3 => ?_) (fun c3 => ?_)
  · refine fm_less (lv' := [(0, .ref (G.2.2.1 0))]) (by repeat (first | exact trivial | refine ⟨rfl, ?_⟩)) ?_
    exact j_X5_band_66_ C hF 
  · refine fm_iload (pc := 43) C dX5_band_43 rfl ?_
    refine fm_if_eq (pc := 45) (tgt := 54) C dX5_band_45 (by decide) (fun c4 => ?_) (fun c4 => ?_)
    · refine fm_less (lv' := [(0, .ref (G.2.2.1 0)), (1, .int v1), (2, .int v2), (3, .int v3), (4, .int v4), (5, .int v5)]) (by repeat (first | exact trivial | refine ⟨rfl, ?_⟩)) ?_
      exact j_X5_band_54_ C hF 
    · refine fm_iload (pc := 48) C dX5_band_48 rfl ?_
      refine fm_iconst (pc := 50) (v := (nI 1)) C dX5_band_50 (by decide) ?_
      refine fm_icmp_ne (pc := 51) (tgt := 66) C dX5_band_51 (by decide) (fun c8 => ?_) (fun c8 => ?_)
      · refine fm_less (lv' := [(0, .ref (G.2.2.1 0)), (1, .int v1), (2, .int v2), (3, .int v3), (4, .int v4), (5, .int v5)]) (by repeat (first | exact trivial | refine ⟨rfl, ?_⟩)) ?_
        exact j_X5_band_54_ C hF 
      · refine fm_less (lv' := [(0, .ref (G.2.2.1 0))]) (by repeat (first | exact trivial | refine ⟨rfl, ?_⟩)) ?_
        exact j_X5_band_66_ C hF 
set_option maxHeartbeats 4000000 in
set_option maxRecDepth 100000 in
theorem j_X5_band_35_ {X : fm_X} {G : fm_G} {l : Launch} {v1 : Int32} {v2 : Int32} {v3 : Int32} {v4 : Int32} {v5 : Int32} {μ : fm_I} {ν : fm_L} (C : fm_C X G l cX5_band RX5 7 (some .int) 4 85) {F : (Int32 × fm_I × fm_L) → State → Prop} (hF : F = fm_Qi X G)  : fm_J X G 7 F (m_X5_band_35 v1 v2 v3 v4 v5 μ ν) μ ν 35 [(0, .ref (G.2.2.1 0)), (1, .int v1), (2, .int v2), (3, .int v3), (4, .int v4), (5, .int v5)] [] := by
  unfold m_X5_band_35
  refine fm_iconst (pc := 35) (v := (nI 0)) C dX5_band_35 (by decide) ?_
  refine fm_less (lv' := [(0, .ref (G.2.2.1 0)), (1, .int v1), (2, .int v2), (3, .int v3), (4, .int v4), (5, .int v5)]) (by repeat (first | exact trivial | refine ⟨rfl, ?_⟩)) ?_
  exact j_X5_band_36_ C hF 
set_option maxHeartbeats 4000000 in
set_option maxRecDepth 100000 in
theorem j_X5_band {X : fm_X} {G : fm_G} {l : Launch} {v1 : Int32} {v2 : Int32} {v3 : Int32} {v4 : Int32} {v5 : Int32} {μ : fm_I} {ν : fm_L} (C : fm_C X G l cX5_band RX5 7 (some .int) 4 85) {F : (Int32 × fm_I × fm_L) → State → Prop} (hF : F = fm_Qi X G) : fm_J X G 7 F (m_X5_band v1 v2 v3 v4 v5 μ ν) μ ν 0 [(0, .ref (G.2.2.1 0)), (1, .int v1), (2, .int v2), (3, .int v3), (4, .int v4), (5, .int v5)] [] := by
  unfold m_X5_band
  refine fm_iload_n (pc := 0) C dX5_band_0 rfl rfl ?_
  refine fm_bind (fun r1 e1 => ?_)
  refine fm_cSi0 (pc := 1) C (t_X5_isKind e1) ok_X5_isKind m_ml_X5_109 dX5_band_1 ⟨Nat.le_of_ble_eq_true rfl, Nat.le_of_ble_eq_true rfl⟩ rfl rfl (Nat.le_of_ble_eq_true rfl) ?_
  refine fm_if_ne (pc := 4) (tgt := 13) C dX5_band_4 (by decide) (fun c1 => ?_) (fun c1 => ?_)
  · refine fm_aload_n (pc := 7) C dX5_band_7 rfl rfl ?_
    refine fm_iconst (pc := 8) (v := (nI 1)) C dX5_band_8 (by decide) ?_
    refine fm_bind (fun r9 e9 => ?_)
    refine fm_cVi (pc := 9) C (t_X5_refuse e9) ok_X5_refuse ⟨by decide, rfl⟩ m_ml_X5_67 dX5_band_9 ⟨Nat.le_of_ble_eq_true rfl, Nat.le_of_ble_eq_true rfl⟩ rfl rfl (Nat.le_of_ble_eq_true rfl) ?_
    exact fm_zret (pc := 12) C hF rfl rfl dX5_band_12
  · refine fm_iload_n (pc := 13) C dX5_band_13 rfl rfl ?_
    refine fm_bind (fun r14 e14 => ?_)
    refine fm_cSi0 (pc := 14) C (t_X5_areTwists e14) ok_X5_areTwists m_ml_X5_150 dX5_band_14 ⟨Nat.le_of_ble_eq_true rfl, Nat.le_of_ble_eq_true rfl⟩ rfl rfl (Nat.le_of_ble_eq_true rfl) ?_
    refine fm_if_eq (pc := 17) (tgt := 35) C dX5_band_17 (by decide) (fun c2 => ?_) (fun c2 => ?_)
    · refine fm_less (lv' := [(0, .ref (G.2.2.1 0)), (1, .int v1), (2, .int v2), (3, .int v3), (4, .int v4), (5, .int v5)]) (by repeat (first | exact trivial | refine ⟨rfl, ?_⟩)) ?_
      exact j_X5_band_35_ C hF 
    · refine fm_iload_n (pc := 20) C dX5_band_20 rfl rfl ?_
      refine fm_iconst (pc := 21) (v := (nI 1)) C dX5_band_21 (by decide) ?_
      refine fm_icmp_lt (pc := 22) (tgt := 35) C dX5_band_22 (by decide) (fun c9 => ?_) (fun c9 => ?_)
      · refine fm_less (lv' := [(0, .ref (G.2.2.1 0)), (1, .int v1), (2, .int v2), (3, .int v3), (4, .int v4), (5, .int v5)]) (by repeat (first | exact trivial | refine ⟨rfl, ?_⟩)) ?_
        exact j_X5_band_35_ C hF 
      · refine fm_iload_n (pc := 25) C dX5_band_25 rfl rfl ?_
        refine fm_bipush (pc := 26) (v := (nI 12)) C dX5_band_26 (by decide) ?_
        refine fm_icmp_gt (pc := 28) (tgt := 35) C dX5_band_28 (by decide) (fun c10 => ?_) (fun c10 => ?_)
        · refine fm_less (lv' := [(0, .ref (G.2.2.1 0)), (1, .int v1), (2, .int v2), (3, .int v3), (4, .int v4), (5, .int v5)]) (by repeat (first | exact trivial | refine ⟨rfl, ?_⟩)) ?_
          exact j_X5_band_35_ C hF 
        · refine fm_iconst (pc := 31) (v := (nI 1)) C dX5_band_31 (by decide) ?_
          refine fm_goto (pc := 32) (tgt := 36) C dX5_band_32 (by decide) ?_
          refine fm_less (lv' := [(0, .ref (G.2.2.1 0)), (1, .int v1), (2, .int v2), (3, .int v3), (4, .int v4), (5, .int v5)]) (by repeat (first | exact trivial | refine ⟨rfl, ?_⟩)) ?_
          exact j_X5_band_36_ C hF 
theorem t_X5_band {l : Launch} {G : fm_G} {v1 : Int32} {v2 : Int32} {v3 : Int32} {v4 : Int32} {v5 : Int32} {μ : fm_I} {ν : fm_L} {r : Int32 × fm_I × fm_L} (h : m_X5_band v1 v2 v3 v4 v5 μ ν = some r) : fm_Mi l G yX5_band cX5_band 7 (some .int) 4 85 [.ref (G.2.2.1 0), .int v1, .int v2, .int v3, .int v4, .int v5] μ ν r := fm_Mi_of (by decide +kernel) (Nat.le_of_ble_eq_true rfl) (fun _ C => j_X5_band C rfl r h)
theorem dX5_bandOf_0 : decode cX5_bandOf 0 = .ok (.aload_n 0, 1) := by decide +kernel
theorem dX5_bandOf_1 : decode cX5_bandOf 1 = .ok (.iload_n 1, 1) := by decide +kernel
theorem dX5_bandOf_2 : decode cX5_bandOf 2 = .ok (.invokevirtual 112, 3) := by decide +kernel
theorem dX5_bandOf_5 : decode cX5_bandOf 5 = .ok (.astore_n 3, 1) := by decide +kernel
theorem dX5_bandOf_6 : decode cX5_bandOf 6 = .ok (.aload_n 3, 1) := by decide +kernel
theorem dX5_bandOf_7 : decode cX5_bandOf 7 = .ok (.ifnonnull 9, 3) := by decide +kernel
theorem dX5_bandOf_10 : decode cX5_bandOf 10 = .ok (.aload_n 0, 1) := by decide +kernel
theorem dX5_bandOf_11 : decode cX5_bandOf 11 = .ok (.iconst 5, 1) := by decide +kernel
theorem dX5_bandOf_12 : decode cX5_bandOf 12 = .ok (.invokevirtual 67, 3) := by decide +kernel
theorem dX5_bandOf_15 : decode cX5_bandOf 15 = .ok (.ireturn, 1) := by decide +kernel
theorem dX5_bandOf_16 : decode cX5_bandOf 16 = .ok (.iload_n 2, 1) := by decide +kernel
theorem dX5_bandOf_17 : decode cX5_bandOf 17 = .ok (.tableswitch 60 0 4 #[35, 40, 45, 50, 55], 35) := by decide +kernel
theorem dX5_bandOf_52 : decode cX5_bandOf 52 = .ok (.aload_n 3, 1) := by decide +kernel
theorem dX5_bandOf_53 : decode cX5_bandOf 53 = .ok (.getfield 144, 3) := by decide +kernel
theorem dX5_bandOf_56 : decode cX5_bandOf 56 = .ok (.ireturn, 1) := by decide +kernel
theorem dX5_bandOf_57 : decode cX5_bandOf 57 = .ok (.aload_n 3, 1) := by decide +kernel
theorem dX5_bandOf_58 : decode cX5_bandOf 58 = .ok (.getfield 141, 3) := by decide +kernel
theorem dX5_bandOf_61 : decode cX5_bandOf 61 = .ok (.ireturn, 1) := by decide +kernel
theorem dX5_bandOf_62 : decode cX5_bandOf 62 = .ok (.aload_n 3, 1) := by decide +kernel
theorem dX5_bandOf_63 : decode cX5_bandOf 63 = .ok (.getfield 131, 3) := by decide +kernel
theorem dX5_bandOf_66 : decode cX5_bandOf 66 = .ok (.ireturn, 1) := by decide +kernel
theorem dX5_bandOf_67 : decode cX5_bandOf 67 = .ok (.aload_n 3, 1) := by decide +kernel
theorem dX5_bandOf_68 : decode cX5_bandOf 68 = .ok (.getfield 160, 3) := by decide +kernel
theorem dX5_bandOf_71 : decode cX5_bandOf 71 = .ok (.ireturn, 1) := by decide +kernel
theorem dX5_bandOf_72 : decode cX5_bandOf 72 = .ok (.aload_n 3, 1) := by decide +kernel
theorem dX5_bandOf_73 : decode cX5_bandOf 73 = .ok (.getfield 138, 3) := by decide +kernel
theorem dX5_bandOf_76 : decode cX5_bandOf 76 = .ok (.ireturn, 1) := by decide +kernel
theorem dX5_bandOf_77 : decode cX5_bandOf 77 = .ok (.iload_n 2, 1) := by decide +kernel
theorem dX5_bandOf_78 : decode cX5_bandOf 78 = .ok (.bipush 10, 2) := by decide +kernel
theorem dX5_bandOf_80 : decode cX5_bandOf 80 = .ok (.if_icmp .lt 26, 3) := by decide +kernel
theorem dX5_bandOf_83 : decode cX5_bandOf 83 = .ok (.aload_n 3, 1) := by decide +kernel
theorem dX5_bandOf_84 : decode cX5_bandOf 84 = .ok (.iload_n 2, 1) := by decide +kernel
theorem dX5_bandOf_85 : decode cX5_bandOf 85 = .ok (.bipush 10, 2) := by decide +kernel
theorem dX5_bandOf_87 : decode cX5_bandOf 87 = .ok (.isub, 1) := by decide +kernel
theorem dX5_bandOf_88 : decode cX5_bandOf 88 = .ok (.invokevirtual 163, 3) := by decide +kernel
theorem dX5_bandOf_91 : decode cX5_bandOf 91 = .ok (.ifCond .eq 15, 3) := by decide +kernel
theorem dX5_bandOf_94 : decode cX5_bandOf 94 = .ok (.aload_n 3, 1) := by decide +kernel
theorem dX5_bandOf_95 : decode cX5_bandOf 95 = .ok (.getfield 166, 3) := by decide +kernel
theorem dX5_bandOf_98 : decode cX5_bandOf 98 = .ok (.iload_n 2, 1) := by decide +kernel
theorem dX5_bandOf_99 : decode cX5_bandOf 99 = .ok (.bipush 10, 2) := by decide +kernel
theorem dX5_bandOf_101 : decode cX5_bandOf 101 = .ok (.isub, 1) := by decide +kernel
theorem dX5_bandOf_102 : decode cX5_bandOf 102 = .ok (.iaload, 1) := by decide +kernel
theorem dX5_bandOf_103 : decode cX5_bandOf 103 = .ok (.goto 8, 3) := by decide +kernel
theorem dX5_bandOf_106 : decode cX5_bandOf 106 = .ok (.aload_n 0, 1) := by decide +kernel
theorem dX5_bandOf_107 : decode cX5_bandOf 107 = .ok (.iconst 5, 1) := by decide +kernel
theorem dX5_bandOf_108 : decode cX5_bandOf 108 = .ok (.invokevirtual 67, 3) := by decide +kernel
theorem dX5_bandOf_111 : decode cX5_bandOf 111 = .ok (.ireturn, 1) := by decide +kernel
def m_X5_bandOf (v1 : Int32) (v2 : Int32) (μ : fm_I) (ν : fm_L) : Option (Int32 × fm_I × fm_L) :=
  (m_X5_bandAt v1 μ ν).bind (fun r2 => fm_o r2 ((m_X5_refuse ((nI 5)) μ ν).bind (fun r12 => some ((r12.1, r12.2.1, r12.2.2)))) (fun y2 => if v2 = (nI 0) then fm_g (Nat.beq (fm_k y2) 0) (some (((μ y2 2), μ, ν))) else if v2 = (nI 1) then fm_g (Nat.beq (fm_k y2) 0) (some (((μ y2 3), μ, ν))) else if v2 = (nI 2) then fm_g (Nat.beq (fm_k y2) 0) (some (((μ y2 4), μ, ν))) else if v2 = (nI 3) then fm_g (Nat.beq (fm_k y2) 0) (some (((μ y2 5), μ, ν))) else if v2 = (nI 4) then fm_g (Nat.beq (fm_k y2) 0) (some (((μ y2 6), μ, ν))) else if v2 < (nI 10) then (m_X5_refuse ((nI 5)) μ ν).bind (fun r108 => some ((r108.1, r108.2.1, r108.2.2))) else fm_g (Nat.beq (fm_k y2) 0) ((m_X0_hasStrip y2 ((v2 - ((nI 10)))) μ ν).bind (fun r88 => if r88 = 0 then (m_X5_refuse ((nI 5)) μ ν).bind (fun r108 => some ((r108.1, r108.2.1, r108.2.2))) else fm_g (fm_in ((v2 - ((nI 10)))) (fm_n ((y2 + 12)))) (some (((μ ((y2 + 12)) ((v2 - ((nI 10)))).toNatClampNeg), μ, ν)))))))
theorem ok_X5_bandOf : fm_okV yX5_bandOf cX5_bandOf 4 (some .int) 2 := ⟨m_cd_X5_bandOf, m_im_X5_bandOf, m_se_X5_X5_bandOf, m_ini_X5, by decide +kernel, by decide +kernel, by decide +kernel⟩
set_option maxHeartbeats 4000000 in
set_option maxRecDepth 100000 in
theorem j_X5_bandOf {X : fm_X} {G : fm_G} {l : Launch} {v1 : Int32} {v2 : Int32} {μ : fm_I} {ν : fm_L} (C : fm_C X G l cX5_bandOf RX5 4 (some .int) 3 55) {F : (Int32 × fm_I × fm_L) → State → Prop} (hF : F = fm_Qi X G) : fm_J X G 4 F (m_X5_bandOf v1 v2 μ ν) μ ν 0 [(0, .ref (G.2.2.1 0)), (1, .int v1), (2, .int v2)] [] := by
  unfold m_X5_bandOf
  refine fm_aload_n (pc := 0) C dX5_bandOf_0 rfl rfl ?_
  refine fm_iload_n (pc := 1) C dX5_bandOf_1 rfl rfl ?_
  refine fm_bind (fun r2 e2 => ?_)
  refine fm_cVq0 (pc := 2) C (t_X5_bandAt e2) ok_X5_bandAt ⟨by decide, rfl⟩ m_ml_X5_112 dX5_bandOf_2 ⟨Nat.le_of_ble_eq_true rfl, Nat.le_of_ble_eq_true rfl⟩ rfl rfl (Nat.le_of_ble_eq_true rfl) ?_
  refine fm_opt (fun e2 => ?_) (fun y2 e2 => ?_)
  · subst e2
    refine fm_astoreq_n (x := none) (pc := 5) C dX5_bandOf_5 rfl (by decide) rfl ?_
    refine fm_aloadq_n (x := none) (pc := 6) C dX5_bandOf_6 rfl rfl ?_
    refine fm_ifnonnullN (pc := 7) C dX5_bandOf_7 ?_
    refine fm_aload_n (pc := 10) C dX5_bandOf_10 rfl rfl ?_
    refine fm_iconst (pc := 11) (v := (nI 5)) C dX5_bandOf_11 (by decide) ?_
    refine fm_bind (fun r12 e12 => ?_)
    refine fm_cVi (pc := 12) C (t_X5_refuse e12) ok_X5_refuse ⟨by decide, rfl⟩ m_ml_X5_67 dX5_bandOf_12 ⟨Nat.le_of_ble_eq_true rfl, Nat.le_of_ble_eq_true rfl⟩ rfl rfl (Nat.le_of_ble_eq_true rfl) ?_
    exact fm_zret (pc := 15) C hF rfl rfl dX5_bandOf_15
  · subst e2
    refine fm_astore_n (pc := 5) C dX5_bandOf_5 rfl (by decide) rfl ?_
    refine fm_aload_n (pc := 6) C dX5_bandOf_6 rfl rfl ?_
    refine fm_ifnonnullR (pc := 7) (tgt := 16) C dX5_bandOf_7 (by decide) ?_
    refine fm_iload_n (pc := 16) C dX5_bandOf_16 rfl rfl ?_
    refine fm_ite (fun s1 => ?_) (fun s1 => ?_)
    · refine fm_tabIn (pc := 17) (tgt := 52) (off := 35) C dX5_bandOf_17 (by rw [s1]; decide) (by rw [s1]; decide) (by rw [s1]; decide) (by decide) ?_
      refine fm_aload_n (pc := 52) C dX5_bandOf_52 rfl rfl ?_
      refine fm_guard (fun h2 => ?_)
      refine g0_kind (pc := 53) C (Nat.eq_of_beq_eq_true h2) dX5_bandOf_53 m_fl_X5_144 ?_
      exact fm_zret (pc := 56) C hF rfl rfl dX5_bandOf_56
    · refine fm_ite (fun s3 => ?_) (fun s3 => ?_)
      · refine fm_tabIn (pc := 17) (tgt := 57) (off := 40) C dX5_bandOf_17 (by rw [s3]; decide) (by rw [s3]; decide) (by rw [s3]; decide) (by decide) ?_
        refine fm_aload_n (pc := 57) C dX5_bandOf_57 rfl rfl ?_
        refine fm_guard (fun h4 => ?_)
        refine g0_twists (pc := 58) C (Nat.eq_of_beq_eq_true h4) dX5_bandOf_58 m_fl_X5_141 ?_
        exact fm_zret (pc := 61) C hF rfl rfl dX5_bandOf_61
      · refine fm_ite (fun s5 => ?_) (fun s5 => ?_)
        · refine fm_tabIn (pc := 17) (tgt := 62) (off := 45) C dX5_bandOf_17 (by rw [s5]; decide) (by rw [s5]; decide) (by rw [s5]; decide) (by decide) ?_
          refine fm_aload_n (pc := 62) C dX5_bandOf_62 rfl rfl ?_
          refine fm_guard (fun h6 => ?_)
          refine g0_strips (pc := 63) C (Nat.eq_of_beq_eq_true h6) dX5_bandOf_63 m_fl_X5_131 ?_
          exact fm_zret (pc := 66) C hF rfl rfl dX5_bandOf_66
        · refine fm_ite (fun s7 => ?_) (fun s7 => ?_)
          · refine fm_tabIn (pc := 17) (tgt := 67) (off := 50) C dX5_bandOf_17 (by rw [s7]; decide) (by rw [s7]; decide) (by rw [s7]; decide) (by decide) ?_
            refine fm_aload_n (pc := 67) C dX5_bandOf_67 rfl rfl ?_
            refine fm_guard (fun h8 => ?_)
            refine g0_hand (pc := 68) C (Nat.eq_of_beq_eq_true h8) dX5_bandOf_68 m_fl_X5_160 ?_
            exact fm_zret (pc := 71) C hF rfl rfl dX5_bandOf_71
          · refine fm_ite (fun s9 => ?_) (fun s9 => ?_)
            · refine fm_tabIn (pc := 17) (tgt := 72) (off := 55) C dX5_bandOf_17 (by rw [s9]; decide) (by rw [s9]; decide) (by rw [s9]; decide) (by decide) ?_
              refine fm_aload_n (pc := 72) C dX5_bandOf_72 rfl rfl ?_
              refine fm_guard (fun h10 => ?_)
              refine g0_a (pc := 73) C (Nat.eq_of_beq_eq_true h10) dX5_bandOf_73 m_fl_X5_138 ?_
              exact fm_zret (pc := 76) C hF rfl rfl dX5_bandOf_76
            · refine fm_tabOut (pc := 17) (tgt := 77) C dX5_bandOf_17 (by have a0 := fm_ne (nI 0) (k := 0) (by decide) s1; have a1 := fm_ne (nI 1) (k := 1) (by decide) s3; have a2 := fm_ne (nI 2) (k := 2) (by decide) s5; have a3 := fm_ne (nI 3) (k := 3) (by decide) s7; have a4 := fm_ne (nI 4) (k := 4) (by decide) s9; omega) (by decide) ?_
              refine fm_iload_n (pc := 77) C dX5_bandOf_77 rfl rfl ?_
              refine fm_bipush (pc := 78) (v := (nI 10)) C dX5_bandOf_78 (by decide) ?_
              refine fm_icmp_lt (pc := 80) (tgt := 106) C dX5_bandOf_80 (by decide) (fun c11 => ?_) (fun c11 => ?_)
              · refine fm_aload_n (pc := 106) C dX5_bandOf_106 rfl rfl ?_
                refine fm_iconst (pc := 107) (v := (nI 5)) C dX5_bandOf_107 (by decide) ?_
                refine fm_bind (fun r108 e108 => ?_)
                refine fm_cVi (pc := 108) C (t_X5_refuse e108) ok_X5_refuse ⟨by decide, rfl⟩ m_ml_X5_67 dX5_bandOf_108 ⟨Nat.le_of_ble_eq_true rfl, Nat.le_of_ble_eq_true rfl⟩ rfl rfl (Nat.le_of_ble_eq_true rfl) ?_
                exact fm_zret (pc := 111) C hF rfl rfl dX5_bandOf_111
              · refine fm_aload_n (pc := 83) C dX5_bandOf_83 rfl rfl ?_
                refine fm_iload_n (pc := 84) C dX5_bandOf_84 rfl rfl ?_
                refine fm_bipush (pc := 85) (v := (nI 10)) C dX5_bandOf_85 (by decide) ?_
                refine fm_isub (pc := 87) C dX5_bandOf_87 ?_
                refine fm_guard (fun h12 => ?_)
                refine fm_bind (fun r88 e88 => ?_)
                refine fm_cVi0 (pc := 88) C (t_X0_hasStrip e88) ok_X0_hasStrip (fm_kcn0 (Nat.eq_of_beq_eq_true h12)) m_ml_X5_163 dX5_bandOf_88 ⟨Nat.le_of_ble_eq_true rfl, Nat.le_of_ble_eq_true rfl⟩ rfl rfl (Nat.le_of_ble_eq_true rfl) ?_
                refine fm_if_eq (pc := 91) (tgt := 106) C dX5_bandOf_91 (by decide) (fun c13 => ?_) (fun c13 => ?_)
                · refine fm_aload_n (pc := 106) C dX5_bandOf_106 rfl rfl ?_
                  refine fm_iconst (pc := 107) (v := (nI 5)) C dX5_bandOf_107 (by decide) ?_
                  refine fm_bind (fun r108 e108 => ?_)
                  refine fm_cVi (pc := 108) C (t_X5_refuse e108) ok_X5_refuse ⟨by decide, rfl⟩ m_ml_X5_67 dX5_bandOf_108 ⟨Nat.le_of_ble_eq_true rfl, Nat.le_of_ble_eq_true rfl⟩ rfl rfl (Nat.le_of_ble_eq_true rfl) ?_
                  exact fm_zret (pc := 111) C hF rfl rfl dX5_bandOf_111
                · refine fm_aload_n (pc := 94) C dX5_bandOf_94 rfl rfl ?_
                  refine g0_colours (pc := 95) C (Nat.eq_of_beq_eq_true h12) dX5_bandOf_95 m_fl_X5_166 ?_
                  refine fm_iload_n (pc := 98) C dX5_bandOf_98 rfl rfl ?_
                  refine fm_bipush (pc := 99) (v := (nI 10)) C dX5_bandOf_99 (by decide) ?_
                  refine fm_isub (pc := 101) C dX5_bandOf_101 ?_
                  refine fm_guard (fun h14 => ?_)
                  refine fm_iald (pc := 102) C (fm_kB (Nat.eq_of_beq_eq_true h12)) h14 dX5_bandOf_102 ?_
                  refine fm_goto (pc := 103) (tgt := 111) C dX5_bandOf_103 (by decide) ?_
                  exact fm_zret (pc := 111) C hF rfl rfl dX5_bandOf_111
theorem t_X5_bandOf {l : Launch} {G : fm_G} {v1 : Int32} {v2 : Int32} {μ : fm_I} {ν : fm_L} {r : Int32 × fm_I × fm_L} (h : m_X5_bandOf v1 v2 μ ν = some r) : fm_Mi l G yX5_bandOf cX5_bandOf 4 (some .int) 3 55 [.ref (G.2.2.1 0), .int v1, .int v2] μ ν r := fm_Mi_of (by decide +kernel) (Nat.le_of_ble_eq_true rfl) (fun _ C => j_X5_bandOf C rfl r h)
theorem dX5_twist_0 : decode cX5_twist 0 = .ok (.aload_n 0, 1) := by decide +kernel
theorem dX5_twist_1 : decode cX5_twist 1 = .ok (.iload_n 1, 1) := by decide +kernel
theorem dX5_twist_2 : decode cX5_twist 2 = .ok (.invokevirtual 112, 3) := by decide +kernel
theorem dX5_twist_5 : decode cX5_twist 5 = .ok (.astore_n 3, 1) := by decide +kernel
theorem dX5_twist_6 : decode cX5_twist 6 = .ok (.aload_n 3, 1) := by decide +kernel
theorem dX5_twist_7 : decode cX5_twist 7 = .ok (.ifnonnull 9, 3) := by decide +kernel
theorem dX5_twist_10 : decode cX5_twist 10 = .ok (.aload_n 0, 1) := by decide +kernel
theorem dX5_twist_11 : decode cX5_twist 11 = .ok (.iconst 1, 1) := by decide +kernel
theorem dX5_twist_12 : decode cX5_twist 12 = .ok (.invokevirtual 67, 3) := by decide +kernel
theorem dX5_twist_15 : decode cX5_twist 15 = .ok (.ireturn, 1) := by decide +kernel
theorem dX5_twist_16 : decode cX5_twist 16 = .ok (.iload_n 2, 1) := by decide +kernel
theorem dX5_twist_17 : decode cX5_twist 17 = .ok (.invokestatic 150, 3) := by decide +kernel
theorem dX5_twist_20 : decode cX5_twist 20 = .ok (.ifCond .ne 10, 3) := by decide +kernel
theorem dX5_twist_23 : decode cX5_twist 23 = .ok (.aload_n 0, 1) := by decide +kernel
theorem dX5_twist_24 : decode cX5_twist 24 = .ok (.bipush 6, 2) := by decide +kernel
theorem dX5_twist_26 : decode cX5_twist 26 = .ok (.invokevirtual 67, 3) := by decide +kernel
theorem dX5_twist_29 : decode cX5_twist 29 = .ok (.ireturn, 1) := by decide +kernel
theorem dX5_twist_30 : decode cX5_twist 30 = .ok (.aload_n 3, 1) := by decide +kernel
theorem dX5_twist_31 : decode cX5_twist 31 = .ok (.getfield 141, 3) := by decide +kernel
theorem dX5_twist_34 : decode cX5_twist 34 = .ok (.istore 4, 2) := by decide +kernel
theorem dX5_twist_36 : decode cX5_twist 36 = .ok (.aload_n 3, 1) := by decide +kernel
theorem dX5_twist_37 : decode cX5_twist 37 = .ok (.iload_n 2, 1) := by decide +kernel
theorem dX5_twist_38 : decode cX5_twist 38 = .ok (.putfield 141, 3) := by decide +kernel
theorem dX5_twist_41 : decode cX5_twist 41 = .ok (.iload 4, 2) := by decide +kernel
theorem dX5_twist_43 : decode cX5_twist 43 = .ok (.ireturn, 1) := by decide +kernel
def m_X5_twist (v1 : Int32) (v2 : Int32) (μ : fm_I) (ν : fm_L) : Option (Int32 × fm_I × fm_L) :=
  (m_X5_bandAt v1 μ ν).bind (fun r2 => fm_o r2 ((m_X5_refuse ((nI 1)) μ ν).bind (fun r12 => some ((r12.1, r12.2.1, r12.2.2)))) (fun y2 => (m_X5_areTwists v2 μ ν).bind (fun r17 => if r17 = 0 then (m_X5_refuse ((nI 6)) μ ν).bind (fun r26 => some ((r26.1, r26.2.1, r26.2.2))) else fm_g (Nat.beq (fm_k y2) 0) (some (((μ y2 3), (fm_u μ y2 3 v2), ν))))))
theorem ok_X5_twist : fm_okV yX5_twist cX5_twist 5 (some .int) 2 := ⟨m_cd_X5_twist, m_im_X5_twist, m_se_X5_X5_twist, m_ini_X5, by decide +kernel, by decide +kernel, by decide +kernel⟩
set_option maxHeartbeats 4000000 in
set_option maxRecDepth 100000 in
theorem j_X5_twist {X : fm_X} {G : fm_G} {l : Launch} {v1 : Int32} {v2 : Int32} {μ : fm_I} {ν : fm_L} (C : fm_C X G l cX5_twist RX5 5 (some .int) 3 55) {F : (Int32 × fm_I × fm_L) → State → Prop} (hF : F = fm_Qi X G) : fm_J X G 5 F (m_X5_twist v1 v2 μ ν) μ ν 0 [(0, .ref (G.2.2.1 0)), (1, .int v1), (2, .int v2)] [] := by
  unfold m_X5_twist
  refine fm_aload_n (pc := 0) C dX5_twist_0 rfl rfl ?_
  refine fm_iload_n (pc := 1) C dX5_twist_1 rfl rfl ?_
  refine fm_bind (fun r2 e2 => ?_)
  refine fm_cVq0 (pc := 2) C (t_X5_bandAt e2) ok_X5_bandAt ⟨by decide, rfl⟩ m_ml_X5_112 dX5_twist_2 ⟨Nat.le_of_ble_eq_true rfl, Nat.le_of_ble_eq_true rfl⟩ rfl rfl (Nat.le_of_ble_eq_true rfl) ?_
  refine fm_opt (fun e2 => ?_) (fun y2 e2 => ?_)
  · subst e2
    refine fm_astoreq_n (x := none) (pc := 5) C dX5_twist_5 rfl (by decide) rfl ?_
    refine fm_aloadq_n (x := none) (pc := 6) C dX5_twist_6 rfl rfl ?_
    refine fm_ifnonnullN (pc := 7) C dX5_twist_7 ?_
    refine fm_aload_n (pc := 10) C dX5_twist_10 rfl rfl ?_
    refine fm_iconst (pc := 11) (v := (nI 1)) C dX5_twist_11 (by decide) ?_
    refine fm_bind (fun r12 e12 => ?_)
    refine fm_cVi (pc := 12) C (t_X5_refuse e12) ok_X5_refuse ⟨by decide, rfl⟩ m_ml_X5_67 dX5_twist_12 ⟨Nat.le_of_ble_eq_true rfl, Nat.le_of_ble_eq_true rfl⟩ rfl rfl (Nat.le_of_ble_eq_true rfl) ?_
    exact fm_zret (pc := 15) C hF rfl rfl dX5_twist_15
  · subst e2
    refine fm_astore_n (pc := 5) C dX5_twist_5 rfl (by decide) rfl ?_
    refine fm_aload_n (pc := 6) C dX5_twist_6 rfl rfl ?_
    refine fm_ifnonnullR (pc := 7) (tgt := 16) C dX5_twist_7 (by decide) ?_
    refine fm_iload_n (pc := 16) C dX5_twist_16 rfl rfl ?_
    refine fm_bind (fun r17 e17 => ?_)
    refine fm_cSi0 (pc := 17) C (t_X5_areTwists e17) ok_X5_areTwists m_ml_X5_150 dX5_twist_17 ⟨Nat.le_of_ble_eq_true rfl, Nat.le_of_ble_eq_true rfl⟩ rfl rfl (Nat.le_of_ble_eq_true rfl) ?_
    refine fm_if_ne (pc := 20) (tgt := 30) C dX5_twist_20 (by decide) (fun c1 => ?_) (fun c1 => ?_)
    · refine fm_aload_n (pc := 23) C dX5_twist_23 rfl rfl ?_
      refine fm_bipush (pc := 24) (v := (nI 6)) C dX5_twist_24 (by decide) ?_
      refine fm_bind (fun r26 e26 => ?_)
      refine fm_cVi (pc := 26) C (t_X5_refuse e26) ok_X5_refuse ⟨by decide, rfl⟩ m_ml_X5_67 dX5_twist_26 ⟨Nat.le_of_ble_eq_true rfl, Nat.le_of_ble_eq_true rfl⟩ rfl rfl (Nat.le_of_ble_eq_true rfl) ?_
      exact fm_zret (pc := 29) C hF rfl rfl dX5_twist_29
    · refine fm_aload_n (pc := 30) C dX5_twist_30 rfl rfl ?_
      refine fm_guard (fun h2 => ?_)
      refine g0_twists (pc := 31) C (Nat.eq_of_beq_eq_true h2) dX5_twist_31 m_fl_X5_141 ?_
      refine fm_istore (pc := 34) C dX5_twist_34 (by decide) rfl ?_
      refine fm_aload_n (pc := 36) C dX5_twist_36 rfl rfl ?_
      refine fm_iload_n (pc := 37) C dX5_twist_37 rfl rfl ?_
      refine p0_twists (pc := 38) C (Nat.eq_of_beq_eq_true h2) dX5_twist_38 m_fl_X5_141 ?_
      refine fm_iload (pc := 41) C dX5_twist_41 rfl ?_
      exact fm_zret (pc := 43) C hF rfl rfl dX5_twist_43
theorem t_X5_twist {l : Launch} {G : fm_G} {v1 : Int32} {v2 : Int32} {μ : fm_I} {ν : fm_L} {r : Int32 × fm_I × fm_L} (h : m_X5_twist v1 v2 μ ν = some r) : fm_Mi l G yX5_twist cX5_twist 5 (some .int) 3 55 [.ref (G.2.2.1 0), .int v1, .int v2] μ ν r := fm_Mi_of (by decide +kernel) (Nat.le_of_ble_eq_true rfl) (fun _ C => j_X5_twist C rfl r h)
theorem dX5_turn_0 : decode cX5_turn 0 = .ok (.aload_n 0, 1) := by decide +kernel
theorem dX5_turn_1 : decode cX5_turn 1 = .ok (.iload_n 1, 1) := by decide +kernel
theorem dX5_turn_2 : decode cX5_turn 2 = .ok (.invokevirtual 112, 3) := by decide +kernel
theorem dX5_turn_5 : decode cX5_turn 5 = .ok (.astore_n 2, 1) := by decide +kernel
theorem dX5_turn_6 : decode cX5_turn 6 = .ok (.aload_n 2, 1) := by decide +kernel
theorem dX5_turn_7 : decode cX5_turn 7 = .ok (.ifnonnull 9, 3) := by decide +kernel
theorem dX5_turn_10 : decode cX5_turn 10 = .ok (.aload_n 0, 1) := by decide +kernel
theorem dX5_turn_11 : decode cX5_turn 11 = .ok (.iconst 1, 1) := by decide +kernel
theorem dX5_turn_12 : decode cX5_turn 12 = .ok (.invokevirtual 67, 3) := by decide +kernel
theorem dX5_turn_15 : decode cX5_turn 15 = .ok (.ireturn, 1) := by decide +kernel
theorem dX5_turn_16 : decode cX5_turn 16 = .ok (.aload_n 2, 1) := by decide +kernel
theorem dX5_turn_17 : decode cX5_turn 17 = .ok (.aload_n 2, 1) := by decide +kernel
theorem dX5_turn_18 : decode cX5_turn 18 = .ok (.getfield 160, 3) := by decide +kernel
theorem dX5_turn_21 : decode cX5_turn 21 = .ok (.ifCond .ne 7, 3) := by decide +kernel
theorem dX5_turn_24 : decode cX5_turn 24 = .ok (.iconst 1, 1) := by decide +kernel
theorem dX5_turn_25 : decode cX5_turn 25 = .ok (.goto 4, 3) := by decide +kernel
theorem dX5_turn_28 : decode cX5_turn 28 = .ok (.iconst 0, 1) := by decide +kernel
theorem dX5_turn_29 : decode cX5_turn 29 = .ok (.putfield 160, 3) := by decide +kernel
theorem dX5_turn_32 : decode cX5_turn 32 = .ok (.aload_n 2, 1) := by decide +kernel
theorem dX5_turn_33 : decode cX5_turn 33 = .ok (.getfield 160, 3) := by decide +kernel
theorem dX5_turn_36 : decode cX5_turn 36 = .ok (.ireturn, 1) := by decide +kernel
def m_X5_turn (v1 : Int32) (μ : fm_I) (ν : fm_L) : Option (Int32 × fm_I × fm_L) :=
  (m_X5_bandAt v1 μ ν).bind (fun r2 => fm_o r2 ((m_X5_refuse ((nI 1)) μ ν).bind (fun r12 => some ((r12.1, r12.2.1, r12.2.2)))) (fun y2 => fm_g (Nat.beq (fm_k y2) 0) (if (μ y2 5) = 0 then some (((((fm_u μ y2 5 ((nI 1)))) y2 5), (fm_u μ y2 5 ((nI 1))), ν)) else some (((((fm_u μ y2 5 ((nI 0)))) y2 5), (fm_u μ y2 5 ((nI 0))), ν)))))
theorem ok_X5_turn : fm_okV yX5_turn cX5_turn 3 (some .int) 1 := ⟨m_cd_X5_turn, m_im_X5_turn, m_se_X5_X5_turn, m_ini_X5, by decide +kernel, by decide +kernel, by decide +kernel⟩
set_option maxHeartbeats 4000000 in
set_option maxRecDepth 100000 in
theorem j_X5_turn {X : fm_X} {G : fm_G} {l : Launch} {v1 : Int32} {μ : fm_I} {ν : fm_L} (C : fm_C X G l cX5_turn RX5 3 (some .int) 3 55) {F : (Int32 × fm_I × fm_L) → State → Prop} (hF : F = fm_Qi X G) : fm_J X G 3 F (m_X5_turn v1 μ ν) μ ν 0 [(0, .ref (G.2.2.1 0)), (1, .int v1)] [] := by
  unfold m_X5_turn
  refine fm_aload_n (pc := 0) C dX5_turn_0 rfl rfl ?_
  refine fm_iload_n (pc := 1) C dX5_turn_1 rfl rfl ?_
  refine fm_bind (fun r2 e2 => ?_)
  refine fm_cVq0 (pc := 2) C (t_X5_bandAt e2) ok_X5_bandAt ⟨by decide, rfl⟩ m_ml_X5_112 dX5_turn_2 ⟨Nat.le_of_ble_eq_true rfl, Nat.le_of_ble_eq_true rfl⟩ rfl rfl (Nat.le_of_ble_eq_true rfl) ?_
  refine fm_opt (fun e2 => ?_) (fun y2 e2 => ?_)
  · subst e2
    refine fm_astoreq_n (x := none) (pc := 5) C dX5_turn_5 rfl (by decide) rfl ?_
    refine fm_aloadq_n (x := none) (pc := 6) C dX5_turn_6 rfl rfl ?_
    refine fm_ifnonnullN (pc := 7) C dX5_turn_7 ?_
    refine fm_aload_n (pc := 10) C dX5_turn_10 rfl rfl ?_
    refine fm_iconst (pc := 11) (v := (nI 1)) C dX5_turn_11 (by decide) ?_
    refine fm_bind (fun r12 e12 => ?_)
    refine fm_cVi (pc := 12) C (t_X5_refuse e12) ok_X5_refuse ⟨by decide, rfl⟩ m_ml_X5_67 dX5_turn_12 ⟨Nat.le_of_ble_eq_true rfl, Nat.le_of_ble_eq_true rfl⟩ rfl rfl (Nat.le_of_ble_eq_true rfl) ?_
    exact fm_zret (pc := 15) C hF rfl rfl dX5_turn_15
  · subst e2
    refine fm_astore_n (pc := 5) C dX5_turn_5 rfl (by decide) rfl ?_
    refine fm_aload_n (pc := 6) C dX5_turn_6 rfl rfl ?_
    refine fm_ifnonnullR (pc := 7) (tgt := 16) C dX5_turn_7 (by decide) ?_
    refine fm_aload_n (pc := 16) C dX5_turn_16 rfl rfl ?_
    refine fm_aload_n (pc := 17) C dX5_turn_17 rfl rfl ?_
    refine fm_guard (fun h1 => ?_)
    refine g0_hand (pc := 18) C (Nat.eq_of_beq_eq_true h1) dX5_turn_18 m_fl_X5_160 ?_
    refine fm_if_ne (pc := 21) (tgt := 28) C dX5_turn_21 (by decide) (fun c2 => ?_) (fun c2 => ?_)
    · refine fm_iconst (pc := 24) (v := (nI 1)) C dX5_turn_24 (by decide) ?_
      refine fm_goto (pc := 25) (tgt := 29) C dX5_turn_25 (by decide) ?_
      refine p0_hand (pc := 29) C (Nat.eq_of_beq_eq_true h1) dX5_turn_29 m_fl_X5_160 ?_
      refine fm_aload_n (pc := 32) C dX5_turn_32 rfl rfl ?_
      refine g0_hand (pc := 33) C (Nat.eq_of_beq_eq_true h1) dX5_turn_33 m_fl_X5_160 ?_
      exact fm_zret (pc := 36) C hF rfl rfl dX5_turn_36
    · refine fm_iconst (pc := 28) (v := (nI 0)) C dX5_turn_28 (by decide) ?_
      refine p0_hand (pc := 29) C (Nat.eq_of_beq_eq_true h1) dX5_turn_29 m_fl_X5_160 ?_
      refine fm_aload_n (pc := 32) C dX5_turn_32 rfl rfl ?_
      refine g0_hand (pc := 33) C (Nat.eq_of_beq_eq_true h1) dX5_turn_33 m_fl_X5_160 ?_
      exact fm_zret (pc := 36) C hF rfl rfl dX5_turn_36
theorem t_X5_turn {l : Launch} {G : fm_G} {v1 : Int32} {μ : fm_I} {ν : fm_L} {r : Int32 × fm_I × fm_L} (h : m_X5_turn v1 μ ν = some r) : fm_Mi l G yX5_turn cX5_turn 3 (some .int) 3 55 [.ref (G.2.2.1 0), .int v1] μ ν r := fm_Mi_of (by decide +kernel) (Nat.le_of_ble_eq_true rfl) (fun _ C => j_X5_turn C rfl r h)
theorem dX5_paint_0 : decode cX5_paint 0 = .ok (.aload_n 0, 1) := by decide +kernel
theorem dX5_paint_1 : decode cX5_paint 1 = .ok (.iload_n 1, 1) := by decide +kernel
theorem dX5_paint_2 : decode cX5_paint 2 = .ok (.invokevirtual 112, 3) := by decide +kernel
theorem dX5_paint_5 : decode cX5_paint 5 = .ok (.astore 4, 2) := by decide +kernel
theorem dX5_paint_7 : decode cX5_paint 7 = .ok (.aload 4, 2) := by decide +kernel
theorem dX5_paint_9 : decode cX5_paint 9 = .ok (.ifnull 12, 3) := by decide +kernel
theorem dX5_paint_12 : decode cX5_paint 12 = .ok (.aload 4, 2) := by decide +kernel
theorem dX5_paint_14 : decode cX5_paint 14 = .ok (.iload_n 2, 1) := by decide +kernel
theorem dX5_paint_15 : decode cX5_paint 15 = .ok (.invokevirtual 163, 3) := by decide +kernel
theorem dX5_paint_18 : decode cX5_paint 18 = .ok (.ifCond .ne 9, 3) := by decide +kernel
theorem dX5_paint_21 : decode cX5_paint 21 = .ok (.aload_n 0, 1) := by decide +kernel
theorem dX5_paint_22 : decode cX5_paint 22 = .ok (.iconst 1, 1) := by decide +kernel
theorem dX5_paint_23 : decode cX5_paint 23 = .ok (.invokevirtual 67, 3) := by decide +kernel
theorem dX5_paint_26 : decode cX5_paint 26 = .ok (.ireturn, 1) := by decide +kernel
theorem dX5_paint_27 : decode cX5_paint 27 = .ok (.iload_n 3, 1) := by decide +kernel
theorem dX5_paint_28 : decode cX5_paint 28 = .ok (.ifCond .lt 9, 3) := by decide +kernel
theorem dX5_paint_31 : decode cX5_paint 31 = .ok (.iload_n 3, 1) := by decide +kernel
theorem dX5_paint_32 : decode cX5_paint 32 = .ok (.bipush 7, 2) := by decide +kernel
theorem dX5_paint_34 : decode cX5_paint 34 = .ok (.if_icmp .le 10, 3) := by decide +kernel
theorem dX5_paint_37 : decode cX5_paint 37 = .ok (.aload_n 0, 1) := by decide +kernel
theorem dX5_paint_38 : decode cX5_paint 38 = .ok (.bipush 6, 2) := by decide +kernel
theorem dX5_paint_40 : decode cX5_paint 40 = .ok (.invokevirtual 67, 3) := by decide +kernel
theorem dX5_paint_43 : decode cX5_paint 43 = .ok (.ireturn, 1) := by decide +kernel
theorem dX5_paint_44 : decode cX5_paint 44 = .ok (.aload 4, 2) := by decide +kernel
theorem dX5_paint_46 : decode cX5_paint 46 = .ok (.getfield 166, 3) := by decide +kernel
theorem dX5_paint_49 : decode cX5_paint 49 = .ok (.iload_n 2, 1) := by decide +kernel
theorem dX5_paint_50 : decode cX5_paint 50 = .ok (.iaload, 1) := by decide +kernel
theorem dX5_paint_51 : decode cX5_paint 51 = .ok (.istore 5, 2) := by decide +kernel
theorem dX5_paint_53 : decode cX5_paint 53 = .ok (.aload 4, 2) := by decide +kernel
theorem dX5_paint_55 : decode cX5_paint 55 = .ok (.getfield 166, 3) := by decide +kernel
theorem dX5_paint_58 : decode cX5_paint 58 = .ok (.iload_n 2, 1) := by decide +kernel
theorem dX5_paint_59 : decode cX5_paint 59 = .ok (.iload_n 3, 1) := by decide +kernel
theorem dX5_paint_60 : decode cX5_paint 60 = .ok (.iastore, 1) := by decide +kernel
theorem dX5_paint_61 : decode cX5_paint 61 = .ok (.iload 5, 2) := by decide +kernel
theorem dX5_paint_63 : decode cX5_paint 63 = .ok (.ireturn, 1) := by decide +kernel
def m_X5_paint (v1 : Int32) (v2 : Int32) (v3 : Int32) (μ : fm_I) (ν : fm_L) : Option (Int32 × fm_I × fm_L) :=
  (m_X5_bandAt v1 μ ν).bind (fun r2 => fm_o r2 ((m_X5_refuse ((nI 1)) μ ν).bind (fun r23 => some ((r23.1, r23.2.1, r23.2.2)))) (fun y2 => fm_g (Nat.beq (fm_k y2) 0) ((m_X0_hasStrip y2 v2 μ ν).bind (fun r15 => if r15 = 0 then (m_X5_refuse ((nI 1)) μ ν).bind (fun r23 => some ((r23.1, r23.2.1, r23.2.2))) else if v3 < 0 then (m_X5_refuse ((nI 6)) μ ν).bind (fun r40 => some ((r40.1, r40.2.1, r40.2.2))) else if v3 ≤ (nI 7) then fm_g (fm_in v2 (fm_n ((y2 + 12)))) (some (((μ ((y2 + 12)) v2.toNatClampNeg), (fm_u μ ((y2 + 12)) v2.toNatClampNeg v3), ν))) else (m_X5_refuse ((nI 6)) μ ν).bind (fun r40 => some ((r40.1, r40.2.1, r40.2.2)))))))
theorem ok_X5_paint : fm_okV yX5_paint cX5_paint 6 (some .int) 3 := ⟨m_cd_X5_paint, m_im_X5_paint, m_se_X5_X5_paint, m_ini_X5, by decide +kernel, by decide +kernel, by decide +kernel⟩
set_option maxHeartbeats 4000000 in
set_option maxRecDepth 100000 in
theorem j_X5_paint {X : fm_X} {G : fm_G} {l : Launch} {v1 : Int32} {v2 : Int32} {v3 : Int32} {μ : fm_I} {ν : fm_L} (C : fm_C X G l cX5_paint RX5 6 (some .int) 3 55) {F : (Int32 × fm_I × fm_L) → State → Prop} (hF : F = fm_Qi X G) : fm_J X G 6 F (m_X5_paint v1 v2 v3 μ ν) μ ν 0 [(0, .ref (G.2.2.1 0)), (1, .int v1), (2, .int v2), (3, .int v3)] [] := by
  unfold m_X5_paint
  refine fm_aload_n (pc := 0) C dX5_paint_0 rfl rfl ?_
  refine fm_iload_n (pc := 1) C dX5_paint_1 rfl rfl ?_
  refine fm_bind (fun r2 e2 => ?_)
  refine fm_cVq0 (pc := 2) C (t_X5_bandAt e2) ok_X5_bandAt ⟨by decide, rfl⟩ m_ml_X5_112 dX5_paint_2 ⟨Nat.le_of_ble_eq_true rfl, Nat.le_of_ble_eq_true rfl⟩ rfl rfl (Nat.le_of_ble_eq_true rfl) ?_
  refine fm_opt (fun e2 => ?_) (fun y2 e2 => ?_)
  · subst e2
    refine fm_astoreq (x := none) (pc := 5) C dX5_paint_5 (by decide) rfl ?_
    refine fm_aloadq (x := none) (pc := 7) C dX5_paint_7 rfl ?_
    refine fm_ifnullN (pc := 9) (tgt := 21) C dX5_paint_9 (by decide) ?_
    refine fm_aload_n (pc := 21) C dX5_paint_21 rfl rfl ?_
    refine fm_iconst (pc := 22) (v := (nI 1)) C dX5_paint_22 (by decide) ?_
    refine fm_bind (fun r23 e23 => ?_)
    refine fm_cVi (pc := 23) C (t_X5_refuse e23) ok_X5_refuse ⟨by decide, rfl⟩ m_ml_X5_67 dX5_paint_23 ⟨Nat.le_of_ble_eq_true rfl, Nat.le_of_ble_eq_true rfl⟩ rfl rfl (Nat.le_of_ble_eq_true rfl) ?_
    exact fm_zret (pc := 26) C hF rfl rfl dX5_paint_26
  · subst e2
    refine fm_astore (pc := 5) C dX5_paint_5 (by decide) rfl ?_
    refine fm_aload (pc := 7) C dX5_paint_7 rfl ?_
    refine fm_ifnullR (pc := 9) C dX5_paint_9 ?_
    refine fm_aload (pc := 12) C dX5_paint_12 rfl ?_
    refine fm_iload_n (pc := 14) C dX5_paint_14 rfl rfl ?_
    refine fm_guard (fun h1 => ?_)
    refine fm_bind (fun r15 e15 => ?_)
    refine fm_cVi0 (pc := 15) C (t_X0_hasStrip e15) ok_X0_hasStrip (fm_kcn0 (Nat.eq_of_beq_eq_true h1)) m_ml_X5_163 dX5_paint_15 ⟨Nat.le_of_ble_eq_true rfl, Nat.le_of_ble_eq_true rfl⟩ rfl rfl (Nat.le_of_ble_eq_true rfl) ?_
    refine fm_if_ne (pc := 18) (tgt := 27) C dX5_paint_18 (by decide) (fun c2 => ?_) (fun c2 => ?_)
    · refine fm_aload_n (pc := 21) C dX5_paint_21 rfl rfl ?_
      refine fm_iconst (pc := 22) (v := (nI 1)) C dX5_paint_22 (by decide) ?_
      refine fm_bind (fun r23 e23 => ?_)
      refine fm_cVi (pc := 23) C (t_X5_refuse e23) ok_X5_refuse ⟨by decide, rfl⟩ m_ml_X5_67 dX5_paint_23 ⟨Nat.le_of_ble_eq_true rfl, Nat.le_of_ble_eq_true rfl⟩ rfl rfl (Nat.le_of_ble_eq_true rfl) ?_
      exact fm_zret (pc := 26) C hF rfl rfl dX5_paint_26
    · refine fm_iload_n (pc := 27) C dX5_paint_27 rfl rfl ?_
      refine fm_if_lt (pc := 28) (tgt := 37) C dX5_paint_28 (by decide) (fun c3 => ?_) (fun c3 => ?_)
      · refine fm_aload_n (pc := 37) C dX5_paint_37 rfl rfl ?_
        refine fm_bipush (pc := 38) (v := (nI 6)) C dX5_paint_38 (by decide) ?_
        refine fm_bind (fun r40 e40 => ?_)
        refine fm_cVi (pc := 40) C (t_X5_refuse e40) ok_X5_refuse ⟨by decide, rfl⟩ m_ml_X5_67 dX5_paint_40 ⟨Nat.le_of_ble_eq_true rfl, Nat.le_of_ble_eq_true rfl⟩ rfl rfl (Nat.le_of_ble_eq_true rfl) ?_
        exact fm_zret (pc := 43) C hF rfl rfl dX5_paint_43
      · refine fm_iload_n (pc := 31) C dX5_paint_31 rfl rfl ?_
        refine fm_bipush (pc := 32) (v := (nI 7)) C dX5_paint_32 (by decide) ?_
        refine fm_icmp_le (pc := 34) (tgt := 44) C dX5_paint_34 (by decide) (fun c4 => ?_) (fun c4 => ?_)
        · refine fm_aload (pc := 44) C dX5_paint_44 rfl ?_
          refine g0_colours (pc := 46) C (Nat.eq_of_beq_eq_true h1) dX5_paint_46 m_fl_X5_166 ?_
          refine fm_iload_n (pc := 49) C dX5_paint_49 rfl rfl ?_
          refine fm_guard (fun h5 => ?_)
          refine fm_iald (pc := 50) C (fm_kB (Nat.eq_of_beq_eq_true h1)) h5 dX5_paint_50 ?_
          refine fm_istore (pc := 51) C dX5_paint_51 (by decide) rfl ?_
          refine fm_aload (pc := 53) C dX5_paint_53 rfl ?_
          refine g0_colours (pc := 55) C (Nat.eq_of_beq_eq_true h1) dX5_paint_55 m_fl_X5_166 ?_
          refine fm_iload_n (pc := 58) C dX5_paint_58 rfl rfl ?_
          refine fm_iload_n (pc := 59) C dX5_paint_59 rfl rfl ?_
          refine fm_iast (pc := 60) C (fm_kB (Nat.eq_of_beq_eq_true h1)) h5 dX5_paint_60 ?_
          refine fm_iload (pc := 61) C dX5_paint_61 rfl ?_
          exact fm_zret (pc := 63) C hF rfl rfl dX5_paint_63
        · refine fm_aload_n (pc := 37) C dX5_paint_37 rfl rfl ?_
          refine fm_bipush (pc := 38) (v := (nI 6)) C dX5_paint_38 (by decide) ?_
          refine fm_bind (fun r40 e40 => ?_)
          refine fm_cVi (pc := 40) C (t_X5_refuse e40) ok_X5_refuse ⟨by decide, rfl⟩ m_ml_X5_67 dX5_paint_40 ⟨Nat.le_of_ble_eq_true rfl, Nat.le_of_ble_eq_true rfl⟩ rfl rfl (Nat.le_of_ble_eq_true rfl) ?_
          exact fm_zret (pc := 43) C hF rfl rfl dX5_paint_43
theorem t_X5_paint {l : Launch} {G : fm_G} {v1 : Int32} {v2 : Int32} {v3 : Int32} {μ : fm_I} {ν : fm_L} {r : Int32 × fm_I × fm_L} (h : m_X5_paint v1 v2 v3 μ ν = some r) : fm_Mi l G yX5_paint cX5_paint 6 (some .int) 3 55 [.ref (G.2.2.1 0), .int v1, .int v2, .int v3] μ ν r := fm_Mi_of (by decide +kernel) (Nat.le_of_ble_eq_true rfl) (fun _ C => j_X5_paint C rfl r h)
theorem dX5_carryOut_0 : decode cX5_carryOut 0 = .ok (.aload_n 0, 1) := by decide +kernel
theorem dX5_carryOut_1 : decode cX5_carryOut 1 = .ok (.getfield 38, 3) := by decide +kernel
theorem dX5_carryOut_4 : decode cX5_carryOut 4 = .ok (.iload_n 1, 1) := by decide +kernel
theorem dX5_carryOut_5 : decode cX5_carryOut 5 = .ok (.iconst 0, 1) := by decide +kernel
theorem dX5_carryOut_6 : decode cX5_carryOut 6 = .ok (.invokevirtual 185, 3) := by decide +kernel
theorem dX5_carryOut_9 : decode cX5_carryOut 9 = .ok (.istore_n 2, 1) := by decide +kernel
theorem dX5_carryOut_10 : decode cX5_carryOut 10 = .ok (.aload_n 0, 1) := by decide +kernel
theorem dX5_carryOut_11 : decode cX5_carryOut 11 = .ok (.getfield 38, 3) := by decide +kernel
theorem dX5_carryOut_14 : decode cX5_carryOut 14 = .ok (.iload_n 1, 1) := by decide +kernel
theorem dX5_carryOut_15 : decode cX5_carryOut 15 = .ok (.iconst 1, 1) := by decide +kernel
theorem dX5_carryOut_16 : decode cX5_carryOut 16 = .ok (.invokevirtual 185, 3) := by decide +kernel
theorem dX5_carryOut_19 : decode cX5_carryOut 19 = .ok (.istore_n 3, 1) := by decide +kernel
theorem dX5_carryOut_20 : decode cX5_carryOut 20 = .ok (.aload_n 0, 1) := by decide +kernel
theorem dX5_carryOut_21 : decode cX5_carryOut 21 = .ok (.getfield 38, 3) := by decide +kernel
theorem dX5_carryOut_24 : decode cX5_carryOut 24 = .ok (.iload_n 1, 1) := by decide +kernel
theorem dX5_carryOut_25 : decode cX5_carryOut 25 = .ok (.iconst 2, 1) := by decide +kernel
theorem dX5_carryOut_26 : decode cX5_carryOut 26 = .ok (.invokevirtual 185, 3) := by decide +kernel
theorem dX5_carryOut_29 : decode cX5_carryOut 29 = .ok (.istore 4, 2) := by decide +kernel
theorem dX5_carryOut_31 : decode cX5_carryOut 31 = .ok (.aload_n 0, 1) := by decide +kernel
theorem dX5_carryOut_32 : decode cX5_carryOut 32 = .ok (.getfield 38, 3) := by decide +kernel
theorem dX5_carryOut_35 : decode cX5_carryOut 35 = .ok (.iload_n 1, 1) := by decide +kernel
theorem dX5_carryOut_36 : decode cX5_carryOut 36 = .ok (.invokevirtual 189, 3) := by decide +kernel
theorem dX5_carryOut_39 : decode cX5_carryOut 39 = .ok (.istore 5, 2) := by decide +kernel
theorem dX5_carryOut_41 : decode cX5_carryOut 41 = .ok (.iload 5, 2) := by decide +kernel
theorem dX5_carryOut_43 : decode cX5_carryOut 43 = .ok (.bipush 98, 2) := by decide +kernel
theorem dX5_carryOut_45 : decode cX5_carryOut 45 = .ok (.if_icmp .ne 22, 3) := by decide +kernel
theorem dX5_carryOut_48 : decode cX5_carryOut 48 = .ok (.aload_n 0, 1) := by decide +kernel
theorem dX5_carryOut_49 : decode cX5_carryOut 49 = .ok (.iload_n 2, 1) := by decide +kernel
theorem dX5_carryOut_50 : decode cX5_carryOut 50 = .ok (.iload_n 3, 1) := by decide +kernel
theorem dX5_carryOut_51 : decode cX5_carryOut 51 = .ok (.iload 4, 2) := by decide +kernel
theorem dX5_carryOut_53 : decode cX5_carryOut 53 = .ok (.iconst 0, 1) := by decide +kernel
theorem dX5_carryOut_54 : decode cX5_carryOut 54 = .ok (.aload_n 0, 1) := by decide +kernel
theorem dX5_carryOut_55 : decode cX5_carryOut 55 = .ok (.getfield 38, 3) := by decide +kernel
theorem dX5_carryOut_58 : decode cX5_carryOut 58 = .ok (.iload_n 1, 1) := by decide +kernel
theorem dX5_carryOut_59 : decode cX5_carryOut 59 = .ok (.iconst 3, 1) := by decide +kernel
theorem dX5_carryOut_60 : decode cX5_carryOut 60 = .ok (.invokevirtual 185, 3) := by decide +kernel
theorem dX5_carryOut_63 : decode cX5_carryOut 63 = .ok (.invokevirtual 156, 3) := by decide +kernel
theorem dX5_carryOut_66 : decode cX5_carryOut 66 = .ok (.return_, 1) := by decide +kernel
theorem dX5_carryOut_67 : decode cX5_carryOut 67 = .ok (.aload_n 0, 1) := by decide +kernel
theorem dX5_carryOut_68 : decode cX5_carryOut 68 = .ok (.iload_n 2, 1) := by decide +kernel
theorem dX5_carryOut_69 : decode cX5_carryOut 69 = .ok (.invokevirtual 112, 3) := by decide +kernel
theorem dX5_carryOut_72 : decode cX5_carryOut 72 = .ok (.astore 6, 2) := by decide +kernel
theorem dX5_carryOut_74 : decode cX5_carryOut 74 = .ok (.aload 6, 2) := by decide +kernel
theorem dX5_carryOut_76 : decode cX5_carryOut 76 = .ok (.ifnonnull 4, 3) := by decide +kernel
theorem dX5_carryOut_79 : decode cX5_carryOut 79 = .ok (.return_, 1) := by decide +kernel
theorem dX5_carryOut_80 : decode cX5_carryOut 80 = .ok (.iload 5, 2) := by decide +kernel
theorem dX5_carryOut_82 : decode cX5_carryOut 82 = .ok (.bipush 112, 2) := by decide +kernel
theorem dX5_carryOut_84 : decode cX5_carryOut 84 = .ok (.if_icmp .ne 24, 3) := by decide +kernel
theorem dX5_carryOut_87 : decode cX5_carryOut 87 = .ok (.aload 6, 2) := by decide +kernel
theorem dX5_carryOut_89 : decode cX5_carryOut 89 = .ok (.iload_n 3, 1) := by decide +kernel
theorem dX5_carryOut_90 : decode cX5_carryOut 90 = .ok (.invokevirtual 163, 3) := by decide +kernel
theorem dX5_carryOut_93 : decode cX5_carryOut 93 = .ok (.ifCond .eq 15, 3) := by decide +kernel
theorem dX5_carryOut_96 : decode cX5_carryOut 96 = .ok (.aload 6, 2) := by decide +kernel
theorem dX5_carryOut_98 : decode cX5_carryOut 98 = .ok (.getfield 166, 3) := by decide +kernel
theorem dX5_carryOut_101 : decode cX5_carryOut 101 = .ok (.iload_n 3, 1) := by decide +kernel
theorem dX5_carryOut_102 : decode cX5_carryOut 102 = .ok (.iload 4, 2) := by decide +kernel
theorem dX5_carryOut_104 : decode cX5_carryOut 104 = .ok (.iastore, 1) := by decide +kernel
theorem dX5_carryOut_105 : decode cX5_carryOut 105 = .ok (.goto 48, 3) := by decide +kernel
theorem dX5_carryOut_108 : decode cX5_carryOut 108 = .ok (.iload 5, 2) := by decide +kernel
theorem dX5_carryOut_110 : decode cX5_carryOut 110 = .ok (.bipush 116, 2) := by decide +kernel
theorem dX5_carryOut_112 : decode cX5_carryOut 112 = .ok (.if_icmp .ne 12, 3) := by decide +kernel
theorem dX5_carryOut_115 : decode cX5_carryOut 115 = .ok (.aload 6, 2) := by decide +kernel
theorem dX5_carryOut_117 : decode cX5_carryOut 117 = .ok (.iload_n 3, 1) := by decide +kernel
theorem dX5_carryOut_118 : decode cX5_carryOut 118 = .ok (.putfield 141, 3) := by decide +kernel
theorem dX5_carryOut_121 : decode cX5_carryOut 121 = .ok (.goto 32, 3) := by decide +kernel
theorem dX5_carryOut_124 : decode cX5_carryOut 124 = .ok (.iload 5, 2) := by decide +kernel
theorem dX5_carryOut_126 : decode cX5_carryOut 126 = .ok (.bipush 114, 2) := by decide +kernel
theorem dX5_carryOut_128 : decode cX5_carryOut 128 = .ok (.if_icmp .ne 12, 3) := by decide +kernel
theorem dX5_carryOut_131 : decode cX5_carryOut 131 = .ok (.aload 6, 2) := by decide +kernel
theorem dX5_carryOut_133 : decode cX5_carryOut 133 = .ok (.iconst 1, 1) := by decide +kernel
theorem dX5_carryOut_134 : decode cX5_carryOut 134 = .ok (.putfield 160, 3) := by decide +kernel
theorem dX5_carryOut_137 : decode cX5_carryOut 137 = .ok (.goto 16, 3) := by decide +kernel
theorem dX5_carryOut_140 : decode cX5_carryOut 140 = .ok (.iload 5, 2) := by decide +kernel
theorem dX5_carryOut_142 : decode cX5_carryOut 142 = .ok (.bipush 108, 2) := by decide +kernel
theorem dX5_carryOut_144 : decode cX5_carryOut 144 = .ok (.if_icmp .ne 9, 3) := by decide +kernel
theorem dX5_carryOut_147 : decode cX5_carryOut 147 = .ok (.aload 6, 2) := by decide +kernel
theorem dX5_carryOut_149 : decode cX5_carryOut 149 = .ok (.iconst 0, 1) := by decide +kernel
theorem dX5_carryOut_150 : decode cX5_carryOut 150 = .ok (.putfield 160, 3) := by decide +kernel
theorem dX5_carryOut_153 : decode cX5_carryOut 153 = .ok (.return_, 1) := by decide +kernel
def m_X5_carryOut (v1 : Int32) (μ : fm_I) (ν : fm_L) : Option (fm_I × fm_L) :=
  (m_X3_number v1 ((nI 0)) μ ν).bind (fun r6 => (m_X3_number v1 ((nI 1)) μ ν).bind (fun r16 => (m_X3_number v1 ((nI 2)) μ ν).bind (fun r26 => (m_X3_word v1 μ ν).bind (fun r36 => if r36 = (nI 98) then (m_X3_number v1 ((nI 3)) μ ν).bind (fun r60 => (m_X5_addBand r6 r16 r26 ((nI 0)) r60 μ ν).bind (fun r63 => some ((r63.1, r63.2)))) else (m_X5_bandAt r6 μ ν).bind (fun r69 => fm_o r69 (some ((μ, ν))) (fun y69 => if r36 = (nI 112) then fm_g (Nat.beq (fm_k y69) 0) ((m_X0_hasStrip y69 r16 μ ν).bind (fun r90 => if r90 = 0 then if r36 = (nI 116) then some (((fm_u μ y69 3 r16), ν)) else if r36 = (nI 114) then some (((fm_u μ y69 5 ((nI 1))), ν)) else if r36 = (nI 108) then some (((fm_u μ y69 5 ((nI 0))), ν)) else some ((μ, ν)) else fm_g (fm_in r16 (fm_n ((y69 + 12)))) (some (((fm_u μ ((y69 + 12)) r16.toNatClampNeg r26), ν))))) else if r36 = (nI 116) then fm_g (Nat.beq (fm_k y69) 0) (some (((fm_u μ y69 3 r16), ν))) else if r36 = (nI 114) then fm_g (Nat.beq (fm_k y69) 0) (some (((fm_u μ y69 5 ((nI 1))), ν))) else if r36 = (nI 108) then fm_g (Nat.beq (fm_k y69) 0) (some (((fm_u μ y69 5 ((nI 0))), ν))) else some ((μ, ν))))))))
theorem ok_X5_carryOut : fm_okV yX5_carryOut cX5_carryOut 7 (none : Option Jvm.ClassFile.FieldType) 1 := ⟨m_cd_X5_carryOut, m_im_X5_carryOut, m_se_X5_X5_carryOut, m_ini_X5, by decide +kernel, by decide +kernel, by decide +kernel⟩
set_option maxHeartbeats 4000000 in
set_option maxRecDepth 100000 in
theorem j_X5_carryOut {X : fm_X} {G : fm_G} {l : Launch} {v1 : Int32} {μ : fm_I} {ν : fm_L} (C : fm_C X G l cX5_carryOut RX5 7 (none : Option Jvm.ClassFile.FieldType) 4 85) {F : (fm_I × fm_L) → State → Prop} (hF : F = fm_Qv X G) : fm_J X G 7 F (m_X5_carryOut v1 μ ν) μ ν 0 [(0, .ref (G.2.2.1 0)), (1, .int v1)] [] := by
  unfold m_X5_carryOut
  refine fm_aload_n (pc := 0) C dX5_carryOut_0 rfl rfl ?_
  refine g5_reader (pc := 1) C (by decide) dX5_carryOut_1 m_fl_X5_38 ?_
  refine fm_iload_n (pc := 4) C dX5_carryOut_4 rfl rfl ?_
  refine fm_iconst (pc := 5) (v := (nI 0)) C dX5_carryOut_5 (by decide) ?_
  refine fm_bind (fun r6 e6 => ?_)
  refine fm_cVi0 (pc := 6) C (t_X3_number e6) ok_X3_number ⟨by decide, rfl⟩ m_ml_X5_185 dX5_carryOut_6 ⟨Nat.le_of_ble_eq_true rfl, Nat.le_of_ble_eq_true rfl⟩ rfl rfl (Nat.le_of_ble_eq_true rfl) ?_
  refine fm_istore_n (pc := 9) C dX5_carryOut_9 rfl (by decide) rfl ?_
  refine fm_aload_n (pc := 10) C dX5_carryOut_10 rfl rfl ?_
  refine g5_reader (pc := 11) C (by decide) dX5_carryOut_11 m_fl_X5_38 ?_
  refine fm_iload_n (pc := 14) C dX5_carryOut_14 rfl rfl ?_
  refine fm_iconst (pc := 15) (v := (nI 1)) C dX5_carryOut_15 (by decide) ?_
  refine fm_bind (fun r16 e16 => ?_)
  refine fm_cVi0 (pc := 16) C (t_X3_number e16) ok_X3_number ⟨by decide, rfl⟩ m_ml_X5_185 dX5_carryOut_16 ⟨Nat.le_of_ble_eq_true rfl, Nat.le_of_ble_eq_true rfl⟩ rfl rfl (Nat.le_of_ble_eq_true rfl) ?_
  refine fm_istore_n (pc := 19) C dX5_carryOut_19 rfl (by decide) rfl ?_
  refine fm_aload_n (pc := 20) C dX5_carryOut_20 rfl rfl ?_
  refine g5_reader (pc := 21) C (by decide) dX5_carryOut_21 m_fl_X5_38 ?_
  refine fm_iload_n (pc := 24) C dX5_carryOut_24 rfl rfl ?_
  refine fm_iconst (pc := 25) (v := (nI 2)) C dX5_carryOut_25 (by decide) ?_
  refine fm_bind (fun r26 e26 => ?_)
  refine fm_cVi0 (pc := 26) C (t_X3_number e26) ok_X3_number ⟨by decide, rfl⟩ m_ml_X5_185 dX5_carryOut_26 ⟨Nat.le_of_ble_eq_true rfl, Nat.le_of_ble_eq_true rfl⟩ rfl rfl (Nat.le_of_ble_eq_true rfl) ?_
  refine fm_istore (pc := 29) C dX5_carryOut_29 (by decide) rfl ?_
  refine fm_aload_n (pc := 31) C dX5_carryOut_31 rfl rfl ?_
  refine g5_reader (pc := 32) C (by decide) dX5_carryOut_32 m_fl_X5_38 ?_
  refine fm_iload_n (pc := 35) C dX5_carryOut_35 rfl rfl ?_
  refine fm_bind (fun r36 e36 => ?_)
  refine fm_cVi0 (pc := 36) C (t_X3_word e36) ok_X3_word ⟨by decide, rfl⟩ m_ml_X5_189 dX5_carryOut_36 ⟨Nat.le_of_ble_eq_true rfl, Nat.le_of_ble_eq_true rfl⟩ rfl rfl (Nat.le_of_ble_eq_true rfl) ?_
  refine fm_istore (pc := 39) C dX5_carryOut_39 (by decide) rfl ?_
  refine fm_iload (pc := 41) C dX5_carryOut_41 rfl ?_
  refine fm_bipush (pc := 43) (v := (nI 98)) C dX5_carryOut_43 (by decide) ?_
  refine fm_icmp_ne (pc := 45) (tgt := 67) C dX5_carryOut_45 (by decide) (fun c1 => ?_) (fun c1 => ?_)
  · refine fm_aload_n (pc := 48) C dX5_carryOut_48 rfl rfl ?_
    refine fm_iload_n (pc := 49) C dX5_carryOut_49 rfl rfl ?_
    refine fm_iload_n (pc := 50) C dX5_carryOut_50 rfl rfl ?_
    refine fm_iload (pc := 51) C dX5_carryOut_51 rfl ?_
    refine fm_iconst (pc := 53) (v := (nI 0)) C dX5_carryOut_53 (by decide) ?_
    refine fm_aload_n (pc := 54) C dX5_carryOut_54 rfl rfl ?_
    refine g5_reader (pc := 55) C (by decide) dX5_carryOut_55 m_fl_X5_38 ?_
    refine fm_iload_n (pc := 58) C dX5_carryOut_58 rfl rfl ?_
    refine fm_iconst (pc := 59) (v := (nI 3)) C dX5_carryOut_59 (by decide) ?_
    refine fm_bind (fun r60 e60 => ?_)
    refine fm_cVi0 (pc := 60) C (t_X3_number e60) ok_X3_number ⟨by decide, rfl⟩ m_ml_X5_185 dX5_carryOut_60 ⟨Nat.le_of_ble_eq_true rfl, Nat.le_of_ble_eq_true rfl⟩ rfl rfl (Nat.le_of_ble_eq_true rfl) ?_
    refine fm_bind (fun r63 e63 => ?_)
    refine fm_cVv (pc := 63) C (t_X5_addBand e63) ok_X5_addBand ⟨by decide, rfl⟩ m_ml_X5_156 dX5_carryOut_63 ⟨Nat.le_of_ble_eq_true rfl, Nat.le_of_ble_eq_true rfl⟩ rfl rfl (Nat.le_of_ble_eq_true rfl) ?_
    exact fm_vret (pc := 66) C hF rfl dX5_carryOut_66
  · refine fm_aload_n (pc := 67) C dX5_carryOut_67 rfl rfl ?_
    refine fm_iload_n (pc := 68) C dX5_carryOut_68 rfl rfl ?_
    refine fm_bind (fun r69 e69 => ?_)
    refine fm_cVq0 (pc := 69) C (t_X5_bandAt e69) ok_X5_bandAt ⟨by decide, rfl⟩ m_ml_X5_112 dX5_carryOut_69 ⟨Nat.le_of_ble_eq_true rfl, Nat.le_of_ble_eq_true rfl⟩ rfl rfl (Nat.le_of_ble_eq_true rfl) ?_
    refine fm_opt (fun e69 => ?_) (fun y69 e69 => ?_)
    · subst e69
      refine fm_astoreq (x := none) (pc := 72) C dX5_carryOut_72 (by decide) rfl ?_
      refine fm_aloadq (x := none) (pc := 74) C dX5_carryOut_74 rfl ?_
      refine fm_ifnonnullN (pc := 76) C dX5_carryOut_76 ?_
      exact fm_vret (pc := 79) C hF rfl dX5_carryOut_79
    · subst e69
      refine fm_astore (pc := 72) C dX5_carryOut_72 (by decide) rfl ?_
      refine fm_aload (pc := 74) C dX5_carryOut_74 rfl ?_
      refine fm_ifnonnullR (pc := 76) (tgt := 80) C dX5_carryOut_76 (by decide) ?_
      refine fm_iload (pc := 80) C dX5_carryOut_80 rfl ?_
      refine fm_bipush (pc := 82) (v := (nI 112)) C dX5_carryOut_82 (by decide) ?_
      refine fm_icmp_ne (pc := 84) (tgt := 108) C dX5_carryOut_84 (by decide) (fun c2 => ?_) (fun c2 => ?_)
      · refine fm_aload (pc := 87) C dX5_carryOut_87 rfl ?_
        refine fm_iload_n (pc := 89) C dX5_carryOut_89 rfl rfl ?_
        refine fm_guard (fun h3 => ?_)
        refine fm_bind (fun r90 e90 => ?_)
        refine fm_cVi0 (pc := 90) C (t_X0_hasStrip e90) ok_X0_hasStrip (fm_kcn0 (Nat.eq_of_beq_eq_true h3)) m_ml_X5_163 dX5_carryOut_90 ⟨Nat.le_of_ble_eq_true rfl, Nat.le_of_ble_eq_true rfl⟩ rfl rfl (Nat.le_of_ble_eq_true rfl) ?_
        refine fm_if_eq (pc := 93) (tgt := 108) C dX5_carryOut_93 (by decide) (fun c4 => ?_) (fun c4 => ?_)
        · refine fm_iload (pc := 108) C dX5_carryOut_108 rfl ?_
          refine fm_bipush (pc := 110) (v := (nI 116)) C dX5_carryOut_110 (by decide) ?_
          refine fm_icmp_ne (pc := 112) (tgt := 124) C dX5_carryOut_112 (by decide) (fun c5 => ?_) (fun c5 => ?_)
          · refine fm_aload (pc := 115) C dX5_carryOut_115 rfl ?_
            refine fm_iload_n (pc := 117) C dX5_carryOut_117 rfl rfl ?_
            refine p0_twists (pc := 118) C (Nat.eq_of_beq_eq_true h3) dX5_carryOut_118 m_fl_X5_141 ?_
            refine fm_goto (pc := 121) (tgt := 153) C dX5_carryOut_121 (by decide) ?_
            exact fm_vret (pc := 153) C hF rfl dX5_carryOut_153
          · refine fm_iload (pc := 124) C dX5_carryOut_124 rfl ?_
            refine fm_bipush (pc := 126) (v := (nI 114)) C dX5_carryOut_126 (by decide) ?_
            refine fm_icmp_ne (pc := 128) (tgt := 140) C dX5_carryOut_128 (by decide) (fun c6 => ?_) (fun c6 => ?_)
            · refine fm_aload (pc := 131) C dX5_carryOut_131 rfl ?_
              refine fm_iconst (pc := 133) (v := (nI 1)) C dX5_carryOut_133 (by decide) ?_
              refine p0_hand (pc := 134) C (Nat.eq_of_beq_eq_true h3) dX5_carryOut_134 m_fl_X5_160 ?_
              refine fm_goto (pc := 137) (tgt := 153) C dX5_carryOut_137 (by decide) ?_
              exact fm_vret (pc := 153) C hF rfl dX5_carryOut_153
            · refine fm_iload (pc := 140) C dX5_carryOut_140 rfl ?_
              refine fm_bipush (pc := 142) (v := (nI 108)) C dX5_carryOut_142 (by decide) ?_
              refine fm_icmp_ne (pc := 144) (tgt := 153) C dX5_carryOut_144 (by decide) (fun c7 => ?_) (fun c7 => ?_)
              · refine fm_aload (pc := 147) C dX5_carryOut_147 rfl ?_
                refine fm_iconst (pc := 149) (v := (nI 0)) C dX5_carryOut_149 (by decide) ?_
                refine p0_hand (pc := 150) C (Nat.eq_of_beq_eq_true h3) dX5_carryOut_150 m_fl_X5_160 ?_
                exact fm_vret (pc := 153) C hF rfl dX5_carryOut_153
              · exact fm_vret (pc := 153) C hF rfl dX5_carryOut_153
        · refine fm_aload (pc := 96) C dX5_carryOut_96 rfl ?_
          refine g0_colours (pc := 98) C (Nat.eq_of_beq_eq_true h3) dX5_carryOut_98 m_fl_X5_166 ?_
          refine fm_iload_n (pc := 101) C dX5_carryOut_101 rfl rfl ?_
          refine fm_iload (pc := 102) C dX5_carryOut_102 rfl ?_
          refine fm_guard (fun h8 => ?_)
          refine fm_iast (pc := 104) C (fm_kB (Nat.eq_of_beq_eq_true h3)) h8 dX5_carryOut_104 ?_
          refine fm_goto (pc := 105) (tgt := 153) C dX5_carryOut_105 (by decide) ?_
          exact fm_vret (pc := 153) C hF rfl dX5_carryOut_153
      · refine fm_iload (pc := 108) C dX5_carryOut_108 rfl ?_
        refine fm_bipush (pc := 110) (v := (nI 116)) C dX5_carryOut_110 (by decide) ?_
        refine fm_icmp_ne (pc := 112) (tgt := 124) C dX5_carryOut_112 (by decide) (fun c9 => ?_) (fun c9 => ?_)
        · refine fm_aload (pc := 115) C dX5_carryOut_115 rfl ?_
          refine fm_iload_n (pc := 117) C dX5_carryOut_117 rfl rfl ?_
          refine fm_guard (fun h10 => ?_)
          refine p0_twists (pc := 118) C (Nat.eq_of_beq_eq_true h10) dX5_carryOut_118 m_fl_X5_141 ?_
          refine fm_goto (pc := 121) (tgt := 153) C dX5_carryOut_121 (by decide) ?_
          exact fm_vret (pc := 153) C hF rfl dX5_carryOut_153
        · refine fm_iload (pc := 124) C dX5_carryOut_124 rfl ?_
          refine fm_bipush (pc := 126) (v := (nI 114)) C dX5_carryOut_126 (by decide) ?_
          refine fm_icmp_ne (pc := 128) (tgt := 140) C dX5_carryOut_128 (by decide) (fun c11 => ?_) (fun c11 => ?_)
          · refine fm_aload (pc := 131) C dX5_carryOut_131 rfl ?_
            refine fm_iconst (pc := 133) (v := (nI 1)) C dX5_carryOut_133 (by decide) ?_
            refine fm_guard (fun h12 => ?_)
            refine p0_hand (pc := 134) C (Nat.eq_of_beq_eq_true h12) dX5_carryOut_134 m_fl_X5_160 ?_
            refine fm_goto (pc := 137) (tgt := 153) C dX5_carryOut_137 (by decide) ?_
            exact fm_vret (pc := 153) C hF rfl dX5_carryOut_153
          · refine fm_iload (pc := 140) C dX5_carryOut_140 rfl ?_
            refine fm_bipush (pc := 142) (v := (nI 108)) C dX5_carryOut_142 (by decide) ?_
            refine fm_icmp_ne (pc := 144) (tgt := 153) C dX5_carryOut_144 (by decide) (fun c13 => ?_) (fun c13 => ?_)
            · refine fm_aload (pc := 147) C dX5_carryOut_147 rfl ?_
              refine fm_iconst (pc := 149) (v := (nI 0)) C dX5_carryOut_149 (by decide) ?_
              refine fm_guard (fun h14 => ?_)
              refine p0_hand (pc := 150) C (Nat.eq_of_beq_eq_true h14) dX5_carryOut_150 m_fl_X5_160 ?_
              exact fm_vret (pc := 153) C hF rfl dX5_carryOut_153
            · exact fm_vret (pc := 153) C hF rfl dX5_carryOut_153
theorem t_X5_carryOut {l : Launch} {G : fm_G} {v1 : Int32} {μ : fm_I} {ν : fm_L} {r : fm_I × fm_L} (h : m_X5_carryOut v1 μ ν = some r) : fm_Mv l G yX5_carryOut cX5_carryOut 7 (none : Option Jvm.ClassFile.FieldType) 4 85 [.ref (G.2.2.1 0), .int v1] μ ν r := fm_Mv_of (by decide +kernel) (Nat.le_of_ble_eq_true rfl) (fun _ C => j_X5_carryOut C rfl r h)
theorem dX5_table_0 : decode cX5_table 0 = .ok (.aload_n 0, 1) := by decide +kernel
theorem dX5_table_1 : decode cX5_table 1 = .ok (.iload_n 1, 1) := by decide +kernel
theorem dX5_table_2 : decode cX5_table 2 = .ok (.invokevirtual 75, 3) := by decide +kernel
theorem dX5_table_5 : decode cX5_table 5 = .ok (.istore_n 2, 1) := by decide +kernel
theorem dX5_table_6 : decode cX5_table 6 = .ok (.iload_n 2, 1) := by decide +kernel
theorem dX5_table_7 : decode cX5_table 7 = .ok (.ifCond .eq 9, 3) := by decide +kernel
theorem dX5_table_10 : decode cX5_table 10 = .ok (.aload_n 0, 1) := by decide +kernel
theorem dX5_table_11 : decode cX5_table 11 = .ok (.iload_n 2, 1) := by decide +kernel
theorem dX5_table_12 : decode cX5_table 12 = .ok (.invokevirtual 67, 3) := by decide +kernel
theorem dX5_table_15 : decode cX5_table 15 = .ok (.ireturn, 1) := by decide +kernel
theorem dX5_table_16 : decode cX5_table 16 = .ok (.aload_n 0, 1) := by decide +kernel
theorem dX5_table_17 : decode cX5_table 17 = .ok (.getfield 38, 3) := by decide +kernel
theorem dX5_table_20 : decode cX5_table 20 = .ok (.aload_n 0, 1) := by decide +kernel
theorem dX5_table_21 : decode cX5_table 21 = .ok (.getfield 11, 3) := by decide +kernel
theorem dX5_table_24 : decode cX5_table 24 = .ok (.iload_n 1, 1) := by decide +kernel
theorem dX5_table_25 : decode cX5_table 25 = .ok (.aaload, 1) := by decide +kernel
theorem dX5_table_26 : decode cX5_table 26 = .ok (.aload_n 0, 1) := by decide +kernel
theorem dX5_table_27 : decode cX5_table 27 = .ok (.getfield 17, 3) := by decide +kernel
theorem dX5_table_30 : decode cX5_table 30 = .ok (.aload_n 0, 1) := by decide +kernel
theorem dX5_table_31 : decode cX5_table 31 = .ok (.getfield 153, 3) := by decide +kernel
theorem dX5_table_34 : decode cX5_table 34 = .ok (.invokevirtual 169, 3) := by decide +kernel
theorem dX5_table_37 : decode cX5_table 37 = .ok (.aload_n 0, 1) := by decide +kernel
theorem dX5_table_38 : decode cX5_table 38 = .ok (.getfield 38, 3) := by decide +kernel
theorem dX5_table_41 : decode cX5_table 41 = .ok (.invokevirtual 173, 3) := by decide +kernel
theorem dX5_table_44 : decode cX5_table 44 = .ok (.aload_n 0, 1) := by decide +kernel
theorem dX5_table_45 : decode cX5_table 45 = .ok (.aload_n 0, 1) := by decide +kernel
theorem dX5_table_46 : decode cX5_table 46 = .ok (.getfield 38, 3) := by decide +kernel
theorem dX5_table_49 : decode cX5_table 49 = .ok (.getfield 176, 3) := by decide +kernel
theorem dX5_table_52 : decode cX5_table 52 = .ok (.putfield 56, 3) := by decide +kernel
theorem dX5_table_55 : decode cX5_table 55 = .ok (.aload_n 0, 1) := by decide +kernel
theorem dX5_table_56 : decode cX5_table 56 = .ok (.getfield 56, 3) := by decide +kernel
theorem dX5_table_59 : decode cX5_table 59 = .ok (.iconst (-1), 1) := by decide +kernel
theorem dX5_table_60 : decode cX5_table 60 = .ok (.if_icmp .eq 10, 3) := by decide +kernel
theorem dX5_table_63 : decode cX5_table 63 = .ok (.aload_n 0, 1) := by decide +kernel
theorem dX5_table_64 : decode cX5_table 64 = .ok (.bipush 6, 2) := by decide +kernel
theorem dX5_table_66 : decode cX5_table 66 = .ok (.invokevirtual 67, 3) := by decide +kernel
theorem dX5_table_69 : decode cX5_table 69 = .ok (.ireturn, 1) := by decide +kernel
theorem dX5_table_70 : decode cX5_table 70 = .ok (.iconst 0, 1) := by decide +kernel
theorem dX5_table_71 : decode cX5_table 71 = .ok (.istore_n 3, 1) := by decide +kernel
theorem dX5_table_72 : decode cX5_table 72 = .ok (.iload_n 3, 1) := by decide +kernel
theorem dX5_table_73 : decode cX5_table 73 = .ok (.aload_n 0, 1) := by decide +kernel
theorem dX5_table_74 : decode cX5_table 74 = .ok (.getfield 38, 3) := by decide +kernel
theorem dX5_table_77 : decode cX5_table 77 = .ok (.getfield 179, 3) := by decide +kernel
theorem dX5_table_80 : decode cX5_table 80 = .ok (.if_icmp .ge 14, 3) := by decide +kernel
theorem dX5_table_83 : decode cX5_table 83 = .ok (.aload_n 0, 1) := by decide +kernel
theorem dX5_table_84 : decode cX5_table 84 = .ok (.iload_n 3, 1) := by decide +kernel
theorem dX5_table_85 : decode cX5_table 85 = .ok (.invokevirtual 182, 3) := by decide +kernel
theorem dX5_table_88 : decode cX5_table 88 = .ok (.iinc 3 1, 3) := by decide +kernel
theorem dX5_table_91 : decode cX5_table 91 = .ok (.goto (-19), 3) := by decide +kernel
theorem dX5_table_94 : decode cX5_table 94 = .ok (.aload_n 0, 1) := by decide +kernel
theorem dX5_table_95 : decode cX5_table 95 = .ok (.getfield 38, 3) := by decide +kernel
theorem dX5_table_98 : decode cX5_table 98 = .ok (.getfield 179, 3) := by decide +kernel
theorem dX5_table_101 : decode cX5_table 101 = .ok (.ireturn, 1) := by decide +kernel
def m_X5_table_72  (K : fm_I → fm_L → Option (Int32 × fm_I × fm_L)) : Nat → Int32 → fm_I → fm_L → Option (Int32 × fm_I × fm_L)
  | 0, _, _, _ => none
  | k + 1, v3, μ, ν => if (μ 6 1) ≤ v3 then K  μ ν else (m_X5_carryOut v3 μ ν).bind (fun r85 => m_X5_table_72 K k ((v3 + nI 1)) r85.1 r85.2)
def m_X5_table (v1 : Int32) (μ : fm_I) (ν : fm_L) : Option (Int32 × fm_I × fm_L) :=
  (m_X5_rowRefusal v1 μ ν).bind (fun r2 => if r2 = 0 then fm_g (fm_in v1 8) ((m_X3_begin ((18 + v1.toNatClampNeg)) 2 ((μ 0 7)) μ ν).bind (fun r34 => (m_X3_readItems  r34.1 r34.2).bind (fun r41 => if (((fm_u r41.1 0 13 ((r41.1 6 0)))) 0 13) = (-1 : Int32) then m_X5_table_72  (fun μ72 ν72 => some (((μ72 6 1), μ72, ν72))) 5000 ((nI 0)) (fm_u r41.1 0 13 ((r41.1 6 0))) r41.2 else (m_X5_refuse ((nI 6)) (fm_u r41.1 0 13 ((r41.1 6 0))) r41.2).bind (fun r66 => some ((r66.1, r66.2.1, r66.2.2)))))) else (m_X5_refuse r2 μ ν).bind (fun r12 => some ((r12.1, r12.2.1, r12.2.2))))
theorem ok_X5_table : fm_okV yX5_table cX5_table 4 (some .int) 1 := ⟨m_cd_X5_table, m_im_X5_table, m_se_X5_X5_table, m_ini_X5, by decide +kernel, by decide +kernel, by decide +kernel⟩
set_option maxHeartbeats 4000000 in
set_option maxRecDepth 100000 in
theorem j_X5_table_72_ {X : fm_X} {G : fm_G} {l : Launch}  (C : fm_C X G l cX5_table RX5 4 (some .int) 12 325) {F : (Int32 × fm_I × fm_L) → State → Prop} (hF : F = fm_Qi X G)  {K : fm_I → fm_L → Option (Int32 × fm_I × fm_L)} (hK : ∀  (μ : fm_I) (ν : fm_L), fm_J X G 4 F (K μ ν) μ ν 94 [(0, .ref (G.2.2.1 0))] []) : ∀ (k : Nat) (v3 : Int32) (μ : fm_I) (ν : fm_L), fm_J X G 4 F (m_X5_table_72  K k v3 μ ν) μ ν 72 [(0, .ref (G.2.2.1 0)), (3, .int v3)] [] := by
  intro k
  induction k with
  | zero =>
    intro v3 μ ν
    exact fm_none
  | succ k ih =>
    intro v3 μ ν
    rw [m_X5_table_72]
    refine fm_iload_n (pc := 72) C dX5_table_72 rfl rfl ?_
    refine fm_aload_n (pc := 73) C dX5_table_73 rfl rfl ?_
    refine g5_reader (pc := 74) C (by decide) dX5_table_74 m_fl_X5_38 ?_
    refine g3_items (pc := 77) C (by decide) dX5_table_77 m_fl_X5_179 ?_
    refine fm_icmp_ge (pc := 80) (tgt := 94) C dX5_table_80 (by decide) (fun c4 => ?_) (fun c4 => ?_)
    · refine fm_less (lv' := [(0, .ref (G.2.2.1 0))]) (by repeat (first | exact trivial | refine ⟨rfl, ?_⟩)) ?_
      exact hK  _ _
    · refine fm_aload_n (pc := 83) C dX5_table_83 rfl rfl ?_
      refine fm_iload_n (pc := 84) C dX5_table_84 rfl rfl ?_
      refine fm_bind (fun r85 e85 => ?_)
      refine fm_cVv (pc := 85) C (t_X5_carryOut e85) ok_X5_carryOut ⟨by decide, rfl⟩ m_ml_X5_182 dX5_table_85 ⟨Nat.le_of_ble_eq_true rfl, Nat.le_of_ble_eq_true rfl⟩ rfl rfl (Nat.le_of_ble_eq_true rfl) ?_
      refine fm_iinc (pc := 88) C dX5_table_88 rfl (v := (v3 + nI 1)) rfl (by decide) rfl ?_
      refine fm_goto (pc := 91) (tgt := 72) C dX5_table_91 (by decide) ?_
      refine fm_less (lv' := [(0, .ref (G.2.2.1 0)), (3, .int ((v3 + nI 1)))]) (by repeat (first | exact trivial | refine ⟨rfl, ?_⟩)) ?_
      exact ih _ _ _
set_option maxHeartbeats 4000000 in
set_option maxRecDepth 100000 in
theorem j_X5_table {X : fm_X} {G : fm_G} {l : Launch} {v1 : Int32} {μ : fm_I} {ν : fm_L} (C : fm_C X G l cX5_table RX5 4 (some .int) 12 325) {F : (Int32 × fm_I × fm_L) → State → Prop} (hF : F = fm_Qi X G) : fm_J X G 4 F (m_X5_table v1 μ ν) μ ν 0 [(0, .ref (G.2.2.1 0)), (1, .int v1)] [] := by
  unfold m_X5_table
  refine fm_aload_n (pc := 0) C dX5_table_0 rfl rfl ?_
  refine fm_iload_n (pc := 1) C dX5_table_1 rfl rfl ?_
  refine fm_bind (fun r2 e2 => ?_)
  refine fm_cVi0 (pc := 2) C (t_X5_rowRefusal e2) ok_X5_rowRefusal ⟨by decide, rfl⟩ m_ml_X5_75 dX5_table_2 ⟨Nat.le_of_ble_eq_true rfl, Nat.le_of_ble_eq_true rfl⟩ rfl rfl (Nat.le_of_ble_eq_true rfl) ?_
  refine fm_istore_n (pc := 5) C dX5_table_5 rfl (by decide) rfl ?_
  refine fm_iload_n (pc := 6) C dX5_table_6 rfl rfl ?_
  refine fm_if_eq (pc := 7) (tgt := 16) C dX5_table_7 (by decide) (fun c1 => ?_) (fun c1 => ?_)
  · refine fm_aload_n (pc := 16) C dX5_table_16 rfl rfl ?_
    refine g5_reader (pc := 17) C (by decide) dX5_table_17 m_fl_X5_38 ?_
    refine fm_aload_n (pc := 20) C dX5_table_20 rfl rfl ?_
    refine g5_shelves (pc := 21) C (by decide) dX5_table_21 m_fl_X5_11 ?_
    refine fm_iload_n (pc := 24) C dX5_table_24 rfl rfl ?_
    refine fm_guard (fun h2 => ?_)
    refine fm_aaldS (pc := 25) C h2 dX5_table_25 ?_
    refine fm_aload_n (pc := 26) C dX5_table_26 rfl rfl ?_
    refine g5_bands (pc := 27) C (by decide) dX5_table_27 m_fl_X5_17 ?_
    refine fm_aload_n (pc := 30) C dX5_table_30 rfl rfl ?_
    refine g5_bandCount (pc := 31) C (by decide) dX5_table_31 m_fl_X5_153 ?_
    refine fm_bind (fun r34 e34 => ?_)
    refine fm_cVv (pc := 34) C (t_X3_begin e34) ok_X3_begin ⟨by decide, rfl⟩ m_ml_X5_169 dX5_table_34 ⟨Nat.le_of_ble_eq_true rfl, Nat.le_of_ble_eq_true rfl⟩ rfl rfl (Nat.le_of_ble_eq_true rfl) ?_
    refine fm_aload_n (pc := 37) C dX5_table_37 rfl rfl ?_
    refine g5_reader (pc := 38) C (by decide) dX5_table_38 m_fl_X5_38 ?_
    refine fm_bind (fun r41 e41 => ?_)
    refine fm_cVv (pc := 41) C (t_X3_readItems e41) ok_X3_readItems ⟨by decide, rfl⟩ m_ml_X5_173 dX5_table_41 ⟨Nat.le_of_ble_eq_true rfl, Nat.le_of_ble_eq_true rfl⟩ rfl rfl (Nat.le_of_ble_eq_true rfl) ?_
    refine fm_aload_n (pc := 44) C dX5_table_44 rfl rfl ?_
    refine fm_aload_n (pc := 45) C dX5_table_45 rfl rfl ?_
    refine g5_reader (pc := 46) C (by decide) dX5_table_46 m_fl_X5_38 ?_
    refine g3_fault (pc := 49) C (by decide) dX5_table_49 m_fl_X5_176 ?_
    refine p5_latestFault (pc := 52) C (by decide) dX5_table_52 m_fl_X5_56 ?_
    refine fm_aload_n (pc := 55) C dX5_table_55 rfl rfl ?_
    refine g5_latestFault (pc := 56) C (by decide) dX5_table_56 m_fl_X5_56 ?_
    refine fm_iconst (pc := 59) (v := (-1 : Int32)) C dX5_table_59 (by decide) ?_
    refine fm_icmp_eq (pc := 60) (tgt := 70) C dX5_table_60 (by decide) (fun c3 => ?_) (fun c3 => ?_)
    · refine fm_iconst (pc := 70) (v := (nI 0)) C dX5_table_70 (by decide) ?_
      refine fm_istore_n (pc := 71) C dX5_table_71 rfl (by decide) rfl ?_
      refine fm_less (lv' := [(0, .ref (G.2.2.1 0)), (3, .int ((nI 0)))]) (by repeat (first | exact trivial | refine ⟨rfl, ?_⟩)) ?_
      refine j_X5_table_72_ C  hF  (fun μ72 ν72 => ?_) _ _ _ _
      refine fm_aload_n (pc := 94) C dX5_table_94 rfl rfl ?_
      refine g5_reader (pc := 95) C (by decide) dX5_table_95 m_fl_X5_38 ?_
      refine g3_items (pc := 98) C (by decide) dX5_table_98 m_fl_X5_179 ?_
      exact fm_zret (pc := 101) C hF rfl rfl dX5_table_101
    · refine fm_aload_n (pc := 63) C dX5_table_63 rfl rfl ?_
      refine fm_bipush (pc := 64) (v := (nI 6)) C dX5_table_64 (by decide) ?_
      refine fm_bind (fun r66 e66 => ?_)
      refine fm_cVi (pc := 66) C (t_X5_refuse e66) ok_X5_refuse ⟨by decide, rfl⟩ m_ml_X5_67 dX5_table_66 ⟨Nat.le_of_ble_eq_true rfl, Nat.le_of_ble_eq_true rfl⟩ rfl rfl (Nat.le_of_ble_eq_true rfl) ?_
      exact fm_zret (pc := 69) C hF rfl rfl dX5_table_69
  · refine fm_aload_n (pc := 10) C dX5_table_10 rfl rfl ?_
    refine fm_iload_n (pc := 11) C dX5_table_11 rfl rfl ?_
    refine fm_bind (fun r12 e12 => ?_)
    refine fm_cVi (pc := 12) C (t_X5_refuse e12) ok_X5_refuse ⟨by decide, rfl⟩ m_ml_X5_67 dX5_table_12 ⟨Nat.le_of_ble_eq_true rfl, Nat.le_of_ble_eq_true rfl⟩ rfl rfl (Nat.le_of_ble_eq_true rfl) ?_
    exact fm_zret (pc := 15) C hF rfl rfl dX5_table_15
theorem t_X5_table {l : Launch} {G : fm_G} {v1 : Int32} {μ : fm_I} {ν : fm_L} {r : Int32 × fm_I × fm_L} (h : m_X5_table v1 μ ν = some r) : fm_Mi l G yX5_table cX5_table 4 (some .int) 12 325 [.ref (G.2.2.1 0), .int v1] μ ν r := fm_Mi_of (by decide +kernel) (Nat.le_of_ble_eq_true rfl) (fun _ C => j_X5_table C rfl r h)
theorem dX5_fault_0 : decode cX5_fault 0 = .ok (.aload_n 0, 1) := by decide +kernel
theorem dX5_fault_1 : decode cX5_fault 1 = .ok (.getfield 56, 3) := by decide +kernel
theorem dX5_fault_4 : decode cX5_fault 4 = .ok (.ireturn, 1) := by decide +kernel
def m_X5_fault  (μ : fm_I) (ν : fm_L) : Option (Int32) :=
  some ((μ 0 13))
theorem ok_X5_fault : fm_okV yX5_fault cX5_fault 1 (some .int) 0 := ⟨m_cd_X5_fault, m_im_X5_fault, m_se_X5_X5_fault, m_ini_X5, by decide +kernel, by decide +kernel, by decide +kernel⟩
set_option maxHeartbeats 4000000 in
set_option maxRecDepth 100000 in
theorem j_X5_fault {X : fm_X} {G : fm_G} {l : Launch}  {μ : fm_I} {ν : fm_L} (C : fm_C X G l cX5_fault RX5 1 (some .int) 1 12) {F : Int32 → State → Prop} (hF : F = fun r => fm_Qi X G (r, μ, ν)) : fm_J X G 1 F (m_X5_fault  μ ν) μ ν 0 [(0, .ref (G.2.2.1 0))] [] := by
  unfold m_X5_fault
  refine fm_aload_n (pc := 0) C dX5_fault_0 rfl rfl ?_
  refine g5_latestFault (pc := 1) C (by decide) dX5_fault_1 m_fl_X5_56 ?_
  exact fm_zret0 (pc := 4) C hF rfl rfl dX5_fault_4
theorem t_X5_fault {l : Launch} {G : fm_G}  {μ : fm_I} {ν : fm_L} {r : Int32} (h : m_X5_fault  μ ν = some r) : fm_Mi l G yX5_fault cX5_fault 1 (some .int) 1 12 [.ref (G.2.2.1 0)] μ ν (r, μ, ν) := fm_Mi_of (by decide +kernel) (Nat.le_of_ble_eq_true rfl) (fun _ C => j_X5_fault C rfl r h)
theorem dX5_on_0 : decode cX5_on 0 = .ok (.aload_n 0, 1) := by decide +kernel
theorem dX5_on_1 : decode cX5_on 1 = .ok (.iload_n 1, 1) := by decide +kernel
theorem dX5_on_2 : decode cX5_on 2 = .ok (.invokevirtual 112, 3) := by decide +kernel
theorem dX5_on_5 : decode cX5_on 5 = .ok (.astore_n 3, 1) := by decide +kernel
theorem dX5_on_6 : decode cX5_on 6 = .ok (.aload_n 3, 1) := by decide +kernel
theorem dX5_on_7 : decode cX5_on 7 = .ok (.ifnull 11, 3) := by decide +kernel
theorem dX5_on_10 : decode cX5_on 10 = .ok (.aload_n 3, 1) := by decide +kernel
theorem dX5_on_11 : decode cX5_on 11 = .ok (.iload_n 2, 1) := by decide +kernel
theorem dX5_on_12 : decode cX5_on 12 = .ok (.invokevirtual 163, 3) := by decide +kernel
theorem dX5_on_15 : decode cX5_on 15 = .ok (.ifCond .ne 9, 3) := by decide +kernel
theorem dX5_on_18 : decode cX5_on 18 = .ok (.aload_n 0, 1) := by decide +kernel
theorem dX5_on_19 : decode cX5_on 19 = .ok (.iconst 1, 1) := by decide +kernel
theorem dX5_on_20 : decode cX5_on 20 = .ok (.invokevirtual 67, 3) := by decide +kernel
theorem dX5_on_23 : decode cX5_on 23 = .ok (.ireturn, 1) := by decide +kernel
theorem dX5_on_24 : decode cX5_on 24 = .ok (.aload_n 3, 1) := by decide +kernel
theorem dX5_on_25 : decode cX5_on 25 = .ok (.iload_n 2, 1) := by decide +kernel
theorem dX5_on_26 : decode cX5_on 26 = .ok (.invokevirtual 128, 3) := by decide +kernel
theorem dX5_on_29 : decode cX5_on 29 = .ok (.ireturn, 1) := by decide +kernel
def m_X5_on (v1 : Int32) (v2 : Int32) (μ : fm_I) (ν : fm_L) : Option (Int32 × fm_I × fm_L) :=
  (m_X5_bandAt v1 μ ν).bind (fun r2 => fm_o r2 ((m_X5_refuse ((nI 1)) μ ν).bind (fun r20 => some ((r20.1, r20.2.1, r20.2.2)))) (fun y2 => fm_g (Nat.beq (fm_k y2) 0) ((m_X0_hasStrip y2 v2 μ ν).bind (fun r12 => if r12 = 0 then (m_X5_refuse ((nI 1)) μ ν).bind (fun r20 => some ((r20.1, r20.2.1, r20.2.2))) else (m_X0_follower y2 v2 μ ν).bind (fun r26 => some ((r26, μ, ν)))))))
theorem ok_X5_on : fm_okV yX5_on cX5_on 4 (some .int) 2 := ⟨m_cd_X5_on, m_im_X5_on, m_se_X5_X5_on, m_ini_X5, by decide +kernel, by decide +kernel, by decide +kernel⟩
set_option maxHeartbeats 4000000 in
set_option maxRecDepth 100000 in
theorem j_X5_on {X : fm_X} {G : fm_G} {l : Launch} {v1 : Int32} {v2 : Int32} {μ : fm_I} {ν : fm_L} (C : fm_C X G l cX5_on RX5 4 (some .int) 4 82) {F : (Int32 × fm_I × fm_L) → State → Prop} (hF : F = fm_Qi X G) : fm_J X G 4 F (m_X5_on v1 v2 μ ν) μ ν 0 [(0, .ref (G.2.2.1 0)), (1, .int v1), (2, .int v2)] [] := by
  unfold m_X5_on
  refine fm_aload_n (pc := 0) C dX5_on_0 rfl rfl ?_
  refine fm_iload_n (pc := 1) C dX5_on_1 rfl rfl ?_
  refine fm_bind (fun r2 e2 => ?_)
  refine fm_cVq0 (pc := 2) C (t_X5_bandAt e2) ok_X5_bandAt ⟨by decide, rfl⟩ m_ml_X5_112 dX5_on_2 ⟨Nat.le_of_ble_eq_true rfl, Nat.le_of_ble_eq_true rfl⟩ rfl rfl (Nat.le_of_ble_eq_true rfl) ?_
  refine fm_opt (fun e2 => ?_) (fun y2 e2 => ?_)
  · subst e2
    refine fm_astoreq_n (x := none) (pc := 5) C dX5_on_5 rfl (by decide) rfl ?_
    refine fm_aloadq_n (x := none) (pc := 6) C dX5_on_6 rfl rfl ?_
    refine fm_ifnullN (pc := 7) (tgt := 18) C dX5_on_7 (by decide) ?_
    refine fm_aload_n (pc := 18) C dX5_on_18 rfl rfl ?_
    refine fm_iconst (pc := 19) (v := (nI 1)) C dX5_on_19 (by decide) ?_
    refine fm_bind (fun r20 e20 => ?_)
    refine fm_cVi (pc := 20) C (t_X5_refuse e20) ok_X5_refuse ⟨by decide, rfl⟩ m_ml_X5_67 dX5_on_20 ⟨Nat.le_of_ble_eq_true rfl, Nat.le_of_ble_eq_true rfl⟩ rfl rfl (Nat.le_of_ble_eq_true rfl) ?_
    exact fm_zret (pc := 23) C hF rfl rfl dX5_on_23
  · subst e2
    refine fm_astore_n (pc := 5) C dX5_on_5 rfl (by decide) rfl ?_
    refine fm_aload_n (pc := 6) C dX5_on_6 rfl rfl ?_
    refine fm_ifnullR (pc := 7) C dX5_on_7 ?_
    refine fm_aload_n (pc := 10) C dX5_on_10 rfl rfl ?_
    refine fm_iload_n (pc := 11) C dX5_on_11 rfl rfl ?_
    refine fm_guard (fun h1 => ?_)
    refine fm_bind (fun r12 e12 => ?_)
    refine fm_cVi0 (pc := 12) C (t_X0_hasStrip e12) ok_X0_hasStrip (fm_kcn0 (Nat.eq_of_beq_eq_true h1)) m_ml_X5_163 dX5_on_12 ⟨Nat.le_of_ble_eq_true rfl, Nat.le_of_ble_eq_true rfl⟩ rfl rfl (Nat.le_of_ble_eq_true rfl) ?_
    refine fm_if_ne (pc := 15) (tgt := 24) C dX5_on_15 (by decide) (fun c2 => ?_) (fun c2 => ?_)
    · refine fm_aload_n (pc := 18) C dX5_on_18 rfl rfl ?_
      refine fm_iconst (pc := 19) (v := (nI 1)) C dX5_on_19 (by decide) ?_
      refine fm_bind (fun r20 e20 => ?_)
      refine fm_cVi (pc := 20) C (t_X5_refuse e20) ok_X5_refuse ⟨by decide, rfl⟩ m_ml_X5_67 dX5_on_20 ⟨Nat.le_of_ble_eq_true rfl, Nat.le_of_ble_eq_true rfl⟩ rfl rfl (Nat.le_of_ble_eq_true rfl) ?_
      exact fm_zret (pc := 23) C hF rfl rfl dX5_on_23
    · refine fm_aload_n (pc := 24) C dX5_on_24 rfl rfl ?_
      refine fm_iload_n (pc := 25) C dX5_on_25 rfl rfl ?_
      refine fm_bind (fun r26 e26 => ?_)
      refine fm_cVi0 (pc := 26) C (t_X0_follower e26) ok_X0_follower (fm_kcn0 (Nat.eq_of_beq_eq_true h1)) m_ml_X5_128 dX5_on_26 ⟨Nat.le_of_ble_eq_true rfl, Nat.le_of_ble_eq_true rfl⟩ rfl rfl (Nat.le_of_ble_eq_true rfl) ?_
      exact fm_zret (pc := 29) C hF rfl rfl dX5_on_29
theorem t_X5_on {l : Launch} {G : fm_G} {v1 : Int32} {v2 : Int32} {μ : fm_I} {ν : fm_L} {r : Int32 × fm_I × fm_L} (h : m_X5_on v1 v2 μ ν = some r) : fm_Mi l G yX5_on cX5_on 4 (some .int) 4 82 [.ref (G.2.2.1 0), .int v1, .int v2] μ ν r := fm_Mi_of (by decide +kernel) (Nat.le_of_ble_eq_true rfl) (fun _ C => j_X5_on C rfl r h)
theorem dX5_laid_0 : decode cX5_laid 0 = .ok (.aload_n 0, 1) := by decide +kernel
theorem dX5_laid_1 : decode cX5_laid 1 = .ok (.getfield 31, 3) := by decide +kernel
theorem dX5_laid_4 : decode cX5_laid 4 = .ok (.aload_n 1, 1) := by decide +kernel
theorem dX5_laid_5 : decode cX5_laid 5 = .ok (.aload_n 1, 1) := by decide +kernel
theorem dX5_laid_6 : decode cX5_laid 6 = .ok (.getfield 131, 3) := by decide +kernel
theorem dX5_laid_9 : decode cX5_laid 9 = .ok (.aload_n 1, 1) := by decide +kernel
theorem dX5_laid_10 : decode cX5_laid 10 = .ok (.getfield 141, 3) := by decide +kernel
theorem dX5_laid_13 : decode cX5_laid 13 = .ok (.invokevirtual 246, 3) := by decide +kernel
theorem dX5_laid_16 : decode cX5_laid 16 = .ok (.aload_n 0, 1) := by decide +kernel
theorem dX5_laid_17 : decode cX5_laid 17 = .ok (.getfield 31, 3) := by decide +kernel
theorem dX5_laid_20 : decode cX5_laid 20 = .ok (.areturn, 1) := by decide +kernel
def m_X5_laid (q1 : Nat) (μ : fm_I) (ν : fm_L) : Option (fm_I × fm_L) :=
  fm_g (Nat.beq (fm_k q1) 0) ((m_X1_lay q1 ((μ q1 4)) ((μ q1 3)) μ ν).bind (fun r13 => some ((r13.1, r13.2))))
theorem ok_X5_laid : fm_okV yX5_laid cX5_laid 2 (some (.object "DownTheMiddle$Cutting")) 1 := ⟨m_cd_X5_laid, m_im_X5_laid, m_se_X5_X5_laid, m_ini_X5, by decide +kernel, by decide +kernel, by decide +kernel⟩
set_option maxHeartbeats 4000000 in
set_option maxRecDepth 100000 in
theorem j_X5_laid {X : fm_X} {G : fm_G} {l : Launch} {q1 : Nat} {μ : fm_I} {ν : fm_L} (C : fm_C X G l cX5_laid RX5 2 (some (.object "DownTheMiddle$Cutting")) 4 85) {F : (fm_I × fm_L) → State → Prop} (hF : F = fun r => fm_Qq X G (some 5, r)) : fm_J X G 2 F (m_X5_laid q1 μ ν) μ ν 0 [(0, .ref (G.2.2.1 0)), (1, .ref (G.2.2.1 q1))] [] := by
  unfold m_X5_laid
  refine fm_guard (fun h1 => ?_)
  refine fm_aload_n (pc := 0) C dX5_laid_0 rfl rfl ?_
  refine g5_cutting (pc := 1) C (by decide) dX5_laid_1 m_fl_X5_31 ?_
  refine fm_aload_n (pc := 4) C dX5_laid_4 rfl rfl ?_
  refine fm_aload_n (pc := 5) C dX5_laid_5 rfl rfl ?_
  refine g0_strips (pc := 6) C (Nat.eq_of_beq_eq_true h1) dX5_laid_6 m_fl_X5_131 ?_
  refine fm_aload_n (pc := 9) C dX5_laid_9 rfl rfl ?_
  refine g0_twists (pc := 10) C (Nat.eq_of_beq_eq_true h1) dX5_laid_10 m_fl_X5_141 ?_
  refine fm_bind (fun r13 e13 => ?_)
  refine fm_cVv (pc := 13) C (t_X1_lay e13) ok_X1_lay ⟨by decide, rfl⟩ m_ml_X5_246 dX5_laid_13 ⟨Nat.le_of_ble_eq_true rfl, Nat.le_of_ble_eq_true rfl⟩ rfl rfl (Nat.le_of_ble_eq_true rfl) ?_
  refine fm_aload_n (pc := 16) C dX5_laid_16 rfl rfl ?_
  refine g5_cutting (pc := 17) C (by decide) dX5_laid_17 m_fl_X5_31 ?_
  exact fm_aretc (pc := 20) C hF rfl rfl dX5_laid_20
theorem t_X5_laid {l : Launch} {G : fm_G} {q1 : Nat} {μ : fm_I} {ν : fm_L} {r : fm_I × fm_L} (h : m_X5_laid q1 μ ν = some r) : fm_Mq l G yX5_laid cX5_laid 2 (some (.object "DownTheMiddle$Cutting")) 4 85 [.ref (G.2.2.1 0), .ref (G.2.2.1 q1)] μ ν (some 5, r) := fm_Mq_of (by decide +kernel) (Nat.le_of_ble_eq_true rfl) (fun _ C => j_X5_laid C rfl r h)
theorem dX5_pieces_0 : decode cX5_pieces 0 = .ok (.aload_n 0, 1) := by decide +kernel
theorem dX5_pieces_1 : decode cX5_pieces 1 = .ok (.iload_n 1, 1) := by decide +kernel
theorem dX5_pieces_2 : decode cX5_pieces 2 = .ok (.invokevirtual 112, 3) := by decide +kernel
theorem dX5_pieces_5 : decode cX5_pieces 5 = .ok (.astore_n 2, 1) := by decide +kernel
theorem dX5_pieces_6 : decode cX5_pieces 6 = .ok (.aload_n 2, 1) := by decide +kernel
theorem dX5_pieces_7 : decode cX5_pieces 7 = .ok (.ifnonnull 11, 3) := by decide +kernel
theorem dX5_pieces_10 : decode cX5_pieces 10 = .ok (.aload_n 0, 1) := by decide +kernel
theorem dX5_pieces_11 : decode cX5_pieces 11 = .ok (.iconst 1, 1) := by decide +kernel
theorem dX5_pieces_12 : decode cX5_pieces 12 = .ok (.invokevirtual 67, 3) := by decide +kernel
theorem dX5_pieces_15 : decode cX5_pieces 15 = .ok (.goto 11, 3) := by decide +kernel
theorem dX5_pieces_18 : decode cX5_pieces 18 = .ok (.aload_n 0, 1) := by decide +kernel
theorem dX5_pieces_19 : decode cX5_pieces 19 = .ok (.aload_n 2, 1) := by decide +kernel
theorem dX5_pieces_20 : decode cX5_pieces 20 = .ok (.invokevirtual 192, 3) := by decide +kernel
theorem dX5_pieces_23 : decode cX5_pieces 23 = .ok (.getfield 196, 3) := by decide +kernel
theorem dX5_pieces_26 : decode cX5_pieces 26 = .ok (.ireturn, 1) := by decide +kernel
def m_X5_pieces (v1 : Int32) (μ : fm_I) (ν : fm_L) : Option (Int32 × fm_I × fm_L) :=
  (m_X5_bandAt v1 μ ν).bind (fun r2 => fm_o r2 ((m_X5_refuse ((nI 1)) μ ν).bind (fun r12 => some ((r12.1, r12.2.1, r12.2.2)))) (fun y2 => (m_X5_laid y2 μ ν).bind (fun r20 => some (((r20.1 5 0), r20.1, r20.2)))))
theorem ok_X5_pieces : fm_okV yX5_pieces cX5_pieces 3 (some .int) 1 := ⟨m_cd_X5_pieces, m_im_X5_pieces, m_se_X5_X5_pieces, m_ini_X5, by decide +kernel, by decide +kernel, by decide +kernel⟩
set_option maxHeartbeats 4000000 in
set_option maxRecDepth 100000 in
theorem j_X5_pieces {X : fm_X} {G : fm_G} {l : Launch} {v1 : Int32} {μ : fm_I} {ν : fm_L} (C : fm_C X G l cX5_pieces RX5 3 (some .int) 5 106) {F : (Int32 × fm_I × fm_L) → State → Prop} (hF : F = fm_Qi X G) : fm_J X G 3 F (m_X5_pieces v1 μ ν) μ ν 0 [(0, .ref (G.2.2.1 0)), (1, .int v1)] [] := by
  unfold m_X5_pieces
  refine fm_aload_n (pc := 0) C dX5_pieces_0 rfl rfl ?_
  refine fm_iload_n (pc := 1) C dX5_pieces_1 rfl rfl ?_
  refine fm_bind (fun r2 e2 => ?_)
  refine fm_cVq0 (pc := 2) C (t_X5_bandAt e2) ok_X5_bandAt ⟨by decide, rfl⟩ m_ml_X5_112 dX5_pieces_2 ⟨Nat.le_of_ble_eq_true rfl, Nat.le_of_ble_eq_true rfl⟩ rfl rfl (Nat.le_of_ble_eq_true rfl) ?_
  refine fm_opt (fun e2 => ?_) (fun y2 e2 => ?_)
  · subst e2
    refine fm_astoreq_n (x := none) (pc := 5) C dX5_pieces_5 rfl (by decide) rfl ?_
    refine fm_aloadq_n (x := none) (pc := 6) C dX5_pieces_6 rfl rfl ?_
    refine fm_ifnonnullN (pc := 7) C dX5_pieces_7 ?_
    refine fm_aload_n (pc := 10) C dX5_pieces_10 rfl rfl ?_
    refine fm_iconst (pc := 11) (v := (nI 1)) C dX5_pieces_11 (by decide) ?_
    refine fm_bind (fun r12 e12 => ?_)
    refine fm_cVi (pc := 12) C (t_X5_refuse e12) ok_X5_refuse ⟨by decide, rfl⟩ m_ml_X5_67 dX5_pieces_12 ⟨Nat.le_of_ble_eq_true rfl, Nat.le_of_ble_eq_true rfl⟩ rfl rfl (Nat.le_of_ble_eq_true rfl) ?_
    refine fm_goto (pc := 15) (tgt := 26) C dX5_pieces_15 (by decide) ?_
    exact fm_zret (pc := 26) C hF rfl rfl dX5_pieces_26
  · subst e2
    refine fm_astore_n (pc := 5) C dX5_pieces_5 rfl (by decide) rfl ?_
    refine fm_aload_n (pc := 6) C dX5_pieces_6 rfl rfl ?_
    refine fm_ifnonnullR (pc := 7) (tgt := 18) C dX5_pieces_7 (by decide) ?_
    refine fm_aload_n (pc := 18) C dX5_pieces_18 rfl rfl ?_
    refine fm_aload_n (pc := 19) C dX5_pieces_19 rfl rfl ?_
    refine fm_bind (fun r20 e20 => ?_)
    refine fm_cVqc (pc := 20) C (t_X5_laid e20) ok_X5_laid ⟨by decide, rfl⟩ m_ml_X5_192 dX5_pieces_20 ⟨Nat.le_of_ble_eq_true rfl, Nat.le_of_ble_eq_true rfl⟩ rfl rfl (Nat.le_of_ble_eq_true rfl) ?_
    refine g1_count (pc := 23) C (by decide) dX5_pieces_23 m_fl_X5_196 ?_
    exact fm_zret (pc := 26) C hF rfl rfl dX5_pieces_26
theorem t_X5_pieces {l : Launch} {G : fm_G} {v1 : Int32} {μ : fm_I} {ν : fm_L} {r : Int32 × fm_I × fm_L} (h : m_X5_pieces v1 μ ν = some r) : fm_Mi l G yX5_pieces cX5_pieces 3 (some .int) 5 106 [.ref (G.2.2.1 0), .int v1] μ ν r := fm_Mi_of (by decide +kernel) (Nat.le_of_ble_eq_true rfl) (fun _ C => j_X5_pieces C rfl r h)
theorem dX5_pieceOf_0 : decode cX5_pieceOf 0 = .ok (.aload_n 0, 1) := by decide +kernel
theorem dX5_pieceOf_1 : decode cX5_pieceOf 1 = .ok (.iload_n 1, 1) := by decide +kernel
theorem dX5_pieceOf_2 : decode cX5_pieceOf 2 = .ok (.invokevirtual 112, 3) := by decide +kernel
theorem dX5_pieceOf_5 : decode cX5_pieceOf 5 = .ok (.astore 4, 2) := by decide +kernel
theorem dX5_pieceOf_7 : decode cX5_pieceOf 7 = .ok (.aload 4, 2) := by decide +kernel
theorem dX5_pieceOf_9 : decode cX5_pieceOf 9 = .ok (.ifnull 16, 3) := by decide +kernel
theorem dX5_pieceOf_12 : decode cX5_pieceOf 12 = .ok (.aload_n 0, 1) := by decide +kernel
theorem dX5_pieceOf_13 : decode cX5_pieceOf 13 = .ok (.aload 4, 2) := by decide +kernel
theorem dX5_pieceOf_15 : decode cX5_pieceOf 15 = .ok (.invokevirtual 192, 3) := by decide +kernel
theorem dX5_pieceOf_18 : decode cX5_pieceOf 18 = .ok (.iload_n 2, 1) := by decide +kernel
theorem dX5_pieceOf_19 : decode cX5_pieceOf 19 = .ok (.invokevirtual 199, 3) := by decide +kernel
theorem dX5_pieceOf_22 : decode cX5_pieceOf 22 = .ok (.ifCond .ne 9, 3) := by decide +kernel
theorem dX5_pieceOf_25 : decode cX5_pieceOf 25 = .ok (.aload_n 0, 1) := by decide +kernel
theorem dX5_pieceOf_26 : decode cX5_pieceOf 26 = .ok (.iconst 1, 1) := by decide +kernel
theorem dX5_pieceOf_27 : decode cX5_pieceOf 27 = .ok (.invokevirtual 67, 3) := by decide +kernel
theorem dX5_pieceOf_30 : decode cX5_pieceOf 30 = .ok (.ireturn, 1) := by decide +kernel
theorem dX5_pieceOf_31 : decode cX5_pieceOf 31 = .ok (.iload_n 3, 1) := by decide +kernel
theorem dX5_pieceOf_32 : decode cX5_pieceOf 32 = .ok (.tableswitch 76 0 3 #[32, 41, 50, 59], 32) := by decide +kernel
theorem dX5_pieceOf_64 : decode cX5_pieceOf 64 = .ok (.aload_n 0, 1) := by decide +kernel
theorem dX5_pieceOf_65 : decode cX5_pieceOf 65 = .ok (.getfield 31, 3) := by decide +kernel
theorem dX5_pieceOf_68 : decode cX5_pieceOf 68 = .ok (.iload_n 2, 1) := by decide +kernel
theorem dX5_pieceOf_69 : decode cX5_pieceOf 69 = .ok (.invokevirtual 202, 3) := by decide +kernel
theorem dX5_pieceOf_72 : decode cX5_pieceOf 72 = .ok (.ireturn, 1) := by decide +kernel
theorem dX5_pieceOf_73 : decode cX5_pieceOf 73 = .ok (.aload_n 0, 1) := by decide +kernel
theorem dX5_pieceOf_74 : decode cX5_pieceOf 74 = .ok (.getfield 31, 3) := by decide +kernel
theorem dX5_pieceOf_77 : decode cX5_pieceOf 77 = .ok (.iload_n 2, 1) := by decide +kernel
theorem dX5_pieceOf_78 : decode cX5_pieceOf 78 = .ok (.invokevirtual 205, 3) := by decide +kernel
theorem dX5_pieceOf_81 : decode cX5_pieceOf 81 = .ok (.ireturn, 1) := by decide +kernel
theorem dX5_pieceOf_82 : decode cX5_pieceOf 82 = .ok (.aload_n 0, 1) := by decide +kernel
theorem dX5_pieceOf_83 : decode cX5_pieceOf 83 = .ok (.getfield 31, 3) := by decide +kernel
theorem dX5_pieceOf_86 : decode cX5_pieceOf 86 = .ok (.iload_n 2, 1) := by decide +kernel
theorem dX5_pieceOf_87 : decode cX5_pieceOf 87 = .ok (.invokevirtual 208, 3) := by decide +kernel
theorem dX5_pieceOf_90 : decode cX5_pieceOf 90 = .ok (.ireturn, 1) := by decide +kernel
theorem dX5_pieceOf_91 : decode cX5_pieceOf 91 = .ok (.aload_n 0, 1) := by decide +kernel
theorem dX5_pieceOf_92 : decode cX5_pieceOf 92 = .ok (.getfield 31, 3) := by decide +kernel
theorem dX5_pieceOf_95 : decode cX5_pieceOf 95 = .ok (.iload_n 2, 1) := by decide +kernel
theorem dX5_pieceOf_96 : decode cX5_pieceOf 96 = .ok (.invokevirtual 211, 3) := by decide +kernel
theorem dX5_pieceOf_99 : decode cX5_pieceOf 99 = .ok (.ifCond .eq 7, 3) := by decide +kernel
theorem dX5_pieceOf_102 : decode cX5_pieceOf 102 = .ok (.iconst 1, 1) := by decide +kernel
theorem dX5_pieceOf_103 : decode cX5_pieceOf 103 = .ok (.goto 4, 3) := by decide +kernel
theorem dX5_pieceOf_106 : decode cX5_pieceOf 106 = .ok (.iconst 2, 1) := by decide +kernel
theorem dX5_pieceOf_107 : decode cX5_pieceOf 107 = .ok (.ireturn, 1) := by decide +kernel
theorem dX5_pieceOf_108 : decode cX5_pieceOf 108 = .ok (.aload_n 0, 1) := by decide +kernel
theorem dX5_pieceOf_109 : decode cX5_pieceOf 109 = .ok (.iconst 5, 1) := by decide +kernel
theorem dX5_pieceOf_110 : decode cX5_pieceOf 110 = .ok (.invokevirtual 67, 3) := by decide +kernel
theorem dX5_pieceOf_113 : decode cX5_pieceOf 113 = .ok (.ireturn, 1) := by decide +kernel
def m_X5_pieceOf (v1 : Int32) (v2 : Int32) (v3 : Int32) (μ : fm_I) (ν : fm_L) : Option (Int32 × fm_I × fm_L) :=
  (m_X5_bandAt v1 μ ν).bind (fun r2 => fm_o r2 ((m_X5_refuse ((nI 1)) μ ν).bind (fun r27 => some ((r27.1, r27.2.1, r27.2.2)))) (fun y2 => (m_X5_laid y2 μ ν).bind (fun r15 => (m_X1_hasPiece v2 r15.1 r15.2).bind (fun r19 => if r19 = 0 then (m_X5_refuse ((nI 1)) r15.1 r15.2).bind (fun r27 => some ((r27.1, r27.2.1, r27.2.2))) else if v3 = (nI 0) then (m_X1_size v2 r15.1 r15.2).bind (fun r69 => some ((r69, r15.1, r15.2))) else if v3 = (nI 1) then (m_X1_members v2 r15.1 r15.2).bind (fun r78 => some ((r78, r15.1, r15.2))) else if v3 = (nI 2) then (m_X1_turnsOf v2 r15.1 r15.2).bind (fun r87 => some ((r87, r15.1, r15.2))) else if v3 = (nI 3) then (m_X1_isOneSided v2 r15.1 r15.2).bind (fun r96 => if r96 = 0 then some (((nI 2), r15.1, r15.2)) else some (((nI 1), r15.1, r15.2))) else (m_X5_refuse ((nI 5)) r15.1 r15.2).bind (fun r110 => some ((r110.1, r110.2.1, r110.2.2)))))))
theorem ok_X5_pieceOf : fm_okV yX5_pieceOf cX5_pieceOf 5 (some .int) 3 := ⟨m_cd_X5_pieceOf, m_im_X5_pieceOf, m_se_X5_X5_pieceOf, m_ini_X5, by decide +kernel, by decide +kernel, by decide +kernel⟩
set_option maxHeartbeats 4000000 in
set_option maxRecDepth 100000 in
theorem j_X5_pieceOf {X : fm_X} {G : fm_G} {l : Launch} {v1 : Int32} {v2 : Int32} {v3 : Int32} {μ : fm_I} {ν : fm_L} (C : fm_C X G l cX5_pieceOf RX5 5 (some .int) 6 117) {F : (Int32 × fm_I × fm_L) → State → Prop} (hF : F = fm_Qi X G) : fm_J X G 5 F (m_X5_pieceOf v1 v2 v3 μ ν) μ ν 0 [(0, .ref (G.2.2.1 0)), (1, .int v1), (2, .int v2), (3, .int v3)] [] := by
  unfold m_X5_pieceOf
  refine fm_aload_n (pc := 0) C dX5_pieceOf_0 rfl rfl ?_
  refine fm_iload_n (pc := 1) C dX5_pieceOf_1 rfl rfl ?_
  refine fm_bind (fun r2 e2 => ?_)
  refine fm_cVq0 (pc := 2) C (t_X5_bandAt e2) ok_X5_bandAt ⟨by decide, rfl⟩ m_ml_X5_112 dX5_pieceOf_2 ⟨Nat.le_of_ble_eq_true rfl, Nat.le_of_ble_eq_true rfl⟩ rfl rfl (Nat.le_of_ble_eq_true rfl) ?_
  refine fm_opt (fun e2 => ?_) (fun y2 e2 => ?_)
  · subst e2
    refine fm_astoreq (x := none) (pc := 5) C dX5_pieceOf_5 (by decide) rfl ?_
    refine fm_aloadq (x := none) (pc := 7) C dX5_pieceOf_7 rfl ?_
    refine fm_ifnullN (pc := 9) (tgt := 25) C dX5_pieceOf_9 (by decide) ?_
    refine fm_aload_n (pc := 25) C dX5_pieceOf_25 rfl rfl ?_
    refine fm_iconst (pc := 26) (v := (nI 1)) C dX5_pieceOf_26 (by decide) ?_
    refine fm_bind (fun r27 e27 => ?_)
    refine fm_cVi (pc := 27) C (t_X5_refuse e27) ok_X5_refuse ⟨by decide, rfl⟩ m_ml_X5_67 dX5_pieceOf_27 ⟨Nat.le_of_ble_eq_true rfl, Nat.le_of_ble_eq_true rfl⟩ rfl rfl (Nat.le_of_ble_eq_true rfl) ?_
    exact fm_zret (pc := 30) C hF rfl rfl dX5_pieceOf_30
  · subst e2
    refine fm_astore (pc := 5) C dX5_pieceOf_5 (by decide) rfl ?_
    refine fm_aload (pc := 7) C dX5_pieceOf_7 rfl ?_
    refine fm_ifnullR (pc := 9) C dX5_pieceOf_9 ?_
    refine fm_aload_n (pc := 12) C dX5_pieceOf_12 rfl rfl ?_
    refine fm_aload (pc := 13) C dX5_pieceOf_13 rfl ?_
    refine fm_bind (fun r15 e15 => ?_)
    refine fm_cVqc (pc := 15) C (t_X5_laid e15) ok_X5_laid ⟨by decide, rfl⟩ m_ml_X5_192 dX5_pieceOf_15 ⟨Nat.le_of_ble_eq_true rfl, Nat.le_of_ble_eq_true rfl⟩ rfl rfl (Nat.le_of_ble_eq_true rfl) ?_
    refine fm_iload_n (pc := 18) C dX5_pieceOf_18 rfl rfl ?_
    refine fm_bind (fun r19 e19 => ?_)
    refine fm_cVi0 (pc := 19) C (t_X1_hasPiece e19) ok_X1_hasPiece ⟨by decide, rfl⟩ m_ml_X5_199 dX5_pieceOf_19 ⟨Nat.le_of_ble_eq_true rfl, Nat.le_of_ble_eq_true rfl⟩ rfl rfl (Nat.le_of_ble_eq_true rfl) ?_
    refine fm_if_ne (pc := 22) (tgt := 31) C dX5_pieceOf_22 (by decide) (fun c1 => ?_) (fun c1 => ?_)
    · refine fm_aload_n (pc := 25) C dX5_pieceOf_25 rfl rfl ?_
      refine fm_iconst (pc := 26) (v := (nI 1)) C dX5_pieceOf_26 (by decide) ?_
      refine fm_bind (fun r27 e27 => ?_)
      refine fm_cVi (pc := 27) C (t_X5_refuse e27) ok_X5_refuse ⟨by decide, rfl⟩ m_ml_X5_67 dX5_pieceOf_27 ⟨Nat.le_of_ble_eq_true rfl, Nat.le_of_ble_eq_true rfl⟩ rfl rfl (Nat.le_of_ble_eq_true rfl) ?_
      exact fm_zret (pc := 30) C hF rfl rfl dX5_pieceOf_30
    · refine fm_iload_n (pc := 31) C dX5_pieceOf_31 rfl rfl ?_
      refine fm_ite (fun s2 => ?_) (fun s2 => ?_)
      · refine fm_tabIn (pc := 32) (tgt := 64) (off := 32) C dX5_pieceOf_32 (by rw [s2]; decide) (by rw [s2]; decide) (by rw [s2]; decide) (by decide) ?_
        refine fm_aload_n (pc := 64) C dX5_pieceOf_64 rfl rfl ?_
        refine g5_cutting (pc := 65) C (by decide) dX5_pieceOf_65 m_fl_X5_31 ?_
        refine fm_iload_n (pc := 68) C dX5_pieceOf_68 rfl rfl ?_
        refine fm_bind (fun r69 e69 => ?_)
        refine fm_cVi0 (pc := 69) C (t_X1_size e69) ok_X1_size ⟨by decide, rfl⟩ m_ml_X5_202 dX5_pieceOf_69 ⟨Nat.le_of_ble_eq_true rfl, Nat.le_of_ble_eq_true rfl⟩ rfl rfl (Nat.le_of_ble_eq_true rfl) ?_
        exact fm_zret (pc := 72) C hF rfl rfl dX5_pieceOf_72
      · refine fm_ite (fun s3 => ?_) (fun s3 => ?_)
        · refine fm_tabIn (pc := 32) (tgt := 73) (off := 41) C dX5_pieceOf_32 (by rw [s3]; decide) (by rw [s3]; decide) (by rw [s3]; decide) (by decide) ?_
          refine fm_aload_n (pc := 73) C dX5_pieceOf_73 rfl rfl ?_
          refine g5_cutting (pc := 74) C (by decide) dX5_pieceOf_74 m_fl_X5_31 ?_
          refine fm_iload_n (pc := 77) C dX5_pieceOf_77 rfl rfl ?_
          refine fm_bind (fun r78 e78 => ?_)
          refine fm_cVi0 (pc := 78) C (t_X1_members e78) ok_X1_members ⟨by decide, rfl⟩ m_ml_X5_205 dX5_pieceOf_78 ⟨Nat.le_of_ble_eq_true rfl, Nat.le_of_ble_eq_true rfl⟩ rfl rfl (Nat.le_of_ble_eq_true rfl) ?_
          exact fm_zret (pc := 81) C hF rfl rfl dX5_pieceOf_81
        · refine fm_ite (fun s4 => ?_) (fun s4 => ?_)
          · refine fm_tabIn (pc := 32) (tgt := 82) (off := 50) C dX5_pieceOf_32 (by rw [s4]; decide) (by rw [s4]; decide) (by rw [s4]; decide) (by decide) ?_
            refine fm_aload_n (pc := 82) C dX5_pieceOf_82 rfl rfl ?_
            refine g5_cutting (pc := 83) C (by decide) dX5_pieceOf_83 m_fl_X5_31 ?_
            refine fm_iload_n (pc := 86) C dX5_pieceOf_86 rfl rfl ?_
            refine fm_bind (fun r87 e87 => ?_)
            refine fm_cVi0 (pc := 87) C (t_X1_turnsOf e87) ok_X1_turnsOf ⟨by decide, rfl⟩ m_ml_X5_208 dX5_pieceOf_87 ⟨Nat.le_of_ble_eq_true rfl, Nat.le_of_ble_eq_true rfl⟩ rfl rfl (Nat.le_of_ble_eq_true rfl) ?_
            exact fm_zret (pc := 90) C hF rfl rfl dX5_pieceOf_90
          · refine fm_ite (fun s5 => ?_) (fun s5 => ?_)
            · refine fm_tabIn (pc := 32) (tgt := 91) (off := 59) C dX5_pieceOf_32 (by rw [s5]; decide) (by rw [s5]; decide) (by rw [s5]; decide) (by decide) ?_
              refine fm_aload_n (pc := 91) C dX5_pieceOf_91 rfl rfl ?_
              refine g5_cutting (pc := 92) C (by decide) dX5_pieceOf_92 m_fl_X5_31 ?_
              refine fm_iload_n (pc := 95) C dX5_pieceOf_95 rfl rfl ?_
              refine fm_bind (fun r96 e96 => ?_)
              refine fm_cVi0 (pc := 96) C (t_X1_isOneSided e96) ok_X1_isOneSided ⟨by decide, rfl⟩ m_ml_X5_211 dX5_pieceOf_96 ⟨Nat.le_of_ble_eq_true rfl, Nat.le_of_ble_eq_true rfl⟩ rfl rfl (Nat.le_of_ble_eq_true rfl) ?_
              refine fm_if_eq (pc := 99) (tgt := 106) C dX5_pieceOf_99 (by decide) (fun c6 => ?_) (fun c6 => ?_)
              · refine fm_iconst (pc := 106) (v := (nI 2)) C dX5_pieceOf_106 (by decide) ?_
                exact fm_zret (pc := 107) C hF rfl rfl dX5_pieceOf_107
              · refine fm_iconst (pc := 102) (v := (nI 1)) C dX5_pieceOf_102 (by decide) ?_
                refine fm_goto (pc := 103) (tgt := 107) C dX5_pieceOf_103 (by decide) ?_
                exact fm_zret (pc := 107) C hF rfl rfl dX5_pieceOf_107
            · refine fm_tabOut (pc := 32) (tgt := 108) C dX5_pieceOf_32 (by have a0 := fm_ne (nI 0) (k := 0) (by decide) s2; have a1 := fm_ne (nI 1) (k := 1) (by decide) s3; have a2 := fm_ne (nI 2) (k := 2) (by decide) s4; have a3 := fm_ne (nI 3) (k := 3) (by decide) s5; omega) (by decide) ?_
              refine fm_aload_n (pc := 108) C dX5_pieceOf_108 rfl rfl ?_
              refine fm_iconst (pc := 109) (v := (nI 5)) C dX5_pieceOf_109 (by decide) ?_
              refine fm_bind (fun r110 e110 => ?_)
              refine fm_cVi (pc := 110) C (t_X5_refuse e110) ok_X5_refuse ⟨by decide, rfl⟩ m_ml_X5_67 dX5_pieceOf_110 ⟨Nat.le_of_ble_eq_true rfl, Nat.le_of_ble_eq_true rfl⟩ rfl rfl (Nat.le_of_ble_eq_true rfl) ?_
              exact fm_zret (pc := 113) C hF rfl rfl dX5_pieceOf_113
theorem t_X5_pieceOf {l : Launch} {G : fm_G} {v1 : Int32} {v2 : Int32} {v3 : Int32} {μ : fm_I} {ν : fm_L} {r : Int32 × fm_I × fm_L} (h : m_X5_pieceOf v1 v2 v3 μ ν = some r) : fm_Mi l G yX5_pieceOf cX5_pieceOf 5 (some .int) 6 117 [.ref (G.2.2.1 0), .int v1, .int v2, .int v3] μ ν r := fm_Mi_of (by decide +kernel) (Nat.le_of_ble_eq_true rfl) (fun _ C => j_X5_pieceOf C rfl r h)
theorem dX5_pieceAt_0 : decode cX5_pieceAt 0 = .ok (.aload_n 0, 1) := by decide +kernel
theorem dX5_pieceAt_1 : decode cX5_pieceAt 1 = .ok (.iload_n 1, 1) := by decide +kernel
theorem dX5_pieceAt_2 : decode cX5_pieceAt 2 = .ok (.invokevirtual 112, 3) := by decide +kernel
theorem dX5_pieceAt_5 : decode cX5_pieceAt 5 = .ok (.astore_n 3, 1) := by decide +kernel
theorem dX5_pieceAt_6 : decode cX5_pieceAt 6 = .ok (.aload_n 3, 1) := by decide +kernel
theorem dX5_pieceAt_7 : decode cX5_pieceAt 7 = .ok (.ifnull 11, 3) := by decide +kernel
theorem dX5_pieceAt_10 : decode cX5_pieceAt 10 = .ok (.aload_n 3, 1) := by decide +kernel
theorem dX5_pieceAt_11 : decode cX5_pieceAt 11 = .ok (.iload_n 2, 1) := by decide +kernel
theorem dX5_pieceAt_12 : decode cX5_pieceAt 12 = .ok (.invokevirtual 163, 3) := by decide +kernel
theorem dX5_pieceAt_15 : decode cX5_pieceAt 15 = .ok (.ifCond .ne 9, 3) := by decide +kernel
theorem dX5_pieceAt_18 : decode cX5_pieceAt 18 = .ok (.aload_n 0, 1) := by decide +kernel
theorem dX5_pieceAt_19 : decode cX5_pieceAt 19 = .ok (.iconst 1, 1) := by decide +kernel
theorem dX5_pieceAt_20 : decode cX5_pieceAt 20 = .ok (.invokevirtual 67, 3) := by decide +kernel
theorem dX5_pieceAt_23 : decode cX5_pieceAt 23 = .ok (.ireturn, 1) := by decide +kernel
theorem dX5_pieceAt_24 : decode cX5_pieceAt 24 = .ok (.aload_n 0, 1) := by decide +kernel
theorem dX5_pieceAt_25 : decode cX5_pieceAt 25 = .ok (.aload_n 3, 1) := by decide +kernel
theorem dX5_pieceAt_26 : decode cX5_pieceAt 26 = .ok (.invokevirtual 192, 3) := by decide +kernel
theorem dX5_pieceAt_29 : decode cX5_pieceAt 29 = .ok (.iload_n 2, 1) := by decide +kernel
theorem dX5_pieceAt_30 : decode cX5_pieceAt 30 = .ok (.invokevirtual 214, 3) := by decide +kernel
theorem dX5_pieceAt_33 : decode cX5_pieceAt 33 = .ok (.ireturn, 1) := by decide +kernel
def m_X5_pieceAt (v1 : Int32) (v2 : Int32) (μ : fm_I) (ν : fm_L) : Option (Int32 × fm_I × fm_L) :=
  (m_X5_bandAt v1 μ ν).bind (fun r2 => fm_o r2 ((m_X5_refuse ((nI 1)) μ ν).bind (fun r20 => some ((r20.1, r20.2.1, r20.2.2)))) (fun y2 => fm_g (Nat.beq (fm_k y2) 0) ((m_X0_hasStrip y2 v2 μ ν).bind (fun r12 => if r12 = 0 then (m_X5_refuse ((nI 1)) μ ν).bind (fun r20 => some ((r20.1, r20.2.1, r20.2.2))) else (m_X5_laid y2 μ ν).bind (fun r26 => (m_X1_pieceWith v2 r26.1 r26.2).bind (fun r30 => some ((r30, r26.1, r26.2))))))))
theorem ok_X5_pieceAt : fm_okV yX5_pieceAt cX5_pieceAt 4 (some .int) 2 := ⟨m_cd_X5_pieceAt, m_im_X5_pieceAt, m_se_X5_X5_pieceAt, m_ini_X5, by decide +kernel, by decide +kernel, by decide +kernel⟩
set_option maxHeartbeats 4000000 in
set_option maxRecDepth 100000 in
theorem j_X5_pieceAt {X : fm_X} {G : fm_G} {l : Launch} {v1 : Int32} {v2 : Int32} {μ : fm_I} {ν : fm_L} (C : fm_C X G l cX5_pieceAt RX5 4 (some .int) 5 106) {F : (Int32 × fm_I × fm_L) → State → Prop} (hF : F = fm_Qi X G) : fm_J X G 4 F (m_X5_pieceAt v1 v2 μ ν) μ ν 0 [(0, .ref (G.2.2.1 0)), (1, .int v1), (2, .int v2)] [] := by
  unfold m_X5_pieceAt
  refine fm_aload_n (pc := 0) C dX5_pieceAt_0 rfl rfl ?_
  refine fm_iload_n (pc := 1) C dX5_pieceAt_1 rfl rfl ?_
  refine fm_bind (fun r2 e2 => ?_)
  refine fm_cVq0 (pc := 2) C (t_X5_bandAt e2) ok_X5_bandAt ⟨by decide, rfl⟩ m_ml_X5_112 dX5_pieceAt_2 ⟨Nat.le_of_ble_eq_true rfl, Nat.le_of_ble_eq_true rfl⟩ rfl rfl (Nat.le_of_ble_eq_true rfl) ?_
  refine fm_opt (fun e2 => ?_) (fun y2 e2 => ?_)
  · subst e2
    refine fm_astoreq_n (x := none) (pc := 5) C dX5_pieceAt_5 rfl (by decide) rfl ?_
    refine fm_aloadq_n (x := none) (pc := 6) C dX5_pieceAt_6 rfl rfl ?_
    refine fm_ifnullN (pc := 7) (tgt := 18) C dX5_pieceAt_7 (by decide) ?_
    refine fm_aload_n (pc := 18) C dX5_pieceAt_18 rfl rfl ?_
    refine fm_iconst (pc := 19) (v := (nI 1)) C dX5_pieceAt_19 (by decide) ?_
    refine fm_bind (fun r20 e20 => ?_)
    refine fm_cVi (pc := 20) C (t_X5_refuse e20) ok_X5_refuse ⟨by decide, rfl⟩ m_ml_X5_67 dX5_pieceAt_20 ⟨Nat.le_of_ble_eq_true rfl, Nat.le_of_ble_eq_true rfl⟩ rfl rfl (Nat.le_of_ble_eq_true rfl) ?_
    exact fm_zret (pc := 23) C hF rfl rfl dX5_pieceAt_23
  · subst e2
    refine fm_astore_n (pc := 5) C dX5_pieceAt_5 rfl (by decide) rfl ?_
    refine fm_aload_n (pc := 6) C dX5_pieceAt_6 rfl rfl ?_
    refine fm_ifnullR (pc := 7) C dX5_pieceAt_7 ?_
    refine fm_aload_n (pc := 10) C dX5_pieceAt_10 rfl rfl ?_
    refine fm_iload_n (pc := 11) C dX5_pieceAt_11 rfl rfl ?_
    refine fm_guard (fun h1 => ?_)
    refine fm_bind (fun r12 e12 => ?_)
    refine fm_cVi0 (pc := 12) C (t_X0_hasStrip e12) ok_X0_hasStrip (fm_kcn0 (Nat.eq_of_beq_eq_true h1)) m_ml_X5_163 dX5_pieceAt_12 ⟨Nat.le_of_ble_eq_true rfl, Nat.le_of_ble_eq_true rfl⟩ rfl rfl (Nat.le_of_ble_eq_true rfl) ?_
    refine fm_if_ne (pc := 15) (tgt := 24) C dX5_pieceAt_15 (by decide) (fun c2 => ?_) (fun c2 => ?_)
    · refine fm_aload_n (pc := 18) C dX5_pieceAt_18 rfl rfl ?_
      refine fm_iconst (pc := 19) (v := (nI 1)) C dX5_pieceAt_19 (by decide) ?_
      refine fm_bind (fun r20 e20 => ?_)
      refine fm_cVi (pc := 20) C (t_X5_refuse e20) ok_X5_refuse ⟨by decide, rfl⟩ m_ml_X5_67 dX5_pieceAt_20 ⟨Nat.le_of_ble_eq_true rfl, Nat.le_of_ble_eq_true rfl⟩ rfl rfl (Nat.le_of_ble_eq_true rfl) ?_
      exact fm_zret (pc := 23) C hF rfl rfl dX5_pieceAt_23
    · refine fm_aload_n (pc := 24) C dX5_pieceAt_24 rfl rfl ?_
      refine fm_aload_n (pc := 25) C dX5_pieceAt_25 rfl rfl ?_
      refine fm_bind (fun r26 e26 => ?_)
      refine fm_cVqc (pc := 26) C (t_X5_laid e26) ok_X5_laid ⟨by decide, rfl⟩ m_ml_X5_192 dX5_pieceAt_26 ⟨Nat.le_of_ble_eq_true rfl, Nat.le_of_ble_eq_true rfl⟩ rfl rfl (Nat.le_of_ble_eq_true rfl) ?_
      refine fm_iload_n (pc := 29) C dX5_pieceAt_29 rfl rfl ?_
      refine fm_bind (fun r30 e30 => ?_)
      refine fm_cVi0 (pc := 30) C (t_X1_pieceWith e30) ok_X1_pieceWith ⟨by decide, rfl⟩ m_ml_X5_214 dX5_pieceAt_30 ⟨Nat.le_of_ble_eq_true rfl, Nat.le_of_ble_eq_true rfl⟩ rfl rfl (Nat.le_of_ble_eq_true rfl) ?_
      exact fm_zret (pc := 33) C hF rfl rfl dX5_pieceAt_33
theorem t_X5_pieceAt {l : Launch} {G : fm_G} {v1 : Int32} {v2 : Int32} {μ : fm_I} {ν : fm_L} {r : Int32 × fm_I × fm_L} (h : m_X5_pieceAt v1 v2 μ ν = some r) : fm_Mi l G yX5_pieceAt cX5_pieceAt 4 (some .int) 5 106 [.ref (G.2.2.1 0), .int v1, .int v2] μ ν r := fm_Mi_of (by decide +kernel) (Nat.le_of_ble_eq_true rfl) (fun _ C => j_X5_pieceAt C rfl r h)
