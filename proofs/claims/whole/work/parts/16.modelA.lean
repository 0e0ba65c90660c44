theorem dX6_no_0 : decode cX6_no 0 = .ok (.aload_n 0, 1) := by decide +kernel
theorem dX6_no_1 : decode cX6_no 1 = .ok (.getfield 16, 3) := by decide +kernel
theorem dX6_no_4 : decode cX6_no 4 = .ok (.iload_n 1, 1) := by decide +kernel
theorem dX6_no_5 : decode cX6_no 5 = .ok (.ineg, 1) := by decide +kernel
theorem dX6_no_6 : decode cX6_no 6 = .ok (.dup2, 1) := by decide +kernel
theorem dX6_no_7 : decode cX6_no 7 = .ok (.iaload, 1) := by decide +kernel
theorem dX6_no_8 : decode cX6_no 8 = .ok (.iconst 1, 1) := by decide +kernel
theorem dX6_no_9 : decode cX6_no 9 = .ok (.iadd, 1) := by decide +kernel
theorem dX6_no_10 : decode cX6_no 10 = .ok (.iastore, 1) := by decide +kernel
theorem dX6_no_11 : decode cX6_no 11 = .ok (.iload_n 1, 1) := by decide +kernel
theorem dX6_no_12 : decode cX6_no 12 = .ok (.ireturn, 1) := by decide +kernel
def m_X6_no (v1 : Int32) (μ : fm_I) (ν : fm_L) : Option (Int32 × fm_I × fm_L) :=
  fm_g (fm_in ((-v1)) (fm_n 59)) (some ((v1, (fm_u μ 59 ((-v1)).toNatClampNeg ((((μ 59 ((-v1)).toNatClampNeg)) + ((nI 1))))), ν)))
theorem ok_X6_no : fm_okV yX6_no cX6_no 2 (some .int) 1 := ⟨m_cd_X6_no, m_im_X6_no, m_se_X6_X6_no, m_ini_X6, by decide +kernel, by decide +kernel, by decide +kernel⟩
set_option maxHeartbeats 4000000 in
set_option maxRecDepth 100000 in
theorem j_X6_no {X : fm_X} {G : fm_G} {l : Launch} {v1 : Int32} {μ : fm_I} {ν : fm_L} (C : fm_C X G l cX6_no RX6 2 (some .int) 1 12) {F : (Int32 × fm_I × fm_L) → State → Prop} (hF : F = fm_Qi X G) : fm_J X G 2 F (m_X6_no v1 μ ν) μ ν 0 [(0, .ref (G.2.2.1 58)), (1, .int v1)] [] := by
  unfold m_X6_no
  refine fm_aload_n (pc := 0) C dX6_no_0 rfl rfl ?_
  refine g6_refused (pc := 1) C (by decide) dX6_no_1 m_fl_X6_16 ?_
  refine fm_iload_n (pc := 4) C dX6_no_4 rfl rfl ?_
  refine fm_ineg (pc := 5) C dX6_no_5 ?_
  refine fm_dup2 (pc := 6) C dX6_no_6 rfl rfl ?_
  refine fm_guard (fun h1 => ?_)
  refine fm_iald (pc := 7) C (by decide) h1 dX6_no_7 ?_
  refine fm_iconst (pc := 8) (v := (nI 1)) C dX6_no_8 (by decide) ?_
  refine fm_iadd (pc := 9) C dX6_no_9 ?_
  refine fm_iast (pc := 10) C (by decide) h1 dX6_no_10 ?_
  refine fm_iload_n (pc := 11) C dX6_no_11 rfl rfl ?_
  exact fm_zret (pc := 12) C hF rfl rfl dX6_no_12
theorem t_X6_no {l : Launch} {G : fm_G} {v1 : Int32} {μ : fm_I} {ν : fm_L} {r : Int32 × fm_I × fm_L} (h : m_X6_no v1 μ ν = some r) : fm_Mi l G yX6_no cX6_no 2 (some .int) 1 12 [.ref (G.2.2.1 58), .int v1] μ ν r := fm_Mi_of (by decide +kernel) (Nat.le_of_ble_eq_true rfl) (fun _ C => j_X6_no C rfl r h)
theorem dX6_noTen_0 : decode cX6_noTen 0 = .ok (.aload_n 0, 1) := by decide +kernel
theorem dX6_noTen_1 : decode cX6_noTen 1 = .ok (.getfield 16, 3) := by decide +kernel
theorem dX6_noTen_4 : decode cX6_noTen 4 = .ok (.iload_n 1, 1) := by decide +kernel
theorem dX6_noTen_5 : decode cX6_noTen 5 = .ok (.ineg, 1) := by decide +kernel
theorem dX6_noTen_6 : decode cX6_noTen 6 = .ok (.dup2, 1) := by decide +kernel
theorem dX6_noTen_7 : decode cX6_noTen 7 = .ok (.iaload, 1) := by decide +kernel
theorem dX6_noTen_8 : decode cX6_noTen 8 = .ok (.iconst 1, 1) := by decide +kernel
theorem dX6_noTen_9 : decode cX6_noTen 9 = .ok (.iadd, 1) := by decide +kernel
theorem dX6_noTen_10 : decode cX6_noTen 10 = .ok (.iastore, 1) := by decide +kernel
theorem dX6_noTen_11 : decode cX6_noTen 11 = .ok (.iload_n 1, 1) := by decide +kernel
theorem dX6_noTen_12 : decode cX6_noTen 12 = .ok (.bipush 10, 2) := by decide +kernel
theorem dX6_noTen_14 : decode cX6_noTen 14 = .ok (.isub, 1) := by decide +kernel
theorem dX6_noTen_15 : decode cX6_noTen 15 = .ok (.ireturn, 1) := by decide +kernel
def m_X6_noTen (v1 : Int32) (μ : fm_I) (ν : fm_L) : Option (Int32 × fm_I × fm_L) :=
  fm_g (fm_in ((-v1)) (fm_n 59)) (some (((v1 - ((nI 10))), (fm_u μ 59 ((-v1)).toNatClampNeg ((((μ 59 ((-v1)).toNatClampNeg)) + ((nI 1))))), ν)))
theorem ok_X6_noTen : fm_okV yX6_noTen cX6_noTen 2 (some .int) 1 := ⟨m_cd_X6_noTen, m_im_X6_noTen, m_se_X6_X6_noTen, m_ini_X6, by decide +kernel, by decide +kernel, by decide +kernel⟩
set_option maxHeartbeats 4000000 in
set_option maxRecDepth 100000 in
theorem j_X6_noTen {X : fm_X} {G : fm_G} {l : Launch} {v1 : Int32} {μ : fm_I} {ν : fm_L} (C : fm_C X G l cX6_noTen RX6 2 (some .int) 1 12) {F : (Int32 × fm_I × fm_L) → State → Prop} (hF : F = fm_Qi X G) : fm_J X G 2 F (m_X6_noTen v1 μ ν) μ ν 0 [(0, .ref (G.2.2.1 58)), (1, .int v1)] [] := by
  unfold m_X6_noTen
  refine fm_aload_n (pc := 0) C dX6_noTen_0 rfl rfl ?_
  refine g6_refused (pc := 1) C (by decide) dX6_noTen_1 m_fl_X6_16 ?_
  refine fm_iload_n (pc := 4) C dX6_noTen_4 rfl rfl ?_
  refine fm_ineg (pc := 5) C dX6_noTen_5 ?_
  refine fm_dup2 (pc := 6) C dX6_noTen_6 rfl rfl ?_
  refine fm_guard (fun h1 => ?_)
  refine fm_iald (pc := 7) C (by decide) h1 dX6_noTen_7 ?_
  refine fm_iconst (pc := 8) (v := (nI 1)) C dX6_noTen_8 (by decide) ?_
  refine fm_iadd (pc := 9) C dX6_noTen_9 ?_
  refine fm_iast (pc := 10) C (by decide) h1 dX6_noTen_10 ?_
  refine fm_iload_n (pc := 11) C dX6_noTen_11 rfl rfl ?_
  refine fm_bipush (pc := 12) (v := (nI 10)) C dX6_noTen_12 (by decide) ?_
  refine fm_isub (pc := 14) C dX6_noTen_14 ?_
  exact fm_zret (pc := 15) C hF rfl rfl dX6_noTen_15
theorem t_X6_noTen {l : Launch} {G : fm_G} {v1 : Int32} {μ : fm_I} {ν : fm_L} {r : Int32 × fm_I × fm_L} (h : m_X6_noTen v1 μ ν = some r) : fm_Mi l G yX6_noTen cX6_noTen 2 (some .int) 1 12 [.ref (G.2.2.1 58), .int v1] μ ν r := fm_Mi_of (by decide +kernel) (Nat.le_of_ble_eq_true rfl) (fun _ C => j_X6_noTen C rfl r h)
theorem dX6_noFar_0 : decode cX6_noFar 0 = .ok (.aload_n 0, 1) := by decide +kernel
theorem dX6_noFar_1 : decode cX6_noFar 1 = .ok (.getfield 16, 3) := by decide +kernel
theorem dX6_noFar_4 : decode cX6_noFar 4 = .ok (.iload_n 1, 1) := by decide +kernel
theorem dX6_noFar_5 : decode cX6_noFar 5 = .ok (.ineg, 1) := by decide +kernel
theorem dX6_noFar_6 : decode cX6_noFar 6 = .ok (.dup2, 1) := by decide +kernel
theorem dX6_noFar_7 : decode cX6_noFar 7 = .ok (.iaload, 1) := by decide +kernel
theorem dX6_noFar_8 : decode cX6_noFar 8 = .ok (.iconst 1, 1) := by decide +kernel
theorem dX6_noFar_9 : decode cX6_noFar 9 = .ok (.iadd, 1) := by decide +kernel
theorem dX6_noFar_10 : decode cX6_noFar 10 = .ok (.iastore, 1) := by decide +kernel
theorem dX6_noFar_11 : decode cX6_noFar 11 = .ok (.iload_n 1, 1) := by decide +kernel
theorem dX6_noFar_12 : decode cX6_noFar 12 = .ok (.ldc 84, 2) := by decide +kernel
theorem dX6_noFar_14 : decode cX6_noFar 14 = .ok (.isub, 1) := by decide +kernel
theorem dX6_noFar_15 : decode cX6_noFar 15 = .ok (.ireturn, 1) := by decide +kernel
def m_X6_noFar (v1 : Int32) (μ : fm_I) (ν : fm_L) : Option (Int32 × fm_I × fm_L) :=
  fm_g (fm_in ((-v1)) (fm_n 59)) (some (((v1 - ((nI 1000000))), (fm_u μ 59 ((-v1)).toNatClampNeg ((((μ 59 ((-v1)).toNatClampNeg)) + ((nI 1))))), ν)))
theorem ok_X6_noFar : fm_okV yX6_noFar cX6_noFar 2 (some .int) 1 := ⟨m_cd_X6_noFar, m_im_X6_noFar, m_se_X6_X6_noFar, m_ini_X6, by decide +kernel, by decide +kernel, by decide +kernel⟩
set_option maxHeartbeats 4000000 in
set_option maxRecDepth 100000 in
theorem j_X6_noFar {X : fm_X} {G : fm_G} {l : Launch} {v1 : Int32} {μ : fm_I} {ν : fm_L} (C : fm_C X G l cX6_noFar RX6 2 (some .int) 1 12) {F : (Int32 × fm_I × fm_L) → State → Prop} (hF : F = fm_Qi X G) : fm_J X G 2 F (m_X6_noFar v1 μ ν) μ ν 0 [(0, .ref (G.2.2.1 58)), (1, .int v1)] [] := by
  unfold m_X6_noFar
  refine fm_aload_n (pc := 0) C dX6_noFar_0 rfl rfl ?_
  refine g6_refused (pc := 1) C (by decide) dX6_noFar_1 m_fl_X6_16 ?_
  refine fm_iload_n (pc := 4) C dX6_noFar_4 rfl rfl ?_
  refine fm_ineg (pc := 5) C dX6_noFar_5 ?_
  refine fm_dup2 (pc := 6) C dX6_noFar_6 rfl rfl ?_
  refine fm_guard (fun h1 => ?_)
  refine fm_iald (pc := 7) C (by decide) h1 dX6_noFar_7 ?_
  refine fm_iconst (pc := 8) (v := (nI 1)) C dX6_noFar_8 (by decide) ?_
  refine fm_iadd (pc := 9) C dX6_noFar_9 ?_
  refine fm_iast (pc := 10) C (by decide) h1 dX6_noFar_10 ?_
  refine fm_iload_n (pc := 11) C dX6_noFar_11 rfl rfl ?_
  refine fm_ldc (pc := 12) (v := (nI 1000000)) C dX6_noFar_12 m_ct_X6_84 ?_
  refine fm_isub (pc := 14) C dX6_noFar_14 ?_
  exact fm_zret (pc := 15) C hF rfl rfl dX6_noFar_15
theorem t_X6_noFar {l : Launch} {G : fm_G} {v1 : Int32} {μ : fm_I} {ν : fm_L} {r : Int32 × fm_I × fm_L} (h : m_X6_noFar v1 μ ν = some r) : fm_Mi l G yX6_noFar cX6_noFar 2 (some .int) 1 12 [.ref (G.2.2.1 58), .int v1] μ ν r := fm_Mi_of (by decide +kernel) (Nat.le_of_ble_eq_true rfl) (fun _ C => j_X6_noFar C rfl r h)
theorem dX6_isShelf_0 : decode cX6_isShelf 0 = .ok (.iload_n 1, 1) := by decide +kernel
theorem dX6_isShelf_1 : decode cX6_isShelf 1 = .ok (.ifCond .lt 13, 3) := by decide +kernel
theorem dX6_isShelf_4 : decode cX6_isShelf 4 = .ok (.iload_n 1, 1) := by decide +kernel
theorem dX6_isShelf_5 : decode cX6_isShelf 5 = .ok (.bipush 8, 2) := by decide +kernel
theorem dX6_isShelf_7 : decode cX6_isShelf 7 = .ok (.if_icmp .ge 7, 3) := by decide +kernel
theorem dX6_isShelf_10 : decode cX6_isShelf 10 = .ok (.iconst 1, 1) := by decide +kernel
theorem dX6_isShelf_11 : decode cX6_isShelf 11 = .ok (.goto 4, 3) := by decide +kernel
theorem dX6_isShelf_14 : decode cX6_isShelf 14 = .ok (.iconst 0, 1) := by decide +kernel
theorem dX6_isShelf_15 : decode cX6_isShelf 15 = .ok (.ireturn, 1) := by decide +kernel
def m_X6_isShelf (v1 : Int32) (μ : fm_I) (ν : fm_L) : Option (Int32) :=
  if v1 < 0 then some ((nI 0)) else if (nI 8) ≤ v1 then some ((nI 0)) else some ((nI 1))
theorem ok_X6_isShelf : fm_okV yX6_isShelf cX6_isShelf 2 (some .boolean) 1 := ⟨m_cd_X6_isShelf, m_im_X6_isShelf, m_se_X6_X6_isShelf, m_ini_X6, by decide +kernel, by decide +kernel, by decide +kernel⟩
set_option maxHeartbeats 4000000 in
set_option maxRecDepth 100000 in
theorem j_X6_isShelf {X : fm_X} {G : fm_G} {l : Launch} {v1 : Int32} {μ : fm_I} {ν : fm_L} (C : fm_C X G l cX6_isShelf RX6 2 (some .boolean) 1 12) {F : Int32 → State → Prop} (hF : F = fun r => fm_Qi X G (r, μ, ν)) : fm_J X G 2 F (m_X6_isShelf v1 μ ν) μ ν 0 [(0, .ref (G.2.2.1 58)), (1, .int v1)] [] := by
  unfold m_X6_isShelf
  refine fm_iload_n (pc := 0) C dX6_isShelf_0 rfl rfl ?_
  refine fm_if_lt (pc := 1) (tgt := 14) C dX6_isShelf_1 (by decide) (fun c1 => ?_) (fun c1 => ?_)
  · refine fm_iconst (pc := 14) (v := (nI 0)) C dX6_isShelf_14 (by decide) ?_
    exact fm_zret0 (pc := 15) C hF rfl rfl dX6_isShelf_15
  · refine fm_iload_n (pc := 4) C dX6_isShelf_4 rfl rfl ?_
    refine fm_bipush (pc := 5) (v := (nI 8)) C dX6_isShelf_5 (by decide) ?_
    refine fm_icmp_ge (pc := 7) (tgt := 14) C dX6_isShelf_7 (by decide) (fun c2 => ?_) (fun c2 => ?_)
    · refine fm_iconst (pc := 14) (v := (nI 0)) C dX6_isShelf_14 (by decide) ?_
      exact fm_zret0 (pc := 15) C hF rfl rfl dX6_isShelf_15
    · refine fm_iconst (pc := 10) (v := (nI 1)) C dX6_isShelf_10 (by decide) ?_
      refine fm_goto (pc := 11) (tgt := 15) C dX6_isShelf_11 (by decide) ?_
      exact fm_zret0 (pc := 15) C hF rfl rfl dX6_isShelf_15
theorem t_X6_isShelf {l : Launch} {G : fm_G} {v1 : Int32} {μ : fm_I} {ν : fm_L} {r : Int32} (h : m_X6_isShelf v1 μ ν = some r) : fm_Mi l G yX6_isShelf cX6_isShelf 2 (some .boolean) 1 12 [.ref (G.2.2.1 58), .int v1] μ ν (r, μ, ν) := fm_Mi_of (by decide +kernel) (Nat.le_of_ble_eq_true rfl) (fun _ C => j_X6_isShelf C rfl r h)
theorem dX6_isBand_0 : decode cX6_isBand 0 = .ok (.iload_n 1, 1) := by decide +kernel
theorem dX6_isBand_1 : decode cX6_isBand 1 = .ok (.ifCond .lt 15, 3) := by decide +kernel
theorem dX6_isBand_4 : decode cX6_isBand 4 = .ok (.iload_n 1, 1) := by decide +kernel
theorem dX6_isBand_5 : decode cX6_isBand 5 = .ok (.aload_n 0, 1) := by decide +kernel
theorem dX6_isBand_6 : decode cX6_isBand 6 = .ok (.getfield 85, 3) := by decide +kernel
theorem dX6_isBand_9 : decode cX6_isBand 9 = .ok (.if_icmp .ge 7, 3) := by decide +kernel
theorem dX6_isBand_12 : decode cX6_isBand 12 = .ok (.iconst 1, 1) := by decide +kernel
theorem dX6_isBand_13 : decode cX6_isBand 13 = .ok (.goto 4, 3) := by decide +kernel
theorem dX6_isBand_16 : decode cX6_isBand 16 = .ok (.iconst 0, 1) := by decide +kernel
theorem dX6_isBand_17 : decode cX6_isBand 17 = .ok (.ireturn, 1) := by decide +kernel
def m_X6_isBand (v1 : Int32) (μ : fm_I) (ν : fm_L) : Option (Int32) :=
  if v1 < 0 then some ((nI 0)) else if (μ 58 0) ≤ v1 then some ((nI 0)) else some ((nI 1))
theorem ok_X6_isBand : fm_okV yX6_isBand cX6_isBand 2 (some .boolean) 1 := ⟨m_cd_X6_isBand, m_im_X6_isBand, m_se_X6_X6_isBand, m_ini_X6, by decide +kernel, by decide +kernel, by decide +kernel⟩
set_option maxHeartbeats 4000000 in
set_option maxRecDepth 100000 in
theorem j_X6_isBand {X : fm_X} {G : fm_G} {l : Launch} {v1 : Int32} {μ : fm_I} {ν : fm_L} (C : fm_C X G l cX6_isBand RX6 2 (some .boolean) 1 12) {F : Int32 → State → Prop} (hF : F = fun r => fm_Qi X G (r, μ, ν)) : fm_J X G 2 F (m_X6_isBand v1 μ ν) μ ν 0 [(0, .ref (G.2.2.1 58)), (1, .int v1)] [] := by
  unfold m_X6_isBand
  refine fm_iload_n (pc := 0) C dX6_isBand_0 rfl rfl ?_
  refine fm_if_lt (pc := 1) (tgt := 16) C dX6_isBand_1 (by decide) (fun c1 => ?_) (fun c1 => ?_)
  · refine fm_iconst (pc := 16) (v := (nI 0)) C dX6_isBand_16 (by decide) ?_
    exact fm_zret0 (pc := 17) C hF rfl rfl dX6_isBand_17
  · refine fm_iload_n (pc := 4) C dX6_isBand_4 rfl rfl ?_
    refine fm_aload_n (pc := 5) C dX6_isBand_5 rfl rfl ?_
    refine g6_bands (pc := 6) C (by decide) dX6_isBand_6 m_fl_X6_85 ?_
    refine fm_icmp_ge (pc := 9) (tgt := 16) C dX6_isBand_9 (by decide) (fun c2 => ?_) (fun c2 => ?_)
    · refine fm_iconst (pc := 16) (v := (nI 0)) C dX6_isBand_16 (by decide) ?_
      exact fm_zret0 (pc := 17) C hF rfl rfl dX6_isBand_17
    · refine fm_iconst (pc := 12) (v := (nI 1)) C dX6_isBand_12 (by decide) ?_
      refine fm_goto (pc := 13) (tgt := 17) C dX6_isBand_13 (by decide) ?_
      exact fm_zret0 (pc := 17) C hF rfl rfl dX6_isBand_17
theorem t_X6_isBand {l : Launch} {G : fm_G} {v1 : Int32} {μ : fm_I} {ν : fm_L} {r : Int32} (h : m_X6_isBand v1 μ ν = some r) : fm_Mi l G yX6_isBand cX6_isBand 2 (some .boolean) 1 12 [.ref (G.2.2.1 58), .int v1] μ ν (r, μ, ν) := fm_Mi_of (by decide +kernel) (Nat.le_of_ble_eq_true rfl) (fun _ C => j_X6_isBand C rfl r h)
theorem dX6_isStrip_0 : decode cX6_isStrip 0 = .ok (.aload_n 0, 1) := by decide +kernel
theorem dX6_isStrip_1 : decode cX6_isStrip 1 = .ok (.iload_n 1, 1) := by decide +kernel
theorem dX6_isStrip_2 : decode cX6_isStrip 2 = .ok (.invokevirtual 88, 3) := by decide +kernel
theorem dX6_isStrip_5 : decode cX6_isStrip 5 = .ok (.ifCond .eq 21, 3) := by decide +kernel
theorem dX6_isStrip_8 : decode cX6_isStrip 8 = .ok (.iload_n 2, 1) := by decide +kernel
theorem dX6_isStrip_9 : decode cX6_isStrip 9 = .ok (.ifCond .lt 17, 3) := by decide +kernel
theorem dX6_isStrip_12 : decode cX6_isStrip 12 = .ok (.iload_n 2, 1) := by decide +kernel
theorem dX6_isStrip_13 : decode cX6_isStrip 13 = .ok (.aload_n 0, 1) := by decide +kernel
theorem dX6_isStrip_14 : decode cX6_isStrip 14 = .ok (.getfield 26, 3) := by decide +kernel
theorem dX6_isStrip_17 : decode cX6_isStrip 17 = .ok (.iload_n 1, 1) := by decide +kernel
theorem dX6_isStrip_18 : decode cX6_isStrip 18 = .ok (.iaload, 1) := by decide +kernel
theorem dX6_isStrip_19 : decode cX6_isStrip 19 = .ok (.if_icmp .ge 7, 3) := by decide +kernel
theorem dX6_isStrip_22 : decode cX6_isStrip 22 = .ok (.iconst 1, 1) := by decide +kernel
theorem dX6_isStrip_23 : decode cX6_isStrip 23 = .ok (.goto 4, 3) := by decide +kernel
theorem dX6_isStrip_26 : decode cX6_isStrip 26 = .ok (.iconst 0, 1) := by decide +kernel
theorem dX6_isStrip_27 : decode cX6_isStrip 27 = .ok (.ireturn, 1) := by decide +kernel
def m_X6_isStrip (v1 : Int32) (v2 : Int32) (μ : fm_I) (ν : fm_L) : Option (Int32) :=
  (m_X6_isBand v1 μ ν).bind (fun r2 => if r2 = 0 then some ((nI 0)) else if v2 < 0 then some ((nI 0)) else fm_g (fm_in v1 (fm_n 62)) (if (μ 62 v1.toNatClampNeg) ≤ v2 then some ((nI 0)) else some ((nI 1))))
theorem ok_X6_isStrip : fm_okV yX6_isStrip cX6_isStrip 3 (some .boolean) 2 := ⟨m_cd_X6_isStrip, m_im_X6_isStrip, m_se_X6_X6_isStrip, m_ini_X6, by decide +kernel, by decide +kernel, by decide +kernel⟩
set_option maxHeartbeats 4000000 in
set_option maxRecDepth 100000 in
theorem j_X6_isStrip {X : fm_X} {G : fm_G} {l : Launch} {v1 : Int32} {v2 : Int32} {μ : fm_I} {ν : fm_L} (C : fm_C X G l cX6_isStrip RX6 3 (some .boolean) 2 33) {F : Int32 → State → Prop} (hF : F = fun r => fm_Qi X G (r, μ, ν)) : fm_J X G 3 F (m_X6_isStrip v1 v2 μ ν) μ ν 0 [(0, .ref (G.2.2.1 58)), (1, .int v1), (2, .int v2)] [] := by
  unfold m_X6_isStrip
  refine fm_aload_n (pc := 0) C dX6_isStrip_0 rfl rfl ?_
  refine fm_iload_n (pc := 1) C dX6_isStrip_1 rfl rfl ?_
  refine fm_bind (fun r2 e2 => ?_)
  refine fm_cVi0 (pc := 2) C (t_X6_isBand e2) ok_X6_isBand ⟨by decide, rfl⟩ m_ml_X6_88 dX6_isStrip_2 ⟨Nat.le_of_ble_eq_true rfl, Nat.le_of_ble_eq_true rfl⟩ rfl rfl (Nat.le_of_ble_eq_true rfl) ?_
  refine fm_if_eq (pc := 5) (tgt := 26) C dX6_isStrip_5 (by decide) (fun c1 => ?_) (fun c1 => ?_)
  · refine fm_iconst (pc := 26) (v := (nI 0)) C dX6_isStrip_26 (by decide) ?_
    exact fm_zret0 (pc := 27) C hF rfl rfl dX6_isStrip_27
  · refine fm_iload_n (pc := 8) C dX6_isStrip_8 rfl rfl ?_
    refine fm_if_lt (pc := 9) (tgt := 26) C dX6_isStrip_9 (by decide) (fun c2 => ?_) (fun c2 => ?_)
    · refine fm_iconst (pc := 26) (v := (nI 0)) C dX6_isStrip_26 (by decide) ?_
      exact fm_zret0 (pc := 27) C hF rfl rfl dX6_isStrip_27
    · refine fm_iload_n (pc := 12) C dX6_isStrip_12 rfl rfl ?_
      refine fm_aload_n (pc := 13) C dX6_isStrip_13 rfl rfl ?_
      refine g6_strips (pc := 14) C (by decide) dX6_isStrip_14 m_fl_X6_26 ?_
      refine fm_iload_n (pc := 17) C dX6_isStrip_17 rfl rfl ?_
      refine fm_guard (fun h3 => ?_)
      refine fm_iald (pc := 18) C (by decide) h3 dX6_isStrip_18 ?_
      refine fm_icmp_ge (pc := 19) (tgt := 26) C dX6_isStrip_19 (by decide) (fun c4 => ?_) (fun c4 => ?_)
      · refine fm_iconst (pc := 26) (v := (nI 0)) C dX6_isStrip_26 (by decide) ?_
        exact fm_zret0 (pc := 27) C hF rfl rfl dX6_isStrip_27
      · refine fm_iconst (pc := 22) (v := (nI 1)) C dX6_isStrip_22 (by decide) ?_
        refine fm_goto (pc := 23) (tgt := 27) C dX6_isStrip_23 (by decide) ?_
        exact fm_zret0 (pc := 27) C hF rfl rfl dX6_isStrip_27
theorem t_X6_isStrip {l : Launch} {G : fm_G} {v1 : Int32} {v2 : Int32} {μ : fm_I} {ν : fm_L} {r : Int32} (h : m_X6_isStrip v1 v2 μ ν = some r) : fm_Mi l G yX6_isStrip cX6_isStrip 3 (some .boolean) 2 33 [.ref (G.2.2.1 58), .int v1, .int v2] μ ν (r, μ, ν) := fm_Mi_of (by decide +kernel) (Nat.le_of_ble_eq_true rfl) (fun _ C => j_X6_isStrip C rfl r h)
theorem dX6_row_0 : decode cX6_row 0 = .ok (.aload_n 0, 1) := by decide +kernel
theorem dX6_row_1 : decode cX6_row 1 = .ok (.iload_n 1, 1) := by decide +kernel
theorem dX6_row_2 : decode cX6_row 2 = .ok (.invokevirtual 92, 3) := by decide +kernel
theorem dX6_row_5 : decode cX6_row 5 = .ok (.ifCond .ne 9, 3) := by decide +kernel
theorem dX6_row_8 : decode cX6_row 8 = .ok (.aload_n 0, 1) := by decide +kernel
theorem dX6_row_9 : decode cX6_row 9 = .ok (.iconst (-1), 1) := by decide +kernel
theorem dX6_row_10 : decode cX6_row 10 = .ok (.invokevirtual 95, 3) := by decide +kernel
theorem dX6_row_13 : decode cX6_row 13 = .ok (.ireturn, 1) := by decide +kernel
theorem dX6_row_14 : decode cX6_row 14 = .ok (.iload_n 3, 1) := by decide +kernel
theorem dX6_row_15 : decode cX6_row 15 = .ok (.ifCond .ge 10, 3) := by decide +kernel
theorem dX6_row_18 : decode cX6_row 18 = .ok (.aload_n 0, 1) := by decide +kernel
theorem dX6_row_19 : decode cX6_row 19 = .ok (.bipush (-4), 2) := by decide +kernel
theorem dX6_row_21 : decode cX6_row 21 = .ok (.invokevirtual 95, 3) := by decide +kernel
theorem dX6_row_24 : decode cX6_row 24 = .ok (.ireturn, 1) := by decide +kernel
theorem dX6_row_25 : decode cX6_row 25 = .ok (.iload_n 2, 1) := by decide +kernel
theorem dX6_row_26 : decode cX6_row 26 = .ok (.ifCond .lt 8, 3) := by decide +kernel
theorem dX6_row_29 : decode cX6_row 29 = .ok (.iload_n 2, 1) := by decide +kernel
theorem dX6_row_30 : decode cX6_row 30 = .ok (.iconst 3, 1) := by decide +kernel
theorem dX6_row_31 : decode cX6_row 31 = .ok (.if_icmp .le 10, 3) := by decide +kernel
theorem dX6_row_34 : decode cX6_row 34 = .ok (.aload_n 0, 1) := by decide +kernel
theorem dX6_row_35 : decode cX6_row 35 = .ok (.bipush (-6), 2) := by decide +kernel
theorem dX6_row_37 : decode cX6_row 37 = .ok (.invokevirtual 95, 3) := by decide +kernel
theorem dX6_row_40 : decode cX6_row 40 = .ok (.ireturn, 1) := by decide +kernel
theorem dX6_row_41 : decode cX6_row 41 = .ok (.iload_n 3, 1) := by decide +kernel
theorem dX6_row_42 : decode cX6_row 42 = .ok (.sipush 160, 3) := by decide +kernel
theorem dX6_row_45 : decode cX6_row 45 = .ok (.if_icmp .le 10, 3) := by decide +kernel
theorem dX6_row_48 : decode cX6_row 48 = .ok (.aload_n 0, 1) := by decide +kernel
theorem dX6_row_49 : decode cX6_row 49 = .ok (.bipush (-7), 2) := by decide +kernel
theorem dX6_row_51 : decode cX6_row 51 = .ok (.invokevirtual 95, 3) := by decide +kernel
theorem dX6_row_54 : decode cX6_row 54 = .ok (.ireturn, 1) := by decide +kernel
theorem dX6_row_55 : decode cX6_row 55 = .ok (.aload_n 0, 1) := by decide +kernel
theorem dX6_row_56 : decode cX6_row 56 = .ok (.getfield 38, 3) := by decide +kernel
theorem dX6_row_59 : decode cX6_row 59 = .ok (.iload_n 1, 1) := by decide +kernel
theorem dX6_row_60 : decode cX6_row 60 = .ok (.iconst 1, 1) := by decide +kernel
theorem dX6_row_61 : decode cX6_row 61 = .ok (.iastore, 1) := by decide +kernel
theorem dX6_row_62 : decode cX6_row 62 = .ok (.aload_n 0, 1) := by decide +kernel
theorem dX6_row_63 : decode cX6_row 63 = .ok (.getfield 41, 3) := by decide +kernel
theorem dX6_row_66 : decode cX6_row 66 = .ok (.iload_n 1, 1) := by decide +kernel
theorem dX6_row_67 : decode cX6_row 67 = .ok (.iload_n 2, 1) := by decide +kernel
theorem dX6_row_68 : decode cX6_row 68 = .ok (.iastore, 1) := by decide +kernel
theorem dX6_row_69 : decode cX6_row 69 = .ok (.aload_n 0, 1) := by decide +kernel
theorem dX6_row_70 : decode cX6_row 70 = .ok (.getfield 44, 3) := by decide +kernel
theorem dX6_row_73 : decode cX6_row 73 = .ok (.iload_n 1, 1) := by decide +kernel
theorem dX6_row_74 : decode cX6_row 74 = .ok (.iload_n 3, 1) := by decide +kernel
theorem dX6_row_75 : decode cX6_row 75 = .ok (.iastore, 1) := by decide +kernel
theorem dX6_row_76 : decode cX6_row 76 = .ok (.iconst 0, 1) := by decide +kernel
theorem dX6_row_77 : decode cX6_row 77 = .ok (.istore 4, 2) := by decide +kernel
theorem dX6_row_79 : decode cX6_row 79 = .ok (.iload 4, 2) := by decide +kernel
theorem dX6_row_81 : decode cX6_row 81 = .ok (.sipush 160, 3) := by decide +kernel
theorem dX6_row_84 : decode cX6_row 84 = .ok (.if_icmp .ge 23, 3) := by decide +kernel
theorem dX6_row_87 : decode cX6_row 87 = .ok (.aload_n 0, 1) := by decide +kernel
theorem dX6_row_88 : decode cX6_row 88 = .ok (.getfield 50, 3) := by decide +kernel
theorem dX6_row_91 : decode cX6_row 91 = .ok (.sipush 160, 3) := by decide +kernel
theorem dX6_row_94 : decode cX6_row 94 = .ok (.iload_n 1, 1) := by decide +kernel
theorem dX6_row_95 : decode cX6_row 95 = .ok (.imul, 1) := by decide +kernel
theorem dX6_row_96 : decode cX6_row 96 = .ok (.iload 4, 2) := by decide +kernel
theorem dX6_row_98 : decode cX6_row 98 = .ok (.iadd, 1) := by decide +kernel
theorem dX6_row_99 : decode cX6_row 99 = .ok (.lconst 0, 1) := by decide +kernel
theorem dX6_row_100 : decode cX6_row 100 = .ok (.lastore, 1) := by decide +kernel
theorem dX6_row_101 : decode cX6_row 101 = .ok (.iinc 4 1, 3) := by decide +kernel
theorem dX6_row_104 : decode cX6_row 104 = .ok (.goto (-25), 3) := by decide +kernel
theorem dX6_row_107 : decode cX6_row 107 = .ok (.iconst 1, 1) := by decide +kernel
theorem dX6_row_108 : decode cX6_row 108 = .ok (.ireturn, 1) := by decide +kernel
def m_X6_row_79 (v1 : Int32) (K : fm_I → fm_L → Option (Int32 × fm_I × fm_L)) : Nat → Int32 → fm_I → fm_L → Option (Int32 × fm_I × fm_L)
  | 0, _, _, _ => none
  | k + 1, v4, μ, ν => if (nI 160) ≤ v4 then K  μ ν else fm_g (fm_in ((((((nI 160)) * v1)) + v4)) (fm_n 70)) (m_X6_row_79 v1 K k ((v4 + nI 1)) μ (fm_ul ν 70 ((((((nI 160)) * v1)) + v4)).toNatClampNeg ((lN 0))))
def m_X6_row (v1 : Int32) (v2 : Int32) (v3 : Int32) (μ : fm_I) (ν : fm_L) : Option (Int32 × fm_I × fm_L) :=
  (m_X6_isShelf v1 μ ν).bind (fun r2 => if r2 = 0 then (m_X6_no ((-1 : Int32)) μ ν).bind (fun r10 => some ((r10.1, r10.2.1, r10.2.2))) else if 0 ≤ v3 then if v2 < 0 then (m_X6_no ((-6 : Int32)) μ ν).bind (fun r37 => some ((r37.1, r37.2.1, r37.2.2))) else if v2 ≤ (nI 3) then if v3 ≤ (nI 160) then fm_g (fm_in v1 (fm_n 66)) (fm_g (fm_in v1 (fm_n 67)) (fm_g (fm_in v1 (fm_n 68)) (m_X6_row_79 v1  (fun μ79 ν79 => some (((nI 1), μ79, ν79))) 5000 ((nI 0)) (fm_u (fm_u (fm_u μ 66 v1.toNatClampNeg ((nI 1))) 67 v1.toNatClampNeg v2) 68 v1.toNatClampNeg v3) ν))) else (m_X6_no ((-7 : Int32)) μ ν).bind (fun r51 => some ((r51.1, r51.2.1, r51.2.2))) else (m_X6_no ((-6 : Int32)) μ ν).bind (fun r37 => some ((r37.1, r37.2.1, r37.2.2))) else (m_X6_no ((-4 : Int32)) μ ν).bind (fun r21 => some ((r21.1, r21.2.1, r21.2.2))))
theorem ok_X6_row : fm_okV yX6_row cX6_row 5 (some .int) 3 := ⟨m_cd_X6_row, m_im_X6_row, m_se_X6_X6_row, m_ini_X6, by decide +kernel, by decide +kernel, by decide +kernel⟩
set_option maxHeartbeats 4000000 in
set_option maxRecDepth 100000 in
theorem j_X6_row_79_ {X : fm_X} {G : fm_G} {l : Launch} {v1 : Int32} (C : fm_C X G l cX6_row RX6 5 (some .int) 2 33) {F : (Int32 × fm_I × fm_L) → State → Prop} (hF : F = fm_Qi X G)  {K : fm_I → fm_L → Option (Int32 × fm_I × fm_L)} (hK : ∀  (μ : fm_I) (ν : fm_L), fm_J X G 5 F (K μ ν) μ ν 107 [] []) : ∀ (k : Nat) (v4 : Int32) (μ : fm_I) (ν : fm_L), fm_J X G 5 F (m_X6_row_79 v1 K k v4 μ ν) μ ν 79 [(0, .ref (G.2.2.1 58)), (1, .int v1), (4, .int v4)] [] := by
  intro k
  induction k with
  | zero =>
    intro v4 μ ν
    exact fm_none
  | succ k ih =>
    intro v4 μ ν
    rw [m_X6_row_79]
    refine fm_iload (pc := 79) C dX6_row_79 rfl ?_
    refine fm_sipush (pc := 81) (v := (nI 160)) C dX6_row_81 (by decide) ?_
    refine fm_icmp_ge (pc := 84) (tgt := 107) C dX6_row_84 (by decide) (fun c9 => ?_) (fun c9 => ?_)
    · refine fm_less (lv' := []) (by repeat (first | exact trivial | refine ⟨rfl, ?_⟩)) ?_
      exact hK  _ _
    · refine fm_aload_n (pc := 87) C dX6_row_87 rfl rfl ?_
      refine g6_cells (pc := 88) C (by decide) dX6_row_88 m_fl_X6_50 ?_
      refine fm_sipush (pc := 91) (v := (nI 160)) C dX6_row_91 (by decide) ?_
      refine fm_iload_n (pc := 94) C dX6_row_94 rfl rfl ?_
      refine fm_imul (pc := 95) C dX6_row_95 ?_
      refine fm_iload (pc := 96) C dX6_row_96 rfl ?_
      refine fm_iadd (pc := 98) C dX6_row_98 ?_
      refine fm_lconst (pc := 99) (v := lN 0) C dX6_row_99 (by decide) ?_
      refine fm_guard (fun h10 => ?_)
      refine fm_last (pc := 100) C (by decide) h10 dX6_row_100 ?_
      refine fm_iinc (pc := 101) C dX6_row_101 rfl (v := (v4 + nI 1)) rfl (by decide) rfl ?_
      refine fm_goto (pc := 104) (tgt := 79) C dX6_row_104 (by decide) ?_
      refine fm_less (lv' := [(0, .ref (G.2.2.1 58)), (1, .int v1), (4, .int ((v4 + nI 1)))]) (by repeat (first | exact trivial | refine ⟨rfl, ?_⟩)) ?_
      exact ih _ _ _
set_option maxHeartbeats 4000000 in
set_option maxRecDepth 100000 in
theorem j_X6_row {X : fm_X} {G : fm_G} {l : Launch} {v1 : Int32} {v2 : Int32} {v3 : Int32} {μ : fm_I} {ν : fm_L} (C : fm_C X G l cX6_row RX6 5 (some .int) 2 33) {F : (Int32 × fm_I × fm_L) → State → Prop} (hF : F = fm_Qi X G) : fm_J X G 5 F (m_X6_row v1 v2 v3 μ ν) μ ν 0 [(0, .ref (G.2.2.1 58)), (1, .int v1), (2, .int v2), (3, .int v3)] [] := by
  unfold m_X6_row
  refine fm_aload_n (pc := 0) C dX6_row_0 rfl rfl ?_
  refine fm_iload_n (pc := 1) C dX6_row_1 rfl rfl ?_
  refine fm_bind (fun r2 e2 => ?_)
  refine fm_cVi0 (pc := 2) C (t_X6_isShelf e2) ok_X6_isShelf ⟨by decide, rfl⟩ m_ml_X6_92 dX6_row_2 ⟨Nat.le_of_ble_eq_true rfl, Nat.le_of_ble_eq_true rfl⟩ rfl rfl (Nat.le_of_ble_eq_true rfl) ?_
  refine fm_if_ne (pc := 5) (tgt := 14) C dX6_row_5 (by decide) (fun c1 => ?_) (fun c1 => ?_)
  · refine fm_aload_n (pc := 8) C dX6_row_8 rfl rfl ?_
    refine fm_iconst (pc := 9) (v := (-1 : Int32)) C dX6_row_9 (by decide) ?_
    refine fm_bind (fun r10 e10 => ?_)
    refine fm_cVi (pc := 10) C (t_X6_no e10) ok_X6_no ⟨by decide, rfl⟩ m_ml_X6_95 dX6_row_10 ⟨Nat.le_of_ble_eq_true rfl, Nat.le_of_ble_eq_true rfl⟩ rfl rfl (Nat.le_of_ble_eq_true rfl) ?_
    exact fm_zret (pc := 13) C hF rfl rfl dX6_row_13
  · refine fm_iload_n (pc := 14) C dX6_row_14 rfl rfl ?_
    refine fm_if_ge (pc := 15) (tgt := 25) C dX6_row_15 (by decide) (fun c2 => ?_) (fun c2 => ?_)
    · refine fm_iload_n (pc := 25) C dX6_row_25 rfl rfl ?_
      refine fm_if_lt (pc := 26) (tgt := 34) C dX6_row_26 (by decide) (fun c3 => ?_) (fun c3 => ?_)
      · refine fm_aload_n (pc := 34) C dX6_row_34 rfl rfl ?_
        refine fm_bipush (pc := 35) (v := (-6 : Int32)) C dX6_row_35 (by decide) ?_
        refine fm_bind (fun r37 e37 => ?_)
        refine fm_cVi (pc := 37) C (t_X6_no e37) ok_X6_no ⟨by decide, rfl⟩ m_ml_X6_95 dX6_row_37 ⟨Nat.le_of_ble_eq_true rfl, Nat.le_of_ble_eq_true rfl⟩ rfl rfl (Nat.le_of_ble_eq_true rfl) ?_
        exact fm_zret (pc := 40) C hF rfl rfl dX6_row_40
      · refine fm_iload_n (pc := 29) C dX6_row_29 rfl rfl ?_
        refine fm_iconst (pc := 30) (v := (nI 3)) C dX6_row_30 (by decide) ?_
        refine fm_icmp_le (pc := 31) (tgt := 41) C dX6_row_31 (by decide) (fun c4 => ?_) (fun c4 => ?_)
        · refine fm_iload_n (pc := 41) C dX6_row_41 rfl rfl ?_
          refine fm_sipush (pc := 42) (v := (nI 160)) C dX6_row_42 (by decide) ?_
          refine fm_icmp_le (pc := 45) (tgt := 55) C dX6_row_45 (by decide) (fun c5 => ?_) (fun c5 => ?_)
          · refine fm_aload_n (pc := 55) C dX6_row_55 rfl rfl ?_
            refine g6_held (pc := 56) C (by decide) dX6_row_56 m_fl_X6_38 ?_
            refine fm_iload_n (pc := 59) C dX6_row_59 rfl rfl ?_
            refine fm_iconst (pc := 60) (v := (nI 1)) C dX6_row_60 (by decide) ?_
            refine fm_guard (fun h6 => ?_)
            refine fm_iast (pc := 61) C (by decide) h6 dX6_row_61 ?_
            refine fm_aload_n (pc := 62) C dX6_row_62 rfl rfl ?_
            refine g6_sort (pc := 63) C (by decide) dX6_row_63 m_fl_X6_41 ?_
            refine fm_iload_n (pc := 66) C dX6_row_66 rfl rfl ?_
            refine fm_iload_n (pc := 67) C dX6_row_67 rfl rfl ?_
            refine fm_guard (fun h7 => ?_)
            refine fm_iast (pc := 68) C (by decide) h7 dX6_row_68 ?_
            refine fm_aload_n (pc := 69) C dX6_row_69 rfl rfl ?_
            refine g6_size (pc := 70) C (by decide) dX6_row_70 m_fl_X6_44 ?_
            refine fm_iload_n (pc := 73) C dX6_row_73 rfl rfl ?_
            refine fm_iload_n (pc := 74) C dX6_row_74 rfl rfl ?_
            refine fm_guard (fun h8 => ?_)
            refine fm_iast (pc := 75) C (by decide) h8 dX6_row_75 ?_
            refine fm_iconst (pc := 76) (v := (nI 0)) C dX6_row_76 (by decide) ?_
            refine fm_istore (pc := 77) C dX6_row_77 (by decide) rfl ?_
            refine fm_less (lv' := [(0, .ref (G.2.2.1 58)), (1, .int v1), (4, .int ((nI 0)))]) (by repeat (first | exact trivial | refine ⟨rfl, ?_⟩)) ?_
            refine j_X6_row_79_ C (v1 := v1) hF  (fun μ79 ν79 => ?_) _ _ _ _
            refine fm_iconst (pc := 107) (v := (nI 1)) C dX6_row_107 (by decide) ?_
            exact fm_zret (pc := 108) C hF rfl rfl dX6_row_108
          · refine fm_aload_n (pc := 48) C dX6_row_48 rfl rfl ?_
            refine fm_bipush (pc := 49) (v := (-7 : Int32)) C dX6_row_49 (by decide) ?_
            refine fm_bind (fun r51 e51 => ?_)
            refine fm_cVi (pc := 51) C (t_X6_no e51) ok_X6_no ⟨by decide, rfl⟩ m_ml_X6_95 dX6_row_51 ⟨Nat.le_of_ble_eq_true rfl, Nat.le_of_ble_eq_true rfl⟩ rfl rfl (Nat.le_of_ble_eq_true rfl) ?_
            exact fm_zret (pc := 54) C hF rfl rfl dX6_row_54
        · refine fm_aload_n (pc := 34) C dX6_row_34 rfl rfl ?_
          refine fm_bipush (pc := 35) (v := (-6 : Int32)) C dX6_row_35 (by decide) ?_
          refine fm_bind (fun r37 e37 => ?_)
          refine fm_cVi (pc := 37) C (t_X6_no e37) ok_X6_no ⟨by decide, rfl⟩ m_ml_X6_95 dX6_row_37 ⟨Nat.le_of_ble_eq_true rfl, Nat.le_of_ble_eq_true rfl⟩ rfl rfl (Nat.le_of_ble_eq_true rfl) ?_
          exact fm_zret (pc := 40) C hF rfl rfl dX6_row_40
    · refine fm_aload_n (pc := 18) C dX6_row_18 rfl rfl ?_
      refine fm_bipush (pc := 19) (v := (-4 : Int32)) C dX6_row_19 (by decide) ?_
      refine fm_bind (fun r21 e21 => ?_)
      refine fm_cVi (pc := 21) C (t_X6_no e21) ok_X6_no ⟨by decide, rfl⟩ m_ml_X6_95 dX6_row_21 ⟨Nat.le_of_ble_eq_true rfl, Nat.le_of_ble_eq_true rfl⟩ rfl rfl (Nat.le_of_ble_eq_true rfl) ?_
      exact fm_zret (pc := 24) C hF rfl rfl dX6_row_24
theorem t_X6_row {l : Launch} {G : fm_G} {v1 : Int32} {v2 : Int32} {v3 : Int32} {μ : fm_I} {ν : fm_L} {r : Int32 × fm_I × fm_L} (h : m_X6_row v1 v2 v3 μ ν = some r) : fm_Mi l G yX6_row cX6_row 5 (some .int) 2 33 [.ref (G.2.2.1 58), .int v1, .int v2, .int v3] μ ν r := fm_Mi_of (by decide +kernel) (Nat.le_of_ble_eq_true rfl) (fun _ C => j_X6_row C rfl r h)
theorem dX6_set_0 : decode cX6_set 0 = .ok (.aload_n 0, 1) := by decide +kernel
theorem dX6_set_1 : decode cX6_set 1 = .ok (.iload_n 1, 1) := by decide +kernel
theorem dX6_set_2 : decode cX6_set 2 = .ok (.invokevirtual 92, 3) := by decide +kernel
theorem dX6_set_5 : decode cX6_set 5 = .ok (.ifCond .ne 9, 3) := by decide +kernel
theorem dX6_set_8 : decode cX6_set 8 = .ok (.aload_n 0, 1) := by decide +kernel
theorem dX6_set_9 : decode cX6_set 9 = .ok (.iconst (-1), 1) := by decide +kernel
theorem dX6_set_10 : decode cX6_set 10 = .ok (.invokevirtual 95, 3) := by decide +kernel
theorem dX6_set_13 : decode cX6_set 13 = .ok (.ireturn, 1) := by decide +kernel
theorem dX6_set_14 : decode cX6_set 14 = .ok (.aload_n 0, 1) := by decide +kernel
theorem dX6_set_15 : decode cX6_set 15 = .ok (.getfield 38, 3) := by decide +kernel
theorem dX6_set_18 : decode cX6_set 18 = .ok (.iload_n 1, 1) := by decide +kernel
theorem dX6_set_19 : decode cX6_set 19 = .ok (.iaload, 1) := by decide +kernel
theorem dX6_set_20 : decode cX6_set 20 = .ok (.iconst 2, 1) := by decide +kernel
theorem dX6_set_21 : decode cX6_set 21 = .ok (.if_icmp .ne 10, 3) := by decide +kernel
theorem dX6_set_24 : decode cX6_set 24 = .ok (.aload_n 0, 1) := by decide +kernel
theorem dX6_set_25 : decode cX6_set 25 = .ok (.bipush (-2), 2) := by decide +kernel
theorem dX6_set_27 : decode cX6_set 27 = .ok (.invokevirtual 95, 3) := by decide +kernel
theorem dX6_set_30 : decode cX6_set 30 = .ok (.ireturn, 1) := by decide +kernel
theorem dX6_set_31 : decode cX6_set 31 = .ok (.aload_n 0, 1) := by decide +kernel
theorem dX6_set_32 : decode cX6_set 32 = .ok (.getfield 38, 3) := by decide +kernel
theorem dX6_set_35 : decode cX6_set 35 = .ok (.iload_n 1, 1) := by decide +kernel
theorem dX6_set_36 : decode cX6_set 36 = .ok (.iaload, 1) := by decide +kernel
theorem dX6_set_37 : decode cX6_set 37 = .ok (.ifCond .ne 10, 3) := by decide +kernel
theorem dX6_set_40 : decode cX6_set 40 = .ok (.aload_n 0, 1) := by decide +kernel
theorem dX6_set_41 : decode cX6_set 41 = .ok (.bipush (-3), 2) := by decide +kernel
theorem dX6_set_43 : decode cX6_set 43 = .ok (.invokevirtual 95, 3) := by decide +kernel
theorem dX6_set_46 : decode cX6_set 46 = .ok (.ireturn, 1) := by decide +kernel
theorem dX6_set_47 : decode cX6_set 47 = .ok (.iload_n 2, 1) := by decide +kernel
theorem dX6_set_48 : decode cX6_set 48 = .ok (.ifCond .lt 13, 3) := by decide +kernel
theorem dX6_set_51 : decode cX6_set 51 = .ok (.iload_n 2, 1) := by decide +kernel
theorem dX6_set_52 : decode cX6_set 52 = .ok (.aload_n 0, 1) := by decide +kernel
theorem dX6_set_53 : decode cX6_set 53 = .ok (.getfield 44, 3) := by decide +kernel
theorem dX6_set_56 : decode cX6_set 56 = .ok (.iload_n 1, 1) := by decide +kernel
theorem dX6_set_57 : decode cX6_set 57 = .ok (.iaload, 1) := by decide +kernel
theorem dX6_set_58 : decode cX6_set 58 = .ok (.if_icmp .lt 10, 3) := by decide +kernel
theorem dX6_set_61 : decode cX6_set 61 = .ok (.aload_n 0, 1) := by decide +kernel
theorem dX6_set_62 : decode cX6_set 62 = .ok (.bipush (-5), 2) := by decide +kernel
theorem dX6_set_64 : decode cX6_set 64 = .ok (.invokevirtual 95, 3) := by decide +kernel
theorem dX6_set_67 : decode cX6_set 67 = .ok (.ireturn, 1) := by decide +kernel
theorem dX6_set_68 : decode cX6_set 68 = .ok (.aload_n 0, 1) := by decide +kernel
theorem dX6_set_69 : decode cX6_set 69 = .ok (.getfield 50, 3) := by decide +kernel
theorem dX6_set_72 : decode cX6_set 72 = .ok (.sipush 160, 3) := by decide +kernel
theorem dX6_set_75 : decode cX6_set 75 = .ok (.iload_n 1, 1) := by decide +kernel
theorem dX6_set_76 : decode cX6_set 76 = .ok (.imul, 1) := by decide +kernel
theorem dX6_set_77 : decode cX6_set 77 = .ok (.iload_n 2, 1) := by decide +kernel
theorem dX6_set_78 : decode cX6_set 78 = .ok (.iadd, 1) := by decide +kernel
theorem dX6_set_79 : decode cX6_set 79 = .ok (.aload_n 0, 1) := by decide +kernel
theorem dX6_set_80 : decode cX6_set 80 = .ok (.getfield 41, 3) := by decide +kernel
theorem dX6_set_83 : decode cX6_set 83 = .ok (.iload_n 1, 1) := by decide +kernel
theorem dX6_set_84 : decode cX6_set 84 = .ok (.iaload, 1) := by decide +kernel
theorem dX6_set_85 : decode cX6_set 85 = .ok (.ifCond .ne 10, 3) := by decide +kernel
theorem dX6_set_88 : decode cX6_set 88 = .ok (.lload_n 3, 1) := by decide +kernel
theorem dX6_set_89 : decode cX6_set 89 = .ok (.l2i, 1) := by decide +kernel
theorem dX6_set_90 : decode cX6_set 90 = .ok (.i2b, 1) := by decide +kernel
theorem dX6_set_91 : decode cX6_set 91 = .ok (.i2l, 1) := by decide +kernel
theorem dX6_set_92 : decode cX6_set 92 = .ok (.goto 37, 3) := by decide +kernel
theorem dX6_set_95 : decode cX6_set 95 = .ok (.aload_n 0, 1) := by decide +kernel
theorem dX6_set_96 : decode cX6_set 96 = .ok (.getfield 41, 3) := by decide +kernel
theorem dX6_set_99 : decode cX6_set 99 = .ok (.iload_n 1, 1) := by decide +kernel
theorem dX6_set_100 : decode cX6_set 100 = .ok (.iaload, 1) := by decide +kernel
theorem dX6_set_101 : decode cX6_set 101 = .ok (.iconst 1, 1) := by decide +kernel
theorem dX6_set_102 : decode cX6_set 102 = .ok (.if_icmp .ne 10, 3) := by decide +kernel
theorem dX6_set_105 : decode cX6_set 105 = .ok (.lload_n 3, 1) := by decide +kernel
theorem dX6_set_106 : decode cX6_set 106 = .ok (.l2i, 1) := by decide +kernel
theorem dX6_set_107 : decode cX6_set 107 = .ok (.i2s, 1) := by decide +kernel
theorem dX6_set_108 : decode cX6_set 108 = .ok (.i2l, 1) := by decide +kernel
theorem dX6_set_109 : decode cX6_set 109 = .ok (.goto 20, 3) := by decide +kernel
theorem dX6_set_112 : decode cX6_set 112 = .ok (.aload_n 0, 1) := by decide +kernel
theorem dX6_set_113 : decode cX6_set 113 = .ok (.getfield 41, 3) := by decide +kernel
theorem dX6_set_116 : decode cX6_set 116 = .ok (.iload_n 1, 1) := by decide +kernel
theorem dX6_set_117 : decode cX6_set 117 = .ok (.iaload, 1) := by decide +kernel
theorem dX6_set_118 : decode cX6_set 118 = .ok (.iconst 2, 1) := by decide +kernel
theorem dX6_set_119 : decode cX6_set 119 = .ok (.if_icmp .ne 9, 3) := by decide +kernel
theorem dX6_set_122 : decode cX6_set 122 = .ok (.lload_n 3, 1) := by decide +kernel
theorem dX6_set_123 : decode cX6_set 123 = .ok (.l2i, 1) := by decide +kernel
theorem dX6_set_124 : decode cX6_set 124 = .ok (.i2l, 1) := by decide +kernel
theorem dX6_set_125 : decode cX6_set 125 = .ok (.goto 4, 3) := by decide +kernel
theorem dX6_set_128 : decode cX6_set 128 = .ok (.lload_n 3, 1) := by decide +kernel
theorem dX6_set_129 : decode cX6_set 129 = .ok (.lastore, 1) := by decide +kernel
theorem dX6_set_130 : decode cX6_set 130 = .ok (.iconst 1, 1) := by decide +kernel
theorem dX6_set_131 : decode cX6_set 131 = .ok (.ireturn, 1) := by decide +kernel
def m_X6_set (v1 : Int32) (v2 : Int32) (w3 : Int64) (μ : fm_I) (ν : fm_L) : Option (Int32 × fm_I × fm_L) :=
  (m_X6_isShelf v1 μ ν).bind (fun r2 => if r2 = 0 then (m_X6_no ((-1 : Int32)) μ ν).bind (fun r10 => some ((r10.1, r10.2.1, r10.2.2))) else fm_g (fm_in v1 (fm_n 66)) (if (μ 66 v1.toNatClampNeg) = (nI 2) then (m_X6_no ((-2 : Int32)) μ ν).bind (fun r27 => some ((r27.1, r27.2.1, r27.2.2))) else if (μ 66 v1.toNatClampNeg) = 0 then (m_X6_no ((-3 : Int32)) μ ν).bind (fun r43 => some ((r43.1, r43.2.1, r43.2.2))) else if v2 < 0 then (m_X6_no ((-5 : Int32)) μ ν).bind (fun r64 => some ((r64.1, r64.2.1, r64.2.2))) else fm_g (fm_in v1 (fm_n 68)) (if v2 < (μ 68 v1.toNatClampNeg) then fm_g (fm_in v1 (fm_n 67)) (if (μ 67 v1.toNatClampNeg) = 0 then fm_g (fm_in ((((((nI 160)) * v1)) + v2)) (fm_n 70)) (some (((nI 1), μ, (fm_ul ν 70 ((((((nI 160)) * v1)) + v2)).toNatClampNeg w3.toInt32.toInt8.toInt32.toInt64)))) else if (μ 67 v1.toNatClampNeg) = (nI 1) then fm_g (fm_in ((((((nI 160)) * v1)) + v2)) (fm_n 70)) (some (((nI 1), μ, (fm_ul ν 70 ((((((nI 160)) * v1)) + v2)).toNatClampNeg w3.toInt32.toInt16.toInt32.toInt64)))) else if (μ 67 v1.toNatClampNeg) = (nI 2) then fm_g (fm_in ((((((nI 160)) * v1)) + v2)) (fm_n 70)) (some (((nI 1), μ, (fm_ul ν 70 ((((((nI 160)) * v1)) + v2)).toNatClampNeg w3.toInt32.toInt64)))) else fm_g (fm_in ((((((nI 160)) * v1)) + v2)) (fm_n 70)) (some (((nI 1), μ, (fm_ul ν 70 ((((((nI 160)) * v1)) + v2)).toNatClampNeg w3))))) else (m_X6_no ((-5 : Int32)) μ ν).bind (fun r64 => some ((r64.1, r64.2.1, r64.2.2))))))
theorem ok_X6_set : fm_okV yX6_set cX6_set 5 (some .int) 3 := ⟨m_cd_X6_set, m_im_X6_set, m_se_X6_X6_set, m_ini_X6, by decide +kernel, by decide +kernel, by decide +kernel⟩
set_option maxHeartbeats 4000000 in
set_option maxRecDepth 100000 in
theorem j_X6_set {X : fm_X} {G : fm_G} {l : Launch} {v1 : Int32} {v2 : Int32} {w3 : Int64} {μ : fm_I} {ν : fm_L} (C : fm_C X G l cX6_set RX6 5 (some .int) 2 33) {F : (Int32 × fm_I × fm_L) → State → Prop} (hF : F = fm_Qi X G) : fm_J X G 5 F (m_X6_set v1 v2 w3 μ ν) μ ν 0 [(0, .ref (G.2.2.1 58)), (1, .int v1), (2, .int v2), (3, .long w3)] [] := by
  unfold m_X6_set
  refine fm_aload_n (pc := 0) C dX6_set_0 rfl rfl ?_
  refine fm_iload_n (pc := 1) C dX6_set_1 rfl rfl ?_
  refine fm_bind (fun r2 e2 => ?_)
  refine fm_cVi0 (pc := 2) C (t_X6_isShelf e2) ok_X6_isShelf ⟨by decide, rfl⟩ m_ml_X6_92 dX6_set_2 ⟨Nat.le_of_ble_eq_true rfl, Nat.le_of_ble_eq_true rfl⟩ rfl rfl (Nat.le_of_ble_eq_true rfl) ?_
  refine fm_if_ne (pc := 5) (tgt := 14) C dX6_set_5 (by decide) (fun c1 => ?_) (fun c1 => ?_)
  · refine fm_aload_n (pc := 8) C dX6_set_8 rfl rfl ?_
    refine fm_iconst (pc := 9) (v := (-1 : Int32)) C dX6_set_9 (by decide) ?_
    refine fm_bind (fun r10 e10 => ?_)
    refine fm_cVi (pc := 10) C (t_X6_no e10) ok_X6_no ⟨by decide, rfl⟩ m_ml_X6_95 dX6_set_10 ⟨Nat.le_of_ble_eq_true rfl, Nat.le_of_ble_eq_true rfl⟩ rfl rfl (Nat.le_of_ble_eq_true rfl) ?_
    exact fm_zret (pc := 13) C hF rfl rfl dX6_set_13
  · refine fm_aload_n (pc := 14) C dX6_set_14 rfl rfl ?_
    refine g6_held (pc := 15) C (by decide) dX6_set_15 m_fl_X6_38 ?_
    refine fm_iload_n (pc := 18) C dX6_set_18 rfl rfl ?_
    refine fm_guard (fun h2 => ?_)
    refine fm_iald (pc := 19) C (by decide) h2 dX6_set_19 ?_
    refine fm_iconst (pc := 20) (v := (nI 2)) C dX6_set_20 (by decide) ?_
    refine fm_icmp_ne (pc := 21) (tgt := 31) C dX6_set_21 (by decide) (fun c3 => ?_) (fun c3 => ?_)
    · refine fm_aload_n (pc := 24) C dX6_set_24 rfl rfl ?_
      refine fm_bipush (pc := 25) (v := (-2 : Int32)) C dX6_set_25 (by decide) ?_
      refine fm_bind (fun r27 e27 => ?_)
      refine fm_cVi (pc := 27) C (t_X6_no e27) ok_X6_no ⟨by decide, rfl⟩ m_ml_X6_95 dX6_set_27 ⟨Nat.le_of_ble_eq_true rfl, Nat.le_of_ble_eq_true rfl⟩ rfl rfl (Nat.le_of_ble_eq_true rfl) ?_
      exact fm_zret (pc := 30) C hF rfl rfl dX6_set_30
    · refine fm_aload_n (pc := 31) C dX6_set_31 rfl rfl ?_
      refine g6_held (pc := 32) C (by decide) dX6_set_32 m_fl_X6_38 ?_
      refine fm_iload_n (pc := 35) C dX6_set_35 rfl rfl ?_
      refine fm_iald (pc := 36) C (by decide) h2 dX6_set_36 ?_
      refine fm_if_ne (pc := 37) (tgt := 47) C dX6_set_37 (by decide) (fun c4 => ?_) (fun c4 => ?_)
      · refine fm_aload_n (pc := 40) C dX6_set_40 rfl rfl ?_
        refine fm_bipush (pc := 41) (v := (-3 : Int32)) C dX6_set_41 (by decide) ?_
        refine fm_bind (fun r43 e43 => ?_)
        refine fm_cVi (pc := 43) C (t_X6_no e43) ok_X6_no ⟨by decide, rfl⟩ m_ml_X6_95 dX6_set_43 ⟨Nat.le_of_ble_eq_true rfl, Nat.le_of_ble_eq_true rfl⟩ rfl rfl (Nat.le_of_ble_eq_true rfl) ?_
        exact fm_zret (pc := 46) C hF rfl rfl dX6_set_46
      · refine fm_iload_n (pc := 47) C dX6_set_47 rfl rfl ?_
        refine fm_if_lt (pc := 48) (tgt := 61) C dX6_set_48 (by decide) (fun c5 => ?_) (fun c5 => ?_)
        · refine fm_aload_n (pc := 61) C dX6_set_61 rfl rfl ?_
          refine fm_bipush (pc := 62) (v := (-5 : Int32)) C dX6_set_62 (by decide) ?_
          refine fm_bind (fun r64 e64 => ?_)
          refine fm_cVi (pc := 64) C (t_X6_no e64) ok_X6_no ⟨by decide, rfl⟩ m_ml_X6_95 dX6_set_64 ⟨Nat.le_of_ble_eq_true rfl, Nat.le_of_ble_eq_true rfl⟩ rfl rfl (Nat.le_of_ble_eq_true rfl) ?_
          exact fm_zret (pc := 67) C hF rfl rfl dX6_set_67
        · refine fm_iload_n (pc := 51) C dX6_set_51 rfl rfl ?_
          refine fm_aload_n (pc := 52) C dX6_set_52 rfl rfl ?_
          refine g6_size (pc := 53) C (by decide) dX6_set_53 m_fl_X6_44 ?_
          refine fm_iload_n (pc := 56) C dX6_set_56 rfl rfl ?_
          refine fm_guard (fun h6 => ?_)
          refine fm_iald (pc := 57) C (by decide) h6 dX6_set_57 ?_
          refine fm_icmp_lt (pc := 58) (tgt := 68) C dX6_set_58 (by decide) (fun c7 => ?_) (fun c7 => ?_)
          · refine fm_aload_n (pc := 68) C dX6_set_68 rfl rfl ?_
            refine g6_cells (pc := 69) C (by decide) dX6_set_69 m_fl_X6_50 ?_
            refine fm_sipush (pc := 72) (v := (nI 160)) C dX6_set_72 (by decide) ?_
            refine fm_iload_n (pc := 75) C dX6_set_75 rfl rfl ?_
            refine fm_imul (pc := 76) C dX6_set_76 ?_
            refine fm_iload_n (pc := 77) C dX6_set_77 rfl rfl ?_
            refine fm_iadd (pc := 78) C dX6_set_78 ?_
            refine fm_aload_n (pc := 79) C dX6_set_79 rfl rfl ?_
            refine g6_sort (pc := 80) C (by decide) dX6_set_80 m_fl_X6_41 ?_
            refine fm_iload_n (pc := 83) C dX6_set_83 rfl rfl ?_
            refine fm_guard (fun h8 => ?_)
            refine fm_iald (pc := 84) C (by decide) h8 dX6_set_84 ?_
            refine fm_if_ne (pc := 85) (tgt := 95) C dX6_set_85 (by decide) (fun c9 => ?_) (fun c9 => ?_)
            · refine fm_lload_n (pc := 88) C dX6_set_88 rfl rfl ?_
              refine fm_l2i (pc := 89) C dX6_set_89 ?_
              refine fm_i2b (pc := 90) C dX6_set_90 ?_
              refine fm_i2l (pc := 91) C dX6_set_91 ?_
              refine fm_goto (pc := 92) (tgt := 129) C dX6_set_92 (by decide) ?_
              refine fm_guard (fun h10 => ?_)
              refine fm_last (pc := 129) C (by decide) h10 dX6_set_129 ?_
              refine fm_iconst (pc := 130) (v := (nI 1)) C dX6_set_130 (by decide) ?_
              exact fm_zret (pc := 131) C hF rfl rfl dX6_set_131
            · refine fm_aload_n (pc := 95) C dX6_set_95 rfl rfl ?_
              refine g6_sort (pc := 96) C (by decide) dX6_set_96 m_fl_X6_41 ?_
              refine fm_iload_n (pc := 99) C dX6_set_99 rfl rfl ?_
              refine fm_iald (pc := 100) C (by decide) h8 dX6_set_100 ?_
              refine fm_iconst (pc := 101) (v := (nI 1)) C dX6_set_101 (by decide) ?_
              refine fm_icmp_ne (pc := 102) (tgt := 112) C dX6_set_102 (by decide) (fun c11 => ?_) (fun c11 => ?_)
              · refine fm_lload_n (pc := 105) C dX6_set_105 rfl rfl ?_
                refine fm_l2i (pc := 106) C dX6_set_106 ?_
                refine fm_i2s (pc := 107) C dX6_set_107 ?_
                refine fm_i2l (pc := 108) C dX6_set_108 ?_
                refine fm_goto (pc := 109) (tgt := 129) C dX6_set_109 (by decide) ?_
                refine fm_guard (fun h12 => ?_)
                refine fm_last (pc := 129) C (by decide) h12 dX6_set_129 ?_
                refine fm_iconst (pc := 130) (v := (nI 1)) C dX6_set_130 (by decide) ?_
                exact fm_zret (pc := 131) C hF rfl rfl dX6_set_131
              · refine fm_aload_n (pc := 112) C dX6_set_112 rfl rfl ?_
                refine g6_sort (pc := 113) C (by decide) dX6_set_113 m_fl_X6_41 ?_
                refine fm_iload_n (pc := 116) C dX6_set_116 rfl rfl ?_
                refine fm_iald (pc := 117) C (by decide) h8 dX6_set_117 ?_
                refine fm_iconst (pc := 118) (v := (nI 2)) C dX6_set_118 (by decide) ?_
                refine fm_icmp_ne (pc := 119) (tgt := 128) C dX6_set_119 (by decide) (fun c13 => ?_) (fun c13 => ?_)
                · refine fm_lload_n (pc := 122) C dX6_set_122 rfl rfl ?_
                  refine fm_l2i (pc := 123) C dX6_set_123 ?_
                  refine fm_i2l (pc := 124) C dX6_set_124 ?_
                  refine fm_goto (pc := 125) (tgt := 129) C dX6_set_125 (by decide) ?_
                  refine fm_guard (fun h14 => ?_)
                  refine fm_last (pc := 129) C (by decide) h14 dX6_set_129 ?_
                  refine fm_iconst (pc := 130) (v := (nI 1)) C dX6_set_130 (by decide) ?_
                  exact fm_zret (pc := 131) C hF rfl rfl dX6_set_131
                · refine fm_lload_n (pc := 128) C dX6_set_128 rfl rfl ?_
                  refine fm_guard (fun h15 => ?_)
                  refine fm_last (pc := 129) C (by decide) h15 dX6_set_129 ?_
                  refine fm_iconst (pc := 130) (v := (nI 1)) C dX6_set_130 (by decide) ?_
                  exact fm_zret (pc := 131) C hF rfl rfl dX6_set_131
          · refine fm_aload_n (pc := 61) C dX6_set_61 rfl rfl ?_
            refine fm_bipush (pc := 62) (v := (-5 : Int32)) C dX6_set_62 (by decide) ?_
            refine fm_bind (fun r64 e64 => ?_)
            refine fm_cVi (pc := 64) C (t_X6_no e64) ok_X6_no ⟨by decide, rfl⟩ m_ml_X6_95 dX6_set_64 ⟨Nat.le_of_ble_eq_true rfl, Nat.le_of_ble_eq_true rfl⟩ rfl rfl (Nat.le_of_ble_eq_true rfl) ?_
            exact fm_zret (pc := 67) C hF rfl rfl dX6_set_67
theorem t_X6_set {l : Launch} {G : fm_G} {v1 : Int32} {v2 : Int32} {w3 : Int64} {μ : fm_I} {ν : fm_L} {r : Int32 × fm_I × fm_L} (h : m_X6_set v1 v2 w3 μ ν = some r) : fm_Mi l G yX6_set cX6_set 5 (some .int) 2 33 [.ref (G.2.2.1 58), .int v1, .int v2, .long w3] μ ν r := fm_Mi_of (by decide +kernel) (Nat.le_of_ble_eq_true rfl) (fun _ C => j_X6_set C rfl r h)
theorem dX6_copy_0 : decode cX6_copy 0 = .ok (.aload_n 0, 1) := by decide +kernel
theorem dX6_copy_1 : decode cX6_copy 1 = .ok (.iload_n 1, 1) := by decide +kernel
theorem dX6_copy_2 : decode cX6_copy 2 = .ok (.invokevirtual 92, 3) := by decide +kernel
theorem dX6_copy_5 : decode cX6_copy 5 = .ok (.ifCond .eq 11, 3) := by decide +kernel
theorem dX6_copy_8 : decode cX6_copy 8 = .ok (.aload_n 0, 1) := by decide +kernel
theorem dX6_copy_9 : decode cX6_copy 9 = .ok (.iload_n 2, 1) := by decide +kernel
theorem dX6_copy_10 : decode cX6_copy 10 = .ok (.invokevirtual 92, 3) := by decide +kernel
theorem dX6_copy_13 : decode cX6_copy 13 = .ok (.ifCond .ne 9, 3) := by decide +kernel
theorem dX6_copy_16 : decode cX6_copy 16 = .ok (.aload_n 0, 1) := by decide +kernel
theorem dX6_copy_17 : decode cX6_copy 17 = .ok (.iconst (-1), 1) := by decide +kernel
theorem dX6_copy_18 : decode cX6_copy 18 = .ok (.invokevirtual 95, 3) := by decide +kernel
theorem dX6_copy_21 : decode cX6_copy 21 = .ok (.ireturn, 1) := by decide +kernel
theorem dX6_copy_22 : decode cX6_copy 22 = .ok (.aload_n 0, 1) := by decide +kernel
theorem dX6_copy_23 : decode cX6_copy 23 = .ok (.getfield 38, 3) := by decide +kernel
theorem dX6_copy_26 : decode cX6_copy 26 = .ok (.iload_n 1, 1) := by decide +kernel
theorem dX6_copy_27 : decode cX6_copy 27 = .ok (.iaload, 1) := by decide +kernel
theorem dX6_copy_28 : decode cX6_copy 28 = .ok (.iconst 2, 1) := by decide +kernel
theorem dX6_copy_29 : decode cX6_copy 29 = .ok (.if_icmp .eq 48, 3) := by decide +kernel
theorem dX6_copy_32 : decode cX6_copy 32 = .ok (.aload_n 0, 1) := by decide +kernel
theorem dX6_copy_33 : decode cX6_copy 33 = .ok (.getfield 38, 3) := by decide +kernel
theorem dX6_copy_36 : decode cX6_copy 36 = .ok (.iload_n 2, 1) := by decide +kernel
theorem dX6_copy_37 : decode cX6_copy 37 = .ok (.iaload, 1) := by decide +kernel
theorem dX6_copy_38 : decode cX6_copy 38 = .ok (.iconst 2, 1) := by decide +kernel
theorem dX6_copy_39 : decode cX6_copy 39 = .ok (.if_icmp .eq 38, 3) := by decide +kernel
theorem dX6_copy_42 : decode cX6_copy 42 = .ok (.aload_n 0, 1) := by decide +kernel
theorem dX6_copy_43 : decode cX6_copy 43 = .ok (.getfield 38, 3) := by decide +kernel
theorem dX6_copy_46 : decode cX6_copy 46 = .ok (.iload_n 1, 1) := by decide +kernel
theorem dX6_copy_47 : decode cX6_copy 47 = .ok (.iaload, 1) := by decide +kernel
theorem dX6_copy_48 : decode cX6_copy 48 = .ok (.iconst 1, 1) := by decide +kernel
theorem dX6_copy_49 : decode cX6_copy 49 = .ok (.if_icmp .ne 35, 3) := by decide +kernel
theorem dX6_copy_52 : decode cX6_copy 52 = .ok (.aload_n 0, 1) := by decide +kernel
theorem dX6_copy_53 : decode cX6_copy 53 = .ok (.getfield 38, 3) := by decide +kernel
theorem dX6_copy_56 : decode cX6_copy 56 = .ok (.iload_n 2, 1) := by decide +kernel
theorem dX6_copy_57 : decode cX6_copy 57 = .ok (.iaload, 1) := by decide +kernel
theorem dX6_copy_58 : decode cX6_copy 58 = .ok (.iconst 1, 1) := by decide +kernel
theorem dX6_copy_59 : decode cX6_copy 59 = .ok (.if_icmp .ne 25, 3) := by decide +kernel
theorem dX6_copy_62 : decode cX6_copy 62 = .ok (.aload_n 0, 1) := by decide +kernel
theorem dX6_copy_63 : decode cX6_copy 63 = .ok (.getfield 41, 3) := by decide +kernel
theorem dX6_copy_66 : decode cX6_copy 66 = .ok (.iload_n 1, 1) := by decide +kernel
theorem dX6_copy_67 : decode cX6_copy 67 = .ok (.iaload, 1) := by decide +kernel
theorem dX6_copy_68 : decode cX6_copy 68 = .ok (.aload_n 0, 1) := by decide +kernel
theorem dX6_copy_69 : decode cX6_copy 69 = .ok (.getfield 41, 3) := by decide +kernel
theorem dX6_copy_72 : decode cX6_copy 72 = .ok (.iload_n 2, 1) := by decide +kernel
theorem dX6_copy_73 : decode cX6_copy 73 = .ok (.iaload, 1) := by decide +kernel
theorem dX6_copy_74 : decode cX6_copy 74 = .ok (.if_icmp .eq 10, 3) := by decide +kernel
theorem dX6_copy_77 : decode cX6_copy 77 = .ok (.aload_n 0, 1) := by decide +kernel
theorem dX6_copy_78 : decode cX6_copy 78 = .ok (.bipush (-2), 2) := by decide +kernel
theorem dX6_copy_80 : decode cX6_copy 80 = .ok (.invokevirtual 95, 3) := by decide +kernel
theorem dX6_copy_83 : decode cX6_copy 83 = .ok (.ireturn, 1) := by decide +kernel
theorem dX6_copy_84 : decode cX6_copy 84 = .ok (.aload_n 0, 1) := by decide +kernel
theorem dX6_copy_85 : decode cX6_copy 85 = .ok (.getfield 38, 3) := by decide +kernel
theorem dX6_copy_88 : decode cX6_copy 88 = .ok (.iload_n 1, 1) := by decide +kernel
theorem dX6_copy_89 : decode cX6_copy 89 = .ok (.iaload, 1) := by decide +kernel
theorem dX6_copy_90 : decode cX6_copy 90 = .ok (.ifCond .eq 12, 3) := by decide +kernel
theorem dX6_copy_93 : decode cX6_copy 93 = .ok (.aload_n 0, 1) := by decide +kernel
theorem dX6_copy_94 : decode cX6_copy 94 = .ok (.getfield 38, 3) := by decide +kernel
theorem dX6_copy_97 : decode cX6_copy 97 = .ok (.iload_n 2, 1) := by decide +kernel
theorem dX6_copy_98 : decode cX6_copy 98 = .ok (.iaload, 1) := by decide +kernel
theorem dX6_copy_99 : decode cX6_copy 99 = .ok (.ifCond .ne 10, 3) := by decide +kernel
theorem dX6_copy_102 : decode cX6_copy 102 = .ok (.aload_n 0, 1) := by decide +kernel
theorem dX6_copy_103 : decode cX6_copy 103 = .ok (.bipush (-3), 2) := by decide +kernel
theorem dX6_copy_105 : decode cX6_copy 105 = .ok (.invokevirtual 95, 3) := by decide +kernel
theorem dX6_copy_108 : decode cX6_copy 108 = .ok (.ireturn, 1) := by decide +kernel
theorem dX6_copy_109 : decode cX6_copy 109 = .ok (.iload 5, 2) := by decide +kernel
theorem dX6_copy_111 : decode cX6_copy 111 = .ok (.ifCond .ge 10, 3) := by decide +kernel
theorem dX6_copy_114 : decode cX6_copy 114 = .ok (.aload_n 0, 1) := by decide +kernel
theorem dX6_copy_115 : decode cX6_copy 115 = .ok (.bipush (-4), 2) := by decide +kernel
theorem dX6_copy_117 : decode cX6_copy 117 = .ok (.invokevirtual 95, 3) := by decide +kernel
theorem dX6_copy_120 : decode cX6_copy 120 = .ok (.ireturn, 1) := by decide +kernel
theorem dX6_copy_121 : decode cX6_copy 121 = .ok (.iload_n 3, 1) := by decide +kernel
theorem dX6_copy_122 : decode cX6_copy 122 = .ok (.ifCond .lt 35, 3) := by decide +kernel
theorem dX6_copy_125 : decode cX6_copy 125 = .ok (.iload 4, 2) := by decide +kernel
theorem dX6_copy_127 : decode cX6_copy 127 = .ok (.ifCond .lt 30, 3) := by decide +kernel
theorem dX6_copy_130 : decode cX6_copy 130 = .ok (.iload_n 3, 1) := by decide +kernel
theorem dX6_copy_131 : decode cX6_copy 131 = .ok (.aload_n 0, 1) := by decide +kernel
theorem dX6_copy_132 : decode cX6_copy 132 = .ok (.getfield 44, 3) := by decide +kernel
theorem dX6_copy_135 : decode cX6_copy 135 = .ok (.iload_n 1, 1) := by decide +kernel
theorem dX6_copy_136 : decode cX6_copy 136 = .ok (.iaload, 1) := by decide +kernel
theorem dX6_copy_137 : decode cX6_copy 137 = .ok (.iload 5, 2) := by decide +kernel
theorem dX6_copy_139 : decode cX6_copy 139 = .ok (.isub, 1) := by decide +kernel
theorem dX6_copy_140 : decode cX6_copy 140 = .ok (.if_icmp .gt 17, 3) := by decide +kernel
theorem dX6_copy_143 : decode cX6_copy 143 = .ok (.iload 4, 2) := by decide +kernel
theorem dX6_copy_145 : decode cX6_copy 145 = .ok (.aload_n 0, 1) := by decide +kernel
theorem dX6_copy_146 : decode cX6_copy 146 = .ok (.getfield 44, 3) := by decide +kernel
theorem dX6_copy_149 : decode cX6_copy 149 = .ok (.iload_n 2, 1) := by decide +kernel
theorem dX6_copy_150 : decode cX6_copy 150 = .ok (.iaload, 1) := by decide +kernel
theorem dX6_copy_151 : decode cX6_copy 151 = .ok (.iload 5, 2) := by decide +kernel
theorem dX6_copy_153 : decode cX6_copy 153 = .ok (.isub, 1) := by decide +kernel
theorem dX6_copy_154 : decode cX6_copy 154 = .ok (.if_icmp .le 10, 3) := by decide +kernel
theorem dX6_copy_157 : decode cX6_copy 157 = .ok (.aload_n 0, 1) := by decide +kernel
theorem dX6_copy_158 : decode cX6_copy 158 = .ok (.bipush (-5), 2) := by decide +kernel
theorem dX6_copy_160 : decode cX6_copy 160 = .ok (.invokevirtual 95, 3) := by decide +kernel
theorem dX6_copy_163 : decode cX6_copy 163 = .ok (.ireturn, 1) := by decide +kernel
theorem dX6_copy_164 : decode cX6_copy 164 = .ok (.iconst 0, 1) := by decide +kernel
theorem dX6_copy_165 : decode cX6_copy 165 = .ok (.istore 6, 2) := by decide +kernel
theorem dX6_copy_167 : decode cX6_copy 167 = .ok (.iload 6, 2) := by decide +kernel
theorem dX6_copy_169 : decode cX6_copy 169 = .ok (.iload 5, 2) := by decide +kernel
theorem dX6_copy_171 : decode cX6_copy 171 = .ok (.if_icmp .ge 31, 3) := by decide +kernel
theorem dX6_copy_174 : decode cX6_copy 174 = .ok (.aload_n 0, 1) := by decide +kernel
theorem dX6_copy_175 : decode cX6_copy 175 = .ok (.getfield 54, 3) := by decide +kernel
theorem dX6_copy_178 : decode cX6_copy 178 = .ok (.iload 6, 2) := by decide +kernel
theorem dX6_copy_180 : decode cX6_copy 180 = .ok (.aload_n 0, 1) := by decide +kernel
theorem dX6_copy_181 : decode cX6_copy 181 = .ok (.getfield 50, 3) := by decide +kernel
theorem dX6_copy_184 : decode cX6_copy 184 = .ok (.sipush 160, 3) := by decide +kernel
theorem dX6_copy_187 : decode cX6_copy 187 = .ok (.iload_n 1, 1) := by decide +kernel
theorem dX6_copy_188 : decode cX6_copy 188 = .ok (.imul, 1) := by decide +kernel
theorem dX6_copy_189 : decode cX6_copy 189 = .ok (.iload_n 3, 1) := by decide +kernel
theorem dX6_copy_190 : decode cX6_copy 190 = .ok (.iadd, 1) := by decide +kernel
theorem dX6_copy_191 : decode cX6_copy 191 = .ok (.iload 6, 2) := by decide +kernel
theorem dX6_copy_193 : decode cX6_copy 193 = .ok (.iadd, 1) := by decide +kernel
theorem dX6_copy_194 : decode cX6_copy 194 = .ok (.laload, 1) := by decide +kernel
theorem dX6_copy_195 : decode cX6_copy 195 = .ok (.lastore, 1) := by decide +kernel
theorem dX6_copy_196 : decode cX6_copy 196 = .ok (.iinc 6 1, 3) := by decide +kernel
theorem dX6_copy_199 : decode cX6_copy 199 = .ok (.goto (-32), 3) := by decide +kernel
theorem dX6_copy_202 : decode cX6_copy 202 = .ok (.iconst 0, 1) := by decide +kernel
theorem dX6_copy_203 : decode cX6_copy 203 = .ok (.istore 6, 2) := by decide +kernel
theorem dX6_copy_205 : decode cX6_copy 205 = .ok (.iload 6, 2) := by decide +kernel
theorem dX6_copy_207 : decode cX6_copy 207 = .ok (.iload 5, 2) := by decide +kernel
theorem dX6_copy_209 : decode cX6_copy 209 = .ok (.if_icmp .ge 32, 3) := by decide +kernel
theorem dX6_copy_212 : decode cX6_copy 212 = .ok (.aload_n 0, 1) := by decide +kernel
theorem dX6_copy_213 : decode cX6_copy 213 = .ok (.getfield 50, 3) := by decide +kernel
theorem dX6_copy_216 : decode cX6_copy 216 = .ok (.sipush 160, 3) := by decide +kernel
theorem dX6_copy_219 : decode cX6_copy 219 = .ok (.iload_n 2, 1) := by decide +kernel
theorem dX6_copy_220 : decode cX6_copy 220 = .ok (.imul, 1) := by decide +kernel
theorem dX6_copy_221 : decode cX6_copy 221 = .ok (.iload 4, 2) := by decide +kernel
theorem dX6_copy_223 : decode cX6_copy 223 = .ok (.iadd, 1) := by decide +kernel
theorem dX6_copy_224 : decode cX6_copy 224 = .ok (.iload 6, 2) := by decide +kernel
theorem dX6_copy_226 : decode cX6_copy 226 = .ok (.iadd, 1) := by decide +kernel
theorem dX6_copy_227 : decode cX6_copy 227 = .ok (.aload_n 0, 1) := by decide +kernel
theorem dX6_copy_228 : decode cX6_copy 228 = .ok (.getfield 54, 3) := by decide +kernel
theorem dX6_copy_231 : decode cX6_copy 231 = .ok (.iload 6, 2) := by decide +kernel
theorem dX6_copy_233 : decode cX6_copy 233 = .ok (.laload, 1) := by decide +kernel
theorem dX6_copy_234 : decode cX6_copy 234 = .ok (.lastore, 1) := by decide +kernel
theorem dX6_copy_235 : decode cX6_copy 235 = .ok (.iinc 6 1, 3) := by decide +kernel
theorem dX6_copy_238 : decode cX6_copy 238 = .ok (.goto (-33), 3) := by decide +kernel
theorem dX6_copy_241 : decode cX6_copy 241 = .ok (.iconst 1, 1) := by decide +kernel
theorem dX6_copy_242 : decode cX6_copy 242 = .ok (.ireturn, 1) := by decide +kernel
def m_X6_copy_16  (μ : fm_I) (ν : fm_L) : Option (Int32 × fm_I × fm_L) :=
  (m_X6_no ((-1 : Int32)) μ ν).bind (fun r18 => some ((r18.1, r18.2.1, r18.2.2)))
def m_X6_copy_77  (μ : fm_I) (ν : fm_L) : Option (Int32 × fm_I × fm_L) :=
  (m_X6_no ((-2 : Int32)) μ ν).bind (fun r80 => some ((r80.1, r80.2.1, r80.2.2)))
def m_X6_copy_102  (μ : fm_I) (ν : fm_L) : Option (Int32 × fm_I × fm_L) :=
  (m_X6_no ((-3 : Int32)) μ ν).bind (fun r105 => some ((r105.1, r105.2.1, r105.2.2)))
def m_X6_copy_157  (μ : fm_I) (ν : fm_L) : Option (Int32 × fm_I × fm_L) :=
  (m_X6_no ((-5 : Int32)) μ ν).bind (fun r160 => some ((r160.1, r160.2.1, r160.2.2)))
def m_X6_copy_167 (v1 : Int32) (v2 : Int32) (v3 : Int32) (v4 : Int32) (v5 : Int32) (K : fm_I → fm_L → Option (Int32 × fm_I × fm_L)) : Nat → Int32 → fm_I → fm_L → Option (Int32 × fm_I × fm_L)
  | 0, _, _, _ => none
  | k + 1, v6, μ, ν => if v5 ≤ v6 then K  μ ν else fm_g (fm_in ((((((((nI 160)) * v1)) + v3)) + v6)) (fm_n 70)) (fm_g (fm_in v6 (fm_n 71)) (m_X6_copy_167 v1 v2 v3 v4 v5 K k ((v6 + nI 1)) μ (fm_ul ν 71 v6.toNatClampNeg ((ν 70 ((((((((nI 160)) * v1)) + v3)) + v6)).toNatClampNeg)))))
def m_X6_copy_205 (v2 : Int32) (v4 : Int32) (v5 : Int32) (K : fm_I → fm_L → Option (Int32 × fm_I × fm_L)) : Nat → Int32 → fm_I → fm_L → Option (Int32 × fm_I × fm_L)
  | 0, _, _, _ => none
  | k + 1, v6, μ, ν => if v5 ≤ v6 then K  μ ν else fm_g (fm_in v6 (fm_n 71)) (fm_g (fm_in ((((((((nI 160)) * v2)) + v4)) + v6)) (fm_n 70)) (m_X6_copy_205 v2 v4 v5 K k ((v6 + nI 1)) μ (fm_ul ν 70 ((((((((nI 160)) * v2)) + v4)) + v6)).toNatClampNeg ((ν 71 v6.toNatClampNeg)))))
def m_X6_copy_84 (v1 : Int32) (v2 : Int32) (v3 : Int32) (v4 : Int32) (v5 : Int32) (μ : fm_I) (ν : fm_L) : Option (Int32 × fm_I × fm_L) :=
  fm_g (fm_in v1 (fm_n 66)) (if (μ 66 v1.toNatClampNeg) = 0 then m_X6_copy_102  μ ν else fm_g (fm_in v2 (fm_n 66)) (if (μ 66 v2.toNatClampNeg) = 0 then m_X6_copy_102  μ ν else if 0 ≤ v5 then if v3 < 0 then m_X6_copy_157  μ ν else if v4 < 0 then m_X6_copy_157  μ ν else fm_g (fm_in v1 (fm_n 68)) (if (((μ 68 v1.toNatClampNeg)) - v5) < v3 then m_X6_copy_157  μ ν else fm_g (fm_in v2 (fm_n 68)) (if v4 ≤ (((μ 68 v2.toNatClampNeg)) - v5) then m_X6_copy_167 v1 v2 v3 v4 v5  (fun μ167 ν167 => m_X6_copy_205 v2 v4 v5  (fun μ205 ν205 => some (((nI 1), μ205, ν205))) 5000 ((nI 0)) μ167 ν167) 5000 ((nI 0)) μ ν else m_X6_copy_157  μ ν)) else (m_X6_no ((-4 : Int32)) μ ν).bind (fun r117 => some ((r117.1, r117.2.1, r117.2.2)))))
def m_X6_copy (v1 : Int32) (v2 : Int32) (v3 : Int32) (v4 : Int32) (v5 : Int32) (μ : fm_I) (ν : fm_L) : Option (Int32 × fm_I × fm_L) :=
  (m_X6_isShelf v1 μ ν).bind (fun r2 => if r2 = 0 then m_X6_copy_16  μ ν else (m_X6_isShelf v2 μ ν).bind (fun r10 => if r10 = 0 then m_X6_copy_16  μ ν else fm_g (fm_in v1 (fm_n 66)) (if (μ 66 v1.toNatClampNeg) = (nI 2) then m_X6_copy_77  μ ν else fm_g (fm_in v2 (fm_n 66)) (if (μ 66 v2.toNatClampNeg) = (nI 2) then m_X6_copy_77  μ ν else if (μ 66 v1.toNatClampNeg) = (nI 1) then if (μ 66 v2.toNatClampNeg) = (nI 1) then fm_g (fm_in v1 (fm_n 67)) (fm_g (fm_in v2 (fm_n 67)) (if (μ 67 v1.toNatClampNeg) = (μ 67 v2.toNatClampNeg) then m_X6_copy_84 v1 v2 v3 v4 v5 μ ν else m_X6_copy_77  μ ν)) else m_X6_copy_84 v1 v2 v3 v4 v5 μ ν else m_X6_copy_84 v1 v2 v3 v4 v5 μ ν))))
theorem ok_X6_copy : fm_okV yX6_copy cX6_copy 7 (some .int) 5 := ⟨m_cd_X6_copy, m_im_X6_copy, m_se_X6_X6_copy, m_ini_X6, by decide +kernel, by decide +kernel, by decide +kernel⟩
set_option maxHeartbeats 4000000 in
set_option maxRecDepth 100000 in
theorem j_X6_copy_16_ {X : fm_X} {G : fm_G} {l : Launch}  {μ : fm_I} {ν : fm_L} (C : fm_C X G l cX6_copy RX6 7 (some .int) 2 33) {F : (Int32 × fm_I × fm_L) → State → Prop} (hF : F = fm_Qi X G)  : fm_J X G 7 F (m_X6_copy_16  μ ν) μ ν 16 [(0, .ref (G.2.2.1 58))] [] := by
  unfold m_X6_copy_16
  refine fm_aload_n (pc := 16) C dX6_copy_16 rfl rfl ?_
  refine fm_iconst (pc := 17) (v := (-1 : Int32)) C dX6_copy_17 (by decide) ?_
  refine fm_bind (fun r18 e18 => ?_)
  refine fm_cVi (pc := 18) C (t_X6_no e18) ok_X6_no ⟨by decide, rfl⟩ m_ml_X6_95 dX6_copy_18 ⟨Nat.le_of_ble_eq_true rfl, Nat.le_of_ble_eq_true rfl⟩ rfl rfl (Nat.le_of_ble_eq_true rfl) ?_
  exact fm_zret (pc := 21) C hF rfl rfl dX6_copy_21
set_option maxHeartbeats 4000000 in
set_option maxRecDepth 100000 in
theorem j_X6_copy_77_ {X : fm_X} {G : fm_G} {l : Launch}  {μ : fm_I} {ν : fm_L} (C : fm_C X G l cX6_copy RX6 7 (some .int) 2 33) {F : (Int32 × fm_I × fm_L) → State → Prop} (hF : F = fm_Qi X G)  : fm_J X G 7 F (m_X6_copy_77  μ ν) μ ν 77 [(0, .ref (G.2.2.1 58))] [] := by
  unfold m_X6_copy_77
  refine fm_aload_n (pc := 77) C dX6_copy_77 rfl rfl ?_
  refine fm_bipush (pc := 78) (v := (-2 : Int32)) C dX6_copy_78 (by decide) ?_
  refine fm_bind (fun r80 e80 => ?_)
  refine fm_cVi (pc := 80) C (t_X6_no e80) ok_X6_no ⟨by decide, rfl⟩ m_ml_X6_95 dX6_copy_80 ⟨Nat.le_of_ble_eq_true rfl, Nat.le_of_ble_eq_true rfl⟩ rfl rfl (Nat.le_of_ble_eq_true rfl) ?_
  exact fm_zret (pc := 83) C hF rfl rfl dX6_copy_83
set_option maxHeartbeats 4000000 in
set_option maxRecDepth 100000 in
theorem j_X6_copy_102_ {X : fm_X} {G : fm_G} {l : Launch}  {μ : fm_I} {ν : fm_L} (C : fm_C X G l cX6_copy RX6 7 (some .int) 2 33) {F : (Int32 × fm_I × fm_L) → State → Prop} (hF : F = fm_Qi X G)  : fm_J X G 7 F (m_X6_copy_102  μ ν) μ ν 102 [(0, .ref (G.2.2.1 58))] [] := by
  unfold m_X6_copy_102
  refine fm_aload_n (pc := 102) C dX6_copy_102 rfl rfl ?_
  refine fm_bipush (pc := 103) (v := (-3 : Int32)) C dX6_copy_103 (by decide) ?_
  refine fm_bind (fun r105 e105 => ?_)
  refine fm_cVi (pc := 105) C (t_X6_no e105) ok_X6_no ⟨by decide, rfl⟩ m_ml_X6_95 dX6_copy_105 ⟨Nat.le_of_ble_eq_true rfl, Nat.le_of_ble_eq_true rfl⟩ rfl rfl (Nat.le_of_ble_eq_true rfl) ?_
  exact fm_zret (pc := 108) C hF rfl rfl dX6_copy_108
set_option maxHeartbeats 4000000 in
set_option maxRecDepth 100000 in
theorem j_X6_copy_157_ {X : fm_X} {G : fm_G} {l : Launch}  {μ : fm_I} {ν : fm_L} (C : fm_C X G l cX6_copy RX6 7 (some .int) 2 33) {F : (Int32 × fm_I × fm_L) → State → Prop} (hF : F = fm_Qi X G)  : fm_J X G 7 F (m_X6_copy_157  μ ν) μ ν 157 [(0, .ref (G.2.2.1 58))] [] := by
  unfold m_X6_copy_157
  refine fm_aload_n (pc := 157) C dX6_copy_157 rfl rfl ?_
  refine fm_bipush (pc := 158) (v := (-5 : Int32)) C dX6_copy_158 (by decide) ?_
  refine fm_bind (fun r160 e160 => ?_)
  refine fm_cVi (pc := 160) C (t_X6_no e160) ok_X6_no ⟨by decide, rfl⟩ m_ml_X6_95 dX6_copy_160 ⟨Nat.le_of_ble_eq_true rfl, Nat.le_of_ble_eq_true rfl⟩ rfl rfl (Nat.le_of_ble_eq_true rfl) ?_
  exact fm_zret (pc := 163) C hF rfl rfl dX6_copy_163
set_option maxHeartbeats 4000000 in
set_option maxRecDepth 100000 in
theorem j_X6_copy_167_ {X : fm_X} {G : fm_G} {l : Launch} {v1 : Int32} {v2 : Int32} {v3 : Int32} {v4 : Int32} {v5 : Int32} (C : fm_C X G l cX6_copy RX6 7 (some .int) 2 33) {F : (Int32 × fm_I × fm_L) → State → Prop} (hF : F = fm_Qi X G)  {K : fm_I → fm_L → Option (Int32 × fm_I × fm_L)} (hK : ∀  (μ : fm_I) (ν : fm_L), fm_J X G 7 F (K μ ν) μ ν 202 [(0, .ref (G.2.2.1 58)), (2, .int v2), (4, .int v4), (5, .int v5)] []) : ∀ (k : Nat) (v6 : Int32) (μ : fm_I) (ν : fm_L), fm_J X G 7 F (m_X6_copy_167 v1 v2 v3 v4 v5 K k v6 μ ν) μ ν 167 [(0, .ref (G.2.2.1 58)), (1, .int v1), (2, .int v2), (3, .int v3), (4, .int v4), (5, .int v5), (6, .int v6)] [] := by
  intro k
  induction k with
  | zero =>
    intro v6 μ ν
    exact fm_none
  | succ k ih =>
    intro v6 μ ν
    rw [m_X6_copy_167]
    refine fm_iload (pc := 167) C dX6_copy_167 rfl ?_
    refine fm_iload (pc := 169) C dX6_copy_169 rfl ?_
    refine fm_icmp_ge (pc := 171) (tgt := 202) C dX6_copy_171 (by decide) (fun c23 => ?_) (fun c23 => ?_)
    · refine fm_less (lv' := [(0, .ref (G.2.2.1 58)), (2, .int v2), (4, .int v4), (5, .int v5)]) (by repeat (first | exact trivial | refine ⟨rfl, ?_⟩)) ?_
      exact hK  _ _
    · refine fm_aload_n (pc := 174) C dX6_copy_174 rfl rfl ?_
      refine g6_carried (pc := 175) C (by decide) dX6_copy_175 m_fl_X6_54 ?_
      refine fm_iload (pc := 178) C dX6_copy_178 rfl ?_
      refine fm_aload_n (pc := 180) C dX6_copy_180 rfl rfl ?_
      refine g6_cells (pc := 181) C (by decide) dX6_copy_181 m_fl_X6_50 ?_
      refine fm_sipush (pc := 184) (v := (nI 160)) C dX6_copy_184 (by decide) ?_
      refine fm_iload_n (pc := 187) C dX6_copy_187 rfl rfl ?_
      refine fm_imul (pc := 188) C dX6_copy_188 ?_
      refine fm_iload_n (pc := 189) C dX6_copy_189 rfl rfl ?_
      refine fm_iadd (pc := 190) C dX6_copy_190 ?_
      refine fm_iload (pc := 191) C dX6_copy_191 rfl ?_
      refine fm_iadd (pc := 193) C dX6_copy_193 ?_
      refine fm_guard (fun h24 => ?_)
      refine fm_lald (pc := 194) C (by decide) h24 dX6_copy_194 ?_
      refine fm_guard (fun h25 => ?_)
      refine fm_last (pc := 195) C (by decide) h25 dX6_copy_195 ?_
      refine fm_iinc (pc := 196) C dX6_copy_196 rfl (v := (v6 + nI 1)) rfl (by decide) rfl ?_
      refine fm_goto (pc := 199) (tgt := 167) C dX6_copy_199 (by decide) ?_
      refine fm_less (lv' := [(0, .ref (G.2.2.1 58)), (1, .int v1), (2, .int v2), (3, .int v3), (4, .int v4), (5, .int v5), (6, .int ((v6 + nI 1)))]) (by repeat (first | exact trivial | refine ⟨rfl, ?_⟩)) ?_
      exact ih _ _ _
set_option maxHeartbeats 4000000 in
set_option maxRecDepth 100000 in
theorem j_X6_copy_205_ {X : fm_X} {G : fm_G} {l : Launch} {v2 : Int32} {v4 : Int32} {v5 : Int32} (C : fm_C X G l cX6_copy RX6 7 (some .int) 2 33) {F : (Int32 × fm_I × fm_L) → State → Prop} (hF : F = fm_Qi X G)  {K : fm_I → fm_L → Option (Int32 × fm_I × fm_L)} (hK : ∀  (μ : fm_I) (ν : fm_L), fm_J X G 7 F (K μ ν) μ ν 241 [] []) : ∀ (k : Nat) (v6 : Int32) (μ : fm_I) (ν : fm_L), fm_J X G 7 F (m_X6_copy_205 v2 v4 v5 K k v6 μ ν) μ ν 205 [(0, .ref (G.2.2.1 58)), (2, .int v2), (4, .int v4), (5, .int v5), (6, .int v6)] [] := by
  intro k
  induction k with
  | zero =>
    intro v6 μ ν
    exact fm_none
  | succ k ih =>
    intro v6 μ ν
    rw [m_X6_copy_205]
    refine fm_iload (pc := 205) C dX6_copy_205 rfl ?_
    refine fm_iload (pc := 207) C dX6_copy_207 rfl ?_
    refine fm_icmp_ge (pc := 209) (tgt := 241) C dX6_copy_209 (by decide) (fun c26 => ?_) (fun c26 => ?_)
    · refine fm_less (lv' := []) (by repeat (first | exact trivial | refine ⟨rfl, ?_⟩)) ?_
      exact hK  _ _
    · refine fm_aload_n (pc := 212) C dX6_copy_212 rfl rfl ?_
      refine g6_cells (pc := 213) C (by decide) dX6_copy_213 m_fl_X6_50 ?_
      refine fm_sipush (pc := 216) (v := (nI 160)) C dX6_copy_216 (by decide) ?_
      refine fm_iload_n (pc := 219) C dX6_copy_219 rfl rfl ?_
      refine fm_imul (pc := 220) C dX6_copy_220 ?_
      refine fm_iload (pc := 221) C dX6_copy_221 rfl ?_
      refine fm_iadd (pc := 223) C dX6_copy_223 ?_
      refine fm_iload (pc := 224) C dX6_copy_224 rfl ?_
      refine fm_iadd (pc := 226) C dX6_copy_226 ?_
      refine fm_aload_n (pc := 227) C dX6_copy_227 rfl rfl ?_
      refine g6_carried (pc := 228) C (by decide) dX6_copy_228 m_fl_X6_54 ?_
      refine fm_iload (pc := 231) C dX6_copy_231 rfl ?_
      refine fm_guard (fun h27 => ?_)
      refine fm_lald (pc := 233) C (by decide) h27 dX6_copy_233 ?_
      refine fm_guard (fun h28 => ?_)
      refine fm_last (pc := 234) C (by decide) h28 dX6_copy_234 ?_
      refine fm_iinc (pc := 235) C dX6_copy_235 rfl (v := (v6 + nI 1)) rfl (by decide) rfl ?_
      refine fm_goto (pc := 238) (tgt := 205) C dX6_copy_238 (by decide) ?_
      refine fm_less (lv' := [(0, .ref (G.2.2.1 58)), (2, .int v2), (4, .int v4), (5, .int v5), (6, .int ((v6 + nI 1)))]) (by repeat (first | exact trivial | refine ⟨rfl, ?_⟩)) ?_
      exact ih _ _ _
set_option maxHeartbeats 4000000 in
set_option maxRecDepth 100000 in
theorem j_X6_copy_84_ {X : fm_X} {G : fm_G} {l : Launch} {v1 : Int32} {v2 : Int32} {v3 : Int32} {v4 : Int32} {v5 : Int32} {μ : fm_I} {ν : fm_L} (C : fm_C X G l cX6_copy RX6 7 (some .int) 2 33) {F : (Int32 × fm_I × fm_L) → State → Prop} (hF : F = fm_Qi X G)  : fm_J X G 7 F (m_X6_copy_84 v1 v2 v3 v4 v5 μ ν) μ ν 84 [(0, .ref (G.2.2.1 58)), (1, .int v1), (2, .int v2), (3, .int v3), (4, .int v4), (5, .int v5)] [] := by
  unfold m_X6_copy_84
  refine fm_aload_n (pc := 84) C dX6_copy_84 rfl rfl ?_
  refine g6_held (pc := 85) C (by decide) dX6_copy_85 m_fl_X6_38 ?_
  refine fm_iload_n (pc := 88) C dX6_copy_88 rfl rfl ?_
  refine fm_guard (fun h12 => ?_)
  refine fm_iald (pc := 89) C (by decide) h12 dX6_copy_89 ?_
  refine fm_if_eq (pc := 90) (tgt := 102) C dX6_copy_90 (by decide) (fun c13 => ?_) (fun c13 => ?_)
  · refine fm_less (lv' := [(0, .ref (G.2.2.1 58))]) (by repeat (first | exact trivial | refine ⟨rfl, ?_⟩)) ?_
    exact j_X6_copy_102_ C hF 
  · refine fm_aload_n (pc := 93) C dX6_copy_93 rfl rfl ?_
    refine g6_held (pc := 94) C (by decide) dX6_copy_94 m_fl_X6_38 ?_
    refine fm_iload_n (pc := 97) C dX6_copy_97 rfl rfl ?_
    refine fm_guard (fun h14 => ?_)
    refine fm_iald (pc := 98) C (by decide) h14 dX6_copy_98 ?_
    refine fm_if_ne (pc := 99) (tgt := 109) C dX6_copy_99 (by decide) (fun c15 => ?_) (fun c15 => ?_)
    · refine fm_less (lv' := [(0, .ref (G.2.2.1 58))]) (by repeat (first | exact trivial | refine ⟨rfl, ?_⟩)) ?_
      exact j_X6_copy_102_ C hF 
    · refine fm_iload (pc := 109) C dX6_copy_109 rfl ?_
      refine fm_if_ge (pc := 111) (tgt := 121) C dX6_copy_111 (by decide) (fun c16 => ?_) (fun c16 => ?_)
      · refine fm_iload_n (pc := 121) C dX6_copy_121 rfl rfl ?_
        refine fm_if_lt (pc := 122) (tgt := 157) C dX6_copy_122 (by decide) (fun c17 => ?_) (fun c17 => ?_)
        · refine fm_less (lv' := [(0, .ref (G.2.2.1 58))]) (by repeat (first | exact trivial | refine ⟨rfl, ?_⟩)) ?_
          exact j_X6_copy_157_ C hF 
        · refine fm_iload (pc := 125) C dX6_copy_125 rfl ?_
          refine fm_if_lt (pc := 127) (tgt := 157) C dX6_copy_127 (by decide) (fun c18 => ?_) (fun c18 => ?_)
          · refine fm_less (lv' := [(0, .ref (G.2.2.1 58))]) (by repeat (first | exact trivial | refine ⟨rfl, ?_⟩)) ?_
            exact j_X6_copy_157_ C hF 
          · refine fm_iload_n (pc := 130) C dX6_copy_130 rfl rfl ?_
            refine fm_aload_n (pc := 131) C dX6_copy_131 rfl rfl ?_
            refine g6_size (pc := 132) C (by decide) dX6_copy_132 m_fl_X6_44 ?_
            refine fm_iload_n (pc := 135) C dX6_copy_135 rfl rfl ?_
            refine fm_guard (fun h19 => ?_)
            refine fm_iald (pc := 136) C (by decide) h19 dX6_copy_136 ?_
            refine fm_iload (pc := 137) C dX6_copy_137 rfl ?_
            refine fm_isub (pc := 139) C dX6_copy_139 ?_
            refine fm_icmp_gt (pc := 140) (tgt := 157) C dX6_copy_140 (by decide) (fun c20 => ?_) (fun c20 => ?_)
            · refine fm_less (lv' := [(0, .ref (G.2.2.1 58))]) (by repeat (first | exact trivial | refine ⟨rfl, ?_⟩)) ?_
              exact j_X6_copy_157_ C hF 
            · refine fm_iload (pc := 143) C dX6_copy_143 rfl ?_
              refine fm_aload_n (pc := 145) C dX6_copy_145 rfl rfl ?_
              refine g6_size (pc := 146) C (by decide) dX6_copy_146 m_fl_X6_44 ?_
              refine fm_iload_n (pc := 149) C dX6_copy_149 rfl rfl ?_
              refine fm_guard (fun h21 => ?_)
              refine fm_iald (pc := 150) C (by decide) h21 dX6_copy_150 ?_
              refine fm_iload (pc := 151) C dX6_copy_151 rfl ?_
              refine fm_isub (pc := 153) C dX6_copy_153 ?_
              refine fm_icmp_le (pc := 154) (tgt := 164) C dX6_copy_154 (by decide) (fun c22 => ?_) (fun c22 => ?_)
              · refine fm_iconst (pc := 164) (v := (nI 0)) C dX6_copy_164 (by decide) ?_
                refine fm_istore (pc := 165) C dX6_copy_165 (by decide) rfl ?_
                refine fm_less (lv' := [(0, .ref (G.2.2.1 58)), (1, .int v1), (2, .int v2), (3, .int v3), (4, .int v4), (5, .int v5), (6, .int ((nI 0)))]) (by repeat (first | exact trivial | refine ⟨rfl, ?_⟩)) ?_
                refine j_X6_copy_167_ C (v1 := v1) (v2 := v2) (v3 := v3) (v4 := v4) (v5 := v5) hF  (fun μ167 ν167 => ?_) _ _ _ _
                refine fm_iconst (pc := 202) (v := (nI 0)) C dX6_copy_202 (by decide) ?_
                refine fm_istore (pc := 203) C dX6_copy_203 (by decide) rfl ?_
                refine fm_less (lv' := [(0, .ref (G.2.2.1 58)), (2, .int v2), (4, .int v4), (5, .int v5), (6, .int ((nI 0)))]) (by repeat (first | exact trivial | refine ⟨rfl, ?_⟩)) ?_
                refine j_X6_copy_205_ C (v2 := v2) (v4 := v4) (v5 := v5) hF  (fun μ205 ν205 => ?_) _ _ _ _
                refine fm_iconst (pc := 241) (v := (nI 1)) C dX6_copy_241 (by decide) ?_
                exact fm_zret (pc := 242) C hF rfl rfl dX6_copy_242
              · refine fm_less (lv' := [(0, .ref (G.2.2.1 58))]) (by repeat (first | exact trivial | refine ⟨rfl, ?_⟩)) ?_
                exact j_X6_copy_157_ C hF 
      · refine fm_aload_n (pc := 114) C dX6_copy_114 rfl rfl ?_
        refine fm_bipush (pc := 115) (v := (-4 : Int32)) C dX6_copy_115 (by decide) ?_
        refine fm_bind (fun r117 e117 => ?_)
        refine fm_cVi (pc := 117) C (t_X6_no e117) ok_X6_no ⟨by decide, rfl⟩ m_ml_X6_95 dX6_copy_117 ⟨Nat.le_of_ble_eq_true rfl, Nat.le_of_ble_eq_true rfl⟩ rfl rfl (Nat.le_of_ble_eq_true rfl) ?_
        exact fm_zret (pc := 120) C hF rfl rfl dX6_copy_120
set_option maxHeartbeats 4000000 in
set_option maxRecDepth 100000 in
theorem j_X6_copy {X : fm_X} {G : fm_G} {l : Launch} {v1 : Int32} {v2 : Int32} {v3 : Int32} {v4 : Int32} {v5 : Int32} {μ : fm_I} {ν : fm_L} (C : fm_C X G l cX6_copy RX6 7 (some .int) 2 33) {F : (Int32 × fm_I × fm_L) → State → Prop} (hF : F = fm_Qi X G) : fm_J X G 7 F (m_X6_copy v1 v2 v3 v4 v5 μ ν) μ ν 0 [(0, .ref (G.2.2.1 58)), (1, .int v1), (2, .int v2), (3, .int v3), (4, .int v4), (5, .int v5)] [] := by
  unfold m_X6_copy
  refine fm_aload_n (pc := 0) C dX6_copy_0 rfl rfl ?_
  refine fm_iload_n (pc := 1) C dX6_copy_1 rfl rfl ?_
  refine fm_bind (fun r2 e2 => ?_)
  refine fm_cVi0 (pc := 2) C (t_X6_isShelf e2) ok_X6_isShelf ⟨by decide, rfl⟩ m_ml_X6_92 dX6_copy_2 ⟨Nat.le_of_ble_eq_true rfl, Nat.le_of_ble_eq_true rfl⟩ rfl rfl (Nat.le_of_ble_eq_true rfl) ?_
  refine fm_if_eq (pc := 5) (tgt := 16) C dX6_copy_5 (by decide) (fun c1 => ?_) (fun c1 => ?_)
  · refine fm_less (lv' := [(0, .ref (G.2.2.1 58))]) (by repeat (first | exact trivial | refine ⟨rfl, ?_⟩)) ?_
    exact j_X6_copy_16_ C hF 
  · refine fm_aload_n (pc := 8) C dX6_copy_8 rfl rfl ?_
    refine fm_iload_n (pc := 9) C dX6_copy_9 rfl rfl ?_
    refine fm_bind (fun r10 e10 => ?_)
    refine fm_cVi0 (pc := 10) C (t_X6_isShelf e10) ok_X6_isShelf ⟨by decide, rfl⟩ m_ml_X6_92 dX6_copy_10 ⟨Nat.le_of_ble_eq_true rfl, Nat.le_of_ble_eq_true rfl⟩ rfl rfl (Nat.le_of_ble_eq_true rfl) ?_
    refine fm_if_ne (pc := 13) (tgt := 22) C dX6_copy_13 (by decide) (fun c2 => ?_) (fun c2 => ?_)
    · refine fm_less (lv' := [(0, .ref (G.2.2.1 58))]) (by repeat (first | exact trivial | refine ⟨rfl, ?_⟩)) ?_
      exact j_X6_copy_16_ C hF 
    · refine fm_aload_n (pc := 22) C dX6_copy_22 rfl rfl ?_
      refine g6_held (pc := 23) C (by decide) dX6_copy_23 m_fl_X6_38 ?_
      refine fm_iload_n (pc := 26) C dX6_copy_26 rfl rfl ?_
      refine fm_guard (fun h3 => ?_)
      refine fm_iald (pc := 27) C (by decide) h3 dX6_copy_27 ?_
      refine fm_iconst (pc := 28) (v := (nI 2)) C dX6_copy_28 (by decide) ?_
      refine fm_icmp_eq (pc := 29) (tgt := 77) C dX6_copy_29 (by decide) (fun c4 => ?_) (fun c4 => ?_)
      · refine fm_less (lv' := [(0, .ref (G.2.2.1 58))]) (by repeat (first | exact trivial | refine ⟨rfl, ?_⟩)) ?_
        exact j_X6_copy_77_ C hF 
      · refine fm_aload_n (pc := 32) C dX6_copy_32 rfl rfl ?_
        refine g6_held (pc := 33) C (by decide) dX6_copy_33 m_fl_X6_38 ?_
        refine fm_iload_n (pc := 36) C dX6_copy_36 rfl rfl ?_
        refine fm_guard (fun h5 => ?_)
        refine fm_iald (pc := 37) C (by decide) h5 dX6_copy_37 ?_
        refine fm_iconst (pc := 38) (v := (nI 2)) C dX6_copy_38 (by decide) ?_
        refine fm_icmp_eq (pc := 39) (tgt := 77) C dX6_copy_39 (by decide) (fun c6 => ?_) (fun c6 => ?_)
        · refine fm_less (lv' := [(0, .ref (G.2.2.1 58))]) (by repeat (first | exact trivial | refine ⟨rfl, ?_⟩)) ?_
          exact j_X6_copy_77_ C hF 
        · refine fm_aload_n (pc := 42) C dX6_copy_42 rfl rfl ?_
          refine g6_held (pc := 43) C (by decide) dX6_copy_43 m_fl_X6_38 ?_
          refine fm_iload_n (pc := 46) C dX6_copy_46 rfl rfl ?_
          refine fm_iald (pc := 47) C (by decide) h3 dX6_copy_47 ?_
          refine fm_iconst (pc := 48) (v := (nI 1)) C dX6_copy_48 (by decide) ?_
          refine fm_icmp_ne (pc := 49) (tgt := 84) C dX6_copy_49 (by decide) (fun c7 => ?_) (fun c7 => ?_)
          · refine fm_aload_n (pc := 52) C dX6_copy_52 rfl rfl ?_
            refine g6_held (pc := 53) C (by decide) dX6_copy_53 m_fl_X6_38 ?_
            refine fm_iload_n (pc := 56) C dX6_copy_56 rfl rfl ?_
            refine fm_iald (pc := 57) C (by decide) h5 dX6_copy_57 ?_
            refine fm_iconst (pc := 58) (v := (nI 1)) C dX6_copy_58 (by decide) ?_
            refine fm_icmp_ne (pc := 59) (tgt := 84) C dX6_copy_59 (by decide) (fun c8 => ?_) (fun c8 => ?_)
            · refine fm_aload_n (pc := 62) C dX6_copy_62 rfl rfl ?_
              refine g6_sort (pc := 63) C (by decide) dX6_copy_63 m_fl_X6_41 ?_
              refine fm_iload_n (pc := 66) C dX6_copy_66 rfl rfl ?_
              refine fm_guard (fun h9 => ?_)
              refine fm_iald (pc := 67) C (by decide) h9 dX6_copy_67 ?_
              refine fm_aload_n (pc := 68) C dX6_copy_68 rfl rfl ?_
              refine g6_sort (pc := 69) C (by decide) dX6_copy_69 m_fl_X6_41 ?_
              refine fm_iload_n (pc := 72) C dX6_copy_72 rfl rfl ?_
              refine fm_guard (fun h10 => ?_)
              refine fm_iald (pc := 73) C (by decide) h10 dX6_copy_73 ?_
              refine fm_icmp_eq (pc := 74) (tgt := 84) C dX6_copy_74 (by decide) (fun c11 => ?_) (fun c11 => ?_)
              · refine fm_less (lv' := [(0, .ref (G.2.2.1 58)), (1, .int v1), (2, .int v2), (3, .int v3), (4, .int v4), (5, .int v5)]) (by repeat (first | exact trivial | refine ⟨rfl, ?_⟩)) ?_
                exact j_X6_copy_84_ C hF 
              · refine fm_less (lv' := [(0, .ref (G.2.2.1 58))]) (by repeat (first | exact trivial | refine ⟨rfl, ?_⟩)) ?_
                exact j_X6_copy_77_ C hF 
            · refine fm_less (lv' := [(0, .ref (G.2.2.1 58)), (1, .int v1), (2, .int v2), (3, .int v3), (4, .int v4), (5, .int v5)]) (by repeat (first | exact trivial | refine ⟨rfl, ?_⟩)) ?_
              exact j_X6_copy_84_ C hF 
          · refine fm_less (lv' := [(0, .ref (G.2.2.1 58)), (1, .int v1), (2, .int v2), (3, .int v3), (4, .int v4), (5, .int v5)]) (by repeat (first | exact trivial | refine ⟨rfl, ?_⟩)) ?_
            exact j_X6_copy_84_ C hF 
theorem t_X6_copy {l : Launch} {G : fm_G} {v1 : Int32} {v2 : Int32} {v3 : Int32} {v4 : Int32} {v5 : Int32} {μ : fm_I} {ν : fm_L} {r : Int32 × fm_I × fm_L} (h : m_X6_copy v1 v2 v3 v4 v5 μ ν = some r) : fm_Mi l G yX6_copy cX6_copy 7 (some .int) 2 33 [.ref (G.2.2.1 58), .int v1, .int v2, .int v3, .int v4, .int v5] μ ν r := fm_Mi_of (by decide +kernel) (Nat.le_of_ble_eq_true rfl) (fun _ C => j_X6_copy C rfl r h)
theorem dX6_element_0 : decode cX6_element 0 = .ok (.aload_n 0, 1) := by decide +kernel
theorem dX6_element_1 : decode cX6_element 1 = .ok (.iload_n 1, 1) := by decide +kernel
theorem dX6_element_2 : decode cX6_element 2 = .ok (.invokevirtual 92, 3) := by decide +kernel
theorem dX6_element_5 : decode cX6_element 5 = .ok (.ifCond .eq 42, 3) := by decide +kernel
theorem dX6_element_8 : decode cX6_element 8 = .ok (.aload_n 0, 1) := by decide +kernel
theorem dX6_element_9 : decode cX6_element 9 = .ok (.getfield 38, 3) := by decide +kernel
theorem dX6_element_12 : decode cX6_element 12 = .ok (.iload_n 1, 1) := by decide +kernel
theorem dX6_element_13 : decode cX6_element 13 = .ok (.iaload, 1) := by decide +kernel
theorem dX6_element_14 : decode cX6_element 14 = .ok (.iconst 1, 1) := by decide +kernel
theorem dX6_element_15 : decode cX6_element 15 = .ok (.if_icmp .ne 32, 3) := by decide +kernel
theorem dX6_element_18 : decode cX6_element 18 = .ok (.iload_n 2, 1) := by decide +kernel
theorem dX6_element_19 : decode cX6_element 19 = .ok (.ifCond .lt 28, 3) := by decide +kernel
theorem dX6_element_22 : decode cX6_element 22 = .ok (.iload_n 2, 1) := by decide +kernel
theorem dX6_element_23 : decode cX6_element 23 = .ok (.aload_n 0, 1) := by decide +kernel
theorem dX6_element_24 : decode cX6_element 24 = .ok (.getfield 44, 3) := by decide +kernel
theorem dX6_element_27 : decode cX6_element 27 = .ok (.iload_n 1, 1) := by decide +kernel
theorem dX6_element_28 : decode cX6_element 28 = .ok (.iaload, 1) := by decide +kernel
theorem dX6_element_29 : decode cX6_element 29 = .ok (.if_icmp .ge 18, 3) := by decide +kernel
theorem dX6_element_32 : decode cX6_element 32 = .ok (.aload_n 0, 1) := by decide +kernel
theorem dX6_element_33 : decode cX6_element 33 = .ok (.getfield 50, 3) := by decide +kernel
theorem dX6_element_36 : decode cX6_element 36 = .ok (.sipush 160, 3) := by decide +kernel
theorem dX6_element_39 : decode cX6_element 39 = .ok (.iload_n 1, 1) := by decide +kernel
theorem dX6_element_40 : decode cX6_element 40 = .ok (.imul, 1) := by decide +kernel
theorem dX6_element_41 : decode cX6_element 41 = .ok (.iload_n 2, 1) := by decide +kernel
theorem dX6_element_42 : decode cX6_element 42 = .ok (.iadd, 1) := by decide +kernel
theorem dX6_element_43 : decode cX6_element 43 = .ok (.laload, 1) := by decide +kernel
theorem dX6_element_44 : decode cX6_element 44 = .ok (.goto 4, 3) := by decide +kernel
theorem dX6_element_47 : decode cX6_element 47 = .ok (.lconst 0, 1) := by decide +kernel
theorem dX6_element_48 : decode cX6_element 48 = .ok (.lreturn, 1) := by decide +kernel
def m_X6_element (v1 : Int32) (v2 : Int32) (μ : fm_I) (ν : fm_L) : Option (Int64) :=
  (m_X6_isShelf v1 μ ν).bind (fun r2 => if r2 = 0 then some ((lN 0)) else fm_g (fm_in v1 (fm_n 66)) (if (μ 66 v1.toNatClampNeg) = (nI 1) then if v2 < 0 then some ((lN 0)) else fm_g (fm_in v1 (fm_n 68)) (if (μ 68 v1.toNatClampNeg) ≤ v2 then some ((lN 0)) else fm_g (fm_in ((((((nI 160)) * v1)) + v2)) (fm_n 70)) (some ((ν 70 ((((((nI 160)) * v1)) + v2)).toNatClampNeg)))) else some ((lN 0))))
theorem ok_X6_element : fm_okV yX6_element cX6_element 3 (some .long) 2 := ⟨m_cd_X6_element, m_im_X6_element, m_se_X6_X6_element, m_ini_X6, by decide +kernel, by decide +kernel, by decide +kernel⟩
set_option maxHeartbeats 4000000 in
set_option maxRecDepth 100000 in
theorem j_X6_element {X : fm_X} {G : fm_G} {l : Launch} {v1 : Int32} {v2 : Int32} {μ : fm_I} {ν : fm_L} (C : fm_C X G l cX6_element RX6 3 (some .long) 2 33) {F : Int64 → State → Prop} (hF : F = fun r => fm_Ql X G (r, μ, ν)) : fm_J X G 3 F (m_X6_element v1 v2 μ ν) μ ν 0 [(0, .ref (G.2.2.1 58)), (1, .int v1), (2, .int v2)] [] := by
  unfold m_X6_element
  refine fm_aload_n (pc := 0) C dX6_element_0 rfl rfl ?_
  refine fm_iload_n (pc := 1) C dX6_element_1 rfl rfl ?_
  refine fm_bind (fun r2 e2 => ?_)
  refine fm_cVi0 (pc := 2) C (t_X6_isShelf e2) ok_X6_isShelf ⟨by decide, rfl⟩ m_ml_X6_92 dX6_element_2 ⟨Nat.le_of_ble_eq_true rfl, Nat.le_of_ble_eq_true rfl⟩ rfl rfl (Nat.le_of_ble_eq_true rfl) ?_
  refine fm_if_eq (pc := 5) (tgt := 47) C dX6_element_5 (by decide) (fun c1 => ?_) (fun c1 => ?_)
  · refine fm_lconst (pc := 47) (v := lN 0) C dX6_element_47 (by decide) ?_
    exact fm_lret0 (pc := 48) C hF rfl dX6_element_48
  · refine fm_aload_n (pc := 8) C dX6_element_8 rfl rfl ?_
    refine g6_held (pc := 9) C (by decide) dX6_element_9 m_fl_X6_38 ?_
    refine fm_iload_n (pc := 12) C dX6_element_12 rfl rfl ?_
    refine fm_guard (fun h2 => ?_)
    refine fm_iald (pc := 13) C (by decide) h2 dX6_element_13 ?_
    refine fm_iconst (pc := 14) (v := (nI 1)) C dX6_element_14 (by decide) ?_
    refine fm_icmp_ne (pc := 15) (tgt := 47) C dX6_element_15 (by decide) (fun c3 => ?_) (fun c3 => ?_)
    · refine fm_iload_n (pc := 18) C dX6_element_18 rfl rfl ?_
      refine fm_if_lt (pc := 19) (tgt := 47) C dX6_element_19 (by decide) (fun c4 => ?_) (fun c4 => ?_)
      · refine fm_lconst (pc := 47) (v := lN 0) C dX6_element_47 (by decide) ?_
        exact fm_lret0 (pc := 48) C hF rfl dX6_element_48
      · refine fm_iload_n (pc := 22) C dX6_element_22 rfl rfl ?_
        refine fm_aload_n (pc := 23) C dX6_element_23 rfl rfl ?_
        refine g6_size (pc := 24) C (by decide) dX6_element_24 m_fl_X6_44 ?_
        refine fm_iload_n (pc := 27) C dX6_element_27 rfl rfl ?_
        refine fm_guard (fun h5 => ?_)
        refine fm_iald (pc := 28) C (by decide) h5 dX6_element_28 ?_
        refine fm_icmp_ge (pc := 29) (tgt := 47) C dX6_element_29 (by decide) (fun c6 => ?_) (fun c6 => ?_)
        · refine fm_lconst (pc := 47) (v := lN 0) C dX6_element_47 (by decide) ?_
          exact fm_lret0 (pc := 48) C hF rfl dX6_element_48
        · refine fm_aload_n (pc := 32) C dX6_element_32 rfl rfl ?_
          refine g6_cells (pc := 33) C (by decide) dX6_element_33 m_fl_X6_50 ?_
          refine fm_sipush (pc := 36) (v := (nI 160)) C dX6_element_36 (by decide) ?_
          refine fm_iload_n (pc := 39) C dX6_element_39 rfl rfl ?_
          refine fm_imul (pc := 40) C dX6_element_40 ?_
          refine fm_iload_n (pc := 41) C dX6_element_41 rfl rfl ?_
          refine fm_iadd (pc := 42) C dX6_element_42 ?_
          refine fm_guard (fun h7 => ?_)
          refine fm_lald (pc := 43) C (by decide) h7 dX6_element_43 ?_
          refine fm_goto (pc := 44) (tgt := 48) C dX6_element_44 (by decide) ?_
          exact fm_lret0 (pc := 48) C hF rfl dX6_element_48
    · refine fm_lconst (pc := 47) (v := lN 0) C dX6_element_47 (by decide) ?_
      exact fm_lret0 (pc := 48) C hF rfl dX6_element_48
theorem t_X6_element {l : Launch} {G : fm_G} {v1 : Int32} {v2 : Int32} {μ : fm_I} {ν : fm_L} {r : Int64} (h : m_X6_element v1 v2 μ ν = some r) : fm_Ml l G yX6_element cX6_element 3 (some .long) 2 33 [.ref (G.2.2.1 58), .int v1, .int v2] μ ν (r, μ, ν) := fm_Ml_of (by decide +kernel) (Nat.le_of_ble_eq_true rfl) (fun _ C => j_X6_element C rfl r h)
theorem dX6_show_0 : decode cX6_show 0 = .ok (.aload_n 0, 1) := by decide +kernel
theorem dX6_show_1 : decode cX6_show 1 = .ok (.iload_n 1, 1) := by decide +kernel
theorem dX6_show_2 : decode cX6_show 2 = .ok (.invokevirtual 92, 3) := by decide +kernel
theorem dX6_show_5 : decode cX6_show 5 = .ok (.ifCond .eq 16, 3) := by decide +kernel
theorem dX6_show_8 : decode cX6_show 8 = .ok (.iload_n 2, 1) := by decide +kernel
theorem dX6_show_9 : decode cX6_show 9 = .ok (.iconst (-1), 1) := by decide +kernel
theorem dX6_show_10 : decode cX6_show 10 = .ok (.if_icmp .eq 17, 3) := by decide +kernel
theorem dX6_show_13 : decode cX6_show 13 = .ok (.aload_n 0, 1) := by decide +kernel
theorem dX6_show_14 : decode cX6_show 14 = .ok (.iload_n 2, 1) := by decide +kernel
theorem dX6_show_15 : decode cX6_show 15 = .ok (.invokevirtual 88, 3) := by decide +kernel
theorem dX6_show_18 : decode cX6_show 18 = .ok (.ifCond .ne 9, 3) := by decide +kernel
theorem dX6_show_21 : decode cX6_show 21 = .ok (.aload_n 0, 1) := by decide +kernel
theorem dX6_show_22 : decode cX6_show 22 = .ok (.iconst (-1), 1) := by decide +kernel
theorem dX6_show_23 : decode cX6_show 23 = .ok (.invokevirtual 95, 3) := by decide +kernel
theorem dX6_show_26 : decode cX6_show 26 = .ok (.ireturn, 1) := by decide +kernel
theorem dX6_show_27 : decode cX6_show 27 = .ok (.aload_n 0, 1) := by decide +kernel
theorem dX6_show_28 : decode cX6_show 28 = .ok (.getfield 38, 3) := by decide +kernel
theorem dX6_show_31 : decode cX6_show 31 = .ok (.iload_n 1, 1) := by decide +kernel
theorem dX6_show_32 : decode cX6_show 32 = .ok (.iload_n 2, 1) := by decide +kernel
theorem dX6_show_33 : decode cX6_show 33 = .ok (.iconst (-1), 1) := by decide +kernel
theorem dX6_show_34 : decode cX6_show 34 = .ok (.if_icmp .ne 7, 3) := by decide +kernel
theorem dX6_show_37 : decode cX6_show 37 = .ok (.iconst 0, 1) := by decide +kernel
theorem dX6_show_38 : decode cX6_show 38 = .ok (.goto 4, 3) := by decide +kernel
theorem dX6_show_41 : decode cX6_show 41 = .ok (.iconst 2, 1) := by decide +kernel
theorem dX6_show_42 : decode cX6_show 42 = .ok (.iastore, 1) := by decide +kernel
theorem dX6_show_43 : decode cX6_show 43 = .ok (.aload_n 0, 1) := by decide +kernel
theorem dX6_show_44 : decode cX6_show 44 = .ok (.getfield 47, 3) := by decide +kernel
theorem dX6_show_47 : decode cX6_show 47 = .ok (.iload_n 1, 1) := by decide +kernel
theorem dX6_show_48 : decode cX6_show 48 = .ok (.iload_n 2, 1) := by decide +kernel
theorem dX6_show_49 : decode cX6_show 49 = .ok (.iastore, 1) := by decide +kernel
theorem dX6_show_50 : decode cX6_show 50 = .ok (.iload_n 2, 1) := by decide +kernel
theorem dX6_show_51 : decode cX6_show 51 = .ok (.iconst (-1), 1) := by decide +kernel
theorem dX6_show_52 : decode cX6_show 52 = .ok (.if_icmp .ne 7, 3) := by decide +kernel
theorem dX6_show_55 : decode cX6_show 55 = .ok (.iconst 0, 1) := by decide +kernel
theorem dX6_show_56 : decode cX6_show 56 = .ok (.goto 4, 3) := by decide +kernel
theorem dX6_show_59 : decode cX6_show 59 = .ok (.iconst 1, 1) := by decide +kernel
theorem dX6_show_60 : decode cX6_show 60 = .ok (.ireturn, 1) := by decide +kernel
def m_X6_show (v1 : Int32) (v2 : Int32) (μ : fm_I) (ν : fm_L) : Option (Int32 × fm_I × fm_L) :=
  (m_X6_isShelf v1 μ ν).bind (fun r2 => if r2 = 0 then (m_X6_no ((-1 : Int32)) μ ν).bind (fun r23 => some ((r23.1, r23.2.1, r23.2.2))) else if v2 = (-1 : Int32) then if v2 = (-1 : Int32) then fm_g (fm_in v1 (fm_n 66)) (fm_g (fm_in v1 (fm_n 69)) (if v2 = (-1 : Int32) then some (((nI 0), (fm_u (fm_u μ 66 v1.toNatClampNeg ((nI 0))) 69 v1.toNatClampNeg v2), ν)) else some (((nI 1), (fm_u (fm_u μ 66 v1.toNatClampNeg ((nI 0))) 69 v1.toNatClampNeg v2), ν)))) else fm_g (fm_in v1 (fm_n 66)) (fm_g (fm_in v1 (fm_n 69)) (if v2 = (-1 : Int32) then some (((nI 0), (fm_u (fm_u μ 66 v1.toNatClampNeg ((nI 2))) 69 v1.toNatClampNeg v2), ν)) else some (((nI 1), (fm_u (fm_u μ 66 v1.toNatClampNeg ((nI 2))) 69 v1.toNatClampNeg v2), ν)))) else (m_X6_isBand v2 μ ν).bind (fun r15 => if r15 = 0 then (m_X6_no ((-1 : Int32)) μ ν).bind (fun r23 => some ((r23.1, r23.2.1, r23.2.2))) else if v2 = (-1 : Int32) then fm_g (fm_in v1 (fm_n 66)) (fm_g (fm_in v1 (fm_n 69)) (if v2 = (-1 : Int32) then some (((nI 0), (fm_u (fm_u μ 66 v1.toNatClampNeg ((nI 0))) 69 v1.toNatClampNeg v2), ν)) else some (((nI 1), (fm_u (fm_u μ 66 v1.toNatClampNeg ((nI 0))) 69 v1.toNatClampNeg v2), ν)))) else fm_g (fm_in v1 (fm_n 66)) (fm_g (fm_in v1 (fm_n 69)) (if v2 = (-1 : Int32) then some (((nI 0), (fm_u (fm_u μ 66 v1.toNatClampNeg ((nI 2))) 69 v1.toNatClampNeg v2), ν)) else some (((nI 1), (fm_u (fm_u μ 66 v1.toNatClampNeg ((nI 2))) 69 v1.toNatClampNeg v2), ν))))))
theorem ok_X6_show : fm_okV yX6_show cX6_show 3 (some .int) 2 := ⟨m_cd_X6_show, m_im_X6_show, m_se_X6_X6_show, m_ini_X6, by decide +kernel, by decide +kernel, by decide +kernel⟩
set_option maxHeartbeats 4000000 in
set_option maxRecDepth 100000 in
theorem j_X6_show {X : fm_X} {G : fm_G} {l : Launch} {v1 : Int32} {v2 : Int32} {μ : fm_I} {ν : fm_L} (C : fm_C X G l cX6_show RX6 3 (some .int) 2 33) {F : (Int32 × fm_I × fm_L) → State → Prop} (hF : F = fm_Qi X G) : fm_J X G 3 F (m_X6_show v1 v2 μ ν) μ ν 0 [(0, .ref (G.2.2.1 58)), (1, .int v1), (2, .int v2)] [] := by
  unfold m_X6_show
  refine fm_aload_n (pc := 0) C dX6_show_0 rfl rfl ?_
  refine fm_iload_n (pc := 1) C dX6_show_1 rfl rfl ?_
  refine fm_bind (fun r2 e2 => ?_)
  refine fm_cVi0 (pc := 2) C (t_X6_isShelf e2) ok_X6_isShelf ⟨by decide, rfl⟩ m_ml_X6_92 dX6_show_2 ⟨Nat.le_of_ble_eq_true rfl, Nat.le_of_ble_eq_true rfl⟩ rfl rfl (Nat.le_of_ble_eq_true rfl) ?_
  refine fm_if_eq (pc := 5) (tgt := 21) C dX6_show_5 (by decide) (fun c1 => ?_) (fun c1 => ?_)
  · refine fm_aload_n (pc := 21) C dX6_show_21 rfl rfl ?_
    refine fm_iconst (pc := 22) (v := (-1 : Int32)) C dX6_show_22 (by decide) ?_
    refine fm_bind (fun r23 e23 => ?_)
    refine fm_cVi (pc := 23) C (t_X6_no e23) ok_X6_no ⟨by decide, rfl⟩ m_ml_X6_95 dX6_show_23 ⟨Nat.le_of_ble_eq_true rfl, Nat.le_of_ble_eq_true rfl⟩ rfl rfl (Nat.le_of_ble_eq_true rfl) ?_
    exact fm_zret (pc := 26) C hF rfl rfl dX6_show_26
  · refine fm_iload_n (pc := 8) C dX6_show_8 rfl rfl ?_
    refine fm_iconst (pc := 9) (v := (-1 : Int32)) C dX6_show_9 (by decide) ?_
    refine fm_icmp_eq (pc := 10) (tgt := 27) C dX6_show_10 (by decide) (fun c2 => ?_) (fun c2 => ?_)
    · refine fm_aload_n (pc := 27) C dX6_show_27 rfl rfl ?_
      refine g6_held (pc := 28) C (by decide) dX6_show_28 m_fl_X6_38 ?_
      refine fm_iload_n (pc := 31) C dX6_show_31 rfl rfl ?_
      refine fm_iload_n (pc := 32) C dX6_show_32 rfl rfl ?_
      refine fm_iconst (pc := 33) (v := (-1 : Int32)) C dX6_show_33 (by decide) ?_
      refine fm_icmp_ne (pc := 34) (tgt := 41) C dX6_show_34 (by decide) (fun c3 => ?_) (fun c3 => ?_)
      · refine fm_iconst (pc := 37) (v := (nI 0)) C dX6_show_37 (by decide) ?_
        refine fm_goto (pc := 38) (tgt := 42) C dX6_show_38 (by decide) ?_
        refine fm_guard (fun h4 => ?_)
        refine fm_iast (pc := 42) C (by decide) h4 dX6_show_42 ?_
        refine fm_aload_n (pc := 43) C dX6_show_43 rfl rfl ?_
        refine g6_shown (pc := 44) C (by decide) dX6_show_44 m_fl_X6_47 ?_
        refine fm_iload_n (pc := 47) C dX6_show_47 rfl rfl ?_
        refine fm_iload_n (pc := 48) C dX6_show_48 rfl rfl ?_
        refine fm_guard (fun h5 => ?_)
        refine fm_iast (pc := 49) C (by decide) h5 dX6_show_49 ?_
        refine fm_iload_n (pc := 50) C dX6_show_50 rfl rfl ?_
        refine fm_iconst (pc := 51) (v := (-1 : Int32)) C dX6_show_51 (by decide) ?_
        refine fm_icmp_ne (pc := 52) (tgt := 59) C dX6_show_52 (by decide) (fun c6 => ?_) (fun c6 => ?_)
        · refine fm_iconst (pc := 55) (v := (nI 0)) C dX6_show_55 (by decide) ?_
          refine fm_goto (pc := 56) (tgt := 60) C dX6_show_56 (by decide) ?_
          exact fm_zret (pc := 60) C hF rfl rfl dX6_show_60
        · refine fm_iconst (pc := 59) (v := (nI 1)) C dX6_show_59 (by decide) ?_
          exact fm_zret (pc := 60) C hF rfl rfl dX6_show_60
      · refine fm_iconst (pc := 41) (v := (nI 2)) C dX6_show_41 (by decide) ?_
        refine fm_guard (fun h7 => ?_)
        refine fm_iast (pc := 42) C (by decide) h7 dX6_show_42 ?_
        refine fm_aload_n (pc := 43) C dX6_show_43 rfl rfl ?_
        refine g6_shown (pc := 44) C (by decide) dX6_show_44 m_fl_X6_47 ?_
        refine fm_iload_n (pc := 47) C dX6_show_47 rfl rfl ?_
        refine fm_iload_n (pc := 48) C dX6_show_48 rfl rfl ?_
        refine fm_guard (fun h8 => ?_)
        refine fm_iast (pc := 49) C (by decide) h8 dX6_show_49 ?_
        refine fm_iload_n (pc := 50) C dX6_show_50 rfl rfl ?_
        refine fm_iconst (pc := 51) (v := (-1 : Int32)) C dX6_show_51 (by decide) ?_
        refine fm_icmp_ne (pc := 52) (tgt := 59) C dX6_show_52 (by decide) (fun c9 => ?_) (fun c9 => ?_)
        · refine fm_iconst (pc := 55) (v := (nI 0)) C dX6_show_55 (by decide) ?_
          refine fm_goto (pc := 56) (tgt := 60) C dX6_show_56 (by decide) ?_
          exact fm_zret (pc := 60) C hF rfl rfl dX6_show_60
        · refine fm_iconst (pc := 59) (v := (nI 1)) C dX6_show_59 (by decide) ?_
          exact fm_zret (pc := 60) C hF rfl rfl dX6_show_60
    · refine fm_aload_n (pc := 13) C dX6_show_13 rfl rfl ?_
      refine fm_iload_n (pc := 14) C dX6_show_14 rfl rfl ?_
      refine fm_bind (fun r15 e15 => ?_)
      refine fm_cVi0 (pc := 15) C (t_X6_isBand e15) ok_X6_isBand ⟨by decide, rfl⟩ m_ml_X6_88 dX6_show_15 ⟨Nat.le_of_ble_eq_true rfl, Nat.le_of_ble_eq_true rfl⟩ rfl rfl (Nat.le_of_ble_eq_true rfl) ?_
      refine fm_if_ne (pc := 18) (tgt := 27) C dX6_show_18 (by decide) (fun c10 => ?_) (fun c10 => ?_)
      · refine fm_aload_n (pc := 21) C dX6_show_21 rfl rfl ?_
        refine fm_iconst (pc := 22) (v := (-1 : Int32)) C dX6_show_22 (by decide) ?_
        refine fm_bind (fun r23 e23 => ?_)
        refine fm_cVi (pc := 23) C (t_X6_no e23) ok_X6_no ⟨by decide, rfl⟩ m_ml_X6_95 dX6_show_23 ⟨Nat.le_of_ble_eq_true rfl, Nat.le_of_ble_eq_true rfl⟩ rfl rfl (Nat.le_of_ble_eq_true rfl) ?_
        exact fm_zret (pc := 26) C hF rfl rfl dX6_show_26
      · refine fm_aload_n (pc := 27) C dX6_show_27 rfl rfl ?_
        refine g6_held (pc := 28) C (by decide) dX6_show_28 m_fl_X6_38 ?_
        refine fm_iload_n (pc := 31) C dX6_show_31 rfl rfl ?_
        refine fm_iload_n (pc := 32) C dX6_show_32 rfl rfl ?_
        refine fm_iconst (pc := 33) (v := (-1 : Int32)) C dX6_show_33 (by decide) ?_
        refine fm_icmp_ne (pc := 34) (tgt := 41) C dX6_show_34 (by decide) (fun c11 => ?_) (fun c11 => ?_)
        · refine fm_iconst (pc := 37) (v := (nI 0)) C dX6_show_37 (by decide) ?_
          refine fm_goto (pc := 38) (tgt := 42) C dX6_show_38 (by decide) ?_
          refine fm_guard (fun h12 => ?_)
          refine fm_iast (pc := 42) C (by decide) h12 dX6_show_42 ?_
          refine fm_aload_n (pc := 43) C dX6_show_43 rfl rfl ?_
          refine g6_shown (pc := 44) C (by decide) dX6_show_44 m_fl_X6_47 ?_
          refine fm_iload_n (pc := 47) C dX6_show_47 rfl rfl ?_
          refine fm_iload_n (pc := 48) C dX6_show_48 rfl rfl ?_
          refine fm_guard (fun h13 => ?_)
          refine fm_iast (pc := 49) C (by decide) h13 dX6_show_49 ?_
          refine fm_iload_n (pc := 50) C dX6_show_50 rfl rfl ?_
          refine fm_iconst (pc := 51) (v := (-1 : Int32)) C dX6_show_51 (by decide) ?_
          refine fm_icmp_ne (pc := 52) (tgt := 59) C dX6_show_52 (by decide) (fun c14 => ?_) (fun c14 => ?_)
          · refine fm_iconst (pc := 55) (v := (nI 0)) C dX6_show_55 (by decide) ?_
            refine fm_goto (pc := 56) (tgt := 60) C dX6_show_56 (by decide) ?_
            exact fm_zret (pc := 60) C hF rfl rfl dX6_show_60
          · refine fm_iconst (pc := 59) (v := (nI 1)) C dX6_show_59 (by decide) ?_
            exact fm_zret (pc := 60) C hF rfl rfl dX6_show_60
        · refine fm_iconst (pc := 41) (v := (nI 2)) C dX6_show_41 (by decide) ?_
          refine fm_guard (fun h15 => ?_)
          refine fm_iast (pc := 42) C (by decide) h15 dX6_show_42 ?_
          refine fm_aload_n (pc := 43) C dX6_show_43 rfl rfl ?_
          refine g6_shown (pc := 44) C (by decide) dX6_show_44 m_fl_X6_47 ?_
          refine fm_iload_n (pc := 47) C dX6_show_47 rfl rfl ?_
          refine fm_iload_n (pc := 48) C dX6_show_48 rfl rfl ?_
          refine fm_guard (fun h16 => ?_)
          refine fm_iast (pc := 49) C (by decide) h16 dX6_show_49 ?_
          refine fm_iload_n (pc := 50) C dX6_show_50 rfl rfl ?_
          refine fm_iconst (pc := 51) (v := (-1 : Int32)) C dX6_show_51 (by decide) ?_
          refine fm_icmp_ne (pc := 52) (tgt := 59) C dX6_show_52 (by decide) (fun c17 => ?_) (fun c17 => ?_)
          · refine fm_iconst (pc := 55) (v := (nI 0)) C dX6_show_55 (by decide) ?_
            refine fm_goto (pc := 56) (tgt := 60) C dX6_show_56 (by decide) ?_
            exact fm_zret (pc := 60) C hF rfl rfl dX6_show_60
          · refine fm_iconst (pc := 59) (v := (nI 1)) C dX6_show_59 (by decide) ?_
            exact fm_zret (pc := 60) C hF rfl rfl dX6_show_60
theorem t_X6_show {l : Launch} {G : fm_G} {v1 : Int32} {v2 : Int32} {μ : fm_I} {ν : fm_L} {r : Int32 × fm_I × fm_L} (h : m_X6_show v1 v2 μ ν = some r) : fm_Mi l G yX6_show cX6_show 3 (some .int) 2 33 [.ref (G.2.2.1 58), .int v1, .int v2] μ ν r := fm_Mi_of (by decide +kernel) (Nat.le_of_ble_eq_true rfl) (fun _ C => j_X6_show C rfl r h)
theorem dX6_holds_0 : decode cX6_holds 0 = .ok (.aload_n 0, 1) := by decide +kernel
theorem dX6_holds_1 : decode cX6_holds 1 = .ok (.iload_n 1, 1) := by decide +kernel
theorem dX6_holds_2 : decode cX6_holds 2 = .ok (.invokevirtual 92, 3) := by decide +kernel
theorem dX6_holds_5 : decode cX6_holds 5 = .ok (.ifCond .eq 12, 3) := by decide +kernel
theorem dX6_holds_8 : decode cX6_holds 8 = .ok (.aload_n 0, 1) := by decide +kernel
theorem dX6_holds_9 : decode cX6_holds 9 = .ok (.getfield 38, 3) := by decide +kernel
theorem dX6_holds_12 : decode cX6_holds 12 = .ok (.iload_n 1, 1) := by decide +kernel
theorem dX6_holds_13 : decode cX6_holds 13 = .ok (.iaload, 1) := by decide +kernel
theorem dX6_holds_14 : decode cX6_holds 14 = .ok (.ifCond .ne 5, 3) := by decide +kernel
theorem dX6_holds_17 : decode cX6_holds 17 = .ok (.iconst (-1), 1) := by decide +kernel
theorem dX6_holds_18 : decode cX6_holds 18 = .ok (.ireturn, 1) := by decide +kernel
theorem dX6_holds_19 : decode cX6_holds 19 = .ok (.aload_n 0, 1) := by decide +kernel
theorem dX6_holds_20 : decode cX6_holds 20 = .ok (.getfield 38, 3) := by decide +kernel
theorem dX6_holds_23 : decode cX6_holds 23 = .ok (.iload_n 1, 1) := by decide +kernel
theorem dX6_holds_24 : decode cX6_holds 24 = .ok (.iaload, 1) := by decide +kernel
theorem dX6_holds_25 : decode cX6_holds 25 = .ok (.iconst 1, 1) := by decide +kernel
theorem dX6_holds_26 : decode cX6_holds 26 = .ok (.if_icmp .ne 15, 3) := by decide +kernel
theorem dX6_holds_29 : decode cX6_holds 29 = .ok (.bipush 100, 2) := by decide +kernel
theorem dX6_holds_31 : decode cX6_holds 31 = .ok (.aload_n 0, 1) := by decide +kernel
theorem dX6_holds_32 : decode cX6_holds 32 = .ok (.getfield 41, 3) := by decide +kernel
theorem dX6_holds_35 : decode cX6_holds 35 = .ok (.iload_n 1, 1) := by decide +kernel
theorem dX6_holds_36 : decode cX6_holds 36 = .ok (.iaload, 1) := by decide +kernel
theorem dX6_holds_37 : decode cX6_holds 37 = .ok (.iadd, 1) := by decide +kernel
theorem dX6_holds_38 : decode cX6_holds 38 = .ok (.goto 9, 3) := by decide +kernel
theorem dX6_holds_41 : decode cX6_holds 41 = .ok (.aload_n 0, 1) := by decide +kernel
theorem dX6_holds_42 : decode cX6_holds 42 = .ok (.getfield 47, 3) := by decide +kernel
theorem dX6_holds_45 : decode cX6_holds 45 = .ok (.iload_n 1, 1) := by decide +kernel
theorem dX6_holds_46 : decode cX6_holds 46 = .ok (.iaload, 1) := by decide +kernel
theorem dX6_holds_47 : decode cX6_holds 47 = .ok (.ireturn, 1) := by decide +kernel
def m_X6_holds (v1 : Int32) (μ : fm_I) (ν : fm_L) : Option (Int32) :=
  (m_X6_isShelf v1 μ ν).bind (fun r2 => if r2 = 0 then some ((-1 : Int32)) else fm_g (fm_in v1 (fm_n 66)) (if (μ 66 v1.toNatClampNeg) = 0 then some ((-1 : Int32)) else if (μ 66 v1.toNatClampNeg) = (nI 1) then fm_g (fm_in v1 (fm_n 67)) (some ((((nI 100)) + ((μ 67 v1.toNatClampNeg))))) else fm_g (fm_in v1 (fm_n 69)) (some ((μ 69 v1.toNatClampNeg)))))
theorem ok_X6_holds : fm_okV yX6_holds cX6_holds 2 (some .int) 1 := ⟨m_cd_X6_holds, m_im_X6_holds, m_se_X6_X6_holds, m_ini_X6, by decide +kernel, by decide +kernel, by decide +kernel⟩
set_option maxHeartbeats 4000000 in
set_option maxRecDepth 100000 in
theorem j_X6_holds {X : fm_X} {G : fm_G} {l : Launch} {v1 : Int32} {μ : fm_I} {ν : fm_L} (C : fm_C X G l cX6_holds RX6 2 (some .int) 2 33) {F : Int32 → State → Prop} (hF : F = fun r => fm_Qi X G (r, μ, ν)) : fm_J X G 2 F (m_X6_holds v1 μ ν) μ ν 0 [(0, .ref (G.2.2.1 58)), (1, .int v1)] [] := by
  unfold m_X6_holds
  refine fm_aload_n (pc := 0) C dX6_holds_0 rfl rfl ?_
  refine fm_iload_n (pc := 1) C dX6_holds_1 rfl rfl ?_
  refine fm_bind (fun r2 e2 => ?_)
  refine fm_cVi0 (pc := 2) C (t_X6_isShelf e2) ok_X6_isShelf ⟨by decide, rfl⟩ m_ml_X6_92 dX6_holds_2 ⟨Nat.le_of_ble_eq_true rfl, Nat.le_of_ble_eq_true rfl⟩ rfl rfl (Nat.le_of_ble_eq_true rfl) ?_
  refine fm_if_eq (pc := 5) (tgt := 17) C dX6_holds_5 (by decide) (fun c1 => ?_) (fun c1 => ?_)
  · refine fm_iconst (pc := 17) (v := (-1 : Int32)) C dX6_holds_17 (by decide) ?_
    exact fm_zret0 (pc := 18) C hF rfl rfl dX6_holds_18
  · refine fm_aload_n (pc := 8) C dX6_holds_8 rfl rfl ?_
    refine g6_held (pc := 9) C (by decide) dX6_holds_9 m_fl_X6_38 ?_
    refine fm_iload_n (pc := 12) C dX6_holds_12 rfl rfl ?_
    refine fm_guard (fun h2 => ?_)
    refine fm_iald (pc := 13) C (by decide) h2 dX6_holds_13 ?_
    refine fm_if_ne (pc := 14) (tgt := 19) C dX6_holds_14 (by decide) (fun c3 => ?_) (fun c3 => ?_)
    · refine fm_iconst (pc := 17) (v := (-1 : Int32)) C dX6_holds_17 (by decide) ?_
      exact fm_zret0 (pc := 18) C hF rfl rfl dX6_holds_18
    · refine fm_aload_n (pc := 19) C dX6_holds_19 rfl rfl ?_
      refine g6_held (pc := 20) C (by decide) dX6_holds_20 m_fl_X6_38 ?_
      refine fm_iload_n (pc := 23) C dX6_holds_23 rfl rfl ?_
      refine fm_iald (pc := 24) C (by decide) h2 dX6_holds_24 ?_
      refine fm_iconst (pc := 25) (v := (nI 1)) C dX6_holds_25 (by decide) ?_
      refine fm_icmp_ne (pc := 26) (tgt := 41) C dX6_holds_26 (by decide) (fun c4 => ?_) (fun c4 => ?_)
      · refine fm_bipush (pc := 29) (v := (nI 100)) C dX6_holds_29 (by decide) ?_
        refine fm_aload_n (pc := 31) C dX6_holds_31 rfl rfl ?_
        refine g6_sort (pc := 32) C (by decide) dX6_holds_32 m_fl_X6_41 ?_
        refine fm_iload_n (pc := 35) C dX6_holds_35 rfl rfl ?_
        refine fm_guard (fun h5 => ?_)
        refine fm_iald (pc := 36) C (by decide) h5 dX6_holds_36 ?_
        refine fm_iadd (pc := 37) C dX6_holds_37 ?_
        refine fm_goto (pc := 38) (tgt := 47) C dX6_holds_38 (by decide) ?_
        exact fm_zret0 (pc := 47) C hF rfl rfl dX6_holds_47
      · refine fm_aload_n (pc := 41) C dX6_holds_41 rfl rfl ?_
        refine g6_shown (pc := 42) C (by decide) dX6_holds_42 m_fl_X6_47 ?_
        refine fm_iload_n (pc := 45) C dX6_holds_45 rfl rfl ?_
        refine fm_guard (fun h6 => ?_)
        refine fm_iald (pc := 46) C (by decide) h6 dX6_holds_46 ?_
        exact fm_zret0 (pc := 47) C hF rfl rfl dX6_holds_47
theorem t_X6_holds {l : Launch} {G : fm_G} {v1 : Int32} {μ : fm_I} {ν : fm_L} {r : Int32} (h : m_X6_holds v1 μ ν = some r) : fm_Mi l G yX6_holds cX6_holds 2 (some .int) 2 33 [.ref (G.2.2.1 58), .int v1] μ ν (r, μ, ν) := fm_Mi_of (by decide +kernel) (Nat.le_of_ble_eq_true rfl) (fun _ C => j_X6_holds C rfl r h)
theorem dX6_plainly_0 : decode cX6_plainly 0 = .ok (.aload_n 0, 1) := by decide +kernel
theorem dX6_plainly_1 : decode cX6_plainly 1 = .ok (.getfield 23, 3) := by decide +kernel
theorem dX6_plainly_4 : decode cX6_plainly 4 = .ok (.iload_n 1, 1) := by decide +kernel
theorem dX6_plainly_5 : decode cX6_plainly 5 = .ok (.iaload, 1) := by decide +kernel
theorem dX6_plainly_6 : decode cX6_plainly 6 = .ok (.iconst 2, 1) := by decide +kernel
theorem dX6_plainly_7 : decode cX6_plainly 7 = .ok (.irem, 1) := by decide +kernel
theorem dX6_plainly_8 : decode cX6_plainly 8 = .ok (.ifCond .ne 7, 3) := by decide +kernel
theorem dX6_plainly_11 : decode cX6_plainly 11 = .ok (.iload_n 2, 1) := by decide +kernel
theorem dX6_plainly_12 : decode cX6_plainly 12 = .ok (.goto 13, 3) := by decide +kernel
theorem dX6_plainly_15 : decode cX6_plainly 15 = .ok (.aload_n 0, 1) := by decide +kernel
theorem dX6_plainly_16 : decode cX6_plainly 16 = .ok (.getfield 26, 3) := by decide +kernel
theorem dX6_plainly_19 : decode cX6_plainly 19 = .ok (.iload_n 1, 1) := by decide +kernel
theorem dX6_plainly_20 : decode cX6_plainly 20 = .ok (.iaload, 1) := by decide +kernel
theorem dX6_plainly_21 : decode cX6_plainly 21 = .ok (.iconst 1, 1) := by decide +kernel
theorem dX6_plainly_22 : decode cX6_plainly 22 = .ok (.isub, 1) := by decide +kernel
theorem dX6_plainly_23 : decode cX6_plainly 23 = .ok (.iload_n 2, 1) := by decide +kernel
theorem dX6_plainly_24 : decode cX6_plainly 24 = .ok (.isub, 1) := by decide +kernel
theorem dX6_plainly_25 : decode cX6_plainly 25 = .ok (.ireturn, 1) := by decide +kernel
def m_X6_plainly (v1 : Int32) (v2 : Int32) (μ : fm_I) (ν : fm_L) : Option (Int32) :=
  fm_g (fm_in v1 (fm_n 61)) (if (((μ 61 v1.toNatClampNeg)) - ((μ 61 v1.toNatClampNeg)) / ((nI 2)) * ((nI 2))) = 0 then some v2 else fm_g (fm_in v1 (fm_n 62)) (some ((((((μ 62 v1.toNatClampNeg)) - ((nI 1)))) - v2))))
theorem ok_X6_plainly : fm_okV yX6_plainly cX6_plainly 3 (some .int) 2 := ⟨m_cd_X6_plainly, m_im_X6_plainly, m_se_X6_X6_plainly, m_ini_X6, by decide +kernel, by decide +kernel, by decide +kernel⟩
set_option maxHeartbeats 4000000 in
set_option maxRecDepth 100000 in
theorem j_X6_plainly {X : fm_X} {G : fm_G} {l : Launch} {v1 : Int32} {v2 : Int32} {μ : fm_I} {ν : fm_L} (C : fm_C X G l cX6_plainly RX6 3 (some .int) 1 12) {F : Int32 → State → Prop} (hF : F = fun r => fm_Qi X G (r, μ, ν)) : fm_J X G 3 F (m_X6_plainly v1 v2 μ ν) μ ν 0 [(0, .ref (G.2.2.1 58)), (1, .int v1), (2, .int v2)] [] := by
  unfold m_X6_plainly
  refine fm_aload_n (pc := 0) C dX6_plainly_0 rfl rfl ?_
  refine g6_twists (pc := 1) C (by decide) dX6_plainly_1 m_fl_X6_23 ?_
  refine fm_iload_n (pc := 4) C dX6_plainly_4 rfl rfl ?_
  refine fm_guard (fun h1 => ?_)
  refine fm_iald (pc := 5) C (by decide) h1 dX6_plainly_5 ?_
  refine fm_iconst (pc := 6) (v := (nI 2)) C dX6_plainly_6 (by decide) ?_
  refine fm_irem (pc := 7) C dX6_plainly_7 (by decide) ?_
  refine fm_if_ne (pc := 8) (tgt := 15) C dX6_plainly_8 (by decide) (fun c2 => ?_) (fun c2 => ?_)
  · refine fm_iload_n (pc := 11) C dX6_plainly_11 rfl rfl ?_
    refine fm_goto (pc := 12) (tgt := 25) C dX6_plainly_12 (by decide) ?_
    exact fm_zret0 (pc := 25) C hF rfl rfl dX6_plainly_25
  · refine fm_aload_n (pc := 15) C dX6_plainly_15 rfl rfl ?_
    refine g6_strips (pc := 16) C (by decide) dX6_plainly_16 m_fl_X6_26 ?_
    refine fm_iload_n (pc := 19) C dX6_plainly_19 rfl rfl ?_
    refine fm_guard (fun h3 => ?_)
    refine fm_iald (pc := 20) C (by decide) h3 dX6_plainly_20 ?_
    refine fm_iconst (pc := 21) (v := (nI 1)) C dX6_plainly_21 (by decide) ?_
    refine fm_isub (pc := 22) C dX6_plainly_22 ?_
    refine fm_iload_n (pc := 23) C dX6_plainly_23 rfl rfl ?_
    refine fm_isub (pc := 24) C dX6_plainly_24 ?_
    exact fm_zret0 (pc := 25) C hF rfl rfl dX6_plainly_25
theorem t_X6_plainly {l : Launch} {G : fm_G} {v1 : Int32} {v2 : Int32} {μ : fm_I} {ν : fm_L} {r : Int32} (h : m_X6_plainly v1 v2 μ ν = some r) : fm_Mi l G yX6_plainly cX6_plainly 3 (some .int) 1 12 [.ref (G.2.2.1 58), .int v1, .int v2] μ ν (r, μ, ν) := fm_Mi_of (by decide +kernel) (Nat.le_of_ble_eq_true rfl) (fun _ C => j_X6_plainly C rfl r h)
theorem dX6_onOf_0 : decode cX6_onOf 0 = .ok (.aload_n 0, 1) := by decide +kernel
theorem dX6_onOf_1 : decode cX6_onOf 1 = .ok (.getfield 26, 3) := by decide +kernel
theorem dX6_onOf_4 : decode cX6_onOf 4 = .ok (.iload_n 1, 1) := by decide +kernel
theorem dX6_onOf_5 : decode cX6_onOf 5 = .ok (.iaload, 1) := by decide +kernel
theorem dX6_onOf_6 : decode cX6_onOf 6 = .ok (.istore_n 3, 1) := by decide +kernel
theorem dX6_onOf_7 : decode cX6_onOf 7 = .ok (.aload_n 0, 1) := by decide +kernel
theorem dX6_onOf_8 : decode cX6_onOf 8 = .ok (.iload_n 1, 1) := by decide +kernel
theorem dX6_onOf_9 : decode cX6_onOf 9 = .ok (.iload_n 2, 1) := by decide +kernel
theorem dX6_onOf_10 : decode cX6_onOf 10 = .ok (.invokevirtual 169, 3) := by decide +kernel
theorem dX6_onOf_13 : decode cX6_onOf 13 = .ok (.istore 4, 2) := by decide +kernel
theorem dX6_onOf_15 : decode cX6_onOf 15 = .ok (.aload_n 0, 1) := by decide +kernel
theorem dX6_onOf_16 : decode cX6_onOf 16 = .ok (.getfield 20, 3) := by decide +kernel
theorem dX6_onOf_19 : decode cX6_onOf 19 = .ok (.iload_n 1, 1) := by decide +kernel
theorem dX6_onOf_20 : decode cX6_onOf 20 = .ok (.iaload, 1) := by decide +kernel
theorem dX6_onOf_21 : decode cX6_onOf 21 = .ok (.tableswitch 142 1 6 #[39, 77, 51, 117, 95, 119], 39) := by decide +kernel
theorem dX6_onOf_60 : decode cX6_onOf 60 = .ok (.iload 4, 2) := by decide +kernel
theorem dX6_onOf_62 : decode cX6_onOf 62 = .ok (.aload_n 0, 1) := by decide +kernel
theorem dX6_onOf_63 : decode cX6_onOf 63 = .ok (.getfield 32, 3) := by decide +kernel
theorem dX6_onOf_66 : decode cX6_onOf 66 = .ok (.iload_n 1, 1) := by decide +kernel
theorem dX6_onOf_67 : decode cX6_onOf 67 = .ok (.iaload, 1) := by decide +kernel
theorem dX6_onOf_68 : decode cX6_onOf 68 = .ok (.iadd, 1) := by decide +kernel
theorem dX6_onOf_69 : decode cX6_onOf 69 = .ok (.iload_n 3, 1) := by decide +kernel
theorem dX6_onOf_70 : decode cX6_onOf 70 = .ok (.irem, 1) := by decide +kernel
theorem dX6_onOf_71 : decode cX6_onOf 71 = .ok (.ireturn, 1) := by decide +kernel
theorem dX6_onOf_72 : decode cX6_onOf 72 = .ok (.aload_n 0, 1) := by decide +kernel
theorem dX6_onOf_73 : decode cX6_onOf 73 = .ok (.iload_n 1, 1) := by decide +kernel
theorem dX6_onOf_74 : decode cX6_onOf 74 = .ok (.iload 4, 2) := by decide +kernel
theorem dX6_onOf_76 : decode cX6_onOf 76 = .ok (.aload_n 0, 1) := by decide +kernel
theorem dX6_onOf_77 : decode cX6_onOf 77 = .ok (.getfield 32, 3) := by decide +kernel
theorem dX6_onOf_80 : decode cX6_onOf 80 = .ok (.iload_n 1, 1) := by decide +kernel
theorem dX6_onOf_81 : decode cX6_onOf 81 = .ok (.iaload, 1) := by decide +kernel
theorem dX6_onOf_82 : decode cX6_onOf 82 = .ok (.iadd, 1) := by decide +kernel
theorem dX6_onOf_83 : decode cX6_onOf 83 = .ok (.iload_n 3, 1) := by decide +kernel
theorem dX6_onOf_84 : decode cX6_onOf 84 = .ok (.irem, 1) := by decide +kernel
theorem dX6_onOf_85 : decode cX6_onOf 85 = .ok (.invokevirtual 169, 3) := by decide +kernel
theorem dX6_onOf_88 : decode cX6_onOf 88 = .ok (.aload_n 0, 1) := by decide +kernel
theorem dX6_onOf_89 : decode cX6_onOf 89 = .ok (.getfield 32, 3) := by decide +kernel
theorem dX6_onOf_92 : decode cX6_onOf 92 = .ok (.iload_n 1, 1) := by decide +kernel
theorem dX6_onOf_93 : decode cX6_onOf 93 = .ok (.iaload, 1) := by decide +kernel
theorem dX6_onOf_94 : decode cX6_onOf 94 = .ok (.iadd, 1) := by decide +kernel
theorem dX6_onOf_95 : decode cX6_onOf 95 = .ok (.iload_n 3, 1) := by decide +kernel
theorem dX6_onOf_96 : decode cX6_onOf 96 = .ok (.irem, 1) := by decide +kernel
theorem dX6_onOf_97 : decode cX6_onOf 97 = .ok (.ireturn, 1) := by decide +kernel
theorem dX6_onOf_98 : decode cX6_onOf 98 = .ok (.iload 4, 2) := by decide +kernel
theorem dX6_onOf_100 : decode cX6_onOf 100 = .ok (.iconst 1, 1) := by decide +kernel
theorem dX6_onOf_101 : decode cX6_onOf 101 = .ok (.ixor, 1) := by decide +kernel
theorem dX6_onOf_102 : decode cX6_onOf 102 = .ok (.iload_n 3, 1) := by decide +kernel
theorem dX6_onOf_103 : decode cX6_onOf 103 = .ok (.if_icmp .ge 10, 3) := by decide +kernel
theorem dX6_onOf_106 : decode cX6_onOf 106 = .ok (.iload 4, 2) := by decide +kernel
theorem dX6_onOf_108 : decode cX6_onOf 108 = .ok (.iconst 1, 1) := by decide +kernel
theorem dX6_onOf_109 : decode cX6_onOf 109 = .ok (.ixor, 1) := by decide +kernel
theorem dX6_onOf_110 : decode cX6_onOf 110 = .ok (.goto 5, 3) := by decide +kernel
theorem dX6_onOf_113 : decode cX6_onOf 113 = .ok (.iload 4, 2) := by decide +kernel
theorem dX6_onOf_115 : decode cX6_onOf 115 = .ok (.ireturn, 1) := by decide +kernel
theorem dX6_onOf_116 : decode cX6_onOf 116 = .ok (.iload_n 3, 1) := by decide +kernel
theorem dX6_onOf_117 : decode cX6_onOf 117 = .ok (.iconst 1, 1) := by decide +kernel
theorem dX6_onOf_118 : decode cX6_onOf 118 = .ok (.isub, 1) := by decide +kernel
theorem dX6_onOf_119 : decode cX6_onOf 119 = .ok (.iload 4, 2) := by decide +kernel
theorem dX6_onOf_121 : decode cX6_onOf 121 = .ok (.iconst 1, 1) := by decide +kernel
theorem dX6_onOf_122 : decode cX6_onOf 122 = .ok (.ixor, 1) := by decide +kernel
theorem dX6_onOf_123 : decode cX6_onOf 123 = .ok (.iload_n 3, 1) := by decide +kernel
theorem dX6_onOf_124 : decode cX6_onOf 124 = .ok (.if_icmp .ge 10, 3) := by decide +kernel
theorem dX6_onOf_127 : decode cX6_onOf 127 = .ok (.iload 4, 2) := by decide +kernel
theorem dX6_onOf_129 : decode cX6_onOf 129 = .ok (.iconst 1, 1) := by decide +kernel
theorem dX6_onOf_130 : decode cX6_onOf 130 = .ok (.ixor, 1) := by decide +kernel
theorem dX6_onOf_131 : decode cX6_onOf 131 = .ok (.goto 5, 3) := by decide +kernel
theorem dX6_onOf_134 : decode cX6_onOf 134 = .ok (.iload 4, 2) := by decide +kernel
theorem dX6_onOf_136 : decode cX6_onOf 136 = .ok (.isub, 1) := by decide +kernel
theorem dX6_onOf_137 : decode cX6_onOf 137 = .ok (.ireturn, 1) := by decide +kernel
theorem dX6_onOf_138 : decode cX6_onOf 138 = .ok (.iload_n 2, 1) := by decide +kernel
theorem dX6_onOf_139 : decode cX6_onOf 139 = .ok (.ireturn, 1) := by decide +kernel
theorem dX6_onOf_140 : decode cX6_onOf 140 = .ok (.iload_n 2, 1) := by decide +kernel
theorem dX6_onOf_141 : decode cX6_onOf 141 = .ok (.ifCond .ne 9, 3) := by decide +kernel
theorem dX6_onOf_144 : decode cX6_onOf 144 = .ok (.iload_n 3, 1) := by decide +kernel
theorem dX6_onOf_145 : decode cX6_onOf 145 = .ok (.iconst 1, 1) := by decide +kernel
theorem dX6_onOf_146 : decode cX6_onOf 146 = .ok (.isub, 1) := by decide +kernel
theorem dX6_onOf_147 : decode cX6_onOf 147 = .ok (.goto 15, 3) := by decide +kernel
theorem dX6_onOf_150 : decode cX6_onOf 150 = .ok (.iload_n 2, 1) := by decide +kernel
theorem dX6_onOf_151 : decode cX6_onOf 151 = .ok (.iload_n 3, 1) := by decide +kernel
theorem dX6_onOf_152 : decode cX6_onOf 152 = .ok (.iconst 1, 1) := by decide +kernel
theorem dX6_onOf_153 : decode cX6_onOf 153 = .ok (.isub, 1) := by decide +kernel
theorem dX6_onOf_154 : decode cX6_onOf 154 = .ok (.if_icmp .ne 7, 3) := by decide +kernel
theorem dX6_onOf_157 : decode cX6_onOf 157 = .ok (.iconst 0, 1) := by decide +kernel
theorem dX6_onOf_158 : decode cX6_onOf 158 = .ok (.goto 4, 3) := by decide +kernel
theorem dX6_onOf_161 : decode cX6_onOf 161 = .ok (.iload_n 2, 1) := by decide +kernel
theorem dX6_onOf_162 : decode cX6_onOf 162 = .ok (.ireturn, 1) := by decide +kernel
theorem dX6_onOf_163 : decode cX6_onOf 163 = .ok (.iload 4, 2) := by decide +kernel
theorem dX6_onOf_165 : decode cX6_onOf 165 = .ok (.ireturn, 1) := by decide +kernel
def m_X6_onOf (v1 : Int32) (v2 : Int32) (μ : fm_I) (ν : fm_L) : Option (Int32) :=
  fm_g (fm_in v1 (fm_n 62)) ((m_X6_plainly v1 v2 μ ν).bind (fun r10 => fm_g (fm_in v1 (fm_n 60)) (if (μ 60 v1.toNatClampNeg) = (nI 1) then fm_g (fm_in v1 (fm_n 64)) (fm_g (decide (¬ ((μ 62 v1.toNatClampNeg)) = 0)) (some ((((r10 + ((μ 64 v1.toNatClampNeg)))) - ((r10 + ((μ 64 v1.toNatClampNeg)))) / ((μ 62 v1.toNatClampNeg)) * ((μ 62 v1.toNatClampNeg)))))) else if (μ 60 v1.toNatClampNeg) = (nI 2) then if (μ 62 v1.toNatClampNeg) ≤ (r10 ^^^ ((nI 1))) then some r10 else some ((r10 ^^^ ((nI 1)))) else if (μ 60 v1.toNatClampNeg) = (nI 3) then fm_g (fm_in v1 (fm_n 64)) (fm_g (decide (¬ ((μ 62 v1.toNatClampNeg)) = 0)) ((m_X6_plainly v1 ((((r10 + ((μ 64 v1.toNatClampNeg)))) - ((r10 + ((μ 64 v1.toNatClampNeg)))) / ((μ 62 v1.toNatClampNeg)) * ((μ 62 v1.toNatClampNeg)))) μ ν).bind (fun r85 => fm_g (decide (¬ ((μ 62 v1.toNatClampNeg)) = 0)) (some ((((r85 + ((μ 64 v1.toNatClampNeg)))) - ((r85 + ((μ 64 v1.toNatClampNeg)))) / ((μ 62 v1.toNatClampNeg)) * ((μ 62 v1.toNatClampNeg)))))))) else if (μ 60 v1.toNatClampNeg) = (nI 4) then some v2 else if (μ 60 v1.toNatClampNeg) = (nI 5) then if (μ 62 v1.toNatClampNeg) ≤ (r10 ^^^ ((nI 1))) then some ((((((μ 62 v1.toNatClampNeg)) - ((nI 1)))) - r10)) else some ((((((μ 62 v1.toNatClampNeg)) - ((nI 1)))) - ((r10 ^^^ ((nI 1)))))) else if (μ 60 v1.toNatClampNeg) = (nI 6) then if v2 = 0 then some ((((μ 62 v1.toNatClampNeg)) - ((nI 1)))) else if v2 = (((μ 62 v1.toNatClampNeg)) - ((nI 1))) then some ((nI 0)) else some v2 else some r10)))
theorem ok_X6_onOf : fm_okV yX6_onOf cX6_onOf 5 (some .int) 2 := ⟨m_cd_X6_onOf, m_im_X6_onOf, m_se_X6_X6_onOf, m_ini_X6, by decide +kernel, by decide +kernel, by decide +kernel⟩
set_option maxHeartbeats 4000000 in
set_option maxRecDepth 100000 in
theorem j_X6_onOf {X : fm_X} {G : fm_G} {l : Launch} {v1 : Int32} {v2 : Int32} {μ : fm_I} {ν : fm_L} (C : fm_C X G l cX6_onOf RX6 5 (some .int) 2 34) {F : Int32 → State → Prop} (hF : F = fun r => fm_Qi X G (r, μ, ν)) : fm_J X G 5 F (m_X6_onOf v1 v2 μ ν) μ ν 0 [(0, .ref (G.2.2.1 58)), (1, .int v1), (2, .int v2)] [] := by
  unfold m_X6_onOf
  refine fm_aload_n (pc := 0) C dX6_onOf_0 rfl rfl ?_
  refine g6_strips (pc := 1) C (by decide) dX6_onOf_1 m_fl_X6_26 ?_
  refine fm_iload_n (pc := 4) C dX6_onOf_4 rfl rfl ?_
  refine fm_guard (fun h1 => ?_)
  refine fm_iald (pc := 5) C (by decide) h1 dX6_onOf_5 ?_
  refine fm_istore_n (pc := 6) C dX6_onOf_6 rfl (by decide) rfl ?_
  refine fm_aload_n (pc := 7) C dX6_onOf_7 rfl rfl ?_
  refine fm_iload_n (pc := 8) C dX6_onOf_8 rfl rfl ?_
  refine fm_iload_n (pc := 9) C dX6_onOf_9 rfl rfl ?_
  refine fm_bind (fun r10 e10 => ?_)
  refine fm_cVi0 (pc := 10) C (t_X6_plainly e10) ok_X6_plainly ⟨by decide, rfl⟩ m_ml_X6_169 dX6_onOf_10 ⟨Nat.le_of_ble_eq_true rfl, Nat.le_of_ble_eq_true rfl⟩ rfl rfl (Nat.le_of_ble_eq_true rfl) ?_
  refine fm_istore (pc := 13) C dX6_onOf_13 (by decide) rfl ?_
  refine fm_aload_n (pc := 15) C dX6_onOf_15 rfl rfl ?_
  refine g6_kind (pc := 16) C (by decide) dX6_onOf_16 m_fl_X6_20 ?_
  refine fm_iload_n (pc := 19) C dX6_onOf_19 rfl rfl ?_
  refine fm_guard (fun h2 => ?_)
  refine fm_iald (pc := 20) C (by decide) h2 dX6_onOf_20 ?_
  refine fm_ite (fun s3 => ?_) (fun s3 => ?_)
  · refine fm_tabIn (pc := 21) (tgt := 60) (off := 39) C dX6_onOf_21 (by rw [s3]; decide) (by rw [s3]; decide) (by rw [s3]; decide) (by decide) ?_
    refine fm_iload (pc := 60) C dX6_onOf_60 rfl ?_
    refine fm_aload_n (pc := 62) C dX6_onOf_62 rfl rfl ?_
    refine g6_part (pc := 63) C (by decide) dX6_onOf_63 m_fl_X6_32 ?_
    refine fm_iload_n (pc := 66) C dX6_onOf_66 rfl rfl ?_
    refine fm_guard (fun h4 => ?_)
    refine fm_iald (pc := 67) C (by decide) h4 dX6_onOf_67 ?_
    refine fm_iadd (pc := 68) C dX6_onOf_68 ?_
    refine fm_iload_n (pc := 69) C dX6_onOf_69 rfl rfl ?_
    refine fm_guard (fun h5 => ?_)
    refine fm_irem (pc := 70) C dX6_onOf_70 h5 ?_
    exact fm_zret0 (pc := 71) C hF rfl rfl dX6_onOf_71
  · refine fm_ite (fun s6 => ?_) (fun s6 => ?_)
    · refine fm_tabIn (pc := 21) (tgt := 98) (off := 77) C dX6_onOf_21 (by rw [s6]; decide) (by rw [s6]; decide) (by rw [s6]; decide) (by decide) ?_
      refine fm_iload (pc := 98) C dX6_onOf_98 rfl ?_
      refine fm_iconst (pc := 100) (v := (nI 1)) C dX6_onOf_100 (by decide) ?_
      refine fm_ixor (pc := 101) C dX6_onOf_101 ?_
      refine fm_iload_n (pc := 102) C dX6_onOf_102 rfl rfl ?_
      refine fm_icmp_ge (pc := 103) (tgt := 113) C dX6_onOf_103 (by decide) (fun c7 => ?_) (fun c7 => ?_)
      · refine fm_iload (pc := 113) C dX6_onOf_113 rfl ?_
        exact fm_zret0 (pc := 115) C hF rfl rfl dX6_onOf_115
      · refine fm_iload (pc := 106) C dX6_onOf_106 rfl ?_
        refine fm_iconst (pc := 108) (v := (nI 1)) C dX6_onOf_108 (by decide) ?_
        refine fm_ixor (pc := 109) C dX6_onOf_109 ?_
        refine fm_goto (pc := 110) (tgt := 115) C dX6_onOf_110 (by decide) ?_
        exact fm_zret0 (pc := 115) C hF rfl rfl dX6_onOf_115
    · refine fm_ite (fun s8 => ?_) (fun s8 => ?_)
      · refine fm_tabIn (pc := 21) (tgt := 72) (off := 51) C dX6_onOf_21 (by rw [s8]; decide) (by rw [s8]; decide) (by rw [s8]; decide) (by decide) ?_
        refine fm_aload_n (pc := 72) C dX6_onOf_72 rfl rfl ?_
        refine fm_iload_n (pc := 73) C dX6_onOf_73 rfl rfl ?_
        refine fm_iload (pc := 74) C dX6_onOf_74 rfl ?_
        refine fm_aload_n (pc := 76) C dX6_onOf_76 rfl rfl ?_
        refine g6_part (pc := 77) C (by decide) dX6_onOf_77 m_fl_X6_32 ?_
        refine fm_iload_n (pc := 80) C dX6_onOf_80 rfl rfl ?_
        refine fm_guard (fun h9 => ?_)
        refine fm_iald (pc := 81) C (by decide) h9 dX6_onOf_81 ?_
        refine fm_iadd (pc := 82) C dX6_onOf_82 ?_
        refine fm_iload_n (pc := 83) C dX6_onOf_83 rfl rfl ?_
        refine fm_guard (fun h10 => ?_)
        refine fm_irem (pc := 84) C dX6_onOf_84 h10 ?_
        refine fm_bind (fun r85 e85 => ?_)
        refine fm_cVi0 (pc := 85) C (t_X6_plainly e85) ok_X6_plainly ⟨by decide, rfl⟩ m_ml_X6_169 dX6_onOf_85 ⟨Nat.le_of_ble_eq_true rfl, Nat.le_of_ble_eq_true rfl⟩ rfl rfl (Nat.le_of_ble_eq_true rfl) ?_
        refine fm_aload_n (pc := 88) C dX6_onOf_88 rfl rfl ?_
        refine g6_part (pc := 89) C (by decide) dX6_onOf_89 m_fl_X6_32 ?_
        refine fm_iload_n (pc := 92) C dX6_onOf_92 rfl rfl ?_
        refine fm_iald (pc := 93) C (by decide) h9 dX6_onOf_93 ?_
        refine fm_iadd (pc := 94) C dX6_onOf_94 ?_
        refine fm_iload_n (pc := 95) C dX6_onOf_95 rfl rfl ?_
        refine fm_guard (fun h11 => ?_)
        refine fm_irem (pc := 96) C dX6_onOf_96 h11 ?_
        exact fm_zret0 (pc := 97) C hF rfl rfl dX6_onOf_97
      · refine fm_ite (fun s12 => ?_) (fun s12 => ?_)
        · refine fm_tabIn (pc := 21) (tgt := 138) (off := 117) C dX6_onOf_21 (by rw [s12]; decide) (by rw [s12]; decide) (by rw [s12]; decide) (by decide) ?_
          refine fm_iload_n (pc := 138) C dX6_onOf_138 rfl rfl ?_
          exact fm_zret0 (pc := 139) C hF rfl rfl dX6_onOf_139
        · refine fm_ite (fun s13 => ?_) (fun s13 => ?_)
          · refine fm_tabIn (pc := 21) (tgt := 116) (off := 95) C dX6_onOf_21 (by rw [s13]; decide) (by rw [s13]; decide) (by rw [s13]; decide) (by decide) ?_
            refine fm_iload_n (pc := 116) C dX6_onOf_116 rfl rfl ?_
            refine fm_iconst (pc := 117) (v := (nI 1)) C dX6_onOf_117 (by decide) ?_
            refine fm_isub (pc := 118) C dX6_onOf_118 ?_
            refine fm_iload (pc := 119) C dX6_onOf_119 rfl ?_
            refine fm_iconst (pc := 121) (v := (nI 1)) C dX6_onOf_121 (by decide) ?_
            refine fm_ixor (pc := 122) C dX6_onOf_122 ?_
            refine fm_iload_n (pc := 123) C dX6_onOf_123 rfl rfl ?_
            refine fm_icmp_ge (pc := 124) (tgt := 134) C dX6_onOf_124 (by decide) (fun c14 => ?_) (fun c14 => ?_)
            · refine fm_iload (pc := 134) C dX6_onOf_134 rfl ?_
              refine fm_isub (pc := 136) C dX6_onOf_136 ?_
              exact fm_zret0 (pc := 137) C hF rfl rfl dX6_onOf_137
            · refine fm_iload (pc := 127) C dX6_onOf_127 rfl ?_
              refine fm_iconst (pc := 129) (v := (nI 1)) C dX6_onOf_129 (by decide) ?_
              refine fm_ixor (pc := 130) C dX6_onOf_130 ?_
              refine fm_goto (pc := 131) (tgt := 136) C dX6_onOf_131 (by decide) ?_
              refine fm_isub (pc := 136) C dX6_onOf_136 ?_
              exact fm_zret0 (pc := 137) C hF rfl rfl dX6_onOf_137
          · refine fm_ite (fun s15 => ?_) (fun s15 => ?_)
            · refine fm_tabIn (pc := 21) (tgt := 140) (off := 119) C dX6_onOf_21 (by rw [s15]; decide) (by rw [s15]; decide) (by rw [s15]; decide) (by decide) ?_
              refine fm_iload_n (pc := 140) C dX6_onOf_140 rfl rfl ?_
              refine fm_if_ne (pc := 141) (tgt := 150) C dX6_onOf_141 (by decide) (fun c16 => ?_) (fun c16 => ?_)
              · refine fm_iload_n (pc := 144) C dX6_onOf_144 rfl rfl ?_
                refine fm_iconst (pc := 145) (v := (nI 1)) C dX6_onOf_145 (by decide) ?_
                refine fm_isub (pc := 146) C dX6_onOf_146 ?_
                refine fm_goto (pc := 147) (tgt := 162) C dX6_onOf_147 (by decide) ?_
                exact fm_zret0 (pc := 162) C hF rfl rfl dX6_onOf_162
              · refine fm_iload_n (pc := 150) C dX6_onOf_150 rfl rfl ?_
                refine fm_iload_n (pc := 151) C dX6_onOf_151 rfl rfl ?_
                refine fm_iconst (pc := 152) (v := (nI 1)) C dX6_onOf_152 (by decide) ?_
                refine fm_isub (pc := 153) C dX6_onOf_153 ?_
                refine fm_icmp_ne (pc := 154) (tgt := 161) C dX6_onOf_154 (by decide) (fun c17 => ?_) (fun c17 => ?_)
                · refine fm_iconst (pc := 157) (v := (nI 0)) C dX6_onOf_157 (by decide) ?_
                  refine fm_goto (pc := 158) (tgt := 162) C dX6_onOf_158 (by decide) ?_
                  exact fm_zret0 (pc := 162) C hF rfl rfl dX6_onOf_162
                · refine fm_iload_n (pc := 161) C dX6_onOf_161 rfl rfl ?_
                  exact fm_zret0 (pc := 162) C hF rfl rfl dX6_onOf_162
            · refine fm_tabOut (pc := 21) (tgt := 163) C dX6_onOf_21 (by have a0 := fm_ne (nI 1) (k := 1) (by decide) s3; have a1 := fm_ne (nI 2) (k := 2) (by decide) s6; have a2 := fm_ne (nI 3) (k := 3) (by decide) s8; have a3 := fm_ne (nI 4) (k := 4) (by decide) s12; have a4 := fm_ne (nI 5) (k := 5) (by decide) s13; have a5 := fm_ne (nI 6) (k := 6) (by decide) s15; omega) (by decide) ?_
              refine fm_iload (pc := 163) C dX6_onOf_163 rfl ?_
              exact fm_zret0 (pc := 165) C hF rfl rfl dX6_onOf_165
theorem t_X6_onOf {l : Launch} {G : fm_G} {v1 : Int32} {v2 : Int32} {μ : fm_I} {ν : fm_L} {r : Int32} (h : m_X6_onOf v1 v2 μ ν = some r) : fm_Mi l G yX6_onOf cX6_onOf 5 (some .int) 2 34 [.ref (G.2.2.1 58), .int v1, .int v2] μ ν (r, μ, ν) := fm_Mi_of (by decide +kernel) (Nat.le_of_ble_eq_true rfl) (fun _ C => j_X6_onOf C rfl r h)
theorem dX6_themselves_0 : decode cX6_themselves 0 = .ok (.iconst 0, 1) := by decide +kernel
theorem dX6_themselves_1 : decode cX6_themselves 1 = .ok (.istore_n 2, 1) := by decide +kernel
theorem dX6_themselves_2 : decode cX6_themselves 2 = .ok (.iconst 0, 1) := by decide +kernel
theorem dX6_themselves_3 : decode cX6_themselves 3 = .ok (.istore_n 3, 1) := by decide +kernel
theorem dX6_themselves_4 : decode cX6_themselves 4 = .ok (.iload_n 3, 1) := by decide +kernel
theorem dX6_themselves_5 : decode cX6_themselves 5 = .ok (.aload_n 0, 1) := by decide +kernel
theorem dX6_themselves_6 : decode cX6_themselves 6 = .ok (.getfield 26, 3) := by decide +kernel
theorem dX6_themselves_9 : decode cX6_themselves 9 = .ok (.iload_n 1, 1) := by decide +kernel
theorem dX6_themselves_10 : decode cX6_themselves 10 = .ok (.iaload, 1) := by decide +kernel
theorem dX6_themselves_11 : decode cX6_themselves 11 = .ok (.if_icmp .ge 22, 3) := by decide +kernel
theorem dX6_themselves_14 : decode cX6_themselves 14 = .ok (.aload_n 0, 1) := by decide +kernel
theorem dX6_themselves_15 : decode cX6_themselves 15 = .ok (.iload_n 1, 1) := by decide +kernel
theorem dX6_themselves_16 : decode cX6_themselves 16 = .ok (.iload_n 3, 1) := by decide +kernel
theorem dX6_themselves_17 : decode cX6_themselves 17 = .ok (.invokevirtual 99, 3) := by decide +kernel
theorem dX6_themselves_20 : decode cX6_themselves 20 = .ok (.iload_n 3, 1) := by decide +kernel
theorem dX6_themselves_21 : decode cX6_themselves 21 = .ok (.if_icmp .ne 6, 3) := by decide +kernel
theorem dX6_themselves_24 : decode cX6_themselves 24 = .ok (.iinc 2 1, 3) := by decide +kernel
theorem dX6_themselves_27 : decode cX6_themselves 27 = .ok (.iinc 3 1, 3) := by decide +kernel
theorem dX6_themselves_30 : decode cX6_themselves 30 = .ok (.goto (-26), 3) := by decide +kernel
theorem dX6_themselves_33 : decode cX6_themselves 33 = .ok (.iload_n 2, 1) := by decide +kernel
theorem dX6_themselves_34 : decode cX6_themselves 34 = .ok (.ireturn, 1) := by decide +kernel
def m_X6_themselves_4 (v1 : Int32) (μ : fm_I) (ν : fm_L) (K : Int32 → Option (Int32)) : Nat → Int32 → Int32 → Option (Int32)
  | 0, _, _ => none
  | k + 1, v2, v3 => fm_g (fm_in v1 (fm_n 62)) (if (μ 62 v1.toNatClampNeg) ≤ v3 then K v2 else (m_X6_onOf v1 v3 μ ν).bind (fun r17 => if r17 = v3 then m_X6_themselves_4 v1 μ ν K k ((v2 + nI 1)) ((v3 + nI 1)) else m_X6_themselves_4 v1 μ ν K k v2 ((v3 + nI 1))))
def m_X6_themselves (v1 : Int32) (μ : fm_I) (ν : fm_L) : Option (Int32) :=
  m_X6_themselves_4 v1 μ ν (fun x2_4 => some x2_4) 5000 ((nI 0)) ((nI 0))
theorem ok_X6_themselves : fm_okV yX6_themselves cX6_themselves 4 (some .int) 1 := ⟨m_cd_X6_themselves, m_im_X6_themselves, m_se_X6_X6_themselves, m_ini_X6, by decide +kernel, by decide +kernel, by decide +kernel⟩
set_option maxHeartbeats 4000000 in
set_option maxRecDepth 100000 in
theorem j_X6_themselves_4_ {X : fm_X} {G : fm_G} {l : Launch} {v1 : Int32} {μ : fm_I} {ν : fm_L} (C : fm_C X G l cX6_themselves RX6 4 (some .int) 3 58) {F : Int32 → State → Prop} (hF : F = fun r => fm_Qi X G (r, μ, ν))  {K : Int32 → Option (Int32)} (hK : ∀ (v2 : Int32), fm_J X G 4 F (K v2) μ ν 33 [(2, .int v2)] []) : ∀ (k : Nat) (v2 : Int32) (v3 : Int32), fm_J X G 4 F (m_X6_themselves_4 v1 μ ν K k v2 v3) μ ν 4 [(0, .ref (G.2.2.1 58)), (1, .int v1), (2, .int v2), (3, .int v3)] [] := by
  intro k
  induction k with
  | zero =>
    intro v2 v3
    exact fm_none
  | succ k ih =>
    intro v2 v3
    rw [m_X6_themselves_4]
    refine fm_iload_n (pc := 4) C dX6_themselves_4 rfl rfl ?_
    refine fm_aload_n (pc := 5) C dX6_themselves_5 rfl rfl ?_
    refine g6_strips (pc := 6) C (by decide) dX6_themselves_6 m_fl_X6_26 ?_
    refine fm_iload_n (pc := 9) C dX6_themselves_9 rfl rfl ?_
    refine fm_guard (fun h1 => ?_)
    refine fm_iald (pc := 10) C (by decide) h1 dX6_themselves_10 ?_
    refine fm_icmp_ge (pc := 11) (tgt := 33) C dX6_themselves_11 (by decide) (fun c2 => ?_) (fun c2 => ?_)
    · refine fm_less (lv' := [(2, .int v2)]) (by repeat (first | exact trivial | refine ⟨rfl, ?_⟩)) ?_
      exact hK _
    · refine fm_aload_n (pc := 14) C dX6_themselves_14 rfl rfl ?_
      refine fm_iload_n (pc := 15) C dX6_themselves_15 rfl rfl ?_
      refine fm_iload_n (pc := 16) C dX6_themselves_16 rfl rfl ?_
      refine fm_bind (fun r17 e17 => ?_)
      refine fm_cVi0 (pc := 17) C (t_X6_onOf e17) ok_X6_onOf ⟨by decide, rfl⟩ m_ml_X6_99 dX6_themselves_17 ⟨Nat.le_of_ble_eq_true rfl, Nat.le_of_ble_eq_true rfl⟩ rfl rfl (Nat.le_of_ble_eq_true rfl) ?_
      refine fm_iload_n (pc := 20) C dX6_themselves_20 rfl rfl ?_
      refine fm_icmp_ne (pc := 21) (tgt := 27) C dX6_themselves_21 (by decide) (fun c3 => ?_) (fun c3 => ?_)
      · refine fm_iinc (pc := 24) C dX6_themselves_24 rfl (v := (v2 + nI 1)) rfl (by decide) rfl ?_
        refine fm_iinc (pc := 27) C dX6_themselves_27 rfl (v := (v3 + nI 1)) rfl (by decide) rfl ?_
        refine fm_goto (pc := 30) (tgt := 4) C dX6_themselves_30 (by decide) ?_
        refine fm_less (lv' := [(0, .ref (G.2.2.1 58)), (1, .int v1), (2, .int ((v2 + nI 1))), (3, .int ((v3 + nI 1)))]) (by repeat (first | exact trivial | refine ⟨rfl, ?_⟩)) ?_
        exact ih _ _
      · refine fm_iinc (pc := 27) C dX6_themselves_27 rfl (v := (v3 + nI 1)) rfl (by decide) rfl ?_
        refine fm_goto (pc := 30) (tgt := 4) C dX6_themselves_30 (by decide) ?_
        refine fm_less (lv' := [(0, .ref (G.2.2.1 58)), (1, .int v1), (2, .int v2), (3, .int ((v3 + nI 1)))]) (by repeat (first | exact trivial | refine ⟨rfl, ?_⟩)) ?_
        exact ih _ _
set_option maxHeartbeats 4000000 in
set_option maxRecDepth 100000 in
theorem j_X6_themselves {X : fm_X} {G : fm_G} {l : Launch} {v1 : Int32} {μ : fm_I} {ν : fm_L} (C : fm_C X G l cX6_themselves RX6 4 (some .int) 3 58) {F : Int32 → State → Prop} (hF : F = fun r => fm_Qi X G (r, μ, ν)) : fm_J X G 4 F (m_X6_themselves v1 μ ν) μ ν 0 [(0, .ref (G.2.2.1 58)), (1, .int v1)] [] := by
  unfold m_X6_themselves
  refine fm_iconst (pc := 0) (v := (nI 0)) C dX6_themselves_0 (by decide) ?_
  refine fm_istore_n (pc := 1) C dX6_themselves_1 rfl (by decide) rfl ?_
  refine fm_iconst (pc := 2) (v := (nI 0)) C dX6_themselves_2 (by decide) ?_
  refine fm_istore_n (pc := 3) C dX6_themselves_3 rfl (by decide) rfl ?_
  refine fm_less (lv' := [(0, .ref (G.2.2.1 58)), (1, .int v1), (2, .int ((nI 0))), (3, .int ((nI 0)))]) (by repeat (first | exact trivial | refine ⟨rfl, ?_⟩)) ?_
  refine j_X6_themselves_4_ C (v1 := v1) hF  (fun x2_4 => ?_) _ _ _
  refine fm_iload_n (pc := 33) C dX6_themselves_33 rfl rfl ?_
  exact fm_zret0 (pc := 34) C hF rfl rfl dX6_themselves_34
theorem t_X6_themselves {l : Launch} {G : fm_G} {v1 : Int32} {μ : fm_I} {ν : fm_L} {r : Int32} (h : m_X6_themselves v1 μ ν = some r) : fm_Mi l G yX6_themselves cX6_themselves 4 (some .int) 3 58 [.ref (G.2.2.1 58), .int v1] μ ν (r, μ, ν) := fm_Mi_of (by decide +kernel) (Nat.le_of_ble_eq_true rfl) (fun _ C => j_X6_themselves C rfl r h)
theorem dX6_says_0 : decode cX6_says 0 = .ok (.aload_n 0, 1) := by decide +kernel
theorem dX6_says_1 : decode cX6_says 1 = .ok (.iload_n 1, 1) := by decide +kernel
theorem dX6_says_2 : decode cX6_says 2 = .ok (.invokevirtual 92, 3) := by decide +kernel
theorem dX6_says_5 : decode cX6_says 5 = .ok (.ifCond .eq 13, 3) := by decide +kernel
theorem dX6_says_8 : decode cX6_says 8 = .ok (.iload_n 2, 1) := by decide +kernel
theorem dX6_says_9 : decode cX6_says 9 = .ok (.ifCond .lt 9, 3) := by decide +kernel
theorem dX6_says_12 : decode cX6_says 12 = .ok (.iload_n 2, 1) := by decide +kernel
theorem dX6_says_13 : decode cX6_says 13 = .ok (.bipush 6, 2) := by decide +kernel
theorem dX6_says_15 : decode cX6_says 15 = .ok (.if_icmp .le 9, 3) := by decide +kernel
theorem dX6_says_18 : decode cX6_says 18 = .ok (.aload_n 0, 1) := by decide +kernel
theorem dX6_says_19 : decode cX6_says 19 = .ok (.iconst (-1), 1) := by decide +kernel
theorem dX6_says_20 : decode cX6_says 20 = .ok (.invokevirtual 95, 3) := by decide +kernel
theorem dX6_says_23 : decode cX6_says 23 = .ok (.ireturn, 1) := by decide +kernel
theorem dX6_says_24 : decode cX6_says 24 = .ok (.aload_n 0, 1) := by decide +kernel
theorem dX6_says_25 : decode cX6_says 25 = .ok (.getfield 38, 3) := by decide +kernel
theorem dX6_says_28 : decode cX6_says 28 = .ok (.iload_n 1, 1) := by decide +kernel
theorem dX6_says_29 : decode cX6_says 29 = .ok (.iaload, 1) := by decide +kernel
theorem dX6_says_30 : decode cX6_says 30 = .ok (.iconst 1, 1) := by decide +kernel
theorem dX6_says_31 : decode cX6_says 31 = .ok (.if_icmp .ne 10, 3) := by decide +kernel
theorem dX6_says_34 : decode cX6_says 34 = .ok (.aload_n 0, 1) := by decide +kernel
theorem dX6_says_35 : decode cX6_says 35 = .ok (.bipush (-2), 2) := by decide +kernel
theorem dX6_says_37 : decode cX6_says 37 = .ok (.invokevirtual 95, 3) := by decide +kernel
theorem dX6_says_40 : decode cX6_says 40 = .ok (.ireturn, 1) := by decide +kernel
theorem dX6_says_41 : decode cX6_says 41 = .ok (.aload_n 0, 1) := by decide +kernel
theorem dX6_says_42 : decode cX6_says 42 = .ok (.getfield 38, 3) := by decide +kernel
theorem dX6_says_45 : decode cX6_says 45 = .ok (.iload_n 1, 1) := by decide +kernel
theorem dX6_says_46 : decode cX6_says 46 = .ok (.iaload, 1) := by decide +kernel
theorem dX6_says_47 : decode cX6_says 47 = .ok (.ifCond .ne 10, 3) := by decide +kernel
theorem dX6_says_50 : decode cX6_says 50 = .ok (.aload_n 0, 1) := by decide +kernel
theorem dX6_says_51 : decode cX6_says 51 = .ok (.bipush (-3), 2) := by decide +kernel
theorem dX6_says_53 : decode cX6_says 53 = .ok (.invokevirtual 95, 3) := by decide +kernel
theorem dX6_says_56 : decode cX6_says 56 = .ok (.ireturn, 1) := by decide +kernel
theorem dX6_says_57 : decode cX6_says 57 = .ok (.aload_n 0, 1) := by decide +kernel
theorem dX6_says_58 : decode cX6_says 58 = .ok (.getfield 47, 3) := by decide +kernel
theorem dX6_says_61 : decode cX6_says 61 = .ok (.iload_n 1, 1) := by decide +kernel
theorem dX6_says_62 : decode cX6_says 62 = .ok (.iaload, 1) := by decide +kernel
theorem dX6_says_63 : decode cX6_says 63 = .ok (.istore_n 3, 1) := by decide +kernel
theorem dX6_says_64 : decode cX6_says 64 = .ok (.aload_n 0, 1) := by decide +kernel
theorem dX6_says_65 : decode cX6_says 65 = .ok (.getfield 20, 3) := by decide +kernel
theorem dX6_says_68 : decode cX6_says 68 = .ok (.iload_n 3, 1) := by decide +kernel
theorem dX6_says_69 : decode cX6_says 69 = .ok (.iaload, 1) := by decide +kernel
theorem dX6_says_70 : decode cX6_says 70 = .ok (.istore 4, 2) := by decide +kernel
theorem dX6_says_72 : decode cX6_says 72 = .ok (.iload_n 2, 1) := by decide +kernel
theorem dX6_says_73 : decode cX6_says 73 = .ok (.iconst 1, 1) := by decide +kernel
theorem dX6_says_74 : decode cX6_says 74 = .ok (.if_icmp .ne 9, 3) := by decide +kernel
theorem dX6_says_77 : decode cX6_says 77 = .ok (.iload 4, 2) := by decide +kernel
theorem dX6_says_79 : decode cX6_says 79 = .ok (.iconst 3, 1) := by decide +kernel
theorem dX6_says_80 : decode cX6_says 80 = .ok (.if_icmp .eq 26, 3) := by decide +kernel
theorem dX6_says_83 : decode cX6_says 83 = .ok (.iload_n 2, 1) := by decide +kernel
theorem dX6_says_84 : decode cX6_says 84 = .ok (.iconst 2, 1) := by decide +kernel
theorem dX6_says_85 : decode cX6_says 85 = .ok (.if_icmp .ne 9, 3) := by decide +kernel
theorem dX6_says_88 : decode cX6_says 88 = .ok (.iload 4, 2) := by decide +kernel
theorem dX6_says_90 : decode cX6_says 90 = .ok (.iconst 5, 1) := by decide +kernel
theorem dX6_says_91 : decode cX6_says 91 = .ok (.if_icmp .eq 15, 3) := by decide +kernel
theorem dX6_says_94 : decode cX6_says 94 = .ok (.iload_n 2, 1) := by decide +kernel
theorem dX6_says_95 : decode cX6_says 95 = .ok (.iconst 4, 1) := by decide +kernel
theorem dX6_says_96 : decode cX6_says 96 = .ok (.if_icmp .ne 14, 3) := by decide +kernel
theorem dX6_says_99 : decode cX6_says 99 = .ok (.iload 4, 2) := by decide +kernel
theorem dX6_says_101 : decode cX6_says 101 = .ok (.bipush 6, 2) := by decide +kernel
theorem dX6_says_103 : decode cX6_says 103 = .ok (.if_icmp .ne 7, 3) := by decide +kernel
theorem dX6_says_106 : decode cX6_says 106 = .ok (.iconst 1, 1) := by decide +kernel
theorem dX6_says_107 : decode cX6_says 107 = .ok (.goto 4, 3) := by decide +kernel
theorem dX6_says_110 : decode cX6_says 110 = .ok (.iconst 0, 1) := by decide +kernel
theorem dX6_says_111 : decode cX6_says 111 = .ok (.istore 5, 2) := by decide +kernel
theorem dX6_says_113 : decode cX6_says 113 = .ok (.iload_n 2, 1) := by decide +kernel
theorem dX6_says_114 : decode cX6_says 114 = .ok (.ifCond .eq 21, 3) := by decide +kernel
theorem dX6_says_117 : decode cX6_says 117 = .ok (.iload_n 2, 1) := by decide +kernel
theorem dX6_says_118 : decode cX6_says 118 = .ok (.iload 4, 2) := by decide +kernel
theorem dX6_says_120 : decode cX6_says 120 = .ok (.if_icmp .eq 15, 3) := by decide +kernel
theorem dX6_says_123 : decode cX6_says 123 = .ok (.iload 5, 2) := by decide +kernel
theorem dX6_says_125 : decode cX6_says 125 = .ok (.ifCond .ne 10, 3) := by decide +kernel
theorem dX6_says_128 : decode cX6_says 128 = .ok (.aload_n 0, 1) := by decide +kernel
theorem dX6_says_129 : decode cX6_says 129 = .ok (.bipush (-2), 2) := by decide +kernel
theorem dX6_says_131 : decode cX6_says 131 = .ok (.invokevirtual 95, 3) := by decide +kernel
theorem dX6_says_134 : decode cX6_says 134 = .ok (.ireturn, 1) := by decide +kernel
theorem dX6_says_135 : decode cX6_says 135 = .ok (.iload_n 2, 1) := by decide +kernel
theorem dX6_says_136 : decode cX6_says 136 = .ok (.tableswitch 95 0 6 #[44, 51, 58, 74, 95, 95, 88], 44) := by decide +kernel
theorem dX6_says_180 : decode cX6_says 180 = .ok (.aload_n 0, 1) := by decide +kernel
theorem dX6_says_181 : decode cX6_says 181 = .ok (.getfield 23, 3) := by decide +kernel
theorem dX6_says_184 : decode cX6_says 184 = .ok (.iload_n 3, 1) := by decide +kernel
theorem dX6_says_185 : decode cX6_says 185 = .ok (.iaload, 1) := by decide +kernel
theorem dX6_says_186 : decode cX6_says 186 = .ok (.ireturn, 1) := by decide +kernel
theorem dX6_says_187 : decode cX6_says 187 = .ok (.aload_n 0, 1) := by decide +kernel
theorem dX6_says_188 : decode cX6_says 188 = .ok (.iload_n 3, 1) := by decide +kernel
theorem dX6_says_189 : decode cX6_says 189 = .ok (.iconst 0, 1) := by decide +kernel
theorem dX6_says_190 : decode cX6_says 190 = .ok (.invokevirtual 99, 3) := by decide +kernel
theorem dX6_says_193 : decode cX6_says 193 = .ok (.ireturn, 1) := by decide +kernel
theorem dX6_says_194 : decode cX6_says 194 = .ok (.aload_n 0, 1) := by decide +kernel
theorem dX6_says_195 : decode cX6_says 195 = .ok (.getfield 26, 3) := by decide +kernel
theorem dX6_says_198 : decode cX6_says 198 = .ok (.iload_n 3, 1) := by decide +kernel
theorem dX6_says_199 : decode cX6_says 199 = .ok (.iaload, 1) := by decide +kernel
theorem dX6_says_200 : decode cX6_says 200 = .ok (.aload_n 0, 1) := by decide +kernel
theorem dX6_says_201 : decode cX6_says 201 = .ok (.getfield 26, 3) := by decide +kernel
theorem dX6_says_204 : decode cX6_says 204 = .ok (.iload_n 3, 1) := by decide +kernel
theorem dX6_says_205 : decode cX6_says 205 = .ok (.iaload, 1) := by decide +kernel
theorem dX6_says_206 : decode cX6_says 206 = .ok (.iconst 2, 1) := by decide +kernel
theorem dX6_says_207 : decode cX6_says 207 = .ok (.irem, 1) := by decide +kernel
theorem dX6_says_208 : decode cX6_says 208 = .ok (.isub, 1) := by decide +kernel
theorem dX6_says_209 : decode cX6_says 209 = .ok (.ireturn, 1) := by decide +kernel
theorem dX6_says_210 : decode cX6_says 210 = .ok (.aload_n 0, 1) := by decide +kernel
theorem dX6_says_211 : decode cX6_says 211 = .ok (.iload_n 3, 1) := by decide +kernel
theorem dX6_says_212 : decode cX6_says 212 = .ok (.aload_n 0, 1) := by decide +kernel
theorem dX6_says_213 : decode cX6_says 213 = .ok (.getfield 26, 3) := by decide +kernel
theorem dX6_says_216 : decode cX6_says 216 = .ok (.iload_n 3, 1) := by decide +kernel
theorem dX6_says_217 : decode cX6_says 217 = .ok (.iaload, 1) := by decide +kernel
theorem dX6_says_218 : decode cX6_says 218 = .ok (.iconst 1, 1) := by decide +kernel
theorem dX6_says_219 : decode cX6_says 219 = .ok (.isub, 1) := by decide +kernel
theorem dX6_says_220 : decode cX6_says 220 = .ok (.invokevirtual 99, 3) := by decide +kernel
theorem dX6_says_223 : decode cX6_says 223 = .ok (.ireturn, 1) := by decide +kernel
theorem dX6_says_224 : decode cX6_says 224 = .ok (.aload_n 0, 1) := by decide +kernel
theorem dX6_says_225 : decode cX6_says 225 = .ok (.getfield 32, 3) := by decide +kernel
theorem dX6_says_228 : decode cX6_says 228 = .ok (.iload_n 3, 1) := by decide +kernel
theorem dX6_says_229 : decode cX6_says 229 = .ok (.iaload, 1) := by decide +kernel
theorem dX6_says_230 : decode cX6_says 230 = .ok (.ireturn, 1) := by decide +kernel
theorem dX6_says_231 : decode cX6_says 231 = .ok (.aload_n 0, 1) := by decide +kernel
theorem dX6_says_232 : decode cX6_says 232 = .ok (.iload_n 3, 1) := by decide +kernel
theorem dX6_says_233 : decode cX6_says 233 = .ok (.invokevirtual 103, 3) := by decide +kernel
theorem dX6_says_236 : decode cX6_says 236 = .ok (.ireturn, 1) := by decide +kernel
def m_X6_says_18  (μ : fm_I) (ν : fm_L) : Option (Int32 × fm_I × fm_L) :=
  (m_X6_no ((-1 : Int32)) μ ν).bind (fun r20 => some ((r20.1, r20.2.1, r20.2.2)))
def m_X6_says_135 (v2 : Int32) (v3 : Int32) (μ : fm_I) (ν : fm_L) : Option (Int32 × fm_I × fm_L) :=
  if v2 = (nI 0) then fm_g (fm_in v3 (fm_n 61)) (some (((μ 61 v3.toNatClampNeg), μ, ν))) else if v2 = (nI 1) then (m_X6_onOf v3 ((nI 0)) μ ν).bind (fun r190 => some ((r190, μ, ν))) else if v2 = (nI 2) then fm_g (fm_in v3 (fm_n 62)) (some (((((μ 62 v3.toNatClampNeg)) - ((((μ 62 v3.toNatClampNeg)) - ((μ 62 v3.toNatClampNeg)) / ((nI 2)) * ((nI 2))))), μ, ν))) else if v2 = (nI 3) then fm_g (fm_in v3 (fm_n 62)) ((m_X6_onOf v3 ((((μ 62 v3.toNatClampNeg)) - ((nI 1)))) μ ν).bind (fun r220 => some ((r220, μ, ν)))) else if v2 = (nI 4) then (m_X6_themselves v3 μ ν).bind (fun r233 => some ((r233, μ, ν))) else if v2 = (nI 5) then (m_X6_themselves v3 μ ν).bind (fun r233 => some ((r233, μ, ν))) else if v2 = (nI 6) then fm_g (fm_in v3 (fm_n 64)) (some (((μ 64 v3.toNatClampNeg), μ, ν))) else (m_X6_themselves v3 μ ν).bind (fun r233 => some ((r233, μ, ν)))
def m_X6_says_111 (v2 : Int32) (v3 : Int32) (v4 : Int32) (s0 : Int32) (μ : fm_I) (ν : fm_L) : Option (Int32 × fm_I × fm_L) :=
  if v2 = 0 then m_X6_says_135 v2 v3 μ ν else if v2 = v4 then m_X6_says_135 v2 v3 μ ν else if s0 = 0 then (m_X6_no ((-2 : Int32)) μ ν).bind (fun r131 => some ((r131.1, r131.2.1, r131.2.2))) else m_X6_says_135 v2 v3 μ ν
def m_X6_says_106 (v2 : Int32) (v3 : Int32) (v4 : Int32) (μ : fm_I) (ν : fm_L) : Option (Int32 × fm_I × fm_L) :=
  m_X6_says_111 v2 v3 v4 ((nI 1)) μ ν
def m_X6_says_110 (v2 : Int32) (v3 : Int32) (v4 : Int32) (μ : fm_I) (ν : fm_L) : Option (Int32 × fm_I × fm_L) :=
  m_X6_says_111 v2 v3 v4 ((nI 0)) μ ν
def m_X6_says_94 (v2 : Int32) (v3 : Int32) (v4 : Int32) (μ : fm_I) (ν : fm_L) : Option (Int32 × fm_I × fm_L) :=
  if v2 = (nI 4) then if v4 = (nI 6) then m_X6_says_106 v2 v3 v4 μ ν else m_X6_says_110 v2 v3 v4 μ ν else m_X6_says_110 v2 v3 v4 μ ν
def m_X6_says_83 (v2 : Int32) (v3 : Int32) (v4 : Int32) (μ : fm_I) (ν : fm_L) : Option (Int32 × fm_I × fm_L) :=
  if v2 = (nI 2) then if v4 = (nI 5) then m_X6_says_106 v2 v3 v4 μ ν else m_X6_says_94 v2 v3 v4 μ ν else m_X6_says_94 v2 v3 v4 μ ν
def m_X6_says (v1 : Int32) (v2 : Int32) (μ : fm_I) (ν : fm_L) : Option (Int32 × fm_I × fm_L) :=
  (m_X6_isShelf v1 μ ν).bind (fun r2 => if r2 = 0 then m_X6_says_18  μ ν else if v2 < 0 then m_X6_says_18  μ ν else if v2 ≤ (nI 6) then fm_g (fm_in v1 (fm_n 66)) (if (μ 66 v1.toNatClampNeg) = (nI 1) then (m_X6_no ((-2 : Int32)) μ ν).bind (fun r37 => some ((r37.1, r37.2.1, r37.2.2))) else if (μ 66 v1.toNatClampNeg) = 0 then (m_X6_no ((-3 : Int32)) μ ν).bind (fun r53 => some ((r53.1, r53.2.1, r53.2.2))) else fm_g (fm_in v1 (fm_n 69)) (fm_g (fm_in ((μ 69 v1.toNatClampNeg)) (fm_n 60)) (if v2 = (nI 1) then if (μ 60 ((μ 69 v1.toNatClampNeg)).toNatClampNeg) = (nI 3) then m_X6_says_106 v2 ((μ 69 v1.toNatClampNeg)) ((μ 60 ((μ 69 v1.toNatClampNeg)).toNatClampNeg)) μ ν else m_X6_says_83 v2 ((μ 69 v1.toNatClampNeg)) ((μ 60 ((μ 69 v1.toNatClampNeg)).toNatClampNeg)) μ ν else m_X6_says_83 v2 ((μ 69 v1.toNatClampNeg)) ((μ 60 ((μ 69 v1.toNatClampNeg)).toNatClampNeg)) μ ν))) else m_X6_says_18  μ ν)
theorem ok_X6_says : fm_okV yX6_says cX6_says 6 (some .int) 2 := ⟨m_cd_X6_says, m_im_X6_says, m_se_X6_X6_says, m_ini_X6, by decide +kernel, by decide +kernel, by decide +kernel⟩
set_option maxHeartbeats 4000000 in
set_option maxRecDepth 100000 in
theorem j_X6_says_18_ {X : fm_X} {G : fm_G} {l : Launch}  {μ : fm_I} {ν : fm_L} (C : fm_C X G l cX6_says RX6 6 (some .int) 4 81) {F : (Int32 × fm_I × fm_L) → State → Prop} (hF : F = fm_Qi X G)  : fm_J X G 6 F (m_X6_says_18  μ ν) μ ν 18 [(0, .ref (G.2.2.1 58))] [] := by
  unfold m_X6_says_18
  refine fm_aload_n (pc := 18) C dX6_says_18 rfl rfl ?_
  refine fm_iconst (pc := 19) (v := (-1 : Int32)) C dX6_says_19 (by decide) ?_
  refine fm_bind (fun r20 e20 => ?_)
  refine fm_cVi (pc := 20) C (t_X6_no e20) ok_X6_no ⟨by decide, rfl⟩ m_ml_X6_95 dX6_says_20 ⟨Nat.le_of_ble_eq_true rfl, Nat.le_of_ble_eq_true rfl⟩ rfl rfl (Nat.le_of_ble_eq_true rfl) ?_
  exact fm_zret (pc := 23) C hF rfl rfl dX6_says_23
set_option maxHeartbeats 4000000 in
set_option maxRecDepth 100000 in
theorem j_X6_says_135_ {X : fm_X} {G : fm_G} {l : Launch} {v2 : Int32} {v3 : Int32} {μ : fm_I} {ν : fm_L} (C : fm_C X G l cX6_says RX6 6 (some .int) 4 81) {F : (Int32 × fm_I × fm_L) → State → Prop} (hF : F = fm_Qi X G)  : fm_J X G 6 F (m_X6_says_135 v2 v3 μ ν) μ ν 135 [(0, .ref (G.2.2.1 58)), (2, .int v2), (3, .int v3)] [] := by
  unfold m_X6_says_135
  refine fm_iload_n (pc := 135) C dX6_says_135 rfl rfl ?_
  refine fm_ite (fun s12 => ?_) (fun s12 => ?_)
  · refine fm_tabIn (pc := 136) (tgt := 180) (off := 44) C dX6_says_136 (by rw [s12]; decide) (by rw [s12]; decide) (by rw [s12]; decide) (by decide) ?_
    refine fm_aload_n (pc := 180) C dX6_says_180 rfl rfl ?_
    refine g6_twists (pc := 181) C (by decide) dX6_says_181 m_fl_X6_23 ?_
    refine fm_iload_n (pc := 184) C dX6_says_184 rfl rfl ?_
    refine fm_guard (fun h13 => ?_)
    refine fm_iald (pc := 185) C (by decide) h13 dX6_says_185 ?_
    exact fm_zret (pc := 186) C hF rfl rfl dX6_says_186
  · refine fm_ite (fun s14 => ?_) (fun s14 => ?_)
    · refine fm_tabIn (pc := 136) (tgt := 187) (off := 51) C dX6_says_136 (by rw [s14]; decide) (by rw [s14]; decide) (by rw [s14]; decide) (by decide) ?_
      refine fm_aload_n (pc := 187) C dX6_says_187 rfl rfl ?_
      refine fm_iload_n (pc := 188) C dX6_says_188 rfl rfl ?_
      refine fm_iconst (pc := 189) (v := (nI 0)) C dX6_says_189 (by decide) ?_
      refine fm_bind (fun r190 e190 => ?_)
      refine fm_cVi0 (pc := 190) C (t_X6_onOf e190) ok_X6_onOf ⟨by decide, rfl⟩ m_ml_X6_99 dX6_says_190 ⟨Nat.le_of_ble_eq_true rfl, Nat.le_of_ble_eq_true rfl⟩ rfl rfl (Nat.le_of_ble_eq_true rfl) ?_
      exact fm_zret (pc := 193) C hF rfl rfl dX6_says_193
    · refine fm_ite (fun s15 => ?_) (fun s15 => ?_)
      · refine fm_tabIn (pc := 136) (tgt := 194) (off := 58) C dX6_says_136 (by rw [s15]; decide) (by rw [s15]; decide) (by rw [s15]; decide) (by decide) ?_
        refine fm_aload_n (pc := 194) C dX6_says_194 rfl rfl ?_
        refine g6_strips (pc := 195) C (by decide) dX6_says_195 m_fl_X6_26 ?_
        refine fm_iload_n (pc := 198) C dX6_says_198 rfl rfl ?_
        refine fm_guard (fun h16 => ?_)
        refine fm_iald (pc := 199) C (by decide) h16 dX6_says_199 ?_
        refine fm_aload_n (pc := 200) C dX6_says_200 rfl rfl ?_
        refine g6_strips (pc := 201) C (by decide) dX6_says_201 m_fl_X6_26 ?_
        refine fm_iload_n (pc := 204) C dX6_says_204 rfl rfl ?_
        refine fm_iald (pc := 205) C (by decide) h16 dX6_says_205 ?_
        refine fm_iconst (pc := 206) (v := (nI 2)) C dX6_says_206 (by decide) ?_
        refine fm_irem (pc := 207) C dX6_says_207 (by decide) ?_
        refine fm_isub (pc := 208) C dX6_says_208 ?_
        exact fm_zret (pc := 209) C hF rfl rfl dX6_says_209
      · refine fm_ite (fun s17 => ?_) (fun s17 => ?_)
        · refine fm_tabIn (pc := 136) (tgt := 210) (off := 74) C dX6_says_136 (by rw [s17]; decide) (by rw [s17]; decide) (by rw [s17]; decide) (by decide) ?_
          refine fm_aload_n (pc := 210) C dX6_says_210 rfl rfl ?_
          refine fm_iload_n (pc := 211) C dX6_says_211 rfl rfl ?_
          refine fm_aload_n (pc := 212) C dX6_says_212 rfl rfl ?_
          refine g6_strips (pc := 213) C (by decide) dX6_says_213 m_fl_X6_26 ?_
          refine fm_iload_n (pc := 216) C dX6_says_216 rfl rfl ?_
          refine fm_guard (fun h18 => ?_)
          refine fm_iald (pc := 217) C (by decide) h18 dX6_says_217 ?_
          refine fm_iconst (pc := 218) (v := (nI 1)) C dX6_says_218 (by decide) ?_
          refine fm_isub (pc := 219) C dX6_says_219 ?_
          refine fm_bind (fun r220 e220 => ?_)
          refine fm_cVi0 (pc := 220) C (t_X6_onOf e220) ok_X6_onOf ⟨by decide, rfl⟩ m_ml_X6_99 dX6_says_220 ⟨Nat.le_of_ble_eq_true rfl, Nat.le_of_ble_eq_true rfl⟩ rfl rfl (Nat.le_of_ble_eq_true rfl) ?_
          exact fm_zret (pc := 223) C hF rfl rfl dX6_says_223
        · refine fm_ite (fun s19 => ?_) (fun s19 => ?_)
          · refine fm_tabIn (pc := 136) (tgt := 231) (off := 95) C dX6_says_136 (by rw [s19]; decide) (by rw [s19]; decide) (by rw [s19]; decide) (by decide) ?_
            refine fm_aload_n (pc := 231) C dX6_says_231 rfl rfl ?_
            refine fm_iload_n (pc := 232) C dX6_says_232 rfl rfl ?_
            refine fm_bind (fun r233 e233 => ?_)
            refine fm_cVi0 (pc := 233) C (t_X6_themselves e233) ok_X6_themselves ⟨by decide, rfl⟩ m_ml_X6_103 dX6_says_233 ⟨Nat.le_of_ble_eq_true rfl, Nat.le_of_ble_eq_true rfl⟩ rfl rfl (Nat.le_of_ble_eq_true rfl) ?_
            exact fm_zret (pc := 236) C hF rfl rfl dX6_says_236
          · refine fm_ite (fun s20 => ?_) (fun s20 => ?_)
            · refine fm_tabIn (pc := 136) (tgt := 231) (off := 95) C dX6_says_136 (by rw [s20]; decide) (by rw [s20]; decide) (by rw [s20]; decide) (by decide) ?_
              refine fm_aload_n (pc := 231) C dX6_says_231 rfl rfl ?_
              refine fm_iload_n (pc := 232) C dX6_says_232 rfl rfl ?_
              refine fm_bind (fun r233 e233 => ?_)
              refine fm_cVi0 (pc := 233) C (t_X6_themselves e233) ok_X6_themselves ⟨by decide, rfl⟩ m_ml_X6_103 dX6_says_233 ⟨Nat.le_of_ble_eq_true rfl, Nat.le_of_ble_eq_true rfl⟩ rfl rfl (Nat.le_of_ble_eq_true rfl) ?_
              exact fm_zret (pc := 236) C hF rfl rfl dX6_says_236
            · refine fm_ite (fun s21 => ?_) (fun s21 => ?_)
              · refine fm_tabIn (pc := 136) (tgt := 224) (off := 88) C dX6_says_136 (by rw [s21]; decide) (by rw [s21]; decide) (by rw [s21]; decide) (by decide) ?_
                refine fm_aload_n (pc := 224) C dX6_says_224 rfl rfl ?_
                refine g6_part (pc := 225) C (by decide) dX6_says_225 m_fl_X6_32 ?_
                refine fm_iload_n (pc := 228) C dX6_says_228 rfl rfl ?_
                refine fm_guard (fun h22 => ?_)
                refine fm_iald (pc := 229) C (by decide) h22 dX6_says_229 ?_
                exact fm_zret (pc := 230) C hF rfl rfl dX6_says_230
              · refine fm_tabOut (pc := 136) (tgt := 231) C dX6_says_136 (by have a0 := fm_ne (nI 0) (k := 0) (by decide) s12; have a1 := fm_ne (nI 1) (k := 1) (by decide) s14; have a2 := fm_ne (nI 2) (k := 2) (by decide) s15; have a3 := fm_ne (nI 3) (k := 3) (by decide) s17; have a4 := fm_ne (nI 4) (k := 4) (by decide) s19; have a5 := fm_ne (nI 5) (k := 5) (by decide) s20; have a6 := fm_ne (nI 6) (k := 6) (by decide) s21; omega) (by decide) ?_
                refine fm_aload_n (pc := 231) C dX6_says_231 rfl rfl ?_
                refine fm_iload_n (pc := 232) C dX6_says_232 rfl rfl ?_
                refine fm_bind (fun r233 e233 => ?_)
                refine fm_cVi0 (pc := 233) C (t_X6_themselves e233) ok_X6_themselves ⟨by decide, rfl⟩ m_ml_X6_103 dX6_says_233 ⟨Nat.le_of_ble_eq_true rfl, Nat.le_of_ble_eq_true rfl⟩ rfl rfl (Nat.le_of_ble_eq_true rfl) ?_
                exact fm_zret (pc := 236) C hF rfl rfl dX6_says_236
set_option maxHeartbeats 4000000 in
set_option maxRecDepth 100000 in
theorem j_X6_says_111_ {X : fm_X} {G : fm_G} {l : Launch} {v2 : Int32} {v3 : Int32} {v4 : Int32} {s0 : Int32} {μ : fm_I} {ν : fm_L} (C : fm_C X G l cX6_says RX6 6 (some .int) 4 81) {F : (Int32 × fm_I × fm_L) → State → Prop} (hF : F = fm_Qi X G)  : fm_J X G 6 F (m_X6_says_111 v2 v3 v4 s0 μ ν) μ ν 111 [(0, .ref (G.2.2.1 58)), (2, .int v2), (3, .int v3), (4, .int v4)] [.int s0] := by
  unfold m_X6_says_111
  refine fm_istore (pc := 111) C dX6_says_111 (by decide) rfl ?_
  refine fm_iload_n (pc := 113) C dX6_says_113 rfl rfl ?_
  refine fm_if_eq (pc := 114) (tgt := 135) C dX6_says_114 (by decide) (fun c11 => ?_) (fun c11 => ?_)
  · refine fm_less (lv' := [(0, .ref (G.2.2.1 58)), (2, .int v2), (3, .int v3)]) (by repeat (first | exact trivial | refine ⟨rfl, ?_⟩)) ?_
    exact j_X6_says_135_ C hF 
  · refine fm_iload_n (pc := 117) C dX6_says_117 rfl rfl ?_
    refine fm_iload (pc := 118) C dX6_says_118 rfl ?_
    refine fm_icmp_eq (pc := 120) (tgt := 135) C dX6_says_120 (by decide) (fun c23 => ?_) (fun c23 => ?_)
    · refine fm_less (lv' := [(0, .ref (G.2.2.1 58)), (2, .int v2), (3, .int v3)]) (by repeat (first | exact trivial | refine ⟨rfl, ?_⟩)) ?_
      exact j_X6_says_135_ C hF 
    · refine fm_iload (pc := 123) C dX6_says_123 rfl ?_
      refine fm_if_ne (pc := 125) (tgt := 135) C dX6_says_125 (by decide) (fun c24 => ?_) (fun c24 => ?_)
      · refine fm_aload_n (pc := 128) C dX6_says_128 rfl rfl ?_
        refine fm_bipush (pc := 129) (v := (-2 : Int32)) C dX6_says_129 (by decide) ?_
        refine fm_bind (fun r131 e131 => ?_)
        refine fm_cVi (pc := 131) C (t_X6_no e131) ok_X6_no ⟨by decide, rfl⟩ m_ml_X6_95 dX6_says_131 ⟨Nat.le_of_ble_eq_true rfl, Nat.le_of_ble_eq_true rfl⟩ rfl rfl (Nat.le_of_ble_eq_true rfl) ?_
        exact fm_zret (pc := 134) C hF rfl rfl dX6_says_134
      · refine fm_less (lv' := [(0, .ref (G.2.2.1 58)), (2, .int v2), (3, .int v3)]) (by repeat (first | exact trivial | refine ⟨rfl, ?_⟩)) ?_
        exact j_X6_says_135_ C hF 
set_option maxHeartbeats 4000000 in
set_option maxRecDepth 100000 in
theorem j_X6_says_106_ {X : fm_X} {G : fm_G} {l : Launch} {v2 : Int32} {v3 : Int32} {v4 : Int32} {μ : fm_I} {ν : fm_L} (C : fm_C X G l cX6_says RX6 6 (some .int) 4 81) {F : (Int32 × fm_I × fm_L) → State → Prop} (hF : F = fm_Qi X G)  : fm_J X G 6 F (m_X6_says_106 v2 v3 v4 μ ν) μ ν 106 [(0, .ref (G.2.2.1 58)), (2, .int v2), (3, .int v3), (4, .int v4)] [] := by
  unfold m_X6_says_106
  refine fm_iconst (pc := 106) (v := (nI 1)) C dX6_says_106 (by decide) ?_
  refine fm_goto (pc := 107) (tgt := 111) C dX6_says_107 (by decide) ?_
  refine fm_less (lv' := [(0, .ref (G.2.2.1 58)), (2, .int v2), (3, .int v3), (4, .int v4)]) (by repeat (first | exact trivial | refine ⟨rfl, ?_⟩)) ?_
  exact j_X6_says_111_ C hF 
set_option maxHeartbeats 4000000 in
set_option maxRecDepth 100000 in
theorem j_X6_says_110_ {X : fm_X} {G : fm_G} {l : Launch} {v2 : Int32} {v3 : Int32} {v4 : Int32} {μ : fm_I} {ν : fm_L} (C : fm_C X G l cX6_says RX6 6 (some .int) 4 81) {F : (Int32 × fm_I × fm_L) → State → Prop} (hF : F = fm_Qi X G)  : fm_J X G 6 F (m_X6_says_110 v2 v3 v4 μ ν) μ ν 110 [(0, .ref (G.2.2.1 58)), (2, .int v2), (3, .int v3), (4, .int v4)] [] := by
  unfold m_X6_says_110
  refine fm_iconst (pc := 110) (v := (nI 0)) C dX6_says_110 (by decide) ?_
  refine fm_less (lv' := [(0, .ref (G.2.2.1 58)), (2, .int v2), (3, .int v3), (4, .int v4)]) (by repeat (first | exact trivial | refine ⟨rfl, ?_⟩)) ?_
  exact j_X6_says_111_ C hF 
set_option maxHeartbeats 4000000 in
set_option maxRecDepth 100000 in
theorem j_X6_says_94_ {X : fm_X} {G : fm_G} {l : Launch} {v2 : Int32} {v3 : Int32} {v4 : Int32} {μ : fm_I} {ν : fm_L} (C : fm_C X G l cX6_says RX6 6 (some .int) 4 81) {F : (Int32 × fm_I × fm_L) → State → Prop} (hF : F = fm_Qi X G)  : fm_J X G 6 F (m_X6_says_94 v2 v3 v4 μ ν) μ ν 94 [(0, .ref (G.2.2.1 58)), (2, .int v2), (3, .int v3), (4, .int v4)] [] := by
  unfold m_X6_says_94
  refine fm_iload_n (pc := 94) C dX6_says_94 rfl rfl ?_
  refine fm_iconst (pc := 95) (v := (nI 4)) C dX6_says_95 (by decide) ?_
  refine fm_icmp_ne (pc := 96) (tgt := 110) C dX6_says_96 (by decide) (fun c27 => ?_) (fun c27 => ?_)
  · refine fm_iload (pc := 99) C dX6_says_99 rfl ?_
    refine fm_bipush (pc := 101) (v := (nI 6)) C dX6_says_101 (by decide) ?_
    refine fm_icmp_ne (pc := 103) (tgt := 110) C dX6_says_103 (by decide) (fun c28 => ?_) (fun c28 => ?_)
    · refine fm_less (lv' := [(0, .ref (G.2.2.1 58)), (2, .int v2), (3, .int v3), (4, .int v4)]) (by repeat (first | exact trivial | refine ⟨rfl, ?_⟩)) ?_
      exact j_X6_says_106_ C hF 
    · refine fm_less (lv' := [(0, .ref (G.2.2.1 58)), (2, .int v2), (3, .int v3), (4, .int v4)]) (by repeat (first | exact trivial | refine ⟨rfl, ?_⟩)) ?_
      exact j_X6_says_110_ C hF 
  · refine fm_less (lv' := [(0, .ref (G.2.2.1 58)), (2, .int v2), (3, .int v3), (4, .int v4)]) (by repeat (first | exact trivial | refine ⟨rfl, ?_⟩)) ?_
    exact j_X6_says_110_ C hF 
set_option maxHeartbeats 4000000 in
set_option maxRecDepth 100000 in
theorem j_X6_says_83_ {X : fm_X} {G : fm_G} {l : Launch} {v2 : Int32} {v3 : Int32} {v4 : Int32} {μ : fm_I} {ν : fm_L} (C : fm_C X G l cX6_says RX6 6 (some .int) 4 81) {F : (Int32 × fm_I × fm_L) → State → Prop} (hF : F = fm_Qi X G)  : fm_J X G 6 F (m_X6_says_83 v2 v3 v4 μ ν) μ ν 83 [(0, .ref (G.2.2.1 58)), (2, .int v2), (3, .int v3), (4, .int v4)] [] := by
  unfold m_X6_says_83
  refine fm_iload_n (pc := 83) C dX6_says_83 rfl rfl ?_
  refine fm_iconst (pc := 84) (v := (nI 2)) C dX6_says_84 (by decide) ?_
  refine fm_icmp_ne (pc := 85) (tgt := 94) C dX6_says_85 (by decide) (fun c25 => ?_) (fun c25 => ?_)
  · refine fm_iload (pc := 88) C dX6_says_88 rfl ?_
    refine fm_iconst (pc := 90) (v := (nI 5)) C dX6_says_90 (by decide) ?_
    refine fm_icmp_eq (pc := 91) (tgt := 106) C dX6_says_91 (by decide) (fun c26 => ?_) (fun c26 => ?_)
    · refine fm_less (lv' := [(0, .ref (G.2.2.1 58)), (2, .int v2), (3, .int v3), (4, .int v4)]) (by repeat (first | exact trivial | refine ⟨rfl, ?_⟩)) ?_
      exact j_X6_says_106_ C hF 
    · refine fm_less (lv' := [(0, .ref (G.2.2.1 58)), (2, .int v2), (3, .int v3), (4, .int v4)]) (by repeat (first | exact trivial | refine ⟨rfl, ?_⟩)) ?_
      exact j_X6_says_94_ C hF 
  · refine fm_less (lv' := [(0, .ref (G.2.2.1 58)), (2, .int v2), (3, .int v3), (4, .int v4)]) (by repeat (first | exact trivial | refine ⟨rfl, ?_⟩)) ?_
    exact j_X6_says_94_ C hF 
set_option maxHeartbeats 4000000 in
set_option maxRecDepth 100000 in
theorem j_X6_says {X : fm_X} {G : fm_G} {l : Launch} {v1 : Int32} {v2 : Int32} {μ : fm_I} {ν : fm_L} (C : fm_C X G l cX6_says RX6 6 (some .int) 4 81) {F : (Int32 × fm_I × fm_L) → State → Prop} (hF : F = fm_Qi X G) : fm_J X G 6 F (m_X6_says v1 v2 μ ν) μ ν 0 [(0, .ref (G.2.2.1 58)), (1, .int v1), (2, .int v2)] [] := by
  unfold m_X6_says
  refine fm_aload_n (pc := 0) C dX6_says_0 rfl rfl ?_
  refine fm_iload_n (pc := 1) C dX6_says_1 rfl rfl ?_
  refine fm_bind (fun r2 e2 => ?_)
  refine fm_cVi0 (pc := 2) C (t_X6_isShelf e2) ok_X6_isShelf ⟨by decide, rfl⟩ m_ml_X6_92 dX6_says_2 ⟨Nat.le_of_ble_eq_true rfl, Nat.le_of_ble_eq_true rfl⟩ rfl rfl (Nat.le_of_ble_eq_true rfl) ?_
  refine fm_if_eq (pc := 5) (tgt := 18) C dX6_says_5 (by decide) (fun c1 => ?_) (fun c1 => ?_)
  · refine fm_less (lv' := [(0, .ref (G.2.2.1 58))]) (by repeat (first | exact trivial | refine ⟨rfl, ?_⟩)) ?_
    exact j_X6_says_18_ C hF 
  · refine fm_iload_n (pc := 8) C dX6_says_8 rfl rfl ?_
    refine fm_if_lt (pc := 9) (tgt := 18) C dX6_says_9 (by decide) (fun c2 => ?_) (fun c2 => ?_)
    · refine fm_less (lv' := [(0, .ref (G.2.2.1 58))]) (by repeat (first | exact trivial | refine ⟨rfl, ?_⟩)) ?_
      exact j_X6_says_18_ C hF 
    · refine fm_iload_n (pc := 12) C dX6_says_12 rfl rfl ?_
      refine fm_bipush (pc := 13) (v := (nI 6)) C dX6_says_13 (by decide) ?_
      refine fm_icmp_le (pc := 15) (tgt := 24) C dX6_says_15 (by decide) (fun c3 => ?_) (fun c3 => ?_)
      · refine fm_aload_n (pc := 24) C dX6_says_24 rfl rfl ?_
        refine g6_held (pc := 25) C (by decide) dX6_says_25 m_fl_X6_38 ?_
        refine fm_iload_n (pc := 28) C dX6_says_28 rfl rfl ?_
        refine fm_guard (fun h4 => ?_)
        refine fm_iald (pc := 29) C (by decide) h4 dX6_says_29 ?_
        refine fm_iconst (pc := 30) (v := (nI 1)) C dX6_says_30 (by decide) ?_
        refine fm_icmp_ne (pc := 31) (tgt := 41) C dX6_says_31 (by decide) (fun c5 => ?_) (fun c5 => ?_)
        · refine fm_aload_n (pc := 34) C dX6_says_34 rfl rfl ?_
          refine fm_bipush (pc := 35) (v := (-2 : Int32)) C dX6_says_35 (by decide) ?_
          refine fm_bind (fun r37 e37 => ?_)
          refine fm_cVi (pc := 37) C (t_X6_no e37) ok_X6_no ⟨by decide, rfl⟩ m_ml_X6_95 dX6_says_37 ⟨Nat.le_of_ble_eq_true rfl, Nat.le_of_ble_eq_true rfl⟩ rfl rfl (Nat.le_of_ble_eq_true rfl) ?_
          exact fm_zret (pc := 40) C hF rfl rfl dX6_says_40
        · refine fm_aload_n (pc := 41) C dX6_says_41 rfl rfl ?_
          refine g6_held (pc := 42) C (by decide) dX6_says_42 m_fl_X6_38 ?_
          refine fm_iload_n (pc := 45) C dX6_says_45 rfl rfl ?_
          refine fm_iald (pc := 46) C (by decide) h4 dX6_says_46 ?_
          refine fm_if_ne (pc := 47) (tgt := 57) C dX6_says_47 (by decide) (fun c6 => ?_) (fun c6 => ?_)
          · refine fm_aload_n (pc := 50) C dX6_says_50 rfl rfl ?_
            refine fm_bipush (pc := 51) (v := (-3 : Int32)) C dX6_says_51 (by decide) ?_
            refine fm_bind (fun r53 e53 => ?_)
            refine fm_cVi (pc := 53) C (t_X6_no e53) ok_X6_no ⟨by decide, rfl⟩ m_ml_X6_95 dX6_says_53 ⟨Nat.le_of_ble_eq_true rfl, Nat.le_of_ble_eq_true rfl⟩ rfl rfl (Nat.le_of_ble_eq_true rfl) ?_
            exact fm_zret (pc := 56) C hF rfl rfl dX6_says_56
          · refine fm_aload_n (pc := 57) C dX6_says_57 rfl rfl ?_
            refine g6_shown (pc := 58) C (by decide) dX6_says_58 m_fl_X6_47 ?_
            refine fm_iload_n (pc := 61) C dX6_says_61 rfl rfl ?_
            refine fm_guard (fun h7 => ?_)
            refine fm_iald (pc := 62) C (by decide) h7 dX6_says_62 ?_
            refine fm_istore_n (pc := 63) C dX6_says_63 rfl (by decide) rfl ?_
            refine fm_aload_n (pc := 64) C dX6_says_64 rfl rfl ?_
            refine g6_kind (pc := 65) C (by decide) dX6_says_65 m_fl_X6_20 ?_
            refine fm_iload_n (pc := 68) C dX6_says_68 rfl rfl ?_
            refine fm_guard (fun h8 => ?_)
            refine fm_iald (pc := 69) C (by decide) h8 dX6_says_69 ?_
            refine fm_istore (pc := 70) C dX6_says_70 (by decide) rfl ?_
            refine fm_iload_n (pc := 72) C dX6_says_72 rfl rfl ?_
            refine fm_iconst (pc := 73) (v := (nI 1)) C dX6_says_73 (by decide) ?_
            refine fm_icmp_ne (pc := 74) (tgt := 83) C dX6_says_74 (by decide) (fun c9 => ?_) (fun c9 => ?_)
            · refine fm_iload (pc := 77) C dX6_says_77 rfl ?_
              refine fm_iconst (pc := 79) (v := (nI 3)) C dX6_says_79 (by decide) ?_
              refine fm_icmp_eq (pc := 80) (tgt := 106) C dX6_says_80 (by decide) (fun c10 => ?_) (fun c10 => ?_)
              · refine fm_less (lv' := [(0, .ref (G.2.2.1 58)), (2, .int v2), (3, .int ((μ 69 v1.toNatClampNeg))), (4, .int ((μ 60 ((μ 69 v1.toNatClampNeg)).toNatClampNeg)))]) (by repeat (first | exact trivial | refine ⟨rfl, ?_⟩)) ?_
                exact j_X6_says_106_ C hF 
              · refine fm_less (lv' := [(0, .ref (G.2.2.1 58)), (2, .int v2), (3, .int ((μ 69 v1.toNatClampNeg))), (4, .int ((μ 60 ((μ 69 v1.toNatClampNeg)).toNatClampNeg)))]) (by repeat (first | exact trivial | refine ⟨rfl, ?_⟩)) ?_
                exact j_X6_says_83_ C hF 
            · refine fm_less (lv' := [(0, .ref (G.2.2.1 58)), (2, .int v2), (3, .int ((μ 69 v1.toNatClampNeg))), (4, .int ((μ 60 ((μ 69 v1.toNatClampNeg)).toNatClampNeg)))]) (by repeat (first | exact trivial | refine ⟨rfl, ?_⟩)) ?_
              exact j_X6_says_83_ C hF 
      · refine fm_less (lv' := [(0, .ref (G.2.2.1 58))]) (by repeat (first | exact trivial | refine ⟨rfl, ?_⟩)) ?_
        exact j_X6_says_18_ C hF 
theorem t_X6_says {l : Launch} {G : fm_G} {v1 : Int32} {v2 : Int32} {μ : fm_I} {ν : fm_L} {r : Int32 × fm_I × fm_L} (h : m_X6_says v1 v2 μ ν = some r) : fm_Mi l G yX6_says cX6_says 6 (some .int) 4 81 [.ref (G.2.2.1 58), .int v1, .int v2] μ ν r := fm_Mi_of (by decide +kernel) (Nat.le_of_ble_eq_true rfl) (fun _ C => j_X6_says C rfl r h)
theorem dX6_wanted_0 : decode cX6_wanted 0 = .ok (.aload_n 0, 1) := by decide +kernel
theorem dX6_wanted_1 : decode cX6_wanted 1 = .ok (.iload_n 1, 1) := by decide +kernel
theorem dX6_wanted_2 : decode cX6_wanted 2 = .ok (.invokevirtual 92, 3) := by decide +kernel
theorem dX6_wanted_5 : decode cX6_wanted 5 = .ok (.ifCond .ne 7, 3) := by decide +kernel
theorem dX6_wanted_8 : decode cX6_wanted 8 = .ok (.iconst (-1), 1) := by decide +kernel
theorem dX6_wanted_9 : decode cX6_wanted 9 = .ok (.goto 33, 3) := by decide +kernel
theorem dX6_wanted_12 : decode cX6_wanted 12 = .ok (.aload_n 0, 1) := by decide +kernel
theorem dX6_wanted_13 : decode cX6_wanted 13 = .ok (.getfield 38, 3) := by decide +kernel
theorem dX6_wanted_16 : decode cX6_wanted 16 = .ok (.iload_n 1, 1) := by decide +kernel
theorem dX6_wanted_17 : decode cX6_wanted 17 = .ok (.iaload, 1) := by decide +kernel
theorem dX6_wanted_18 : decode cX6_wanted 18 = .ok (.iconst 2, 1) := by decide +kernel
theorem dX6_wanted_19 : decode cX6_wanted 19 = .ok (.if_icmp .ne 8, 3) := by decide +kernel
theorem dX6_wanted_22 : decode cX6_wanted 22 = .ok (.bipush (-2), 2) := by decide +kernel
theorem dX6_wanted_24 : decode cX6_wanted 24 = .ok (.goto 18, 3) := by decide +kernel
theorem dX6_wanted_27 : decode cX6_wanted 27 = .ok (.aload_n 0, 1) := by decide +kernel
theorem dX6_wanted_28 : decode cX6_wanted 28 = .ok (.getfield 38, 3) := by decide +kernel
theorem dX6_wanted_31 : decode cX6_wanted 31 = .ok (.iload_n 1, 1) := by decide +kernel
theorem dX6_wanted_32 : decode cX6_wanted 32 = .ok (.iaload, 1) := by decide +kernel
theorem dX6_wanted_33 : decode cX6_wanted 33 = .ok (.ifCond .ne 8, 3) := by decide +kernel
theorem dX6_wanted_36 : decode cX6_wanted 36 = .ok (.bipush (-3), 2) := by decide +kernel
theorem dX6_wanted_38 : decode cX6_wanted 38 = .ok (.goto 4, 3) := by decide +kernel
theorem dX6_wanted_41 : decode cX6_wanted 41 = .ok (.iconst 0, 1) := by decide +kernel
theorem dX6_wanted_42 : decode cX6_wanted 42 = .ok (.ireturn, 1) := by decide +kernel
def m_X6_wanted (v1 : Int32) (μ : fm_I) (ν : fm_L) : Option (Int32) :=
  (m_X6_isShelf v1 μ ν).bind (fun r2 => if r2 = 0 then some ((-1 : Int32)) else fm_g (fm_in v1 (fm_n 66)) (if (μ 66 v1.toNatClampNeg) = (nI 2) then some ((-2 : Int32)) else if (μ 66 v1.toNatClampNeg) = 0 then some ((-3 : Int32)) else some ((nI 0))))
theorem ok_X6_wanted : fm_okV yX6_wanted cX6_wanted 2 (some .int) 1 := ⟨m_cd_X6_wanted, m_im_X6_wanted, m_se_X6_X6_wanted, m_ini_X6, by decide +kernel, by decide +kernel, by decide +kernel⟩
set_option maxHeartbeats 4000000 in
set_option maxRecDepth 100000 in
theorem j_X6_wanted {X : fm_X} {G : fm_G} {l : Launch} {v1 : Int32} {μ : fm_I} {ν : fm_L} (C : fm_C X G l cX6_wanted RX6 2 (some .int) 2 33) {F : Int32 → State → Prop} (hF : F = fun r => fm_Qi X G (r, μ, ν)) : fm_J X G 2 F (m_X6_wanted v1 μ ν) μ ν 0 [(0, .ref (G.2.2.1 58)), (1, .int v1)] [] := by
  unfold m_X6_wanted
  refine fm_aload_n (pc := 0) C dX6_wanted_0 rfl rfl ?_
  refine fm_iload_n (pc := 1) C dX6_wanted_1 rfl rfl ?_
  refine fm_bind (fun r2 e2 => ?_)
  refine fm_cVi0 (pc := 2) C (t_X6_isShelf e2) ok_X6_isShelf ⟨by decide, rfl⟩ m_ml_X6_92 dX6_wanted_2 ⟨Nat.le_of_ble_eq_true rfl, Nat.le_of_ble_eq_true rfl⟩ rfl rfl (Nat.le_of_ble_eq_true rfl) ?_
  refine fm_if_ne (pc := 5) (tgt := 12) C dX6_wanted_5 (by decide) (fun c1 => ?_) (fun c1 => ?_)
  · refine fm_iconst (pc := 8) (v := (-1 : Int32)) C dX6_wanted_8 (by decide) ?_
    refine fm_goto (pc := 9) (tgt := 42) C dX6_wanted_9 (by decide) ?_
    exact fm_zret0 (pc := 42) C hF rfl rfl dX6_wanted_42
  · refine fm_aload_n (pc := 12) C dX6_wanted_12 rfl rfl ?_
    refine g6_held (pc := 13) C (by decide) dX6_wanted_13 m_fl_X6_38 ?_
    refine fm_iload_n (pc := 16) C dX6_wanted_16 rfl rfl ?_
    refine fm_guard (fun h2 => ?_)
    refine fm_iald (pc := 17) C (by decide) h2 dX6_wanted_17 ?_
    refine fm_iconst (pc := 18) (v := (nI 2)) C dX6_wanted_18 (by decide) ?_
    refine fm_icmp_ne (pc := 19) (tgt := 27) C dX6_wanted_19 (by decide) (fun c3 => ?_) (fun c3 => ?_)
    · refine fm_bipush (pc := 22) (v := (-2 : Int32)) C dX6_wanted_22 (by decide) ?_
      refine fm_goto (pc := 24) (tgt := 42) C dX6_wanted_24 (by decide) ?_
      exact fm_zret0 (pc := 42) C hF rfl rfl dX6_wanted_42
    · refine fm_aload_n (pc := 27) C dX6_wanted_27 rfl rfl ?_
      refine g6_held (pc := 28) C (by decide) dX6_wanted_28 m_fl_X6_38 ?_
      refine fm_iload_n (pc := 31) C dX6_wanted_31 rfl rfl ?_
      refine fm_iald (pc := 32) C (by decide) h2 dX6_wanted_32 ?_
      refine fm_if_ne (pc := 33) (tgt := 41) C dX6_wanted_33 (by decide) (fun c4 => ?_) (fun c4 => ?_)
      · refine fm_bipush (pc := 36) (v := (-3 : Int32)) C dX6_wanted_36 (by decide) ?_
        refine fm_goto (pc := 38) (tgt := 42) C dX6_wanted_38 (by decide) ?_
        exact fm_zret0 (pc := 42) C hF rfl rfl dX6_wanted_42
      · refine fm_iconst (pc := 41) (v := (nI 0)) C dX6_wanted_41 (by decide) ?_
        exact fm_zret0 (pc := 42) C hF rfl rfl dX6_wanted_42
theorem t_X6_wanted {l : Launch} {G : fm_G} {v1 : Int32} {μ : fm_I} {ν : fm_L} {r : Int32} (h : m_X6_wanted v1 μ ν = some r) : fm_Mi l G yX6_wanted cX6_wanted 2 (some .int) 2 33 [.ref (G.2.2.1 58), .int v1] μ ν (r, μ, ν) := fm_Mi_of (by decide +kernel) (Nat.le_of_ble_eq_true rfl) (fun _ C => j_X6_wanted C rfl r h)
theorem dX6_intAt_0 : decode cX6_intAt 0 = .ok (.aload_n 0, 1) := by decide +kernel
theorem dX6_intAt_1 : decode cX6_intAt 1 = .ok (.getfield 50, 3) := by decide +kernel
theorem dX6_intAt_4 : decode cX6_intAt 4 = .ok (.sipush 160, 3) := by decide +kernel
theorem dX6_intAt_7 : decode cX6_intAt 7 = .ok (.iload_n 1, 1) := by decide +kernel
theorem dX6_intAt_8 : decode cX6_intAt 8 = .ok (.imul, 1) := by decide +kernel
theorem dX6_intAt_9 : decode cX6_intAt 9 = .ok (.iload_n 2, 1) := by decide +kernel
theorem dX6_intAt_10 : decode cX6_intAt 10 = .ok (.iadd, 1) := by decide +kernel
theorem dX6_intAt_11 : decode cX6_intAt 11 = .ok (.laload, 1) := by decide +kernel
theorem dX6_intAt_12 : decode cX6_intAt 12 = .ok (.l2i, 1) := by decide +kernel
theorem dX6_intAt_13 : decode cX6_intAt 13 = .ok (.ireturn, 1) := by decide +kernel
def m_X6_intAt (v1 : Int32) (v2 : Int32) (μ : fm_I) (ν : fm_L) : Option (Int32) :=
  fm_g (fm_in ((((((nI 160)) * v1)) + v2)) (fm_n 70)) (some (((ν 70 ((((((nI 160)) * v1)) + v2)).toNatClampNeg)).toInt32))
theorem ok_X6_intAt : fm_okV yX6_intAt cX6_intAt 3 (some .int) 2 := ⟨m_cd_X6_intAt, m_im_X6_intAt, m_se_X6_X6_intAt, m_ini_X6, by decide +kernel, by decide +kernel, by decide +kernel⟩
set_option maxHeartbeats 4000000 in
set_option maxRecDepth 100000 in
theorem j_X6_intAt {X : fm_X} {G : fm_G} {l : Launch} {v1 : Int32} {v2 : Int32} {μ : fm_I} {ν : fm_L} (C : fm_C X G l cX6_intAt RX6 3 (some .int) 1 12) {F : Int32 → State → Prop} (hF : F = fun r => fm_Qi X G (r, μ, ν)) : fm_J X G 3 F (m_X6_intAt v1 v2 μ ν) μ ν 0 [(0, .ref (G.2.2.1 58)), (1, .int v1), (2, .int v2)] [] := by
  unfold m_X6_intAt
  refine fm_aload_n (pc := 0) C dX6_intAt_0 rfl rfl ?_
  refine g6_cells (pc := 1) C (by decide) dX6_intAt_1 m_fl_X6_50 ?_
  refine fm_sipush (pc := 4) (v := (nI 160)) C dX6_intAt_4 (by decide) ?_
  refine fm_iload_n (pc := 7) C dX6_intAt_7 rfl rfl ?_
  refine fm_imul (pc := 8) C dX6_intAt_8 ?_
  refine fm_iload_n (pc := 9) C dX6_intAt_9 rfl rfl ?_
  refine fm_iadd (pc := 10) C dX6_intAt_10 ?_
  refine fm_guard (fun h1 => ?_)
  refine fm_lald (pc := 11) C (by decide) h1 dX6_intAt_11 ?_
  refine fm_l2i (pc := 12) C dX6_intAt_12 ?_
  exact fm_zret0 (pc := 13) C hF rfl rfl dX6_intAt_13
theorem t_X6_intAt {l : Launch} {G : fm_G} {v1 : Int32} {v2 : Int32} {μ : fm_I} {ν : fm_L} {r : Int32} (h : m_X6_intAt v1 v2 μ ν = some r) : fm_Mi l G yX6_intAt cX6_intAt 3 (some .int) 1 12 [.ref (G.2.2.1 58), .int v1, .int v2] μ ν (r, μ, ν) := fm_Mi_of (by decide +kernel) (Nat.le_of_ble_eq_true rfl) (fun _ C => j_X6_intAt C rfl r h)
theorem dX6_bars_0 : decode cX6_bars 0 = .ok (.aload_n 0, 1) := by decide +kernel
theorem dX6_bars_1 : decode cX6_bars 1 = .ok (.iload_n 2, 1) := by decide +kernel
theorem dX6_bars_2 : decode cX6_bars 2 = .ok (.invokevirtual 92, 3) := by decide +kernel
theorem dX6_bars_5 : decode cX6_bars 5 = .ok (.ifCond .eq 13, 3) := by decide +kernel
theorem dX6_bars_8 : decode cX6_bars 8 = .ok (.aload_n 0, 1) := by decide +kernel
theorem dX6_bars_9 : decode cX6_bars 9 = .ok (.iload_n 1, 1) := by decide +kernel
theorem dX6_bars_10 : decode cX6_bars 10 = .ok (.invokevirtual 88, 3) := by decide +kernel
theorem dX6_bars_13 : decode cX6_bars 13 = .ok (.ifCond .ne 5, 3) := by decide +kernel
theorem dX6_bars_16 : decode cX6_bars 16 = .ok (.iconst (-1), 1) := by decide +kernel
theorem dX6_bars_17 : decode cX6_bars 17 = .ok (.ireturn, 1) := by decide +kernel
theorem dX6_bars_18 : decode cX6_bars 18 = .ok (.aload_n 0, 1) := by decide +kernel
theorem dX6_bars_19 : decode cX6_bars 19 = .ok (.iload_n 2, 1) := by decide +kernel
theorem dX6_bars_20 : decode cX6_bars 20 = .ok (.invokevirtual 106, 3) := by decide +kernel
theorem dX6_bars_23 : decode cX6_bars 23 = .ok (.istore 4, 2) := by decide +kernel
theorem dX6_bars_25 : decode cX6_bars 25 = .ok (.iload 4, 2) := by decide +kernel
theorem dX6_bars_27 : decode cX6_bars 27 = .ok (.ifCond .eq 6, 3) := by decide +kernel
theorem dX6_bars_30 : decode cX6_bars 30 = .ok (.iload 4, 2) := by decide +kernel
theorem dX6_bars_32 : decode cX6_bars 32 = .ok (.ireturn, 1) := by decide +kernel
theorem dX6_bars_33 : decode cX6_bars 33 = .ok (.iload_n 3, 1) := by decide +kernel
theorem dX6_bars_34 : decode cX6_bars 34 = .ok (.ifCond .ge 8, 3) := by decide +kernel
theorem dX6_bars_37 : decode cX6_bars 37 = .ok (.bipush (-4), 2) := by decide +kernel
theorem dX6_bars_39 : decode cX6_bars 39 = .ok (.goto 19, 3) := by decide +kernel
theorem dX6_bars_42 : decode cX6_bars 42 = .ok (.iload_n 3, 1) := by decide +kernel
theorem dX6_bars_43 : decode cX6_bars 43 = .ok (.aload_n 0, 1) := by decide +kernel
theorem dX6_bars_44 : decode cX6_bars 44 = .ok (.getfield 44, 3) := by decide +kernel
theorem dX6_bars_47 : decode cX6_bars 47 = .ok (.iload_n 2, 1) := by decide +kernel
theorem dX6_bars_48 : decode cX6_bars 48 = .ok (.iaload, 1) := by decide +kernel
theorem dX6_bars_49 : decode cX6_bars 49 = .ok (.if_icmp .le 8, 3) := by decide +kernel
theorem dX6_bars_52 : decode cX6_bars 52 = .ok (.bipush (-5), 2) := by decide +kernel
theorem dX6_bars_54 : decode cX6_bars 54 = .ok (.goto 4, 3) := by decide +kernel
theorem dX6_bars_57 : decode cX6_bars 57 = .ok (.iconst 0, 1) := by decide +kernel
theorem dX6_bars_58 : decode cX6_bars 58 = .ok (.ireturn, 1) := by decide +kernel
def m_X6_bars (v1 : Int32) (v2 : Int32) (v3 : Int32) (μ : fm_I) (ν : fm_L) : Option (Int32) :=
  (m_X6_isShelf v2 μ ν).bind (fun r2 => if r2 = 0 then (m_X6_wanted v2 μ ν).bind (fun r20 => if r20 = 0 then if 0 ≤ v3 then fm_g (fm_in v2 (fm_n 68)) (if v3 ≤ (μ 68 v2.toNatClampNeg) then some ((nI 0)) else some ((-5 : Int32))) else some ((-4 : Int32)) else some r20) else (m_X6_isBand v1 μ ν).bind (fun r10 => if r10 = 0 then some ((-1 : Int32)) else (m_X6_wanted v2 μ ν).bind (fun r20 => if r20 = 0 then if 0 ≤ v3 then fm_g (fm_in v2 (fm_n 68)) (if v3 ≤ (μ 68 v2.toNatClampNeg) then some ((nI 0)) else some ((-5 : Int32))) else some ((-4 : Int32)) else some r20)))
theorem ok_X6_bars : fm_okV yX6_bars cX6_bars 5 (some .int) 3 := ⟨m_cd_X6_bars, m_im_X6_bars, m_se_X6_X6_bars, m_ini_X6, by decide +kernel, by decide +kernel, by decide +kernel⟩
set_option maxHeartbeats 4000000 in
set_option maxRecDepth 100000 in
theorem j_X6_bars {X : fm_X} {G : fm_G} {l : Launch} {v1 : Int32} {v2 : Int32} {v3 : Int32} {μ : fm_I} {ν : fm_L} (C : fm_C X G l cX6_bars RX6 5 (some .int) 3 54) {F : Int32 → State → Prop} (hF : F = fun r => fm_Qi X G (r, μ, ν)) : fm_J X G 5 F (m_X6_bars v1 v2 v3 μ ν) μ ν 0 [(0, .ref (G.2.2.1 58)), (1, .int v1), (2, .int v2), (3, .int v3)] [] := by
  unfold m_X6_bars
  refine fm_aload_n (pc := 0) C dX6_bars_0 rfl rfl ?_
  refine fm_iload_n (pc := 1) C dX6_bars_1 rfl rfl ?_
  refine fm_bind (fun r2 e2 => ?_)
  refine fm_cVi0 (pc := 2) C (t_X6_isShelf e2) ok_X6_isShelf ⟨by decide, rfl⟩ m_ml_X6_92 dX6_bars_2 ⟨Nat.le_of_ble_eq_true rfl, Nat.le_of_ble_eq_true rfl⟩ rfl rfl (Nat.le_of_ble_eq_true rfl) ?_
  refine fm_if_eq (pc := 5) (tgt := 18) C dX6_bars_5 (by decide) (fun c1 => ?_) (fun c1 => ?_)
  · refine fm_aload_n (pc := 18) C dX6_bars_18 rfl rfl ?_
    refine fm_iload_n (pc := 19) C dX6_bars_19 rfl rfl ?_
    refine fm_bind (fun r20 e20 => ?_)
    refine fm_cVi0 (pc := 20) C (t_X6_wanted e20) ok_X6_wanted ⟨by decide, rfl⟩ m_ml_X6_106 dX6_bars_20 ⟨Nat.le_of_ble_eq_true rfl, Nat.le_of_ble_eq_true rfl⟩ rfl rfl (Nat.le_of_ble_eq_true rfl) ?_
    refine fm_istore (pc := 23) C dX6_bars_23 (by decide) rfl ?_
    refine fm_iload (pc := 25) C dX6_bars_25 rfl ?_
    refine fm_if_eq (pc := 27) (tgt := 33) C dX6_bars_27 (by decide) (fun c2 => ?_) (fun c2 => ?_)
    · refine fm_iload_n (pc := 33) C dX6_bars_33 rfl rfl ?_
      refine fm_if_ge (pc := 34) (tgt := 42) C dX6_bars_34 (by decide) (fun c3 => ?_) (fun c3 => ?_)
      · refine fm_iload_n (pc := 42) C dX6_bars_42 rfl rfl ?_
        refine fm_aload_n (pc := 43) C dX6_bars_43 rfl rfl ?_
        refine g6_size (pc := 44) C (by decide) dX6_bars_44 m_fl_X6_44 ?_
        refine fm_iload_n (pc := 47) C dX6_bars_47 rfl rfl ?_
        refine fm_guard (fun h4 => ?_)
        refine fm_iald (pc := 48) C (by decide) h4 dX6_bars_48 ?_
        refine fm_icmp_le (pc := 49) (tgt := 57) C dX6_bars_49 (by decide) (fun c5 => ?_) (fun c5 => ?_)
        · refine fm_iconst (pc := 57) (v := (nI 0)) C dX6_bars_57 (by decide) ?_
          exact fm_zret0 (pc := 58) C hF rfl rfl dX6_bars_58
        · refine fm_bipush (pc := 52) (v := (-5 : Int32)) C dX6_bars_52 (by decide) ?_
          refine fm_goto (pc := 54) (tgt := 58) C dX6_bars_54 (by decide) ?_
          exact fm_zret0 (pc := 58) C hF rfl rfl dX6_bars_58
      · refine fm_bipush (pc := 37) (v := (-4 : Int32)) C dX6_bars_37 (by decide) ?_
        refine fm_goto (pc := 39) (tgt := 58) C dX6_bars_39 (by decide) ?_
        exact fm_zret0 (pc := 58) C hF rfl rfl dX6_bars_58
    · refine fm_iload (pc := 30) C dX6_bars_30 rfl ?_
      exact fm_zret0 (pc := 32) C hF rfl rfl dX6_bars_32
  · refine fm_aload_n (pc := 8) C dX6_bars_8 rfl rfl ?_
    refine fm_iload_n (pc := 9) C dX6_bars_9 rfl rfl ?_
    refine fm_bind (fun r10 e10 => ?_)
    refine fm_cVi0 (pc := 10) C (t_X6_isBand e10) ok_X6_isBand ⟨by decide, rfl⟩ m_ml_X6_88 dX6_bars_10 ⟨Nat.le_of_ble_eq_true rfl, Nat.le_of_ble_eq_true rfl⟩ rfl rfl (Nat.le_of_ble_eq_true rfl) ?_
    refine fm_if_ne (pc := 13) (tgt := 18) C dX6_bars_13 (by decide) (fun c6 => ?_) (fun c6 => ?_)
    · refine fm_iconst (pc := 16) (v := (-1 : Int32)) C dX6_bars_16 (by decide) ?_
      exact fm_zret0 (pc := 17) C hF rfl rfl dX6_bars_17
    · refine fm_aload_n (pc := 18) C dX6_bars_18 rfl rfl ?_
      refine fm_iload_n (pc := 19) C dX6_bars_19 rfl rfl ?_
      refine fm_bind (fun r20 e20 => ?_)
      refine fm_cVi0 (pc := 20) C (t_X6_wanted e20) ok_X6_wanted ⟨by decide, rfl⟩ m_ml_X6_106 dX6_bars_20 ⟨Nat.le_of_ble_eq_true rfl, Nat.le_of_ble_eq_true rfl⟩ rfl rfl (Nat.le_of_ble_eq_true rfl) ?_
      refine fm_istore (pc := 23) C dX6_bars_23 (by decide) rfl ?_
      refine fm_iload (pc := 25) C dX6_bars_25 rfl ?_
      refine fm_if_eq (pc := 27) (tgt := 33) C dX6_bars_27 (by decide) (fun c7 => ?_) (fun c7 => ?_)
      · refine fm_iload_n (pc := 33) C dX6_bars_33 rfl rfl ?_
        refine fm_if_ge (pc := 34) (tgt := 42) C dX6_bars_34 (by decide) (fun c8 => ?_) (fun c8 => ?_)
        · refine fm_iload_n (pc := 42) C dX6_bars_42 rfl rfl ?_
          refine fm_aload_n (pc := 43) C dX6_bars_43 rfl rfl ?_
          refine g6_size (pc := 44) C (by decide) dX6_bars_44 m_fl_X6_44 ?_
          refine fm_iload_n (pc := 47) C dX6_bars_47 rfl rfl ?_
          refine fm_guard (fun h9 => ?_)
          refine fm_iald (pc := 48) C (by decide) h9 dX6_bars_48 ?_
          refine fm_icmp_le (pc := 49) (tgt := 57) C dX6_bars_49 (by decide) (fun c10 => ?_) (fun c10 => ?_)
          · refine fm_iconst (pc := 57) (v := (nI 0)) C dX6_bars_57 (by decide) ?_
            exact fm_zret0 (pc := 58) C hF rfl rfl dX6_bars_58
          · refine fm_bipush (pc := 52) (v := (-5 : Int32)) C dX6_bars_52 (by decide) ?_
            refine fm_goto (pc := 54) (tgt := 58) C dX6_bars_54 (by decide) ?_
            exact fm_zret0 (pc := 58) C hF rfl rfl dX6_bars_58
        · refine fm_bipush (pc := 37) (v := (-4 : Int32)) C dX6_bars_37 (by decide) ?_
          refine fm_goto (pc := 39) (tgt := 58) C dX6_bars_39 (by decide) ?_
          exact fm_zret0 (pc := 58) C hF rfl rfl dX6_bars_58
      · refine fm_iload (pc := 30) C dX6_bars_30 rfl ?_
        exact fm_zret0 (pc := 32) C hF rfl rfl dX6_bars_32
theorem t_X6_bars {l : Launch} {G : fm_G} {v1 : Int32} {v2 : Int32} {v3 : Int32} {μ : fm_I} {ν : fm_L} {r : Int32} (h : m_X6_bars v1 v2 v3 μ ν = some r) : fm_Mi l G yX6_bars cX6_bars 5 (some .int) 3 54 [.ref (G.2.2.1 58), .int v1, .int v2, .int v3] μ ν (r, μ, ν) := fm_Mi_of (by decide +kernel) (Nat.le_of_ble_eq_true rfl) (fun _ C => j_X6_bars C rfl r h)
theorem dX6_adds_0 : decode cX6_adds 0 = .ok (.aload_n 0, 1) := by decide +kernel
theorem dX6_adds_1 : decode cX6_adds 1 = .ok (.getfield 20, 3) := by decide +kernel
theorem dX6_adds_4 : decode cX6_adds 4 = .ok (.aload_n 0, 1) := by decide +kernel
theorem dX6_adds_5 : decode cX6_adds 5 = .ok (.getfield 85, 3) := by decide +kernel
theorem dX6_adds_8 : decode cX6_adds 8 = .ok (.iload_n 1, 1) := by decide +kernel
theorem dX6_adds_9 : decode cX6_adds 9 = .ok (.iastore, 1) := by decide +kernel
theorem dX6_adds_10 : decode cX6_adds 10 = .ok (.aload_n 0, 1) := by decide +kernel
theorem dX6_adds_11 : decode cX6_adds 11 = .ok (.getfield 23, 3) := by decide +kernel
theorem dX6_adds_14 : decode cX6_adds 14 = .ok (.aload_n 0, 1) := by decide +kernel
theorem dX6_adds_15 : decode cX6_adds 15 = .ok (.getfield 85, 3) := by decide +kernel
theorem dX6_adds_18 : decode cX6_adds 18 = .ok (.iload_n 2, 1) := by decide +kernel
theorem dX6_adds_19 : decode cX6_adds 19 = .ok (.iastore, 1) := by decide +kernel
theorem dX6_adds_20 : decode cX6_adds 20 = .ok (.aload_n 0, 1) := by decide +kernel
theorem dX6_adds_21 : decode cX6_adds 21 = .ok (.getfield 26, 3) := by decide +kernel
theorem dX6_adds_24 : decode cX6_adds 24 = .ok (.aload_n 0, 1) := by decide +kernel
theorem dX6_adds_25 : decode cX6_adds 25 = .ok (.getfield 85, 3) := by decide +kernel
theorem dX6_adds_28 : decode cX6_adds 28 = .ok (.iload_n 3, 1) := by decide +kernel
theorem dX6_adds_29 : decode cX6_adds 29 = .ok (.iastore, 1) := by decide +kernel
theorem dX6_adds_30 : decode cX6_adds 30 = .ok (.aload_n 0, 1) := by decide +kernel
theorem dX6_adds_31 : decode cX6_adds 31 = .ok (.getfield 29, 3) := by decide +kernel
theorem dX6_adds_34 : decode cX6_adds 34 = .ok (.aload_n 0, 1) := by decide +kernel
theorem dX6_adds_35 : decode cX6_adds 35 = .ok (.getfield 85, 3) := by decide +kernel
theorem dX6_adds_38 : decode cX6_adds 38 = .ok (.iload 4, 2) := by decide +kernel
theorem dX6_adds_40 : decode cX6_adds 40 = .ok (.iastore, 1) := by decide +kernel
theorem dX6_adds_41 : decode cX6_adds 41 = .ok (.aload_n 0, 1) := by decide +kernel
theorem dX6_adds_42 : decode cX6_adds 42 = .ok (.getfield 32, 3) := by decide +kernel
theorem dX6_adds_45 : decode cX6_adds 45 = .ok (.aload_n 0, 1) := by decide +kernel
theorem dX6_adds_46 : decode cX6_adds 46 = .ok (.getfield 85, 3) := by decide +kernel
theorem dX6_adds_49 : decode cX6_adds 49 = .ok (.iload 5, 2) := by decide +kernel
theorem dX6_adds_51 : decode cX6_adds 51 = .ok (.iastore, 1) := by decide +kernel
theorem dX6_adds_52 : decode cX6_adds 52 = .ok (.iconst 0, 1) := by decide +kernel
theorem dX6_adds_53 : decode cX6_adds 53 = .ok (.istore 6, 2) := by decide +kernel
theorem dX6_adds_55 : decode cX6_adds 55 = .ok (.iload 6, 2) := by decide +kernel
theorem dX6_adds_57 : decode cX6_adds 57 = .ok (.bipush 12, 2) := by decide +kernel
theorem dX6_adds_59 : decode cX6_adds 59 = .ok (.if_icmp .ge 25, 3) := by decide +kernel
theorem dX6_adds_62 : decode cX6_adds 62 = .ok (.aload_n 0, 1) := by decide +kernel
theorem dX6_adds_63 : decode cX6_adds 63 = .ok (.getfield 35, 3) := by decide +kernel
theorem dX6_adds_66 : decode cX6_adds 66 = .ok (.bipush 12, 2) := by decide +kernel
theorem dX6_adds_68 : decode cX6_adds 68 = .ok (.aload_n 0, 1) := by decide +kernel
theorem dX6_adds_69 : decode cX6_adds 69 = .ok (.getfield 85, 3) := by decide +kernel
theorem dX6_adds_72 : decode cX6_adds 72 = .ok (.imul, 1) := by decide +kernel
theorem dX6_adds_73 : decode cX6_adds 73 = .ok (.iload 6, 2) := by decide +kernel
theorem dX6_adds_75 : decode cX6_adds 75 = .ok (.iadd, 1) := by decide +kernel
theorem dX6_adds_76 : decode cX6_adds 76 = .ok (.iconst 0, 1) := by decide +kernel
theorem dX6_adds_77 : decode cX6_adds 77 = .ok (.iastore, 1) := by decide +kernel
theorem dX6_adds_78 : decode cX6_adds 78 = .ok (.iinc 6 1, 3) := by decide +kernel
theorem dX6_adds_81 : decode cX6_adds 81 = .ok (.goto (-26), 3) := by decide +kernel
theorem dX6_adds_84 : decode cX6_adds 84 = .ok (.aload_n 0, 1) := by decide +kernel
theorem dX6_adds_85 : decode cX6_adds 85 = .ok (.dup, 1) := by decide +kernel
theorem dX6_adds_86 : decode cX6_adds 86 = .ok (.getfield 85, 3) := by decide +kernel
theorem dX6_adds_89 : decode cX6_adds 89 = .ok (.dup_x1, 1) := by decide +kernel
theorem dX6_adds_90 : decode cX6_adds 90 = .ok (.iconst 1, 1) := by decide +kernel
theorem dX6_adds_91 : decode cX6_adds 91 = .ok (.iadd, 1) := by decide +kernel
theorem dX6_adds_92 : decode cX6_adds 92 = .ok (.putfield 85, 3) := by decide +kernel
theorem dX6_adds_95 : decode cX6_adds 95 = .ok (.ireturn, 1) := by decide +kernel
def m_X6_adds_55  (K : fm_I → fm_L → Option (Int32 × fm_I × fm_L)) : Nat → Int32 → fm_I → fm_L → Option (Int32 × fm_I × fm_L)
  | 0, _, _, _ => none
  | k + 1, v6, μ, ν => if (nI 12) ≤ v6 then K  μ ν else fm_g (fm_in ((((((nI 12)) * ((μ 58 0)))) + v6)) (fm_n 65)) (m_X6_adds_55 K k ((v6 + nI 1)) (fm_u μ 65 ((((((nI 12)) * ((μ 58 0)))) + v6)).toNatClampNeg ((nI 0))) ν)
def m_X6_adds (v1 : Int32) (v2 : Int32) (v3 : Int32) (v4 : Int32) (v5 : Int32) (μ : fm_I) (ν : fm_L) : Option (Int32 × fm_I × fm_L) :=
  fm_g (fm_in ((μ 58 0)) (fm_n 60)) (fm_g (fm_in ((((fm_u μ 60 ((μ 58 0)).toNatClampNeg v1)) 58 0)) (fm_n 61)) (fm_g (fm_in ((((fm_u (fm_u μ 60 ((μ 58 0)).toNatClampNeg v1) 61 ((((fm_u μ 60 ((μ 58 0)).toNatClampNeg v1)) 58 0)).toNatClampNeg v2)) 58 0)) (fm_n 62)) (fm_g (fm_in ((((fm_u (fm_u (fm_u μ 60 ((μ 58 0)).toNatClampNeg v1) 61 ((((fm_u μ 60 ((μ 58 0)).toNatClampNeg v1)) 58 0)).toNatClampNeg v2) 62 ((((fm_u (fm_u μ 60 ((μ 58 0)).toNatClampNeg v1) 61 ((((fm_u μ 60 ((μ 58 0)).toNatClampNeg v1)) 58 0)).toNatClampNeg v2)) 58 0)).toNatClampNeg v3)) 58 0)) (fm_n 63)) (fm_g (fm_in ((((fm_u (fm_u (fm_u (fm_u μ 60 ((μ 58 0)).toNatClampNeg v1) 61 ((((fm_u μ 60 ((μ 58 0)).toNatClampNeg v1)) 58 0)).toNatClampNeg v2) 62 ((((fm_u (fm_u μ 60 ((μ 58 0)).toNatClampNeg v1) 61 ((((fm_u μ 60 ((μ 58 0)).toNatClampNeg v1)) 58 0)).toNatClampNeg v2)) 58 0)).toNatClampNeg v3) 63 ((((fm_u (fm_u (fm_u μ 60 ((μ 58 0)).toNatClampNeg v1) 61 ((((fm_u μ 60 ((μ 58 0)).toNatClampNeg v1)) 58 0)).toNatClampNeg v2) 62 ((((fm_u (fm_u μ 60 ((μ 58 0)).toNatClampNeg v1) 61 ((((fm_u μ 60 ((μ 58 0)).toNatClampNeg v1)) 58 0)).toNatClampNeg v2)) 58 0)).toNatClampNeg v3)) 58 0)).toNatClampNeg v4)) 58 0)) (fm_n 64)) (m_X6_adds_55  (fun μ55 ν55 => some (((μ55 58 0), (fm_u μ55 58 0 ((((μ55 58 0)) + ((nI 1))))), ν55))) 5000 ((nI 0)) (fm_u (fm_u (fm_u (fm_u (fm_u μ 60 ((μ 58 0)).toNatClampNeg v1) 61 ((((fm_u μ 60 ((μ 58 0)).toNatClampNeg v1)) 58 0)).toNatClampNeg v2) 62 ((((fm_u (fm_u μ 60 ((μ 58 0)).toNatClampNeg v1) 61 ((((fm_u μ 60 ((μ 58 0)).toNatClampNeg v1)) 58 0)).toNatClampNeg v2)) 58 0)).toNatClampNeg v3) 63 ((((fm_u (fm_u (fm_u μ 60 ((μ 58 0)).toNatClampNeg v1) 61 ((((fm_u μ 60 ((μ 58 0)).toNatClampNeg v1)) 58 0)).toNatClampNeg v2) 62 ((((fm_u (fm_u μ 60 ((μ 58 0)).toNatClampNeg v1) 61 ((((fm_u μ 60 ((μ 58 0)).toNatClampNeg v1)) 58 0)).toNatClampNeg v2)) 58 0)).toNatClampNeg v3)) 58 0)).toNatClampNeg v4) 64 ((((fm_u (fm_u (fm_u (fm_u μ 60 ((μ 58 0)).toNatClampNeg v1) 61 ((((fm_u μ 60 ((μ 58 0)).toNatClampNeg v1)) 58 0)).toNatClampNeg v2) 62 ((((fm_u (fm_u μ 60 ((μ 58 0)).toNatClampNeg v1) 61 ((((fm_u μ 60 ((μ 58 0)).toNatClampNeg v1)) 58 0)).toNatClampNeg v2)) 58 0)).toNatClampNeg v3) 63 ((((fm_u (fm_u (fm_u μ 60 ((μ 58 0)).toNatClampNeg v1) 61 ((((fm_u μ 60 ((μ 58 0)).toNatClampNeg v1)) 58 0)).toNatClampNeg v2) 62 ((((fm_u (fm_u μ 60 ((μ 58 0)).toNatClampNeg v1) 61 ((((fm_u μ 60 ((μ 58 0)).toNatClampNeg v1)) 58 0)).toNatClampNeg v2)) 58 0)).toNatClampNeg v3)) 58 0)).toNatClampNeg v4)) 58 0)).toNatClampNeg v5) ν)))))
theorem ok_X6_adds : fm_okV yX6_adds cX6_adds 7 (some .int) 5 := ⟨m_cd_X6_adds, m_im_X6_adds, m_se_X6_X6_adds, m_ini_X6, by decide +kernel, by decide +kernel, by decide +kernel⟩
set_option maxHeartbeats 4000000 in
set_option maxRecDepth 100000 in
theorem j_X6_adds_55_ {X : fm_X} {G : fm_G} {l : Launch}  (C : fm_C X G l cX6_adds RX6 7 (some .int) 1 12) {F : (Int32 × fm_I × fm_L) → State → Prop} (hF : F = fm_Qi X G)  {K : fm_I → fm_L → Option (Int32 × fm_I × fm_L)} (hK : ∀  (μ : fm_I) (ν : fm_L), fm_J X G 7 F (K μ ν) μ ν 84 [(0, .ref (G.2.2.1 58))] []) : ∀ (k : Nat) (v6 : Int32) (μ : fm_I) (ν : fm_L), fm_J X G 7 F (m_X6_adds_55  K k v6 μ ν) μ ν 55 [(0, .ref (G.2.2.1 58)), (6, .int v6)] [] := by
  intro k
  induction k with
  | zero =>
    intro v6 μ ν
    exact fm_none
  | succ k ih =>
    intro v6 μ ν
    rw [m_X6_adds_55]
    refine fm_iload (pc := 55) C dX6_adds_55 rfl ?_
    refine fm_bipush (pc := 57) (v := (nI 12)) C dX6_adds_57 (by decide) ?_
    refine fm_icmp_ge (pc := 59) (tgt := 84) C dX6_adds_59 (by decide) (fun c6 => ?_) (fun c6 => ?_)
    · refine fm_less (lv' := [(0, .ref (G.2.2.1 58))]) (by repeat (first | exact trivial | refine ⟨rfl, ?_⟩)) ?_
      exact hK  _ _
    · refine fm_aload_n (pc := 62) C dX6_adds_62 rfl rfl ?_
      refine g6_colour (pc := 63) C (by decide) dX6_adds_63 m_fl_X6_35 ?_
      refine fm_bipush (pc := 66) (v := (nI 12)) C dX6_adds_66 (by decide) ?_
      refine fm_aload_n (pc := 68) C dX6_adds_68 rfl rfl ?_
      refine g6_bands (pc := 69) C (by decide) dX6_adds_69 m_fl_X6_85 ?_
      refine fm_imul (pc := 72) C dX6_adds_72 ?_
      refine fm_iload (pc := 73) C dX6_adds_73 rfl ?_
      refine fm_iadd (pc := 75) C dX6_adds_75 ?_
      refine fm_iconst (pc := 76) (v := (nI 0)) C dX6_adds_76 (by decide) ?_
      refine fm_guard (fun h7 => ?_)
      refine fm_iast (pc := 77) C (by decide) h7 dX6_adds_77 ?_
      refine fm_iinc (pc := 78) C dX6_adds_78 rfl (v := (v6 + nI 1)) rfl (by decide) rfl ?_
      refine fm_goto (pc := 81) (tgt := 55) C dX6_adds_81 (by decide) ?_
      refine fm_less (lv' := [(0, .ref (G.2.2.1 58)), (6, .int ((v6 + nI 1)))]) (by repeat (first | exact trivial | refine ⟨rfl, ?_⟩)) ?_
      exact ih _ _ _
set_option maxHeartbeats 4000000 in
set_option maxRecDepth 100000 in
theorem j_X6_adds {X : fm_X} {G : fm_G} {l : Launch} {v1 : Int32} {v2 : Int32} {v3 : Int32} {v4 : Int32} {v5 : Int32} {μ : fm_I} {ν : fm_L} (C : fm_C X G l cX6_adds RX6 7 (some .int) 1 12) {F : (Int32 × fm_I × fm_L) → State → Prop} (hF : F = fm_Qi X G) : fm_J X G 7 F (m_X6_adds v1 v2 v3 v4 v5 μ ν) μ ν 0 [(0, .ref (G.2.2.1 58)), (1, .int v1), (2, .int v2), (3, .int v3), (4, .int v4), (5, .int v5)] [] := by
  unfold m_X6_adds
  refine fm_aload_n (pc := 0) C dX6_adds_0 rfl rfl ?_
  refine g6_kind (pc := 1) C (by decide) dX6_adds_1 m_fl_X6_20 ?_
  refine fm_aload_n (pc := 4) C dX6_adds_4 rfl rfl ?_
  refine g6_bands (pc := 5) C (by decide) dX6_adds_5 m_fl_X6_85 ?_
  refine fm_iload_n (pc := 8) C dX6_adds_8 rfl rfl ?_
  refine fm_guard (fun h1 => ?_)
  refine fm_iast (pc := 9) C (by decide) h1 dX6_adds_9 ?_
  refine fm_aload_n (pc := 10) C dX6_adds_10 rfl rfl ?_
  refine g6_twists (pc := 11) C (by decide) dX6_adds_11 m_fl_X6_23 ?_
  refine fm_aload_n (pc := 14) C dX6_adds_14 rfl rfl ?_
  refine g6_bands (pc := 15) C (by decide) dX6_adds_15 m_fl_X6_85 ?_
  refine fm_iload_n (pc := 18) C dX6_adds_18 rfl rfl ?_
  refine fm_guard (fun h2 => ?_)
  refine fm_iast (pc := 19) C (by decide) h2 dX6_adds_19 ?_
  refine fm_aload_n (pc := 20) C dX6_adds_20 rfl rfl ?_
  refine g6_strips (pc := 21) C (by decide) dX6_adds_21 m_fl_X6_26 ?_
  refine fm_aload_n (pc := 24) C dX6_adds_24 rfl rfl ?_
  refine g6_bands (pc := 25) C (by decide) dX6_adds_25 m_fl_X6_85 ?_
  refine fm_iload_n (pc := 28) C dX6_adds_28 rfl rfl ?_
  refine fm_guard (fun h3 => ?_)
  refine fm_iast (pc := 29) C (by decide) h3 dX6_adds_29 ?_
  refine fm_aload_n (pc := 30) C dX6_adds_30 rfl rfl ?_
  refine g6_hand (pc := 31) C (by decide) dX6_adds_31 m_fl_X6_29 ?_
  refine fm_aload_n (pc := 34) C dX6_adds_34 rfl rfl ?_
  refine g6_bands (pc := 35) C (by decide) dX6_adds_35 m_fl_X6_85 ?_
  refine fm_iload (pc := 38) C dX6_adds_38 rfl ?_
  refine fm_guard (fun h4 => ?_)
  refine fm_iast (pc := 40) C (by decide) h4 dX6_adds_40 ?_
  refine fm_aload_n (pc := 41) C dX6_adds_41 rfl rfl ?_
  refine g6_part (pc := 42) C (by decide) dX6_adds_42 m_fl_X6_32 ?_
  refine fm_aload_n (pc := 45) C dX6_adds_45 rfl rfl ?_
  refine g6_bands (pc := 46) C (by decide) dX6_adds_46 m_fl_X6_85 ?_
  refine fm_iload (pc := 49) C dX6_adds_49 rfl ?_
  refine fm_guard (fun h5 => ?_)
  refine fm_iast (pc := 51) C (by decide) h5 dX6_adds_51 ?_
  refine fm_iconst (pc := 52) (v := (nI 0)) C dX6_adds_52 (by decide) ?_
  refine fm_istore (pc := 53) C dX6_adds_53 (by decide) rfl ?_
  refine fm_less (lv' := [(0, .ref (G.2.2.1 58)), (6, .int ((nI 0)))]) (by repeat (first | exact trivial | refine ⟨rfl, ?_⟩)) ?_
  refine j_X6_adds_55_ C  hF  (fun μ55 ν55 => ?_) _ _ _ _
  refine fm_aload_n (pc := 84) C dX6_adds_84 rfl rfl ?_
  refine fm_dup (pc := 85) C dX6_adds_85 rfl ?_
  refine g6_bands (pc := 86) C (by decide) dX6_adds_86 m_fl_X6_85 ?_
  refine fm_dup_x1 (pc := 89) C dX6_adds_89 rfl rfl ?_
  refine fm_iconst (pc := 90) (v := (nI 1)) C dX6_adds_90 (by decide) ?_
  refine fm_iadd (pc := 91) C dX6_adds_91 ?_
  refine p6_bands (pc := 92) C (by decide) dX6_adds_92 m_fl_X6_85 ?_
  exact fm_zret (pc := 95) C hF rfl rfl dX6_adds_95
theorem t_X6_adds {l : Launch} {G : fm_G} {v1 : Int32} {v2 : Int32} {v3 : Int32} {v4 : Int32} {v5 : Int32} {μ : fm_I} {ν : fm_L} {r : Int32 × fm_I × fm_L} (h : m_X6_adds v1 v2 v3 v4 v5 μ ν = some r) : fm_Mi l G yX6_adds cX6_adds 7 (some .int) 1 12 [.ref (G.2.2.1 58), .int v1, .int v2, .int v3, .int v4, .int v5] μ ν r := fm_Mi_of (by decide +kernel) (Nat.le_of_ble_eq_true rfl) (fun _ C => j_X6_adds C rfl r h)
theorem dX6_band_0 : decode cX6_band 0 = .ok (.iload_n 1, 1) := by decide +kernel
theorem dX6_band_1 : decode cX6_band 1 = .ok (.ifCond .lt 9, 3) := by decide +kernel
theorem dX6_band_4 : decode cX6_band 4 = .ok (.iload_n 1, 1) := by decide +kernel
theorem dX6_band_5 : decode cX6_band 5 = .ok (.bipush 6, 2) := by decide +kernel
theorem dX6_band_7 : decode cX6_band 7 = .ok (.if_icmp .le 9, 3) := by decide +kernel
theorem dX6_band_10 : decode cX6_band 10 = .ok (.aload_n 0, 1) := by decide +kernel
theorem dX6_band_11 : decode cX6_band 11 = .ok (.iconst (-1), 1) := by decide +kernel
theorem dX6_band_12 : decode cX6_band 12 = .ok (.invokevirtual 95, 3) := by decide +kernel
theorem dX6_band_15 : decode cX6_band 15 = .ok (.ireturn, 1) := by decide +kernel
theorem dX6_band_16 : decode cX6_band 16 = .ok (.iload_n 2, 1) := by decide +kernel
theorem dX6_band_17 : decode cX6_band 17 = .ok (.ifCond .lt 44, 3) := by decide +kernel
theorem dX6_band_20 : decode cX6_band 20 = .ok (.iload_n 2, 1) := by decide +kernel
theorem dX6_band_21 : decode cX6_band 21 = .ok (.sipush 9999, 3) := by decide +kernel
theorem dX6_band_24 : decode cX6_band 24 = .ok (.if_icmp .gt 37, 3) := by decide +kernel
theorem dX6_band_27 : decode cX6_band 27 = .ok (.iload_n 3, 1) := by decide +kernel
theorem dX6_band_28 : decode cX6_band 28 = .ok (.iconst 1, 1) := by decide +kernel
theorem dX6_band_29 : decode cX6_band 29 = .ok (.if_icmp .lt 32, 3) := by decide +kernel
theorem dX6_band_32 : decode cX6_band 32 = .ok (.iload_n 3, 1) := by decide +kernel
theorem dX6_band_33 : decode cX6_band 33 = .ok (.bipush 12, 2) := by decide +kernel
theorem dX6_band_35 : decode cX6_band 35 = .ok (.if_icmp .gt 26, 3) := by decide +kernel
theorem dX6_band_38 : decode cX6_band 38 = .ok (.iload 4, 2) := by decide +kernel
theorem dX6_band_40 : decode cX6_band 40 = .ok (.ifCond .lt 21, 3) := by decide +kernel
theorem dX6_band_43 : decode cX6_band 43 = .ok (.iload 4, 2) := by decide +kernel
theorem dX6_band_45 : decode cX6_band 45 = .ok (.iconst 1, 1) := by decide +kernel
theorem dX6_band_46 : decode cX6_band 46 = .ok (.if_icmp .gt 15, 3) := by decide +kernel
theorem dX6_band_49 : decode cX6_band 49 = .ok (.iload 5, 2) := by decide +kernel
theorem dX6_band_51 : decode cX6_band 51 = .ok (.ifCond .lt 10, 3) := by decide +kernel
theorem dX6_band_54 : decode cX6_band 54 = .ok (.iload 5, 2) := by decide +kernel
theorem dX6_band_56 : decode cX6_band 56 = .ok (.bipush 9, 2) := by decide +kernel
theorem dX6_band_58 : decode cX6_band 58 = .ok (.if_icmp .le 10, 3) := by decide +kernel
theorem dX6_band_61 : decode cX6_band 61 = .ok (.aload_n 0, 1) := by decide +kernel
theorem dX6_band_62 : decode cX6_band 62 = .ok (.bipush (-6), 2) := by decide +kernel
theorem dX6_band_64 : decode cX6_band 64 = .ok (.invokevirtual 95, 3) := by decide +kernel
theorem dX6_band_67 : decode cX6_band 67 = .ok (.ireturn, 1) := by decide +kernel
theorem dX6_band_68 : decode cX6_band 68 = .ok (.aload_n 0, 1) := by decide +kernel
theorem dX6_band_69 : decode cX6_band 69 = .ok (.getfield 85, 3) := by decide +kernel
theorem dX6_band_72 : decode cX6_band 72 = .ok (.bipush 6, 2) := by decide +kernel
theorem dX6_band_74 : decode cX6_band 74 = .ok (.if_icmp .ne 12, 3) := by decide +kernel
theorem dX6_band_77 : decode cX6_band 77 = .ok (.aload_n 0, 1) := by decide +kernel
theorem dX6_band_78 : decode cX6_band 78 = .ok (.bipush (-7), 2) := by decide +kernel
theorem dX6_band_80 : decode cX6_band 80 = .ok (.invokevirtual 95, 3) := by decide +kernel
theorem dX6_band_83 : decode cX6_band 83 = .ok (.goto 14, 3) := by decide +kernel
theorem dX6_band_86 : decode cX6_band 86 = .ok (.aload_n 0, 1) := by decide +kernel
theorem dX6_band_87 : decode cX6_band 87 = .ok (.iload_n 1, 1) := by decide +kernel
theorem dX6_band_88 : decode cX6_band 88 = .ok (.iload_n 2, 1) := by decide +kernel
theorem dX6_band_89 : decode cX6_band 89 = .ok (.iload_n 3, 1) := by decide +kernel
theorem dX6_band_90 : decode cX6_band 90 = .ok (.iload 4, 2) := by decide +kernel
theorem dX6_band_92 : decode cX6_band 92 = .ok (.iload 5, 2) := by decide +kernel
theorem dX6_band_94 : decode cX6_band 94 = .ok (.invokevirtual 109, 3) := by decide +kernel
theorem dX6_band_97 : decode cX6_band 97 = .ok (.ireturn, 1) := by decide +kernel
def m_X6_band (v1 : Int32) (v2 : Int32) (v3 : Int32) (v4 : Int32) (v5 : Int32) (μ : fm_I) (ν : fm_L) : Option (Int32 × fm_I × fm_L) :=
  if v1 < 0 then (m_X6_no ((-1 : Int32)) μ ν).bind (fun r12 => some ((r12.1, r12.2.1, r12.2.2))) else if v1 ≤ (nI 6) then if v2 < 0 then (m_X6_no ((-6 : Int32)) μ ν).bind (fun r64 => some ((r64.1, r64.2.1, r64.2.2))) else if (nI 9999) < v2 then (m_X6_no ((-6 : Int32)) μ ν).bind (fun r64 => some ((r64.1, r64.2.1, r64.2.2))) else if v3 < (nI 1) then (m_X6_no ((-6 : Int32)) μ ν).bind (fun r64 => some ((r64.1, r64.2.1, r64.2.2))) else if (nI 12) < v3 then (m_X6_no ((-6 : Int32)) μ ν).bind (fun r64 => some ((r64.1, r64.2.1, r64.2.2))) else if v4 < 0 then (m_X6_no ((-6 : Int32)) μ ν).bind (fun r64 => some ((r64.1, r64.2.1, r64.2.2))) else if (nI 1) < v4 then (m_X6_no ((-6 : Int32)) μ ν).bind (fun r64 => some ((r64.1, r64.2.1, r64.2.2))) else if v5 < 0 then (m_X6_no ((-6 : Int32)) μ ν).bind (fun r64 => some ((r64.1, r64.2.1, r64.2.2))) else if v5 ≤ (nI 9) then if (μ 58 0) = (nI 6) then (m_X6_no ((-7 : Int32)) μ ν).bind (fun r80 => some ((r80.1, r80.2.1, r80.2.2))) else (m_X6_adds v1 v2 v3 v4 v5 μ ν).bind (fun r94 => some ((r94.1, r94.2.1, r94.2.2))) else (m_X6_no ((-6 : Int32)) μ ν).bind (fun r64 => some ((r64.1, r64.2.1, r64.2.2))) else (m_X6_no ((-1 : Int32)) μ ν).bind (fun r12 => some ((r12.1, r12.2.1, r12.2.2)))
theorem ok_X6_band : fm_okV yX6_band cX6_band 6 (some .int) 5 := ⟨m_cd_X6_band, m_im_X6_band, m_se_X6_X6_band, m_ini_X6, by decide +kernel, by decide +kernel, by decide +kernel⟩
set_option maxHeartbeats 4000000 in
set_option maxRecDepth 100000 in
theorem j_X6_band {X : fm_X} {G : fm_G} {l : Launch} {v1 : Int32} {v2 : Int32} {v3 : Int32} {v4 : Int32} {v5 : Int32} {μ : fm_I} {ν : fm_L} (C : fm_C X G l cX6_band RX6 6 (some .int) 2 38) {F : (Int32 × fm_I × fm_L) → State → Prop} (hF : F = fm_Qi X G) : fm_J X G 6 F (m_X6_band v1 v2 v3 v4 v5 μ ν) μ ν 0 [(0, .ref (G.2.2.1 58)), (1, .int v1), (2, .int v2), (3, .int v3), (4, .int v4), (5, .int v5)] [] := by
  unfold m_X6_band
  refine fm_iload_n (pc := 0) C dX6_band_0 rfl rfl ?_
  refine fm_if_lt (pc := 1) (tgt := 10) C dX6_band_1 (by decide) (fun c1 => ?_) (fun c1 => ?_)
  · refine fm_aload_n (pc := 10) C dX6_band_10 rfl rfl ?_
    refine fm_iconst (pc := 11) (v := (-1 : Int32)) C dX6_band_11 (by decide) ?_
    refine fm_bind (fun r12 e12 => ?_)
    refine fm_cVi (pc := 12) C (t_X6_no e12) ok_X6_no ⟨by decide, rfl⟩ m_ml_X6_95 dX6_band_12 ⟨Nat.le_of_ble_eq_true rfl, Nat.le_of_ble_eq_true rfl⟩ rfl rfl (Nat.le_of_ble_eq_true rfl) ?_
    exact fm_zret (pc := 15) C hF rfl rfl dX6_band_15
  · refine fm_iload_n (pc := 4) C dX6_band_4 rfl rfl ?_
    refine fm_bipush (pc := 5) (v := (nI 6)) C dX6_band_5 (by decide) ?_
    refine fm_icmp_le (pc := 7) (tgt := 16) C dX6_band_7 (by decide) (fun c2 => ?_) (fun c2 => ?_)
    · refine fm_iload_n (pc := 16) C dX6_band_16 rfl rfl ?_
      refine fm_if_lt (pc := 17) (tgt := 61) C dX6_band_17 (by decide) (fun c3 => ?_) (fun c3 => ?_)
      · refine fm_aload_n (pc := 61) C dX6_band_61 rfl rfl ?_
        refine fm_bipush (pc := 62) (v := (-6 : Int32)) C dX6_band_62 (by decide) ?_
        refine fm_bind (fun r64 e64 => ?_)
        refine fm_cVi (pc := 64) C (t_X6_no e64) ok_X6_no ⟨by decide, rfl⟩ m_ml_X6_95 dX6_band_64 ⟨Nat.le_of_ble_eq_true rfl, Nat.le_of_ble_eq_true rfl⟩ rfl rfl (Nat.le_of_ble_eq_true rfl) ?_
        exact fm_zret (pc := 67) C hF rfl rfl dX6_band_67
      · refine fm_iload_n (pc := 20) C dX6_band_20 rfl rfl ?_
        refine fm_sipush (pc := 21) (v := (nI 9999)) C dX6_band_21 (by decide) ?_
        refine fm_icmp_gt (pc := 24) (tgt := 61) C dX6_band_24 (by decide) (fun c4 => ?_) (fun c4 => ?_)
        · refine fm_aload_n (pc := 61) C dX6_band_61 rfl rfl ?_
          refine fm_bipush (pc := 62) (v := (-6 : Int32)) C dX6_band_62 (by decide) ?_
          refine fm_bind (fun r64 e64 => ?_)
          refine fm_cVi (pc := 64) C (t_X6_no e64) ok_X6_no ⟨by decide, rfl⟩ m_ml_X6_95 dX6_band_64 ⟨Nat.le_of_ble_eq_true rfl, Nat.le_of_ble_eq_true rfl⟩ rfl rfl (Nat.le_of_ble_eq_true rfl) ?_
          exact fm_zret (pc := 67) C hF rfl rfl dX6_band_67
        · refine fm_iload_n (pc := 27) C dX6_band_27 rfl rfl ?_
          refine fm_iconst (pc := 28) (v := (nI 1)) C dX6_band_28 (by decide) ?_
          refine fm_icmp_lt (pc := 29) (tgt := 61) C dX6_band_29 (by decide) (fun c5 => ?_) (fun c5 => ?_)
          · refine fm_aload_n (pc := 61) C dX6_band_61 rfl rfl ?_
            refine fm_bipush (pc := 62) (v := (-6 : Int32)) C dX6_band_62 (by decide) ?_
            refine fm_bind (fun r64 e64 => ?_)
            refine fm_cVi (pc := 64) C (t_X6_no e64) ok_X6_no ⟨by decide, rfl⟩ m_ml_X6_95 dX6_band_64 ⟨Nat.le_of_ble_eq_true rfl, Nat.le_of_ble_eq_true rfl⟩ rfl rfl (Nat.le_of_ble_eq_true rfl) ?_
            exact fm_zret (pc := 67) C hF rfl rfl dX6_band_67
          · refine fm_iload_n (pc := 32) C dX6_band_32 rfl rfl ?_
            refine fm_bipush (pc := 33) (v := (nI 12)) C dX6_band_33 (by decide) ?_
            refine fm_icmp_gt (pc := 35) (tgt := 61) C dX6_band_35 (by decide) (fun c6 => ?_) (fun c6 => ?_)
            · refine fm_aload_n (pc := 61) C dX6_band_61 rfl rfl ?_
              refine fm_bipush (pc := 62) (v := (-6 : Int32)) C dX6_band_62 (by decide) ?_
              refine fm_bind (fun r64 e64 => ?_)
              refine fm_cVi (pc := 64) C (t_X6_no e64) ok_X6_no ⟨by decide, rfl⟩ m_ml_X6_95 dX6_band_64 ⟨Nat.le_of_ble_eq_true rfl, Nat.le_of_ble_eq_true rfl⟩ rfl rfl (Nat.le_of_ble_eq_true rfl) ?_
              exact fm_zret (pc := 67) C hF rfl rfl dX6_band_67
            · refine fm_iload (pc := 38) C dX6_band_38 rfl ?_
              refine fm_if_lt (pc := 40) (tgt := 61) C dX6_band_40 (by decide) (fun c7 => ?_) (fun c7 => ?_)
              · refine fm_aload_n (pc := 61) C dX6_band_61 rfl rfl ?_
                refine fm_bipush (pc := 62) (v := (-6 : Int32)) C dX6_band_62 (by decide) ?_
                refine fm_bind (fun r64 e64 => ?_)
                refine fm_cVi (pc := 64) C (t_X6_no e64) ok_X6_no ⟨by decide, rfl⟩ m_ml_X6_95 dX6_band_64 ⟨Nat.le_of_ble_eq_true rfl, Nat.le_of_ble_eq_true rfl⟩ rfl rfl (Nat.le_of_ble_eq_true rfl) ?_
                exact fm_zret (pc := 67) C hF rfl rfl dX6_band_67
              · refine fm_iload (pc := 43) C dX6_band_43 rfl ?_
                refine fm_iconst (pc := 45) (v := (nI 1)) C dX6_band_45 (by decide) ?_
                refine fm_icmp_gt (pc := 46) (tgt := 61) C dX6_band_46 (by decide) (fun c8 => ?_) (fun c8 => ?_)
                · refine fm_aload_n (pc := 61) C dX6_band_61 rfl rfl ?_
                  refine fm_bipush (pc := 62) (v := (-6 : Int32)) C dX6_band_62 (by decide) ?_
                  refine fm_bind (fun r64 e64 => ?_)
                  refine fm_cVi (pc := 64) C (t_X6_no e64) ok_X6_no ⟨by decide, rfl⟩ m_ml_X6_95 dX6_band_64 ⟨Nat.le_of_ble_eq_true rfl, Nat.le_of_ble_eq_true rfl⟩ rfl rfl (Nat.le_of_ble_eq_true rfl) ?_
                  exact fm_zret (pc := 67) C hF rfl rfl dX6_band_67
                · refine fm_iload (pc := 49) C dX6_band_49 rfl ?_
                  refine fm_if_lt (pc := 51) (tgt := 61) C dX6_band_51 (by decide) (fun c9 => ?_) (fun c9 => ?_)
                  · refine fm_aload_n (pc := 61) C dX6_band_61 rfl rfl ?_
                    refine fm_bipush (pc := 62) (v := (-6 : Int32)) C dX6_band_62 (by decide) ?_
                    refine fm_bind (fun r64 e64 => ?_)
                    refine fm_cVi (pc := 64) C (t_X6_no e64) ok_X6_no ⟨by decide, rfl⟩ m_ml_X6_95 dX6_band_64 ⟨Nat.le_of_ble_eq_true rfl, Nat.le_of_ble_eq_true rfl⟩ rfl rfl (Nat.le_of_ble_eq_true rfl) ?_
                    exact fm_zret (pc := 67) C hF rfl rfl dX6_band_67
                  · refine fm_iload (pc := 54) C dX6_band_54 rfl ?_
                    refine fm_bipush (pc := 56) (v := (nI 9)) C dX6_band_56 (by decide) ?_
                    refine fm_icmp_le (pc := 58) (tgt := 68) C dX6_band_58 (by decide) (fun c10 => ?_) (fun c10 => ?_)
                    · refine fm_aload_n (pc := 68) C dX6_band_68 rfl rfl ?_
                      refine g6_bands (pc := 69) C (by decide) dX6_band_69 m_fl_X6_85 ?_
                      refine fm_bipush (pc := 72) (v := (nI 6)) C dX6_band_72 (by decide) ?_
                      refine fm_icmp_ne (pc := 74) (tgt := 86) C dX6_band_74 (by decide) (fun c11 => ?_) (fun c11 => ?_)
                      · refine fm_aload_n (pc := 77) C dX6_band_77 rfl rfl ?_
                        refine fm_bipush (pc := 78) (v := (-7 : Int32)) C dX6_band_78 (by decide) ?_
                        refine fm_bind (fun r80 e80 => ?_)
                        refine fm_cVi (pc := 80) C (t_X6_no e80) ok_X6_no ⟨by decide, rfl⟩ m_ml_X6_95 dX6_band_80 ⟨Nat.le_of_ble_eq_true rfl, Nat.le_of_ble_eq_true rfl⟩ rfl rfl (Nat.le_of_ble_eq_true rfl) ?_
                        refine fm_goto (pc := 83) (tgt := 97) C dX6_band_83 (by decide) ?_
                        exact fm_zret (pc := 97) C hF rfl rfl dX6_band_97
                      · refine fm_aload_n (pc := 86) C dX6_band_86 rfl rfl ?_
                        refine fm_iload_n (pc := 87) C dX6_band_87 rfl rfl ?_
                        refine fm_iload_n (pc := 88) C dX6_band_88 rfl rfl ?_
                        refine fm_iload_n (pc := 89) C dX6_band_89 rfl rfl ?_
                        refine fm_iload (pc := 90) C dX6_band_90 rfl ?_
                        refine fm_iload (pc := 92) C dX6_band_92 rfl ?_
                        refine fm_bind (fun r94 e94 => ?_)
                        refine fm_cVi (pc := 94) C (t_X6_adds e94) ok_X6_adds ⟨by decide, rfl⟩ m_ml_X6_109 dX6_band_94 ⟨Nat.le_of_ble_eq_true rfl, Nat.le_of_ble_eq_true rfl⟩ rfl rfl (Nat.le_of_ble_eq_true rfl) ?_
                        exact fm_zret (pc := 97) C hF rfl rfl dX6_band_97
                    · refine fm_aload_n (pc := 61) C dX6_band_61 rfl rfl ?_
                      refine fm_bipush (pc := 62) (v := (-6 : Int32)) C dX6_band_62 (by decide) ?_
                      refine fm_bind (fun r64 e64 => ?_)
                      refine fm_cVi (pc := 64) C (t_X6_no e64) ok_X6_no ⟨by decide, rfl⟩ m_ml_X6_95 dX6_band_64 ⟨Nat.le_of_ble_eq_true rfl, Nat.le_of_ble_eq_true rfl⟩ rfl rfl (Nat.le_of_ble_eq_true rfl) ?_
                      exact fm_zret (pc := 67) C hF rfl rfl dX6_band_67
    · refine fm_aload_n (pc := 10) C dX6_band_10 rfl rfl ?_
      refine fm_iconst (pc := 11) (v := (-1 : Int32)) C dX6_band_11 (by decide) ?_
      refine fm_bind (fun r12 e12 => ?_)
      refine fm_cVi (pc := 12) C (t_X6_no e12) ok_X6_no ⟨by decide, rfl⟩ m_ml_X6_95 dX6_band_12 ⟨Nat.le_of_ble_eq_true rfl, Nat.le_of_ble_eq_true rfl⟩ rfl rfl (Nat.le_of_ble_eq_true rfl) ?_
      exact fm_zret (pc := 15) C hF rfl rfl dX6_band_15
theorem t_X6_band {l : Launch} {G : fm_G} {v1 : Int32} {v2 : Int32} {v3 : Int32} {v4 : Int32} {v5 : Int32} {μ : fm_I} {ν : fm_L} {r : Int32 × fm_I × fm_L} (h : m_X6_band v1 v2 v3 v4 v5 μ ν = some r) : fm_Mi l G yX6_band cX6_band 6 (some .int) 2 38 [.ref (G.2.2.1 58), .int v1, .int v2, .int v3, .int v4, .int v5] μ ν r := fm_Mi_of (by decide +kernel) (Nat.le_of_ble_eq_true rfl) (fun _ C => j_X6_band C rfl r h)
theorem dX6_bandOf_0 : decode cX6_bandOf 0 = .ok (.aload_n 0, 1) := by decide +kernel
theorem dX6_bandOf_1 : decode cX6_bandOf 1 = .ok (.iload_n 1, 1) := by decide +kernel
theorem dX6_bandOf_2 : decode cX6_bandOf 2 = .ok (.invokevirtual 88, 3) := by decide +kernel
theorem dX6_bandOf_5 : decode cX6_bandOf 5 = .ok (.ifCond .ne 10, 3) := by decide +kernel
theorem dX6_bandOf_8 : decode cX6_bandOf 8 = .ok (.aload_n 0, 1) := by decide +kernel
theorem dX6_bandOf_9 : decode cX6_bandOf 9 = .ok (.bipush (-5), 2) := by decide +kernel
theorem dX6_bandOf_11 : decode cX6_bandOf 11 = .ok (.invokevirtual 95, 3) := by decide +kernel
theorem dX6_bandOf_14 : decode cX6_bandOf 14 = .ok (.ireturn, 1) := by decide +kernel
theorem dX6_bandOf_15 : decode cX6_bandOf 15 = .ok (.iload_n 2, 1) := by decide +kernel
theorem dX6_bandOf_16 : decode cX6_bandOf 16 = .ok (.bipush 10, 2) := by decide +kernel
theorem dX6_bandOf_18 : decode cX6_bandOf 18 = .ok (.if_icmp .lt 30, 3) := by decide +kernel
theorem dX6_bandOf_21 : decode cX6_bandOf 21 = .ok (.aload_n 0, 1) := by decide +kernel
theorem dX6_bandOf_22 : decode cX6_bandOf 22 = .ok (.iload_n 1, 1) := by decide +kernel
theorem dX6_bandOf_23 : decode cX6_bandOf 23 = .ok (.iload_n 2, 1) := by decide +kernel
theorem dX6_bandOf_24 : decode cX6_bandOf 24 = .ok (.bipush 10, 2) := by decide +kernel
theorem dX6_bandOf_26 : decode cX6_bandOf 26 = .ok (.isub, 1) := by decide +kernel
theorem dX6_bandOf_27 : decode cX6_bandOf 27 = .ok (.invokevirtual 113, 3) := by decide +kernel
theorem dX6_bandOf_30 : decode cX6_bandOf 30 = .ok (.ifCond .eq 18, 3) := by decide +kernel
theorem dX6_bandOf_33 : decode cX6_bandOf 33 = .ok (.aload_n 0, 1) := by decide +kernel
theorem dX6_bandOf_34 : decode cX6_bandOf 34 = .ok (.getfield 35, 3) := by decide +kernel
theorem dX6_bandOf_37 : decode cX6_bandOf 37 = .ok (.bipush 12, 2) := by decide +kernel
theorem dX6_bandOf_39 : decode cX6_bandOf 39 = .ok (.iload_n 1, 1) := by decide +kernel
theorem dX6_bandOf_40 : decode cX6_bandOf 40 = .ok (.imul, 1) := by decide +kernel
theorem dX6_bandOf_41 : decode cX6_bandOf 41 = .ok (.iload_n 2, 1) := by decide +kernel
theorem dX6_bandOf_42 : decode cX6_bandOf 42 = .ok (.iadd, 1) := by decide +kernel
theorem dX6_bandOf_43 : decode cX6_bandOf 43 = .ok (.bipush 10, 2) := by decide +kernel
theorem dX6_bandOf_45 : decode cX6_bandOf 45 = .ok (.isub, 1) := by decide +kernel
theorem dX6_bandOf_46 : decode cX6_bandOf 46 = .ok (.iaload, 1) := by decide +kernel
theorem dX6_bandOf_47 : decode cX6_bandOf 47 = .ok (.ireturn, 1) := by decide +kernel
theorem dX6_bandOf_48 : decode cX6_bandOf 48 = .ok (.iload_n 2, 1) := by decide +kernel
theorem dX6_bandOf_49 : decode cX6_bandOf 49 = .ok (.tableswitch 70 0 4 #[35, 42, 49, 56, 63], 35) := by decide +kernel
theorem dX6_bandOf_84 : decode cX6_bandOf 84 = .ok (.aload_n 0, 1) := by decide +kernel
theorem dX6_bandOf_85 : decode cX6_bandOf 85 = .ok (.getfield 20, 3) := by decide +kernel
theorem dX6_bandOf_88 : decode cX6_bandOf 88 = .ok (.iload_n 1, 1) := by decide +kernel
theorem dX6_bandOf_89 : decode cX6_bandOf 89 = .ok (.iaload, 1) := by decide +kernel
theorem dX6_bandOf_90 : decode cX6_bandOf 90 = .ok (.ireturn, 1) := by decide +kernel
theorem dX6_bandOf_91 : decode cX6_bandOf 91 = .ok (.aload_n 0, 1) := by decide +kernel
theorem dX6_bandOf_92 : decode cX6_bandOf 92 = .ok (.getfield 23, 3) := by decide +kernel
theorem dX6_bandOf_95 : decode cX6_bandOf 95 = .ok (.iload_n 1, 1) := by decide +kernel
theorem dX6_bandOf_96 : decode cX6_bandOf 96 = .ok (.iaload, 1) := by decide +kernel
theorem dX6_bandOf_97 : decode cX6_bandOf 97 = .ok (.ireturn, 1) := by decide +kernel
theorem dX6_bandOf_98 : decode cX6_bandOf 98 = .ok (.aload_n 0, 1) := by decide +kernel
theorem dX6_bandOf_99 : decode cX6_bandOf 99 = .ok (.getfield 26, 3) := by decide +kernel
theorem dX6_bandOf_102 : decode cX6_bandOf 102 = .ok (.iload_n 1, 1) := by decide +kernel
theorem dX6_bandOf_103 : decode cX6_bandOf 103 = .ok (.iaload, 1) := by decide +kernel
theorem dX6_bandOf_104 : decode cX6_bandOf 104 = .ok (.ireturn, 1) := by decide +kernel
theorem dX6_bandOf_105 : decode cX6_bandOf 105 = .ok (.aload_n 0, 1) := by decide +kernel
theorem dX6_bandOf_106 : decode cX6_bandOf 106 = .ok (.getfield 29, 3) := by decide +kernel
theorem dX6_bandOf_109 : decode cX6_bandOf 109 = .ok (.iload_n 1, 1) := by decide +kernel
theorem dX6_bandOf_110 : decode cX6_bandOf 110 = .ok (.iaload, 1) := by decide +kernel
theorem dX6_bandOf_111 : decode cX6_bandOf 111 = .ok (.ireturn, 1) := by decide +kernel
theorem dX6_bandOf_112 : decode cX6_bandOf 112 = .ok (.aload_n 0, 1) := by decide +kernel
theorem dX6_bandOf_113 : decode cX6_bandOf 113 = .ok (.getfield 32, 3) := by decide +kernel
theorem dX6_bandOf_116 : decode cX6_bandOf 116 = .ok (.iload_n 1, 1) := by decide +kernel
theorem dX6_bandOf_117 : decode cX6_bandOf 117 = .ok (.iaload, 1) := by decide +kernel
theorem dX6_bandOf_118 : decode cX6_bandOf 118 = .ok (.ireturn, 1) := by decide +kernel
theorem dX6_bandOf_119 : decode cX6_bandOf 119 = .ok (.aload_n 0, 1) := by decide +kernel
theorem dX6_bandOf_120 : decode cX6_bandOf 120 = .ok (.bipush (-5), 2) := by decide +kernel
theorem dX6_bandOf_122 : decode cX6_bandOf 122 = .ok (.invokevirtual 95, 3) := by decide +kernel
theorem dX6_bandOf_125 : decode cX6_bandOf 125 = .ok (.ireturn, 1) := by decide +kernel
def m_X6_bandOf (v1 : Int32) (v2 : Int32) (μ : fm_I) (ν : fm_L) : Option (Int32 × fm_I × fm_L) :=
  (m_X6_isBand v1 μ ν).bind (fun r2 => if r2 = 0 then (m_X6_no ((-5 : Int32)) μ ν).bind (fun r11 => some ((r11.1, r11.2.1, r11.2.2))) else if v2 < (nI 10) then if v2 = (nI 0) then fm_g (fm_in v1 (fm_n 60)) (some (((μ 60 v1.toNatClampNeg), μ, ν))) else if v2 = (nI 1) then fm_g (fm_in v1 (fm_n 61)) (some (((μ 61 v1.toNatClampNeg), μ, ν))) else if v2 = (nI 2) then fm_g (fm_in v1 (fm_n 62)) (some (((μ 62 v1.toNatClampNeg), μ, ν))) else if v2 = (nI 3) then fm_g (fm_in v1 (fm_n 63)) (some (((μ 63 v1.toNatClampNeg), μ, ν))) else if v2 = (nI 4) then fm_g (fm_in v1 (fm_n 64)) (some (((μ 64 v1.toNatClampNeg), μ, ν))) else (m_X6_no ((-5 : Int32)) μ ν).bind (fun r122 => some ((r122.1, r122.2.1, r122.2.2))) else (m_X6_isStrip v1 ((v2 - ((nI 10)))) μ ν).bind (fun r27 => if r27 = 0 then if v2 = (nI 0) then fm_g (fm_in v1 (fm_n 60)) (some (((μ 60 v1.toNatClampNeg), μ, ν))) else if v2 = (nI 1) then fm_g (fm_in v1 (fm_n 61)) (some (((μ 61 v1.toNatClampNeg), μ, ν))) else if v2 = (nI 2) then fm_g (fm_in v1 (fm_n 62)) (some (((μ 62 v1.toNatClampNeg), μ, ν))) else if v2 = (nI 3) then fm_g (fm_in v1 (fm_n 63)) (some (((μ 63 v1.toNatClampNeg), μ, ν))) else if v2 = (nI 4) then fm_g (fm_in v1 (fm_n 64)) (some (((μ 64 v1.toNatClampNeg), μ, ν))) else (m_X6_no ((-5 : Int32)) μ ν).bind (fun r122 => some ((r122.1, r122.2.1, r122.2.2))) else fm_g (fm_in ((((((((nI 12)) * v1)) + v2)) - ((nI 10)))) (fm_n 65)) (some (((μ 65 ((((((((nI 12)) * v1)) + v2)) - ((nI 10)))).toNatClampNeg), μ, ν)))))
theorem ok_X6_bandOf : fm_okV yX6_bandOf cX6_bandOf 3 (some .int) 2 := ⟨m_cd_X6_bandOf, m_im_X6_bandOf, m_se_X6_X6_bandOf, m_ini_X6, by decide +kernel, by decide +kernel, by decide +kernel⟩
set_option maxHeartbeats 4000000 in
set_option maxRecDepth 100000 in
theorem j_X6_bandOf {X : fm_X} {G : fm_G} {l : Launch} {v1 : Int32} {v2 : Int32} {μ : fm_I} {ν : fm_L} (C : fm_C X G l cX6_bandOf RX6 3 (some .int) 3 55) {F : (Int32 × fm_I × fm_L) → State → Prop} (hF : F = fm_Qi X G) : fm_J X G 3 F (m_X6_bandOf v1 v2 μ ν) μ ν 0 [(0, .ref (G.2.2.1 58)), (1, .int v1), (2, .int v2)] [] := by
  unfold m_X6_bandOf
  refine fm_aload_n (pc := 0) C dX6_bandOf_0 rfl rfl ?_
  refine fm_iload_n (pc := 1) C dX6_bandOf_1 rfl rfl ?_
  refine fm_bind (fun r2 e2 => ?_)
  refine fm_cVi0 (pc := 2) C (t_X6_isBand e2) ok_X6_isBand ⟨by decide, rfl⟩ m_ml_X6_88 dX6_bandOf_2 ⟨Nat.le_of_ble_eq_true rfl, Nat.le_of_ble_eq_true rfl⟩ rfl rfl (Nat.le_of_ble_eq_true rfl) ?_
  refine fm_if_ne (pc := 5) (tgt := 15) C dX6_bandOf_5 (by decide) (fun c1 => ?_) (fun c1 => ?_)
  · refine fm_aload_n (pc := 8) C dX6_bandOf_8 rfl rfl ?_
    refine fm_bipush (pc := 9) (v := (-5 : Int32)) C dX6_bandOf_9 (by decide) ?_
    refine fm_bind (fun r11 e11 => ?_)
    refine fm_cVi (pc := 11) C (t_X6_no e11) ok_X6_no ⟨by decide, rfl⟩ m_ml_X6_95 dX6_bandOf_11 ⟨Nat.le_of_ble_eq_true rfl, Nat.le_of_ble_eq_true rfl⟩ rfl rfl (Nat.le_of_ble_eq_true rfl) ?_
    exact fm_zret (pc := 14) C hF rfl rfl dX6_bandOf_14
  · refine fm_iload_n (pc := 15) C dX6_bandOf_15 rfl rfl ?_
    refine fm_bipush (pc := 16) (v := (nI 10)) C dX6_bandOf_16 (by decide) ?_
    refine fm_icmp_lt (pc := 18) (tgt := 48) C dX6_bandOf_18 (by decide) (fun c2 => ?_) (fun c2 => ?_)
    · refine fm_iload_n (pc := 48) C dX6_bandOf_48 rfl rfl ?_
      refine fm_ite (fun s3 => ?_) (fun s3 => ?_)
      · refine fm_tabIn (pc := 49) (tgt := 84) (off := 35) C dX6_bandOf_49 (by rw [s3]; decide) (by rw [s3]; decide) (by rw [s3]; decide) (by decide) ?_
        refine fm_aload_n (pc := 84) C dX6_bandOf_84 rfl rfl ?_
        refine g6_kind (pc := 85) C (by decide) dX6_bandOf_85 m_fl_X6_20 ?_
        refine fm_iload_n (pc := 88) C dX6_bandOf_88 rfl rfl ?_
        refine fm_guard (fun h4 => ?_)
        refine fm_iald (pc := 89) C (by decide) h4 dX6_bandOf_89 ?_
        exact fm_zret (pc := 90) C hF rfl rfl dX6_bandOf_90
      · refine fm_ite (fun s5 => ?_) (fun s5 => ?_)
        · refine fm_tabIn (pc := 49) (tgt := 91) (off := 42) C dX6_bandOf_49 (by rw [s5]; decide) (by rw [s5]; decide) (by rw [s5]; decide) (by decide) ?_
          refine fm_aload_n (pc := 91) C dX6_bandOf_91 rfl rfl ?_
          refine g6_twists (pc := 92) C (by decide) dX6_bandOf_92 m_fl_X6_23 ?_
          refine fm_iload_n (pc := 95) C dX6_bandOf_95 rfl rfl ?_
          refine fm_guard (fun h6 => ?_)
          refine fm_iald (pc := 96) C (by decide) h6 dX6_bandOf_96 ?_
          exact fm_zret (pc := 97) C hF rfl rfl dX6_bandOf_97
        · refine fm_ite (fun s7 => ?_) (fun s7 => ?_)
          · refine fm_tabIn (pc := 49) (tgt := 98) (off := 49) C dX6_bandOf_49 (by rw [s7]; decide) (by rw [s7]; decide) (by rw [s7]; decide) (by decide) ?_
            refine fm_aload_n (pc := 98) C dX6_bandOf_98 rfl rfl ?_
            refine g6_strips (pc := 99) C (by decide) dX6_bandOf_99 m_fl_X6_26 ?_
            refine fm_iload_n (pc := 102) C dX6_bandOf_102 rfl rfl ?_
            refine fm_guard (fun h8 => ?_)
            refine fm_iald (pc := 103) C (by decide) h8 dX6_bandOf_103 ?_
            exact fm_zret (pc := 104) C hF rfl rfl dX6_bandOf_104
          · refine fm_ite (fun s9 => ?_) (fun s9 => ?_)
            · refine fm_tabIn (pc := 49) (tgt := 105) (off := 56) C dX6_bandOf_49 (by rw [s9]; decide) (by rw [s9]; decide) (by rw [s9]; decide) (by decide) ?_
              refine fm_aload_n (pc := 105) C dX6_bandOf_105 rfl rfl ?_
              refine g6_hand (pc := 106) C (by decide) dX6_bandOf_106 m_fl_X6_29 ?_
              refine fm_iload_n (pc := 109) C dX6_bandOf_109 rfl rfl ?_
              refine fm_guard (fun h10 => ?_)
              refine fm_iald (pc := 110) C (by decide) h10 dX6_bandOf_110 ?_
              exact fm_zret (pc := 111) C hF rfl rfl dX6_bandOf_111
            · refine fm_ite (fun s11 => ?_) (fun s11 => ?_)
              · refine fm_tabIn (pc := 49) (tgt := 112) (off := 63) C dX6_bandOf_49 (by rw [s11]; decide) (by rw [s11]; decide) (by rw [s11]; decide) (by decide) ?_
                refine fm_aload_n (pc := 112) C dX6_bandOf_112 rfl rfl ?_
                refine g6_part (pc := 113) C (by decide) dX6_bandOf_113 m_fl_X6_32 ?_
                refine fm_iload_n (pc := 116) C dX6_bandOf_116 rfl rfl ?_
                refine fm_guard (fun h12 => ?_)
                refine fm_iald (pc := 117) C (by decide) h12 dX6_bandOf_117 ?_
                exact fm_zret (pc := 118) C hF rfl rfl dX6_bandOf_118
              · refine fm_tabOut (pc := 49) (tgt := 119) C dX6_bandOf_49 (by have a0 := fm_ne (nI 0) (k := 0) (by decide) s3; have a1 := fm_ne (nI 1) (k := 1) (by decide) s5; have a2 := fm_ne (nI 2) (k := 2) (by decide) s7; have a3 := fm_ne (nI 3) (k := 3) (by decide) s9; have a4 := fm_ne (nI 4) (k := 4) (by decide) s11; omega) (by decide) ?_
                refine fm_aload_n (pc := 119) C dX6_bandOf_119 rfl rfl ?_
                refine fm_bipush (pc := 120) (v := (-5 : Int32)) C dX6_bandOf_120 (by decide) ?_
                refine fm_bind (fun r122 e122 => ?_)
                refine fm_cVi (pc := 122) C (t_X6_no e122) ok_X6_no ⟨by decide, rfl⟩ m_ml_X6_95 dX6_bandOf_122 ⟨Nat.le_of_ble_eq_true rfl, Nat.le_of_ble_eq_true rfl⟩ rfl rfl (Nat.le_of_ble_eq_true rfl) ?_
                exact fm_zret (pc := 125) C hF rfl rfl dX6_bandOf_125
    · refine fm_aload_n (pc := 21) C dX6_bandOf_21 rfl rfl ?_
      refine fm_iload_n (pc := 22) C dX6_bandOf_22 rfl rfl ?_
      refine fm_iload_n (pc := 23) C dX6_bandOf_23 rfl rfl ?_
      refine fm_bipush (pc := 24) (v := (nI 10)) C dX6_bandOf_24 (by decide) ?_
      refine fm_isub (pc := 26) C dX6_bandOf_26 ?_
      refine fm_bind (fun r27 e27 => ?_)
      refine fm_cVi0 (pc := 27) C (t_X6_isStrip e27) ok_X6_isStrip ⟨by decide, rfl⟩ m_ml_X6_113 dX6_bandOf_27 ⟨Nat.le_of_ble_eq_true rfl, Nat.le_of_ble_eq_true rfl⟩ rfl rfl (Nat.le_of_ble_eq_true rfl) ?_
      refine fm_if_eq (pc := 30) (tgt := 48) C dX6_bandOf_30 (by decide) (fun c13 => ?_) (fun c13 => ?_)
      · refine fm_iload_n (pc := 48) C dX6_bandOf_48 rfl rfl ?_
        refine fm_ite (fun s14 => ?_) (fun s14 => ?_)
        · refine fm_tabIn (pc := 49) (tgt := 84) (off := 35) C dX6_bandOf_49 (by rw [s14]; decide) (by rw [s14]; decide) (by rw [s14]; decide) (by decide) ?_
          refine fm_aload_n (pc := 84) C dX6_bandOf_84 rfl rfl ?_
          refine g6_kind (pc := 85) C (by decide) dX6_bandOf_85 m_fl_X6_20 ?_
          refine fm_iload_n (pc := 88) C dX6_bandOf_88 rfl rfl ?_
          refine fm_guard (fun h15 => ?_)
          refine fm_iald (pc := 89) C (by decide) h15 dX6_bandOf_89 ?_
          exact fm_zret (pc := 90) C hF rfl rfl dX6_bandOf_90
        · refine fm_ite (fun s16 => ?_) (fun s16 => ?_)
          · refine fm_tabIn (pc := 49) (tgt := 91) (off := 42) C dX6_bandOf_49 (by rw [s16]; decide) (by rw [s16]; decide) (by rw [s16]; decide) (by decide) ?_
            refine fm_aload_n (pc := 91) C dX6_bandOf_91 rfl rfl ?_
            refine g6_twists (pc := 92) C (by decide) dX6_bandOf_92 m_fl_X6_23 ?_
            refine fm_iload_n (pc := 95) C dX6_bandOf_95 rfl rfl ?_
            refine fm_guard (fun h17 => ?_)
            refine fm_iald (pc := 96) C (by decide) h17 dX6_bandOf_96 ?_
            exact fm_zret (pc := 97) C hF rfl rfl dX6_bandOf_97
          · refine fm_ite (fun s18 => ?_) (fun s18 => ?_)
            · refine fm_tabIn (pc := 49) (tgt := 98) (off := 49) C dX6_bandOf_49 (by rw [s18]; decide) (by rw [s18]; decide) (by rw [s18]; decide) (by decide) ?_
              refine fm_aload_n (pc := 98) C dX6_bandOf_98 rfl rfl ?_
              refine g6_strips (pc := 99) C (by decide) dX6_bandOf_99 m_fl_X6_26 ?_
              refine fm_iload_n (pc := 102) C dX6_bandOf_102 rfl rfl ?_
              refine fm_guard (fun h19 => ?_)
              refine fm_iald (pc := 103) C (by decide) h19 dX6_bandOf_103 ?_
              exact fm_zret (pc := 104) C hF rfl rfl dX6_bandOf_104
            · refine fm_ite (fun s20 => ?_) (fun s20 => ?_)
              · refine fm_tabIn (pc := 49) (tgt := 105) (off := 56) C dX6_bandOf_49 (by rw [s20]; decide) (by rw [s20]; decide) (by rw [s20]; decide) (by decide) ?_
                refine fm_aload_n (pc := 105) C dX6_bandOf_105 rfl rfl ?_
                refine g6_hand (pc := 106) C (by decide) dX6_bandOf_106 m_fl_X6_29 ?_
                refine fm_iload_n (pc := 109) C dX6_bandOf_109 rfl rfl ?_
                refine fm_guard (fun h21 => ?_)
                refine fm_iald (pc := 110) C (by decide) h21 dX6_bandOf_110 ?_
                exact fm_zret (pc := 111) C hF rfl rfl dX6_bandOf_111
              · refine fm_ite (fun s22 => ?_) (fun s22 => ?_)
                · refine fm_tabIn (pc := 49) (tgt := 112) (off := 63) C dX6_bandOf_49 (by rw [s22]; decide) (by rw [s22]; decide) (by rw [s22]; decide) (by decide) ?_
                  refine fm_aload_n (pc := 112) C dX6_bandOf_112 rfl rfl ?_
                  refine g6_part (pc := 113) C (by decide) dX6_bandOf_113 m_fl_X6_32 ?_
                  refine fm_iload_n (pc := 116) C dX6_bandOf_116 rfl rfl ?_
                  refine fm_guard (fun h23 => ?_)
                  refine fm_iald (pc := 117) C (by decide) h23 dX6_bandOf_117 ?_
                  exact fm_zret (pc := 118) C hF rfl rfl dX6_bandOf_118
                · refine fm_tabOut (pc := 49) (tgt := 119) C dX6_bandOf_49 (by have a0 := fm_ne (nI 0) (k := 0) (by decide) s14; have a1 := fm_ne (nI 1) (k := 1) (by decide) s16; have a2 := fm_ne (nI 2) (k := 2) (by decide) s18; have a3 := fm_ne (nI 3) (k := 3) (by decide) s20; have a4 := fm_ne (nI 4) (k := 4) (by decide) s22; omega) (by decide) ?_
                  refine fm_aload_n (pc := 119) C dX6_bandOf_119 rfl rfl ?_
                  refine fm_bipush (pc := 120) (v := (-5 : Int32)) C dX6_bandOf_120 (by decide) ?_
                  refine fm_bind (fun r122 e122 => ?_)
                  refine fm_cVi (pc := 122) C (t_X6_no e122) ok_X6_no ⟨by decide, rfl⟩ m_ml_X6_95 dX6_bandOf_122 ⟨Nat.le_of_ble_eq_true rfl, Nat.le_of_ble_eq_true rfl⟩ rfl rfl (Nat.le_of_ble_eq_true rfl) ?_
                  exact fm_zret (pc := 125) C hF rfl rfl dX6_bandOf_125
      · refine fm_aload_n (pc := 33) C dX6_bandOf_33 rfl rfl ?_
        refine g6_colour (pc := 34) C (by decide) dX6_bandOf_34 m_fl_X6_35 ?_
        refine fm_bipush (pc := 37) (v := (nI 12)) C dX6_bandOf_37 (by decide) ?_
        refine fm_iload_n (pc := 39) C dX6_bandOf_39 rfl rfl ?_
        refine fm_imul (pc := 40) C dX6_bandOf_40 ?_
        refine fm_iload_n (pc := 41) C dX6_bandOf_41 rfl rfl ?_
        refine fm_iadd (pc := 42) C dX6_bandOf_42 ?_
        refine fm_bipush (pc := 43) (v := (nI 10)) C dX6_bandOf_43 (by decide) ?_
        refine fm_isub (pc := 45) C dX6_bandOf_45 ?_
        refine fm_guard (fun h24 => ?_)
        refine fm_iald (pc := 46) C (by decide) h24 dX6_bandOf_46 ?_
        exact fm_zret (pc := 47) C hF rfl rfl dX6_bandOf_47
theorem t_X6_bandOf {l : Launch} {G : fm_G} {v1 : Int32} {v2 : Int32} {μ : fm_I} {ν : fm_L} {r : Int32 × fm_I × fm_L} (h : m_X6_bandOf v1 v2 μ ν = some r) : fm_Mi l G yX6_bandOf cX6_bandOf 3 (some .int) 3 55 [.ref (G.2.2.1 58), .int v1, .int v2] μ ν r := fm_Mi_of (by decide +kernel) (Nat.le_of_ble_eq_true rfl) (fun _ C => j_X6_bandOf C rfl r h)
theorem dX6_twist_0 : decode cX6_twist 0 = .ok (.aload_n 0, 1) := by decide +kernel
theorem dX6_twist_1 : decode cX6_twist 1 = .ok (.iload_n 1, 1) := by decide +kernel
theorem dX6_twist_2 : decode cX6_twist 2 = .ok (.invokevirtual 88, 3) := by decide +kernel
theorem dX6_twist_5 : decode cX6_twist 5 = .ok (.ifCond .ne 9, 3) := by decide +kernel
theorem dX6_twist_8 : decode cX6_twist 8 = .ok (.aload_n 0, 1) := by decide +kernel
theorem dX6_twist_9 : decode cX6_twist 9 = .ok (.iconst (-1), 1) := by decide +kernel
theorem dX6_twist_10 : decode cX6_twist 10 = .ok (.invokevirtual 95, 3) := by decide +kernel
theorem dX6_twist_13 : decode cX6_twist 13 = .ok (.ireturn, 1) := by decide +kernel
theorem dX6_twist_14 : decode cX6_twist 14 = .ok (.iload_n 2, 1) := by decide +kernel
theorem dX6_twist_15 : decode cX6_twist 15 = .ok (.ifCond .lt 10, 3) := by decide +kernel
theorem dX6_twist_18 : decode cX6_twist 18 = .ok (.iload_n 2, 1) := by decide +kernel
theorem dX6_twist_19 : decode cX6_twist 19 = .ok (.sipush 9999, 3) := by decide +kernel
theorem dX6_twist_22 : decode cX6_twist 22 = .ok (.if_icmp .le 10, 3) := by decide +kernel
theorem dX6_twist_25 : decode cX6_twist 25 = .ok (.aload_n 0, 1) := by decide +kernel
theorem dX6_twist_26 : decode cX6_twist 26 = .ok (.bipush (-6), 2) := by decide +kernel
theorem dX6_twist_28 : decode cX6_twist 28 = .ok (.invokevirtual 95, 3) := by decide +kernel
theorem dX6_twist_31 : decode cX6_twist 31 = .ok (.ireturn, 1) := by decide +kernel
theorem dX6_twist_32 : decode cX6_twist 32 = .ok (.aload_n 0, 1) := by decide +kernel
theorem dX6_twist_33 : decode cX6_twist 33 = .ok (.getfield 23, 3) := by decide +kernel
theorem dX6_twist_36 : decode cX6_twist 36 = .ok (.iload_n 1, 1) := by decide +kernel
theorem dX6_twist_37 : decode cX6_twist 37 = .ok (.iaload, 1) := by decide +kernel
theorem dX6_twist_38 : decode cX6_twist 38 = .ok (.istore_n 3, 1) := by decide +kernel
theorem dX6_twist_39 : decode cX6_twist 39 = .ok (.aload_n 0, 1) := by decide +kernel
theorem dX6_twist_40 : decode cX6_twist 40 = .ok (.getfield 23, 3) := by decide +kernel
theorem dX6_twist_43 : decode cX6_twist 43 = .ok (.iload_n 1, 1) := by decide +kernel
theorem dX6_twist_44 : decode cX6_twist 44 = .ok (.iload_n 2, 1) := by decide +kernel
theorem dX6_twist_45 : decode cX6_twist 45 = .ok (.iastore, 1) := by decide +kernel
theorem dX6_twist_46 : decode cX6_twist 46 = .ok (.iload_n 3, 1) := by decide +kernel
theorem dX6_twist_47 : decode cX6_twist 47 = .ok (.ireturn, 1) := by decide +kernel
def m_X6_twist (v1 : Int32) (v2 : Int32) (μ : fm_I) (ν : fm_L) : Option (Int32 × fm_I × fm_L) :=
  (m_X6_isBand v1 μ ν).bind (fun r2 => if r2 = 0 then (m_X6_no ((-1 : Int32)) μ ν).bind (fun r10 => some ((r10.1, r10.2.1, r10.2.2))) else if v2 < 0 then (m_X6_no ((-6 : Int32)) μ ν).bind (fun r28 => some ((r28.1, r28.2.1, r28.2.2))) else if v2 ≤ (nI 9999) then fm_g (fm_in v1 (fm_n 61)) (some (((μ 61 v1.toNatClampNeg), (fm_u μ 61 v1.toNatClampNeg v2), ν))) else (m_X6_no ((-6 : Int32)) μ ν).bind (fun r28 => some ((r28.1, r28.2.1, r28.2.2))))
theorem ok_X6_twist : fm_okV yX6_twist cX6_twist 4 (some .int) 2 := ⟨m_cd_X6_twist, m_im_X6_twist, m_se_X6_X6_twist, m_ini_X6, by decide +kernel, by decide +kernel, by decide +kernel⟩
set_option maxHeartbeats 4000000 in
set_option maxRecDepth 100000 in
theorem j_X6_twist {X : fm_X} {G : fm_G} {l : Launch} {v1 : Int32} {v2 : Int32} {μ : fm_I} {ν : fm_L} (C : fm_C X G l cX6_twist RX6 4 (some .int) 2 33) {F : (Int32 × fm_I × fm_L) → State → Prop} (hF : F = fm_Qi X G) : fm_J X G 4 F (m_X6_twist v1 v2 μ ν) μ ν 0 [(0, .ref (G.2.2.1 58)), (1, .int v1), (2, .int v2)] [] := by
  unfold m_X6_twist
  refine fm_aload_n (pc := 0) C dX6_twist_0 rfl rfl ?_
  refine fm_iload_n (pc := 1) C dX6_twist_1 rfl rfl ?_
  refine fm_bind (fun r2 e2 => ?_)
  refine fm_cVi0 (pc := 2) C (t_X6_isBand e2) ok_X6_isBand ⟨by decide, rfl⟩ m_ml_X6_88 dX6_twist_2 ⟨Nat.le_of_ble_eq_true rfl, Nat.le_of_ble_eq_true rfl⟩ rfl rfl (Nat.le_of_ble_eq_true rfl) ?_
  refine fm_if_ne (pc := 5) (tgt := 14) C dX6_twist_5 (by decide) (fun c1 => ?_) (fun c1 => ?_)
  · refine fm_aload_n (pc := 8) C dX6_twist_8 rfl rfl ?_
    refine fm_iconst (pc := 9) (v := (-1 : Int32)) C dX6_twist_9 (by decide) ?_
    refine fm_bind (fun r10 e10 => ?_)
    refine fm_cVi (pc := 10) C (t_X6_no e10) ok_X6_no ⟨by decide, rfl⟩ m_ml_X6_95 dX6_twist_10 ⟨Nat.le_of_ble_eq_true rfl, Nat.le_of_ble_eq_true rfl⟩ rfl rfl (Nat.le_of_ble_eq_true rfl) ?_
    exact fm_zret (pc := 13) C hF rfl rfl dX6_twist_13
  · refine fm_iload_n (pc := 14) C dX6_twist_14 rfl rfl ?_
    refine fm_if_lt (pc := 15) (tgt := 25) C dX6_twist_15 (by decide) (fun c2 => ?_) (fun c2 => ?_)
    · refine fm_aload_n (pc := 25) C dX6_twist_25 rfl rfl ?_
      refine fm_bipush (pc := 26) (v := (-6 : Int32)) C dX6_twist_26 (by decide) ?_
      refine fm_bind (fun r28 e28 => ?_)
      refine fm_cVi (pc := 28) C (t_X6_no e28) ok_X6_no ⟨by decide, rfl⟩ m_ml_X6_95 dX6_twist_28 ⟨Nat.le_of_ble_eq_true rfl, Nat.le_of_ble_eq_true rfl⟩ rfl rfl (Nat.le_of_ble_eq_true rfl) ?_
      exact fm_zret (pc := 31) C hF rfl rfl dX6_twist_31
    · refine fm_iload_n (pc := 18) C dX6_twist_18 rfl rfl ?_
      refine fm_sipush (pc := 19) (v := (nI 9999)) C dX6_twist_19 (by decide) ?_
      refine fm_icmp_le (pc := 22) (tgt := 32) C dX6_twist_22 (by decide) (fun c3 => ?_) (fun c3 => ?_)
      · refine fm_aload_n (pc := 32) C dX6_twist_32 rfl rfl ?_
        refine g6_twists (pc := 33) C (by decide) dX6_twist_33 m_fl_X6_23 ?_
        refine fm_iload_n (pc := 36) C dX6_twist_36 rfl rfl ?_
        refine fm_guard (fun h4 => ?_)
        refine fm_iald (pc := 37) C (by decide) h4 dX6_twist_37 ?_
        refine fm_istore_n (pc := 38) C dX6_twist_38 rfl (by decide) rfl ?_
        refine fm_aload_n (pc := 39) C dX6_twist_39 rfl rfl ?_
        refine g6_twists (pc := 40) C (by decide) dX6_twist_40 m_fl_X6_23 ?_
        refine fm_iload_n (pc := 43) C dX6_twist_43 rfl rfl ?_
        refine fm_iload_n (pc := 44) C dX6_twist_44 rfl rfl ?_
        refine fm_iast (pc := 45) C (by decide) h4 dX6_twist_45 ?_
        refine fm_iload_n (pc := 46) C dX6_twist_46 rfl rfl ?_
        exact fm_zret (pc := 47) C hF rfl rfl dX6_twist_47
      · refine fm_aload_n (pc := 25) C dX6_twist_25 rfl rfl ?_
        refine fm_bipush (pc := 26) (v := (-6 : Int32)) C dX6_twist_26 (by decide) ?_
        refine fm_bind (fun r28 e28 => ?_)
        refine fm_cVi (pc := 28) C (t_X6_no e28) ok_X6_no ⟨by decide, rfl⟩ m_ml_X6_95 dX6_twist_28 ⟨Nat.le_of_ble_eq_true rfl, Nat.le_of_ble_eq_true rfl⟩ rfl rfl (Nat.le_of_ble_eq_true rfl) ?_
        exact fm_zret (pc := 31) C hF rfl rfl dX6_twist_31
theorem t_X6_twist {l : Launch} {G : fm_G} {v1 : Int32} {v2 : Int32} {μ : fm_I} {ν : fm_L} {r : Int32 × fm_I × fm_L} (h : m_X6_twist v1 v2 μ ν = some r) : fm_Mi l G yX6_twist cX6_twist 4 (some .int) 2 33 [.ref (G.2.2.1 58), .int v1, .int v2] μ ν r := fm_Mi_of (by decide +kernel) (Nat.le_of_ble_eq_true rfl) (fun _ C => j_X6_twist C rfl r h)
theorem dX6_turn_0 : decode cX6_turn 0 = .ok (.aload_n 0, 1) := by decide +kernel
theorem dX6_turn_1 : decode cX6_turn 1 = .ok (.iload_n 1, 1) := by decide +kernel
theorem dX6_turn_2 : decode cX6_turn 2 = .ok (.invokevirtual 88, 3) := by decide +kernel
theorem dX6_turn_5 : decode cX6_turn 5 = .ok (.ifCond .ne 9, 3) := by decide +kernel
theorem dX6_turn_8 : decode cX6_turn 8 = .ok (.aload_n 0, 1) := by decide +kernel
theorem dX6_turn_9 : decode cX6_turn 9 = .ok (.iconst (-1), 1) := by decide +kernel
theorem dX6_turn_10 : decode cX6_turn 10 = .ok (.invokevirtual 95, 3) := by decide +kernel
theorem dX6_turn_13 : decode cX6_turn 13 = .ok (.ireturn, 1) := by decide +kernel
theorem dX6_turn_14 : decode cX6_turn 14 = .ok (.aload_n 0, 1) := by decide +kernel
theorem dX6_turn_15 : decode cX6_turn 15 = .ok (.getfield 29, 3) := by decide +kernel
theorem dX6_turn_18 : decode cX6_turn 18 = .ok (.iload_n 1, 1) := by decide +kernel
theorem dX6_turn_19 : decode cX6_turn 19 = .ok (.iconst 1, 1) := by decide +kernel
theorem dX6_turn_20 : decode cX6_turn 20 = .ok (.aload_n 0, 1) := by decide +kernel
theorem dX6_turn_21 : decode cX6_turn 21 = .ok (.getfield 29, 3) := by decide +kernel
theorem dX6_turn_24 : decode cX6_turn 24 = .ok (.iload_n 1, 1) := by decide +kernel
theorem dX6_turn_25 : decode cX6_turn 25 = .ok (.iaload, 1) := by decide +kernel
theorem dX6_turn_26 : decode cX6_turn 26 = .ok (.isub, 1) := by decide +kernel
theorem dX6_turn_27 : decode cX6_turn 27 = .ok (.iastore, 1) := by decide +kernel
theorem dX6_turn_28 : decode cX6_turn 28 = .ok (.aload_n 0, 1) := by decide +kernel
theorem dX6_turn_29 : decode cX6_turn 29 = .ok (.getfield 29, 3) := by decide +kernel
theorem dX6_turn_32 : decode cX6_turn 32 = .ok (.iload_n 1, 1) := by decide +kernel
theorem dX6_turn_33 : decode cX6_turn 33 = .ok (.iaload, 1) := by decide +kernel
theorem dX6_turn_34 : decode cX6_turn 34 = .ok (.ireturn, 1) := by decide +kernel
def m_X6_turn (v1 : Int32) (μ : fm_I) (ν : fm_L) : Option (Int32 × fm_I × fm_L) :=
  (m_X6_isBand v1 μ ν).bind (fun r2 => if r2 = 0 then (m_X6_no ((-1 : Int32)) μ ν).bind (fun r10 => some ((r10.1, r10.2.1, r10.2.2))) else fm_g (fm_in v1 (fm_n 63)) (some ((((fm_u μ 63 v1.toNatClampNeg ((((nI 1)) - ((μ 63 v1.toNatClampNeg))))) 63 v1.toNatClampNeg), (fm_u μ 63 v1.toNatClampNeg ((((nI 1)) - ((μ 63 v1.toNatClampNeg))))), ν))))
theorem ok_X6_turn : fm_okV yX6_turn cX6_turn 2 (some .int) 1 := ⟨m_cd_X6_turn, m_im_X6_turn, m_se_X6_X6_turn, m_ini_X6, by decide +kernel, by decide +kernel, by decide +kernel⟩
set_option maxHeartbeats 4000000 in
set_option maxRecDepth 100000 in
theorem j_X6_turn {X : fm_X} {G : fm_G} {l : Launch} {v1 : Int32} {μ : fm_I} {ν : fm_L} (C : fm_C X G l cX6_turn RX6 2 (some .int) 2 33) {F : (Int32 × fm_I × fm_L) → State → Prop} (hF : F = fm_Qi X G) : fm_J X G 2 F (m_X6_turn v1 μ ν) μ ν 0 [(0, .ref (G.2.2.1 58)), (1, .int v1)] [] := by
  unfold m_X6_turn
  refine fm_aload_n (pc := 0) C dX6_turn_0 rfl rfl ?_
  refine fm_iload_n (pc := 1) C dX6_turn_1 rfl rfl ?_
  refine fm_bind (fun r2 e2 => ?_)
  refine fm_cVi0 (pc := 2) C (t_X6_isBand e2) ok_X6_isBand ⟨by decide, rfl⟩ m_ml_X6_88 dX6_turn_2 ⟨Nat.le_of_ble_eq_true rfl, Nat.le_of_ble_eq_true rfl⟩ rfl rfl (Nat.le_of_ble_eq_true rfl) ?_
  refine fm_if_ne (pc := 5) (tgt := 14) C dX6_turn_5 (by decide) (fun c1 => ?_) (fun c1 => ?_)
  · refine fm_aload_n (pc := 8) C dX6_turn_8 rfl rfl ?_
    refine fm_iconst (pc := 9) (v := (-1 : Int32)) C dX6_turn_9 (by decide) ?_
    refine fm_bind (fun r10 e10 => ?_)
    refine fm_cVi (pc := 10) C (t_X6_no e10) ok_X6_no ⟨by decide, rfl⟩ m_ml_X6_95 dX6_turn_10 ⟨Nat.le_of_ble_eq_true rfl, Nat.le_of_ble_eq_true rfl⟩ rfl rfl (Nat.le_of_ble_eq_true rfl) ?_
    exact fm_zret (pc := 13) C hF rfl rfl dX6_turn_13
  · refine fm_aload_n (pc := 14) C dX6_turn_14 rfl rfl ?_
    refine g6_hand (pc := 15) C (by decide) dX6_turn_15 m_fl_X6_29 ?_
    refine fm_iload_n (pc := 18) C dX6_turn_18 rfl rfl ?_
    refine fm_iconst (pc := 19) (v := (nI 1)) C dX6_turn_19 (by decide) ?_
    refine fm_aload_n (pc := 20) C dX6_turn_20 rfl rfl ?_
    refine g6_hand (pc := 21) C (by decide) dX6_turn_21 m_fl_X6_29 ?_
    refine fm_iload_n (pc := 24) C dX6_turn_24 rfl rfl ?_
    refine fm_guard (fun h2 => ?_)
    refine fm_iald (pc := 25) C (by decide) h2 dX6_turn_25 ?_
    refine fm_isub (pc := 26) C dX6_turn_26 ?_
    refine fm_iast (pc := 27) C (by decide) h2 dX6_turn_27 ?_
    refine fm_aload_n (pc := 28) C dX6_turn_28 rfl rfl ?_
    refine g6_hand (pc := 29) C (by decide) dX6_turn_29 m_fl_X6_29 ?_
    refine fm_iload_n (pc := 32) C dX6_turn_32 rfl rfl ?_
    refine fm_iald (pc := 33) C (by decide) h2 dX6_turn_33 ?_
    exact fm_zret (pc := 34) C hF rfl rfl dX6_turn_34
theorem t_X6_turn {l : Launch} {G : fm_G} {v1 : Int32} {μ : fm_I} {ν : fm_L} {r : Int32 × fm_I × fm_L} (h : m_X6_turn v1 μ ν = some r) : fm_Mi l G yX6_turn cX6_turn 2 (some .int) 2 33 [.ref (G.2.2.1 58), .int v1] μ ν r := fm_Mi_of (by decide +kernel) (Nat.le_of_ble_eq_true rfl) (fun _ C => j_X6_turn C rfl r h)
theorem dX6_paint_0 : decode cX6_paint 0 = .ok (.aload_n 0, 1) := by decide +kernel
theorem dX6_paint_1 : decode cX6_paint 1 = .ok (.iload_n 1, 1) := by decide +kernel
theorem dX6_paint_2 : decode cX6_paint 2 = .ok (.iload_n 2, 1) := by decide +kernel
theorem dX6_paint_3 : decode cX6_paint 3 = .ok (.invokevirtual 113, 3) := by decide +kernel
theorem dX6_paint_6 : decode cX6_paint 6 = .ok (.ifCond .ne 9, 3) := by decide +kernel
theorem dX6_paint_9 : decode cX6_paint 9 = .ok (.aload_n 0, 1) := by decide +kernel
theorem dX6_paint_10 : decode cX6_paint 10 = .ok (.iconst (-1), 1) := by decide +kernel
theorem dX6_paint_11 : decode cX6_paint 11 = .ok (.invokevirtual 95, 3) := by decide +kernel
theorem dX6_paint_14 : decode cX6_paint 14 = .ok (.ireturn, 1) := by decide +kernel
theorem dX6_paint_15 : decode cX6_paint 15 = .ok (.iload_n 3, 1) := by decide +kernel
theorem dX6_paint_16 : decode cX6_paint 16 = .ok (.ifCond .lt 9, 3) := by decide +kernel
theorem dX6_paint_19 : decode cX6_paint 19 = .ok (.iload_n 3, 1) := by decide +kernel
theorem dX6_paint_20 : decode cX6_paint 20 = .ok (.bipush 7, 2) := by decide +kernel
theorem dX6_paint_22 : decode cX6_paint 22 = .ok (.if_icmp .le 10, 3) := by decide +kernel
theorem dX6_paint_25 : decode cX6_paint 25 = .ok (.aload_n 0, 1) := by decide +kernel
theorem dX6_paint_26 : decode cX6_paint 26 = .ok (.bipush (-6), 2) := by decide +kernel
theorem dX6_paint_28 : decode cX6_paint 28 = .ok (.invokevirtual 95, 3) := by decide +kernel
theorem dX6_paint_31 : decode cX6_paint 31 = .ok (.ireturn, 1) := by decide +kernel
theorem dX6_paint_32 : decode cX6_paint 32 = .ok (.aload_n 0, 1) := by decide +kernel
theorem dX6_paint_33 : decode cX6_paint 33 = .ok (.getfield 35, 3) := by decide +kernel
theorem dX6_paint_36 : decode cX6_paint 36 = .ok (.bipush 12, 2) := by decide +kernel
theorem dX6_paint_38 : decode cX6_paint 38 = .ok (.iload_n 1, 1) := by decide +kernel
theorem dX6_paint_39 : decode cX6_paint 39 = .ok (.imul, 1) := by decide +kernel
theorem dX6_paint_40 : decode cX6_paint 40 = .ok (.iload_n 2, 1) := by decide +kernel
theorem dX6_paint_41 : decode cX6_paint 41 = .ok (.iadd, 1) := by decide +kernel
theorem dX6_paint_42 : decode cX6_paint 42 = .ok (.iaload, 1) := by decide +kernel
theorem dX6_paint_43 : decode cX6_paint 43 = .ok (.istore 4, 2) := by decide +kernel
theorem dX6_paint_45 : decode cX6_paint 45 = .ok (.aload_n 0, 1) := by decide +kernel
theorem dX6_paint_46 : decode cX6_paint 46 = .ok (.getfield 35, 3) := by decide +kernel
theorem dX6_paint_49 : decode cX6_paint 49 = .ok (.bipush 12, 2) := by decide +kernel
theorem dX6_paint_51 : decode cX6_paint 51 = .ok (.iload_n 1, 1) := by decide +kernel
theorem dX6_paint_52 : decode cX6_paint 52 = .ok (.imul, 1) := by decide +kernel
theorem dX6_paint_53 : decode cX6_paint 53 = .ok (.iload_n 2, 1) := by decide +kernel
theorem dX6_paint_54 : decode cX6_paint 54 = .ok (.iadd, 1) := by decide +kernel
theorem dX6_paint_55 : decode cX6_paint 55 = .ok (.iload_n 3, 1) := by decide +kernel
theorem dX6_paint_56 : decode cX6_paint 56 = .ok (.iastore, 1) := by decide +kernel
theorem dX6_paint_57 : decode cX6_paint 57 = .ok (.iload 4, 2) := by decide +kernel
theorem dX6_paint_59 : decode cX6_paint 59 = .ok (.ireturn, 1) := by decide +kernel
def m_X6_paint (v1 : Int32) (v2 : Int32) (v3 : Int32) (μ : fm_I) (ν : fm_L) : Option (Int32 × fm_I × fm_L) :=
  (m_X6_isStrip v1 v2 μ ν).bind (fun r3 => if r3 = 0 then (m_X6_no ((-1 : Int32)) μ ν).bind (fun r11 => some ((r11.1, r11.2.1, r11.2.2))) else if v3 < 0 then (m_X6_no ((-6 : Int32)) μ ν).bind (fun r28 => some ((r28.1, r28.2.1, r28.2.2))) else if v3 ≤ (nI 7) then fm_g (fm_in ((((((nI 12)) * v1)) + v2)) (fm_n 65)) (some (((μ 65 ((((((nI 12)) * v1)) + v2)).toNatClampNeg), (fm_u μ 65 ((((((nI 12)) * v1)) + v2)).toNatClampNeg v3), ν))) else (m_X6_no ((-6 : Int32)) μ ν).bind (fun r28 => some ((r28.1, r28.2.1, r28.2.2))))
theorem ok_X6_paint : fm_okV yX6_paint cX6_paint 5 (some .int) 3 := ⟨m_cd_X6_paint, m_im_X6_paint, m_se_X6_X6_paint, m_ini_X6, by decide +kernel, by decide +kernel, by decide +kernel⟩
set_option maxHeartbeats 4000000 in
set_option maxRecDepth 100000 in
theorem j_X6_paint {X : fm_X} {G : fm_G} {l : Launch} {v1 : Int32} {v2 : Int32} {v3 : Int32} {μ : fm_I} {ν : fm_L} (C : fm_C X G l cX6_paint RX6 5 (some .int) 3 55) {F : (Int32 × fm_I × fm_L) → State → Prop} (hF : F = fm_Qi X G) : fm_J X G 5 F (m_X6_paint v1 v2 v3 μ ν) μ ν 0 [(0, .ref (G.2.2.1 58)), (1, .int v1), (2, .int v2), (3, .int v3)] [] := by
  unfold m_X6_paint
  refine fm_aload_n (pc := 0) C dX6_paint_0 rfl rfl ?_
  refine fm_iload_n (pc := 1) C dX6_paint_1 rfl rfl ?_
  refine fm_iload_n (pc := 2) C dX6_paint_2 rfl rfl ?_
  refine fm_bind (fun r3 e3 => ?_)
  refine fm_cVi0 (pc := 3) C (t_X6_isStrip e3) ok_X6_isStrip ⟨by decide, rfl⟩ m_ml_X6_113 dX6_paint_3 ⟨Nat.le_of_ble_eq_true rfl, Nat.le_of_ble_eq_true rfl⟩ rfl rfl (Nat.le_of_ble_eq_true rfl) ?_
  refine fm_if_ne (pc := 6) (tgt := 15) C dX6_paint_6 (by decide) (fun c1 => ?_) (fun c1 => ?_)
  · refine fm_aload_n (pc := 9) C dX6_paint_9 rfl rfl ?_
    refine fm_iconst (pc := 10) (v := (-1 : Int32)) C dX6_paint_10 (by decide) ?_
    refine fm_bind (fun r11 e11 => ?_)
    refine fm_cVi (pc := 11) C (t_X6_no e11) ok_X6_no ⟨by decide, rfl⟩ m_ml_X6_95 dX6_paint_11 ⟨Nat.le_of_ble_eq_true rfl, Nat.le_of_ble_eq_true rfl⟩ rfl rfl (Nat.le_of_ble_eq_true rfl) ?_
    exact fm_zret (pc := 14) C hF rfl rfl dX6_paint_14
  · refine fm_iload_n (pc := 15) C dX6_paint_15 rfl rfl ?_
    refine fm_if_lt (pc := 16) (tgt := 25) C dX6_paint_16 (by decide) (fun c2 => ?_) (fun c2 => ?_)
    · refine fm_aload_n (pc := 25) C dX6_paint_25 rfl rfl ?_
      refine fm_bipush (pc := 26) (v := (-6 : Int32)) C dX6_paint_26 (by decide) ?_
      refine fm_bind (fun r28 e28 => ?_)
      refine fm_cVi (pc := 28) C (t_X6_no e28) ok_X6_no ⟨by decide, rfl⟩ m_ml_X6_95 dX6_paint_28 ⟨Nat.le_of_ble_eq_true rfl, Nat.le_of_ble_eq_true rfl⟩ rfl rfl (Nat.le_of_ble_eq_true rfl) ?_
      exact fm_zret (pc := 31) C hF rfl rfl dX6_paint_31
    · refine fm_iload_n (pc := 19) C dX6_paint_19 rfl rfl ?_
      refine fm_bipush (pc := 20) (v := (nI 7)) C dX6_paint_20 (by decide) ?_
      refine fm_icmp_le (pc := 22) (tgt := 32) C dX6_paint_22 (by decide) (fun c3 => ?_) (fun c3 => ?_)
      · refine fm_aload_n (pc := 32) C dX6_paint_32 rfl rfl ?_
        refine g6_colour (pc := 33) C (by decide) dX6_paint_33 m_fl_X6_35 ?_
        refine fm_bipush (pc := 36) (v := (nI 12)) C dX6_paint_36 (by decide) ?_
        refine fm_iload_n (pc := 38) C dX6_paint_38 rfl rfl ?_
        refine fm_imul (pc := 39) C dX6_paint_39 ?_
        refine fm_iload_n (pc := 40) C dX6_paint_40 rfl rfl ?_
        refine fm_iadd (pc := 41) C dX6_paint_41 ?_
        refine fm_guard (fun h4 => ?_)
        refine fm_iald (pc := 42) C (by decide) h4 dX6_paint_42 ?_
        refine fm_istore (pc := 43) C dX6_paint_43 (by decide) rfl ?_
        refine fm_aload_n (pc := 45) C dX6_paint_45 rfl rfl ?_
        refine g6_colour (pc := 46) C (by decide) dX6_paint_46 m_fl_X6_35 ?_
        refine fm_bipush (pc := 49) (v := (nI 12)) C dX6_paint_49 (by decide) ?_
        refine fm_iload_n (pc := 51) C dX6_paint_51 rfl rfl ?_
        refine fm_imul (pc := 52) C dX6_paint_52 ?_
        refine fm_iload_n (pc := 53) C dX6_paint_53 rfl rfl ?_
        refine fm_iadd (pc := 54) C dX6_paint_54 ?_
        refine fm_iload_n (pc := 55) C dX6_paint_55 rfl rfl ?_
        refine fm_iast (pc := 56) C (by decide) h4 dX6_paint_56 ?_
        refine fm_iload (pc := 57) C dX6_paint_57 rfl ?_
        exact fm_zret (pc := 59) C hF rfl rfl dX6_paint_59
      · refine fm_aload_n (pc := 25) C dX6_paint_25 rfl rfl ?_
        refine fm_bipush (pc := 26) (v := (-6 : Int32)) C dX6_paint_26 (by decide) ?_
        refine fm_bind (fun r28 e28 => ?_)
        refine fm_cVi (pc := 28) C (t_X6_no e28) ok_X6_no ⟨by decide, rfl⟩ m_ml_X6_95 dX6_paint_28 ⟨Nat.le_of_ble_eq_true rfl, Nat.le_of_ble_eq_true rfl⟩ rfl rfl (Nat.le_of_ble_eq_true rfl) ?_
        exact fm_zret (pc := 31) C hF rfl rfl dX6_paint_31
theorem t_X6_paint {l : Launch} {G : fm_G} {v1 : Int32} {v2 : Int32} {v3 : Int32} {μ : fm_I} {ν : fm_L} {r : Int32 × fm_I × fm_L} (h : m_X6_paint v1 v2 v3 μ ν = some r) : fm_Mi l G yX6_paint cX6_paint 5 (some .int) 3 55 [.ref (G.2.2.1 58), .int v1, .int v2, .int v3] μ ν r := fm_Mi_of (by decide +kernel) (Nat.le_of_ble_eq_true rfl) (fun _ C => j_X6_paint C rfl r h)
theorem dX6_wrong_0 : decode cX6_wrong 0 = .ok (.aload_n 0, 1) := by decide +kernel
theorem dX6_wrong_1 : decode cX6_wrong 1 = .ok (.iload_n 1, 1) := by decide +kernel
theorem dX6_wrong_2 : decode cX6_wrong 2 = .ok (.putfield 117, 3) := by decide +kernel
theorem dX6_wrong_5 : decode cX6_wrong 5 = .ok (.iconst 0, 1) := by decide +kernel
theorem dX6_wrong_6 : decode cX6_wrong 6 = .ok (.ireturn, 1) := by decide +kernel
def m_X6_wrong (v1 : Int32) (μ : fm_I) (ν : fm_L) : Option (Int32 × fm_I × fm_L) :=
  some (((nI 0), (fm_u μ 58 23 v1), ν))
theorem ok_X6_wrong : fm_okV yX6_wrong cX6_wrong 2 (some .boolean) 1 := ⟨m_cd_X6_wrong, m_im_X6_wrong, m_se_X6_X6_wrong, m_ini_X6, by decide +kernel, by decide +kernel, by decide +kernel⟩
set_option maxHeartbeats 4000000 in
set_option maxRecDepth 100000 in
theorem j_X6_wrong {X : fm_X} {G : fm_G} {l : Launch} {v1 : Int32} {μ : fm_I} {ν : fm_L} (C : fm_C X G l cX6_wrong RX6 2 (some .boolean) 1 12) {F : (Int32 × fm_I × fm_L) → State → Prop} (hF : F = fm_Qi X G) : fm_J X G 2 F (m_X6_wrong v1 μ ν) μ ν 0 [(0, .ref (G.2.2.1 58)), (1, .int v1)] [] := by
  unfold m_X6_wrong
  refine fm_aload_n (pc := 0) C dX6_wrong_0 rfl rfl ?_
  refine fm_iload_n (pc := 1) C dX6_wrong_1 rfl rfl ?_
  refine p6_wrongAt (pc := 2) C (by decide) dX6_wrong_2 m_fl_X6_117 ?_
  refine fm_iconst (pc := 5) (v := (nI 0)) C dX6_wrong_5 (by decide) ?_
  exact fm_zret (pc := 6) C hF rfl rfl dX6_wrong_6
theorem t_X6_wrong {l : Launch} {G : fm_G} {v1 : Int32} {μ : fm_I} {ν : fm_L} {r : Int32 × fm_I × fm_L} (h : m_X6_wrong v1 μ ν = some r) : fm_Mi l G yX6_wrong cX6_wrong 2 (some .boolean) 1 12 [.ref (G.2.2.1 58), .int v1] μ ν r := fm_Mi_of (by decide +kernel) (Nat.le_of_ble_eq_true rfl) (fun _ C => j_X6_wrong C rfl r h)
theorem dX6_word_0 : decode cX6_word 0 = .ok (.iconst 0, 1) := by decide +kernel
theorem dX6_word_1 : decode cX6_word 1 = .ok (.istore_n 1, 1) := by decide +kernel
theorem dX6_word_2 : decode cX6_word 2 = .ok (.aload_n 0, 1) := by decide +kernel
theorem dX6_word_3 : decode cX6_word 3 = .ok (.getfield 120, 3) := by decide +kernel
theorem dX6_word_6 : decode cX6_word 6 = .ok (.istore_n 2, 1) := by decide +kernel
theorem dX6_word_7 : decode cX6_word 7 = .ok (.iconst 0, 1) := by decide +kernel
theorem dX6_word_8 : decode cX6_word 8 = .ok (.istore_n 3, 1) := by decide +kernel
theorem dX6_word_9 : decode cX6_word 9 = .ok (.iload_n 3, 1) := by decide +kernel
theorem dX6_word_10 : decode cX6_word 10 = .ok (.iconst 5, 1) := by decide +kernel
theorem dX6_word_11 : decode cX6_word 11 = .ok (.if_icmp .ge 118, 3) := by decide +kernel
theorem dX6_word_14 : decode cX6_word 14 = .ok (.aload_n 0, 1) := by decide +kernel
theorem dX6_word_15 : decode cX6_word 15 = .ok (.getfield 120, 3) := by decide +kernel
theorem dX6_word_18 : decode cX6_word 18 = .ok (.istore 4, 2) := by decide +kernel
theorem dX6_word_20 : decode cX6_word 20 = .ok (.iload_n 1, 1) := by decide +kernel
theorem dX6_word_21 : decode cX6_word 21 = .ok (.istore 5, 2) := by decide +kernel
theorem dX6_word_23 : decode cX6_word 23 = .ok (.aload_n 0, 1) := by decide +kernel
theorem dX6_word_24 : decode cX6_word 24 = .ok (.getfield 57, 3) := by decide +kernel
theorem dX6_word_27 : decode cX6_word 27 = .ok (.iload 5, 2) := by decide +kernel
theorem dX6_word_29 : decode cX6_word 29 = .ok (.iaload, 1) := by decide +kernel
theorem dX6_word_30 : decode cX6_word 30 = .ok (.ifCond .eq 44, 3) := by decide +kernel
theorem dX6_word_33 : decode cX6_word 33 = .ok (.iload 4, 2) := by decide +kernel
theorem dX6_word_35 : decode cX6_word 35 = .ok (.aload_n 0, 1) := by decide +kernel
theorem dX6_word_36 : decode cX6_word 36 = .ok (.getfield 123, 3) := by decide +kernel
theorem dX6_word_39 : decode cX6_word 39 = .ok (.if_icmp .ge 35, 3) := by decide +kernel
theorem dX6_word_42 : decode cX6_word 42 = .ok (.aload_n 0, 1) := by decide +kernel
theorem dX6_word_43 : decode cX6_word 43 = .ok (.getfield 50, 3) := by decide +kernel
theorem dX6_word_46 : decode cX6_word 46 = .ok (.aload_n 0, 1) := by decide +kernel
theorem dX6_word_47 : decode cX6_word 47 = .ok (.getfield 126, 3) := by decide +kernel
theorem dX6_word_50 : decode cX6_word 50 = .ok (.iload 4, 2) := by decide +kernel
theorem dX6_word_52 : decode cX6_word 52 = .ok (.iadd, 1) := by decide +kernel
theorem dX6_word_53 : decode cX6_word 53 = .ok (.laload, 1) := by decide +kernel
theorem dX6_word_54 : decode cX6_word 54 = .ok (.l2i, 1) := by decide +kernel
theorem dX6_word_55 : decode cX6_word 55 = .ok (.aload_n 0, 1) := by decide +kernel
theorem dX6_word_56 : decode cX6_word 56 = .ok (.getfield 57, 3) := by decide +kernel
theorem dX6_word_59 : decode cX6_word 59 = .ok (.iload 5, 2) := by decide +kernel
theorem dX6_word_61 : decode cX6_word 61 = .ok (.iaload, 1) := by decide +kernel
theorem dX6_word_62 : decode cX6_word 62 = .ok (.if_icmp .ne 12, 3) := by decide +kernel
theorem dX6_word_65 : decode cX6_word 65 = .ok (.iinc 4 1, 3) := by decide +kernel
theorem dX6_word_68 : decode cX6_word 68 = .ok (.iinc 5 1, 3) := by decide +kernel
theorem dX6_word_71 : decode cX6_word 71 = .ok (.goto (-48), 3) := by decide +kernel
theorem dX6_word_74 : decode cX6_word 74 = .ok (.aload_n 0, 1) := by decide +kernel
theorem dX6_word_75 : decode cX6_word 75 = .ok (.getfield 57, 3) := by decide +kernel
theorem dX6_word_78 : decode cX6_word 78 = .ok (.iload 5, 2) := by decide +kernel
theorem dX6_word_80 : decode cX6_word 80 = .ok (.iaload, 1) := by decide +kernel
theorem dX6_word_81 : decode cX6_word 81 = .ok (.ifCond .ne 11, 3) := by decide +kernel
theorem dX6_word_84 : decode cX6_word 84 = .ok (.aload_n 0, 1) := by decide +kernel
theorem dX6_word_85 : decode cX6_word 85 = .ok (.iload 4, 2) := by decide +kernel
theorem dX6_word_87 : decode cX6_word 87 = .ok (.putfield 120, 3) := by decide +kernel
theorem dX6_word_90 : decode cX6_word 90 = .ok (.iload_n 3, 1) := by decide +kernel
theorem dX6_word_91 : decode cX6_word 91 = .ok (.ireturn, 1) := by decide +kernel
theorem dX6_word_92 : decode cX6_word 92 = .ok (.iload 4, 2) := by decide +kernel
theorem dX6_word_94 : decode cX6_word 94 = .ok (.iload_n 2, 1) := by decide +kernel
theorem dX6_word_95 : decode cX6_word 95 = .ok (.if_icmp .le 8, 3) := by decide +kernel
theorem dX6_word_98 : decode cX6_word 98 = .ok (.iload 4, 2) := by decide +kernel
theorem dX6_word_100 : decode cX6_word 100 = .ok (.goto 4, 3) := by decide +kernel
theorem dX6_word_103 : decode cX6_word 103 = .ok (.iload_n 2, 1) := by decide +kernel
theorem dX6_word_104 : decode cX6_word 104 = .ok (.istore_n 2, 1) := by decide +kernel
theorem dX6_word_105 : decode cX6_word 105 = .ok (.aload_n 0, 1) := by decide +kernel
theorem dX6_word_106 : decode cX6_word 106 = .ok (.getfield 57, 3) := by decide +kernel
theorem dX6_word_109 : decode cX6_word 109 = .ok (.iload_n 1, 1) := by decide +kernel
theorem dX6_word_110 : decode cX6_word 110 = .ok (.iaload, 1) := by decide +kernel
theorem dX6_word_111 : decode cX6_word 111 = .ok (.ifCond .eq 9, 3) := by decide +kernel
theorem dX6_word_114 : decode cX6_word 114 = .ok (.iinc 1 1, 3) := by decide +kernel
theorem dX6_word_117 : decode cX6_word 117 = .ok (.goto (-12), 3) := by decide +kernel
theorem dX6_word_120 : decode cX6_word 120 = .ok (.iinc 1 1, 3) := by decide +kernel
theorem dX6_word_123 : decode cX6_word 123 = .ok (.iinc 3 1, 3) := by decide +kernel
theorem dX6_word_126 : decode cX6_word 126 = .ok (.goto (-117), 3) := by decide +kernel
theorem dX6_word_129 : decode cX6_word 129 = .ok (.aload_n 0, 1) := by decide +kernel
theorem dX6_word_130 : decode cX6_word 130 = .ok (.iload_n 2, 1) := by decide +kernel
theorem dX6_word_131 : decode cX6_word 131 = .ok (.putfield 117, 3) := by decide +kernel
theorem dX6_word_134 : decode cX6_word 134 = .ok (.iconst (-1), 1) := by decide +kernel
theorem dX6_word_135 : decode cX6_word 135 = .ok (.ireturn, 1) := by decide +kernel
def m_X6_word_23 (v1 : Int32) (v2 : Int32) (v3 : Int32) (μ : fm_I) (ν : fm_L) (K : Int32 → Int32 → Option (Int32 × fm_I × fm_L)) : Nat → Int32 → Int32 → Option (Int32 × fm_I × fm_L)
  | 0, _, _ => none
  | k + 1, v4, v5 => fm_g (fm_in v5 (fm_n 72)) (if (μ 72 v5.toNatClampNeg) = 0 then K v4 v5 else if (μ 58 21) ≤ v4 then K v4 v5 else fm_g (fm_in ((((μ 58 19)) + v4)) (fm_n 70)) (if ((ν 70 ((((μ 58 19)) + v4)).toNatClampNeg)).toInt32 = (μ 72 v5.toNatClampNeg) then m_X6_word_23 v1 v2 v3 μ ν K k ((v4 + nI 1)) ((v5 + nI 1)) else K v4 v5))
def m_X6_word_105 (v2 : Int32) (v3 : Int32) (μ : fm_I) (ν : fm_L) (K : Int32 → Option (Int32 × fm_I × fm_L)) : Nat → Int32 → Option (Int32 × fm_I × fm_L)
  | 0, _ => none
  | k + 1, v1 => fm_g (fm_in v1 (fm_n 72)) (if (μ 72 v1.toNatClampNeg) = 0 then K v1 else m_X6_word_105 v2 v3 μ ν K k ((v1 + nI 1)))
def m_X6_word_9  (μ : fm_I) (ν : fm_L) (K : Int32 → Option (Int32 × fm_I × fm_L)) : Nat → Int32 → Int32 → Int32 → Option (Int32 × fm_I × fm_L)
  | 0, _, _, _ => none
  | k + 1, v1, v2, v3 => if (nI 5) ≤ v3 then K v2 else m_X6_word_23 v1 v2 v3 μ ν (fun x4_23 x5_23 => fm_g (fm_in x5_23 (fm_n 72)) (if (μ 72 x5_23.toNatClampNeg) = 0 then some ((v3, (fm_u μ 58 20 x4_23), ν)) else if x4_23 ≤ v2 then m_X6_word_105 v2 v3 μ ν (fun x1_105 => m_X6_word_9 μ ν K k ((x1_105 + nI 1)) v2 ((v3 + nI 1))) 5000 v1 else m_X6_word_105 x4_23 v3 μ ν (fun x1_105 => m_X6_word_9 μ ν K k ((x1_105 + nI 1)) x4_23 ((v3 + nI 1))) 5000 v1)) 5000 ((μ 58 20)) v1
def m_X6_word  (μ : fm_I) (ν : fm_L) : Option (Int32 × fm_I × fm_L) :=
  m_X6_word_9 μ ν (fun x2_9 => some (((-1 : Int32), (fm_u μ 58 23 x2_9), ν))) 5000 ((nI 0)) ((μ 58 20)) ((nI 0))
theorem ok_X6_word : fm_okV yX6_word cX6_word 6 (some .int) 0 := ⟨m_cd_X6_word, m_im_X6_word, m_se_X6_X6_word, m_ini_X6, by decide +kernel, by decide +kernel, by decide +kernel⟩
set_option maxHeartbeats 4000000 in
set_option maxRecDepth 100000 in
theorem j_X6_word_23_ {X : fm_X} {G : fm_G} {l : Launch} {v1 : Int32} {v2 : Int32} {v3 : Int32} {μ : fm_I} {ν : fm_L} (C : fm_C X G l cX6_word RX6 6 (some .int) 1 12) {F : (Int32 × fm_I × fm_L) → State → Prop} (hF : F = fm_Qi X G)  {K : Int32 → Int32 → Option (Int32 × fm_I × fm_L)} (hK : ∀ (v4 : Int32) (v5 : Int32), fm_J X G 6 F (K v4 v5) μ ν 74 [(0, .ref (G.2.2.1 58)), (1, .int v1), (2, .int v2), (3, .int v3), (4, .int v4), (5, .int v5)] []) : ∀ (k : Nat) (v4 : Int32) (v5 : Int32), fm_J X G 6 F (m_X6_word_23 v1 v2 v3 μ ν K k v4 v5) μ ν 23 [(0, .ref (G.2.2.1 58)), (1, .int v1), (2, .int v2), (3, .int v3), (4, .int v4), (5, .int v5)] [] := by
  intro k
  induction k with
  | zero =>
    intro v4 v5
    exact fm_none
  | succ k ih =>
    intro v4 v5
    rw [m_X6_word_23]
    refine fm_aload_n (pc := 23) C dX6_word_23 rfl rfl ?_
    refine g6_words (pc := 24) C (by decide) dX6_word_24 m_fl_X6_57 ?_
    refine fm_iload (pc := 27) C dX6_word_27 rfl ?_
    refine fm_guard (fun h2 => ?_)
    refine fm_iald (pc := 29) C (by decide) h2 dX6_word_29 ?_
    refine fm_if_eq (pc := 30) (tgt := 74) C dX6_word_30 (by decide) (fun c3 => ?_) (fun c3 => ?_)
    · refine fm_less (lv' := [(0, .ref (G.2.2.1 58)), (1, .int v1), (2, .int v2), (3, .int v3), (4, .int v4), (5, .int v5)]) (by repeat (first | exact trivial | refine ⟨rfl, ?_⟩)) ?_
      exact hK _ _
    · refine fm_iload (pc := 33) C dX6_word_33 rfl ?_
      refine fm_aload_n (pc := 35) C dX6_word_35 rfl rfl ?_
      refine g6_end (pc := 36) C (by decide) dX6_word_36 m_fl_X6_123 ?_
      refine fm_icmp_ge (pc := 39) (tgt := 74) C dX6_word_39 (by decide) (fun c4 => ?_) (fun c4 => ?_)
      · refine fm_less (lv' := [(0, .ref (G.2.2.1 58)), (1, .int v1), (2, .int v2), (3, .int v3), (4, .int v4), (5, .int v5)]) (by repeat (first | exact trivial | refine ⟨rfl, ?_⟩)) ?_
        exact hK _ _
      · refine fm_aload_n (pc := 42) C dX6_word_42 rfl rfl ?_
        refine g6_cells (pc := 43) C (by decide) dX6_word_43 m_fl_X6_50 ?_
        refine fm_aload_n (pc := 46) C dX6_word_46 rfl rfl ?_
        refine g6_base (pc := 47) C (by decide) dX6_word_47 m_fl_X6_126 ?_
        refine fm_iload (pc := 50) C dX6_word_50 rfl ?_
        refine fm_iadd (pc := 52) C dX6_word_52 ?_
        refine fm_guard (fun h5 => ?_)
        refine fm_lald (pc := 53) C (by decide) h5 dX6_word_53 ?_
        refine fm_l2i (pc := 54) C dX6_word_54 ?_
        refine fm_aload_n (pc := 55) C dX6_word_55 rfl rfl ?_
        refine g6_words (pc := 56) C (by decide) dX6_word_56 m_fl_X6_57 ?_
        refine fm_iload (pc := 59) C dX6_word_59 rfl ?_
        refine fm_iald (pc := 61) C (by decide) h2 dX6_word_61 ?_
        refine fm_icmp_ne (pc := 62) (tgt := 74) C dX6_word_62 (by decide) (fun c6 => ?_) (fun c6 => ?_)
        · refine fm_iinc (pc := 65) C dX6_word_65 rfl (v := (v4 + nI 1)) rfl (by decide) rfl ?_
          refine fm_iinc (pc := 68) C dX6_word_68 rfl (v := (v5 + nI 1)) rfl (by decide) rfl ?_
          refine fm_goto (pc := 71) (tgt := 23) C dX6_word_71 (by decide) ?_
          refine fm_less (lv' := [(0, .ref (G.2.2.1 58)), (1, .int v1), (2, .int v2), (3, .int v3), (4, .int ((v4 + nI 1))), (5, .int ((v5 + nI 1)))]) (by repeat (first | exact trivial | refine ⟨rfl, ?_⟩)) ?_
          exact ih _ _
        · refine fm_less (lv' := [(0, .ref (G.2.2.1 58)), (1, .int v1), (2, .int v2), (3, .int v3), (4, .int v4), (5, .int v5)]) (by repeat (first | exact trivial | refine ⟨rfl, ?_⟩)) ?_
          exact hK _ _
set_option maxHeartbeats 4000000 in
set_option maxRecDepth 100000 in
theorem j_X6_word_105_ {X : fm_X} {G : fm_G} {l : Launch} {v2 : Int32} {v3 : Int32} {μ : fm_I} {ν : fm_L} (C : fm_C X G l cX6_word RX6 6 (some .int) 1 12) {F : (Int32 × fm_I × fm_L) → State → Prop} (hF : F = fm_Qi X G)  {K : Int32 → Option (Int32 × fm_I × fm_L)} (hK : ∀ (v1 : Int32), fm_J X G 6 F (K v1) μ ν 120 [(0, .ref (G.2.2.1 58)), (1, .int v1), (2, .int v2), (3, .int v3)] []) : ∀ (k : Nat) (v1 : Int32), fm_J X G 6 F (m_X6_word_105 v2 v3 μ ν K k v1) μ ν 105 [(0, .ref (G.2.2.1 58)), (1, .int v1), (2, .int v2), (3, .int v3)] [] := by
  intro k
  induction k with
  | zero =>
    intro v1
    exact fm_none
  | succ k ih =>
    intro v1
    rw [m_X6_word_105]
    refine fm_aload_n (pc := 105) C dX6_word_105 rfl rfl ?_
    refine g6_words (pc := 106) C (by decide) dX6_word_106 m_fl_X6_57 ?_
    refine fm_iload_n (pc := 109) C dX6_word_109 rfl rfl ?_
    refine fm_guard (fun h10 => ?_)
    refine fm_iald (pc := 110) C (by decide) h10 dX6_word_110 ?_
    refine fm_if_eq (pc := 111) (tgt := 120) C dX6_word_111 (by decide) (fun c11 => ?_) (fun c11 => ?_)
    · refine fm_less (lv' := [(0, .ref (G.2.2.1 58)), (1, .int v1), (2, .int v2), (3, .int v3)]) (by repeat (first | exact trivial | refine ⟨rfl, ?_⟩)) ?_
      exact hK _
    · refine fm_iinc (pc := 114) C dX6_word_114 rfl (v := (v1 + nI 1)) rfl (by decide) rfl ?_
      refine fm_goto (pc := 117) (tgt := 105) C dX6_word_117 (by decide) ?_
      refine fm_less (lv' := [(0, .ref (G.2.2.1 58)), (1, .int ((v1 + nI 1))), (2, .int v2), (3, .int v3)]) (by repeat (first | exact trivial | refine ⟨rfl, ?_⟩)) ?_
      exact ih _
set_option maxHeartbeats 4000000 in
set_option maxRecDepth 100000 in
theorem j_X6_word_9_ {X : fm_X} {G : fm_G} {l : Launch}  {μ : fm_I} {ν : fm_L} (C : fm_C X G l cX6_word RX6 6 (some .int) 1 12) {F : (Int32 × fm_I × fm_L) → State → Prop} (hF : F = fm_Qi X G)  {K : Int32 → Option (Int32 × fm_I × fm_L)} (hK : ∀ (v2 : Int32), fm_J X G 6 F (K v2) μ ν 129 [(0, .ref (G.2.2.1 58)), (2, .int v2)] []) : ∀ (k : Nat) (v1 : Int32) (v2 : Int32) (v3 : Int32), fm_J X G 6 F (m_X6_word_9  μ ν K k v1 v2 v3) μ ν 9 [(0, .ref (G.2.2.1 58)), (1, .int v1), (2, .int v2), (3, .int v3)] [] := by
  intro k
  induction k with
  | zero =>
    intro v1 v2 v3
    exact fm_none
  | succ k ih =>
    intro v1 v2 v3
    rw [m_X6_word_9]
    refine fm_iload_n (pc := 9) C dX6_word_9 rfl rfl ?_
    refine fm_iconst (pc := 10) (v := (nI 5)) C dX6_word_10 (by decide) ?_
    refine fm_icmp_ge (pc := 11) (tgt := 129) C dX6_word_11 (by decide) (fun c1 => ?_) (fun c1 => ?_)
    · refine fm_less (lv' := [(0, .ref (G.2.2.1 58)), (2, .int v2)]) (by repeat (first | exact trivial | refine ⟨rfl, ?_⟩)) ?_
      exact hK _
    · refine fm_aload_n (pc := 14) C dX6_word_14 rfl rfl ?_
      refine g6_at (pc := 15) C (by decide) dX6_word_15 m_fl_X6_120 ?_
      refine fm_istore (pc := 18) C dX6_word_18 (by decide) rfl ?_
      refine fm_iload_n (pc := 20) C dX6_word_20 rfl rfl ?_
      refine fm_istore (pc := 21) C dX6_word_21 (by decide) rfl ?_
      refine fm_less (lv' := [(0, .ref (G.2.2.1 58)), (1, .int v1), (2, .int v2), (3, .int v3), (4, .int ((μ 58 20))), (5, .int v1)]) (by repeat (first | exact trivial | refine ⟨rfl, ?_⟩)) ?_
      refine j_X6_word_23_ C (v1 := v1) (v2 := v2) (v3 := v3) hF  (fun x4_23 x5_23 => ?_) _ _ _
      refine fm_aload_n (pc := 74) C dX6_word_74 rfl rfl ?_
      refine g6_words (pc := 75) C (by decide) dX6_word_75 m_fl_X6_57 ?_
      refine fm_iload (pc := 78) C dX6_word_78 rfl ?_
      refine fm_guard (fun h7 => ?_)
      refine fm_iald (pc := 80) C (by decide) h7 dX6_word_80 ?_
      refine fm_if_ne (pc := 81) (tgt := 92) C dX6_word_81 (by decide) (fun c8 => ?_) (fun c8 => ?_)
      · refine fm_aload_n (pc := 84) C dX6_word_84 rfl rfl ?_
        refine fm_iload (pc := 85) C dX6_word_85 rfl ?_
        refine p6_at (pc := 87) C (by decide) dX6_word_87 m_fl_X6_120 ?_
        refine fm_iload_n (pc := 90) C dX6_word_90 rfl rfl ?_
        exact fm_zret (pc := 91) C hF rfl rfl dX6_word_91
      · refine fm_iload (pc := 92) C dX6_word_92 rfl ?_
        refine fm_iload_n (pc := 94) C dX6_word_94 rfl rfl ?_
        refine fm_icmp_le (pc := 95) (tgt := 103) C dX6_word_95 (by decide) (fun c9 => ?_) (fun c9 => ?_)
        · refine fm_iload_n (pc := 103) C dX6_word_103 rfl rfl ?_
          refine fm_istore_n (pc := 104) C dX6_word_104 rfl (by decide) rfl ?_
          refine fm_less (lv' := [(0, .ref (G.2.2.1 58)), (1, .int v1), (2, .int v2), (3, .int v3)]) (by repeat (first | exact trivial | refine ⟨rfl, ?_⟩)) ?_
          refine j_X6_word_105_ C (v2 := v2) (v3 := v3) hF  (fun x1_105 => ?_) _ _
          refine fm_iinc (pc := 120) C dX6_word_120 rfl (v := (x1_105 + nI 1)) rfl (by decide) rfl ?_
          refine fm_iinc (pc := 123) C dX6_word_123 rfl (v := (v3 + nI 1)) rfl (by decide) rfl ?_
          refine fm_goto (pc := 126) (tgt := 9) C dX6_word_126 (by decide) ?_
          refine fm_less (lv' := [(0, .ref (G.2.2.1 58)), (1, .int ((x1_105 + nI 1))), (2, .int v2), (3, .int ((v3 + nI 1)))]) (by repeat (first | exact trivial | refine ⟨rfl, ?_⟩)) ?_
          exact ih _ _ _
        · refine fm_iload (pc := 98) C dX6_word_98 rfl ?_
          refine fm_goto (pc := 100) (tgt := 104) C dX6_word_100 (by decide) ?_
          refine fm_istore_n (pc := 104) C dX6_word_104 rfl (by decide) rfl ?_
          refine fm_less (lv' := [(0, .ref (G.2.2.1 58)), (1, .int v1), (2, .int x4_23), (3, .int v3)]) (by repeat (first | exact trivial | refine ⟨rfl, ?_⟩)) ?_
          refine j_X6_word_105_ C (v2 := x4_23) (v3 := v3) hF  (fun x1_105 => ?_) _ _
          refine fm_iinc (pc := 120) C dX6_word_120 rfl (v := (x1_105 + nI 1)) rfl (by decide) rfl ?_
          refine fm_iinc (pc := 123) C dX6_word_123 rfl (v := (v3 + nI 1)) rfl (by decide) rfl ?_
          refine fm_goto (pc := 126) (tgt := 9) C dX6_word_126 (by decide) ?_
          refine fm_less (lv' := [(0, .ref (G.2.2.1 58)), (1, .int ((x1_105 + nI 1))), (2, .int x4_23), (3, .int ((v3 + nI 1)))]) (by repeat (first | exact trivial | refine ⟨rfl, ?_⟩)) ?_
          exact ih _ _ _
set_option maxHeartbeats 4000000 in
set_option maxRecDepth 100000 in
theorem j_X6_word {X : fm_X} {G : fm_G} {l : Launch}  {μ : fm_I} {ν : fm_L} (C : fm_C X G l cX6_word RX6 6 (some .int) 1 12) {F : (Int32 × fm_I × fm_L) → State → Prop} (hF : F = fm_Qi X G) : fm_J X G 6 F (m_X6_word  μ ν) μ ν 0 [(0, .ref (G.2.2.1 58))] [] := by
  unfold m_X6_word
  refine fm_iconst (pc := 0) (v := (nI 0)) C dX6_word_0 (by decide) ?_
  refine fm_istore_n (pc := 1) C dX6_word_1 rfl (by decide) rfl ?_
  refine fm_aload_n (pc := 2) C dX6_word_2 rfl rfl ?_
  refine g6_at (pc := 3) C (by decide) dX6_word_3 m_fl_X6_120 ?_
  refine fm_istore_n (pc := 6) C dX6_word_6 rfl (by decide) rfl ?_
  refine fm_iconst (pc := 7) (v := (nI 0)) C dX6_word_7 (by decide) ?_
  refine fm_istore_n (pc := 8) C dX6_word_8 rfl (by decide) rfl ?_
  refine fm_less (lv' := [(0, .ref (G.2.2.1 58)), (1, .int ((nI 0))), (2, .int ((μ 58 20))), (3, .int ((nI 0)))]) (by repeat (first | exact trivial | refine ⟨rfl, ?_⟩)) ?_
  refine j_X6_word_9_ C  hF  (fun x2_9 => ?_) _ _ _ _
  refine fm_aload_n (pc := 129) C dX6_word_129 rfl rfl ?_
  refine fm_iload_n (pc := 130) C dX6_word_130 rfl rfl ?_
  refine p6_wrongAt (pc := 131) C (by decide) dX6_word_131 m_fl_X6_117 ?_
  refine fm_iconst (pc := 134) (v := (-1 : Int32)) C dX6_word_134 (by decide) ?_
  exact fm_zret (pc := 135) C hF rfl rfl dX6_word_135
theorem t_X6_word {l : Launch} {G : fm_G}  {μ : fm_I} {ν : fm_L} {r : Int32 × fm_I × fm_L} (h : m_X6_word  μ ν = some r) : fm_Mi l G yX6_word cX6_word 6 (some .int) 1 12 [.ref (G.2.2.1 58)] μ ν r := fm_Mi_of (by decide +kernel) (Nat.le_of_ble_eq_true rfl) (fun _ C => j_X6_word C rfl r h)
theorem dX6_isDigit_0 : decode cX6_isDigit 0 = .ok (.aload_n 0, 1) := by decide +kernel
theorem dX6_isDigit_1 : decode cX6_isDigit 1 = .ok (.getfield 120, 3) := by decide +kernel
theorem dX6_isDigit_4 : decode cX6_isDigit 4 = .ok (.aload_n 0, 1) := by decide +kernel
theorem dX6_isDigit_5 : decode cX6_isDigit 5 = .ok (.getfield 123, 3) := by decide +kernel
theorem dX6_isDigit_8 : decode cX6_isDigit 8 = .ok (.if_icmp .ge 47, 3) := by decide +kernel
theorem dX6_isDigit_11 : decode cX6_isDigit 11 = .ok (.aload_n 0, 1) := by decide +kernel
theorem dX6_isDigit_12 : decode cX6_isDigit 12 = .ok (.getfield 50, 3) := by decide +kernel
theorem dX6_isDigit_15 : decode cX6_isDigit 15 = .ok (.aload_n 0, 1) := by decide +kernel
theorem dX6_isDigit_16 : decode cX6_isDigit 16 = .ok (.getfield 126, 3) := by decide +kernel
theorem dX6_isDigit_19 : decode cX6_isDigit 19 = .ok (.aload_n 0, 1) := by decide +kernel
theorem dX6_isDigit_20 : decode cX6_isDigit 20 = .ok (.getfield 120, 3) := by decide +kernel
theorem dX6_isDigit_23 : decode cX6_isDigit 23 = .ok (.iadd, 1) := by decide +kernel
theorem dX6_isDigit_24 : decode cX6_isDigit 24 = .ok (.laload, 1) := by decide +kernel
theorem dX6_isDigit_25 : decode cX6_isDigit 25 = .ok (.l2i, 1) := by decide +kernel
theorem dX6_isDigit_26 : decode cX6_isDigit 26 = .ok (.bipush 48, 2) := by decide +kernel
theorem dX6_isDigit_28 : decode cX6_isDigit 28 = .ok (.if_icmp .lt 27, 3) := by decide +kernel
theorem dX6_isDigit_31 : decode cX6_isDigit 31 = .ok (.aload_n 0, 1) := by decide +kernel
theorem dX6_isDigit_32 : decode cX6_isDigit 32 = .ok (.getfield 50, 3) := by decide +kernel
theorem dX6_isDigit_35 : decode cX6_isDigit 35 = .ok (.aload_n 0, 1) := by decide +kernel
theorem dX6_isDigit_36 : decode cX6_isDigit 36 = .ok (.getfield 126, 3) := by decide +kernel
theorem dX6_isDigit_39 : decode cX6_isDigit 39 = .ok (.aload_n 0, 1) := by decide +kernel
theorem dX6_isDigit_40 : decode cX6_isDigit 40 = .ok (.getfield 120, 3) := by decide +kernel
theorem dX6_isDigit_43 : decode cX6_isDigit 43 = .ok (.iadd, 1) := by decide +kernel
theorem dX6_isDigit_44 : decode cX6_isDigit 44 = .ok (.laload, 1) := by decide +kernel
theorem dX6_isDigit_45 : decode cX6_isDigit 45 = .ok (.l2i, 1) := by decide +kernel
theorem dX6_isDigit_46 : decode cX6_isDigit 46 = .ok (.bipush 57, 2) := by decide +kernel
theorem dX6_isDigit_48 : decode cX6_isDigit 48 = .ok (.if_icmp .gt 7, 3) := by decide +kernel
theorem dX6_isDigit_51 : decode cX6_isDigit 51 = .ok (.iconst 1, 1) := by decide +kernel
theorem dX6_isDigit_52 : decode cX6_isDigit 52 = .ok (.goto 4, 3) := by decide +kernel
theorem dX6_isDigit_55 : decode cX6_isDigit 55 = .ok (.iconst 0, 1) := by decide +kernel
theorem dX6_isDigit_56 : decode cX6_isDigit 56 = .ok (.ireturn, 1) := by decide +kernel
def m_X6_isDigit  (μ : fm_I) (ν : fm_L) : Option (Int32) :=
  if (μ 58 21) ≤ (μ 58 20) then some ((nI 0)) else fm_g (fm_in ((((μ 58 19)) + ((μ 58 20)))) (fm_n 70)) (if ((ν 70 ((((μ 58 19)) + ((μ 58 20)))).toNatClampNeg)).toInt32 < (nI 48) then some ((nI 0)) else if (nI 57) < ((ν 70 ((((μ 58 19)) + ((μ 58 20)))).toNatClampNeg)).toInt32 then some ((nI 0)) else some ((nI 1)))
theorem ok_X6_isDigit : fm_okV yX6_isDigit cX6_isDigit 1 (some .boolean) 0 := ⟨m_cd_X6_isDigit, m_im_X6_isDigit, m_se_X6_X6_isDigit, m_ini_X6, by decide +kernel, by decide +kernel, by decide +kernel⟩
set_option maxHeartbeats 4000000 in
set_option maxRecDepth 100000 in
theorem j_X6_isDigit {X : fm_X} {G : fm_G} {l : Launch}  {μ : fm_I} {ν : fm_L} (C : fm_C X G l cX6_isDigit RX6 1 (some .boolean) 1 12) {F : Int32 → State → Prop} (hF : F = fun r => fm_Qi X G (r, μ, ν)) : fm_J X G 1 F (m_X6_isDigit  μ ν) μ ν 0 [(0, .ref (G.2.2.1 58))] [] := by
  unfold m_X6_isDigit
  refine fm_aload_n (pc := 0) C dX6_isDigit_0 rfl rfl ?_
  refine g6_at (pc := 1) C (by decide) dX6_isDigit_1 m_fl_X6_120 ?_
  refine fm_aload_n (pc := 4) C dX6_isDigit_4 rfl rfl ?_
  refine g6_end (pc := 5) C (by decide) dX6_isDigit_5 m_fl_X6_123 ?_
  refine fm_icmp_ge (pc := 8) (tgt := 55) C dX6_isDigit_8 (by decide) (fun c1 => ?_) (fun c1 => ?_)
  · refine fm_iconst (pc := 55) (v := (nI 0)) C dX6_isDigit_55 (by decide) ?_
    exact fm_zret0 (pc := 56) C hF rfl rfl dX6_isDigit_56
  · refine fm_aload_n (pc := 11) C dX6_isDigit_11 rfl rfl ?_
    refine g6_cells (pc := 12) C (by decide) dX6_isDigit_12 m_fl_X6_50 ?_
    refine fm_aload_n (pc := 15) C dX6_isDigit_15 rfl rfl ?_
    refine g6_base (pc := 16) C (by decide) dX6_isDigit_16 m_fl_X6_126 ?_
    refine fm_aload_n (pc := 19) C dX6_isDigit_19 rfl rfl ?_
    refine g6_at (pc := 20) C (by decide) dX6_isDigit_20 m_fl_X6_120 ?_
    refine fm_iadd (pc := 23) C dX6_isDigit_23 ?_
    refine fm_guard (fun h2 => ?_)
    refine fm_lald (pc := 24) C (by decide) h2 dX6_isDigit_24 ?_
    refine fm_l2i (pc := 25) C dX6_isDigit_25 ?_
    refine fm_bipush (pc := 26) (v := (nI 48)) C dX6_isDigit_26 (by decide) ?_
    refine fm_icmp_lt (pc := 28) (tgt := 55) C dX6_isDigit_28 (by decide) (fun c3 => ?_) (fun c3 => ?_)
    · refine fm_iconst (pc := 55) (v := (nI 0)) C dX6_isDigit_55 (by decide) ?_
      exact fm_zret0 (pc := 56) C hF rfl rfl dX6_isDigit_56
    · refine fm_aload_n (pc := 31) C dX6_isDigit_31 rfl rfl ?_
      refine g6_cells (pc := 32) C (by decide) dX6_isDigit_32 m_fl_X6_50 ?_
      refine fm_aload_n (pc := 35) C dX6_isDigit_35 rfl rfl ?_
      refine g6_base (pc := 36) C (by decide) dX6_isDigit_36 m_fl_X6_126 ?_
      refine fm_aload_n (pc := 39) C dX6_isDigit_39 rfl rfl ?_
      refine g6_at (pc := 40) C (by decide) dX6_isDigit_40 m_fl_X6_120 ?_
      refine fm_iadd (pc := 43) C dX6_isDigit_43 ?_
      refine fm_lald (pc := 44) C (by decide) h2 dX6_isDigit_44 ?_
      refine fm_l2i (pc := 45) C dX6_isDigit_45 ?_
      refine fm_bipush (pc := 46) (v := (nI 57)) C dX6_isDigit_46 (by decide) ?_
      refine fm_icmp_gt (pc := 48) (tgt := 55) C dX6_isDigit_48 (by decide) (fun c4 => ?_) (fun c4 => ?_)
      · refine fm_iconst (pc := 55) (v := (nI 0)) C dX6_isDigit_55 (by decide) ?_
        exact fm_zret0 (pc := 56) C hF rfl rfl dX6_isDigit_56
      · refine fm_iconst (pc := 51) (v := (nI 1)) C dX6_isDigit_51 (by decide) ?_
        refine fm_goto (pc := 52) (tgt := 56) C dX6_isDigit_52 (by decide) ?_
        exact fm_zret0 (pc := 56) C hF rfl rfl dX6_isDigit_56
theorem t_X6_isDigit {l : Launch} {G : fm_G}  {μ : fm_I} {ν : fm_L} {r : Int32} (h : m_X6_isDigit  μ ν = some r) : fm_Mi l G yX6_isDigit cX6_isDigit 1 (some .boolean) 1 12 [.ref (G.2.2.1 58)] μ ν (r, μ, ν) := fm_Mi_of (by decide +kernel) (Nat.le_of_ble_eq_true rfl) (fun _ C => j_X6_isDigit C rfl r h)
theorem dX6_number_0 : decode cX6_number 0 = .ok (.aload_n 0, 1) := by decide +kernel
theorem dX6_number_1 : decode cX6_number 1 = .ok (.iconst 0, 1) := by decide +kernel
theorem dX6_number_2 : decode cX6_number 2 = .ok (.putfield 129, 3) := by decide +kernel
theorem dX6_number_5 : decode cX6_number 5 = .ok (.aload_n 0, 1) := by decide +kernel
theorem dX6_number_6 : decode cX6_number 6 = .ok (.invokevirtual 132, 3) := by decide +kernel
theorem dX6_number_9 : decode cX6_number 9 = .ok (.ifCond .ne 12, 3) := by decide +kernel
theorem dX6_number_12 : decode cX6_number 12 = .ok (.aload_n 0, 1) := by decide +kernel
theorem dX6_number_13 : decode cX6_number 13 = .ok (.aload_n 0, 1) := by decide +kernel
theorem dX6_number_14 : decode cX6_number 14 = .ok (.getfield 120, 3) := by decide +kernel
theorem dX6_number_17 : decode cX6_number 17 = .ok (.invokevirtual 136, 3) := by decide +kernel
theorem dX6_number_20 : decode cX6_number 20 = .ok (.ireturn, 1) := by decide +kernel
theorem dX6_number_21 : decode cX6_number 21 = .ok (.iconst 0, 1) := by decide +kernel
theorem dX6_number_22 : decode cX6_number 22 = .ok (.istore_n 1, 1) := by decide +kernel
theorem dX6_number_23 : decode cX6_number 23 = .ok (.iload_n 1, 1) := by decide +kernel
theorem dX6_number_24 : decode cX6_number 24 = .ok (.iconst 4, 1) := by decide +kernel
theorem dX6_number_25 : decode cX6_number 25 = .ok (.if_icmp .ge 56, 3) := by decide +kernel
theorem dX6_number_28 : decode cX6_number 28 = .ok (.aload_n 0, 1) := by decide +kernel
theorem dX6_number_29 : decode cX6_number 29 = .ok (.invokevirtual 132, 3) := by decide +kernel
theorem dX6_number_32 : decode cX6_number 32 = .ok (.ifCond .eq 49, 3) := by decide +kernel
theorem dX6_number_35 : decode cX6_number 35 = .ok (.aload_n 0, 1) := by decide +kernel
theorem dX6_number_36 : decode cX6_number 36 = .ok (.bipush 10, 2) := by decide +kernel
theorem dX6_number_38 : decode cX6_number 38 = .ok (.aload_n 0, 1) := by decide +kernel
theorem dX6_number_39 : decode cX6_number 39 = .ok (.getfield 129, 3) := by decide +kernel
theorem dX6_number_42 : decode cX6_number 42 = .ok (.imul, 1) := by decide +kernel
theorem dX6_number_43 : decode cX6_number 43 = .ok (.aload_n 0, 1) := by decide +kernel
theorem dX6_number_44 : decode cX6_number 44 = .ok (.getfield 50, 3) := by decide +kernel
theorem dX6_number_47 : decode cX6_number 47 = .ok (.aload_n 0, 1) := by decide +kernel
theorem dX6_number_48 : decode cX6_number 48 = .ok (.getfield 126, 3) := by decide +kernel
theorem dX6_number_51 : decode cX6_number 51 = .ok (.aload_n 0, 1) := by decide +kernel
theorem dX6_number_52 : decode cX6_number 52 = .ok (.getfield 120, 3) := by decide +kernel
theorem dX6_number_55 : decode cX6_number 55 = .ok (.iadd, 1) := by decide +kernel
theorem dX6_number_56 : decode cX6_number 56 = .ok (.laload, 1) := by decide +kernel
theorem dX6_number_57 : decode cX6_number 57 = .ok (.l2i, 1) := by decide +kernel
theorem dX6_number_58 : decode cX6_number 58 = .ok (.iadd, 1) := by decide +kernel
theorem dX6_number_59 : decode cX6_number 59 = .ok (.bipush 48, 2) := by decide +kernel
theorem dX6_number_61 : decode cX6_number 61 = .ok (.isub, 1) := by decide +kernel
theorem dX6_number_62 : decode cX6_number 62 = .ok (.putfield 129, 3) := by decide +kernel
theorem dX6_number_65 : decode cX6_number 65 = .ok (.aload_n 0, 1) := by decide +kernel
theorem dX6_number_66 : decode cX6_number 66 = .ok (.dup, 1) := by decide +kernel
theorem dX6_number_67 : decode cX6_number 67 = .ok (.getfield 120, 3) := by decide +kernel
theorem dX6_number_70 : decode cX6_number 70 = .ok (.iconst 1, 1) := by decide +kernel
theorem dX6_number_71 : decode cX6_number 71 = .ok (.iadd, 1) := by decide +kernel
theorem dX6_number_72 : decode cX6_number 72 = .ok (.putfield 120, 3) := by decide +kernel
theorem dX6_number_75 : decode cX6_number 75 = .ok (.iinc 1 1, 3) := by decide +kernel
theorem dX6_number_78 : decode cX6_number 78 = .ok (.goto (-55), 3) := by decide +kernel
theorem dX6_number_81 : decode cX6_number 81 = .ok (.iconst 1, 1) := by decide +kernel
theorem dX6_number_82 : decode cX6_number 82 = .ok (.ireturn, 1) := by decide +kernel
def m_X6_number_23  (K : fm_I → fm_L → Option (Int32 × fm_I × fm_L)) : Nat → Int32 → fm_I → fm_L → Option (Int32 × fm_I × fm_L)
  | 0, _, _, _ => none
  | k + 1, v1, μ, ν => if (nI 4) ≤ v1 then K  μ ν else (m_X6_isDigit  μ ν).bind (fun r29 => if r29 = 0 then K  μ ν else fm_g (fm_in ((((μ 58 19)) + ((μ 58 20)))) (fm_n 70)) (m_X6_number_23 K k ((v1 + nI 1)) (fm_u (fm_u μ 58 22 ((((((((nI 10)) * ((μ 58 22)))) + (((ν 70 ((((μ 58 19)) + ((μ 58 20)))).toNatClampNeg)).toInt32))) - ((nI 48))))) 58 20 ((((((fm_u μ 58 22 ((((((((nI 10)) * ((μ 58 22)))) + (((ν 70 ((((μ 58 19)) + ((μ 58 20)))).toNatClampNeg)).toInt32))) - ((nI 48)))))) 58 20)) + ((nI 1))))) ν))
def m_X6_number  (μ : fm_I) (ν : fm_L) : Option (Int32 × fm_I × fm_L) :=
  (m_X6_isDigit  (fm_u μ 58 22 ((nI 0))) ν).bind (fun r6 => if r6 = 0 then (m_X6_wrong ((((fm_u μ 58 22 ((nI 0)))) 58 20)) (fm_u μ 58 22 ((nI 0))) ν).bind (fun r17 => fm_g (fm_b01 r17.1) (some ((r17.1, r17.2.1, r17.2.2)))) else m_X6_number_23  (fun μ23 ν23 => some (((nI 1), μ23, ν23))) 5000 ((nI 0)) (fm_u μ 58 22 ((nI 0))) ν)
theorem ok_X6_number : fm_okV yX6_number cX6_number 2 (some .boolean) 0 := ⟨m_cd_X6_number, m_im_X6_number, m_se_X6_X6_number, m_ini_X6, by decide +kernel, by decide +kernel, by decide +kernel⟩
set_option maxHeartbeats 4000000 in
set_option maxRecDepth 100000 in
theorem j_X6_number_23_ {X : fm_X} {G : fm_G} {l : Launch}  (C : fm_C X G l cX6_number RX6 2 (some .boolean) 2 33) {F : (Int32 × fm_I × fm_L) → State → Prop} (hF : F = fm_Qi X G)  {K : fm_I → fm_L → Option (Int32 × fm_I × fm_L)} (hK : ∀  (μ : fm_I) (ν : fm_L), fm_J X G 2 F (K μ ν) μ ν 81 [] []) : ∀ (k : Nat) (v1 : Int32) (μ : fm_I) (ν : fm_L), fm_J X G 2 F (m_X6_number_23  K k v1 μ ν) μ ν 23 [(0, .ref (G.2.2.1 58)), (1, .int v1)] [] := by
  intro k
  induction k with
  | zero =>
    intro v1 μ ν
    exact fm_none
  | succ k ih =>
    intro v1 μ ν
    rw [m_X6_number_23]
    refine fm_iload_n (pc := 23) C dX6_number_23 rfl rfl ?_
    refine fm_iconst (pc := 24) (v := (nI 4)) C dX6_number_24 (by decide) ?_
    refine fm_icmp_ge (pc := 25) (tgt := 81) C dX6_number_25 (by decide) (fun c3 => ?_) (fun c3 => ?_)
    · refine fm_less (lv' := []) (by repeat (first | exact trivial | refine ⟨rfl, ?_⟩)) ?_
      exact hK  _ _
    · refine fm_aload_n (pc := 28) C dX6_number_28 rfl rfl ?_
      refine fm_bind (fun r29 e29 => ?_)
      refine fm_cVi0 (pc := 29) C (t_X6_isDigit e29) ok_X6_isDigit ⟨by decide, rfl⟩ m_ml_X6_132 dX6_number_29 ⟨Nat.le_of_ble_eq_true rfl, Nat.le_of_ble_eq_true rfl⟩ rfl rfl (Nat.le_of_ble_eq_true rfl) ?_
      refine fm_if_eq (pc := 32) (tgt := 81) C dX6_number_32 (by decide) (fun c4 => ?_) (fun c4 => ?_)
      · refine fm_less (lv' := []) (by repeat (first | exact trivial | refine ⟨rfl, ?_⟩)) ?_
        exact hK  _ _
      · refine fm_aload_n (pc := 35) C dX6_number_35 rfl rfl ?_
        refine fm_bipush (pc := 36) (v := (nI 10)) C dX6_number_36 (by decide) ?_
        refine fm_aload_n (pc := 38) C dX6_number_38 rfl rfl ?_
        refine g6_told (pc := 39) C (by decide) dX6_number_39 m_fl_X6_129 ?_
        refine fm_imul (pc := 42) C dX6_number_42 ?_
        refine fm_aload_n (pc := 43) C dX6_number_43 rfl rfl ?_
        refine g6_cells (pc := 44) C (by decide) dX6_number_44 m_fl_X6_50 ?_
        refine fm_aload_n (pc := 47) C dX6_number_47 rfl rfl ?_
        refine g6_base (pc := 48) C (by decide) dX6_number_48 m_fl_X6_126 ?_
        refine fm_aload_n (pc := 51) C dX6_number_51 rfl rfl ?_
        refine g6_at (pc := 52) C (by decide) dX6_number_52 m_fl_X6_120 ?_
        refine fm_iadd (pc := 55) C dX6_number_55 ?_
        refine fm_guard (fun h5 => ?_)
        refine fm_lald (pc := 56) C (by decide) h5 dX6_number_56 ?_
        refine fm_l2i (pc := 57) C dX6_number_57 ?_
        refine fm_iadd (pc := 58) C dX6_number_58 ?_
        refine fm_bipush (pc := 59) (v := (nI 48)) C dX6_number_59 (by decide) ?_
        refine fm_isub (pc := 61) C dX6_number_61 ?_
        refine p6_told (pc := 62) C (by decide) dX6_number_62 m_fl_X6_129 ?_
        refine fm_aload_n (pc := 65) C dX6_number_65 rfl rfl ?_
        refine fm_dup (pc := 66) C dX6_number_66 rfl ?_
        refine g6_at (pc := 67) C (by decide) dX6_number_67 m_fl_X6_120 ?_
        refine fm_iconst (pc := 70) (v := (nI 1)) C dX6_number_70 (by decide) ?_
        refine fm_iadd (pc := 71) C dX6_number_71 ?_
        refine p6_at (pc := 72) C (by decide) dX6_number_72 m_fl_X6_120 ?_
        refine fm_iinc (pc := 75) C dX6_number_75 rfl (v := (v1 + nI 1)) rfl (by decide) rfl ?_
        refine fm_goto (pc := 78) (tgt := 23) C dX6_number_78 (by decide) ?_
        refine fm_less (lv' := [(0, .ref (G.2.2.1 58)), (1, .int ((v1 + nI 1)))]) (by repeat (first | exact trivial | refine ⟨rfl, ?_⟩)) ?_
        exact ih _ _ _
set_option maxHeartbeats 4000000 in
set_option maxRecDepth 100000 in
theorem j_X6_number {X : fm_X} {G : fm_G} {l : Launch}  {μ : fm_I} {ν : fm_L} (C : fm_C X G l cX6_number RX6 2 (some .boolean) 2 33) {F : (Int32 × fm_I × fm_L) → State → Prop} (hF : F = fm_Qi X G) : fm_J X G 2 F (m_X6_number  μ ν) μ ν 0 [(0, .ref (G.2.2.1 58))] [] := by
  unfold m_X6_number
  refine fm_aload_n (pc := 0) C dX6_number_0 rfl rfl ?_
  refine fm_iconst (pc := 1) (v := (nI 0)) C dX6_number_1 (by decide) ?_
  refine p6_told (pc := 2) C (by decide) dX6_number_2 m_fl_X6_129 ?_
  refine fm_aload_n (pc := 5) C dX6_number_5 rfl rfl ?_
  refine fm_bind (fun r6 e6 => ?_)
  refine fm_cVi0 (pc := 6) C (t_X6_isDigit e6) ok_X6_isDigit ⟨by decide, rfl⟩ m_ml_X6_132 dX6_number_6 ⟨Nat.le_of_ble_eq_true rfl, Nat.le_of_ble_eq_true rfl⟩ rfl rfl (Nat.le_of_ble_eq_true rfl) ?_
  refine fm_if_ne (pc := 9) (tgt := 21) C dX6_number_9 (by decide) (fun c1 => ?_) (fun c1 => ?_)
  · refine fm_aload_n (pc := 12) C dX6_number_12 rfl rfl ?_
    refine fm_aload_n (pc := 13) C dX6_number_13 rfl rfl ?_
    refine g6_at (pc := 14) C (by decide) dX6_number_14 m_fl_X6_120 ?_
    refine fm_bind (fun r17 e17 => ?_)
    refine fm_cVi (pc := 17) C (t_X6_wrong e17) ok_X6_wrong ⟨by decide, rfl⟩ m_ml_X6_136 dX6_number_17 ⟨Nat.le_of_ble_eq_true rfl, Nat.le_of_ble_eq_true rfl⟩ rfl rfl (Nat.le_of_ble_eq_true rfl) ?_
    refine fm_guard (fun h2 => ?_)
    exact fm_zret (pc := 20) C hF rfl (fm_b01_n h2) dX6_number_20
  · refine fm_iconst (pc := 21) (v := (nI 0)) C dX6_number_21 (by decide) ?_
    refine fm_istore_n (pc := 22) C dX6_number_22 rfl (by decide) rfl ?_
    refine fm_less (lv' := [(0, .ref (G.2.2.1 58)), (1, .int ((nI 0)))]) (by repeat (first | exact trivial | refine ⟨rfl, ?_⟩)) ?_
    refine j_X6_number_23_ C  hF  (fun μ23 ν23 => ?_) _ _ _ _
    refine fm_iconst (pc := 81) (v := (nI 1)) C dX6_number_81 (by decide) ?_
    exact fm_zret (pc := 82) C hF rfl rfl dX6_number_82
theorem t_X6_number {l : Launch} {G : fm_G}  {μ : fm_I} {ν : fm_L} {r : Int32 × fm_I × fm_L} (h : m_X6_number  μ ν = some r) : fm_Mi l G yX6_number cX6_number 2 (some .boolean) 2 33 [.ref (G.2.2.1 58)] μ ν r := fm_Mi_of (by decide +kernel) (Nat.le_of_ble_eq_true rfl) (fun _ C => j_X6_number C rfl r h)
theorem dX6_isSo_0 : decode cX6_isSo 0 = .ok (.iload_n 1, 1) := by decide +kernel
theorem dX6_isSo_1 : decode cX6_isSo 1 = .ok (.ifCond .ne 69, 3) := by decide +kernel
theorem dX6_isSo_4 : decode cX6_isSo 4 = .ok (.iload_n 2, 1) := by decide +kernel
theorem dX6_isSo_5 : decode cX6_isSo 5 = .ok (.ifCond .ne 20, 3) := by decide +kernel
theorem dX6_isSo_8 : decode cX6_isSo 8 = .ok (.aload_n 0, 1) := by decide +kernel
theorem dX6_isSo_9 : decode cX6_isSo 9 = .ok (.getfield 129, 3) := by decide +kernel
theorem dX6_isSo_12 : decode cX6_isSo 12 = .ok (.bipush 6, 2) := by decide +kernel
theorem dX6_isSo_14 : decode cX6_isSo 14 = .ok (.if_icmp .gt 7, 3) := by decide +kernel
theorem dX6_isSo_17 : decode cX6_isSo 17 = .ok (.iconst 1, 1) := by decide +kernel
theorem dX6_isSo_18 : decode cX6_isSo 18 = .ok (.goto 51, 3) := by decide +kernel
theorem dX6_isSo_21 : decode cX6_isSo 21 = .ok (.iconst 0, 1) := by decide +kernel
theorem dX6_isSo_22 : decode cX6_isSo 22 = .ok (.goto 47, 3) := by decide +kernel
theorem dX6_isSo_25 : decode cX6_isSo 25 = .ok (.iload_n 2, 1) := by decide +kernel
theorem dX6_isSo_26 : decode cX6_isSo 26 = .ok (.iconst 1, 1) := by decide +kernel
theorem dX6_isSo_27 : decode cX6_isSo 27 = .ok (.if_icmp .eq 37, 3) := by decide +kernel
theorem dX6_isSo_30 : decode cX6_isSo 30 = .ok (.iload_n 2, 1) := by decide +kernel
theorem dX6_isSo_31 : decode cX6_isSo 31 = .ok (.iconst 2, 1) := by decide +kernel
theorem dX6_isSo_32 : decode cX6_isSo 32 = .ok (.if_icmp .ne 23, 3) := by decide +kernel
theorem dX6_isSo_35 : decode cX6_isSo 35 = .ok (.aload_n 0, 1) := by decide +kernel
theorem dX6_isSo_36 : decode cX6_isSo 36 = .ok (.getfield 129, 3) := by decide +kernel
theorem dX6_isSo_39 : decode cX6_isSo 39 = .ok (.iconst 1, 1) := by decide +kernel
theorem dX6_isSo_40 : decode cX6_isSo 40 = .ok (.if_icmp .lt 28, 3) := by decide +kernel
theorem dX6_isSo_43 : decode cX6_isSo 43 = .ok (.aload_n 0, 1) := by decide +kernel
theorem dX6_isSo_44 : decode cX6_isSo 44 = .ok (.getfield 129, 3) := by decide +kernel
theorem dX6_isSo_47 : decode cX6_isSo 47 = .ok (.bipush 12, 2) := by decide +kernel
theorem dX6_isSo_49 : decode cX6_isSo 49 = .ok (.if_icmp .gt 19, 3) := by decide +kernel
theorem dX6_isSo_52 : decode cX6_isSo 52 = .ok (.goto 12, 3) := by decide +kernel
theorem dX6_isSo_55 : decode cX6_isSo 55 = .ok (.aload_n 0, 1) := by decide +kernel
theorem dX6_isSo_56 : decode cX6_isSo 56 = .ok (.getfield 129, 3) := by decide +kernel
theorem dX6_isSo_59 : decode cX6_isSo 59 = .ok (.bipush 9, 2) := by decide +kernel
theorem dX6_isSo_61 : decode cX6_isSo 61 = .ok (.if_icmp .gt 7, 3) := by decide +kernel
theorem dX6_isSo_64 : decode cX6_isSo 64 = .ok (.iconst 1, 1) := by decide +kernel
theorem dX6_isSo_65 : decode cX6_isSo 65 = .ok (.goto 4, 3) := by decide +kernel
theorem dX6_isSo_68 : decode cX6_isSo 68 = .ok (.iconst 0, 1) := by decide +kernel
theorem dX6_isSo_69 : decode cX6_isSo 69 = .ok (.ireturn, 1) := by decide +kernel
theorem dX6_isSo_70 : decode cX6_isSo 70 = .ok (.iload_n 2, 1) := by decide +kernel
theorem dX6_isSo_71 : decode cX6_isSo 71 = .ok (.ifCond .ne 20, 3) := by decide +kernel
theorem dX6_isSo_74 : decode cX6_isSo 74 = .ok (.aload_n 0, 1) := by decide +kernel
theorem dX6_isSo_75 : decode cX6_isSo 75 = .ok (.getfield 129, 3) := by decide +kernel
theorem dX6_isSo_78 : decode cX6_isSo 78 = .ok (.aload_n 0, 1) := by decide +kernel
theorem dX6_isSo_79 : decode cX6_isSo 79 = .ok (.getfield 85, 3) := by decide +kernel
theorem dX6_isSo_82 : decode cX6_isSo 82 = .ok (.if_icmp .ge 7, 3) := by decide +kernel
theorem dX6_isSo_85 : decode cX6_isSo 85 = .ok (.iconst 1, 1) := by decide +kernel
theorem dX6_isSo_86 : decode cX6_isSo 86 = .ok (.goto 4, 3) := by decide +kernel
theorem dX6_isSo_89 : decode cX6_isSo 89 = .ok (.iconst 0, 1) := by decide +kernel
theorem dX6_isSo_90 : decode cX6_isSo 90 = .ok (.ireturn, 1) := by decide +kernel
theorem dX6_isSo_91 : decode cX6_isSo 91 = .ok (.iload_n 1, 1) := by decide +kernel
theorem dX6_isSo_92 : decode cX6_isSo 92 = .ok (.iconst 3, 1) := by decide +kernel
theorem dX6_isSo_93 : decode cX6_isSo 93 = .ok (.if_icmp .ne 49, 3) := by decide +kernel
theorem dX6_isSo_96 : decode cX6_isSo 96 = .ok (.iload_n 2, 1) := by decide +kernel
theorem dX6_isSo_97 : decode cX6_isSo 97 = .ok (.iconst 1, 1) := by decide +kernel
theorem dX6_isSo_98 : decode cX6_isSo 98 = .ok (.if_icmp .ne 29, 3) := by decide +kernel
theorem dX6_isSo_101 : decode cX6_isSo 101 = .ok (.aload_n 0, 1) := by decide +kernel
theorem dX6_isSo_102 : decode cX6_isSo 102 = .ok (.getfield 129, 3) := by decide +kernel
theorem dX6_isSo_105 : decode cX6_isSo 105 = .ok (.aload_n 0, 1) := by decide +kernel
theorem dX6_isSo_106 : decode cX6_isSo 106 = .ok (.getfield 26, 3) := by decide +kernel
theorem dX6_isSo_109 : decode cX6_isSo 109 = .ok (.aload_n 0, 1) := by decide +kernel
theorem dX6_isSo_110 : decode cX6_isSo 110 = .ok (.getfield 60, 3) := by decide +kernel
theorem dX6_isSo_113 : decode cX6_isSo 113 = .ok (.iconst 0, 1) := by decide +kernel
theorem dX6_isSo_114 : decode cX6_isSo 114 = .ok (.iaload, 1) := by decide +kernel
theorem dX6_isSo_115 : decode cX6_isSo 115 = .ok (.iaload, 1) := by decide +kernel
theorem dX6_isSo_116 : decode cX6_isSo 116 = .ok (.if_icmp .ge 7, 3) := by decide +kernel
theorem dX6_isSo_119 : decode cX6_isSo 119 = .ok (.iconst 1, 1) := by decide +kernel
theorem dX6_isSo_120 : decode cX6_isSo 120 = .ok (.goto 21, 3) := by decide +kernel
theorem dX6_isSo_123 : decode cX6_isSo 123 = .ok (.iconst 0, 1) := by decide +kernel
theorem dX6_isSo_124 : decode cX6_isSo 124 = .ok (.goto 17, 3) := by decide +kernel
theorem dX6_isSo_127 : decode cX6_isSo 127 = .ok (.aload_n 0, 1) := by decide +kernel
theorem dX6_isSo_128 : decode cX6_isSo 128 = .ok (.getfield 129, 3) := by decide +kernel
theorem dX6_isSo_131 : decode cX6_isSo 131 = .ok (.bipush 7, 2) := by decide +kernel
theorem dX6_isSo_133 : decode cX6_isSo 133 = .ok (.if_icmp .gt 7, 3) := by decide +kernel
theorem dX6_isSo_136 : decode cX6_isSo 136 = .ok (.iconst 1, 1) := by decide +kernel
theorem dX6_isSo_137 : decode cX6_isSo 137 = .ok (.goto 4, 3) := by decide +kernel
theorem dX6_isSo_140 : decode cX6_isSo 140 = .ok (.iconst 0, 1) := by decide +kernel
theorem dX6_isSo_141 : decode cX6_isSo 141 = .ok (.ireturn, 1) := by decide +kernel
theorem dX6_isSo_142 : decode cX6_isSo 142 = .ok (.iconst 1, 1) := by decide +kernel
theorem dX6_isSo_143 : decode cX6_isSo 143 = .ok (.ireturn, 1) := by decide +kernel
def m_X6_isSo (v1 : Int32) (v2 : Int32) (μ : fm_I) (ν : fm_L) : Option (Int32) :=
  if v1 = 0 then if v2 = 0 then if (nI 6) < (μ 58 22) then some ((nI 0)) else some ((nI 1)) else if v2 = (nI 1) then some ((nI 1)) else if v2 = (nI 2) then if (μ 58 22) < (nI 1) then some ((nI 0)) else if (nI 12) < (μ 58 22) then some ((nI 0)) else some ((nI 1)) else if (nI 9) < (μ 58 22) then some ((nI 0)) else some ((nI 1)) else if v2 = 0 then if (μ 58 0) ≤ (μ 58 22) then some ((nI 0)) else some ((nI 1)) else if v1 = (nI 3) then if v2 = (nI 1) then fm_g (fm_in ((nI 0)) (fm_n 73)) (fm_g (fm_in ((μ 73 ((nI 0)).toNatClampNeg)) (fm_n 62)) (if (μ 62 ((μ 73 ((nI 0)).toNatClampNeg)).toNatClampNeg) ≤ (μ 58 22) then some ((nI 0)) else some ((nI 1)))) else if (nI 7) < (μ 58 22) then some ((nI 0)) else some ((nI 1)) else some ((nI 1))
theorem ok_X6_isSo : fm_okV yX6_isSo cX6_isSo 3 (some .boolean) 2 := ⟨m_cd_X6_isSo, m_im_X6_isSo, m_se_X6_X6_isSo, m_ini_X6, by decide +kernel, by decide +kernel, by decide +kernel⟩
set_option maxHeartbeats 4000000 in
set_option maxRecDepth 100000 in
theorem j_X6_isSo {X : fm_X} {G : fm_G} {l : Launch} {v1 : Int32} {v2 : Int32} {μ : fm_I} {ν : fm_L} (C : fm_C X G l cX6_isSo RX6 3 (some .boolean) 1 12) {F : Int32 → State → Prop} (hF : F = fun r => fm_Qi X G (r, μ, ν)) : fm_J X G 3 F (m_X6_isSo v1 v2 μ ν) μ ν 0 [(0, .ref (G.2.2.1 58)), (1, .int v1), (2, .int v2)] [] := by
  unfold m_X6_isSo
  refine fm_iload_n (pc := 0) C dX6_isSo_0 rfl rfl ?_
  refine fm_if_ne (pc := 1) (tgt := 70) C dX6_isSo_1 (by decide) (fun c1 => ?_) (fun c1 => ?_)
  · refine fm_iload_n (pc := 4) C dX6_isSo_4 rfl rfl ?_
    refine fm_if_ne (pc := 5) (tgt := 25) C dX6_isSo_5 (by decide) (fun c2 => ?_) (fun c2 => ?_)
    · refine fm_aload_n (pc := 8) C dX6_isSo_8 rfl rfl ?_
      refine g6_told (pc := 9) C (by decide) dX6_isSo_9 m_fl_X6_129 ?_
      refine fm_bipush (pc := 12) (v := (nI 6)) C dX6_isSo_12 (by decide) ?_
      refine fm_icmp_gt (pc := 14) (tgt := 21) C dX6_isSo_14 (by decide) (fun c3 => ?_) (fun c3 => ?_)
      · refine fm_iconst (pc := 21) (v := (nI 0)) C dX6_isSo_21 (by decide) ?_
        refine fm_goto (pc := 22) (tgt := 69) C dX6_isSo_22 (by decide) ?_
        exact fm_zret0 (pc := 69) C hF rfl rfl dX6_isSo_69
      · refine fm_iconst (pc := 17) (v := (nI 1)) C dX6_isSo_17 (by decide) ?_
        refine fm_goto (pc := 18) (tgt := 69) C dX6_isSo_18 (by decide) ?_
        exact fm_zret0 (pc := 69) C hF rfl rfl dX6_isSo_69
    · refine fm_iload_n (pc := 25) C dX6_isSo_25 rfl rfl ?_
      refine fm_iconst (pc := 26) (v := (nI 1)) C dX6_isSo_26 (by decide) ?_
      refine fm_icmp_eq (pc := 27) (tgt := 64) C dX6_isSo_27 (by decide) (fun c4 => ?_) (fun c4 => ?_)
      · refine fm_iconst (pc := 64) (v := (nI 1)) C dX6_isSo_64 (by decide) ?_
        refine fm_goto (pc := 65) (tgt := 69) C dX6_isSo_65 (by decide) ?_
        exact fm_zret0 (pc := 69) C hF rfl rfl dX6_isSo_69
      · refine fm_iload_n (pc := 30) C dX6_isSo_30 rfl rfl ?_
        refine fm_iconst (pc := 31) (v := (nI 2)) C dX6_isSo_31 (by decide) ?_
        refine fm_icmp_ne (pc := 32) (tgt := 55) C dX6_isSo_32 (by decide) (fun c5 => ?_) (fun c5 => ?_)
        · refine fm_aload_n (pc := 35) C dX6_isSo_35 rfl rfl ?_
          refine g6_told (pc := 36) C (by decide) dX6_isSo_36 m_fl_X6_129 ?_
          refine fm_iconst (pc := 39) (v := (nI 1)) C dX6_isSo_39 (by decide) ?_
          refine fm_icmp_lt (pc := 40) (tgt := 68) C dX6_isSo_40 (by decide) (fun c6 => ?_) (fun c6 => ?_)
          · refine fm_iconst (pc := 68) (v := (nI 0)) C dX6_isSo_68 (by decide) ?_
            exact fm_zret0 (pc := 69) C hF rfl rfl dX6_isSo_69
          · refine fm_aload_n (pc := 43) C dX6_isSo_43 rfl rfl ?_
            refine g6_told (pc := 44) C (by decide) dX6_isSo_44 m_fl_X6_129 ?_
            refine fm_bipush (pc := 47) (v := (nI 12)) C dX6_isSo_47 (by decide) ?_
            refine fm_icmp_gt (pc := 49) (tgt := 68) C dX6_isSo_49 (by decide) (fun c7 => ?_) (fun c7 => ?_)
            · refine fm_iconst (pc := 68) (v := (nI 0)) C dX6_isSo_68 (by decide) ?_
              exact fm_zret0 (pc := 69) C hF rfl rfl dX6_isSo_69
            · refine fm_goto (pc := 52) (tgt := 64) C dX6_isSo_52 (by decide) ?_
              refine fm_iconst (pc := 64) (v := (nI 1)) C dX6_isSo_64 (by decide) ?_
              refine fm_goto (pc := 65) (tgt := 69) C dX6_isSo_65 (by decide) ?_
              exact fm_zret0 (pc := 69) C hF rfl rfl dX6_isSo_69
        · refine fm_aload_n (pc := 55) C dX6_isSo_55 rfl rfl ?_
          refine g6_told (pc := 56) C (by decide) dX6_isSo_56 m_fl_X6_129 ?_
          refine fm_bipush (pc := 59) (v := (nI 9)) C dX6_isSo_59 (by decide) ?_
          refine fm_icmp_gt (pc := 61) (tgt := 68) C dX6_isSo_61 (by decide) (fun c8 => ?_) (fun c8 => ?_)
          · refine fm_iconst (pc := 68) (v := (nI 0)) C dX6_isSo_68 (by decide) ?_
            exact fm_zret0 (pc := 69) C hF rfl rfl dX6_isSo_69
          · refine fm_iconst (pc := 64) (v := (nI 1)) C dX6_isSo_64 (by decide) ?_
            refine fm_goto (pc := 65) (tgt := 69) C dX6_isSo_65 (by decide) ?_
            exact fm_zret0 (pc := 69) C hF rfl rfl dX6_isSo_69
  · refine fm_iload_n (pc := 70) C dX6_isSo_70 rfl rfl ?_
    refine fm_if_ne (pc := 71) (tgt := 91) C dX6_isSo_71 (by decide) (fun c9 => ?_) (fun c9 => ?_)
    · refine fm_aload_n (pc := 74) C dX6_isSo_74 rfl rfl ?_
      refine g6_told (pc := 75) C (by decide) dX6_isSo_75 m_fl_X6_129 ?_
      refine fm_aload_n (pc := 78) C dX6_isSo_78 rfl rfl ?_
      refine g6_bands (pc := 79) C (by decide) dX6_isSo_79 m_fl_X6_85 ?_
      refine fm_icmp_ge (pc := 82) (tgt := 89) C dX6_isSo_82 (by decide) (fun c10 => ?_) (fun c10 => ?_)
      · refine fm_iconst (pc := 89) (v := (nI 0)) C dX6_isSo_89 (by decide) ?_
        exact fm_zret0 (pc := 90) C hF rfl rfl dX6_isSo_90
      · refine fm_iconst (pc := 85) (v := (nI 1)) C dX6_isSo_85 (by decide) ?_
        refine fm_goto (pc := 86) (tgt := 90) C dX6_isSo_86 (by decide) ?_
        exact fm_zret0 (pc := 90) C hF rfl rfl dX6_isSo_90
    · refine fm_iload_n (pc := 91) C dX6_isSo_91 rfl rfl ?_
      refine fm_iconst (pc := 92) (v := (nI 3)) C dX6_isSo_92 (by decide) ?_
      refine fm_icmp_ne (pc := 93) (tgt := 142) C dX6_isSo_93 (by decide) (fun c11 => ?_) (fun c11 => ?_)
      · refine fm_iload_n (pc := 96) C dX6_isSo_96 rfl rfl ?_
        refine fm_iconst (pc := 97) (v := (nI 1)) C dX6_isSo_97 (by decide) ?_
        refine fm_icmp_ne (pc := 98) (tgt := 127) C dX6_isSo_98 (by decide) (fun c12 => ?_) (fun c12 => ?_)
        · refine fm_aload_n (pc := 101) C dX6_isSo_101 rfl rfl ?_
          refine g6_told (pc := 102) C (by decide) dX6_isSo_102 m_fl_X6_129 ?_
          refine fm_aload_n (pc := 105) C dX6_isSo_105 rfl rfl ?_
          refine g6_strips (pc := 106) C (by decide) dX6_isSo_106 m_fl_X6_26 ?_
          refine fm_aload_n (pc := 109) C dX6_isSo_109 rfl rfl ?_
          refine g6_tell (pc := 110) C (by decide) dX6_isSo_110 m_fl_X6_60 ?_
          refine fm_iconst (pc := 113) (v := (nI 0)) C dX6_isSo_113 (by decide) ?_
          refine fm_guard (fun h13 => ?_)
          refine fm_iald (pc := 114) C (by decide) h13 dX6_isSo_114 ?_
          refine fm_guard (fun h14 => ?_)
          refine fm_iald (pc := 115) C (by decide) h14 dX6_isSo_115 ?_
          refine fm_icmp_ge (pc := 116) (tgt := 123) C dX6_isSo_116 (by decide) (fun c15 => ?_) (fun c15 => ?_)
          · refine fm_iconst (pc := 123) (v := (nI 0)) C dX6_isSo_123 (by decide) ?_
            refine fm_goto (pc := 124) (tgt := 141) C dX6_isSo_124 (by decide) ?_
            exact fm_zret0 (pc := 141) C hF rfl rfl dX6_isSo_141
          · refine fm_iconst (pc := 119) (v := (nI 1)) C dX6_isSo_119 (by decide) ?_
            refine fm_goto (pc := 120) (tgt := 141) C dX6_isSo_120 (by decide) ?_
            exact fm_zret0 (pc := 141) C hF rfl rfl dX6_isSo_141
        · refine fm_aload_n (pc := 127) C dX6_isSo_127 rfl rfl ?_
          refine g6_told (pc := 128) C (by decide) dX6_isSo_128 m_fl_X6_129 ?_
          refine fm_bipush (pc := 131) (v := (nI 7)) C dX6_isSo_131 (by decide) ?_
          refine fm_icmp_gt (pc := 133) (tgt := 140) C dX6_isSo_133 (by decide) (fun c16 => ?_) (fun c16 => ?_)
          · refine fm_iconst (pc := 140) (v := (nI 0)) C dX6_isSo_140 (by decide) ?_
            exact fm_zret0 (pc := 141) C hF rfl rfl dX6_isSo_141
          · refine fm_iconst (pc := 136) (v := (nI 1)) C dX6_isSo_136 (by decide) ?_
            refine fm_goto (pc := 137) (tgt := 141) C dX6_isSo_137 (by decide) ?_
            exact fm_zret0 (pc := 141) C hF rfl rfl dX6_isSo_141
      · refine fm_iconst (pc := 142) (v := (nI 1)) C dX6_isSo_142 (by decide) ?_
        exact fm_zret0 (pc := 143) C hF rfl rfl dX6_isSo_143
theorem t_X6_isSo {l : Launch} {G : fm_G} {v1 : Int32} {v2 : Int32} {μ : fm_I} {ν : fm_L} {r : Int32} (h : m_X6_isSo v1 v2 μ ν = some r) : fm_Mi l G yX6_isSo cX6_isSo 3 (some .boolean) 1 12 [.ref (G.2.2.1 58), .int v1, .int v2] μ ν (r, μ, ν) := fm_Mi_of (by decide +kernel) (Nat.le_of_ble_eq_true rfl) (fun _ C => j_X6_isSo C rfl r h)
theorem dX6_isFull_0 : decode cX6_isFull 0 = .ok (.iload_n 1, 1) := by decide +kernel
theorem dX6_isFull_1 : decode cX6_isFull 1 = .ok (.ifCond .ne 16, 3) := by decide +kernel
theorem dX6_isFull_4 : decode cX6_isFull 4 = .ok (.aload_n 0, 1) := by decide +kernel
theorem dX6_isFull_5 : decode cX6_isFull 5 = .ok (.getfield 85, 3) := by decide +kernel
theorem dX6_isFull_8 : decode cX6_isFull 8 = .ok (.bipush 6, 2) := by decide +kernel
theorem dX6_isFull_10 : decode cX6_isFull 10 = .ok (.if_icmp .ne 7, 3) := by decide +kernel
theorem dX6_isFull_13 : decode cX6_isFull 13 = .ok (.iconst 1, 1) := by decide +kernel
theorem dX6_isFull_14 : decode cX6_isFull 14 = .ok (.goto 4, 3) := by decide +kernel
theorem dX6_isFull_17 : decode cX6_isFull 17 = .ok (.iconst 0, 1) := by decide +kernel
theorem dX6_isFull_18 : decode cX6_isFull 18 = .ok (.ireturn, 1) := by decide +kernel
def m_X6_isFull (v1 : Int32) (μ : fm_I) (ν : fm_L) : Option (Int32) :=
  if v1 = 0 then if (μ 58 0) = (nI 6) then some ((nI 1)) else some ((nI 0)) else some ((nI 0))
theorem ok_X6_isFull : fm_okV yX6_isFull cX6_isFull 2 (some .boolean) 1 := ⟨m_cd_X6_isFull, m_im_X6_isFull, m_se_X6_X6_isFull, m_ini_X6, by decide +kernel, by decide +kernel, by decide +kernel⟩
set_option maxHeartbeats 4000000 in
set_option maxRecDepth 100000 in
theorem j_X6_isFull {X : fm_X} {G : fm_G} {l : Launch} {v1 : Int32} {μ : fm_I} {ν : fm_L} (C : fm_C X G l cX6_isFull RX6 2 (some .boolean) 1 12) {F : Int32 → State → Prop} (hF : F = fun r => fm_Qi X G (r, μ, ν)) : fm_J X G 2 F (m_X6_isFull v1 μ ν) μ ν 0 [(0, .ref (G.2.2.1 58)), (1, .int v1)] [] := by
  unfold m_X6_isFull
  refine fm_iload_n (pc := 0) C dX6_isFull_0 rfl rfl ?_
  refine fm_if_ne (pc := 1) (tgt := 17) C dX6_isFull_1 (by decide) (fun c1 => ?_) (fun c1 => ?_)
  · refine fm_aload_n (pc := 4) C dX6_isFull_4 rfl rfl ?_
    refine g6_bands (pc := 5) C (by decide) dX6_isFull_5 m_fl_X6_85 ?_
    refine fm_bipush (pc := 8) (v := (nI 6)) C dX6_isFull_8 (by decide) ?_
    refine fm_icmp_ne (pc := 10) (tgt := 17) C dX6_isFull_10 (by decide) (fun c2 => ?_) (fun c2 => ?_)
    · refine fm_iconst (pc := 13) (v := (nI 1)) C dX6_isFull_13 (by decide) ?_
      refine fm_goto (pc := 14) (tgt := 18) C dX6_isFull_14 (by decide) ?_
      exact fm_zret0 (pc := 18) C hF rfl rfl dX6_isFull_18
    · refine fm_iconst (pc := 17) (v := (nI 0)) C dX6_isFull_17 (by decide) ?_
      exact fm_zret0 (pc := 18) C hF rfl rfl dX6_isFull_18
  · refine fm_iconst (pc := 17) (v := (nI 0)) C dX6_isFull_17 (by decide) ?_
    exact fm_zret0 (pc := 18) C hF rfl rfl dX6_isFull_18
theorem t_X6_isFull {l : Launch} {G : fm_G} {v1 : Int32} {μ : fm_I} {ν : fm_L} {r : Int32} (h : m_X6_isFull v1 μ ν = some r) : fm_Mi l G yX6_isFull cX6_isFull 2 (some .boolean) 1 12 [.ref (G.2.2.1 58), .int v1] μ ν (r, μ, ν) := fm_Mi_of (by decide +kernel) (Nat.le_of_ble_eq_true rfl) (fun _ C => j_X6_isFull C rfl r h)
theorem dX6_isWordAt_0 : decode cX6_isWordAt 0 = .ok (.iconst 0, 1) := by decide +kernel
theorem dX6_isWordAt_1 : decode cX6_isWordAt 1 = .ok (.istore_n 2, 1) := by decide +kernel
theorem dX6_isWordAt_2 : decode cX6_isWordAt 2 = .ok (.iconst 0, 1) := by decide +kernel
theorem dX6_isWordAt_3 : decode cX6_isWordAt 3 = .ok (.istore_n 3, 1) := by decide +kernel
theorem dX6_isWordAt_4 : decode cX6_isWordAt 4 = .ok (.iload_n 3, 1) := by decide +kernel
theorem dX6_isWordAt_5 : decode cX6_isWordAt 5 = .ok (.iload_n 1, 1) := by decide +kernel
theorem dX6_isWordAt_6 : decode cX6_isWordAt 6 = .ok (.if_icmp .ge 26, 3) := by decide +kernel
theorem dX6_isWordAt_9 : decode cX6_isWordAt 9 = .ok (.iload_n 3, 1) := by decide +kernel
theorem dX6_isWordAt_10 : decode cX6_isWordAt 10 = .ok (.aload_n 0, 1) := by decide +kernel
theorem dX6_isWordAt_11 : decode cX6_isWordAt 11 = .ok (.getfield 57, 3) := by decide +kernel
theorem dX6_isWordAt_14 : decode cX6_isWordAt 14 = .ok (.iload_n 2, 1) := by decide +kernel
theorem dX6_isWordAt_15 : decode cX6_isWordAt 15 = .ok (.iaload, 1) := by decide +kernel
theorem dX6_isWordAt_16 : decode cX6_isWordAt 16 = .ok (.ifCond .ne 7, 3) := by decide +kernel
theorem dX6_isWordAt_19 : decode cX6_isWordAt 19 = .ok (.iconst 1, 1) := by decide +kernel
theorem dX6_isWordAt_20 : decode cX6_isWordAt 20 = .ok (.goto 4, 3) := by decide +kernel
theorem dX6_isWordAt_23 : decode cX6_isWordAt 23 = .ok (.iconst 0, 1) := by decide +kernel
theorem dX6_isWordAt_24 : decode cX6_isWordAt 24 = .ok (.iadd, 1) := by decide +kernel
theorem dX6_isWordAt_25 : decode cX6_isWordAt 25 = .ok (.istore_n 3, 1) := by decide +kernel
theorem dX6_isWordAt_26 : decode cX6_isWordAt 26 = .ok (.iinc 2 1, 3) := by decide +kernel
theorem dX6_isWordAt_29 : decode cX6_isWordAt 29 = .ok (.goto (-25), 3) := by decide +kernel
theorem dX6_isWordAt_32 : decode cX6_isWordAt 32 = .ok (.aload_n 0, 1) := by decide +kernel
theorem dX6_isWordAt_33 : decode cX6_isWordAt 33 = .ok (.getfield 120, 3) := by decide +kernel
theorem dX6_isWordAt_36 : decode cX6_isWordAt 36 = .ok (.istore_n 3, 1) := by decide +kernel
theorem dX6_isWordAt_37 : decode cX6_isWordAt 37 = .ok (.aload_n 0, 1) := by decide +kernel
theorem dX6_isWordAt_38 : decode cX6_isWordAt 38 = .ok (.getfield 57, 3) := by decide +kernel
theorem dX6_isWordAt_41 : decode cX6_isWordAt 41 = .ok (.iload_n 2, 1) := by decide +kernel
theorem dX6_isWordAt_42 : decode cX6_isWordAt 42 = .ok (.iaload, 1) := by decide +kernel
theorem dX6_isWordAt_43 : decode cX6_isWordAt 43 = .ok (.bipush 32, 2) := by decide +kernel
theorem dX6_isWordAt_45 : decode cX6_isWordAt 45 = .ok (.if_icmp .le 41, 3) := by decide +kernel
theorem dX6_isWordAt_48 : decode cX6_isWordAt 48 = .ok (.iload_n 3, 1) := by decide +kernel
theorem dX6_isWordAt_49 : decode cX6_isWordAt 49 = .ok (.aload_n 0, 1) := by decide +kernel
theorem dX6_isWordAt_50 : decode cX6_isWordAt 50 = .ok (.getfield 123, 3) := by decide +kernel
theorem dX6_isWordAt_53 : decode cX6_isWordAt 53 = .ok (.if_icmp .ge 33, 3) := by decide +kernel
theorem dX6_isWordAt_56 : decode cX6_isWordAt 56 = .ok (.aload_n 0, 1) := by decide +kernel
theorem dX6_isWordAt_57 : decode cX6_isWordAt 57 = .ok (.getfield 50, 3) := by decide +kernel
theorem dX6_isWordAt_60 : decode cX6_isWordAt 60 = .ok (.aload_n 0, 1) := by decide +kernel
theorem dX6_isWordAt_61 : decode cX6_isWordAt 61 = .ok (.getfield 126, 3) := by decide +kernel
theorem dX6_isWordAt_64 : decode cX6_isWordAt 64 = .ok (.iload_n 3, 1) := by decide +kernel
theorem dX6_isWordAt_65 : decode cX6_isWordAt 65 = .ok (.iadd, 1) := by decide +kernel
theorem dX6_isWordAt_66 : decode cX6_isWordAt 66 = .ok (.laload, 1) := by decide +kernel
theorem dX6_isWordAt_67 : decode cX6_isWordAt 67 = .ok (.l2i, 1) := by decide +kernel
theorem dX6_isWordAt_68 : decode cX6_isWordAt 68 = .ok (.aload_n 0, 1) := by decide +kernel
theorem dX6_isWordAt_69 : decode cX6_isWordAt 69 = .ok (.getfield 57, 3) := by decide +kernel
theorem dX6_isWordAt_72 : decode cX6_isWordAt 72 = .ok (.iload_n 2, 1) := by decide +kernel
theorem dX6_isWordAt_73 : decode cX6_isWordAt 73 = .ok (.iaload, 1) := by decide +kernel
theorem dX6_isWordAt_74 : decode cX6_isWordAt 74 = .ok (.if_icmp .ne 12, 3) := by decide +kernel
theorem dX6_isWordAt_77 : decode cX6_isWordAt 77 = .ok (.iinc 3 1, 3) := by decide +kernel
theorem dX6_isWordAt_80 : decode cX6_isWordAt 80 = .ok (.iinc 2 1, 3) := by decide +kernel
theorem dX6_isWordAt_83 : decode cX6_isWordAt 83 = .ok (.goto (-46), 3) := by decide +kernel
theorem dX6_isWordAt_86 : decode cX6_isWordAt 86 = .ok (.aload_n 0, 1) := by decide +kernel
theorem dX6_isWordAt_87 : decode cX6_isWordAt 87 = .ok (.getfield 57, 3) := by decide +kernel
theorem dX6_isWordAt_90 : decode cX6_isWordAt 90 = .ok (.iload_n 2, 1) := by decide +kernel
theorem dX6_isWordAt_91 : decode cX6_isWordAt 91 = .ok (.iaload, 1) := by decide +kernel
theorem dX6_isWordAt_92 : decode cX6_isWordAt 92 = .ok (.bipush 32, 2) := by decide +kernel
theorem dX6_isWordAt_94 : decode cX6_isWordAt 94 = .ok (.if_icmp .gt 7, 3) := by decide +kernel
theorem dX6_isWordAt_97 : decode cX6_isWordAt 97 = .ok (.iconst 1, 1) := by decide +kernel
theorem dX6_isWordAt_98 : decode cX6_isWordAt 98 = .ok (.goto 4, 3) := by decide +kernel
theorem dX6_isWordAt_101 : decode cX6_isWordAt 101 = .ok (.iconst 0, 1) := by decide +kernel
theorem dX6_isWordAt_102 : decode cX6_isWordAt 102 = .ok (.ireturn, 1) := by decide +kernel
def m_X6_isWordAt_4 (v1 : Int32) (μ : fm_I) (ν : fm_L) (K : Int32 → Option (Int32)) : Nat → Int32 → Int32 → Option (Int32)
  | 0, _, _ => none
  | k + 1, v2, v3 => if v1 ≤ v3 then K v2 else fm_g (fm_in v2 (fm_n 72)) (if (μ 72 v2.toNatClampNeg) = 0 then m_X6_isWordAt_4 v1 μ ν K k ((v2 + nI 1)) ((v3 + ((nI 1)))) else m_X6_isWordAt_4 v1 μ ν K k ((v2 + nI 1)) ((v3 + ((nI 0)))))
def m_X6_isWordAt_37  (μ : fm_I) (ν : fm_L) (K : Int32 → Option (Int32)) : Nat → Int32 → Int32 → Option (Int32)
  | 0, _, _ => none
  | k + 1, v2, v3 => fm_g (fm_in v2 (fm_n 72)) (if (μ 72 v2.toNatClampNeg) ≤ (nI 32) then K v2 else if (μ 58 21) ≤ v3 then K v2 else fm_g (fm_in ((((μ 58 19)) + v3)) (fm_n 70)) (if ((ν 70 ((((μ 58 19)) + v3)).toNatClampNeg)).toInt32 = (μ 72 v2.toNatClampNeg) then m_X6_isWordAt_37 μ ν K k ((v2 + nI 1)) ((v3 + nI 1)) else K v2))
def m_X6_isWordAt (v1 : Int32) (μ : fm_I) (ν : fm_L) : Option (Int32) :=
  m_X6_isWordAt_4 v1 μ ν (fun x2_4 => m_X6_isWordAt_37 μ ν (fun x2_37 => fm_g (fm_in x2_37 (fm_n 72)) (if (nI 32) < (μ 72 x2_37.toNatClampNeg) then some ((nI 0)) else some ((nI 1)))) 5000 x2_4 ((μ 58 20))) 5000 ((nI 0)) ((nI 0))
theorem ok_X6_isWordAt : fm_okV yX6_isWordAt cX6_isWordAt 4 (some .boolean) 1 := ⟨m_cd_X6_isWordAt, m_im_X6_isWordAt, m_se_X6_X6_isWordAt, m_ini_X6, by decide +kernel, by decide +kernel, by decide +kernel⟩
set_option maxHeartbeats 4000000 in
set_option maxRecDepth 100000 in
theorem j_X6_isWordAt_4_ {X : fm_X} {G : fm_G} {l : Launch} {v1 : Int32} {μ : fm_I} {ν : fm_L} (C : fm_C X G l cX6_isWordAt RX6 4 (some .boolean) 1 12) {F : Int32 → State → Prop} (hF : F = fun r => fm_Qi X G (r, μ, ν))  {K : Int32 → Option (Int32)} (hK : ∀ (v2 : Int32), fm_J X G 4 F (K v2) μ ν 32 [(0, .ref (G.2.2.1 58)), (2, .int v2)] []) : ∀ (k : Nat) (v2 : Int32) (v3 : Int32), fm_J X G 4 F (m_X6_isWordAt_4 v1 μ ν K k v2 v3) μ ν 4 [(0, .ref (G.2.2.1 58)), (1, .int v1), (2, .int v2), (3, .int v3)] [] := by
  intro k
  induction k with
  | zero =>
    intro v2 v3
    exact fm_none
  | succ k ih =>
    intro v2 v3
    rw [m_X6_isWordAt_4]
    refine fm_iload_n (pc := 4) C dX6_isWordAt_4 rfl rfl ?_
    refine fm_iload_n (pc := 5) C dX6_isWordAt_5 rfl rfl ?_
    refine fm_icmp_ge (pc := 6) (tgt := 32) C dX6_isWordAt_6 (by decide) (fun c1 => ?_) (fun c1 => ?_)
    · refine fm_less (lv' := [(0, .ref (G.2.2.1 58)), (2, .int v2)]) (by repeat (first | exact trivial | refine ⟨rfl, ?_⟩)) ?_
      exact hK _
    · refine fm_iload_n (pc := 9) C dX6_isWordAt_9 rfl rfl ?_
      refine fm_aload_n (pc := 10) C dX6_isWordAt_10 rfl rfl ?_
      refine g6_words (pc := 11) C (by decide) dX6_isWordAt_11 m_fl_X6_57 ?_
      refine fm_iload_n (pc := 14) C dX6_isWordAt_14 rfl rfl ?_
      refine fm_guard (fun h2 => ?_)
      refine fm_iald (pc := 15) C (by decide) h2 dX6_isWordAt_15 ?_
      refine fm_if_ne (pc := 16) (tgt := 23) C dX6_isWordAt_16 (by decide) (fun c3 => ?_) (fun c3 => ?_)
      · refine fm_iconst (pc := 19) (v := (nI 1)) C dX6_isWordAt_19 (by decide) ?_
        refine fm_goto (pc := 20) (tgt := 24) C dX6_isWordAt_20 (by decide) ?_
        refine fm_iadd (pc := 24) C dX6_isWordAt_24 ?_
        refine fm_istore_n (pc := 25) C dX6_isWordAt_25 rfl (by decide) rfl ?_
        refine fm_iinc (pc := 26) C dX6_isWordAt_26 rfl (v := (v2 + nI 1)) rfl (by decide) rfl ?_
        refine fm_goto (pc := 29) (tgt := 4) C dX6_isWordAt_29 (by decide) ?_
        refine fm_less (lv' := [(0, .ref (G.2.2.1 58)), (1, .int v1), (2, .int ((v2 + nI 1))), (3, .int ((v3 + ((nI 1)))))]) (by repeat (first | exact trivial | refine ⟨rfl, ?_⟩)) ?_
        exact ih _ _
      · refine fm_iconst (pc := 23) (v := (nI 0)) C dX6_isWordAt_23 (by decide) ?_
        refine fm_iadd (pc := 24) C dX6_isWordAt_24 ?_
        refine fm_istore_n (pc := 25) C dX6_isWordAt_25 rfl (by decide) rfl ?_
        refine fm_iinc (pc := 26) C dX6_isWordAt_26 rfl (v := (v2 + nI 1)) rfl (by decide) rfl ?_
        refine fm_goto (pc := 29) (tgt := 4) C dX6_isWordAt_29 (by decide) ?_
        refine fm_less (lv' := [(0, .ref (G.2.2.1 58)), (1, .int v1), (2, .int ((v2 + nI 1))), (3, .int ((v3 + ((nI 0)))))]) (by repeat (first | exact trivial | refine ⟨rfl, ?_⟩)) ?_
        exact ih _ _
set_option maxHeartbeats 4000000 in
set_option maxRecDepth 100000 in
theorem j_X6_isWordAt_37_ {X : fm_X} {G : fm_G} {l : Launch}  {μ : fm_I} {ν : fm_L} (C : fm_C X G l cX6_isWordAt RX6 4 (some .boolean) 1 12) {F : Int32 → State → Prop} (hF : F = fun r => fm_Qi X G (r, μ, ν))  {K : Int32 → Option (Int32)} (hK : ∀ (v2 : Int32), fm_J X G 4 F (K v2) μ ν 86 [(0, .ref (G.2.2.1 58)), (2, .int v2)] []) : ∀ (k : Nat) (v2 : Int32) (v3 : Int32), fm_J X G 4 F (m_X6_isWordAt_37  μ ν K k v2 v3) μ ν 37 [(0, .ref (G.2.2.1 58)), (2, .int v2), (3, .int v3)] [] := by
  intro k
  induction k with
  | zero =>
    intro v2 v3
    exact fm_none
  | succ k ih =>
    intro v2 v3
    rw [m_X6_isWordAt_37]
    refine fm_aload_n (pc := 37) C dX6_isWordAt_37 rfl rfl ?_
    refine g6_words (pc := 38) C (by decide) dX6_isWordAt_38 m_fl_X6_57 ?_
    refine fm_iload_n (pc := 41) C dX6_isWordAt_41 rfl rfl ?_
    refine fm_guard (fun h4 => ?_)
    refine fm_iald (pc := 42) C (by decide) h4 dX6_isWordAt_42 ?_
    refine fm_bipush (pc := 43) (v := (nI 32)) C dX6_isWordAt_43 (by decide) ?_
    refine fm_icmp_le (pc := 45) (tgt := 86) C dX6_isWordAt_45 (by decide) (fun c5 => ?_) (fun c5 => ?_)
    · refine fm_less (lv' := [(0, .ref (G.2.2.1 58)), (2, .int v2)]) (by repeat (first | exact trivial | refine ⟨rfl, ?_⟩)) ?_
      exact hK _
    · refine fm_iload_n (pc := 48) C dX6_isWordAt_48 rfl rfl ?_
      refine fm_aload_n (pc := 49) C dX6_isWordAt_49 rfl rfl ?_
      refine g6_end (pc := 50) C (by decide) dX6_isWordAt_50 m_fl_X6_123 ?_
      refine fm_icmp_ge (pc := 53) (tgt := 86) C dX6_isWordAt_53 (by decide) (fun c6 => ?_) (fun c6 => ?_)
      · refine fm_less (lv' := [(0, .ref (G.2.2.1 58)), (2, .int v2)]) (by repeat (first | exact trivial | refine ⟨rfl, ?_⟩)) ?_
        exact hK _
      · refine fm_aload_n (pc := 56) C dX6_isWordAt_56 rfl rfl ?_
        refine g6_cells (pc := 57) C (by decide) dX6_isWordAt_57 m_fl_X6_50 ?_
        refine fm_aload_n (pc := 60) C dX6_isWordAt_60 rfl rfl ?_
        refine g6_base (pc := 61) C (by decide) dX6_isWordAt_61 m_fl_X6_126 ?_
        refine fm_iload_n (pc := 64) C dX6_isWordAt_64 rfl rfl ?_
        refine fm_iadd (pc := 65) C dX6_isWordAt_65 ?_
        refine fm_guard (fun h7 => ?_)
        refine fm_lald (pc := 66) C (by decide) h7 dX6_isWordAt_66 ?_
        refine fm_l2i (pc := 67) C dX6_isWordAt_67 ?_
        refine fm_aload_n (pc := 68) C dX6_isWordAt_68 rfl rfl ?_
        refine g6_words (pc := 69) C (by decide) dX6_isWordAt_69 m_fl_X6_57 ?_
        refine fm_iload_n (pc := 72) C dX6_isWordAt_72 rfl rfl ?_
        refine fm_iald (pc := 73) C (by decide) h4 dX6_isWordAt_73 ?_
        refine fm_icmp_ne (pc := 74) (tgt := 86) C dX6_isWordAt_74 (by decide) (fun c8 => ?_) (fun c8 => ?_)
        · refine fm_iinc (pc := 77) C dX6_isWordAt_77 rfl (v := (v3 + nI 1)) rfl (by decide) rfl ?_
          refine fm_iinc (pc := 80) C dX6_isWordAt_80 rfl (v := (v2 + nI 1)) rfl (by decide) rfl ?_
          refine fm_goto (pc := 83) (tgt := 37) C dX6_isWordAt_83 (by decide) ?_
          refine fm_less (lv' := [(0, .ref (G.2.2.1 58)), (2, .int ((v2 + nI 1))), (3, .int ((v3 + nI 1)))]) (by repeat (first | exact trivial | refine ⟨rfl, ?_⟩)) ?_
          exact ih _ _
        · refine fm_less (lv' := [(0, .ref (G.2.2.1 58)), (2, .int v2)]) (by repeat (first | exact trivial | refine ⟨rfl, ?_⟩)) ?_
          exact hK _
set_option maxHeartbeats 4000000 in
set_option maxRecDepth 100000 in
theorem j_X6_isWordAt {X : fm_X} {G : fm_G} {l : Launch} {v1 : Int32} {μ : fm_I} {ν : fm_L} (C : fm_C X G l cX6_isWordAt RX6 4 (some .boolean) 1 12) {F : Int32 → State → Prop} (hF : F = fun r => fm_Qi X G (r, μ, ν)) : fm_J X G 4 F (m_X6_isWordAt v1 μ ν) μ ν 0 [(0, .ref (G.2.2.1 58)), (1, .int v1)] [] := by
  unfold m_X6_isWordAt
  refine fm_iconst (pc := 0) (v := (nI 0)) C dX6_isWordAt_0 (by decide) ?_
  refine fm_istore_n (pc := 1) C dX6_isWordAt_1 rfl (by decide) rfl ?_
  refine fm_iconst (pc := 2) (v := (nI 0)) C dX6_isWordAt_2 (by decide) ?_
  refine fm_istore_n (pc := 3) C dX6_isWordAt_3 rfl (by decide) rfl ?_
  refine fm_less (lv' := [(0, .ref (G.2.2.1 58)), (1, .int v1), (2, .int ((nI 0))), (3, .int ((nI 0)))]) (by repeat (first | exact trivial | refine ⟨rfl, ?_⟩)) ?_
  refine j_X6_isWordAt_4_ C (v1 := v1) hF  (fun x2_4 => ?_) _ _ _
  refine fm_aload_n (pc := 32) C dX6_isWordAt_32 rfl rfl ?_
  refine g6_at (pc := 33) C (by decide) dX6_isWordAt_33 m_fl_X6_120 ?_
  refine fm_istore_n (pc := 36) C dX6_isWordAt_36 rfl (by decide) rfl ?_
  refine fm_less (lv' := [(0, .ref (G.2.2.1 58)), (2, .int x2_4), (3, .int ((μ 58 20)))]) (by repeat (first | exact trivial | refine ⟨rfl, ?_⟩)) ?_
  refine j_X6_isWordAt_37_ C  hF  (fun x2_37 => ?_) _ _ _
  refine fm_aload_n (pc := 86) C dX6_isWordAt_86 rfl rfl ?_
  refine g6_words (pc := 87) C (by decide) dX6_isWordAt_87 m_fl_X6_57 ?_
  refine fm_iload_n (pc := 90) C dX6_isWordAt_90 rfl rfl ?_
  refine fm_guard (fun h9 => ?_)
  refine fm_iald (pc := 91) C (by decide) h9 dX6_isWordAt_91 ?_
  refine fm_bipush (pc := 92) (v := (nI 32)) C dX6_isWordAt_92 (by decide) ?_
  refine fm_icmp_gt (pc := 94) (tgt := 101) C dX6_isWordAt_94 (by decide) (fun c10 => ?_) (fun c10 => ?_)
  · refine fm_iconst (pc := 101) (v := (nI 0)) C dX6_isWordAt_101 (by decide) ?_
    exact fm_zret0 (pc := 102) C hF rfl rfl dX6_isWordAt_102
  · refine fm_iconst (pc := 97) (v := (nI 1)) C dX6_isWordAt_97 (by decide) ?_
    refine fm_goto (pc := 98) (tgt := 102) C dX6_isWordAt_98 (by decide) ?_
    exact fm_zret0 (pc := 102) C hF rfl rfl dX6_isWordAt_102
theorem t_X6_isWordAt {l : Launch} {G : fm_G} {v1 : Int32} {μ : fm_I} {ν : fm_L} {r : Int32} (h : m_X6_isWordAt v1 μ ν = some r) : fm_Mi l G yX6_isWordAt cX6_isWordAt 4 (some .boolean) 1 12 [.ref (G.2.2.1 58), .int v1] μ ν (r, μ, ν) := fm_Mi_of (by decide +kernel) (Nat.le_of_ble_eq_true rfl) (fun _ C => j_X6_isWordAt C rfl r h)
theorem dX6_item_0 : decode cX6_item 0 = .ok (.iconst 0, 1) := by decide +kernel
theorem dX6_item_1 : decode cX6_item 1 = .ok (.istore_n 1, 1) := by decide +kernel
theorem dX6_item_2 : decode cX6_item 2 = .ok (.iload_n 1, 1) := by decide +kernel
theorem dX6_item_3 : decode cX6_item 3 = .ok (.iconst 5, 1) := by decide +kernel
theorem dX6_item_4 : decode cX6_item 4 = .ok (.if_icmp .ge 34, 3) := by decide +kernel
theorem dX6_item_7 : decode cX6_item 7 = .ok (.aload_n 0, 1) := by decide +kernel
theorem dX6_item_8 : decode cX6_item 8 = .ok (.iload_n 1, 1) := by decide +kernel
theorem dX6_item_9 : decode cX6_item 9 = .ok (.invokevirtual 139, 3) := by decide +kernel
theorem dX6_item_12 : decode cX6_item 12 = .ok (.ifCond .eq 20, 3) := by decide +kernel
theorem dX6_item_15 : decode cX6_item 15 = .ok (.aload_n 0, 1) := by decide +kernel
theorem dX6_item_16 : decode cX6_item 16 = .ok (.iload_n 1, 1) := by decide +kernel
theorem dX6_item_17 : decode cX6_item 17 = .ok (.invokevirtual 142, 3) := by decide +kernel
theorem dX6_item_20 : decode cX6_item 20 = .ok (.ifCond .eq 12, 3) := by decide +kernel
theorem dX6_item_23 : decode cX6_item 23 = .ok (.aload_n 0, 1) := by decide +kernel
theorem dX6_item_24 : decode cX6_item 24 = .ok (.aload_n 0, 1) := by decide +kernel
theorem dX6_item_25 : decode cX6_item 25 = .ok (.getfield 120, 3) := by decide +kernel
theorem dX6_item_28 : decode cX6_item 28 = .ok (.invokevirtual 136, 3) := by decide +kernel
theorem dX6_item_31 : decode cX6_item 31 = .ok (.ireturn, 1) := by decide +kernel
theorem dX6_item_32 : decode cX6_item 32 = .ok (.iinc 1 1, 3) := by decide +kernel
theorem dX6_item_35 : decode cX6_item 35 = .ok (.goto (-33), 3) := by decide +kernel
theorem dX6_item_38 : decode cX6_item 38 = .ok (.aload_n 0, 1) := by decide +kernel
theorem dX6_item_39 : decode cX6_item 39 = .ok (.getfield 120, 3) := by decide +kernel
theorem dX6_item_42 : decode cX6_item 42 = .ok (.istore_n 1, 1) := by decide +kernel
theorem dX6_item_43 : decode cX6_item 43 = .ok (.aload_n 0, 1) := by decide +kernel
theorem dX6_item_44 : decode cX6_item 44 = .ok (.invokevirtual 145, 3) := by decide +kernel
theorem dX6_item_47 : decode cX6_item 47 = .ok (.istore_n 2, 1) := by decide +kernel
theorem dX6_item_48 : decode cX6_item 48 = .ok (.iload_n 2, 1) := by decide +kernel
theorem dX6_item_49 : decode cX6_item 49 = .ok (.iconst (-1), 1) := by decide +kernel
theorem dX6_item_50 : decode cX6_item 50 = .ok (.if_icmp .ne 5, 3) := by decide +kernel
theorem dX6_item_53 : decode cX6_item 53 = .ok (.iconst 0, 1) := by decide +kernel
theorem dX6_item_54 : decode cX6_item 54 = .ok (.ireturn, 1) := by decide +kernel
theorem dX6_item_55 : decode cX6_item 55 = .ok (.iload_n 2, 1) := by decide +kernel
theorem dX6_item_56 : decode cX6_item 56 = .ok (.ifCond .ne 18, 3) := by decide +kernel
theorem dX6_item_59 : decode cX6_item 59 = .ok (.aload_n 0, 1) := by decide +kernel
theorem dX6_item_60 : decode cX6_item 60 = .ok (.getfield 85, 3) := by decide +kernel
theorem dX6_item_63 : decode cX6_item 63 = .ok (.bipush 6, 2) := by decide +kernel
theorem dX6_item_65 : decode cX6_item 65 = .ok (.if_icmp .ne 9, 3) := by decide +kernel
theorem dX6_item_68 : decode cX6_item 68 = .ok (.aload_n 0, 1) := by decide +kernel
theorem dX6_item_69 : decode cX6_item 69 = .ok (.iload_n 1, 1) := by decide +kernel
theorem dX6_item_70 : decode cX6_item 70 = .ok (.invokevirtual 136, 3) := by decide +kernel
theorem dX6_item_73 : decode cX6_item 73 = .ok (.ireturn, 1) := by decide +kernel
theorem dX6_item_74 : decode cX6_item 74 = .ok (.iload_n 2, 1) := by decide +kernel
theorem dX6_item_75 : decode cX6_item 75 = .ok (.ifCond .ne 7, 3) := by decide +kernel
theorem dX6_item_78 : decode cX6_item 78 = .ok (.iconst 4, 1) := by decide +kernel
theorem dX6_item_79 : decode cX6_item 79 = .ok (.goto 22, 3) := by decide +kernel
theorem dX6_item_82 : decode cX6_item 82 = .ok (.iload_n 2, 1) := by decide +kernel
theorem dX6_item_83 : decode cX6_item 83 = .ok (.iconst 3, 1) := by decide +kernel
theorem dX6_item_84 : decode cX6_item 84 = .ok (.if_icmp .ne 7, 3) := by decide +kernel
theorem dX6_item_87 : decode cX6_item 87 = .ok (.iconst 3, 1) := by decide +kernel
theorem dX6_item_88 : decode cX6_item 88 = .ok (.goto 13, 3) := by decide +kernel
theorem dX6_item_91 : decode cX6_item 91 = .ok (.iload_n 2, 1) := by decide +kernel
theorem dX6_item_92 : decode cX6_item 92 = .ok (.iconst 4, 1) := by decide +kernel
theorem dX6_item_93 : decode cX6_item 93 = .ok (.if_icmp .ne 7, 3) := by decide +kernel
theorem dX6_item_96 : decode cX6_item 96 = .ok (.iconst 2, 1) := by decide +kernel
theorem dX6_item_97 : decode cX6_item 97 = .ok (.goto 4, 3) := by decide +kernel
theorem dX6_item_100 : decode cX6_item 100 = .ok (.iconst 1, 1) := by decide +kernel
theorem dX6_item_101 : decode cX6_item 101 = .ok (.istore_n 3, 1) := by decide +kernel
theorem dX6_item_102 : decode cX6_item 102 = .ok (.iconst 0, 1) := by decide +kernel
theorem dX6_item_103 : decode cX6_item 103 = .ok (.istore 4, 2) := by decide +kernel
theorem dX6_item_105 : decode cX6_item 105 = .ok (.iload 4, 2) := by decide +kernel
theorem dX6_item_107 : decode cX6_item 107 = .ok (.iload_n 3, 1) := by decide +kernel
theorem dX6_item_108 : decode cX6_item 108 = .ok (.if_icmp .ge 107, 3) := by decide +kernel
theorem dX6_item_111 : decode cX6_item 111 = .ok (.iload 4, 2) := by decide +kernel
theorem dX6_item_113 : decode cX6_item 113 = .ok (.ifCond .le 53, 3) := by decide +kernel
theorem dX6_item_116 : decode cX6_item 116 = .ok (.aload_n 0, 1) := by decide +kernel
theorem dX6_item_117 : decode cX6_item 117 = .ok (.getfield 120, 3) := by decide +kernel
theorem dX6_item_120 : decode cX6_item 120 = .ok (.aload_n 0, 1) := by decide +kernel
theorem dX6_item_121 : decode cX6_item 121 = .ok (.getfield 123, 3) := by decide +kernel
theorem dX6_item_124 : decode cX6_item 124 = .ok (.if_icmp .ge 23, 3) := by decide +kernel
theorem dX6_item_127 : decode cX6_item 127 = .ok (.aload_n 0, 1) := by decide +kernel
theorem dX6_item_128 : decode cX6_item 128 = .ok (.getfield 50, 3) := by decide +kernel
theorem dX6_item_131 : decode cX6_item 131 = .ok (.aload_n 0, 1) := by decide +kernel
theorem dX6_item_132 : decode cX6_item 132 = .ok (.getfield 126, 3) := by decide +kernel
theorem dX6_item_135 : decode cX6_item 135 = .ok (.aload_n 0, 1) := by decide +kernel
theorem dX6_item_136 : decode cX6_item 136 = .ok (.getfield 120, 3) := by decide +kernel
theorem dX6_item_139 : decode cX6_item 139 = .ok (.iadd, 1) := by decide +kernel
theorem dX6_item_140 : decode cX6_item 140 = .ok (.laload, 1) := by decide +kernel
theorem dX6_item_141 : decode cX6_item 141 = .ok (.l2i, 1) := by decide +kernel
theorem dX6_item_142 : decode cX6_item 142 = .ok (.bipush 32, 2) := by decide +kernel
theorem dX6_item_144 : decode cX6_item 144 = .ok (.if_icmp .eq 12, 3) := by decide +kernel
theorem dX6_item_147 : decode cX6_item 147 = .ok (.aload_n 0, 1) := by decide +kernel
theorem dX6_item_148 : decode cX6_item 148 = .ok (.aload_n 0, 1) := by decide +kernel
theorem dX6_item_149 : decode cX6_item 149 = .ok (.getfield 120, 3) := by decide +kernel
theorem dX6_item_152 : decode cX6_item 152 = .ok (.invokevirtual 136, 3) := by decide +kernel
theorem dX6_item_155 : decode cX6_item 155 = .ok (.ireturn, 1) := by decide +kernel
theorem dX6_item_156 : decode cX6_item 156 = .ok (.aload_n 0, 1) := by decide +kernel
theorem dX6_item_157 : decode cX6_item 157 = .ok (.dup, 1) := by decide +kernel
theorem dX6_item_158 : decode cX6_item 158 = .ok (.getfield 120, 3) := by decide +kernel
theorem dX6_item_161 : decode cX6_item 161 = .ok (.iconst 1, 1) := by decide +kernel
theorem dX6_item_162 : decode cX6_item 162 = .ok (.iadd, 1) := by decide +kernel
theorem dX6_item_163 : decode cX6_item 163 = .ok (.putfield 120, 3) := by decide +kernel
theorem dX6_item_166 : decode cX6_item 166 = .ok (.aload_n 0, 1) := by decide +kernel
theorem dX6_item_167 : decode cX6_item 167 = .ok (.getfield 120, 3) := by decide +kernel
theorem dX6_item_170 : decode cX6_item 170 = .ok (.istore 5, 2) := by decide +kernel
theorem dX6_item_172 : decode cX6_item 172 = .ok (.aload_n 0, 1) := by decide +kernel
theorem dX6_item_173 : decode cX6_item 173 = .ok (.invokevirtual 149, 3) := by decide +kernel
theorem dX6_item_176 : decode cX6_item 176 = .ok (.ifCond .ne 5, 3) := by decide +kernel
theorem dX6_item_179 : decode cX6_item 179 = .ok (.iconst 0, 1) := by decide +kernel
theorem dX6_item_180 : decode cX6_item 180 = .ok (.ireturn, 1) := by decide +kernel
theorem dX6_item_181 : decode cX6_item 181 = .ok (.aload_n 0, 1) := by decide +kernel
theorem dX6_item_182 : decode cX6_item 182 = .ok (.iload_n 2, 1) := by decide +kernel
theorem dX6_item_183 : decode cX6_item 183 = .ok (.iload 4, 2) := by decide +kernel
theorem dX6_item_185 : decode cX6_item 185 = .ok (.invokevirtual 152, 3) := by decide +kernel
theorem dX6_item_188 : decode cX6_item 188 = .ok (.ifCond .ne 10, 3) := by decide +kernel
theorem dX6_item_191 : decode cX6_item 191 = .ok (.aload_n 0, 1) := by decide +kernel
theorem dX6_item_192 : decode cX6_item 192 = .ok (.iload 5, 2) := by decide +kernel
theorem dX6_item_194 : decode cX6_item 194 = .ok (.invokevirtual 136, 3) := by decide +kernel
theorem dX6_item_197 : decode cX6_item 197 = .ok (.ireturn, 1) := by decide +kernel
theorem dX6_item_198 : decode cX6_item 198 = .ok (.aload_n 0, 1) := by decide +kernel
theorem dX6_item_199 : decode cX6_item 199 = .ok (.getfield 60, 3) := by decide +kernel
theorem dX6_item_202 : decode cX6_item 202 = .ok (.iload 4, 2) := by decide +kernel
theorem dX6_item_204 : decode cX6_item 204 = .ok (.aload_n 0, 1) := by decide +kernel
theorem dX6_item_205 : decode cX6_item 205 = .ok (.getfield 129, 3) := by decide +kernel
theorem dX6_item_208 : decode cX6_item 208 = .ok (.iastore, 1) := by decide +kernel
theorem dX6_item_209 : decode cX6_item 209 = .ok (.iinc 4 1, 3) := by decide +kernel
theorem dX6_item_212 : decode cX6_item 212 = .ok (.goto (-107), 3) := by decide +kernel
theorem dX6_item_215 : decode cX6_item 215 = .ok (.iload_n 2, 1) := by decide +kernel
theorem dX6_item_216 : decode cX6_item 216 = .ok (.tableswitch 125 0 3 #[32, 65, 80, 95], 32) := by decide +kernel
theorem dX6_item_248 : decode cX6_item 248 = .ok (.aload_n 0, 1) := by decide +kernel
theorem dX6_item_249 : decode cX6_item 249 = .ok (.aload_n 0, 1) := by decide +kernel
theorem dX6_item_250 : decode cX6_item 250 = .ok (.getfield 60, 3) := by decide +kernel
theorem dX6_item_253 : decode cX6_item 253 = .ok (.iconst 0, 1) := by decide +kernel
theorem dX6_item_254 : decode cX6_item 254 = .ok (.iaload, 1) := by decide +kernel
theorem dX6_item_255 : decode cX6_item 255 = .ok (.aload_n 0, 1) := by decide +kernel
theorem dX6_item_256 : decode cX6_item 256 = .ok (.getfield 60, 3) := by decide +kernel
theorem dX6_item_259 : decode cX6_item 259 = .ok (.iconst 1, 1) := by decide +kernel
theorem dX6_item_260 : decode cX6_item 260 = .ok (.iaload, 1) := by decide +kernel
theorem dX6_item_261 : decode cX6_item 261 = .ok (.aload_n 0, 1) := by decide +kernel
theorem dX6_item_262 : decode cX6_item 262 = .ok (.getfield 60, 3) := by decide +kernel
theorem dX6_item_265 : decode cX6_item 265 = .ok (.iconst 2, 1) := by decide +kernel
theorem dX6_item_266 : decode cX6_item 266 = .ok (.iaload, 1) := by decide +kernel
theorem dX6_item_267 : decode cX6_item 267 = .ok (.iconst 0, 1) := by decide +kernel
theorem dX6_item_268 : decode cX6_item 268 = .ok (.aload_n 0, 1) := by decide +kernel
theorem dX6_item_269 : decode cX6_item 269 = .ok (.getfield 60, 3) := by decide +kernel
theorem dX6_item_272 : decode cX6_item 272 = .ok (.iconst 3, 1) := by decide +kernel
theorem dX6_item_273 : decode cX6_item 273 = .ok (.iaload, 1) := by decide +kernel
theorem dX6_item_274 : decode cX6_item 274 = .ok (.invokevirtual 109, 3) := by decide +kernel
theorem dX6_item_277 : decode cX6_item 277 = .ok (.pop, 1) := by decide +kernel
theorem dX6_item_278 : decode cX6_item 278 = .ok (.goto 80, 3) := by decide +kernel
theorem dX6_item_281 : decode cX6_item 281 = .ok (.aload_n 0, 1) := by decide +kernel
theorem dX6_item_282 : decode cX6_item 282 = .ok (.getfield 29, 3) := by decide +kernel
theorem dX6_item_285 : decode cX6_item 285 = .ok (.aload_n 0, 1) := by decide +kernel
theorem dX6_item_286 : decode cX6_item 286 = .ok (.getfield 60, 3) := by decide +kernel
theorem dX6_item_289 : decode cX6_item 289 = .ok (.iconst 0, 1) := by decide +kernel
theorem dX6_item_290 : decode cX6_item 290 = .ok (.iaload, 1) := by decide +kernel
theorem dX6_item_291 : decode cX6_item 291 = .ok (.iconst 1, 1) := by decide +kernel
theorem dX6_item_292 : decode cX6_item 292 = .ok (.iastore, 1) := by decide +kernel
theorem dX6_item_293 : decode cX6_item 293 = .ok (.goto 65, 3) := by decide +kernel
theorem dX6_item_296 : decode cX6_item 296 = .ok (.aload_n 0, 1) := by decide +kernel
theorem dX6_item_297 : decode cX6_item 297 = .ok (.getfield 29, 3) := by decide +kernel
theorem dX6_item_300 : decode cX6_item 300 = .ok (.aload_n 0, 1) := by decide +kernel
theorem dX6_item_301 : decode cX6_item 301 = .ok (.getfield 60, 3) := by decide +kernel
theorem dX6_item_304 : decode cX6_item 304 = .ok (.iconst 0, 1) := by decide +kernel
theorem dX6_item_305 : decode cX6_item 305 = .ok (.iaload, 1) := by decide +kernel
theorem dX6_item_306 : decode cX6_item 306 = .ok (.iconst 0, 1) := by decide +kernel
theorem dX6_item_307 : decode cX6_item 307 = .ok (.iastore, 1) := by decide +kernel
theorem dX6_item_308 : decode cX6_item 308 = .ok (.goto 50, 3) := by decide +kernel
theorem dX6_item_311 : decode cX6_item 311 = .ok (.aload_n 0, 1) := by decide +kernel
theorem dX6_item_312 : decode cX6_item 312 = .ok (.getfield 35, 3) := by decide +kernel
theorem dX6_item_315 : decode cX6_item 315 = .ok (.bipush 12, 2) := by decide +kernel
theorem dX6_item_317 : decode cX6_item 317 = .ok (.aload_n 0, 1) := by decide +kernel
theorem dX6_item_318 : decode cX6_item 318 = .ok (.getfield 60, 3) := by decide +kernel
theorem dX6_item_321 : decode cX6_item 321 = .ok (.iconst 0, 1) := by decide +kernel
theorem dX6_item_322 : decode cX6_item 322 = .ok (.iaload, 1) := by decide +kernel
theorem dX6_item_323 : decode cX6_item 323 = .ok (.imul, 1) := by decide +kernel
theorem dX6_item_324 : decode cX6_item 324 = .ok (.aload_n 0, 1) := by decide +kernel
theorem dX6_item_325 : decode cX6_item 325 = .ok (.getfield 60, 3) := by decide +kernel
theorem dX6_item_328 : decode cX6_item 328 = .ok (.iconst 1, 1) := by decide +kernel
theorem dX6_item_329 : decode cX6_item 329 = .ok (.iaload, 1) := by decide +kernel
theorem dX6_item_330 : decode cX6_item 330 = .ok (.iadd, 1) := by decide +kernel
theorem dX6_item_331 : decode cX6_item 331 = .ok (.aload_n 0, 1) := by decide +kernel
theorem dX6_item_332 : decode cX6_item 332 = .ok (.getfield 60, 3) := by decide +kernel
theorem dX6_item_335 : decode cX6_item 335 = .ok (.iconst 2, 1) := by decide +kernel
theorem dX6_item_336 : decode cX6_item 336 = .ok (.iaload, 1) := by decide +kernel
theorem dX6_item_337 : decode cX6_item 337 = .ok (.iastore, 1) := by decide +kernel
theorem dX6_item_338 : decode cX6_item 338 = .ok (.goto 20, 3) := by decide +kernel
theorem dX6_item_341 : decode cX6_item 341 = .ok (.aload_n 0, 1) := by decide +kernel
theorem dX6_item_342 : decode cX6_item 342 = .ok (.getfield 23, 3) := by decide +kernel
theorem dX6_item_345 : decode cX6_item 345 = .ok (.aload_n 0, 1) := by decide +kernel
theorem dX6_item_346 : decode cX6_item 346 = .ok (.getfield 60, 3) := by decide +kernel
theorem dX6_item_349 : decode cX6_item 349 = .ok (.iconst 0, 1) := by decide +kernel
theorem dX6_item_350 : decode cX6_item 350 = .ok (.iaload, 1) := by decide +kernel
theorem dX6_item_351 : decode cX6_item 351 = .ok (.aload_n 0, 1) := by decide +kernel
theorem dX6_item_352 : decode cX6_item 352 = .ok (.getfield 60, 3) := by decide +kernel
theorem dX6_item_355 : decode cX6_item 355 = .ok (.iconst 1, 1) := by decide +kernel
theorem dX6_item_356 : decode cX6_item 356 = .ok (.iaload, 1) := by decide +kernel
theorem dX6_item_357 : decode cX6_item 357 = .ok (.iastore, 1) := by decide +kernel
theorem dX6_item_358 : decode cX6_item 358 = .ok (.iconst 1, 1) := by decide +kernel
theorem dX6_item_359 : decode cX6_item 359 = .ok (.ireturn, 1) := by decide +kernel
def m_X6_item_2  (μ : fm_I) (ν : fm_L) (K : Option (Int32 × fm_I × fm_L)) : Nat → Int32 → Option (Int32 × fm_I × fm_L)
  | 0, _ => none
  | k + 1, v1 => if (nI 5) ≤ v1 then K else (m_X6_isWordAt v1 μ ν).bind (fun r9 => if r9 = 0 then m_X6_item_2 μ ν K k ((v1 + nI 1)) else (m_X6_isFull v1 μ ν).bind (fun r17 => if r17 = 0 then m_X6_item_2 μ ν K k ((v1 + nI 1)) else (m_X6_wrong ((μ 58 20)) μ ν).bind (fun r28 => fm_g (fm_b01 r28.1) (some ((r28.1, r28.2.1, r28.2.2))))))
def m_X6_item_105 (v2 : Int32) (v3 : Int32) (K : fm_I → fm_L → Option (Int32 × fm_I × fm_L)) : Nat → Int32 → fm_I → fm_L → Option (Int32 × fm_I × fm_L)
  | 0, _, _, _ => none
  | k + 1, v4, μ, ν => if v3 ≤ v4 then K  μ ν else if v4 ≤ 0 then (m_X6_number  μ ν).bind (fun r173 => if r173.1 = 0 then some (((nI 0), r173.2.1, r173.2.2)) else (m_X6_isSo v2 v4 r173.2.1 r173.2.2).bind (fun r185 => if r185 = 0 then (m_X6_wrong ((μ 58 20)) r173.2.1 r173.2.2).bind (fun r194 => fm_g (fm_b01 r194.1) (some ((r194.1, r194.2.1, r194.2.2)))) else fm_g (fm_in v4 (fm_n 73)) (m_X6_item_105 v2 v3 K k ((v4 + nI 1)) (fm_u r173.2.1 73 v4.toNatClampNeg ((r173.2.1 58 22))) r173.2.2))) else if (μ 58 21) ≤ (μ 58 20) then (m_X6_wrong ((μ 58 20)) μ ν).bind (fun r152 => fm_g (fm_b01 r152.1) (some ((r152.1, r152.2.1, r152.2.2)))) else fm_g (fm_in ((((μ 58 19)) + ((μ 58 20)))) (fm_n 70)) (if ((ν 70 ((((μ 58 19)) + ((μ 58 20)))).toNatClampNeg)).toInt32 = (nI 32) then (m_X6_number  (fm_u μ 58 20 ((((μ 58 20)) + ((nI 1))))) ν).bind (fun r173 => if r173.1 = 0 then some (((nI 0), r173.2.1, r173.2.2)) else (m_X6_isSo v2 v4 r173.2.1 r173.2.2).bind (fun r185 => if r185 = 0 then (m_X6_wrong ((((fm_u μ 58 20 ((((μ 58 20)) + ((nI 1)))))) 58 20)) r173.2.1 r173.2.2).bind (fun r194 => fm_g (fm_b01 r194.1) (some ((r194.1, r194.2.1, r194.2.2)))) else fm_g (fm_in v4 (fm_n 73)) (m_X6_item_105 v2 v3 K k ((v4 + nI 1)) (fm_u r173.2.1 73 v4.toNatClampNeg ((r173.2.1 58 22))) r173.2.2))) else (m_X6_wrong ((μ 58 20)) μ ν).bind (fun r152 => fm_g (fm_b01 r152.1) (some ((r152.1, r152.2.1, r152.2.2)))))
def m_X6_item_358  (μ : fm_I) (ν : fm_L) : Option (Int32 × fm_I × fm_L) :=
  some (((nI 1), μ, ν))
def m_X6_item_101 (v2 : Int32) (s0 : Int32) (μ : fm_I) (ν : fm_L) : Option (Int32 × fm_I × fm_L) :=
  m_X6_item_105 v2 s0  (fun μ105 ν105 => if v2 = (nI 0) then fm_g (fm_in ((nI 0)) (fm_n 73)) (fm_g (fm_in ((nI 1)) (fm_n 73)) (fm_g (fm_in ((nI 2)) (fm_n 73)) (fm_g (fm_in ((nI 3)) (fm_n 73)) ((m_X6_adds ((μ105 73 ((nI 0)).toNatClampNeg)) ((μ105 73 ((nI 1)).toNatClampNeg)) ((μ105 73 ((nI 2)).toNatClampNeg)) ((nI 0)) ((μ105 73 ((nI 3)).toNatClampNeg)) μ105 ν105).bind (fun r274 => m_X6_item_358  r274.2.1 r274.2.2))))) else if v2 = (nI 1) then fm_g (fm_in ((nI 0)) (fm_n 73)) (fm_g (fm_in ((μ105 73 ((nI 0)).toNatClampNeg)) (fm_n 63)) (m_X6_item_358  (fm_u μ105 63 ((μ105 73 ((nI 0)).toNatClampNeg)).toNatClampNeg ((nI 1))) ν105)) else if v2 = (nI 2) then fm_g (fm_in ((nI 0)) (fm_n 73)) (fm_g (fm_in ((μ105 73 ((nI 0)).toNatClampNeg)) (fm_n 63)) (m_X6_item_358  (fm_u μ105 63 ((μ105 73 ((nI 0)).toNatClampNeg)).toNatClampNeg ((nI 0))) ν105)) else if v2 = (nI 3) then fm_g (fm_in ((nI 0)) (fm_n 73)) (fm_g (fm_in ((nI 1)) (fm_n 73)) (fm_g (fm_in ((nI 2)) (fm_n 73)) (fm_g (fm_in ((((((nI 12)) * ((μ105 73 ((nI 0)).toNatClampNeg)))) + ((μ105 73 ((nI 1)).toNatClampNeg)))) (fm_n 65)) (m_X6_item_358  (fm_u μ105 65 ((((((nI 12)) * ((μ105 73 ((nI 0)).toNatClampNeg)))) + ((μ105 73 ((nI 1)).toNatClampNeg)))).toNatClampNeg ((μ105 73 ((nI 2)).toNatClampNeg))) ν105)))) else fm_g (fm_in ((nI 0)) (fm_n 73)) (fm_g (fm_in ((nI 1)) (fm_n 73)) (fm_g (fm_in ((μ105 73 ((nI 0)).toNatClampNeg)) (fm_n 61)) (m_X6_item_358  (fm_u μ105 61 ((μ105 73 ((nI 0)).toNatClampNeg)).toNatClampNeg ((μ105 73 ((nI 1)).toNatClampNeg))) ν105)))) 5000 ((nI 0)) μ ν
def m_X6_item_74 (v2 : Int32) (μ : fm_I) (ν : fm_L) : Option (Int32 × fm_I × fm_L) :=
  if v2 = 0 then m_X6_item_101 v2 ((nI 4)) μ ν else if v2 = (nI 3) then m_X6_item_101 v2 ((nI 3)) μ ν else if v2 = (nI 4) then m_X6_item_101 v2 ((nI 2)) μ ν else m_X6_item_101 v2 ((nI 1)) μ ν
def m_X6_item  (μ : fm_I) (ν : fm_L) : Option (Int32 × fm_I × fm_L) :=
  m_X6_item_2 μ ν ((m_X6_word  μ ν).bind (fun r44 => if r44.1 = (-1 : Int32) then some (((nI 0), r44.2.1, r44.2.2)) else if r44.1 = 0 then if (r44.2.1 58 0) = (nI 6) then (m_X6_wrong ((μ 58 20)) r44.2.1 r44.2.2).bind (fun r70 => fm_g (fm_b01 r70.1) (some ((r70.1, r70.2.1, r70.2.2)))) else m_X6_item_74 r44.1 r44.2.1 r44.2.2 else m_X6_item_74 r44.1 r44.2.1 r44.2.2)) 5000 ((nI 0))
theorem ok_X6_item : fm_okV yX6_item cX6_item 6 (some .boolean) 0 := ⟨m_cd_X6_item, m_im_X6_item, m_se_X6_X6_item, m_ini_X6, by decide +kernel, by decide +kernel, by decide +kernel⟩
set_option maxHeartbeats 4000000 in
set_option maxRecDepth 100000 in
theorem j_X6_item_2_ {X : fm_X} {G : fm_G} {l : Launch}  {μ : fm_I} {ν : fm_L} (C : fm_C X G l cX6_item RX6 6 (some .boolean) 3 54) {F : (Int32 × fm_I × fm_L) → State → Prop} (hF : F = fm_Qi X G)  {K : Option (Int32 × fm_I × fm_L)} (hK : fm_J X G 6 F (K ) μ ν 38 [(0, .ref (G.2.2.1 58))] []) : ∀ (k : Nat) (v1 : Int32), fm_J X G 6 F (m_X6_item_2  μ ν K k v1) μ ν 2 [(0, .ref (G.2.2.1 58)), (1, .int v1)] [] := by
  intro k
  induction k with
  | zero =>
    intro v1
    exact fm_none
  | succ k ih =>
    intro v1
    rw [m_X6_item_2]
    refine fm_iload_n (pc := 2) C dX6_item_2 rfl rfl ?_
    refine fm_iconst (pc := 3) (v := (nI 5)) C dX6_item_3 (by decide) ?_
    refine fm_icmp_ge (pc := 4) (tgt := 38) C dX6_item_4 (by decide) (fun c1 => ?_) (fun c1 => ?_)
    · refine fm_less (lv' := [(0, .ref (G.2.2.1 58))]) (by repeat (first | exact trivial | refine ⟨rfl, ?_⟩)) ?_
      exact hK
    · refine fm_aload_n (pc := 7) C dX6_item_7 rfl rfl ?_
      refine fm_iload_n (pc := 8) C dX6_item_8 rfl rfl ?_
      refine fm_bind (fun r9 e9 => ?_)
      refine fm_cVi0 (pc := 9) C (t_X6_isWordAt e9) ok_X6_isWordAt ⟨by decide, rfl⟩ m_ml_X6_139 dX6_item_9 ⟨Nat.le_of_ble_eq_true rfl, Nat.le_of_ble_eq_true rfl⟩ rfl rfl (Nat.le_of_ble_eq_true rfl) ?_
      refine fm_if_eq (pc := 12) (tgt := 32) C dX6_item_12 (by decide) (fun c2 => ?_) (fun c2 => ?_)
      · refine fm_iinc (pc := 32) C dX6_item_32 rfl (v := (v1 + nI 1)) rfl (by decide) rfl ?_
        refine fm_goto (pc := 35) (tgt := 2) C dX6_item_35 (by decide) ?_
        refine fm_less (lv' := [(0, .ref (G.2.2.1 58)), (1, .int ((v1 + nI 1)))]) (by repeat (first | exact trivial | refine ⟨rfl, ?_⟩)) ?_
        exact ih _
      · refine fm_aload_n (pc := 15) C dX6_item_15 rfl rfl ?_
        refine fm_iload_n (pc := 16) C dX6_item_16 rfl rfl ?_
        refine fm_bind (fun r17 e17 => ?_)
        refine fm_cVi0 (pc := 17) C (t_X6_isFull e17) ok_X6_isFull ⟨by decide, rfl⟩ m_ml_X6_142 dX6_item_17 ⟨Nat.le_of_ble_eq_true rfl, Nat.le_of_ble_eq_true rfl⟩ rfl rfl (Nat.le_of_ble_eq_true rfl) ?_
        refine fm_if_eq (pc := 20) (tgt := 32) C dX6_item_20 (by decide) (fun c3 => ?_) (fun c3 => ?_)
        · refine fm_iinc (pc := 32) C dX6_item_32 rfl (v := (v1 + nI 1)) rfl (by decide) rfl ?_
          refine fm_goto (pc := 35) (tgt := 2) C dX6_item_35 (by decide) ?_
          refine fm_less (lv' := [(0, .ref (G.2.2.1 58)), (1, .int ((v1 + nI 1)))]) (by repeat (first | exact trivial | refine ⟨rfl, ?_⟩)) ?_
          exact ih _
        · refine fm_aload_n (pc := 23) C dX6_item_23 rfl rfl ?_
          refine fm_aload_n (pc := 24) C dX6_item_24 rfl rfl ?_
          refine g6_at (pc := 25) C (by decide) dX6_item_25 m_fl_X6_120 ?_
          refine fm_bind (fun r28 e28 => ?_)
          refine fm_cVi (pc := 28) C (t_X6_wrong e28) ok_X6_wrong ⟨by decide, rfl⟩ m_ml_X6_136 dX6_item_28 ⟨Nat.le_of_ble_eq_true rfl, Nat.le_of_ble_eq_true rfl⟩ rfl rfl (Nat.le_of_ble_eq_true rfl) ?_
          refine fm_guard (fun h4 => ?_)
          exact fm_zret (pc := 31) C hF rfl (fm_b01_n h4) dX6_item_31
set_option maxHeartbeats 4000000 in
set_option maxRecDepth 100000 in
theorem j_X6_item_105_ {X : fm_X} {G : fm_G} {l : Launch} {v2 : Int32} {v3 : Int32} (C : fm_C X G l cX6_item RX6 6 (some .boolean) 3 54) {F : (Int32 × fm_I × fm_L) → State → Prop} (hF : F = fm_Qi X G)  {K : fm_I → fm_L → Option (Int32 × fm_I × fm_L)} (hK : ∀  (μ : fm_I) (ν : fm_L), fm_J X G 6 F (K μ ν) μ ν 215 [(0, .ref (G.2.2.1 58)), (2, .int v2)] []) : ∀ (k : Nat) (v4 : Int32) (μ : fm_I) (ν : fm_L), fm_J X G 6 F (m_X6_item_105 v2 v3 K k v4 μ ν) μ ν 105 [(0, .ref (G.2.2.1 58)), (2, .int v2), (3, .int v3), (4, .int v4)] [] := by
  intro k
  induction k with
  | zero =>
    intro v4 μ ν
    exact fm_none
  | succ k ih =>
    intro v4 μ ν
    rw [m_X6_item_105]
    refine fm_iload (pc := 105) C dX6_item_105 rfl ?_
    refine fm_iload_n (pc := 107) C dX6_item_107 rfl rfl ?_
    refine fm_icmp_ge (pc := 108) (tgt := 215) C dX6_item_108 (by decide) (fun c10 => ?_) (fun c10 => ?_)
    · refine fm_less (lv' := [(0, .ref (G.2.2.1 58)), (2, .int v2)]) (by repeat (first | exact trivial | refine ⟨rfl, ?_⟩)) ?_
      exact hK  _ _
    · refine fm_iload (pc := 111) C dX6_item_111 rfl ?_
      refine fm_if_le (pc := 113) (tgt := 166) C dX6_item_113 (by decide) (fun c11 => ?_) (fun c11 => ?_)
      · refine fm_aload_n (pc := 166) C dX6_item_166 rfl rfl ?_
        refine g6_at (pc := 167) C (by decide) dX6_item_167 m_fl_X6_120 ?_
        refine fm_istore (pc := 170) C dX6_item_170 (by decide) rfl ?_
        refine fm_aload_n (pc := 172) C dX6_item_172 rfl rfl ?_
        refine fm_bind (fun r173 e173 => ?_)
        refine fm_cVi (pc := 173) C (t_X6_number e173) ok_X6_number ⟨by decide, rfl⟩ m_ml_X6_149 dX6_item_173 ⟨Nat.le_of_ble_eq_true rfl, Nat.le_of_ble_eq_true rfl⟩ rfl rfl (Nat.le_of_ble_eq_true rfl) ?_
        refine fm_if_ne (pc := 176) (tgt := 181) C dX6_item_176 (by decide) (fun c12 => ?_) (fun c12 => ?_)
        · refine fm_iconst (pc := 179) (v := (nI 0)) C dX6_item_179 (by decide) ?_
          exact fm_zret (pc := 180) C hF rfl rfl dX6_item_180
        · refine fm_aload_n (pc := 181) C dX6_item_181 rfl rfl ?_
          refine fm_iload_n (pc := 182) C dX6_item_182 rfl rfl ?_
          refine fm_iload (pc := 183) C dX6_item_183 rfl ?_
          refine fm_bind (fun r185 e185 => ?_)
          refine fm_cVi0 (pc := 185) C (t_X6_isSo e185) ok_X6_isSo ⟨by decide, rfl⟩ m_ml_X6_152 dX6_item_185 ⟨Nat.le_of_ble_eq_true rfl, Nat.le_of_ble_eq_true rfl⟩ rfl rfl (Nat.le_of_ble_eq_true rfl) ?_
          refine fm_if_ne (pc := 188) (tgt := 198) C dX6_item_188 (by decide) (fun c13 => ?_) (fun c13 => ?_)
          · refine fm_aload_n (pc := 191) C dX6_item_191 rfl rfl ?_
            refine fm_iload (pc := 192) C dX6_item_192 rfl ?_
            refine fm_bind (fun r194 e194 => ?_)
            refine fm_cVi (pc := 194) C (t_X6_wrong e194) ok_X6_wrong ⟨by decide, rfl⟩ m_ml_X6_136 dX6_item_194 ⟨Nat.le_of_ble_eq_true rfl, Nat.le_of_ble_eq_true rfl⟩ rfl rfl (Nat.le_of_ble_eq_true rfl) ?_
            refine fm_guard (fun h14 => ?_)
            exact fm_zret (pc := 197) C hF rfl (fm_b01_n h14) dX6_item_197
          · refine fm_aload_n (pc := 198) C dX6_item_198 rfl rfl ?_
            refine g6_tell (pc := 199) C (by decide) dX6_item_199 m_fl_X6_60 ?_
            refine fm_iload (pc := 202) C dX6_item_202 rfl ?_
            refine fm_aload_n (pc := 204) C dX6_item_204 rfl rfl ?_
            refine g6_told (pc := 205) C (by decide) dX6_item_205 m_fl_X6_129 ?_
            refine fm_guard (fun h15 => ?_)
            refine fm_iast (pc := 208) C (by decide) h15 dX6_item_208 ?_
            refine fm_iinc (pc := 209) C dX6_item_209 rfl (v := (v4 + nI 1)) rfl (by decide) rfl ?_
            refine fm_goto (pc := 212) (tgt := 105) C dX6_item_212 (by decide) ?_
            refine fm_less (lv' := [(0, .ref (G.2.2.1 58)), (2, .int v2), (3, .int v3), (4, .int ((v4 + nI 1)))]) (by repeat (first | exact trivial | refine ⟨rfl, ?_⟩)) ?_
            exact ih _ _ _
      · refine fm_aload_n (pc := 116) C dX6_item_116 rfl rfl ?_
        refine g6_at (pc := 117) C (by decide) dX6_item_117 m_fl_X6_120 ?_
        refine fm_aload_n (pc := 120) C dX6_item_120 rfl rfl ?_
        refine g6_end (pc := 121) C (by decide) dX6_item_121 m_fl_X6_123 ?_
        refine fm_icmp_ge (pc := 124) (tgt := 147) C dX6_item_124 (by decide) (fun c16 => ?_) (fun c16 => ?_)
        · refine fm_aload_n (pc := 147) C dX6_item_147 rfl rfl ?_
          refine fm_aload_n (pc := 148) C dX6_item_148 rfl rfl ?_
          refine g6_at (pc := 149) C (by decide) dX6_item_149 m_fl_X6_120 ?_
          refine fm_bind (fun r152 e152 => ?_)
          refine fm_cVi (pc := 152) C (t_X6_wrong e152) ok_X6_wrong ⟨by decide, rfl⟩ m_ml_X6_136 dX6_item_152 ⟨Nat.le_of_ble_eq_true rfl, Nat.le_of_ble_eq_true rfl⟩ rfl rfl (Nat.le_of_ble_eq_true rfl) ?_
          refine fm_guard (fun h17 => ?_)
          exact fm_zret (pc := 155) C hF rfl (fm_b01_n h17) dX6_item_155
        · refine fm_aload_n (pc := 127) C dX6_item_127 rfl rfl ?_
          refine g6_cells (pc := 128) C (by decide) dX6_item_128 m_fl_X6_50 ?_
          refine fm_aload_n (pc := 131) C dX6_item_131 rfl rfl ?_
          refine g6_base (pc := 132) C (by decide) dX6_item_132 m_fl_X6_126 ?_
          refine fm_aload_n (pc := 135) C dX6_item_135 rfl rfl ?_
          refine g6_at (pc := 136) C (by decide) dX6_item_136 m_fl_X6_120 ?_
          refine fm_iadd (pc := 139) C dX6_item_139 ?_
          refine fm_guard (fun h18 => ?_)
          refine fm_lald (pc := 140) C (by decide) h18 dX6_item_140 ?_
          refine fm_l2i (pc := 141) C dX6_item_141 ?_
          refine fm_bipush (pc := 142) (v := (nI 32)) C dX6_item_142 (by decide) ?_
          refine fm_icmp_eq (pc := 144) (tgt := 156) C dX6_item_144 (by decide) (fun c19 => ?_) (fun c19 => ?_)
          · refine fm_aload_n (pc := 156) C dX6_item_156 rfl rfl ?_
            refine fm_dup (pc := 157) C dX6_item_157 rfl ?_
            refine g6_at (pc := 158) C (by decide) dX6_item_158 m_fl_X6_120 ?_
            refine fm_iconst (pc := 161) (v := (nI 1)) C dX6_item_161 (by decide) ?_
            refine fm_iadd (pc := 162) C dX6_item_162 ?_
            refine p6_at (pc := 163) C (by decide) dX6_item_163 m_fl_X6_120 ?_
            refine fm_aload_n (pc := 166) C dX6_item_166 rfl rfl ?_
            refine g6_at (pc := 167) C (by decide) dX6_item_167 m_fl_X6_120 ?_
            refine fm_istore (pc := 170) C dX6_item_170 (by decide) rfl ?_
            refine fm_aload_n (pc := 172) C dX6_item_172 rfl rfl ?_
            refine fm_bind (fun r173 e173 => ?_)
            refine fm_cVi (pc := 173) C (t_X6_number e173) ok_X6_number ⟨by decide, rfl⟩ m_ml_X6_149 dX6_item_173 ⟨Nat.le_of_ble_eq_true rfl, Nat.le_of_ble_eq_true rfl⟩ rfl rfl (Nat.le_of_ble_eq_true rfl) ?_
            refine fm_if_ne (pc := 176) (tgt := 181) C dX6_item_176 (by decide) (fun c20 => ?_) (fun c20 => ?_)
            · refine fm_iconst (pc := 179) (v := (nI 0)) C dX6_item_179 (by decide) ?_
              exact fm_zret (pc := 180) C hF rfl rfl dX6_item_180
            · refine fm_aload_n (pc := 181) C dX6_item_181 rfl rfl ?_
              refine fm_iload_n (pc := 182) C dX6_item_182 rfl rfl ?_
              refine fm_iload (pc := 183) C dX6_item_183 rfl ?_
              refine fm_bind (fun r185 e185 => ?_)
              refine fm_cVi0 (pc := 185) C (t_X6_isSo e185) ok_X6_isSo ⟨by decide, rfl⟩ m_ml_X6_152 dX6_item_185 ⟨Nat.le_of_ble_eq_true rfl, Nat.le_of_ble_eq_true rfl⟩ rfl rfl (Nat.le_of_ble_eq_true rfl) ?_
              refine fm_if_ne (pc := 188) (tgt := 198) C dX6_item_188 (by decide) (fun c21 => ?_) (fun c21 => ?_)
              · refine fm_aload_n (pc := 191) C dX6_item_191 rfl rfl ?_
                refine fm_iload (pc := 192) C dX6_item_192 rfl ?_
                refine fm_bind (fun r194 e194 => ?_)
                refine fm_cVi (pc := 194) C (t_X6_wrong e194) ok_X6_wrong ⟨by decide, rfl⟩ m_ml_X6_136 dX6_item_194 ⟨Nat.le_of_ble_eq_true rfl, Nat.le_of_ble_eq_true rfl⟩ rfl rfl (Nat.le_of_ble_eq_true rfl) ?_
                refine fm_guard (fun h22 => ?_)
                exact fm_zret (pc := 197) C hF rfl (fm_b01_n h22) dX6_item_197
              · refine fm_aload_n (pc := 198) C dX6_item_198 rfl rfl ?_
                refine g6_tell (pc := 199) C (by decide) dX6_item_199 m_fl_X6_60 ?_
                refine fm_iload (pc := 202) C dX6_item_202 rfl ?_
                refine fm_aload_n (pc := 204) C dX6_item_204 rfl rfl ?_
                refine g6_told (pc := 205) C (by decide) dX6_item_205 m_fl_X6_129 ?_
                refine fm_guard (fun h23 => ?_)
                refine fm_iast (pc := 208) C (by decide) h23 dX6_item_208 ?_
                refine fm_iinc (pc := 209) C dX6_item_209 rfl (v := (v4 + nI 1)) rfl (by decide) rfl ?_
                refine fm_goto (pc := 212) (tgt := 105) C dX6_item_212 (by decide) ?_
                refine fm_less (lv' := [(0, .ref (G.2.2.1 58)), (2, .int v2), (3, .int v3), (4, .int ((v4 + nI 1)))]) (by repeat (first | exact trivial | refine ⟨rfl, ?_⟩)) ?_
                exact ih _ _ _
          · refine fm_aload_n (pc := 147) C dX6_item_147 rfl rfl ?_
            refine fm_aload_n (pc := 148) C dX6_item_148 rfl rfl ?_
            refine g6_at (pc := 149) C (by decide) dX6_item_149 m_fl_X6_120 ?_
            refine fm_bind (fun r152 e152 => ?_)
            refine fm_cVi (pc := 152) C (t_X6_wrong e152) ok_X6_wrong ⟨by decide, rfl⟩ m_ml_X6_136 dX6_item_152 ⟨Nat.le_of_ble_eq_true rfl, Nat.le_of_ble_eq_true rfl⟩ rfl rfl (Nat.le_of_ble_eq_true rfl) ?_
            refine fm_guard (fun h24 => ?_)
            exact fm_zret (pc := 155) C hF rfl (fm_b01_n h24) dX6_item_155
set_option maxHeartbeats 4000000 in
set_option maxRecDepth 100000 in
theorem j_X6_item_358_ {X : fm_X} {G : fm_G} {l : Launch}  {μ : fm_I} {ν : fm_L} (C : fm_C X G l cX6_item RX6 6 (some .boolean) 3 54) {F : (Int32 × fm_I × fm_L) → State → Prop} (hF : F = fm_Qi X G)  : fm_J X G 6 F (m_X6_item_358  μ ν) μ ν 358 [] [] := by
  unfold m_X6_item_358
  refine fm_iconst (pc := 358) (v := (nI 1)) C dX6_item_358 (by decide) ?_
  exact fm_zret (pc := 359) C hF rfl rfl dX6_item_359
set_option maxHeartbeats 4000000 in
set_option maxRecDepth 100000 in
theorem j_X6_item_101_ {X : fm_X} {G : fm_G} {l : Launch} {v2 : Int32} {s0 : Int32} {μ : fm_I} {ν : fm_L} (C : fm_C X G l cX6_item RX6 6 (some .boolean) 3 54) {F : (Int32 × fm_I × fm_L) → State → Prop} (hF : F = fm_Qi X G)  : fm_J X G 6 F (m_X6_item_101 v2 s0 μ ν) μ ν 101 [(0, .ref (G.2.2.1 58)), (2, .int v2)] [.int s0] := by
  unfold m_X6_item_101
  refine fm_istore_n (pc := 101) C dX6_item_101 rfl (by decide) rfl ?_
  refine fm_iconst (pc := 102) (v := (nI 0)) C dX6_item_102 (by decide) ?_
  refine fm_istore (pc := 103) C dX6_item_103 (by decide) rfl ?_
  refine fm_less (lv' := [(0, .ref (G.2.2.1 58)), (2, .int v2), (3, .int s0), (4, .int ((nI 0)))]) (by repeat (first | exact trivial | refine ⟨rfl, ?_⟩)) ?_
  refine j_X6_item_105_ C (v2 := v2) (v3 := s0) hF  (fun μ105 ν105 => ?_) _ _ _ _
  refine fm_iload_n (pc := 215) C dX6_item_215 rfl rfl ?_
  refine fm_ite (fun s25 => ?_) (fun s25 => ?_)
  · refine fm_tabIn (pc := 216) (tgt := 248) (off := 32) C dX6_item_216 (by rw [s25]; decide) (by rw [s25]; decide) (by rw [s25]; decide) (by decide) ?_
    refine fm_aload_n (pc := 248) C dX6_item_248 rfl rfl ?_
    refine fm_aload_n (pc := 249) C dX6_item_249 rfl rfl ?_
    refine g6_tell (pc := 250) C (by decide) dX6_item_250 m_fl_X6_60 ?_
    refine fm_iconst (pc := 253) (v := (nI 0)) C dX6_item_253 (by decide) ?_
    refine fm_guard (fun h26 => ?_)
    refine fm_iald (pc := 254) C (by decide) h26 dX6_item_254 ?_
    refine fm_aload_n (pc := 255) C dX6_item_255 rfl rfl ?_
    refine g6_tell (pc := 256) C (by decide) dX6_item_256 m_fl_X6_60 ?_
    refine fm_iconst (pc := 259) (v := (nI 1)) C dX6_item_259 (by decide) ?_
    refine fm_guard (fun h27 => ?_)
    refine fm_iald (pc := 260) C (by decide) h27 dX6_item_260 ?_
    refine fm_aload_n (pc := 261) C dX6_item_261 rfl rfl ?_
    refine g6_tell (pc := 262) C (by decide) dX6_item_262 m_fl_X6_60 ?_
    refine fm_iconst (pc := 265) (v := (nI 2)) C dX6_item_265 (by decide) ?_
    refine fm_guard (fun h28 => ?_)
    refine fm_iald (pc := 266) C (by decide) h28 dX6_item_266 ?_
    refine fm_iconst (pc := 267) (v := (nI 0)) C dX6_item_267 (by decide) ?_
    refine fm_aload_n (pc := 268) C dX6_item_268 rfl rfl ?_
    refine g6_tell (pc := 269) C (by decide) dX6_item_269 m_fl_X6_60 ?_
    refine fm_iconst (pc := 272) (v := (nI 3)) C dX6_item_272 (by decide) ?_
    refine fm_guard (fun h29 => ?_)
    refine fm_iald (pc := 273) C (by decide) h29 dX6_item_273 ?_
    refine fm_bind (fun r274 e274 => ?_)
    refine fm_cVi (pc := 274) C (t_X6_adds e274) ok_X6_adds ⟨by decide, rfl⟩ m_ml_X6_109 dX6_item_274 ⟨Nat.le_of_ble_eq_true rfl, Nat.le_of_ble_eq_true rfl⟩ rfl rfl (Nat.le_of_ble_eq_true rfl) ?_
    refine fm_pop (pc := 277) C dX6_item_277 rfl ?_
    refine fm_goto (pc := 278) (tgt := 358) C dX6_item_278 (by decide) ?_
    refine fm_less (lv' := []) (by repeat (first | exact trivial | refine ⟨rfl, ?_⟩)) ?_
    exact j_X6_item_358_ C hF 
  · refine fm_ite (fun s30 => ?_) (fun s30 => ?_)
    · refine fm_tabIn (pc := 216) (tgt := 281) (off := 65) C dX6_item_216 (by rw [s30]; decide) (by rw [s30]; decide) (by rw [s30]; decide) (by decide) ?_
      refine fm_aload_n (pc := 281) C dX6_item_281 rfl rfl ?_
      refine g6_hand (pc := 282) C (by decide) dX6_item_282 m_fl_X6_29 ?_
      refine fm_aload_n (pc := 285) C dX6_item_285 rfl rfl ?_
      refine g6_tell (pc := 286) C (by decide) dX6_item_286 m_fl_X6_60 ?_
      refine fm_iconst (pc := 289) (v := (nI 0)) C dX6_item_289 (by decide) ?_
      refine fm_guard (fun h31 => ?_)
      refine fm_iald (pc := 290) C (by decide) h31 dX6_item_290 ?_
      refine fm_iconst (pc := 291) (v := (nI 1)) C dX6_item_291 (by decide) ?_
      refine fm_guard (fun h32 => ?_)
      refine fm_iast (pc := 292) C (by decide) h32 dX6_item_292 ?_
      refine fm_goto (pc := 293) (tgt := 358) C dX6_item_293 (by decide) ?_
      refine fm_less (lv' := []) (by repeat (first | exact trivial | refine ⟨rfl, ?_⟩)) ?_
      exact j_X6_item_358_ C hF 
    · refine fm_ite (fun s33 => ?_) (fun s33 => ?_)
      · refine fm_tabIn (pc := 216) (tgt := 296) (off := 80) C dX6_item_216 (by rw [s33]; decide) (by rw [s33]; decide) (by rw [s33]; decide) (by decide) ?_
        refine fm_aload_n (pc := 296) C dX6_item_296 rfl rfl ?_
        refine g6_hand (pc := 297) C (by decide) dX6_item_297 m_fl_X6_29 ?_
        refine fm_aload_n (pc := 300) C dX6_item_300 rfl rfl ?_
        refine g6_tell (pc := 301) C (by decide) dX6_item_301 m_fl_X6_60 ?_
        refine fm_iconst (pc := 304) (v := (nI 0)) C dX6_item_304 (by decide) ?_
        refine fm_guard (fun h34 => ?_)
        refine fm_iald (pc := 305) C (by decide) h34 dX6_item_305 ?_
        refine fm_iconst (pc := 306) (v := (nI 0)) C dX6_item_306 (by decide) ?_
        refine fm_guard (fun h35 => ?_)
        refine fm_iast (pc := 307) C (by decide) h35 dX6_item_307 ?_
        refine fm_goto (pc := 308) (tgt := 358) C dX6_item_308 (by decide) ?_
        refine fm_less (lv' := []) (by repeat (first | exact trivial | refine ⟨rfl, ?_⟩)) ?_
        exact j_X6_item_358_ C hF 
      · refine fm_ite (fun s36 => ?_) (fun s36 => ?_)
        · refine fm_tabIn (pc := 216) (tgt := 311) (off := 95) C dX6_item_216 (by rw [s36]; decide) (by rw [s36]; decide) (by rw [s36]; decide) (by decide) ?_
          refine fm_aload_n (pc := 311) C dX6_item_311 rfl rfl ?_
          refine g6_colour (pc := 312) C (by decide) dX6_item_312 m_fl_X6_35 ?_
          refine fm_bipush (pc := 315) (v := (nI 12)) C dX6_item_315 (by decide) ?_
          refine fm_aload_n (pc := 317) C dX6_item_317 rfl rfl ?_
          refine g6_tell (pc := 318) C (by decide) dX6_item_318 m_fl_X6_60 ?_
          refine fm_iconst (pc := 321) (v := (nI 0)) C dX6_item_321 (by decide) ?_
          refine fm_guard (fun h37 => ?_)
          refine fm_iald (pc := 322) C (by decide) h37 dX6_item_322 ?_
          refine fm_imul (pc := 323) C dX6_item_323 ?_
          refine fm_aload_n (pc := 324) C dX6_item_324 rfl rfl ?_
          refine g6_tell (pc := 325) C (by decide) dX6_item_325 m_fl_X6_60 ?_
          refine fm_iconst (pc := 328) (v := (nI 1)) C dX6_item_328 (by decide) ?_
          refine fm_guard (fun h38 => ?_)
          refine fm_iald (pc := 329) C (by decide) h38 dX6_item_329 ?_
          refine fm_iadd (pc := 330) C dX6_item_330 ?_
          refine fm_aload_n (pc := 331) C dX6_item_331 rfl rfl ?_
          refine g6_tell (pc := 332) C (by decide) dX6_item_332 m_fl_X6_60 ?_
          refine fm_iconst (pc := 335) (v := (nI 2)) C dX6_item_335 (by decide) ?_
          refine fm_guard (fun h39 => ?_)
          refine fm_iald (pc := 336) C (by decide) h39 dX6_item_336 ?_
          refine fm_guard (fun h40 => ?_)
          refine fm_iast (pc := 337) C (by decide) h40 dX6_item_337 ?_
          refine fm_goto (pc := 338) (tgt := 358) C dX6_item_338 (by decide) ?_
          refine fm_less (lv' := []) (by repeat (first | exact trivial | refine ⟨rfl, ?_⟩)) ?_
          exact j_X6_item_358_ C hF 
        · refine fm_tabOut (pc := 216) (tgt := 341) C dX6_item_216 (by have a0 := fm_ne (nI 0) (k := 0) (by decide) s25; have a1 := fm_ne (nI 1) (k := 1) (by decide) s30; have a2 := fm_ne (nI 2) (k := 2) (by decide) s33; have a3 := fm_ne (nI 3) (k := 3) (by decide) s36; omega) (by decide) ?_
          refine fm_aload_n (pc := 341) C dX6_item_341 rfl rfl ?_
          refine g6_twists (pc := 342) C (by decide) dX6_item_342 m_fl_X6_23 ?_
          refine fm_aload_n (pc := 345) C dX6_item_345 rfl rfl ?_
          refine g6_tell (pc := 346) C (by decide) dX6_item_346 m_fl_X6_60 ?_
          refine fm_iconst (pc := 349) (v := (nI 0)) C dX6_item_349 (by decide) ?_
          refine fm_guard (fun h41 => ?_)
          refine fm_iald (pc := 350) C (by decide) h41 dX6_item_350 ?_
          refine fm_aload_n (pc := 351) C dX6_item_351 rfl rfl ?_
          refine g6_tell (pc := 352) C (by decide) dX6_item_352 m_fl_X6_60 ?_
          refine fm_iconst (pc := 355) (v := (nI 1)) C dX6_item_355 (by decide) ?_
          refine fm_guard (fun h42 => ?_)
          refine fm_iald (pc := 356) C (by decide) h42 dX6_item_356 ?_
          refine fm_guard (fun h43 => ?_)
          refine fm_iast (pc := 357) C (by decide) h43 dX6_item_357 ?_
          refine fm_less (lv' := []) (by repeat (first | exact trivial | refine ⟨rfl, ?_⟩)) ?_
          exact j_X6_item_358_ C hF 
set_option maxHeartbeats 4000000 in
set_option maxRecDepth 100000 in
theorem j_X6_item_74_ {X : fm_X} {G : fm_G} {l : Launch} {v2 : Int32} {μ : fm_I} {ν : fm_L} (C : fm_C X G l cX6_item RX6 6 (some .boolean) 3 54) {F : (Int32 × fm_I × fm_L) → State → Prop} (hF : F = fm_Qi X G)  : fm_J X G 6 F (m_X6_item_74 v2 μ ν) μ ν 74 [(0, .ref (G.2.2.1 58)), (2, .int v2)] [] := by
  unfold m_X6_item_74
  refine fm_iload_n (pc := 74) C dX6_item_74 rfl rfl ?_
  refine fm_if_ne (pc := 75) (tgt := 82) C dX6_item_75 (by decide) (fun c9 => ?_) (fun c9 => ?_)
  · refine fm_iconst (pc := 78) (v := (nI 4)) C dX6_item_78 (by decide) ?_
    refine fm_goto (pc := 79) (tgt := 101) C dX6_item_79 (by decide) ?_
    refine fm_less (lv' := [(0, .ref (G.2.2.1 58)), (2, .int v2)]) (by repeat (first | exact trivial | refine ⟨rfl, ?_⟩)) ?_
    exact j_X6_item_101_ C hF 
  · refine fm_iload_n (pc := 82) C dX6_item_82 rfl rfl ?_
    refine fm_iconst (pc := 83) (v := (nI 3)) C dX6_item_83 (by decide) ?_
    refine fm_icmp_ne (pc := 84) (tgt := 91) C dX6_item_84 (by decide) (fun c44 => ?_) (fun c44 => ?_)
    · refine fm_iconst (pc := 87) (v := (nI 3)) C dX6_item_87 (by decide) ?_
      refine fm_goto (pc := 88) (tgt := 101) C dX6_item_88 (by decide) ?_
      refine fm_less (lv' := [(0, .ref (G.2.2.1 58)), (2, .int v2)]) (by repeat (first | exact trivial | refine ⟨rfl, ?_⟩)) ?_
      exact j_X6_item_101_ C hF 
    · refine fm_iload_n (pc := 91) C dX6_item_91 rfl rfl ?_
      refine fm_iconst (pc := 92) (v := (nI 4)) C dX6_item_92 (by decide) ?_
      refine fm_icmp_ne (pc := 93) (tgt := 100) C dX6_item_93 (by decide) (fun c45 => ?_) (fun c45 => ?_)
      · refine fm_iconst (pc := 96) (v := (nI 2)) C dX6_item_96 (by decide) ?_
        refine fm_goto (pc := 97) (tgt := 101) C dX6_item_97 (by decide) ?_
        refine fm_less (lv' := [(0, .ref (G.2.2.1 58)), (2, .int v2)]) (by repeat (first | exact trivial | refine ⟨rfl, ?_⟩)) ?_
        exact j_X6_item_101_ C hF 
      · refine fm_iconst (pc := 100) (v := (nI 1)) C dX6_item_100 (by decide) ?_
        refine fm_less (lv' := [(0, .ref (G.2.2.1 58)), (2, .int v2)]) (by repeat (first | exact trivial | refine ⟨rfl, ?_⟩)) ?_
        exact j_X6_item_101_ C hF 
set_option maxHeartbeats 4000000 in
set_option maxRecDepth 100000 in
theorem j_X6_item {X : fm_X} {G : fm_G} {l : Launch}  {μ : fm_I} {ν : fm_L} (C : fm_C X G l cX6_item RX6 6 (some .boolean) 3 54) {F : (Int32 × fm_I × fm_L) → State → Prop} (hF : F = fm_Qi X G) : fm_J X G 6 F (m_X6_item  μ ν) μ ν 0 [(0, .ref (G.2.2.1 58))] [] := by
  unfold m_X6_item
  refine fm_iconst (pc := 0) (v := (nI 0)) C dX6_item_0 (by decide) ?_
  refine fm_istore_n (pc := 1) C dX6_item_1 rfl (by decide) rfl ?_
  refine fm_less (lv' := [(0, .ref (G.2.2.1 58)), (1, .int ((nI 0)))]) (by repeat (first | exact trivial | refine ⟨rfl, ?_⟩)) ?_
  refine j_X6_item_2_ C  hF  ?_ _ _
  refine fm_aload_n (pc := 38) C dX6_item_38 rfl rfl ?_
  refine g6_at (pc := 39) C (by decide) dX6_item_39 m_fl_X6_120 ?_
  refine fm_istore_n (pc := 42) C dX6_item_42 rfl (by decide) rfl ?_
  refine fm_aload_n (pc := 43) C dX6_item_43 rfl rfl ?_
  refine fm_bind (fun r44 e44 => ?_)
  refine fm_cVi (pc := 44) C (t_X6_word e44) ok_X6_word ⟨by decide, rfl⟩ m_ml_X6_145 dX6_item_44 ⟨Nat.le_of_ble_eq_true rfl, Nat.le_of_ble_eq_true rfl⟩ rfl rfl (Nat.le_of_ble_eq_true rfl) ?_
  refine fm_istore_n (pc := 47) C dX6_item_47 rfl (by decide) rfl ?_
  refine fm_iload_n (pc := 48) C dX6_item_48 rfl rfl ?_
  refine fm_iconst (pc := 49) (v := (-1 : Int32)) C dX6_item_49 (by decide) ?_
  refine fm_icmp_ne (pc := 50) (tgt := 55) C dX6_item_50 (by decide) (fun c5 => ?_) (fun c5 => ?_)
  · refine fm_iconst (pc := 53) (v := (nI 0)) C dX6_item_53 (by decide) ?_
    exact fm_zret (pc := 54) C hF rfl rfl dX6_item_54
  · refine fm_iload_n (pc := 55) C dX6_item_55 rfl rfl ?_
    refine fm_if_ne (pc := 56) (tgt := 74) C dX6_item_56 (by decide) (fun c6 => ?_) (fun c6 => ?_)
    · refine fm_aload_n (pc := 59) C dX6_item_59 rfl rfl ?_
      refine g6_bands (pc := 60) C (by decide) dX6_item_60 m_fl_X6_85 ?_
      refine fm_bipush (pc := 63) (v := (nI 6)) C dX6_item_63 (by decide) ?_
      refine fm_icmp_ne (pc := 65) (tgt := 74) C dX6_item_65 (by decide) (fun c7 => ?_) (fun c7 => ?_)
      · refine fm_aload_n (pc := 68) C dX6_item_68 rfl rfl ?_
        refine fm_iload_n (pc := 69) C dX6_item_69 rfl rfl ?_
        refine fm_bind (fun r70 e70 => ?_)
        refine fm_cVi (pc := 70) C (t_X6_wrong e70) ok_X6_wrong ⟨by decide, rfl⟩ m_ml_X6_136 dX6_item_70 ⟨Nat.le_of_ble_eq_true rfl, Nat.le_of_ble_eq_true rfl⟩ rfl rfl (Nat.le_of_ble_eq_true rfl) ?_
        refine fm_guard (fun h8 => ?_)
        exact fm_zret (pc := 73) C hF rfl (fm_b01_n h8) dX6_item_73
      · refine fm_less (lv' := [(0, .ref (G.2.2.1 58)), (2, .int r44.1)]) (by repeat (first | exact trivial | refine ⟨rfl, ?_⟩)) ?_
        exact j_X6_item_74_ C hF 
    · refine fm_less (lv' := [(0, .ref (G.2.2.1 58)), (2, .int r44.1)]) (by repeat (first | exact trivial | refine ⟨rfl, ?_⟩)) ?_
      exact j_X6_item_74_ C hF 
theorem t_X6_item {l : Launch} {G : fm_G}  {μ : fm_I} {ν : fm_L} {r : Int32 × fm_I × fm_L} (h : m_X6_item  μ ν = some r) : fm_Mi l G yX6_item cX6_item 6 (some .boolean) 3 54 [.ref (G.2.2.1 58)] μ ν r := fm_Mi_of (by decide +kernel) (Nat.le_of_ble_eq_true rfl) (fun _ C => j_X6_item C rfl r h)
theorem dX6_carries_0 : decode cX6_carries 0 = .ok (.iconst 0, 1) := by decide +kernel
theorem dX6_carries_1 : decode cX6_carries 1 = .ok (.istore 6, 2) := by decide +kernel
theorem dX6_carries_3 : decode cX6_carries 3 = .ok (.iload 6, 2) := by decide +kernel
theorem dX6_carries_5 : decode cX6_carries 5 = .ok (.iload_n 2, 1) := by decide +kernel
theorem dX6_carries_6 : decode cX6_carries 6 = .ok (.if_icmp .ge 39, 3) := by decide +kernel
theorem dX6_carries_9 : decode cX6_carries 9 = .ok (.iload 5, 2) := by decide +kernel
theorem dX6_carries_11 : decode cX6_carries 11 = .ok (.ifCond .eq 17, 3) := by decide +kernel
theorem dX6_carries_14 : decode cX6_carries 14 = .ok (.aload_n 1, 1) := by decide +kernel
theorem dX6_carries_15 : decode cX6_carries 15 = .ok (.iload 6, 2) := by decide +kernel
theorem dX6_carries_17 : decode cX6_carries 17 = .ok (.aload_n 3, 1) := by decide +kernel
theorem dX6_carries_18 : decode cX6_carries 18 = .ok (.iload 4, 2) := by decide +kernel
theorem dX6_carries_20 : decode cX6_carries 20 = .ok (.iload 6, 2) := by decide +kernel
theorem dX6_carries_22 : decode cX6_carries 22 = .ok (.iadd, 1) := by decide +kernel
theorem dX6_carries_23 : decode cX6_carries 23 = .ok (.iaload, 1) := by decide +kernel
theorem dX6_carries_24 : decode cX6_carries 24 = .ok (.iastore, 1) := by decide +kernel
theorem dX6_carries_25 : decode cX6_carries 25 = .ok (.goto 14, 3) := by decide +kernel
theorem dX6_carries_28 : decode cX6_carries 28 = .ok (.aload_n 3, 1) := by decide +kernel
theorem dX6_carries_29 : decode cX6_carries 29 = .ok (.iload 4, 2) := by decide +kernel
theorem dX6_carries_31 : decode cX6_carries 31 = .ok (.iload 6, 2) := by decide +kernel
theorem dX6_carries_33 : decode cX6_carries 33 = .ok (.iadd, 1) := by decide +kernel
theorem dX6_carries_34 : decode cX6_carries 34 = .ok (.aload_n 1, 1) := by decide +kernel
theorem dX6_carries_35 : decode cX6_carries 35 = .ok (.iload 6, 2) := by decide +kernel
theorem dX6_carries_37 : decode cX6_carries 37 = .ok (.iaload, 1) := by decide +kernel
theorem dX6_carries_38 : decode cX6_carries 38 = .ok (.iastore, 1) := by decide +kernel
theorem dX6_carries_39 : decode cX6_carries 39 = .ok (.iinc 6 1, 3) := by decide +kernel
theorem dX6_carries_42 : decode cX6_carries 42 = .ok (.goto (-39), 3) := by decide +kernel
theorem dX6_carries_45 : decode cX6_carries 45 = .ok (.iload 4, 2) := by decide +kernel
theorem dX6_carries_47 : decode cX6_carries 47 = .ok (.iload_n 2, 1) := by decide +kernel
theorem dX6_carries_48 : decode cX6_carries 48 = .ok (.iadd, 1) := by decide +kernel
theorem dX6_carries_49 : decode cX6_carries 49 = .ok (.ireturn, 1) := by decide +kernel
def m_X6_carries_3 (q1 : Nat) (v2 : Int32) (q3 : Nat) (v4 : Int32) (v5 : Int32) (K : fm_I → fm_L → Option (Int32 × fm_I × fm_L)) : Nat → Int32 → fm_I → fm_L → Option (Int32 × fm_I × fm_L)
  | 0, _, _, _ => none
  | k + 1, v6, μ, ν => if v2 ≤ v6 then K  μ ν else if v5 = 0 then fm_g (fm_in v6 (fm_n q1)) (fm_g (fm_in ((v4 + v6)) (fm_n q3)) (m_X6_carries_3 q1 v2 q3 v4 v5 K k ((v6 + nI 1)) (fm_u μ q3 ((v4 + v6)).toNatClampNeg ((μ q1 v6.toNatClampNeg))) ν)) else fm_g (fm_in ((v4 + v6)) (fm_n q3)) (fm_g (fm_in v6 (fm_n q1)) (m_X6_carries_3 q1 v2 q3 v4 v5 K k ((v6 + nI 1)) (fm_u μ q1 v6.toNatClampNeg ((μ q3 ((v4 + v6)).toNatClampNeg))) ν))
def m_X6_carries (q1 : Nat) (v2 : Int32) (q3 : Nat) (v4 : Int32) (v5 : Int32) (μ : fm_I) (ν : fm_L) : Option (Int32 × fm_I × fm_L) :=
  fm_g (Nat.beq (fm_k q1) 7) (fm_g (Nat.beq (fm_k q3) 7) (m_X6_carries_3 q1 v2 q3 v4 v5  (fun μ3 ν3 => some (((v4 + v2), μ3, ν3))) 5000 ((nI 0)) μ ν))
theorem ok_X6_carries : fm_okV yX6_carries cX6_carries 7 (some .int) 5 := ⟨m_cd_X6_carries, m_im_X6_carries, m_se_X6_X6_carries, m_ini_X6, by decide +kernel, by decide +kernel, by decide +kernel⟩
set_option maxHeartbeats 4000000 in
set_option maxRecDepth 100000 in
theorem j_X6_carries_3_ {X : fm_X} {G : fm_G} {l : Launch} {q1 : Nat} {v2 : Int32} {q3 : Nat} {v4 : Int32} {v5 : Int32} (C : fm_C X G l cX6_carries RX6 7 (some .int) 1 12) {F : (Int32 × fm_I × fm_L) → State → Prop} (hF : F = fm_Qi X G) (hk0 : fm_k q1 = 7) (hk1 : fm_k q3 = 7) {K : fm_I → fm_L → Option (Int32 × fm_I × fm_L)} (hK : ∀  (μ : fm_I) (ν : fm_L), fm_J X G 7 F (K μ ν) μ ν 45 [(2, .int v2), (4, .int v4)] []) : ∀ (k : Nat) (v6 : Int32) (μ : fm_I) (ν : fm_L), fm_J X G 7 F (m_X6_carries_3 q1 v2 q3 v4 v5 K k v6 μ ν) μ ν 3 [(1, .ref (G.2.2.1 q1)), (2, .int v2), (3, .ref (G.2.2.1 q3)), (4, .int v4), (5, .int v5), (6, .int v6)] [] := by
  intro k
  induction k with
  | zero =>
    intro v6 μ ν
    exact fm_none
  | succ k ih =>
    intro v6 μ ν
    rw [m_X6_carries_3]
    refine fm_iload (pc := 3) C dX6_carries_3 rfl ?_
    refine fm_iload_n (pc := 5) C dX6_carries_5 rfl rfl ?_
    refine fm_icmp_ge (pc := 6) (tgt := 45) C dX6_carries_6 (by decide) (fun c3 => ?_) (fun c3 => ?_)
    · refine fm_less (lv' := [(2, .int v2), (4, .int v4)]) (by repeat (first | exact trivial | refine ⟨rfl, ?_⟩)) ?_
      exact hK  _ _
    · refine fm_iload (pc := 9) C dX6_carries_9 rfl ?_
      refine fm_if_eq (pc := 11) (tgt := 28) C dX6_carries_11 (by decide) (fun c4 => ?_) (fun c4 => ?_)
      · refine fm_aload_n (pc := 28) C dX6_carries_28 rfl rfl ?_
        refine fm_iload (pc := 29) C dX6_carries_29 rfl ?_
        refine fm_iload (pc := 31) C dX6_carries_31 rfl ?_
        refine fm_iadd (pc := 33) C dX6_carries_33 ?_
        refine fm_aload_n (pc := 34) C dX6_carries_34 rfl rfl ?_
        refine fm_iload (pc := 35) C dX6_carries_35 rfl ?_
        refine fm_guard (fun h5 => ?_)
        refine fm_iald (pc := 37) C hk0 h5 dX6_carries_37 ?_
        refine fm_guard (fun h6 => ?_)
        refine fm_iast (pc := 38) C hk1 h6 dX6_carries_38 ?_
        refine fm_iinc (pc := 39) C dX6_carries_39 rfl (v := (v6 + nI 1)) rfl (by decide) rfl ?_
        refine fm_goto (pc := 42) (tgt := 3) C dX6_carries_42 (by decide) ?_
        refine fm_less (lv' := [(1, .ref (G.2.2.1 q1)), (2, .int v2), (3, .ref (G.2.2.1 q3)), (4, .int v4), (5, .int v5), (6, .int ((v6 + nI 1)))]) (by repeat (first | exact trivial | refine ⟨rfl, ?_⟩)) ?_
        exact ih _ _ _
      · refine fm_aload_n (pc := 14) C dX6_carries_14 rfl rfl ?_
        refine fm_iload (pc := 15) C dX6_carries_15 rfl ?_
        refine fm_aload_n (pc := 17) C dX6_carries_17 rfl rfl ?_
        refine fm_iload (pc := 18) C dX6_carries_18 rfl ?_
        refine fm_iload (pc := 20) C dX6_carries_20 rfl ?_
        refine fm_iadd (pc := 22) C dX6_carries_22 ?_
        refine fm_guard (fun h7 => ?_)
        refine fm_iald (pc := 23) C hk1 h7 dX6_carries_23 ?_
        refine fm_guard (fun h8 => ?_)
        refine fm_iast (pc := 24) C hk0 h8 dX6_carries_24 ?_
        refine fm_goto (pc := 25) (tgt := 39) C dX6_carries_25 (by decide) ?_
        refine fm_iinc (pc := 39) C dX6_carries_39 rfl (v := (v6 + nI 1)) rfl (by decide) rfl ?_
        refine fm_goto (pc := 42) (tgt := 3) C dX6_carries_42 (by decide) ?_
        refine fm_less (lv' := [(1, .ref (G.2.2.1 q1)), (2, .int v2), (3, .ref (G.2.2.1 q3)), (4, .int v4), (5, .int v5), (6, .int ((v6 + nI 1)))]) (by repeat (first | exact trivial | refine ⟨rfl, ?_⟩)) ?_
        exact ih _ _ _
set_option maxHeartbeats 4000000 in
set_option maxRecDepth 100000 in
theorem j_X6_carries {X : fm_X} {G : fm_G} {l : Launch} {q1 : Nat} {v2 : Int32} {q3 : Nat} {v4 : Int32} {v5 : Int32} {μ : fm_I} {ν : fm_L} (C : fm_C X G l cX6_carries RX6 7 (some .int) 1 12) {F : (Int32 × fm_I × fm_L) → State → Prop} (hF : F = fm_Qi X G) : fm_J X G 7 F (m_X6_carries q1 v2 q3 v4 v5 μ ν) μ ν 0 [(0, .ref (G.2.2.1 58)), (1, .ref (G.2.2.1 q1)), (2, .int v2), (3, .ref (G.2.2.1 q3)), (4, .int v4), (5, .int v5)] [] := by
  unfold m_X6_carries
  refine fm_guard (fun h1 => ?_)
  refine fm_guard (fun h2 => ?_)
  refine fm_iconst (pc := 0) (v := (nI 0)) C dX6_carries_0 (by decide) ?_
  refine fm_istore (pc := 1) C dX6_carries_1 (by decide) rfl ?_
  refine fm_less (lv' := [(1, .ref (G.2.2.1 q1)), (2, .int v2), (3, .ref (G.2.2.1 q3)), (4, .int v4), (5, .int v5), (6, .int ((nI 0)))]) (by repeat (first | exact trivial | refine ⟨rfl, ?_⟩)) ?_
  refine j_X6_carries_3_ C (q1 := q1) (v2 := v2) (q3 := q3) (v4 := v4) (v5 := v5) hF (Nat.eq_of_beq_eq_true h1) (Nat.eq_of_beq_eq_true h2) (fun μ3 ν3 => ?_) _ _ _ _
  refine fm_iload (pc := 45) C dX6_carries_45 rfl ?_
  refine fm_iload_n (pc := 47) C dX6_carries_47 rfl rfl ?_
  refine fm_iadd (pc := 48) C dX6_carries_48 ?_
  exact fm_zret (pc := 49) C hF rfl rfl dX6_carries_49
theorem t_X6_carries {l : Launch} {G : fm_G} {q1 : Nat} {v2 : Int32} {q3 : Nat} {v4 : Int32} {v5 : Int32} {μ : fm_I} {ν : fm_L} {r : Int32 × fm_I × fm_L} (h : m_X6_carries q1 v2 q3 v4 v5 μ ν = some r) : fm_Mi l G yX6_carries cX6_carries 7 (some .int) 1 12 [.ref (G.2.2.1 58), .ref (G.2.2.1 q1), .int v2, .ref (G.2.2.1 q3), .int v4, .int v5] μ ν r := fm_Mi_of (by decide +kernel) (Nat.le_of_ble_eq_true rfl) (fun _ C => j_X6_carries C rfl r h)
theorem dX6_all_0 : decode cX6_all 0 = .ok (.aload_n 0, 1) := by decide +kernel
theorem dX6_all_1 : decode cX6_all 1 = .ok (.aload_n 0, 1) := by decide +kernel
theorem dX6_all_2 : decode cX6_all 2 = .ok (.getfield 20, 3) := by decide +kernel
theorem dX6_all_5 : decode cX6_all 5 = .ok (.bipush 6, 2) := by decide +kernel
theorem dX6_all_7 : decode cX6_all 7 = .ok (.aload_n 1, 1) := by decide +kernel
theorem dX6_all_8 : decode cX6_all 8 = .ok (.iconst 0, 1) := by decide +kernel
theorem dX6_all_9 : decode cX6_all 9 = .ok (.iload_n 2, 1) := by decide +kernel
theorem dX6_all_10 : decode cX6_all 10 = .ok (.invokevirtual 155, 3) := by decide +kernel
theorem dX6_all_13 : decode cX6_all 13 = .ok (.istore_n 3, 1) := by decide +kernel
theorem dX6_all_14 : decode cX6_all 14 = .ok (.aload_n 0, 1) := by decide +kernel
theorem dX6_all_15 : decode cX6_all 15 = .ok (.aload_n 0, 1) := by decide +kernel
theorem dX6_all_16 : decode cX6_all 16 = .ok (.getfield 23, 3) := by decide +kernel
theorem dX6_all_19 : decode cX6_all 19 = .ok (.bipush 6, 2) := by decide +kernel
theorem dX6_all_21 : decode cX6_all 21 = .ok (.aload_n 1, 1) := by decide +kernel
theorem dX6_all_22 : decode cX6_all 22 = .ok (.iload_n 3, 1) := by decide +kernel
theorem dX6_all_23 : decode cX6_all 23 = .ok (.iload_n 2, 1) := by decide +kernel
theorem dX6_all_24 : decode cX6_all 24 = .ok (.invokevirtual 155, 3) := by decide +kernel
theorem dX6_all_27 : decode cX6_all 27 = .ok (.istore_n 3, 1) := by decide +kernel
theorem dX6_all_28 : decode cX6_all 28 = .ok (.aload_n 0, 1) := by decide +kernel
theorem dX6_all_29 : decode cX6_all 29 = .ok (.aload_n 0, 1) := by decide +kernel
theorem dX6_all_30 : decode cX6_all 30 = .ok (.getfield 26, 3) := by decide +kernel
theorem dX6_all_33 : decode cX6_all 33 = .ok (.bipush 6, 2) := by decide +kernel
theorem dX6_all_35 : decode cX6_all 35 = .ok (.aload_n 1, 1) := by decide +kernel
theorem dX6_all_36 : decode cX6_all 36 = .ok (.iload_n 3, 1) := by decide +kernel
theorem dX6_all_37 : decode cX6_all 37 = .ok (.iload_n 2, 1) := by decide +kernel
theorem dX6_all_38 : decode cX6_all 38 = .ok (.invokevirtual 155, 3) := by decide +kernel
theorem dX6_all_41 : decode cX6_all 41 = .ok (.istore_n 3, 1) := by decide +kernel
theorem dX6_all_42 : decode cX6_all 42 = .ok (.aload_n 0, 1) := by decide +kernel
theorem dX6_all_43 : decode cX6_all 43 = .ok (.aload_n 0, 1) := by decide +kernel
theorem dX6_all_44 : decode cX6_all 44 = .ok (.getfield 29, 3) := by decide +kernel
theorem dX6_all_47 : decode cX6_all 47 = .ok (.bipush 6, 2) := by decide +kernel
theorem dX6_all_49 : decode cX6_all 49 = .ok (.aload_n 1, 1) := by decide +kernel
theorem dX6_all_50 : decode cX6_all 50 = .ok (.iload_n 3, 1) := by decide +kernel
theorem dX6_all_51 : decode cX6_all 51 = .ok (.iload_n 2, 1) := by decide +kernel
theorem dX6_all_52 : decode cX6_all 52 = .ok (.invokevirtual 155, 3) := by decide +kernel
theorem dX6_all_55 : decode cX6_all 55 = .ok (.istore_n 3, 1) := by decide +kernel
theorem dX6_all_56 : decode cX6_all 56 = .ok (.aload_n 0, 1) := by decide +kernel
theorem dX6_all_57 : decode cX6_all 57 = .ok (.aload_n 0, 1) := by decide +kernel
theorem dX6_all_58 : decode cX6_all 58 = .ok (.getfield 32, 3) := by decide +kernel
theorem dX6_all_61 : decode cX6_all 61 = .ok (.bipush 6, 2) := by decide +kernel
theorem dX6_all_63 : decode cX6_all 63 = .ok (.aload_n 1, 1) := by decide +kernel
theorem dX6_all_64 : decode cX6_all 64 = .ok (.iload_n 3, 1) := by decide +kernel
theorem dX6_all_65 : decode cX6_all 65 = .ok (.iload_n 2, 1) := by decide +kernel
theorem dX6_all_66 : decode cX6_all 66 = .ok (.invokevirtual 155, 3) := by decide +kernel
theorem dX6_all_69 : decode cX6_all 69 = .ok (.istore_n 3, 1) := by decide +kernel
theorem dX6_all_70 : decode cX6_all 70 = .ok (.aload_n 0, 1) := by decide +kernel
theorem dX6_all_71 : decode cX6_all 71 = .ok (.aload_n 0, 1) := by decide +kernel
theorem dX6_all_72 : decode cX6_all 72 = .ok (.getfield 35, 3) := by decide +kernel
theorem dX6_all_75 : decode cX6_all 75 = .ok (.bipush 72, 2) := by decide +kernel
theorem dX6_all_77 : decode cX6_all 77 = .ok (.aload_n 1, 1) := by decide +kernel
theorem dX6_all_78 : decode cX6_all 78 = .ok (.iload_n 3, 1) := by decide +kernel
theorem dX6_all_79 : decode cX6_all 79 = .ok (.iload_n 2, 1) := by decide +kernel
theorem dX6_all_80 : decode cX6_all 80 = .ok (.invokevirtual 155, 3) := by decide +kernel
theorem dX6_all_83 : decode cX6_all 83 = .ok (.istore_n 3, 1) := by decide +kernel
theorem dX6_all_84 : decode cX6_all 84 = .ok (.iload_n 2, 1) := by decide +kernel
theorem dX6_all_85 : decode cX6_all 85 = .ok (.ifCond .eq 31, 3) := by decide +kernel
theorem dX6_all_88 : decode cX6_all 88 = .ok (.aload_n 0, 1) := by decide +kernel
theorem dX6_all_89 : decode cX6_all 89 = .ok (.aload_n 1, 1) := by decide +kernel
theorem dX6_all_90 : decode cX6_all 90 = .ok (.iload_n 3, 1) := by decide +kernel
theorem dX6_all_91 : decode cX6_all 91 = .ok (.iaload, 1) := by decide +kernel
theorem dX6_all_92 : decode cX6_all 92 = .ok (.putfield 85, 3) := by decide +kernel
theorem dX6_all_95 : decode cX6_all 95 = .ok (.aload_n 0, 1) := by decide +kernel
theorem dX6_all_96 : decode cX6_all 96 = .ok (.aload_n 1, 1) := by decide +kernel
theorem dX6_all_97 : decode cX6_all 97 = .ok (.iload_n 3, 1) := by decide +kernel
theorem dX6_all_98 : decode cX6_all 98 = .ok (.iconst 1, 1) := by decide +kernel
theorem dX6_all_99 : decode cX6_all 99 = .ok (.iadd, 1) := by decide +kernel
theorem dX6_all_100 : decode cX6_all 100 = .ok (.iaload, 1) := by decide +kernel
theorem dX6_all_101 : decode cX6_all 101 = .ok (.putfield 159, 3) := by decide +kernel
theorem dX6_all_104 : decode cX6_all 104 = .ok (.aload_n 0, 1) := by decide +kernel
theorem dX6_all_105 : decode cX6_all 105 = .ok (.aload_n 1, 1) := by decide +kernel
theorem dX6_all_106 : decode cX6_all 106 = .ok (.iload_n 3, 1) := by decide +kernel
theorem dX6_all_107 : decode cX6_all 107 = .ok (.iconst 2, 1) := by decide +kernel
theorem dX6_all_108 : decode cX6_all 108 = .ok (.iadd, 1) := by decide +kernel
theorem dX6_all_109 : decode cX6_all 109 = .ok (.iaload, 1) := by decide +kernel
theorem dX6_all_110 : decode cX6_all 110 = .ok (.putfield 7, 3) := by decide +kernel
theorem dX6_all_113 : decode cX6_all 113 = .ok (.goto 28, 3) := by decide +kernel
theorem dX6_all_116 : decode cX6_all 116 = .ok (.aload_n 1, 1) := by decide +kernel
theorem dX6_all_117 : decode cX6_all 117 = .ok (.iload_n 3, 1) := by decide +kernel
theorem dX6_all_118 : decode cX6_all 118 = .ok (.aload_n 0, 1) := by decide +kernel
theorem dX6_all_119 : decode cX6_all 119 = .ok (.getfield 85, 3) := by decide +kernel
theorem dX6_all_122 : decode cX6_all 122 = .ok (.iastore, 1) := by decide +kernel
theorem dX6_all_123 : decode cX6_all 123 = .ok (.aload_n 1, 1) := by decide +kernel
theorem dX6_all_124 : decode cX6_all 124 = .ok (.iload_n 3, 1) := by decide +kernel
theorem dX6_all_125 : decode cX6_all 125 = .ok (.iconst 1, 1) := by decide +kernel
theorem dX6_all_126 : decode cX6_all 126 = .ok (.iadd, 1) := by decide +kernel
theorem dX6_all_127 : decode cX6_all 127 = .ok (.aload_n 0, 1) := by decide +kernel
theorem dX6_all_128 : decode cX6_all 128 = .ok (.getfield 159, 3) := by decide +kernel
theorem dX6_all_131 : decode cX6_all 131 = .ok (.iastore, 1) := by decide +kernel
theorem dX6_all_132 : decode cX6_all 132 = .ok (.aload_n 1, 1) := by decide +kernel
theorem dX6_all_133 : decode cX6_all 133 = .ok (.iload_n 3, 1) := by decide +kernel
theorem dX6_all_134 : decode cX6_all 134 = .ok (.iconst 2, 1) := by decide +kernel
theorem dX6_all_135 : decode cX6_all 135 = .ok (.iadd, 1) := by decide +kernel
theorem dX6_all_136 : decode cX6_all 136 = .ok (.aload_n 0, 1) := by decide +kernel
theorem dX6_all_137 : decode cX6_all 137 = .ok (.getfield 7, 3) := by decide +kernel
theorem dX6_all_140 : decode cX6_all 140 = .ok (.iastore, 1) := by decide +kernel
theorem dX6_all_141 : decode cX6_all 141 = .ok (.return_, 1) := by decide +kernel
def m_X6_all (q1 : Nat) (v2 : Int32) (μ : fm_I) (ν : fm_L) : Option (fm_I × fm_L) :=
  fm_g (Nat.beq (fm_k q1) 7) ((m_X6_carries 60 ((nI 6)) q1 ((nI 0)) v2 μ ν).bind (fun r10 => (m_X6_carries 61 ((nI 6)) q1 r10.1 v2 r10.2.1 r10.2.2).bind (fun r24 => (m_X6_carries 62 ((nI 6)) q1 r24.1 v2 r24.2.1 r24.2.2).bind (fun r38 => (m_X6_carries 63 ((nI 6)) q1 r38.1 v2 r38.2.1 r38.2.2).bind (fun r52 => (m_X6_carries 64 ((nI 6)) q1 r52.1 v2 r52.2.1 r52.2.2).bind (fun r66 => (m_X6_carries 65 ((nI 72)) q1 r66.1 v2 r66.2.1 r66.2.2).bind (fun r80 => if v2 = 0 then fm_g (fm_in r80.1 (fm_n q1)) (fm_g (fm_in ((r80.1 + ((nI 1)))) (fm_n q1)) (fm_g (fm_in ((r80.1 + ((nI 2)))) (fm_n q1)) (some (((fm_u (fm_u (fm_u r80.2.1 q1 r80.1.toNatClampNeg ((r80.2.1 58 0))) q1 ((r80.1 + ((nI 1)))).toNatClampNeg ((((fm_u r80.2.1 q1 r80.1.toNatClampNeg ((r80.2.1 58 0)))) 58 1))) q1 ((r80.1 + ((nI 2)))).toNatClampNeg ((((fm_u (fm_u r80.2.1 q1 r80.1.toNatClampNeg ((r80.2.1 58 0))) q1 ((r80.1 + ((nI 1)))).toNatClampNeg ((((fm_u r80.2.1 q1 r80.1.toNatClampNeg ((r80.2.1 58 0)))) 58 1)))) 58 2))), r80.2.2))))) else fm_g (fm_in r80.1 (fm_n q1)) (fm_g (fm_in ((r80.1 + ((nI 1)))) (fm_n q1)) (fm_g (fm_in ((r80.1 + ((nI 2)))) (fm_n q1)) (some (((fm_u (fm_u (fm_u r80.2.1 58 0 ((r80.2.1 q1 r80.1.toNatClampNeg))) 58 1 (((fm_u r80.2.1 58 0 ((r80.2.1 q1 r80.1.toNatClampNeg))) q1 ((r80.1 + ((nI 1)))).toNatClampNeg))) 58 2 (((fm_u (fm_u r80.2.1 58 0 ((r80.2.1 q1 r80.1.toNatClampNeg))) 58 1 (((fm_u r80.2.1 58 0 ((r80.2.1 q1 r80.1.toNatClampNeg))) q1 ((r80.1 + ((nI 1)))).toNatClampNeg))) q1 ((r80.1 + ((nI 2)))).toNatClampNeg))), r80.2.2))))))))))))
theorem ok_X6_all : fm_okV yX6_all cX6_all 4 (none : Option Jvm.ClassFile.FieldType) 2 := ⟨m_cd_X6_all, m_im_X6_all, m_se_X6_X6_all, m_ini_X6, by decide +kernel, by decide +kernel, by decide +kernel⟩
set_option maxHeartbeats 4000000 in
set_option maxRecDepth 100000 in
theorem j_X6_all {X : fm_X} {G : fm_G} {l : Launch} {q1 : Nat} {v2 : Int32} {μ : fm_I} {ν : fm_L} (C : fm_C X G l cX6_all RX6 4 (none : Option Jvm.ClassFile.FieldType) 2 38) {F : (fm_I × fm_L) → State → Prop} (hF : F = fm_Qv X G) : fm_J X G 4 F (m_X6_all q1 v2 μ ν) μ ν 0 [(0, .ref (G.2.2.1 58)), (1, .ref (G.2.2.1 q1)), (2, .int v2)] [] := by
  unfold m_X6_all
  refine fm_guard (fun h1 => ?_)
  refine fm_aload_n (pc := 0) C dX6_all_0 rfl rfl ?_
  refine fm_aload_n (pc := 1) C dX6_all_1 rfl rfl ?_
  refine g6_kind (pc := 2) C (by decide) dX6_all_2 m_fl_X6_20 ?_
  refine fm_bipush (pc := 5) (v := (nI 6)) C dX6_all_5 (by decide) ?_
  refine fm_aload_n (pc := 7) C dX6_all_7 rfl rfl ?_
  refine fm_iconst (pc := 8) (v := (nI 0)) C dX6_all_8 (by decide) ?_
  refine fm_iload_n (pc := 9) C dX6_all_9 rfl rfl ?_
  refine fm_bind (fun r10 e10 => ?_)
  refine fm_cVi (pc := 10) C (t_X6_carries e10) ok_X6_carries ⟨by decide, rfl⟩ m_ml_X6_155 dX6_all_10 ⟨Nat.le_of_ble_eq_true rfl, Nat.le_of_ble_eq_true rfl⟩ rfl rfl (Nat.le_of_ble_eq_true rfl) ?_
  refine fm_istore_n (pc := 13) C dX6_all_13 rfl (by decide) rfl ?_
  refine fm_aload_n (pc := 14) C dX6_all_14 rfl rfl ?_
  refine fm_aload_n (pc := 15) C dX6_all_15 rfl rfl ?_
  refine g6_twists (pc := 16) C (by decide) dX6_all_16 m_fl_X6_23 ?_
  refine fm_bipush (pc := 19) (v := (nI 6)) C dX6_all_19 (by decide) ?_
  refine fm_aload_n (pc := 21) C dX6_all_21 rfl rfl ?_
  refine fm_iload_n (pc := 22) C dX6_all_22 rfl rfl ?_
  refine fm_iload_n (pc := 23) C dX6_all_23 rfl rfl ?_
  refine fm_bind (fun r24 e24 => ?_)
  refine fm_cVi (pc := 24) C (t_X6_carries e24) ok_X6_carries ⟨by decide, rfl⟩ m_ml_X6_155 dX6_all_24 ⟨Nat.le_of_ble_eq_true rfl, Nat.le_of_ble_eq_true rfl⟩ rfl rfl (Nat.le_of_ble_eq_true rfl) ?_
  refine fm_istore_n (pc := 27) C dX6_all_27 rfl (by decide) rfl ?_
  refine fm_aload_n (pc := 28) C dX6_all_28 rfl rfl ?_
  refine fm_aload_n (pc := 29) C dX6_all_29 rfl rfl ?_
  refine g6_strips (pc := 30) C (by decide) dX6_all_30 m_fl_X6_26 ?_
  refine fm_bipush (pc := 33) (v := (nI 6)) C dX6_all_33 (by decide) ?_
  refine fm_aload_n (pc := 35) C dX6_all_35 rfl rfl ?_
  refine fm_iload_n (pc := 36) C dX6_all_36 rfl rfl ?_
  refine fm_iload_n (pc := 37) C dX6_all_37 rfl rfl ?_
  refine fm_bind (fun r38 e38 => ?_)
  refine fm_cVi (pc := 38) C (t_X6_carries e38) ok_X6_carries ⟨by decide, rfl⟩ m_ml_X6_155 dX6_all_38 ⟨Nat.le_of_ble_eq_true rfl, Nat.le_of_ble_eq_true rfl⟩ rfl rfl (Nat.le_of_ble_eq_true rfl) ?_
  refine fm_istore_n (pc := 41) C dX6_all_41 rfl (by decide) rfl ?_
  refine fm_aload_n (pc := 42) C dX6_all_42 rfl rfl ?_
  refine fm_aload_n (pc := 43) C dX6_all_43 rfl rfl ?_
  refine g6_hand (pc := 44) C (by decide) dX6_all_44 m_fl_X6_29 ?_
  refine fm_bipush (pc := 47) (v := (nI 6)) C dX6_all_47 (by decide) ?_
  refine fm_aload_n (pc := 49) C dX6_all_49 rfl rfl ?_
  refine fm_iload_n (pc := 50) C dX6_all_50 rfl rfl ?_
  refine fm_iload_n (pc := 51) C dX6_all_51 rfl rfl ?_
  refine fm_bind (fun r52 e52 => ?_)
  refine fm_cVi (pc := 52) C (t_X6_carries e52) ok_X6_carries ⟨by decide, rfl⟩ m_ml_X6_155 dX6_all_52 ⟨Nat.le_of_ble_eq_true rfl, Nat.le_of_ble_eq_true rfl⟩ rfl rfl (Nat.le_of_ble_eq_true rfl) ?_
  refine fm_istore_n (pc := 55) C dX6_all_55 rfl (by decide) rfl ?_
  refine fm_aload_n (pc := 56) C dX6_all_56 rfl rfl ?_
  refine fm_aload_n (pc := 57) C dX6_all_57 rfl rfl ?_
  refine g6_part (pc := 58) C (by decide) dX6_all_58 m_fl_X6_32 ?_
  refine fm_bipush (pc := 61) (v := (nI 6)) C dX6_all_61 (by decide) ?_
  refine fm_aload_n (pc := 63) C dX6_all_63 rfl rfl ?_
  refine fm_iload_n (pc := 64) C dX6_all_64 rfl rfl ?_
  refine fm_iload_n (pc := 65) C dX6_all_65 rfl rfl ?_
  refine fm_bind (fun r66 e66 => ?_)
  refine fm_cVi (pc := 66) C (t_X6_carries e66) ok_X6_carries ⟨by decide, rfl⟩ m_ml_X6_155 dX6_all_66 ⟨Nat.le_of_ble_eq_true rfl, Nat.le_of_ble_eq_true rfl⟩ rfl rfl (Nat.le_of_ble_eq_true rfl) ?_
  refine fm_istore_n (pc := 69) C dX6_all_69 rfl (by decide) rfl ?_
  refine fm_aload_n (pc := 70) C dX6_all_70 rfl rfl ?_
  refine fm_aload_n (pc := 71) C dX6_all_71 rfl rfl ?_
  refine g6_colour (pc := 72) C (by decide) dX6_all_72 m_fl_X6_35 ?_
  refine fm_bipush (pc := 75) (v := (nI 72)) C dX6_all_75 (by decide) ?_
  refine fm_aload_n (pc := 77) C dX6_all_77 rfl rfl ?_
  refine fm_iload_n (pc := 78) C dX6_all_78 rfl rfl ?_
  refine fm_iload_n (pc := 79) C dX6_all_79 rfl rfl ?_
  refine fm_bind (fun r80 e80 => ?_)
  refine fm_cVi (pc := 80) C (t_X6_carries e80) ok_X6_carries ⟨by decide, rfl⟩ m_ml_X6_155 dX6_all_80 ⟨Nat.le_of_ble_eq_true rfl, Nat.le_of_ble_eq_true rfl⟩ rfl rfl (Nat.le_of_ble_eq_true rfl) ?_
  refine fm_istore_n (pc := 83) C dX6_all_83 rfl (by decide) rfl ?_
  refine fm_iload_n (pc := 84) C dX6_all_84 rfl rfl ?_
  refine fm_if_eq (pc := 85) (tgt := 116) C dX6_all_85 (by decide) (fun c2 => ?_) (fun c2 => ?_)
  · refine fm_aload_n (pc := 116) C dX6_all_116 rfl rfl ?_
    refine fm_iload_n (pc := 117) C dX6_all_117 rfl rfl ?_
    refine fm_aload_n (pc := 118) C dX6_all_118 rfl rfl ?_
    refine g6_bands (pc := 119) C (by decide) dX6_all_119 m_fl_X6_85 ?_
    refine fm_guard (fun h3 => ?_)
    refine fm_iast (pc := 122) C (Nat.eq_of_beq_eq_true h1) h3 dX6_all_122 ?_
    refine fm_aload_n (pc := 123) C dX6_all_123 rfl rfl ?_
    refine fm_iload_n (pc := 124) C dX6_all_124 rfl rfl ?_
    refine fm_iconst (pc := 125) (v := (nI 1)) C dX6_all_125 (by decide) ?_
    refine fm_iadd (pc := 126) C dX6_all_126 ?_
    refine fm_aload_n (pc := 127) C dX6_all_127 rfl rfl ?_
    refine g6_snips (pc := 128) C (by decide) dX6_all_128 m_fl_X6_159 ?_
    refine fm_guard (fun h4 => ?_)
    refine fm_iast (pc := 131) C (Nat.eq_of_beq_eq_true h1) h4 dX6_all_131 ?_
    refine fm_aload_n (pc := 132) C dX6_all_132 rfl rfl ?_
    refine fm_iload_n (pc := 133) C dX6_all_133 rfl rfl ?_
    refine fm_iconst (pc := 134) (v := (nI 2)) C dX6_all_134 (by decide) ?_
    refine fm_iadd (pc := 135) C dX6_all_135 ?_
    refine fm_aload_n (pc := 136) C dX6_all_136 rfl rfl ?_
    refine g6_seed (pc := 137) C (by decide) dX6_all_137 m_fl_X6_7 ?_
    refine fm_guard (fun h5 => ?_)
    refine fm_iast (pc := 140) C (Nat.eq_of_beq_eq_true h1) h5 dX6_all_140 ?_
    exact fm_vret (pc := 141) C hF rfl dX6_all_141
  · refine fm_aload_n (pc := 88) C dX6_all_88 rfl rfl ?_
    refine fm_aload_n (pc := 89) C dX6_all_89 rfl rfl ?_
    refine fm_iload_n (pc := 90) C dX6_all_90 rfl rfl ?_
    refine fm_guard (fun h6 => ?_)
    refine fm_iald (pc := 91) C (Nat.eq_of_beq_eq_true h1) h6 dX6_all_91 ?_
    refine p6_bands (pc := 92) C (by decide) dX6_all_92 m_fl_X6_85 ?_
    refine fm_aload_n (pc := 95) C dX6_all_95 rfl rfl ?_
    refine fm_aload_n (pc := 96) C dX6_all_96 rfl rfl ?_
    refine fm_iload_n (pc := 97) C dX6_all_97 rfl rfl ?_
    refine fm_iconst (pc := 98) (v := (nI 1)) C dX6_all_98 (by decide) ?_
    refine fm_iadd (pc := 99) C dX6_all_99 ?_
    refine fm_guard (fun h7 => ?_)
    refine fm_iald (pc := 100) C (Nat.eq_of_beq_eq_true h1) h7 dX6_all_100 ?_
    refine p6_snips (pc := 101) C (by decide) dX6_all_101 m_fl_X6_159 ?_
    refine fm_aload_n (pc := 104) C dX6_all_104 rfl rfl ?_
    refine fm_aload_n (pc := 105) C dX6_all_105 rfl rfl ?_
    refine fm_iload_n (pc := 106) C dX6_all_106 rfl rfl ?_
    refine fm_iconst (pc := 107) (v := (nI 2)) C dX6_all_107 (by decide) ?_
    refine fm_iadd (pc := 108) C dX6_all_108 ?_
    refine fm_guard (fun h8 => ?_)
    refine fm_iald (pc := 109) C (Nat.eq_of_beq_eq_true h1) h8 dX6_all_109 ?_
    refine p6_seed (pc := 110) C (by decide) dX6_all_110 m_fl_X6_7 ?_
    refine fm_goto (pc := 113) (tgt := 141) C dX6_all_113 (by decide) ?_
    exact fm_vret (pc := 141) C hF rfl dX6_all_141
theorem t_X6_all {l : Launch} {G : fm_G} {q1 : Nat} {v2 : Int32} {μ : fm_I} {ν : fm_L} {r : fm_I × fm_L} (h : m_X6_all q1 v2 μ ν = some r) : fm_Mv l G yX6_all cX6_all 4 (none : Option Jvm.ClassFile.FieldType) 2 38 [.ref (G.2.2.1 58), .ref (G.2.2.1 q1), .int v2] μ ν r := fm_Mv_of (by decide +kernel) (Nat.le_of_ble_eq_true rfl) (fun _ C => j_X6_all C rfl r h)
theorem dX6_table_0 : decode cX6_table 0 = .ok (.aload_n 0, 1) := by decide +kernel
theorem dX6_table_1 : decode cX6_table 1 = .ok (.iload_n 1, 1) := by decide +kernel
theorem dX6_table_2 : decode cX6_table 2 = .ok (.invokevirtual 106, 3) := by decide +kernel
theorem dX6_table_5 : decode cX6_table 5 = .ok (.istore_n 2, 1) := by decide +kernel
theorem dX6_table_6 : decode cX6_table 6 = .ok (.iload_n 2, 1) := by decide +kernel
theorem dX6_table_7 : decode cX6_table 7 = .ok (.ifCond .eq 9, 3) := by decide +kernel
theorem dX6_table_10 : decode cX6_table 10 = .ok (.aload_n 0, 1) := by decide +kernel
theorem dX6_table_11 : decode cX6_table 11 = .ok (.iload_n 2, 1) := by decide +kernel
theorem dX6_table_12 : decode cX6_table 12 = .ok (.invokevirtual 95, 3) := by decide +kernel
theorem dX6_table_15 : decode cX6_table 15 = .ok (.ireturn, 1) := by decide +kernel
theorem dX6_table_16 : decode cX6_table 16 = .ok (.aload_n 0, 1) := by decide +kernel
theorem dX6_table_17 : decode cX6_table 17 = .ok (.aload_n 0, 1) := by decide +kernel
theorem dX6_table_18 : decode cX6_table 18 = .ok (.getfield 63, 3) := by decide +kernel
theorem dX6_table_21 : decode cX6_table 21 = .ok (.iconst 0, 1) := by decide +kernel
theorem dX6_table_22 : decode cX6_table 22 = .ok (.invokevirtual 162, 3) := by decide +kernel
theorem dX6_table_25 : decode cX6_table 25 = .ok (.aload_n 0, 1) := by decide +kernel
theorem dX6_table_26 : decode cX6_table 26 = .ok (.sipush 160, 3) := by decide +kernel
theorem dX6_table_29 : decode cX6_table 29 = .ok (.iload_n 1, 1) := by decide +kernel
theorem dX6_table_30 : decode cX6_table 30 = .ok (.imul, 1) := by decide +kernel
theorem dX6_table_31 : decode cX6_table 31 = .ok (.putfield 126, 3) := by decide +kernel
theorem dX6_table_34 : decode cX6_table 34 = .ok (.aload_n 0, 1) := by decide +kernel
theorem dX6_table_35 : decode cX6_table 35 = .ok (.iconst 0, 1) := by decide +kernel
theorem dX6_table_36 : decode cX6_table 36 = .ok (.putfield 120, 3) := by decide +kernel
theorem dX6_table_39 : decode cX6_table 39 = .ok (.aload_n 0, 1) := by decide +kernel
theorem dX6_table_40 : decode cX6_table 40 = .ok (.aload_n 0, 1) := by decide +kernel
theorem dX6_table_41 : decode cX6_table 41 = .ok (.getfield 44, 3) := by decide +kernel
theorem dX6_table_44 : decode cX6_table 44 = .ok (.iload_n 1, 1) := by decide +kernel
theorem dX6_table_45 : decode cX6_table 45 = .ok (.iaload, 1) := by decide +kernel
theorem dX6_table_46 : decode cX6_table 46 = .ok (.putfield 123, 3) := by decide +kernel
theorem dX6_table_49 : decode cX6_table 49 = .ok (.aload_n 0, 1) := by decide +kernel
theorem dX6_table_50 : decode cX6_table 50 = .ok (.iconst (-1), 1) := by decide +kernel
theorem dX6_table_51 : decode cX6_table 51 = .ok (.putfield 13, 3) := by decide +kernel
theorem dX6_table_54 : decode cX6_table 54 = .ok (.iconst 1, 1) := by decide +kernel
theorem dX6_table_55 : decode cX6_table 55 = .ok (.istore_n 3, 1) := by decide +kernel
theorem dX6_table_56 : decode cX6_table 56 = .ok (.aload_n 0, 1) := by decide +kernel
theorem dX6_table_57 : decode cX6_table 57 = .ok (.invokevirtual 166, 3) := by decide +kernel
theorem dX6_table_60 : decode cX6_table 60 = .ok (.istore 4, 2) := by decide +kernel
theorem dX6_table_62 : decode cX6_table 62 = .ok (.iload 4, 2) := by decide +kernel
theorem dX6_table_64 : decode cX6_table 64 = .ok (.ifCond .eq 69, 3) := by decide +kernel
theorem dX6_table_67 : decode cX6_table 67 = .ok (.aload_n 0, 1) := by decide +kernel
theorem dX6_table_68 : decode cX6_table 68 = .ok (.getfield 120, 3) := by decide +kernel
theorem dX6_table_71 : decode cX6_table 71 = .ok (.aload_n 0, 1) := by decide +kernel
theorem dX6_table_72 : decode cX6_table 72 = .ok (.getfield 123, 3) := by decide +kernel
theorem dX6_table_75 : decode cX6_table 75 = .ok (.if_icmp .ge 58, 3) := by decide +kernel
theorem dX6_table_78 : decode cX6_table 78 = .ok (.aload_n 0, 1) := by decide +kernel
theorem dX6_table_79 : decode cX6_table 79 = .ok (.getfield 50, 3) := by decide +kernel
theorem dX6_table_82 : decode cX6_table 82 = .ok (.aload_n 0, 1) := by decide +kernel
theorem dX6_table_83 : decode cX6_table 83 = .ok (.getfield 126, 3) := by decide +kernel
theorem dX6_table_86 : decode cX6_table 86 = .ok (.aload_n 0, 1) := by decide +kernel
theorem dX6_table_87 : decode cX6_table 87 = .ok (.getfield 120, 3) := by decide +kernel
theorem dX6_table_90 : decode cX6_table 90 = .ok (.iadd, 1) := by decide +kernel
theorem dX6_table_91 : decode cX6_table 91 = .ok (.laload, 1) := by decide +kernel
theorem dX6_table_92 : decode cX6_table 92 = .ok (.l2i, 1) := by decide +kernel
theorem dX6_table_93 : decode cX6_table 93 = .ok (.bipush 59, 2) := by decide +kernel
theorem dX6_table_95 : decode cX6_table 95 = .ok (.if_icmp .eq 16, 3) := by decide +kernel
theorem dX6_table_98 : decode cX6_table 98 = .ok (.aload_n 0, 1) := by decide +kernel
theorem dX6_table_99 : decode cX6_table 99 = .ok (.aload_n 0, 1) := by decide +kernel
theorem dX6_table_100 : decode cX6_table 100 = .ok (.getfield 120, 3) := by decide +kernel
theorem dX6_table_103 : decode cX6_table 103 = .ok (.invokevirtual 136, 3) := by decide +kernel
theorem dX6_table_106 : decode cX6_table 106 = .ok (.istore 4, 2) := by decide +kernel
theorem dX6_table_108 : decode cX6_table 108 = .ok (.goto (-46), 3) := by decide +kernel
theorem dX6_table_111 : decode cX6_table 111 = .ok (.aload_n 0, 1) := by decide +kernel
theorem dX6_table_112 : decode cX6_table 112 = .ok (.dup, 1) := by decide +kernel
theorem dX6_table_113 : decode cX6_table 113 = .ok (.getfield 120, 3) := by decide +kernel
theorem dX6_table_116 : decode cX6_table 116 = .ok (.iconst 1, 1) := by decide +kernel
theorem dX6_table_117 : decode cX6_table 117 = .ok (.iadd, 1) := by decide +kernel
theorem dX6_table_118 : decode cX6_table 118 = .ok (.putfield 120, 3) := by decide +kernel
theorem dX6_table_121 : decode cX6_table 121 = .ok (.iinc 3 1, 3) := by decide +kernel
theorem dX6_table_124 : decode cX6_table 124 = .ok (.aload_n 0, 1) := by decide +kernel
theorem dX6_table_125 : decode cX6_table 125 = .ok (.invokevirtual 166, 3) := by decide +kernel
theorem dX6_table_128 : decode cX6_table 128 = .ok (.istore 4, 2) := by decide +kernel
theorem dX6_table_130 : decode cX6_table 130 = .ok (.goto (-68), 3) := by decide +kernel
theorem dX6_table_133 : decode cX6_table 133 = .ok (.iload 4, 2) := by decide +kernel
theorem dX6_table_135 : decode cX6_table 135 = .ok (.ifCond .eq 5, 3) := by decide +kernel
theorem dX6_table_138 : decode cX6_table 138 = .ok (.iload_n 3, 1) := by decide +kernel
theorem dX6_table_139 : decode cX6_table 139 = .ok (.ireturn, 1) := by decide +kernel
theorem dX6_table_140 : decode cX6_table 140 = .ok (.aload_n 0, 1) := by decide +kernel
theorem dX6_table_141 : decode cX6_table 141 = .ok (.aload_n 0, 1) := by decide +kernel
theorem dX6_table_142 : decode cX6_table 142 = .ok (.getfield 63, 3) := by decide +kernel
theorem dX6_table_145 : decode cX6_table 145 = .ok (.iconst 1, 1) := by decide +kernel
theorem dX6_table_146 : decode cX6_table 146 = .ok (.invokevirtual 162, 3) := by decide +kernel
theorem dX6_table_149 : decode cX6_table 149 = .ok (.aload_n 0, 1) := by decide +kernel
theorem dX6_table_150 : decode cX6_table 150 = .ok (.aload_n 0, 1) := by decide +kernel
theorem dX6_table_151 : decode cX6_table 151 = .ok (.getfield 117, 3) := by decide +kernel
theorem dX6_table_154 : decode cX6_table 154 = .ok (.putfield 13, 3) := by decide +kernel
theorem dX6_table_157 : decode cX6_table 157 = .ok (.aload_n 0, 1) := by decide +kernel
theorem dX6_table_158 : decode cX6_table 158 = .ok (.bipush (-6), 2) := by decide +kernel
theorem dX6_table_160 : decode cX6_table 160 = .ok (.invokevirtual 95, 3) := by decide +kernel
theorem dX6_table_163 : decode cX6_table 163 = .ok (.ireturn, 1) := by decide +kernel
def m_X6_table_62  (K : Int32 → Int32 → fm_I → fm_L → Option (Int32 × fm_I × fm_L)) : Nat → Int32 → Int32 → fm_I → fm_L → Option (Int32 × fm_I × fm_L)
  | 0, _, _, _, _ => none
  | k + 1, v3, v4, μ, ν => if v4 = 0 then K v3 v4 μ ν else if (μ 58 21) ≤ (μ 58 20) then K v3 v4 μ ν else fm_g (fm_in ((((μ 58 19)) + ((μ 58 20)))) (fm_n 70)) (if ((ν 70 ((((μ 58 19)) + ((μ 58 20)))).toNatClampNeg)).toInt32 = (nI 59) then (m_X6_item  (fm_u μ 58 20 ((((μ 58 20)) + ((nI 1))))) ν).bind (fun r125 => m_X6_table_62 K k ((v3 + nI 1)) r125.1 r125.2.1 r125.2.2) else (m_X6_wrong ((μ 58 20)) μ ν).bind (fun r103 => m_X6_table_62 K k v3 r103.1 r103.2.1 r103.2.2))
def m_X6_table (v1 : Int32) (μ : fm_I) (ν : fm_L) : Option (Int32 × fm_I × fm_L) :=
  (m_X6_wanted v1 μ ν).bind (fun r2 => if r2 = 0 then (m_X6_all 74 ((nI 0)) μ ν).bind (fun r22 => fm_g (fm_in v1 (fm_n 68)) ((m_X6_item  (fm_u (fm_u (fm_u (fm_u r22.1 58 19 ((((nI 160)) * v1))) 58 20 ((nI 0))) 58 21 (((fm_u (fm_u r22.1 58 19 ((((nI 160)) * v1))) 58 20 ((nI 0))) 68 v1.toNatClampNeg))) 58 3 ((-1 : Int32))) r22.2).bind (fun r57 => m_X6_table_62  (fun x3_62 x4_62 μ62 ν62 => if x4_62 = 0 then (m_X6_all 74 ((nI 1)) μ62 ν62).bind (fun r146 => (m_X6_no ((-6 : Int32)) (fm_u r146.1 58 3 ((r146.1 58 23))) r146.2).bind (fun r160 => some ((r160.1, r160.2.1, r160.2.2)))) else some ((x3_62, μ62, ν62))) 5000 ((nI 1)) r57.1 r57.2.1 r57.2.2))) else (m_X6_no r2 μ ν).bind (fun r12 => some ((r12.1, r12.2.1, r12.2.2))))
theorem ok_X6_table : fm_okV yX6_table cX6_table 5 (some .int) 1 := ⟨m_cd_X6_table, m_im_X6_table, m_se_X6_X6_table, m_ini_X6, by decide +kernel, by decide +kernel, by decide +kernel⟩
set_option maxHeartbeats 4000000 in
set_option maxRecDepth 100000 in
theorem j_X6_table_62_ {X : fm_X} {G : fm_G} {l : Launch}  (C : fm_C X G l cX6_table RX6 5 (some .int) 4 79) {F : (Int32 × fm_I × fm_L) → State → Prop} (hF : F = fm_Qi X G)  {K : Int32 → Int32 → fm_I → fm_L → Option (Int32 × fm_I × fm_L)} (hK : ∀ (v3 : Int32) (v4 : Int32) (μ : fm_I) (ν : fm_L), fm_J X G 5 F (K v3 v4 μ ν) μ ν 133 [(0, .ref (G.2.2.1 58)), (3, .int v3), (4, .int v4)] []) : ∀ (k : Nat) (v3 : Int32) (v4 : Int32) (μ : fm_I) (ν : fm_L), fm_J X G 5 F (m_X6_table_62  K k v3 v4 μ ν) μ ν 62 [(0, .ref (G.2.2.1 58)), (3, .int v3), (4, .int v4)] [] := by
  intro k
  induction k with
  | zero =>
    intro v3 v4 μ ν
    exact fm_none
  | succ k ih =>
    intro v3 v4 μ ν
    rw [m_X6_table_62]
    refine fm_iload (pc := 62) C dX6_table_62 rfl ?_
    refine fm_if_eq (pc := 64) (tgt := 133) C dX6_table_64 (by decide) (fun c3 => ?_) (fun c3 => ?_)
    · refine fm_less (lv' := [(0, .ref (G.2.2.1 58)), (3, .int v3), (4, .int v4)]) (by repeat (first | exact trivial | refine ⟨rfl, ?_⟩)) ?_
      exact hK _ _ _ _
    · refine fm_aload_n (pc := 67) C dX6_table_67 rfl rfl ?_
      refine g6_at (pc := 68) C (by decide) dX6_table_68 m_fl_X6_120 ?_
      refine fm_aload_n (pc := 71) C dX6_table_71 rfl rfl ?_
      refine g6_end (pc := 72) C (by decide) dX6_table_72 m_fl_X6_123 ?_
      refine fm_icmp_ge (pc := 75) (tgt := 133) C dX6_table_75 (by decide) (fun c4 => ?_) (fun c4 => ?_)
      · refine fm_less (lv' := [(0, .ref (G.2.2.1 58)), (3, .int v3), (4, .int v4)]) (by repeat (first | exact trivial | refine ⟨rfl, ?_⟩)) ?_
        exact hK _ _ _ _
      · refine fm_aload_n (pc := 78) C dX6_table_78 rfl rfl ?_
        refine g6_cells (pc := 79) C (by decide) dX6_table_79 m_fl_X6_50 ?_
        refine fm_aload_n (pc := 82) C dX6_table_82 rfl rfl ?_
        refine g6_base (pc := 83) C (by decide) dX6_table_83 m_fl_X6_126 ?_
        refine fm_aload_n (pc := 86) C dX6_table_86 rfl rfl ?_
        refine g6_at (pc := 87) C (by decide) dX6_table_87 m_fl_X6_120 ?_
        refine fm_iadd (pc := 90) C dX6_table_90 ?_
        refine fm_guard (fun h5 => ?_)
        refine fm_lald (pc := 91) C (by decide) h5 dX6_table_91 ?_
        refine fm_l2i (pc := 92) C dX6_table_92 ?_
        refine fm_bipush (pc := 93) (v := (nI 59)) C dX6_table_93 (by decide) ?_
        refine fm_icmp_eq (pc := 95) (tgt := 111) C dX6_table_95 (by decide) (fun c6 => ?_) (fun c6 => ?_)
        · refine fm_aload_n (pc := 111) C dX6_table_111 rfl rfl ?_
          refine fm_dup (pc := 112) C dX6_table_112 rfl ?_
          refine g6_at (pc := 113) C (by decide) dX6_table_113 m_fl_X6_120 ?_
          refine fm_iconst (pc := 116) (v := (nI 1)) C dX6_table_116 (by decide) ?_
          refine fm_iadd (pc := 117) C dX6_table_117 ?_
          refine p6_at (pc := 118) C (by decide) dX6_table_118 m_fl_X6_120 ?_
          refine fm_iinc (pc := 121) C dX6_table_121 rfl (v := (v3 + nI 1)) rfl (by decide) rfl ?_
          refine fm_aload_n (pc := 124) C dX6_table_124 rfl rfl ?_
          refine fm_bind (fun r125 e125 => ?_)
          refine fm_cVi (pc := 125) C (t_X6_item e125) ok_X6_item ⟨by decide, rfl⟩ m_ml_X6_166 dX6_table_125 ⟨Nat.le_of_ble_eq_true rfl, Nat.le_of_ble_eq_true rfl⟩ rfl rfl (Nat.le_of_ble_eq_true rfl) ?_
          refine fm_istore (pc := 128) C dX6_table_128 (by decide) rfl ?_
          refine fm_goto (pc := 130) (tgt := 62) C dX6_table_130 (by decide) ?_
          refine fm_less (lv' := [(0, .ref (G.2.2.1 58)), (3, .int ((v3 + nI 1))), (4, .int r125.1)]) (by repeat (first | exact trivial | refine ⟨rfl, ?_⟩)) ?_
          exact ih _ _ _ _
        · refine fm_aload_n (pc := 98) C dX6_table_98 rfl rfl ?_
          refine fm_aload_n (pc := 99) C dX6_table_99 rfl rfl ?_
          refine g6_at (pc := 100) C (by decide) dX6_table_100 m_fl_X6_120 ?_
          refine fm_bind (fun r103 e103 => ?_)
          refine fm_cVi (pc := 103) C (t_X6_wrong e103) ok_X6_wrong ⟨by decide, rfl⟩ m_ml_X6_136 dX6_table_103 ⟨Nat.le_of_ble_eq_true rfl, Nat.le_of_ble_eq_true rfl⟩ rfl rfl (Nat.le_of_ble_eq_true rfl) ?_
          refine fm_istore (pc := 106) C dX6_table_106 (by decide) rfl ?_
          refine fm_goto (pc := 108) (tgt := 62) C dX6_table_108 (by decide) ?_
          refine fm_less (lv' := [(0, .ref (G.2.2.1 58)), (3, .int v3), (4, .int r103.1)]) (by repeat (first | exact trivial | refine ⟨rfl, ?_⟩)) ?_
          exact ih _ _ _ _
set_option maxHeartbeats 4000000 in
set_option maxRecDepth 100000 in
theorem j_X6_table {X : fm_X} {G : fm_G} {l : Launch} {v1 : Int32} {μ : fm_I} {ν : fm_L} (C : fm_C X G l cX6_table RX6 5 (some .int) 4 79) {F : (Int32 × fm_I × fm_L) → State → Prop} (hF : F = fm_Qi X G) : fm_J X G 5 F (m_X6_table v1 μ ν) μ ν 0 [(0, .ref (G.2.2.1 58)), (1, .int v1)] [] := by
  unfold m_X6_table
  refine fm_aload_n (pc := 0) C dX6_table_0 rfl rfl ?_
  refine fm_iload_n (pc := 1) C dX6_table_1 rfl rfl ?_
  refine fm_bind (fun r2 e2 => ?_)
  refine fm_cVi0 (pc := 2) C (t_X6_wanted e2) ok_X6_wanted ⟨by decide, rfl⟩ m_ml_X6_106 dX6_table_2 ⟨Nat.le_of_ble_eq_true rfl, Nat.le_of_ble_eq_true rfl⟩ rfl rfl (Nat.le_of_ble_eq_true rfl) ?_
  refine fm_istore_n (pc := 5) C dX6_table_5 rfl (by decide) rfl ?_
  refine fm_iload_n (pc := 6) C dX6_table_6 rfl rfl ?_
  refine fm_if_eq (pc := 7) (tgt := 16) C dX6_table_7 (by decide) (fun c1 => ?_) (fun c1 => ?_)
  · refine fm_aload_n (pc := 16) C dX6_table_16 rfl rfl ?_
    refine fm_aload_n (pc := 17) C dX6_table_17 rfl rfl ?_
    refine g6_was (pc := 18) C (by decide) dX6_table_18 m_fl_X6_63 ?_
    refine fm_iconst (pc := 21) (v := (nI 0)) C dX6_table_21 (by decide) ?_
    refine fm_bind (fun r22 e22 => ?_)
    refine fm_cVv (pc := 22) C (t_X6_all e22) ok_X6_all ⟨by decide, rfl⟩ m_ml_X6_162 dX6_table_22 ⟨Nat.le_of_ble_eq_true rfl, Nat.le_of_ble_eq_true rfl⟩ rfl rfl (Nat.le_of_ble_eq_true rfl) ?_
    refine fm_aload_n (pc := 25) C dX6_table_25 rfl rfl ?_
    refine fm_sipush (pc := 26) (v := (nI 160)) C dX6_table_26 (by decide) ?_
    refine fm_iload_n (pc := 29) C dX6_table_29 rfl rfl ?_
    refine fm_imul (pc := 30) C dX6_table_30 ?_
    refine p6_base (pc := 31) C (by decide) dX6_table_31 m_fl_X6_126 ?_
    refine fm_aload_n (pc := 34) C dX6_table_34 rfl rfl ?_
    refine fm_iconst (pc := 35) (v := (nI 0)) C dX6_table_35 (by decide) ?_
    refine p6_at (pc := 36) C (by decide) dX6_table_36 m_fl_X6_120 ?_
    refine fm_aload_n (pc := 39) C dX6_table_39 rfl rfl ?_
    refine fm_aload_n (pc := 40) C dX6_table_40 rfl rfl ?_
    refine g6_size (pc := 41) C (by decide) dX6_table_41 m_fl_X6_44 ?_
    refine fm_iload_n (pc := 44) C dX6_table_44 rfl rfl ?_
    refine fm_guard (fun h2 => ?_)
    refine fm_iald (pc := 45) C (by decide) h2 dX6_table_45 ?_
    refine p6_end (pc := 46) C (by decide) dX6_table_46 m_fl_X6_123 ?_
    refine fm_aload_n (pc := 49) C dX6_table_49 rfl rfl ?_
    refine fm_iconst (pc := 50) (v := (-1 : Int32)) C dX6_table_50 (by decide) ?_
    refine p6_fault (pc := 51) C (by decide) dX6_table_51 m_fl_X6_13 ?_
    refine fm_iconst (pc := 54) (v := (nI 1)) C dX6_table_54 (by decide) ?_
    refine fm_istore_n (pc := 55) C dX6_table_55 rfl (by decide) rfl ?_
    refine fm_aload_n (pc := 56) C dX6_table_56 rfl rfl ?_
    refine fm_bind (fun r57 e57 => ?_)
    refine fm_cVi (pc := 57) C (t_X6_item e57) ok_X6_item ⟨by decide, rfl⟩ m_ml_X6_166 dX6_table_57 ⟨Nat.le_of_ble_eq_true rfl, Nat.le_of_ble_eq_true rfl⟩ rfl rfl (Nat.le_of_ble_eq_true rfl) ?_
    refine fm_istore (pc := 60) C dX6_table_60 (by decide) rfl ?_
    refine fm_less (lv' := [(0, .ref (G.2.2.1 58)), (3, .int ((nI 1))), (4, .int r57.1)]) (by repeat (first | exact trivial | refine ⟨rfl, ?_⟩)) ?_
    refine j_X6_table_62_ C  hF  (fun x3_62 x4_62 μ62 ν62 => ?_) _ _ _ _ _
    refine fm_iload (pc := 133) C dX6_table_133 rfl ?_
    refine fm_if_eq (pc := 135) (tgt := 140) C dX6_table_135 (by decide) (fun c7 => ?_) (fun c7 => ?_)
    · refine fm_aload_n (pc := 140) C dX6_table_140 rfl rfl ?_
      refine fm_aload_n (pc := 141) C dX6_table_141 rfl rfl ?_
      refine g6_was (pc := 142) C (by decide) dX6_table_142 m_fl_X6_63 ?_
      refine fm_iconst (pc := 145) (v := (nI 1)) C dX6_table_145 (by decide) ?_
      refine fm_bind (fun r146 e146 => ?_)
      refine fm_cVv (pc := 146) C (t_X6_all e146) ok_X6_all ⟨by decide, rfl⟩ m_ml_X6_162 dX6_table_146 ⟨Nat.le_of_ble_eq_true rfl, Nat.le_of_ble_eq_true rfl⟩ rfl rfl (Nat.le_of_ble_eq_true rfl) ?_
      refine fm_aload_n (pc := 149) C dX6_table_149 rfl rfl ?_
      refine fm_aload_n (pc := 150) C dX6_table_150 rfl rfl ?_
      refine g6_wrongAt (pc := 151) C (by decide) dX6_table_151 m_fl_X6_117 ?_
      refine p6_fault (pc := 154) C (by decide) dX6_table_154 m_fl_X6_13 ?_
      refine fm_aload_n (pc := 157) C dX6_table_157 rfl rfl ?_
      refine fm_bipush (pc := 158) (v := (-6 : Int32)) C dX6_table_158 (by decide) ?_
      refine fm_bind (fun r160 e160 => ?_)
      refine fm_cVi (pc := 160) C (t_X6_no e160) ok_X6_no ⟨by decide, rfl⟩ m_ml_X6_95 dX6_table_160 ⟨Nat.le_of_ble_eq_true rfl, Nat.le_of_ble_eq_true rfl⟩ rfl rfl (Nat.le_of_ble_eq_true rfl) ?_
      exact fm_zret (pc := 163) C hF rfl rfl dX6_table_163
    · refine fm_iload_n (pc := 138) C dX6_table_138 rfl rfl ?_
      exact fm_zret (pc := 139) C hF rfl rfl dX6_table_139
  · refine fm_aload_n (pc := 10) C dX6_table_10 rfl rfl ?_
    refine fm_iload_n (pc := 11) C dX6_table_11 rfl rfl ?_
    refine fm_bind (fun r12 e12 => ?_)
    refine fm_cVi (pc := 12) C (t_X6_no e12) ok_X6_no ⟨by decide, rfl⟩ m_ml_X6_95 dX6_table_12 ⟨Nat.le_of_ble_eq_true rfl, Nat.le_of_ble_eq_true rfl⟩ rfl rfl (Nat.le_of_ble_eq_true rfl) ?_
    exact fm_zret (pc := 15) C hF rfl rfl dX6_table_15
theorem t_X6_table {l : Launch} {G : fm_G} {v1 : Int32} {μ : fm_I} {ν : fm_L} {r : Int32 × fm_I × fm_L} (h : m_X6_table v1 μ ν = some r) : fm_Mi l G yX6_table cX6_table 5 (some .int) 4 79 [.ref (G.2.2.1 58), .int v1] μ ν r := fm_Mi_of (by decide +kernel) (Nat.le_of_ble_eq_true rfl) (fun _ C => j_X6_table C rfl r h)
theorem dX6_fault_0 : decode cX6_fault 0 = .ok (.aload_n 0, 1) := by decide +kernel
theorem dX6_fault_1 : decode cX6_fault 1 = .ok (.getfield 13, 3) := by decide +kernel
theorem dX6_fault_4 : decode cX6_fault 4 = .ok (.ireturn, 1) := by decide +kernel
def m_X6_fault  (μ : fm_I) (ν : fm_L) : Option (Int32) :=
  some ((μ 58 3))
theorem ok_X6_fault : fm_okV yX6_fault cX6_fault 1 (some .int) 0 := ⟨m_cd_X6_fault, m_im_X6_fault, m_se_X6_X6_fault, m_ini_X6, by decide +kernel, by decide +kernel, by decide +kernel⟩
set_option maxHeartbeats 4000000 in
set_option maxRecDepth 100000 in
theorem j_X6_fault {X : fm_X} {G : fm_G} {l : Launch}  {μ : fm_I} {ν : fm_L} (C : fm_C X G l cX6_fault RX6 1 (some .int) 1 12) {F : Int32 → State → Prop} (hF : F = fun r => fm_Qi X G (r, μ, ν)) : fm_J X G 1 F (m_X6_fault  μ ν) μ ν 0 [(0, .ref (G.2.2.1 58))] [] := by
  unfold m_X6_fault
  refine fm_aload_n (pc := 0) C dX6_fault_0 rfl rfl ?_
  refine g6_fault (pc := 1) C (by decide) dX6_fault_1 m_fl_X6_13 ?_
  exact fm_zret0 (pc := 4) C hF rfl rfl dX6_fault_4
theorem t_X6_fault {l : Launch} {G : fm_G}  {μ : fm_I} {ν : fm_L} {r : Int32} (h : m_X6_fault  μ ν = some r) : fm_Mi l G yX6_fault cX6_fault 1 (some .int) 1 12 [.ref (G.2.2.1 58)] μ ν (r, μ, ν) := fm_Mi_of (by decide +kernel) (Nat.le_of_ble_eq_true rfl) (fun _ C => j_X6_fault C rfl r h)
theorem dX6_cuts_0 : decode cX6_cuts 0 = .ok (.aload_n 0, 1) := by decide +kernel
theorem dX6_cuts_1 : decode cX6_cuts 1 = .ok (.iconst 0, 1) := by decide +kernel
theorem dX6_cuts_2 : decode cX6_cuts 2 = .ok (.putfield 172, 3) := by decide +kernel
theorem dX6_cuts_5 : decode cX6_cuts 5 = .ok (.iconst 0, 1) := by decide +kernel
theorem dX6_cuts_6 : decode cX6_cuts 6 = .ok (.istore_n 2, 1) := by decide +kernel
theorem dX6_cuts_7 : decode cX6_cuts 7 = .ok (.iload_n 2, 1) := by decide +kernel
theorem dX6_cuts_8 : decode cX6_cuts 8 = .ok (.aload_n 0, 1) := by decide +kernel
theorem dX6_cuts_9 : decode cX6_cuts 9 = .ok (.getfield 26, 3) := by decide +kernel
theorem dX6_cuts_12 : decode cX6_cuts 12 = .ok (.iload_n 1, 1) := by decide +kernel
theorem dX6_cuts_13 : decode cX6_cuts 13 = .ok (.iaload, 1) := by decide +kernel
theorem dX6_cuts_14 : decode cX6_cuts 14 = .ok (.if_icmp .ge 16, 3) := by decide +kernel
theorem dX6_cuts_17 : decode cX6_cuts 17 = .ok (.aload_n 0, 1) := by decide +kernel
theorem dX6_cuts_18 : decode cX6_cuts 18 = .ok (.getfield 69, 3) := by decide +kernel
theorem dX6_cuts_21 : decode cX6_cuts 21 = .ok (.iload_n 2, 1) := by decide +kernel
theorem dX6_cuts_22 : decode cX6_cuts 22 = .ok (.iconst (-1), 1) := by decide +kernel
theorem dX6_cuts_23 : decode cX6_cuts 23 = .ok (.iastore, 1) := by decide +kernel
theorem dX6_cuts_24 : decode cX6_cuts 24 = .ok (.iinc 2 1, 3) := by decide +kernel
theorem dX6_cuts_27 : decode cX6_cuts 27 = .ok (.goto (-20), 3) := by decide +kernel
theorem dX6_cuts_30 : decode cX6_cuts 30 = .ok (.iconst 0, 1) := by decide +kernel
theorem dX6_cuts_31 : decode cX6_cuts 31 = .ok (.istore_n 2, 1) := by decide +kernel
theorem dX6_cuts_32 : decode cX6_cuts 32 = .ok (.iload_n 2, 1) := by decide +kernel
theorem dX6_cuts_33 : decode cX6_cuts 33 = .ok (.aload_n 0, 1) := by decide +kernel
theorem dX6_cuts_34 : decode cX6_cuts 34 = .ok (.getfield 26, 3) := by decide +kernel
theorem dX6_cuts_37 : decode cX6_cuts 37 = .ok (.iload_n 1, 1) := by decide +kernel
theorem dX6_cuts_38 : decode cX6_cuts 38 = .ok (.iaload, 1) := by decide +kernel
theorem dX6_cuts_39 : decode cX6_cuts 39 = .ok (.if_icmp .ge 84, 3) := by decide +kernel
theorem dX6_cuts_42 : decode cX6_cuts 42 = .ok (.aload_n 0, 1) := by decide +kernel
theorem dX6_cuts_43 : decode cX6_cuts 43 = .ok (.getfield 69, 3) := by decide +kernel
theorem dX6_cuts_46 : decode cX6_cuts 46 = .ok (.iload_n 2, 1) := by decide +kernel
theorem dX6_cuts_47 : decode cX6_cuts 47 = .ok (.iaload, 1) := by decide +kernel
theorem dX6_cuts_48 : decode cX6_cuts 48 = .ok (.iconst (-1), 1) := by decide +kernel
theorem dX6_cuts_49 : decode cX6_cuts 49 = .ok (.if_icmp .eq 6, 3) := by decide +kernel
theorem dX6_cuts_52 : decode cX6_cuts 52 = .ok (.goto 65, 3) := by decide +kernel
theorem dX6_cuts_55 : decode cX6_cuts 55 = .ok (.iconst 0, 1) := by decide +kernel
theorem dX6_cuts_56 : decode cX6_cuts 56 = .ok (.istore_n 3, 1) := by decide +kernel
theorem dX6_cuts_57 : decode cX6_cuts 57 = .ok (.iload_n 2, 1) := by decide +kernel
theorem dX6_cuts_58 : decode cX6_cuts 58 = .ok (.istore 4, 2) := by decide +kernel
theorem dX6_cuts_60 : decode cX6_cuts 60 = .ok (.aload_n 0, 1) := by decide +kernel
theorem dX6_cuts_61 : decode cX6_cuts 61 = .ok (.getfield 69, 3) := by decide +kernel
theorem dX6_cuts_64 : decode cX6_cuts 64 = .ok (.iload 4, 2) := by decide +kernel
theorem dX6_cuts_66 : decode cX6_cuts 66 = .ok (.iaload, 1) := by decide +kernel
theorem dX6_cuts_67 : decode cX6_cuts 67 = .ok (.iconst (-1), 1) := by decide +kernel
theorem dX6_cuts_68 : decode cX6_cuts 68 = .ok (.if_icmp .ne 29, 3) := by decide +kernel
theorem dX6_cuts_71 : decode cX6_cuts 71 = .ok (.aload_n 0, 1) := by decide +kernel
theorem dX6_cuts_72 : decode cX6_cuts 72 = .ok (.getfield 69, 3) := by decide +kernel
theorem dX6_cuts_75 : decode cX6_cuts 75 = .ok (.iload 4, 2) := by decide +kernel
theorem dX6_cuts_77 : decode cX6_cuts 77 = .ok (.aload_n 0, 1) := by decide +kernel
theorem dX6_cuts_78 : decode cX6_cuts 78 = .ok (.getfield 172, 3) := by decide +kernel
theorem dX6_cuts_81 : decode cX6_cuts 81 = .ok (.iastore, 1) := by decide +kernel
theorem dX6_cuts_82 : decode cX6_cuts 82 = .ok (.iinc 3 1, 3) := by decide +kernel
theorem dX6_cuts_85 : decode cX6_cuts 85 = .ok (.aload_n 0, 1) := by decide +kernel
theorem dX6_cuts_86 : decode cX6_cuts 86 = .ok (.iload_n 1, 1) := by decide +kernel
theorem dX6_cuts_87 : decode cX6_cuts 87 = .ok (.iload 4, 2) := by decide +kernel
theorem dX6_cuts_89 : decode cX6_cuts 89 = .ok (.invokevirtual 99, 3) := by decide +kernel
theorem dX6_cuts_92 : decode cX6_cuts 92 = .ok (.istore 4, 2) := by decide +kernel
theorem dX6_cuts_94 : decode cX6_cuts 94 = .ok (.goto (-34), 3) := by decide +kernel
theorem dX6_cuts_97 : decode cX6_cuts 97 = .ok (.aload_n 0, 1) := by decide +kernel
theorem dX6_cuts_98 : decode cX6_cuts 98 = .ok (.getfield 72, 3) := by decide +kernel
theorem dX6_cuts_101 : decode cX6_cuts 101 = .ok (.aload_n 0, 1) := by decide +kernel
theorem dX6_cuts_102 : decode cX6_cuts 102 = .ok (.getfield 172, 3) := by decide +kernel
theorem dX6_cuts_105 : decode cX6_cuts 105 = .ok (.iload_n 3, 1) := by decide +kernel
theorem dX6_cuts_106 : decode cX6_cuts 106 = .ok (.iastore, 1) := by decide +kernel
theorem dX6_cuts_107 : decode cX6_cuts 107 = .ok (.aload_n 0, 1) := by decide +kernel
theorem dX6_cuts_108 : decode cX6_cuts 108 = .ok (.dup, 1) := by decide +kernel
theorem dX6_cuts_109 : decode cX6_cuts 109 = .ok (.getfield 172, 3) := by decide +kernel
theorem dX6_cuts_112 : decode cX6_cuts 112 = .ok (.iconst 1, 1) := by decide +kernel
theorem dX6_cuts_113 : decode cX6_cuts 113 = .ok (.iadd, 1) := by decide +kernel
theorem dX6_cuts_114 : decode cX6_cuts 114 = .ok (.putfield 172, 3) := by decide +kernel
theorem dX6_cuts_117 : decode cX6_cuts 117 = .ok (.iinc 2 1, 3) := by decide +kernel
theorem dX6_cuts_120 : decode cX6_cuts 120 = .ok (.goto (-88), 3) := by decide +kernel
theorem dX6_cuts_123 : decode cX6_cuts 123 = .ok (.return_, 1) := by decide +kernel
def m_X6_cuts_7 (v1 : Int32) (K : fm_I → fm_L → Option (fm_I × fm_L)) : Nat → Int32 → fm_I → fm_L → Option (fm_I × fm_L)
  | 0, _, _, _ => none
  | k + 1, v2, μ, ν => fm_g (fm_in v1 (fm_n 62)) (if (μ 62 v1.toNatClampNeg) ≤ v2 then K  μ ν else fm_g (fm_in v2 (fm_n 76)) (m_X6_cuts_7 v1 K k ((v2 + nI 1)) (fm_u μ 76 v2.toNatClampNeg ((-1 : Int32))) ν))
def m_X6_cuts_60 (v1 : Int32) (v2 : Int32) (K : Int32 → fm_I → fm_L → Option (fm_I × fm_L)) : Nat → Int32 → Int32 → fm_I → fm_L → Option (fm_I × fm_L)
  | 0, _, _, _, _ => none
  | k + 1, v3, v4, μ, ν => fm_g (fm_in v4 (fm_n 76)) (if (μ 76 v4.toNatClampNeg) = (-1 : Int32) then (m_X6_onOf v1 v4 (fm_u μ 76 v4.toNatClampNeg ((μ 58 28))) ν).bind (fun r89 => m_X6_cuts_60 v1 v2 K k ((v3 + nI 1)) r89 (fm_u μ 76 v4.toNatClampNeg ((μ 58 28))) ν) else K v3 μ ν)
def m_X6_cuts_32 (v1 : Int32) (K : fm_I → fm_L → Option (fm_I × fm_L)) : Nat → Int32 → fm_I → fm_L → Option (fm_I × fm_L)
  | 0, _, _, _ => none
  | k + 1, v2, μ, ν => fm_g (fm_in v1 (fm_n 62)) (if (μ 62 v1.toNatClampNeg) ≤ v2 then K  μ ν else fm_g (fm_in v2 (fm_n 76)) (if (μ 76 v2.toNatClampNeg) = (-1 : Int32) then m_X6_cuts_60 v1 v2  (fun x3_60 μ60 ν60 => fm_g (fm_in ((μ60 58 28)) (fm_n 77)) (m_X6_cuts_32 v1 K k ((v2 + nI 1)) (fm_u (fm_u μ60 77 ((μ60 58 28)).toNatClampNeg x3_60) 58 28 ((((((fm_u μ60 77 ((μ60 58 28)).toNatClampNeg x3_60)) 58 28)) + ((nI 1))))) ν60)) 5000 ((nI 0)) v2 μ ν else m_X6_cuts_32 v1 K k ((v2 + nI 1)) μ ν))
def m_X6_cuts (v1 : Int32) (μ : fm_I) (ν : fm_L) : Option (fm_I × fm_L) :=
  m_X6_cuts_7 v1  (fun μ7 ν7 => m_X6_cuts_32 v1  (fun μ32 ν32 => some ((μ32, ν32))) 5000 ((nI 0)) μ7 ν7) 5000 ((nI 0)) (fm_u μ 58 28 ((nI 0))) ν
theorem ok_X6_cuts : fm_okV yX6_cuts cX6_cuts 5 (none : Option Jvm.ClassFile.FieldType) 1 := ⟨m_cd_X6_cuts, m_im_X6_cuts, m_se_X6_X6_cuts, m_ini_X6, by decide +kernel, by decide +kernel, by decide +kernel⟩
set_option maxHeartbeats 4000000 in
set_option maxRecDepth 100000 in
theorem j_X6_cuts_7_ {X : fm_X} {G : fm_G} {l : Launch} {v1 : Int32} (C : fm_C X G l cX6_cuts RX6 5 (none : Option Jvm.ClassFile.FieldType) 3 58) {F : (fm_I × fm_L) → State → Prop} (hF : F = fm_Qv X G)  {K : fm_I → fm_L → Option (fm_I × fm_L)} (hK : ∀  (μ : fm_I) (ν : fm_L), fm_J X G 5 F (K μ ν) μ ν 30 [(0, .ref (G.2.2.1 58)), (1, .int v1)] []) : ∀ (k : Nat) (v2 : Int32) (μ : fm_I) (ν : fm_L), fm_J X G 5 F (m_X6_cuts_7 v1 K k v2 μ ν) μ ν 7 [(0, .ref (G.2.2.1 58)), (1, .int v1), (2, .int v2)] [] := by
  intro k
  induction k with
  | zero =>
    intro v2 μ ν
    exact fm_none
  | succ k ih =>
    intro v2 μ ν
    rw [m_X6_cuts_7]
    refine fm_iload_n (pc := 7) C dX6_cuts_7 rfl rfl ?_
    refine fm_aload_n (pc := 8) C dX6_cuts_8 rfl rfl ?_
    refine g6_strips (pc := 9) C (by decide) dX6_cuts_9 m_fl_X6_26 ?_
    refine fm_iload_n (pc := 12) C dX6_cuts_12 rfl rfl ?_
    refine fm_guard (fun h1 => ?_)
    refine fm_iald (pc := 13) C (by decide) h1 dX6_cuts_13 ?_
    refine fm_icmp_ge (pc := 14) (tgt := 30) C dX6_cuts_14 (by decide) (fun c2 => ?_) (fun c2 => ?_)
    · refine fm_less (lv' := [(0, .ref (G.2.2.1 58)), (1, .int v1)]) (by repeat (first | exact trivial | refine ⟨rfl, ?_⟩)) ?_
      exact hK  _ _
    · refine fm_aload_n (pc := 17) C dX6_cuts_17 rfl rfl ?_
      refine g6_piece (pc := 18) C (by decide) dX6_cuts_18 m_fl_X6_69 ?_
      refine fm_iload_n (pc := 21) C dX6_cuts_21 rfl rfl ?_
      refine fm_iconst (pc := 22) (v := (-1 : Int32)) C dX6_cuts_22 (by decide) ?_
      refine fm_guard (fun h3 => ?_)
      refine fm_iast (pc := 23) C (by decide) h3 dX6_cuts_23 ?_
      refine fm_iinc (pc := 24) C dX6_cuts_24 rfl (v := (v2 + nI 1)) rfl (by decide) rfl ?_
      refine fm_goto (pc := 27) (tgt := 7) C dX6_cuts_27 (by decide) ?_
      refine fm_less (lv' := [(0, .ref (G.2.2.1 58)), (1, .int v1), (2, .int ((v2 + nI 1)))]) (by repeat (first | exact trivial | refine ⟨rfl, ?_⟩)) ?_
      exact ih _ _ _
set_option maxHeartbeats 4000000 in
set_option maxRecDepth 100000 in
theorem j_X6_cuts_60_ {X : fm_X} {G : fm_G} {l : Launch} {v1 : Int32} {v2 : Int32} (C : fm_C X G l cX6_cuts RX6 5 (none : Option Jvm.ClassFile.FieldType) 3 58) {F : (fm_I × fm_L) → State → Prop} (hF : F = fm_Qv X G)  {K : Int32 → fm_I → fm_L → Option (fm_I × fm_L)} (hK : ∀ (v3 : Int32) (μ : fm_I) (ν : fm_L), fm_J X G 5 F (K v3 μ ν) μ ν 97 [(0, .ref (G.2.2.1 58)), (1, .int v1), (2, .int v2), (3, .int v3)] []) : ∀ (k : Nat) (v3 : Int32) (v4 : Int32) (μ : fm_I) (ν : fm_L), fm_J X G 5 F (m_X6_cuts_60 v1 v2 K k v3 v4 μ ν) μ ν 60 [(0, .ref (G.2.2.1 58)), (1, .int v1), (2, .int v2), (3, .int v3), (4, .int v4)] [] := by
  intro k
  induction k with
  | zero =>
    intro v3 v4 μ ν
    exact fm_none
  | succ k ih =>
    intro v3 v4 μ ν
    rw [m_X6_cuts_60]
    refine fm_aload_n (pc := 60) C dX6_cuts_60 rfl rfl ?_
    refine g6_piece (pc := 61) C (by decide) dX6_cuts_61 m_fl_X6_69 ?_
    refine fm_iload (pc := 64) C dX6_cuts_64 rfl ?_
    refine fm_guard (fun h8 => ?_)
    refine fm_iald (pc := 66) C (by decide) h8 dX6_cuts_66 ?_
    refine fm_iconst (pc := 67) (v := (-1 : Int32)) C dX6_cuts_67 (by decide) ?_
    refine fm_icmp_ne (pc := 68) (tgt := 97) C dX6_cuts_68 (by decide) (fun c9 => ?_) (fun c9 => ?_)
    · refine fm_aload_n (pc := 71) C dX6_cuts_71 rfl rfl ?_
      refine g6_piece (pc := 72) C (by decide) dX6_cuts_72 m_fl_X6_69 ?_
      refine fm_iload (pc := 75) C dX6_cuts_75 rfl ?_
      refine fm_aload_n (pc := 77) C dX6_cuts_77 rfl rfl ?_
      refine g6_pieces (pc := 78) C (by decide) dX6_cuts_78 m_fl_X6_172 ?_
      refine fm_iast (pc := 81) C (by decide) h8 dX6_cuts_81 ?_
      refine fm_iinc (pc := 82) C dX6_cuts_82 rfl (v := (v3 + nI 1)) rfl (by decide) rfl ?_
      refine fm_aload_n (pc := 85) C dX6_cuts_85 rfl rfl ?_
      refine fm_iload_n (pc := 86) C dX6_cuts_86 rfl rfl ?_
      refine fm_iload (pc := 87) C dX6_cuts_87 rfl ?_
      refine fm_bind (fun r89 e89 => ?_)
      refine fm_cVi0 (pc := 89) C (t_X6_onOf e89) ok_X6_onOf ⟨by decide, rfl⟩ m_ml_X6_99 dX6_cuts_89 ⟨Nat.le_of_ble_eq_true rfl, Nat.le_of_ble_eq_true rfl⟩ rfl rfl (Nat.le_of_ble_eq_true rfl) ?_
      refine fm_istore (pc := 92) C dX6_cuts_92 (by decide) rfl ?_
      refine fm_goto (pc := 94) (tgt := 60) C dX6_cuts_94 (by decide) ?_
      refine fm_less (lv' := [(0, .ref (G.2.2.1 58)), (1, .int v1), (2, .int v2), (3, .int ((v3 + nI 1))), (4, .int r89)]) (by repeat (first | exact trivial | refine ⟨rfl, ?_⟩)) ?_
      exact ih _ _ _ _
    · refine fm_less (lv' := [(0, .ref (G.2.2.1 58)), (1, .int v1), (2, .int v2), (3, .int v3)]) (by repeat (first | exact trivial | refine ⟨rfl, ?_⟩)) ?_
      exact hK _ _ _
set_option maxHeartbeats 4000000 in
set_option maxRecDepth 100000 in
theorem j_X6_cuts_32_ {X : fm_X} {G : fm_G} {l : Launch} {v1 : Int32} (C : fm_C X G l cX6_cuts RX6 5 (none : Option Jvm.ClassFile.FieldType) 3 58) {F : (fm_I × fm_L) → State → Prop} (hF : F = fm_Qv X G)  {K : fm_I → fm_L → Option (fm_I × fm_L)} (hK : ∀  (μ : fm_I) (ν : fm_L), fm_J X G 5 F (K μ ν) μ ν 123 [] []) : ∀ (k : Nat) (v2 : Int32) (μ : fm_I) (ν : fm_L), fm_J X G 5 F (m_X6_cuts_32 v1 K k v2 μ ν) μ ν 32 [(0, .ref (G.2.2.1 58)), (1, .int v1), (2, .int v2)] [] := by
  intro k
  induction k with
  | zero =>
    intro v2 μ ν
    exact fm_none
  | succ k ih =>
    intro v2 μ ν
    rw [m_X6_cuts_32]
    refine fm_iload_n (pc := 32) C dX6_cuts_32 rfl rfl ?_
    refine fm_aload_n (pc := 33) C dX6_cuts_33 rfl rfl ?_
    refine g6_strips (pc := 34) C (by decide) dX6_cuts_34 m_fl_X6_26 ?_
    refine fm_iload_n (pc := 37) C dX6_cuts_37 rfl rfl ?_
    refine fm_guard (fun h4 => ?_)
    refine fm_iald (pc := 38) C (by decide) h4 dX6_cuts_38 ?_
    refine fm_icmp_ge (pc := 39) (tgt := 123) C dX6_cuts_39 (by decide) (fun c5 => ?_) (fun c5 => ?_)
    · refine fm_less (lv' := []) (by repeat (first | exact trivial | refine ⟨rfl, ?_⟩)) ?_
      exact hK  _ _
    · refine fm_aload_n (pc := 42) C dX6_cuts_42 rfl rfl ?_
      refine g6_piece (pc := 43) C (by decide) dX6_cuts_43 m_fl_X6_69 ?_
      refine fm_iload_n (pc := 46) C dX6_cuts_46 rfl rfl ?_
      refine fm_guard (fun h6 => ?_)
      refine fm_iald (pc := 47) C (by decide) h6 dX6_cuts_47 ?_
      refine fm_iconst (pc := 48) (v := (-1 : Int32)) C dX6_cuts_48 (by decide) ?_
      refine fm_icmp_eq (pc := 49) (tgt := 55) C dX6_cuts_49 (by decide) (fun c7 => ?_) (fun c7 => ?_)
      · refine fm_iconst (pc := 55) (v := (nI 0)) C dX6_cuts_55 (by decide) ?_
        refine fm_istore_n (pc := 56) C dX6_cuts_56 rfl (by decide) rfl ?_
        refine fm_iload_n (pc := 57) C dX6_cuts_57 rfl rfl ?_
        refine fm_istore (pc := 58) C dX6_cuts_58 (by decide) rfl ?_
        refine fm_less (lv' := [(0, .ref (G.2.2.1 58)), (1, .int v1), (2, .int v2), (3, .int ((nI 0))), (4, .int v2)]) (by repeat (first | exact trivial | refine ⟨rfl, ?_⟩)) ?_
        refine j_X6_cuts_60_ C (v1 := v1) (v2 := v2) hF  (fun x3_60 μ60 ν60 => ?_) _ _ _ _ _
        refine fm_aload_n (pc := 97) C dX6_cuts_97 rfl rfl ?_
        refine g6_many (pc := 98) C (by decide) dX6_cuts_98 m_fl_X6_72 ?_
        refine fm_aload_n (pc := 101) C dX6_cuts_101 rfl rfl ?_
        refine g6_pieces (pc := 102) C (by decide) dX6_cuts_102 m_fl_X6_172 ?_
        refine fm_iload_n (pc := 105) C dX6_cuts_105 rfl rfl ?_
        refine fm_guard (fun h10 => ?_)
        refine fm_iast (pc := 106) C (by decide) h10 dX6_cuts_106 ?_
        refine fm_aload_n (pc := 107) C dX6_cuts_107 rfl rfl ?_
        refine fm_dup (pc := 108) C dX6_cuts_108 rfl ?_
        refine g6_pieces (pc := 109) C (by decide) dX6_cuts_109 m_fl_X6_172 ?_
        refine fm_iconst (pc := 112) (v := (nI 1)) C dX6_cuts_112 (by decide) ?_
        refine fm_iadd (pc := 113) C dX6_cuts_113 ?_
        refine p6_pieces (pc := 114) C (by decide) dX6_cuts_114 m_fl_X6_172 ?_
        refine fm_iinc (pc := 117) C dX6_cuts_117 rfl (v := (v2 + nI 1)) rfl (by decide) rfl ?_
        refine fm_goto (pc := 120) (tgt := 32) C dX6_cuts_120 (by decide) ?_
        refine fm_less (lv' := [(0, .ref (G.2.2.1 58)), (1, .int v1), (2, .int ((v2 + nI 1)))]) (by repeat (first | exact trivial | refine ⟨rfl, ?_⟩)) ?_
        exact ih _ _ _
      · refine fm_goto (pc := 52) (tgt := 117) C dX6_cuts_52 (by decide) ?_
        refine fm_iinc (pc := 117) C dX6_cuts_117 rfl (v := (v2 + nI 1)) rfl (by decide) rfl ?_
        refine fm_goto (pc := 120) (tgt := 32) C dX6_cuts_120 (by decide) ?_
        refine fm_less (lv' := [(0, .ref (G.2.2.1 58)), (1, .int v1), (2, .int ((v2 + nI 1)))]) (by repeat (first | exact trivial | refine ⟨rfl, ?_⟩)) ?_
        exact ih _ _ _
set_option maxHeartbeats 4000000 in
set_option maxRecDepth 100000 in
theorem j_X6_cuts {X : fm_X} {G : fm_G} {l : Launch} {v1 : Int32} {μ : fm_I} {ν : fm_L} (C : fm_C X G l cX6_cuts RX6 5 (none : Option Jvm.ClassFile.FieldType) 3 58) {F : (fm_I × fm_L) → State → Prop} (hF : F = fm_Qv X G) : fm_J X G 5 F (m_X6_cuts v1 μ ν) μ ν 0 [(0, .ref (G.2.2.1 58)), (1, .int v1)] [] := by
  unfold m_X6_cuts
  refine fm_aload_n (pc := 0) C dX6_cuts_0 rfl rfl ?_
  refine fm_iconst (pc := 1) (v := (nI 0)) C dX6_cuts_1 (by decide) ?_
  refine p6_pieces (pc := 2) C (by decide) dX6_cuts_2 m_fl_X6_172 ?_
  refine fm_iconst (pc := 5) (v := (nI 0)) C dX6_cuts_5 (by decide) ?_
  refine fm_istore_n (pc := 6) C dX6_cuts_6 rfl (by decide) rfl ?_
  refine fm_less (lv' := [(0, .ref (G.2.2.1 58)), (1, .int v1), (2, .int ((nI 0)))]) (by repeat (first | exact trivial | refine ⟨rfl, ?_⟩)) ?_
  refine j_X6_cuts_7_ C (v1 := v1) hF  (fun μ7 ν7 => ?_) _ _ _ _
  refine fm_iconst (pc := 30) (v := (nI 0)) C dX6_cuts_30 (by decide) ?_
  refine fm_istore_n (pc := 31) C dX6_cuts_31 rfl (by decide) rfl ?_
  refine fm_less (lv' := [(0, .ref (G.2.2.1 58)), (1, .int v1), (2, .int ((nI 0)))]) (by repeat (first | exact trivial | refine ⟨rfl, ?_⟩)) ?_
  refine j_X6_cuts_32_ C (v1 := v1) hF  (fun μ32 ν32 => ?_) _ _ _ _
  exact fm_vret (pc := 123) C hF rfl dX6_cuts_123
theorem t_X6_cuts {l : Launch} {G : fm_G} {v1 : Int32} {μ : fm_I} {ν : fm_L} {r : fm_I × fm_L} (h : m_X6_cuts v1 μ ν = some r) : fm_Mv l G yX6_cuts cX6_cuts 5 (none : Option Jvm.ClassFile.FieldType) 3 58 [.ref (G.2.2.1 58), .int v1] μ ν r := fm_Mv_of (by decide +kernel) (Nat.le_of_ble_eq_true rfl) (fun _ C => j_X6_cuts C rfl r h)
theorem dX6_turnsOf_0 : decode cX6_turnsOf 0 = .ok (.aload_n 0, 1) := by decide +kernel
theorem dX6_turnsOf_1 : decode cX6_turnsOf 1 = .ok (.getfield 23, 3) := by decide +kernel
theorem dX6_turnsOf_4 : decode cX6_turnsOf 4 = .ok (.iload_n 1, 1) := by decide +kernel
theorem dX6_turnsOf_5 : decode cX6_turnsOf 5 = .ok (.iaload, 1) := by decide +kernel
theorem dX6_turnsOf_6 : decode cX6_turnsOf 6 = .ok (.aload_n 0, 1) := by decide +kernel
theorem dX6_turnsOf_7 : decode cX6_turnsOf 7 = .ok (.getfield 72, 3) := by decide +kernel
theorem dX6_turnsOf_10 : decode cX6_turnsOf 10 = .ok (.iload_n 2, 1) := by decide +kernel
theorem dX6_turnsOf_11 : decode cX6_turnsOf 11 = .ok (.iaload, 1) := by decide +kernel
theorem dX6_turnsOf_12 : decode cX6_turnsOf 12 = .ok (.imul, 1) := by decide +kernel
theorem dX6_turnsOf_13 : decode cX6_turnsOf 13 = .ok (.iconst 2, 1) := by decide +kernel
theorem dX6_turnsOf_14 : decode cX6_turnsOf 14 = .ok (.aload_n 0, 1) := by decide +kernel
theorem dX6_turnsOf_15 : decode cX6_turnsOf 15 = .ok (.getfield 72, 3) := by decide +kernel
theorem dX6_turnsOf_18 : decode cX6_turnsOf 18 = .ok (.iload_n 2, 1) := by decide +kernel
theorem dX6_turnsOf_19 : decode cX6_turnsOf 19 = .ok (.iaload, 1) := by decide +kernel
theorem dX6_turnsOf_20 : decode cX6_turnsOf 20 = .ok (.iconst 1, 1) := by decide +kernel
theorem dX6_turnsOf_21 : decode cX6_turnsOf 21 = .ok (.isub, 1) := by decide +kernel
theorem dX6_turnsOf_22 : decode cX6_turnsOf 22 = .ok (.imul, 1) := by decide +kernel
theorem dX6_turnsOf_23 : decode cX6_turnsOf 23 = .ok (.iadd, 1) := by decide +kernel
theorem dX6_turnsOf_24 : decode cX6_turnsOf 24 = .ok (.ireturn, 1) := by decide +kernel
def m_X6_turnsOf (v1 : Int32) (v2 : Int32) (μ : fm_I) (ν : fm_L) : Option (Int32) :=
  fm_g (fm_in v1 (fm_n 61)) (fm_g (fm_in v2 (fm_n 77)) (some ((((((μ 61 v1.toNatClampNeg)) * ((μ 77 v2.toNatClampNeg)))) + ((((nI 2)) * ((((μ 77 v2.toNatClampNeg)) - ((nI 1))))))))))
theorem ok_X6_turnsOf : fm_okV yX6_turnsOf cX6_turnsOf 3 (some .int) 2 := ⟨m_cd_X6_turnsOf, m_im_X6_turnsOf, m_se_X6_X6_turnsOf, m_ini_X6, by decide +kernel, by decide +kernel, by decide +kernel⟩
set_option maxHeartbeats 4000000 in
set_option maxRecDepth 100000 in
theorem j_X6_turnsOf {X : fm_X} {G : fm_G} {l : Launch} {v1 : Int32} {v2 : Int32} {μ : fm_I} {ν : fm_L} (C : fm_C X G l cX6_turnsOf RX6 3 (some .int) 1 12) {F : Int32 → State → Prop} (hF : F = fun r => fm_Qi X G (r, μ, ν)) : fm_J X G 3 F (m_X6_turnsOf v1 v2 μ ν) μ ν 0 [(0, .ref (G.2.2.1 58)), (1, .int v1), (2, .int v2)] [] := by
  unfold m_X6_turnsOf
  refine fm_aload_n (pc := 0) C dX6_turnsOf_0 rfl rfl ?_
  refine g6_twists (pc := 1) C (by decide) dX6_turnsOf_1 m_fl_X6_23 ?_
  refine fm_iload_n (pc := 4) C dX6_turnsOf_4 rfl rfl ?_
  refine fm_guard (fun h1 => ?_)
  refine fm_iald (pc := 5) C (by decide) h1 dX6_turnsOf_5 ?_
  refine fm_aload_n (pc := 6) C dX6_turnsOf_6 rfl rfl ?_
  refine g6_many (pc := 7) C (by decide) dX6_turnsOf_7 m_fl_X6_72 ?_
  refine fm_iload_n (pc := 10) C dX6_turnsOf_10 rfl rfl ?_
  refine fm_guard (fun h2 => ?_)
  refine fm_iald (pc := 11) C (by decide) h2 dX6_turnsOf_11 ?_
  refine fm_imul (pc := 12) C dX6_turnsOf_12 ?_
  refine fm_iconst (pc := 13) (v := (nI 2)) C dX6_turnsOf_13 (by decide) ?_
  refine fm_aload_n (pc := 14) C dX6_turnsOf_14 rfl rfl ?_
  refine g6_many (pc := 15) C (by decide) dX6_turnsOf_15 m_fl_X6_72 ?_
  refine fm_iload_n (pc := 18) C dX6_turnsOf_18 rfl rfl ?_
  refine fm_iald (pc := 19) C (by decide) h2 dX6_turnsOf_19 ?_
  refine fm_iconst (pc := 20) (v := (nI 1)) C dX6_turnsOf_20 (by decide) ?_
  refine fm_isub (pc := 21) C dX6_turnsOf_21 ?_
  refine fm_imul (pc := 22) C dX6_turnsOf_22 ?_
  refine fm_iadd (pc := 23) C dX6_turnsOf_23 ?_
  exact fm_zret0 (pc := 24) C hF rfl rfl dX6_turnsOf_24
theorem t_X6_turnsOf {l : Launch} {G : fm_G} {v1 : Int32} {v2 : Int32} {μ : fm_I} {ν : fm_L} {r : Int32} (h : m_X6_turnsOf v1 v2 μ ν = some r) : fm_Mi l G yX6_turnsOf cX6_turnsOf 3 (some .int) 1 12 [.ref (G.2.2.1 58), .int v1, .int v2] μ ν (r, μ, ν) := fm_Mi_of (by decide +kernel) (Nat.le_of_ble_eq_true rfl) (fun _ C => j_X6_turnsOf C rfl r h)
theorem dX6_on_0 : decode cX6_on 0 = .ok (.aload_n 0, 1) := by decide +kernel
theorem dX6_on_1 : decode cX6_on 1 = .ok (.iload_n 1, 1) := by decide +kernel
theorem dX6_on_2 : decode cX6_on 2 = .ok (.iload_n 2, 1) := by decide +kernel
theorem dX6_on_3 : decode cX6_on 3 = .ok (.invokevirtual 113, 3) := by decide +kernel
theorem dX6_on_6 : decode cX6_on 6 = .ok (.ifCond .eq 12, 3) := by decide +kernel
theorem dX6_on_9 : decode cX6_on 9 = .ok (.aload_n 0, 1) := by decide +kernel
theorem dX6_on_10 : decode cX6_on 10 = .ok (.iload_n 1, 1) := by decide +kernel
theorem dX6_on_11 : decode cX6_on 11 = .ok (.iload_n 2, 1) := by decide +kernel
theorem dX6_on_12 : decode cX6_on 12 = .ok (.invokevirtual 99, 3) := by decide +kernel
theorem dX6_on_15 : decode cX6_on 15 = .ok (.goto 8, 3) := by decide +kernel
theorem dX6_on_18 : decode cX6_on 18 = .ok (.aload_n 0, 1) := by decide +kernel
theorem dX6_on_19 : decode cX6_on 19 = .ok (.iconst (-1), 1) := by decide +kernel
theorem dX6_on_20 : decode cX6_on 20 = .ok (.invokevirtual 95, 3) := by decide +kernel
theorem dX6_on_23 : decode cX6_on 23 = .ok (.ireturn, 1) := by decide +kernel
def m_X6_on (v1 : Int32) (v2 : Int32) (μ : fm_I) (ν : fm_L) : Option (Int32 × fm_I × fm_L) :=
  (m_X6_isStrip v1 v2 μ ν).bind (fun r3 => if r3 = 0 then (m_X6_no ((-1 : Int32)) μ ν).bind (fun r20 => some ((r20.1, r20.2.1, r20.2.2))) else (m_X6_onOf v1 v2 μ ν).bind (fun r12 => some ((r12, μ, ν))))
theorem ok_X6_on : fm_okV yX6_on cX6_on 3 (some .int) 2 := ⟨m_cd_X6_on, m_im_X6_on, m_se_X6_X6_on, m_ini_X6, by decide +kernel, by decide +kernel, by decide +kernel⟩
set_option maxHeartbeats 4000000 in
set_option maxRecDepth 100000 in
theorem j_X6_on {X : fm_X} {G : fm_G} {l : Launch} {v1 : Int32} {v2 : Int32} {μ : fm_I} {ν : fm_L} (C : fm_C X G l cX6_on RX6 3 (some .int) 3 58) {F : (Int32 × fm_I × fm_L) → State → Prop} (hF : F = fm_Qi X G) : fm_J X G 3 F (m_X6_on v1 v2 μ ν) μ ν 0 [(0, .ref (G.2.2.1 58)), (1, .int v1), (2, .int v2)] [] := by
  unfold m_X6_on
  refine fm_aload_n (pc := 0) C dX6_on_0 rfl rfl ?_
  refine fm_iload_n (pc := 1) C dX6_on_1 rfl rfl ?_
  refine fm_iload_n (pc := 2) C dX6_on_2 rfl rfl ?_
  refine fm_bind (fun r3 e3 => ?_)
  refine fm_cVi0 (pc := 3) C (t_X6_isStrip e3) ok_X6_isStrip ⟨by decide, rfl⟩ m_ml_X6_113 dX6_on_3 ⟨Nat.le_of_ble_eq_true rfl, Nat.le_of_ble_eq_true rfl⟩ rfl rfl (Nat.le_of_ble_eq_true rfl) ?_
  refine fm_if_eq (pc := 6) (tgt := 18) C dX6_on_6 (by decide) (fun c1 => ?_) (fun c1 => ?_)
  · refine fm_aload_n (pc := 18) C dX6_on_18 rfl rfl ?_
    refine fm_iconst (pc := 19) (v := (-1 : Int32)) C dX6_on_19 (by decide) ?_
    refine fm_bind (fun r20 e20 => ?_)
    refine fm_cVi (pc := 20) C (t_X6_no e20) ok_X6_no ⟨by decide, rfl⟩ m_ml_X6_95 dX6_on_20 ⟨Nat.le_of_ble_eq_true rfl, Nat.le_of_ble_eq_true rfl⟩ rfl rfl (Nat.le_of_ble_eq_true rfl) ?_
    exact fm_zret (pc := 23) C hF rfl rfl dX6_on_23
  · refine fm_aload_n (pc := 9) C dX6_on_9 rfl rfl ?_
    refine fm_iload_n (pc := 10) C dX6_on_10 rfl rfl ?_
    refine fm_iload_n (pc := 11) C dX6_on_11 rfl rfl ?_
    refine fm_bind (fun r12 e12 => ?_)
    refine fm_cVi0 (pc := 12) C (t_X6_onOf e12) ok_X6_onOf ⟨by decide, rfl⟩ m_ml_X6_99 dX6_on_12 ⟨Nat.le_of_ble_eq_true rfl, Nat.le_of_ble_eq_true rfl⟩ rfl rfl (Nat.le_of_ble_eq_true rfl) ?_
    refine fm_goto (pc := 15) (tgt := 23) C dX6_on_15 (by decide) ?_
    exact fm_zret (pc := 23) C hF rfl rfl dX6_on_23
theorem t_X6_on {l : Launch} {G : fm_G} {v1 : Int32} {v2 : Int32} {μ : fm_I} {ν : fm_L} {r : Int32 × fm_I × fm_L} (h : m_X6_on v1 v2 μ ν = some r) : fm_Mi l G yX6_on cX6_on 3 (some .int) 3 58 [.ref (G.2.2.1 58), .int v1, .int v2] μ ν r := fm_Mi_of (by decide +kernel) (Nat.le_of_ble_eq_true rfl) (fun _ C => j_X6_on C rfl r h)
theorem dX6_pieces_0 : decode cX6_pieces 0 = .ok (.aload_n 0, 1) := by decide +kernel
theorem dX6_pieces_1 : decode cX6_pieces 1 = .ok (.iload_n 1, 1) := by decide +kernel
theorem dX6_pieces_2 : decode cX6_pieces 2 = .ok (.invokevirtual 88, 3) := by decide +kernel
theorem dX6_pieces_5 : decode cX6_pieces 5 = .ok (.ifCond .ne 9, 3) := by decide +kernel
theorem dX6_pieces_8 : decode cX6_pieces 8 = .ok (.aload_n 0, 1) := by decide +kernel
theorem dX6_pieces_9 : decode cX6_pieces 9 = .ok (.iconst (-1), 1) := by decide +kernel
theorem dX6_pieces_10 : decode cX6_pieces 10 = .ok (.invokevirtual 95, 3) := by decide +kernel
theorem dX6_pieces_13 : decode cX6_pieces 13 = .ok (.ireturn, 1) := by decide +kernel
theorem dX6_pieces_14 : decode cX6_pieces 14 = .ok (.aload_n 0, 1) := by decide +kernel
theorem dX6_pieces_15 : decode cX6_pieces 15 = .ok (.iload_n 1, 1) := by decide +kernel
theorem dX6_pieces_16 : decode cX6_pieces 16 = .ok (.invokevirtual 175, 3) := by decide +kernel
theorem dX6_pieces_19 : decode cX6_pieces 19 = .ok (.aload_n 0, 1) := by decide +kernel
theorem dX6_pieces_20 : decode cX6_pieces 20 = .ok (.getfield 172, 3) := by decide +kernel
theorem dX6_pieces_23 : decode cX6_pieces 23 = .ok (.ireturn, 1) := by decide +kernel
def m_X6_pieces (v1 : Int32) (μ : fm_I) (ν : fm_L) : Option (Int32 × fm_I × fm_L) :=
  (m_X6_isBand v1 μ ν).bind (fun r2 => if r2 = 0 then (m_X6_no ((-1 : Int32)) μ ν).bind (fun r10 => some ((r10.1, r10.2.1, r10.2.2))) else (m_X6_cuts v1 μ ν).bind (fun r16 => some (((r16.1 58 28), r16.1, r16.2))))
theorem ok_X6_pieces : fm_okV yX6_pieces cX6_pieces 2 (some .int) 1 := ⟨m_cd_X6_pieces, m_im_X6_pieces, m_se_X6_X6_pieces, m_ini_X6, by decide +kernel, by decide +kernel, by decide +kernel⟩
set_option maxHeartbeats 4000000 in
set_option maxRecDepth 100000 in
theorem j_X6_pieces {X : fm_X} {G : fm_G} {l : Launch} {v1 : Int32} {μ : fm_I} {ν : fm_L} (C : fm_C X G l cX6_pieces RX6 2 (some .int) 4 82) {F : (Int32 × fm_I × fm_L) → State → Prop} (hF : F = fm_Qi X G) : fm_J X G 2 F (m_X6_pieces v1 μ ν) μ ν 0 [(0, .ref (G.2.2.1 58)), (1, .int v1)] [] := by
  unfold m_X6_pieces
  refine fm_aload_n (pc := 0) C dX6_pieces_0 rfl rfl ?_
  refine fm_iload_n (pc := 1) C dX6_pieces_1 rfl rfl ?_
  refine fm_bind (fun r2 e2 => ?_)
  refine fm_cVi0 (pc := 2) C (t_X6_isBand e2) ok_X6_isBand ⟨by decide, rfl⟩ m_ml_X6_88 dX6_pieces_2 ⟨Nat.le_of_ble_eq_true rfl, Nat.le_of_ble_eq_true rfl⟩ rfl rfl (Nat.le_of_ble_eq_true rfl) ?_
  refine fm_if_ne (pc := 5) (tgt := 14) C dX6_pieces_5 (by decide) (fun c1 => ?_) (fun c1 => ?_)
  · refine fm_aload_n (pc := 8) C dX6_pieces_8 rfl rfl ?_
    refine fm_iconst (pc := 9) (v := (-1 : Int32)) C dX6_pieces_9 (by decide) ?_
    refine fm_bind (fun r10 e10 => ?_)
    refine fm_cVi (pc := 10) C (t_X6_no e10) ok_X6_no ⟨by decide, rfl⟩ m_ml_X6_95 dX6_pieces_10 ⟨Nat.le_of_ble_eq_true rfl, Nat.le_of_ble_eq_true rfl⟩ rfl rfl (Nat.le_of_ble_eq_true rfl) ?_
    exact fm_zret (pc := 13) C hF rfl rfl dX6_pieces_13
  · refine fm_aload_n (pc := 14) C dX6_pieces_14 rfl rfl ?_
    refine fm_iload_n (pc := 15) C dX6_pieces_15 rfl rfl ?_
    refine fm_bind (fun r16 e16 => ?_)
    refine fm_cVv (pc := 16) C (t_X6_cuts e16) ok_X6_cuts ⟨by decide, rfl⟩ m_ml_X6_175 dX6_pieces_16 ⟨Nat.le_of_ble_eq_true rfl, Nat.le_of_ble_eq_true rfl⟩ rfl rfl (Nat.le_of_ble_eq_true rfl) ?_
    refine fm_aload_n (pc := 19) C dX6_pieces_19 rfl rfl ?_
    refine g6_pieces (pc := 20) C (by decide) dX6_pieces_20 m_fl_X6_172 ?_
    exact fm_zret (pc := 23) C hF rfl rfl dX6_pieces_23
theorem t_X6_pieces {l : Launch} {G : fm_G} {v1 : Int32} {μ : fm_I} {ν : fm_L} {r : Int32 × fm_I × fm_L} (h : m_X6_pieces v1 μ ν = some r) : fm_Mi l G yX6_pieces cX6_pieces 2 (some .int) 4 82 [.ref (G.2.2.1 58), .int v1] μ ν r := fm_Mi_of (by decide +kernel) (Nat.le_of_ble_eq_true rfl) (fun _ C => j_X6_pieces C rfl r h)
