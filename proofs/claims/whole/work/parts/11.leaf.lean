theorem dX2_holdRow_0 : decode cX2_holdRow 0 = .ok (.aload_n 0, 1) := by decide +kernel
theorem dX2_holdRow_1 : decode cX2_holdRow 1 = .ok (.bipush 100, 2) := by decide +kernel
theorem dX2_holdRow_3 : decode cX2_holdRow 3 = .ok (.iload_n 1, 1) := by decide +kernel
theorem dX2_holdRow_4 : decode cX2_holdRow 4 = .ok (.iadd, 1) := by decide +kernel
theorem dX2_holdRow_5 : decode cX2_holdRow 5 = .ok (.putfield 9, 3) := by decide +kernel
theorem dX2_holdRow_8 : decode cX2_holdRow 8 = .ok (.aload_n 0, 1) := by decide +kernel
theorem dX2_holdRow_9 : decode cX2_holdRow 9 = .ok (.iload_n 2, 1) := by decide +kernel
theorem dX2_holdRow_10 : decode cX2_holdRow 10 = .ok (.putfield 23, 3) := by decide +kernel
theorem dX2_holdRow_13 : decode cX2_holdRow 13 = .ok (.aload_n 0, 1) := by decide +kernel
theorem dX2_holdRow_14 : decode cX2_holdRow 14 = .ok (.getfield 15, 3) := by decide +kernel
theorem dX2_holdRow_17 : decode cX2_holdRow 17 = .ok (.lconst 0, 1) := by decide +kernel
theorem dX2_holdRow_18 : decode cX2_holdRow 18 = .ok (.invokestatic 26, 3) := by decide +kernel
theorem dX2_holdRow_21 : decode cX2_holdRow 21 = .ok (.return_, 1) := by decide +kernel
def m_X2_holdRow (p0 : Nat) (v1 : Int32) (v2 : Int32) (μ : fm_I) (ν : fm_L) : Option (fm_I × fm_L) :=
  fm_g (Nat.beq (fm_k p0) 2) ((m_J7_fill_d0a16 ((p0 + 8)) ((lN 0)) (fm_u (fm_u μ p0 0 ((((nI 100)) + v1))) p0 1 v2) ν).bind (fun r18 => some ((r18.1, r18.2))))
theorem ok_X2_holdRow : fm_okV yX2_holdRow cX2_holdRow 3 (none : Option Jvm.ClassFile.FieldType) 2 := ⟨m_cd_X2_holdRow, m_im_X2_holdRow, m_se_X2_X2_holdRow, m_ini_X2, by decide +kernel, by decide +kernel, by decide +kernel⟩
set_option maxHeartbeats 4000000 in
set_option maxRecDepth 100000 in
theorem j_X2_holdRow {X : fm_X} {G : fm_G} {l : Launch} {p0 : Nat} {v1 : Int32} {v2 : Int32} {μ : fm_I} {ν : fm_L} (C : fm_C X G l cX2_holdRow RX2 3 (none : Option Jvm.ClassFile.FieldType) 2 36) {F : (fm_I × fm_L) → State → Prop} (hF : F = fm_Qv X G) : fm_J X G 3 F (m_X2_holdRow p0 v1 v2 μ ν) μ ν 0 [(0, .ref (G.2.2.1 p0)), (1, .int v1), (2, .int v2)] [] := by
  unfold m_X2_holdRow
  refine fm_guard (fun h1 => ?_)
  refine fm_aload_n (pc := 0) C dX2_holdRow_0 rfl rfl ?_
  refine fm_bipush (pc := 1) (v := (nI 100)) C dX2_holdRow_1 (by decide) ?_
  refine fm_iload_n (pc := 3) C dX2_holdRow_3 rfl rfl ?_
  refine fm_iadd (pc := 4) C dX2_holdRow_4 ?_
  refine p2_held (pc := 5) C (Nat.eq_of_beq_eq_true h1) dX2_holdRow_5 m_fl_X2_9 ?_
  refine fm_aload_n (pc := 8) C dX2_holdRow_8 rfl rfl ?_
  refine fm_iload_n (pc := 9) C dX2_holdRow_9 rfl rfl ?_
  refine p2_length (pc := 10) C (Nat.eq_of_beq_eq_true h1) dX2_holdRow_10 m_fl_X2_23 ?_
  refine fm_aload_n (pc := 13) C dX2_holdRow_13 rfl rfl ?_
  refine g2_elements (pc := 14) C (Nat.eq_of_beq_eq_true h1) dX2_holdRow_14 m_fl_X2_15 ?_
  refine fm_lconst (pc := 17) (v := lN 0) C dX2_holdRow_17 (by decide) ?_
  refine fm_bind (fun r18 e18 => ?_)
  refine fm_cSv (pc := 18) C (t_J7_fill_d0a16 e18) ok_J7_fill_d0a16 m_ml_X2_26 dX2_holdRow_18 ⟨Nat.le_of_ble_eq_true rfl, Nat.le_of_ble_eq_true rfl⟩ rfl rfl (Nat.le_of_ble_eq_true rfl) ?_
  exact fm_vret (pc := 21) C hF rfl dX2_holdRow_21
theorem t_X2_holdRow {l : Launch} {G : fm_G} {p0 : Nat} {v1 : Int32} {v2 : Int32} {μ : fm_I} {ν : fm_L} {r : fm_I × fm_L} (h : m_X2_holdRow p0 v1 v2 μ ν = some r) : fm_Mv l G yX2_holdRow cX2_holdRow 3 (none : Option Jvm.ClassFile.FieldType) 2 36 [.ref (G.2.2.1 p0), .int v1, .int v2] μ ν r := fm_Mv_of (by decide +kernel) (Nat.le_of_ble_eq_true rfl) (fun _ C => j_X2_holdRow C rfl r h)
theorem dX2_hasBand_0 : decode cX2_hasBand 0 = .ok (.aload_n 0, 1) := by decide +kernel
theorem dX2_hasBand_1 : decode cX2_hasBand 1 = .ok (.getfield 9, 3) := by decide +kernel
theorem dX2_hasBand_4 : decode cX2_hasBand 4 = .ok (.ifCond .lt 16, 3) := by decide +kernel
theorem dX2_hasBand_7 : decode cX2_hasBand 7 = .ok (.aload_n 0, 1) := by decide +kernel
theorem dX2_hasBand_8 : decode cX2_hasBand 8 = .ok (.getfield 9, 3) := by decide +kernel
theorem dX2_hasBand_11 : decode cX2_hasBand 11 = .ok (.bipush 100, 2) := by decide +kernel
theorem dX2_hasBand_13 : decode cX2_hasBand 13 = .ok (.if_icmp .ge 7, 3) := by decide +kernel
theorem dX2_hasBand_16 : decode cX2_hasBand 16 = .ok (.iconst 1, 1) := by decide +kernel
theorem dX2_hasBand_17 : decode cX2_hasBand 17 = .ok (.goto 4, 3) := by decide +kernel
theorem dX2_hasBand_20 : decode cX2_hasBand 20 = .ok (.iconst 0, 1) := by decide +kernel
theorem dX2_hasBand_21 : decode cX2_hasBand 21 = .ok (.ireturn, 1) := by decide +kernel
def m_X2_hasBand (p0 : Nat) (μ : fm_I) (ν : fm_L) : Option (Int32) :=
  fm_g (Nat.beq (fm_k p0) 2) (if (μ p0 0) < 0 then some ((nI 0)) else if (nI 100) ≤ (μ p0 0) then some ((nI 0)) else some ((nI 1)))
theorem ok_X2_hasBand : fm_okV yX2_hasBand cX2_hasBand 1 (some .boolean) 0 := ⟨m_cd_X2_hasBand, m_im_X2_hasBand, m_se_X2_X2_hasBand, m_ini_X2, by decide +kernel, by decide +kernel, by decide +kernel⟩
set_option maxHeartbeats 4000000 in
set_option maxRecDepth 100000 in
theorem j_X2_hasBand {X : fm_X} {G : fm_G} {l : Launch} {p0 : Nat} {μ : fm_I} {ν : fm_L} (C : fm_C X G l cX2_hasBand RX2 1 (some .boolean) 1 12) {F : Int32 → State → Prop} (hF : F = fun r => fm_Qi X G (r, μ, ν)) : fm_J X G 1 F (m_X2_hasBand p0 μ ν) μ ν 0 [(0, .ref (G.2.2.1 p0))] [] := by
  unfold m_X2_hasBand
  refine fm_guard (fun h1 => ?_)
  refine fm_aload_n (pc := 0) C dX2_hasBand_0 rfl rfl ?_
  refine g2_held (pc := 1) C (Nat.eq_of_beq_eq_true h1) dX2_hasBand_1 m_fl_X2_9 ?_
  refine fm_if_lt (pc := 4) (tgt := 20) C dX2_hasBand_4 (by decide) (fun c2 => ?_) (fun c2 => ?_)
  · refine fm_iconst (pc := 20) (v := (nI 0)) C dX2_hasBand_20 (by decide) ?_
    exact fm_zret0 (pc := 21) C hF rfl rfl dX2_hasBand_21
  · refine fm_aload_n (pc := 7) C dX2_hasBand_7 rfl rfl ?_
    refine g2_held (pc := 8) C (Nat.eq_of_beq_eq_true h1) dX2_hasBand_8 m_fl_X2_9 ?_
    refine fm_bipush (pc := 11) (v := (nI 100)) C dX2_hasBand_11 (by decide) ?_
    refine fm_icmp_ge (pc := 13) (tgt := 20) C dX2_hasBand_13 (by decide) (fun c3 => ?_) (fun c3 => ?_)
    · refine fm_iconst (pc := 20) (v := (nI 0)) C dX2_hasBand_20 (by decide) ?_
      exact fm_zret0 (pc := 21) C hF rfl rfl dX2_hasBand_21
    · refine fm_iconst (pc := 16) (v := (nI 1)) C dX2_hasBand_16 (by decide) ?_
      refine fm_goto (pc := 17) (tgt := 21) C dX2_hasBand_17 (by decide) ?_
      exact fm_zret0 (pc := 21) C hF rfl rfl dX2_hasBand_21
theorem t_X2_hasBand {l : Launch} {G : fm_G} {p0 : Nat} {μ : fm_I} {ν : fm_L} {r : Int32} (h : m_X2_hasBand p0 μ ν = some r) : fm_Mi l G yX2_hasBand cX2_hasBand 1 (some .boolean) 1 12 [.ref (G.2.2.1 p0)] μ ν (r, μ, ν) := fm_Mi_of (by decide +kernel) (Nat.le_of_ble_eq_true rfl) (fun _ C => j_X2_hasBand C rfl r h)
theorem dX2_hasRow_0 : decode cX2_hasRow 0 = .ok (.aload_n 0, 1) := by decide +kernel
theorem dX2_hasRow_1 : decode cX2_hasRow 1 = .ok (.getfield 9, 3) := by decide +kernel
theorem dX2_hasRow_4 : decode cX2_hasRow 4 = .ok (.bipush 100, 2) := by decide +kernel
theorem dX2_hasRow_6 : decode cX2_hasRow 6 = .ok (.if_icmp .lt 7, 3) := by decide +kernel
theorem dX2_hasRow_9 : decode cX2_hasRow 9 = .ok (.iconst 1, 1) := by decide +kernel
theorem dX2_hasRow_10 : decode cX2_hasRow 10 = .ok (.goto 4, 3) := by decide +kernel
theorem dX2_hasRow_13 : decode cX2_hasRow 13 = .ok (.iconst 0, 1) := by decide +kernel
theorem dX2_hasRow_14 : decode cX2_hasRow 14 = .ok (.ireturn, 1) := by decide +kernel
def m_X2_hasRow (p0 : Nat) (μ : fm_I) (ν : fm_L) : Option (Int32) :=
  fm_g (Nat.beq (fm_k p0) 2) (if (μ p0 0) < (nI 100) then some ((nI 0)) else some ((nI 1)))
theorem ok_X2_hasRow : fm_okV yX2_hasRow cX2_hasRow 1 (some .boolean) 0 := ⟨m_cd_X2_hasRow, m_im_X2_hasRow, m_se_X2_X2_hasRow, m_ini_X2, by decide +kernel, by decide +kernel, by decide +kernel⟩
set_option maxHeartbeats 4000000 in
set_option maxRecDepth 100000 in
theorem j_X2_hasRow {X : fm_X} {G : fm_G} {l : Launch} {p0 : Nat} {μ : fm_I} {ν : fm_L} (C : fm_C X G l cX2_hasRow RX2 1 (some .boolean) 1 12) {F : Int32 → State → Prop} (hF : F = fun r => fm_Qi X G (r, μ, ν)) : fm_J X G 1 F (m_X2_hasRow p0 μ ν) μ ν 0 [(0, .ref (G.2.2.1 p0))] [] := by
  unfold m_X2_hasRow
  refine fm_guard (fun h1 => ?_)
  refine fm_aload_n (pc := 0) C dX2_hasRow_0 rfl rfl ?_
  refine g2_held (pc := 1) C (Nat.eq_of_beq_eq_true h1) dX2_hasRow_1 m_fl_X2_9 ?_
  refine fm_bipush (pc := 4) (v := (nI 100)) C dX2_hasRow_4 (by decide) ?_
  refine fm_icmp_lt (pc := 6) (tgt := 13) C dX2_hasRow_6 (by decide) (fun c2 => ?_) (fun c2 => ?_)
  · refine fm_iconst (pc := 13) (v := (nI 0)) C dX2_hasRow_13 (by decide) ?_
    exact fm_zret0 (pc := 14) C hF rfl rfl dX2_hasRow_14
  · refine fm_iconst (pc := 9) (v := (nI 1)) C dX2_hasRow_9 (by decide) ?_
    refine fm_goto (pc := 10) (tgt := 14) C dX2_hasRow_10 (by decide) ?_
    exact fm_zret0 (pc := 14) C hF rfl rfl dX2_hasRow_14
theorem t_X2_hasRow {l : Launch} {G : fm_G} {p0 : Nat} {μ : fm_I} {ν : fm_L} {r : Int32} (h : m_X2_hasRow p0 μ ν = some r) : fm_Mi l G yX2_hasRow cX2_hasRow 1 (some .boolean) 1 12 [.ref (G.2.2.1 p0)] μ ν (r, μ, ν) := fm_Mi_of (by decide +kernel) (Nat.le_of_ble_eq_true rfl) (fun _ C => j_X2_hasRow C rfl r h)
theorem dX2_hasElement_0 : decode cX2_hasElement 0 = .ok (.aload_n 0, 1) := by decide +kernel
theorem dX2_hasElement_1 : decode cX2_hasElement 1 = .ok (.invokevirtual 19, 3) := by decide +kernel
theorem dX2_hasElement_4 : decode cX2_hasElement 4 = .ok (.ifCond .eq 19, 3) := by decide +kernel
theorem dX2_hasElement_7 : decode cX2_hasElement 7 = .ok (.iload_n 1, 1) := by decide +kernel
theorem dX2_hasElement_8 : decode cX2_hasElement 8 = .ok (.ifCond .lt 15, 3) := by decide +kernel
theorem dX2_hasElement_11 : decode cX2_hasElement 11 = .ok (.iload_n 1, 1) := by decide +kernel
theorem dX2_hasElement_12 : decode cX2_hasElement 12 = .ok (.aload_n 0, 1) := by decide +kernel
theorem dX2_hasElement_13 : decode cX2_hasElement 13 = .ok (.getfield 23, 3) := by decide +kernel
theorem dX2_hasElement_16 : decode cX2_hasElement 16 = .ok (.if_icmp .ge 7, 3) := by decide +kernel
theorem dX2_hasElement_19 : decode cX2_hasElement 19 = .ok (.iconst 1, 1) := by decide +kernel
theorem dX2_hasElement_20 : decode cX2_hasElement 20 = .ok (.goto 4, 3) := by decide +kernel
theorem dX2_hasElement_23 : decode cX2_hasElement 23 = .ok (.iconst 0, 1) := by decide +kernel
theorem dX2_hasElement_24 : decode cX2_hasElement 24 = .ok (.ireturn, 1) := by decide +kernel
def m_X2_hasElement (p0 : Nat) (v1 : Int32) (μ : fm_I) (ν : fm_L) : Option (Int32) :=
  fm_g (Nat.beq (fm_k p0) 2) ((m_X2_hasRow p0 μ ν).bind (fun r1 => if r1 = 0 then some ((nI 0)) else if v1 < 0 then some ((nI 0)) else if (μ p0 1) ≤ v1 then some ((nI 0)) else some ((nI 1))))
theorem ok_X2_hasElement : fm_okV yX2_hasElement cX2_hasElement 2 (some .boolean) 1 := ⟨m_cd_X2_hasElement, m_im_X2_hasElement, m_se_X2_X2_hasElement, m_ini_X2, by decide +kernel, by decide +kernel, by decide +kernel⟩
set_option maxHeartbeats 4000000 in
set_option maxRecDepth 100000 in
theorem j_X2_hasElement {X : fm_X} {G : fm_G} {l : Launch} {p0 : Nat} {v1 : Int32} {μ : fm_I} {ν : fm_L} (C : fm_C X G l cX2_hasElement RX2 2 (some .boolean) 2 32) {F : Int32 → State → Prop} (hF : F = fun r => fm_Qi X G (r, μ, ν)) : fm_J X G 2 F (m_X2_hasElement p0 v1 μ ν) μ ν 0 [(0, .ref (G.2.2.1 p0)), (1, .int v1)] [] := by
  unfold m_X2_hasElement
  refine fm_guard (fun h1 => ?_)
  refine fm_aload_n (pc := 0) C dX2_hasElement_0 rfl rfl ?_
  refine fm_bind (fun r1 e1 => ?_)
  refine fm_cVi0 (pc := 1) C (t_X2_hasRow e1) ok_X2_hasRow (fm_kcn2 (Nat.eq_of_beq_eq_true h1)) m_ml_X2_19 dX2_hasElement_1 ⟨Nat.le_of_ble_eq_true rfl, Nat.le_of_ble_eq_true rfl⟩ rfl rfl (Nat.le_of_ble_eq_true rfl) ?_
  refine fm_if_eq (pc := 4) (tgt := 23) C dX2_hasElement_4 (by decide) (fun c2 => ?_) (fun c2 => ?_)
  · refine fm_iconst (pc := 23) (v := (nI 0)) C dX2_hasElement_23 (by decide) ?_
    exact fm_zret0 (pc := 24) C hF rfl rfl dX2_hasElement_24
  · refine fm_iload_n (pc := 7) C dX2_hasElement_7 rfl rfl ?_
    refine fm_if_lt (pc := 8) (tgt := 23) C dX2_hasElement_8 (by decide) (fun c3 => ?_) (fun c3 => ?_)
    · refine fm_iconst (pc := 23) (v := (nI 0)) C dX2_hasElement_23 (by decide) ?_
      exact fm_zret0 (pc := 24) C hF rfl rfl dX2_hasElement_24
    · refine fm_iload_n (pc := 11) C dX2_hasElement_11 rfl rfl ?_
      refine fm_aload_n (pc := 12) C dX2_hasElement_12 rfl rfl ?_
      refine g2_length (pc := 13) C (Nat.eq_of_beq_eq_true h1) dX2_hasElement_13 m_fl_X2_23 ?_
      refine fm_icmp_ge (pc := 16) (tgt := 23) C dX2_hasElement_16 (by decide) (fun c4 => ?_) (fun c4 => ?_)
      · refine fm_iconst (pc := 23) (v := (nI 0)) C dX2_hasElement_23 (by decide) ?_
        exact fm_zret0 (pc := 24) C hF rfl rfl dX2_hasElement_24
      · refine fm_iconst (pc := 19) (v := (nI 1)) C dX2_hasElement_19 (by decide) ?_
        refine fm_goto (pc := 20) (tgt := 24) C dX2_hasElement_20 (by decide) ?_
        exact fm_zret0 (pc := 24) C hF rfl rfl dX2_hasElement_24
theorem t_X2_hasElement {l : Launch} {G : fm_G} {p0 : Nat} {v1 : Int32} {μ : fm_I} {ν : fm_L} {r : Int32} (h : m_X2_hasElement p0 v1 μ ν = some r) : fm_Mi l G yX2_hasElement cX2_hasElement 2 (some .boolean) 2 32 [.ref (G.2.2.1 p0), .int v1] μ ν (r, μ, ν) := fm_Mi_of (by decide +kernel) (Nat.le_of_ble_eq_true rfl) (fun _ C => j_X2_hasElement C rfl r h)
theorem dX2_put_0 : decode cX2_put 0 = .ok (.aload_n 0, 1) := by decide +kernel
theorem dX2_put_1 : decode cX2_put 1 = .ok (.iload_n 1, 1) := by decide +kernel
theorem dX2_put_2 : decode cX2_put 2 = .ok (.invokevirtual 32, 3) := by decide +kernel
theorem dX2_put_5 : decode cX2_put 5 = .ok (.ifCond .ne 4, 3) := by decide +kernel
theorem dX2_put_8 : decode cX2_put 8 = .ok (.return_, 1) := by decide +kernel
theorem dX2_put_9 : decode cX2_put 9 = .ok (.aload_n 0, 1) := by decide +kernel
theorem dX2_put_10 : decode cX2_put 10 = .ok (.getfield 9, 3) := by decide +kernel
theorem dX2_put_13 : decode cX2_put 13 = .ok (.bipush 100, 2) := by decide +kernel
theorem dX2_put_15 : decode cX2_put 15 = .ok (.isub, 1) := by decide +kernel
theorem dX2_put_16 : decode cX2_put 16 = .ok (.tableswitch 66 0 2 #[28, 41, 54], 28) := by decide +kernel
theorem dX2_put_44 : decode cX2_put 44 = .ok (.aload_n 0, 1) := by decide +kernel
theorem dX2_put_45 : decode cX2_put 45 = .ok (.getfield 15, 3) := by decide +kernel
theorem dX2_put_48 : decode cX2_put 48 = .ok (.iload_n 1, 1) := by decide +kernel
theorem dX2_put_49 : decode cX2_put 49 = .ok (.lload_n 2, 1) := by decide +kernel
theorem dX2_put_50 : decode cX2_put 50 = .ok (.l2i, 1) := by decide +kernel
theorem dX2_put_51 : decode cX2_put 51 = .ok (.i2b, 1) := by decide +kernel
theorem dX2_put_52 : decode cX2_put 52 = .ok (.i2l, 1) := by decide +kernel
theorem dX2_put_53 : decode cX2_put 53 = .ok (.lastore, 1) := by decide +kernel
theorem dX2_put_54 : decode cX2_put 54 = .ok (.goto 35, 3) := by decide +kernel
theorem dX2_put_57 : decode cX2_put 57 = .ok (.aload_n 0, 1) := by decide +kernel
theorem dX2_put_58 : decode cX2_put 58 = .ok (.getfield 15, 3) := by decide +kernel
theorem dX2_put_61 : decode cX2_put 61 = .ok (.iload_n 1, 1) := by decide +kernel
theorem dX2_put_62 : decode cX2_put 62 = .ok (.lload_n 2, 1) := by decide +kernel
theorem dX2_put_63 : decode cX2_put 63 = .ok (.l2i, 1) := by decide +kernel
theorem dX2_put_64 : decode cX2_put 64 = .ok (.i2s, 1) := by decide +kernel
theorem dX2_put_65 : decode cX2_put 65 = .ok (.i2l, 1) := by decide +kernel
theorem dX2_put_66 : decode cX2_put 66 = .ok (.lastore, 1) := by decide +kernel
theorem dX2_put_67 : decode cX2_put 67 = .ok (.goto 22, 3) := by decide +kernel
theorem dX2_put_70 : decode cX2_put 70 = .ok (.aload_n 0, 1) := by decide +kernel
theorem dX2_put_71 : decode cX2_put 71 = .ok (.getfield 15, 3) := by decide +kernel
theorem dX2_put_74 : decode cX2_put 74 = .ok (.iload_n 1, 1) := by decide +kernel
theorem dX2_put_75 : decode cX2_put 75 = .ok (.lload_n 2, 1) := by decide +kernel
theorem dX2_put_76 : decode cX2_put 76 = .ok (.l2i, 1) := by decide +kernel
theorem dX2_put_77 : decode cX2_put 77 = .ok (.i2l, 1) := by decide +kernel
theorem dX2_put_78 : decode cX2_put 78 = .ok (.lastore, 1) := by decide +kernel
theorem dX2_put_79 : decode cX2_put 79 = .ok (.goto 10, 3) := by decide +kernel
theorem dX2_put_82 : decode cX2_put 82 = .ok (.aload_n 0, 1) := by decide +kernel
theorem dX2_put_83 : decode cX2_put 83 = .ok (.getfield 15, 3) := by decide +kernel
theorem dX2_put_86 : decode cX2_put 86 = .ok (.iload_n 1, 1) := by decide +kernel
theorem dX2_put_87 : decode cX2_put 87 = .ok (.lload_n 2, 1) := by decide +kernel
theorem dX2_put_88 : decode cX2_put 88 = .ok (.lastore, 1) := by decide +kernel
theorem dX2_put_89 : decode cX2_put 89 = .ok (.return_, 1) := by decide +kernel
def m_X2_put (p0 : Nat) (v1 : Int32) (w2 : Int64) (μ : fm_I) (ν : fm_L) : Option (fm_I × fm_L) :=
  fm_g (Nat.beq (fm_k p0) 2) ((m_X2_hasElement p0 v1 μ ν).bind (fun r2 => if r2 = 0 then some ((μ, ν)) else if (((μ p0 0)) - ((nI 100))) = (nI 0) then fm_g (fm_in v1 (fm_n ((p0 + 8)))) (some ((μ, (fm_ul ν ((p0 + 8)) v1.toNatClampNeg w2.toInt32.toInt8.toInt32.toInt64)))) else if (((μ p0 0)) - ((nI 100))) = (nI 1) then fm_g (fm_in v1 (fm_n ((p0 + 8)))) (some ((μ, (fm_ul ν ((p0 + 8)) v1.toNatClampNeg w2.toInt32.toInt16.toInt32.toInt64)))) else if (((μ p0 0)) - ((nI 100))) = (nI 2) then fm_g (fm_in v1 (fm_n ((p0 + 8)))) (some ((μ, (fm_ul ν ((p0 + 8)) v1.toNatClampNeg w2.toInt32.toInt64)))) else fm_g (fm_in v1 (fm_n ((p0 + 8)))) (some ((μ, (fm_ul ν ((p0 + 8)) v1.toNatClampNeg w2))))))
theorem ok_X2_put : fm_okV yX2_put cX2_put 4 (none : Option Jvm.ClassFile.FieldType) 2 := ⟨m_cd_X2_put, m_im_X2_put, m_se_X2_X2_put, m_ini_X2, by decide +kernel, by decide +kernel, by decide +kernel⟩
set_option maxHeartbeats 4000000 in
set_option maxRecDepth 100000 in
theorem j_X2_put {X : fm_X} {G : fm_G} {l : Launch} {p0 : Nat} {v1 : Int32} {w2 : Int64} {μ : fm_I} {ν : fm_L} (C : fm_C X G l cX2_put RX2 4 (none : Option Jvm.ClassFile.FieldType) 3 53) {F : (fm_I × fm_L) → State → Prop} (hF : F = fm_Qv X G) : fm_J X G 4 F (m_X2_put p0 v1 w2 μ ν) μ ν 0 [(0, .ref (G.2.2.1 p0)), (1, .int v1), (2, .long w2)] [] := by
  unfold m_X2_put
  refine fm_guard (fun h1 => ?_)
  refine fm_aload_n (pc := 0) C dX2_put_0 rfl rfl ?_
  refine fm_iload_n (pc := 1) C dX2_put_1 rfl rfl ?_
  refine fm_bind (fun r2 e2 => ?_)
  refine fm_cVi0 (pc := 2) C (t_X2_hasElement e2) ok_X2_hasElement (fm_kcn2 (Nat.eq_of_beq_eq_true h1)) m_ml_X2_32 dX2_put_2 ⟨Nat.le_of_ble_eq_true rfl, Nat.le_of_ble_eq_true rfl⟩ rfl rfl (Nat.le_of_ble_eq_true rfl) ?_
  refine fm_if_ne (pc := 5) (tgt := 9) C dX2_put_5 (by decide) (fun c2 => ?_) (fun c2 => ?_)
  · exact fm_vret (pc := 8) C hF rfl dX2_put_8
  · refine fm_aload_n (pc := 9) C dX2_put_9 rfl rfl ?_
    refine g2_held (pc := 10) C (Nat.eq_of_beq_eq_true h1) dX2_put_10 m_fl_X2_9 ?_
    refine fm_bipush (pc := 13) (v := (nI 100)) C dX2_put_13 (by decide) ?_
    refine fm_isub (pc := 15) C dX2_put_15 ?_
    refine fm_ite (fun s3 => ?_) (fun s3 => ?_)
    · refine fm_tabIn (pc := 16) (tgt := 44) (off := 28) C dX2_put_16 (by rw [s3]; decide) (by rw [s3]; decide) (by rw [s3]; decide) (by decide) ?_
      refine fm_aload_n (pc := 44) C dX2_put_44 rfl rfl ?_
      refine g2_elements (pc := 45) C (Nat.eq_of_beq_eq_true h1) dX2_put_45 m_fl_X2_15 ?_
      refine fm_iload_n (pc := 48) C dX2_put_48 rfl rfl ?_
      refine fm_lload_n (pc := 49) C dX2_put_49 rfl rfl ?_
      refine fm_l2i (pc := 50) C dX2_put_50 ?_
      refine fm_i2b (pc := 51) C dX2_put_51 ?_
      refine fm_i2l (pc := 52) C dX2_put_52 ?_
      refine fm_guard (fun h4 => ?_)
      refine fm_last (pc := 53) C (fm_kS (Nat.eq_of_beq_eq_true h1)) h4 dX2_put_53 ?_
      refine fm_goto (pc := 54) (tgt := 89) C dX2_put_54 (by decide) ?_
      exact fm_vret (pc := 89) C hF rfl dX2_put_89
    · refine fm_ite (fun s5 => ?_) (fun s5 => ?_)
      · refine fm_tabIn (pc := 16) (tgt := 57) (off := 41) C dX2_put_16 (by rw [s5]; decide) (by rw [s5]; decide) (by rw [s5]; decide) (by decide) ?_
        refine fm_aload_n (pc := 57) C dX2_put_57 rfl rfl ?_
        refine g2_elements (pc := 58) C (Nat.eq_of_beq_eq_true h1) dX2_put_58 m_fl_X2_15 ?_
        refine fm_iload_n (pc := 61) C dX2_put_61 rfl rfl ?_
        refine fm_lload_n (pc := 62) C dX2_put_62 rfl rfl ?_
        refine fm_l2i (pc := 63) C dX2_put_63 ?_
        refine fm_i2s (pc := 64) C dX2_put_64 ?_
        refine fm_i2l (pc := 65) C dX2_put_65 ?_
        refine fm_guard (fun h6 => ?_)
        refine fm_last (pc := 66) C (fm_kS (Nat.eq_of_beq_eq_true h1)) h6 dX2_put_66 ?_
        refine fm_goto (pc := 67) (tgt := 89) C dX2_put_67 (by decide) ?_
        exact fm_vret (pc := 89) C hF rfl dX2_put_89
      · refine fm_ite (fun s7 => ?_) (fun s7 => ?_)
        · refine fm_tabIn (pc := 16) (tgt := 70) (off := 54) C dX2_put_16 (by rw [s7]; decide) (by rw [s7]; decide) (by rw [s7]; decide) (by decide) ?_
          refine fm_aload_n (pc := 70) C dX2_put_70 rfl rfl ?_
          refine g2_elements (pc := 71) C (Nat.eq_of_beq_eq_true h1) dX2_put_71 m_fl_X2_15 ?_
          refine fm_iload_n (pc := 74) C dX2_put_74 rfl rfl ?_
          refine fm_lload_n (pc := 75) C dX2_put_75 rfl rfl ?_
          refine fm_l2i (pc := 76) C dX2_put_76 ?_
          refine fm_i2l (pc := 77) C dX2_put_77 ?_
          refine fm_guard (fun h8 => ?_)
          refine fm_last (pc := 78) C (fm_kS (Nat.eq_of_beq_eq_true h1)) h8 dX2_put_78 ?_
          refine fm_goto (pc := 79) (tgt := 89) C dX2_put_79 (by decide) ?_
          exact fm_vret (pc := 89) C hF rfl dX2_put_89
        · refine fm_tabOut (pc := 16) (tgt := 82) C dX2_put_16 (by have a0 := fm_ne (nI 0) (k := 0) (by decide) s3; have a1 := fm_ne (nI 1) (k := 1) (by decide) s5; have a2 := fm_ne (nI 2) (k := 2) (by decide) s7; omega) (by decide) ?_
          refine fm_aload_n (pc := 82) C dX2_put_82 rfl rfl ?_
          refine g2_elements (pc := 83) C (Nat.eq_of_beq_eq_true h1) dX2_put_83 m_fl_X2_15 ?_
          refine fm_iload_n (pc := 86) C dX2_put_86 rfl rfl ?_
          refine fm_lload_n (pc := 87) C dX2_put_87 rfl rfl ?_
          refine fm_guard (fun h9 => ?_)
          refine fm_last (pc := 88) C (fm_kS (Nat.eq_of_beq_eq_true h1)) h9 dX2_put_88 ?_
          exact fm_vret (pc := 89) C hF rfl dX2_put_89
theorem t_X2_put {l : Launch} {G : fm_G} {p0 : Nat} {v1 : Int32} {w2 : Int64} {μ : fm_I} {ν : fm_L} {r : fm_I × fm_L} (h : m_X2_put p0 v1 w2 μ ν = some r) : fm_Mv l G yX2_put cX2_put 4 (none : Option Jvm.ClassFile.FieldType) 3 53 [.ref (G.2.2.1 p0), .int v1, .long w2] μ ν r := fm_Mv_of (by decide +kernel) (Nat.le_of_ble_eq_true rfl) (fun _ C => j_X2_put C rfl r h)
theorem dX2_hasElements_0 : decode cX2_hasElements 0 = .ok (.aload_n 0, 1) := by decide +kernel
theorem dX2_hasElements_1 : decode cX2_hasElements 1 = .ok (.invokevirtual 19, 3) := by decide +kernel
theorem dX2_hasElements_4 : decode cX2_hasElements 4 = .ok (.ifCond .eq 33, 3) := by decide +kernel
theorem dX2_hasElements_7 : decode cX2_hasElements 7 = .ok (.iload_n 1, 1) := by decide +kernel
theorem dX2_hasElements_8 : decode cX2_hasElements 8 = .ok (.ifCond .lt 29, 3) := by decide +kernel
theorem dX2_hasElements_11 : decode cX2_hasElements 11 = .ok (.iload_n 2, 1) := by decide +kernel
theorem dX2_hasElements_12 : decode cX2_hasElements 12 = .ok (.ifCond .lt 25, 3) := by decide +kernel
theorem dX2_hasElements_15 : decode cX2_hasElements 15 = .ok (.iload_n 1, 1) := by decide +kernel
theorem dX2_hasElements_16 : decode cX2_hasElements 16 = .ok (.aload_n 0, 1) := by decide +kernel
theorem dX2_hasElements_17 : decode cX2_hasElements 17 = .ok (.getfield 23, 3) := by decide +kernel
theorem dX2_hasElements_20 : decode cX2_hasElements 20 = .ok (.if_icmp .gt 17, 3) := by decide +kernel
theorem dX2_hasElements_23 : decode cX2_hasElements 23 = .ok (.iload_n 2, 1) := by decide +kernel
theorem dX2_hasElements_24 : decode cX2_hasElements 24 = .ok (.aload_n 0, 1) := by decide +kernel
theorem dX2_hasElements_25 : decode cX2_hasElements 25 = .ok (.getfield 23, 3) := by decide +kernel
theorem dX2_hasElements_28 : decode cX2_hasElements 28 = .ok (.iload_n 1, 1) := by decide +kernel
theorem dX2_hasElements_29 : decode cX2_hasElements 29 = .ok (.isub, 1) := by decide +kernel
theorem dX2_hasElements_30 : decode cX2_hasElements 30 = .ok (.if_icmp .gt 7, 3) := by decide +kernel
theorem dX2_hasElements_33 : decode cX2_hasElements 33 = .ok (.iconst 1, 1) := by decide +kernel
theorem dX2_hasElements_34 : decode cX2_hasElements 34 = .ok (.goto 4, 3) := by decide +kernel
theorem dX2_hasElements_37 : decode cX2_hasElements 37 = .ok (.iconst 0, 1) := by decide +kernel
theorem dX2_hasElements_38 : decode cX2_hasElements 38 = .ok (.ireturn, 1) := by decide +kernel
def m_X2_hasElements (p0 : Nat) (v1 : Int32) (v2 : Int32) (μ : fm_I) (ν : fm_L) : Option (Int32) :=
  fm_g (Nat.beq (fm_k p0) 2) ((m_X2_hasRow p0 μ ν).bind (fun r1 => if r1 = 0 then some ((nI 0)) else if v1 < 0 then some ((nI 0)) else if v2 < 0 then some ((nI 0)) else if (μ p0 1) < v1 then some ((nI 0)) else if (((μ p0 1)) - v1) < v2 then some ((nI 0)) else some ((nI 1))))
theorem ok_X2_hasElements : fm_okV yX2_hasElements cX2_hasElements 3 (some .boolean) 2 := ⟨m_cd_X2_hasElements, m_im_X2_hasElements, m_se_X2_X2_hasElements, m_ini_X2, by decide +kernel, by decide +kernel, by decide +kernel⟩
set_option maxHeartbeats 4000000 in
set_option maxRecDepth 100000 in
theorem j_X2_hasElements {X : fm_X} {G : fm_G} {l : Launch} {p0 : Nat} {v1 : Int32} {v2 : Int32} {μ : fm_I} {ν : fm_L} (C : fm_C X G l cX2_hasElements RX2 3 (some .boolean) 2 32) {F : Int32 → State → Prop} (hF : F = fun r => fm_Qi X G (r, μ, ν)) : fm_J X G 3 F (m_X2_hasElements p0 v1 v2 μ ν) μ ν 0 [(0, .ref (G.2.2.1 p0)), (1, .int v1), (2, .int v2)] [] := by
  unfold m_X2_hasElements
  refine fm_guard (fun h1 => ?_)
  refine fm_aload_n (pc := 0) C dX2_hasElements_0 rfl rfl ?_
  refine fm_bind (fun r1 e1 => ?_)
  refine fm_cVi0 (pc := 1) C (t_X2_hasRow e1) ok_X2_hasRow (fm_kcn2 (Nat.eq_of_beq_eq_true h1)) m_ml_X2_19 dX2_hasElements_1 ⟨Nat.le_of_ble_eq_true rfl, Nat.le_of_ble_eq_true rfl⟩ rfl rfl (Nat.le_of_ble_eq_true rfl) ?_
  refine fm_if_eq (pc := 4) (tgt := 37) C dX2_hasElements_4 (by decide) (fun c2 => ?_) (fun c2 => ?_)
  · refine fm_iconst (pc := 37) (v := (nI 0)) C dX2_hasElements_37 (by decide) ?_
    exact fm_zret0 (pc := 38) C hF rfl rfl dX2_hasElements_38
  · refine fm_iload_n (pc := 7) C dX2_hasElements_7 rfl rfl ?_
    refine fm_if_lt (pc := 8) (tgt := 37) C dX2_hasElements_8 (by decide) (fun c3 => ?_) (fun c3 => ?_)
    · refine fm_iconst (pc := 37) (v := (nI 0)) C dX2_hasElements_37 (by decide) ?_
      exact fm_zret0 (pc := 38) C hF rfl rfl dX2_hasElements_38
    · refine fm_iload_n (pc := 11) C dX2_hasElements_11 rfl rfl ?_
      refine fm_if_lt (pc := 12) (tgt := 37) C dX2_hasElements_12 (by decide) (fun c4 => ?_) (fun c4 => ?_)
      · refine fm_iconst (pc := 37) (v := (nI 0)) C dX2_hasElements_37 (by decide) ?_
        exact fm_zret0 (pc := 38) C hF rfl rfl dX2_hasElements_38
      · refine fm_iload_n (pc := 15) C dX2_hasElements_15 rfl rfl ?_
        refine fm_aload_n (pc := 16) C dX2_hasElements_16 rfl rfl ?_
        refine g2_length (pc := 17) C (Nat.eq_of_beq_eq_true h1) dX2_hasElements_17 m_fl_X2_23 ?_
        refine fm_icmp_gt (pc := 20) (tgt := 37) C dX2_hasElements_20 (by decide) (fun c5 => ?_) (fun c5 => ?_)
        · refine fm_iconst (pc := 37) (v := (nI 0)) C dX2_hasElements_37 (by decide) ?_
          exact fm_zret0 (pc := 38) C hF rfl rfl dX2_hasElements_38
        · refine fm_iload_n (pc := 23) C dX2_hasElements_23 rfl rfl ?_
          refine fm_aload_n (pc := 24) C dX2_hasElements_24 rfl rfl ?_
          refine g2_length (pc := 25) C (Nat.eq_of_beq_eq_true h1) dX2_hasElements_25 m_fl_X2_23 ?_
          refine fm_iload_n (pc := 28) C dX2_hasElements_28 rfl rfl ?_
          refine fm_isub (pc := 29) C dX2_hasElements_29 ?_
          refine fm_icmp_gt (pc := 30) (tgt := 37) C dX2_hasElements_30 (by decide) (fun c6 => ?_) (fun c6 => ?_)
          · refine fm_iconst (pc := 37) (v := (nI 0)) C dX2_hasElements_37 (by decide) ?_
            exact fm_zret0 (pc := 38) C hF rfl rfl dX2_hasElements_38
          · refine fm_iconst (pc := 33) (v := (nI 1)) C dX2_hasElements_33 (by decide) ?_
            refine fm_goto (pc := 34) (tgt := 38) C dX2_hasElements_34 (by decide) ?_
            exact fm_zret0 (pc := 38) C hF rfl rfl dX2_hasElements_38
theorem t_X2_hasElements {l : Launch} {G : fm_G} {p0 : Nat} {v1 : Int32} {v2 : Int32} {μ : fm_I} {ν : fm_L} {r : Int32} (h : m_X2_hasElements p0 v1 v2 μ ν = some r) : fm_Mi l G yX2_hasElements cX2_hasElements 3 (some .boolean) 2 32 [.ref (G.2.2.1 p0), .int v1, .int v2] μ ν (r, μ, ν) := fm_Mi_of (by decide +kernel) (Nat.le_of_ble_eq_true rfl) (fun _ C => j_X2_hasElements C rfl r h)
theorem dX2_elementAt_0 : decode cX2_elementAt 0 = .ok (.aload_n 0, 1) := by decide +kernel
theorem dX2_elementAt_1 : decode cX2_elementAt 1 = .ok (.iload_n 1, 1) := by decide +kernel
theorem dX2_elementAt_2 : decode cX2_elementAt 2 = .ok (.invokevirtual 32, 3) := by decide +kernel
theorem dX2_elementAt_5 : decode cX2_elementAt 5 = .ok (.ifCond .eq 12, 3) := by decide +kernel
theorem dX2_elementAt_8 : decode cX2_elementAt 8 = .ok (.aload_n 0, 1) := by decide +kernel
theorem dX2_elementAt_9 : decode cX2_elementAt 9 = .ok (.getfield 15, 3) := by decide +kernel
theorem dX2_elementAt_12 : decode cX2_elementAt 12 = .ok (.iload_n 1, 1) := by decide +kernel
theorem dX2_elementAt_13 : decode cX2_elementAt 13 = .ok (.laload, 1) := by decide +kernel
theorem dX2_elementAt_14 : decode cX2_elementAt 14 = .ok (.goto 4, 3) := by decide +kernel
theorem dX2_elementAt_17 : decode cX2_elementAt 17 = .ok (.lconst 0, 1) := by decide +kernel
theorem dX2_elementAt_18 : decode cX2_elementAt 18 = .ok (.lreturn, 1) := by decide +kernel
def m_X2_elementAt (p0 : Nat) (v1 : Int32) (μ : fm_I) (ν : fm_L) : Option (Int64) :=
  fm_g (Nat.beq (fm_k p0) 2) ((m_X2_hasElement p0 v1 μ ν).bind (fun r2 => if r2 = 0 then some ((lN 0)) else fm_g (fm_in v1 (fm_n ((p0 + 8)))) (some ((ν ((p0 + 8)) v1.toNatClampNeg)))))
theorem ok_X2_elementAt : fm_okV yX2_elementAt cX2_elementAt 2 (some .long) 1 := ⟨m_cd_X2_elementAt, m_im_X2_elementAt, m_se_X2_X2_elementAt, m_ini_X2, by decide +kernel, by decide +kernel, by decide +kernel⟩
set_option maxHeartbeats 4000000 in
set_option maxRecDepth 100000 in
theorem j_X2_elementAt {X : fm_X} {G : fm_G} {l : Launch} {p0 : Nat} {v1 : Int32} {μ : fm_I} {ν : fm_L} (C : fm_C X G l cX2_elementAt RX2 2 (some .long) 3 53) {F : Int64 → State → Prop} (hF : F = fun r => fm_Ql X G (r, μ, ν)) : fm_J X G 2 F (m_X2_elementAt p0 v1 μ ν) μ ν 0 [(0, .ref (G.2.2.1 p0)), (1, .int v1)] [] := by
  unfold m_X2_elementAt
  refine fm_guard (fun h1 => ?_)
  refine fm_aload_n (pc := 0) C dX2_elementAt_0 rfl rfl ?_
  refine fm_iload_n (pc := 1) C dX2_elementAt_1 rfl rfl ?_
  refine fm_bind (fun r2 e2 => ?_)
  refine fm_cVi0 (pc := 2) C (t_X2_hasElement e2) ok_X2_hasElement (fm_kcn2 (Nat.eq_of_beq_eq_true h1)) m_ml_X2_32 dX2_elementAt_2 ⟨Nat.le_of_ble_eq_true rfl, Nat.le_of_ble_eq_true rfl⟩ rfl rfl (Nat.le_of_ble_eq_true rfl) ?_
  refine fm_if_eq (pc := 5) (tgt := 17) C dX2_elementAt_5 (by decide) (fun c2 => ?_) (fun c2 => ?_)
  · refine fm_lconst (pc := 17) (v := lN 0) C dX2_elementAt_17 (by decide) ?_
    exact fm_lret0 (pc := 18) C hF rfl dX2_elementAt_18
  · refine fm_aload_n (pc := 8) C dX2_elementAt_8 rfl rfl ?_
    refine g2_elements (pc := 9) C (Nat.eq_of_beq_eq_true h1) dX2_elementAt_9 m_fl_X2_15 ?_
    refine fm_iload_n (pc := 12) C dX2_elementAt_12 rfl rfl ?_
    refine fm_guard (fun h3 => ?_)
    refine fm_lald (pc := 13) C (fm_kS (Nat.eq_of_beq_eq_true h1)) h3 dX2_elementAt_13 ?_
    refine fm_goto (pc := 14) (tgt := 18) C dX2_elementAt_14 (by decide) ?_
    exact fm_lret0 (pc := 18) C hF rfl dX2_elementAt_18
theorem t_X2_elementAt {l : Launch} {G : fm_G} {p0 : Nat} {v1 : Int32} {μ : fm_I} {ν : fm_L} {r : Int64} (h : m_X2_elementAt p0 v1 μ ν = some r) : fm_Ml l G yX2_elementAt cX2_elementAt 2 (some .long) 3 53 [.ref (G.2.2.1 p0), .int v1] μ ν (r, μ, ν) := fm_Ml_of (by decide +kernel) (Nat.le_of_ble_eq_true rfl) (fun _ C => j_X2_elementAt C rfl r h)
theorem dX5_isKind_0 : decode cX5_isKind 0 = .ok (.iload_n 0, 1) := by decide +kernel
theorem dX5_isKind_1 : decode cX5_isKind 1 = .ok (.ifCond .lt 13, 3) := by decide +kernel
theorem dX5_isKind_4 : decode cX5_isKind 4 = .ok (.iload_n 0, 1) := by decide +kernel
theorem dX5_isKind_5 : decode cX5_isKind 5 = .ok (.bipush 6, 2) := by decide +kernel
theorem dX5_isKind_7 : decode cX5_isKind 7 = .ok (.if_icmp .gt 7, 3) := by decide +kernel
theorem dX5_isKind_10 : decode cX5_isKind 10 = .ok (.iconst 1, 1) := by decide +kernel
theorem dX5_isKind_11 : decode cX5_isKind 11 = .ok (.goto 4, 3) := by decide +kernel
theorem dX5_isKind_14 : decode cX5_isKind 14 = .ok (.iconst 0, 1) := by decide +kernel
theorem dX5_isKind_15 : decode cX5_isKind 15 = .ok (.ireturn, 1) := by decide +kernel
def m_X5_isKind (v0 : Int32) (μ : fm_I) (ν : fm_L) : Option (Int32) :=
  if v0 < 0 then some ((nI 0)) else if (nI 6) < v0 then some ((nI 0)) else some ((nI 1))
theorem ok_X5_isKind : fm_okS yX5_isKind cX5_isKind 1 (some .boolean) 1 := ⟨m_cd_X5_isKind, m_st_X5_isKind, m_ini_X5, by decide +kernel, by decide +kernel, by decide +kernel⟩
set_option maxHeartbeats 4000000 in
set_option maxRecDepth 100000 in
theorem j_X5_isKind {X : fm_X} {G : fm_G} {l : Launch} {v0 : Int32} {μ : fm_I} {ν : fm_L} (C : fm_C X G l cX5_isKind RX5 1 (some .boolean) 1 12) {F : Int32 → State → Prop} (hF : F = fun r => fm_Qi X G (r, μ, ν)) : fm_J X G 1 F (m_X5_isKind v0 μ ν) μ ν 0 [(0, .int v0)] [] := by
  unfold m_X5_isKind
  refine fm_iload_n (pc := 0) C dX5_isKind_0 rfl rfl ?_
  refine fm_if_lt (pc := 1) (tgt := 14) C dX5_isKind_1 (by decide) (fun c1 => ?_) (fun c1 => ?_)
  · refine fm_iconst (pc := 14) (v := (nI 0)) C dX5_isKind_14 (by decide) ?_
    exact fm_zret0 (pc := 15) C hF rfl rfl dX5_isKind_15
  · refine fm_iload_n (pc := 4) C dX5_isKind_4 rfl rfl ?_
    refine fm_bipush (pc := 5) (v := (nI 6)) C dX5_isKind_5 (by decide) ?_
    refine fm_icmp_gt (pc := 7) (tgt := 14) C dX5_isKind_7 (by decide) (fun c2 => ?_) (fun c2 => ?_)
    · refine fm_iconst (pc := 14) (v := (nI 0)) C dX5_isKind_14 (by decide) ?_
      exact fm_zret0 (pc := 15) C hF rfl rfl dX5_isKind_15
    · refine fm_iconst (pc := 10) (v := (nI 1)) C dX5_isKind_10 (by decide) ?_
      refine fm_goto (pc := 11) (tgt := 15) C dX5_isKind_11 (by decide) ?_
      exact fm_zret0 (pc := 15) C hF rfl rfl dX5_isKind_15
theorem t_X5_isKind {l : Launch} {G : fm_G} {v0 : Int32} {μ : fm_I} {ν : fm_L} {r : Int32} (h : m_X5_isKind v0 μ ν = some r) : fm_Mi l G yX5_isKind cX5_isKind 1 (some .boolean) 1 12 [.int v0] μ ν (r, μ, ν) := fm_Mi_of (by decide +kernel) (Nat.le_of_ble_eq_true rfl) (fun _ C => j_X5_isKind C rfl r h)
theorem dX5_isOdd_0 : decode cX5_isOdd 0 = .ok (.iload_n 0, 1) := by decide +kernel
theorem dX5_isOdd_1 : decode cX5_isOdd 1 = .ok (.iconst 1, 1) := by decide +kernel
theorem dX5_isOdd_2 : decode cX5_isOdd 2 = .ok (.iand, 1) := by decide +kernel
theorem dX5_isOdd_3 : decode cX5_isOdd 3 = .ok (.iconst 1, 1) := by decide +kernel
theorem dX5_isOdd_4 : decode cX5_isOdd 4 = .ok (.if_icmp .ne 7, 3) := by decide +kernel
theorem dX5_isOdd_7 : decode cX5_isOdd 7 = .ok (.iconst 1, 1) := by decide +kernel
theorem dX5_isOdd_8 : decode cX5_isOdd 8 = .ok (.goto 4, 3) := by decide +kernel
theorem dX5_isOdd_11 : decode cX5_isOdd 11 = .ok (.iconst 0, 1) := by decide +kernel
theorem dX5_isOdd_12 : decode cX5_isOdd 12 = .ok (.ireturn, 1) := by decide +kernel
def m_X5_isOdd (v0 : Int32) (μ : fm_I) (ν : fm_L) : Option (Int32) :=
  if (v0 &&& ((nI 1))) = (nI 1) then some ((nI 1)) else some ((nI 0))
theorem ok_X5_isOdd : fm_okS yX5_isOdd cX5_isOdd 1 (some .boolean) 1 := ⟨m_cd_X5_isOdd, m_st_X5_isOdd, m_ini_X5, by decide +kernel, by decide +kernel, by decide +kernel⟩
set_option maxHeartbeats 4000000 in
set_option maxRecDepth 100000 in
theorem j_X5_isOdd {X : fm_X} {G : fm_G} {l : Launch} {v0 : Int32} {μ : fm_I} {ν : fm_L} (C : fm_C X G l cX5_isOdd RX5 1 (some .boolean) 1 12) {F : Int32 → State → Prop} (hF : F = fun r => fm_Qi X G (r, μ, ν)) : fm_J X G 1 F (m_X5_isOdd v0 μ ν) μ ν 0 [(0, .int v0)] [] := by
  unfold m_X5_isOdd
  refine fm_iload_n (pc := 0) C dX5_isOdd_0 rfl rfl ?_
  refine fm_iconst (pc := 1) (v := (nI 1)) C dX5_isOdd_1 (by decide) ?_
  refine fm_iand (pc := 2) C dX5_isOdd_2 ?_
  refine fm_iconst (pc := 3) (v := (nI 1)) C dX5_isOdd_3 (by decide) ?_
  refine fm_icmp_ne (pc := 4) (tgt := 11) C dX5_isOdd_4 (by decide) (fun c1 => ?_) (fun c1 => ?_)
  · refine fm_iconst (pc := 7) (v := (nI 1)) C dX5_isOdd_7 (by decide) ?_
    refine fm_goto (pc := 8) (tgt := 12) C dX5_isOdd_8 (by decide) ?_
    exact fm_zret0 (pc := 12) C hF rfl rfl dX5_isOdd_12
  · refine fm_iconst (pc := 11) (v := (nI 0)) C dX5_isOdd_11 (by decide) ?_
    exact fm_zret0 (pc := 12) C hF rfl rfl dX5_isOdd_12
theorem t_X5_isOdd {l : Launch} {G : fm_G} {v0 : Int32} {μ : fm_I} {ν : fm_L} {r : Int32} (h : m_X5_isOdd v0 μ ν = some r) : fm_Mi l G yX5_isOdd cX5_isOdd 1 (some .boolean) 1 12 [.int v0] μ ν (r, μ, ν) := fm_Mi_of (by decide +kernel) (Nat.le_of_ble_eq_true rfl) (fun _ C => j_X5_isOdd C rfl r h)
theorem dX0_shifted_0 : decode cX0_shifted 0 = .ok (.iload_n 2, 1) := by decide +kernel
theorem dX0_shifted_1 : decode cX0_shifted 1 = .ok (.iconst 1, 1) := by decide +kernel
theorem dX0_shifted_2 : decode cX0_shifted 2 = .ok (.if_icmp .ge 7, 3) := by decide +kernel
theorem dX0_shifted_5 : decode cX0_shifted 5 = .ok (.iconst 0, 1) := by decide +kernel
theorem dX0_shifted_6 : decode cX0_shifted 6 = .ok (.goto 11, 3) := by decide +kernel
theorem dX0_shifted_9 : decode cX0_shifted 9 = .ok (.iload_n 1, 1) := by decide +kernel
theorem dX0_shifted_10 : decode cX0_shifted 10 = .ok (.aload_n 0, 1) := by decide +kernel
theorem dX0_shifted_11 : decode cX0_shifted 11 = .ok (.getfield 31, 3) := by decide +kernel
theorem dX0_shifted_14 : decode cX0_shifted 14 = .ok (.iadd, 1) := by decide +kernel
theorem dX0_shifted_15 : decode cX0_shifted 15 = .ok (.iload_n 2, 1) := by decide +kernel
theorem dX0_shifted_16 : decode cX0_shifted 16 = .ok (.irem, 1) := by decide +kernel
theorem dX0_shifted_17 : decode cX0_shifted 17 = .ok (.ireturn, 1) := by decide +kernel
def m_X0_shifted (p0 : Nat) (v1 : Int32) (v2 : Int32) (μ : fm_I) (ν : fm_L) : Option (Int32) :=
  fm_g (Nat.beq (fm_k p0) 0) (if (nI 1) ≤ v2 then fm_g (decide (¬ v2 = 0)) (some ((((v1 + ((μ p0 6)))) - ((v1 + ((μ p0 6)))) / v2 * v2))) else some ((nI 0)))
theorem ok_X0_shifted : fm_okV yX0_shifted cX0_shifted 3 (some .int) 2 := ⟨m_cd_X0_shifted, m_im_X0_shifted, m_se_X0_X0_shifted, m_ini_X0, by decide +kernel, by decide +kernel, by decide +kernel⟩
set_option maxHeartbeats 4000000 in
set_option maxRecDepth 100000 in
theorem j_X0_shifted {X : fm_X} {G : fm_G} {l : Launch} {p0 : Nat} {v1 : Int32} {v2 : Int32} {μ : fm_I} {ν : fm_L} (C : fm_C X G l cX0_shifted RX0 3 (some .int) 1 12) {F : Int32 → State → Prop} (hF : F = fun r => fm_Qi X G (r, μ, ν)) : fm_J X G 3 F (m_X0_shifted p0 v1 v2 μ ν) μ ν 0 [(0, .ref (G.2.2.1 p0)), (1, .int v1), (2, .int v2)] [] := by
  unfold m_X0_shifted
  refine fm_guard (fun h1 => ?_)
  refine fm_iload_n (pc := 0) C dX0_shifted_0 rfl rfl ?_
  refine fm_iconst (pc := 1) (v := (nI 1)) C dX0_shifted_1 (by decide) ?_
  refine fm_icmp_ge (pc := 2) (tgt := 9) C dX0_shifted_2 (by decide) (fun c2 => ?_) (fun c2 => ?_)
  · refine fm_iload_n (pc := 9) C dX0_shifted_9 rfl rfl ?_
    refine fm_aload_n (pc := 10) C dX0_shifted_10 rfl rfl ?_
    refine g0_a (pc := 11) C (Nat.eq_of_beq_eq_true h1) dX0_shifted_11 m_fl_X0_31 ?_
    refine fm_iadd (pc := 14) C dX0_shifted_14 ?_
    refine fm_iload_n (pc := 15) C dX0_shifted_15 rfl rfl ?_
    refine fm_guard (fun h3 => ?_)
    refine fm_irem (pc := 16) C dX0_shifted_16 h3 ?_
    exact fm_zret0 (pc := 17) C hF rfl rfl dX0_shifted_17
  · refine fm_iconst (pc := 5) (v := (nI 0)) C dX0_shifted_5 (by decide) ?_
    refine fm_goto (pc := 6) (tgt := 17) C dX0_shifted_6 (by decide) ?_
    exact fm_zret0 (pc := 17) C hF rfl rfl dX0_shifted_17
theorem t_X0_shifted {l : Launch} {G : fm_G} {p0 : Nat} {v1 : Int32} {v2 : Int32} {μ : fm_I} {ν : fm_L} {r : Int32} (h : m_X0_shifted p0 v1 v2 μ ν = some r) : fm_Mi l G yX0_shifted cX0_shifted 3 (some .int) 1 12 [.ref (G.2.2.1 p0), .int v1, .int v2] μ ν (r, μ, ν) := fm_Mi_of (by decide +kernel) (Nat.le_of_ble_eq_true rfl) (fun _ C => j_X0_shifted C rfl r h)
theorem dX0_paired_0 : decode cX0_paired 0 = .ok (.iload_n 0, 1) := by decide +kernel
theorem dX0_paired_1 : decode cX0_paired 1 = .ok (.iconst 1, 1) := by decide +kernel
theorem dX0_paired_2 : decode cX0_paired 2 = .ok (.ixor, 1) := by decide +kernel
theorem dX0_paired_3 : decode cX0_paired 3 = .ok (.istore_n 2, 1) := by decide +kernel
theorem dX0_paired_4 : decode cX0_paired 4 = .ok (.iload_n 2, 1) := by decide +kernel
theorem dX0_paired_5 : decode cX0_paired 5 = .ok (.iload_n 1, 1) := by decide +kernel
theorem dX0_paired_6 : decode cX0_paired 6 = .ok (.if_icmp .ge 7, 3) := by decide +kernel
theorem dX0_paired_9 : decode cX0_paired 9 = .ok (.iload_n 2, 1) := by decide +kernel
theorem dX0_paired_10 : decode cX0_paired 10 = .ok (.goto 4, 3) := by decide +kernel
theorem dX0_paired_13 : decode cX0_paired 13 = .ok (.iload_n 0, 1) := by decide +kernel
theorem dX0_paired_14 : decode cX0_paired 14 = .ok (.ireturn, 1) := by decide +kernel
def m_X0_paired (v0 : Int32) (v1 : Int32) (μ : fm_I) (ν : fm_L) : Option (Int32) :=
  if v1 ≤ (v0 ^^^ ((nI 1))) then some v0 else some ((v0 ^^^ ((nI 1))))
theorem ok_X0_paired : fm_okS yX0_paired cX0_paired 3 (some .int) 2 := ⟨m_cd_X0_paired, m_st_X0_paired, m_ini_X0, by decide +kernel, by decide +kernel, by decide +kernel⟩
set_option maxHeartbeats 4000000 in
set_option maxRecDepth 100000 in
theorem j_X0_paired {X : fm_X} {G : fm_G} {l : Launch} {v0 : Int32} {v1 : Int32} {μ : fm_I} {ν : fm_L} (C : fm_C X G l cX0_paired RX0 3 (some .int) 1 12) {F : Int32 → State → Prop} (hF : F = fun r => fm_Qi X G (r, μ, ν)) : fm_J X G 3 F (m_X0_paired v0 v1 μ ν) μ ν 0 [(0, .int v0), (1, .int v1)] [] := by
  unfold m_X0_paired
  refine fm_iload_n (pc := 0) C dX0_paired_0 rfl rfl ?_
  refine fm_iconst (pc := 1) (v := (nI 1)) C dX0_paired_1 (by decide) ?_
  refine fm_ixor (pc := 2) C dX0_paired_2 ?_
  refine fm_istore_n (pc := 3) C dX0_paired_3 rfl (by decide) rfl ?_
  refine fm_iload_n (pc := 4) C dX0_paired_4 rfl rfl ?_
  refine fm_iload_n (pc := 5) C dX0_paired_5 rfl rfl ?_
  refine fm_icmp_ge (pc := 6) (tgt := 13) C dX0_paired_6 (by decide) (fun c1 => ?_) (fun c1 => ?_)
  · refine fm_iload_n (pc := 13) C dX0_paired_13 rfl rfl ?_
    exact fm_zret0 (pc := 14) C hF rfl rfl dX0_paired_14
  · refine fm_iload_n (pc := 9) C dX0_paired_9 rfl rfl ?_
    refine fm_goto (pc := 10) (tgt := 14) C dX0_paired_10 (by decide) ?_
    exact fm_zret0 (pc := 14) C hF rfl rfl dX0_paired_14
theorem t_X0_paired {l : Launch} {G : fm_G} {v0 : Int32} {v1 : Int32} {μ : fm_I} {ν : fm_L} {r : Int32} (h : m_X0_paired v0 v1 μ ν = some r) : fm_Mi l G yX0_paired cX0_paired 3 (some .int) 1 12 [.int v0, .int v1] μ ν (r, μ, ν) := fm_Mi_of (by decide +kernel) (Nat.le_of_ble_eq_true rfl) (fun _ C => j_X0_paired C rfl r h)
theorem dX0_followerIf_0 : decode cX0_followerIf 0 = .ok (.iload_n 2, 1) := by decide +kernel
theorem dX0_followerIf_1 : decode cX0_followerIf 1 = .ok (.iconst 1, 1) := by decide +kernel
theorem dX0_followerIf_2 : decode cX0_followerIf 2 = .ok (.isub, 1) := by decide +kernel
theorem dX0_followerIf_3 : decode cX0_followerIf 3 = .ok (.istore 4, 2) := by decide +kernel
theorem dX0_followerIf_5 : decode cX0_followerIf 5 = .ok (.iload_n 3, 1) := by decide +kernel
theorem dX0_followerIf_6 : decode cX0_followerIf 6 = .ok (.invokestatic 54, 3) := by decide +kernel
theorem dX0_followerIf_9 : decode cX0_followerIf 9 = .ok (.istore 5, 2) := by decide +kernel
theorem dX0_followerIf_11 : decode cX0_followerIf 11 = .ok (.iload 5, 2) := by decide +kernel
theorem dX0_followerIf_13 : decode cX0_followerIf 13 = .ok (.ifCond .eq 10, 3) := by decide +kernel
theorem dX0_followerIf_16 : decode cX0_followerIf 16 = .ok (.iload 4, 2) := by decide +kernel
theorem dX0_followerIf_18 : decode cX0_followerIf 18 = .ok (.iload_n 1, 1) := by decide +kernel
theorem dX0_followerIf_19 : decode cX0_followerIf 19 = .ok (.isub, 1) := by decide +kernel
theorem dX0_followerIf_20 : decode cX0_followerIf 20 = .ok (.goto 4, 3) := by decide +kernel
theorem dX0_followerIf_23 : decode cX0_followerIf 23 = .ok (.iload_n 1, 1) := by decide +kernel
theorem dX0_followerIf_24 : decode cX0_followerIf 24 = .ok (.istore 6, 2) := by decide +kernel
theorem dX0_followerIf_26 : decode cX0_followerIf 26 = .ok (.aload_n 0, 1) := by decide +kernel
theorem dX0_followerIf_27 : decode cX0_followerIf 27 = .ok (.getfield 19, 3) := by decide +kernel
theorem dX0_followerIf_30 : decode cX0_followerIf 30 = .ok (.tableswitch 114 1 6 #[38, 46, 53, 83, 85, 95], 38) := by decide +kernel
theorem dX0_followerIf_68 : decode cX0_followerIf 68 = .ok (.aload_n 0, 1) := by decide +kernel
theorem dX0_followerIf_69 : decode cX0_followerIf 69 = .ok (.iload 6, 2) := by decide +kernel
theorem dX0_followerIf_71 : decode cX0_followerIf 71 = .ok (.iload_n 2, 1) := by decide +kernel
theorem dX0_followerIf_72 : decode cX0_followerIf 72 = .ok (.invokevirtual 58, 3) := by decide +kernel
theorem dX0_followerIf_75 : decode cX0_followerIf 75 = .ok (.ireturn, 1) := by decide +kernel
theorem dX0_followerIf_76 : decode cX0_followerIf 76 = .ok (.iload 6, 2) := by decide +kernel
theorem dX0_followerIf_78 : decode cX0_followerIf 78 = .ok (.iload_n 2, 1) := by decide +kernel
theorem dX0_followerIf_79 : decode cX0_followerIf 79 = .ok (.invokestatic 62, 3) := by decide +kernel
theorem dX0_followerIf_82 : decode cX0_followerIf 82 = .ok (.ireturn, 1) := by decide +kernel
theorem dX0_followerIf_83 : decode cX0_followerIf 83 = .ok (.aload_n 0, 1) := by decide +kernel
theorem dX0_followerIf_84 : decode cX0_followerIf 84 = .ok (.iload 6, 2) := by decide +kernel
theorem dX0_followerIf_86 : decode cX0_followerIf 86 = .ok (.iload_n 2, 1) := by decide +kernel
theorem dX0_followerIf_87 : decode cX0_followerIf 87 = .ok (.invokevirtual 58, 3) := by decide +kernel
theorem dX0_followerIf_90 : decode cX0_followerIf 90 = .ok (.istore 7, 2) := by decide +kernel
theorem dX0_followerIf_92 : decode cX0_followerIf 92 = .ok (.aload_n 0, 1) := by decide +kernel
theorem dX0_followerIf_93 : decode cX0_followerIf 93 = .ok (.iload 5, 2) := by decide +kernel
theorem dX0_followerIf_95 : decode cX0_followerIf 95 = .ok (.ifCond .eq 11, 3) := by decide +kernel
theorem dX0_followerIf_98 : decode cX0_followerIf 98 = .ok (.iload 4, 2) := by decide +kernel
theorem dX0_followerIf_100 : decode cX0_followerIf 100 = .ok (.iload 7, 2) := by decide +kernel
theorem dX0_followerIf_102 : decode cX0_followerIf 102 = .ok (.isub, 1) := by decide +kernel
theorem dX0_followerIf_103 : decode cX0_followerIf 103 = .ok (.goto 5, 3) := by decide +kernel
theorem dX0_followerIf_106 : decode cX0_followerIf 106 = .ok (.iload 7, 2) := by decide +kernel
theorem dX0_followerIf_108 : decode cX0_followerIf 108 = .ok (.iload_n 2, 1) := by decide +kernel
theorem dX0_followerIf_109 : decode cX0_followerIf 109 = .ok (.invokevirtual 58, 3) := by decide +kernel
theorem dX0_followerIf_112 : decode cX0_followerIf 112 = .ok (.ireturn, 1) := by decide +kernel
theorem dX0_followerIf_113 : decode cX0_followerIf 113 = .ok (.iload_n 1, 1) := by decide +kernel
theorem dX0_followerIf_114 : decode cX0_followerIf 114 = .ok (.ireturn, 1) := by decide +kernel
theorem dX0_followerIf_115 : decode cX0_followerIf 115 = .ok (.iload 4, 2) := by decide +kernel
theorem dX0_followerIf_117 : decode cX0_followerIf 117 = .ok (.iload 6, 2) := by decide +kernel
theorem dX0_followerIf_119 : decode cX0_followerIf 119 = .ok (.iload_n 2, 1) := by decide +kernel
theorem dX0_followerIf_120 : decode cX0_followerIf 120 = .ok (.invokestatic 62, 3) := by decide +kernel
theorem dX0_followerIf_123 : decode cX0_followerIf 123 = .ok (.isub, 1) := by decide +kernel
theorem dX0_followerIf_124 : decode cX0_followerIf 124 = .ok (.ireturn, 1) := by decide +kernel
theorem dX0_followerIf_125 : decode cX0_followerIf 125 = .ok (.iload_n 1, 1) := by decide +kernel
theorem dX0_followerIf_126 : decode cX0_followerIf 126 = .ok (.ifCond .eq 9, 3) := by decide +kernel
theorem dX0_followerIf_129 : decode cX0_followerIf 129 = .ok (.iload_n 1, 1) := by decide +kernel
theorem dX0_followerIf_130 : decode cX0_followerIf 130 = .ok (.iload 4, 2) := by decide +kernel
theorem dX0_followerIf_132 : decode cX0_followerIf 132 = .ok (.if_icmp .ne 10, 3) := by decide +kernel
theorem dX0_followerIf_135 : decode cX0_followerIf 135 = .ok (.iload 4, 2) := by decide +kernel
theorem dX0_followerIf_137 : decode cX0_followerIf 137 = .ok (.iload_n 1, 1) := by decide +kernel
theorem dX0_followerIf_138 : decode cX0_followerIf 138 = .ok (.isub, 1) := by decide +kernel
theorem dX0_followerIf_139 : decode cX0_followerIf 139 = .ok (.goto 4, 3) := by decide +kernel
theorem dX0_followerIf_142 : decode cX0_followerIf 142 = .ok (.iload_n 1, 1) := by decide +kernel
theorem dX0_followerIf_143 : decode cX0_followerIf 143 = .ok (.ireturn, 1) := by decide +kernel
theorem dX0_followerIf_144 : decode cX0_followerIf 144 = .ok (.iload 6, 2) := by decide +kernel
theorem dX0_followerIf_146 : decode cX0_followerIf 146 = .ok (.ireturn, 1) := by decide +kernel
def m_X0_followerIf (p0 : Nat) (v1 : Int32) (v2 : Int32) (v3 : Int32) (μ : fm_I) (ν : fm_L) : Option (Int32) :=
  fm_g (Nat.beq (fm_k p0) 0) ((m_X5_isOdd v3 μ ν).bind (fun r6 => if r6 = 0 then if (μ p0 2) = (nI 1) then (m_X0_shifted p0 v1 v2 μ ν).bind (fun r72 => some r72) else if (μ p0 2) = (nI 2) then (m_X0_paired v1 v2 μ ν).bind (fun r79 => some r79) else if (μ p0 2) = (nI 3) then (m_X0_shifted p0 v1 v2 μ ν).bind (fun r87 => if r6 = 0 then (m_X0_shifted p0 r87 v2 μ ν).bind (fun r109 => some r109) else (m_X0_shifted p0 ((((v2 - ((nI 1)))) - r87)) v2 μ ν).bind (fun r109 => some r109)) else if (μ p0 2) = (nI 4) then some v1 else if (μ p0 2) = (nI 5) then (m_X0_paired v1 v2 μ ν).bind (fun r120 => some ((((v2 - ((nI 1)))) - r120))) else if (μ p0 2) = (nI 6) then if v1 = 0 then some ((((v2 - ((nI 1)))) - v1)) else if v1 = (v2 - ((nI 1))) then some ((((v2 - ((nI 1)))) - v1)) else some v1 else some v1 else if (μ p0 2) = (nI 1) then (m_X0_shifted p0 ((((v2 - ((nI 1)))) - v1)) v2 μ ν).bind (fun r72 => some r72) else if (μ p0 2) = (nI 2) then (m_X0_paired ((((v2 - ((nI 1)))) - v1)) v2 μ ν).bind (fun r79 => some r79) else if (μ p0 2) = (nI 3) then (m_X0_shifted p0 ((((v2 - ((nI 1)))) - v1)) v2 μ ν).bind (fun r87 => if r6 = 0 then (m_X0_shifted p0 r87 v2 μ ν).bind (fun r109 => some r109) else (m_X0_shifted p0 ((((v2 - ((nI 1)))) - r87)) v2 μ ν).bind (fun r109 => some r109)) else if (μ p0 2) = (nI 4) then some v1 else if (μ p0 2) = (nI 5) then (m_X0_paired ((((v2 - ((nI 1)))) - v1)) v2 μ ν).bind (fun r120 => some ((((v2 - ((nI 1)))) - r120))) else if (μ p0 2) = (nI 6) then if v1 = 0 then some ((((v2 - ((nI 1)))) - v1)) else if v1 = (v2 - ((nI 1))) then some ((((v2 - ((nI 1)))) - v1)) else some v1 else some ((((v2 - ((nI 1)))) - v1))))
theorem ok_X0_followerIf : fm_okV yX0_followerIf cX0_followerIf 8 (some .int) 3 := ⟨m_cd_X0_followerIf, m_im_X0_followerIf, m_se_X0_X0_followerIf, m_ini_X0, by decide +kernel, by decide +kernel, by decide +kernel⟩
set_option maxHeartbeats 4000000 in
set_option maxRecDepth 100000 in
theorem j_X0_followerIf {X : fm_X} {G : fm_G} {l : Launch} {p0 : Nat} {v1 : Int32} {v2 : Int32} {v3 : Int32} {μ : fm_I} {ν : fm_L} (C : fm_C X G l cX0_followerIf RX0 8 (some .int) 2 34) {F : Int32 → State → Prop} (hF : F = fun r => fm_Qi X G (r, μ, ν)) : fm_J X G 8 F (m_X0_followerIf p0 v1 v2 v3 μ ν) μ ν 0 [(0, .ref (G.2.2.1 p0)), (1, .int v1), (2, .int v2), (3, .int v3)] [] := by
  unfold m_X0_followerIf
  refine fm_guard (fun h1 => ?_)
  refine fm_iload_n (pc := 0) C dX0_followerIf_0 rfl rfl ?_
  refine fm_iconst (pc := 1) (v := (nI 1)) C dX0_followerIf_1 (by decide) ?_
  refine fm_isub (pc := 2) C dX0_followerIf_2 ?_
  refine fm_istore (pc := 3) C dX0_followerIf_3 (by decide) rfl ?_
  refine fm_iload_n (pc := 5) C dX0_followerIf_5 rfl rfl ?_
  refine fm_bind (fun r6 e6 => ?_)
  refine fm_cNi0 (pc := 6) C (t_X5_isOdd e6) ok_X5_isOdd (C.2.2.2.2.2.2.2.2.2.2.2.2.1.1) dX0_followerIf_6 ⟨Nat.le_of_ble_eq_true rfl, Nat.le_of_ble_eq_true rfl⟩ rfl rfl (Nat.le_of_ble_eq_true rfl) ?_
  refine fm_istore (pc := 9) C dX0_followerIf_9 (by decide) rfl ?_
  refine fm_iload (pc := 11) C dX0_followerIf_11 rfl ?_
  refine fm_if_eq (pc := 13) (tgt := 23) C dX0_followerIf_13 (by decide) (fun c2 => ?_) (fun c2 => ?_)
  · refine fm_iload_n (pc := 23) C dX0_followerIf_23 rfl rfl ?_
    refine fm_istore (pc := 24) C dX0_followerIf_24 (by decide) rfl ?_
    refine fm_aload_n (pc := 26) C dX0_followerIf_26 rfl rfl ?_
    refine g0_kind (pc := 27) C (Nat.eq_of_beq_eq_true h1) dX0_followerIf_27 m_fl_X0_19 ?_
    refine fm_ite (fun s3 => ?_) (fun s3 => ?_)
    · refine fm_tabIn (pc := 30) (tgt := 68) (off := 38) C dX0_followerIf_30 (by rw [s3]; decide) (by rw [s3]; decide) (by rw [s3]; decide) (by decide) ?_
      refine fm_aload_n (pc := 68) C dX0_followerIf_68 rfl rfl ?_
      refine fm_iload (pc := 69) C dX0_followerIf_69 rfl ?_
      refine fm_iload_n (pc := 71) C dX0_followerIf_71 rfl rfl ?_
      refine fm_bind (fun r72 e72 => ?_)
      refine fm_cVi0 (pc := 72) C (t_X0_shifted e72) ok_X0_shifted (fm_kcn0 (Nat.eq_of_beq_eq_true h1)) m_ml_X0_58 dX0_followerIf_72 ⟨Nat.le_of_ble_eq_true rfl, Nat.le_of_ble_eq_true rfl⟩ rfl rfl (Nat.le_of_ble_eq_true rfl) ?_
      exact fm_zret0 (pc := 75) C hF rfl rfl dX0_followerIf_75
    · refine fm_ite (fun s4 => ?_) (fun s4 => ?_)
      · refine fm_tabIn (pc := 30) (tgt := 76) (off := 46) C dX0_followerIf_30 (by rw [s4]; decide) (by rw [s4]; decide) (by rw [s4]; decide) (by decide) ?_
        refine fm_iload (pc := 76) C dX0_followerIf_76 rfl ?_
        refine fm_iload_n (pc := 78) C dX0_followerIf_78 rfl rfl ?_
        refine fm_bind (fun r79 e79 => ?_)
        refine fm_cSi0 (pc := 79) C (t_X0_paired e79) ok_X0_paired m_ml_X0_62 dX0_followerIf_79 ⟨Nat.le_of_ble_eq_true rfl, Nat.le_of_ble_eq_true rfl⟩ rfl rfl (Nat.le_of_ble_eq_true rfl) ?_
        exact fm_zret0 (pc := 82) C hF rfl rfl dX0_followerIf_82
      · refine fm_ite (fun s5 => ?_) (fun s5 => ?_)
        · refine fm_tabIn (pc := 30) (tgt := 83) (off := 53) C dX0_followerIf_30 (by rw [s5]; decide) (by rw [s5]; decide) (by rw [s5]; decide) (by decide) ?_
          refine fm_aload_n (pc := 83) C dX0_followerIf_83 rfl rfl ?_
          refine fm_iload (pc := 84) C dX0_followerIf_84 rfl ?_
          refine fm_iload_n (pc := 86) C dX0_followerIf_86 rfl rfl ?_
          refine fm_bind (fun r87 e87 => ?_)
          refine fm_cVi0 (pc := 87) C (t_X0_shifted e87) ok_X0_shifted (fm_kcn0 (Nat.eq_of_beq_eq_true h1)) m_ml_X0_58 dX0_followerIf_87 ⟨Nat.le_of_ble_eq_true rfl, Nat.le_of_ble_eq_true rfl⟩ rfl rfl (Nat.le_of_ble_eq_true rfl) ?_
          refine fm_istore (pc := 90) C dX0_followerIf_90 (by decide) rfl ?_
          refine fm_aload_n (pc := 92) C dX0_followerIf_92 rfl rfl ?_
          refine fm_iload (pc := 93) C dX0_followerIf_93 rfl ?_
          refine fm_if_eq (pc := 95) (tgt := 106) C dX0_followerIf_95 (by decide) (fun c6 => ?_) (fun c6 => ?_)
          · refine fm_iload (pc := 106) C dX0_followerIf_106 rfl ?_
            refine fm_iload_n (pc := 108) C dX0_followerIf_108 rfl rfl ?_
            refine fm_bind (fun r109 e109 => ?_)
            refine fm_cVi0 (pc := 109) C (t_X0_shifted e109) ok_X0_shifted (fm_kcn0 (Nat.eq_of_beq_eq_true h1)) m_ml_X0_58 dX0_followerIf_109 ⟨Nat.le_of_ble_eq_true rfl, Nat.le_of_ble_eq_true rfl⟩ rfl rfl (Nat.le_of_ble_eq_true rfl) ?_
            exact fm_zret0 (pc := 112) C hF rfl rfl dX0_followerIf_112
          · refine fm_iload (pc := 98) C dX0_followerIf_98 rfl ?_
            refine fm_iload (pc := 100) C dX0_followerIf_100 rfl ?_
            refine fm_isub (pc := 102) C dX0_followerIf_102 ?_
            refine fm_goto (pc := 103) (tgt := 108) C dX0_followerIf_103 (by decide) ?_
            refine fm_iload_n (pc := 108) C dX0_followerIf_108 rfl rfl ?_
            refine fm_bind (fun r109 e109 => ?_)
            refine fm_cVi0 (pc := 109) C (t_X0_shifted e109) ok_X0_shifted (fm_kcn0 (Nat.eq_of_beq_eq_true h1)) m_ml_X0_58 dX0_followerIf_109 ⟨Nat.le_of_ble_eq_true rfl, Nat.le_of_ble_eq_true rfl⟩ rfl rfl (Nat.le_of_ble_eq_true rfl) ?_
            exact fm_zret0 (pc := 112) C hF rfl rfl dX0_followerIf_112
        · refine fm_ite (fun s7 => ?_) (fun s7 => ?_)
          · refine fm_tabIn (pc := 30) (tgt := 113) (off := 83) C dX0_followerIf_30 (by rw [s7]; decide) (by rw [s7]; decide) (by rw [s7]; decide) (by decide) ?_
            refine fm_iload_n (pc := 113) C dX0_followerIf_113 rfl rfl ?_
            exact fm_zret0 (pc := 114) C hF rfl rfl dX0_followerIf_114
          · refine fm_ite (fun s8 => ?_) (fun s8 => ?_)
            · refine fm_tabIn (pc := 30) (tgt := 115) (off := 85) C dX0_followerIf_30 (by rw [s8]; decide) (by rw [s8]; decide) (by rw [s8]; decide) (by decide) ?_
              refine fm_iload (pc := 115) C dX0_followerIf_115 rfl ?_
              refine fm_iload (pc := 117) C dX0_followerIf_117 rfl ?_
              refine fm_iload_n (pc := 119) C dX0_followerIf_119 rfl rfl ?_
              refine fm_bind (fun r120 e120 => ?_)
              refine fm_cSi0 (pc := 120) C (t_X0_paired e120) ok_X0_paired m_ml_X0_62 dX0_followerIf_120 ⟨Nat.le_of_ble_eq_true rfl, Nat.le_of_ble_eq_true rfl⟩ rfl rfl (Nat.le_of_ble_eq_true rfl) ?_
              refine fm_isub (pc := 123) C dX0_followerIf_123 ?_
              exact fm_zret0 (pc := 124) C hF rfl rfl dX0_followerIf_124
            · refine fm_ite (fun s9 => ?_) (fun s9 => ?_)
              · refine fm_tabIn (pc := 30) (tgt := 125) (off := 95) C dX0_followerIf_30 (by rw [s9]; decide) (by rw [s9]; decide) (by rw [s9]; decide) (by decide) ?_
                refine fm_iload_n (pc := 125) C dX0_followerIf_125 rfl rfl ?_
                refine fm_if_eq (pc := 126) (tgt := 135) C dX0_followerIf_126 (by decide) (fun c10 => ?_) (fun c10 => ?_)
                · refine fm_iload (pc := 135) C dX0_followerIf_135 rfl ?_
                  refine fm_iload_n (pc := 137) C dX0_followerIf_137 rfl rfl ?_
                  refine fm_isub (pc := 138) C dX0_followerIf_138 ?_
                  refine fm_goto (pc := 139) (tgt := 143) C dX0_followerIf_139 (by decide) ?_
                  exact fm_zret0 (pc := 143) C hF rfl rfl dX0_followerIf_143
                · refine fm_iload_n (pc := 129) C dX0_followerIf_129 rfl rfl ?_
                  refine fm_iload (pc := 130) C dX0_followerIf_130 rfl ?_
                  refine fm_icmp_ne (pc := 132) (tgt := 142) C dX0_followerIf_132 (by decide) (fun c11 => ?_) (fun c11 => ?_)
                  · refine fm_iload (pc := 135) C dX0_followerIf_135 rfl ?_
                    refine fm_iload_n (pc := 137) C dX0_followerIf_137 rfl rfl ?_
                    refine fm_isub (pc := 138) C dX0_followerIf_138 ?_
                    refine fm_goto (pc := 139) (tgt := 143) C dX0_followerIf_139 (by decide) ?_
                    exact fm_zret0 (pc := 143) C hF rfl rfl dX0_followerIf_143
                  · refine fm_iload_n (pc := 142) C dX0_followerIf_142 rfl rfl ?_
                    exact fm_zret0 (pc := 143) C hF rfl rfl dX0_followerIf_143
              · refine fm_tabOut (pc := 30) (tgt := 144) C dX0_followerIf_30 (by have a0 := fm_ne (nI 1) (k := 1) (by decide) s3; have a1 := fm_ne (nI 2) (k := 2) (by decide) s4; have a2 := fm_ne (nI 3) (k := 3) (by decide) s5; have a3 := fm_ne (nI 4) (k := 4) (by decide) s7; have a4 := fm_ne (nI 5) (k := 5) (by decide) s8; have a5 := fm_ne (nI 6) (k := 6) (by decide) s9; omega) (by decide) ?_
                refine fm_iload (pc := 144) C dX0_followerIf_144 rfl ?_
                exact fm_zret0 (pc := 146) C hF rfl rfl dX0_followerIf_146
  · refine fm_iload (pc := 16) C dX0_followerIf_16 rfl ?_
    refine fm_iload_n (pc := 18) C dX0_followerIf_18 rfl rfl ?_
    refine fm_isub (pc := 19) C dX0_followerIf_19 ?_
    refine fm_goto (pc := 20) (tgt := 24) C dX0_followerIf_20 (by decide) ?_
    refine fm_istore (pc := 24) C dX0_followerIf_24 (by decide) rfl ?_
    refine fm_aload_n (pc := 26) C dX0_followerIf_26 rfl rfl ?_
    refine g0_kind (pc := 27) C (Nat.eq_of_beq_eq_true h1) dX0_followerIf_27 m_fl_X0_19 ?_
    refine fm_ite (fun s12 => ?_) (fun s12 => ?_)
    · refine fm_tabIn (pc := 30) (tgt := 68) (off := 38) C dX0_followerIf_30 (by rw [s12]; decide) (by rw [s12]; decide) (by rw [s12]; decide) (by decide) ?_
      refine fm_aload_n (pc := 68) C dX0_followerIf_68 rfl rfl ?_
      refine fm_iload (pc := 69) C dX0_followerIf_69 rfl ?_
      refine fm_iload_n (pc := 71) C dX0_followerIf_71 rfl rfl ?_
      refine fm_bind (fun r72 e72 => ?_)
      refine fm_cVi0 (pc := 72) C (t_X0_shifted e72) ok_X0_shifted (fm_kcn0 (Nat.eq_of_beq_eq_true h1)) m_ml_X0_58 dX0_followerIf_72 ⟨Nat.le_of_ble_eq_true rfl, Nat.le_of_ble_eq_true rfl⟩ rfl rfl (Nat.le_of_ble_eq_true rfl) ?_
      exact fm_zret0 (pc := 75) C hF rfl rfl dX0_followerIf_75
    · refine fm_ite (fun s13 => ?_) (fun s13 => ?_)
      · refine fm_tabIn (pc := 30) (tgt := 76) (off := 46) C dX0_followerIf_30 (by rw [s13]; decide) (by rw [s13]; decide) (by rw [s13]; decide) (by decide) ?_
        refine fm_iload (pc := 76) C dX0_followerIf_76 rfl ?_
        refine fm_iload_n (pc := 78) C dX0_followerIf_78 rfl rfl ?_
        refine fm_bind (fun r79 e79 => ?_)
        refine fm_cSi0 (pc := 79) C (t_X0_paired e79) ok_X0_paired m_ml_X0_62 dX0_followerIf_79 ⟨Nat.le_of_ble_eq_true rfl, Nat.le_of_ble_eq_true rfl⟩ rfl rfl (Nat.le_of_ble_eq_true rfl) ?_
        exact fm_zret0 (pc := 82) C hF rfl rfl dX0_followerIf_82
      · refine fm_ite (fun s14 => ?_) (fun s14 => ?_)
        · refine fm_tabIn (pc := 30) (tgt := 83) (off := 53) C dX0_followerIf_30 (by rw [s14]; decide) (by rw [s14]; decide) (by rw [s14]; decide) (by decide) ?_
          refine fm_aload_n (pc := 83) C dX0_followerIf_83 rfl rfl ?_
          refine fm_iload (pc := 84) C dX0_followerIf_84 rfl ?_
          refine fm_iload_n (pc := 86) C dX0_followerIf_86 rfl rfl ?_
          refine fm_bind (fun r87 e87 => ?_)
          refine fm_cVi0 (pc := 87) C (t_X0_shifted e87) ok_X0_shifted (fm_kcn0 (Nat.eq_of_beq_eq_true h1)) m_ml_X0_58 dX0_followerIf_87 ⟨Nat.le_of_ble_eq_true rfl, Nat.le_of_ble_eq_true rfl⟩ rfl rfl (Nat.le_of_ble_eq_true rfl) ?_
          refine fm_istore (pc := 90) C dX0_followerIf_90 (by decide) rfl ?_
          refine fm_aload_n (pc := 92) C dX0_followerIf_92 rfl rfl ?_
          refine fm_iload (pc := 93) C dX0_followerIf_93 rfl ?_
          refine fm_if_eq (pc := 95) (tgt := 106) C dX0_followerIf_95 (by decide) (fun c15 => ?_) (fun c15 => ?_)
          · refine fm_iload (pc := 106) C dX0_followerIf_106 rfl ?_
            refine fm_iload_n (pc := 108) C dX0_followerIf_108 rfl rfl ?_
            refine fm_bind (fun r109 e109 => ?_)
            refine fm_cVi0 (pc := 109) C (t_X0_shifted e109) ok_X0_shifted (fm_kcn0 (Nat.eq_of_beq_eq_true h1)) m_ml_X0_58 dX0_followerIf_109 ⟨Nat.le_of_ble_eq_true rfl, Nat.le_of_ble_eq_true rfl⟩ rfl rfl (Nat.le_of_ble_eq_true rfl) ?_
            exact fm_zret0 (pc := 112) C hF rfl rfl dX0_followerIf_112
          · refine fm_iload (pc := 98) C dX0_followerIf_98 rfl ?_
            refine fm_iload (pc := 100) C dX0_followerIf_100 rfl ?_
            refine fm_isub (pc := 102) C dX0_followerIf_102 ?_
            refine fm_goto (pc := 103) (tgt := 108) C dX0_followerIf_103 (by decide) ?_
            refine fm_iload_n (pc := 108) C dX0_followerIf_108 rfl rfl ?_
            refine fm_bind (fun r109 e109 => ?_)
            refine fm_cVi0 (pc := 109) C (t_X0_shifted e109) ok_X0_shifted (fm_kcn0 (Nat.eq_of_beq_eq_true h1)) m_ml_X0_58 dX0_followerIf_109 ⟨Nat.le_of_ble_eq_true rfl, Nat.le_of_ble_eq_true rfl⟩ rfl rfl (Nat.le_of_ble_eq_true rfl) ?_
            exact fm_zret0 (pc := 112) C hF rfl rfl dX0_followerIf_112
        · refine fm_ite (fun s16 => ?_) (fun s16 => ?_)
          · refine fm_tabIn (pc := 30) (tgt := 113) (off := 83) C dX0_followerIf_30 (by rw [s16]; decide) (by rw [s16]; decide) (by rw [s16]; decide) (by decide) ?_
            refine fm_iload_n (pc := 113) C dX0_followerIf_113 rfl rfl ?_
            exact fm_zret0 (pc := 114) C hF rfl rfl dX0_followerIf_114
          · refine fm_ite (fun s17 => ?_) (fun s17 => ?_)
            · refine fm_tabIn (pc := 30) (tgt := 115) (off := 85) C dX0_followerIf_30 (by rw [s17]; decide) (by rw [s17]; decide) (by rw [s17]; decide) (by decide) ?_
              refine fm_iload (pc := 115) C dX0_followerIf_115 rfl ?_
              refine fm_iload (pc := 117) C dX0_followerIf_117 rfl ?_
              refine fm_iload_n (pc := 119) C dX0_followerIf_119 rfl rfl ?_
              refine fm_bind (fun r120 e120 => ?_)
              refine fm_cSi0 (pc := 120) C (t_X0_paired e120) ok_X0_paired m_ml_X0_62 dX0_followerIf_120 ⟨Nat.le_of_ble_eq_true rfl, Nat.le_of_ble_eq_true rfl⟩ rfl rfl (Nat.le_of_ble_eq_true rfl) ?_
              refine fm_isub (pc := 123) C dX0_followerIf_123 ?_
              exact fm_zret0 (pc := 124) C hF rfl rfl dX0_followerIf_124
            · refine fm_ite (fun s18 => ?_) (fun s18 => ?_)
              · refine fm_tabIn (pc := 30) (tgt := 125) (off := 95) C dX0_followerIf_30 (by rw [s18]; decide) (by rw [s18]; decide) (by rw [s18]; decide) (by decide) ?_
                refine fm_iload_n (pc := 125) C dX0_followerIf_125 rfl rfl ?_
                refine fm_if_eq (pc := 126) (tgt := 135) C dX0_followerIf_126 (by decide) (fun c19 => ?_) (fun c19 => ?_)
                · refine fm_iload (pc := 135) C dX0_followerIf_135 rfl ?_
                  refine fm_iload_n (pc := 137) C dX0_followerIf_137 rfl rfl ?_
                  refine fm_isub (pc := 138) C dX0_followerIf_138 ?_
                  refine fm_goto (pc := 139) (tgt := 143) C dX0_followerIf_139 (by decide) ?_
                  exact fm_zret0 (pc := 143) C hF rfl rfl dX0_followerIf_143
                · refine fm_iload_n (pc := 129) C dX0_followerIf_129 rfl rfl ?_
                  refine fm_iload (pc := 130) C dX0_followerIf_130 rfl ?_
                  refine fm_icmp_ne (pc := 132) (tgt := 142) C dX0_followerIf_132 (by decide) (fun c20 => ?_) (fun c20 => ?_)
                  · refine fm_iload (pc := 135) C dX0_followerIf_135 rfl ?_
                    refine fm_iload_n (pc := 137) C dX0_followerIf_137 rfl rfl ?_
                    refine fm_isub (pc := 138) C dX0_followerIf_138 ?_
                    refine fm_goto (pc := 139) (tgt := 143) C dX0_followerIf_139 (by decide) ?_
                    exact fm_zret0 (pc := 143) C hF rfl rfl dX0_followerIf_143
                  · refine fm_iload_n (pc := 142) C dX0_followerIf_142 rfl rfl ?_
                    exact fm_zret0 (pc := 143) C hF rfl rfl dX0_followerIf_143
              · refine fm_tabOut (pc := 30) (tgt := 144) C dX0_followerIf_30 (by have a0 := fm_ne (nI 1) (k := 1) (by decide) s12; have a1 := fm_ne (nI 2) (k := 2) (by decide) s13; have a2 := fm_ne (nI 3) (k := 3) (by decide) s14; have a3 := fm_ne (nI 4) (k := 4) (by decide) s16; have a4 := fm_ne (nI 5) (k := 5) (by decide) s17; have a5 := fm_ne (nI 6) (k := 6) (by decide) s18; omega) (by decide) ?_
                refine fm_iload (pc := 144) C dX0_followerIf_144 rfl ?_
                exact fm_zret0 (pc := 146) C hF rfl rfl dX0_followerIf_146
theorem t_X0_followerIf {l : Launch} {G : fm_G} {p0 : Nat} {v1 : Int32} {v2 : Int32} {v3 : Int32} {μ : fm_I} {ν : fm_L} {r : Int32} (h : m_X0_followerIf p0 v1 v2 v3 μ ν = some r) : fm_Mi l G yX0_followerIf cX0_followerIf 8 (some .int) 2 34 [.ref (G.2.2.1 p0), .int v1, .int v2, .int v3] μ ν (r, μ, ν) := fm_Mi_of (by decide +kernel) (Nat.le_of_ble_eq_true rfl) (fun _ C => j_X0_followerIf C rfl r h)
theorem dX0_follower_0 : decode cX0_follower 0 = .ok (.aload_n 0, 1) := by decide +kernel
theorem dX0_follower_1 : decode cX0_follower 1 = .ok (.iload_n 1, 1) := by decide +kernel
theorem dX0_follower_2 : decode cX0_follower 2 = .ok (.aload_n 0, 1) := by decide +kernel
theorem dX0_follower_3 : decode cX0_follower 3 = .ok (.getfield 25, 3) := by decide +kernel
theorem dX0_follower_6 : decode cX0_follower 6 = .ok (.aload_n 0, 1) := by decide +kernel
theorem dX0_follower_7 : decode cX0_follower 7 = .ok (.getfield 22, 3) := by decide +kernel
theorem dX0_follower_10 : decode cX0_follower 10 = .ok (.invokevirtual 50, 3) := by decide +kernel
theorem dX0_follower_13 : decode cX0_follower 13 = .ok (.ireturn, 1) := by decide +kernel
def m_X0_follower (p0 : Nat) (v1 : Int32) (μ : fm_I) (ν : fm_L) : Option (Int32) :=
  fm_g (Nat.beq (fm_k p0) 0) ((m_X0_followerIf p0 v1 ((μ p0 4)) ((μ p0 3)) μ ν).bind (fun r10 => some r10))
theorem ok_X0_follower : fm_okV yX0_follower cX0_follower 2 (some .int) 1 := ⟨m_cd_X0_follower, m_im_X0_follower, m_se_X0_X0_follower, m_ini_X0, by decide +kernel, by decide +kernel, by decide +kernel⟩
set_option maxHeartbeats 4000000 in
set_option maxRecDepth 100000 in
theorem j_X0_follower {X : fm_X} {G : fm_G} {l : Launch} {p0 : Nat} {v1 : Int32} {μ : fm_I} {ν : fm_L} (C : fm_C X G l cX0_follower RX0 2 (some .int) 3 61) {F : Int32 → State → Prop} (hF : F = fun r => fm_Qi X G (r, μ, ν)) : fm_J X G 2 F (m_X0_follower p0 v1 μ ν) μ ν 0 [(0, .ref (G.2.2.1 p0)), (1, .int v1)] [] := by
  unfold m_X0_follower
  refine fm_guard (fun h1 => ?_)
  refine fm_aload_n (pc := 0) C dX0_follower_0 rfl rfl ?_
  refine fm_iload_n (pc := 1) C dX0_follower_1 rfl rfl ?_
  refine fm_aload_n (pc := 2) C dX0_follower_2 rfl rfl ?_
  refine g0_strips (pc := 3) C (Nat.eq_of_beq_eq_true h1) dX0_follower_3 m_fl_X0_25 ?_
  refine fm_aload_n (pc := 6) C dX0_follower_6 rfl rfl ?_
  refine g0_twists (pc := 7) C (Nat.eq_of_beq_eq_true h1) dX0_follower_7 m_fl_X0_22 ?_
  refine fm_bind (fun r10 e10 => ?_)
  refine fm_cVi0 (pc := 10) C (t_X0_followerIf e10) ok_X0_followerIf (fm_kcn0 (Nat.eq_of_beq_eq_true h1)) m_ml_X0_50 dX0_follower_10 ⟨Nat.le_of_ble_eq_true rfl, Nat.le_of_ble_eq_true rfl⟩ rfl rfl (Nat.le_of_ble_eq_true rfl) ?_
  exact fm_zret0 (pc := 13) C hF rfl rfl dX0_follower_13
theorem t_X0_follower {l : Launch} {G : fm_G} {p0 : Nat} {v1 : Int32} {μ : fm_I} {ν : fm_L} {r : Int32} (h : m_X0_follower p0 v1 μ ν = some r) : fm_Mi l G yX0_follower cX0_follower 2 (some .int) 3 61 [.ref (G.2.2.1 p0), .int v1] μ ν (r, μ, ν) := fm_Mi_of (by decide +kernel) (Nat.le_of_ble_eq_true rfl) (fun _ C => j_X0_follower C rfl r h)
theorem dX0_stayingStrips_0 : decode cX0_stayingStrips 0 = .ok (.iconst 0, 1) := by decide +kernel
theorem dX0_stayingStrips_1 : decode cX0_stayingStrips 1 = .ok (.istore_n 1, 1) := by decide +kernel
theorem dX0_stayingStrips_2 : decode cX0_stayingStrips 2 = .ok (.iconst 0, 1) := by decide +kernel
theorem dX0_stayingStrips_3 : decode cX0_stayingStrips 3 = .ok (.istore_n 2, 1) := by decide +kernel
theorem dX0_stayingStrips_4 : decode cX0_stayingStrips 4 = .ok (.iload_n 2, 1) := by decide +kernel
theorem dX0_stayingStrips_5 : decode cX0_stayingStrips 5 = .ok (.aload_n 0, 1) := by decide +kernel
theorem dX0_stayingStrips_6 : decode cX0_stayingStrips 6 = .ok (.getfield 25, 3) := by decide +kernel
theorem dX0_stayingStrips_9 : decode cX0_stayingStrips 9 = .ok (.if_icmp .ge 21, 3) := by decide +kernel
theorem dX0_stayingStrips_12 : decode cX0_stayingStrips 12 = .ok (.aload_n 0, 1) := by decide +kernel
theorem dX0_stayingStrips_13 : decode cX0_stayingStrips 13 = .ok (.iload_n 2, 1) := by decide +kernel
theorem dX0_stayingStrips_14 : decode cX0_stayingStrips 14 = .ok (.invokevirtual 65, 3) := by decide +kernel
theorem dX0_stayingStrips_17 : decode cX0_stayingStrips 17 = .ok (.iload_n 2, 1) := by decide +kernel
theorem dX0_stayingStrips_18 : decode cX0_stayingStrips 18 = .ok (.if_icmp .ne 6, 3) := by decide +kernel
theorem dX0_stayingStrips_21 : decode cX0_stayingStrips 21 = .ok (.iinc 1 1, 3) := by decide +kernel
theorem dX0_stayingStrips_24 : decode cX0_stayingStrips 24 = .ok (.iinc 2 1, 3) := by decide +kernel
theorem dX0_stayingStrips_27 : decode cX0_stayingStrips 27 = .ok (.goto (-23), 3) := by decide +kernel
theorem dX0_stayingStrips_30 : decode cX0_stayingStrips 30 = .ok (.iload_n 1, 1) := by decide +kernel
theorem dX0_stayingStrips_31 : decode cX0_stayingStrips 31 = .ok (.ireturn, 1) := by decide +kernel
def m_X0_stayingStrips_4 (q0 : Nat) (μ : fm_I) (ν : fm_L) (K : Int32 → Option (Int32)) : Nat → Int32 → Int32 → Option (Int32)
  | 0, _, _ => none
  | k + 1, v1, v2 => if (μ q0 4) ≤ v2 then K v1 else (m_X0_follower q0 v2 μ ν).bind (fun r14 => if r14 = v2 then m_X0_stayingStrips_4 q0 μ ν K k ((v1 + nI 1)) ((v2 + nI 1)) else m_X0_stayingStrips_4 q0 μ ν K k v1 ((v2 + nI 1)))
def m_X0_stayingStrips (p0 : Nat) (μ : fm_I) (ν : fm_L) : Option (Int32) :=
  fm_g (Nat.beq (fm_k p0) 0) (m_X0_stayingStrips_4 p0 μ ν (fun x1_4 => some x1_4) 5000 ((nI 0)) ((nI 0)))
theorem ok_X0_stayingStrips : fm_okV yX0_stayingStrips cX0_stayingStrips 3 (some .int) 0 := ⟨m_cd_X0_stayingStrips, m_im_X0_stayingStrips, m_se_X0_X0_stayingStrips, m_ini_X0, by decide +kernel, by decide +kernel, by decide +kernel⟩
set_option maxHeartbeats 4000000 in
set_option maxRecDepth 100000 in
theorem j_X0_stayingStrips_4_ {X : fm_X} {G : fm_G} {l : Launch} {q0 : Nat} {μ : fm_I} {ν : fm_L} (C : fm_C X G l cX0_stayingStrips RX0 3 (some .int) 4 82) {F : Int32 → State → Prop} (hF : F = fun r => fm_Qi X G (r, μ, ν)) (hk0 : fm_k q0 = 0) {K : Int32 → Option (Int32)} (hK : ∀ (v1 : Int32), fm_J X G 3 F (K v1) μ ν 30 [(1, .int v1)] []) : ∀ (k : Nat) (v1 : Int32) (v2 : Int32), fm_J X G 3 F (m_X0_stayingStrips_4 q0 μ ν K k v1 v2) μ ν 4 [(0, .ref (G.2.2.1 q0)), (1, .int v1), (2, .int v2)] [] := by
  intro k
  induction k with
  | zero =>
    intro v1 v2
    exact fm_none
  | succ k ih =>
    intro v1 v2
    rw [m_X0_stayingStrips_4]
    refine fm_iload_n (pc := 4) C dX0_stayingStrips_4 rfl rfl ?_
    refine fm_aload_n (pc := 5) C dX0_stayingStrips_5 rfl rfl ?_
    refine g0_strips (pc := 6) C hk0 dX0_stayingStrips_6 m_fl_X0_25 ?_
    refine fm_icmp_ge (pc := 9) (tgt := 30) C dX0_stayingStrips_9 (by decide) (fun c2 => ?_) (fun c2 => ?_)
    · refine fm_less (lv' := [(1, .int v1)]) (by repeat (first | exact trivial | refine ⟨rfl, ?_⟩)) ?_
      exact hK _
    · refine fm_aload_n (pc := 12) C dX0_stayingStrips_12 rfl rfl ?_
      refine fm_iload_n (pc := 13) C dX0_stayingStrips_13 rfl rfl ?_
      refine fm_bind (fun r14 e14 => ?_)
      refine fm_cVi0 (pc := 14) C (t_X0_follower e14) ok_X0_follower (fm_kcn0 hk0) m_ml_X0_65 dX0_stayingStrips_14 ⟨Nat.le_of_ble_eq_true rfl, Nat.le_of_ble_eq_true rfl⟩ rfl rfl (Nat.le_of_ble_eq_true rfl) ?_
      refine fm_iload_n (pc := 17) C dX0_stayingStrips_17 rfl rfl ?_
      refine fm_icmp_ne (pc := 18) (tgt := 24) C dX0_stayingStrips_18 (by decide) (fun c3 => ?_) (fun c3 => ?_)
      · refine fm_iinc (pc := 21) C dX0_stayingStrips_21 rfl (v := (v1 + nI 1)) rfl (by decide) rfl ?_
        refine fm_iinc (pc := 24) C dX0_stayingStrips_24 rfl (v := (v2 + nI 1)) rfl (by decide) rfl ?_
        refine fm_goto (pc := 27) (tgt := 4) C dX0_stayingStrips_27 (by decide) ?_
        refine fm_less (lv' := [(0, .ref (G.2.2.1 q0)), (1, .int ((v1 + nI 1))), (2, .int ((v2 + nI 1)))]) (by repeat (first | exact trivial | refine ⟨rfl, ?_⟩)) ?_
        exact ih _ _
      · refine fm_iinc (pc := 24) C dX0_stayingStrips_24 rfl (v := (v2 + nI 1)) rfl (by decide) rfl ?_
        refine fm_goto (pc := 27) (tgt := 4) C dX0_stayingStrips_27 (by decide) ?_
        refine fm_less (lv' := [(0, .ref (G.2.2.1 q0)), (1, .int v1), (2, .int ((v2 + nI 1)))]) (by repeat (first | exact trivial | refine ⟨rfl, ?_⟩)) ?_
        exact ih _ _
set_option maxHeartbeats 4000000 in
set_option maxRecDepth 100000 in
theorem j_X0_stayingStrips {X : fm_X} {G : fm_G} {l : Launch} {p0 : Nat} {μ : fm_I} {ν : fm_L} (C : fm_C X G l cX0_stayingStrips RX0 3 (some .int) 4 82) {F : Int32 → State → Prop} (hF : F = fun r => fm_Qi X G (r, μ, ν)) : fm_J X G 3 F (m_X0_stayingStrips p0 μ ν) μ ν 0 [(0, .ref (G.2.2.1 p0))] [] := by
  unfold m_X0_stayingStrips
  refine fm_guard (fun h1 => ?_)
  refine fm_iconst (pc := 0) (v := (nI 0)) C dX0_stayingStrips_0 (by decide) ?_
  refine fm_istore_n (pc := 1) C dX0_stayingStrips_1 rfl (by decide) rfl ?_
  refine fm_iconst (pc := 2) (v := (nI 0)) C dX0_stayingStrips_2 (by decide) ?_
  refine fm_istore_n (pc := 3) C dX0_stayingStrips_3 rfl (by decide) rfl ?_
  refine fm_less (lv' := [(0, .ref (G.2.2.1 p0)), (1, .int ((nI 0))), (2, .int ((nI 0)))]) (by repeat (first | exact trivial | refine ⟨rfl, ?_⟩)) ?_
  refine j_X0_stayingStrips_4_ C (q0 := p0) hF (Nat.eq_of_beq_eq_true h1) (fun x1_4 => ?_) _ _ _
  refine fm_iload_n (pc := 30) C dX0_stayingStrips_30 rfl rfl ?_
  exact fm_zret0 (pc := 31) C hF rfl rfl dX0_stayingStrips_31
theorem t_X0_stayingStrips {l : Launch} {G : fm_G} {p0 : Nat} {μ : fm_I} {ν : fm_L} {r : Int32} (h : m_X0_stayingStrips p0 μ ν = some r) : fm_Mi l G yX0_stayingStrips cX0_stayingStrips 3 (some .int) 4 82 [.ref (G.2.2.1 p0)] μ ν (r, μ, ν) := fm_Mi_of (by decide +kernel) (Nat.le_of_ble_eq_true rfl) (fun _ C => j_X0_stayingStrips C rfl r h)
theorem dX0_become_0 : decode cX0_become 0 = .ok (.aload_n 0, 1) := by decide +kernel
theorem dX0_become_1 : decode cX0_become 1 = .ok (.iload_n 1, 1) := by decide +kernel
theorem dX0_become_2 : decode cX0_become 2 = .ok (.putfield 19, 3) := by decide +kernel
theorem dX0_become_5 : decode cX0_become 5 = .ok (.aload_n 0, 1) := by decide +kernel
theorem dX0_become_6 : decode cX0_become 6 = .ok (.iload_n 2, 1) := by decide +kernel
theorem dX0_become_7 : decode cX0_become 7 = .ok (.putfield 22, 3) := by decide +kernel
theorem dX0_become_10 : decode cX0_become 10 = .ok (.aload_n 0, 1) := by decide +kernel
theorem dX0_become_11 : decode cX0_become 11 = .ok (.iload_n 3, 1) := by decide +kernel
theorem dX0_become_12 : decode cX0_become 12 = .ok (.putfield 25, 3) := by decide +kernel
theorem dX0_become_15 : decode cX0_become 15 = .ok (.aload_n 0, 1) := by decide +kernel
theorem dX0_become_16 : decode cX0_become 16 = .ok (.iload 4, 2) := by decide +kernel
theorem dX0_become_18 : decode cX0_become 18 = .ok (.putfield 28, 3) := by decide +kernel
theorem dX0_become_21 : decode cX0_become 21 = .ok (.aload_n 0, 1) := by decide +kernel
theorem dX0_become_22 : decode cX0_become 22 = .ok (.iload 5, 2) := by decide +kernel
theorem dX0_become_24 : decode cX0_become 24 = .ok (.putfield 31, 3) := by decide +kernel
theorem dX0_become_27 : decode cX0_become 27 = .ok (.aload_n 0, 1) := by decide +kernel
theorem dX0_become_28 : decode cX0_become 28 = .ok (.getfield 9, 3) := by decide +kernel
theorem dX0_become_31 : decode cX0_become 31 = .ok (.iconst 0, 1) := by decide +kernel
theorem dX0_become_32 : decode cX0_become 32 = .ok (.invokestatic 34, 3) := by decide +kernel
theorem dX0_become_35 : decode cX0_become 35 = .ok (.return_, 1) := by decide +kernel
def m_X0_become (p0 : Nat) (v1 : Int32) (v2 : Int32) (v3 : Int32) (v4 : Int32) (v5 : Int32) (μ : fm_I) (ν : fm_L) : Option (fm_I × fm_L) :=
  fm_g (Nat.beq (fm_k p0) 0) ((m_J7_fill_53178 ((p0 + 12)) ((nI 0)) (fm_u (fm_u (fm_u (fm_u (fm_u μ p0 2 v1) p0 3 v2) p0 4 v3) p0 5 v4) p0 6 v5) ν).bind (fun r32 => some ((r32.1, r32.2))))
theorem ok_X0_become : fm_okV yX0_become cX0_become 6 (none : Option Jvm.ClassFile.FieldType) 5 := ⟨m_cd_X0_become, m_im_X0_become, m_se_X0_X0_become, m_ini_X0, by decide +kernel, by decide +kernel, by decide +kernel⟩
set_option maxHeartbeats 4000000 in
set_option maxRecDepth 100000 in
theorem j_X0_become {X : fm_X} {G : fm_G} {l : Launch} {p0 : Nat} {v1 : Int32} {v2 : Int32} {v3 : Int32} {v4 : Int32} {v5 : Int32} {μ : fm_I} {ν : fm_L} (C : fm_C X G l cX0_become RX0 6 (none : Option Jvm.ClassFile.FieldType) 2 35) {F : (fm_I × fm_L) → State → Prop} (hF : F = fm_Qv X G) : fm_J X G 6 F (m_X0_become p0 v1 v2 v3 v4 v5 μ ν) μ ν 0 [(0, .ref (G.2.2.1 p0)), (1, .int v1), (2, .int v2), (3, .int v3), (4, .int v4), (5, .int v5)] [] := by
  unfold m_X0_become
  refine fm_guard (fun h1 => ?_)
  refine fm_aload_n (pc := 0) C dX0_become_0 rfl rfl ?_
  refine fm_iload_n (pc := 1) C dX0_become_1 rfl rfl ?_
  refine p0_kind (pc := 2) C (Nat.eq_of_beq_eq_true h1) dX0_become_2 m_fl_X0_19 ?_
  refine fm_aload_n (pc := 5) C dX0_become_5 rfl rfl ?_
  refine fm_iload_n (pc := 6) C dX0_become_6 rfl rfl ?_
  refine p0_twists (pc := 7) C (Nat.eq_of_beq_eq_true h1) dX0_become_7 m_fl_X0_22 ?_
  refine fm_aload_n (pc := 10) C dX0_become_10 rfl rfl ?_
  refine fm_iload_n (pc := 11) C dX0_become_11 rfl rfl ?_
  refine p0_strips (pc := 12) C (Nat.eq_of_beq_eq_true h1) dX0_become_12 m_fl_X0_25 ?_
  refine fm_aload_n (pc := 15) C dX0_become_15 rfl rfl ?_
  refine fm_iload (pc := 16) C dX0_become_16 rfl ?_
  refine p0_hand (pc := 18) C (Nat.eq_of_beq_eq_true h1) dX0_become_18 m_fl_X0_28 ?_
  refine fm_aload_n (pc := 21) C dX0_become_21 rfl rfl ?_
  refine fm_iload (pc := 22) C dX0_become_22 rfl ?_
  refine p0_a (pc := 24) C (Nat.eq_of_beq_eq_true h1) dX0_become_24 m_fl_X0_31 ?_
  refine fm_aload_n (pc := 27) C dX0_become_27 rfl rfl ?_
  refine g0_colours (pc := 28) C (Nat.eq_of_beq_eq_true h1) dX0_become_28 m_fl_X0_9 ?_
  refine fm_iconst (pc := 31) (v := (nI 0)) C dX0_become_31 (by decide) ?_
  refine fm_bind (fun r32 e32 => ?_)
  refine fm_cSv (pc := 32) C (t_J7_fill_53178 e32) ok_J7_fill_53178 m_ml_X0_34 dX0_become_32 ⟨Nat.le_of_ble_eq_true rfl, Nat.le_of_ble_eq_true rfl⟩ rfl rfl (Nat.le_of_ble_eq_true rfl) ?_
  exact fm_vret (pc := 35) C hF rfl dX0_become_35
theorem t_X0_become {l : Launch} {G : fm_G} {p0 : Nat} {v1 : Int32} {v2 : Int32} {v3 : Int32} {v4 : Int32} {v5 : Int32} {μ : fm_I} {ν : fm_L} {r : fm_I × fm_L} (h : m_X0_become p0 v1 v2 v3 v4 v5 μ ν = some r) : fm_Mv l G yX0_become cX0_become 6 (none : Option Jvm.ClassFile.FieldType) 2 35 [.ref (G.2.2.1 p0), .int v1, .int v2, .int v3, .int v4, .int v5] μ ν r := fm_Mv_of (by decide +kernel) (Nat.le_of_ble_eq_true rfl) (fun _ C => j_X0_become C rfl r h)
theorem dX0_hasStrip_0 : decode cX0_hasStrip 0 = .ok (.iload_n 1, 1) := by decide +kernel
theorem dX0_hasStrip_1 : decode cX0_hasStrip 1 = .ok (.ifCond .lt 21, 3) := by decide +kernel
theorem dX0_hasStrip_4 : decode cX0_hasStrip 4 = .ok (.iload_n 1, 1) := by decide +kernel
theorem dX0_hasStrip_5 : decode cX0_hasStrip 5 = .ok (.aload_n 0, 1) := by decide +kernel
theorem dX0_hasStrip_6 : decode cX0_hasStrip 6 = .ok (.getfield 25, 3) := by decide +kernel
theorem dX0_hasStrip_9 : decode cX0_hasStrip 9 = .ok (.if_icmp .ge 13, 3) := by decide +kernel
theorem dX0_hasStrip_12 : decode cX0_hasStrip 12 = .ok (.iload_n 1, 1) := by decide +kernel
theorem dX0_hasStrip_13 : decode cX0_hasStrip 13 = .ok (.bipush 12, 2) := by decide +kernel
theorem dX0_hasStrip_15 : decode cX0_hasStrip 15 = .ok (.if_icmp .ge 7, 3) := by decide +kernel
theorem dX0_hasStrip_18 : decode cX0_hasStrip 18 = .ok (.iconst 1, 1) := by decide +kernel
theorem dX0_hasStrip_19 : decode cX0_hasStrip 19 = .ok (.goto 4, 3) := by decide +kernel
theorem dX0_hasStrip_22 : decode cX0_hasStrip 22 = .ok (.iconst 0, 1) := by decide +kernel
theorem dX0_hasStrip_23 : decode cX0_hasStrip 23 = .ok (.ireturn, 1) := by decide +kernel
def m_X0_hasStrip (p0 : Nat) (v1 : Int32) (μ : fm_I) (ν : fm_L) : Option (Int32) :=
  fm_g (Nat.beq (fm_k p0) 0) (if v1 < 0 then some ((nI 0)) else if (μ p0 4) ≤ v1 then some ((nI 0)) else if (nI 12) ≤ v1 then some ((nI 0)) else some ((nI 1)))
theorem ok_X0_hasStrip : fm_okV yX0_hasStrip cX0_hasStrip 2 (some .boolean) 1 := ⟨m_cd_X0_hasStrip, m_im_X0_hasStrip, m_se_X0_X0_hasStrip, m_ini_X0, by decide +kernel, by decide +kernel, by decide +kernel⟩
set_option maxHeartbeats 4000000 in
set_option maxRecDepth 100000 in
theorem j_X0_hasStrip {X : fm_X} {G : fm_G} {l : Launch} {p0 : Nat} {v1 : Int32} {μ : fm_I} {ν : fm_L} (C : fm_C X G l cX0_hasStrip RX0 2 (some .boolean) 1 12) {F : Int32 → State → Prop} (hF : F = fun r => fm_Qi X G (r, μ, ν)) : fm_J X G 2 F (m_X0_hasStrip p0 v1 μ ν) μ ν 0 [(0, .ref (G.2.2.1 p0)), (1, .int v1)] [] := by
  unfold m_X0_hasStrip
  refine fm_guard (fun h1 => ?_)
  refine fm_iload_n (pc := 0) C dX0_hasStrip_0 rfl rfl ?_
  refine fm_if_lt (pc := 1) (tgt := 22) C dX0_hasStrip_1 (by decide) (fun c2 => ?_) (fun c2 => ?_)
  · refine fm_iconst (pc := 22) (v := (nI 0)) C dX0_hasStrip_22 (by decide) ?_
    exact fm_zret0 (pc := 23) C hF rfl rfl dX0_hasStrip_23
  · refine fm_iload_n (pc := 4) C dX0_hasStrip_4 rfl rfl ?_
    refine fm_aload_n (pc := 5) C dX0_hasStrip_5 rfl rfl ?_
    refine g0_strips (pc := 6) C (Nat.eq_of_beq_eq_true h1) dX0_hasStrip_6 m_fl_X0_25 ?_
    refine fm_icmp_ge (pc := 9) (tgt := 22) C dX0_hasStrip_9 (by decide) (fun c3 => ?_) (fun c3 => ?_)
    · refine fm_iconst (pc := 22) (v := (nI 0)) C dX0_hasStrip_22 (by decide) ?_
      exact fm_zret0 (pc := 23) C hF rfl rfl dX0_hasStrip_23
    · refine fm_iload_n (pc := 12) C dX0_hasStrip_12 rfl rfl ?_
      refine fm_bipush (pc := 13) (v := (nI 12)) C dX0_hasStrip_13 (by decide) ?_
      refine fm_icmp_ge (pc := 15) (tgt := 22) C dX0_hasStrip_15 (by decide) (fun c4 => ?_) (fun c4 => ?_)
      · refine fm_iconst (pc := 22) (v := (nI 0)) C dX0_hasStrip_22 (by decide) ?_
        exact fm_zret0 (pc := 23) C hF rfl rfl dX0_hasStrip_23
      · refine fm_iconst (pc := 18) (v := (nI 1)) C dX0_hasStrip_18 (by decide) ?_
        refine fm_goto (pc := 19) (tgt := 23) C dX0_hasStrip_19 (by decide) ?_
        exact fm_zret0 (pc := 23) C hF rfl rfl dX0_hasStrip_23
theorem t_X0_hasStrip {l : Launch} {G : fm_G} {p0 : Nat} {v1 : Int32} {μ : fm_I} {ν : fm_L} {r : Int32} (h : m_X0_hasStrip p0 v1 μ ν = some r) : fm_Mi l G yX0_hasStrip cX0_hasStrip 2 (some .boolean) 1 12 [.ref (G.2.2.1 p0), .int v1] μ ν (r, μ, ν) := fm_Mi_of (by decide +kernel) (Nat.le_of_ble_eq_true rfl) (fun _ C => j_X0_hasStrip C rfl r h)
theorem dX2_intAt_0 : decode cX2_intAt 0 = .ok (.aload_n 0, 1) := by decide +kernel
theorem dX2_intAt_1 : decode cX2_intAt 1 = .ok (.iload_n 1, 1) := by decide +kernel
theorem dX2_intAt_2 : decode cX2_intAt 2 = .ok (.invokevirtual 36, 3) := by decide +kernel
theorem dX2_intAt_5 : decode cX2_intAt 5 = .ok (.l2i, 1) := by decide +kernel
theorem dX2_intAt_6 : decode cX2_intAt 6 = .ok (.ireturn, 1) := by decide +kernel
def m_X2_intAt (p0 : Nat) (v1 : Int32) (μ : fm_I) (ν : fm_L) : Option (Int32) :=
  fm_g (Nat.beq (fm_k p0) 2) ((m_X2_elementAt p0 v1 μ ν).bind (fun r2 => some r2.toInt32))
theorem ok_X2_intAt : fm_okV yX2_intAt cX2_intAt 2 (some .int) 1 := ⟨m_cd_X2_intAt, m_im_X2_intAt, m_se_X2_X2_intAt, m_ini_X2, by decide +kernel, by decide +kernel, by decide +kernel⟩
set_option maxHeartbeats 4000000 in
set_option maxRecDepth 100000 in
theorem j_X2_intAt {X : fm_X} {G : fm_G} {l : Launch} {p0 : Nat} {v1 : Int32} {μ : fm_I} {ν : fm_L} (C : fm_C X G l cX2_intAt RX2 2 (some .int) 4 74) {F : Int32 → State → Prop} (hF : F = fun r => fm_Qi X G (r, μ, ν)) : fm_J X G 2 F (m_X2_intAt p0 v1 μ ν) μ ν 0 [(0, .ref (G.2.2.1 p0)), (1, .int v1)] [] := by
  unfold m_X2_intAt
  refine fm_guard (fun h1 => ?_)
  refine fm_aload_n (pc := 0) C dX2_intAt_0 rfl rfl ?_
  refine fm_iload_n (pc := 1) C dX2_intAt_1 rfl rfl ?_
  refine fm_bind (fun r2 e2 => ?_)
  refine fm_cVl0 (pc := 2) C (t_X2_elementAt e2) ok_X2_elementAt (fm_kcn2 (Nat.eq_of_beq_eq_true h1)) m_ml_X2_36 dX2_intAt_2 ⟨Nat.le_of_ble_eq_true rfl, Nat.le_of_ble_eq_true rfl⟩ rfl rfl (Nat.le_of_ble_eq_true rfl) ?_
  refine fm_l2i (pc := 5) C dX2_intAt_5 ?_
  exact fm_zret0 (pc := 6) C hF rfl rfl dX2_intAt_6
theorem t_X2_intAt {l : Launch} {G : fm_G} {p0 : Nat} {v1 : Int32} {μ : fm_I} {ν : fm_L} {r : Int32} (h : m_X2_intAt p0 v1 μ ν = some r) : fm_Mi l G yX2_intAt cX2_intAt 2 (some .int) 4 74 [.ref (G.2.2.1 p0), .int v1] μ ν (r, μ, ν) := fm_Mi_of (by decide +kernel) (Nat.le_of_ble_eq_true rfl) (fun _ C => j_X2_intAt C rfl r h)
theorem dX0_mostOfOneColour_0 : decode cX0_mostOfOneColour 0 = .ok (.iconst 0, 1) := by decide +kernel
theorem dX0_mostOfOneColour_1 : decode cX0_mostOfOneColour 1 = .ok (.istore_n 2, 1) := by decide +kernel
theorem dX0_mostOfOneColour_2 : decode cX0_mostOfOneColour 2 = .ok (.iconst 0, 1) := by decide +kernel
theorem dX0_mostOfOneColour_3 : decode cX0_mostOfOneColour 3 = .ok (.istore_n 3, 1) := by decide +kernel
theorem dX0_mostOfOneColour_4 : decode cX0_mostOfOneColour 4 = .ok (.iload_n 3, 1) := by decide +kernel
theorem dX0_mostOfOneColour_5 : decode cX0_mostOfOneColour 5 = .ok (.bipush 7, 2) := by decide +kernel
theorem dX0_mostOfOneColour_7 : decode cX0_mostOfOneColour 7 = .ok (.if_icmp .gt 59, 3) := by decide +kernel
theorem dX0_mostOfOneColour_10 : decode cX0_mostOfOneColour 10 = .ok (.iconst 0, 1) := by decide +kernel
theorem dX0_mostOfOneColour_11 : decode cX0_mostOfOneColour 11 = .ok (.istore 4, 2) := by decide +kernel
theorem dX0_mostOfOneColour_13 : decode cX0_mostOfOneColour 13 = .ok (.iconst 0, 1) := by decide +kernel
theorem dX0_mostOfOneColour_14 : decode cX0_mostOfOneColour 14 = .ok (.istore 5, 2) := by decide +kernel
theorem dX0_mostOfOneColour_16 : decode cX0_mostOfOneColour 16 = .ok (.iload 5, 2) := by decide +kernel
theorem dX0_mostOfOneColour_18 : decode cX0_mostOfOneColour 18 = .ok (.bipush 12, 2) := by decide +kernel
theorem dX0_mostOfOneColour_20 : decode cX0_mostOfOneColour 20 = .ok (.if_icmp .ge 33, 3) := by decide +kernel
theorem dX0_mostOfOneColour_23 : decode cX0_mostOfOneColour 23 = .ok (.iload_n 1, 1) := by decide +kernel
theorem dX0_mostOfOneColour_24 : decode cX0_mostOfOneColour 24 = .ok (.iload 5, 2) := by decide +kernel
theorem dX0_mostOfOneColour_26 : decode cX0_mostOfOneColour 26 = .ok (.ishr, 1) := by decide +kernel
theorem dX0_mostOfOneColour_27 : decode cX0_mostOfOneColour 27 = .ok (.iconst 1, 1) := by decide +kernel
theorem dX0_mostOfOneColour_28 : decode cX0_mostOfOneColour 28 = .ok (.iand, 1) := by decide +kernel
theorem dX0_mostOfOneColour_29 : decode cX0_mostOfOneColour 29 = .ok (.iconst 1, 1) := by decide +kernel
theorem dX0_mostOfOneColour_30 : decode cX0_mostOfOneColour 30 = .ok (.if_icmp .ne 17, 3) := by decide +kernel
theorem dX0_mostOfOneColour_33 : decode cX0_mostOfOneColour 33 = .ok (.aload_n 0, 1) := by decide +kernel
theorem dX0_mostOfOneColour_34 : decode cX0_mostOfOneColour 34 = .ok (.getfield 9, 3) := by decide +kernel
theorem dX0_mostOfOneColour_37 : decode cX0_mostOfOneColour 37 = .ok (.iload 5, 2) := by decide +kernel
theorem dX0_mostOfOneColour_39 : decode cX0_mostOfOneColour 39 = .ok (.iaload, 1) := by decide +kernel
theorem dX0_mostOfOneColour_40 : decode cX0_mostOfOneColour 40 = .ok (.iload_n 3, 1) := by decide +kernel
theorem dX0_mostOfOneColour_41 : decode cX0_mostOfOneColour 41 = .ok (.if_icmp .ne 6, 3) := by decide +kernel
theorem dX0_mostOfOneColour_44 : decode cX0_mostOfOneColour 44 = .ok (.iinc 4 1, 3) := by decide +kernel
theorem dX0_mostOfOneColour_47 : decode cX0_mostOfOneColour 47 = .ok (.iinc 5 1, 3) := by decide +kernel
theorem dX0_mostOfOneColour_50 : decode cX0_mostOfOneColour 50 = .ok (.goto (-34), 3) := by decide +kernel
theorem dX0_mostOfOneColour_53 : decode cX0_mostOfOneColour 53 = .ok (.iload_n 2, 1) := by decide +kernel
theorem dX0_mostOfOneColour_54 : decode cX0_mostOfOneColour 54 = .ok (.iload 4, 2) := by decide +kernel
theorem dX0_mostOfOneColour_56 : decode cX0_mostOfOneColour 56 = .ok (.invokestatic 69, 3) := by decide +kernel
theorem dX0_mostOfOneColour_59 : decode cX0_mostOfOneColour 59 = .ok (.istore_n 2, 1) := by decide +kernel
theorem dX0_mostOfOneColour_60 : decode cX0_mostOfOneColour 60 = .ok (.iinc 3 1, 3) := by decide +kernel
theorem dX0_mostOfOneColour_63 : decode cX0_mostOfOneColour 63 = .ok (.goto (-59), 3) := by decide +kernel
theorem dX0_mostOfOneColour_66 : decode cX0_mostOfOneColour 66 = .ok (.iload_n 2, 1) := by decide +kernel
theorem dX0_mostOfOneColour_67 : decode cX0_mostOfOneColour 67 = .ok (.ireturn, 1) := by decide +kernel
def m_X0_mostOfOneColour_16 (q0 : Nat) (v1 : Int32) (v2 : Int32) (v3 : Int32) (μ : fm_I) (ν : fm_L) (K : Int32 → Option (Int32)) : Nat → Int32 → Int32 → Option (Int32)
  | 0, _, _ => none
  | k + 1, v4, v5 => if (nI 12) ≤ v5 then K v4 else if (((v1 >>> (v5 &&& 31))) &&& ((nI 1))) = (nI 1) then fm_g (fm_in v5 (fm_n ((q0 + 12)))) (if (μ ((q0 + 12)) v5.toNatClampNeg) = v3 then m_X0_mostOfOneColour_16 q0 v1 v2 v3 μ ν K k ((v4 + nI 1)) ((v5 + nI 1)) else m_X0_mostOfOneColour_16 q0 v1 v2 v3 μ ν K k v4 ((v5 + nI 1))) else m_X0_mostOfOneColour_16 q0 v1 v2 v3 μ ν K k v4 ((v5 + nI 1))
def m_X0_mostOfOneColour_4 (q0 : Nat) (v1 : Int32) (μ : fm_I) (ν : fm_L) (K : Int32 → Option (Int32)) : Nat → Int32 → Int32 → Option (Int32)
  | 0, _, _ => none
  | k + 1, v2, v3 => if (nI 7) < v3 then K v2 else m_X0_mostOfOneColour_16 q0 v1 v2 v3 μ ν (fun x4_16 => m_X0_mostOfOneColour_4 q0 v1 μ ν K k ((if v2 < x4_16 then x4_16 else v2)) ((v3 + nI 1))) 5000 ((nI 0)) ((nI 0))
def m_X0_mostOfOneColour (p0 : Nat) (v1 : Int32) (μ : fm_I) (ν : fm_L) : Option (Int32) :=
  fm_g (Nat.beq (fm_k p0) 0) (m_X0_mostOfOneColour_4 p0 v1 μ ν (fun x2_4 => some x2_4) 5000 ((nI 0)) ((nI 0)))
theorem ok_X0_mostOfOneColour : fm_okV yX0_mostOfOneColour cX0_mostOfOneColour 6 (some .int) 1 := ⟨m_cd_X0_mostOfOneColour, m_im_X0_mostOfOneColour, m_se_X0_X0_mostOfOneColour, m_ini_X0, by decide +kernel, by decide +kernel, by decide +kernel⟩
set_option maxHeartbeats 4000000 in
set_option maxRecDepth 100000 in
theorem j_X0_mostOfOneColour_16_ {X : fm_X} {G : fm_G} {l : Launch} {q0 : Nat} {v1 : Int32} {v2 : Int32} {v3 : Int32} {μ : fm_I} {ν : fm_L} (C : fm_C X G l cX0_mostOfOneColour RX0 6 (some .int) 2 41) {F : Int32 → State → Prop} (hF : F = fun r => fm_Qi X G (r, μ, ν)) (hk0 : fm_k q0 = 0) {K : Int32 → Option (Int32)} (hK : ∀ (v4 : Int32), fm_J X G 6 F (K v4) μ ν 53 [(0, .ref (G.2.2.1 q0)), (1, .int v1), (2, .int v2), (3, .int v3), (4, .int v4)] []) : ∀ (k : Nat) (v4 : Int32) (v5 : Int32), fm_J X G 6 F (m_X0_mostOfOneColour_16 q0 v1 v2 v3 μ ν K k v4 v5) μ ν 16 [(0, .ref (G.2.2.1 q0)), (1, .int v1), (2, .int v2), (3, .int v3), (4, .int v4), (5, .int v5)] [] := by
  intro k
  induction k with
  | zero =>
    intro v4 v5
    exact fm_none
  | succ k ih =>
    intro v4 v5
    rw [m_X0_mostOfOneColour_16]
    refine fm_iload (pc := 16) C dX0_mostOfOneColour_16 rfl ?_
    refine fm_bipush (pc := 18) (v := (nI 12)) C dX0_mostOfOneColour_18 (by decide) ?_
    refine fm_icmp_ge (pc := 20) (tgt := 53) C dX0_mostOfOneColour_20 (by decide) (fun c3 => ?_) (fun c3 => ?_)
    · refine fm_less (lv' := [(0, .ref (G.2.2.1 q0)), (1, .int v1), (2, .int v2), (3, .int v3), (4, .int v4)]) (by repeat (first | exact trivial | refine ⟨rfl, ?_⟩)) ?_
      exact hK _
    · refine fm_iload_n (pc := 23) C dX0_mostOfOneColour_23 rfl rfl ?_
      refine fm_iload (pc := 24) C dX0_mostOfOneColour_24 rfl ?_
      refine fm_ishr (pc := 26) C dX0_mostOfOneColour_26 ?_
      refine fm_iconst (pc := 27) (v := (nI 1)) C dX0_mostOfOneColour_27 (by decide) ?_
      refine fm_iand (pc := 28) C dX0_mostOfOneColour_28 ?_
      refine fm_iconst (pc := 29) (v := (nI 1)) C dX0_mostOfOneColour_29 (by decide) ?_
      refine fm_icmp_ne (pc := 30) (tgt := 47) C dX0_mostOfOneColour_30 (by decide) (fun c4 => ?_) (fun c4 => ?_)
      · refine fm_aload_n (pc := 33) C dX0_mostOfOneColour_33 rfl rfl ?_
        refine g0_colours (pc := 34) C hk0 dX0_mostOfOneColour_34 m_fl_X0_9 ?_
        refine fm_iload (pc := 37) C dX0_mostOfOneColour_37 rfl ?_
        refine fm_guard (fun h5 => ?_)
        refine fm_iald (pc := 39) C (fm_kB hk0) h5 dX0_mostOfOneColour_39 ?_
        refine fm_iload_n (pc := 40) C dX0_mostOfOneColour_40 rfl rfl ?_
        refine fm_icmp_ne (pc := 41) (tgt := 47) C dX0_mostOfOneColour_41 (by decide) (fun c6 => ?_) (fun c6 => ?_)
        · refine fm_iinc (pc := 44) C dX0_mostOfOneColour_44 rfl (v := (v4 + nI 1)) rfl (by decide) rfl ?_
          refine fm_iinc (pc := 47) C dX0_mostOfOneColour_47 rfl (v := (v5 + nI 1)) rfl (by decide) rfl ?_
          refine fm_goto (pc := 50) (tgt := 16) C dX0_mostOfOneColour_50 (by decide) ?_
          refine fm_less (lv' := [(0, .ref (G.2.2.1 q0)), (1, .int v1), (2, .int v2), (3, .int v3), (4, .int ((v4 + nI 1))), (5, .int ((v5 + nI 1)))]) (by repeat (first | exact trivial | refine ⟨rfl, ?_⟩)) ?_
          exact ih _ _
        · refine fm_iinc (pc := 47) C dX0_mostOfOneColour_47 rfl (v := (v5 + nI 1)) rfl (by decide) rfl ?_
          refine fm_goto (pc := 50) (tgt := 16) C dX0_mostOfOneColour_50 (by decide) ?_
          refine fm_less (lv' := [(0, .ref (G.2.2.1 q0)), (1, .int v1), (2, .int v2), (3, .int v3), (4, .int v4), (5, .int ((v5 + nI 1)))]) (by repeat (first | exact trivial | refine ⟨rfl, ?_⟩)) ?_
          exact ih _ _
      · refine fm_iinc (pc := 47) C dX0_mostOfOneColour_47 rfl (v := (v5 + nI 1)) rfl (by decide) rfl ?_
        refine fm_goto (pc := 50) (tgt := 16) C dX0_mostOfOneColour_50 (by decide) ?_
        refine fm_less (lv' := [(0, .ref (G.2.2.1 q0)), (1, .int v1), (2, .int v2), (3, .int v3), (4, .int v4), (5, .int ((v5 + nI 1)))]) (by repeat (first | exact trivial | refine ⟨rfl, ?_⟩)) ?_
        exact ih _ _
set_option maxHeartbeats 4000000 in
set_option maxRecDepth 100000 in
theorem j_X0_mostOfOneColour_4_ {X : fm_X} {G : fm_G} {l : Launch} {q0 : Nat} {v1 : Int32} {μ : fm_I} {ν : fm_L} (C : fm_C X G l cX0_mostOfOneColour RX0 6 (some .int) 2 41) {F : Int32 → State → Prop} (hF : F = fun r => fm_Qi X G (r, μ, ν)) (hk0 : fm_k q0 = 0) {K : Int32 → Option (Int32)} (hK : ∀ (v2 : Int32), fm_J X G 6 F (K v2) μ ν 66 [(2, .int v2)] []) : ∀ (k : Nat) (v2 : Int32) (v3 : Int32), fm_J X G 6 F (m_X0_mostOfOneColour_4 q0 v1 μ ν K k v2 v3) μ ν 4 [(0, .ref (G.2.2.1 q0)), (1, .int v1), (2, .int v2), (3, .int v3)] [] := by
  intro k
  induction k with
  | zero =>
    intro v2 v3
    exact fm_none
  | succ k ih =>
    intro v2 v3
    rw [m_X0_mostOfOneColour_4]
    refine fm_iload_n (pc := 4) C dX0_mostOfOneColour_4 rfl rfl ?_
    refine fm_bipush (pc := 5) (v := (nI 7)) C dX0_mostOfOneColour_5 (by decide) ?_
    refine fm_icmp_gt (pc := 7) (tgt := 66) C dX0_mostOfOneColour_7 (by decide) (fun c2 => ?_) (fun c2 => ?_)
    · refine fm_less (lv' := [(2, .int v2)]) (by repeat (first | exact trivial | refine ⟨rfl, ?_⟩)) ?_
      exact hK _
    · refine fm_iconst (pc := 10) (v := (nI 0)) C dX0_mostOfOneColour_10 (by decide) ?_
      refine fm_istore (pc := 11) C dX0_mostOfOneColour_11 (by decide) rfl ?_
      refine fm_iconst (pc := 13) (v := (nI 0)) C dX0_mostOfOneColour_13 (by decide) ?_
      refine fm_istore (pc := 14) C dX0_mostOfOneColour_14 (by decide) rfl ?_
      refine fm_less (lv' := [(0, .ref (G.2.2.1 q0)), (1, .int v1), (2, .int v2), (3, .int v3), (4, .int ((nI 0))), (5, .int ((nI 0)))]) (by repeat (first | exact trivial | refine ⟨rfl, ?_⟩)) ?_
      refine j_X0_mostOfOneColour_16_ C (q0 := q0) (v1 := v1) (v2 := v2) (v3 := v3) hF hk0 (fun x4_16 => ?_) _ _ _
      refine fm_iload_n (pc := 53) C dX0_mostOfOneColour_53 rfl rfl ?_
      refine fm_iload (pc := 54) C dX0_mostOfOneColour_54 rfl ?_
      refine fm_mmax (pc := 56) C m_ml_X0_69 dX0_mostOfOneColour_56 ⟨Nat.le_of_ble_eq_true rfl, Nat.le_of_ble_eq_true rfl⟩ ?_
      refine fm_istore_n (pc := 59) C dX0_mostOfOneColour_59 rfl (by decide) rfl ?_
      refine fm_iinc (pc := 60) C dX0_mostOfOneColour_60 rfl (v := (v3 + nI 1)) rfl (by decide) rfl ?_
      refine fm_goto (pc := 63) (tgt := 4) C dX0_mostOfOneColour_63 (by decide) ?_
      refine fm_less (lv' := [(0, .ref (G.2.2.1 q0)), (1, .int v1), (2, .int ((if v2 < x4_16 then x4_16 else v2))), (3, .int ((v3 + nI 1)))]) (by repeat (first | exact trivial | refine ⟨rfl, ?_⟩)) ?_
      exact ih _ _
set_option maxHeartbeats 4000000 in
set_option maxRecDepth 100000 in
theorem j_X0_mostOfOneColour {X : fm_X} {G : fm_G} {l : Launch} {p0 : Nat} {v1 : Int32} {μ : fm_I} {ν : fm_L} (C : fm_C X G l cX0_mostOfOneColour RX0 6 (some .int) 2 41) {F : Int32 → State → Prop} (hF : F = fun r => fm_Qi X G (r, μ, ν)) : fm_J X G 6 F (m_X0_mostOfOneColour p0 v1 μ ν) μ ν 0 [(0, .ref (G.2.2.1 p0)), (1, .int v1)] [] := by
  unfold m_X0_mostOfOneColour
  refine fm_guard (fun h1 => ?_)
  refine fm_iconst (pc := 0) (v := (nI 0)) C dX0_mostOfOneColour_0 (by decide) ?_
  refine fm_istore_n (pc := 1) C dX0_mostOfOneColour_1 rfl (by decide) rfl ?_
  refine fm_iconst (pc := 2) (v := (nI 0)) C dX0_mostOfOneColour_2 (by decide) ?_
  refine fm_istore_n (pc := 3) C dX0_mostOfOneColour_3 rfl (by decide) rfl ?_
  refine fm_less (lv' := [(0, .ref (G.2.2.1 p0)), (1, .int v1), (2, .int ((nI 0))), (3, .int ((nI 0)))]) (by repeat (first | exact trivial | refine ⟨rfl, ?_⟩)) ?_
  refine j_X0_mostOfOneColour_4_ C (q0 := p0) (v1 := v1) hF (Nat.eq_of_beq_eq_true h1) (fun x2_4 => ?_) _ _ _
  refine fm_iload_n (pc := 66) C dX0_mostOfOneColour_66 rfl rfl ?_
  exact fm_zret0 (pc := 67) C hF rfl rfl dX0_mostOfOneColour_67
theorem t_X0_mostOfOneColour {l : Launch} {G : fm_G} {p0 : Nat} {v1 : Int32} {μ : fm_I} {ν : fm_L} {r : Int32} (h : m_X0_mostOfOneColour p0 v1 μ ν = some r) : fm_Mi l G yX0_mostOfOneColour cX0_mostOfOneColour 6 (some .int) 2 41 [.ref (G.2.2.1 p0), .int v1] μ ν (r, μ, ν) := fm_Mi_of (by decide +kernel) (Nat.le_of_ble_eq_true rfl) (fun _ C => j_X0_mostOfOneColour C rfl r h)
theorem dX0_becomeLike_0 : decode cX0_becomeLike 0 = .ok (.aload_n 0, 1) := by decide +kernel
theorem dX0_becomeLike_1 : decode cX0_becomeLike 1 = .ok (.aload_n 1, 1) := by decide +kernel
theorem dX0_becomeLike_2 : decode cX0_becomeLike 2 = .ok (.getfield 19, 3) := by decide +kernel
theorem dX0_becomeLike_5 : decode cX0_becomeLike 5 = .ok (.aload_n 1, 1) := by decide +kernel
theorem dX0_becomeLike_6 : decode cX0_becomeLike 6 = .ok (.getfield 22, 3) := by decide +kernel
theorem dX0_becomeLike_9 : decode cX0_becomeLike 9 = .ok (.aload_n 1, 1) := by decide +kernel
theorem dX0_becomeLike_10 : decode cX0_becomeLike 10 = .ok (.getfield 25, 3) := by decide +kernel
theorem dX0_becomeLike_13 : decode cX0_becomeLike 13 = .ok (.aload_n 1, 1) := by decide +kernel
theorem dX0_becomeLike_14 : decode cX0_becomeLike 14 = .ok (.getfield 28, 3) := by decide +kernel
theorem dX0_becomeLike_17 : decode cX0_becomeLike 17 = .ok (.aload_n 1, 1) := by decide +kernel
theorem dX0_becomeLike_18 : decode cX0_becomeLike 18 = .ok (.getfield 31, 3) := by decide +kernel
theorem dX0_becomeLike_21 : decode cX0_becomeLike 21 = .ok (.invokevirtual 40, 3) := by decide +kernel
theorem dX0_becomeLike_24 : decode cX0_becomeLike 24 = .ok (.aload_n 1, 1) := by decide +kernel
theorem dX0_becomeLike_25 : decode cX0_becomeLike 25 = .ok (.getfield 9, 3) := by decide +kernel
theorem dX0_becomeLike_28 : decode cX0_becomeLike 28 = .ok (.iconst 0, 1) := by decide +kernel
theorem dX0_becomeLike_29 : decode cX0_becomeLike 29 = .ok (.aload_n 0, 1) := by decide +kernel
theorem dX0_becomeLike_30 : decode cX0_becomeLike 30 = .ok (.getfield 9, 3) := by decide +kernel
theorem dX0_becomeLike_33 : decode cX0_becomeLike 33 = .ok (.iconst 0, 1) := by decide +kernel
theorem dX0_becomeLike_34 : decode cX0_becomeLike 34 = .ok (.bipush 12, 2) := by decide +kernel
theorem dX0_becomeLike_36 : decode cX0_becomeLike 36 = .ok (.invokestatic 44, 3) := by decide +kernel
theorem dX0_becomeLike_39 : decode cX0_becomeLike 39 = .ok (.return_, 1) := by decide +kernel
def m_X0_becomeLike (p0 : Nat) (q1 : Nat) (μ : fm_I) (ν : fm_L) : Option (fm_I × fm_L) :=
  fm_g (Nat.beq (fm_k p0) 0) (fm_g (Nat.beq (fm_k q1) 0) ((m_X0_become p0 ((μ q1 2)) ((μ q1 3)) ((μ q1 4)) ((μ q1 5)) ((μ q1 6)) μ ν).bind (fun r21 => fm_g (fm_cg ((nI 0)) ((nI 0)) ((nI 12)) (fm_n ((q1 + 12))) (fm_n ((p0 + 12)))) (some (((fm_ur r21.1 ((p0 + 12)) (va_cpy (r21.1 ((q1 + 12))) (r21.1 ((p0 + 12))) ((nI 0)).toNatClampNeg ((nI 0)).toNatClampNeg ((nI 12)).toNatClampNeg)), r21.2))))))
theorem ok_X0_becomeLike : fm_okV yX0_becomeLike cX0_becomeLike 2 (none : Option Jvm.ClassFile.FieldType) 1 := ⟨m_cd_X0_becomeLike, m_im_X0_becomeLike, m_se_X0_X0_becomeLike, m_ini_X0, by decide +kernel, by decide +kernel, by decide +kernel⟩
set_option maxHeartbeats 4000000 in
set_option maxRecDepth 100000 in
theorem j_X0_becomeLike {X : fm_X} {G : fm_G} {l : Launch} {p0 : Nat} {q1 : Nat} {μ : fm_I} {ν : fm_L} (C : fm_C X G l cX0_becomeLike RX0 2 (none : Option Jvm.ClassFile.FieldType) 3 120) {F : (fm_I × fm_L) → State → Prop} (hF : F = fm_Qv X G) : fm_J X G 2 F (m_X0_becomeLike p0 q1 μ ν) μ ν 0 [(0, .ref (G.2.2.1 p0)), (1, .ref (G.2.2.1 q1))] [] := by
  unfold m_X0_becomeLike
  refine fm_guard (fun h1 => ?_)
  refine fm_guard (fun h2 => ?_)
  refine fm_aload_n (pc := 0) C dX0_becomeLike_0 rfl rfl ?_
  refine fm_aload_n (pc := 1) C dX0_becomeLike_1 rfl rfl ?_
  refine g0_kind (pc := 2) C (Nat.eq_of_beq_eq_true h2) dX0_becomeLike_2 m_fl_X0_19 ?_
  refine fm_aload_n (pc := 5) C dX0_becomeLike_5 rfl rfl ?_
  refine g0_twists (pc := 6) C (Nat.eq_of_beq_eq_true h2) dX0_becomeLike_6 m_fl_X0_22 ?_
  refine fm_aload_n (pc := 9) C dX0_becomeLike_9 rfl rfl ?_
  refine g0_strips (pc := 10) C (Nat.eq_of_beq_eq_true h2) dX0_becomeLike_10 m_fl_X0_25 ?_
  refine fm_aload_n (pc := 13) C dX0_becomeLike_13 rfl rfl ?_
  refine g0_hand (pc := 14) C (Nat.eq_of_beq_eq_true h2) dX0_becomeLike_14 m_fl_X0_28 ?_
  refine fm_aload_n (pc := 17) C dX0_becomeLike_17 rfl rfl ?_
  refine g0_a (pc := 18) C (Nat.eq_of_beq_eq_true h2) dX0_becomeLike_18 m_fl_X0_31 ?_
  refine fm_bind (fun r21 e21 => ?_)
  refine fm_cVv (pc := 21) C (t_X0_become e21) ok_X0_become (fm_kcn0 (Nat.eq_of_beq_eq_true h1)) m_ml_X0_40 dX0_becomeLike_21 ⟨Nat.le_of_ble_eq_true rfl, Nat.le_of_ble_eq_true rfl⟩ rfl rfl (Nat.le_of_ble_eq_true rfl) ?_
  refine fm_aload_n (pc := 24) C dX0_becomeLike_24 rfl rfl ?_
  refine g0_colours (pc := 25) C (Nat.eq_of_beq_eq_true h2) dX0_becomeLike_25 m_fl_X0_9 ?_
  refine fm_iconst (pc := 28) (v := (nI 0)) C dX0_becomeLike_28 (by decide) ?_
  refine fm_aload_n (pc := 29) C dX0_becomeLike_29 rfl rfl ?_
  refine g0_colours (pc := 30) C (Nat.eq_of_beq_eq_true h1) dX0_becomeLike_30 m_fl_X0_9 ?_
  refine fm_iconst (pc := 33) (v := (nI 0)) C dX0_becomeLike_33 (by decide) ?_
  refine fm_bipush (pc := 34) (v := (nI 12)) C dX0_becomeLike_34 (by decide) ?_
  refine fm_guard (fun h3 => ?_)
  refine fm_copyi (pc := 36) C (fm_kB (Nat.eq_of_beq_eq_true h2)) (fm_kB (Nat.eq_of_beq_eq_true h1)) h3 m_ml_X0_44 m_na_java_lang_System_arraycopy m_st_java_lang_System_arraycopy m_ini_J10 ⟨Nat.le_of_ble_eq_true rfl, by decide⟩ dX0_becomeLike_36 ?_
  exact fm_vret (pc := 39) C hF rfl dX0_becomeLike_39
theorem t_X0_becomeLike {l : Launch} {G : fm_G} {p0 : Nat} {q1 : Nat} {μ : fm_I} {ν : fm_L} {r : fm_I × fm_L} (h : m_X0_becomeLike p0 q1 μ ν = some r) : fm_Mv l G yX0_becomeLike cX0_becomeLike 2 (none : Option Jvm.ClassFile.FieldType) 3 120 [.ref (G.2.2.1 p0), .ref (G.2.2.1 q1)] μ ν r := fm_Mv_of (by decide +kernel) (Nat.le_of_ble_eq_true rfl) (fun _ C => j_X0_becomeLike C rfl r h)
theorem dX0_bodyOf_0 : decode cX0_bodyOf 0 = .ok (.aload_n 0, 1) := by decide +kernel
theorem dX0_bodyOf_1 : decode cX0_bodyOf 1 = .ok (.getfield 19, 3) := by decide +kernel
theorem dX0_bodyOf_4 : decode cX0_bodyOf 4 = .ok (.invokestatic 81, 3) := by decide +kernel
theorem dX0_bodyOf_7 : decode cX0_bodyOf 7 = .ok (.ifCond .ne 5, 3) := by decide +kernel
theorem dX0_bodyOf_10 : decode cX0_bodyOf 10 = .ok (.iconst (-1), 1) := by decide +kernel
theorem dX0_bodyOf_11 : decode cX0_bodyOf 11 = .ok (.ireturn, 1) := by decide +kernel
theorem dX0_bodyOf_12 : decode cX0_bodyOf 12 = .ok (.iload_n 1, 1) := by decide +kernel
theorem dX0_bodyOf_13 : decode cX0_bodyOf 13 = .ok (.lookupswitch 45 #[(0, 27), (1, 36)], 27) := by decide +kernel
theorem dX0_bodyOf_40 : decode cX0_bodyOf 40 = .ok (.getstatic 84, 3) := by decide +kernel
theorem dX0_bodyOf_43 : decode cX0_bodyOf 43 = .ok (.aload_n 0, 1) := by decide +kernel
theorem dX0_bodyOf_44 : decode cX0_bodyOf 44 = .ok (.getfield 19, 3) := by decide +kernel
theorem dX0_bodyOf_47 : decode cX0_bodyOf 47 = .ok (.iaload, 1) := by decide +kernel
theorem dX0_bodyOf_48 : decode cX0_bodyOf 48 = .ok (.ireturn, 1) := by decide +kernel
theorem dX0_bodyOf_49 : decode cX0_bodyOf 49 = .ok (.getstatic 87, 3) := by decide +kernel
theorem dX0_bodyOf_52 : decode cX0_bodyOf 52 = .ok (.aload_n 0, 1) := by decide +kernel
theorem dX0_bodyOf_53 : decode cX0_bodyOf 53 = .ok (.getfield 19, 3) := by decide +kernel
theorem dX0_bodyOf_56 : decode cX0_bodyOf 56 = .ok (.iaload, 1) := by decide +kernel
theorem dX0_bodyOf_57 : decode cX0_bodyOf 57 = .ok (.ireturn, 1) := by decide +kernel
theorem dX0_bodyOf_58 : decode cX0_bodyOf 58 = .ok (.getstatic 90, 3) := by decide +kernel
theorem dX0_bodyOf_61 : decode cX0_bodyOf 61 = .ok (.aload_n 0, 1) := by decide +kernel
theorem dX0_bodyOf_62 : decode cX0_bodyOf 62 = .ok (.getfield 19, 3) := by decide +kernel
theorem dX0_bodyOf_65 : decode cX0_bodyOf 65 = .ok (.iaload, 1) := by decide +kernel
theorem dX0_bodyOf_66 : decode cX0_bodyOf 66 = .ok (.ireturn, 1) := by decide +kernel
def m_X0_bodyOf (p0 : Nat) (v1 : Int32) (μ : fm_I) (ν : fm_L) : Option (Int32) :=
  fm_g (Nat.beq (fm_k p0) 0) ((m_X5_isKind ((μ p0 2)) μ ν).bind (fun r4 => if r4 = 0 then some ((-1 : Int32)) else if v1 = (nI 0) then fm_g (fm_in ((μ p0 2)) 7) (some (((fm_sl 1).getD ((μ p0 2)).toNatClampNeg 0))) else if v1 = (nI 1) then fm_g (fm_in ((μ p0 2)) 7) (some (((fm_sl 2).getD ((μ p0 2)).toNatClampNeg 0))) else fm_g (fm_in ((μ p0 2)) 7) (some (((fm_sl 3).getD ((μ p0 2)).toNatClampNeg 0)))))
theorem ok_X0_bodyOf : fm_okV yX0_bodyOf cX0_bodyOf 2 (some .int) 1 := ⟨m_cd_X0_bodyOf, m_im_X0_bodyOf, m_se_X0_X0_bodyOf, m_ini_X0, by decide +kernel, by decide +kernel, by decide +kernel⟩
set_option maxHeartbeats 4000000 in
set_option maxRecDepth 100000 in
theorem j_X0_bodyOf {X : fm_X} {G : fm_G} {l : Launch} {p0 : Nat} {v1 : Int32} {μ : fm_I} {ν : fm_L} (C : fm_C X G l cX0_bodyOf RX0 2 (some .int) 2 32) {F : Int32 → State → Prop} (hF : F = fun r => fm_Qi X G (r, μ, ν)) : fm_J X G 2 F (m_X0_bodyOf p0 v1 μ ν) μ ν 0 [(0, .ref (G.2.2.1 p0)), (1, .int v1)] [] := by
  unfold m_X0_bodyOf
  refine fm_guard (fun h1 => ?_)
  refine fm_aload_n (pc := 0) C dX0_bodyOf_0 rfl rfl ?_
  refine g0_kind (pc := 1) C (Nat.eq_of_beq_eq_true h1) dX0_bodyOf_1 m_fl_X0_19 ?_
  refine fm_bind (fun r4 e4 => ?_)
  refine fm_cNi0 (pc := 4) C (t_X5_isKind e4) ok_X5_isKind (C.2.2.2.2.2.2.2.2.2.2.2.2.1.2.2.2) dX0_bodyOf_4 ⟨Nat.le_of_ble_eq_true rfl, Nat.le_of_ble_eq_true rfl⟩ rfl rfl (Nat.le_of_ble_eq_true rfl) ?_
  refine fm_if_ne (pc := 7) (tgt := 12) C dX0_bodyOf_7 (by decide) (fun c2 => ?_) (fun c2 => ?_)
  · refine fm_iconst (pc := 10) (v := (-1 : Int32)) C dX0_bodyOf_10 (by decide) ?_
    exact fm_zret0 (pc := 11) C hF rfl rfl dX0_bodyOf_11
  · refine fm_iload_n (pc := 12) C dX0_bodyOf_12 rfl rfl ?_
    refine fm_ite (fun s3 => ?_) (fun s3 => ?_)
    · refine fm_look (pc := 13) (tgt := 40) (off := 27) C dX0_bodyOf_13 (by decide) (by rw [s3]; decide) (by decide) ?_
      refine fm_gst (pc := 40) C 1 (by decide) m_fl_X0_84 dX0_bodyOf_40 ?_
      refine fm_aload_n (pc := 43) C dX0_bodyOf_43 rfl rfl ?_
      refine g0_kind (pc := 44) C (Nat.eq_of_beq_eq_true h1) dX0_bodyOf_44 m_fl_X0_19 ?_
      refine fm_guard (fun h4 => ?_)
      refine fm_sald (pc := 47) C (by decide) h4 dX0_bodyOf_47 ?_
      exact fm_zret0 (pc := 48) C hF rfl rfl dX0_bodyOf_48
    · refine fm_ite (fun s5 => ?_) (fun s5 => ?_)
      · refine fm_look (pc := 13) (tgt := 49) (off := 36) C dX0_bodyOf_13 (by decide) (by rw [s5]; decide) (by decide) ?_
        refine fm_gst (pc := 49) C 2 (by decide) m_fl_X0_87 dX0_bodyOf_49 ?_
        refine fm_aload_n (pc := 52) C dX0_bodyOf_52 rfl rfl ?_
        refine g0_kind (pc := 53) C (Nat.eq_of_beq_eq_true h1) dX0_bodyOf_53 m_fl_X0_19 ?_
        refine fm_guard (fun h6 => ?_)
        refine fm_sald (pc := 56) C (by decide) h6 dX0_bodyOf_56 ?_
        exact fm_zret0 (pc := 57) C hF rfl rfl dX0_bodyOf_57
      · refine fm_look (pc := 13) (tgt := 58) (off := 45) C dX0_bodyOf_13 (by decide) ((lv_osw (k := (nI 0)) s3 (by decide)).trans ((lv_osw (k := (nI 1)) s5 (by decide)).trans rfl)) (by decide) ?_
        refine fm_gst (pc := 58) C 3 (by decide) m_fl_X0_90 dX0_bodyOf_58 ?_
        refine fm_aload_n (pc := 61) C dX0_bodyOf_61 rfl rfl ?_
        refine g0_kind (pc := 62) C (Nat.eq_of_beq_eq_true h1) dX0_bodyOf_62 m_fl_X0_19 ?_
        refine fm_guard (fun h7 => ?_)
        refine fm_sald (pc := 65) C (by decide) h7 dX0_bodyOf_65 ?_
        exact fm_zret0 (pc := 66) C hF rfl rfl dX0_bodyOf_66
theorem t_X0_bodyOf {l : Launch} {G : fm_G} {p0 : Nat} {v1 : Int32} {μ : fm_I} {ν : fm_L} {r : Int32} (h : m_X0_bodyOf p0 v1 μ ν = some r) : fm_Mi l G yX0_bodyOf cX0_bodyOf 2 (some .int) 2 32 [.ref (G.2.2.1 p0), .int v1] μ ν (r, μ, ν) := fm_Mi_of (by decide +kernel) (Nat.le_of_ble_eq_true rfl) (fun _ C => j_X0_bodyOf C rfl r h)
theorem dX4_begin_0 : decode cX4_begin 0 = .ok (.aload_n 0, 1) := by decide +kernel
theorem dX4_begin_1 : decode cX4_begin 1 = .ok (.getfield 15, 3) := by decide +kernel
theorem dX4_begin_4 : decode cX4_begin 4 = .ok (.ifCond .lt 25, 3) := by decide +kernel
theorem dX4_begin_7 : decode cX4_begin 7 = .ok (.aload_n 0, 1) := by decide +kernel
theorem dX4_begin_8 : decode cX4_begin 8 = .ok (.getfield 15, 3) := by decide +kernel
theorem dX4_begin_11 : decode cX4_begin 11 = .ok (.aload_n 0, 1) := by decide +kernel
theorem dX4_begin_12 : decode cX4_begin 12 = .ok (.getfield 9, 3) := by decide +kernel
theorem dX4_begin_15 : decode cX4_begin 15 = .ok (.arraylength, 1) := by decide +kernel
theorem dX4_begin_16 : decode cX4_begin 16 = .ok (.if_icmp .ge 13, 3) := by decide +kernel
theorem dX4_begin_19 : decode cX4_begin 19 = .ok (.aload_n 0, 1) := by decide +kernel
theorem dX4_begin_20 : decode cX4_begin 20 = .ok (.getfield 9, 3) := by decide +kernel
theorem dX4_begin_23 : decode cX4_begin 23 = .ok (.aload_n 0, 1) := by decide +kernel
theorem dX4_begin_24 : decode cX4_begin 24 = .ok (.getfield 15, 3) := by decide +kernel
theorem dX4_begin_27 : decode cX4_begin 27 = .ok (.iload_n 1, 1) := by decide +kernel
theorem dX4_begin_28 : decode cX4_begin 28 = .ok (.iastore, 1) := by decide +kernel
theorem dX4_begin_29 : decode cX4_begin 29 = .ok (.aload_n 0, 1) := by decide +kernel
theorem dX4_begin_30 : decode cX4_begin 30 = .ok (.dup, 1) := by decide +kernel
theorem dX4_begin_31 : decode cX4_begin 31 = .ok (.getfield 15, 3) := by decide +kernel
theorem dX4_begin_34 : decode cX4_begin 34 = .ok (.iconst 1, 1) := by decide +kernel
theorem dX4_begin_35 : decode cX4_begin 35 = .ok (.iadd, 1) := by decide +kernel
theorem dX4_begin_36 : decode cX4_begin 36 = .ok (.putfield 15, 3) := by decide +kernel
theorem dX4_begin_39 : decode cX4_begin 39 = .ok (.return_, 1) := by decide +kernel
def m_X4_begin (v1 : Int32) (μ : fm_I) (ν : fm_L) : Option (fm_I × fm_L) :=
  if (μ 7 1) < 0 then some (((fm_u μ 7 1 ((((μ 7 1)) + ((nI 1))))), ν)) else if (nI (fm_n 8)) ≤ (μ 7 1) then some (((fm_u μ 7 1 ((((μ 7 1)) + ((nI 1))))), ν)) else fm_g (fm_in ((μ 7 1)) (fm_n 8)) (some (((fm_u (fm_u μ 8 ((μ 7 1)).toNatClampNeg v1) 7 1 ((((((fm_u μ 8 ((μ 7 1)).toNatClampNeg v1)) 7 1)) + ((nI 1))))), ν)))
theorem ok_X4_begin : fm_okV yX4_begin cX4_begin 2 (none : Option Jvm.ClassFile.FieldType) 1 := ⟨m_cd_X4_begin, m_im_X4_begin, m_se_X4_X4_begin, m_ini_X4, by decide +kernel, by decide +kernel, by decide +kernel⟩
set_option maxHeartbeats 4000000 in
set_option maxRecDepth 100000 in
theorem j_X4_begin {X : fm_X} {G : fm_G} {l : Launch} {v1 : Int32} {μ : fm_I} {ν : fm_L} (C : fm_C X G l cX4_begin RX4 2 (none : Option Jvm.ClassFile.FieldType) 1 12) {F : (fm_I × fm_L) → State → Prop} (hF : F = fm_Qv X G) : fm_J X G 2 F (m_X4_begin v1 μ ν) μ ν 0 [(0, .ref (G.2.2.1 7)), (1, .int v1)] [] := by
  unfold m_X4_begin
  refine fm_aload_n (pc := 0) C dX4_begin_0 rfl rfl ?_
  refine g4_ran (pc := 1) C (by decide) dX4_begin_1 m_fl_X4_15 ?_
  refine fm_if_lt (pc := 4) (tgt := 29) C dX4_begin_4 (by decide) (fun c1 => ?_) (fun c1 => ?_)
  · refine fm_aload_n (pc := 29) C dX4_begin_29 rfl rfl ?_
    refine fm_dup (pc := 30) C dX4_begin_30 rfl ?_
    refine g4_ran (pc := 31) C (by decide) dX4_begin_31 m_fl_X4_15 ?_
    refine fm_iconst (pc := 34) (v := (nI 1)) C dX4_begin_34 (by decide) ?_
    refine fm_iadd (pc := 35) C dX4_begin_35 ?_
    refine p4_ran (pc := 36) C (by decide) dX4_begin_36 m_fl_X4_15 ?_
    exact fm_vret (pc := 39) C hF rfl dX4_begin_39
  · refine fm_aload_n (pc := 7) C dX4_begin_7 rfl rfl ?_
    refine g4_ran (pc := 8) C (by decide) dX4_begin_8 m_fl_X4_15 ?_
    refine fm_aload_n (pc := 11) C dX4_begin_11 rfl rfl ?_
    refine g4_kept (pc := 12) C (by decide) dX4_begin_12 m_fl_X4_9 ?_
    refine fm_alenI (pc := 15) C (by decide) dX4_begin_15 ?_
    refine fm_icmp_ge (pc := 16) (tgt := 29) C dX4_begin_16 (by decide) (fun c2 => ?_) (fun c2 => ?_)
    · refine fm_aload_n (pc := 29) C dX4_begin_29 rfl rfl ?_
      refine fm_dup (pc := 30) C dX4_begin_30 rfl ?_
      refine g4_ran (pc := 31) C (by decide) dX4_begin_31 m_fl_X4_15 ?_
      refine fm_iconst (pc := 34) (v := (nI 1)) C dX4_begin_34 (by decide) ?_
      refine fm_iadd (pc := 35) C dX4_begin_35 ?_
      refine p4_ran (pc := 36) C (by decide) dX4_begin_36 m_fl_X4_15 ?_
      exact fm_vret (pc := 39) C hF rfl dX4_begin_39
    · refine fm_aload_n (pc := 19) C dX4_begin_19 rfl rfl ?_
      refine g4_kept (pc := 20) C (by decide) dX4_begin_20 m_fl_X4_9 ?_
      refine fm_aload_n (pc := 23) C dX4_begin_23 rfl rfl ?_
      refine g4_ran (pc := 24) C (by decide) dX4_begin_24 m_fl_X4_15 ?_
      refine fm_iload_n (pc := 27) C dX4_begin_27 rfl rfl ?_
      refine fm_guard (fun h3 => ?_)
      refine fm_iast (pc := 28) C (by decide) h3 dX4_begin_28 ?_
      refine fm_aload_n (pc := 29) C dX4_begin_29 rfl rfl ?_
      refine fm_dup (pc := 30) C dX4_begin_30 rfl ?_
      refine g4_ran (pc := 31) C (by decide) dX4_begin_31 m_fl_X4_15 ?_
      refine fm_iconst (pc := 34) (v := (nI 1)) C dX4_begin_34 (by decide) ?_
      refine fm_iadd (pc := 35) C dX4_begin_35 ?_
      refine p4_ran (pc := 36) C (by decide) dX4_begin_36 m_fl_X4_15 ?_
      exact fm_vret (pc := 39) C hF rfl dX4_begin_39
theorem t_X4_begin {l : Launch} {G : fm_G} {v1 : Int32} {μ : fm_I} {ν : fm_L} {r : fm_I × fm_L} (h : m_X4_begin v1 μ ν = some r) : fm_Mv l G yX4_begin cX4_begin 2 (none : Option Jvm.ClassFile.FieldType) 1 12 [.ref (G.2.2.1 7), .int v1] μ ν r := fm_Mv_of (by decide +kernel) (Nat.le_of_ble_eq_true rfl) (fun _ C => j_X4_begin C rfl r h)
theorem dX0_runBody_0 : decode cX0_runBody 0 = .ok (.iload 4, 2) := by decide +kernel
theorem dX0_runBody_2 : decode cX0_runBody 2 = .ok (.bipush 10, 2) := by decide +kernel
theorem dX0_runBody_4 : decode cX0_runBody 4 = .ok (.if_icmp .le 5, 3) := by decide +kernel
theorem dX0_runBody_7 : decode cX0_runBody 7 = .ok (.iconst 0, 1) := by decide +kernel
theorem dX0_runBody_8 : decode cX0_runBody 8 = .ok (.ireturn, 1) := by decide +kernel
theorem dX0_runBody_9 : decode cX0_runBody 9 = .ok (.iload 4, 2) := by decide +kernel
theorem dX0_runBody_11 : decode cX0_runBody 11 = .ok (.iconst 1, 1) := by decide +kernel
theorem dX0_runBody_12 : decode cX0_runBody 12 = .ok (.iadd, 1) := by decide +kernel
theorem dX0_runBody_13 : decode cX0_runBody 13 = .ok (.istore 5, 2) := by decide +kernel
theorem dX0_runBody_15 : decode cX0_runBody 15 = .ok (.aload_n 3, 1) := by decide +kernel
theorem dX0_runBody_16 : decode cX0_runBody 16 = .ok (.iload_n 1, 1) := by decide +kernel
theorem dX0_runBody_17 : decode cX0_runBody 17 = .ok (.invokevirtual 93, 3) := by decide +kernel
theorem dX0_runBody_20 : decode cX0_runBody 20 = .ok (.iload_n 1, 1) := by decide +kernel
theorem dX0_runBody_21 : decode cX0_runBody 21 = .ok (.lookupswitch 271 #[(10, 99), (11, 106), (12, 122), (20, 159), (30, 175), (40, 188), (50, 201), (51, 213), (60, 229), (70, 242), (71, 255)], 99) := by decide +kernel
theorem dX0_runBody_120 : decode cX0_runBody 120 = .ok (.iload_n 2, 1) := by decide +kernel
theorem dX0_runBody_121 : decode cX0_runBody 121 = .ok (.aload_n 0, 1) := by decide +kernel
theorem dX0_runBody_122 : decode cX0_runBody 122 = .ok (.getfield 15, 3) := by decide +kernel
theorem dX0_runBody_125 : decode cX0_runBody 125 = .ok (.iadd, 1) := by decide +kernel
theorem dX0_runBody_126 : decode cX0_runBody 126 = .ok (.ireturn, 1) := by decide +kernel
theorem dX0_runBody_127 : decode cX0_runBody 127 = .ok (.aload_n 0, 1) := by decide +kernel
theorem dX0_runBody_128 : decode cX0_runBody 128 = .ok (.aload_n 0, 1) := by decide +kernel
theorem dX0_runBody_129 : decode cX0_runBody 129 = .ok (.iconst 0, 1) := by decide +kernel
theorem dX0_runBody_130 : decode cX0_runBody 130 = .ok (.invokevirtual 74, 3) := by decide +kernel
theorem dX0_runBody_133 : decode cX0_runBody 133 = .ok (.iload_n 2, 1) := by decide +kernel
theorem dX0_runBody_134 : decode cX0_runBody 134 = .ok (.aload_n 3, 1) := by decide +kernel
theorem dX0_runBody_135 : decode cX0_runBody 135 = .ok (.iload 5, 2) := by decide +kernel
theorem dX0_runBody_137 : decode cX0_runBody 137 = .ok (.invokestatic 77, 3) := by decide +kernel
theorem dX0_runBody_140 : decode cX0_runBody 140 = .ok (.iconst 2, 1) := by decide +kernel
theorem dX0_runBody_141 : decode cX0_runBody 141 = .ok (.imul, 1) := by decide +kernel
theorem dX0_runBody_142 : decode cX0_runBody 142 = .ok (.ireturn, 1) := by decide +kernel
theorem dX0_runBody_143 : decode cX0_runBody 143 = .ok (.aload_n 0, 1) := by decide +kernel
theorem dX0_runBody_144 : decode cX0_runBody 144 = .ok (.aload_n 0, 1) := by decide +kernel
theorem dX0_runBody_145 : decode cX0_runBody 145 = .ok (.iconst 1, 1) := by decide +kernel
theorem dX0_runBody_146 : decode cX0_runBody 146 = .ok (.invokevirtual 74, 3) := by decide +kernel
theorem dX0_runBody_149 : decode cX0_runBody 149 = .ok (.iload_n 2, 1) := by decide +kernel
theorem dX0_runBody_150 : decode cX0_runBody 150 = .ok (.aload_n 3, 1) := by decide +kernel
theorem dX0_runBody_151 : decode cX0_runBody 151 = .ok (.iload 5, 2) := by decide +kernel
theorem dX0_runBody_153 : decode cX0_runBody 153 = .ok (.invokestatic 77, 3) := by decide +kernel
theorem dX0_runBody_156 : decode cX0_runBody 156 = .ok (.istore 6, 2) := by decide +kernel
theorem dX0_runBody_158 : decode cX0_runBody 158 = .ok (.iload 6, 2) := by decide +kernel
theorem dX0_runBody_160 : decode cX0_runBody 160 = .ok (.aload_n 0, 1) := by decide +kernel
theorem dX0_runBody_161 : decode cX0_runBody 161 = .ok (.aload_n 0, 1) := by decide +kernel
theorem dX0_runBody_162 : decode cX0_runBody 162 = .ok (.iconst 0, 1) := by decide +kernel
theorem dX0_runBody_163 : decode cX0_runBody 163 = .ok (.invokevirtual 74, 3) := by decide +kernel
theorem dX0_runBody_166 : decode cX0_runBody 166 = .ok (.iload_n 2, 1) := by decide +kernel
theorem dX0_runBody_167 : decode cX0_runBody 167 = .ok (.aload_n 0, 1) := by decide +kernel
theorem dX0_runBody_168 : decode cX0_runBody 168 = .ok (.getfield 31, 3) := by decide +kernel
theorem dX0_runBody_171 : decode cX0_runBody 171 = .ok (.isub, 1) := by decide +kernel
theorem dX0_runBody_172 : decode cX0_runBody 172 = .ok (.aload_n 3, 1) := by decide +kernel
theorem dX0_runBody_173 : decode cX0_runBody 173 = .ok (.iload 5, 2) := by decide +kernel
theorem dX0_runBody_175 : decode cX0_runBody 175 = .ok (.invokestatic 77, 3) := by decide +kernel
theorem dX0_runBody_178 : decode cX0_runBody 178 = .ok (.ixor, 1) := by decide +kernel
theorem dX0_runBody_179 : decode cX0_runBody 179 = .ok (.ireturn, 1) := by decide +kernel
theorem dX0_runBody_180 : decode cX0_runBody 180 = .ok (.aload_n 0, 1) := by decide +kernel
theorem dX0_runBody_181 : decode cX0_runBody 181 = .ok (.bipush 10, 2) := by decide +kernel
theorem dX0_runBody_183 : decode cX0_runBody 183 = .ok (.iload_n 2, 1) := by decide +kernel
theorem dX0_runBody_184 : decode cX0_runBody 184 = .ok (.aload_n 3, 1) := by decide +kernel
theorem dX0_runBody_185 : decode cX0_runBody 185 = .ok (.iload 5, 2) := by decide +kernel
theorem dX0_runBody_187 : decode cX0_runBody 187 = .ok (.invokestatic 77, 3) := by decide +kernel
theorem dX0_runBody_190 : decode cX0_runBody 190 = .ok (.aload_n 0, 1) := by decide +kernel
theorem dX0_runBody_191 : decode cX0_runBody 191 = .ok (.getfield 31, 3) := by decide +kernel
theorem dX0_runBody_194 : decode cX0_runBody 194 = .ok (.iadd, 1) := by decide +kernel
theorem dX0_runBody_195 : decode cX0_runBody 195 = .ok (.ireturn, 1) := by decide +kernel
theorem dX0_runBody_196 : decode cX0_runBody 196 = .ok (.aload_n 0, 1) := by decide +kernel
theorem dX0_runBody_197 : decode cX0_runBody 197 = .ok (.bipush 11, 2) := by decide +kernel
theorem dX0_runBody_199 : decode cX0_runBody 199 = .ok (.iload_n 2, 1) := by decide +kernel
theorem dX0_runBody_200 : decode cX0_runBody 200 = .ok (.aload_n 3, 1) := by decide +kernel
theorem dX0_runBody_201 : decode cX0_runBody 201 = .ok (.iload 5, 2) := by decide +kernel
theorem dX0_runBody_203 : decode cX0_runBody 203 = .ok (.invokestatic 77, 3) := by decide +kernel
theorem dX0_runBody_206 : decode cX0_runBody 206 = .ok (.iconst 3, 1) := by decide +kernel
theorem dX0_runBody_207 : decode cX0_runBody 207 = .ok (.imul, 1) := by decide +kernel
theorem dX0_runBody_208 : decode cX0_runBody 208 = .ok (.ireturn, 1) := by decide +kernel
theorem dX0_runBody_209 : decode cX0_runBody 209 = .ok (.aload_n 0, 1) := by decide +kernel
theorem dX0_runBody_210 : decode cX0_runBody 210 = .ok (.bipush 11, 2) := by decide +kernel
theorem dX0_runBody_212 : decode cX0_runBody 212 = .ok (.iload_n 2, 1) := by decide +kernel
theorem dX0_runBody_213 : decode cX0_runBody 213 = .ok (.iconst 1, 1) := by decide +kernel
theorem dX0_runBody_214 : decode cX0_runBody 214 = .ok (.iadd, 1) := by decide +kernel
theorem dX0_runBody_215 : decode cX0_runBody 215 = .ok (.aload_n 3, 1) := by decide +kernel
theorem dX0_runBody_216 : decode cX0_runBody 216 = .ok (.iload 5, 2) := by decide +kernel
theorem dX0_runBody_218 : decode cX0_runBody 218 = .ok (.invokestatic 77, 3) := by decide +kernel
theorem dX0_runBody_221 : decode cX0_runBody 221 = .ok (.ireturn, 1) := by decide +kernel
theorem dX0_runBody_222 : decode cX0_runBody 222 = .ok (.aload_n 0, 1) := by decide +kernel
theorem dX0_runBody_223 : decode cX0_runBody 223 = .ok (.bipush 12, 2) := by decide +kernel
theorem dX0_runBody_225 : decode cX0_runBody 225 = .ok (.iload_n 2, 1) := by decide +kernel
theorem dX0_runBody_226 : decode cX0_runBody 226 = .ok (.aload_n 3, 1) := by decide +kernel
theorem dX0_runBody_227 : decode cX0_runBody 227 = .ok (.iload 5, 2) := by decide +kernel
theorem dX0_runBody_229 : decode cX0_runBody 229 = .ok (.invokestatic 77, 3) := by decide +kernel
theorem dX0_runBody_232 : decode cX0_runBody 232 = .ok (.ineg, 1) := by decide +kernel
theorem dX0_runBody_233 : decode cX0_runBody 233 = .ok (.ireturn, 1) := by decide +kernel
theorem dX0_runBody_234 : decode cX0_runBody 234 = .ok (.aload_n 0, 1) := by decide +kernel
theorem dX0_runBody_235 : decode cX0_runBody 235 = .ok (.bipush 10, 2) := by decide +kernel
theorem dX0_runBody_237 : decode cX0_runBody 237 = .ok (.iload_n 2, 1) := by decide +kernel
theorem dX0_runBody_238 : decode cX0_runBody 238 = .ok (.aload_n 3, 1) := by decide +kernel
theorem dX0_runBody_239 : decode cX0_runBody 239 = .ok (.iload 5, 2) := by decide +kernel
theorem dX0_runBody_241 : decode cX0_runBody 241 = .ok (.invokestatic 77, 3) := by decide +kernel
theorem dX0_runBody_244 : decode cX0_runBody 244 = .ok (.aload_n 0, 1) := by decide +kernel
theorem dX0_runBody_245 : decode cX0_runBody 245 = .ok (.getfield 15, 3) := by decide +kernel
theorem dX0_runBody_248 : decode cX0_runBody 248 = .ok (.isub, 1) := by decide +kernel
theorem dX0_runBody_249 : decode cX0_runBody 249 = .ok (.ireturn, 1) := by decide +kernel
theorem dX0_runBody_250 : decode cX0_runBody 250 = .ok (.aload_n 0, 1) := by decide +kernel
theorem dX0_runBody_251 : decode cX0_runBody 251 = .ok (.bipush 12, 2) := by decide +kernel
theorem dX0_runBody_253 : decode cX0_runBody 253 = .ok (.iload_n 2, 1) := by decide +kernel
theorem dX0_runBody_254 : decode cX0_runBody 254 = .ok (.aload_n 3, 1) := by decide +kernel
theorem dX0_runBody_255 : decode cX0_runBody 255 = .ok (.iload 5, 2) := by decide +kernel
theorem dX0_runBody_257 : decode cX0_runBody 257 = .ok (.invokestatic 77, 3) := by decide +kernel
theorem dX0_runBody_260 : decode cX0_runBody 260 = .ok (.iconst 5, 1) := by decide +kernel
theorem dX0_runBody_261 : decode cX0_runBody 261 = .ok (.ixor, 1) := by decide +kernel
theorem dX0_runBody_262 : decode cX0_runBody 262 = .ok (.ireturn, 1) := by decide +kernel
theorem dX0_runBody_263 : decode cX0_runBody 263 = .ok (.aload_n 0, 1) := by decide +kernel
theorem dX0_runBody_264 : decode cX0_runBody 264 = .ok (.bipush 51, 2) := by decide +kernel
theorem dX0_runBody_266 : decode cX0_runBody 266 = .ok (.iload_n 2, 1) := by decide +kernel
theorem dX0_runBody_267 : decode cX0_runBody 267 = .ok (.aload_n 3, 1) := by decide +kernel
theorem dX0_runBody_268 : decode cX0_runBody 268 = .ok (.iload 5, 2) := by decide +kernel
theorem dX0_runBody_270 : decode cX0_runBody 270 = .ok (.invokestatic 77, 3) := by decide +kernel
theorem dX0_runBody_273 : decode cX0_runBody 273 = .ok (.iconst 2, 1) := by decide +kernel
theorem dX0_runBody_274 : decode cX0_runBody 274 = .ok (.imul, 1) := by decide +kernel
theorem dX0_runBody_275 : decode cX0_runBody 275 = .ok (.ireturn, 1) := by decide +kernel
theorem dX0_runBody_276 : decode cX0_runBody 276 = .ok (.aload_n 0, 1) := by decide +kernel
theorem dX0_runBody_277 : decode cX0_runBody 277 = .ok (.bipush 11, 2) := by decide +kernel
theorem dX0_runBody_279 : decode cX0_runBody 279 = .ok (.iload_n 2, 1) := by decide +kernel
theorem dX0_runBody_280 : decode cX0_runBody 280 = .ok (.aload_n 0, 1) := by decide +kernel
theorem dX0_runBody_281 : decode cX0_runBody 281 = .ok (.getfield 31, 3) := by decide +kernel
theorem dX0_runBody_284 : decode cX0_runBody 284 = .ok (.isub, 1) := by decide +kernel
theorem dX0_runBody_285 : decode cX0_runBody 285 = .ok (.aload_n 3, 1) := by decide +kernel
theorem dX0_runBody_286 : decode cX0_runBody 286 = .ok (.iload 5, 2) := by decide +kernel
theorem dX0_runBody_288 : decode cX0_runBody 288 = .ok (.invokestatic 77, 3) := by decide +kernel
theorem dX0_runBody_291 : decode cX0_runBody 291 = .ok (.ireturn, 1) := by decide +kernel
theorem dX0_runBody_292 : decode cX0_runBody 292 = .ok (.iconst 0, 1) := by decide +kernel
theorem dX0_runBody_293 : decode cX0_runBody 293 = .ok (.ireturn, 1) := by decide +kernel
def m_X0_runBody : Nat → Nat → Int32 → Int32 → Int32 → fm_I → fm_L → Option (Int32 × fm_I × fm_L)
  | 0, _, _, _, _, _, _ => none
  | k + 1, q0, v1, v2, v4, μ, ν => fm_g (Nat.beq (fm_k q0) 0) (if v4 ≤ (nI 10) then (m_X4_begin v1 μ ν).bind (fun r17 => if v1 = (nI 10) then some (((v2 + ((r17.1 q0 0))), r17.1, r17.2)) else if v1 = (nI 11) then (m_X0_bodyOf q0 ((nI 0)) r17.1 r17.2).bind (fun r130 => (m_X0_runBody k q0 r130 v2 ((v4 + ((nI 1)))) r17.1 r17.2).bind (fun r137 => some (((r137.1 * ((nI 2))), r137.2.1, r137.2.2)))) else if v1 = (nI 12) then (m_X0_bodyOf q0 ((nI 1)) r17.1 r17.2).bind (fun r146 => (m_X0_runBody k q0 r146 v2 ((v4 + ((nI 1)))) r17.1 r17.2).bind (fun r153 => (m_X0_bodyOf q0 ((nI 0)) r153.2.1 r153.2.2).bind (fun r163 => (m_X0_runBody k q0 r163 ((v2 - ((r153.2.1 q0 6)))) ((v4 + ((nI 1)))) r153.2.1 r153.2.2).bind (fun r175 => some (((r153.1 ^^^ r175.1), r175.2.1, r175.2.2)))))) else if v1 = (nI 20) then (m_X0_runBody k q0 ((nI 10)) v2 ((v4 + ((nI 1)))) r17.1 r17.2).bind (fun r187 => some (((r187.1 + ((r187.2.1 q0 6))), r187.2.1, r187.2.2))) else if v1 = (nI 30) then (m_X0_runBody k q0 ((nI 11)) v2 ((v4 + ((nI 1)))) r17.1 r17.2).bind (fun r203 => some (((r203.1 * ((nI 3))), r203.2.1, r203.2.2))) else if v1 = (nI 40) then (m_X0_runBody k q0 ((nI 11)) ((v2 + ((nI 1)))) ((v4 + ((nI 1)))) r17.1 r17.2).bind (fun r218 => some ((r218.1, r218.2.1, r218.2.2))) else if v1 = (nI 50) then (m_X0_runBody k q0 ((nI 12)) v2 ((v4 + ((nI 1)))) r17.1 r17.2).bind (fun r229 => some (((-r229.1), r229.2.1, r229.2.2))) else if v1 = (nI 51) then (m_X0_runBody k q0 ((nI 10)) v2 ((v4 + ((nI 1)))) r17.1 r17.2).bind (fun r241 => some (((r241.1 - ((r241.2.1 q0 0))), r241.2.1, r241.2.2))) else if v1 = (nI 60) then (m_X0_runBody k q0 ((nI 12)) v2 ((v4 + ((nI 1)))) r17.1 r17.2).bind (fun r257 => some (((r257.1 ^^^ ((nI 5))), r257.2.1, r257.2.2))) else if v1 = (nI 70) then (m_X0_runBody k q0 ((nI 51)) v2 ((v4 + ((nI 1)))) r17.1 r17.2).bind (fun r270 => some (((r270.1 * ((nI 2))), r270.2.1, r270.2.2))) else if v1 = (nI 71) then (m_X0_runBody k q0 ((nI 11)) ((v2 - ((r17.1 q0 6)))) ((v4 + ((nI 1)))) r17.1 r17.2).bind (fun r288 => some ((r288.1, r288.2.1, r288.2.2))) else some (((nI 0), r17.1, r17.2))) else some (((nI 0), μ, ν)))
theorem ok_X0_runBody : fm_okS yX0_runBody cX0_runBody 7 (some .int) 5 := ⟨m_cd_X0_runBody, m_st_X0_runBody, m_ini_X0, by decide +kernel, by decide +kernel, by decide +kernel⟩
theorem h_X0_runBody {l : Launch} {G : fm_G} : ∀ (k : Nat) {q0 : Nat} {v1 : Int32} {v2 : Int32} {v4 : Int32} {μ : fm_I} {ν : fm_L} {r : Int32 × fm_I × fm_L} (_ : m_X0_runBody k q0 v1 v2 v4 μ ν = some r), fm_Mi l G yX0_runBody cX0_runBody 7 (some .int) (5 + k) (113 + 60 * k) [.ref (G.2.2.1 q0), .int v1, .int v2, .ref (G.2.2.1 7), .int v4] μ ν r := by
  intro k
  induction k with
  | zero =>
    intro q0 v1 v2 v4 μ ν r h
    cases h
  | succ k ih =>
    intro q0 v1 v2 v4 μ ν r h
    refine fm_Mi_of (by decide +kernel) (Nat.le_of_ble_eq_true rfl) (fun X C => ?_)
    rw [m_X0_runBody] at h
    revert r
    show fm_J X G 7 (fm_Qi X G) _ μ ν 0 [(0, .ref (G.2.2.1 q0)), (1, .int v1), (2, .int v2), (3, .ref (G.2.2.1 7)), (4, .int v4)] []
    have hF : (fm_Qi X G) = (fm_Qi X G) := rfl
    refine fm_guard (fun h1 => ?_)
    refine fm_iload (pc := 0) C dX0_runBody_0 rfl ?_
    refine fm_bipush (pc := 2) (v := (nI 10)) C dX0_runBody_2 (by decide) ?_
    refine fm_icmp_le (pc := 4) (tgt := 9) C dX0_runBody_4 (by decide) (fun c2 => ?_) (fun c2 => ?_)
    · refine fm_iload (pc := 9) C dX0_runBody_9 rfl ?_
      refine fm_iconst (pc := 11) (v := (nI 1)) C dX0_runBody_11 (by decide) ?_
      refine fm_iadd (pc := 12) C dX0_runBody_12 ?_
      refine fm_istore (pc := 13) C dX0_runBody_13 (by decide) rfl ?_
      refine fm_aload_n (pc := 15) C dX0_runBody_15 rfl rfl ?_
      refine fm_iload_n (pc := 16) C dX0_runBody_16 rfl rfl ?_
      refine fm_bind (fun r17 e17 => ?_)
      refine fm_cVv (pc := 17) C (t_X4_begin e17) ok_X4_begin ⟨by decide, rfl⟩ m_ml_X0_93 dX0_runBody_17 ⟨by omega, by omega⟩ rfl rfl (Nat.le_of_ble_eq_true rfl) ?_
      refine fm_iload_n (pc := 20) C dX0_runBody_20 rfl rfl ?_
      refine fm_ite (fun s3 => ?_) (fun s3 => ?_)
      · refine fm_look (pc := 21) (tgt := 120) (off := 99) C dX0_runBody_21 (by decide) (by rw [s3]; decide) (by decide) ?_
        refine fm_iload_n (pc := 120) C dX0_runBody_120 rfl rfl ?_
        refine fm_aload_n (pc := 121) C dX0_runBody_121 rfl rfl ?_
        refine g0_number (pc := 122) C (Nat.eq_of_beq_eq_true h1) dX0_runBody_122 m_fl_X0_15 ?_
        refine fm_iadd (pc := 125) C dX0_runBody_125 ?_
        exact fm_zret (pc := 126) C hF rfl rfl dX0_runBody_126
      · refine fm_ite (fun s4 => ?_) (fun s4 => ?_)
        · refine fm_look (pc := 21) (tgt := 127) (off := 106) C dX0_runBody_21 (by decide) (by rw [s4]; decide) (by decide) ?_
          refine fm_aload_n (pc := 127) C dX0_runBody_127 rfl rfl ?_
          refine fm_aload_n (pc := 128) C dX0_runBody_128 rfl rfl ?_
          refine fm_iconst (pc := 129) (v := (nI 0)) C dX0_runBody_129 (by decide) ?_
          refine fm_bind (fun r130 e130 => ?_)
          refine fm_cVi0 (pc := 130) C (t_X0_bodyOf e130) ok_X0_bodyOf (fm_kcn0 (Nat.eq_of_beq_eq_true h1)) m_ml_X0_74 dX0_runBody_130 ⟨by omega, by omega⟩ rfl rfl (Nat.le_of_ble_eq_true rfl) ?_
          refine fm_iload_n (pc := 133) C dX0_runBody_133 rfl rfl ?_
          refine fm_aload_n (pc := 134) C dX0_runBody_134 rfl rfl ?_
          refine fm_iload (pc := 135) C dX0_runBody_135 rfl ?_
          refine fm_bind (fun r137 e137 => ?_)
          refine fm_cSi (pc := 137) C (ih e137) ok_X0_runBody m_ml_X0_77 dX0_runBody_137 ⟨by omega, by omega⟩ rfl rfl (Nat.le_of_ble_eq_true rfl) ?_
          refine fm_iconst (pc := 140) (v := (nI 2)) C dX0_runBody_140 (by decide) ?_
          refine fm_imul (pc := 141) C dX0_runBody_141 ?_
          exact fm_zret (pc := 142) C hF rfl rfl dX0_runBody_142
        · refine fm_ite (fun s5 => ?_) (fun s5 => ?_)
          · refine fm_look (pc := 21) (tgt := 143) (off := 122) C dX0_runBody_21 (by decide) (by rw [s5]; decide) (by decide) ?_
            refine fm_aload_n (pc := 143) C dX0_runBody_143 rfl rfl ?_
            refine fm_aload_n (pc := 144) C dX0_runBody_144 rfl rfl ?_
            refine fm_iconst (pc := 145) (v := (nI 1)) C dX0_runBody_145 (by decide) ?_
            refine fm_bind (fun r146 e146 => ?_)
            refine fm_cVi0 (pc := 146) C (t_X0_bodyOf e146) ok_X0_bodyOf (fm_kcn0 (Nat.eq_of_beq_eq_true h1)) m_ml_X0_74 dX0_runBody_146 ⟨by omega, by omega⟩ rfl rfl (Nat.le_of_ble_eq_true rfl) ?_
            refine fm_iload_n (pc := 149) C dX0_runBody_149 rfl rfl ?_
            refine fm_aload_n (pc := 150) C dX0_runBody_150 rfl rfl ?_
            refine fm_iload (pc := 151) C dX0_runBody_151 rfl ?_
            refine fm_bind (fun r153 e153 => ?_)
            refine fm_cSi (pc := 153) C (ih e153) ok_X0_runBody m_ml_X0_77 dX0_runBody_153 ⟨by omega, by omega⟩ rfl rfl (Nat.le_of_ble_eq_true rfl) ?_
            refine fm_istore (pc := 156) C dX0_runBody_156 (by decide) rfl ?_
            refine fm_iload (pc := 158) C dX0_runBody_158 rfl ?_
            refine fm_aload_n (pc := 160) C dX0_runBody_160 rfl rfl ?_
            refine fm_aload_n (pc := 161) C dX0_runBody_161 rfl rfl ?_
            refine fm_iconst (pc := 162) (v := (nI 0)) C dX0_runBody_162 (by decide) ?_
            refine fm_bind (fun r163 e163 => ?_)
            refine fm_cVi0 (pc := 163) C (t_X0_bodyOf e163) ok_X0_bodyOf (fm_kcn0 (Nat.eq_of_beq_eq_true h1)) m_ml_X0_74 dX0_runBody_163 ⟨by omega, by omega⟩ rfl rfl (Nat.le_of_ble_eq_true rfl) ?_
            refine fm_iload_n (pc := 166) C dX0_runBody_166 rfl rfl ?_
            refine fm_aload_n (pc := 167) C dX0_runBody_167 rfl rfl ?_
            refine g0_a (pc := 168) C (Nat.eq_of_beq_eq_true h1) dX0_runBody_168 m_fl_X0_31 ?_
            refine fm_isub (pc := 171) C dX0_runBody_171 ?_
            refine fm_aload_n (pc := 172) C dX0_runBody_172 rfl rfl ?_
            refine fm_iload (pc := 173) C dX0_runBody_173 rfl ?_
            refine fm_bind (fun r175 e175 => ?_)
            refine fm_cSi (pc := 175) C (ih e175) ok_X0_runBody m_ml_X0_77 dX0_runBody_175 ⟨by omega, by omega⟩ rfl rfl (Nat.le_of_ble_eq_true rfl) ?_
            refine fm_ixor (pc := 178) C dX0_runBody_178 ?_
            exact fm_zret (pc := 179) C hF rfl rfl dX0_runBody_179
          · refine fm_ite (fun s6 => ?_) (fun s6 => ?_)
            · refine fm_look (pc := 21) (tgt := 180) (off := 159) C dX0_runBody_21 (by decide) (by rw [s6]; decide) (by decide) ?_
              refine fm_aload_n (pc := 180) C dX0_runBody_180 rfl rfl ?_
              refine fm_bipush (pc := 181) (v := (nI 10)) C dX0_runBody_181 (by decide) ?_
              refine fm_iload_n (pc := 183) C dX0_runBody_183 rfl rfl ?_
              refine fm_aload_n (pc := 184) C dX0_runBody_184 rfl rfl ?_
              refine fm_iload (pc := 185) C dX0_runBody_185 rfl ?_
              refine fm_bind (fun r187 e187 => ?_)
              refine fm_cSi (pc := 187) C (ih e187) ok_X0_runBody m_ml_X0_77 dX0_runBody_187 ⟨by omega, by omega⟩ rfl rfl (Nat.le_of_ble_eq_true rfl) ?_
              refine fm_aload_n (pc := 190) C dX0_runBody_190 rfl rfl ?_
              refine g0_a (pc := 191) C (Nat.eq_of_beq_eq_true h1) dX0_runBody_191 m_fl_X0_31 ?_
              refine fm_iadd (pc := 194) C dX0_runBody_194 ?_
              exact fm_zret (pc := 195) C hF rfl rfl dX0_runBody_195
            · refine fm_ite (fun s7 => ?_) (fun s7 => ?_)
              · refine fm_look (pc := 21) (tgt := 196) (off := 175) C dX0_runBody_21 (by decide) (by rw [s7]; decide) (by decide) ?_
                refine fm_aload_n (pc := 196) C dX0_runBody_196 rfl rfl ?_
                refine fm_bipush (pc := 197) (v := (nI 11)) C dX0_runBody_197 (by decide) ?_
                refine fm_iload_n (pc := 199) C dX0_runBody_199 rfl rfl ?_
                refine fm_aload_n (pc := 200) C dX0_runBody_200 rfl rfl ?_
                refine fm_iload (pc := 201) C dX0_runBody_201 rfl ?_
                refine fm_bind (fun r203 e203 => ?_)
                refine fm_cSi (pc := 203) C (ih e203) ok_X0_runBody m_ml_X0_77 dX0_runBody_203 ⟨by omega, by omega⟩ rfl rfl (Nat.le_of_ble_eq_true rfl) ?_
                refine fm_iconst (pc := 206) (v := (nI 3)) C dX0_runBody_206 (by decide) ?_
                refine fm_imul (pc := 207) C dX0_runBody_207 ?_
                exact fm_zret (pc := 208) C hF rfl rfl dX0_runBody_208
              · refine fm_ite (fun s8 => ?_) (fun s8 => ?_)
                · refine fm_look (pc := 21) (tgt := 209) (off := 188) C dX0_runBody_21 (by decide) (by rw [s8]; decide) (by decide) ?_
                  refine fm_aload_n (pc := 209) C dX0_runBody_209 rfl rfl ?_
                  refine fm_bipush (pc := 210) (v := (nI 11)) C dX0_runBody_210 (by decide) ?_
                  refine fm_iload_n (pc := 212) C dX0_runBody_212 rfl rfl ?_
                  refine fm_iconst (pc := 213) (v := (nI 1)) C dX0_runBody_213 (by decide) ?_
                  refine fm_iadd (pc := 214) C dX0_runBody_214 ?_
                  refine fm_aload_n (pc := 215) C dX0_runBody_215 rfl rfl ?_
                  refine fm_iload (pc := 216) C dX0_runBody_216 rfl ?_
                  refine fm_bind (fun r218 e218 => ?_)
                  refine fm_cSi (pc := 218) C (ih e218) ok_X0_runBody m_ml_X0_77 dX0_runBody_218 ⟨by omega, by omega⟩ rfl rfl (Nat.le_of_ble_eq_true rfl) ?_
                  exact fm_zret (pc := 221) C hF rfl rfl dX0_runBody_221
                · refine fm_ite (fun s9 => ?_) (fun s9 => ?_)
                  · refine fm_look (pc := 21) (tgt := 222) (off := 201) C dX0_runBody_21 (by decide) (by rw [s9]; decide) (by decide) ?_
                    refine fm_aload_n (pc := 222) C dX0_runBody_222 rfl rfl ?_
                    refine fm_bipush (pc := 223) (v := (nI 12)) C dX0_runBody_223 (by decide) ?_
                    refine fm_iload_n (pc := 225) C dX0_runBody_225 rfl rfl ?_
                    refine fm_aload_n (pc := 226) C dX0_runBody_226 rfl rfl ?_
                    refine fm_iload (pc := 227) C dX0_runBody_227 rfl ?_
                    refine fm_bind (fun r229 e229 => ?_)
                    refine fm_cSi (pc := 229) C (ih e229) ok_X0_runBody m_ml_X0_77 dX0_runBody_229 ⟨by omega, by omega⟩ rfl rfl (Nat.le_of_ble_eq_true rfl) ?_
                    refine fm_ineg (pc := 232) C dX0_runBody_232 ?_
                    exact fm_zret (pc := 233) C hF rfl rfl dX0_runBody_233
                  · refine fm_ite (fun s10 => ?_) (fun s10 => ?_)
                    · refine fm_look (pc := 21) (tgt := 234) (off := 213) C dX0_runBody_21 (by decide) (by rw [s10]; decide) (by decide) ?_
                      refine fm_aload_n (pc := 234) C dX0_runBody_234 rfl rfl ?_
                      refine fm_bipush (pc := 235) (v := (nI 10)) C dX0_runBody_235 (by decide) ?_
                      refine fm_iload_n (pc := 237) C dX0_runBody_237 rfl rfl ?_
                      refine fm_aload_n (pc := 238) C dX0_runBody_238 rfl rfl ?_
                      refine fm_iload (pc := 239) C dX0_runBody_239 rfl ?_
                      refine fm_bind (fun r241 e241 => ?_)
                      refine fm_cSi (pc := 241) C (ih e241) ok_X0_runBody m_ml_X0_77 dX0_runBody_241 ⟨by omega, by omega⟩ rfl rfl (Nat.le_of_ble_eq_true rfl) ?_
                      refine fm_aload_n (pc := 244) C dX0_runBody_244 rfl rfl ?_
                      refine g0_number (pc := 245) C (Nat.eq_of_beq_eq_true h1) dX0_runBody_245 m_fl_X0_15 ?_
                      refine fm_isub (pc := 248) C dX0_runBody_248 ?_
                      exact fm_zret (pc := 249) C hF rfl rfl dX0_runBody_249
                    · refine fm_ite (fun s11 => ?_) (fun s11 => ?_)
                      · refine fm_look (pc := 21) (tgt := 250) (off := 229) C dX0_runBody_21 (by decide) (by rw [s11]; decide) (by decide) ?_
                        refine fm_aload_n (pc := 250) C dX0_runBody_250 rfl rfl ?_
                        refine fm_bipush (pc := 251) (v := (nI 12)) C dX0_runBody_251 (by decide) ?_
                        refine fm_iload_n (pc := 253) C dX0_runBody_253 rfl rfl ?_
                        refine fm_aload_n (pc := 254) C dX0_runBody_254 rfl rfl ?_
                        refine fm_iload (pc := 255) C dX0_runBody_255 rfl ?_
                        refine fm_bind (fun r257 e257 => ?_)
                        refine fm_cSi (pc := 257) C (ih e257) ok_X0_runBody m_ml_X0_77 dX0_runBody_257 ⟨by omega, by omega⟩ rfl rfl (Nat.le_of_ble_eq_true rfl) ?_
                        refine fm_iconst (pc := 260) (v := (nI 5)) C dX0_runBody_260 (by decide) ?_
                        refine fm_ixor (pc := 261) C dX0_runBody_261 ?_
                        exact fm_zret (pc := 262) C hF rfl rfl dX0_runBody_262
                      · refine fm_ite (fun s12 => ?_) (fun s12 => ?_)
                        · refine fm_look (pc := 21) (tgt := 263) (off := 242) C dX0_runBody_21 (by decide) (by rw [s12]; decide) (by decide) ?_
                          refine fm_aload_n (pc := 263) C dX0_runBody_263 rfl rfl ?_
                          refine fm_bipush (pc := 264) (v := (nI 51)) C dX0_runBody_264 (by decide) ?_
                          refine fm_iload_n (pc := 266) C dX0_runBody_266 rfl rfl ?_
                          refine fm_aload_n (pc := 267) C dX0_runBody_267 rfl rfl ?_
                          refine fm_iload (pc := 268) C dX0_runBody_268 rfl ?_
                          refine fm_bind (fun r270 e270 => ?_)
                          refine fm_cSi (pc := 270) C (ih e270) ok_X0_runBody m_ml_X0_77 dX0_runBody_270 ⟨by omega, by omega⟩ rfl rfl (Nat.le_of_ble_eq_true rfl) ?_
                          refine fm_iconst (pc := 273) (v := (nI 2)) C dX0_runBody_273 (by decide) ?_
                          refine fm_imul (pc := 274) C dX0_runBody_274 ?_
                          exact fm_zret (pc := 275) C hF rfl rfl dX0_runBody_275
                        · refine fm_ite (fun s13 => ?_) (fun s13 => ?_)
                          · refine fm_look (pc := 21) (tgt := 276) (off := 255) C dX0_runBody_21 (by decide) (by rw [s13]; decide) (by decide) ?_
                            refine fm_aload_n (pc := 276) C dX0_runBody_276 rfl rfl ?_
                            refine fm_bipush (pc := 277) (v := (nI 11)) C dX0_runBody_277 (by decide) ?_
                            refine fm_iload_n (pc := 279) C dX0_runBody_279 rfl rfl ?_
                            refine fm_aload_n (pc := 280) C dX0_runBody_280 rfl rfl ?_
                            refine g0_a (pc := 281) C (Nat.eq_of_beq_eq_true h1) dX0_runBody_281 m_fl_X0_31 ?_
                            refine fm_isub (pc := 284) C dX0_runBody_284 ?_
                            refine fm_aload_n (pc := 285) C dX0_runBody_285 rfl rfl ?_
                            refine fm_iload (pc := 286) C dX0_runBody_286 rfl ?_
                            refine fm_bind (fun r288 e288 => ?_)
                            refine fm_cSi (pc := 288) C (ih e288) ok_X0_runBody m_ml_X0_77 dX0_runBody_288 ⟨by omega, by omega⟩ rfl rfl (Nat.le_of_ble_eq_true rfl) ?_
                            exact fm_zret (pc := 291) C hF rfl rfl dX0_runBody_291
                          · refine fm_look (pc := 21) (tgt := 292) (off := 271) C dX0_runBody_21 (by decide) ((lv_osw (k := (nI 10)) s3 (by decide)).trans ((lv_osw (k := (nI 11)) s4 (by decide)).trans ((lv_osw (k := (nI 12)) s5 (by decide)).trans ((lv_osw (k := (nI 20)) s6 (by decide)).trans ((lv_osw (k := (nI 30)) s7 (by decide)).trans ((lv_osw (k := (nI 40)) s8 (by decide)).trans ((lv_osw (k := (nI 50)) s9 (by decide)).trans ((lv_osw (k := (nI 51)) s10 (by decide)).trans ((lv_osw (k := (nI 60)) s11 (by decide)).trans ((lv_osw (k := (nI 70)) s12 (by decide)).trans ((lv_osw (k := (nI 71)) s13 (by decide)).trans rfl))))))))))) (by decide) ?_
                            refine fm_iconst (pc := 292) (v := (nI 0)) C dX0_runBody_292 (by decide) ?_
                            exact fm_zret (pc := 293) C hF rfl rfl dX0_runBody_293
    · refine fm_iconst (pc := 7) (v := (nI 0)) C dX0_runBody_7 (by decide) ?_
      exact fm_zret (pc := 8) C hF rfl rfl dX0_runBody_8
theorem t_X0_runBody {l : Launch} {G : fm_G} {q0 : Nat} {v1 : Int32} {v2 : Int32} {v4 : Int32} {μ : fm_I} {ν : fm_L} {r : Int32 × fm_I × fm_L} (h : m_X0_runBody 12 q0 v1 v2 v4 μ ν = some r) : fm_Mi l G yX0_runBody cX0_runBody 7 (some .int) 17 833 [.ref (G.2.2.1 q0), .int v1, .int v2, .ref (G.2.2.1 7), .int v4] μ ν r := h_X0_runBody 12 h
theorem dX0_run_0 : decode cX0_run 0 = .ok (.aload_n 0, 1) := by decide +kernel
theorem dX0_run_1 : decode cX0_run 1 = .ok (.aload_n 0, 1) := by decide +kernel
theorem dX0_run_2 : decode cX0_run 2 = .ok (.iload_n 1, 1) := by decide +kernel
theorem dX0_run_3 : decode cX0_run 3 = .ok (.invokevirtual 74, 3) := by decide +kernel
theorem dX0_run_6 : decode cX0_run 6 = .ok (.iload_n 2, 1) := by decide +kernel
theorem dX0_run_7 : decode cX0_run 7 = .ok (.aload_n 3, 1) := by decide +kernel
theorem dX0_run_8 : decode cX0_run 8 = .ok (.iconst 0, 1) := by decide +kernel
theorem dX0_run_9 : decode cX0_run 9 = .ok (.invokestatic 77, 3) := by decide +kernel
theorem dX0_run_12 : decode cX0_run 12 = .ok (.ireturn, 1) := by decide +kernel
def m_X0_run (p0 : Nat) (v1 : Int32) (v2 : Int32) (μ : fm_I) (ν : fm_L) : Option (Int32 × fm_I × fm_L) :=
  fm_g (Nat.beq (fm_k p0) 0) ((m_X0_bodyOf p0 v1 μ ν).bind (fun r3 => (m_X0_runBody 12 p0 r3 v2 ((nI 0)) μ ν).bind (fun r9 => some ((r9.1, r9.2.1, r9.2.2)))))
theorem ok_X0_run : fm_okV yX0_run cX0_run 4 (some .int) 3 := ⟨m_cd_X0_run, m_im_X0_run, m_se_X0_X0_run, m_ini_X0, by decide +kernel, by decide +kernel, by decide +kernel⟩
set_option maxHeartbeats 4000000 in
set_option maxRecDepth 100000 in
theorem j_X0_run {X : fm_X} {G : fm_G} {l : Launch} {p0 : Nat} {v1 : Int32} {v2 : Int32} {μ : fm_I} {ν : fm_L} (C : fm_C X G l cX0_run RX0 4 (some .int) 18 859) {F : (Int32 × fm_I × fm_L) → State → Prop} (hF : F = fm_Qi X G) : fm_J X G 4 F (m_X0_run p0 v1 v2 μ ν) μ ν 0 [(0, .ref (G.2.2.1 p0)), (1, .int v1), (2, .int v2), (3, .ref (G.2.2.1 7))] [] := by
  unfold m_X0_run
  refine fm_guard (fun h1 => ?_)
  refine fm_aload_n (pc := 0) C dX0_run_0 rfl rfl ?_
  refine fm_aload_n (pc := 1) C dX0_run_1 rfl rfl ?_
  refine fm_iload_n (pc := 2) C dX0_run_2 rfl rfl ?_
  refine fm_bind (fun r3 e3 => ?_)
  refine fm_cVi0 (pc := 3) C (t_X0_bodyOf e3) ok_X0_bodyOf (fm_kcn0 (Nat.eq_of_beq_eq_true h1)) m_ml_X0_74 dX0_run_3 ⟨Nat.le_of_ble_eq_true rfl, Nat.le_of_ble_eq_true rfl⟩ rfl rfl (Nat.le_of_ble_eq_true rfl) ?_
  refine fm_iload_n (pc := 6) C dX0_run_6 rfl rfl ?_
  refine fm_aload_n (pc := 7) C dX0_run_7 rfl rfl ?_
  refine fm_iconst (pc := 8) (v := (nI 0)) C dX0_run_8 (by decide) ?_
  refine fm_bind (fun r9 e9 => ?_)
  refine fm_cSi (pc := 9) C (t_X0_runBody e9) ok_X0_runBody m_ml_X0_77 dX0_run_9 ⟨Nat.le_of_ble_eq_true rfl, Nat.le_of_ble_eq_true rfl⟩ rfl rfl (Nat.le_of_ble_eq_true rfl) ?_
  exact fm_zret (pc := 12) C hF rfl rfl dX0_run_12
theorem t_X0_run {l : Launch} {G : fm_G} {p0 : Nat} {v1 : Int32} {v2 : Int32} {μ : fm_I} {ν : fm_L} {r : Int32 × fm_I × fm_L} (h : m_X0_run p0 v1 v2 μ ν = some r) : fm_Mi l G yX0_run cX0_run 4 (some .int) 18 859 [.ref (G.2.2.1 p0), .int v1, .int v2, .ref (G.2.2.1 7)] μ ν r := fm_Mi_of (by decide +kernel) (Nat.le_of_ble_eq_true rfl) (fun _ C => j_X0_run C rfl r h)
theorem dX4_bodyAt_0 : decode cX4_bodyAt 0 = .ok (.iload_n 1, 1) := by decide +kernel
theorem dX4_bodyAt_1 : decode cX4_bodyAt 1 = .ok (.ifCond .lt 29, 3) := by decide +kernel
theorem dX4_bodyAt_4 : decode cX4_bodyAt 4 = .ok (.iload_n 1, 1) := by decide +kernel
theorem dX4_bodyAt_5 : decode cX4_bodyAt 5 = .ok (.aload_n 0, 1) := by decide +kernel
theorem dX4_bodyAt_6 : decode cX4_bodyAt 6 = .ok (.getfield 15, 3) := by decide +kernel
theorem dX4_bodyAt_9 : decode cX4_bodyAt 9 = .ok (.if_icmp .ge 21, 3) := by decide +kernel
theorem dX4_bodyAt_12 : decode cX4_bodyAt 12 = .ok (.iload_n 1, 1) := by decide +kernel
theorem dX4_bodyAt_13 : decode cX4_bodyAt 13 = .ok (.aload_n 0, 1) := by decide +kernel
theorem dX4_bodyAt_14 : decode cX4_bodyAt 14 = .ok (.getfield 9, 3) := by decide +kernel
theorem dX4_bodyAt_17 : decode cX4_bodyAt 17 = .ok (.arraylength, 1) := by decide +kernel
theorem dX4_bodyAt_18 : decode cX4_bodyAt 18 = .ok (.if_icmp .ge 12, 3) := by decide +kernel
theorem dX4_bodyAt_21 : decode cX4_bodyAt 21 = .ok (.aload_n 0, 1) := by decide +kernel
theorem dX4_bodyAt_22 : decode cX4_bodyAt 22 = .ok (.getfield 9, 3) := by decide +kernel
theorem dX4_bodyAt_25 : decode cX4_bodyAt 25 = .ok (.iload_n 1, 1) := by decide +kernel
theorem dX4_bodyAt_26 : decode cX4_bodyAt 26 = .ok (.iaload, 1) := by decide +kernel
theorem dX4_bodyAt_27 : decode cX4_bodyAt 27 = .ok (.goto 4, 3) := by decide +kernel
theorem dX4_bodyAt_30 : decode cX4_bodyAt 30 = .ok (.iconst (-1), 1) := by decide +kernel
theorem dX4_bodyAt_31 : decode cX4_bodyAt 31 = .ok (.ireturn, 1) := by decide +kernel
def m_X4_bodyAt (v1 : Int32) (μ : fm_I) (ν : fm_L) : Option (Int32) :=
  if v1 < 0 then some ((-1 : Int32)) else if (μ 7 1) ≤ v1 then some ((-1 : Int32)) else if (nI (fm_n 8)) ≤ v1 then some ((-1 : Int32)) else fm_g (fm_in v1 (fm_n 8)) (some ((μ 8 v1.toNatClampNeg)))
theorem ok_X4_bodyAt : fm_okV yX4_bodyAt cX4_bodyAt 2 (some .int) 1 := ⟨m_cd_X4_bodyAt, m_im_X4_bodyAt, m_se_X4_X4_bodyAt, m_ini_X4, by decide +kernel, by decide +kernel, by decide +kernel⟩
set_option maxHeartbeats 4000000 in
set_option maxRecDepth 100000 in
theorem j_X4_bodyAt {X : fm_X} {G : fm_G} {l : Launch} {v1 : Int32} {μ : fm_I} {ν : fm_L} (C : fm_C X G l cX4_bodyAt RX4 2 (some .int) 1 12) {F : Int32 → State → Prop} (hF : F = fun r => fm_Qi X G (r, μ, ν)) : fm_J X G 2 F (m_X4_bodyAt v1 μ ν) μ ν 0 [(0, .ref (G.2.2.1 7)), (1, .int v1)] [] := by
  unfold m_X4_bodyAt
  refine fm_iload_n (pc := 0) C dX4_bodyAt_0 rfl rfl ?_
  refine fm_if_lt (pc := 1) (tgt := 30) C dX4_bodyAt_1 (by decide) (fun c1 => ?_) (fun c1 => ?_)
  · refine fm_iconst (pc := 30) (v := (-1 : Int32)) C dX4_bodyAt_30 (by decide) ?_
    exact fm_zret0 (pc := 31) C hF rfl rfl dX4_bodyAt_31
  · refine fm_iload_n (pc := 4) C dX4_bodyAt_4 rfl rfl ?_
    refine fm_aload_n (pc := 5) C dX4_bodyAt_5 rfl rfl ?_
    refine g4_ran (pc := 6) C (by decide) dX4_bodyAt_6 m_fl_X4_15 ?_
    refine fm_icmp_ge (pc := 9) (tgt := 30) C dX4_bodyAt_9 (by decide) (fun c2 => ?_) (fun c2 => ?_)
    · refine fm_iconst (pc := 30) (v := (-1 : Int32)) C dX4_bodyAt_30 (by decide) ?_
      exact fm_zret0 (pc := 31) C hF rfl rfl dX4_bodyAt_31
    · refine fm_iload_n (pc := 12) C dX4_bodyAt_12 rfl rfl ?_
      refine fm_aload_n (pc := 13) C dX4_bodyAt_13 rfl rfl ?_
      refine g4_kept (pc := 14) C (by decide) dX4_bodyAt_14 m_fl_X4_9 ?_
      refine fm_alenI (pc := 17) C (by decide) dX4_bodyAt_17 ?_
      refine fm_icmp_ge (pc := 18) (tgt := 30) C dX4_bodyAt_18 (by decide) (fun c3 => ?_) (fun c3 => ?_)
      · refine fm_iconst (pc := 30) (v := (-1 : Int32)) C dX4_bodyAt_30 (by decide) ?_
        exact fm_zret0 (pc := 31) C hF rfl rfl dX4_bodyAt_31
      · refine fm_aload_n (pc := 21) C dX4_bodyAt_21 rfl rfl ?_
        refine g4_kept (pc := 22) C (by decide) dX4_bodyAt_22 m_fl_X4_9 ?_
        refine fm_iload_n (pc := 25) C dX4_bodyAt_25 rfl rfl ?_
        refine fm_guard (fun h4 => ?_)
        refine fm_iald (pc := 26) C (by decide) h4 dX4_bodyAt_26 ?_
        refine fm_goto (pc := 27) (tgt := 31) C dX4_bodyAt_27 (by decide) ?_
        exact fm_zret0 (pc := 31) C hF rfl rfl dX4_bodyAt_31
theorem t_X4_bodyAt {l : Launch} {G : fm_G} {v1 : Int32} {μ : fm_I} {ν : fm_L} {r : Int32} (h : m_X4_bodyAt v1 μ ν = some r) : fm_Mi l G yX4_bodyAt cX4_bodyAt 2 (some .int) 1 12 [.ref (G.2.2.1 7), .int v1] μ ν (r, μ, ν) := fm_Mi_of (by decide +kernel) (Nat.le_of_ble_eq_true rfl) (fun _ C => j_X4_bodyAt C rfl r h)
