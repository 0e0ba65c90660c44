theorem dJ7_fill_d0a16_0 : decode cJ7_fill_d0a16 0 = .ok (.iconst 0, 1) := by decide +kernel
theorem dJ7_fill_d0a16_1 : decode cJ7_fill_d0a16 1 = .ok (.istore_n 3, 1) := by decide +kernel
theorem dJ7_fill_d0a16_2 : decode cJ7_fill_d0a16 2 = .ok (.aload_n 0, 1) := by decide +kernel
theorem dJ7_fill_d0a16_3 : decode cJ7_fill_d0a16 3 = .ok (.arraylength, 1) := by decide +kernel
theorem dJ7_fill_d0a16_4 : decode cJ7_fill_d0a16 4 = .ok (.istore 4, 2) := by decide +kernel
theorem dJ7_fill_d0a16_6 : decode cJ7_fill_d0a16 6 = .ok (.iload_n 3, 1) := by decide +kernel
theorem dJ7_fill_d0a16_7 : decode cJ7_fill_d0a16 7 = .ok (.iload 4, 2) := by decide +kernel
theorem dJ7_fill_d0a16_9 : decode cJ7_fill_d0a16 9 = .ok (.if_icmp .ge 13, 3) := by decide +kernel
theorem dJ7_fill_d0a16_12 : decode cJ7_fill_d0a16 12 = .ok (.aload_n 0, 1) := by decide +kernel
theorem dJ7_fill_d0a16_13 : decode cJ7_fill_d0a16 13 = .ok (.iload_n 3, 1) := by decide +kernel
theorem dJ7_fill_d0a16_14 : decode cJ7_fill_d0a16 14 = .ok (.lload_n 1, 1) := by decide +kernel
theorem dJ7_fill_d0a16_15 : decode cJ7_fill_d0a16 15 = .ok (.lastore, 1) := by decide +kernel
theorem dJ7_fill_d0a16_16 : decode cJ7_fill_d0a16 16 = .ok (.iinc 3 1, 3) := by decide +kernel
theorem dJ7_fill_d0a16_19 : decode cJ7_fill_d0a16 19 = .ok (.goto (-13), 3) := by decide +kernel
theorem dJ7_fill_d0a16_22 : decode cJ7_fill_d0a16 22 = .ok (.return_, 1) := by decide +kernel
def m_J7_fill_d0a16_6 (q0 : Nat) (w1 : Int64) (v4 : Int32) (K : fm_I → fm_L → Option (fm_I × fm_L)) : Nat → Int32 → fm_I → fm_L → Option (fm_I × fm_L)
  | 0, _, _, _ => none
  | k + 1, v3, μ, ν => if v4 ≤ v3 then K  μ ν else fm_g (fm_in v3 (fm_n q0)) (m_J7_fill_d0a16_6 q0 w1 v4 K k ((v3 + nI 1)) μ (fm_ul ν q0 v3.toNatClampNeg w1))
def m_J7_fill_d0a16 (q0 : Nat) (w1 : Int64) (μ : fm_I) (ν : fm_L) : Option (fm_I × fm_L) :=
  fm_g (Nat.beq (fm_k q0) 8) (m_J7_fill_d0a16_6 q0 w1 ((nI (fm_n q0)))  (fun μ6 ν6 => some ((μ6, ν6))) 5000 ((nI 0)) μ ν)
theorem ok_J7_fill_d0a16 : fm_okS yJ7_fill_d0a16 cJ7_fill_d0a16 5 (none : Option Jvm.ClassFile.FieldType) 2 := ⟨m_cd_J7_fill_d0a16, m_st_J7_fill_d0a16, m_ini_J7, by decide +kernel, by decide +kernel, by decide +kernel⟩
set_option maxHeartbeats 4000000 in
set_option maxRecDepth 100000 in
theorem j_J7_fill_d0a16_6_ {X : fm_X} {G : fm_G} {l : Launch} {q0 : Nat} {w1 : Int64} {v4 : Int32} (C : fm_C X G l cJ7_fill_d0a16 RJ7 5 (none : Option Jvm.ClassFile.FieldType) 1 12) {F : (fm_I × fm_L) → State → Prop} (hF : F = fm_Qv X G) (hk0 : fm_k q0 = 8) {K : fm_I → fm_L → Option (fm_I × fm_L)} (hK : ∀  (μ : fm_I) (ν : fm_L), fm_J X G 5 F (K μ ν) μ ν 22 [] []) : ∀ (k : Nat) (v3 : Int32) (μ : fm_I) (ν : fm_L), fm_J X G 5 F (m_J7_fill_d0a16_6 q0 w1 v4 K k v3 μ ν) μ ν 6 [(0, .ref (G.2.2.1 q0)), (1, .long w1), (3, .int v3), (4, .int v4)] [] := by
  intro k
  induction k with
  | zero =>
    intro v3 μ ν
    exact fm_none
  | succ k ih =>
    intro v3 μ ν
    rw [m_J7_fill_d0a16_6]
    refine fm_iload_n (pc := 6) C dJ7_fill_d0a16_6 rfl rfl ?_
    refine fm_iload (pc := 7) C dJ7_fill_d0a16_7 rfl ?_
    refine fm_icmp_ge (pc := 9) (tgt := 22) C dJ7_fill_d0a16_9 (by decide) (fun c2 => ?_) (fun c2 => ?_)
    · refine fm_less (lv' := []) (by repeat (first | exact trivial | refine ⟨rfl, ?_⟩)) ?_
      exact hK  _ _
    · refine fm_aload_n (pc := 12) C dJ7_fill_d0a16_12 rfl rfl ?_
      refine fm_iload_n (pc := 13) C dJ7_fill_d0a16_13 rfl rfl ?_
      refine fm_lload_n (pc := 14) C dJ7_fill_d0a16_14 rfl rfl ?_
      refine fm_guard (fun h3 => ?_)
      refine fm_last (pc := 15) C hk0 h3 dJ7_fill_d0a16_15 ?_
      refine fm_iinc (pc := 16) C dJ7_fill_d0a16_16 rfl (v := (v3 + nI 1)) rfl (by decide) rfl ?_
      refine fm_goto (pc := 19) (tgt := 6) C dJ7_fill_d0a16_19 (by decide) ?_
      refine fm_less (lv' := [(0, .ref (G.2.2.1 q0)), (1, .long w1), (3, .int ((v3 + nI 1))), (4, .int v4)]) (by repeat (first | exact trivial | refine ⟨rfl, ?_⟩)) ?_
      exact ih _ _ _
set_option maxHeartbeats 4000000 in
set_option maxRecDepth 100000 in
theorem j_J7_fill_d0a16 {X : fm_X} {G : fm_G} {l : Launch} {q0 : Nat} {w1 : Int64} {μ : fm_I} {ν : fm_L} (C : fm_C X G l cJ7_fill_d0a16 RJ7 5 (none : Option Jvm.ClassFile.FieldType) 1 12) {F : (fm_I × fm_L) → State → Prop} (hF : F = fm_Qv X G) : fm_J X G 5 F (m_J7_fill_d0a16 q0 w1 μ ν) μ ν 0 [(0, .ref (G.2.2.1 q0)), (1, .long w1)] [] := by
  unfold m_J7_fill_d0a16
  refine fm_guard (fun h1 => ?_)
  refine fm_iconst (pc := 0) (v := (nI 0)) C dJ7_fill_d0a16_0 (by decide) ?_
  refine fm_istore_n (pc := 1) C dJ7_fill_d0a16_1 rfl (by decide) rfl ?_
  refine fm_aload_n (pc := 2) C dJ7_fill_d0a16_2 rfl rfl ?_
  refine fm_alenL (pc := 3) C (Nat.eq_of_beq_eq_true h1) dJ7_fill_d0a16_3 ?_
  refine fm_istore (pc := 4) C dJ7_fill_d0a16_4 (by decide) rfl ?_
  refine fm_less (lv' := [(0, .ref (G.2.2.1 q0)), (1, .long w1), (3, .int ((nI 0))), (4, .int ((nI (fm_n q0))))]) (by repeat (first | exact trivial | refine ⟨rfl, ?_⟩)) ?_
  refine j_J7_fill_d0a16_6_ C (q0 := q0) (w1 := w1) (v4 := (nI (fm_n q0))) hF (Nat.eq_of_beq_eq_true h1) (fun μ6 ν6 => ?_) _ _ _ _
  exact fm_vret (pc := 22) C hF rfl dJ7_fill_d0a16_22
theorem t_J7_fill_d0a16 {l : Launch} {G : fm_G} {q0 : Nat} {w1 : Int64} {μ : fm_I} {ν : fm_L} {r : fm_I × fm_L} (h : m_J7_fill_d0a16 q0 w1 μ ν = some r) : fm_Mv l G yJ7_fill_d0a16 cJ7_fill_d0a16 5 (none : Option Jvm.ClassFile.FieldType) 1 12 [.ref (G.2.2.1 q0), .long w1] μ ν r := fm_Mv_of (by decide +kernel) (Nat.le_of_ble_eq_true rfl) (fun _ C => j_J7_fill_d0a16 C rfl r h)
theorem dJ7_fill_53178_0 : decode cJ7_fill_53178 0 = .ok (.iconst 0, 1) := by decide +kernel
theorem dJ7_fill_53178_1 : decode cJ7_fill_53178 1 = .ok (.istore_n 2, 1) := by decide +kernel
theorem dJ7_fill_53178_2 : decode cJ7_fill_53178 2 = .ok (.aload_n 0, 1) := by decide +kernel
theorem dJ7_fill_53178_3 : decode cJ7_fill_53178 3 = .ok (.arraylength, 1) := by decide +kernel
theorem dJ7_fill_53178_4 : decode cJ7_fill_53178 4 = .ok (.istore_n 3, 1) := by decide +kernel
theorem dJ7_fill_53178_5 : decode cJ7_fill_53178 5 = .ok (.iload_n 2, 1) := by decide +kernel
theorem dJ7_fill_53178_6 : decode cJ7_fill_53178 6 = .ok (.iload_n 3, 1) := by decide +kernel
theorem dJ7_fill_53178_7 : decode cJ7_fill_53178 7 = .ok (.if_icmp .ge 13, 3) := by decide +kernel
theorem dJ7_fill_53178_10 : decode cJ7_fill_53178 10 = .ok (.aload_n 0, 1) := by decide +kernel
theorem dJ7_fill_53178_11 : decode cJ7_fill_53178 11 = .ok (.iload_n 2, 1) := by decide +kernel
theorem dJ7_fill_53178_12 : decode cJ7_fill_53178 12 = .ok (.iload_n 1, 1) := by decide +kernel
theorem dJ7_fill_53178_13 : decode cJ7_fill_53178 13 = .ok (.iastore, 1) := by decide +kernel
theorem dJ7_fill_53178_14 : decode cJ7_fill_53178 14 = .ok (.iinc 2 1, 3) := by decide +kernel
theorem dJ7_fill_53178_17 : decode cJ7_fill_53178 17 = .ok (.goto (-12), 3) := by decide +kernel
theorem dJ7_fill_53178_20 : decode cJ7_fill_53178 20 = .ok (.return_, 1) := by decide +kernel
def m_J7_fill_53178_5 (q0 : Nat) (v1 : Int32) (v3 : Int32) (K : fm_I → fm_L → Option (fm_I × fm_L)) : Nat → Int32 → fm_I → fm_L → Option (fm_I × fm_L)
  | 0, _, _, _ => none
  | k + 1, v2, μ, ν => if v3 ≤ v2 then K  μ ν else fm_g (fm_in v2 (fm_n q0)) (m_J7_fill_53178_5 q0 v1 v3 K k ((v2 + nI 1)) (fm_u μ q0 v2.toNatClampNeg v1) ν)
def m_J7_fill_53178 (q0 : Nat) (v1 : Int32) (μ : fm_I) (ν : fm_L) : Option (fm_I × fm_L) :=
  fm_g (Nat.beq (fm_k q0) 7) (m_J7_fill_53178_5 q0 v1 ((nI (fm_n q0)))  (fun μ5 ν5 => some ((μ5, ν5))) 5000 ((nI 0)) μ ν)
theorem ok_J7_fill_53178 : fm_okS yJ7_fill_53178 cJ7_fill_53178 4 (none : Option Jvm.ClassFile.FieldType) 2 := ⟨m_cd_J7_fill_53178, m_st_J7_fill_53178, m_ini_J7, by decide +kernel, by decide +kernel, by decide +kernel⟩
set_option maxHeartbeats 4000000 in
set_option maxRecDepth 100000 in
theorem j_J7_fill_53178_5_ {X : fm_X} {G : fm_G} {l : Launch} {q0 : Nat} {v1 : Int32} {v3 : Int32} (C : fm_C X G l cJ7_fill_53178 RJ7 4 (none : Option Jvm.ClassFile.FieldType) 1 12) {F : (fm_I × fm_L) → State → Prop} (hF : F = fm_Qv X G) (hk0 : fm_k q0 = 7) {K : fm_I → fm_L → Option (fm_I × fm_L)} (hK : ∀  (μ : fm_I) (ν : fm_L), fm_J X G 4 F (K μ ν) μ ν 20 [] []) : ∀ (k : Nat) (v2 : Int32) (μ : fm_I) (ν : fm_L), fm_J X G 4 F (m_J7_fill_53178_5 q0 v1 v3 K k v2 μ ν) μ ν 5 [(0, .ref (G.2.2.1 q0)), (1, .int v1), (2, .int v2), (3, .int v3)] [] := by
  intro k
  induction k with
  | zero =>
    intro v2 μ ν
    exact fm_none
  | succ k ih =>
    intro v2 μ ν
    rw [m_J7_fill_53178_5]
    refine fm_iload_n (pc := 5) C dJ7_fill_53178_5 rfl rfl ?_
    refine fm_iload_n (pc := 6) C dJ7_fill_53178_6 rfl rfl ?_
    refine fm_icmp_ge (pc := 7) (tgt := 20) C dJ7_fill_53178_7 (by decide) (fun c2 => ?_) (fun c2 => ?_)
    · refine fm_less (lv' := []) (by repeat (first | exact trivial | refine ⟨rfl, ?_⟩)) ?_
      exact hK  _ _
    · refine fm_aload_n (pc := 10) C dJ7_fill_53178_10 rfl rfl ?_
      refine fm_iload_n (pc := 11) C dJ7_fill_53178_11 rfl rfl ?_
      refine fm_iload_n (pc := 12) C dJ7_fill_53178_12 rfl rfl ?_
      refine fm_guard (fun h3 => ?_)
      refine fm_iast (pc := 13) C hk0 h3 dJ7_fill_53178_13 ?_
      refine fm_iinc (pc := 14) C dJ7_fill_53178_14 rfl (v := (v2 + nI 1)) rfl (by decide) rfl ?_
      refine fm_goto (pc := 17) (tgt := 5) C dJ7_fill_53178_17 (by decide) ?_
      refine fm_less (lv' := [(0, .ref (G.2.2.1 q0)), (1, .int v1), (2, .int ((v2 + nI 1))), (3, .int v3)]) (by repeat (first | exact trivial | refine ⟨rfl, ?_⟩)) ?_
      exact ih _ _ _
set_option maxHeartbeats 4000000 in
set_option maxRecDepth 100000 in
theorem j_J7_fill_53178 {X : fm_X} {G : fm_G} {l : Launch} {q0 : Nat} {v1 : Int32} {μ : fm_I} {ν : fm_L} (C : fm_C X G l cJ7_fill_53178 RJ7 4 (none : Option Jvm.ClassFile.FieldType) 1 12) {F : (fm_I × fm_L) → State → Prop} (hF : F = fm_Qv X G) : fm_J X G 4 F (m_J7_fill_53178 q0 v1 μ ν) μ ν 0 [(0, .ref (G.2.2.1 q0)), (1, .int v1)] [] := by
  unfold m_J7_fill_53178
  refine fm_guard (fun h1 => ?_)
  refine fm_iconst (pc := 0) (v := (nI 0)) C dJ7_fill_53178_0 (by decide) ?_
  refine fm_istore_n (pc := 1) C dJ7_fill_53178_1 rfl (by decide) rfl ?_
  refine fm_aload_n (pc := 2) C dJ7_fill_53178_2 rfl rfl ?_
  refine fm_alenI (pc := 3) C (Nat.eq_of_beq_eq_true h1) dJ7_fill_53178_3 ?_
  refine fm_istore_n (pc := 4) C dJ7_fill_53178_4 rfl (by decide) rfl ?_
  refine fm_less (lv' := [(0, .ref (G.2.2.1 q0)), (1, .int v1), (2, .int ((nI 0))), (3, .int ((nI (fm_n q0))))]) (by repeat (first | exact trivial | refine ⟨rfl, ?_⟩)) ?_
  refine j_J7_fill_53178_5_ C (q0 := q0) (v1 := v1) (v3 := (nI (fm_n q0))) hF (Nat.eq_of_beq_eq_true h1) (fun μ5 ν5 => ?_) _ _ _ _
  exact fm_vret (pc := 20) C hF rfl dJ7_fill_53178_20
theorem t_J7_fill_53178 {l : Launch} {G : fm_G} {q0 : Nat} {v1 : Int32} {μ : fm_I} {ν : fm_L} {r : fm_I × fm_L} (h : m_J7_fill_53178 q0 v1 μ ν = some r) : fm_Mv l G yJ7_fill_53178 cJ7_fill_53178 4 (none : Option Jvm.ClassFile.FieldType) 1 12 [.ref (G.2.2.1 q0), .int v1] μ ν r := fm_Mv_of (by decide +kernel) (Nat.le_of_ble_eq_true rfl) (fun _ C => j_J7_fill_53178 C rfl r h)
theorem dJ6_bitCount_0f7a4_0 : decode cJ6_bitCount_0f7a4 0 = .ok (.iload_n 0, 1) := by decide +kernel
theorem dJ6_bitCount_0f7a4_1 : decode cJ6_bitCount_0f7a4 1 = .ok (.iload_n 0, 1) := by decide +kernel
theorem dJ6_bitCount_0f7a4_2 : decode cJ6_bitCount_0f7a4 2 = .ok (.iconst 1, 1) := by decide +kernel
theorem dJ6_bitCount_0f7a4_3 : decode cJ6_bitCount_0f7a4 3 = .ok (.iushr, 1) := by decide +kernel
theorem dJ6_bitCount_0f7a4_4 : decode cJ6_bitCount_0f7a4 4 = .ok (.ldc_w 265, 3) := by decide +kernel
theorem dJ6_bitCount_0f7a4_7 : decode cJ6_bitCount_0f7a4 7 = .ok (.iand, 1) := by decide +kernel
theorem dJ6_bitCount_0f7a4_8 : decode cJ6_bitCount_0f7a4 8 = .ok (.isub, 1) := by decide +kernel
theorem dJ6_bitCount_0f7a4_9 : decode cJ6_bitCount_0f7a4 9 = .ok (.istore_n 0, 1) := by decide +kernel
theorem dJ6_bitCount_0f7a4_10 : decode cJ6_bitCount_0f7a4 10 = .ok (.iload_n 0, 1) := by decide +kernel
theorem dJ6_bitCount_0f7a4_11 : decode cJ6_bitCount_0f7a4 11 = .ok (.ldc_w 266, 3) := by decide +kernel
theorem dJ6_bitCount_0f7a4_14 : decode cJ6_bitCount_0f7a4 14 = .ok (.iand, 1) := by decide +kernel
theorem dJ6_bitCount_0f7a4_15 : decode cJ6_bitCount_0f7a4 15 = .ok (.iload_n 0, 1) := by decide +kernel
theorem dJ6_bitCount_0f7a4_16 : decode cJ6_bitCount_0f7a4 16 = .ok (.iconst 2, 1) := by decide +kernel
theorem dJ6_bitCount_0f7a4_17 : decode cJ6_bitCount_0f7a4 17 = .ok (.iushr, 1) := by decide +kernel
theorem dJ6_bitCount_0f7a4_18 : decode cJ6_bitCount_0f7a4 18 = .ok (.ldc_w 266, 3) := by decide +kernel
theorem dJ6_bitCount_0f7a4_21 : decode cJ6_bitCount_0f7a4 21 = .ok (.iand, 1) := by decide +kernel
theorem dJ6_bitCount_0f7a4_22 : decode cJ6_bitCount_0f7a4 22 = .ok (.iadd, 1) := by decide +kernel
theorem dJ6_bitCount_0f7a4_23 : decode cJ6_bitCount_0f7a4 23 = .ok (.istore_n 0, 1) := by decide +kernel
theorem dJ6_bitCount_0f7a4_24 : decode cJ6_bitCount_0f7a4 24 = .ok (.iload_n 0, 1) := by decide +kernel
theorem dJ6_bitCount_0f7a4_25 : decode cJ6_bitCount_0f7a4 25 = .ok (.iload_n 0, 1) := by decide +kernel
theorem dJ6_bitCount_0f7a4_26 : decode cJ6_bitCount_0f7a4 26 = .ok (.iconst 4, 1) := by decide +kernel
theorem dJ6_bitCount_0f7a4_27 : decode cJ6_bitCount_0f7a4 27 = .ok (.iushr, 1) := by decide +kernel
theorem dJ6_bitCount_0f7a4_28 : decode cJ6_bitCount_0f7a4 28 = .ok (.iadd, 1) := by decide +kernel
theorem dJ6_bitCount_0f7a4_29 : decode cJ6_bitCount_0f7a4 29 = .ok (.ldc_w 267, 3) := by decide +kernel
theorem dJ6_bitCount_0f7a4_32 : decode cJ6_bitCount_0f7a4 32 = .ok (.iand, 1) := by decide +kernel
theorem dJ6_bitCount_0f7a4_33 : decode cJ6_bitCount_0f7a4 33 = .ok (.istore_n 0, 1) := by decide +kernel
theorem dJ6_bitCount_0f7a4_34 : decode cJ6_bitCount_0f7a4 34 = .ok (.iload_n 0, 1) := by decide +kernel
theorem dJ6_bitCount_0f7a4_35 : decode cJ6_bitCount_0f7a4 35 = .ok (.iload_n 0, 1) := by decide +kernel
theorem dJ6_bitCount_0f7a4_36 : decode cJ6_bitCount_0f7a4 36 = .ok (.bipush 8, 2) := by decide +kernel
theorem dJ6_bitCount_0f7a4_38 : decode cJ6_bitCount_0f7a4 38 = .ok (.iushr, 1) := by decide +kernel
theorem dJ6_bitCount_0f7a4_39 : decode cJ6_bitCount_0f7a4 39 = .ok (.iadd, 1) := by decide +kernel
theorem dJ6_bitCount_0f7a4_40 : decode cJ6_bitCount_0f7a4 40 = .ok (.istore_n 0, 1) := by decide +kernel
theorem dJ6_bitCount_0f7a4_41 : decode cJ6_bitCount_0f7a4 41 = .ok (.iload_n 0, 1) := by decide +kernel
theorem dJ6_bitCount_0f7a4_42 : decode cJ6_bitCount_0f7a4 42 = .ok (.iload_n 0, 1) := by decide +kernel
theorem dJ6_bitCount_0f7a4_43 : decode cJ6_bitCount_0f7a4 43 = .ok (.bipush 16, 2) := by decide +kernel
theorem dJ6_bitCount_0f7a4_45 : decode cJ6_bitCount_0f7a4 45 = .ok (.iushr, 1) := by decide +kernel
theorem dJ6_bitCount_0f7a4_46 : decode cJ6_bitCount_0f7a4 46 = .ok (.iadd, 1) := by decide +kernel
theorem dJ6_bitCount_0f7a4_47 : decode cJ6_bitCount_0f7a4 47 = .ok (.istore_n 0, 1) := by decide +kernel
theorem dJ6_bitCount_0f7a4_48 : decode cJ6_bitCount_0f7a4 48 = .ok (.iload_n 0, 1) := by decide +kernel
theorem dJ6_bitCount_0f7a4_49 : decode cJ6_bitCount_0f7a4 49 = .ok (.bipush 63, 2) := by decide +kernel
theorem dJ6_bitCount_0f7a4_51 : decode cJ6_bitCount_0f7a4 51 = .ok (.iand, 1) := by decide +kernel
theorem dJ6_bitCount_0f7a4_52 : decode cJ6_bitCount_0f7a4 52 = .ok (.ireturn, 1) := by decide +kernel
def m_J6_bitCount_0f7a4 (v0 : Int32) (μ : fm_I) (ν : fm_L) : Option (Int32) :=
  some ((((((((((((((((v0 - (((((v0.toUInt32 >>> (((nI 1)).toUInt32 &&& Int32.toUInt32 31)).toInt32)) &&& ((nI 1431655765)))))) &&& ((nI 858993459)))) + (((((((v0 - (((((v0.toUInt32 >>> (((nI 1)).toUInt32 &&& Int32.toUInt32 31)).toInt32)) &&& ((nI 1431655765)))))).toUInt32 >>> (((nI 2)).toUInt32 &&& Int32.toUInt32 31)).toInt32)) &&& ((nI 858993459)))))) + (((((((((v0 - (((((v0.toUInt32 >>> (((nI 1)).toUInt32 &&& Int32.toUInt32 31)).toInt32)) &&& ((nI 1431655765)))))) &&& ((nI 858993459)))) + (((((((v0 - (((((v0.toUInt32 >>> (((nI 1)).toUInt32 &&& Int32.toUInt32 31)).toInt32)) &&& ((nI 1431655765)))))).toUInt32 >>> (((nI 2)).toUInt32 &&& Int32.toUInt32 31)).toInt32)) &&& ((nI 858993459)))))).toUInt32 >>> (((nI 4)).toUInt32 &&& Int32.toUInt32 31)).toInt32)))) &&& ((nI 252645135)))) + (((((((((((((v0 - (((((v0.toUInt32 >>> (((nI 1)).toUInt32 &&& Int32.toUInt32 31)).toInt32)) &&& ((nI 1431655765)))))) &&& ((nI 858993459)))) + (((((((v0 - (((((v0.toUInt32 >>> (((nI 1)).toUInt32 &&& Int32.toUInt32 31)).toInt32)) &&& ((nI 1431655765)))))).toUInt32 >>> (((nI 2)).toUInt32 &&& Int32.toUInt32 31)).toInt32)) &&& ((nI 858993459)))))) + (((((((((v0 - (((((v0.toUInt32 >>> (((nI 1)).toUInt32 &&& Int32.toUInt32 31)).toInt32)) &&& ((nI 1431655765)))))) &&& ((nI 858993459)))) + (((((((v0 - (((((v0.toUInt32 >>> (((nI 1)).toUInt32 &&& Int32.toUInt32 31)).toInt32)) &&& ((nI 1431655765)))))).toUInt32 >>> (((nI 2)).toUInt32 &&& Int32.toUInt32 31)).toInt32)) &&& ((nI 858993459)))))).toUInt32 >>> (((nI 4)).toUInt32 &&& Int32.toUInt32 31)).toInt32)))) &&& ((nI 252645135)))).toUInt32 >>> (((nI 8)).toUInt32 &&& Int32.toUInt32 31)).toInt32)))) + (((((((((((((((v0 - (((((v0.toUInt32 >>> (((nI 1)).toUInt32 &&& Int32.toUInt32 31)).toInt32)) &&& ((nI 1431655765)))))) &&& ((nI 858993459)))) + (((((((v0 - (((((v0.toUInt32 >>> (((nI 1)).toUInt32 &&& Int32.toUInt32 31)).toInt32)) &&& ((nI 1431655765)))))).toUInt32 >>> (((nI 2)).toUInt32 &&& Int32.toUInt32 31)).toInt32)) &&& ((nI 858993459)))))) + (((((((((v0 - (((((v0.toUInt32 >>> (((nI 1)).toUInt32 &&& Int32.toUInt32 31)).toInt32)) &&& ((nI 1431655765)))))) &&& ((nI 858993459)))) + (((((((v0 - (((((v0.toUInt32 >>> (((nI 1)).toUInt32 &&& Int32.toUInt32 31)).toInt32)) &&& ((nI 1431655765)))))).toUInt32 >>> (((nI 2)).toUInt32 &&& Int32.toUInt32 31)).toInt32)) &&& ((nI 858993459)))))).toUInt32 >>> (((nI 4)).toUInt32 &&& Int32.toUInt32 31)).toInt32)))) &&& ((nI 252645135)))) + (((((((((((((v0 - (((((v0.toUInt32 >>> (((nI 1)).toUInt32 &&& Int32.toUInt32 31)).toInt32)) &&& ((nI 1431655765)))))) &&& ((nI 858993459)))) + (((((((v0 - (((((v0.toUInt32 >>> (((nI 1)).toUInt32 &&& Int32.toUInt32 31)).toInt32)) &&& ((nI 1431655765)))))).toUInt32 >>> (((nI 2)).toUInt32 &&& Int32.toUInt32 31)).toInt32)) &&& ((nI 858993459)))))) + (((((((((v0 - (((((v0.toUInt32 >>> (((nI 1)).toUInt32 &&& Int32.toUInt32 31)).toInt32)) &&& ((nI 1431655765)))))) &&& ((nI 858993459)))) + (((((((v0 - (((((v0.toUInt32 >>> (((nI 1)).toUInt32 &&& Int32.toUInt32 31)).toInt32)) &&& ((nI 1431655765)))))).toUInt32 >>> (((nI 2)).toUInt32 &&& Int32.toUInt32 31)).toInt32)) &&& ((nI 858993459)))))).toUInt32 >>> (((nI 4)).toUInt32 &&& Int32.toUInt32 31)).toInt32)))) &&& ((nI 252645135)))).toUInt32 >>> (((nI 8)).toUInt32 &&& Int32.toUInt32 31)).toInt32)))).toUInt32 >>> (((nI 16)).toUInt32 &&& Int32.toUInt32 31)).toInt32)))) &&& ((nI 63))))
theorem ok_J6_bitCount_0f7a4 : fm_okS yJ6_bitCount_0f7a4 cJ6_bitCount_0f7a4 1 (some .int) 1 := ⟨m_cd_J6_bitCount_0f7a4, m_st_J6_bitCount_0f7a4, m_ini_J6, by decide +kernel, by decide +kernel, by decide +kernel⟩
set_option maxHeartbeats 4000000 in
set_option maxRecDepth 100000 in
theorem j_J6_bitCount_0f7a4 {X : fm_X} {G : fm_G} {l : Launch} {v0 : Int32} {μ : fm_I} {ν : fm_L} (C : fm_C X G l cJ6_bitCount_0f7a4 RJ6 1 (some .int) 1 12) {F : Int32 → State → Prop} (hF : F = fun r => fm_Qi X G (r, μ, ν)) : fm_J X G 1 F (m_J6_bitCount_0f7a4 v0 μ ν) μ ν 0 [(0, .int v0)] [] := by
  unfold m_J6_bitCount_0f7a4
  refine fm_iload_n (pc := 0) C dJ6_bitCount_0f7a4_0 rfl rfl ?_
  refine fm_iload_n (pc := 1) C dJ6_bitCount_0f7a4_1 rfl rfl ?_
  refine fm_iconst (pc := 2) (v := (nI 1)) C dJ6_bitCount_0f7a4_2 (by decide) ?_
  refine fm_iushr (pc := 3) C dJ6_bitCount_0f7a4_3 ?_
  refine fm_ldcw (pc := 4) (v := (nI 1431655765)) C dJ6_bitCount_0f7a4_4 m_ct_J6_265 ?_
  refine fm_iand (pc := 7) C dJ6_bitCount_0f7a4_7 ?_
  refine fm_isub (pc := 8) C dJ6_bitCount_0f7a4_8 ?_
  refine fm_istore_n (pc := 9) C dJ6_bitCount_0f7a4_9 rfl (by decide) rfl ?_
  refine fm_iload_n (pc := 10) C dJ6_bitCount_0f7a4_10 rfl rfl ?_
  refine fm_ldcw (pc := 11) (v := (nI 858993459)) C dJ6_bitCount_0f7a4_11 m_ct_J6_266 ?_
  refine fm_iand (pc := 14) C dJ6_bitCount_0f7a4_14 ?_
  refine fm_iload_n (pc := 15) C dJ6_bitCount_0f7a4_15 rfl rfl ?_
  refine fm_iconst (pc := 16) (v := (nI 2)) C dJ6_bitCount_0f7a4_16 (by decide) ?_
  refine fm_iushr (pc := 17) C dJ6_bitCount_0f7a4_17 ?_
  refine fm_ldcw (pc := 18) (v := (nI 858993459)) C dJ6_bitCount_0f7a4_18 m_ct_J6_266 ?_
  refine fm_iand (pc := 21) C dJ6_bitCount_0f7a4_21 ?_
  refine fm_iadd (pc := 22) C dJ6_bitCount_0f7a4_22 ?_
  refine fm_istore_n (pc := 23) C dJ6_bitCount_0f7a4_23 rfl (by decide) rfl ?_
  refine fm_iload_n (pc := 24) C dJ6_bitCount_0f7a4_24 rfl rfl ?_
  refine fm_iload_n (pc := 25) C dJ6_bitCount_0f7a4_25 rfl rfl ?_
  refine fm_iconst (pc := 26) (v := (nI 4)) C dJ6_bitCount_0f7a4_26 (by decide) ?_
  refine fm_iushr (pc := 27) C dJ6_bitCount_0f7a4_27 ?_
  refine fm_iadd (pc := 28) C dJ6_bitCount_0f7a4_28 ?_
  refine fm_ldcw (pc := 29) (v := (nI 252645135)) C dJ6_bitCount_0f7a4_29 m_ct_J6_267 ?_
  refine fm_iand (pc := 32) C dJ6_bitCount_0f7a4_32 ?_
  refine fm_istore_n (pc := 33) C dJ6_bitCount_0f7a4_33 rfl (by decide) rfl ?_
  refine fm_iload_n (pc := 34) C dJ6_bitCount_0f7a4_34 rfl rfl ?_
  refine fm_iload_n (pc := 35) C dJ6_bitCount_0f7a4_35 rfl rfl ?_
  refine fm_bipush (pc := 36) (v := (nI 8)) C dJ6_bitCount_0f7a4_36 (by decide) ?_
  refine fm_iushr (pc := 38) C dJ6_bitCount_0f7a4_38 ?_
  refine fm_iadd (pc := 39) C dJ6_bitCount_0f7a4_39 ?_
  refine fm_istore_n (pc := 40) C dJ6_bitCount_0f7a4_40 rfl (by decide) rfl ?_
  refine fm_iload_n (pc := 41) C dJ6_bitCount_0f7a4_41 rfl rfl ?_
  refine fm_iload_n (pc := 42) C dJ6_bitCount_0f7a4_42 rfl rfl ?_
  refine fm_bipush (pc := 43) (v := (nI 16)) C dJ6_bitCount_0f7a4_43 (by decide) ?_
  refine fm_iushr (pc := 45) C dJ6_bitCount_0f7a4_45 ?_
  refine fm_iadd (pc := 46) C dJ6_bitCount_0f7a4_46 ?_
  refine fm_istore_n (pc := 47) C dJ6_bitCount_0f7a4_47 rfl (by decide) rfl ?_
  refine fm_iload_n (pc := 48) C dJ6_bitCount_0f7a4_48 rfl rfl ?_
  refine fm_bipush (pc := 49) (v := (nI 63)) C dJ6_bitCount_0f7a4_49 (by decide) ?_
  refine fm_iand (pc := 51) C dJ6_bitCount_0f7a4_51 ?_
  exact fm_zret0 (pc := 52) C hF rfl rfl dJ6_bitCount_0f7a4_52
theorem t_J6_bitCount_0f7a4 {l : Launch} {G : fm_G} {v0 : Int32} {μ : fm_I} {ν : fm_L} {r : Int32} (h : m_J6_bitCount_0f7a4 v0 μ ν = some r) : fm_Mi l G yJ6_bitCount_0f7a4 cJ6_bitCount_0f7a4 1 (some .int) 1 12 [.int v0] μ ν (r, μ, ν) := fm_Mi_of (by decide +kernel) (Nat.le_of_ble_eq_true rfl) (fun _ C => j_J6_bitCount_0f7a4 C rfl r h)
