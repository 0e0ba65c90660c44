theorem dX3_noteBand_0 : decode cX3_noteBand 0 = .ok (.aload_n 0, 1) := by decide +kernel
theorem dX3_noteBand_1 : decode cX3_noteBand 1 = .ok (.getfield 41, 3) := by decide +kernel
theorem dX3_noteBand_4 : decode cX3_noteBand 4 = .ok (.ifCond .lt 12, 3) := by decide +kernel
theorem dX3_noteBand_7 : decode cX3_noteBand 7 = .ok (.aload_n 0, 1) := by decide +kernel
theorem dX3_noteBand_8 : decode cX3_noteBand 8 = .ok (.getfield 41, 3) := by decide +kernel
theorem dX3_noteBand_11 : decode cX3_noteBand 11 = .ok (.bipush 6, 2) := by decide +kernel
theorem dX3_noteBand_13 : decode cX3_noteBand 13 = .ok (.if_icmp .lt 5, 3) := by decide +kernel
theorem dX3_noteBand_16 : decode cX3_noteBand 16 = .ok (.iconst 0, 1) := by decide +kernel
theorem dX3_noteBand_17 : decode cX3_noteBand 17 = .ok (.ireturn, 1) := by decide +kernel
theorem dX3_noteBand_18 : decode cX3_noteBand 18 = .ok (.aload_n 0, 1) := by decide +kernel
theorem dX3_noteBand_19 : decode cX3_noteBand 19 = .ok (.getfield 15, 3) := by decide +kernel
theorem dX3_noteBand_22 : decode cX3_noteBand 22 = .ok (.aload_n 0, 1) := by decide +kernel
theorem dX3_noteBand_23 : decode cX3_noteBand 23 = .ok (.getfield 41, 3) := by decide +kernel
theorem dX3_noteBand_26 : decode cX3_noteBand 26 = .ok (.iload_n 1, 1) := by decide +kernel
theorem dX3_noteBand_27 : decode cX3_noteBand 27 = .ok (.iastore, 1) := by decide +kernel
theorem dX3_noteBand_28 : decode cX3_noteBand 28 = .ok (.aload_n 0, 1) := by decide +kernel
theorem dX3_noteBand_29 : decode cX3_noteBand 29 = .ok (.dup, 1) := by decide +kernel
theorem dX3_noteBand_30 : decode cX3_noteBand 30 = .ok (.getfield 41, 3) := by decide +kernel
theorem dX3_noteBand_33 : decode cX3_noteBand 33 = .ok (.iconst 1, 1) := by decide +kernel
theorem dX3_noteBand_34 : decode cX3_noteBand 34 = .ok (.iadd, 1) := by decide +kernel
theorem dX3_noteBand_35 : decode cX3_noteBand 35 = .ok (.putfield 41, 3) := by decide +kernel
theorem dX3_noteBand_38 : decode cX3_noteBand 38 = .ok (.iconst 1, 1) := by decide +kernel
theorem dX3_noteBand_39 : decode cX3_noteBand 39 = .ok (.ireturn, 1) := by decide +kernel
def m_X3_noteBand (v1 : Int32) (μ : fm_I) (ν : fm_L) : Option (Int32 × fm_I × fm_L) :=
  if (μ 6 4) < 0 then some (((nI 0), μ, ν)) else if (μ 6 4) < (nI 6) then fm_g (fm_in ((μ 6 4)) (fm_n 15)) (some (((nI 1), (fm_u (fm_u μ 15 ((μ 6 4)).toNatClampNeg v1) 6 4 ((((((fm_u μ 15 ((μ 6 4)).toNatClampNeg v1)) 6 4)) + ((nI 1))))), ν))) else some (((nI 0), μ, ν))
theorem ok_X3_noteBand : fm_okV yX3_noteBand cX3_noteBand 2 (some .boolean) 1 := ⟨m_cd_X3_noteBand, m_im_X3_noteBand, m_se_X3_X3_noteBand, m_ini_X3, by decide +kernel, by decide +kernel, by decide +kernel⟩
set_option maxHeartbeats 4000000 in
set_option maxRecDepth 100000 in
theorem j_X3_noteBand {X : fm_X} {G : fm_G} {l : Launch} {v1 : Int32} {μ : fm_I} {ν : fm_L} (C : fm_C X G l cX3_noteBand RX3 2 (some .boolean) 1 12) {F : (Int32 × fm_I × fm_L) → State → Prop} (hF : F = fm_Qi X G) : fm_J X G 2 F (m_X3_noteBand v1 μ ν) μ ν 0 [(0, .ref (G.2.2.1 6)), (1, .int v1)] [] := by
  unfold m_X3_noteBand
  refine fm_aload_n (pc := 0) C dX3_noteBand_0 rfl rfl ?_
  refine g3_bandCount (pc := 1) C (by decide) dX3_noteBand_1 m_fl_X3_41 ?_
  refine fm_if_lt (pc := 4) (tgt := 16) C dX3_noteBand_4 (by decide) (fun c1 => ?_) (fun c1 => ?_)
  · refine fm_iconst (pc := 16) (v := (nI 0)) C dX3_noteBand_16 (by decide) ?_
    exact fm_zret (pc := 17) C hF rfl rfl dX3_noteBand_17
  · refine fm_aload_n (pc := 7) C dX3_noteBand_7 rfl rfl ?_
    refine g3_bandCount (pc := 8) C (by decide) dX3_noteBand_8 m_fl_X3_41 ?_
    refine fm_bipush (pc := 11) (v := (nI 6)) C dX3_noteBand_11 (by decide) ?_
    refine fm_icmp_lt (pc := 13) (tgt := 18) C dX3_noteBand_13 (by decide) (fun c2 => ?_) (fun c2 => ?_)
    · refine fm_aload_n (pc := 18) C dX3_noteBand_18 rfl rfl ?_
      refine g3_strips (pc := 19) C (by decide) dX3_noteBand_19 m_fl_X3_15 ?_
      refine fm_aload_n (pc := 22) C dX3_noteBand_22 rfl rfl ?_
      refine g3_bandCount (pc := 23) C (by decide) dX3_noteBand_23 m_fl_X3_41 ?_
      refine fm_iload_n (pc := 26) C dX3_noteBand_26 rfl rfl ?_
      refine fm_guard (fun h3 => ?_)
      refine fm_iast (pc := 27) C (by decide) h3 dX3_noteBand_27 ?_
      refine fm_aload_n (pc := 28) C dX3_noteBand_28 rfl rfl ?_
      refine fm_dup (pc := 29) C dX3_noteBand_29 rfl ?_
      refine g3_bandCount (pc := 30) C (by decide) dX3_noteBand_30 m_fl_X3_41 ?_
      refine fm_iconst (pc := 33) (v := (nI 1)) C dX3_noteBand_33 (by decide) ?_
      refine fm_iadd (pc := 34) C dX3_noteBand_34 ?_
      refine p3_bandCount (pc := 35) C (by decide) dX3_noteBand_35 m_fl_X3_41 ?_
      refine fm_iconst (pc := 38) (v := (nI 1)) C dX3_noteBand_38 (by decide) ?_
      exact fm_zret (pc := 39) C hF rfl rfl dX3_noteBand_39
    · refine fm_iconst (pc := 16) (v := (nI 0)) C dX3_noteBand_16 (by decide) ?_
      exact fm_zret (pc := 17) C hF rfl rfl dX3_noteBand_17
theorem t_X3_noteBand {l : Launch} {G : fm_G} {v1 : Int32} {μ : fm_I} {ν : fm_L} {r : Int32 × fm_I × fm_L} (h : m_X3_noteBand v1 μ ν = some r) : fm_Mi l G yX3_noteBand cX3_noteBand 2 (some .boolean) 1 12 [.ref (G.2.2.1 6), .int v1] μ ν r := fm_Mi_of (by decide +kernel) (Nat.le_of_ble_eq_true rfl) (fun _ C => j_X3_noteBand C rfl r h)
theorem dX3_begin_0 : decode cX3_begin 0 = .ok (.aload_n 0, 1) := by decide +kernel
theorem dX3_begin_1 : decode cX3_begin 1 = .ok (.aload_n 1, 1) := by decide +kernel
theorem dX3_begin_2 : decode cX3_begin 2 = .ok (.getfield 24, 3) := by decide +kernel
theorem dX3_begin_5 : decode cX3_begin 5 = .ok (.sipush 160, 3) := by decide +kernel
theorem dX3_begin_8 : decode cX3_begin 8 = .ok (.invokestatic 30, 3) := by decide +kernel
theorem dX3_begin_11 : decode cX3_begin 11 = .ok (.putfield 36, 3) := by decide +kernel
theorem dX3_begin_14 : decode cX3_begin 14 = .ok (.iconst 0, 1) := by decide +kernel
theorem dX3_begin_15 : decode cX3_begin 15 = .ok (.istore 4, 2) := by decide +kernel
theorem dX3_begin_17 : decode cX3_begin 17 = .ok (.iload 4, 2) := by decide +kernel
theorem dX3_begin_19 : decode cX3_begin 19 = .ok (.aload_n 0, 1) := by decide +kernel
theorem dX3_begin_20 : decode cX3_begin 20 = .ok (.getfield 36, 3) := by decide +kernel
theorem dX3_begin_23 : decode cX3_begin 23 = .ok (.if_icmp .ge 22, 3) := by decide +kernel
theorem dX3_begin_26 : decode cX3_begin 26 = .ok (.aload_n 0, 1) := by decide +kernel
theorem dX3_begin_27 : decode cX3_begin 27 = .ok (.getfield 9, 3) := by decide +kernel
theorem dX3_begin_30 : decode cX3_begin 30 = .ok (.iload 4, 2) := by decide +kernel
theorem dX3_begin_32 : decode cX3_begin 32 = .ok (.aload_n 1, 1) := by decide +kernel
theorem dX3_begin_33 : decode cX3_begin 33 = .ok (.iload 4, 2) := by decide +kernel
theorem dX3_begin_35 : decode cX3_begin 35 = .ok (.invokevirtual 37, 3) := by decide +kernel
theorem dX3_begin_38 : decode cX3_begin 38 = .ok (.iastore, 1) := by decide +kernel
theorem dX3_begin_39 : decode cX3_begin 39 = .ok (.iinc 4 1, 3) := by decide +kernel
theorem dX3_begin_42 : decode cX3_begin 42 = .ok (.goto (-25), 3) := by decide +kernel
theorem dX3_begin_45 : decode cX3_begin 45 = .ok (.aload_n 0, 1) := by decide +kernel
theorem dX3_begin_46 : decode cX3_begin 46 = .ok (.iconst 0, 1) := by decide +kernel
theorem dX3_begin_47 : decode cX3_begin 47 = .ok (.putfield 41, 3) := by decide +kernel
theorem dX3_begin_50 : decode cX3_begin 50 = .ok (.iconst 0, 1) := by decide +kernel
theorem dX3_begin_51 : decode cX3_begin 51 = .ok (.istore 4, 2) := by decide +kernel
theorem dX3_begin_53 : decode cX3_begin 53 = .ok (.iload 4, 2) := by decide +kernel
theorem dX3_begin_55 : decode cX3_begin 55 = .ok (.iload_n 3, 1) := by decide +kernel
theorem dX3_begin_56 : decode cX3_begin 56 = .ok (.if_icmp .ge 28, 3) := by decide +kernel
theorem dX3_begin_59 : decode cX3_begin 59 = .ok (.iload 4, 2) := by decide +kernel
theorem dX3_begin_61 : decode cX3_begin 61 = .ok (.aload_n 2, 1) := by decide +kernel
theorem dX3_begin_62 : decode cX3_begin 62 = .ok (.arraylength, 1) := by decide +kernel
theorem dX3_begin_63 : decode cX3_begin 63 = .ok (.if_icmp .ge 21, 3) := by decide +kernel
theorem dX3_begin_66 : decode cX3_begin 66 = .ok (.aload_n 0, 1) := by decide +kernel
theorem dX3_begin_67 : decode cX3_begin 67 = .ok (.aload_n 2, 1) := by decide +kernel
theorem dX3_begin_68 : decode cX3_begin 68 = .ok (.iload 4, 2) := by decide +kernel
theorem dX3_begin_70 : decode cX3_begin 70 = .ok (.aaload, 1) := by decide +kernel
theorem dX3_begin_71 : decode cX3_begin 71 = .ok (.getfield 44, 3) := by decide +kernel
theorem dX3_begin_74 : decode cX3_begin 74 = .ok (.invokevirtual 48, 3) := by decide +kernel
theorem dX3_begin_77 : decode cX3_begin 77 = .ok (.pop, 1) := by decide +kernel
theorem dX3_begin_78 : decode cX3_begin 78 = .ok (.iinc 4 1, 3) := by decide +kernel
theorem dX3_begin_81 : decode cX3_begin 81 = .ok (.goto (-28), 3) := by decide +kernel
theorem dX3_begin_84 : decode cX3_begin 84 = .ok (.aload_n 0, 1) := by decide +kernel
theorem dX3_begin_85 : decode cX3_begin 85 = .ok (.iconst 0, 1) := by decide +kernel
theorem dX3_begin_86 : decode cX3_begin 86 = .ok (.putfield 52, 3) := by decide +kernel
theorem dX3_begin_89 : decode cX3_begin 89 = .ok (.aload_n 0, 1) := by decide +kernel
theorem dX3_begin_90 : decode cX3_begin 90 = .ok (.iconst (-1), 1) := by decide +kernel
theorem dX3_begin_91 : decode cX3_begin 91 = .ok (.putfield 55, 3) := by decide +kernel
theorem dX3_begin_94 : decode cX3_begin 94 = .ok (.aload_n 0, 1) := by decide +kernel
theorem dX3_begin_95 : decode cX3_begin 95 = .ok (.iconst 0, 1) := by decide +kernel
theorem dX3_begin_96 : decode cX3_begin 96 = .ok (.putfield 58, 3) := by decide +kernel
theorem dX3_begin_99 : decode cX3_begin 99 = .ok (.return_, 1) := by decide +kernel
def m_X3_begin_17 (q1 : Nat) (q2 : Nat) (v3 : Int32) (K : fm_I → fm_L → Option (fm_I × fm_L)) : Nat → Int32 → fm_I → fm_L → Option (fm_I × fm_L)
  | 0, _, _, _ => none
  | k + 1, v4, μ, ν => if (μ 6 3) ≤ v4 then K  μ ν else (m_X2_intAt q1 v4 μ ν).bind (fun r35 => fm_g (fm_in v4 (fm_n 14)) (m_X3_begin_17 q1 q2 v3 K k ((v4 + nI 1)) (fm_u μ 14 v4.toNatClampNeg r35) ν))
def m_X3_begin_53 (q2 : Nat) (v3 : Int32) (K : fm_I → fm_L → Option (fm_I × fm_L)) : Nat → Int32 → fm_I → fm_L → Option (fm_I × fm_L)
  | 0, _, _, _ => none
  | k + 1, v4, μ, ν => if v3 ≤ v4 then K  μ ν else if (nI 6) ≤ v4 then K  μ ν else fm_g (fm_in v4 6) (fm_g (Nat.beq (fm_k (((if q2 = 2 then 34 else 40) + v4.toNatClampNeg))) 0) ((m_X3_noteBand ((μ (((if q2 = 2 then 34 else 40) + v4.toNatClampNeg)) 4)) μ ν).bind (fun r74 => m_X3_begin_53 q2 v3 K k ((v4 + nI 1)) r74.2.1 r74.2.2)))
def m_X3_begin (q1 : Nat) (q2 : Nat) (v3 : Int32) (μ : fm_I) (ν : fm_L) : Option (fm_I × fm_L) :=
  fm_g (Nat.beq (fm_k q1) 2) (fm_g (Nat.beq (fm_k q2) 9) (m_X3_begin_17 q1 q2 v3  (fun μ17 ν17 => m_X3_begin_53 q2 v3  (fun μ53 ν53 => some (((fm_u (fm_u (fm_u μ53 6 2 ((nI 0))) 6 0 ((-1 : Int32))) 6 1 ((nI 0))), ν53))) 5000 ((nI 0)) (fm_u μ17 6 4 ((nI 0))) ν17) 5000 ((nI 0)) (fm_u μ 6 3 ((if (nI 160) < (μ q1 1) then (nI 160) else (μ q1 1)))) ν))
theorem ok_X3_begin : fm_okV yX3_begin cX3_begin 5 (none : Option Jvm.ClassFile.FieldType) 3 := ⟨m_cd_X3_begin, m_im_X3_begin, m_se_X3_X3_begin, m_ini_X3, by decide +kernel, by decide +kernel, by decide +kernel⟩
set_option maxHeartbeats 4000000 in
set_option maxRecDepth 100000 in
theorem j_X3_begin_17_ {X : fm_X} {G : fm_G} {l : Launch} {q1 : Nat} {q2 : Nat} {v3 : Int32} (C : fm_C X G l cX3_begin RX3 5 (none : Option Jvm.ClassFile.FieldType) 5 95) {F : (fm_I × fm_L) → State → Prop} (hF : F = fm_Qv X G) (hk0 : fm_k q1 = 2) (hk1 : fm_k q2 = 9) {K : fm_I → fm_L → Option (fm_I × fm_L)} (hK : ∀  (μ : fm_I) (ν : fm_L), fm_J X G 5 F (K μ ν) μ ν 45 [(0, .ref (G.2.2.1 6)), (2, .ref (G.2.2.1 q2)), (3, .int v3)] []) : ∀ (k : Nat) (v4 : Int32) (μ : fm_I) (ν : fm_L), fm_J X G 5 F (m_X3_begin_17 q1 q2 v3 K k v4 μ ν) μ ν 17 [(0, .ref (G.2.2.1 6)), (1, .ref (G.2.2.1 q1)), (2, .ref (G.2.2.1 q2)), (3, .int v3), (4, .int v4)] [] := by
  intro k
  induction k with
  | zero =>
    intro v4 μ ν
    exact fm_none
  | succ k ih =>
    intro v4 μ ν
    rw [m_X3_begin_17]
    refine fm_iload (pc := 17) C dX3_begin_17 rfl ?_
    refine fm_aload_n (pc := 19) C dX3_begin_19 rfl rfl ?_
    refine g3_length (pc := 20) C (by decide) dX3_begin_20 m_fl_X3_36 ?_
    refine fm_icmp_ge (pc := 23) (tgt := 45) C dX3_begin_23 (by decide) (fun c3 => ?_) (fun c3 => ?_)
    · refine fm_less (lv' := [(0, .ref (G.2.2.1 6)), (2, .ref (G.2.2.1 q2)), (3, .int v3)]) (by repeat (first | exact trivial | refine ⟨rfl, ?_⟩)) ?_
      exact hK  _ _
    · refine fm_aload_n (pc := 26) C dX3_begin_26 rfl rfl ?_
      refine g3_letters (pc := 27) C (by decide) dX3_begin_27 m_fl_X3_9 ?_
      refine fm_iload (pc := 30) C dX3_begin_30 rfl ?_
      refine fm_aload_n (pc := 32) C dX3_begin_32 rfl rfl ?_
      refine fm_iload (pc := 33) C dX3_begin_33 rfl ?_
      refine fm_bind (fun r35 e35 => ?_)
      refine fm_cVi0 (pc := 35) C (t_X2_intAt e35) ok_X2_intAt (fm_kcn2 hk0) m_ml_X3_37 dX3_begin_35 ⟨Nat.le_of_ble_eq_true rfl, Nat.le_of_ble_eq_true rfl⟩ rfl rfl (Nat.le_of_ble_eq_true rfl) ?_
      refine fm_guard (fun h4 => ?_)
      refine fm_iast (pc := 38) C (by decide) h4 dX3_begin_38 ?_
      refine fm_iinc (pc := 39) C dX3_begin_39 rfl (v := (v4 + nI 1)) rfl (by decide) rfl ?_
      refine fm_goto (pc := 42) (tgt := 17) C dX3_begin_42 (by decide) ?_
      refine fm_less (lv' := [(0, .ref (G.2.2.1 6)), (1, .ref (G.2.2.1 q1)), (2, .ref (G.2.2.1 q2)), (3, .int v3), (4, .int ((v4 + nI 1)))]) (by repeat (first | exact trivial | refine ⟨rfl, ?_⟩)) ?_
      exact ih _ _ _
set_option maxHeartbeats 4000000 in
set_option maxRecDepth 100000 in
theorem j_X3_begin_53_ {X : fm_X} {G : fm_G} {l : Launch} {q2 : Nat} {v3 : Int32} (C : fm_C X G l cX3_begin RX3 5 (none : Option Jvm.ClassFile.FieldType) 5 95) {F : (fm_I × fm_L) → State → Prop} (hF : F = fm_Qv X G) (hk0 : fm_k q2 = 9) {K : fm_I → fm_L → Option (fm_I × fm_L)} (hK : ∀  (μ : fm_I) (ν : fm_L), fm_J X G 5 F (K μ ν) μ ν 84 [(0, .ref (G.2.2.1 6))] []) : ∀ (k : Nat) (v4 : Int32) (μ : fm_I) (ν : fm_L), fm_J X G 5 F (m_X3_begin_53 q2 v3 K k v4 μ ν) μ ν 53 [(0, .ref (G.2.2.1 6)), (2, .ref (G.2.2.1 q2)), (3, .int v3), (4, .int v4)] [] := by
  intro k
  induction k with
  | zero =>
    intro v4 μ ν
    exact fm_none
  | succ k ih =>
    intro v4 μ ν
    rw [m_X3_begin_53]
    refine fm_iload (pc := 53) C dX3_begin_53 rfl ?_
    refine fm_iload_n (pc := 55) C dX3_begin_55 rfl rfl ?_
    refine fm_icmp_ge (pc := 56) (tgt := 84) C dX3_begin_56 (by decide) (fun c5 => ?_) (fun c5 => ?_)
    · refine fm_less (lv' := [(0, .ref (G.2.2.1 6))]) (by repeat (first | exact trivial | refine ⟨rfl, ?_⟩)) ?_
      exact hK  _ _
    · refine fm_iload (pc := 59) C dX3_begin_59 rfl ?_
      refine fm_aload_n (pc := 61) C dX3_begin_61 rfl rfl ?_
      refine fm_alenB (pc := 62) C hk0 dX3_begin_62 ?_
      refine fm_icmp_ge (pc := 63) (tgt := 84) C dX3_begin_63 (by decide) (fun c6 => ?_) (fun c6 => ?_)
      · refine fm_less (lv' := [(0, .ref (G.2.2.1 6))]) (by repeat (first | exact trivial | refine ⟨rfl, ?_⟩)) ?_
        exact hK  _ _
      · refine fm_aload_n (pc := 66) C dX3_begin_66 rfl rfl ?_
        refine fm_aload_n (pc := 67) C dX3_begin_67 rfl rfl ?_
        refine fm_iload (pc := 68) C dX3_begin_68 rfl ?_
        refine fm_guard (fun h7 => ?_)
        refine fm_aaldB (pc := 70) C hk0 h7 dX3_begin_70 ?_
        refine fm_guard (fun h8 => ?_)
        refine g0_strips (pc := 71) C (Nat.eq_of_beq_eq_true h8) dX3_begin_71 m_fl_X3_44 ?_
        refine fm_bind (fun r74 e74 => ?_)
        refine fm_cVi (pc := 74) C (t_X3_noteBand e74) ok_X3_noteBand ⟨by decide, rfl⟩ m_ml_X3_48 dX3_begin_74 ⟨Nat.le_of_ble_eq_true rfl, Nat.le_of_ble_eq_true rfl⟩ rfl rfl (Nat.le_of_ble_eq_true rfl) ?_
        refine fm_pop (pc := 77) C dX3_begin_77 rfl ?_
        refine fm_iinc (pc := 78) C dX3_begin_78 rfl (v := (v4 + nI 1)) rfl (by decide) rfl ?_
        refine fm_goto (pc := 81) (tgt := 53) C dX3_begin_81 (by decide) ?_
        refine fm_less (lv' := [(0, .ref (G.2.2.1 6)), (2, .ref (G.2.2.1 q2)), (3, .int v3), (4, .int ((v4 + nI 1)))]) (by repeat (first | exact trivial | refine ⟨rfl, ?_⟩)) ?_
        exact ih _ _ _
set_option maxHeartbeats 4000000 in
set_option maxRecDepth 100000 in
theorem j_X3_begin {X : fm_X} {G : fm_G} {l : Launch} {q1 : Nat} {q2 : Nat} {v3 : Int32} {μ : fm_I} {ν : fm_L} (C : fm_C X G l cX3_begin RX3 5 (none : Option Jvm.ClassFile.FieldType) 5 95) {F : (fm_I × fm_L) → State → Prop} (hF : F = fm_Qv X G) : fm_J X G 5 F (m_X3_begin q1 q2 v3 μ ν) μ ν 0 [(0, .ref (G.2.2.1 6)), (1, .ref (G.2.2.1 q1)), (2, .ref (G.2.2.1 q2)), (3, .int v3)] [] := by
  unfold m_X3_begin
  refine fm_guard (fun h1 => ?_)
  refine fm_guard (fun h2 => ?_)
  refine fm_aload_n (pc := 0) C dX3_begin_0 rfl rfl ?_
  refine fm_aload_n (pc := 1) C dX3_begin_1 rfl rfl ?_
  refine g2_length (pc := 2) C (Nat.eq_of_beq_eq_true h1) dX3_begin_2 m_fl_X3_24 ?_
  refine fm_sipush (pc := 5) (v := (nI 160)) C dX3_begin_5 (by decide) ?_
  refine fm_mmin (pc := 8) C m_ml_X3_30 dX3_begin_8 ⟨Nat.le_of_ble_eq_true rfl, Nat.le_of_ble_eq_true rfl⟩ ?_
  refine p3_length (pc := 11) C (by decide) dX3_begin_11 m_fl_X3_36 ?_
  refine fm_iconst (pc := 14) (v := (nI 0)) C dX3_begin_14 (by decide) ?_
  refine fm_istore (pc := 15) C dX3_begin_15 (by decide) rfl ?_
  refine fm_less (lv' := [(0, .ref (G.2.2.1 6)), (1, .ref (G.2.2.1 q1)), (2, .ref (G.2.2.1 q2)), (3, .int v3), (4, .int ((nI 0)))]) (by repeat (first | exact trivial | refine ⟨rfl, ?_⟩)) ?_
  refine j_X3_begin_17_ C (q1 := q1) (q2 := q2) (v3 := v3) hF (Nat.eq_of_beq_eq_true h1) (Nat.eq_of_beq_eq_true h2) (fun μ17 ν17 => ?_) _ _ _ _
  refine fm_aload_n (pc := 45) C dX3_begin_45 rfl rfl ?_
  refine fm_iconst (pc := 46) (v := (nI 0)) C dX3_begin_46 (by decide) ?_
  refine p3_bandCount (pc := 47) C (by decide) dX3_begin_47 m_fl_X3_41 ?_
  refine fm_iconst (pc := 50) (v := (nI 0)) C dX3_begin_50 (by decide) ?_
  refine fm_istore (pc := 51) C dX3_begin_51 (by decide) rfl ?_
  refine fm_less (lv' := [(0, .ref (G.2.2.1 6)), (2, .ref (G.2.2.1 q2)), (3, .int v3), (4, .int ((nI 0)))]) (by repeat (first | exact trivial | refine ⟨rfl, ?_⟩)) ?_
  refine j_X3_begin_53_ C (q2 := q2) (v3 := v3) hF (Nat.eq_of_beq_eq_true h2) (fun μ53 ν53 => ?_) _ _ _ _
  refine fm_aload_n (pc := 84) C dX3_begin_84 rfl rfl ?_
  refine fm_iconst (pc := 85) (v := (nI 0)) C dX3_begin_85 (by decide) ?_
  refine p3_at (pc := 86) C (by decide) dX3_begin_86 m_fl_X3_52 ?_
  refine fm_aload_n (pc := 89) C dX3_begin_89 rfl rfl ?_
  refine fm_iconst (pc := 90) (v := (-1 : Int32)) C dX3_begin_90 (by decide) ?_
  refine p3_fault (pc := 91) C (by decide) dX3_begin_91 m_fl_X3_55 ?_
  refine fm_aload_n (pc := 94) C dX3_begin_94 rfl rfl ?_
  refine fm_iconst (pc := 95) (v := (nI 0)) C dX3_begin_95 (by decide) ?_
  refine p3_items (pc := 96) C (by decide) dX3_begin_96 m_fl_X3_58 ?_
  exact fm_vret (pc := 99) C hF rfl dX3_begin_99
theorem t_X3_begin {l : Launch} {G : fm_G} {q1 : Nat} {q2 : Nat} {v3 : Int32} {μ : fm_I} {ν : fm_L} {r : fm_I × fm_L} (h : m_X3_begin q1 q2 v3 μ ν = some r) : fm_Mv l G yX3_begin cX3_begin 5 (none : Option Jvm.ClassFile.FieldType) 5 95 [.ref (G.2.2.1 6), .ref (G.2.2.1 q1), .ref (G.2.2.1 q2), .int v3] μ ν r := fm_Mv_of (by decide +kernel) (Nat.le_of_ble_eq_true rfl) (fun _ C => j_X3_begin C rfl r h)
theorem dX3_failAt_0 : decode cX3_failAt 0 = .ok (.aload_n 0, 1) := by decide +kernel
theorem dX3_failAt_1 : decode cX3_failAt 1 = .ok (.iload_n 1, 1) := by decide +kernel
theorem dX3_failAt_2 : decode cX3_failAt 2 = .ok (.putfield 55, 3) := by decide +kernel
theorem dX3_failAt_5 : decode cX3_failAt 5 = .ok (.iconst 0, 1) := by decide +kernel
theorem dX3_failAt_6 : decode cX3_failAt 6 = .ok (.ireturn, 1) := by decide +kernel
def m_X3_failAt (v1 : Int32) (μ : fm_I) (ν : fm_L) : Option (Int32 × fm_I × fm_L) :=
  some (((nI 0), (fm_u μ 6 0 v1), ν))
theorem ok_X3_failAt : fm_okV yX3_failAt cX3_failAt 2 (some .boolean) 1 := ⟨m_cd_X3_failAt, m_im_X3_failAt, m_se_X3_X3_failAt, m_ini_X3, by decide +kernel, by decide +kernel, by decide +kernel⟩
set_option maxHeartbeats 4000000 in
set_option maxRecDepth 100000 in
theorem j_X3_failAt {X : fm_X} {G : fm_G} {l : Launch} {v1 : Int32} {μ : fm_I} {ν : fm_L} (C : fm_C X G l cX3_failAt RX3 2 (some .boolean) 1 12) {F : (Int32 × fm_I × fm_L) → State → Prop} (hF : F = fm_Qi X G) : fm_J X G 2 F (m_X3_failAt v1 μ ν) μ ν 0 [(0, .ref (G.2.2.1 6)), (1, .int v1)] [] := by
  unfold m_X3_failAt
  refine fm_aload_n (pc := 0) C dX3_failAt_0 rfl rfl ?_
  refine fm_iload_n (pc := 1) C dX3_failAt_1 rfl rfl ?_
  refine p3_fault (pc := 2) C (by decide) dX3_failAt_2 m_fl_X3_55 ?_
  refine fm_iconst (pc := 5) (v := (nI 0)) C dX3_failAt_5 (by decide) ?_
  exact fm_zret (pc := 6) C hF rfl rfl dX3_failAt_6
theorem t_X3_failAt {l : Launch} {G : fm_G} {v1 : Int32} {μ : fm_I} {ν : fm_L} {r : Int32 × fm_I × fm_L} (h : m_X3_failAt v1 μ ν = some r) : fm_Mi l G yX3_failAt cX3_failAt 2 (some .boolean) 1 12 [.ref (G.2.2.1 6), .int v1] μ ν r := fm_Mi_of (by decide +kernel) (Nat.le_of_ble_eq_true rfl) (fun _ C => j_X3_failAt C rfl r h)
theorem dX3_isAtEnd_0 : decode cX3_isAtEnd 0 = .ok (.aload_n 0, 1) := by decide +kernel
theorem dX3_isAtEnd_1 : decode cX3_isAtEnd 1 = .ok (.getfield 52, 3) := by decide +kernel
theorem dX3_isAtEnd_4 : decode cX3_isAtEnd 4 = .ok (.ifCond .lt 24, 3) := by decide +kernel
theorem dX3_isAtEnd_7 : decode cX3_isAtEnd 7 = .ok (.aload_n 0, 1) := by decide +kernel
theorem dX3_isAtEnd_8 : decode cX3_isAtEnd 8 = .ok (.getfield 52, 3) := by decide +kernel
theorem dX3_isAtEnd_11 : decode cX3_isAtEnd 11 = .ok (.aload_n 0, 1) := by decide +kernel
theorem dX3_isAtEnd_12 : decode cX3_isAtEnd 12 = .ok (.getfield 36, 3) := by decide +kernel
theorem dX3_isAtEnd_15 : decode cX3_isAtEnd 15 = .ok (.if_icmp .ge 13, 3) := by decide +kernel
theorem dX3_isAtEnd_18 : decode cX3_isAtEnd 18 = .ok (.aload_n 0, 1) := by decide +kernel
theorem dX3_isAtEnd_19 : decode cX3_isAtEnd 19 = .ok (.getfield 52, 3) := by decide +kernel
theorem dX3_isAtEnd_22 : decode cX3_isAtEnd 22 = .ok (.sipush 160, 3) := by decide +kernel
theorem dX3_isAtEnd_25 : decode cX3_isAtEnd 25 = .ok (.if_icmp .lt 7, 3) := by decide +kernel
theorem dX3_isAtEnd_28 : decode cX3_isAtEnd 28 = .ok (.iconst 1, 1) := by decide +kernel
theorem dX3_isAtEnd_29 : decode cX3_isAtEnd 29 = .ok (.goto 4, 3) := by decide +kernel
theorem dX3_isAtEnd_32 : decode cX3_isAtEnd 32 = .ok (.iconst 0, 1) := by decide +kernel
theorem dX3_isAtEnd_33 : decode cX3_isAtEnd 33 = .ok (.ireturn, 1) := by decide +kernel
def m_X3_isAtEnd  (μ : fm_I) (ν : fm_L) : Option (Int32) :=
  if (μ 6 2) < 0 then some ((nI 1)) else if (μ 6 3) ≤ (μ 6 2) then some ((nI 1)) else if (μ 6 2) < (nI 160) then some ((nI 0)) else some ((nI 1))
theorem ok_X3_isAtEnd : fm_okV yX3_isAtEnd cX3_isAtEnd 1 (some .boolean) 0 := ⟨m_cd_X3_isAtEnd, m_im_X3_isAtEnd, m_se_X3_X3_isAtEnd, m_ini_X3, by decide +kernel, by decide +kernel, by decide +kernel⟩
set_option maxHeartbeats 4000000 in
set_option maxRecDepth 100000 in
theorem j_X3_isAtEnd {X : fm_X} {G : fm_G} {l : Launch}  {μ : fm_I} {ν : fm_L} (C : fm_C X G l cX3_isAtEnd RX3 1 (some .boolean) 1 12) {F : Int32 → State → Prop} (hF : F = fun r => fm_Qi X G (r, μ, ν)) : fm_J X G 1 F (m_X3_isAtEnd  μ ν) μ ν 0 [(0, .ref (G.2.2.1 6))] [] := by
  unfold m_X3_isAtEnd
  refine fm_aload_n (pc := 0) C dX3_isAtEnd_0 rfl rfl ?_
  refine g3_at (pc := 1) C (by decide) dX3_isAtEnd_1 m_fl_X3_52 ?_
  refine fm_if_lt (pc := 4) (tgt := 28) C dX3_isAtEnd_4 (by decide) (fun c1 => ?_) (fun c1 => ?_)
  · refine fm_iconst (pc := 28) (v := (nI 1)) C dX3_isAtEnd_28 (by decide) ?_
    refine fm_goto (pc := 29) (tgt := 33) C dX3_isAtEnd_29 (by decide) ?_
    exact fm_zret0 (pc := 33) C hF rfl rfl dX3_isAtEnd_33
  · refine fm_aload_n (pc := 7) C dX3_isAtEnd_7 rfl rfl ?_
    refine g3_at (pc := 8) C (by decide) dX3_isAtEnd_8 m_fl_X3_52 ?_
    refine fm_aload_n (pc := 11) C dX3_isAtEnd_11 rfl rfl ?_
    refine g3_length (pc := 12) C (by decide) dX3_isAtEnd_12 m_fl_X3_36 ?_
    refine fm_icmp_ge (pc := 15) (tgt := 28) C dX3_isAtEnd_15 (by decide) (fun c2 => ?_) (fun c2 => ?_)
    · refine fm_iconst (pc := 28) (v := (nI 1)) C dX3_isAtEnd_28 (by decide) ?_
      refine fm_goto (pc := 29) (tgt := 33) C dX3_isAtEnd_29 (by decide) ?_
      exact fm_zret0 (pc := 33) C hF rfl rfl dX3_isAtEnd_33
    · refine fm_aload_n (pc := 18) C dX3_isAtEnd_18 rfl rfl ?_
      refine g3_at (pc := 19) C (by decide) dX3_isAtEnd_19 m_fl_X3_52 ?_
      refine fm_sipush (pc := 22) (v := (nI 160)) C dX3_isAtEnd_22 (by decide) ?_
      refine fm_icmp_lt (pc := 25) (tgt := 32) C dX3_isAtEnd_25 (by decide) (fun c3 => ?_) (fun c3 => ?_)
      · refine fm_iconst (pc := 32) (v := (nI 0)) C dX3_isAtEnd_32 (by decide) ?_
        exact fm_zret0 (pc := 33) C hF rfl rfl dX3_isAtEnd_33
      · refine fm_iconst (pc := 28) (v := (nI 1)) C dX3_isAtEnd_28 (by decide) ?_
        refine fm_goto (pc := 29) (tgt := 33) C dX3_isAtEnd_29 (by decide) ?_
        exact fm_zret0 (pc := 33) C hF rfl rfl dX3_isAtEnd_33
theorem t_X3_isAtEnd {l : Launch} {G : fm_G}  {μ : fm_I} {ν : fm_L} {r : Int32} (h : m_X3_isAtEnd  μ ν = some r) : fm_Mi l G yX3_isAtEnd cX3_isAtEnd 1 (some .boolean) 1 12 [.ref (G.2.2.1 6)] μ ν (r, μ, ν) := fm_Mi_of (by decide +kernel) (Nat.le_of_ble_eq_true rfl) (fun _ C => j_X3_isAtEnd C rfl r h)
theorem dX3_letterHere_0 : decode cX3_letterHere 0 = .ok (.aload_n 0, 1) := by decide +kernel
theorem dX3_letterHere_1 : decode cX3_letterHere 1 = .ok (.invokevirtual 65, 3) := by decide +kernel
theorem dX3_letterHere_4 : decode cX3_letterHere 4 = .ok (.ifCond .eq 7, 3) := by decide +kernel
theorem dX3_letterHere_7 : decode cX3_letterHere 7 = .ok (.iconst (-1), 1) := by decide +kernel
theorem dX3_letterHere_8 : decode cX3_letterHere 8 = .ok (.goto 12, 3) := by decide +kernel
theorem dX3_letterHere_11 : decode cX3_letterHere 11 = .ok (.aload_n 0, 1) := by decide +kernel
theorem dX3_letterHere_12 : decode cX3_letterHere 12 = .ok (.getfield 9, 3) := by decide +kernel
theorem dX3_letterHere_15 : decode cX3_letterHere 15 = .ok (.aload_n 0, 1) := by decide +kernel
theorem dX3_letterHere_16 : decode cX3_letterHere 16 = .ok (.getfield 52, 3) := by decide +kernel
theorem dX3_letterHere_19 : decode cX3_letterHere 19 = .ok (.iaload, 1) := by decide +kernel
theorem dX3_letterHere_20 : decode cX3_letterHere 20 = .ok (.ireturn, 1) := by decide +kernel
def m_X3_letterHere  (μ : fm_I) (ν : fm_L) : Option (Int32) :=
  (m_X3_isAtEnd  μ ν).bind (fun r1 => if r1 = 0 then fm_g (fm_in ((μ 6 2)) (fm_n 14)) (some ((μ 14 ((μ 6 2)).toNatClampNeg))) else some ((-1 : Int32)))
theorem ok_X3_letterHere : fm_okV yX3_letterHere cX3_letterHere 1 (some .int) 0 := ⟨m_cd_X3_letterHere, m_im_X3_letterHere, m_se_X3_X3_letterHere, m_ini_X3, by decide +kernel, by decide +kernel, by decide +kernel⟩
set_option maxHeartbeats 4000000 in
set_option maxRecDepth 100000 in
theorem j_X3_letterHere {X : fm_X} {G : fm_G} {l : Launch}  {μ : fm_I} {ν : fm_L} (C : fm_C X G l cX3_letterHere RX3 1 (some .int) 2 32) {F : Int32 → State → Prop} (hF : F = fun r => fm_Qi X G (r, μ, ν)) : fm_J X G 1 F (m_X3_letterHere  μ ν) μ ν 0 [(0, .ref (G.2.2.1 6))] [] := by
  unfold m_X3_letterHere
  refine fm_aload_n (pc := 0) C dX3_letterHere_0 rfl rfl ?_
  refine fm_bind (fun r1 e1 => ?_)
  refine fm_cVi0 (pc := 1) C (t_X3_isAtEnd e1) ok_X3_isAtEnd ⟨by decide, rfl⟩ m_ml_X3_65 dX3_letterHere_1 ⟨Nat.le_of_ble_eq_true rfl, Nat.le_of_ble_eq_true rfl⟩ rfl rfl (Nat.le_of_ble_eq_true rfl) ?_
  refine fm_if_eq (pc := 4) (tgt := 11) C dX3_letterHere_4 (by decide) (fun c1 => ?_) (fun c1 => ?_)
  · refine fm_aload_n (pc := 11) C dX3_letterHere_11 rfl rfl ?_
    refine g3_letters (pc := 12) C (by decide) dX3_letterHere_12 m_fl_X3_9 ?_
    refine fm_aload_n (pc := 15) C dX3_letterHere_15 rfl rfl ?_
    refine g3_at (pc := 16) C (by decide) dX3_letterHere_16 m_fl_X3_52 ?_
    refine fm_guard (fun h2 => ?_)
    refine fm_iald (pc := 19) C (by decide) h2 dX3_letterHere_19 ?_
    exact fm_zret0 (pc := 20) C hF rfl rfl dX3_letterHere_20
  · refine fm_iconst (pc := 7) (v := (-1 : Int32)) C dX3_letterHere_7 (by decide) ?_
    refine fm_goto (pc := 8) (tgt := 20) C dX3_letterHere_8 (by decide) ?_
    exact fm_zret0 (pc := 20) C hF rfl rfl dX3_letterHere_20
theorem t_X3_letterHere {l : Launch} {G : fm_G}  {μ : fm_I} {ν : fm_L} {r : Int32} (h : m_X3_letterHere  μ ν = some r) : fm_Mi l G yX3_letterHere cX3_letterHere 1 (some .int) 2 32 [.ref (G.2.2.1 6)] μ ν (r, μ, ν) := fm_Mi_of (by decide +kernel) (Nat.le_of_ble_eq_true rfl) (fun _ C => j_X3_letterHere C rfl r h)
theorem dX3_readLetter_0 : decode cX3_readLetter 0 = .ok (.aload_n 0, 1) := by decide +kernel
theorem dX3_readLetter_1 : decode cX3_readLetter 1 = .ok (.invokevirtual 65, 3) := by decide +kernel
theorem dX3_readLetter_4 : decode cX3_readLetter 4 = .ok (.ifCond .ne 11, 3) := by decide +kernel
theorem dX3_readLetter_7 : decode cX3_readLetter 7 = .ok (.aload_n 0, 1) := by decide +kernel
theorem dX3_readLetter_8 : decode cX3_readLetter 8 = .ok (.invokevirtual 74, 3) := by decide +kernel
theorem dX3_readLetter_11 : decode cX3_readLetter 11 = .ok (.iload_n 1, 1) := by decide +kernel
theorem dX3_readLetter_12 : decode cX3_readLetter 12 = .ok (.if_icmp .eq 12, 3) := by decide +kernel
theorem dX3_readLetter_15 : decode cX3_readLetter 15 = .ok (.aload_n 0, 1) := by decide +kernel
theorem dX3_readLetter_16 : decode cX3_readLetter 16 = .ok (.aload_n 0, 1) := by decide +kernel
theorem dX3_readLetter_17 : decode cX3_readLetter 17 = .ok (.getfield 52, 3) := by decide +kernel
theorem dX3_readLetter_20 : decode cX3_readLetter 20 = .ok (.invokevirtual 71, 3) := by decide +kernel
theorem dX3_readLetter_23 : decode cX3_readLetter 23 = .ok (.ireturn, 1) := by decide +kernel
theorem dX3_readLetter_24 : decode cX3_readLetter 24 = .ok (.aload_n 0, 1) := by decide +kernel
theorem dX3_readLetter_25 : decode cX3_readLetter 25 = .ok (.dup, 1) := by decide +kernel
theorem dX3_readLetter_26 : decode cX3_readLetter 26 = .ok (.getfield 52, 3) := by decide +kernel
theorem dX3_readLetter_29 : decode cX3_readLetter 29 = .ok (.iconst 1, 1) := by decide +kernel
theorem dX3_readLetter_30 : decode cX3_readLetter 30 = .ok (.iadd, 1) := by decide +kernel
theorem dX3_readLetter_31 : decode cX3_readLetter 31 = .ok (.putfield 52, 3) := by decide +kernel
theorem dX3_readLetter_34 : decode cX3_readLetter 34 = .ok (.iconst 1, 1) := by decide +kernel
theorem dX3_readLetter_35 : decode cX3_readLetter 35 = .ok (.ireturn, 1) := by decide +kernel
def m_X3_readLetter (v1 : Int32) (μ : fm_I) (ν : fm_L) : Option (Int32 × fm_I × fm_L) :=
  (m_X3_isAtEnd  μ ν).bind (fun r1 => if r1 = 0 then (m_X3_letterHere  μ ν).bind (fun r8 => if r8 = v1 then some (((nI 1), (fm_u μ 6 2 ((((μ 6 2)) + ((nI 1))))), ν)) else (m_X3_failAt ((μ 6 2)) μ ν).bind (fun r20 => fm_g (fm_b01 r20.1) (some ((r20.1, r20.2.1, r20.2.2))))) else (m_X3_failAt ((μ 6 2)) μ ν).bind (fun r20 => fm_g (fm_b01 r20.1) (some ((r20.1, r20.2.1, r20.2.2)))))
theorem ok_X3_readLetter : fm_okV yX3_readLetter cX3_readLetter 2 (some .boolean) 1 := ⟨m_cd_X3_readLetter, m_im_X3_readLetter, m_se_X3_X3_readLetter, m_ini_X3, by decide +kernel, by decide +kernel, by decide +kernel⟩
set_option maxHeartbeats 4000000 in
set_option maxRecDepth 100000 in
theorem j_X3_readLetter {X : fm_X} {G : fm_G} {l : Launch} {v1 : Int32} {μ : fm_I} {ν : fm_L} (C : fm_C X G l cX3_readLetter RX3 2 (some .boolean) 3 52) {F : (Int32 × fm_I × fm_L) → State → Prop} (hF : F = fm_Qi X G) : fm_J X G 2 F (m_X3_readLetter v1 μ ν) μ ν 0 [(0, .ref (G.2.2.1 6)), (1, .int v1)] [] := by
  unfold m_X3_readLetter
  refine fm_aload_n (pc := 0) C dX3_readLetter_0 rfl rfl ?_
  refine fm_bind (fun r1 e1 => ?_)
  refine fm_cVi0 (pc := 1) C (t_X3_isAtEnd e1) ok_X3_isAtEnd ⟨by decide, rfl⟩ m_ml_X3_65 dX3_readLetter_1 ⟨Nat.le_of_ble_eq_true rfl, Nat.le_of_ble_eq_true rfl⟩ rfl rfl (Nat.le_of_ble_eq_true rfl) ?_
  refine fm_if_ne (pc := 4) (tgt := 15) C dX3_readLetter_4 (by decide) (fun c1 => ?_) (fun c1 => ?_)
  · refine fm_aload_n (pc := 7) C dX3_readLetter_7 rfl rfl ?_
    refine fm_bind (fun r8 e8 => ?_)
    refine fm_cVi0 (pc := 8) C (t_X3_letterHere e8) ok_X3_letterHere ⟨by decide, rfl⟩ m_ml_X3_74 dX3_readLetter_8 ⟨Nat.le_of_ble_eq_true rfl, Nat.le_of_ble_eq_true rfl⟩ rfl rfl (Nat.le_of_ble_eq_true rfl) ?_
    refine fm_iload_n (pc := 11) C dX3_readLetter_11 rfl rfl ?_
    refine fm_icmp_eq (pc := 12) (tgt := 24) C dX3_readLetter_12 (by decide) (fun c2 => ?_) (fun c2 => ?_)
    · refine fm_aload_n (pc := 24) C dX3_readLetter_24 rfl rfl ?_
      refine fm_dup (pc := 25) C dX3_readLetter_25 rfl ?_
      refine g3_at (pc := 26) C (by decide) dX3_readLetter_26 m_fl_X3_52 ?_
      refine fm_iconst (pc := 29) (v := (nI 1)) C dX3_readLetter_29 (by decide) ?_
      refine fm_iadd (pc := 30) C dX3_readLetter_30 ?_
      refine p3_at (pc := 31) C (by decide) dX3_readLetter_31 m_fl_X3_52 ?_
      refine fm_iconst (pc := 34) (v := (nI 1)) C dX3_readLetter_34 (by decide) ?_
      exact fm_zret (pc := 35) C hF rfl rfl dX3_readLetter_35
    · refine fm_aload_n (pc := 15) C dX3_readLetter_15 rfl rfl ?_
      refine fm_aload_n (pc := 16) C dX3_readLetter_16 rfl rfl ?_
      refine g3_at (pc := 17) C (by decide) dX3_readLetter_17 m_fl_X3_52 ?_
      refine fm_bind (fun r20 e20 => ?_)
      refine fm_cVi (pc := 20) C (t_X3_failAt e20) ok_X3_failAt ⟨by decide, rfl⟩ m_ml_X3_71 dX3_readLetter_20 ⟨Nat.le_of_ble_eq_true rfl, Nat.le_of_ble_eq_true rfl⟩ rfl rfl (Nat.le_of_ble_eq_true rfl) ?_
      refine fm_guard (fun h3 => ?_)
      exact fm_zret (pc := 23) C hF rfl (fm_b01_n h3) dX3_readLetter_23
  · refine fm_aload_n (pc := 15) C dX3_readLetter_15 rfl rfl ?_
    refine fm_aload_n (pc := 16) C dX3_readLetter_16 rfl rfl ?_
    refine g3_at (pc := 17) C (by decide) dX3_readLetter_17 m_fl_X3_52 ?_
    refine fm_bind (fun r20 e20 => ?_)
    refine fm_cVi (pc := 20) C (t_X3_failAt e20) ok_X3_failAt ⟨by decide, rfl⟩ m_ml_X3_71 dX3_readLetter_20 ⟨Nat.le_of_ble_eq_true rfl, Nat.le_of_ble_eq_true rfl⟩ rfl rfl (Nat.le_of_ble_eq_true rfl) ?_
    refine fm_guard (fun h4 => ?_)
    exact fm_zret (pc := 23) C hF rfl (fm_b01_n h4) dX3_readLetter_23
theorem t_X3_readLetter {l : Launch} {G : fm_G} {v1 : Int32} {μ : fm_I} {ν : fm_L} {r : Int32 × fm_I × fm_L} (h : m_X3_readLetter v1 μ ν = some r) : fm_Mi l G yX3_readLetter cX3_readLetter 2 (some .boolean) 3 52 [.ref (G.2.2.1 6), .int v1] μ ν r := fm_Mi_of (by decide +kernel) (Nat.le_of_ble_eq_true rfl) (fun _ C => j_X3_readLetter C rfl r h)
theorem dX3_readWord_0 : decode cX3_readWord 0 = .ok (.iconst 0, 1) := by decide +kernel
theorem dX3_readWord_1 : decode cX3_readWord 1 = .ok (.istore_n 2, 1) := by decide +kernel
theorem dX3_readWord_2 : decode cX3_readWord 2 = .ok (.iload_n 2, 1) := by decide +kernel
theorem dX3_readWord_3 : decode cX3_readWord 3 = .ok (.aload_n 1, 1) := by decide +kernel
theorem dX3_readWord_4 : decode cX3_readWord 4 = .ok (.invokevirtual 111, 3) := by decide +kernel
theorem dX3_readWord_7 : decode cX3_readWord 7 = .ok (.if_icmp .ge 23, 3) := by decide +kernel
theorem dX3_readWord_10 : decode cX3_readWord 10 = .ok (.aload_n 0, 1) := by decide +kernel
theorem dX3_readWord_11 : decode cX3_readWord 11 = .ok (.aload_n 1, 1) := by decide +kernel
theorem dX3_readWord_12 : decode cX3_readWord 12 = .ok (.iload_n 2, 1) := by decide +kernel
theorem dX3_readWord_13 : decode cX3_readWord 13 = .ok (.invokevirtual 115, 3) := by decide +kernel
theorem dX3_readWord_16 : decode cX3_readWord 16 = .ok (.invokevirtual 68, 3) := by decide +kernel
theorem dX3_readWord_19 : decode cX3_readWord 19 = .ok (.ifCond .ne 5, 3) := by decide +kernel
theorem dX3_readWord_22 : decode cX3_readWord 22 = .ok (.iconst 0, 1) := by decide +kernel
theorem dX3_readWord_23 : decode cX3_readWord 23 = .ok (.ireturn, 1) := by decide +kernel
theorem dX3_readWord_24 : decode cX3_readWord 24 = .ok (.iinc 2 1, 3) := by decide +kernel
theorem dX3_readWord_27 : decode cX3_readWord 27 = .ok (.goto (-25), 3) := by decide +kernel
theorem dX3_readWord_30 : decode cX3_readWord 30 = .ok (.iconst 1, 1) := by decide +kernel
theorem dX3_readWord_31 : decode cX3_readWord 31 = .ok (.ireturn, 1) := by decide +kernel
def m_X3_readWord_2 (t1 : Nat) (K : fm_I → fm_L → Option (Int32 × fm_I × fm_L)) : Nat → Int32 → fm_I → fm_L → Option (Int32 × fm_I × fm_L)
  | 0, _, _, _ => none
  | k + 1, v2, μ, ν => fm_g (Nat.blt t1 5) (if (nI (fm_tl.getD t1 0)) ≤ v2 then K  μ ν else fm_g (Nat.blt t1 5 && fm_in v2 (fm_tl.getD t1 0)) ((m_X3_readLetter ((fm_ch t1 v2.toNatClampNeg)) μ ν).bind (fun r16 => if r16.1 = 0 then some (((nI 0), r16.2.1, r16.2.2)) else m_X3_readWord_2 t1 K k ((v2 + nI 1)) r16.2.1 r16.2.2)))
def m_X3_readWord (t1 : Nat) (μ : fm_I) (ν : fm_L) : Option (Int32 × fm_I × fm_L) :=
  m_X3_readWord_2 t1  (fun μ2 ν2 => some (((nI 1), μ2, ν2))) 5000 ((nI 0)) μ ν
theorem ok_X3_readWord : fm_okV yX3_readWord cX3_readWord 3 (some .boolean) 1 := ⟨m_cd_X3_readWord, m_im_X3_readWord, m_se_X3_X3_readWord, m_ini_X3, by decide +kernel, by decide +kernel, by decide +kernel⟩
set_option maxHeartbeats 4000000 in
set_option maxRecDepth 100000 in
theorem j_X3_readWord_2_ {X : fm_X} {G : fm_G} {l : Launch} {t1 : Nat} (C : fm_C X G l cX3_readWord RX3 3 (some .boolean) 9 261) {F : (Int32 × fm_I × fm_L) → State → Prop} (hF : F = fm_Qi X G)  {K : fm_I → fm_L → Option (Int32 × fm_I × fm_L)} (hK : ∀  (μ : fm_I) (ν : fm_L), fm_J X G 3 F (K μ ν) μ ν 30 [] []) : ∀ (k : Nat) (v2 : Int32) (μ : fm_I) (ν : fm_L), fm_J X G 3 F (m_X3_readWord_2 t1 K k v2 μ ν) μ ν 2 [(0, .ref (G.2.2.1 6)), (1, .ref (G.2.2.2.2.1 t1)), (2, .int v2)] [] := by
  intro k
  induction k with
  | zero =>
    intro v2 μ ν
    exact fm_none
  | succ k ih =>
    intro v2 μ ν
    rw [m_X3_readWord_2]
    refine fm_iload_n (pc := 2) C dX3_readWord_2 rfl rfl ?_
    refine fm_aload_n (pc := 3) C dX3_readWord_3 rfl rfl ?_
    refine fm_guard (fun h1 => ?_)
    refine fm_slen (pc := 4) C h1 m_ml_X3_111 dX3_readWord_4 ⟨Nat.le_of_ble_eq_true rfl, Nat.le_of_ble_eq_true rfl⟩ (Nat.le_of_ble_eq_true rfl) ?_
    refine fm_icmp_ge (pc := 7) (tgt := 30) C dX3_readWord_7 (by decide) (fun c2 => ?_) (fun c2 => ?_)
    · refine fm_less (lv' := []) (by repeat (first | exact trivial | refine ⟨rfl, ?_⟩)) ?_
      exact hK  _ _
    · refine fm_aload_n (pc := 10) C dX3_readWord_10 rfl rfl ?_
      refine fm_aload_n (pc := 11) C dX3_readWord_11 rfl rfl ?_
      refine fm_iload_n (pc := 12) C dX3_readWord_12 rfl rfl ?_
      refine fm_guard (fun h3 => ?_)
      refine fm_schar (pc := 13) C h3 m_ml_X3_115 dX3_readWord_13 ⟨Nat.le_of_ble_eq_true rfl, Nat.le_of_ble_eq_true rfl⟩ (Nat.le_of_ble_eq_true rfl) ?_
      refine fm_bind (fun r16 e16 => ?_)
      refine fm_cVi (pc := 16) C (t_X3_readLetter e16) ok_X3_readLetter ⟨by decide, rfl⟩ m_ml_X3_68 dX3_readWord_16 ⟨Nat.le_of_ble_eq_true rfl, Nat.le_of_ble_eq_true rfl⟩ rfl rfl (Nat.le_of_ble_eq_true rfl) ?_
      refine fm_if_ne (pc := 19) (tgt := 24) C dX3_readWord_19 (by decide) (fun c4 => ?_) (fun c4 => ?_)
      · refine fm_iconst (pc := 22) (v := (nI 0)) C dX3_readWord_22 (by decide) ?_
        exact fm_zret (pc := 23) C hF rfl rfl dX3_readWord_23
      · refine fm_iinc (pc := 24) C dX3_readWord_24 rfl (v := (v2 + nI 1)) rfl (by decide) rfl ?_
        refine fm_goto (pc := 27) (tgt := 2) C dX3_readWord_27 (by decide) ?_
        refine fm_less (lv' := [(0, .ref (G.2.2.1 6)), (1, .ref (G.2.2.2.2.1 t1)), (2, .int ((v2 + nI 1)))]) (by repeat (first | exact trivial | refine ⟨rfl, ?_⟩)) ?_
        exact ih _ _ _
set_option maxHeartbeats 4000000 in
set_option maxRecDepth 100000 in
theorem j_X3_readWord {X : fm_X} {G : fm_G} {l : Launch} {t1 : Nat} {μ : fm_I} {ν : fm_L} (C : fm_C X G l cX3_readWord RX3 3 (some .boolean) 9 261) {F : (Int32 × fm_I × fm_L) → State → Prop} (hF : F = fm_Qi X G) : fm_J X G 3 F (m_X3_readWord t1 μ ν) μ ν 0 [(0, .ref (G.2.2.1 6)), (1, .ref (G.2.2.2.2.1 t1))] [] := by
  unfold m_X3_readWord
  refine fm_iconst (pc := 0) (v := (nI 0)) C dX3_readWord_0 (by decide) ?_
  refine fm_istore_n (pc := 1) C dX3_readWord_1 rfl (by decide) rfl ?_
  refine fm_less (lv' := [(0, .ref (G.2.2.1 6)), (1, .ref (G.2.2.2.2.1 t1)), (2, .int ((nI 0)))]) (by repeat (first | exact trivial | refine ⟨rfl, ?_⟩)) ?_
  refine j_X3_readWord_2_ C (t1 := t1) hF  (fun μ2 ν2 => ?_) _ _ _ _
  refine fm_iconst (pc := 30) (v := (nI 1)) C dX3_readWord_30 (by decide) ?_
  exact fm_zret (pc := 31) C hF rfl rfl dX3_readWord_31
theorem t_X3_readWord {l : Launch} {G : fm_G} {t1 : Nat} {μ : fm_I} {ν : fm_L} {r : Int32 × fm_I × fm_L} (h : m_X3_readWord t1 μ ν = some r) : fm_Mi l G yX3_readWord cX3_readWord 3 (some .boolean) 9 261 [.ref (G.2.2.1 6), .ref (G.2.2.2.2.1 t1)] μ ν r := fm_Mi_of (by decide +kernel) (Nat.le_of_ble_eq_true rfl) (fun _ C => j_X3_readWord C rfl r h)
theorem dX3_hasRoom_0 : decode cX3_hasRoom 0 = .ok (.aload_n 0, 1) := by decide +kernel
theorem dX3_hasRoom_1 : decode cX3_hasRoom 1 = .ok (.getfield 41, 3) := by decide +kernel
theorem dX3_hasRoom_4 : decode cX3_hasRoom 4 = .ok (.bipush 6, 2) := by decide +kernel
theorem dX3_hasRoom_6 : decode cX3_hasRoom 6 = .ok (.if_icmp .lt 11, 3) := by decide +kernel
theorem dX3_hasRoom_9 : decode cX3_hasRoom 9 = .ok (.aload_n 0, 1) := by decide +kernel
theorem dX3_hasRoom_10 : decode cX3_hasRoom 10 = .ok (.iload_n 1, 1) := by decide +kernel
theorem dX3_hasRoom_11 : decode cX3_hasRoom 11 = .ok (.invokevirtual 71, 3) := by decide +kernel
theorem dX3_hasRoom_14 : decode cX3_hasRoom 14 = .ok (.ifCond .eq 7, 3) := by decide +kernel
theorem dX3_hasRoom_17 : decode cX3_hasRoom 17 = .ok (.iconst 1, 1) := by decide +kernel
theorem dX3_hasRoom_18 : decode cX3_hasRoom 18 = .ok (.goto 4, 3) := by decide +kernel
theorem dX3_hasRoom_21 : decode cX3_hasRoom 21 = .ok (.iconst 0, 1) := by decide +kernel
theorem dX3_hasRoom_22 : decode cX3_hasRoom 22 = .ok (.ireturn, 1) := by decide +kernel
def m_X3_hasRoom (v1 : Int32) (μ : fm_I) (ν : fm_L) : Option (Int32 × fm_I × fm_L) :=
  if (μ 6 4) < (nI 6) then some (((nI 1), μ, ν)) else (m_X3_failAt v1 μ ν).bind (fun r11 => if r11.1 = 0 then some (((nI 0), r11.2.1, r11.2.2)) else some (((nI 1), r11.2.1, r11.2.2)))
theorem ok_X3_hasRoom : fm_okV yX3_hasRoom cX3_hasRoom 2 (some .boolean) 1 := ⟨m_cd_X3_hasRoom, m_im_X3_hasRoom, m_se_X3_X3_hasRoom, m_ini_X3, by decide +kernel, by decide +kernel, by decide +kernel⟩
set_option maxHeartbeats 4000000 in
set_option maxRecDepth 100000 in
theorem j_X3_hasRoom {X : fm_X} {G : fm_G} {l : Launch} {v1 : Int32} {μ : fm_I} {ν : fm_L} (C : fm_C X G l cX3_hasRoom RX3 2 (some .boolean) 2 33) {F : (Int32 × fm_I × fm_L) → State → Prop} (hF : F = fm_Qi X G) : fm_J X G 2 F (m_X3_hasRoom v1 μ ν) μ ν 0 [(0, .ref (G.2.2.1 6)), (1, .int v1)] [] := by
  unfold m_X3_hasRoom
  refine fm_aload_n (pc := 0) C dX3_hasRoom_0 rfl rfl ?_
  refine g3_bandCount (pc := 1) C (by decide) dX3_hasRoom_1 m_fl_X3_41 ?_
  refine fm_bipush (pc := 4) (v := (nI 6)) C dX3_hasRoom_4 (by decide) ?_
  refine fm_icmp_lt (pc := 6) (tgt := 17) C dX3_hasRoom_6 (by decide) (fun c1 => ?_) (fun c1 => ?_)
  · refine fm_iconst (pc := 17) (v := (nI 1)) C dX3_hasRoom_17 (by decide) ?_
    refine fm_goto (pc := 18) (tgt := 22) C dX3_hasRoom_18 (by decide) ?_
    exact fm_zret (pc := 22) C hF rfl rfl dX3_hasRoom_22
  · refine fm_aload_n (pc := 9) C dX3_hasRoom_9 rfl rfl ?_
    refine fm_iload_n (pc := 10) C dX3_hasRoom_10 rfl rfl ?_
    refine fm_bind (fun r11 e11 => ?_)
    refine fm_cVi (pc := 11) C (t_X3_failAt e11) ok_X3_failAt ⟨by decide, rfl⟩ m_ml_X3_71 dX3_hasRoom_11 ⟨Nat.le_of_ble_eq_true rfl, Nat.le_of_ble_eq_true rfl⟩ rfl rfl (Nat.le_of_ble_eq_true rfl) ?_
    refine fm_if_eq (pc := 14) (tgt := 21) C dX3_hasRoom_14 (by decide) (fun c2 => ?_) (fun c2 => ?_)
    · refine fm_iconst (pc := 21) (v := (nI 0)) C dX3_hasRoom_21 (by decide) ?_
      exact fm_zret (pc := 22) C hF rfl rfl dX3_hasRoom_22
    · refine fm_iconst (pc := 17) (v := (nI 1)) C dX3_hasRoom_17 (by decide) ?_
      refine fm_goto (pc := 18) (tgt := 22) C dX3_hasRoom_18 (by decide) ?_
      exact fm_zret (pc := 22) C hF rfl rfl dX3_hasRoom_22
theorem t_X3_hasRoom {l : Launch} {G : fm_G} {v1 : Int32} {μ : fm_I} {ν : fm_L} {r : Int32 × fm_I × fm_L} (h : m_X3_hasRoom v1 μ ν = some r) : fm_Mi l G yX3_hasRoom cX3_hasRoom 2 (some .boolean) 2 33 [.ref (G.2.2.1 6), .int v1] μ ν r := fm_Mi_of (by decide +kernel) (Nat.le_of_ble_eq_true rfl) (fun _ C => j_X3_hasRoom C rfl r h)
theorem dX3_readNumber_0 : decode cX3_readNumber 0 = .ok (.aload_n 0, 1) := by decide +kernel
theorem dX3_readNumber_1 : decode cX3_readNumber 1 = .ok (.bipush 32, 2) := by decide +kernel
theorem dX3_readNumber_3 : decode cX3_readNumber 3 = .ok (.invokevirtual 68, 3) := by decide +kernel
theorem dX3_readNumber_6 : decode cX3_readNumber 6 = .ok (.ifCond .ne 5, 3) := by decide +kernel
theorem dX3_readNumber_9 : decode cX3_readNumber 9 = .ok (.iconst 0, 1) := by decide +kernel
theorem dX3_readNumber_10 : decode cX3_readNumber 10 = .ok (.ireturn, 1) := by decide +kernel
theorem dX3_readNumber_11 : decode cX3_readNumber 11 = .ok (.aload_n 0, 1) := by decide +kernel
theorem dX3_readNumber_12 : decode cX3_readNumber 12 = .ok (.getfield 52, 3) := by decide +kernel
theorem dX3_readNumber_15 : decode cX3_readNumber 15 = .ok (.istore 4, 2) := by decide +kernel
theorem dX3_readNumber_17 : decode cX3_readNumber 17 = .ok (.iconst 0, 1) := by decide +kernel
theorem dX3_readNumber_18 : decode cX3_readNumber 18 = .ok (.istore 5, 2) := by decide +kernel
theorem dX3_readNumber_20 : decode cX3_readNumber 20 = .ok (.iconst 0, 1) := by decide +kernel
theorem dX3_readNumber_21 : decode cX3_readNumber 21 = .ok (.istore 6, 2) := by decide +kernel
theorem dX3_readNumber_23 : decode cX3_readNumber 23 = .ok (.iload 6, 2) := by decide +kernel
theorem dX3_readNumber_25 : decode cX3_readNumber 25 = .ok (.iconst 4, 1) := by decide +kernel
theorem dX3_readNumber_26 : decode cX3_readNumber 26 = .ok (.if_icmp .ge 52, 3) := by decide +kernel
theorem dX3_readNumber_29 : decode cX3_readNumber 29 = .ok (.aload_n 0, 1) := by decide +kernel
theorem dX3_readNumber_30 : decode cX3_readNumber 30 = .ok (.invokevirtual 74, 3) := by decide +kernel
theorem dX3_readNumber_33 : decode cX3_readNumber 33 = .ok (.bipush 48, 2) := by decide +kernel
theorem dX3_readNumber_35 : decode cX3_readNumber 35 = .ok (.if_icmp .lt 43, 3) := by decide +kernel
theorem dX3_readNumber_38 : decode cX3_readNumber 38 = .ok (.aload_n 0, 1) := by decide +kernel
theorem dX3_readNumber_39 : decode cX3_readNumber 39 = .ok (.invokevirtual 74, 3) := by decide +kernel
theorem dX3_readNumber_42 : decode cX3_readNumber 42 = .ok (.bipush 57, 2) := by decide +kernel
theorem dX3_readNumber_44 : decode cX3_readNumber 44 = .ok (.if_icmp .gt 34, 3) := by decide +kernel
theorem dX3_readNumber_47 : decode cX3_readNumber 47 = .ok (.iload 5, 2) := by decide +kernel
theorem dX3_readNumber_49 : decode cX3_readNumber 49 = .ok (.bipush 10, 2) := by decide +kernel
theorem dX3_readNumber_51 : decode cX3_readNumber 51 = .ok (.imul, 1) := by decide +kernel
theorem dX3_readNumber_52 : decode cX3_readNumber 52 = .ok (.aload_n 0, 1) := by decide +kernel
theorem dX3_readNumber_53 : decode cX3_readNumber 53 = .ok (.invokevirtual 74, 3) := by decide +kernel
theorem dX3_readNumber_56 : decode cX3_readNumber 56 = .ok (.iadd, 1) := by decide +kernel
theorem dX3_readNumber_57 : decode cX3_readNumber 57 = .ok (.bipush 48, 2) := by decide +kernel
theorem dX3_readNumber_59 : decode cX3_readNumber 59 = .ok (.isub, 1) := by decide +kernel
theorem dX3_readNumber_60 : decode cX3_readNumber 60 = .ok (.istore 5, 2) := by decide +kernel
theorem dX3_readNumber_62 : decode cX3_readNumber 62 = .ok (.aload_n 0, 1) := by decide +kernel
theorem dX3_readNumber_63 : decode cX3_readNumber 63 = .ok (.dup, 1) := by decide +kernel
theorem dX3_readNumber_64 : decode cX3_readNumber 64 = .ok (.getfield 52, 3) := by decide +kernel
theorem dX3_readNumber_67 : decode cX3_readNumber 67 = .ok (.iconst 1, 1) := by decide +kernel
theorem dX3_readNumber_68 : decode cX3_readNumber 68 = .ok (.iadd, 1) := by decide +kernel
theorem dX3_readNumber_69 : decode cX3_readNumber 69 = .ok (.putfield 52, 3) := by decide +kernel
theorem dX3_readNumber_72 : decode cX3_readNumber 72 = .ok (.iinc 6 1, 3) := by decide +kernel
theorem dX3_readNumber_75 : decode cX3_readNumber 75 = .ok (.goto (-52), 3) := by decide +kernel
theorem dX3_readNumber_78 : decode cX3_readNumber 78 = .ok (.aload_n 0, 1) := by decide +kernel
theorem dX3_readNumber_79 : decode cX3_readNumber 79 = .ok (.getfield 52, 3) := by decide +kernel
theorem dX3_readNumber_82 : decode cX3_readNumber 82 = .ok (.iload 4, 2) := by decide +kernel
theorem dX3_readNumber_84 : decode cX3_readNumber 84 = .ok (.if_icmp .ne 12, 3) := by decide +kernel
theorem dX3_readNumber_87 : decode cX3_readNumber 87 = .ok (.aload_n 0, 1) := by decide +kernel
theorem dX3_readNumber_88 : decode cX3_readNumber 88 = .ok (.aload_n 0, 1) := by decide +kernel
theorem dX3_readNumber_89 : decode cX3_readNumber 89 = .ok (.getfield 52, 3) := by decide +kernel
theorem dX3_readNumber_92 : decode cX3_readNumber 92 = .ok (.invokevirtual 71, 3) := by decide +kernel
theorem dX3_readNumber_95 : decode cX3_readNumber 95 = .ok (.ireturn, 1) := by decide +kernel
theorem dX3_readNumber_96 : decode cX3_readNumber 96 = .ok (.iload 5, 2) := by decide +kernel
theorem dX3_readNumber_98 : decode cX3_readNumber 98 = .ok (.iload_n 2, 1) := by decide +kernel
theorem dX3_readNumber_99 : decode cX3_readNumber 99 = .ok (.if_icmp .lt 9, 3) := by decide +kernel
theorem dX3_readNumber_102 : decode cX3_readNumber 102 = .ok (.iload 5, 2) := by decide +kernel
theorem dX3_readNumber_104 : decode cX3_readNumber 104 = .ok (.iload_n 3, 1) := by decide +kernel
theorem dX3_readNumber_105 : decode cX3_readNumber 105 = .ok (.if_icmp .le 10, 3) := by decide +kernel
theorem dX3_readNumber_108 : decode cX3_readNumber 108 = .ok (.aload_n 0, 1) := by decide +kernel
theorem dX3_readNumber_109 : decode cX3_readNumber 109 = .ok (.iload 4, 2) := by decide +kernel
theorem dX3_readNumber_111 : decode cX3_readNumber 111 = .ok (.invokevirtual 71, 3) := by decide +kernel
theorem dX3_readNumber_114 : decode cX3_readNumber 114 = .ok (.ireturn, 1) := by decide +kernel
theorem dX3_readNumber_115 : decode cX3_readNumber 115 = .ok (.aload_n 0, 1) := by decide +kernel
theorem dX3_readNumber_116 : decode cX3_readNumber 116 = .ok (.getfield 58, 3) := by decide +kernel
theorem dX3_readNumber_119 : decode cX3_readNumber 119 = .ok (.iconst 4, 1) := by decide +kernel
theorem dX3_readNumber_120 : decode cX3_readNumber 120 = .ok (.imul, 1) := by decide +kernel
theorem dX3_readNumber_121 : decode cX3_readNumber 121 = .ok (.iload_n 1, 1) := by decide +kernel
theorem dX3_readNumber_122 : decode cX3_readNumber 122 = .ok (.iadd, 1) := by decide +kernel
theorem dX3_readNumber_123 : decode cX3_readNumber 123 = .ok (.istore 6, 2) := by decide +kernel
theorem dX3_readNumber_125 : decode cX3_readNumber 125 = .ok (.iload 6, 2) := by decide +kernel
theorem dX3_readNumber_127 : decode cX3_readNumber 127 = .ok (.ifCond .lt 22, 3) := by decide +kernel
theorem dX3_readNumber_130 : decode cX3_readNumber 130 = .ok (.iload 6, 2) := by decide +kernel
theorem dX3_readNumber_132 : decode cX3_readNumber 132 = .ok (.aload_n 0, 1) := by decide +kernel
theorem dX3_readNumber_133 : decode cX3_readNumber 133 = .ok (.getfield 21, 3) := by decide +kernel
theorem dX3_readNumber_136 : decode cX3_readNumber 136 = .ok (.arraylength, 1) := by decide +kernel
theorem dX3_readNumber_137 : decode cX3_readNumber 137 = .ok (.if_icmp .ge 12, 3) := by decide +kernel
theorem dX3_readNumber_140 : decode cX3_readNumber 140 = .ok (.aload_n 0, 1) := by decide +kernel
theorem dX3_readNumber_141 : decode cX3_readNumber 141 = .ok (.getfield 21, 3) := by decide +kernel
theorem dX3_readNumber_144 : decode cX3_readNumber 144 = .ok (.iload 6, 2) := by decide +kernel
theorem dX3_readNumber_146 : decode cX3_readNumber 146 = .ok (.iload 5, 2) := by decide +kernel
theorem dX3_readNumber_148 : decode cX3_readNumber 148 = .ok (.iastore, 1) := by decide +kernel
theorem dX3_readNumber_149 : decode cX3_readNumber 149 = .ok (.iconst 1, 1) := by decide +kernel
theorem dX3_readNumber_150 : decode cX3_readNumber 150 = .ok (.ireturn, 1) := by decide +kernel
def m_X3_readNumber_23 (v1 : Int32) (v2 : Int32) (v3 : Int32) (v4 : Int32) (K : Int32 → fm_I → fm_L → Option (Int32 × fm_I × fm_L)) : Nat → Int32 → Int32 → fm_I → fm_L → Option (Int32 × fm_I × fm_L)
  | 0, _, _, _, _ => none
  | k + 1, v5, v6, μ, ν => if (nI 4) ≤ v6 then K v5 μ ν else (m_X3_letterHere  μ ν).bind (fun r30 => if r30 < (nI 48) then K v5 μ ν else (m_X3_letterHere  μ ν).bind (fun r39 => if (nI 57) < r39 then K v5 μ ν else (m_X3_letterHere  μ ν).bind (fun r53 => m_X3_readNumber_23 v1 v2 v3 v4 K k ((((((v5 * ((nI 10)))) + r53)) - ((nI 48)))) ((v6 + nI 1)) (fm_u μ 6 2 ((((μ 6 2)) + ((nI 1))))) ν)))
def m_X3_readNumber (v1 : Int32) (v2 : Int32) (v3 : Int32) (μ : fm_I) (ν : fm_L) : Option (Int32 × fm_I × fm_L) :=
  (m_X3_readLetter ((nI 32)) μ ν).bind (fun r3 => if r3.1 = 0 then some (((nI 0), r3.2.1, r3.2.2)) else m_X3_readNumber_23 v1 v2 v3 ((r3.2.1 6 2))  (fun x5_23 μ23 ν23 => if (μ23 6 2) = (r3.2.1 6 2) then (m_X3_failAt ((μ23 6 2)) μ23 ν23).bind (fun r92 => fm_g (fm_b01 r92.1) (some ((r92.1, r92.2.1, r92.2.2)))) else if x5_23 < v2 then (m_X3_failAt ((r3.2.1 6 2)) μ23 ν23).bind (fun r111 => fm_g (fm_b01 r111.1) (some ((r111.1, r111.2.1, r111.2.2)))) else if x5_23 ≤ v3 then if (((((μ23 6 1)) * ((nI 4)))) + v1) < 0 then some (((nI 1), μ23, ν23)) else if (nI (fm_n 17)) ≤ (((((μ23 6 1)) * ((nI 4)))) + v1) then some (((nI 1), μ23, ν23)) else fm_g (fm_in ((((((μ23 6 1)) * ((nI 4)))) + v1)) (fm_n 17)) (some (((nI 1), (fm_u μ23 17 ((((((μ23 6 1)) * ((nI 4)))) + v1)).toNatClampNeg x5_23), ν23))) else (m_X3_failAt ((r3.2.1 6 2)) μ23 ν23).bind (fun r111 => fm_g (fm_b01 r111.1) (some ((r111.1, r111.2.1, r111.2.2))))) 5000 ((nI 0)) ((nI 0)) r3.2.1 r3.2.2)
theorem ok_X3_readNumber : fm_okV yX3_readNumber cX3_readNumber 7 (some .boolean) 3 := ⟨m_cd_X3_readNumber, m_im_X3_readNumber, m_se_X3_X3_readNumber, m_ini_X3, by decide +kernel, by decide +kernel, by decide +kernel⟩
set_option maxHeartbeats 4000000 in
set_option maxRecDepth 100000 in
theorem j_X3_readNumber_23_ {X : fm_X} {G : fm_G} {l : Launch} {v1 : Int32} {v2 : Int32} {v3 : Int32} {v4 : Int32} (C : fm_C X G l cX3_readNumber RX3 7 (some .boolean) 4 73) {F : (Int32 × fm_I × fm_L) → State → Prop} (hF : F = fm_Qi X G)  {K : Int32 → fm_I → fm_L → Option (Int32 × fm_I × fm_L)} (hK : ∀ (v5 : Int32) (μ : fm_I) (ν : fm_L), fm_J X G 7 F (K v5 μ ν) μ ν 78 [(0, .ref (G.2.2.1 6)), (1, .int v1), (2, .int v2), (3, .int v3), (4, .int v4), (5, .int v5)] []) : ∀ (k : Nat) (v5 : Int32) (v6 : Int32) (μ : fm_I) (ν : fm_L), fm_J X G 7 F (m_X3_readNumber_23 v1 v2 v3 v4 K k v5 v6 μ ν) μ ν 23 [(0, .ref (G.2.2.1 6)), (1, .int v1), (2, .int v2), (3, .int v3), (4, .int v4), (5, .int v5), (6, .int v6)] [] := by
  intro k
  induction k with
  | zero =>
    intro v5 v6 μ ν
    exact fm_none
  | succ k ih =>
    intro v5 v6 μ ν
    rw [m_X3_readNumber_23]
    refine fm_iload (pc := 23) C dX3_readNumber_23 rfl ?_
    refine fm_iconst (pc := 25) (v := (nI 4)) C dX3_readNumber_25 (by decide) ?_
    refine fm_icmp_ge (pc := 26) (tgt := 78) C dX3_readNumber_26 (by decide) (fun c2 => ?_) (fun c2 => ?_)
    · refine fm_less (lv' := [(0, .ref (G.2.2.1 6)), (1, .int v1), (2, .int v2), (3, .int v3), (4, .int v4), (5, .int v5)]) (by repeat (first | exact trivial | refine ⟨rfl, ?_⟩)) ?_
      exact hK _ _ _
    · refine fm_aload_n (pc := 29) C dX3_readNumber_29 rfl rfl ?_
      refine fm_bind (fun r30 e30 => ?_)
      refine fm_cVi0 (pc := 30) C (t_X3_letterHere e30) ok_X3_letterHere ⟨by decide, rfl⟩ m_ml_X3_74 dX3_readNumber_30 ⟨Nat.le_of_ble_eq_true rfl, Nat.le_of_ble_eq_true rfl⟩ rfl rfl (Nat.le_of_ble_eq_true rfl) ?_
      refine fm_bipush (pc := 33) (v := (nI 48)) C dX3_readNumber_33 (by decide) ?_
      refine fm_icmp_lt (pc := 35) (tgt := 78) C dX3_readNumber_35 (by decide) (fun c3 => ?_) (fun c3 => ?_)
      · refine fm_less (lv' := [(0, .ref (G.2.2.1 6)), (1, .int v1), (2, .int v2), (3, .int v3), (4, .int v4), (5, .int v5)]) (by repeat (first | exact trivial | refine ⟨rfl, ?_⟩)) ?_
        exact hK _ _ _
      · refine fm_aload_n (pc := 38) C dX3_readNumber_38 rfl rfl ?_
        refine fm_bind (fun r39 e39 => ?_)
        refine fm_cVi0 (pc := 39) C (t_X3_letterHere e39) ok_X3_letterHere ⟨by decide, rfl⟩ m_ml_X3_74 dX3_readNumber_39 ⟨Nat.le_of_ble_eq_true rfl, Nat.le_of_ble_eq_true rfl⟩ rfl rfl (Nat.le_of_ble_eq_true rfl) ?_
        refine fm_bipush (pc := 42) (v := (nI 57)) C dX3_readNumber_42 (by decide) ?_
        refine fm_icmp_gt (pc := 44) (tgt := 78) C dX3_readNumber_44 (by decide) (fun c4 => ?_) (fun c4 => ?_)
        · refine fm_less (lv' := [(0, .ref (G.2.2.1 6)), (1, .int v1), (2, .int v2), (3, .int v3), (4, .int v4), (5, .int v5)]) (by repeat (first | exact trivial | refine ⟨rfl, ?_⟩)) ?_
          exact hK _ _ _
        · refine fm_iload (pc := 47) C dX3_readNumber_47 rfl ?_
          refine fm_bipush (pc := 49) (v := (nI 10)) C dX3_readNumber_49 (by decide) ?_
          refine fm_imul (pc := 51) C dX3_readNumber_51 ?_
          refine fm_aload_n (pc := 52) C dX3_readNumber_52 rfl rfl ?_
          refine fm_bind (fun r53 e53 => ?_)
          refine fm_cVi0 (pc := 53) C (t_X3_letterHere e53) ok_X3_letterHere ⟨by decide, rfl⟩ m_ml_X3_74 dX3_readNumber_53 ⟨Nat.le_of_ble_eq_true rfl, Nat.le_of_ble_eq_true rfl⟩ rfl rfl (Nat.le_of_ble_eq_true rfl) ?_
          refine fm_iadd (pc := 56) C dX3_readNumber_56 ?_
          refine fm_bipush (pc := 57) (v := (nI 48)) C dX3_readNumber_57 (by decide) ?_
          refine fm_isub (pc := 59) C dX3_readNumber_59 ?_
          refine fm_istore (pc := 60) C dX3_readNumber_60 (by decide) rfl ?_
          refine fm_aload_n (pc := 62) C dX3_readNumber_62 rfl rfl ?_
          refine fm_dup (pc := 63) C dX3_readNumber_63 rfl ?_
          refine g3_at (pc := 64) C (by decide) dX3_readNumber_64 m_fl_X3_52 ?_
          refine fm_iconst (pc := 67) (v := (nI 1)) C dX3_readNumber_67 (by decide) ?_
          refine fm_iadd (pc := 68) C dX3_readNumber_68 ?_
          refine p3_at (pc := 69) C (by decide) dX3_readNumber_69 m_fl_X3_52 ?_
          refine fm_iinc (pc := 72) C dX3_readNumber_72 rfl (v := (v6 + nI 1)) rfl (by decide) rfl ?_
          refine fm_goto (pc := 75) (tgt := 23) C dX3_readNumber_75 (by decide) ?_
          refine fm_less (lv' := [(0, .ref (G.2.2.1 6)), (1, .int v1), (2, .int v2), (3, .int v3), (4, .int v4), (5, .int ((((((v5 * ((nI 10)))) + r53)) - ((nI 48))))), (6, .int ((v6 + nI 1)))]) (by repeat (first | exact trivial | refine ⟨rfl, ?_⟩)) ?_
          exact ih _ _ _ _
set_option maxHeartbeats 4000000 in
set_option maxRecDepth 100000 in
theorem j_X3_readNumber {X : fm_X} {G : fm_G} {l : Launch} {v1 : Int32} {v2 : Int32} {v3 : Int32} {μ : fm_I} {ν : fm_L} (C : fm_C X G l cX3_readNumber RX3 7 (some .boolean) 4 73) {F : (Int32 × fm_I × fm_L) → State → Prop} (hF : F = fm_Qi X G) : fm_J X G 7 F (m_X3_readNumber v1 v2 v3 μ ν) μ ν 0 [(0, .ref (G.2.2.1 6)), (1, .int v1), (2, .int v2), (3, .int v3)] [] := by
  unfold m_X3_readNumber
  refine fm_aload_n (pc := 0) C dX3_readNumber_0 rfl rfl ?_
  refine fm_bipush (pc := 1) (v := (nI 32)) C dX3_readNumber_1 (by decide) ?_
  refine fm_bind (fun r3 e3 => ?_)
  refine fm_cVi (pc := 3) C (t_X3_readLetter e3) ok_X3_readLetter ⟨by decide, rfl⟩ m_ml_X3_68 dX3_readNumber_3 ⟨Nat.le_of_ble_eq_true rfl, Nat.le_of_ble_eq_true rfl⟩ rfl rfl (Nat.le_of_ble_eq_true rfl) ?_
  refine fm_if_ne (pc := 6) (tgt := 11) C dX3_readNumber_6 (by decide) (fun c1 => ?_) (fun c1 => ?_)
  · refine fm_iconst (pc := 9) (v := (nI 0)) C dX3_readNumber_9 (by decide) ?_
    exact fm_zret (pc := 10) C hF rfl rfl dX3_readNumber_10
  · refine fm_aload_n (pc := 11) C dX3_readNumber_11 rfl rfl ?_
    refine g3_at (pc := 12) C (by decide) dX3_readNumber_12 m_fl_X3_52 ?_
    refine fm_istore (pc := 15) C dX3_readNumber_15 (by decide) rfl ?_
    refine fm_iconst (pc := 17) (v := (nI 0)) C dX3_readNumber_17 (by decide) ?_
    refine fm_istore (pc := 18) C dX3_readNumber_18 (by decide) rfl ?_
    refine fm_iconst (pc := 20) (v := (nI 0)) C dX3_readNumber_20 (by decide) ?_
    refine fm_istore (pc := 21) C dX3_readNumber_21 (by decide) rfl ?_
    refine fm_less (lv' := [(0, .ref (G.2.2.1 6)), (1, .int v1), (2, .int v2), (3, .int v3), (4, .int ((r3.2.1 6 2))), (5, .int ((nI 0))), (6, .int ((nI 0)))]) (by repeat (first | exact trivial | refine ⟨rfl, ?_⟩)) ?_
    refine j_X3_readNumber_23_ C (v1 := v1) (v2 := v2) (v3 := v3) (v4 := (r3.2.1 6 2)) hF  (fun x5_23 μ23 ν23 => ?_) _ _ _ _ _
    refine fm_aload_n (pc := 78) C dX3_readNumber_78 rfl rfl ?_
    refine g3_at (pc := 79) C (by decide) dX3_readNumber_79 m_fl_X3_52 ?_
    refine fm_iload (pc := 82) C dX3_readNumber_82 rfl ?_
    refine fm_icmp_ne (pc := 84) (tgt := 96) C dX3_readNumber_84 (by decide) (fun c5 => ?_) (fun c5 => ?_)
    · refine fm_aload_n (pc := 87) C dX3_readNumber_87 rfl rfl ?_
      refine fm_aload_n (pc := 88) C dX3_readNumber_88 rfl rfl ?_
      refine g3_at (pc := 89) C (by decide) dX3_readNumber_89 m_fl_X3_52 ?_
      refine fm_bind (fun r92 e92 => ?_)
      refine fm_cVi (pc := 92) C (t_X3_failAt e92) ok_X3_failAt ⟨by decide, rfl⟩ m_ml_X3_71 dX3_readNumber_92 ⟨Nat.le_of_ble_eq_true rfl, Nat.le_of_ble_eq_true rfl⟩ rfl rfl (Nat.le_of_ble_eq_true rfl) ?_
      refine fm_guard (fun h6 => ?_)
      exact fm_zret (pc := 95) C hF rfl (fm_b01_n h6) dX3_readNumber_95
    · refine fm_iload (pc := 96) C dX3_readNumber_96 rfl ?_
      refine fm_iload_n (pc := 98) C dX3_readNumber_98 rfl rfl ?_
      refine fm_icmp_lt (pc := 99) (tgt := 108) C dX3_readNumber_99 (by decide) (fun c7 => ?_) (fun c7 => ?_)
      · refine fm_aload_n (pc := 108) C dX3_readNumber_108 rfl rfl ?_
        refine fm_iload (pc := 109) C dX3_readNumber_109 rfl ?_
        refine fm_bind (fun r111 e111 => ?_)
        refine fm_cVi (pc := 111) C (t_X3_failAt e111) ok_X3_failAt ⟨by decide, rfl⟩ m_ml_X3_71 dX3_readNumber_111 ⟨Nat.le_of_ble_eq_true rfl, Nat.le_of_ble_eq_true rfl⟩ rfl rfl (Nat.le_of_ble_eq_true rfl) ?_
        refine fm_guard (fun h8 => ?_)
        exact fm_zret (pc := 114) C hF rfl (fm_b01_n h8) dX3_readNumber_114
      · refine fm_iload (pc := 102) C dX3_readNumber_102 rfl ?_
        refine fm_iload_n (pc := 104) C dX3_readNumber_104 rfl rfl ?_
        refine fm_icmp_le (pc := 105) (tgt := 115) C dX3_readNumber_105 (by decide) (fun c9 => ?_) (fun c9 => ?_)
        · refine fm_aload_n (pc := 115) C dX3_readNumber_115 rfl rfl ?_
          refine g3_items (pc := 116) C (by decide) dX3_readNumber_116 m_fl_X3_58 ?_
          refine fm_iconst (pc := 119) (v := (nI 4)) C dX3_readNumber_119 (by decide) ?_
          refine fm_imul (pc := 120) C dX3_readNumber_120 ?_
          refine fm_iload_n (pc := 121) C dX3_readNumber_121 rfl rfl ?_
          refine fm_iadd (pc := 122) C dX3_readNumber_122 ?_
          refine fm_istore (pc := 123) C dX3_readNumber_123 (by decide) rfl ?_
          refine fm_iload (pc := 125) C dX3_readNumber_125 rfl ?_
          refine fm_if_lt (pc := 127) (tgt := 149) C dX3_readNumber_127 (by decide) (fun c10 => ?_) (fun c10 => ?_)
          · refine fm_iconst (pc := 149) (v := (nI 1)) C dX3_readNumber_149 (by decide) ?_
            exact fm_zret (pc := 150) C hF rfl rfl dX3_readNumber_150
          · refine fm_iload (pc := 130) C dX3_readNumber_130 rfl ?_
            refine fm_aload_n (pc := 132) C dX3_readNumber_132 rfl rfl ?_
            refine g3_numbers (pc := 133) C (by decide) dX3_readNumber_133 m_fl_X3_21 ?_
            refine fm_alenI (pc := 136) C (by decide) dX3_readNumber_136 ?_
            refine fm_icmp_ge (pc := 137) (tgt := 149) C dX3_readNumber_137 (by decide) (fun c11 => ?_) (fun c11 => ?_)
            · refine fm_iconst (pc := 149) (v := (nI 1)) C dX3_readNumber_149 (by decide) ?_
              exact fm_zret (pc := 150) C hF rfl rfl dX3_readNumber_150
            · refine fm_aload_n (pc := 140) C dX3_readNumber_140 rfl rfl ?_
              refine g3_numbers (pc := 141) C (by decide) dX3_readNumber_141 m_fl_X3_21 ?_
              refine fm_iload (pc := 144) C dX3_readNumber_144 rfl ?_
              refine fm_iload (pc := 146) C dX3_readNumber_146 rfl ?_
              refine fm_guard (fun h12 => ?_)
              refine fm_iast (pc := 148) C (by decide) h12 dX3_readNumber_148 ?_
              refine fm_iconst (pc := 149) (v := (nI 1)) C dX3_readNumber_149 (by decide) ?_
              exact fm_zret (pc := 150) C hF rfl rfl dX3_readNumber_150
        · refine fm_aload_n (pc := 108) C dX3_readNumber_108 rfl rfl ?_
          refine fm_iload (pc := 109) C dX3_readNumber_109 rfl ?_
          refine fm_bind (fun r111 e111 => ?_)
          refine fm_cVi (pc := 111) C (t_X3_failAt e111) ok_X3_failAt ⟨by decide, rfl⟩ m_ml_X3_71 dX3_readNumber_111 ⟨Nat.le_of_ble_eq_true rfl, Nat.le_of_ble_eq_true rfl⟩ rfl rfl (Nat.le_of_ble_eq_true rfl) ?_
          refine fm_guard (fun h13 => ?_)
          exact fm_zret (pc := 114) C hF rfl (fm_b01_n h13) dX3_readNumber_114
theorem t_X3_readNumber {l : Launch} {G : fm_G} {v1 : Int32} {v2 : Int32} {v3 : Int32} {μ : fm_I} {ν : fm_L} {r : Int32 × fm_I × fm_L} (h : m_X3_readNumber v1 v2 v3 μ ν = some r) : fm_Mi l G yX3_readNumber cX3_readNumber 7 (some .boolean) 4 73 [.ref (G.2.2.1 6), .int v1, .int v2, .int v3] μ ν r := fm_Mi_of (by decide +kernel) (Nat.le_of_ble_eq_true rfl) (fun _ C => j_X3_readNumber C rfl r h)
theorem dX3_number_0 : decode cX3_number 0 = .ok (.iload_n 1, 1) := by decide +kernel
theorem dX3_number_1 : decode cX3_number 1 = .ok (.ifCond .lt 22, 3) := by decide +kernel
theorem dX3_number_4 : decode cX3_number 4 = .ok (.iload_n 1, 1) := by decide +kernel
theorem dX3_number_5 : decode cX3_number 5 = .ok (.bipush 23, 2) := by decide +kernel
theorem dX3_number_7 : decode cX3_number 7 = .ok (.if_icmp .ge 16, 3) := by decide +kernel
theorem dX3_number_10 : decode cX3_number 10 = .ok (.iload_n 2, 1) := by decide +kernel
theorem dX3_number_11 : decode cX3_number 11 = .ok (.ifCond .lt 12, 3) := by decide +kernel
theorem dX3_number_14 : decode cX3_number 14 = .ok (.iload_n 2, 1) := by decide +kernel
theorem dX3_number_15 : decode cX3_number 15 = .ok (.iconst 4, 1) := by decide +kernel
theorem dX3_number_16 : decode cX3_number 16 = .ok (.if_icmp .ge 7, 3) := by decide +kernel
theorem dX3_number_19 : decode cX3_number 19 = .ok (.iconst 1, 1) := by decide +kernel
theorem dX3_number_20 : decode cX3_number 20 = .ok (.goto 4, 3) := by decide +kernel
theorem dX3_number_23 : decode cX3_number 23 = .ok (.iconst 0, 1) := by decide +kernel
theorem dX3_number_24 : decode cX3_number 24 = .ok (.istore_n 3, 1) := by decide +kernel
theorem dX3_number_25 : decode cX3_number 25 = .ok (.iload_n 3, 1) := by decide +kernel
theorem dX3_number_26 : decode cX3_number 26 = .ok (.ifCond .eq 16, 3) := by decide +kernel
theorem dX3_number_29 : decode cX3_number 29 = .ok (.aload_n 0, 1) := by decide +kernel
theorem dX3_number_30 : decode cX3_number 30 = .ok (.getfield 21, 3) := by decide +kernel
theorem dX3_number_33 : decode cX3_number 33 = .ok (.iload_n 1, 1) := by decide +kernel
theorem dX3_number_34 : decode cX3_number 34 = .ok (.iconst 4, 1) := by decide +kernel
theorem dX3_number_35 : decode cX3_number 35 = .ok (.imul, 1) := by decide +kernel
theorem dX3_number_36 : decode cX3_number 36 = .ok (.iload_n 2, 1) := by decide +kernel
theorem dX3_number_37 : decode cX3_number 37 = .ok (.iadd, 1) := by decide +kernel
theorem dX3_number_38 : decode cX3_number 38 = .ok (.iaload, 1) := by decide +kernel
theorem dX3_number_39 : decode cX3_number 39 = .ok (.goto 4, 3) := by decide +kernel
theorem dX3_number_42 : decode cX3_number 42 = .ok (.iconst (-1), 1) := by decide +kernel
theorem dX3_number_43 : decode cX3_number 43 = .ok (.ireturn, 1) := by decide +kernel
def m_X3_number (v1 : Int32) (v2 : Int32) (μ : fm_I) (ν : fm_L) : Option (Int32) :=
  if v1 < 0 then if (nI 0) = 0 then some ((-1 : Int32)) else fm_g (fm_in ((((v1 * ((nI 4)))) + v2)) (fm_n 17)) (some ((μ 17 ((((v1 * ((nI 4)))) + v2)).toNatClampNeg))) else if (nI 23) ≤ v1 then if (nI 0) = 0 then some ((-1 : Int32)) else fm_g (fm_in ((((v1 * ((nI 4)))) + v2)) (fm_n 17)) (some ((μ 17 ((((v1 * ((nI 4)))) + v2)).toNatClampNeg))) else if v2 < 0 then if (nI 0) = 0 then some ((-1 : Int32)) else fm_g (fm_in ((((v1 * ((nI 4)))) + v2)) (fm_n 17)) (some ((μ 17 ((((v1 * ((nI 4)))) + v2)).toNatClampNeg))) else if (nI 4) ≤ v2 then if (nI 0) = 0 then some ((-1 : Int32)) else fm_g (fm_in ((((v1 * ((nI 4)))) + v2)) (fm_n 17)) (some ((μ 17 ((((v1 * ((nI 4)))) + v2)).toNatClampNeg))) else if (nI 1) = 0 then some ((-1 : Int32)) else fm_g (fm_in ((((v1 * ((nI 4)))) + v2)) (fm_n 17)) (some ((μ 17 ((((v1 * ((nI 4)))) + v2)).toNatClampNeg)))
theorem ok_X3_number : fm_okV yX3_number cX3_number 4 (some .int) 2 := ⟨m_cd_X3_number, m_im_X3_number, m_se_X3_X3_number, m_ini_X3, by decide +kernel, by decide +kernel, by decide +kernel⟩
set_option maxHeartbeats 4000000 in
set_option maxRecDepth 100000 in
theorem j_X3_number {X : fm_X} {G : fm_G} {l : Launch} {v1 : Int32} {v2 : Int32} {μ : fm_I} {ν : fm_L} (C : fm_C X G l cX3_number RX3 4 (some .int) 1 12) {F : Int32 → State → Prop} (hF : F = fun r => fm_Qi X G (r, μ, ν)) : fm_J X G 4 F (m_X3_number v1 v2 μ ν) μ ν 0 [(0, .ref (G.2.2.1 6)), (1, .int v1), (2, .int v2)] [] := by
  unfold m_X3_number
  refine fm_iload_n (pc := 0) C dX3_number_0 rfl rfl ?_
  refine fm_if_lt (pc := 1) (tgt := 23) C dX3_number_1 (by decide) (fun c1 => ?_) (fun c1 => ?_)
  · refine fm_iconst (pc := 23) (v := (nI 0)) C dX3_number_23 (by decide) ?_
    refine fm_istore_n (pc := 24) C dX3_number_24 rfl (by decide) rfl ?_
    refine fm_iload_n (pc := 25) C dX3_number_25 rfl rfl ?_
    refine fm_if_eq (pc := 26) (tgt := 42) C dX3_number_26 (by decide) (fun c2 => ?_) (fun c2 => ?_)
    · refine fm_iconst (pc := 42) (v := (-1 : Int32)) C dX3_number_42 (by decide) ?_
      exact fm_zret0 (pc := 43) C hF rfl rfl dX3_number_43
    · refine fm_aload_n (pc := 29) C dX3_number_29 rfl rfl ?_
      refine g3_numbers (pc := 30) C (by decide) dX3_number_30 m_fl_X3_21 ?_
      refine fm_iload_n (pc := 33) C dX3_number_33 rfl rfl ?_
      refine fm_iconst (pc := 34) (v := (nI 4)) C dX3_number_34 (by decide) ?_
      refine fm_imul (pc := 35) C dX3_number_35 ?_
      refine fm_iload_n (pc := 36) C dX3_number_36 rfl rfl ?_
      refine fm_iadd (pc := 37) C dX3_number_37 ?_
      refine fm_guard (fun h3 => ?_)
      refine fm_iald (pc := 38) C (by decide) h3 dX3_number_38 ?_
      refine fm_goto (pc := 39) (tgt := 43) C dX3_number_39 (by decide) ?_
      exact fm_zret0 (pc := 43) C hF rfl rfl dX3_number_43
  · refine fm_iload_n (pc := 4) C dX3_number_4 rfl rfl ?_
    refine fm_bipush (pc := 5) (v := (nI 23)) C dX3_number_5 (by decide) ?_
    refine fm_icmp_ge (pc := 7) (tgt := 23) C dX3_number_7 (by decide) (fun c4 => ?_) (fun c4 => ?_)
    · refine fm_iconst (pc := 23) (v := (nI 0)) C dX3_number_23 (by decide) ?_
      refine fm_istore_n (pc := 24) C dX3_number_24 rfl (by decide) rfl ?_
      refine fm_iload_n (pc := 25) C dX3_number_25 rfl rfl ?_
      refine fm_if_eq (pc := 26) (tgt := 42) C dX3_number_26 (by decide) (fun c5 => ?_) (fun c5 => ?_)
      · refine fm_iconst (pc := 42) (v := (-1 : Int32)) C dX3_number_42 (by decide) ?_
        exact fm_zret0 (pc := 43) C hF rfl rfl dX3_number_43
      · refine fm_aload_n (pc := 29) C dX3_number_29 rfl rfl ?_
        refine g3_numbers (pc := 30) C (by decide) dX3_number_30 m_fl_X3_21 ?_
        refine fm_iload_n (pc := 33) C dX3_number_33 rfl rfl ?_
        refine fm_iconst (pc := 34) (v := (nI 4)) C dX3_number_34 (by decide) ?_
        refine fm_imul (pc := 35) C dX3_number_35 ?_
        refine fm_iload_n (pc := 36) C dX3_number_36 rfl rfl ?_
        refine fm_iadd (pc := 37) C dX3_number_37 ?_
        refine fm_guard (fun h6 => ?_)
        refine fm_iald (pc := 38) C (by decide) h6 dX3_number_38 ?_
        refine fm_goto (pc := 39) (tgt := 43) C dX3_number_39 (by decide) ?_
        exact fm_zret0 (pc := 43) C hF rfl rfl dX3_number_43
    · refine fm_iload_n (pc := 10) C dX3_number_10 rfl rfl ?_
      refine fm_if_lt (pc := 11) (tgt := 23) C dX3_number_11 (by decide) (fun c7 => ?_) (fun c7 => ?_)
      · refine fm_iconst (pc := 23) (v := (nI 0)) C dX3_number_23 (by decide) ?_
        refine fm_istore_n (pc := 24) C dX3_number_24 rfl (by decide) rfl ?_
        refine fm_iload_n (pc := 25) C dX3_number_25 rfl rfl ?_
        refine fm_if_eq (pc := 26) (tgt := 42) C dX3_number_26 (by decide) (fun c8 => ?_) (fun c8 => ?_)
        · refine fm_iconst (pc := 42) (v := (-1 : Int32)) C dX3_number_42 (by decide) ?_
          exact fm_zret0 (pc := 43) C hF rfl rfl dX3_number_43
        · refine fm_aload_n (pc := 29) C dX3_number_29 rfl rfl ?_
          refine g3_numbers (pc := 30) C (by decide) dX3_number_30 m_fl_X3_21 ?_
          refine fm_iload_n (pc := 33) C dX3_number_33 rfl rfl ?_
          refine fm_iconst (pc := 34) (v := (nI 4)) C dX3_number_34 (by decide) ?_
          refine fm_imul (pc := 35) C dX3_number_35 ?_
          refine fm_iload_n (pc := 36) C dX3_number_36 rfl rfl ?_
          refine fm_iadd (pc := 37) C dX3_number_37 ?_
          refine fm_guard (fun h9 => ?_)
          refine fm_iald (pc := 38) C (by decide) h9 dX3_number_38 ?_
          refine fm_goto (pc := 39) (tgt := 43) C dX3_number_39 (by decide) ?_
          exact fm_zret0 (pc := 43) C hF rfl rfl dX3_number_43
      · refine fm_iload_n (pc := 14) C dX3_number_14 rfl rfl ?_
        refine fm_iconst (pc := 15) (v := (nI 4)) C dX3_number_15 (by decide) ?_
        refine fm_icmp_ge (pc := 16) (tgt := 23) C dX3_number_16 (by decide) (fun c10 => ?_) (fun c10 => ?_)
        · refine fm_iconst (pc := 23) (v := (nI 0)) C dX3_number_23 (by decide) ?_
          refine fm_istore_n (pc := 24) C dX3_number_24 rfl (by decide) rfl ?_
          refine fm_iload_n (pc := 25) C dX3_number_25 rfl rfl ?_
          refine fm_if_eq (pc := 26) (tgt := 42) C dX3_number_26 (by decide) (fun c11 => ?_) (fun c11 => ?_)
          · refine fm_iconst (pc := 42) (v := (-1 : Int32)) C dX3_number_42 (by decide) ?_
            exact fm_zret0 (pc := 43) C hF rfl rfl dX3_number_43
          · refine fm_aload_n (pc := 29) C dX3_number_29 rfl rfl ?_
            refine g3_numbers (pc := 30) C (by decide) dX3_number_30 m_fl_X3_21 ?_
            refine fm_iload_n (pc := 33) C dX3_number_33 rfl rfl ?_
            refine fm_iconst (pc := 34) (v := (nI 4)) C dX3_number_34 (by decide) ?_
            refine fm_imul (pc := 35) C dX3_number_35 ?_
            refine fm_iload_n (pc := 36) C dX3_number_36 rfl rfl ?_
            refine fm_iadd (pc := 37) C dX3_number_37 ?_
            refine fm_guard (fun h12 => ?_)
            refine fm_iald (pc := 38) C (by decide) h12 dX3_number_38 ?_
            refine fm_goto (pc := 39) (tgt := 43) C dX3_number_39 (by decide) ?_
            exact fm_zret0 (pc := 43) C hF rfl rfl dX3_number_43
        · refine fm_iconst (pc := 19) (v := (nI 1)) C dX3_number_19 (by decide) ?_
          refine fm_goto (pc := 20) (tgt := 24) C dX3_number_20 (by decide) ?_
          refine fm_istore_n (pc := 24) C dX3_number_24 rfl (by decide) rfl ?_
          refine fm_iload_n (pc := 25) C dX3_number_25 rfl rfl ?_
          refine fm_if_eq (pc := 26) (tgt := 42) C dX3_number_26 (by decide) (fun c13 => ?_) (fun c13 => ?_)
          · refine fm_iconst (pc := 42) (v := (-1 : Int32)) C dX3_number_42 (by decide) ?_
            exact fm_zret0 (pc := 43) C hF rfl rfl dX3_number_43
          · refine fm_aload_n (pc := 29) C dX3_number_29 rfl rfl ?_
            refine g3_numbers (pc := 30) C (by decide) dX3_number_30 m_fl_X3_21 ?_
            refine fm_iload_n (pc := 33) C dX3_number_33 rfl rfl ?_
            refine fm_iconst (pc := 34) (v := (nI 4)) C dX3_number_34 (by decide) ?_
            refine fm_imul (pc := 35) C dX3_number_35 ?_
            refine fm_iload_n (pc := 36) C dX3_number_36 rfl rfl ?_
            refine fm_iadd (pc := 37) C dX3_number_37 ?_
            refine fm_guard (fun h14 => ?_)
            refine fm_iald (pc := 38) C (by decide) h14 dX3_number_38 ?_
            refine fm_goto (pc := 39) (tgt := 43) C dX3_number_39 (by decide) ?_
            exact fm_zret0 (pc := 43) C hF rfl rfl dX3_number_43
theorem t_X3_number {l : Launch} {G : fm_G} {v1 : Int32} {v2 : Int32} {μ : fm_I} {ν : fm_L} {r : Int32} (h : m_X3_number v1 v2 μ ν = some r) : fm_Mi l G yX3_number cX3_number 4 (some .int) 1 12 [.ref (G.2.2.1 6), .int v1, .int v2] μ ν (r, μ, ν) := fm_Mi_of (by decide +kernel) (Nat.le_of_ble_eq_true rfl) (fun _ C => j_X3_number C rfl r h)
theorem dX3_readNewBand_0 : decode cX3_readNewBand 0 = .ok (.aload_n 0, 1) := by decide +kernel
theorem dX3_readNewBand_1 : decode cX3_readNewBand 1 = .ok (.iconst 0, 1) := by decide +kernel
theorem dX3_readNewBand_2 : decode cX3_readNewBand 2 = .ok (.iconst 0, 1) := by decide +kernel
theorem dX3_readNewBand_3 : decode cX3_readNewBand 3 = .ok (.bipush 6, 2) := by decide +kernel
theorem dX3_readNewBand_5 : decode cX3_readNewBand 5 = .ok (.invokevirtual 102, 3) := by decide +kernel
theorem dX3_readNewBand_8 : decode cX3_readNewBand 8 = .ok (.ifCond .eq 57, 3) := by decide +kernel
theorem dX3_readNewBand_11 : decode cX3_readNewBand 11 = .ok (.aload_n 0, 1) := by decide +kernel
theorem dX3_readNewBand_12 : decode cX3_readNewBand 12 = .ok (.iconst 1, 1) := by decide +kernel
theorem dX3_readNewBand_13 : decode cX3_readNewBand 13 = .ok (.iconst 0, 1) := by decide +kernel
theorem dX3_readNewBand_14 : decode cX3_readNewBand 14 = .ok (.sipush 9999, 3) := by decide +kernel
theorem dX3_readNewBand_17 : decode cX3_readNewBand 17 = .ok (.invokevirtual 102, 3) := by decide +kernel
theorem dX3_readNewBand_20 : decode cX3_readNewBand 20 = .ok (.ifCond .eq 45, 3) := by decide +kernel
theorem dX3_readNewBand_23 : decode cX3_readNewBand 23 = .ok (.aload_n 0, 1) := by decide +kernel
theorem dX3_readNewBand_24 : decode cX3_readNewBand 24 = .ok (.iconst 2, 1) := by decide +kernel
theorem dX3_readNewBand_25 : decode cX3_readNewBand 25 = .ok (.iconst 1, 1) := by decide +kernel
theorem dX3_readNewBand_26 : decode cX3_readNewBand 26 = .ok (.bipush 12, 2) := by decide +kernel
theorem dX3_readNewBand_28 : decode cX3_readNewBand 28 = .ok (.invokevirtual 102, 3) := by decide +kernel
theorem dX3_readNewBand_31 : decode cX3_readNewBand 31 = .ok (.ifCond .eq 34, 3) := by decide +kernel
theorem dX3_readNewBand_34 : decode cX3_readNewBand 34 = .ok (.aload_n 0, 1) := by decide +kernel
theorem dX3_readNewBand_35 : decode cX3_readNewBand 35 = .ok (.iconst 3, 1) := by decide +kernel
theorem dX3_readNewBand_36 : decode cX3_readNewBand 36 = .ok (.iconst 0, 1) := by decide +kernel
theorem dX3_readNewBand_37 : decode cX3_readNewBand 37 = .ok (.bipush 9, 2) := by decide +kernel
theorem dX3_readNewBand_39 : decode cX3_readNewBand 39 = .ok (.invokevirtual 102, 3) := by decide +kernel
theorem dX3_readNewBand_42 : decode cX3_readNewBand 42 = .ok (.ifCond .eq 23, 3) := by decide +kernel
theorem dX3_readNewBand_45 : decode cX3_readNewBand 45 = .ok (.aload_n 0, 1) := by decide +kernel
theorem dX3_readNewBand_46 : decode cX3_readNewBand 46 = .ok (.aload_n 0, 1) := by decide +kernel
theorem dX3_readNewBand_47 : decode cX3_readNewBand 47 = .ok (.aload_n 0, 1) := by decide +kernel
theorem dX3_readNewBand_48 : decode cX3_readNewBand 48 = .ok (.getfield 58, 3) := by decide +kernel
theorem dX3_readNewBand_51 : decode cX3_readNewBand 51 = .ok (.iconst 2, 1) := by decide +kernel
theorem dX3_readNewBand_52 : decode cX3_readNewBand 52 = .ok (.invokevirtual 108, 3) := by decide +kernel
theorem dX3_readNewBand_55 : decode cX3_readNewBand 55 = .ok (.invokevirtual 48, 3) := by decide +kernel
theorem dX3_readNewBand_58 : decode cX3_readNewBand 58 = .ok (.ifCond .eq 7, 3) := by decide +kernel
theorem dX3_readNewBand_61 : decode cX3_readNewBand 61 = .ok (.iconst 1, 1) := by decide +kernel
theorem dX3_readNewBand_62 : decode cX3_readNewBand 62 = .ok (.goto 4, 3) := by decide +kernel
theorem dX3_readNewBand_65 : decode cX3_readNewBand 65 = .ok (.iconst 0, 1) := by decide +kernel
theorem dX3_readNewBand_66 : decode cX3_readNewBand 66 = .ok (.ireturn, 1) := by decide +kernel
def m_X3_readNewBand  (μ : fm_I) (ν : fm_L) : Option (Int32 × fm_I × fm_L) :=
  (m_X3_readNumber ((nI 0)) ((nI 0)) ((nI 6)) μ ν).bind (fun r5 => if r5.1 = 0 then some (((nI 0), r5.2.1, r5.2.2)) else (m_X3_readNumber ((nI 1)) ((nI 0)) ((nI 9999)) r5.2.1 r5.2.2).bind (fun r17 => if r17.1 = 0 then some (((nI 0), r17.2.1, r17.2.2)) else (m_X3_readNumber ((nI 2)) ((nI 1)) ((nI 12)) r17.2.1 r17.2.2).bind (fun r28 => if r28.1 = 0 then some (((nI 0), r28.2.1, r28.2.2)) else (m_X3_readNumber ((nI 3)) ((nI 0)) ((nI 9)) r28.2.1 r28.2.2).bind (fun r39 => if r39.1 = 0 then some (((nI 0), r39.2.1, r39.2.2)) else (m_X3_number ((r39.2.1 6 1)) ((nI 2)) r39.2.1 r39.2.2).bind (fun r52 => (m_X3_noteBand r52 r39.2.1 r39.2.2).bind (fun r55 => if r55.1 = 0 then some (((nI 0), r55.2.1, r55.2.2)) else some (((nI 1), r55.2.1, r55.2.2))))))))
theorem ok_X3_readNewBand : fm_okV yX3_readNewBand cX3_readNewBand 1 (some .boolean) 0 := ⟨m_cd_X3_readNewBand, m_im_X3_readNewBand, m_se_X3_X3_readNewBand, m_ini_X3, by decide +kernel, by decide +kernel, by decide +kernel⟩
set_option maxHeartbeats 4000000 in
set_option maxRecDepth 100000 in
theorem j_X3_readNewBand {X : fm_X} {G : fm_G} {l : Launch}  {μ : fm_I} {ν : fm_L} (C : fm_C X G l cX3_readNewBand RX3 1 (some .boolean) 5 99) {F : (Int32 × fm_I × fm_L) → State → Prop} (hF : F = fm_Qi X G) : fm_J X G 1 F (m_X3_readNewBand  μ ν) μ ν 0 [(0, .ref (G.2.2.1 6))] [] := by
  unfold m_X3_readNewBand
  refine fm_aload_n (pc := 0) C dX3_readNewBand_0 rfl rfl ?_
  refine fm_iconst (pc := 1) (v := (nI 0)) C dX3_readNewBand_1 (by decide) ?_
  refine fm_iconst (pc := 2) (v := (nI 0)) C dX3_readNewBand_2 (by decide) ?_
  refine fm_bipush (pc := 3) (v := (nI 6)) C dX3_readNewBand_3 (by decide) ?_
  refine fm_bind (fun r5 e5 => ?_)
  refine fm_cVi (pc := 5) C (t_X3_readNumber e5) ok_X3_readNumber ⟨by decide, rfl⟩ m_ml_X3_102 dX3_readNewBand_5 ⟨Nat.le_of_ble_eq_true rfl, Nat.le_of_ble_eq_true rfl⟩ rfl rfl (Nat.le_of_ble_eq_true rfl) ?_
  refine fm_if_eq (pc := 8) (tgt := 65) C dX3_readNewBand_8 (by decide) (fun c1 => ?_) (fun c1 => ?_)
  · refine fm_iconst (pc := 65) (v := (nI 0)) C dX3_readNewBand_65 (by decide) ?_
    exact fm_zret (pc := 66) C hF rfl rfl dX3_readNewBand_66
  · refine fm_aload_n (pc := 11) C dX3_readNewBand_11 rfl rfl ?_
    refine fm_iconst (pc := 12) (v := (nI 1)) C dX3_readNewBand_12 (by decide) ?_
    refine fm_iconst (pc := 13) (v := (nI 0)) C dX3_readNewBand_13 (by decide) ?_
    refine fm_sipush (pc := 14) (v := (nI 9999)) C dX3_readNewBand_14 (by decide) ?_
    refine fm_bind (fun r17 e17 => ?_)
    refine fm_cVi (pc := 17) C (t_X3_readNumber e17) ok_X3_readNumber ⟨by decide, rfl⟩ m_ml_X3_102 dX3_readNewBand_17 ⟨Nat.le_of_ble_eq_true rfl, Nat.le_of_ble_eq_true rfl⟩ rfl rfl (Nat.le_of_ble_eq_true rfl) ?_
    refine fm_if_eq (pc := 20) (tgt := 65) C dX3_readNewBand_20 (by decide) (fun c2 => ?_) (fun c2 => ?_)
    · refine fm_iconst (pc := 65) (v := (nI 0)) C dX3_readNewBand_65 (by decide) ?_
      exact fm_zret (pc := 66) C hF rfl rfl dX3_readNewBand_66
    · refine fm_aload_n (pc := 23) C dX3_readNewBand_23 rfl rfl ?_
      refine fm_iconst (pc := 24) (v := (nI 2)) C dX3_readNewBand_24 (by decide) ?_
      refine fm_iconst (pc := 25) (v := (nI 1)) C dX3_readNewBand_25 (by decide) ?_
      refine fm_bipush (pc := 26) (v := (nI 12)) C dX3_readNewBand_26 (by decide) ?_
      refine fm_bind (fun r28 e28 => ?_)
      refine fm_cVi (pc := 28) C (t_X3_readNumber e28) ok_X3_readNumber ⟨by decide, rfl⟩ m_ml_X3_102 dX3_readNewBand_28 ⟨Nat.le_of_ble_eq_true rfl, Nat.le_of_ble_eq_true rfl⟩ rfl rfl (Nat.le_of_ble_eq_true rfl) ?_
      refine fm_if_eq (pc := 31) (tgt := 65) C dX3_readNewBand_31 (by decide) (fun c3 => ?_) (fun c3 => ?_)
      · refine fm_iconst (pc := 65) (v := (nI 0)) C dX3_readNewBand_65 (by decide) ?_
        exact fm_zret (pc := 66) C hF rfl rfl dX3_readNewBand_66
      · refine fm_aload_n (pc := 34) C dX3_readNewBand_34 rfl rfl ?_
        refine fm_iconst (pc := 35) (v := (nI 3)) C dX3_readNewBand_35 (by decide) ?_
        refine fm_iconst (pc := 36) (v := (nI 0)) C dX3_readNewBand_36 (by decide) ?_
        refine fm_bipush (pc := 37) (v := (nI 9)) C dX3_readNewBand_37 (by decide) ?_
        refine fm_bind (fun r39 e39 => ?_)
        refine fm_cVi (pc := 39) C (t_X3_readNumber e39) ok_X3_readNumber ⟨by decide, rfl⟩ m_ml_X3_102 dX3_readNewBand_39 ⟨Nat.le_of_ble_eq_true rfl, Nat.le_of_ble_eq_true rfl⟩ rfl rfl (Nat.le_of_ble_eq_true rfl) ?_
        refine fm_if_eq (pc := 42) (tgt := 65) C dX3_readNewBand_42 (by decide) (fun c4 => ?_) (fun c4 => ?_)
        · refine fm_iconst (pc := 65) (v := (nI 0)) C dX3_readNewBand_65 (by decide) ?_
          exact fm_zret (pc := 66) C hF rfl rfl dX3_readNewBand_66
        · refine fm_aload_n (pc := 45) C dX3_readNewBand_45 rfl rfl ?_
          refine fm_aload_n (pc := 46) C dX3_readNewBand_46 rfl rfl ?_
          refine fm_aload_n (pc := 47) C dX3_readNewBand_47 rfl rfl ?_
          refine g3_items (pc := 48) C (by decide) dX3_readNewBand_48 m_fl_X3_58 ?_
          refine fm_iconst (pc := 51) (v := (nI 2)) C dX3_readNewBand_51 (by decide) ?_
          refine fm_bind (fun r52 e52 => ?_)
          refine fm_cVi0 (pc := 52) C (t_X3_number e52) ok_X3_number ⟨by decide, rfl⟩ m_ml_X3_108 dX3_readNewBand_52 ⟨Nat.le_of_ble_eq_true rfl, Nat.le_of_ble_eq_true rfl⟩ rfl rfl (Nat.le_of_ble_eq_true rfl) ?_
          refine fm_bind (fun r55 e55 => ?_)
          refine fm_cVi (pc := 55) C (t_X3_noteBand e55) ok_X3_noteBand ⟨by decide, rfl⟩ m_ml_X3_48 dX3_readNewBand_55 ⟨Nat.le_of_ble_eq_true rfl, Nat.le_of_ble_eq_true rfl⟩ rfl rfl (Nat.le_of_ble_eq_true rfl) ?_
          refine fm_if_eq (pc := 58) (tgt := 65) C dX3_readNewBand_58 (by decide) (fun c5 => ?_) (fun c5 => ?_)
          · refine fm_iconst (pc := 65) (v := (nI 0)) C dX3_readNewBand_65 (by decide) ?_
            exact fm_zret (pc := 66) C hF rfl rfl dX3_readNewBand_66
          · refine fm_iconst (pc := 61) (v := (nI 1)) C dX3_readNewBand_61 (by decide) ?_
            refine fm_goto (pc := 62) (tgt := 66) C dX3_readNewBand_62 (by decide) ?_
            exact fm_zret (pc := 66) C hF rfl rfl dX3_readNewBand_66
theorem t_X3_readNewBand {l : Launch} {G : fm_G}  {μ : fm_I} {ν : fm_L} {r : Int32 × fm_I × fm_L} (h : m_X3_readNewBand  μ ν = some r) : fm_Mi l G yX3_readNewBand cX3_readNewBand 1 (some .boolean) 5 99 [.ref (G.2.2.1 6)] μ ν r := fm_Mi_of (by decide +kernel) (Nat.le_of_ble_eq_true rfl) (fun _ C => j_X3_readNewBand C rfl r h)
theorem dX3_readBandNumber_0 : decode cX3_readBandNumber 0 = .ok (.aload_n 0, 1) := by decide +kernel
theorem dX3_readBandNumber_1 : decode cX3_readBandNumber 1 = .ok (.iconst 0, 1) := by decide +kernel
theorem dX3_readBandNumber_2 : decode cX3_readBandNumber 2 = .ok (.iconst 0, 1) := by decide +kernel
theorem dX3_readBandNumber_3 : decode cX3_readBandNumber 3 = .ok (.aload_n 0, 1) := by decide +kernel
theorem dX3_readBandNumber_4 : decode cX3_readBandNumber 4 = .ok (.getfield 41, 3) := by decide +kernel
theorem dX3_readBandNumber_7 : decode cX3_readBandNumber 7 = .ok (.iconst 1, 1) := by decide +kernel
theorem dX3_readBandNumber_8 : decode cX3_readBandNumber 8 = .ok (.isub, 1) := by decide +kernel
theorem dX3_readBandNumber_9 : decode cX3_readBandNumber 9 = .ok (.invokevirtual 102, 3) := by decide +kernel
theorem dX3_readBandNumber_12 : decode cX3_readBandNumber 12 = .ok (.ireturn, 1) := by decide +kernel
def m_X3_readBandNumber  (μ : fm_I) (ν : fm_L) : Option (Int32 × fm_I × fm_L) :=
  (m_X3_readNumber ((nI 0)) ((nI 0)) ((((μ 6 4)) - ((nI 1)))) μ ν).bind (fun r9 => fm_g (fm_b01 r9.1) (some ((r9.1, r9.2.1, r9.2.2))))
theorem ok_X3_readBandNumber : fm_okV yX3_readBandNumber cX3_readBandNumber 1 (some .boolean) 0 := ⟨m_cd_X3_readBandNumber, m_im_X3_readBandNumber, m_se_X3_X3_readBandNumber, m_ini_X3, by decide +kernel, by decide +kernel, by decide +kernel⟩
set_option maxHeartbeats 4000000 in
set_option maxRecDepth 100000 in
theorem j_X3_readBandNumber {X : fm_X} {G : fm_G} {l : Launch}  {μ : fm_I} {ν : fm_L} (C : fm_C X G l cX3_readBandNumber RX3 1 (some .boolean) 5 99) {F : (Int32 × fm_I × fm_L) → State → Prop} (hF : F = fm_Qi X G) : fm_J X G 1 F (m_X3_readBandNumber  μ ν) μ ν 0 [(0, .ref (G.2.2.1 6))] [] := by
  unfold m_X3_readBandNumber
  refine fm_aload_n (pc := 0) C dX3_readBandNumber_0 rfl rfl ?_
  refine fm_iconst (pc := 1) (v := (nI 0)) C dX3_readBandNumber_1 (by decide) ?_
  refine fm_iconst (pc := 2) (v := (nI 0)) C dX3_readBandNumber_2 (by decide) ?_
  refine fm_aload_n (pc := 3) C dX3_readBandNumber_3 rfl rfl ?_
  refine g3_bandCount (pc := 4) C (by decide) dX3_readBandNumber_4 m_fl_X3_41 ?_
  refine fm_iconst (pc := 7) (v := (nI 1)) C dX3_readBandNumber_7 (by decide) ?_
  refine fm_isub (pc := 8) C dX3_readBandNumber_8 ?_
  refine fm_bind (fun r9 e9 => ?_)
  refine fm_cVi (pc := 9) C (t_X3_readNumber e9) ok_X3_readNumber ⟨by decide, rfl⟩ m_ml_X3_102 dX3_readBandNumber_9 ⟨Nat.le_of_ble_eq_true rfl, Nat.le_of_ble_eq_true rfl⟩ rfl rfl (Nat.le_of_ble_eq_true rfl) ?_
  refine fm_guard (fun h1 => ?_)
  exact fm_zret (pc := 12) C hF rfl (fm_b01_n h1) dX3_readBandNumber_12
theorem t_X3_readBandNumber {l : Launch} {G : fm_G}  {μ : fm_I} {ν : fm_L} {r : Int32 × fm_I × fm_L} (h : m_X3_readBandNumber  μ ν = some r) : fm_Mi l G yX3_readBandNumber cX3_readBandNumber 1 (some .boolean) 5 99 [.ref (G.2.2.1 6)] μ ν r := fm_Mi_of (by decide +kernel) (Nat.le_of_ble_eq_true rfl) (fun _ C => j_X3_readBandNumber C rfl r h)
theorem dX3_stripsOfTold_0 : decode cX3_stripsOfTold 0 = .ok (.aload_n 0, 1) := by decide +kernel
theorem dX3_stripsOfTold_1 : decode cX3_stripsOfTold 1 = .ok (.aload_n 0, 1) := by decide +kernel
theorem dX3_stripsOfTold_2 : decode cX3_stripsOfTold 2 = .ok (.getfield 58, 3) := by decide +kernel
theorem dX3_stripsOfTold_5 : decode cX3_stripsOfTold 5 = .ok (.iconst 0, 1) := by decide +kernel
theorem dX3_stripsOfTold_6 : decode cX3_stripsOfTold 6 = .ok (.invokevirtual 108, 3) := by decide +kernel
theorem dX3_stripsOfTold_9 : decode cX3_stripsOfTold 9 = .ok (.istore_n 1, 1) := by decide +kernel
theorem dX3_stripsOfTold_10 : decode cX3_stripsOfTold 10 = .ok (.iload_n 1, 1) := by decide +kernel
theorem dX3_stripsOfTold_11 : decode cX3_stripsOfTold 11 = .ok (.ifCond .lt 26, 3) := by decide +kernel
theorem dX3_stripsOfTold_14 : decode cX3_stripsOfTold 14 = .ok (.iload_n 1, 1) := by decide +kernel
theorem dX3_stripsOfTold_15 : decode cX3_stripsOfTold 15 = .ok (.aload_n 0, 1) := by decide +kernel
theorem dX3_stripsOfTold_16 : decode cX3_stripsOfTold 16 = .ok (.getfield 41, 3) := by decide +kernel
theorem dX3_stripsOfTold_19 : decode cX3_stripsOfTold 19 = .ok (.if_icmp .ge 18, 3) := by decide +kernel
theorem dX3_stripsOfTold_22 : decode cX3_stripsOfTold 22 = .ok (.iload_n 1, 1) := by decide +kernel
theorem dX3_stripsOfTold_23 : decode cX3_stripsOfTold 23 = .ok (.bipush 6, 2) := by decide +kernel
theorem dX3_stripsOfTold_25 : decode cX3_stripsOfTold 25 = .ok (.if_icmp .ge 12, 3) := by decide +kernel
theorem dX3_stripsOfTold_28 : decode cX3_stripsOfTold 28 = .ok (.aload_n 0, 1) := by decide +kernel
theorem dX3_stripsOfTold_29 : decode cX3_stripsOfTold 29 = .ok (.getfield 15, 3) := by decide +kernel
theorem dX3_stripsOfTold_32 : decode cX3_stripsOfTold 32 = .ok (.iload_n 1, 1) := by decide +kernel
theorem dX3_stripsOfTold_33 : decode cX3_stripsOfTold 33 = .ok (.iaload, 1) := by decide +kernel
theorem dX3_stripsOfTold_34 : decode cX3_stripsOfTold 34 = .ok (.goto 4, 3) := by decide +kernel
theorem dX3_stripsOfTold_37 : decode cX3_stripsOfTold 37 = .ok (.iconst 0, 1) := by decide +kernel
theorem dX3_stripsOfTold_38 : decode cX3_stripsOfTold 38 = .ok (.ireturn, 1) := by decide +kernel
def m_X3_stripsOfTold  (μ : fm_I) (ν : fm_L) : Option (Int32) :=
  (m_X3_number ((μ 6 1)) ((nI 0)) μ ν).bind (fun r6 => if r6 < 0 then some ((nI 0)) else if (μ 6 4) ≤ r6 then some ((nI 0)) else if (nI 6) ≤ r6 then some ((nI 0)) else fm_g (fm_in r6 (fm_n 15)) (some ((μ 15 r6.toNatClampNeg))))
theorem ok_X3_stripsOfTold : fm_okV yX3_stripsOfTold cX3_stripsOfTold 2 (some .int) 0 := ⟨m_cd_X3_stripsOfTold, m_im_X3_stripsOfTold, m_se_X3_X3_stripsOfTold, m_ini_X3, by decide +kernel, by decide +kernel, by decide +kernel⟩
set_option maxHeartbeats 4000000 in
set_option maxRecDepth 100000 in
theorem j_X3_stripsOfTold {X : fm_X} {G : fm_G} {l : Launch}  {μ : fm_I} {ν : fm_L} (C : fm_C X G l cX3_stripsOfTold RX3 2 (some .int) 2 35) {F : Int32 → State → Prop} (hF : F = fun r => fm_Qi X G (r, μ, ν)) : fm_J X G 2 F (m_X3_stripsOfTold  μ ν) μ ν 0 [(0, .ref (G.2.2.1 6))] [] := by
  unfold m_X3_stripsOfTold
  refine fm_aload_n (pc := 0) C dX3_stripsOfTold_0 rfl rfl ?_
  refine fm_aload_n (pc := 1) C dX3_stripsOfTold_1 rfl rfl ?_
  refine g3_items (pc := 2) C (by decide) dX3_stripsOfTold_2 m_fl_X3_58 ?_
  refine fm_iconst (pc := 5) (v := (nI 0)) C dX3_stripsOfTold_5 (by decide) ?_
  refine fm_bind (fun r6 e6 => ?_)
  refine fm_cVi0 (pc := 6) C (t_X3_number e6) ok_X3_number ⟨by decide, rfl⟩ m_ml_X3_108 dX3_stripsOfTold_6 ⟨Nat.le_of_ble_eq_true rfl, Nat.le_of_ble_eq_true rfl⟩ rfl rfl (Nat.le_of_ble_eq_true rfl) ?_
  refine fm_istore_n (pc := 9) C dX3_stripsOfTold_9 rfl (by decide) rfl ?_
  refine fm_iload_n (pc := 10) C dX3_stripsOfTold_10 rfl rfl ?_
  refine fm_if_lt (pc := 11) (tgt := 37) C dX3_stripsOfTold_11 (by decide) (fun c1 => ?_) (fun c1 => ?_)
  · refine fm_iconst (pc := 37) (v := (nI 0)) C dX3_stripsOfTold_37 (by decide) ?_
    exact fm_zret0 (pc := 38) C hF rfl rfl dX3_stripsOfTold_38
  · refine fm_iload_n (pc := 14) C dX3_stripsOfTold_14 rfl rfl ?_
    refine fm_aload_n (pc := 15) C dX3_stripsOfTold_15 rfl rfl ?_
    refine g3_bandCount (pc := 16) C (by decide) dX3_stripsOfTold_16 m_fl_X3_41 ?_
    refine fm_icmp_ge (pc := 19) (tgt := 37) C dX3_stripsOfTold_19 (by decide) (fun c2 => ?_) (fun c2 => ?_)
    · refine fm_iconst (pc := 37) (v := (nI 0)) C dX3_stripsOfTold_37 (by decide) ?_
      exact fm_zret0 (pc := 38) C hF rfl rfl dX3_stripsOfTold_38
    · refine fm_iload_n (pc := 22) C dX3_stripsOfTold_22 rfl rfl ?_
      refine fm_bipush (pc := 23) (v := (nI 6)) C dX3_stripsOfTold_23 (by decide) ?_
      refine fm_icmp_ge (pc := 25) (tgt := 37) C dX3_stripsOfTold_25 (by decide) (fun c3 => ?_) (fun c3 => ?_)
      · refine fm_iconst (pc := 37) (v := (nI 0)) C dX3_stripsOfTold_37 (by decide) ?_
        exact fm_zret0 (pc := 38) C hF rfl rfl dX3_stripsOfTold_38
      · refine fm_aload_n (pc := 28) C dX3_stripsOfTold_28 rfl rfl ?_
        refine g3_strips (pc := 29) C (by decide) dX3_stripsOfTold_29 m_fl_X3_15 ?_
        refine fm_iload_n (pc := 32) C dX3_stripsOfTold_32 rfl rfl ?_
        refine fm_guard (fun h4 => ?_)
        refine fm_iald (pc := 33) C (by decide) h4 dX3_stripsOfTold_33 ?_
        refine fm_goto (pc := 34) (tgt := 38) C dX3_stripsOfTold_34 (by decide) ?_
        exact fm_zret0 (pc := 38) C hF rfl rfl dX3_stripsOfTold_38
theorem t_X3_stripsOfTold {l : Launch} {G : fm_G}  {μ : fm_I} {ν : fm_L} {r : Int32} (h : m_X3_stripsOfTold  μ ν = some r) : fm_Mi l G yX3_stripsOfTold cX3_stripsOfTold 2 (some .int) 2 35 [.ref (G.2.2.1 6)] μ ν (r, μ, ν) := fm_Mi_of (by decide +kernel) (Nat.le_of_ble_eq_true rfl) (fun _ C => j_X3_stripsOfTold C rfl r h)
theorem dX3_readItem_0 : decode cX3_readItem 0 = .ok (.aload_n 0, 1) := by decide +kernel
theorem dX3_readItem_1 : decode cX3_readItem 1 = .ok (.getfield 58, 3) := by decide +kernel
theorem dX3_readItem_4 : decode cX3_readItem 4 = .ok (.ifCond .lt 12, 3) := by decide +kernel
theorem dX3_readItem_7 : decode cX3_readItem 7 = .ok (.aload_n 0, 1) := by decide +kernel
theorem dX3_readItem_8 : decode cX3_readItem 8 = .ok (.getfield 58, 3) := by decide +kernel
theorem dX3_readItem_11 : decode cX3_readItem 11 = .ok (.bipush 23, 2) := by decide +kernel
theorem dX3_readItem_13 : decode cX3_readItem 13 = .ok (.if_icmp .lt 12, 3) := by decide +kernel
theorem dX3_readItem_16 : decode cX3_readItem 16 = .ok (.aload_n 0, 1) := by decide +kernel
theorem dX3_readItem_17 : decode cX3_readItem 17 = .ok (.aload_n 0, 1) := by decide +kernel
theorem dX3_readItem_18 : decode cX3_readItem 18 = .ok (.getfield 52, 3) := by decide +kernel
theorem dX3_readItem_21 : decode cX3_readItem 21 = .ok (.invokevirtual 71, 3) := by decide +kernel
theorem dX3_readItem_24 : decode cX3_readItem 24 = .ok (.ireturn, 1) := by decide +kernel
theorem dX3_readItem_25 : decode cX3_readItem 25 = .ok (.aload_n 0, 1) := by decide +kernel
theorem dX3_readItem_26 : decode cX3_readItem 26 = .ok (.getfield 52, 3) := by decide +kernel
theorem dX3_readItem_29 : decode cX3_readItem 29 = .ok (.istore_n 1, 1) := by decide +kernel
theorem dX3_readItem_30 : decode cX3_readItem 30 = .ok (.aload_n 0, 1) := by decide +kernel
theorem dX3_readItem_31 : decode cX3_readItem 31 = .ok (.getfield 18, 3) := by decide +kernel
theorem dX3_readItem_34 : decode cX3_readItem 34 = .ok (.aload_n 0, 1) := by decide +kernel
theorem dX3_readItem_35 : decode cX3_readItem 35 = .ok (.getfield 58, 3) := by decide +kernel
theorem dX3_readItem_38 : decode cX3_readItem 38 = .ok (.aload_n 0, 1) := by decide +kernel
theorem dX3_readItem_39 : decode cX3_readItem 39 = .ok (.invokevirtual 74, 3) := by decide +kernel
theorem dX3_readItem_42 : decode cX3_readItem 42 = .ok (.iastore, 1) := by decide +kernel
theorem dX3_readItem_43 : decode cX3_readItem 43 = .ok (.aload_n 0, 1) := by decide +kernel
theorem dX3_readItem_44 : decode cX3_readItem 44 = .ok (.getfield 18, 3) := by decide +kernel
theorem dX3_readItem_47 : decode cX3_readItem 47 = .ok (.aload_n 0, 1) := by decide +kernel
theorem dX3_readItem_48 : decode cX3_readItem 48 = .ok (.getfield 58, 3) := by decide +kernel
theorem dX3_readItem_51 : decode cX3_readItem 51 = .ok (.iaload, 1) := by decide +kernel
theorem dX3_readItem_52 : decode cX3_readItem 52 = .ok (.lookupswitch 208 #[(98, 52), (108, 104), (112, 126), (114, 82), (116, 174)], 52) := by decide +kernel
theorem dX3_readItem_104 : decode cX3_readItem 104 = .ok (.aload_n 0, 1) := by decide +kernel
theorem dX3_readItem_105 : decode cX3_readItem 105 = .ok (.ldc 78, 2) := by decide +kernel
theorem dX3_readItem_107 : decode cX3_readItem 107 = .ok (.invokevirtual 80, 3) := by decide +kernel
theorem dX3_readItem_110 : decode cX3_readItem 110 = .ok (.ifCond .eq 22, 3) := by decide +kernel
theorem dX3_readItem_113 : decode cX3_readItem 113 = .ok (.aload_n 0, 1) := by decide +kernel
theorem dX3_readItem_114 : decode cX3_readItem 114 = .ok (.iload_n 1, 1) := by decide +kernel
theorem dX3_readItem_115 : decode cX3_readItem 115 = .ok (.invokevirtual 84, 3) := by decide +kernel
theorem dX3_readItem_118 : decode cX3_readItem 118 = .ok (.ifCond .eq 14, 3) := by decide +kernel
theorem dX3_readItem_121 : decode cX3_readItem 121 = .ok (.aload_n 0, 1) := by decide +kernel
theorem dX3_readItem_122 : decode cX3_readItem 122 = .ok (.invokevirtual 87, 3) := by decide +kernel
theorem dX3_readItem_125 : decode cX3_readItem 125 = .ok (.ifCond .eq 7, 3) := by decide +kernel
theorem dX3_readItem_128 : decode cX3_readItem 128 = .ok (.iconst 1, 1) := by decide +kernel
theorem dX3_readItem_129 : decode cX3_readItem 129 = .ok (.goto 4, 3) := by decide +kernel
theorem dX3_readItem_132 : decode cX3_readItem 132 = .ok (.iconst 0, 1) := by decide +kernel
theorem dX3_readItem_133 : decode cX3_readItem 133 = .ok (.ireturn, 1) := by decide +kernel
theorem dX3_readItem_134 : decode cX3_readItem 134 = .ok (.aload_n 0, 1) := by decide +kernel
theorem dX3_readItem_135 : decode cX3_readItem 135 = .ok (.ldc 90, 2) := by decide +kernel
theorem dX3_readItem_137 : decode cX3_readItem 137 = .ok (.invokevirtual 80, 3) := by decide +kernel
theorem dX3_readItem_140 : decode cX3_readItem 140 = .ok (.ifCond .eq 14, 3) := by decide +kernel
theorem dX3_readItem_143 : decode cX3_readItem 143 = .ok (.aload_n 0, 1) := by decide +kernel
theorem dX3_readItem_144 : decode cX3_readItem 144 = .ok (.invokevirtual 92, 3) := by decide +kernel
theorem dX3_readItem_147 : decode cX3_readItem 147 = .ok (.ifCond .eq 7, 3) := by decide +kernel
theorem dX3_readItem_150 : decode cX3_readItem 150 = .ok (.iconst 1, 1) := by decide +kernel
theorem dX3_readItem_151 : decode cX3_readItem 151 = .ok (.goto 4, 3) := by decide +kernel
theorem dX3_readItem_154 : decode cX3_readItem 154 = .ok (.iconst 0, 1) := by decide +kernel
theorem dX3_readItem_155 : decode cX3_readItem 155 = .ok (.ireturn, 1) := by decide +kernel
theorem dX3_readItem_156 : decode cX3_readItem 156 = .ok (.aload_n 0, 1) := by decide +kernel
theorem dX3_readItem_157 : decode cX3_readItem 157 = .ok (.ldc 95, 2) := by decide +kernel
theorem dX3_readItem_159 : decode cX3_readItem 159 = .ok (.invokevirtual 80, 3) := by decide +kernel
theorem dX3_readItem_162 : decode cX3_readItem 162 = .ok (.ifCond .eq 14, 3) := by decide +kernel
theorem dX3_readItem_165 : decode cX3_readItem 165 = .ok (.aload_n 0, 1) := by decide +kernel
theorem dX3_readItem_166 : decode cX3_readItem 166 = .ok (.invokevirtual 92, 3) := by decide +kernel
theorem dX3_readItem_169 : decode cX3_readItem 169 = .ok (.ifCond .eq 7, 3) := by decide +kernel
theorem dX3_readItem_172 : decode cX3_readItem 172 = .ok (.iconst 1, 1) := by decide +kernel
theorem dX3_readItem_173 : decode cX3_readItem 173 = .ok (.goto 4, 3) := by decide +kernel
theorem dX3_readItem_176 : decode cX3_readItem 176 = .ok (.iconst 0, 1) := by decide +kernel
theorem dX3_readItem_177 : decode cX3_readItem 177 = .ok (.ireturn, 1) := by decide +kernel
theorem dX3_readItem_178 : decode cX3_readItem 178 = .ok (.aload_n 0, 1) := by decide +kernel
theorem dX3_readItem_179 : decode cX3_readItem 179 = .ok (.ldc 97, 2) := by decide +kernel
theorem dX3_readItem_181 : decode cX3_readItem 181 = .ok (.invokevirtual 80, 3) := by decide +kernel
theorem dX3_readItem_184 : decode cX3_readItem 184 = .ok (.ifCond .eq 40, 3) := by decide +kernel
theorem dX3_readItem_187 : decode cX3_readItem 187 = .ok (.aload_n 0, 1) := by decide +kernel
theorem dX3_readItem_188 : decode cX3_readItem 188 = .ok (.invokevirtual 92, 3) := by decide +kernel
theorem dX3_readItem_191 : decode cX3_readItem 191 = .ok (.ifCond .eq 33, 3) := by decide +kernel
theorem dX3_readItem_194 : decode cX3_readItem 194 = .ok (.aload_n 0, 1) := by decide +kernel
theorem dX3_readItem_195 : decode cX3_readItem 195 = .ok (.iconst 1, 1) := by decide +kernel
theorem dX3_readItem_196 : decode cX3_readItem 196 = .ok (.iconst 0, 1) := by decide +kernel
theorem dX3_readItem_197 : decode cX3_readItem 197 = .ok (.aload_n 0, 1) := by decide +kernel
theorem dX3_readItem_198 : decode cX3_readItem 198 = .ok (.invokevirtual 99, 3) := by decide +kernel
theorem dX3_readItem_201 : decode cX3_readItem 201 = .ok (.iconst 1, 1) := by decide +kernel
theorem dX3_readItem_202 : decode cX3_readItem 202 = .ok (.isub, 1) := by decide +kernel
theorem dX3_readItem_203 : decode cX3_readItem 203 = .ok (.invokevirtual 102, 3) := by decide +kernel
theorem dX3_readItem_206 : decode cX3_readItem 206 = .ok (.ifCond .eq 18, 3) := by decide +kernel
theorem dX3_readItem_209 : decode cX3_readItem 209 = .ok (.aload_n 0, 1) := by decide +kernel
theorem dX3_readItem_210 : decode cX3_readItem 210 = .ok (.iconst 2, 1) := by decide +kernel
theorem dX3_readItem_211 : decode cX3_readItem 211 = .ok (.iconst 0, 1) := by decide +kernel
theorem dX3_readItem_212 : decode cX3_readItem 212 = .ok (.bipush 7, 2) := by decide +kernel
theorem dX3_readItem_214 : decode cX3_readItem 214 = .ok (.invokevirtual 102, 3) := by decide +kernel
theorem dX3_readItem_217 : decode cX3_readItem 217 = .ok (.ifCond .eq 7, 3) := by decide +kernel
theorem dX3_readItem_220 : decode cX3_readItem 220 = .ok (.iconst 1, 1) := by decide +kernel
theorem dX3_readItem_221 : decode cX3_readItem 221 = .ok (.goto 4, 3) := by decide +kernel
theorem dX3_readItem_224 : decode cX3_readItem 224 = .ok (.iconst 0, 1) := by decide +kernel
theorem dX3_readItem_225 : decode cX3_readItem 225 = .ok (.ireturn, 1) := by decide +kernel
theorem dX3_readItem_226 : decode cX3_readItem 226 = .ok (.aload_n 0, 1) := by decide +kernel
theorem dX3_readItem_227 : decode cX3_readItem 227 = .ok (.ldc 106, 2) := by decide +kernel
theorem dX3_readItem_229 : decode cX3_readItem 229 = .ok (.invokevirtual 80, 3) := by decide +kernel
theorem dX3_readItem_232 : decode cX3_readItem 232 = .ok (.ifCond .eq 26, 3) := by decide +kernel
theorem dX3_readItem_235 : decode cX3_readItem 235 = .ok (.aload_n 0, 1) := by decide +kernel
theorem dX3_readItem_236 : decode cX3_readItem 236 = .ok (.invokevirtual 92, 3) := by decide +kernel
theorem dX3_readItem_239 : decode cX3_readItem 239 = .ok (.ifCond .eq 19, 3) := by decide +kernel
theorem dX3_readItem_242 : decode cX3_readItem 242 = .ok (.aload_n 0, 1) := by decide +kernel
theorem dX3_readItem_243 : decode cX3_readItem 243 = .ok (.iconst 1, 1) := by decide +kernel
theorem dX3_readItem_244 : decode cX3_readItem 244 = .ok (.iconst 0, 1) := by decide +kernel
theorem dX3_readItem_245 : decode cX3_readItem 245 = .ok (.sipush 9999, 3) := by decide +kernel
theorem dX3_readItem_248 : decode cX3_readItem 248 = .ok (.invokevirtual 102, 3) := by decide +kernel
theorem dX3_readItem_251 : decode cX3_readItem 251 = .ok (.ifCond .eq 7, 3) := by decide +kernel
theorem dX3_readItem_254 : decode cX3_readItem 254 = .ok (.iconst 1, 1) := by decide +kernel
theorem dX3_readItem_255 : decode cX3_readItem 255 = .ok (.goto 4, 3) := by decide +kernel
theorem dX3_readItem_258 : decode cX3_readItem 258 = .ok (.iconst 0, 1) := by decide +kernel
theorem dX3_readItem_259 : decode cX3_readItem 259 = .ok (.ireturn, 1) := by decide +kernel
theorem dX3_readItem_260 : decode cX3_readItem 260 = .ok (.aload_n 0, 1) := by decide +kernel
theorem dX3_readItem_261 : decode cX3_readItem 261 = .ok (.iload_n 1, 1) := by decide +kernel
theorem dX3_readItem_262 : decode cX3_readItem 262 = .ok (.invokevirtual 71, 3) := by decide +kernel
theorem dX3_readItem_265 : decode cX3_readItem 265 = .ok (.ireturn, 1) := by decide +kernel
def m_X3_readItem  (μ : fm_I) (ν : fm_L) : Option (Int32 × fm_I × fm_L) :=
  if (μ 6 1) < 0 then (m_X3_failAt ((μ 6 2)) μ ν).bind (fun r21 => fm_g (fm_b01 r21.1) (some ((r21.1, r21.2.1, r21.2.2)))) else if (μ 6 1) < (nI 23) then (m_X3_letterHere  μ ν).bind (fun r39 => fm_g (fm_in ((μ 6 1)) (fm_n 16)) (fm_g (fm_in ((((fm_u μ 16 ((μ 6 1)).toNatClampNeg r39)) 6 1)) (fm_n 16)) (if ((fm_u μ 16 ((μ 6 1)).toNatClampNeg r39) 16 ((((fm_u μ 16 ((μ 6 1)).toNatClampNeg r39)) 6 1)).toNatClampNeg) = (nI 98) then (m_X3_readWord 0 (fm_u μ 16 ((μ 6 1)).toNatClampNeg r39) ν).bind (fun r107 => if r107.1 = 0 then some (((nI 0), r107.2.1, r107.2.2)) else (m_X3_hasRoom ((μ 6 2)) r107.2.1 r107.2.2).bind (fun r115 => if r115.1 = 0 then some (((nI 0), r115.2.1, r115.2.2)) else (m_X3_readNewBand  r115.2.1 r115.2.2).bind (fun r122 => if r122.1 = 0 then some (((nI 0), r122.2.1, r122.2.2)) else some (((nI 1), r122.2.1, r122.2.2))))) else if ((fm_u μ 16 ((μ 6 1)).toNatClampNeg r39) 16 ((((fm_u μ 16 ((μ 6 1)).toNatClampNeg r39)) 6 1)).toNatClampNeg) = (nI 108) then (m_X3_readWord 2 (fm_u μ 16 ((μ 6 1)).toNatClampNeg r39) ν).bind (fun r159 => if r159.1 = 0 then some (((nI 0), r159.2.1, r159.2.2)) else (m_X3_readBandNumber  r159.2.1 r159.2.2).bind (fun r166 => if r166.1 = 0 then some (((nI 0), r166.2.1, r166.2.2)) else some (((nI 1), r166.2.1, r166.2.2)))) else if ((fm_u μ 16 ((μ 6 1)).toNatClampNeg r39) 16 ((((fm_u μ 16 ((μ 6 1)).toNatClampNeg r39)) 6 1)).toNatClampNeg) = (nI 112) then (m_X3_readWord 3 (fm_u μ 16 ((μ 6 1)).toNatClampNeg r39) ν).bind (fun r181 => if r181.1 = 0 then some (((nI 0), r181.2.1, r181.2.2)) else (m_X3_readBandNumber  r181.2.1 r181.2.2).bind (fun r188 => if r188.1 = 0 then some (((nI 0), r188.2.1, r188.2.2)) else (m_X3_stripsOfTold  r188.2.1 r188.2.2).bind (fun r198 => (m_X3_readNumber ((nI 1)) ((nI 0)) ((r198 - ((nI 1)))) r188.2.1 r188.2.2).bind (fun r203 => if r203.1 = 0 then some (((nI 0), r203.2.1, r203.2.2)) else (m_X3_readNumber ((nI 2)) ((nI 0)) ((nI 7)) r203.2.1 r203.2.2).bind (fun r214 => if r214.1 = 0 then some (((nI 0), r214.2.1, r214.2.2)) else some (((nI 1), r214.2.1, r214.2.2))))))) else if ((fm_u μ 16 ((μ 6 1)).toNatClampNeg r39) 16 ((((fm_u μ 16 ((μ 6 1)).toNatClampNeg r39)) 6 1)).toNatClampNeg) = (nI 114) then (m_X3_readWord 1 (fm_u μ 16 ((μ 6 1)).toNatClampNeg r39) ν).bind (fun r137 => if r137.1 = 0 then some (((nI 0), r137.2.1, r137.2.2)) else (m_X3_readBandNumber  r137.2.1 r137.2.2).bind (fun r144 => if r144.1 = 0 then some (((nI 0), r144.2.1, r144.2.2)) else some (((nI 1), r144.2.1, r144.2.2)))) else if ((fm_u μ 16 ((μ 6 1)).toNatClampNeg r39) 16 ((((fm_u μ 16 ((μ 6 1)).toNatClampNeg r39)) 6 1)).toNatClampNeg) = (nI 116) then (m_X3_readWord 4 (fm_u μ 16 ((μ 6 1)).toNatClampNeg r39) ν).bind (fun r229 => if r229.1 = 0 then some (((nI 0), r229.2.1, r229.2.2)) else (m_X3_readBandNumber  r229.2.1 r229.2.2).bind (fun r236 => if r236.1 = 0 then some (((nI 0), r236.2.1, r236.2.2)) else (m_X3_readNumber ((nI 1)) ((nI 0)) ((nI 9999)) r236.2.1 r236.2.2).bind (fun r248 => if r248.1 = 0 then some (((nI 0), r248.2.1, r248.2.2)) else some (((nI 1), r248.2.1, r248.2.2))))) else (m_X3_failAt ((μ 6 2)) (fm_u μ 16 ((μ 6 1)).toNatClampNeg r39) ν).bind (fun r262 => fm_g (fm_b01 r262.1) (some ((r262.1, r262.2.1, r262.2.2))))))) else (m_X3_failAt ((μ 6 2)) μ ν).bind (fun r21 => fm_g (fm_b01 r21.1) (some ((r21.1, r21.2.1, r21.2.2))))
theorem ok_X3_readItem : fm_okV yX3_readItem cX3_readItem 2 (some .boolean) 0 := ⟨m_cd_X3_readItem, m_im_X3_readItem, m_se_X3_X3_readItem, m_ini_X3, by decide +kernel, by decide +kernel, by decide +kernel⟩
set_option maxHeartbeats 4000000 in
set_option maxRecDepth 100000 in
theorem j_X3_readItem {X : fm_X} {G : fm_G} {l : Launch}  {μ : fm_I} {ν : fm_L} (C : fm_C X G l cX3_readItem RX3 2 (some .boolean) 10 283) {F : (Int32 × fm_I × fm_L) → State → Prop} (hF : F = fm_Qi X G) : fm_J X G 2 F (m_X3_readItem  μ ν) μ ν 0 [(0, .ref (G.2.2.1 6))] [] := by
  unfold m_X3_readItem
  refine fm_aload_n (pc := 0) C dX3_readItem_0 rfl rfl ?_
  refine g3_items (pc := 1) C (by decide) dX3_readItem_1 m_fl_X3_58 ?_
  refine fm_if_lt (pc := 4) (tgt := 16) C dX3_readItem_4 (by decide) (fun c1 => ?_) (fun c1 => ?_)
  · refine fm_aload_n (pc := 16) C dX3_readItem_16 rfl rfl ?_
    refine fm_aload_n (pc := 17) C dX3_readItem_17 rfl rfl ?_
    refine g3_at (pc := 18) C (by decide) dX3_readItem_18 m_fl_X3_52 ?_
    refine fm_bind (fun r21 e21 => ?_)
    refine fm_cVi (pc := 21) C (t_X3_failAt e21) ok_X3_failAt ⟨by decide, rfl⟩ m_ml_X3_71 dX3_readItem_21 ⟨Nat.le_of_ble_eq_true rfl, Nat.le_of_ble_eq_true rfl⟩ rfl rfl (Nat.le_of_ble_eq_true rfl) ?_
    refine fm_guard (fun h2 => ?_)
    exact fm_zret (pc := 24) C hF rfl (fm_b01_n h2) dX3_readItem_24
  · refine fm_aload_n (pc := 7) C dX3_readItem_7 rfl rfl ?_
    refine g3_items (pc := 8) C (by decide) dX3_readItem_8 m_fl_X3_58 ?_
    refine fm_bipush (pc := 11) (v := (nI 23)) C dX3_readItem_11 (by decide) ?_
    refine fm_icmp_lt (pc := 13) (tgt := 25) C dX3_readItem_13 (by decide) (fun c3 => ?_) (fun c3 => ?_)
    · refine fm_aload_n (pc := 25) C dX3_readItem_25 rfl rfl ?_
      refine g3_at (pc := 26) C (by decide) dX3_readItem_26 m_fl_X3_52 ?_
      refine fm_istore_n (pc := 29) C dX3_readItem_29 rfl (by decide) rfl ?_
      refine fm_aload_n (pc := 30) C dX3_readItem_30 rfl rfl ?_
      refine g3_words (pc := 31) C (by decide) dX3_readItem_31 m_fl_X3_18 ?_
      refine fm_aload_n (pc := 34) C dX3_readItem_34 rfl rfl ?_
      refine g3_items (pc := 35) C (by decide) dX3_readItem_35 m_fl_X3_58 ?_
      refine fm_aload_n (pc := 38) C dX3_readItem_38 rfl rfl ?_
      refine fm_bind (fun r39 e39 => ?_)
      refine fm_cVi0 (pc := 39) C (t_X3_letterHere e39) ok_X3_letterHere ⟨by decide, rfl⟩ m_ml_X3_74 dX3_readItem_39 ⟨Nat.le_of_ble_eq_true rfl, Nat.le_of_ble_eq_true rfl⟩ rfl rfl (Nat.le_of_ble_eq_true rfl) ?_
      refine fm_guard (fun h4 => ?_)
      refine fm_iast (pc := 42) C (by decide) h4 dX3_readItem_42 ?_
      refine fm_aload_n (pc := 43) C dX3_readItem_43 rfl rfl ?_
      refine g3_words (pc := 44) C (by decide) dX3_readItem_44 m_fl_X3_18 ?_
      refine fm_aload_n (pc := 47) C dX3_readItem_47 rfl rfl ?_
      refine g3_items (pc := 48) C (by decide) dX3_readItem_48 m_fl_X3_58 ?_
      refine fm_guard (fun h5 => ?_)
      refine fm_iald (pc := 51) C (by decide) h5 dX3_readItem_51 ?_
      refine fm_ite (fun s6 => ?_) (fun s6 => ?_)
      · refine fm_look (pc := 52) (tgt := 104) (off := 52) C dX3_readItem_52 (by decide) (by rw [s6]; decide) (by decide) ?_
        refine fm_aload_n (pc := 104) C dX3_readItem_104 rfl rfl ?_
        refine fm_ldcS (pc := 105) C (i := 0) (by decide) dX3_readItem_105 ?_
        refine fm_bind (fun r107 e107 => ?_)
        refine fm_cVi (pc := 107) C (t_X3_readWord e107) ok_X3_readWord ⟨by decide, rfl⟩ m_ml_X3_80 dX3_readItem_107 ⟨Nat.le_of_ble_eq_true rfl, Nat.le_of_ble_eq_true rfl⟩ rfl rfl (Nat.le_of_ble_eq_true rfl) ?_
        refine fm_if_eq (pc := 110) (tgt := 132) C dX3_readItem_110 (by decide) (fun c7 => ?_) (fun c7 => ?_)
        · refine fm_iconst (pc := 132) (v := (nI 0)) C dX3_readItem_132 (by decide) ?_
          exact fm_zret (pc := 133) C hF rfl rfl dX3_readItem_133
        · refine fm_aload_n (pc := 113) C dX3_readItem_113 rfl rfl ?_
          refine fm_iload_n (pc := 114) C dX3_readItem_114 rfl rfl ?_
          refine fm_bind (fun r115 e115 => ?_)
          refine fm_cVi (pc := 115) C (t_X3_hasRoom e115) ok_X3_hasRoom ⟨by decide, rfl⟩ m_ml_X3_84 dX3_readItem_115 ⟨Nat.le_of_ble_eq_true rfl, Nat.le_of_ble_eq_true rfl⟩ rfl rfl (Nat.le_of_ble_eq_true rfl) ?_
          refine fm_if_eq (pc := 118) (tgt := 132) C dX3_readItem_118 (by decide) (fun c8 => ?_) (fun c8 => ?_)
          · refine fm_iconst (pc := 132) (v := (nI 0)) C dX3_readItem_132 (by decide) ?_
            exact fm_zret (pc := 133) C hF rfl rfl dX3_readItem_133
          · refine fm_aload_n (pc := 121) C dX3_readItem_121 rfl rfl ?_
            refine fm_bind (fun r122 e122 => ?_)
            refine fm_cVi (pc := 122) C (t_X3_readNewBand e122) ok_X3_readNewBand ⟨by decide, rfl⟩ m_ml_X3_87 dX3_readItem_122 ⟨Nat.le_of_ble_eq_true rfl, Nat.le_of_ble_eq_true rfl⟩ rfl rfl (Nat.le_of_ble_eq_true rfl) ?_
            refine fm_if_eq (pc := 125) (tgt := 132) C dX3_readItem_125 (by decide) (fun c9 => ?_) (fun c9 => ?_)
            · refine fm_iconst (pc := 132) (v := (nI 0)) C dX3_readItem_132 (by decide) ?_
              exact fm_zret (pc := 133) C hF rfl rfl dX3_readItem_133
            · refine fm_iconst (pc := 128) (v := (nI 1)) C dX3_readItem_128 (by decide) ?_
              refine fm_goto (pc := 129) (tgt := 133) C dX3_readItem_129 (by decide) ?_
              exact fm_zret (pc := 133) C hF rfl rfl dX3_readItem_133
      · refine fm_ite (fun s10 => ?_) (fun s10 => ?_)
        · refine fm_look (pc := 52) (tgt := 156) (off := 104) C dX3_readItem_52 (by decide) (by rw [s10]; decide) (by decide) ?_
          refine fm_aload_n (pc := 156) C dX3_readItem_156 rfl rfl ?_
          refine fm_ldcS (pc := 157) C (i := 2) (by decide) dX3_readItem_157 ?_
          refine fm_bind (fun r159 e159 => ?_)
          refine fm_cVi (pc := 159) C (t_X3_readWord e159) ok_X3_readWord ⟨by decide, rfl⟩ m_ml_X3_80 dX3_readItem_159 ⟨Nat.le_of_ble_eq_true rfl, Nat.le_of_ble_eq_true rfl⟩ rfl rfl (Nat.le_of_ble_eq_true rfl) ?_
          refine fm_if_eq (pc := 162) (tgt := 176) C dX3_readItem_162 (by decide) (fun c11 => ?_) (fun c11 => ?_)
          · refine fm_iconst (pc := 176) (v := (nI 0)) C dX3_readItem_176 (by decide) ?_
            exact fm_zret (pc := 177) C hF rfl rfl dX3_readItem_177
          · refine fm_aload_n (pc := 165) C dX3_readItem_165 rfl rfl ?_
            refine fm_bind (fun r166 e166 => ?_)
            refine fm_cVi (pc := 166) C (t_X3_readBandNumber e166) ok_X3_readBandNumber ⟨by decide, rfl⟩ m_ml_X3_92 dX3_readItem_166 ⟨Nat.le_of_ble_eq_true rfl, Nat.le_of_ble_eq_true rfl⟩ rfl rfl (Nat.le_of_ble_eq_true rfl) ?_
            refine fm_if_eq (pc := 169) (tgt := 176) C dX3_readItem_169 (by decide) (fun c12 => ?_) (fun c12 => ?_)
            · refine fm_iconst (pc := 176) (v := (nI 0)) C dX3_readItem_176 (by decide) ?_
              exact fm_zret (pc := 177) C hF rfl rfl dX3_readItem_177
            · refine fm_iconst (pc := 172) (v := (nI 1)) C dX3_readItem_172 (by decide) ?_
              refine fm_goto (pc := 173) (tgt := 177) C dX3_readItem_173 (by decide) ?_
              exact fm_zret (pc := 177) C hF rfl rfl dX3_readItem_177
        · refine fm_ite (fun s13 => ?_) (fun s13 => ?_)
          · refine fm_look (pc := 52) (tgt := 178) (off := 126) C dX3_readItem_52 (by decide) (by rw [s13]; decide) (by decide) ?_
            refine fm_aload_n (pc := 178) C dX3_readItem_178 rfl rfl ?_
            refine fm_ldcS (pc := 179) C (i := 3) (by decide) dX3_readItem_179 ?_
            refine fm_bind (fun r181 e181 => ?_)
            refine fm_cVi (pc := 181) C (t_X3_readWord e181) ok_X3_readWord ⟨by decide, rfl⟩ m_ml_X3_80 dX3_readItem_181 ⟨Nat.le_of_ble_eq_true rfl, Nat.le_of_ble_eq_true rfl⟩ rfl rfl (Nat.le_of_ble_eq_true rfl) ?_
            refine fm_if_eq (pc := 184) (tgt := 224) C dX3_readItem_184 (by decide) (fun c14 => ?_) (fun c14 => ?_)
            · refine fm_iconst (pc := 224) (v := (nI 0)) C dX3_readItem_224 (by decide) ?_
              exact fm_zret (pc := 225) C hF rfl rfl dX3_readItem_225
            · refine fm_aload_n (pc := 187) C dX3_readItem_187 rfl rfl ?_
              refine fm_bind (fun r188 e188 => ?_)
              refine fm_cVi (pc := 188) C (t_X3_readBandNumber e188) ok_X3_readBandNumber ⟨by decide, rfl⟩ m_ml_X3_92 dX3_readItem_188 ⟨Nat.le_of_ble_eq_true rfl, Nat.le_of_ble_eq_true rfl⟩ rfl rfl (Nat.le_of_ble_eq_true rfl) ?_
              refine fm_if_eq (pc := 191) (tgt := 224) C dX3_readItem_191 (by decide) (fun c15 => ?_) (fun c15 => ?_)
              · refine fm_iconst (pc := 224) (v := (nI 0)) C dX3_readItem_224 (by decide) ?_
                exact fm_zret (pc := 225) C hF rfl rfl dX3_readItem_225
              · refine fm_aload_n (pc := 194) C dX3_readItem_194 rfl rfl ?_
                refine fm_iconst (pc := 195) (v := (nI 1)) C dX3_readItem_195 (by decide) ?_
                refine fm_iconst (pc := 196) (v := (nI 0)) C dX3_readItem_196 (by decide) ?_
                refine fm_aload_n (pc := 197) C dX3_readItem_197 rfl rfl ?_
                refine fm_bind (fun r198 e198 => ?_)
                refine fm_cVi0 (pc := 198) C (t_X3_stripsOfTold e198) ok_X3_stripsOfTold ⟨by decide, rfl⟩ m_ml_X3_99 dX3_readItem_198 ⟨Nat.le_of_ble_eq_true rfl, Nat.le_of_ble_eq_true rfl⟩ rfl rfl (Nat.le_of_ble_eq_true rfl) ?_
                refine fm_iconst (pc := 201) (v := (nI 1)) C dX3_readItem_201 (by decide) ?_
                refine fm_isub (pc := 202) C dX3_readItem_202 ?_
                refine fm_bind (fun r203 e203 => ?_)
                refine fm_cVi (pc := 203) C (t_X3_readNumber e203) ok_X3_readNumber ⟨by decide, rfl⟩ m_ml_X3_102 dX3_readItem_203 ⟨Nat.le_of_ble_eq_true rfl, Nat.le_of_ble_eq_true rfl⟩ rfl rfl (Nat.le_of_ble_eq_true rfl) ?_
                refine fm_if_eq (pc := 206) (tgt := 224) C dX3_readItem_206 (by decide) (fun c16 => ?_) (fun c16 => ?_)
                · refine fm_iconst (pc := 224) (v := (nI 0)) C dX3_readItem_224 (by decide) ?_
                  exact fm_zret (pc := 225) C hF rfl rfl dX3_readItem_225
                · refine fm_aload_n (pc := 209) C dX3_readItem_209 rfl rfl ?_
                  refine fm_iconst (pc := 210) (v := (nI 2)) C dX3_readItem_210 (by decide) ?_
                  refine fm_iconst (pc := 211) (v := (nI 0)) C dX3_readItem_211 (by decide) ?_
                  refine fm_bipush (pc := 212) (v := (nI 7)) C dX3_readItem_212 (by decide) ?_
                  refine fm_bind (fun r214 e214 => ?_)
                  refine fm_cVi (pc := 214) C (t_X3_readNumber e214) ok_X3_readNumber ⟨by decide, rfl⟩ m_ml_X3_102 dX3_readItem_214 ⟨Nat.le_of_ble_eq_true rfl, Nat.le_of_ble_eq_true rfl⟩ rfl rfl (Nat.le_of_ble_eq_true rfl) ?_
                  refine fm_if_eq (pc := 217) (tgt := 224) C dX3_readItem_217 (by decide) (fun c17 => ?_) (fun c17 => ?_)
                  · refine fm_iconst (pc := 224) (v := (nI 0)) C dX3_readItem_224 (by decide) ?_
                    exact fm_zret (pc := 225) C hF rfl rfl dX3_readItem_225
                  · refine fm_iconst (pc := 220) (v := (nI 1)) C dX3_readItem_220 (by decide) ?_
                    refine fm_goto (pc := 221) (tgt := 225) C dX3_readItem_221 (by decide) ?_
                    exact fm_zret (pc := 225) C hF rfl rfl dX3_readItem_225
          · refine fm_ite (fun s18 => ?_) (fun s18 => ?_)
            · refine fm_look (pc := 52) (tgt := 134) (off := 82) C dX3_readItem_52 (by decide) (by rw [s18]; decide) (by decide) ?_
              refine fm_aload_n (pc := 134) C dX3_readItem_134 rfl rfl ?_
              refine fm_ldcS (pc := 135) C (i := 1) (by decide) dX3_readItem_135 ?_
              refine fm_bind (fun r137 e137 => ?_)
              refine fm_cVi (pc := 137) C (t_X3_readWord e137) ok_X3_readWord ⟨by decide, rfl⟩ m_ml_X3_80 dX3_readItem_137 ⟨Nat.le_of_ble_eq_true rfl, Nat.le_of_ble_eq_true rfl⟩ rfl rfl (Nat.le_of_ble_eq_true rfl) ?_
              refine fm_if_eq (pc := 140) (tgt := 154) C dX3_readItem_140 (by decide) (fun c19 => ?_) (fun c19 => ?_)
              · refine fm_iconst (pc := 154) (v := (nI 0)) C dX3_readItem_154 (by decide) ?_
                exact fm_zret (pc := 155) C hF rfl rfl dX3_readItem_155
              · refine fm_aload_n (pc := 143) C dX3_readItem_143 rfl rfl ?_
                refine fm_bind (fun r144 e144 => ?_)
                refine fm_cVi (pc := 144) C (t_X3_readBandNumber e144) ok_X3_readBandNumber ⟨by decide, rfl⟩ m_ml_X3_92 dX3_readItem_144 ⟨Nat.le_of_ble_eq_true rfl, Nat.le_of_ble_eq_true rfl⟩ rfl rfl (Nat.le_of_ble_eq_true rfl) ?_
                refine fm_if_eq (pc := 147) (tgt := 154) C dX3_readItem_147 (by decide) (fun c20 => ?_) (fun c20 => ?_)
                · refine fm_iconst (pc := 154) (v := (nI 0)) C dX3_readItem_154 (by decide) ?_
                  exact fm_zret (pc := 155) C hF rfl rfl dX3_readItem_155
                · refine fm_iconst (pc := 150) (v := (nI 1)) C dX3_readItem_150 (by decide) ?_
                  refine fm_goto (pc := 151) (tgt := 155) C dX3_readItem_151 (by decide) ?_
                  exact fm_zret (pc := 155) C hF rfl rfl dX3_readItem_155
            · refine fm_ite (fun s21 => ?_) (fun s21 => ?_)
              · refine fm_look (pc := 52) (tgt := 226) (off := 174) C dX3_readItem_52 (by decide) (by rw [s21]; decide) (by decide) ?_
                refine fm_aload_n (pc := 226) C dX3_readItem_226 rfl rfl ?_
                refine fm_ldcS (pc := 227) C (i := 4) (by decide) dX3_readItem_227 ?_
                refine fm_bind (fun r229 e229 => ?_)
                refine fm_cVi (pc := 229) C (t_X3_readWord e229) ok_X3_readWord ⟨by decide, rfl⟩ m_ml_X3_80 dX3_readItem_229 ⟨Nat.le_of_ble_eq_true rfl, Nat.le_of_ble_eq_true rfl⟩ rfl rfl (Nat.le_of_ble_eq_true rfl) ?_
                refine fm_if_eq (pc := 232) (tgt := 258) C dX3_readItem_232 (by decide) (fun c22 => ?_) (fun c22 => ?_)
                · refine fm_iconst (pc := 258) (v := (nI 0)) C dX3_readItem_258 (by decide) ?_
                  exact fm_zret (pc := 259) C hF rfl rfl dX3_readItem_259
                · refine fm_aload_n (pc := 235) C dX3_readItem_235 rfl rfl ?_
                  refine fm_bind (fun r236 e236 => ?_)
                  refine fm_cVi (pc := 236) C (t_X3_readBandNumber e236) ok_X3_readBandNumber ⟨by decide, rfl⟩ m_ml_X3_92 dX3_readItem_236 ⟨Nat.le_of_ble_eq_true rfl, Nat.le_of_ble_eq_true rfl⟩ rfl rfl (Nat.le_of_ble_eq_true rfl) ?_
                  refine fm_if_eq (pc := 239) (tgt := 258) C dX3_readItem_239 (by decide) (fun c23 => ?_) (fun c23 => ?_)
                  · refine fm_iconst (pc := 258) (v := (nI 0)) C dX3_readItem_258 (by decide) ?_
                    exact fm_zret (pc := 259) C hF rfl rfl dX3_readItem_259
                  · refine fm_aload_n (pc := 242) C dX3_readItem_242 rfl rfl ?_
                    refine fm_iconst (pc := 243) (v := (nI 1)) C dX3_readItem_243 (by decide) ?_
                    refine fm_iconst (pc := 244) (v := (nI 0)) C dX3_readItem_244 (by decide) ?_
                    refine fm_sipush (pc := 245) (v := (nI 9999)) C dX3_readItem_245 (by decide) ?_
                    refine fm_bind (fun r248 e248 => ?_)
                    refine fm_cVi (pc := 248) C (t_X3_readNumber e248) ok_X3_readNumber ⟨by decide, rfl⟩ m_ml_X3_102 dX3_readItem_248 ⟨Nat.le_of_ble_eq_true rfl, Nat.le_of_ble_eq_true rfl⟩ rfl rfl (Nat.le_of_ble_eq_true rfl) ?_
                    refine fm_if_eq (pc := 251) (tgt := 258) C dX3_readItem_251 (by decide) (fun c24 => ?_) (fun c24 => ?_)
                    · refine fm_iconst (pc := 258) (v := (nI 0)) C dX3_readItem_258 (by decide) ?_
                      exact fm_zret (pc := 259) C hF rfl rfl dX3_readItem_259
                    · refine fm_iconst (pc := 254) (v := (nI 1)) C dX3_readItem_254 (by decide) ?_
                      refine fm_goto (pc := 255) (tgt := 259) C dX3_readItem_255 (by decide) ?_
                      exact fm_zret (pc := 259) C hF rfl rfl dX3_readItem_259
              · refine fm_look (pc := 52) (tgt := 260) (off := 208) C dX3_readItem_52 (by decide) ((lv_osw (k := (nI 98)) s6 (by decide)).trans ((lv_osw (k := (nI 108)) s10 (by decide)).trans ((lv_osw (k := (nI 112)) s13 (by decide)).trans ((lv_osw (k := (nI 114)) s18 (by decide)).trans ((lv_osw (k := (nI 116)) s21 (by decide)).trans rfl))))) (by decide) ?_
                refine fm_aload_n (pc := 260) C dX3_readItem_260 rfl rfl ?_
                refine fm_iload_n (pc := 261) C dX3_readItem_261 rfl rfl ?_
                refine fm_bind (fun r262 e262 => ?_)
                refine fm_cVi (pc := 262) C (t_X3_failAt e262) ok_X3_failAt ⟨by decide, rfl⟩ m_ml_X3_71 dX3_readItem_262 ⟨Nat.le_of_ble_eq_true rfl, Nat.le_of_ble_eq_true rfl⟩ rfl rfl (Nat.le_of_ble_eq_true rfl) ?_
                refine fm_guard (fun h25 => ?_)
                exact fm_zret (pc := 265) C hF rfl (fm_b01_n h25) dX3_readItem_265
    · refine fm_aload_n (pc := 16) C dX3_readItem_16 rfl rfl ?_
      refine fm_aload_n (pc := 17) C dX3_readItem_17 rfl rfl ?_
      refine g3_at (pc := 18) C (by decide) dX3_readItem_18 m_fl_X3_52 ?_
      refine fm_bind (fun r21 e21 => ?_)
      refine fm_cVi (pc := 21) C (t_X3_failAt e21) ok_X3_failAt ⟨by decide, rfl⟩ m_ml_X3_71 dX3_readItem_21 ⟨Nat.le_of_ble_eq_true rfl, Nat.le_of_ble_eq_true rfl⟩ rfl rfl (Nat.le_of_ble_eq_true rfl) ?_
      refine fm_guard (fun h26 => ?_)
      exact fm_zret (pc := 24) C hF rfl (fm_b01_n h26) dX3_readItem_24
theorem t_X3_readItem {l : Launch} {G : fm_G}  {μ : fm_I} {ν : fm_L} {r : Int32 × fm_I × fm_L} (h : m_X3_readItem  μ ν = some r) : fm_Mi l G yX3_readItem cX3_readItem 2 (some .boolean) 10 283 [.ref (G.2.2.1 6)] μ ν r := fm_Mi_of (by decide +kernel) (Nat.le_of_ble_eq_true rfl) (fun _ C => j_X3_readItem C rfl r h)
theorem dX3_readItems_0 : decode cX3_readItems 0 = .ok (.iconst 0, 1) := by decide +kernel
theorem dX3_readItems_1 : decode cX3_readItems 1 = .ok (.istore_n 1, 1) := by decide +kernel
theorem dX3_readItems_2 : decode cX3_readItems 2 = .ok (.iload_n 1, 1) := by decide +kernel
theorem dX3_readItems_3 : decode cX3_readItems 3 = .ok (.bipush 23, 2) := by decide +kernel
theorem dX3_readItems_5 : decode cX3_readItems 5 = .ok (.if_icmp .ge 44, 3) := by decide +kernel
theorem dX3_readItems_8 : decode cX3_readItems 8 = .ok (.aload_n 0, 1) := by decide +kernel
theorem dX3_readItems_9 : decode cX3_readItems 9 = .ok (.invokevirtual 61, 3) := by decide +kernel
theorem dX3_readItems_12 : decode cX3_readItems 12 = .ok (.ifCond .ne 4, 3) := by decide +kernel
theorem dX3_readItems_15 : decode cX3_readItems 15 = .ok (.return_, 1) := by decide +kernel
theorem dX3_readItems_16 : decode cX3_readItems 16 = .ok (.aload_n 0, 1) := by decide +kernel
theorem dX3_readItems_17 : decode cX3_readItems 17 = .ok (.dup, 1) := by decide +kernel
theorem dX3_readItems_18 : decode cX3_readItems 18 = .ok (.getfield 58, 3) := by decide +kernel
theorem dX3_readItems_21 : decode cX3_readItems 21 = .ok (.iconst 1, 1) := by decide +kernel
theorem dX3_readItems_22 : decode cX3_readItems 22 = .ok (.iadd, 1) := by decide +kernel
theorem dX3_readItems_23 : decode cX3_readItems 23 = .ok (.putfield 58, 3) := by decide +kernel
theorem dX3_readItems_26 : decode cX3_readItems 26 = .ok (.aload_n 0, 1) := by decide +kernel
theorem dX3_readItems_27 : decode cX3_readItems 27 = .ok (.invokevirtual 65, 3) := by decide +kernel
theorem dX3_readItems_30 : decode cX3_readItems 30 = .ok (.ifCond .ne 12, 3) := by decide +kernel
theorem dX3_readItems_33 : decode cX3_readItems 33 = .ok (.aload_n 0, 1) := by decide +kernel
theorem dX3_readItems_34 : decode cX3_readItems 34 = .ok (.bipush 59, 2) := by decide +kernel
theorem dX3_readItems_36 : decode cX3_readItems 36 = .ok (.invokevirtual 68, 3) := by decide +kernel
theorem dX3_readItems_39 : decode cX3_readItems 39 = .ok (.ifCond .ne 4, 3) := by decide +kernel
theorem dX3_readItems_42 : decode cX3_readItems 42 = .ok (.return_, 1) := by decide +kernel
theorem dX3_readItems_43 : decode cX3_readItems 43 = .ok (.iinc 1 1, 3) := by decide +kernel
theorem dX3_readItems_46 : decode cX3_readItems 46 = .ok (.goto (-44), 3) := by decide +kernel
theorem dX3_readItems_49 : decode cX3_readItems 49 = .ok (.aload_n 0, 1) := by decide +kernel
theorem dX3_readItems_50 : decode cX3_readItems 50 = .ok (.aload_n 0, 1) := by decide +kernel
theorem dX3_readItems_51 : decode cX3_readItems 51 = .ok (.getfield 52, 3) := by decide +kernel
theorem dX3_readItems_54 : decode cX3_readItems 54 = .ok (.invokevirtual 71, 3) := by decide +kernel
theorem dX3_readItems_57 : decode cX3_readItems 57 = .ok (.pop, 1) := by decide +kernel
theorem dX3_readItems_58 : decode cX3_readItems 58 = .ok (.return_, 1) := by decide +kernel
def m_X3_readItems_2  (K : fm_I → fm_L → Option (fm_I × fm_L)) : Nat → Int32 → fm_I → fm_L → Option (fm_I × fm_L)
  | 0, _, _, _ => none
  | k + 1, v1, μ, ν => if (nI 23) ≤ v1 then K  μ ν else (m_X3_readItem  μ ν).bind (fun r9 => if r9.1 = 0 then some ((r9.2.1, r9.2.2)) else (m_X3_isAtEnd  (fm_u r9.2.1 6 1 ((((r9.2.1 6 1)) + ((nI 1))))) r9.2.2).bind (fun r27 => if r27 = 0 then (m_X3_readLetter ((nI 59)) (fm_u r9.2.1 6 1 ((((r9.2.1 6 1)) + ((nI 1))))) r9.2.2).bind (fun r36 => if r36.1 = 0 then some ((r36.2.1, r36.2.2)) else m_X3_readItems_2 K k ((v1 + nI 1)) r36.2.1 r36.2.2) else some (((fm_u r9.2.1 6 1 ((((r9.2.1 6 1)) + ((nI 1))))), r9.2.2))))
def m_X3_readItems  (μ : fm_I) (ν : fm_L) : Option (fm_I × fm_L) :=
  m_X3_readItems_2  (fun μ2 ν2 => (m_X3_failAt ((μ2 6 2)) μ2 ν2).bind (fun r54 => some ((r54.2.1, r54.2.2)))) 5000 ((nI 0)) μ ν
theorem ok_X3_readItems : fm_okV yX3_readItems cX3_readItems 2 (none : Option Jvm.ClassFile.FieldType) 0 := ⟨m_cd_X3_readItems, m_im_X3_readItems, m_se_X3_X3_readItems, m_ini_X3, by decide +kernel, by decide +kernel, by decide +kernel⟩
set_option maxHeartbeats 4000000 in
set_option maxRecDepth 100000 in
theorem j_X3_readItems_2_ {X : fm_X} {G : fm_G} {l : Launch}  (C : fm_C X G l cX3_readItems RX3 2 (none : Option Jvm.ClassFile.FieldType) 11 304) {F : (fm_I × fm_L) → State → Prop} (hF : F = fm_Qv X G)  {K : fm_I → fm_L → Option (fm_I × fm_L)} (hK : ∀  (μ : fm_I) (ν : fm_L), fm_J X G 2 F (K μ ν) μ ν 49 [(0, .ref (G.2.2.1 6))] []) : ∀ (k : Nat) (v1 : Int32) (μ : fm_I) (ν : fm_L), fm_J X G 2 F (m_X3_readItems_2  K k v1 μ ν) μ ν 2 [(0, .ref (G.2.2.1 6)), (1, .int v1)] [] := by
  intro k
  induction k with
  | zero =>
    intro v1 μ ν
    exact fm_none
  | succ k ih =>
    intro v1 μ ν
    rw [m_X3_readItems_2]
    refine fm_iload_n (pc := 2) C dX3_readItems_2 rfl rfl ?_
    refine fm_bipush (pc := 3) (v := (nI 23)) C dX3_readItems_3 (by decide) ?_
    refine fm_icmp_ge (pc := 5) (tgt := 49) C dX3_readItems_5 (by decide) (fun c1 => ?_) (fun c1 => ?_)
    · refine fm_less (lv' := [(0, .ref (G.2.2.1 6))]) (by repeat (first | exact trivial | refine ⟨rfl, ?_⟩)) ?_
      exact hK  _ _
    · refine fm_aload_n (pc := 8) C dX3_readItems_8 rfl rfl ?_
      refine fm_bind (fun r9 e9 => ?_)
      refine fm_cVi (pc := 9) C (t_X3_readItem e9) ok_X3_readItem ⟨by decide, rfl⟩ m_ml_X3_61 dX3_readItems_9 ⟨Nat.le_of_ble_eq_true rfl, Nat.le_of_ble_eq_true rfl⟩ rfl rfl (Nat.le_of_ble_eq_true rfl) ?_
      refine fm_if_ne (pc := 12) (tgt := 16) C dX3_readItems_12 (by decide) (fun c2 => ?_) (fun c2 => ?_)
      · exact fm_vret (pc := 15) C hF rfl dX3_readItems_15
      · refine fm_aload_n (pc := 16) C dX3_readItems_16 rfl rfl ?_
        refine fm_dup (pc := 17) C dX3_readItems_17 rfl ?_
        refine g3_items (pc := 18) C (by decide) dX3_readItems_18 m_fl_X3_58 ?_
        refine fm_iconst (pc := 21) (v := (nI 1)) C dX3_readItems_21 (by decide) ?_
        refine fm_iadd (pc := 22) C dX3_readItems_22 ?_
        refine p3_items (pc := 23) C (by decide) dX3_readItems_23 m_fl_X3_58 ?_
        refine fm_aload_n (pc := 26) C dX3_readItems_26 rfl rfl ?_
        refine fm_bind (fun r27 e27 => ?_)
        refine fm_cVi0 (pc := 27) C (t_X3_isAtEnd e27) ok_X3_isAtEnd ⟨by decide, rfl⟩ m_ml_X3_65 dX3_readItems_27 ⟨Nat.le_of_ble_eq_true rfl, Nat.le_of_ble_eq_true rfl⟩ rfl rfl (Nat.le_of_ble_eq_true rfl) ?_
        refine fm_if_ne (pc := 30) (tgt := 42) C dX3_readItems_30 (by decide) (fun c3 => ?_) (fun c3 => ?_)
        · refine fm_aload_n (pc := 33) C dX3_readItems_33 rfl rfl ?_
          refine fm_bipush (pc := 34) (v := (nI 59)) C dX3_readItems_34 (by decide) ?_
          refine fm_bind (fun r36 e36 => ?_)
          refine fm_cVi (pc := 36) C (t_X3_readLetter e36) ok_X3_readLetter ⟨by decide, rfl⟩ m_ml_X3_68 dX3_readItems_36 ⟨Nat.le_of_ble_eq_true rfl, Nat.le_of_ble_eq_true rfl⟩ rfl rfl (Nat.le_of_ble_eq_true rfl) ?_
          refine fm_if_ne (pc := 39) (tgt := 43) C dX3_readItems_39 (by decide) (fun c4 => ?_) (fun c4 => ?_)
          · exact fm_vret (pc := 42) C hF rfl dX3_readItems_42
          · refine fm_iinc (pc := 43) C dX3_readItems_43 rfl (v := (v1 + nI 1)) rfl (by decide) rfl ?_
            refine fm_goto (pc := 46) (tgt := 2) C dX3_readItems_46 (by decide) ?_
            refine fm_less (lv' := [(0, .ref (G.2.2.1 6)), (1, .int ((v1 + nI 1)))]) (by repeat (first | exact trivial | refine ⟨rfl, ?_⟩)) ?_
            exact ih _ _ _
        · exact fm_vret (pc := 42) C hF rfl dX3_readItems_42
set_option maxHeartbeats 4000000 in
set_option maxRecDepth 100000 in
theorem j_X3_readItems {X : fm_X} {G : fm_G} {l : Launch}  {μ : fm_I} {ν : fm_L} (C : fm_C X G l cX3_readItems RX3 2 (none : Option Jvm.ClassFile.FieldType) 11 304) {F : (fm_I × fm_L) → State → Prop} (hF : F = fm_Qv X G) : fm_J X G 2 F (m_X3_readItems  μ ν) μ ν 0 [(0, .ref (G.2.2.1 6))] [] := by
  unfold m_X3_readItems
  refine fm_iconst (pc := 0) (v := (nI 0)) C dX3_readItems_0 (by decide) ?_
  refine fm_istore_n (pc := 1) C dX3_readItems_1 rfl (by decide) rfl ?_
  refine fm_less (lv' := [(0, .ref (G.2.2.1 6)), (1, .int ((nI 0)))]) (by repeat (first | exact trivial | refine ⟨rfl, ?_⟩)) ?_
  refine j_X3_readItems_2_ C  hF  (fun μ2 ν2 => ?_) _ _ _ _
  refine fm_aload_n (pc := 49) C dX3_readItems_49 rfl rfl ?_
  refine fm_aload_n (pc := 50) C dX3_readItems_50 rfl rfl ?_
  refine g3_at (pc := 51) C (by decide) dX3_readItems_51 m_fl_X3_52 ?_
  refine fm_bind (fun r54 e54 => ?_)
  refine fm_cVi (pc := 54) C (t_X3_failAt e54) ok_X3_failAt ⟨by decide, rfl⟩ m_ml_X3_71 dX3_readItems_54 ⟨Nat.le_of_ble_eq_true rfl, Nat.le_of_ble_eq_true rfl⟩ rfl rfl (Nat.le_of_ble_eq_true rfl) ?_
  refine fm_pop (pc := 57) C dX3_readItems_57 rfl ?_
  exact fm_vret (pc := 58) C hF rfl dX3_readItems_58
theorem t_X3_readItems {l : Launch} {G : fm_G}  {μ : fm_I} {ν : fm_L} {r : fm_I × fm_L} (h : m_X3_readItems  μ ν = some r) : fm_Mv l G yX3_readItems cX3_readItems 2 (none : Option Jvm.ClassFile.FieldType) 11 304 [.ref (G.2.2.1 6)] μ ν r := fm_Mv_of (by decide +kernel) (Nat.le_of_ble_eq_true rfl) (fun _ C => j_X3_readItems C rfl r h)
theorem dX3_word_0 : decode cX3_word 0 = .ok (.iload_n 1, 1) := by decide +kernel
theorem dX3_word_1 : decode cX3_word 1 = .ok (.ifCond .lt 18, 3) := by decide +kernel
theorem dX3_word_4 : decode cX3_word 4 = .ok (.iload_n 1, 1) := by decide +kernel
theorem dX3_word_5 : decode cX3_word 5 = .ok (.bipush 23, 2) := by decide +kernel
theorem dX3_word_7 : decode cX3_word 7 = .ok (.if_icmp .ge 12, 3) := by decide +kernel
theorem dX3_word_10 : decode cX3_word 10 = .ok (.aload_n 0, 1) := by decide +kernel
theorem dX3_word_11 : decode cX3_word 11 = .ok (.getfield 18, 3) := by decide +kernel
theorem dX3_word_14 : decode cX3_word 14 = .ok (.iload_n 1, 1) := by decide +kernel
theorem dX3_word_15 : decode cX3_word 15 = .ok (.iaload, 1) := by decide +kernel
theorem dX3_word_16 : decode cX3_word 16 = .ok (.goto 4, 3) := by decide +kernel
theorem dX3_word_19 : decode cX3_word 19 = .ok (.iconst (-1), 1) := by decide +kernel
theorem dX3_word_20 : decode cX3_word 20 = .ok (.ireturn, 1) := by decide +kernel
def m_X3_word (v1 : Int32) (μ : fm_I) (ν : fm_L) : Option (Int32) :=
  if v1 < 0 then some ((-1 : Int32)) else if (nI 23) ≤ v1 then some ((-1 : Int32)) else fm_g (fm_in v1 (fm_n 16)) (some ((μ 16 v1.toNatClampNeg)))
theorem ok_X3_word : fm_okV yX3_word cX3_word 2 (some .int) 1 := ⟨m_cd_X3_word, m_im_X3_word, m_se_X3_X3_word, m_ini_X3, by decide +kernel, by decide +kernel, by decide +kernel⟩
set_option maxHeartbeats 4000000 in
set_option maxRecDepth 100000 in
theorem j_X3_word {X : fm_X} {G : fm_G} {l : Launch} {v1 : Int32} {μ : fm_I} {ν : fm_L} (C : fm_C X G l cX3_word RX3 2 (some .int) 1 12) {F : Int32 → State → Prop} (hF : F = fun r => fm_Qi X G (r, μ, ν)) : fm_J X G 2 F (m_X3_word v1 μ ν) μ ν 0 [(0, .ref (G.2.2.1 6)), (1, .int v1)] [] := by
  unfold m_X3_word
  refine fm_iload_n (pc := 0) C dX3_word_0 rfl rfl ?_
  refine fm_if_lt (pc := 1) (tgt := 19) C dX3_word_1 (by decide) (fun c1 => ?_) (fun c1 => ?_)
  · refine fm_iconst (pc := 19) (v := (-1 : Int32)) C dX3_word_19 (by decide) ?_
    exact fm_zret0 (pc := 20) C hF rfl rfl dX3_word_20
  · refine fm_iload_n (pc := 4) C dX3_word_4 rfl rfl ?_
    refine fm_bipush (pc := 5) (v := (nI 23)) C dX3_word_5 (by decide) ?_
    refine fm_icmp_ge (pc := 7) (tgt := 19) C dX3_word_7 (by decide) (fun c2 => ?_) (fun c2 => ?_)
    · refine fm_iconst (pc := 19) (v := (-1 : Int32)) C dX3_word_19 (by decide) ?_
      exact fm_zret0 (pc := 20) C hF rfl rfl dX3_word_20
    · refine fm_aload_n (pc := 10) C dX3_word_10 rfl rfl ?_
      refine g3_words (pc := 11) C (by decide) dX3_word_11 m_fl_X3_18 ?_
      refine fm_iload_n (pc := 14) C dX3_word_14 rfl rfl ?_
      refine fm_guard (fun h3 => ?_)
      refine fm_iald (pc := 15) C (by decide) h3 dX3_word_15 ?_
      refine fm_goto (pc := 16) (tgt := 20) C dX3_word_16 (by decide) ?_
      exact fm_zret0 (pc := 20) C hF rfl rfl dX3_word_20
theorem t_X3_word {l : Launch} {G : fm_G} {v1 : Int32} {μ : fm_I} {ν : fm_L} {r : Int32} (h : m_X3_word v1 μ ν = some r) : fm_Mi l G yX3_word cX3_word 2 (some .int) 1 12 [.ref (G.2.2.1 6), .int v1] μ ν (r, μ, ν) := fm_Mi_of (by decide +kernel) (Nat.le_of_ble_eq_true rfl) (fun _ C => j_X3_word C rfl r h)
