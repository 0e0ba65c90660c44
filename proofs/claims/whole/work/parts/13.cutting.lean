theorem dX1_followRound_0 : decode cX1_followRound 0 = .ok (.iconst 0, 1) := by decide +kernel
theorem dX1_followRound_1 : decode cX1_followRound 1 = .ok (.istore_n 2, 1) := by decide +kernel
theorem dX1_followRound_2 : decode cX1_followRound 2 = .ok (.iload_n 1, 1) := by decide +kernel
theorem dX1_followRound_3 : decode cX1_followRound 3 = .ok (.istore_n 3, 1) := by decide +kernel
theorem dX1_followRound_4 : decode cX1_followRound 4 = .ok (.iconst 0, 1) := by decide +kernel
theorem dX1_followRound_5 : decode cX1_followRound 5 = .ok (.istore 4, 2) := by decide +kernel
theorem dX1_followRound_7 : decode cX1_followRound 7 = .ok (.iload 4, 2) := by decide +kernel
theorem dX1_followRound_9 : decode cX1_followRound 9 = .ok (.aload_n 0, 1) := by decide +kernel
theorem dX1_followRound_10 : decode cX1_followRound 10 = .ok (.getfield 36, 3) := by decide +kernel
theorem dX1_followRound_13 : decode cX1_followRound 13 = .ok (.if_icmp .ge 44, 3) := by decide +kernel
theorem dX1_followRound_16 : decode cX1_followRound 16 = .ok (.iload_n 3, 1) := by decide +kernel
theorem dX1_followRound_17 : decode cX1_followRound 17 = .ok (.ifCond .lt 40, 3) := by decide +kernel
theorem dX1_followRound_20 : decode cX1_followRound 20 = .ok (.iload_n 3, 1) := by decide +kernel
theorem dX1_followRound_21 : decode cX1_followRound 21 = .ok (.aload_n 0, 1) := by decide +kernel
theorem dX1_followRound_22 : decode cX1_followRound 22 = .ok (.getfield 36, 3) := by decide +kernel
theorem dX1_followRound_25 : decode cX1_followRound 25 = .ok (.if_icmp .ge 32, 3) := by decide +kernel
theorem dX1_followRound_28 : decode cX1_followRound 28 = .ok (.aload_n 0, 1) := by decide +kernel
theorem dX1_followRound_29 : decode cX1_followRound 29 = .ok (.getfield 15, 3) := by decide +kernel
theorem dX1_followRound_32 : decode cX1_followRound 32 = .ok (.iload_n 3, 1) := by decide +kernel
theorem dX1_followRound_33 : decode cX1_followRound 33 = .ok (.aload_n 0, 1) := by decide +kernel
theorem dX1_followRound_34 : decode cX1_followRound 34 = .ok (.getfield 55, 3) := by decide +kernel
theorem dX1_followRound_37 : decode cX1_followRound 37 = .ok (.iastore, 1) := by decide +kernel
theorem dX1_followRound_38 : decode cX1_followRound 38 = .ok (.iload_n 2, 1) := by decide +kernel
theorem dX1_followRound_39 : decode cX1_followRound 39 = .ok (.iconst 1, 1) := by decide +kernel
theorem dX1_followRound_40 : decode cX1_followRound 40 = .ok (.iload_n 3, 1) := by decide +kernel
theorem dX1_followRound_41 : decode cX1_followRound 41 = .ok (.ishl, 1) := by decide +kernel
theorem dX1_followRound_42 : decode cX1_followRound 42 = .ok (.ior, 1) := by decide +kernel
theorem dX1_followRound_43 : decode cX1_followRound 43 = .ok (.istore_n 2, 1) := by decide +kernel
theorem dX1_followRound_44 : decode cX1_followRound 44 = .ok (.aload_n 0, 1) := by decide +kernel
theorem dX1_followRound_45 : decode cX1_followRound 45 = .ok (.getfield 9, 3) := by decide +kernel
theorem dX1_followRound_48 : decode cX1_followRound 48 = .ok (.iload_n 3, 1) := by decide +kernel
theorem dX1_followRound_49 : decode cX1_followRound 49 = .ok (.iaload, 1) := by decide +kernel
theorem dX1_followRound_50 : decode cX1_followRound 50 = .ok (.istore_n 3, 1) := by decide +kernel
theorem dX1_followRound_51 : decode cX1_followRound 51 = .ok (.iinc 4 1, 3) := by decide +kernel
theorem dX1_followRound_54 : decode cX1_followRound 54 = .ok (.goto (-47), 3) := by decide +kernel
theorem dX1_followRound_57 : decode cX1_followRound 57 = .ok (.aload_n 0, 1) := by decide +kernel
theorem dX1_followRound_58 : decode cX1_followRound 58 = .ok (.getfield 18, 3) := by decide +kernel
theorem dX1_followRound_61 : decode cX1_followRound 61 = .ok (.aload_n 0, 1) := by decide +kernel
theorem dX1_followRound_62 : decode cX1_followRound 62 = .ok (.getfield 55, 3) := by decide +kernel
theorem dX1_followRound_65 : decode cX1_followRound 65 = .ok (.iload_n 2, 1) := by decide +kernel
theorem dX1_followRound_66 : decode cX1_followRound 66 = .ok (.iastore, 1) := by decide +kernel
theorem dX1_followRound_67 : decode cX1_followRound 67 = .ok (.return_, 1) := by decide +kernel
def m_X1_followRound_7  (K : Int32 → fm_I → fm_L → Option (fm_I × fm_L)) : Nat → Int32 → Int32 → Int32 → fm_I → fm_L → Option (fm_I × fm_L)
  | 0, _, _, _, _, _ => none
  | k + 1, v2, v3, v4, μ, ν => if (μ 5 1) ≤ v4 then K v2 μ ν else if v3 < 0 then K v2 μ ν else if (μ 5 1) ≤ v3 then K v2 μ ν else fm_g (fm_in v3 (fm_n 10)) (fm_g (fm_in v3 (fm_n 9)) (m_X1_followRound_7 K k ((v2 ||| ((((nI 1)) <<< (v3 &&& 31))))) (((fm_u μ 10 v3.toNatClampNeg ((μ 5 0))) 9 v3.toNatClampNeg)) ((v4 + nI 1)) (fm_u μ 10 v3.toNatClampNeg ((μ 5 0))) ν))
def m_X1_followRound (v1 : Int32) (μ : fm_I) (ν : fm_L) : Option (fm_I × fm_L) :=
  m_X1_followRound_7  (fun x2_7 μ7 ν7 => fm_g (fm_in ((μ7 5 0)) (fm_n 11)) (some (((fm_u μ7 11 ((μ7 5 0)).toNatClampNeg x2_7), ν7)))) 5000 ((nI 0)) v1 ((nI 0)) μ ν
theorem ok_X1_followRound : fm_okV yX1_followRound cX1_followRound 5 (none : Option Jvm.ClassFile.FieldType) 1 := ⟨m_cd_X1_followRound, m_im_X1_followRound, m_se_X1_X1_followRound, m_ini_X1, by decide +kernel, by decide +kernel, by decide +kernel⟩
set_option maxHeartbeats 4000000 in
set_option maxRecDepth 100000 in
theorem j_X1_followRound_7_ {X : fm_X} {G : fm_G} {l : Launch}  (C : fm_C X G l cX1_followRound RX1 5 (none : Option Jvm.ClassFile.FieldType) 1 12) {F : (fm_I × fm_L) → State → Prop} (hF : F = fm_Qv X G)  {K : Int32 → fm_I → fm_L → Option (fm_I × fm_L)} (hK : ∀ (v2 : Int32) (μ : fm_I) (ν : fm_L), fm_J X G 5 F (K v2 μ ν) μ ν 57 [(0, .ref (G.2.2.1 5)), (2, .int v2)] []) : ∀ (k : Nat) (v2 : Int32) (v3 : Int32) (v4 : Int32) (μ : fm_I) (ν : fm_L), fm_J X G 5 F (m_X1_followRound_7  K k v2 v3 v4 μ ν) μ ν 7 [(0, .ref (G.2.2.1 5)), (2, .int v2), (3, .int v3), (4, .int v4)] [] := by
  intro k
  induction k with
  | zero =>
    intro v2 v3 v4 μ ν
    exact fm_none
  | succ k ih =>
    intro v2 v3 v4 μ ν
    rw [m_X1_followRound_7]
    refine fm_iload (pc := 7) C dX1_followRound_7 rfl ?_
    refine fm_aload_n (pc := 9) C dX1_followRound_9 rfl rfl ?_
    refine g1_strips (pc := 10) C (by decide) dX1_followRound_10 m_fl_X1_36 ?_
    refine fm_icmp_ge (pc := 13) (tgt := 57) C dX1_followRound_13 (by decide) (fun c1 => ?_) (fun c1 => ?_)
    · refine fm_less (lv' := [(0, .ref (G.2.2.1 5)), (2, .int v2)]) (by repeat (first | exact trivial | refine ⟨rfl, ?_⟩)) ?_
      exact hK _ _ _
    · refine fm_iload_n (pc := 16) C dX1_followRound_16 rfl rfl ?_
      refine fm_if_lt (pc := 17) (tgt := 57) C dX1_followRound_17 (by decide) (fun c2 => ?_) (fun c2 => ?_)
      · refine fm_less (lv' := [(0, .ref (G.2.2.1 5)), (2, .int v2)]) (by repeat (first | exact trivial | refine ⟨rfl, ?_⟩)) ?_
        exact hK _ _ _
      · refine fm_iload_n (pc := 20) C dX1_followRound_20 rfl rfl ?_
        refine fm_aload_n (pc := 21) C dX1_followRound_21 rfl rfl ?_
        refine g1_strips (pc := 22) C (by decide) dX1_followRound_22 m_fl_X1_36 ?_
        refine fm_icmp_ge (pc := 25) (tgt := 57) C dX1_followRound_25 (by decide) (fun c3 => ?_) (fun c3 => ?_)
        · refine fm_less (lv' := [(0, .ref (G.2.2.1 5)), (2, .int v2)]) (by repeat (first | exact trivial | refine ⟨rfl, ?_⟩)) ?_
          exact hK _ _ _
        · refine fm_aload_n (pc := 28) C dX1_followRound_28 rfl rfl ?_
          refine g1_pieceOfStrip (pc := 29) C (by decide) dX1_followRound_29 m_fl_X1_15 ?_
          refine fm_iload_n (pc := 32) C dX1_followRound_32 rfl rfl ?_
          refine fm_aload_n (pc := 33) C dX1_followRound_33 rfl rfl ?_
          refine g1_count (pc := 34) C (by decide) dX1_followRound_34 m_fl_X1_55 ?_
          refine fm_guard (fun h4 => ?_)
          refine fm_iast (pc := 37) C (by decide) h4 dX1_followRound_37 ?_
          refine fm_iload_n (pc := 38) C dX1_followRound_38 rfl rfl ?_
          refine fm_iconst (pc := 39) (v := (nI 1)) C dX1_followRound_39 (by decide) ?_
          refine fm_iload_n (pc := 40) C dX1_followRound_40 rfl rfl ?_
          refine fm_ishl (pc := 41) C dX1_followRound_41 ?_
          refine fm_ior (pc := 42) C dX1_followRound_42 ?_
          refine fm_istore_n (pc := 43) C dX1_followRound_43 rfl (by decide) rfl ?_
          refine fm_aload_n (pc := 44) C dX1_followRound_44 rfl rfl ?_
          refine g1_followers (pc := 45) C (by decide) dX1_followRound_45 m_fl_X1_9 ?_
          refine fm_iload_n (pc := 48) C dX1_followRound_48 rfl rfl ?_
          refine fm_guard (fun h5 => ?_)
          refine fm_iald (pc := 49) C (by decide) h5 dX1_followRound_49 ?_
          refine fm_istore_n (pc := 50) C dX1_followRound_50 rfl (by decide) rfl ?_
          refine fm_iinc (pc := 51) C dX1_followRound_51 rfl (v := (v4 + nI 1)) rfl (by decide) rfl ?_
          refine fm_goto (pc := 54) (tgt := 7) C dX1_followRound_54 (by decide) ?_
          refine fm_less (lv' := [(0, .ref (G.2.2.1 5)), (2, .int ((v2 ||| ((((nI 1)) <<< (v3 &&& 31)))))), (3, .int (((fm_u μ 10 v3.toNatClampNeg ((μ 5 0))) 9 v3.toNatClampNeg))), (4, .int ((v4 + nI 1)))]) (by repeat (first | exact trivial | refine ⟨rfl, ?_⟩)) ?_
          exact ih _ _ _ _ _
set_option maxHeartbeats 4000000 in
set_option maxRecDepth 100000 in
theorem j_X1_followRound {X : fm_X} {G : fm_G} {l : Launch} {v1 : Int32} {μ : fm_I} {ν : fm_L} (C : fm_C X G l cX1_followRound RX1 5 (none : Option Jvm.ClassFile.FieldType) 1 12) {F : (fm_I × fm_L) → State → Prop} (hF : F = fm_Qv X G) : fm_J X G 5 F (m_X1_followRound v1 μ ν) μ ν 0 [(0, .ref (G.2.2.1 5)), (1, .int v1)] [] := by
  unfold m_X1_followRound
  refine fm_iconst (pc := 0) (v := (nI 0)) C dX1_followRound_0 (by decide) ?_
  refine fm_istore_n (pc := 1) C dX1_followRound_1 rfl (by decide) rfl ?_
  refine fm_iload_n (pc := 2) C dX1_followRound_2 rfl rfl ?_
  refine fm_istore_n (pc := 3) C dX1_followRound_3 rfl (by decide) rfl ?_
  refine fm_iconst (pc := 4) (v := (nI 0)) C dX1_followRound_4 (by decide) ?_
  refine fm_istore (pc := 5) C dX1_followRound_5 (by decide) rfl ?_
  refine fm_less (lv' := [(0, .ref (G.2.2.1 5)), (2, .int ((nI 0))), (3, .int v1), (4, .int ((nI 0)))]) (by repeat (first | exact trivial | refine ⟨rfl, ?_⟩)) ?_
  refine j_X1_followRound_7_ C  hF  (fun x2_7 μ7 ν7 => ?_) _ _ _ _ _ _
  refine fm_aload_n (pc := 57) C dX1_followRound_57 rfl rfl ?_
  refine g1_membersOfPiece (pc := 58) C (by decide) dX1_followRound_58 m_fl_X1_18 ?_
  refine fm_aload_n (pc := 61) C dX1_followRound_61 rfl rfl ?_
  refine g1_count (pc := 62) C (by decide) dX1_followRound_62 m_fl_X1_55 ?_
  refine fm_iload_n (pc := 65) C dX1_followRound_65 rfl rfl ?_
  refine fm_guard (fun h6 => ?_)
  refine fm_iast (pc := 66) C (by decide) h6 dX1_followRound_66 ?_
  exact fm_vret (pc := 67) C hF rfl dX1_followRound_67
theorem t_X1_followRound {l : Launch} {G : fm_G} {v1 : Int32} {μ : fm_I} {ν : fm_L} {r : fm_I × fm_L} (h : m_X1_followRound v1 μ ν = some r) : fm_Mv l G yX1_followRound cX1_followRound 5 (none : Option Jvm.ClassFile.FieldType) 1 12 [.ref (G.2.2.1 5), .int v1] μ ν r := fm_Mv_of (by decide +kernel) (Nat.le_of_ble_eq_true rfl) (fun _ C => j_X1_followRound C rfl r h)
theorem dX1_lay_0 : decode cX1_lay 0 = .ok (.aload_n 0, 1) := by decide +kernel
theorem dX1_lay_1 : decode cX1_lay 1 = .ok (.iconst 0, 1) := by decide +kernel
theorem dX1_lay_2 : decode cX1_lay 2 = .ok (.iload_n 2, 1) := by decide +kernel
theorem dX1_lay_3 : decode cX1_lay 3 = .ok (.bipush 12, 2) := by decide +kernel
theorem dX1_lay_5 : decode cX1_lay 5 = .ok (.invokestatic 27, 3) := by decide +kernel
theorem dX1_lay_8 : decode cX1_lay 8 = .ok (.invokestatic 33, 3) := by decide +kernel
theorem dX1_lay_11 : decode cX1_lay 11 = .ok (.putfield 36, 3) := by decide +kernel
theorem dX1_lay_14 : decode cX1_lay 14 = .ok (.aload_n 0, 1) := by decide +kernel
theorem dX1_lay_15 : decode cX1_lay 15 = .ok (.iload_n 3, 1) := by decide +kernel
theorem dX1_lay_16 : decode cX1_lay 16 = .ok (.putfield 40, 3) := by decide +kernel
theorem dX1_lay_19 : decode cX1_lay 19 = .ok (.aload_n 0, 1) := by decide +kernel
theorem dX1_lay_20 : decode cX1_lay 20 = .ok (.aload_n 1, 1) := by decide +kernel
theorem dX1_lay_21 : decode cX1_lay 21 = .ok (.getfield 43, 3) := by decide +kernel
theorem dX1_lay_24 : decode cX1_lay 24 = .ok (.iconst 1, 1) := by decide +kernel
theorem dX1_lay_25 : decode cX1_lay 25 = .ok (.if_icmp .ne 7, 3) := by decide +kernel
theorem dX1_lay_28 : decode cX1_lay 28 = .ok (.iconst 1, 1) := by decide +kernel
theorem dX1_lay_29 : decode cX1_lay 29 = .ok (.goto 4, 3) := by decide +kernel
theorem dX1_lay_32 : decode cX1_lay 32 = .ok (.iconst (-1), 1) := by decide +kernel
theorem dX1_lay_33 : decode cX1_lay 33 = .ok (.putfield 48, 3) := by decide +kernel
theorem dX1_lay_36 : decode cX1_lay 36 = .ok (.iconst 0, 1) := by decide +kernel
theorem dX1_lay_37 : decode cX1_lay 37 = .ok (.istore 4, 2) := by decide +kernel
theorem dX1_lay_39 : decode cX1_lay 39 = .ok (.iload 4, 2) := by decide +kernel
theorem dX1_lay_41 : decode cX1_lay 41 = .ok (.aload_n 0, 1) := by decide +kernel
theorem dX1_lay_42 : decode cX1_lay 42 = .ok (.getfield 36, 3) := by decide +kernel
theorem dX1_lay_45 : decode cX1_lay 45 = .ok (.if_icmp .ge 38, 3) := by decide +kernel
theorem dX1_lay_48 : decode cX1_lay 48 = .ok (.aload_n 0, 1) := by decide +kernel
theorem dX1_lay_49 : decode cX1_lay 49 = .ok (.getfield 9, 3) := by decide +kernel
theorem dX1_lay_52 : decode cX1_lay 52 = .ok (.iload 4, 2) := by decide +kernel
theorem dX1_lay_54 : decode cX1_lay 54 = .ok (.aload_n 1, 1) := by decide +kernel
theorem dX1_lay_55 : decode cX1_lay 55 = .ok (.iload 4, 2) := by decide +kernel
theorem dX1_lay_57 : decode cX1_lay 57 = .ok (.aload_n 0, 1) := by decide +kernel
theorem dX1_lay_58 : decode cX1_lay 58 = .ok (.getfield 36, 3) := by decide +kernel
theorem dX1_lay_61 : decode cX1_lay 61 = .ok (.aload_n 0, 1) := by decide +kernel
theorem dX1_lay_62 : decode cX1_lay 62 = .ok (.getfield 40, 3) := by decide +kernel
theorem dX1_lay_65 : decode cX1_lay 65 = .ok (.invokevirtual 51, 3) := by decide +kernel
theorem dX1_lay_68 : decode cX1_lay 68 = .ok (.iastore, 1) := by decide +kernel
theorem dX1_lay_69 : decode cX1_lay 69 = .ok (.aload_n 0, 1) := by decide +kernel
theorem dX1_lay_70 : decode cX1_lay 70 = .ok (.getfield 15, 3) := by decide +kernel
theorem dX1_lay_73 : decode cX1_lay 73 = .ok (.iload 4, 2) := by decide +kernel
theorem dX1_lay_75 : decode cX1_lay 75 = .ok (.iconst (-1), 1) := by decide +kernel
theorem dX1_lay_76 : decode cX1_lay 76 = .ok (.iastore, 1) := by decide +kernel
theorem dX1_lay_77 : decode cX1_lay 77 = .ok (.iinc 4 1, 3) := by decide +kernel
theorem dX1_lay_80 : decode cX1_lay 80 = .ok (.goto (-41), 3) := by decide +kernel
theorem dX1_lay_83 : decode cX1_lay 83 = .ok (.aload_n 0, 1) := by decide +kernel
theorem dX1_lay_84 : decode cX1_lay 84 = .ok (.iconst 0, 1) := by decide +kernel
theorem dX1_lay_85 : decode cX1_lay 85 = .ok (.putfield 55, 3) := by decide +kernel
theorem dX1_lay_88 : decode cX1_lay 88 = .ok (.iconst 0, 1) := by decide +kernel
theorem dX1_lay_89 : decode cX1_lay 89 = .ok (.istore 4, 2) := by decide +kernel
theorem dX1_lay_91 : decode cX1_lay 91 = .ok (.iload 4, 2) := by decide +kernel
theorem dX1_lay_93 : decode cX1_lay 93 = .ok (.aload_n 0, 1) := by decide +kernel
theorem dX1_lay_94 : decode cX1_lay 94 = .ok (.getfield 36, 3) := by decide +kernel
theorem dX1_lay_97 : decode cX1_lay 97 = .ok (.if_icmp .ge 45, 3) := by decide +kernel
theorem dX1_lay_100 : decode cX1_lay 100 = .ok (.aload_n 0, 1) := by decide +kernel
theorem dX1_lay_101 : decode cX1_lay 101 = .ok (.getfield 55, 3) := by decide +kernel
theorem dX1_lay_104 : decode cX1_lay 104 = .ok (.bipush 12, 2) := by decide +kernel
theorem dX1_lay_106 : decode cX1_lay 106 = .ok (.if_icmp .ge 36, 3) := by decide +kernel
theorem dX1_lay_109 : decode cX1_lay 109 = .ok (.aload_n 0, 1) := by decide +kernel
theorem dX1_lay_110 : decode cX1_lay 110 = .ok (.getfield 15, 3) := by decide +kernel
theorem dX1_lay_113 : decode cX1_lay 113 = .ok (.iload 4, 2) := by decide +kernel
theorem dX1_lay_115 : decode cX1_lay 115 = .ok (.iaload, 1) := by decide +kernel
theorem dX1_lay_116 : decode cX1_lay 116 = .ok (.iconst (-1), 1) := by decide +kernel
theorem dX1_lay_117 : decode cX1_lay 117 = .ok (.if_icmp .ne 19, 3) := by decide +kernel
theorem dX1_lay_120 : decode cX1_lay 120 = .ok (.aload_n 0, 1) := by decide +kernel
theorem dX1_lay_121 : decode cX1_lay 121 = .ok (.iload 4, 2) := by decide +kernel
theorem dX1_lay_123 : decode cX1_lay 123 = .ok (.invokevirtual 58, 3) := by decide +kernel
theorem dX1_lay_126 : decode cX1_lay 126 = .ok (.aload_n 0, 1) := by decide +kernel
theorem dX1_lay_127 : decode cX1_lay 127 = .ok (.dup, 1) := by decide +kernel
theorem dX1_lay_128 : decode cX1_lay 128 = .ok (.getfield 55, 3) := by decide +kernel
theorem dX1_lay_131 : decode cX1_lay 131 = .ok (.iconst 1, 1) := by decide +kernel
theorem dX1_lay_132 : decode cX1_lay 132 = .ok (.iadd, 1) := by decide +kernel
theorem dX1_lay_133 : decode cX1_lay 133 = .ok (.putfield 55, 3) := by decide +kernel
theorem dX1_lay_136 : decode cX1_lay 136 = .ok (.iinc 4 1, 3) := by decide +kernel
theorem dX1_lay_139 : decode cX1_lay 139 = .ok (.goto (-48), 3) := by decide +kernel
theorem dX1_lay_142 : decode cX1_lay 142 = .ok (.return_, 1) := by decide +kernel
def m_X1_lay_39 (q1 : Nat) (K : fm_I → fm_L → Option (fm_I × fm_L)) : Nat → Int32 → fm_I → fm_L → Option (fm_I × fm_L)
  | 0, _, _, _ => none
  | k + 1, v4, μ, ν => if (μ 5 1) ≤ v4 then K  μ ν else (m_X0_followerIf q1 v4 ((μ 5 1)) ((μ 5 2)) μ ν).bind (fun r65 => fm_g (fm_in v4 (fm_n 9)) (fm_g (fm_in v4 (fm_n 10)) (m_X1_lay_39 q1 K k ((v4 + nI 1)) (fm_u (fm_u μ 9 v4.toNatClampNeg r65) 10 v4.toNatClampNeg ((-1 : Int32))) ν)))
def m_X1_lay_91  (K : fm_I → fm_L → Option (fm_I × fm_L)) : Nat → Int32 → fm_I → fm_L → Option (fm_I × fm_L)
  | 0, _, _, _ => none
  | k + 1, v4, μ, ν => if (μ 5 1) ≤ v4 then K  μ ν else if (nI 12) ≤ (μ 5 0) then K  μ ν else fm_g (fm_in v4 (fm_n 10)) (if (μ 10 v4.toNatClampNeg) = (-1 : Int32) then (m_X1_followRound v4 μ ν).bind (fun r123 => m_X1_lay_91 K k ((v4 + nI 1)) (fm_u r123.1 5 0 ((((r123.1 5 0)) + ((nI 1))))) r123.2) else m_X1_lay_91 K k ((v4 + nI 1)) μ ν)
def m_X1_lay (q1 : Nat) (v2 : Int32) (v3 : Int32) (μ : fm_I) (ν : fm_L) : Option (fm_I × fm_L) :=
  fm_g (Nat.beq (fm_k q1) 0) (if (((fm_u (fm_u μ 5 1 ((if (nI 0) < (if (nI 12) < v2 then (nI 12) else v2) then (if (nI 12) < v2 then (nI 12) else v2) else (nI 0)))) 5 2 v3)) q1 5) = (nI 1) then m_X1_lay_39 q1  (fun μ39 ν39 => m_X1_lay_91  (fun μ91 ν91 => some ((μ91, ν91))) 5000 ((nI 0)) (fm_u μ39 5 0 ((nI 0))) ν39) 5000 ((nI 0)) (fm_u (fm_u (fm_u μ 5 1 ((if (nI 0) < (if (nI 12) < v2 then (nI 12) else v2) then (if (nI 12) < v2 then (nI 12) else v2) else (nI 0)))) 5 2 v3) 5 3 ((nI 1))) ν else m_X1_lay_39 q1  (fun μ39 ν39 => m_X1_lay_91  (fun μ91 ν91 => some ((μ91, ν91))) 5000 ((nI 0)) (fm_u μ39 5 0 ((nI 0))) ν39) 5000 ((nI 0)) (fm_u (fm_u (fm_u μ 5 1 ((if (nI 0) < (if (nI 12) < v2 then (nI 12) else v2) then (if (nI 12) < v2 then (nI 12) else v2) else (nI 0)))) 5 2 v3) 5 3 ((-1 : Int32))) ν)
theorem ok_X1_lay : fm_okV yX1_lay cX1_lay 5 (none : Option Jvm.ClassFile.FieldType) 3 := ⟨m_cd_X1_lay, m_im_X1_lay, m_se_X1_X1_lay, m_ini_X1, by decide +kernel, by decide +kernel, by decide +kernel⟩
set_option maxHeartbeats 4000000 in
set_option maxRecDepth 100000 in
theorem j_X1_lay_39_ {X : fm_X} {G : fm_G} {l : Launch} {q1 : Nat} (C : fm_C X G l cX1_lay RX1 5 (none : Option Jvm.ClassFile.FieldType) 3 61) {F : (fm_I × fm_L) → State → Prop} (hF : F = fm_Qv X G) (hk0 : fm_k q1 = 0) {K : fm_I → fm_L → Option (fm_I × fm_L)} (hK : ∀  (μ : fm_I) (ν : fm_L), fm_J X G 5 F (K μ ν) μ ν 83 [(0, .ref (G.2.2.1 5))] []) : ∀ (k : Nat) (v4 : Int32) (μ : fm_I) (ν : fm_L), fm_J X G 5 F (m_X1_lay_39 q1 K k v4 μ ν) μ ν 39 [(0, .ref (G.2.2.1 5)), (1, .ref (G.2.2.1 q1)), (4, .int v4)] [] := by
  intro k
  induction k with
  | zero =>
    intro v4 μ ν
    exact fm_none
  | succ k ih =>
    intro v4 μ ν
    rw [m_X1_lay_39]
    refine fm_iload (pc := 39) C dX1_lay_39 rfl ?_
    refine fm_aload_n (pc := 41) C dX1_lay_41 rfl rfl ?_
    refine g1_strips (pc := 42) C (by decide) dX1_lay_42 m_fl_X1_36 ?_
    refine fm_icmp_ge (pc := 45) (tgt := 83) C dX1_lay_45 (by decide) (fun c3 => ?_) (fun c3 => ?_)
    · refine fm_less (lv' := [(0, .ref (G.2.2.1 5))]) (by repeat (first | exact trivial | refine ⟨rfl, ?_⟩)) ?_
      exact hK  _ _
    · refine fm_aload_n (pc := 48) C dX1_lay_48 rfl rfl ?_
      refine g1_followers (pc := 49) C (by decide) dX1_lay_49 m_fl_X1_9 ?_
      refine fm_iload (pc := 52) C dX1_lay_52 rfl ?_
      refine fm_aload_n (pc := 54) C dX1_lay_54 rfl rfl ?_
      refine fm_iload (pc := 55) C dX1_lay_55 rfl ?_
      refine fm_aload_n (pc := 57) C dX1_lay_57 rfl rfl ?_
      refine g1_strips (pc := 58) C (by decide) dX1_lay_58 m_fl_X1_36 ?_
      refine fm_aload_n (pc := 61) C dX1_lay_61 rfl rfl ?_
      refine g1_twists (pc := 62) C (by decide) dX1_lay_62 m_fl_X1_40 ?_
      refine fm_bind (fun r65 e65 => ?_)
      refine fm_cVi0 (pc := 65) C (t_X0_followerIf e65) ok_X0_followerIf (fm_kcn0 hk0) m_ml_X1_51 dX1_lay_65 ⟨Nat.le_of_ble_eq_true rfl, Nat.le_of_ble_eq_true rfl⟩ rfl rfl (Nat.le_of_ble_eq_true rfl) ?_
      refine fm_guard (fun h4 => ?_)
      refine fm_iast (pc := 68) C (by decide) h4 dX1_lay_68 ?_
      refine fm_aload_n (pc := 69) C dX1_lay_69 rfl rfl ?_
      refine g1_pieceOfStrip (pc := 70) C (by decide) dX1_lay_70 m_fl_X1_15 ?_
      refine fm_iload (pc := 73) C dX1_lay_73 rfl ?_
      refine fm_iconst (pc := 75) (v := (-1 : Int32)) C dX1_lay_75 (by decide) ?_
      refine fm_guard (fun h5 => ?_)
      refine fm_iast (pc := 76) C (by decide) h5 dX1_lay_76 ?_
      refine fm_iinc (pc := 77) C dX1_lay_77 rfl (v := (v4 + nI 1)) rfl (by decide) rfl ?_
      refine fm_goto (pc := 80) (tgt := 39) C dX1_lay_80 (by decide) ?_
      refine fm_less (lv' := [(0, .ref (G.2.2.1 5)), (1, .ref (G.2.2.1 q1)), (4, .int ((v4 + nI 1)))]) (by repeat (first | exact trivial | refine ⟨rfl, ?_⟩)) ?_
      exact ih _ _ _
set_option maxHeartbeats 4000000 in
set_option maxRecDepth 100000 in
theorem j_X1_lay_91_ {X : fm_X} {G : fm_G} {l : Launch}  (C : fm_C X G l cX1_lay RX1 5 (none : Option Jvm.ClassFile.FieldType) 3 61) {F : (fm_I × fm_L) → State → Prop} (hF : F = fm_Qv X G)  {K : fm_I → fm_L → Option (fm_I × fm_L)} (hK : ∀  (μ : fm_I) (ν : fm_L), fm_J X G 5 F (K μ ν) μ ν 142 [] []) : ∀ (k : Nat) (v4 : Int32) (μ : fm_I) (ν : fm_L), fm_J X G 5 F (m_X1_lay_91  K k v4 μ ν) μ ν 91 [(0, .ref (G.2.2.1 5)), (4, .int v4)] [] := by
  intro k
  induction k with
  | zero =>
    intro v4 μ ν
    exact fm_none
  | succ k ih =>
    intro v4 μ ν
    rw [m_X1_lay_91]
    refine fm_iload (pc := 91) C dX1_lay_91 rfl ?_
    refine fm_aload_n (pc := 93) C dX1_lay_93 rfl rfl ?_
    refine g1_strips (pc := 94) C (by decide) dX1_lay_94 m_fl_X1_36 ?_
    refine fm_icmp_ge (pc := 97) (tgt := 142) C dX1_lay_97 (by decide) (fun c6 => ?_) (fun c6 => ?_)
    · refine fm_less (lv' := []) (by repeat (first | exact trivial | refine ⟨rfl, ?_⟩)) ?_
      exact hK  _ _
    · refine fm_aload_n (pc := 100) C dX1_lay_100 rfl rfl ?_
      refine g1_count (pc := 101) C (by decide) dX1_lay_101 m_fl_X1_55 ?_
      refine fm_bipush (pc := 104) (v := (nI 12)) C dX1_lay_104 (by decide) ?_
      refine fm_icmp_ge (pc := 106) (tgt := 142) C dX1_lay_106 (by decide) (fun c7 => ?_) (fun c7 => ?_)
      · refine fm_less (lv' := []) (by repeat (first | exact trivial | refine ⟨rfl, ?_⟩)) ?_
        exact hK  _ _
      · refine fm_aload_n (pc := 109) C dX1_lay_109 rfl rfl ?_
        refine g1_pieceOfStrip (pc := 110) C (by decide) dX1_lay_110 m_fl_X1_15 ?_
        refine fm_iload (pc := 113) C dX1_lay_113 rfl ?_
        refine fm_guard (fun h8 => ?_)
        refine fm_iald (pc := 115) C (by decide) h8 dX1_lay_115 ?_
        refine fm_iconst (pc := 116) (v := (-1 : Int32)) C dX1_lay_116 (by decide) ?_
        refine fm_icmp_ne (pc := 117) (tgt := 136) C dX1_lay_117 (by decide) (fun c9 => ?_) (fun c9 => ?_)
        · refine fm_aload_n (pc := 120) C dX1_lay_120 rfl rfl ?_
          refine fm_iload (pc := 121) C dX1_lay_121 rfl ?_
          refine fm_bind (fun r123 e123 => ?_)
          refine fm_cVv (pc := 123) C (t_X1_followRound e123) ok_X1_followRound ⟨by decide, rfl⟩ m_ml_X1_58 dX1_lay_123 ⟨Nat.le_of_ble_eq_true rfl, Nat.le_of_ble_eq_true rfl⟩ rfl rfl (Nat.le_of_ble_eq_true rfl) ?_
          refine fm_aload_n (pc := 126) C dX1_lay_126 rfl rfl ?_
          refine fm_dup (pc := 127) C dX1_lay_127 rfl ?_
          refine g1_count (pc := 128) C (by decide) dX1_lay_128 m_fl_X1_55 ?_
          refine fm_iconst (pc := 131) (v := (nI 1)) C dX1_lay_131 (by decide) ?_
          refine fm_iadd (pc := 132) C dX1_lay_132 ?_
          refine p1_count (pc := 133) C (by decide) dX1_lay_133 m_fl_X1_55 ?_
          refine fm_iinc (pc := 136) C dX1_lay_136 rfl (v := (v4 + nI 1)) rfl (by decide) rfl ?_
          refine fm_goto (pc := 139) (tgt := 91) C dX1_lay_139 (by decide) ?_
          refine fm_less (lv' := [(0, .ref (G.2.2.1 5)), (4, .int ((v4 + nI 1)))]) (by repeat (first | exact trivial | refine ⟨rfl, ?_⟩)) ?_
          exact ih _ _ _
        · refine fm_iinc (pc := 136) C dX1_lay_136 rfl (v := (v4 + nI 1)) rfl (by decide) rfl ?_
          refine fm_goto (pc := 139) (tgt := 91) C dX1_lay_139 (by decide) ?_
          refine fm_less (lv' := [(0, .ref (G.2.2.1 5)), (4, .int ((v4 + nI 1)))]) (by repeat (first | exact trivial | refine ⟨rfl, ?_⟩)) ?_
          exact ih _ _ _
set_option maxHeartbeats 4000000 in
set_option maxRecDepth 100000 in
theorem j_X1_lay {X : fm_X} {G : fm_G} {l : Launch} {q1 : Nat} {v2 : Int32} {v3 : Int32} {μ : fm_I} {ν : fm_L} (C : fm_C X G l cX1_lay RX1 5 (none : Option Jvm.ClassFile.FieldType) 3 61) {F : (fm_I × fm_L) → State → Prop} (hF : F = fm_Qv X G) : fm_J X G 5 F (m_X1_lay q1 v2 v3 μ ν) μ ν 0 [(0, .ref (G.2.2.1 5)), (1, .ref (G.2.2.1 q1)), (2, .int v2), (3, .int v3)] [] := by
  unfold m_X1_lay
  refine fm_guard (fun h1 => ?_)
  refine fm_aload_n (pc := 0) C dX1_lay_0 rfl rfl ?_
  refine fm_iconst (pc := 1) (v := (nI 0)) C dX1_lay_1 (by decide) ?_
  refine fm_iload_n (pc := 2) C dX1_lay_2 rfl rfl ?_
  refine fm_bipush (pc := 3) (v := (nI 12)) C dX1_lay_3 (by decide) ?_
  refine fm_mmin (pc := 5) C m_ml_X1_27 dX1_lay_5 ⟨Nat.le_of_ble_eq_true rfl, Nat.le_of_ble_eq_true rfl⟩ ?_
  refine fm_mmax (pc := 8) C m_ml_X1_33 dX1_lay_8 ⟨Nat.le_of_ble_eq_true rfl, Nat.le_of_ble_eq_true rfl⟩ ?_
  refine p1_strips (pc := 11) C (by decide) dX1_lay_11 m_fl_X1_36 ?_
  refine fm_aload_n (pc := 14) C dX1_lay_14 rfl rfl ?_
  refine fm_iload_n (pc := 15) C dX1_lay_15 rfl rfl ?_
  refine p1_twists (pc := 16) C (by decide) dX1_lay_16 m_fl_X1_40 ?_
  refine fm_aload_n (pc := 19) C dX1_lay_19 rfl rfl ?_
  refine fm_aload_n (pc := 20) C dX1_lay_20 rfl rfl ?_
  refine g0_hand (pc := 21) C (Nat.eq_of_beq_eq_true h1) dX1_lay_21 m_fl_X1_43 ?_
  refine fm_iconst (pc := 24) (v := (nI 1)) C dX1_lay_24 (by decide) ?_
  refine fm_icmp_ne (pc := 25) (tgt := 32) C dX1_lay_25 (by decide) (fun c2 => ?_) (fun c2 => ?_)
  · refine fm_iconst (pc := 28) (v := (nI 1)) C dX1_lay_28 (by decide) ?_
    refine fm_goto (pc := 29) (tgt := 33) C dX1_lay_29 (by decide) ?_
    refine p1_sign (pc := 33) C (by decide) dX1_lay_33 m_fl_X1_48 ?_
    refine fm_iconst (pc := 36) (v := (nI 0)) C dX1_lay_36 (by decide) ?_
    refine fm_istore (pc := 37) C dX1_lay_37 (by decide) rfl ?_
    refine fm_less (lv' := [(0, .ref (G.2.2.1 5)), (1, .ref (G.2.2.1 q1)), (4, .int ((nI 0)))]) (by repeat (first | exact trivial | refine ⟨rfl, ?_⟩)) ?_
    refine j_X1_lay_39_ C (q1 := q1) hF (Nat.eq_of_beq_eq_true h1) (fun μ39 ν39 => ?_) _ _ _ _
    refine fm_aload_n (pc := 83) C dX1_lay_83 rfl rfl ?_
    refine fm_iconst (pc := 84) (v := (nI 0)) C dX1_lay_84 (by decide) ?_
    refine p1_count (pc := 85) C (by decide) dX1_lay_85 m_fl_X1_55 ?_
    refine fm_iconst (pc := 88) (v := (nI 0)) C dX1_lay_88 (by decide) ?_
    refine fm_istore (pc := 89) C dX1_lay_89 (by decide) rfl ?_
    refine fm_less (lv' := [(0, .ref (G.2.2.1 5)), (4, .int ((nI 0)))]) (by repeat (first | exact trivial | refine ⟨rfl, ?_⟩)) ?_
    refine j_X1_lay_91_ C  hF  (fun μ91 ν91 => ?_) _ _ _ _
    exact fm_vret (pc := 142) C hF rfl dX1_lay_142
  · refine fm_iconst (pc := 32) (v := (-1 : Int32)) C dX1_lay_32 (by decide) ?_
    refine p1_sign (pc := 33) C (by decide) dX1_lay_33 m_fl_X1_48 ?_
    refine fm_iconst (pc := 36) (v := (nI 0)) C dX1_lay_36 (by decide) ?_
    refine fm_istore (pc := 37) C dX1_lay_37 (by decide) rfl ?_
    refine fm_less (lv' := [(0, .ref (G.2.2.1 5)), (1, .ref (G.2.2.1 q1)), (4, .int ((nI 0)))]) (by repeat (first | exact trivial | refine ⟨rfl, ?_⟩)) ?_
    refine j_X1_lay_39_ C (q1 := q1) hF (Nat.eq_of_beq_eq_true h1) (fun μ39 ν39 => ?_) _ _ _ _
    refine fm_aload_n (pc := 83) C dX1_lay_83 rfl rfl ?_
    refine fm_iconst (pc := 84) (v := (nI 0)) C dX1_lay_84 (by decide) ?_
    refine p1_count (pc := 85) C (by decide) dX1_lay_85 m_fl_X1_55 ?_
    refine fm_iconst (pc := 88) (v := (nI 0)) C dX1_lay_88 (by decide) ?_
    refine fm_istore (pc := 89) C dX1_lay_89 (by decide) rfl ?_
    refine fm_less (lv' := [(0, .ref (G.2.2.1 5)), (4, .int ((nI 0)))]) (by repeat (first | exact trivial | refine ⟨rfl, ?_⟩)) ?_
    refine j_X1_lay_91_ C  hF  (fun μ91 ν91 => ?_) _ _ _ _
    exact fm_vret (pc := 142) C hF rfl dX1_lay_142
theorem t_X1_lay {l : Launch} {G : fm_G} {q1 : Nat} {v2 : Int32} {v3 : Int32} {μ : fm_I} {ν : fm_L} {r : fm_I × fm_L} (h : m_X1_lay q1 v2 v3 μ ν = some r) : fm_Mv l G yX1_lay cX1_lay 5 (none : Option Jvm.ClassFile.FieldType) 3 61 [.ref (G.2.2.1 5), .ref (G.2.2.1 q1), .int v2, .int v3] μ ν r := fm_Mv_of (by decide +kernel) (Nat.le_of_ble_eq_true rfl) (fun _ C => j_X1_lay C rfl r h)
theorem dX1_hasPiece_0 : decode cX1_hasPiece 0 = .ok (.iload_n 1, 1) := by decide +kernel
theorem dX1_hasPiece_1 : decode cX1_hasPiece 1 = .ok (.ifCond .lt 15, 3) := by decide +kernel
theorem dX1_hasPiece_4 : decode cX1_hasPiece 4 = .ok (.iload_n 1, 1) := by decide +kernel
theorem dX1_hasPiece_5 : decode cX1_hasPiece 5 = .ok (.aload_n 0, 1) := by decide +kernel
theorem dX1_hasPiece_6 : decode cX1_hasPiece 6 = .ok (.getfield 55, 3) := by decide +kernel
theorem dX1_hasPiece_9 : decode cX1_hasPiece 9 = .ok (.if_icmp .ge 7, 3) := by decide +kernel
theorem dX1_hasPiece_12 : decode cX1_hasPiece 12 = .ok (.iconst 1, 1) := by decide +kernel
theorem dX1_hasPiece_13 : decode cX1_hasPiece 13 = .ok (.goto 4, 3) := by decide +kernel
theorem dX1_hasPiece_16 : decode cX1_hasPiece 16 = .ok (.iconst 0, 1) := by decide +kernel
theorem dX1_hasPiece_17 : decode cX1_hasPiece 17 = .ok (.ireturn, 1) := by decide +kernel
def m_X1_hasPiece (v1 : Int32) (μ : fm_I) (ν : fm_L) : Option (Int32) :=
  if v1 < 0 then some ((nI 0)) else if (μ 5 0) ≤ v1 then some ((nI 0)) else some ((nI 1))
theorem ok_X1_hasPiece : fm_okV yX1_hasPiece cX1_hasPiece 2 (some .boolean) 1 := ⟨m_cd_X1_hasPiece, m_im_X1_hasPiece, m_se_X1_X1_hasPiece, m_ini_X1, by decide +kernel, by decide +kernel, by decide +kernel⟩
set_option maxHeartbeats 4000000 in
set_option maxRecDepth 100000 in
theorem j_X1_hasPiece {X : fm_X} {G : fm_G} {l : Launch} {v1 : Int32} {μ : fm_I} {ν : fm_L} (C : fm_C X G l cX1_hasPiece RX1 2 (some .boolean) 1 12) {F : Int32 → State → Prop} (hF : F = fun r => fm_Qi X G (r, μ, ν)) : fm_J X G 2 F (m_X1_hasPiece v1 μ ν) μ ν 0 [(0, .ref (G.2.2.1 5)), (1, .int v1)] [] := by
  unfold m_X1_hasPiece
  refine fm_iload_n (pc := 0) C dX1_hasPiece_0 rfl rfl ?_
  refine fm_if_lt (pc := 1) (tgt := 16) C dX1_hasPiece_1 (by decide) (fun c1 => ?_) (fun c1 => ?_)
  · refine fm_iconst (pc := 16) (v := (nI 0)) C dX1_hasPiece_16 (by decide) ?_
    exact fm_zret0 (pc := 17) C hF rfl rfl dX1_hasPiece_17
  · refine fm_iload_n (pc := 4) C dX1_hasPiece_4 rfl rfl ?_
    refine fm_aload_n (pc := 5) C dX1_hasPiece_5 rfl rfl ?_
    refine g1_count (pc := 6) C (by decide) dX1_hasPiece_6 m_fl_X1_55 ?_
    refine fm_icmp_ge (pc := 9) (tgt := 16) C dX1_hasPiece_9 (by decide) (fun c2 => ?_) (fun c2 => ?_)
    · refine fm_iconst (pc := 16) (v := (nI 0)) C dX1_hasPiece_16 (by decide) ?_
      exact fm_zret0 (pc := 17) C hF rfl rfl dX1_hasPiece_17
    · refine fm_iconst (pc := 12) (v := (nI 1)) C dX1_hasPiece_12 (by decide) ?_
      refine fm_goto (pc := 13) (tgt := 17) C dX1_hasPiece_13 (by decide) ?_
      exact fm_zret0 (pc := 17) C hF rfl rfl dX1_hasPiece_17
theorem t_X1_hasPiece {l : Launch} {G : fm_G} {v1 : Int32} {μ : fm_I} {ν : fm_L} {r : Int32} (h : m_X1_hasPiece v1 μ ν = some r) : fm_Mi l G yX1_hasPiece cX1_hasPiece 2 (some .boolean) 1 12 [.ref (G.2.2.1 5), .int v1] μ ν (r, μ, ν) := fm_Mi_of (by decide +kernel) (Nat.le_of_ble_eq_true rfl) (fun _ C => j_X1_hasPiece C rfl r h)
theorem dX1_members_0 : decode cX1_members 0 = .ok (.aload_n 0, 1) := by decide +kernel
theorem dX1_members_1 : decode cX1_members 1 = .ok (.iload_n 1, 1) := by decide +kernel
theorem dX1_members_2 : decode cX1_members 2 = .ok (.invokevirtual 62, 3) := by decide +kernel
theorem dX1_members_5 : decode cX1_members 5 = .ok (.ifCond .eq 12, 3) := by decide +kernel
theorem dX1_members_8 : decode cX1_members 8 = .ok (.aload_n 0, 1) := by decide +kernel
theorem dX1_members_9 : decode cX1_members 9 = .ok (.getfield 18, 3) := by decide +kernel
theorem dX1_members_12 : decode cX1_members 12 = .ok (.iload_n 1, 1) := by decide +kernel
theorem dX1_members_13 : decode cX1_members 13 = .ok (.iaload, 1) := by decide +kernel
theorem dX1_members_14 : decode cX1_members 14 = .ok (.goto 4, 3) := by decide +kernel
theorem dX1_members_17 : decode cX1_members 17 = .ok (.iconst 0, 1) := by decide +kernel
theorem dX1_members_18 : decode cX1_members 18 = .ok (.ireturn, 1) := by decide +kernel
def m_X1_members (v1 : Int32) (μ : fm_I) (ν : fm_L) : Option (Int32) :=
  (m_X1_hasPiece v1 μ ν).bind (fun r2 => if r2 = 0 then some ((nI 0)) else fm_g (fm_in v1 (fm_n 11)) (some ((μ 11 v1.toNatClampNeg))))
theorem ok_X1_members : fm_okV yX1_members cX1_members 2 (some .int) 1 := ⟨m_cd_X1_members, m_im_X1_members, m_se_X1_X1_members, m_ini_X1, by decide +kernel, by decide +kernel, by decide +kernel⟩
set_option maxHeartbeats 4000000 in
set_option maxRecDepth 100000 in
theorem j_X1_members {X : fm_X} {G : fm_G} {l : Launch} {v1 : Int32} {μ : fm_I} {ν : fm_L} (C : fm_C X G l cX1_members RX1 2 (some .int) 2 33) {F : Int32 → State → Prop} (hF : F = fun r => fm_Qi X G (r, μ, ν)) : fm_J X G 2 F (m_X1_members v1 μ ν) μ ν 0 [(0, .ref (G.2.2.1 5)), (1, .int v1)] [] := by
  unfold m_X1_members
  refine fm_aload_n (pc := 0) C dX1_members_0 rfl rfl ?_
  refine fm_iload_n (pc := 1) C dX1_members_1 rfl rfl ?_
  refine fm_bind (fun r2 e2 => ?_)
  refine fm_cVi0 (pc := 2) C (t_X1_hasPiece e2) ok_X1_hasPiece ⟨by decide, rfl⟩ m_ml_X1_62 dX1_members_2 ⟨Nat.le_of_ble_eq_true rfl, Nat.le_of_ble_eq_true rfl⟩ rfl rfl (Nat.le_of_ble_eq_true rfl) ?_
  refine fm_if_eq (pc := 5) (tgt := 17) C dX1_members_5 (by decide) (fun c1 => ?_) (fun c1 => ?_)
  · refine fm_iconst (pc := 17) (v := (nI 0)) C dX1_members_17 (by decide) ?_
    exact fm_zret0 (pc := 18) C hF rfl rfl dX1_members_18
  · refine fm_aload_n (pc := 8) C dX1_members_8 rfl rfl ?_
    refine g1_membersOfPiece (pc := 9) C (by decide) dX1_members_9 m_fl_X1_18 ?_
    refine fm_iload_n (pc := 12) C dX1_members_12 rfl rfl ?_
    refine fm_guard (fun h2 => ?_)
    refine fm_iald (pc := 13) C (by decide) h2 dX1_members_13 ?_
    refine fm_goto (pc := 14) (tgt := 18) C dX1_members_14 (by decide) ?_
    exact fm_zret0 (pc := 18) C hF rfl rfl dX1_members_18
theorem t_X1_members {l : Launch} {G : fm_G} {v1 : Int32} {μ : fm_I} {ν : fm_L} {r : Int32} (h : m_X1_members v1 μ ν = some r) : fm_Mi l G yX1_members cX1_members 2 (some .int) 2 33 [.ref (G.2.2.1 5), .int v1] μ ν (r, μ, ν) := fm_Mi_of (by decide +kernel) (Nat.le_of_ble_eq_true rfl) (fun _ C => j_X1_members C rfl r h)
theorem dX1_size_0 : decode cX1_size 0 = .ok (.aload_n 0, 1) := by decide +kernel
theorem dX1_size_1 : decode cX1_size 1 = .ok (.iload_n 1, 1) := by decide +kernel
theorem dX1_size_2 : decode cX1_size 2 = .ok (.invokevirtual 66, 3) := by decide +kernel
theorem dX1_size_5 : decode cX1_size 5 = .ok (.invokestatic 70, 3) := by decide +kernel
theorem dX1_size_8 : decode cX1_size 8 = .ok (.ireturn, 1) := by decide +kernel
def m_X1_size (v1 : Int32) (μ : fm_I) (ν : fm_L) : Option (Int32) :=
  (m_X1_members v1 μ ν).bind (fun r2 => (m_J6_bitCount_0f7a4 r2 μ ν).bind (fun r5 => some r5))
theorem ok_X1_size : fm_okV yX1_size cX1_size 2 (some .int) 1 := ⟨m_cd_X1_size, m_im_X1_size, m_se_X1_X1_size, m_ini_X1, by decide +kernel, by decide +kernel, by decide +kernel⟩
set_option maxHeartbeats 4000000 in
set_option maxRecDepth 100000 in
theorem j_X1_size {X : fm_X} {G : fm_G} {l : Launch} {v1 : Int32} {μ : fm_I} {ν : fm_L} (C : fm_C X G l cX1_size RX1 2 (some .int) 3 54) {F : Int32 → State → Prop} (hF : F = fun r => fm_Qi X G (r, μ, ν)) : fm_J X G 2 F (m_X1_size v1 μ ν) μ ν 0 [(0, .ref (G.2.2.1 5)), (1, .int v1)] [] := by
  unfold m_X1_size
  refine fm_aload_n (pc := 0) C dX1_size_0 rfl rfl ?_
  refine fm_iload_n (pc := 1) C dX1_size_1 rfl rfl ?_
  refine fm_bind (fun r2 e2 => ?_)
  refine fm_cVi0 (pc := 2) C (t_X1_members e2) ok_X1_members ⟨by decide, rfl⟩ m_ml_X1_66 dX1_size_2 ⟨Nat.le_of_ble_eq_true rfl, Nat.le_of_ble_eq_true rfl⟩ rfl rfl (Nat.le_of_ble_eq_true rfl) ?_
  refine fm_bind (fun r5 e5 => ?_)
  refine fm_cSi0 (pc := 5) C (t_J6_bitCount_0f7a4 e5) ok_J6_bitCount_0f7a4 m_ml_X1_70 dX1_size_5 ⟨Nat.le_of_ble_eq_true rfl, Nat.le_of_ble_eq_true rfl⟩ rfl rfl (Nat.le_of_ble_eq_true rfl) ?_
  exact fm_zret0 (pc := 8) C hF rfl rfl dX1_size_8
theorem t_X1_size {l : Launch} {G : fm_G} {v1 : Int32} {μ : fm_I} {ν : fm_L} {r : Int32} (h : m_X1_size v1 μ ν = some r) : fm_Mi l G yX1_size cX1_size 2 (some .int) 3 54 [.ref (G.2.2.1 5), .int v1] μ ν (r, μ, ν) := fm_Mi_of (by decide +kernel) (Nat.le_of_ble_eq_true rfl) (fun _ C => j_X1_size C rfl r h)
theorem dX5_turnsOfSize_0 : decode cX5_turnsOfSize 0 = .ok (.iload_n 0, 1) := by decide +kernel
theorem dX5_turnsOfSize_1 : decode cX5_turnsOfSize 1 = .ok (.i2l, 1) := by decide +kernel
theorem dX5_turnsOfSize_2 : decode cX5_turnsOfSize 2 = .ok (.iload_n 1, 1) := by decide +kernel
theorem dX5_turnsOfSize_3 : decode cX5_turnsOfSize 3 = .ok (.i2l, 1) := by decide +kernel
theorem dX5_turnsOfSize_4 : decode cX5_turnsOfSize 4 = .ok (.lmul, 1) := by decide +kernel
theorem dX5_turnsOfSize_5 : decode cX5_turnsOfSize 5 = .ok (.ldc2_w 272, 3) := by decide +kernel
theorem dX5_turnsOfSize_8 : decode cX5_turnsOfSize 8 = .ok (.iload_n 1, 1) := by decide +kernel
theorem dX5_turnsOfSize_9 : decode cX5_turnsOfSize 9 = .ok (.iconst 1, 1) := by decide +kernel
theorem dX5_turnsOfSize_10 : decode cX5_turnsOfSize 10 = .ok (.isub, 1) := by decide +kernel
theorem dX5_turnsOfSize_11 : decode cX5_turnsOfSize 11 = .ok (.i2l, 1) := by decide +kernel
theorem dX5_turnsOfSize_12 : decode cX5_turnsOfSize 12 = .ok (.lmul, 1) := by decide +kernel
theorem dX5_turnsOfSize_13 : decode cX5_turnsOfSize 13 = .ok (.ladd, 1) := by decide +kernel
theorem dX5_turnsOfSize_14 : decode cX5_turnsOfSize 14 = .ok (.lreturn, 1) := by decide +kernel
def m_X5_turnsOfSize (v0 : Int32) (v1 : Int32) (μ : fm_I) (ν : fm_L) : Option (Int64) :=
  some ((((v0.toInt64 * v1.toInt64)) + ((((lN 2)) * (((v1 - ((nI 1)))).toInt64)))))
theorem ok_X5_turnsOfSize : fm_okS yX5_turnsOfSize cX5_turnsOfSize 2 (some .long) 2 := ⟨m_cd_X5_turnsOfSize, m_st_X5_turnsOfSize, m_ini_X5, by decide +kernel, by decide +kernel, by decide +kernel⟩
set_option maxHeartbeats 4000000 in
set_option maxRecDepth 100000 in
theorem j_X5_turnsOfSize {X : fm_X} {G : fm_G} {l : Launch} {v0 : Int32} {v1 : Int32} {μ : fm_I} {ν : fm_L} (C : fm_C X G l cX5_turnsOfSize RX5 2 (some .long) 1 12) {F : Int64 → State → Prop} (hF : F = fun r => fm_Ql X G (r, μ, ν)) : fm_J X G 2 F (m_X5_turnsOfSize v0 v1 μ ν) μ ν 0 [(0, .int v0), (1, .int v1)] [] := by
  unfold m_X5_turnsOfSize
  refine fm_iload_n (pc := 0) C dX5_turnsOfSize_0 rfl rfl ?_
  refine fm_i2l (pc := 1) C dX5_turnsOfSize_1 ?_
  refine fm_iload_n (pc := 2) C dX5_turnsOfSize_2 rfl rfl ?_
  refine fm_i2l (pc := 3) C dX5_turnsOfSize_3 ?_
  refine fm_lmul (pc := 4) C dX5_turnsOfSize_4 ?_
  refine fm_ldc2 (pc := 5) (v := (lN 2)) C dX5_turnsOfSize_5 m_cl_X5_272 ?_
  refine fm_iload_n (pc := 8) C dX5_turnsOfSize_8 rfl rfl ?_
  refine fm_iconst (pc := 9) (v := (nI 1)) C dX5_turnsOfSize_9 (by decide) ?_
  refine fm_isub (pc := 10) C dX5_turnsOfSize_10 ?_
  refine fm_i2l (pc := 11) C dX5_turnsOfSize_11 ?_
  refine fm_lmul (pc := 12) C dX5_turnsOfSize_12 ?_
  refine fm_ladd (pc := 13) C dX5_turnsOfSize_13 ?_
  exact fm_lret0 (pc := 14) C hF rfl dX5_turnsOfSize_14
theorem t_X5_turnsOfSize {l : Launch} {G : fm_G} {v0 : Int32} {v1 : Int32} {μ : fm_I} {ν : fm_L} {r : Int64} (h : m_X5_turnsOfSize v0 v1 μ ν = some r) : fm_Ml l G yX5_turnsOfSize cX5_turnsOfSize 2 (some .long) 1 12 [.int v0, .int v1] μ ν (r, μ, ν) := fm_Ml_of (by decide +kernel) (Nat.le_of_ble_eq_true rfl) (fun _ C => j_X5_turnsOfSize C rfl r h)
theorem dX1_turnsOf_0 : decode cX1_turnsOf 0 = .ok (.aload_n 0, 1) := by decide +kernel
theorem dX1_turnsOf_1 : decode cX1_turnsOf 1 = .ok (.getfield 40, 3) := by decide +kernel
theorem dX1_turnsOf_4 : decode cX1_turnsOf 4 = .ok (.aload_n 0, 1) := by decide +kernel
theorem dX1_turnsOf_5 : decode cX1_turnsOf 5 = .ok (.iload_n 1, 1) := by decide +kernel
theorem dX1_turnsOf_6 : decode cX1_turnsOf 6 = .ok (.invokevirtual 75, 3) := by decide +kernel
theorem dX1_turnsOf_9 : decode cX1_turnsOf 9 = .ok (.invokestatic 78, 3) := by decide +kernel
theorem dX1_turnsOf_12 : decode cX1_turnsOf 12 = .ok (.l2i, 1) := by decide +kernel
theorem dX1_turnsOf_13 : decode cX1_turnsOf 13 = .ok (.ireturn, 1) := by decide +kernel
def m_X1_turnsOf (v1 : Int32) (μ : fm_I) (ν : fm_L) : Option (Int32) :=
  (m_X1_size v1 μ ν).bind (fun r6 => (m_X5_turnsOfSize ((μ 5 2)) r6 μ ν).bind (fun r9 => some r9.toInt32))
theorem ok_X1_turnsOf : fm_okV yX1_turnsOf cX1_turnsOf 2 (some .int) 1 := ⟨m_cd_X1_turnsOf, m_im_X1_turnsOf, m_se_X1_X1_turnsOf, m_ini_X1, by decide +kernel, by decide +kernel, by decide +kernel⟩
set_option maxHeartbeats 4000000 in
set_option maxRecDepth 100000 in
theorem j_X1_turnsOf {X : fm_X} {G : fm_G} {l : Launch} {v1 : Int32} {μ : fm_I} {ν : fm_L} (C : fm_C X G l cX1_turnsOf RX1 2 (some .int) 4 75) {F : Int32 → State → Prop} (hF : F = fun r => fm_Qi X G (r, μ, ν)) : fm_J X G 2 F (m_X1_turnsOf v1 μ ν) μ ν 0 [(0, .ref (G.2.2.1 5)), (1, .int v1)] [] := by
  unfold m_X1_turnsOf
  refine fm_aload_n (pc := 0) C dX1_turnsOf_0 rfl rfl ?_
  refine g1_twists (pc := 1) C (by decide) dX1_turnsOf_1 m_fl_X1_40 ?_
  refine fm_aload_n (pc := 4) C dX1_turnsOf_4 rfl rfl ?_
  refine fm_iload_n (pc := 5) C dX1_turnsOf_5 rfl rfl ?_
  refine fm_bind (fun r6 e6 => ?_)
  refine fm_cVi0 (pc := 6) C (t_X1_size e6) ok_X1_size ⟨by decide, rfl⟩ m_ml_X1_75 dX1_turnsOf_6 ⟨Nat.le_of_ble_eq_true rfl, Nat.le_of_ble_eq_true rfl⟩ rfl rfl (Nat.le_of_ble_eq_true rfl) ?_
  refine fm_bind (fun r9 e9 => ?_)
  refine fm_cNl0 (pc := 9) C (t_X5_turnsOfSize e9) ok_X5_turnsOfSize (C.2.2.2.2.2.2.2.2.2.2.2.2.1.2.1) dX1_turnsOf_9 ⟨Nat.le_of_ble_eq_true rfl, Nat.le_of_ble_eq_true rfl⟩ rfl rfl (Nat.le_of_ble_eq_true rfl) ?_
  refine fm_l2i (pc := 12) C dX1_turnsOf_12 ?_
  exact fm_zret0 (pc := 13) C hF rfl rfl dX1_turnsOf_13
theorem t_X1_turnsOf {l : Launch} {G : fm_G} {v1 : Int32} {μ : fm_I} {ν : fm_L} {r : Int32} (h : m_X1_turnsOf v1 μ ν = some r) : fm_Mi l G yX1_turnsOf cX1_turnsOf 2 (some .int) 4 75 [.ref (G.2.2.1 5), .int v1] μ ν (r, μ, ν) := fm_Mi_of (by decide +kernel) (Nat.le_of_ble_eq_true rfl) (fun _ C => j_X1_turnsOf C rfl r h)
theorem dX1_isOneSided_0 : decode cX1_isOneSided 0 = .ok (.aload_n 0, 1) := by decide +kernel
theorem dX1_isOneSided_1 : decode cX1_isOneSided 1 = .ok (.iload_n 1, 1) := by decide +kernel
theorem dX1_isOneSided_2 : decode cX1_isOneSided 2 = .ok (.invokevirtual 82, 3) := by decide +kernel
theorem dX1_isOneSided_5 : decode cX1_isOneSided 5 = .ok (.invokestatic 85, 3) := by decide +kernel
theorem dX1_isOneSided_8 : decode cX1_isOneSided 8 = .ok (.ireturn, 1) := by decide +kernel
def m_X1_isOneSided (v1 : Int32) (μ : fm_I) (ν : fm_L) : Option (Int32) :=
  (m_X1_turnsOf v1 μ ν).bind (fun r2 => (m_X5_isOdd r2 μ ν).bind (fun r5 => fm_g (fm_b01 r5) (some r5)))
theorem ok_X1_isOneSided : fm_okV yX1_isOneSided cX1_isOneSided 2 (some .boolean) 1 := ⟨m_cd_X1_isOneSided, m_im_X1_isOneSided, m_se_X1_X1_isOneSided, m_ini_X1, by decide +kernel, by decide +kernel, by decide +kernel⟩
set_option maxHeartbeats 4000000 in
set_option maxRecDepth 100000 in
theorem j_X1_isOneSided {X : fm_X} {G : fm_G} {l : Launch} {v1 : Int32} {μ : fm_I} {ν : fm_L} (C : fm_C X G l cX1_isOneSided RX1 2 (some .boolean) 5 96) {F : Int32 → State → Prop} (hF : F = fun r => fm_Qi X G (r, μ, ν)) : fm_J X G 2 F (m_X1_isOneSided v1 μ ν) μ ν 0 [(0, .ref (G.2.2.1 5)), (1, .int v1)] [] := by
  unfold m_X1_isOneSided
  refine fm_aload_n (pc := 0) C dX1_isOneSided_0 rfl rfl ?_
  refine fm_iload_n (pc := 1) C dX1_isOneSided_1 rfl rfl ?_
  refine fm_bind (fun r2 e2 => ?_)
  refine fm_cVi0 (pc := 2) C (t_X1_turnsOf e2) ok_X1_turnsOf ⟨by decide, rfl⟩ m_ml_X1_82 dX1_isOneSided_2 ⟨Nat.le_of_ble_eq_true rfl, Nat.le_of_ble_eq_true rfl⟩ rfl rfl (Nat.le_of_ble_eq_true rfl) ?_
  refine fm_bind (fun r5 e5 => ?_)
  refine fm_cNi0 (pc := 5) C (t_X5_isOdd e5) ok_X5_isOdd (C.2.2.2.2.2.2.2.2.2.2.2.2.1.2.2.1) dX1_isOneSided_5 ⟨Nat.le_of_ble_eq_true rfl, Nat.le_of_ble_eq_true rfl⟩ rfl rfl (Nat.le_of_ble_eq_true rfl) ?_
  refine fm_guard (fun h1 => ?_)
  exact fm_zret0 (pc := 8) C hF rfl (fm_b01_n h1) dX1_isOneSided_8
theorem t_X1_isOneSided {l : Launch} {G : fm_G} {v1 : Int32} {μ : fm_I} {ν : fm_L} {r : Int32} (h : m_X1_isOneSided v1 μ ν = some r) : fm_Mi l G yX1_isOneSided cX1_isOneSided 2 (some .boolean) 5 96 [.ref (G.2.2.1 5), .int v1] μ ν (r, μ, ν) := fm_Mi_of (by decide +kernel) (Nat.le_of_ble_eq_true rfl) (fun _ C => j_X1_isOneSided C rfl r h)
theorem dX1_pieceWith_0 : decode cX1_pieceWith 0 = .ok (.iload_n 1, 1) := by decide +kernel
theorem dX1_pieceWith_1 : decode cX1_pieceWith 1 = .ok (.ifCond .lt 20, 3) := by decide +kernel
theorem dX1_pieceWith_4 : decode cX1_pieceWith 4 = .ok (.iload_n 1, 1) := by decide +kernel
theorem dX1_pieceWith_5 : decode cX1_pieceWith 5 = .ok (.aload_n 0, 1) := by decide +kernel
theorem dX1_pieceWith_6 : decode cX1_pieceWith 6 = .ok (.getfield 36, 3) := by decide +kernel
theorem dX1_pieceWith_9 : decode cX1_pieceWith 9 = .ok (.if_icmp .ge 12, 3) := by decide +kernel
theorem dX1_pieceWith_12 : decode cX1_pieceWith 12 = .ok (.aload_n 0, 1) := by decide +kernel
theorem dX1_pieceWith_13 : decode cX1_pieceWith 13 = .ok (.getfield 15, 3) := by decide +kernel
theorem dX1_pieceWith_16 : decode cX1_pieceWith 16 = .ok (.iload_n 1, 1) := by decide +kernel
theorem dX1_pieceWith_17 : decode cX1_pieceWith 17 = .ok (.iaload, 1) := by decide +kernel
theorem dX1_pieceWith_18 : decode cX1_pieceWith 18 = .ok (.goto 4, 3) := by decide +kernel
theorem dX1_pieceWith_21 : decode cX1_pieceWith 21 = .ok (.iconst (-1), 1) := by decide +kernel
theorem dX1_pieceWith_22 : decode cX1_pieceWith 22 = .ok (.ireturn, 1) := by decide +kernel
def m_X1_pieceWith (v1 : Int32) (μ : fm_I) (ν : fm_L) : Option (Int32) :=
  if v1 < 0 then some ((-1 : Int32)) else if (μ 5 1) ≤ v1 then some ((-1 : Int32)) else fm_g (fm_in v1 (fm_n 10)) (some ((μ 10 v1.toNatClampNeg)))
theorem ok_X1_pieceWith : fm_okV yX1_pieceWith cX1_pieceWith 2 (some .int) 1 := ⟨m_cd_X1_pieceWith, m_im_X1_pieceWith, m_se_X1_X1_pieceWith, m_ini_X1, by decide +kernel, by decide +kernel, by decide +kernel⟩
set_option maxHeartbeats 4000000 in
set_option maxRecDepth 100000 in
theorem j_X1_pieceWith {X : fm_X} {G : fm_G} {l : Launch} {v1 : Int32} {μ : fm_I} {ν : fm_L} (C : fm_C X G l cX1_pieceWith RX1 2 (some .int) 1 12) {F : Int32 → State → Prop} (hF : F = fun r => fm_Qi X G (r, μ, ν)) : fm_J X G 2 F (m_X1_pieceWith v1 μ ν) μ ν 0 [(0, .ref (G.2.2.1 5)), (1, .int v1)] [] := by
  unfold m_X1_pieceWith
  refine fm_iload_n (pc := 0) C dX1_pieceWith_0 rfl rfl ?_
  refine fm_if_lt (pc := 1) (tgt := 21) C dX1_pieceWith_1 (by decide) (fun c1 => ?_) (fun c1 => ?_)
  · refine fm_iconst (pc := 21) (v := (-1 : Int32)) C dX1_pieceWith_21 (by decide) ?_
    exact fm_zret0 (pc := 22) C hF rfl rfl dX1_pieceWith_22
  · refine fm_iload_n (pc := 4) C dX1_pieceWith_4 rfl rfl ?_
    refine fm_aload_n (pc := 5) C dX1_pieceWith_5 rfl rfl ?_
    refine g1_strips (pc := 6) C (by decide) dX1_pieceWith_6 m_fl_X1_36 ?_
    refine fm_icmp_ge (pc := 9) (tgt := 21) C dX1_pieceWith_9 (by decide) (fun c2 => ?_) (fun c2 => ?_)
    · refine fm_iconst (pc := 21) (v := (-1 : Int32)) C dX1_pieceWith_21 (by decide) ?_
      exact fm_zret0 (pc := 22) C hF rfl rfl dX1_pieceWith_22
    · refine fm_aload_n (pc := 12) C dX1_pieceWith_12 rfl rfl ?_
      refine g1_pieceOfStrip (pc := 13) C (by decide) dX1_pieceWith_13 m_fl_X1_15 ?_
      refine fm_iload_n (pc := 16) C dX1_pieceWith_16 rfl rfl ?_
      refine fm_guard (fun h3 => ?_)
      refine fm_iald (pc := 17) C (by decide) h3 dX1_pieceWith_17 ?_
      refine fm_goto (pc := 18) (tgt := 22) C dX1_pieceWith_18 (by decide) ?_
      exact fm_zret0 (pc := 22) C hF rfl rfl dX1_pieceWith_22
theorem t_X1_pieceWith {l : Launch} {G : fm_G} {v1 : Int32} {μ : fm_I} {ν : fm_L} {r : Int32} (h : m_X1_pieceWith v1 μ ν = some r) : fm_Mi l G yX1_pieceWith cX1_pieceWith 2 (some .int) 1 12 [.ref (G.2.2.1 5), .int v1] μ ν (r, μ, ν) := fm_Mi_of (by decide +kernel) (Nat.le_of_ble_eq_true rfl) (fun _ C => j_X1_pieceWith C rfl r h)
theorem dX1_crossing_0 : decode cX1_crossing 0 = .ok (.iload_n 1, 1) := by decide +kernel
theorem dX1_crossing_1 : decode cX1_crossing 1 = .ok (.iload_n 2, 1) := by decide +kernel
theorem dX1_crossing_2 : decode cX1_crossing 2 = .ok (.invokestatic 27, 3) := by decide +kernel
theorem dX1_crossing_5 : decode cX1_crossing 5 = .ok (.istore_n 3, 1) := by decide +kernel
theorem dX1_crossing_6 : decode cX1_crossing 6 = .ok (.iload_n 1, 1) := by decide +kernel
theorem dX1_crossing_7 : decode cX1_crossing 7 = .ok (.iload_n 2, 1) := by decide +kernel
theorem dX1_crossing_8 : decode cX1_crossing 8 = .ok (.invokestatic 33, 3) := by decide +kernel
theorem dX1_crossing_11 : decode cX1_crossing 11 = .ok (.istore 4, 2) := by decide +kernel
theorem dX1_crossing_13 : decode cX1_crossing 13 = .ok (.iload_n 3, 1) := by decide +kernel
theorem dX1_crossing_14 : decode cX1_crossing 14 = .ok (.ifCond .lt 12, 3) := by decide +kernel
theorem dX1_crossing_17 : decode cX1_crossing 17 = .ok (.iload 4, 2) := by decide +kernel
theorem dX1_crossing_19 : decode cX1_crossing 19 = .ok (.aload_n 0, 1) := by decide +kernel
theorem dX1_crossing_20 : decode cX1_crossing 20 = .ok (.getfield 36, 3) := by decide +kernel
theorem dX1_crossing_23 : decode cX1_crossing 23 = .ok (.if_icmp .lt 5, 3) := by decide +kernel
theorem dX1_crossing_26 : decode cX1_crossing 26 = .ok (.iconst 0, 1) := by decide +kernel
theorem dX1_crossing_27 : decode cX1_crossing 27 = .ok (.ireturn, 1) := by decide +kernel
theorem dX1_crossing_28 : decode cX1_crossing 28 = .ok (.aload_n 0, 1) := by decide +kernel
theorem dX1_crossing_29 : decode cX1_crossing 29 = .ok (.getfield 9, 3) := by decide +kernel
theorem dX1_crossing_32 : decode cX1_crossing 32 = .ok (.iload_n 3, 1) := by decide +kernel
theorem dX1_crossing_33 : decode cX1_crossing 33 = .ok (.iaload, 1) := by decide +kernel
theorem dX1_crossing_34 : decode cX1_crossing 34 = .ok (.aload_n 0, 1) := by decide +kernel
theorem dX1_crossing_35 : decode cX1_crossing 35 = .ok (.getfield 9, 3) := by decide +kernel
theorem dX1_crossing_38 : decode cX1_crossing 38 = .ok (.iload 4, 2) := by decide +kernel
theorem dX1_crossing_40 : decode cX1_crossing 40 = .ok (.iaload, 1) := by decide +kernel
theorem dX1_crossing_41 : decode cX1_crossing 41 = .ok (.if_icmp .ge 7, 3) := by decide +kernel
theorem dX1_crossing_44 : decode cX1_crossing 44 = .ok (.iconst 1, 1) := by decide +kernel
theorem dX1_crossing_45 : decode cX1_crossing 45 = .ok (.goto 4, 3) := by decide +kernel
theorem dX1_crossing_48 : decode cX1_crossing 48 = .ok (.iconst 0, 1) := by decide +kernel
theorem dX1_crossing_49 : decode cX1_crossing 49 = .ok (.istore 5, 2) := by decide +kernel
theorem dX1_crossing_51 : decode cX1_crossing 51 = .ok (.aload_n 0, 1) := by decide +kernel
theorem dX1_crossing_52 : decode cX1_crossing 52 = .ok (.getfield 48, 3) := by decide +kernel
theorem dX1_crossing_55 : decode cX1_crossing 55 = .ok (.aload_n 0, 1) := by decide +kernel
theorem dX1_crossing_56 : decode cX1_crossing 56 = .ok (.getfield 40, 3) := by decide +kernel
theorem dX1_crossing_59 : decode cX1_crossing 59 = .ok (.imul, 1) := by decide +kernel
theorem dX1_crossing_60 : decode cX1_crossing 60 = .ok (.aload_n 0, 1) := by decide +kernel
theorem dX1_crossing_61 : decode cX1_crossing 61 = .ok (.getfield 40, 3) := by decide +kernel
theorem dX1_crossing_64 : decode cX1_crossing 64 = .ok (.invokestatic 85, 3) := by decide +kernel
theorem dX1_crossing_67 : decode cX1_crossing 67 = .ok (.iload 5, 2) := by decide +kernel
theorem dX1_crossing_69 : decode cX1_crossing 69 = .ok (.if_icmp .ne 7, 3) := by decide +kernel
theorem dX1_crossing_72 : decode cX1_crossing 72 = .ok (.iconst 1, 1) := by decide +kernel
theorem dX1_crossing_73 : decode cX1_crossing 73 = .ok (.goto 4, 3) := by decide +kernel
theorem dX1_crossing_76 : decode cX1_crossing 76 = .ok (.iconst 0, 1) := by decide +kernel
theorem dX1_crossing_77 : decode cX1_crossing 77 = .ok (.iadd, 1) := by decide +kernel
theorem dX1_crossing_78 : decode cX1_crossing 78 = .ok (.ireturn, 1) := by decide +kernel
def m_X1_crossing (v1 : Int32) (v2 : Int32) (μ : fm_I) (ν : fm_L) : Option (Int32) :=
  if (if v2 < v1 then v2 else v1) < 0 then some ((nI 0)) else if (if v1 < v2 then v2 else v1) < (μ 5 1) then fm_g (fm_in ((if v2 < v1 then v2 else v1)) (fm_n 9)) (fm_g (fm_in ((if v1 < v2 then v2 else v1)) (fm_n 9)) (if (μ 9 ((if v1 < v2 then v2 else v1)).toNatClampNeg) ≤ (μ 9 ((if v2 < v1 then v2 else v1)).toNatClampNeg) then (m_X5_isOdd ((μ 5 2)) μ ν).bind (fun r64 => if r64 = (nI 0) then some ((((((μ 5 3)) * ((μ 5 2)))) + ((nI 1)))) else some ((((((μ 5 3)) * ((μ 5 2)))) + ((nI 0))))) else (m_X5_isOdd ((μ 5 2)) μ ν).bind (fun r64 => if r64 = (nI 1) then some ((((((μ 5 3)) * ((μ 5 2)))) + ((nI 1)))) else some ((((((μ 5 3)) * ((μ 5 2)))) + ((nI 0))))))) else some ((nI 0))
theorem ok_X1_crossing : fm_okV yX1_crossing cX1_crossing 6 (some .int) 2 := ⟨m_cd_X1_crossing, m_im_X1_crossing, m_se_X1_X1_crossing, m_ini_X1, by decide +kernel, by decide +kernel, by decide +kernel⟩
set_option maxHeartbeats 4000000 in
set_option maxRecDepth 100000 in
theorem j_X1_crossing {X : fm_X} {G : fm_G} {l : Launch} {v1 : Int32} {v2 : Int32} {μ : fm_I} {ν : fm_L} (C : fm_C X G l cX1_crossing RX1 6 (some .int) 2 41) {F : Int32 → State → Prop} (hF : F = fun r => fm_Qi X G (r, μ, ν)) : fm_J X G 6 F (m_X1_crossing v1 v2 μ ν) μ ν 0 [(0, .ref (G.2.2.1 5)), (1, .int v1), (2, .int v2)] [] := by
  unfold m_X1_crossing
  refine fm_iload_n (pc := 0) C dX1_crossing_0 rfl rfl ?_
  refine fm_iload_n (pc := 1) C dX1_crossing_1 rfl rfl ?_
  refine fm_mmin (pc := 2) C m_ml_X1_27 dX1_crossing_2 ⟨Nat.le_of_ble_eq_true rfl, Nat.le_of_ble_eq_true rfl⟩ ?_
  refine fm_istore_n (pc := 5) C dX1_crossing_5 rfl (by decide) rfl ?_
  refine fm_iload_n (pc := 6) C dX1_crossing_6 rfl rfl ?_
  refine fm_iload_n (pc := 7) C dX1_crossing_7 rfl rfl ?_
  refine fm_mmax (pc := 8) C m_ml_X1_33 dX1_crossing_8 ⟨Nat.le_of_ble_eq_true rfl, Nat.le_of_ble_eq_true rfl⟩ ?_
  refine fm_istore (pc := 11) C dX1_crossing_11 (by decide) rfl ?_
  refine fm_iload_n (pc := 13) C dX1_crossing_13 rfl rfl ?_
  refine fm_if_lt (pc := 14) (tgt := 26) C dX1_crossing_14 (by decide) (fun c1 => ?_) (fun c1 => ?_)
  · refine fm_iconst (pc := 26) (v := (nI 0)) C dX1_crossing_26 (by decide) ?_
    exact fm_zret0 (pc := 27) C hF rfl rfl dX1_crossing_27
  · refine fm_iload (pc := 17) C dX1_crossing_17 rfl ?_
    refine fm_aload_n (pc := 19) C dX1_crossing_19 rfl rfl ?_
    refine g1_strips (pc := 20) C (by decide) dX1_crossing_20 m_fl_X1_36 ?_
    refine fm_icmp_lt (pc := 23) (tgt := 28) C dX1_crossing_23 (by decide) (fun c2 => ?_) (fun c2 => ?_)
    · refine fm_aload_n (pc := 28) C dX1_crossing_28 rfl rfl ?_
      refine g1_followers (pc := 29) C (by decide) dX1_crossing_29 m_fl_X1_9 ?_
      refine fm_iload_n (pc := 32) C dX1_crossing_32 rfl rfl ?_
      refine fm_guard (fun h3 => ?_)
      refine fm_iald (pc := 33) C (by decide) h3 dX1_crossing_33 ?_
      refine fm_aload_n (pc := 34) C dX1_crossing_34 rfl rfl ?_
      refine g1_followers (pc := 35) C (by decide) dX1_crossing_35 m_fl_X1_9 ?_
      refine fm_iload (pc := 38) C dX1_crossing_38 rfl ?_
      refine fm_guard (fun h4 => ?_)
      refine fm_iald (pc := 40) C (by decide) h4 dX1_crossing_40 ?_
      refine fm_icmp_ge (pc := 41) (tgt := 48) C dX1_crossing_41 (by decide) (fun c5 => ?_) (fun c5 => ?_)
      · refine fm_iconst (pc := 48) (v := (nI 0)) C dX1_crossing_48 (by decide) ?_
        refine fm_istore (pc := 49) C dX1_crossing_49 (by decide) rfl ?_
        refine fm_aload_n (pc := 51) C dX1_crossing_51 rfl rfl ?_
        refine g1_sign (pc := 52) C (by decide) dX1_crossing_52 m_fl_X1_48 ?_
        refine fm_aload_n (pc := 55) C dX1_crossing_55 rfl rfl ?_
        refine g1_twists (pc := 56) C (by decide) dX1_crossing_56 m_fl_X1_40 ?_
        refine fm_imul (pc := 59) C dX1_crossing_59 ?_
        refine fm_aload_n (pc := 60) C dX1_crossing_60 rfl rfl ?_
        refine g1_twists (pc := 61) C (by decide) dX1_crossing_61 m_fl_X1_40 ?_
        refine fm_bind (fun r64 e64 => ?_)
        refine fm_cNi0 (pc := 64) C (t_X5_isOdd e64) ok_X5_isOdd (C.2.2.2.2.2.2.2.2.2.2.2.2.1.2.2.1) dX1_crossing_64 ⟨Nat.le_of_ble_eq_true rfl, Nat.le_of_ble_eq_true rfl⟩ rfl rfl (Nat.le_of_ble_eq_true rfl) ?_
        refine fm_iload (pc := 67) C dX1_crossing_67 rfl ?_
        refine fm_icmp_ne (pc := 69) (tgt := 76) C dX1_crossing_69 (by decide) (fun c6 => ?_) (fun c6 => ?_)
        · refine fm_iconst (pc := 72) (v := (nI 1)) C dX1_crossing_72 (by decide) ?_
          refine fm_goto (pc := 73) (tgt := 77) C dX1_crossing_73 (by decide) ?_
          refine fm_iadd (pc := 77) C dX1_crossing_77 ?_
          exact fm_zret0 (pc := 78) C hF rfl rfl dX1_crossing_78
        · refine fm_iconst (pc := 76) (v := (nI 0)) C dX1_crossing_76 (by decide) ?_
          refine fm_iadd (pc := 77) C dX1_crossing_77 ?_
          exact fm_zret0 (pc := 78) C hF rfl rfl dX1_crossing_78
      · refine fm_iconst (pc := 44) (v := (nI 1)) C dX1_crossing_44 (by decide) ?_
        refine fm_goto (pc := 45) (tgt := 49) C dX1_crossing_45 (by decide) ?_
        refine fm_istore (pc := 49) C dX1_crossing_49 (by decide) rfl ?_
        refine fm_aload_n (pc := 51) C dX1_crossing_51 rfl rfl ?_
        refine g1_sign (pc := 52) C (by decide) dX1_crossing_52 m_fl_X1_48 ?_
        refine fm_aload_n (pc := 55) C dX1_crossing_55 rfl rfl ?_
        refine g1_twists (pc := 56) C (by decide) dX1_crossing_56 m_fl_X1_40 ?_
        refine fm_imul (pc := 59) C dX1_crossing_59 ?_
        refine fm_aload_n (pc := 60) C dX1_crossing_60 rfl rfl ?_
        refine g1_twists (pc := 61) C (by decide) dX1_crossing_61 m_fl_X1_40 ?_
        refine fm_bind (fun r64 e64 => ?_)
        refine fm_cNi0 (pc := 64) C (t_X5_isOdd e64) ok_X5_isOdd (C.2.2.2.2.2.2.2.2.2.2.2.2.1.2.2.1) dX1_crossing_64 ⟨Nat.le_of_ble_eq_true rfl, Nat.le_of_ble_eq_true rfl⟩ rfl rfl (Nat.le_of_ble_eq_true rfl) ?_
        refine fm_iload (pc := 67) C dX1_crossing_67 rfl ?_
        refine fm_icmp_ne (pc := 69) (tgt := 76) C dX1_crossing_69 (by decide) (fun c7 => ?_) (fun c7 => ?_)
        · refine fm_iconst (pc := 72) (v := (nI 1)) C dX1_crossing_72 (by decide) ?_
          refine fm_goto (pc := 73) (tgt := 77) C dX1_crossing_73 (by decide) ?_
          refine fm_iadd (pc := 77) C dX1_crossing_77 ?_
          exact fm_zret0 (pc := 78) C hF rfl rfl dX1_crossing_78
        · refine fm_iconst (pc := 76) (v := (nI 0)) C dX1_crossing_76 (by decide) ?_
          refine fm_iadd (pc := 77) C dX1_crossing_77 ?_
          exact fm_zret0 (pc := 78) C hF rfl rfl dX1_crossing_78
    · refine fm_iconst (pc := 26) (v := (nI 0)) C dX1_crossing_26 (by decide) ?_
      exact fm_zret0 (pc := 27) C hF rfl rfl dX1_crossing_27
theorem t_X1_crossing {l : Launch} {G : fm_G} {v1 : Int32} {v2 : Int32} {μ : fm_I} {ν : fm_L} {r : Int32} (h : m_X1_crossing v1 v2 μ ν = some r) : fm_Mi l G yX1_crossing cX1_crossing 6 (some .int) 2 41 [.ref (G.2.2.1 5), .int v1, .int v2] μ ν (r, μ, ν) := fm_Mi_of (by decide +kernel) (Nat.le_of_ble_eq_true rfl) (fun _ C => j_X1_crossing C rfl r h)
theorem dX1_pair_0 : decode cX1_pair 0 = .ok (.aload_n 0, 1) := by decide +kernel
theorem dX1_pair_1 : decode cX1_pair 1 = .ok (.iload_n 1, 1) := by decide +kernel
theorem dX1_pair_2 : decode cX1_pair 2 = .ok (.invokevirtual 62, 3) := by decide +kernel
theorem dX1_pair_5 : decode cX1_pair 5 = .ok (.ifCond .eq 15, 3) := by decide +kernel
theorem dX1_pair_8 : decode cX1_pair 8 = .ok (.aload_n 0, 1) := by decide +kernel
theorem dX1_pair_9 : decode cX1_pair 9 = .ok (.iload_n 2, 1) := by decide +kernel
theorem dX1_pair_10 : decode cX1_pair 10 = .ok (.invokevirtual 62, 3) := by decide +kernel
theorem dX1_pair_13 : decode cX1_pair 13 = .ok (.ifCond .eq 7, 3) := by decide +kernel
theorem dX1_pair_16 : decode cX1_pair 16 = .ok (.iconst 1, 1) := by decide +kernel
theorem dX1_pair_17 : decode cX1_pair 17 = .ok (.goto 4, 3) := by decide +kernel
theorem dX1_pair_20 : decode cX1_pair 20 = .ok (.iconst 0, 1) := by decide +kernel
theorem dX1_pair_21 : decode cX1_pair 21 = .ok (.istore_n 3, 1) := by decide +kernel
theorem dX1_pair_22 : decode cX1_pair 22 = .ok (.iload_n 3, 1) := by decide +kernel
theorem dX1_pair_23 : decode cX1_pair 23 = .ok (.ifCond .eq 20, 3) := by decide +kernel
theorem dX1_pair_26 : decode cX1_pair 26 = .ok (.iload_n 1, 1) := by decide +kernel
theorem dX1_pair_27 : decode cX1_pair 27 = .ok (.iload_n 2, 1) := by decide +kernel
theorem dX1_pair_28 : decode cX1_pair 28 = .ok (.invokestatic 27, 3) := by decide +kernel
theorem dX1_pair_31 : decode cX1_pair 31 = .ok (.bipush 12, 2) := by decide +kernel
theorem dX1_pair_33 : decode cX1_pair 33 = .ok (.imul, 1) := by decide +kernel
theorem dX1_pair_34 : decode cX1_pair 34 = .ok (.iload_n 1, 1) := by decide +kernel
theorem dX1_pair_35 : decode cX1_pair 35 = .ok (.iload_n 2, 1) := by decide +kernel
theorem dX1_pair_36 : decode cX1_pair 36 = .ok (.invokestatic 33, 3) := by decide +kernel
theorem dX1_pair_39 : decode cX1_pair 39 = .ok (.iadd, 1) := by decide +kernel
theorem dX1_pair_40 : decode cX1_pair 40 = .ok (.goto 4, 3) := by decide +kernel
theorem dX1_pair_43 : decode cX1_pair 43 = .ok (.iconst 0, 1) := by decide +kernel
theorem dX1_pair_44 : decode cX1_pair 44 = .ok (.ireturn, 1) := by decide +kernel
def m_X1_pair (v1 : Int32) (v2 : Int32) (μ : fm_I) (ν : fm_L) : Option (Int32) :=
  (m_X1_hasPiece v1 μ ν).bind (fun r2 => if r2 = 0 then if (nI 0) = 0 then some ((nI 0)) else some ((((((if v2 < v1 then v2 else v1)) * ((nI 12)))) + ((if v1 < v2 then v2 else v1)))) else (m_X1_hasPiece v2 μ ν).bind (fun r10 => if r10 = 0 then if (nI 0) = 0 then some ((nI 0)) else some ((((((if v2 < v1 then v2 else v1)) * ((nI 12)))) + ((if v1 < v2 then v2 else v1)))) else if (nI 1) = 0 then some ((nI 0)) else some ((((((if v2 < v1 then v2 else v1)) * ((nI 12)))) + ((if v1 < v2 then v2 else v1))))))
theorem ok_X1_pair : fm_okV yX1_pair cX1_pair 4 (some .int) 2 := ⟨m_cd_X1_pair, m_im_X1_pair, m_se_X1_X1_pair, m_ini_X1, by decide +kernel, by decide +kernel, by decide +kernel⟩
set_option maxHeartbeats 4000000 in
set_option maxRecDepth 100000 in
theorem j_X1_pair {X : fm_X} {G : fm_G} {l : Launch} {v1 : Int32} {v2 : Int32} {μ : fm_I} {ν : fm_L} (C : fm_C X G l cX1_pair RX1 4 (some .int) 2 41) {F : Int32 → State → Prop} (hF : F = fun r => fm_Qi X G (r, μ, ν)) : fm_J X G 4 F (m_X1_pair v1 v2 μ ν) μ ν 0 [(0, .ref (G.2.2.1 5)), (1, .int v1), (2, .int v2)] [] := by
  unfold m_X1_pair
  refine fm_aload_n (pc := 0) C dX1_pair_0 rfl rfl ?_
  refine fm_iload_n (pc := 1) C dX1_pair_1 rfl rfl ?_
  refine fm_bind (fun r2 e2 => ?_)
  refine fm_cVi0 (pc := 2) C (t_X1_hasPiece e2) ok_X1_hasPiece ⟨by decide, rfl⟩ m_ml_X1_62 dX1_pair_2 ⟨Nat.le_of_ble_eq_true rfl, Nat.le_of_ble_eq_true rfl⟩ rfl rfl (Nat.le_of_ble_eq_true rfl) ?_
  refine fm_if_eq (pc := 5) (tgt := 20) C dX1_pair_5 (by decide) (fun c1 => ?_) (fun c1 => ?_)
  · refine fm_iconst (pc := 20) (v := (nI 0)) C dX1_pair_20 (by decide) ?_
    refine fm_istore_n (pc := 21) C dX1_pair_21 rfl (by decide) rfl ?_
    refine fm_iload_n (pc := 22) C dX1_pair_22 rfl rfl ?_
    refine fm_if_eq (pc := 23) (tgt := 43) C dX1_pair_23 (by decide) (fun c2 => ?_) (fun c2 => ?_)
    · refine fm_iconst (pc := 43) (v := (nI 0)) C dX1_pair_43 (by decide) ?_
      exact fm_zret0 (pc := 44) C hF rfl rfl dX1_pair_44
    · refine fm_iload_n (pc := 26) C dX1_pair_26 rfl rfl ?_
      refine fm_iload_n (pc := 27) C dX1_pair_27 rfl rfl ?_
      refine fm_mmin (pc := 28) C m_ml_X1_27 dX1_pair_28 ⟨Nat.le_of_ble_eq_true rfl, Nat.le_of_ble_eq_true rfl⟩ ?_
      refine fm_bipush (pc := 31) (v := (nI 12)) C dX1_pair_31 (by decide) ?_
      refine fm_imul (pc := 33) C dX1_pair_33 ?_
      refine fm_iload_n (pc := 34) C dX1_pair_34 rfl rfl ?_
      refine fm_iload_n (pc := 35) C dX1_pair_35 rfl rfl ?_
      refine fm_mmax (pc := 36) C m_ml_X1_33 dX1_pair_36 ⟨Nat.le_of_ble_eq_true rfl, Nat.le_of_ble_eq_true rfl⟩ ?_
      refine fm_iadd (pc := 39) C dX1_pair_39 ?_
      refine fm_goto (pc := 40) (tgt := 44) C dX1_pair_40 (by decide) ?_
      exact fm_zret0 (pc := 44) C hF rfl rfl dX1_pair_44
  · refine fm_aload_n (pc := 8) C dX1_pair_8 rfl rfl ?_
    refine fm_iload_n (pc := 9) C dX1_pair_9 rfl rfl ?_
    refine fm_bind (fun r10 e10 => ?_)
    refine fm_cVi0 (pc := 10) C (t_X1_hasPiece e10) ok_X1_hasPiece ⟨by decide, rfl⟩ m_ml_X1_62 dX1_pair_10 ⟨Nat.le_of_ble_eq_true rfl, Nat.le_of_ble_eq_true rfl⟩ rfl rfl (Nat.le_of_ble_eq_true rfl) ?_
    refine fm_if_eq (pc := 13) (tgt := 20) C dX1_pair_13 (by decide) (fun c3 => ?_) (fun c3 => ?_)
    · refine fm_iconst (pc := 20) (v := (nI 0)) C dX1_pair_20 (by decide) ?_
      refine fm_istore_n (pc := 21) C dX1_pair_21 rfl (by decide) rfl ?_
      refine fm_iload_n (pc := 22) C dX1_pair_22 rfl rfl ?_
      refine fm_if_eq (pc := 23) (tgt := 43) C dX1_pair_23 (by decide) (fun c4 => ?_) (fun c4 => ?_)
      · refine fm_iconst (pc := 43) (v := (nI 0)) C dX1_pair_43 (by decide) ?_
        exact fm_zret0 (pc := 44) C hF rfl rfl dX1_pair_44
      · refine fm_iload_n (pc := 26) C dX1_pair_26 rfl rfl ?_
        refine fm_iload_n (pc := 27) C dX1_pair_27 rfl rfl ?_
        refine fm_mmin (pc := 28) C m_ml_X1_27 dX1_pair_28 ⟨Nat.le_of_ble_eq_true rfl, Nat.le_of_ble_eq_true rfl⟩ ?_
        refine fm_bipush (pc := 31) (v := (nI 12)) C dX1_pair_31 (by decide) ?_
        refine fm_imul (pc := 33) C dX1_pair_33 ?_
        refine fm_iload_n (pc := 34) C dX1_pair_34 rfl rfl ?_
        refine fm_iload_n (pc := 35) C dX1_pair_35 rfl rfl ?_
        refine fm_mmax (pc := 36) C m_ml_X1_33 dX1_pair_36 ⟨Nat.le_of_ble_eq_true rfl, Nat.le_of_ble_eq_true rfl⟩ ?_
        refine fm_iadd (pc := 39) C dX1_pair_39 ?_
        refine fm_goto (pc := 40) (tgt := 44) C dX1_pair_40 (by decide) ?_
        exact fm_zret0 (pc := 44) C hF rfl rfl dX1_pair_44
    · refine fm_iconst (pc := 16) (v := (nI 1)) C dX1_pair_16 (by decide) ?_
      refine fm_goto (pc := 17) (tgt := 21) C dX1_pair_17 (by decide) ?_
      refine fm_istore_n (pc := 21) C dX1_pair_21 rfl (by decide) rfl ?_
      refine fm_iload_n (pc := 22) C dX1_pair_22 rfl rfl ?_
      refine fm_if_eq (pc := 23) (tgt := 43) C dX1_pair_23 (by decide) (fun c5 => ?_) (fun c5 => ?_)
      · refine fm_iconst (pc := 43) (v := (nI 0)) C dX1_pair_43 (by decide) ?_
        exact fm_zret0 (pc := 44) C hF rfl rfl dX1_pair_44
      · refine fm_iload_n (pc := 26) C dX1_pair_26 rfl rfl ?_
        refine fm_iload_n (pc := 27) C dX1_pair_27 rfl rfl ?_
        refine fm_mmin (pc := 28) C m_ml_X1_27 dX1_pair_28 ⟨Nat.le_of_ble_eq_true rfl, Nat.le_of_ble_eq_true rfl⟩ ?_
        refine fm_bipush (pc := 31) (v := (nI 12)) C dX1_pair_31 (by decide) ?_
        refine fm_imul (pc := 33) C dX1_pair_33 ?_
        refine fm_iload_n (pc := 34) C dX1_pair_34 rfl rfl ?_
        refine fm_iload_n (pc := 35) C dX1_pair_35 rfl rfl ?_
        refine fm_mmax (pc := 36) C m_ml_X1_33 dX1_pair_36 ⟨Nat.le_of_ble_eq_true rfl, Nat.le_of_ble_eq_true rfl⟩ ?_
        refine fm_iadd (pc := 39) C dX1_pair_39 ?_
        refine fm_goto (pc := 40) (tgt := 44) C dX1_pair_40 (by decide) ?_
        exact fm_zret0 (pc := 44) C hF rfl rfl dX1_pair_44
theorem t_X1_pair {l : Launch} {G : fm_G} {v1 : Int32} {v2 : Int32} {μ : fm_I} {ν : fm_L} {r : Int32} (h : m_X1_pair v1 v2 μ ν = some r) : fm_Mi l G yX1_pair cX1_pair 4 (some .int) 2 41 [.ref (G.2.2.1 5), .int v1, .int v2] μ ν (r, μ, ν) := fm_Mi_of (by decide +kernel) (Nat.le_of_ble_eq_true rfl) (fun _ C => j_X1_pair C rfl r h)
theorem dX1_countCrossings_0 : decode cX1_countCrossings 0 = .ok (.aload_n 0, 1) := by decide +kernel
theorem dX1_countCrossings_1 : decode cX1_countCrossings 1 = .ok (.getfield 21, 3) := by decide +kernel
theorem dX1_countCrossings_4 : decode cX1_countCrossings 4 = .ok (.iconst 0, 1) := by decide +kernel
theorem dX1_countCrossings_5 : decode cX1_countCrossings 5 = .ok (.invokestatic 94, 3) := by decide +kernel
theorem dX1_countCrossings_8 : decode cX1_countCrossings 8 = .ok (.iconst 0, 1) := by decide +kernel
theorem dX1_countCrossings_9 : decode cX1_countCrossings 9 = .ok (.istore_n 1, 1) := by decide +kernel
theorem dX1_countCrossings_10 : decode cX1_countCrossings 10 = .ok (.iload_n 1, 1) := by decide +kernel
theorem dX1_countCrossings_11 : decode cX1_countCrossings 11 = .ok (.aload_n 0, 1) := by decide +kernel
theorem dX1_countCrossings_12 : decode cX1_countCrossings 12 = .ok (.getfield 36, 3) := by decide +kernel
theorem dX1_countCrossings_15 : decode cX1_countCrossings 15 = .ok (.if_icmp .ge 57, 3) := by decide +kernel
theorem dX1_countCrossings_18 : decode cX1_countCrossings 18 = .ok (.iload_n 1, 1) := by decide +kernel
theorem dX1_countCrossings_19 : decode cX1_countCrossings 19 = .ok (.iconst 1, 1) := by decide +kernel
theorem dX1_countCrossings_20 : decode cX1_countCrossings 20 = .ok (.iadd, 1) := by decide +kernel
theorem dX1_countCrossings_21 : decode cX1_countCrossings 21 = .ok (.istore_n 2, 1) := by decide +kernel
theorem dX1_countCrossings_22 : decode cX1_countCrossings 22 = .ok (.iload_n 2, 1) := by decide +kernel
theorem dX1_countCrossings_23 : decode cX1_countCrossings 23 = .ok (.aload_n 0, 1) := by decide +kernel
theorem dX1_countCrossings_24 : decode cX1_countCrossings 24 = .ok (.getfield 36, 3) := by decide +kernel
theorem dX1_countCrossings_27 : decode cX1_countCrossings 27 = .ok (.if_icmp .ge 39, 3) := by decide +kernel
theorem dX1_countCrossings_30 : decode cX1_countCrossings 30 = .ok (.aload_n 0, 1) := by decide +kernel
theorem dX1_countCrossings_31 : decode cX1_countCrossings 31 = .ok (.getfield 21, 3) := by decide +kernel
theorem dX1_countCrossings_34 : decode cX1_countCrossings 34 = .ok (.aload_n 0, 1) := by decide +kernel
theorem dX1_countCrossings_35 : decode cX1_countCrossings 35 = .ok (.aload_n 0, 1) := by decide +kernel
theorem dX1_countCrossings_36 : decode cX1_countCrossings 36 = .ok (.getfield 15, 3) := by decide +kernel
theorem dX1_countCrossings_39 : decode cX1_countCrossings 39 = .ok (.iload_n 1, 1) := by decide +kernel
theorem dX1_countCrossings_40 : decode cX1_countCrossings 40 = .ok (.iaload, 1) := by decide +kernel
theorem dX1_countCrossings_41 : decode cX1_countCrossings 41 = .ok (.aload_n 0, 1) := by decide +kernel
theorem dX1_countCrossings_42 : decode cX1_countCrossings 42 = .ok (.getfield 15, 3) := by decide +kernel
theorem dX1_countCrossings_45 : decode cX1_countCrossings 45 = .ok (.iload_n 2, 1) := by decide +kernel
theorem dX1_countCrossings_46 : decode cX1_countCrossings 46 = .ok (.iaload, 1) := by decide +kernel
theorem dX1_countCrossings_47 : decode cX1_countCrossings 47 = .ok (.invokevirtual 100, 3) := by decide +kernel
theorem dX1_countCrossings_50 : decode cX1_countCrossings 50 = .ok (.dup2, 1) := by decide +kernel
theorem dX1_countCrossings_51 : decode cX1_countCrossings 51 = .ok (.iaload, 1) := by decide +kernel
theorem dX1_countCrossings_52 : decode cX1_countCrossings 52 = .ok (.aload_n 0, 1) := by decide +kernel
theorem dX1_countCrossings_53 : decode cX1_countCrossings 53 = .ok (.iload_n 1, 1) := by decide +kernel
theorem dX1_countCrossings_54 : decode cX1_countCrossings 54 = .ok (.iload_n 2, 1) := by decide +kernel
theorem dX1_countCrossings_55 : decode cX1_countCrossings 55 = .ok (.invokevirtual 103, 3) := by decide +kernel
theorem dX1_countCrossings_58 : decode cX1_countCrossings 58 = .ok (.iadd, 1) := by decide +kernel
theorem dX1_countCrossings_59 : decode cX1_countCrossings 59 = .ok (.iastore, 1) := by decide +kernel
theorem dX1_countCrossings_60 : decode cX1_countCrossings 60 = .ok (.iinc 2 1, 3) := by decide +kernel
theorem dX1_countCrossings_63 : decode cX1_countCrossings 63 = .ok (.goto (-41), 3) := by decide +kernel
theorem dX1_countCrossings_66 : decode cX1_countCrossings 66 = .ok (.iinc 1 1, 3) := by decide +kernel
theorem dX1_countCrossings_69 : decode cX1_countCrossings 69 = .ok (.goto (-59), 3) := by decide +kernel
theorem dX1_countCrossings_72 : decode cX1_countCrossings 72 = .ok (.return_, 1) := by decide +kernel
def m_X1_countCrossings_22 (v1 : Int32) (K : fm_I → fm_L → Option (fm_I × fm_L)) : Nat → Int32 → fm_I → fm_L → Option (fm_I × fm_L)
  | 0, _, _, _ => none
  | k + 1, v2, μ, ν => if (μ 5 1) ≤ v2 then K  μ ν else fm_g (fm_in v1 (fm_n 10)) (fm_g (fm_in v2 (fm_n 10)) ((m_X1_pair ((μ 10 v1.toNatClampNeg)) ((μ 10 v2.toNatClampNeg)) μ ν).bind (fun r47 => fm_g (fm_in r47 (fm_n 12)) ((m_X1_crossing v1 v2 μ ν).bind (fun r55 => m_X1_countCrossings_22 v1 K k ((v2 + nI 1)) (fm_u μ 12 r47.toNatClampNeg ((((μ 12 r47.toNatClampNeg)) + r55))) ν)))))
def m_X1_countCrossings_10  (K : fm_I → fm_L → Option (fm_I × fm_L)) : Nat → Int32 → fm_I → fm_L → Option (fm_I × fm_L)
  | 0, _, _, _ => none
  | k + 1, v1, μ, ν => if (μ 5 1) ≤ v1 then K  μ ν else m_X1_countCrossings_22 v1  (fun μ22 ν22 => m_X1_countCrossings_10 K k ((v1 + nI 1)) μ22 ν22) 5000 ((v1 + ((nI 1)))) μ ν
def m_X1_countCrossings  (μ : fm_I) (ν : fm_L) : Option (fm_I × fm_L) :=
  (m_J7_fill_53178 12 ((nI 0)) μ ν).bind (fun r5 => m_X1_countCrossings_10  (fun μ10 ν10 => some ((μ10, ν10))) 5000 ((nI 0)) r5.1 r5.2)
theorem ok_X1_countCrossings : fm_okV yX1_countCrossings cX1_countCrossings 3 (none : Option Jvm.ClassFile.FieldType) 0 := ⟨m_cd_X1_countCrossings, m_im_X1_countCrossings, m_se_X1_X1_countCrossings, m_ini_X1, by decide +kernel, by decide +kernel, by decide +kernel⟩
set_option maxHeartbeats 4000000 in
set_option maxRecDepth 100000 in
theorem j_X1_countCrossings_22_ {X : fm_X} {G : fm_G} {l : Launch} {v1 : Int32} (C : fm_C X G l cX1_countCrossings RX1 3 (none : Option Jvm.ClassFile.FieldType) 3 66) {F : (fm_I × fm_L) → State → Prop} (hF : F = fm_Qv X G)  {K : fm_I → fm_L → Option (fm_I × fm_L)} (hK : ∀  (μ : fm_I) (ν : fm_L), fm_J X G 3 F (K μ ν) μ ν 66 [(0, .ref (G.2.2.1 5)), (1, .int v1)] []) : ∀ (k : Nat) (v2 : Int32) (μ : fm_I) (ν : fm_L), fm_J X G 3 F (m_X1_countCrossings_22 v1 K k v2 μ ν) μ ν 22 [(0, .ref (G.2.2.1 5)), (1, .int v1), (2, .int v2)] [] := by
  intro k
  induction k with
  | zero =>
    intro v2 μ ν
    exact fm_none
  | succ k ih =>
    intro v2 μ ν
    rw [m_X1_countCrossings_22]
    refine fm_iload_n (pc := 22) C dX1_countCrossings_22 rfl rfl ?_
    refine fm_aload_n (pc := 23) C dX1_countCrossings_23 rfl rfl ?_
    refine g1_strips (pc := 24) C (by decide) dX1_countCrossings_24 m_fl_X1_36 ?_
    refine fm_icmp_ge (pc := 27) (tgt := 66) C dX1_countCrossings_27 (by decide) (fun c2 => ?_) (fun c2 => ?_)
    · refine fm_less (lv' := [(0, .ref (G.2.2.1 5)), (1, .int v1)]) (by repeat (first | exact trivial | refine ⟨rfl, ?_⟩)) ?_
      exact hK  _ _
    · refine fm_aload_n (pc := 30) C dX1_countCrossings_30 rfl rfl ?_
      refine g1_crossed (pc := 31) C (by decide) dX1_countCrossings_31 m_fl_X1_21 ?_
      refine fm_aload_n (pc := 34) C dX1_countCrossings_34 rfl rfl ?_
      refine fm_aload_n (pc := 35) C dX1_countCrossings_35 rfl rfl ?_
      refine g1_pieceOfStrip (pc := 36) C (by decide) dX1_countCrossings_36 m_fl_X1_15 ?_
      refine fm_iload_n (pc := 39) C dX1_countCrossings_39 rfl rfl ?_
      refine fm_guard (fun h3 => ?_)
      refine fm_iald (pc := 40) C (by decide) h3 dX1_countCrossings_40 ?_
      refine fm_aload_n (pc := 41) C dX1_countCrossings_41 rfl rfl ?_
      refine g1_pieceOfStrip (pc := 42) C (by decide) dX1_countCrossings_42 m_fl_X1_15 ?_
      refine fm_iload_n (pc := 45) C dX1_countCrossings_45 rfl rfl ?_
      refine fm_guard (fun h4 => ?_)
      refine fm_iald (pc := 46) C (by decide) h4 dX1_countCrossings_46 ?_
      refine fm_bind (fun r47 e47 => ?_)
      refine fm_cVi0 (pc := 47) C (t_X1_pair e47) ok_X1_pair ⟨by decide, rfl⟩ m_ml_X1_100 dX1_countCrossings_47 ⟨Nat.le_of_ble_eq_true rfl, Nat.le_of_ble_eq_true rfl⟩ rfl rfl (Nat.le_of_ble_eq_true rfl) ?_
      refine fm_dup2 (pc := 50) C dX1_countCrossings_50 rfl rfl ?_
      refine fm_guard (fun h5 => ?_)
      refine fm_iald (pc := 51) C (by decide) h5 dX1_countCrossings_51 ?_
      refine fm_aload_n (pc := 52) C dX1_countCrossings_52 rfl rfl ?_
      refine fm_iload_n (pc := 53) C dX1_countCrossings_53 rfl rfl ?_
      refine fm_iload_n (pc := 54) C dX1_countCrossings_54 rfl rfl ?_
      refine fm_bind (fun r55 e55 => ?_)
      refine fm_cVi0 (pc := 55) C (t_X1_crossing e55) ok_X1_crossing ⟨by decide, rfl⟩ m_ml_X1_103 dX1_countCrossings_55 ⟨Nat.le_of_ble_eq_true rfl, Nat.le_of_ble_eq_true rfl⟩ rfl rfl (Nat.le_of_ble_eq_true rfl) ?_
      refine fm_iadd (pc := 58) C dX1_countCrossings_58 ?_
      refine fm_iast (pc := 59) C (by decide) h5 dX1_countCrossings_59 ?_
      refine fm_iinc (pc := 60) C dX1_countCrossings_60 rfl (v := (v2 + nI 1)) rfl (by decide) rfl ?_
      refine fm_goto (pc := 63) (tgt := 22) C dX1_countCrossings_63 (by decide) ?_
      refine fm_less (lv' := [(0, .ref (G.2.2.1 5)), (1, .int v1), (2, .int ((v2 + nI 1)))]) (by repeat (first | exact trivial | refine ⟨rfl, ?_⟩)) ?_
      exact ih _ _ _
set_option maxHeartbeats 4000000 in
set_option maxRecDepth 100000 in
theorem j_X1_countCrossings_10_ {X : fm_X} {G : fm_G} {l : Launch}  (C : fm_C X G l cX1_countCrossings RX1 3 (none : Option Jvm.ClassFile.FieldType) 3 66) {F : (fm_I × fm_L) → State → Prop} (hF : F = fm_Qv X G)  {K : fm_I → fm_L → Option (fm_I × fm_L)} (hK : ∀  (μ : fm_I) (ν : fm_L), fm_J X G 3 F (K μ ν) μ ν 72 [] []) : ∀ (k : Nat) (v1 : Int32) (μ : fm_I) (ν : fm_L), fm_J X G 3 F (m_X1_countCrossings_10  K k v1 μ ν) μ ν 10 [(0, .ref (G.2.2.1 5)), (1, .int v1)] [] := by
  intro k
  induction k with
  | zero =>
    intro v1 μ ν
    exact fm_none
  | succ k ih =>
    intro v1 μ ν
    rw [m_X1_countCrossings_10]
    refine fm_iload_n (pc := 10) C dX1_countCrossings_10 rfl rfl ?_
    refine fm_aload_n (pc := 11) C dX1_countCrossings_11 rfl rfl ?_
    refine g1_strips (pc := 12) C (by decide) dX1_countCrossings_12 m_fl_X1_36 ?_
    refine fm_icmp_ge (pc := 15) (tgt := 72) C dX1_countCrossings_15 (by decide) (fun c1 => ?_) (fun c1 => ?_)
    · refine fm_less (lv' := []) (by repeat (first | exact trivial | refine ⟨rfl, ?_⟩)) ?_
      exact hK  _ _
    · refine fm_iload_n (pc := 18) C dX1_countCrossings_18 rfl rfl ?_
      refine fm_iconst (pc := 19) (v := (nI 1)) C dX1_countCrossings_19 (by decide) ?_
      refine fm_iadd (pc := 20) C dX1_countCrossings_20 ?_
      refine fm_istore_n (pc := 21) C dX1_countCrossings_21 rfl (by decide) rfl ?_
      refine fm_less (lv' := [(0, .ref (G.2.2.1 5)), (1, .int v1), (2, .int ((v1 + ((nI 1)))))]) (by repeat (first | exact trivial | refine ⟨rfl, ?_⟩)) ?_
      refine j_X1_countCrossings_22_ C (v1 := v1) hF  (fun μ22 ν22 => ?_) _ _ _ _
      refine fm_iinc (pc := 66) C dX1_countCrossings_66 rfl (v := (v1 + nI 1)) rfl (by decide) rfl ?_
      refine fm_goto (pc := 69) (tgt := 10) C dX1_countCrossings_69 (by decide) ?_
      refine fm_less (lv' := [(0, .ref (G.2.2.1 5)), (1, .int ((v1 + nI 1)))]) (by repeat (first | exact trivial | refine ⟨rfl, ?_⟩)) ?_
      exact ih _ _ _
set_option maxHeartbeats 4000000 in
set_option maxRecDepth 100000 in
theorem j_X1_countCrossings {X : fm_X} {G : fm_G} {l : Launch}  {μ : fm_I} {ν : fm_L} (C : fm_C X G l cX1_countCrossings RX1 3 (none : Option Jvm.ClassFile.FieldType) 3 66) {F : (fm_I × fm_L) → State → Prop} (hF : F = fm_Qv X G) : fm_J X G 3 F (m_X1_countCrossings  μ ν) μ ν 0 [(0, .ref (G.2.2.1 5))] [] := by
  unfold m_X1_countCrossings
  refine fm_aload_n (pc := 0) C dX1_countCrossings_0 rfl rfl ?_
  refine g1_crossed (pc := 1) C (by decide) dX1_countCrossings_1 m_fl_X1_21 ?_
  refine fm_iconst (pc := 4) (v := (nI 0)) C dX1_countCrossings_4 (by decide) ?_
  refine fm_bind (fun r5 e5 => ?_)
  refine fm_cSv (pc := 5) C (t_J7_fill_53178 e5) ok_J7_fill_53178 m_ml_X1_94 dX1_countCrossings_5 ⟨Nat.le_of_ble_eq_true rfl, Nat.le_of_ble_eq_true rfl⟩ rfl rfl (Nat.le_of_ble_eq_true rfl) ?_
  refine fm_iconst (pc := 8) (v := (nI 0)) C dX1_countCrossings_8 (by decide) ?_
  refine fm_istore_n (pc := 9) C dX1_countCrossings_9 rfl (by decide) rfl ?_
  refine fm_less (lv' := [(0, .ref (G.2.2.1 5)), (1, .int ((nI 0)))]) (by repeat (first | exact trivial | refine ⟨rfl, ?_⟩)) ?_
  refine j_X1_countCrossings_10_ C  hF  (fun μ10 ν10 => ?_) _ _ _ _
  exact fm_vret (pc := 72) C hF rfl dX1_countCrossings_72
theorem t_X1_countCrossings {l : Launch} {G : fm_G}  {μ : fm_I} {ν : fm_L} {r : fm_I × fm_L} (h : m_X1_countCrossings  μ ν = some r) : fm_Mv l G yX1_countCrossings cX1_countCrossings 3 (none : Option Jvm.ClassFile.FieldType) 3 66 [.ref (G.2.2.1 5)] μ ν r := fm_Mv_of (by decide +kernel) (Nat.le_of_ble_eq_true rfl) (fun _ C => j_X1_countCrossings C rfl r h)
theorem dX1_hooksCounted_0 : decode cX1_hooksCounted 0 = .ok (.aload_n 0, 1) := by decide +kernel
theorem dX1_hooksCounted_1 : decode cX1_hooksCounted 1 = .ok (.getfield 21, 3) := by decide +kernel
theorem dX1_hooksCounted_4 : decode cX1_hooksCounted 4 = .ok (.aload_n 0, 1) := by decide +kernel
theorem dX1_hooksCounted_5 : decode cX1_hooksCounted 5 = .ok (.iload_n 1, 1) := by decide +kernel
theorem dX1_hooksCounted_6 : decode cX1_hooksCounted 6 = .ok (.iload_n 2, 1) := by decide +kernel
theorem dX1_hooksCounted_7 : decode cX1_hooksCounted 7 = .ok (.invokevirtual 100, 3) := by decide +kernel
theorem dX1_hooksCounted_10 : decode cX1_hooksCounted 10 = .ok (.iaload, 1) := by decide +kernel
theorem dX1_hooksCounted_11 : decode cX1_hooksCounted 11 = .ok (.iconst 2, 1) := by decide +kernel
theorem dX1_hooksCounted_12 : decode cX1_hooksCounted 12 = .ok (.idiv, 1) := by decide +kernel
theorem dX1_hooksCounted_13 : decode cX1_hooksCounted 13 = .ok (.ireturn, 1) := by decide +kernel
def m_X1_hooksCounted (v1 : Int32) (v2 : Int32) (μ : fm_I) (ν : fm_L) : Option (Int32) :=
  (m_X1_pair v1 v2 μ ν).bind (fun r7 => fm_g (fm_in r7 (fm_n 12)) (some ((((μ 12 r7.toNatClampNeg)) / ((nI 2))))))
theorem ok_X1_hooksCounted : fm_okV yX1_hooksCounted cX1_hooksCounted 3 (some .int) 2 := ⟨m_cd_X1_hooksCounted, m_im_X1_hooksCounted, m_se_X1_X1_hooksCounted, m_ini_X1, by decide +kernel, by decide +kernel, by decide +kernel⟩
set_option maxHeartbeats 4000000 in
set_option maxRecDepth 100000 in
theorem j_X1_hooksCounted {X : fm_X} {G : fm_G} {l : Launch} {v1 : Int32} {v2 : Int32} {μ : fm_I} {ν : fm_L} (C : fm_C X G l cX1_hooksCounted RX1 3 (some .int) 3 64) {F : Int32 → State → Prop} (hF : F = fun r => fm_Qi X G (r, μ, ν)) : fm_J X G 3 F (m_X1_hooksCounted v1 v2 μ ν) μ ν 0 [(0, .ref (G.2.2.1 5)), (1, .int v1), (2, .int v2)] [] := by
  unfold m_X1_hooksCounted
  refine fm_aload_n (pc := 0) C dX1_hooksCounted_0 rfl rfl ?_
  refine g1_crossed (pc := 1) C (by decide) dX1_hooksCounted_1 m_fl_X1_21 ?_
  refine fm_aload_n (pc := 4) C dX1_hooksCounted_4 rfl rfl ?_
  refine fm_iload_n (pc := 5) C dX1_hooksCounted_5 rfl rfl ?_
  refine fm_iload_n (pc := 6) C dX1_hooksCounted_6 rfl rfl ?_
  refine fm_bind (fun r7 e7 => ?_)
  refine fm_cVi0 (pc := 7) C (t_X1_pair e7) ok_X1_pair ⟨by decide, rfl⟩ m_ml_X1_100 dX1_hooksCounted_7 ⟨Nat.le_of_ble_eq_true rfl, Nat.le_of_ble_eq_true rfl⟩ rfl rfl (Nat.le_of_ble_eq_true rfl) ?_
  refine fm_guard (fun h1 => ?_)
  refine fm_iald (pc := 10) C (by decide) h1 dX1_hooksCounted_10 ?_
  refine fm_iconst (pc := 11) (v := (nI 2)) C dX1_hooksCounted_11 (by decide) ?_
  refine fm_idiv (pc := 12) C dX1_hooksCounted_12 (by decide) ?_
  exact fm_zret0 (pc := 13) C hF rfl rfl dX1_hooksCounted_13
theorem t_X1_hooksCounted {l : Launch} {G : fm_G} {v1 : Int32} {v2 : Int32} {μ : fm_I} {ν : fm_L} {r : Int32} (h : m_X1_hooksCounted v1 v2 μ ν = some r) : fm_Mi l G yX1_hooksCounted cX1_hooksCounted 3 (some .int) 3 64 [.ref (G.2.2.1 5), .int v1, .int v2] μ ν (r, μ, ν) := fm_Mi_of (by decide +kernel) (Nat.le_of_ble_eq_true rfl) (fun _ C => j_X1_hooksCounted C rfl r h)
theorem dX1_hooksBetween_0 : decode cX1_hooksBetween 0 = .ok (.aload_n 0, 1) := by decide +kernel
theorem dX1_hooksBetween_1 : decode cX1_hooksBetween 1 = .ok (.invokevirtual 88, 3) := by decide +kernel
theorem dX1_hooksBetween_4 : decode cX1_hooksBetween 4 = .ok (.aload_n 0, 1) := by decide +kernel
theorem dX1_hooksBetween_5 : decode cX1_hooksBetween 5 = .ok (.iload_n 1, 1) := by decide +kernel
theorem dX1_hooksBetween_6 : decode cX1_hooksBetween 6 = .ok (.iload_n 2, 1) := by decide +kernel
theorem dX1_hooksBetween_7 : decode cX1_hooksBetween 7 = .ok (.invokevirtual 91, 3) := by decide +kernel
theorem dX1_hooksBetween_10 : decode cX1_hooksBetween 10 = .ok (.ireturn, 1) := by decide +kernel
def m_X1_hooksBetween (v1 : Int32) (v2 : Int32) (μ : fm_I) (ν : fm_L) : Option (Int32 × fm_I × fm_L) :=
  (m_X1_countCrossings  μ ν).bind (fun r1 => (m_X1_hooksCounted v1 v2 r1.1 r1.2).bind (fun r7 => some ((r7, r1.1, r1.2))))
theorem ok_X1_hooksBetween : fm_okV yX1_hooksBetween cX1_hooksBetween 3 (some .int) 2 := ⟨m_cd_X1_hooksBetween, m_im_X1_hooksBetween, m_se_X1_X1_hooksBetween, m_ini_X1, by decide +kernel, by decide +kernel, by decide +kernel⟩
set_option maxHeartbeats 4000000 in
set_option maxRecDepth 100000 in
theorem j_X1_hooksBetween {X : fm_X} {G : fm_G} {l : Launch} {v1 : Int32} {v2 : Int32} {μ : fm_I} {ν : fm_L} (C : fm_C X G l cX1_hooksBetween RX1 3 (some .int) 4 88) {F : (Int32 × fm_I × fm_L) → State → Prop} (hF : F = fm_Qi X G) : fm_J X G 3 F (m_X1_hooksBetween v1 v2 μ ν) μ ν 0 [(0, .ref (G.2.2.1 5)), (1, .int v1), (2, .int v2)] [] := by
  unfold m_X1_hooksBetween
  refine fm_aload_n (pc := 0) C dX1_hooksBetween_0 rfl rfl ?_
  refine fm_bind (fun r1 e1 => ?_)
  refine fm_cVv (pc := 1) C (t_X1_countCrossings e1) ok_X1_countCrossings ⟨by decide, rfl⟩ m_ml_X1_88 dX1_hooksBetween_1 ⟨Nat.le_of_ble_eq_true rfl, Nat.le_of_ble_eq_true rfl⟩ rfl rfl (Nat.le_of_ble_eq_true rfl) ?_
  refine fm_aload_n (pc := 4) C dX1_hooksBetween_4 rfl rfl ?_
  refine fm_iload_n (pc := 5) C dX1_hooksBetween_5 rfl rfl ?_
  refine fm_iload_n (pc := 6) C dX1_hooksBetween_6 rfl rfl ?_
  refine fm_bind (fun r7 e7 => ?_)
  refine fm_cVi0 (pc := 7) C (t_X1_hooksCounted e7) ok_X1_hooksCounted ⟨by decide, rfl⟩ m_ml_X1_91 dX1_hooksBetween_7 ⟨Nat.le_of_ble_eq_true rfl, Nat.le_of_ble_eq_true rfl⟩ rfl rfl (Nat.le_of_ble_eq_true rfl) ?_
  exact fm_zret (pc := 10) C hF rfl rfl dX1_hooksBetween_10
theorem t_X1_hooksBetween {l : Launch} {G : fm_G} {v1 : Int32} {v2 : Int32} {μ : fm_I} {ν : fm_L} {r : Int32 × fm_I × fm_L} (h : m_X1_hooksBetween v1 v2 μ ν = some r) : fm_Mi l G yX1_hooksBetween cX1_hooksBetween 3 (some .int) 4 88 [.ref (G.2.2.1 5), .int v1, .int v2] μ ν r := fm_Mi_of (by decide +kernel) (Nat.le_of_ble_eq_true rfl) (fun _ C => j_X1_hooksBetween C rfl r h)
theorem dX1_hooksInAll_0 : decode cX1_hooksInAll 0 = .ok (.aload_n 0, 1) := by decide +kernel
theorem dX1_hooksInAll_1 : decode cX1_hooksInAll 1 = .ok (.invokevirtual 88, 3) := by decide +kernel
theorem dX1_hooksInAll_4 : decode cX1_hooksInAll 4 = .ok (.iconst 0, 1) := by decide +kernel
theorem dX1_hooksInAll_5 : decode cX1_hooksInAll 5 = .ok (.istore_n 1, 1) := by decide +kernel
theorem dX1_hooksInAll_6 : decode cX1_hooksInAll 6 = .ok (.iconst 0, 1) := by decide +kernel
theorem dX1_hooksInAll_7 : decode cX1_hooksInAll 7 = .ok (.istore_n 2, 1) := by decide +kernel
theorem dX1_hooksInAll_8 : decode cX1_hooksInAll 8 = .ok (.iload_n 2, 1) := by decide +kernel
theorem dX1_hooksInAll_9 : decode cX1_hooksInAll 9 = .ok (.aload_n 0, 1) := by decide +kernel
theorem dX1_hooksInAll_10 : decode cX1_hooksInAll 10 = .ok (.getfield 55, 3) := by decide +kernel
theorem dX1_hooksInAll_13 : decode cX1_hooksInAll 13 = .ok (.if_icmp .ge 39, 3) := by decide +kernel
theorem dX1_hooksInAll_16 : decode cX1_hooksInAll 16 = .ok (.iload_n 2, 1) := by decide +kernel
theorem dX1_hooksInAll_17 : decode cX1_hooksInAll 17 = .ok (.iconst 1, 1) := by decide +kernel
theorem dX1_hooksInAll_18 : decode cX1_hooksInAll 18 = .ok (.iadd, 1) := by decide +kernel
theorem dX1_hooksInAll_19 : decode cX1_hooksInAll 19 = .ok (.istore_n 3, 1) := by decide +kernel
theorem dX1_hooksInAll_20 : decode cX1_hooksInAll 20 = .ok (.iload_n 3, 1) := by decide +kernel
theorem dX1_hooksInAll_21 : decode cX1_hooksInAll 21 = .ok (.aload_n 0, 1) := by decide +kernel
theorem dX1_hooksInAll_22 : decode cX1_hooksInAll 22 = .ok (.getfield 55, 3) := by decide +kernel
theorem dX1_hooksInAll_25 : decode cX1_hooksInAll 25 = .ok (.if_icmp .ge 21, 3) := by decide +kernel
theorem dX1_hooksInAll_28 : decode cX1_hooksInAll 28 = .ok (.iload_n 1, 1) := by decide +kernel
theorem dX1_hooksInAll_29 : decode cX1_hooksInAll 29 = .ok (.aload_n 0, 1) := by decide +kernel
theorem dX1_hooksInAll_30 : decode cX1_hooksInAll 30 = .ok (.iload_n 2, 1) := by decide +kernel
theorem dX1_hooksInAll_31 : decode cX1_hooksInAll 31 = .ok (.iload_n 3, 1) := by decide +kernel
theorem dX1_hooksInAll_32 : decode cX1_hooksInAll 32 = .ok (.invokevirtual 91, 3) := by decide +kernel
theorem dX1_hooksInAll_35 : decode cX1_hooksInAll 35 = .ok (.invokestatic 106, 3) := by decide +kernel
theorem dX1_hooksInAll_38 : decode cX1_hooksInAll 38 = .ok (.iadd, 1) := by decide +kernel
theorem dX1_hooksInAll_39 : decode cX1_hooksInAll 39 = .ok (.istore_n 1, 1) := by decide +kernel
theorem dX1_hooksInAll_40 : decode cX1_hooksInAll 40 = .ok (.iinc 3 1, 3) := by decide +kernel
theorem dX1_hooksInAll_43 : decode cX1_hooksInAll 43 = .ok (.goto (-23), 3) := by decide +kernel
theorem dX1_hooksInAll_46 : decode cX1_hooksInAll 46 = .ok (.iinc 2 1, 3) := by decide +kernel
theorem dX1_hooksInAll_49 : decode cX1_hooksInAll 49 = .ok (.goto (-41), 3) := by decide +kernel
theorem dX1_hooksInAll_52 : decode cX1_hooksInAll 52 = .ok (.iload_n 1, 1) := by decide +kernel
theorem dX1_hooksInAll_53 : decode cX1_hooksInAll 53 = .ok (.ireturn, 1) := by decide +kernel
def m_X1_hooksInAll_20 (v2 : Int32) (μ : fm_I) (ν : fm_L) (K : Int32 → Option (Int32 × fm_I × fm_L)) : Nat → Int32 → Int32 → Option (Int32 × fm_I × fm_L)
  | 0, _, _ => none
  | k + 1, v1, v3 => if (μ 5 0) ≤ v3 then K v1 else (m_X1_hooksCounted v2 v3 μ ν).bind (fun r32 => m_X1_hooksInAll_20 v2 μ ν K k ((v1 + ((if 0 ≤ r32 then r32 else 0 - r32)))) ((v3 + nI 1)))
def m_X1_hooksInAll_8  (μ : fm_I) (ν : fm_L) (K : Int32 → Option (Int32 × fm_I × fm_L)) : Nat → Int32 → Int32 → Option (Int32 × fm_I × fm_L)
  | 0, _, _ => none
  | k + 1, v1, v2 => if (μ 5 0) ≤ v2 then K v1 else m_X1_hooksInAll_20 v2 μ ν (fun x1_20 => m_X1_hooksInAll_8 μ ν K k x1_20 ((v2 + nI 1))) 5000 v1 ((v2 + ((nI 1))))
def m_X1_hooksInAll  (μ : fm_I) (ν : fm_L) : Option (Int32 × fm_I × fm_L) :=
  (m_X1_countCrossings  μ ν).bind (fun r1 => m_X1_hooksInAll_8 r1.1 r1.2 (fun x1_8 => some ((x1_8, r1.1, r1.2))) 5000 ((nI 0)) ((nI 0)))
theorem ok_X1_hooksInAll : fm_okV yX1_hooksInAll cX1_hooksInAll 4 (some .int) 0 := ⟨m_cd_X1_hooksInAll, m_im_X1_hooksInAll, m_se_X1_X1_hooksInAll, m_ini_X1, by decide +kernel, by decide +kernel, by decide +kernel⟩
set_option maxHeartbeats 4000000 in
set_option maxRecDepth 100000 in
theorem j_X1_hooksInAll_20_ {X : fm_X} {G : fm_G} {l : Launch} {v2 : Int32} {μ : fm_I} {ν : fm_L} (C : fm_C X G l cX1_hooksInAll RX1 4 (some .int) 4 88) {F : (Int32 × fm_I × fm_L) → State → Prop} (hF : F = fm_Qi X G)  {K : Int32 → Option (Int32 × fm_I × fm_L)} (hK : ∀ (v1 : Int32), fm_J X G 4 F (K v1) μ ν 46 [(0, .ref (G.2.2.1 5)), (1, .int v1), (2, .int v2)] []) : ∀ (k : Nat) (v1 : Int32) (v3 : Int32), fm_J X G 4 F (m_X1_hooksInAll_20 v2 μ ν K k v1 v3) μ ν 20 [(0, .ref (G.2.2.1 5)), (1, .int v1), (2, .int v2), (3, .int v3)] [] := by
  intro k
  induction k with
  | zero =>
    intro v1 v3
    exact fm_none
  | succ k ih =>
    intro v1 v3
    rw [m_X1_hooksInAll_20]
    refine fm_iload_n (pc := 20) C dX1_hooksInAll_20 rfl rfl ?_
    refine fm_aload_n (pc := 21) C dX1_hooksInAll_21 rfl rfl ?_
    refine g1_count (pc := 22) C (by decide) dX1_hooksInAll_22 m_fl_X1_55 ?_
    refine fm_icmp_ge (pc := 25) (tgt := 46) C dX1_hooksInAll_25 (by decide) (fun c2 => ?_) (fun c2 => ?_)
    · refine fm_less (lv' := [(0, .ref (G.2.2.1 5)), (1, .int v1), (2, .int v2)]) (by repeat (first | exact trivial | refine ⟨rfl, ?_⟩)) ?_
      exact hK _
    · refine fm_iload_n (pc := 28) C dX1_hooksInAll_28 rfl rfl ?_
      refine fm_aload_n (pc := 29) C dX1_hooksInAll_29 rfl rfl ?_
      refine fm_iload_n (pc := 30) C dX1_hooksInAll_30 rfl rfl ?_
      refine fm_iload_n (pc := 31) C dX1_hooksInAll_31 rfl rfl ?_
      refine fm_bind (fun r32 e32 => ?_)
      refine fm_cVi0 (pc := 32) C (t_X1_hooksCounted e32) ok_X1_hooksCounted ⟨by decide, rfl⟩ m_ml_X1_91 dX1_hooksInAll_32 ⟨Nat.le_of_ble_eq_true rfl, Nat.le_of_ble_eq_true rfl⟩ rfl rfl (Nat.le_of_ble_eq_true rfl) ?_
      refine fm_mabs (pc := 35) C m_ml_X1_106 dX1_hooksInAll_35 ⟨Nat.le_of_ble_eq_true rfl, Nat.le_of_ble_eq_true rfl⟩ ?_
      refine fm_iadd (pc := 38) C dX1_hooksInAll_38 ?_
      refine fm_istore_n (pc := 39) C dX1_hooksInAll_39 rfl (by decide) rfl ?_
      refine fm_iinc (pc := 40) C dX1_hooksInAll_40 rfl (v := (v3 + nI 1)) rfl (by decide) rfl ?_
      refine fm_goto (pc := 43) (tgt := 20) C dX1_hooksInAll_43 (by decide) ?_
      refine fm_less (lv' := [(0, .ref (G.2.2.1 5)), (1, .int ((v1 + ((if 0 ≤ r32 then r32 else 0 - r32))))), (2, .int v2), (3, .int ((v3 + nI 1)))]) (by repeat (first | exact trivial | refine ⟨rfl, ?_⟩)) ?_
      exact ih _ _
set_option maxHeartbeats 4000000 in
set_option maxRecDepth 100000 in
theorem j_X1_hooksInAll_8_ {X : fm_X} {G : fm_G} {l : Launch}  {μ : fm_I} {ν : fm_L} (C : fm_C X G l cX1_hooksInAll RX1 4 (some .int) 4 88) {F : (Int32 × fm_I × fm_L) → State → Prop} (hF : F = fm_Qi X G)  {K : Int32 → Option (Int32 × fm_I × fm_L)} (hK : ∀ (v1 : Int32), fm_J X G 4 F (K v1) μ ν 52 [(1, .int v1)] []) : ∀ (k : Nat) (v1 : Int32) (v2 : Int32), fm_J X G 4 F (m_X1_hooksInAll_8  μ ν K k v1 v2) μ ν 8 [(0, .ref (G.2.2.1 5)), (1, .int v1), (2, .int v2)] [] := by
  intro k
  induction k with
  | zero =>
    intro v1 v2
    exact fm_none
  | succ k ih =>
    intro v1 v2
    rw [m_X1_hooksInAll_8]
    refine fm_iload_n (pc := 8) C dX1_hooksInAll_8 rfl rfl ?_
    refine fm_aload_n (pc := 9) C dX1_hooksInAll_9 rfl rfl ?_
    refine g1_count (pc := 10) C (by decide) dX1_hooksInAll_10 m_fl_X1_55 ?_
    refine fm_icmp_ge (pc := 13) (tgt := 52) C dX1_hooksInAll_13 (by decide) (fun c1 => ?_) (fun c1 => ?_)
    · refine fm_less (lv' := [(1, .int v1)]) (by repeat (first | exact trivial | refine ⟨rfl, ?_⟩)) ?_
      exact hK _
    · refine fm_iload_n (pc := 16) C dX1_hooksInAll_16 rfl rfl ?_
      refine fm_iconst (pc := 17) (v := (nI 1)) C dX1_hooksInAll_17 (by decide) ?_
      refine fm_iadd (pc := 18) C dX1_hooksInAll_18 ?_
      refine fm_istore_n (pc := 19) C dX1_hooksInAll_19 rfl (by decide) rfl ?_
      refine fm_less (lv' := [(0, .ref (G.2.2.1 5)), (1, .int v1), (2, .int v2), (3, .int ((v2 + ((nI 1)))))]) (by repeat (first | exact trivial | refine ⟨rfl, ?_⟩)) ?_
      refine j_X1_hooksInAll_20_ C (v2 := v2) hF  (fun x1_20 => ?_) _ _ _
      refine fm_iinc (pc := 46) C dX1_hooksInAll_46 rfl (v := (v2 + nI 1)) rfl (by decide) rfl ?_
      refine fm_goto (pc := 49) (tgt := 8) C dX1_hooksInAll_49 (by decide) ?_
      refine fm_less (lv' := [(0, .ref (G.2.2.1 5)), (1, .int x1_20), (2, .int ((v2 + nI 1)))]) (by repeat (first | exact trivial | refine ⟨rfl, ?_⟩)) ?_
      exact ih _ _
set_option maxHeartbeats 4000000 in
set_option maxRecDepth 100000 in
theorem j_X1_hooksInAll {X : fm_X} {G : fm_G} {l : Launch}  {μ : fm_I} {ν : fm_L} (C : fm_C X G l cX1_hooksInAll RX1 4 (some .int) 4 88) {F : (Int32 × fm_I × fm_L) → State → Prop} (hF : F = fm_Qi X G) : fm_J X G 4 F (m_X1_hooksInAll  μ ν) μ ν 0 [(0, .ref (G.2.2.1 5))] [] := by
  unfold m_X1_hooksInAll
  refine fm_aload_n (pc := 0) C dX1_hooksInAll_0 rfl rfl ?_
  refine fm_bind (fun r1 e1 => ?_)
  refine fm_cVv (pc := 1) C (t_X1_countCrossings e1) ok_X1_countCrossings ⟨by decide, rfl⟩ m_ml_X1_88 dX1_hooksInAll_1 ⟨Nat.le_of_ble_eq_true rfl, Nat.le_of_ble_eq_true rfl⟩ rfl rfl (Nat.le_of_ble_eq_true rfl) ?_
  refine fm_iconst (pc := 4) (v := (nI 0)) C dX1_hooksInAll_4 (by decide) ?_
  refine fm_istore_n (pc := 5) C dX1_hooksInAll_5 rfl (by decide) rfl ?_
  refine fm_iconst (pc := 6) (v := (nI 0)) C dX1_hooksInAll_6 (by decide) ?_
  refine fm_istore_n (pc := 7) C dX1_hooksInAll_7 rfl (by decide) rfl ?_
  refine fm_less (lv' := [(0, .ref (G.2.2.1 5)), (1, .int ((nI 0))), (2, .int ((nI 0)))]) (by repeat (first | exact trivial | refine ⟨rfl, ?_⟩)) ?_
  refine j_X1_hooksInAll_8_ C  hF  (fun x1_8 => ?_) _ _ _
  refine fm_iload_n (pc := 52) C dX1_hooksInAll_52 rfl rfl ?_
  exact fm_zret (pc := 53) C hF rfl rfl dX1_hooksInAll_53
theorem t_X1_hooksInAll {l : Launch} {G : fm_G}  {μ : fm_I} {ν : fm_L} {r : Int32 × fm_I × fm_L} (h : m_X1_hooksInAll  μ ν = some r) : fm_Mi l G yX1_hooksInAll cX1_hooksInAll 4 (some .int) 4 88 [.ref (G.2.2.1 5)] μ ν r := fm_Mi_of (by decide +kernel) (Nat.le_of_ble_eq_true rfl) (fun _ C => j_X1_hooksInAll C rfl r h)
theorem dX1_findHung_0 : decode cX1_findHung 0 = .ok (.aload_n 0, 1) := by decide +kernel
theorem dX1_findHung_1 : decode cX1_findHung 1 = .ok (.invokevirtual 88, 3) := by decide +kernel
theorem dX1_findHung_4 : decode cX1_findHung 4 = .ok (.iconst 0, 1) := by decide +kernel
theorem dX1_findHung_5 : decode cX1_findHung 5 = .ok (.istore_n 1, 1) := by decide +kernel
theorem dX1_findHung_6 : decode cX1_findHung 6 = .ok (.iload_n 1, 1) := by decide +kernel
theorem dX1_findHung_7 : decode cX1_findHung 7 = .ok (.aload_n 0, 1) := by decide +kernel
theorem dX1_findHung_8 : decode cX1_findHung 8 = .ok (.getfield 55, 3) := by decide +kernel
theorem dX1_findHung_11 : decode cX1_findHung 11 = .ok (.if_icmp .ge 58, 3) := by decide +kernel
theorem dX1_findHung_14 : decode cX1_findHung 14 = .ok (.aload_n 0, 1) := by decide +kernel
theorem dX1_findHung_15 : decode cX1_findHung 15 = .ok (.getfield 24, 3) := by decide +kernel
theorem dX1_findHung_18 : decode cX1_findHung 18 = .ok (.iload_n 1, 1) := by decide +kernel
theorem dX1_findHung_19 : decode cX1_findHung 19 = .ok (.iconst 0, 1) := by decide +kernel
theorem dX1_findHung_20 : decode cX1_findHung 20 = .ok (.iastore, 1) := by decide +kernel
theorem dX1_findHung_21 : decode cX1_findHung 21 = .ok (.iconst 0, 1) := by decide +kernel
theorem dX1_findHung_22 : decode cX1_findHung 22 = .ok (.istore_n 2, 1) := by decide +kernel
theorem dX1_findHung_23 : decode cX1_findHung 23 = .ok (.iload_n 2, 1) := by decide +kernel
theorem dX1_findHung_24 : decode cX1_findHung 24 = .ok (.aload_n 0, 1) := by decide +kernel
theorem dX1_findHung_25 : decode cX1_findHung 25 = .ok (.getfield 55, 3) := by decide +kernel
theorem dX1_findHung_28 : decode cX1_findHung 28 = .ok (.if_icmp .ge 35, 3) := by decide +kernel
theorem dX1_findHung_31 : decode cX1_findHung 31 = .ok (.iload_n 2, 1) := by decide +kernel
theorem dX1_findHung_32 : decode cX1_findHung 32 = .ok (.iload_n 1, 1) := by decide +kernel
theorem dX1_findHung_33 : decode cX1_findHung 33 = .ok (.if_icmp .eq 24, 3) := by decide +kernel
theorem dX1_findHung_36 : decode cX1_findHung 36 = .ok (.aload_n 0, 1) := by decide +kernel
theorem dX1_findHung_37 : decode cX1_findHung 37 = .ok (.iload_n 1, 1) := by decide +kernel
theorem dX1_findHung_38 : decode cX1_findHung 38 = .ok (.iload_n 2, 1) := by decide +kernel
theorem dX1_findHung_39 : decode cX1_findHung 39 = .ok (.invokevirtual 91, 3) := by decide +kernel
theorem dX1_findHung_42 : decode cX1_findHung 42 = .ok (.ifCond .eq 15, 3) := by decide +kernel
theorem dX1_findHung_45 : decode cX1_findHung 45 = .ok (.aload_n 0, 1) := by decide +kernel
theorem dX1_findHung_46 : decode cX1_findHung 46 = .ok (.getfield 24, 3) := by decide +kernel
theorem dX1_findHung_49 : decode cX1_findHung 49 = .ok (.iload_n 1, 1) := by decide +kernel
theorem dX1_findHung_50 : decode cX1_findHung 50 = .ok (.dup2, 1) := by decide +kernel
theorem dX1_findHung_51 : decode cX1_findHung 51 = .ok (.iaload, 1) := by decide +kernel
theorem dX1_findHung_52 : decode cX1_findHung 52 = .ok (.iconst 1, 1) := by decide +kernel
theorem dX1_findHung_53 : decode cX1_findHung 53 = .ok (.iload_n 2, 1) := by decide +kernel
theorem dX1_findHung_54 : decode cX1_findHung 54 = .ok (.ishl, 1) := by decide +kernel
theorem dX1_findHung_55 : decode cX1_findHung 55 = .ok (.ior, 1) := by decide +kernel
theorem dX1_findHung_56 : decode cX1_findHung 56 = .ok (.iastore, 1) := by decide +kernel
theorem dX1_findHung_57 : decode cX1_findHung 57 = .ok (.iinc 2 1, 3) := by decide +kernel
theorem dX1_findHung_60 : decode cX1_findHung 60 = .ok (.goto (-37), 3) := by decide +kernel
theorem dX1_findHung_63 : decode cX1_findHung 63 = .ok (.iinc 1 1, 3) := by decide +kernel
theorem dX1_findHung_66 : decode cX1_findHung 66 = .ok (.goto (-60), 3) := by decide +kernel
theorem dX1_findHung_69 : decode cX1_findHung 69 = .ok (.return_, 1) := by decide +kernel
def m_X1_findHung_23 (v1 : Int32) (K : fm_I → fm_L → Option (fm_I × fm_L)) : Nat → Int32 → fm_I → fm_L → Option (fm_I × fm_L)
  | 0, _, _, _ => none
  | k + 1, v2, μ, ν => if (μ 5 0) ≤ v2 then K  μ ν else if v2 = v1 then m_X1_findHung_23 v1 K k ((v2 + nI 1)) μ ν else (m_X1_hooksCounted v1 v2 μ ν).bind (fun r39 => if r39 = 0 then m_X1_findHung_23 v1 K k ((v2 + nI 1)) μ ν else fm_g (fm_in v1 (fm_n 13)) (m_X1_findHung_23 v1 K k ((v2 + nI 1)) (fm_u μ 13 v1.toNatClampNeg ((((μ 13 v1.toNatClampNeg)) ||| ((((nI 1)) <<< (v2 &&& 31)))))) ν))
def m_X1_findHung_6  (K : fm_I → fm_L → Option (fm_I × fm_L)) : Nat → Int32 → fm_I → fm_L → Option (fm_I × fm_L)
  | 0, _, _, _ => none
  | k + 1, v1, μ, ν => if (μ 5 0) ≤ v1 then K  μ ν else fm_g (fm_in v1 (fm_n 13)) (m_X1_findHung_23 v1  (fun μ23 ν23 => m_X1_findHung_6 K k ((v1 + nI 1)) μ23 ν23) 5000 ((nI 0)) (fm_u μ 13 v1.toNatClampNeg ((nI 0))) ν)
def m_X1_findHung  (μ : fm_I) (ν : fm_L) : Option (fm_I × fm_L) :=
  (m_X1_countCrossings  μ ν).bind (fun r1 => m_X1_findHung_6  (fun μ6 ν6 => some ((μ6, ν6))) 5000 ((nI 0)) r1.1 r1.2)
theorem ok_X1_findHung : fm_okV yX1_findHung cX1_findHung 3 (none : Option Jvm.ClassFile.FieldType) 0 := ⟨m_cd_X1_findHung, m_im_X1_findHung, m_se_X1_X1_findHung, m_ini_X1, by decide +kernel, by decide +kernel, by decide +kernel⟩
set_option maxHeartbeats 4000000 in
set_option maxRecDepth 100000 in
theorem j_X1_findHung_23_ {X : fm_X} {G : fm_G} {l : Launch} {v1 : Int32} (C : fm_C X G l cX1_findHung RX1 3 (none : Option Jvm.ClassFile.FieldType) 4 88) {F : (fm_I × fm_L) → State → Prop} (hF : F = fm_Qv X G)  {K : fm_I → fm_L → Option (fm_I × fm_L)} (hK : ∀  (μ : fm_I) (ν : fm_L), fm_J X G 3 F (K μ ν) μ ν 63 [(0, .ref (G.2.2.1 5)), (1, .int v1)] []) : ∀ (k : Nat) (v2 : Int32) (μ : fm_I) (ν : fm_L), fm_J X G 3 F (m_X1_findHung_23 v1 K k v2 μ ν) μ ν 23 [(0, .ref (G.2.2.1 5)), (1, .int v1), (2, .int v2)] [] := by
  intro k
  induction k with
  | zero =>
    intro v2 μ ν
    exact fm_none
  | succ k ih =>
    intro v2 μ ν
    rw [m_X1_findHung_23]
    refine fm_iload_n (pc := 23) C dX1_findHung_23 rfl rfl ?_
    refine fm_aload_n (pc := 24) C dX1_findHung_24 rfl rfl ?_
    refine g1_count (pc := 25) C (by decide) dX1_findHung_25 m_fl_X1_55 ?_
    refine fm_icmp_ge (pc := 28) (tgt := 63) C dX1_findHung_28 (by decide) (fun c3 => ?_) (fun c3 => ?_)
    · refine fm_less (lv' := [(0, .ref (G.2.2.1 5)), (1, .int v1)]) (by repeat (first | exact trivial | refine ⟨rfl, ?_⟩)) ?_
      exact hK  _ _
    · refine fm_iload_n (pc := 31) C dX1_findHung_31 rfl rfl ?_
      refine fm_iload_n (pc := 32) C dX1_findHung_32 rfl rfl ?_
      refine fm_icmp_eq (pc := 33) (tgt := 57) C dX1_findHung_33 (by decide) (fun c4 => ?_) (fun c4 => ?_)
      · refine fm_iinc (pc := 57) C dX1_findHung_57 rfl (v := (v2 + nI 1)) rfl (by decide) rfl ?_
        refine fm_goto (pc := 60) (tgt := 23) C dX1_findHung_60 (by decide) ?_
        refine fm_less (lv' := [(0, .ref (G.2.2.1 5)), (1, .int v1), (2, .int ((v2 + nI 1)))]) (by repeat (first | exact trivial | refine ⟨rfl, ?_⟩)) ?_
        exact ih _ _ _
      · refine fm_aload_n (pc := 36) C dX1_findHung_36 rfl rfl ?_
        refine fm_iload_n (pc := 37) C dX1_findHung_37 rfl rfl ?_
        refine fm_iload_n (pc := 38) C dX1_findHung_38 rfl rfl ?_
        refine fm_bind (fun r39 e39 => ?_)
        refine fm_cVi0 (pc := 39) C (t_X1_hooksCounted e39) ok_X1_hooksCounted ⟨by decide, rfl⟩ m_ml_X1_91 dX1_findHung_39 ⟨Nat.le_of_ble_eq_true rfl, Nat.le_of_ble_eq_true rfl⟩ rfl rfl (Nat.le_of_ble_eq_true rfl) ?_
        refine fm_if_eq (pc := 42) (tgt := 57) C dX1_findHung_42 (by decide) (fun c5 => ?_) (fun c5 => ?_)
        · refine fm_iinc (pc := 57) C dX1_findHung_57 rfl (v := (v2 + nI 1)) rfl (by decide) rfl ?_
          refine fm_goto (pc := 60) (tgt := 23) C dX1_findHung_60 (by decide) ?_
          refine fm_less (lv' := [(0, .ref (G.2.2.1 5)), (1, .int v1), (2, .int ((v2 + nI 1)))]) (by repeat (first | exact trivial | refine ⟨rfl, ?_⟩)) ?_
          exact ih _ _ _
        · refine fm_aload_n (pc := 45) C dX1_findHung_45 rfl rfl ?_
          refine g1_hungOn (pc := 46) C (by decide) dX1_findHung_46 m_fl_X1_24 ?_
          refine fm_iload_n (pc := 49) C dX1_findHung_49 rfl rfl ?_
          refine fm_dup2 (pc := 50) C dX1_findHung_50 rfl rfl ?_
          refine fm_guard (fun h6 => ?_)
          refine fm_iald (pc := 51) C (by decide) h6 dX1_findHung_51 ?_
          refine fm_iconst (pc := 52) (v := (nI 1)) C dX1_findHung_52 (by decide) ?_
          refine fm_iload_n (pc := 53) C dX1_findHung_53 rfl rfl ?_
          refine fm_ishl (pc := 54) C dX1_findHung_54 ?_
          refine fm_ior (pc := 55) C dX1_findHung_55 ?_
          refine fm_iast (pc := 56) C (by decide) h6 dX1_findHung_56 ?_
          refine fm_iinc (pc := 57) C dX1_findHung_57 rfl (v := (v2 + nI 1)) rfl (by decide) rfl ?_
          refine fm_goto (pc := 60) (tgt := 23) C dX1_findHung_60 (by decide) ?_
          refine fm_less (lv' := [(0, .ref (G.2.2.1 5)), (1, .int v1), (2, .int ((v2 + nI 1)))]) (by repeat (first | exact trivial | refine ⟨rfl, ?_⟩)) ?_
          exact ih _ _ _
set_option maxHeartbeats 4000000 in
set_option maxRecDepth 100000 in
theorem j_X1_findHung_6_ {X : fm_X} {G : fm_G} {l : Launch}  (C : fm_C X G l cX1_findHung RX1 3 (none : Option Jvm.ClassFile.FieldType) 4 88) {F : (fm_I × fm_L) → State → Prop} (hF : F = fm_Qv X G)  {K : fm_I → fm_L → Option (fm_I × fm_L)} (hK : ∀  (μ : fm_I) (ν : fm_L), fm_J X G 3 F (K μ ν) μ ν 69 [] []) : ∀ (k : Nat) (v1 : Int32) (μ : fm_I) (ν : fm_L), fm_J X G 3 F (m_X1_findHung_6  K k v1 μ ν) μ ν 6 [(0, .ref (G.2.2.1 5)), (1, .int v1)] [] := by
  intro k
  induction k with
  | zero =>
    intro v1 μ ν
    exact fm_none
  | succ k ih =>
    intro v1 μ ν
    rw [m_X1_findHung_6]
    refine fm_iload_n (pc := 6) C dX1_findHung_6 rfl rfl ?_
    refine fm_aload_n (pc := 7) C dX1_findHung_7 rfl rfl ?_
    refine g1_count (pc := 8) C (by decide) dX1_findHung_8 m_fl_X1_55 ?_
    refine fm_icmp_ge (pc := 11) (tgt := 69) C dX1_findHung_11 (by decide) (fun c1 => ?_) (fun c1 => ?_)
    · refine fm_less (lv' := []) (by repeat (first | exact trivial | refine ⟨rfl, ?_⟩)) ?_
      exact hK  _ _
    · refine fm_aload_n (pc := 14) C dX1_findHung_14 rfl rfl ?_
      refine g1_hungOn (pc := 15) C (by decide) dX1_findHung_15 m_fl_X1_24 ?_
      refine fm_iload_n (pc := 18) C dX1_findHung_18 rfl rfl ?_
      refine fm_iconst (pc := 19) (v := (nI 0)) C dX1_findHung_19 (by decide) ?_
      refine fm_guard (fun h2 => ?_)
      refine fm_iast (pc := 20) C (by decide) h2 dX1_findHung_20 ?_
      refine fm_iconst (pc := 21) (v := (nI 0)) C dX1_findHung_21 (by decide) ?_
      refine fm_istore_n (pc := 22) C dX1_findHung_22 rfl (by decide) rfl ?_
      refine fm_less (lv' := [(0, .ref (G.2.2.1 5)), (1, .int v1), (2, .int ((nI 0)))]) (by repeat (first | exact trivial | refine ⟨rfl, ?_⟩)) ?_
      refine j_X1_findHung_23_ C (v1 := v1) hF  (fun μ23 ν23 => ?_) _ _ _ _
      refine fm_iinc (pc := 63) C dX1_findHung_63 rfl (v := (v1 + nI 1)) rfl (by decide) rfl ?_
      refine fm_goto (pc := 66) (tgt := 6) C dX1_findHung_66 (by decide) ?_
      refine fm_less (lv' := [(0, .ref (G.2.2.1 5)), (1, .int ((v1 + nI 1)))]) (by repeat (first | exact trivial | refine ⟨rfl, ?_⟩)) ?_
      exact ih _ _ _
set_option maxHeartbeats 4000000 in
set_option maxRecDepth 100000 in
theorem j_X1_findHung {X : fm_X} {G : fm_G} {l : Launch}  {μ : fm_I} {ν : fm_L} (C : fm_C X G l cX1_findHung RX1 3 (none : Option Jvm.ClassFile.FieldType) 4 88) {F : (fm_I × fm_L) → State → Prop} (hF : F = fm_Qv X G) : fm_J X G 3 F (m_X1_findHung  μ ν) μ ν 0 [(0, .ref (G.2.2.1 5))] [] := by
  unfold m_X1_findHung
  refine fm_aload_n (pc := 0) C dX1_findHung_0 rfl rfl ?_
  refine fm_bind (fun r1 e1 => ?_)
  refine fm_cVv (pc := 1) C (t_X1_countCrossings e1) ok_X1_countCrossings ⟨by decide, rfl⟩ m_ml_X1_88 dX1_findHung_1 ⟨Nat.le_of_ble_eq_true rfl, Nat.le_of_ble_eq_true rfl⟩ rfl rfl (Nat.le_of_ble_eq_true rfl) ?_
  refine fm_iconst (pc := 4) (v := (nI 0)) C dX1_findHung_4 (by decide) ?_
  refine fm_istore_n (pc := 5) C dX1_findHung_5 rfl (by decide) rfl ?_
  refine fm_less (lv' := [(0, .ref (G.2.2.1 5)), (1, .int ((nI 0)))]) (by repeat (first | exact trivial | refine ⟨rfl, ?_⟩)) ?_
  refine j_X1_findHung_6_ C  hF  (fun μ6 ν6 => ?_) _ _ _ _
  exact fm_vret (pc := 69) C hF rfl dX1_findHung_69
theorem t_X1_findHung {l : Launch} {G : fm_G}  {μ : fm_I} {ν : fm_L} {r : fm_I × fm_L} (h : m_X1_findHung  μ ν = some r) : fm_Mv l G yX1_findHung cX1_findHung 3 (none : Option Jvm.ClassFile.FieldType) 4 88 [.ref (G.2.2.1 5)] μ ν r := fm_Mv_of (by decide +kernel) (Nat.le_of_ble_eq_true rfl) (fun _ C => j_X1_findHung C rfl r h)
theorem dX1_groupOf_0 : decode cX1_groupOf 0 = .ok (.iconst 1, 1) := by decide +kernel
theorem dX1_groupOf_1 : decode cX1_groupOf 1 = .ok (.iload_n 1, 1) := by decide +kernel
theorem dX1_groupOf_2 : decode cX1_groupOf 2 = .ok (.ishl, 1) := by decide +kernel
theorem dX1_groupOf_3 : decode cX1_groupOf 3 = .ok (.istore_n 2, 1) := by decide +kernel
theorem dX1_groupOf_4 : decode cX1_groupOf 4 = .ok (.iconst 0, 1) := by decide +kernel
theorem dX1_groupOf_5 : decode cX1_groupOf 5 = .ok (.istore_n 3, 1) := by decide +kernel
theorem dX1_groupOf_6 : decode cX1_groupOf 6 = .ok (.iload_n 3, 1) := by decide +kernel
theorem dX1_groupOf_7 : decode cX1_groupOf 7 = .ok (.aload_n 0, 1) := by decide +kernel
theorem dX1_groupOf_8 : decode cX1_groupOf 8 = .ok (.getfield 55, 3) := by decide +kernel
theorem dX1_groupOf_11 : decode cX1_groupOf 11 = .ok (.if_icmp .ge 47, 3) := by decide +kernel
theorem dX1_groupOf_14 : decode cX1_groupOf 14 = .ok (.iconst 0, 1) := by decide +kernel
theorem dX1_groupOf_15 : decode cX1_groupOf 15 = .ok (.istore 4, 2) := by decide +kernel
theorem dX1_groupOf_17 : decode cX1_groupOf 17 = .ok (.iload 4, 2) := by decide +kernel
theorem dX1_groupOf_19 : decode cX1_groupOf 19 = .ok (.aload_n 0, 1) := by decide +kernel
theorem dX1_groupOf_20 : decode cX1_groupOf 20 = .ok (.getfield 55, 3) := by decide +kernel
theorem dX1_groupOf_23 : decode cX1_groupOf 23 = .ok (.if_icmp .ge 29, 3) := by decide +kernel
theorem dX1_groupOf_26 : decode cX1_groupOf 26 = .ok (.iload_n 2, 1) := by decide +kernel
theorem dX1_groupOf_27 : decode cX1_groupOf 27 = .ok (.iload 4, 2) := by decide +kernel
theorem dX1_groupOf_29 : decode cX1_groupOf 29 = .ok (.ishr, 1) := by decide +kernel
theorem dX1_groupOf_30 : decode cX1_groupOf 30 = .ok (.iconst 1, 1) := by decide +kernel
theorem dX1_groupOf_31 : decode cX1_groupOf 31 = .ok (.iand, 1) := by decide +kernel
theorem dX1_groupOf_32 : decode cX1_groupOf 32 = .ok (.iconst 1, 1) := by decide +kernel
theorem dX1_groupOf_33 : decode cX1_groupOf 33 = .ok (.if_icmp .ne 13, 3) := by decide +kernel
theorem dX1_groupOf_36 : decode cX1_groupOf 36 = .ok (.iload_n 2, 1) := by decide +kernel
theorem dX1_groupOf_37 : decode cX1_groupOf 37 = .ok (.aload_n 0, 1) := by decide +kernel
theorem dX1_groupOf_38 : decode cX1_groupOf 38 = .ok (.getfield 24, 3) := by decide +kernel
theorem dX1_groupOf_41 : decode cX1_groupOf 41 = .ok (.iload 4, 2) := by decide +kernel
theorem dX1_groupOf_43 : decode cX1_groupOf 43 = .ok (.iaload, 1) := by decide +kernel
theorem dX1_groupOf_44 : decode cX1_groupOf 44 = .ok (.ior, 1) := by decide +kernel
theorem dX1_groupOf_45 : decode cX1_groupOf 45 = .ok (.istore_n 2, 1) := by decide +kernel
theorem dX1_groupOf_46 : decode cX1_groupOf 46 = .ok (.iinc 4 1, 3) := by decide +kernel
theorem dX1_groupOf_49 : decode cX1_groupOf 49 = .ok (.goto (-32), 3) := by decide +kernel
theorem dX1_groupOf_52 : decode cX1_groupOf 52 = .ok (.iinc 3 1, 3) := by decide +kernel
theorem dX1_groupOf_55 : decode cX1_groupOf 55 = .ok (.goto (-49), 3) := by decide +kernel
theorem dX1_groupOf_58 : decode cX1_groupOf 58 = .ok (.iload_n 2, 1) := by decide +kernel
theorem dX1_groupOf_59 : decode cX1_groupOf 59 = .ok (.ireturn, 1) := by decide +kernel
def m_X1_groupOf_17 (v3 : Int32) (μ : fm_I) (ν : fm_L) (K : Int32 → Option (Int32)) : Nat → Int32 → Int32 → Option (Int32)
  | 0, _, _ => none
  | k + 1, v2, v4 => if (μ 5 0) ≤ v4 then K v2 else if (((v2 >>> (v4 &&& 31))) &&& ((nI 1))) = (nI 1) then fm_g (fm_in v4 (fm_n 13)) (m_X1_groupOf_17 v3 μ ν K k ((v2 ||| ((μ 13 v4.toNatClampNeg)))) ((v4 + nI 1))) else m_X1_groupOf_17 v3 μ ν K k v2 ((v4 + nI 1))
def m_X1_groupOf_6  (μ : fm_I) (ν : fm_L) (K : Int32 → Option (Int32)) : Nat → Int32 → Int32 → Option (Int32)
  | 0, _, _ => none
  | k + 1, v2, v3 => if (μ 5 0) ≤ v3 then K v2 else m_X1_groupOf_17 v3 μ ν (fun x2_17 => m_X1_groupOf_6 μ ν K k x2_17 ((v3 + nI 1))) 5000 v2 ((nI 0))
def m_X1_groupOf (v1 : Int32) (μ : fm_I) (ν : fm_L) : Option (Int32) :=
  m_X1_groupOf_6 μ ν (fun x2_6 => some x2_6) 5000 ((((nI 1)) <<< (v1 &&& 31))) ((nI 0))
theorem ok_X1_groupOf : fm_okV yX1_groupOf cX1_groupOf 5 (some .int) 1 := ⟨m_cd_X1_groupOf, m_im_X1_groupOf, m_se_X1_X1_groupOf, m_ini_X1, by decide +kernel, by decide +kernel, by decide +kernel⟩
set_option maxHeartbeats 4000000 in
set_option maxRecDepth 100000 in
theorem j_X1_groupOf_17_ {X : fm_X} {G : fm_G} {l : Launch} {v3 : Int32} {μ : fm_I} {ν : fm_L} (C : fm_C X G l cX1_groupOf RX1 5 (some .int) 1 12) {F : Int32 → State → Prop} (hF : F = fun r => fm_Qi X G (r, μ, ν))  {K : Int32 → Option (Int32)} (hK : ∀ (v2 : Int32), fm_J X G 5 F (K v2) μ ν 52 [(0, .ref (G.2.2.1 5)), (2, .int v2), (3, .int v3)] []) : ∀ (k : Nat) (v2 : Int32) (v4 : Int32), fm_J X G 5 F (m_X1_groupOf_17 v3 μ ν K k v2 v4) μ ν 17 [(0, .ref (G.2.2.1 5)), (2, .int v2), (3, .int v3), (4, .int v4)] [] := by
  intro k
  induction k with
  | zero =>
    intro v2 v4
    exact fm_none
  | succ k ih =>
    intro v2 v4
    rw [m_X1_groupOf_17]
    refine fm_iload (pc := 17) C dX1_groupOf_17 rfl ?_
    refine fm_aload_n (pc := 19) C dX1_groupOf_19 rfl rfl ?_
    refine g1_count (pc := 20) C (by decide) dX1_groupOf_20 m_fl_X1_55 ?_
    refine fm_icmp_ge (pc := 23) (tgt := 52) C dX1_groupOf_23 (by decide) (fun c2 => ?_) (fun c2 => ?_)
    · refine fm_less (lv' := [(0, .ref (G.2.2.1 5)), (2, .int v2), (3, .int v3)]) (by repeat (first | exact trivial | refine ⟨rfl, ?_⟩)) ?_
      exact hK _
    · refine fm_iload_n (pc := 26) C dX1_groupOf_26 rfl rfl ?_
      refine fm_iload (pc := 27) C dX1_groupOf_27 rfl ?_
      refine fm_ishr (pc := 29) C dX1_groupOf_29 ?_
      refine fm_iconst (pc := 30) (v := (nI 1)) C dX1_groupOf_30 (by decide) ?_
      refine fm_iand (pc := 31) C dX1_groupOf_31 ?_
      refine fm_iconst (pc := 32) (v := (nI 1)) C dX1_groupOf_32 (by decide) ?_
      refine fm_icmp_ne (pc := 33) (tgt := 46) C dX1_groupOf_33 (by decide) (fun c3 => ?_) (fun c3 => ?_)
      · refine fm_iload_n (pc := 36) C dX1_groupOf_36 rfl rfl ?_
        refine fm_aload_n (pc := 37) C dX1_groupOf_37 rfl rfl ?_
        refine g1_hungOn (pc := 38) C (by decide) dX1_groupOf_38 m_fl_X1_24 ?_
        refine fm_iload (pc := 41) C dX1_groupOf_41 rfl ?_
        refine fm_guard (fun h4 => ?_)
        refine fm_iald (pc := 43) C (by decide) h4 dX1_groupOf_43 ?_
        refine fm_ior (pc := 44) C dX1_groupOf_44 ?_
        refine fm_istore_n (pc := 45) C dX1_groupOf_45 rfl (by decide) rfl ?_
        refine fm_iinc (pc := 46) C dX1_groupOf_46 rfl (v := (v4 + nI 1)) rfl (by decide) rfl ?_
        refine fm_goto (pc := 49) (tgt := 17) C dX1_groupOf_49 (by decide) ?_
        refine fm_less (lv' := [(0, .ref (G.2.2.1 5)), (2, .int ((v2 ||| ((μ 13 v4.toNatClampNeg))))), (3, .int v3), (4, .int ((v4 + nI 1)))]) (by repeat (first | exact trivial | refine ⟨rfl, ?_⟩)) ?_
        exact ih _ _
      · refine fm_iinc (pc := 46) C dX1_groupOf_46 rfl (v := (v4 + nI 1)) rfl (by decide) rfl ?_
        refine fm_goto (pc := 49) (tgt := 17) C dX1_groupOf_49 (by decide) ?_
        refine fm_less (lv' := [(0, .ref (G.2.2.1 5)), (2, .int v2), (3, .int v3), (4, .int ((v4 + nI 1)))]) (by repeat (first | exact trivial | refine ⟨rfl, ?_⟩)) ?_
        exact ih _ _
set_option maxHeartbeats 4000000 in
set_option maxRecDepth 100000 in
theorem j_X1_groupOf_6_ {X : fm_X} {G : fm_G} {l : Launch}  {μ : fm_I} {ν : fm_L} (C : fm_C X G l cX1_groupOf RX1 5 (some .int) 1 12) {F : Int32 → State → Prop} (hF : F = fun r => fm_Qi X G (r, μ, ν))  {K : Int32 → Option (Int32)} (hK : ∀ (v2 : Int32), fm_J X G 5 F (K v2) μ ν 58 [(2, .int v2)] []) : ∀ (k : Nat) (v2 : Int32) (v3 : Int32), fm_J X G 5 F (m_X1_groupOf_6  μ ν K k v2 v3) μ ν 6 [(0, .ref (G.2.2.1 5)), (2, .int v2), (3, .int v3)] [] := by
  intro k
  induction k with
  | zero =>
    intro v2 v3
    exact fm_none
  | succ k ih =>
    intro v2 v3
    rw [m_X1_groupOf_6]
    refine fm_iload_n (pc := 6) C dX1_groupOf_6 rfl rfl ?_
    refine fm_aload_n (pc := 7) C dX1_groupOf_7 rfl rfl ?_
    refine g1_count (pc := 8) C (by decide) dX1_groupOf_8 m_fl_X1_55 ?_
    refine fm_icmp_ge (pc := 11) (tgt := 58) C dX1_groupOf_11 (by decide) (fun c1 => ?_) (fun c1 => ?_)
    · refine fm_less (lv' := [(2, .int v2)]) (by repeat (first | exact trivial | refine ⟨rfl, ?_⟩)) ?_
      exact hK _
    · refine fm_iconst (pc := 14) (v := (nI 0)) C dX1_groupOf_14 (by decide) ?_
      refine fm_istore (pc := 15) C dX1_groupOf_15 (by decide) rfl ?_
      refine fm_less (lv' := [(0, .ref (G.2.2.1 5)), (2, .int v2), (3, .int v3), (4, .int ((nI 0)))]) (by repeat (first | exact trivial | refine ⟨rfl, ?_⟩)) ?_
      refine j_X1_groupOf_17_ C (v3 := v3) hF  (fun x2_17 => ?_) _ _ _
      refine fm_iinc (pc := 52) C dX1_groupOf_52 rfl (v := (v3 + nI 1)) rfl (by decide) rfl ?_
      refine fm_goto (pc := 55) (tgt := 6) C dX1_groupOf_55 (by decide) ?_
      refine fm_less (lv' := [(0, .ref (G.2.2.1 5)), (2, .int x2_17), (3, .int ((v3 + nI 1)))]) (by repeat (first | exact trivial | refine ⟨rfl, ?_⟩)) ?_
      exact ih _ _
set_option maxHeartbeats 4000000 in
set_option maxRecDepth 100000 in
theorem j_X1_groupOf {X : fm_X} {G : fm_G} {l : Launch} {v1 : Int32} {μ : fm_I} {ν : fm_L} (C : fm_C X G l cX1_groupOf RX1 5 (some .int) 1 12) {F : Int32 → State → Prop} (hF : F = fun r => fm_Qi X G (r, μ, ν)) : fm_J X G 5 F (m_X1_groupOf v1 μ ν) μ ν 0 [(0, .ref (G.2.2.1 5)), (1, .int v1)] [] := by
  unfold m_X1_groupOf
  refine fm_iconst (pc := 0) (v := (nI 1)) C dX1_groupOf_0 (by decide) ?_
  refine fm_iload_n (pc := 1) C dX1_groupOf_1 rfl rfl ?_
  refine fm_ishl (pc := 2) C dX1_groupOf_2 ?_
  refine fm_istore_n (pc := 3) C dX1_groupOf_3 rfl (by decide) rfl ?_
  refine fm_iconst (pc := 4) (v := (nI 0)) C dX1_groupOf_4 (by decide) ?_
  refine fm_istore_n (pc := 5) C dX1_groupOf_5 rfl (by decide) rfl ?_
  refine fm_less (lv' := [(0, .ref (G.2.2.1 5)), (2, .int ((((nI 1)) <<< (v1 &&& 31)))), (3, .int ((nI 0)))]) (by repeat (first | exact trivial | refine ⟨rfl, ?_⟩)) ?_
  refine j_X1_groupOf_6_ C  hF  (fun x2_6 => ?_) _ _ _
  refine fm_iload_n (pc := 58) C dX1_groupOf_58 rfl rfl ?_
  exact fm_zret0 (pc := 59) C hF rfl rfl dX1_groupOf_59
theorem t_X1_groupOf {l : Launch} {G : fm_G} {v1 : Int32} {μ : fm_I} {ν : fm_L} {r : Int32} (h : m_X1_groupOf v1 μ ν = some r) : fm_Mi l G yX1_groupOf cX1_groupOf 5 (some .int) 1 12 [.ref (G.2.2.1 5), .int v1] μ ν (r, μ, ν) := fm_Mi_of (by decide +kernel) (Nat.le_of_ble_eq_true rfl) (fun _ C => j_X1_groupOf C rfl r h)
theorem dX1_hangingGroups_0 : decode cX1_hangingGroups 0 = .ok (.aload_n 0, 1) := by decide +kernel
theorem dX1_hangingGroups_1 : decode cX1_hangingGroups 1 = .ok (.invokevirtual 109, 3) := by decide +kernel
theorem dX1_hangingGroups_4 : decode cX1_hangingGroups 4 = .ok (.iconst 0, 1) := by decide +kernel
theorem dX1_hangingGroups_5 : decode cX1_hangingGroups 5 = .ok (.istore_n 1, 1) := by decide +kernel
theorem dX1_hangingGroups_6 : decode cX1_hangingGroups 6 = .ok (.iconst 0, 1) := by decide +kernel
theorem dX1_hangingGroups_7 : decode cX1_hangingGroups 7 = .ok (.istore_n 2, 1) := by decide +kernel
theorem dX1_hangingGroups_8 : decode cX1_hangingGroups 8 = .ok (.iconst 0, 1) := by decide +kernel
theorem dX1_hangingGroups_9 : decode cX1_hangingGroups 9 = .ok (.istore_n 3, 1) := by decide +kernel
theorem dX1_hangingGroups_10 : decode cX1_hangingGroups 10 = .ok (.iload_n 3, 1) := by decide +kernel
theorem dX1_hangingGroups_11 : decode cX1_hangingGroups 11 = .ok (.aload_n 0, 1) := by decide +kernel
theorem dX1_hangingGroups_12 : decode cX1_hangingGroups 12 = .ok (.getfield 55, 3) := by decide +kernel
theorem dX1_hangingGroups_15 : decode cX1_hangingGroups 15 = .ok (.if_icmp .ge 28, 3) := by decide +kernel
theorem dX1_hangingGroups_18 : decode cX1_hangingGroups 18 = .ok (.iload_n 2, 1) := by decide +kernel
theorem dX1_hangingGroups_19 : decode cX1_hangingGroups 19 = .ok (.iload_n 3, 1) := by decide +kernel
theorem dX1_hangingGroups_20 : decode cX1_hangingGroups 20 = .ok (.ishr, 1) := by decide +kernel
theorem dX1_hangingGroups_21 : decode cX1_hangingGroups 21 = .ok (.iconst 1, 1) := by decide +kernel
theorem dX1_hangingGroups_22 : decode cX1_hangingGroups 22 = .ok (.iand, 1) := by decide +kernel
theorem dX1_hangingGroups_23 : decode cX1_hangingGroups 23 = .ok (.ifCond .ne 14, 3) := by decide +kernel
theorem dX1_hangingGroups_26 : decode cX1_hangingGroups 26 = .ok (.iinc 1 1, 3) := by decide +kernel
theorem dX1_hangingGroups_29 : decode cX1_hangingGroups 29 = .ok (.iload_n 2, 1) := by decide +kernel
theorem dX1_hangingGroups_30 : decode cX1_hangingGroups 30 = .ok (.aload_n 0, 1) := by decide +kernel
theorem dX1_hangingGroups_31 : decode cX1_hangingGroups 31 = .ok (.iload_n 3, 1) := by decide +kernel
theorem dX1_hangingGroups_32 : decode cX1_hangingGroups 32 = .ok (.invokevirtual 112, 3) := by decide +kernel
theorem dX1_hangingGroups_35 : decode cX1_hangingGroups 35 = .ok (.ior, 1) := by decide +kernel
theorem dX1_hangingGroups_36 : decode cX1_hangingGroups 36 = .ok (.istore_n 2, 1) := by decide +kernel
theorem dX1_hangingGroups_37 : decode cX1_hangingGroups 37 = .ok (.iinc 3 1, 3) := by decide +kernel
theorem dX1_hangingGroups_40 : decode cX1_hangingGroups 40 = .ok (.goto (-30), 3) := by decide +kernel
theorem dX1_hangingGroups_43 : decode cX1_hangingGroups 43 = .ok (.iload_n 1, 1) := by decide +kernel
theorem dX1_hangingGroups_44 : decode cX1_hangingGroups 44 = .ok (.ireturn, 1) := by decide +kernel
def m_X1_hangingGroups_10  (μ : fm_I) (ν : fm_L) (K : Int32 → Option (Int32 × fm_I × fm_L)) : Nat → Int32 → Int32 → Int32 → Option (Int32 × fm_I × fm_L)
  | 0, _, _, _ => none
  | k + 1, v1, v2, v3 => if (μ 5 0) ≤ v3 then K v1 else if (((v2 >>> (v3 &&& 31))) &&& ((nI 1))) = 0 then (m_X1_groupOf v3 μ ν).bind (fun r32 => m_X1_hangingGroups_10 μ ν K k ((v1 + nI 1)) ((v2 ||| r32)) ((v3 + nI 1))) else m_X1_hangingGroups_10 μ ν K k v1 v2 ((v3 + nI 1))
def m_X1_hangingGroups  (μ : fm_I) (ν : fm_L) : Option (Int32 × fm_I × fm_L) :=
  (m_X1_findHung  μ ν).bind (fun r1 => m_X1_hangingGroups_10 r1.1 r1.2 (fun x1_10 => some ((x1_10, r1.1, r1.2))) 5000 ((nI 0)) ((nI 0)) ((nI 0)))
theorem ok_X1_hangingGroups : fm_okV yX1_hangingGroups cX1_hangingGroups 4 (some .int) 0 := ⟨m_cd_X1_hangingGroups, m_im_X1_hangingGroups, m_se_X1_X1_hangingGroups, m_ini_X1, by decide +kernel, by decide +kernel, by decide +kernel⟩
set_option maxHeartbeats 4000000 in
set_option maxRecDepth 100000 in
theorem j_X1_hangingGroups_10_ {X : fm_X} {G : fm_G} {l : Launch}  {μ : fm_I} {ν : fm_L} (C : fm_C X G l cX1_hangingGroups RX1 4 (some .int) 5 110) {F : (Int32 × fm_I × fm_L) → State → Prop} (hF : F = fm_Qi X G)  {K : Int32 → Option (Int32 × fm_I × fm_L)} (hK : ∀ (v1 : Int32), fm_J X G 4 F (K v1) μ ν 43 [(1, .int v1)] []) : ∀ (k : Nat) (v1 : Int32) (v2 : Int32) (v3 : Int32), fm_J X G 4 F (m_X1_hangingGroups_10  μ ν K k v1 v2 v3) μ ν 10 [(0, .ref (G.2.2.1 5)), (1, .int v1), (2, .int v2), (3, .int v3)] [] := by
  intro k
  induction k with
  | zero =>
    intro v1 v2 v3
    exact fm_none
  | succ k ih =>
    intro v1 v2 v3
    rw [m_X1_hangingGroups_10]
    refine fm_iload_n (pc := 10) C dX1_hangingGroups_10 rfl rfl ?_
    refine fm_aload_n (pc := 11) C dX1_hangingGroups_11 rfl rfl ?_
    refine g1_count (pc := 12) C (by decide) dX1_hangingGroups_12 m_fl_X1_55 ?_
    refine fm_icmp_ge (pc := 15) (tgt := 43) C dX1_hangingGroups_15 (by decide) (fun c1 => ?_) (fun c1 => ?_)
    · refine fm_less (lv' := [(1, .int v1)]) (by repeat (first | exact trivial | refine ⟨rfl, ?_⟩)) ?_
      exact hK _
    · refine fm_iload_n (pc := 18) C dX1_hangingGroups_18 rfl rfl ?_
      refine fm_iload_n (pc := 19) C dX1_hangingGroups_19 rfl rfl ?_
      refine fm_ishr (pc := 20) C dX1_hangingGroups_20 ?_
      refine fm_iconst (pc := 21) (v := (nI 1)) C dX1_hangingGroups_21 (by decide) ?_
      refine fm_iand (pc := 22) C dX1_hangingGroups_22 ?_
      refine fm_if_ne (pc := 23) (tgt := 37) C dX1_hangingGroups_23 (by decide) (fun c2 => ?_) (fun c2 => ?_)
      · refine fm_iinc (pc := 26) C dX1_hangingGroups_26 rfl (v := (v1 + nI 1)) rfl (by decide) rfl ?_
        refine fm_iload_n (pc := 29) C dX1_hangingGroups_29 rfl rfl ?_
        refine fm_aload_n (pc := 30) C dX1_hangingGroups_30 rfl rfl ?_
        refine fm_iload_n (pc := 31) C dX1_hangingGroups_31 rfl rfl ?_
        refine fm_bind (fun r32 e32 => ?_)
        refine fm_cVi0 (pc := 32) C (t_X1_groupOf e32) ok_X1_groupOf ⟨by decide, rfl⟩ m_ml_X1_112 dX1_hangingGroups_32 ⟨Nat.le_of_ble_eq_true rfl, Nat.le_of_ble_eq_true rfl⟩ rfl rfl (Nat.le_of_ble_eq_true rfl) ?_
        refine fm_ior (pc := 35) C dX1_hangingGroups_35 ?_
        refine fm_istore_n (pc := 36) C dX1_hangingGroups_36 rfl (by decide) rfl ?_
        refine fm_iinc (pc := 37) C dX1_hangingGroups_37 rfl (v := (v3 + nI 1)) rfl (by decide) rfl ?_
        refine fm_goto (pc := 40) (tgt := 10) C dX1_hangingGroups_40 (by decide) ?_
        refine fm_less (lv' := [(0, .ref (G.2.2.1 5)), (1, .int ((v1 + nI 1))), (2, .int ((v2 ||| r32))), (3, .int ((v3 + nI 1)))]) (by repeat (first | exact trivial | refine ⟨rfl, ?_⟩)) ?_
        exact ih _ _ _
      · refine fm_iinc (pc := 37) C dX1_hangingGroups_37 rfl (v := (v3 + nI 1)) rfl (by decide) rfl ?_
        refine fm_goto (pc := 40) (tgt := 10) C dX1_hangingGroups_40 (by decide) ?_
        refine fm_less (lv' := [(0, .ref (G.2.2.1 5)), (1, .int v1), (2, .int v2), (3, .int ((v3 + nI 1)))]) (by repeat (first | exact trivial | refine ⟨rfl, ?_⟩)) ?_
        exact ih _ _ _
set_option maxHeartbeats 4000000 in
set_option maxRecDepth 100000 in
theorem j_X1_hangingGroups {X : fm_X} {G : fm_G} {l : Launch}  {μ : fm_I} {ν : fm_L} (C : fm_C X G l cX1_hangingGroups RX1 4 (some .int) 5 110) {F : (Int32 × fm_I × fm_L) → State → Prop} (hF : F = fm_Qi X G) : fm_J X G 4 F (m_X1_hangingGroups  μ ν) μ ν 0 [(0, .ref (G.2.2.1 5))] [] := by
  unfold m_X1_hangingGroups
  refine fm_aload_n (pc := 0) C dX1_hangingGroups_0 rfl rfl ?_
  refine fm_bind (fun r1 e1 => ?_)
  refine fm_cVv (pc := 1) C (t_X1_findHung e1) ok_X1_findHung ⟨by decide, rfl⟩ m_ml_X1_109 dX1_hangingGroups_1 ⟨Nat.le_of_ble_eq_true rfl, Nat.le_of_ble_eq_true rfl⟩ rfl rfl (Nat.le_of_ble_eq_true rfl) ?_
  refine fm_iconst (pc := 4) (v := (nI 0)) C dX1_hangingGroups_4 (by decide) ?_
  refine fm_istore_n (pc := 5) C dX1_hangingGroups_5 rfl (by decide) rfl ?_
  refine fm_iconst (pc := 6) (v := (nI 0)) C dX1_hangingGroups_6 (by decide) ?_
  refine fm_istore_n (pc := 7) C dX1_hangingGroups_7 rfl (by decide) rfl ?_
  refine fm_iconst (pc := 8) (v := (nI 0)) C dX1_hangingGroups_8 (by decide) ?_
  refine fm_istore_n (pc := 9) C dX1_hangingGroups_9 rfl (by decide) rfl ?_
  refine fm_less (lv' := [(0, .ref (G.2.2.1 5)), (1, .int ((nI 0))), (2, .int ((nI 0))), (3, .int ((nI 0)))]) (by repeat (first | exact trivial | refine ⟨rfl, ?_⟩)) ?_
  refine j_X1_hangingGroups_10_ C  hF  (fun x1_10 => ?_) _ _ _ _
  refine fm_iload_n (pc := 43) C dX1_hangingGroups_43 rfl rfl ?_
  exact fm_zret (pc := 44) C hF rfl rfl dX1_hangingGroups_44
theorem t_X1_hangingGroups {l : Launch} {G : fm_G}  {μ : fm_I} {ν : fm_L} {r : Int32 × fm_I × fm_L} (h : m_X1_hangingGroups  μ ν = some r) : fm_Mi l G yX1_hangingGroups cX1_hangingGroups 4 (some .int) 5 110 [.ref (G.2.2.1 5)] μ ν r := fm_Mi_of (by decide +kernel) (Nat.le_of_ble_eq_true rfl) (fun _ C => j_X1_hangingGroups C rfl r h)
theorem dX1_noneHangIn_0 : decode cX1_noneHangIn 0 = .ok (.iconst 0, 1) := by decide +kernel
theorem dX1_noneHangIn_1 : decode cX1_noneHangIn 1 = .ok (.istore_n 2, 1) := by decide +kernel
theorem dX1_noneHangIn_2 : decode cX1_noneHangIn 2 = .ok (.iload_n 2, 1) := by decide +kernel
theorem dX1_noneHangIn_3 : decode cX1_noneHangIn 3 = .ok (.aload_n 0, 1) := by decide +kernel
theorem dX1_noneHangIn_4 : decode cX1_noneHangIn 4 = .ok (.getfield 55, 3) := by decide +kernel
theorem dX1_noneHangIn_7 : decode cX1_noneHangIn 7 = .ok (.if_icmp .ge 31, 3) := by decide +kernel
theorem dX1_noneHangIn_10 : decode cX1_noneHangIn 10 = .ok (.iload_n 1, 1) := by decide +kernel
theorem dX1_noneHangIn_11 : decode cX1_noneHangIn 11 = .ok (.iload_n 2, 1) := by decide +kernel
theorem dX1_noneHangIn_12 : decode cX1_noneHangIn 12 = .ok (.ishr, 1) := by decide +kernel
theorem dX1_noneHangIn_13 : decode cX1_noneHangIn 13 = .ok (.iconst 1, 1) := by decide +kernel
theorem dX1_noneHangIn_14 : decode cX1_noneHangIn 14 = .ok (.iand, 1) := by decide +kernel
theorem dX1_noneHangIn_15 : decode cX1_noneHangIn 15 = .ok (.iconst 1, 1) := by decide +kernel
theorem dX1_noneHangIn_16 : decode cX1_noneHangIn 16 = .ok (.if_icmp .ne 16, 3) := by decide +kernel
theorem dX1_noneHangIn_19 : decode cX1_noneHangIn 19 = .ok (.aload_n 0, 1) := by decide +kernel
theorem dX1_noneHangIn_20 : decode cX1_noneHangIn 20 = .ok (.getfield 24, 3) := by decide +kernel
theorem dX1_noneHangIn_23 : decode cX1_noneHangIn 23 = .ok (.iload_n 2, 1) := by decide +kernel
theorem dX1_noneHangIn_24 : decode cX1_noneHangIn 24 = .ok (.iaload, 1) := by decide +kernel
theorem dX1_noneHangIn_25 : decode cX1_noneHangIn 25 = .ok (.iload_n 1, 1) := by decide +kernel
theorem dX1_noneHangIn_26 : decode cX1_noneHangIn 26 = .ok (.iand, 1) := by decide +kernel
theorem dX1_noneHangIn_27 : decode cX1_noneHangIn 27 = .ok (.ifCond .eq 5, 3) := by decide +kernel
theorem dX1_noneHangIn_30 : decode cX1_noneHangIn 30 = .ok (.iconst 0, 1) := by decide +kernel
theorem dX1_noneHangIn_31 : decode cX1_noneHangIn 31 = .ok (.ireturn, 1) := by decide +kernel
theorem dX1_noneHangIn_32 : decode cX1_noneHangIn 32 = .ok (.iinc 2 1, 3) := by decide +kernel
theorem dX1_noneHangIn_35 : decode cX1_noneHangIn 35 = .ok (.goto (-33), 3) := by decide +kernel
theorem dX1_noneHangIn_38 : decode cX1_noneHangIn 38 = .ok (.iconst 1, 1) := by decide +kernel
theorem dX1_noneHangIn_39 : decode cX1_noneHangIn 39 = .ok (.ireturn, 1) := by decide +kernel
def m_X1_noneHangIn_2 (v1 : Int32) (μ : fm_I) (ν : fm_L) (K : Option (Int32)) : Nat → Int32 → Option (Int32)
  | 0, _ => none
  | k + 1, v2 => if (μ 5 0) ≤ v2 then K else if (((v1 >>> (v2 &&& 31))) &&& ((nI 1))) = (nI 1) then fm_g (fm_in v2 (fm_n 13)) (if (((μ 13 v2.toNatClampNeg)) &&& v1) = 0 then m_X1_noneHangIn_2 v1 μ ν K k ((v2 + nI 1)) else some ((nI 0))) else m_X1_noneHangIn_2 v1 μ ν K k ((v2 + nI 1))
def m_X1_noneHangIn (v1 : Int32) (μ : fm_I) (ν : fm_L) : Option (Int32) :=
  m_X1_noneHangIn_2 v1 μ ν (some ((nI 1))) 5000 ((nI 0))
theorem ok_X1_noneHangIn : fm_okV yX1_noneHangIn cX1_noneHangIn 3 (some .boolean) 1 := ⟨m_cd_X1_noneHangIn, m_im_X1_noneHangIn, m_se_X1_X1_noneHangIn, m_ini_X1, by decide +kernel, by decide +kernel, by decide +kernel⟩
set_option maxHeartbeats 4000000 in
set_option maxRecDepth 100000 in
theorem j_X1_noneHangIn_2_ {X : fm_X} {G : fm_G} {l : Launch} {v1 : Int32} {μ : fm_I} {ν : fm_L} (C : fm_C X G l cX1_noneHangIn RX1 3 (some .boolean) 1 12) {F : Int32 → State → Prop} (hF : F = fun r => fm_Qi X G (r, μ, ν))  {K : Option (Int32)} (hK : fm_J X G 3 F (K ) μ ν 38 [] []) : ∀ (k : Nat) (v2 : Int32), fm_J X G 3 F (m_X1_noneHangIn_2 v1 μ ν K k v2) μ ν 2 [(0, .ref (G.2.2.1 5)), (1, .int v1), (2, .int v2)] [] := by
  intro k
  induction k with
  | zero =>
    intro v2
    exact fm_none
  | succ k ih =>
    intro v2
    rw [m_X1_noneHangIn_2]
    refine fm_iload_n (pc := 2) C dX1_noneHangIn_2 rfl rfl ?_
    refine fm_aload_n (pc := 3) C dX1_noneHangIn_3 rfl rfl ?_
    refine g1_count (pc := 4) C (by decide) dX1_noneHangIn_4 m_fl_X1_55 ?_
    refine fm_icmp_ge (pc := 7) (tgt := 38) C dX1_noneHangIn_7 (by decide) (fun c1 => ?_) (fun c1 => ?_)
    · refine fm_less (lv' := []) (by repeat (first | exact trivial | refine ⟨rfl, ?_⟩)) ?_
      exact hK
    · refine fm_iload_n (pc := 10) C dX1_noneHangIn_10 rfl rfl ?_
      refine fm_iload_n (pc := 11) C dX1_noneHangIn_11 rfl rfl ?_
      refine fm_ishr (pc := 12) C dX1_noneHangIn_12 ?_
      refine fm_iconst (pc := 13) (v := (nI 1)) C dX1_noneHangIn_13 (by decide) ?_
      refine fm_iand (pc := 14) C dX1_noneHangIn_14 ?_
      refine fm_iconst (pc := 15) (v := (nI 1)) C dX1_noneHangIn_15 (by decide) ?_
      refine fm_icmp_ne (pc := 16) (tgt := 32) C dX1_noneHangIn_16 (by decide) (fun c2 => ?_) (fun c2 => ?_)
      · refine fm_aload_n (pc := 19) C dX1_noneHangIn_19 rfl rfl ?_
        refine g1_hungOn (pc := 20) C (by decide) dX1_noneHangIn_20 m_fl_X1_24 ?_
        refine fm_iload_n (pc := 23) C dX1_noneHangIn_23 rfl rfl ?_
        refine fm_guard (fun h3 => ?_)
        refine fm_iald (pc := 24) C (by decide) h3 dX1_noneHangIn_24 ?_
        refine fm_iload_n (pc := 25) C dX1_noneHangIn_25 rfl rfl ?_
        refine fm_iand (pc := 26) C dX1_noneHangIn_26 ?_
        refine fm_if_eq (pc := 27) (tgt := 32) C dX1_noneHangIn_27 (by decide) (fun c4 => ?_) (fun c4 => ?_)
        · refine fm_iinc (pc := 32) C dX1_noneHangIn_32 rfl (v := (v2 + nI 1)) rfl (by decide) rfl ?_
          refine fm_goto (pc := 35) (tgt := 2) C dX1_noneHangIn_35 (by decide) ?_
          refine fm_less (lv' := [(0, .ref (G.2.2.1 5)), (1, .int v1), (2, .int ((v2 + nI 1)))]) (by repeat (first | exact trivial | refine ⟨rfl, ?_⟩)) ?_
          exact ih _
        · refine fm_iconst (pc := 30) (v := (nI 0)) C dX1_noneHangIn_30 (by decide) ?_
          exact fm_zret0 (pc := 31) C hF rfl rfl dX1_noneHangIn_31
      · refine fm_iinc (pc := 32) C dX1_noneHangIn_32 rfl (v := (v2 + nI 1)) rfl (by decide) rfl ?_
        refine fm_goto (pc := 35) (tgt := 2) C dX1_noneHangIn_35 (by decide) ?_
        refine fm_less (lv' := [(0, .ref (G.2.2.1 5)), (1, .int v1), (2, .int ((v2 + nI 1)))]) (by repeat (first | exact trivial | refine ⟨rfl, ?_⟩)) ?_
        exact ih _
set_option maxHeartbeats 4000000 in
set_option maxRecDepth 100000 in
theorem j_X1_noneHangIn {X : fm_X} {G : fm_G} {l : Launch} {v1 : Int32} {μ : fm_I} {ν : fm_L} (C : fm_C X G l cX1_noneHangIn RX1 3 (some .boolean) 1 12) {F : Int32 → State → Prop} (hF : F = fun r => fm_Qi X G (r, μ, ν)) : fm_J X G 3 F (m_X1_noneHangIn v1 μ ν) μ ν 0 [(0, .ref (G.2.2.1 5)), (1, .int v1)] [] := by
  unfold m_X1_noneHangIn
  refine fm_iconst (pc := 0) (v := (nI 0)) C dX1_noneHangIn_0 (by decide) ?_
  refine fm_istore_n (pc := 1) C dX1_noneHangIn_1 rfl (by decide) rfl ?_
  refine fm_less (lv' := [(0, .ref (G.2.2.1 5)), (1, .int v1), (2, .int ((nI 0)))]) (by repeat (first | exact trivial | refine ⟨rfl, ?_⟩)) ?_
  refine j_X1_noneHangIn_2_ C (v1 := v1) hF  ?_ _ _
  refine fm_iconst (pc := 38) (v := (nI 1)) C dX1_noneHangIn_38 (by decide) ?_
  exact fm_zret0 (pc := 39) C hF rfl rfl dX1_noneHangIn_39
theorem t_X1_noneHangIn {l : Launch} {G : fm_G} {v1 : Int32} {μ : fm_I} {ν : fm_L} {r : Int32} (h : m_X1_noneHangIn v1 μ ν = some r) : fm_Mi l G yX1_noneHangIn cX1_noneHangIn 3 (some .boolean) 1 12 [.ref (G.2.2.1 5), .int v1] μ ν (r, μ, ν) := fm_Mi_of (by decide +kernel) (Nat.le_of_ble_eq_true rfl) (fun _ C => j_X1_noneHangIn C rfl r h)
theorem dX1_fewestToCut_0 : decode cX1_fewestToCut 0 = .ok (.aload_n 0, 1) := by decide +kernel
theorem dX1_fewestToCut_1 : decode cX1_fewestToCut 1 = .ok (.invokevirtual 109, 3) := by decide +kernel
theorem dX1_fewestToCut_4 : decode cX1_fewestToCut 4 = .ok (.iconst 1, 1) := by decide +kernel
theorem dX1_fewestToCut_5 : decode cX1_fewestToCut 5 = .ok (.aload_n 0, 1) := by decide +kernel
theorem dX1_fewestToCut_6 : decode cX1_fewestToCut 6 = .ok (.getfield 55, 3) := by decide +kernel
theorem dX1_fewestToCut_9 : decode cX1_fewestToCut 9 = .ok (.ishl, 1) := by decide +kernel
theorem dX1_fewestToCut_10 : decode cX1_fewestToCut 10 = .ok (.iconst 1, 1) := by decide +kernel
theorem dX1_fewestToCut_11 : decode cX1_fewestToCut 11 = .ok (.isub, 1) := by decide +kernel
theorem dX1_fewestToCut_12 : decode cX1_fewestToCut 12 = .ok (.istore_n 1, 1) := by decide +kernel
theorem dX1_fewestToCut_13 : decode cX1_fewestToCut 13 = .ok (.iload_n 1, 1) := by decide +kernel
theorem dX1_fewestToCut_14 : decode cX1_fewestToCut 14 = .ok (.istore_n 2, 1) := by decide +kernel
theorem dX1_fewestToCut_15 : decode cX1_fewestToCut 15 = .ok (.iconst 0, 1) := by decide +kernel
theorem dX1_fewestToCut_16 : decode cX1_fewestToCut 16 = .ok (.istore_n 3, 1) := by decide +kernel
theorem dX1_fewestToCut_17 : decode cX1_fewestToCut 17 = .ok (.iload_n 3, 1) := by decide +kernel
theorem dX1_fewestToCut_18 : decode cX1_fewestToCut 18 = .ok (.iload_n 1, 1) := by decide +kernel
theorem dX1_fewestToCut_19 : decode cX1_fewestToCut 19 = .ok (.if_icmp .gt 34, 3) := by decide +kernel
theorem dX1_fewestToCut_22 : decode cX1_fewestToCut 22 = .ok (.iload_n 3, 1) := by decide +kernel
theorem dX1_fewestToCut_23 : decode cX1_fewestToCut 23 = .ok (.invokestatic 70, 3) := by decide +kernel
theorem dX1_fewestToCut_26 : decode cX1_fewestToCut 26 = .ok (.iload_n 2, 1) := by decide +kernel
theorem dX1_fewestToCut_27 : decode cX1_fewestToCut 27 = .ok (.invokestatic 70, 3) := by decide +kernel
theorem dX1_fewestToCut_30 : decode cX1_fewestToCut 30 = .ok (.if_icmp .ge 17, 3) := by decide +kernel
theorem dX1_fewestToCut_33 : decode cX1_fewestToCut 33 = .ok (.aload_n 0, 1) := by decide +kernel
theorem dX1_fewestToCut_34 : decode cX1_fewestToCut 34 = .ok (.iload_n 1, 1) := by decide +kernel
theorem dX1_fewestToCut_35 : decode cX1_fewestToCut 35 = .ok (.iload_n 3, 1) := by decide +kernel
theorem dX1_fewestToCut_36 : decode cX1_fewestToCut 36 = .ok (.iconst (-1), 1) := by decide +kernel
theorem dX1_fewestToCut_37 : decode cX1_fewestToCut 37 = .ok (.ixor, 1) := by decide +kernel
theorem dX1_fewestToCut_38 : decode cX1_fewestToCut 38 = .ok (.iand, 1) := by decide +kernel
theorem dX1_fewestToCut_39 : decode cX1_fewestToCut 39 = .ok (.invokevirtual 115, 3) := by decide +kernel
theorem dX1_fewestToCut_42 : decode cX1_fewestToCut 42 = .ok (.ifCond .eq 5, 3) := by decide +kernel
theorem dX1_fewestToCut_45 : decode cX1_fewestToCut 45 = .ok (.iload_n 3, 1) := by decide +kernel
theorem dX1_fewestToCut_46 : decode cX1_fewestToCut 46 = .ok (.istore_n 2, 1) := by decide +kernel
theorem dX1_fewestToCut_47 : decode cX1_fewestToCut 47 = .ok (.iinc 3 1, 3) := by decide +kernel
theorem dX1_fewestToCut_50 : decode cX1_fewestToCut 50 = .ok (.goto (-33), 3) := by decide +kernel
theorem dX1_fewestToCut_53 : decode cX1_fewestToCut 53 = .ok (.iload_n 2, 1) := by decide +kernel
theorem dX1_fewestToCut_54 : decode cX1_fewestToCut 54 = .ok (.ireturn, 1) := by decide +kernel
def m_X1_fewestToCut_17 (v1 : Int32) (μ : fm_I) (ν : fm_L) (K : Int32 → Option (Int32 × fm_I × fm_L)) : Nat → Int32 → Int32 → Option (Int32 × fm_I × fm_L)
  | 0, _, _ => none
  | k + 1, v2, v3 => if v1 < v3 then K v2 else (m_J6_bitCount_0f7a4 v3 μ ν).bind (fun r23 => (m_J6_bitCount_0f7a4 v2 μ ν).bind (fun r27 => if r27 ≤ r23 then m_X1_fewestToCut_17 v1 μ ν K k v2 ((v3 + nI 1)) else (m_X1_noneHangIn ((v1 &&& ((v3 ^^^ ((-1 : Int32)))))) μ ν).bind (fun r39 => if r39 = 0 then m_X1_fewestToCut_17 v1 μ ν K k v2 ((v3 + nI 1)) else m_X1_fewestToCut_17 v1 μ ν K k v3 ((v3 + nI 1)))))
def m_X1_fewestToCut  (μ : fm_I) (ν : fm_L) : Option (Int32 × fm_I × fm_L) :=
  (m_X1_findHung  μ ν).bind (fun r1 => m_X1_fewestToCut_17 ((((((nI 1)) <<< (((r1.1 5 0)) &&& 31))) - ((nI 1)))) r1.1 r1.2 (fun x2_17 => some ((x2_17, r1.1, r1.2))) 5000 ((((((nI 1)) <<< (((r1.1 5 0)) &&& 31))) - ((nI 1)))) ((nI 0)))
theorem ok_X1_fewestToCut : fm_okV yX1_fewestToCut cX1_fewestToCut 4 (some .int) 0 := ⟨m_cd_X1_fewestToCut, m_im_X1_fewestToCut, m_se_X1_X1_fewestToCut, m_ini_X1, by decide +kernel, by decide +kernel, by decide +kernel⟩
set_option maxHeartbeats 4000000 in
set_option maxRecDepth 100000 in
theorem j_X1_fewestToCut_17_ {X : fm_X} {G : fm_G} {l : Launch} {v1 : Int32} {μ : fm_I} {ν : fm_L} (C : fm_C X G l cX1_fewestToCut RX1 4 (some .int) 5 110) {F : (Int32 × fm_I × fm_L) → State → Prop} (hF : F = fm_Qi X G)  {K : Int32 → Option (Int32 × fm_I × fm_L)} (hK : ∀ (v2 : Int32), fm_J X G 4 F (K v2) μ ν 53 [(2, .int v2)] []) : ∀ (k : Nat) (v2 : Int32) (v3 : Int32), fm_J X G 4 F (m_X1_fewestToCut_17 v1 μ ν K k v2 v3) μ ν 17 [(0, .ref (G.2.2.1 5)), (1, .int v1), (2, .int v2), (3, .int v3)] [] := by
  intro k
  induction k with
  | zero =>
    intro v2 v3
    exact fm_none
  | succ k ih =>
    intro v2 v3
    rw [m_X1_fewestToCut_17]
    refine fm_iload_n (pc := 17) C dX1_fewestToCut_17 rfl rfl ?_
    refine fm_iload_n (pc := 18) C dX1_fewestToCut_18 rfl rfl ?_
    refine fm_icmp_gt (pc := 19) (tgt := 53) C dX1_fewestToCut_19 (by decide) (fun c1 => ?_) (fun c1 => ?_)
    · refine fm_less (lv' := [(2, .int v2)]) (by repeat (first | exact trivial | refine ⟨rfl, ?_⟩)) ?_
      exact hK _
    · refine fm_iload_n (pc := 22) C dX1_fewestToCut_22 rfl rfl ?_
      refine fm_bind (fun r23 e23 => ?_)
      refine fm_cSi0 (pc := 23) C (t_J6_bitCount_0f7a4 e23) ok_J6_bitCount_0f7a4 m_ml_X1_70 dX1_fewestToCut_23 ⟨Nat.le_of_ble_eq_true rfl, Nat.le_of_ble_eq_true rfl⟩ rfl rfl (Nat.le_of_ble_eq_true rfl) ?_
      refine fm_iload_n (pc := 26) C dX1_fewestToCut_26 rfl rfl ?_
      refine fm_bind (fun r27 e27 => ?_)
      refine fm_cSi0 (pc := 27) C (t_J6_bitCount_0f7a4 e27) ok_J6_bitCount_0f7a4 m_ml_X1_70 dX1_fewestToCut_27 ⟨Nat.le_of_ble_eq_true rfl, Nat.le_of_ble_eq_true rfl⟩ rfl rfl (Nat.le_of_ble_eq_true rfl) ?_
      refine fm_icmp_ge (pc := 30) (tgt := 47) C dX1_fewestToCut_30 (by decide) (fun c2 => ?_) (fun c2 => ?_)
      · refine fm_iinc (pc := 47) C dX1_fewestToCut_47 rfl (v := (v3 + nI 1)) rfl (by decide) rfl ?_
        refine fm_goto (pc := 50) (tgt := 17) C dX1_fewestToCut_50 (by decide) ?_
        refine fm_less (lv' := [(0, .ref (G.2.2.1 5)), (1, .int v1), (2, .int v2), (3, .int ((v3 + nI 1)))]) (by repeat (first | exact trivial | refine ⟨rfl, ?_⟩)) ?_
        exact ih _ _
      · refine fm_aload_n (pc := 33) C dX1_fewestToCut_33 rfl rfl ?_
        refine fm_iload_n (pc := 34) C dX1_fewestToCut_34 rfl rfl ?_
        refine fm_iload_n (pc := 35) C dX1_fewestToCut_35 rfl rfl ?_
        refine fm_iconst (pc := 36) (v := (-1 : Int32)) C dX1_fewestToCut_36 (by decide) ?_
        refine fm_ixor (pc := 37) C dX1_fewestToCut_37 ?_
        refine fm_iand (pc := 38) C dX1_fewestToCut_38 ?_
        refine fm_bind (fun r39 e39 => ?_)
        refine fm_cVi0 (pc := 39) C (t_X1_noneHangIn e39) ok_X1_noneHangIn ⟨by decide, rfl⟩ m_ml_X1_115 dX1_fewestToCut_39 ⟨Nat.le_of_ble_eq_true rfl, Nat.le_of_ble_eq_true rfl⟩ rfl rfl (Nat.le_of_ble_eq_true rfl) ?_
        refine fm_if_eq (pc := 42) (tgt := 47) C dX1_fewestToCut_42 (by decide) (fun c3 => ?_) (fun c3 => ?_)
        · refine fm_iinc (pc := 47) C dX1_fewestToCut_47 rfl (v := (v3 + nI 1)) rfl (by decide) rfl ?_
          refine fm_goto (pc := 50) (tgt := 17) C dX1_fewestToCut_50 (by decide) ?_
          refine fm_less (lv' := [(0, .ref (G.2.2.1 5)), (1, .int v1), (2, .int v2), (3, .int ((v3 + nI 1)))]) (by repeat (first | exact trivial | refine ⟨rfl, ?_⟩)) ?_
          exact ih _ _
        · refine fm_iload_n (pc := 45) C dX1_fewestToCut_45 rfl rfl ?_
          refine fm_istore_n (pc := 46) C dX1_fewestToCut_46 rfl (by decide) rfl ?_
          refine fm_iinc (pc := 47) C dX1_fewestToCut_47 rfl (v := (v3 + nI 1)) rfl (by decide) rfl ?_
          refine fm_goto (pc := 50) (tgt := 17) C dX1_fewestToCut_50 (by decide) ?_
          refine fm_less (lv' := [(0, .ref (G.2.2.1 5)), (1, .int v1), (2, .int v3), (3, .int ((v3 + nI 1)))]) (by repeat (first | exact trivial | refine ⟨rfl, ?_⟩)) ?_
          exact ih _ _
set_option maxHeartbeats 4000000 in
set_option maxRecDepth 100000 in
theorem j_X1_fewestToCut {X : fm_X} {G : fm_G} {l : Launch}  {μ : fm_I} {ν : fm_L} (C : fm_C X G l cX1_fewestToCut RX1 4 (some .int) 5 110) {F : (Int32 × fm_I × fm_L) → State → Prop} (hF : F = fm_Qi X G) : fm_J X G 4 F (m_X1_fewestToCut  μ ν) μ ν 0 [(0, .ref (G.2.2.1 5))] [] := by
  unfold m_X1_fewestToCut
  refine fm_aload_n (pc := 0) C dX1_fewestToCut_0 rfl rfl ?_
  refine fm_bind (fun r1 e1 => ?_)
  refine fm_cVv (pc := 1) C (t_X1_findHung e1) ok_X1_findHung ⟨by decide, rfl⟩ m_ml_X1_109 dX1_fewestToCut_1 ⟨Nat.le_of_ble_eq_true rfl, Nat.le_of_ble_eq_true rfl⟩ rfl rfl (Nat.le_of_ble_eq_true rfl) ?_
  refine fm_iconst (pc := 4) (v := (nI 1)) C dX1_fewestToCut_4 (by decide) ?_
  refine fm_aload_n (pc := 5) C dX1_fewestToCut_5 rfl rfl ?_
  refine g1_count (pc := 6) C (by decide) dX1_fewestToCut_6 m_fl_X1_55 ?_
  refine fm_ishl (pc := 9) C dX1_fewestToCut_9 ?_
  refine fm_iconst (pc := 10) (v := (nI 1)) C dX1_fewestToCut_10 (by decide) ?_
  refine fm_isub (pc := 11) C dX1_fewestToCut_11 ?_
  refine fm_istore_n (pc := 12) C dX1_fewestToCut_12 rfl (by decide) rfl ?_
  refine fm_iload_n (pc := 13) C dX1_fewestToCut_13 rfl rfl ?_
  refine fm_istore_n (pc := 14) C dX1_fewestToCut_14 rfl (by decide) rfl ?_
  refine fm_iconst (pc := 15) (v := (nI 0)) C dX1_fewestToCut_15 (by decide) ?_
  refine fm_istore_n (pc := 16) C dX1_fewestToCut_16 rfl (by decide) rfl ?_
  refine fm_less (lv' := [(0, .ref (G.2.2.1 5)), (1, .int ((((((nI 1)) <<< (((r1.1 5 0)) &&& 31))) - ((nI 1))))), (2, .int ((((((nI 1)) <<< (((r1.1 5 0)) &&& 31))) - ((nI 1))))), (3, .int ((nI 0)))]) (by repeat (first | exact trivial | refine ⟨rfl, ?_⟩)) ?_
  refine j_X1_fewestToCut_17_ C (v1 := (((((nI 1)) <<< (((r1.1 5 0)) &&& 31))) - ((nI 1)))) hF  (fun x2_17 => ?_) _ _ _
  refine fm_iload_n (pc := 53) C dX1_fewestToCut_53 rfl rfl ?_
  exact fm_zret (pc := 54) C hF rfl rfl dX1_fewestToCut_54
theorem t_X1_fewestToCut {l : Launch} {G : fm_G}  {μ : fm_I} {ν : fm_L} {r : Int32 × fm_I × fm_L} (h : m_X1_fewestToCut  μ ν = some r) : fm_Mi l G yX1_fewestToCut cX1_fewestToCut 4 (some .int) 5 110 [.ref (G.2.2.1 5)] μ ν r := fm_Mi_of (by decide +kernel) (Nat.le_of_ble_eq_true rfl) (fun _ C => j_X1_fewestToCut C rfl r h)
theorem dX1_hasJustTurns_0 : decode cX1_hasJustTurns 0 = .ok (.iload_n 2, 1) := by decide +kernel
theorem dX1_hasJustTurns_1 : decode cX1_hasJustTurns 1 = .ok (.aload_n 0, 1) := by decide +kernel
theorem dX1_hasJustTurns_2 : decode cX1_hasJustTurns 2 = .ok (.getfield 55, 3) := by decide +kernel
theorem dX1_hasJustTurns_5 : decode cX1_hasJustTurns 5 = .ok (.if_icmp .eq 5, 3) := by decide +kernel
theorem dX1_hasJustTurns_8 : decode cX1_hasJustTurns 8 = .ok (.iconst 0, 1) := by decide +kernel
theorem dX1_hasJustTurns_9 : decode cX1_hasJustTurns 9 = .ok (.ireturn, 1) := by decide +kernel
theorem dX1_hasJustTurns_10 : decode cX1_hasJustTurns 10 = .ok (.iconst 0, 1) := by decide +kernel
theorem dX1_hasJustTurns_11 : decode cX1_hasJustTurns 11 = .ok (.istore_n 3, 1) := by decide +kernel
theorem dX1_hasJustTurns_12 : decode cX1_hasJustTurns 12 = .ok (.iload_n 3, 1) := by decide +kernel
theorem dX1_hasJustTurns_13 : decode cX1_hasJustTurns 13 = .ok (.iload_n 2, 1) := by decide +kernel
theorem dX1_hasJustTurns_14 : decode cX1_hasJustTurns 14 = .ok (.if_icmp .ge 88, 3) := by decide +kernel
theorem dX1_hasJustTurns_17 : decode cX1_hasJustTurns 17 = .ok (.aload_n 1, 1) := by decide +kernel
theorem dX1_hasJustTurns_18 : decode cX1_hasJustTurns 18 = .ok (.iload_n 3, 1) := by decide +kernel
theorem dX1_hasJustTurns_19 : decode cX1_hasJustTurns 19 = .ok (.invokevirtual 118, 3) := by decide +kernel
theorem dX1_hasJustTurns_22 : decode cX1_hasJustTurns 22 = .ok (.istore 4, 2) := by decide +kernel
theorem dX1_hasJustTurns_24 : decode cX1_hasJustTurns 24 = .ok (.iconst 0, 1) := by decide +kernel
theorem dX1_hasJustTurns_25 : decode cX1_hasJustTurns 25 = .ok (.istore 5, 2) := by decide +kernel
theorem dX1_hasJustTurns_27 : decode cX1_hasJustTurns 27 = .ok (.iconst 0, 1) := by decide +kernel
theorem dX1_hasJustTurns_28 : decode cX1_hasJustTurns 28 = .ok (.istore 6, 2) := by decide +kernel
theorem dX1_hasJustTurns_30 : decode cX1_hasJustTurns 30 = .ok (.iconst 0, 1) := by decide +kernel
theorem dX1_hasJustTurns_31 : decode cX1_hasJustTurns 31 = .ok (.istore 7, 2) := by decide +kernel
theorem dX1_hasJustTurns_33 : decode cX1_hasJustTurns 33 = .ok (.iload 7, 2) := by decide +kernel
theorem dX1_hasJustTurns_35 : decode cX1_hasJustTurns 35 = .ok (.iload_n 2, 1) := by decide +kernel
theorem dX1_hasJustTurns_36 : decode cX1_hasJustTurns 36 = .ok (.if_icmp .ge 51, 3) := by decide +kernel
theorem dX1_hasJustTurns_39 : decode cX1_hasJustTurns 39 = .ok (.iload 5, 2) := by decide +kernel
theorem dX1_hasJustTurns_41 : decode cX1_hasJustTurns 41 = .ok (.aload_n 1, 1) := by decide +kernel
theorem dX1_hasJustTurns_42 : decode cX1_hasJustTurns 42 = .ok (.iload 7, 2) := by decide +kernel
theorem dX1_hasJustTurns_44 : decode cX1_hasJustTurns 44 = .ok (.invokevirtual 118, 3) := by decide +kernel
theorem dX1_hasJustTurns_47 : decode cX1_hasJustTurns 47 = .ok (.iload 4, 2) := by decide +kernel
theorem dX1_hasJustTurns_49 : decode cX1_hasJustTurns 49 = .ok (.if_icmp .ne 7, 3) := by decide +kernel
theorem dX1_hasJustTurns_52 : decode cX1_hasJustTurns 52 = .ok (.iconst 1, 1) := by decide +kernel
theorem dX1_hasJustTurns_53 : decode cX1_hasJustTurns 53 = .ok (.goto 4, 3) := by decide +kernel
theorem dX1_hasJustTurns_56 : decode cX1_hasJustTurns 56 = .ok (.iconst 0, 1) := by decide +kernel
theorem dX1_hasJustTurns_57 : decode cX1_hasJustTurns 57 = .ok (.iadd, 1) := by decide +kernel
theorem dX1_hasJustTurns_58 : decode cX1_hasJustTurns 58 = .ok (.istore 5, 2) := by decide +kernel
theorem dX1_hasJustTurns_60 : decode cX1_hasJustTurns 60 = .ok (.iload 6, 2) := by decide +kernel
theorem dX1_hasJustTurns_62 : decode cX1_hasJustTurns 62 = .ok (.aload_n 0, 1) := by decide +kernel
theorem dX1_hasJustTurns_63 : decode cX1_hasJustTurns 63 = .ok (.iload 7, 2) := by decide +kernel
theorem dX1_hasJustTurns_65 : decode cX1_hasJustTurns 65 = .ok (.invokevirtual 82, 3) := by decide +kernel
theorem dX1_hasJustTurns_68 : decode cX1_hasJustTurns 68 = .ok (.iload 4, 2) := by decide +kernel
theorem dX1_hasJustTurns_70 : decode cX1_hasJustTurns 70 = .ok (.if_icmp .ne 7, 3) := by decide +kernel
theorem dX1_hasJustTurns_73 : decode cX1_hasJustTurns 73 = .ok (.iconst 1, 1) := by decide +kernel
theorem dX1_hasJustTurns_74 : decode cX1_hasJustTurns 74 = .ok (.goto 4, 3) := by decide +kernel
theorem dX1_hasJustTurns_77 : decode cX1_hasJustTurns 77 = .ok (.iconst 0, 1) := by decide +kernel
theorem dX1_hasJustTurns_78 : decode cX1_hasJustTurns 78 = .ok (.iadd, 1) := by decide +kernel
theorem dX1_hasJustTurns_79 : decode cX1_hasJustTurns 79 = .ok (.istore 6, 2) := by decide +kernel
theorem dX1_hasJustTurns_81 : decode cX1_hasJustTurns 81 = .ok (.iinc 7 1, 3) := by decide +kernel
theorem dX1_hasJustTurns_84 : decode cX1_hasJustTurns 84 = .ok (.goto (-51), 3) := by decide +kernel
theorem dX1_hasJustTurns_87 : decode cX1_hasJustTurns 87 = .ok (.iload 5, 2) := by decide +kernel
theorem dX1_hasJustTurns_89 : decode cX1_hasJustTurns 89 = .ok (.iload 6, 2) := by decide +kernel
theorem dX1_hasJustTurns_91 : decode cX1_hasJustTurns 91 = .ok (.if_icmp .eq 5, 3) := by decide +kernel
theorem dX1_hasJustTurns_94 : decode cX1_hasJustTurns 94 = .ok (.iconst 0, 1) := by decide +kernel
theorem dX1_hasJustTurns_95 : decode cX1_hasJustTurns 95 = .ok (.ireturn, 1) := by decide +kernel
theorem dX1_hasJustTurns_96 : decode cX1_hasJustTurns 96 = .ok (.iinc 3 1, 3) := by decide +kernel
theorem dX1_hasJustTurns_99 : decode cX1_hasJustTurns 99 = .ok (.goto (-87), 3) := by decide +kernel
theorem dX1_hasJustTurns_102 : decode cX1_hasJustTurns 102 = .ok (.iconst 1, 1) := by decide +kernel
theorem dX1_hasJustTurns_103 : decode cX1_hasJustTurns 103 = .ok (.ireturn, 1) := by decide +kernel
def m_X1_hasJustTurns_33 (q1 : Nat) (v2 : Int32) (v3 : Int32) (v4 : Int32) (μ : fm_I) (ν : fm_L) (K : Int32 → Int32 → Option (Int32)) : Nat → Int32 → Int32 → Int32 → Option (Int32)
  | 0, _, _, _ => none
  | k + 1, v5, v6, v7 => if v2 ≤ v7 then K v5 v6 else (m_X2_intAt q1 v7 μ ν).bind (fun r44 => if r44 = v4 then (m_X1_turnsOf v7 μ ν).bind (fun r65 => if r65 = v4 then m_X1_hasJustTurns_33 q1 v2 v3 v4 μ ν K k ((v5 + ((nI 1)))) ((v6 + ((nI 1)))) ((v7 + nI 1)) else m_X1_hasJustTurns_33 q1 v2 v3 v4 μ ν K k ((v5 + ((nI 1)))) ((v6 + ((nI 0)))) ((v7 + nI 1))) else (m_X1_turnsOf v7 μ ν).bind (fun r65 => if r65 = v4 then m_X1_hasJustTurns_33 q1 v2 v3 v4 μ ν K k ((v5 + ((nI 0)))) ((v6 + ((nI 1)))) ((v7 + nI 1)) else m_X1_hasJustTurns_33 q1 v2 v3 v4 μ ν K k ((v5 + ((nI 0)))) ((v6 + ((nI 0)))) ((v7 + nI 1))))
def m_X1_hasJustTurns_12 (q1 : Nat) (v2 : Int32) (μ : fm_I) (ν : fm_L) (K : Option (Int32)) : Nat → Int32 → Option (Int32)
  | 0, _ => none
  | k + 1, v3 => if v2 ≤ v3 then K else (m_X2_intAt q1 v3 μ ν).bind (fun r19 => m_X1_hasJustTurns_33 q1 v2 v3 r19 μ ν (fun x5_33 x6_33 => if x5_33 = x6_33 then m_X1_hasJustTurns_12 q1 v2 μ ν K k ((v3 + nI 1)) else some ((nI 0))) 5000 ((nI 0)) ((nI 0)) ((nI 0)))
def m_X1_hasJustTurns (q1 : Nat) (v2 : Int32) (μ : fm_I) (ν : fm_L) : Option (Int32) :=
  fm_g (Nat.beq (fm_k q1) 2) (if v2 = (μ 5 0) then m_X1_hasJustTurns_12 q1 v2 μ ν (some ((nI 1))) 5000 ((nI 0)) else some ((nI 0)))
theorem ok_X1_hasJustTurns : fm_okV yX1_hasJustTurns cX1_hasJustTurns 8 (some .boolean) 2 := ⟨m_cd_X1_hasJustTurns, m_im_X1_hasJustTurns, m_se_X1_X1_hasJustTurns, m_ini_X1, by decide +kernel, by decide +kernel, by decide +kernel⟩
set_option maxHeartbeats 4000000 in
set_option maxRecDepth 100000 in
theorem j_X1_hasJustTurns_33_ {X : fm_X} {G : fm_G} {l : Launch} {q1 : Nat} {v2 : Int32} {v3 : Int32} {v4 : Int32} {μ : fm_I} {ν : fm_L} (C : fm_C X G l cX1_hasJustTurns RX1 8 (some .boolean) 5 96) {F : Int32 → State → Prop} (hF : F = fun r => fm_Qi X G (r, μ, ν)) (hk0 : fm_k q1 = 2) {K : Int32 → Int32 → Option (Int32)} (hK : ∀ (v5 : Int32) (v6 : Int32), fm_J X G 8 F (K v5 v6) μ ν 87 [(0, .ref (G.2.2.1 5)), (1, .ref (G.2.2.1 q1)), (2, .int v2), (3, .int v3), (5, .int v5), (6, .int v6)] []) : ∀ (k : Nat) (v5 : Int32) (v6 : Int32) (v7 : Int32), fm_J X G 8 F (m_X1_hasJustTurns_33 q1 v2 v3 v4 μ ν K k v5 v6 v7) μ ν 33 [(0, .ref (G.2.2.1 5)), (1, .ref (G.2.2.1 q1)), (2, .int v2), (3, .int v3), (4, .int v4), (5, .int v5), (6, .int v6), (7, .int v7)] [] := by
  intro k
  induction k with
  | zero =>
    intro v5 v6 v7
    exact fm_none
  | succ k ih =>
    intro v5 v6 v7
    rw [m_X1_hasJustTurns_33]
    refine fm_iload (pc := 33) C dX1_hasJustTurns_33 rfl ?_
    refine fm_iload_n (pc := 35) C dX1_hasJustTurns_35 rfl rfl ?_
    refine fm_icmp_ge (pc := 36) (tgt := 87) C dX1_hasJustTurns_36 (by decide) (fun c4 => ?_) (fun c4 => ?_)
    · refine fm_less (lv' := [(0, .ref (G.2.2.1 5)), (1, .ref (G.2.2.1 q1)), (2, .int v2), (3, .int v3), (5, .int v5), (6, .int v6)]) (by repeat (first | exact trivial | refine ⟨rfl, ?_⟩)) ?_
      exact hK _ _
    · refine fm_iload (pc := 39) C dX1_hasJustTurns_39 rfl ?_
      refine fm_aload_n (pc := 41) C dX1_hasJustTurns_41 rfl rfl ?_
      refine fm_iload (pc := 42) C dX1_hasJustTurns_42 rfl ?_
      refine fm_bind (fun r44 e44 => ?_)
      refine fm_cVi0 (pc := 44) C (t_X2_intAt e44) ok_X2_intAt (fm_kcn2 hk0) m_ml_X1_118 dX1_hasJustTurns_44 ⟨Nat.le_of_ble_eq_true rfl, Nat.le_of_ble_eq_true rfl⟩ rfl rfl (Nat.le_of_ble_eq_true rfl) ?_
      refine fm_iload (pc := 47) C dX1_hasJustTurns_47 rfl ?_
      refine fm_icmp_ne (pc := 49) (tgt := 56) C dX1_hasJustTurns_49 (by decide) (fun c5 => ?_) (fun c5 => ?_)
      · refine fm_iconst (pc := 52) (v := (nI 1)) C dX1_hasJustTurns_52 (by decide) ?_
        refine fm_goto (pc := 53) (tgt := 57) C dX1_hasJustTurns_53 (by decide) ?_
        refine fm_iadd (pc := 57) C dX1_hasJustTurns_57 ?_
        refine fm_istore (pc := 58) C dX1_hasJustTurns_58 (by decide) rfl ?_
        refine fm_iload (pc := 60) C dX1_hasJustTurns_60 rfl ?_
        refine fm_aload_n (pc := 62) C dX1_hasJustTurns_62 rfl rfl ?_
        refine fm_iload (pc := 63) C dX1_hasJustTurns_63 rfl ?_
        refine fm_bind (fun r65 e65 => ?_)
        refine fm_cVi0 (pc := 65) C (t_X1_turnsOf e65) ok_X1_turnsOf ⟨by decide, rfl⟩ m_ml_X1_82 dX1_hasJustTurns_65 ⟨Nat.le_of_ble_eq_true rfl, Nat.le_of_ble_eq_true rfl⟩ rfl rfl (Nat.le_of_ble_eq_true rfl) ?_
        refine fm_iload (pc := 68) C dX1_hasJustTurns_68 rfl ?_
        refine fm_icmp_ne (pc := 70) (tgt := 77) C dX1_hasJustTurns_70 (by decide) (fun c6 => ?_) (fun c6 => ?_)
        · refine fm_iconst (pc := 73) (v := (nI 1)) C dX1_hasJustTurns_73 (by decide) ?_
          refine fm_goto (pc := 74) (tgt := 78) C dX1_hasJustTurns_74 (by decide) ?_
          refine fm_iadd (pc := 78) C dX1_hasJustTurns_78 ?_
          refine fm_istore (pc := 79) C dX1_hasJustTurns_79 (by decide) rfl ?_
          refine fm_iinc (pc := 81) C dX1_hasJustTurns_81 rfl (v := (v7 + nI 1)) rfl (by decide) rfl ?_
          refine fm_goto (pc := 84) (tgt := 33) C dX1_hasJustTurns_84 (by decide) ?_
          refine fm_less (lv' := [(0, .ref (G.2.2.1 5)), (1, .ref (G.2.2.1 q1)), (2, .int v2), (3, .int v3), (4, .int v4), (5, .int ((v5 + ((nI 1))))), (6, .int ((v6 + ((nI 1))))), (7, .int ((v7 + nI 1)))]) (by repeat (first | exact trivial | refine ⟨rfl, ?_⟩)) ?_
          exact ih _ _ _
        · refine fm_iconst (pc := 77) (v := (nI 0)) C dX1_hasJustTurns_77 (by decide) ?_
          refine fm_iadd (pc := 78) C dX1_hasJustTurns_78 ?_
          refine fm_istore (pc := 79) C dX1_hasJustTurns_79 (by decide) rfl ?_
          refine fm_iinc (pc := 81) C dX1_hasJustTurns_81 rfl (v := (v7 + nI 1)) rfl (by decide) rfl ?_
          refine fm_goto (pc := 84) (tgt := 33) C dX1_hasJustTurns_84 (by decide) ?_
          refine fm_less (lv' := [(0, .ref (G.2.2.1 5)), (1, .ref (G.2.2.1 q1)), (2, .int v2), (3, .int v3), (4, .int v4), (5, .int ((v5 + ((nI 1))))), (6, .int ((v6 + ((nI 0))))), (7, .int ((v7 + nI 1)))]) (by repeat (first | exact trivial | refine ⟨rfl, ?_⟩)) ?_
          exact ih _ _ _
      · refine fm_iconst (pc := 56) (v := (nI 0)) C dX1_hasJustTurns_56 (by decide) ?_
        refine fm_iadd (pc := 57) C dX1_hasJustTurns_57 ?_
        refine fm_istore (pc := 58) C dX1_hasJustTurns_58 (by decide) rfl ?_
        refine fm_iload (pc := 60) C dX1_hasJustTurns_60 rfl ?_
        refine fm_aload_n (pc := 62) C dX1_hasJustTurns_62 rfl rfl ?_
        refine fm_iload (pc := 63) C dX1_hasJustTurns_63 rfl ?_
        refine fm_bind (fun r65 e65 => ?_)
        refine fm_cVi0 (pc := 65) C (t_X1_turnsOf e65) ok_X1_turnsOf ⟨by decide, rfl⟩ m_ml_X1_82 dX1_hasJustTurns_65 ⟨Nat.le_of_ble_eq_true rfl, Nat.le_of_ble_eq_true rfl⟩ rfl rfl (Nat.le_of_ble_eq_true rfl) ?_
        refine fm_iload (pc := 68) C dX1_hasJustTurns_68 rfl ?_
        refine fm_icmp_ne (pc := 70) (tgt := 77) C dX1_hasJustTurns_70 (by decide) (fun c7 => ?_) (fun c7 => ?_)
        · refine fm_iconst (pc := 73) (v := (nI 1)) C dX1_hasJustTurns_73 (by decide) ?_
          refine fm_goto (pc := 74) (tgt := 78) C dX1_hasJustTurns_74 (by decide) ?_
          refine fm_iadd (pc := 78) C dX1_hasJustTurns_78 ?_
          refine fm_istore (pc := 79) C dX1_hasJustTurns_79 (by decide) rfl ?_
          refine fm_iinc (pc := 81) C dX1_hasJustTurns_81 rfl (v := (v7 + nI 1)) rfl (by decide) rfl ?_
          refine fm_goto (pc := 84) (tgt := 33) C dX1_hasJustTurns_84 (by decide) ?_
          refine fm_less (lv' := [(0, .ref (G.2.2.1 5)), (1, .ref (G.2.2.1 q1)), (2, .int v2), (3, .int v3), (4, .int v4), (5, .int ((v5 + ((nI 0))))), (6, .int ((v6 + ((nI 1))))), (7, .int ((v7 + nI 1)))]) (by repeat (first | exact trivial | refine ⟨rfl, ?_⟩)) ?_
          exact ih _ _ _
        · refine fm_iconst (pc := 77) (v := (nI 0)) C dX1_hasJustTurns_77 (by decide) ?_
          refine fm_iadd (pc := 78) C dX1_hasJustTurns_78 ?_
          refine fm_istore (pc := 79) C dX1_hasJustTurns_79 (by decide) rfl ?_
          refine fm_iinc (pc := 81) C dX1_hasJustTurns_81 rfl (v := (v7 + nI 1)) rfl (by decide) rfl ?_
          refine fm_goto (pc := 84) (tgt := 33) C dX1_hasJustTurns_84 (by decide) ?_
          refine fm_less (lv' := [(0, .ref (G.2.2.1 5)), (1, .ref (G.2.2.1 q1)), (2, .int v2), (3, .int v3), (4, .int v4), (5, .int ((v5 + ((nI 0))))), (6, .int ((v6 + ((nI 0))))), (7, .int ((v7 + nI 1)))]) (by repeat (first | exact trivial | refine ⟨rfl, ?_⟩)) ?_
          exact ih _ _ _
set_option maxHeartbeats 4000000 in
set_option maxRecDepth 100000 in
theorem j_X1_hasJustTurns_12_ {X : fm_X} {G : fm_G} {l : Launch} {q1 : Nat} {v2 : Int32} {μ : fm_I} {ν : fm_L} (C : fm_C X G l cX1_hasJustTurns RX1 8 (some .boolean) 5 96) {F : Int32 → State → Prop} (hF : F = fun r => fm_Qi X G (r, μ, ν)) (hk0 : fm_k q1 = 2) {K : Option (Int32)} (hK : fm_J X G 8 F (K ) μ ν 102 [] []) : ∀ (k : Nat) (v3 : Int32), fm_J X G 8 F (m_X1_hasJustTurns_12 q1 v2 μ ν K k v3) μ ν 12 [(0, .ref (G.2.2.1 5)), (1, .ref (G.2.2.1 q1)), (2, .int v2), (3, .int v3)] [] := by
  intro k
  induction k with
  | zero =>
    intro v3
    exact fm_none
  | succ k ih =>
    intro v3
    rw [m_X1_hasJustTurns_12]
    refine fm_iload_n (pc := 12) C dX1_hasJustTurns_12 rfl rfl ?_
    refine fm_iload_n (pc := 13) C dX1_hasJustTurns_13 rfl rfl ?_
    refine fm_icmp_ge (pc := 14) (tgt := 102) C dX1_hasJustTurns_14 (by decide) (fun c3 => ?_) (fun c3 => ?_)
    · refine fm_less (lv' := []) (by repeat (first | exact trivial | refine ⟨rfl, ?_⟩)) ?_
      exact hK
    · refine fm_aload_n (pc := 17) C dX1_hasJustTurns_17 rfl rfl ?_
      refine fm_iload_n (pc := 18) C dX1_hasJustTurns_18 rfl rfl ?_
      refine fm_bind (fun r19 e19 => ?_)
      refine fm_cVi0 (pc := 19) C (t_X2_intAt e19) ok_X2_intAt (fm_kcn2 hk0) m_ml_X1_118 dX1_hasJustTurns_19 ⟨Nat.le_of_ble_eq_true rfl, Nat.le_of_ble_eq_true rfl⟩ rfl rfl (Nat.le_of_ble_eq_true rfl) ?_
      refine fm_istore (pc := 22) C dX1_hasJustTurns_22 (by decide) rfl ?_
      refine fm_iconst (pc := 24) (v := (nI 0)) C dX1_hasJustTurns_24 (by decide) ?_
      refine fm_istore (pc := 25) C dX1_hasJustTurns_25 (by decide) rfl ?_
      refine fm_iconst (pc := 27) (v := (nI 0)) C dX1_hasJustTurns_27 (by decide) ?_
      refine fm_istore (pc := 28) C dX1_hasJustTurns_28 (by decide) rfl ?_
      refine fm_iconst (pc := 30) (v := (nI 0)) C dX1_hasJustTurns_30 (by decide) ?_
      refine fm_istore (pc := 31) C dX1_hasJustTurns_31 (by decide) rfl ?_
      refine fm_less (lv' := [(0, .ref (G.2.2.1 5)), (1, .ref (G.2.2.1 q1)), (2, .int v2), (3, .int v3), (4, .int r19), (5, .int ((nI 0))), (6, .int ((nI 0))), (7, .int ((nI 0)))]) (by repeat (first | exact trivial | refine ⟨rfl, ?_⟩)) ?_
      refine j_X1_hasJustTurns_33_ C (q1 := q1) (v2 := v2) (v3 := v3) (v4 := r19) hF hk0 (fun x5_33 x6_33 => ?_) _ _ _ _
      refine fm_iload (pc := 87) C dX1_hasJustTurns_87 rfl ?_
      refine fm_iload (pc := 89) C dX1_hasJustTurns_89 rfl ?_
      refine fm_icmp_eq (pc := 91) (tgt := 96) C dX1_hasJustTurns_91 (by decide) (fun c8 => ?_) (fun c8 => ?_)
      · refine fm_iinc (pc := 96) C dX1_hasJustTurns_96 rfl (v := (v3 + nI 1)) rfl (by decide) rfl ?_
        refine fm_goto (pc := 99) (tgt := 12) C dX1_hasJustTurns_99 (by decide) ?_
        refine fm_less (lv' := [(0, .ref (G.2.2.1 5)), (1, .ref (G.2.2.1 q1)), (2, .int v2), (3, .int ((v3 + nI 1)))]) (by repeat (first | exact trivial | refine ⟨rfl, ?_⟩)) ?_
        exact ih _
      · refine fm_iconst (pc := 94) (v := (nI 0)) C dX1_hasJustTurns_94 (by decide) ?_
        exact fm_zret0 (pc := 95) C hF rfl rfl dX1_hasJustTurns_95
set_option maxHeartbeats 4000000 in
set_option maxRecDepth 100000 in
theorem j_X1_hasJustTurns {X : fm_X} {G : fm_G} {l : Launch} {q1 : Nat} {v2 : Int32} {μ : fm_I} {ν : fm_L} (C : fm_C X G l cX1_hasJustTurns RX1 8 (some .boolean) 5 96) {F : Int32 → State → Prop} (hF : F = fun r => fm_Qi X G (r, μ, ν)) : fm_J X G 8 F (m_X1_hasJustTurns q1 v2 μ ν) μ ν 0 [(0, .ref (G.2.2.1 5)), (1, .ref (G.2.2.1 q1)), (2, .int v2)] [] := by
  unfold m_X1_hasJustTurns
  refine fm_guard (fun h1 => ?_)
  refine fm_iload_n (pc := 0) C dX1_hasJustTurns_0 rfl rfl ?_
  refine fm_aload_n (pc := 1) C dX1_hasJustTurns_1 rfl rfl ?_
  refine g1_count (pc := 2) C (by decide) dX1_hasJustTurns_2 m_fl_X1_55 ?_
  refine fm_icmp_eq (pc := 5) (tgt := 10) C dX1_hasJustTurns_5 (by decide) (fun c2 => ?_) (fun c2 => ?_)
  · refine fm_iconst (pc := 10) (v := (nI 0)) C dX1_hasJustTurns_10 (by decide) ?_
    refine fm_istore_n (pc := 11) C dX1_hasJustTurns_11 rfl (by decide) rfl ?_
    refine fm_less (lv' := [(0, .ref (G.2.2.1 5)), (1, .ref (G.2.2.1 q1)), (2, .int v2), (3, .int ((nI 0)))]) (by repeat (first | exact trivial | refine ⟨rfl, ?_⟩)) ?_
    refine j_X1_hasJustTurns_12_ C (q1 := q1) (v2 := v2) hF (Nat.eq_of_beq_eq_true h1) ?_ _ _
    refine fm_iconst (pc := 102) (v := (nI 1)) C dX1_hasJustTurns_102 (by decide) ?_
    exact fm_zret0 (pc := 103) C hF rfl rfl dX1_hasJustTurns_103
  · refine fm_iconst (pc := 8) (v := (nI 0)) C dX1_hasJustTurns_8 (by decide) ?_
    exact fm_zret0 (pc := 9) C hF rfl rfl dX1_hasJustTurns_9
theorem t_X1_hasJustTurns {l : Launch} {G : fm_G} {q1 : Nat} {v2 : Int32} {μ : fm_I} {ν : fm_L} {r : Int32} (h : m_X1_hasJustTurns q1 v2 μ ν = some r) : fm_Mi l G yX1_hasJustTurns cX1_hasJustTurns 8 (some .boolean) 5 96 [.ref (G.2.2.1 5), .ref (G.2.2.1 q1), .int v2] μ ν (r, μ, ν) := fm_Mi_of (by decide +kernel) (Nat.le_of_ble_eq_true rfl) (fun _ C => j_X1_hasJustTurns C rfl r h)
