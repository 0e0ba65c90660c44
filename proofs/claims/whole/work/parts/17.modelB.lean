theorem dX6_isPiece_0 : decode cX6_isPiece 0 = .ok (.aload_n 0, 1) := by decide +kernel
theorem dX6_isPiece_1 : decode cX6_isPiece 1 = .ok (.iload_n 1, 1) := by decide +kernel
theorem dX6_isPiece_2 : decode cX6_isPiece 2 = .ok (.invokevirtual 88, 3) := by decide +kernel
theorem dX6_isPiece_5 : decode cX6_isPiece 5 = .ok (.ifCond .ne 5, 3) := by decide +kernel
theorem dX6_isPiece_8 : decode cX6_isPiece 8 = .ok (.iconst 0, 1) := by decide +kernel
theorem dX6_isPiece_9 : decode cX6_isPiece 9 = .ok (.ireturn, 1) := by decide +kernel
theorem dX6_isPiece_10 : decode cX6_isPiece 10 = .ok (.aload_n 0, 1) := by decide +kernel
theorem dX6_isPiece_11 : decode cX6_isPiece 11 = .ok (.iload_n 1, 1) := by decide +kernel
theorem dX6_isPiece_12 : decode cX6_isPiece 12 = .ok (.invokevirtual 175, 3) := by decide +kernel
theorem dX6_isPiece_15 : decode cX6_isPiece 15 = .ok (.iload_n 2, 1) := by decide +kernel
theorem dX6_isPiece_16 : decode cX6_isPiece 16 = .ok (.ifCond .lt 15, 3) := by decide +kernel
theorem dX6_isPiece_19 : decode cX6_isPiece 19 = .ok (.iload_n 2, 1) := by decide +kernel
theorem dX6_isPiece_20 : decode cX6_isPiece 20 = .ok (.aload_n 0, 1) := by decide +kernel
theorem dX6_isPiece_21 : decode cX6_isPiece 21 = .ok (.getfield 172, 3) := by decide +kernel
theorem dX6_isPiece_24 : decode cX6_isPiece 24 = .ok (.if_icmp .ge 7, 3) := by decide +kernel
theorem dX6_isPiece_27 : decode cX6_isPiece 27 = .ok (.iconst 1, 1) := by decide +kernel
theorem dX6_isPiece_28 : decode cX6_isPiece 28 = .ok (.goto 4, 3) := by decide +kernel
theorem dX6_isPiece_31 : decode cX6_isPiece 31 = .ok (.iconst 0, 1) := by decide +kernel
theorem dX6_isPiece_32 : decode cX6_isPiece 32 = .ok (.ireturn, 1) := by decide +kernel
def m_X6_isPiece (v1 : Int32) (v2 : Int32) (μ : fm_I) (ν : fm_L) : Option (Int32 × fm_I × fm_L) :=
  (m_X6_isBand v1 μ ν).bind (fun r2 => if r2 = 0 then some (((nI 0), μ, ν)) else (m_X6_cuts v1 μ ν).bind (fun r12 => if v2 < 0 then some (((nI 0), r12.1, r12.2)) else if (r12.1 58 28) ≤ v2 then some (((nI 0), r12.1, r12.2)) else some (((nI 1), r12.1, r12.2))))
theorem ok_X6_isPiece : fm_okV yX6_isPiece cX6_isPiece 3 (some .boolean) 2 := ⟨m_cd_X6_isPiece, m_im_X6_isPiece, m_se_X6_X6_isPiece, m_ini_X6, by decide +kernel, by decide +kernel, by decide +kernel⟩
set_option maxHeartbeats 4000000 in
set_option maxRecDepth 100000 in
theorem j_X6_isPiece {X : fm_X} {G : fm_G} {l : Launch} {v1 : Int32} {v2 : Int32} {μ : fm_I} {ν : fm_L} (C : fm_C X G l cX6_isPiece RX6 3 (some .boolean) 4 82) {F : (Int32 × fm_I × fm_L) → State → Prop} (hF : F = fm_Qi X G) : fm_J X G 3 F (m_X6_isPiece v1 v2 μ ν) μ ν 0 [(0, .ref (G.2.2.1 58)), (1, .int v1), (2, .int v2)] [] := by
  unfold m_X6_isPiece
  refine fm_aload_n (pc := 0) C dX6_isPiece_0 rfl rfl ?_
  refine fm_iload_n (pc := 1) C dX6_isPiece_1 rfl rfl ?_
  refine fm_bind (fun r2 e2 => ?_)
  refine fm_cVi0 (pc := 2) C (t_X6_isBand e2) ok_X6_isBand ⟨by decide, rfl⟩ m_ml_X6_88 dX6_isPiece_2 ⟨Nat.le_of_ble_eq_true rfl, Nat.le_of_ble_eq_true rfl⟩ rfl rfl (Nat.le_of_ble_eq_true rfl) ?_
  refine fm_if_ne (pc := 5) (tgt := 10) C dX6_isPiece_5 (by decide) (fun c1 => ?_) (fun c1 => ?_)
  · refine fm_iconst (pc := 8) (v := (nI 0)) C dX6_isPiece_8 (by decide) ?_
    exact fm_zret (pc := 9) C hF rfl rfl dX6_isPiece_9
  · refine fm_aload_n (pc := 10) C dX6_isPiece_10 rfl rfl ?_
    refine fm_iload_n (pc := 11) C dX6_isPiece_11 rfl rfl ?_
    refine fm_bind (fun r12 e12 => ?_)
    refine fm_cVv (pc := 12) C (t_X6_cuts e12) ok_X6_cuts ⟨by decide, rfl⟩ m_ml_X6_175 dX6_isPiece_12 ⟨Nat.le_of_ble_eq_true rfl, Nat.le_of_ble_eq_true rfl⟩ rfl rfl (Nat.le_of_ble_eq_true rfl) ?_
    refine fm_iload_n (pc := 15) C dX6_isPiece_15 rfl rfl ?_
    refine fm_if_lt (pc := 16) (tgt := 31) C dX6_isPiece_16 (by decide) (fun c2 => ?_) (fun c2 => ?_)
    · refine fm_iconst (pc := 31) (v := (nI 0)) C dX6_isPiece_31 (by decide) ?_
      exact fm_zret (pc := 32) C hF rfl rfl dX6_isPiece_32
    · refine fm_iload_n (pc := 19) C dX6_isPiece_19 rfl rfl ?_
      refine fm_aload_n (pc := 20) C dX6_isPiece_20 rfl rfl ?_
      refine g6_pieces (pc := 21) C (by decide) dX6_isPiece_21 m_fl_X6_172 ?_
      refine fm_icmp_ge (pc := 24) (tgt := 31) C dX6_isPiece_24 (by decide) (fun c3 => ?_) (fun c3 => ?_)
      · refine fm_iconst (pc := 31) (v := (nI 0)) C dX6_isPiece_31 (by decide) ?_
        exact fm_zret (pc := 32) C hF rfl rfl dX6_isPiece_32
      · refine fm_iconst (pc := 27) (v := (nI 1)) C dX6_isPiece_27 (by decide) ?_
        refine fm_goto (pc := 28) (tgt := 32) C dX6_isPiece_28 (by decide) ?_
        exact fm_zret (pc := 32) C hF rfl rfl dX6_isPiece_32
theorem t_X6_isPiece {l : Launch} {G : fm_G} {v1 : Int32} {v2 : Int32} {μ : fm_I} {ν : fm_L} {r : Int32 × fm_I × fm_L} (h : m_X6_isPiece v1 v2 μ ν = some r) : fm_Mi l G yX6_isPiece cX6_isPiece 3 (some .boolean) 4 82 [.ref (G.2.2.1 58), .int v1, .int v2] μ ν r := fm_Mi_of (by decide +kernel) (Nat.le_of_ble_eq_true rfl) (fun _ C => j_X6_isPiece C rfl r h)
theorem dX6_stripsOf_0 : decode cX6_stripsOf 0 = .ok (.iconst 0, 1) := by decide +kernel
theorem dX6_stripsOf_1 : decode cX6_stripsOf 1 = .ok (.istore_n 3, 1) := by decide +kernel
theorem dX6_stripsOf_2 : decode cX6_stripsOf 2 = .ok (.iconst 0, 1) := by decide +kernel
theorem dX6_stripsOf_3 : decode cX6_stripsOf 3 = .ok (.istore 4, 2) := by decide +kernel
theorem dX6_stripsOf_5 : decode cX6_stripsOf 5 = .ok (.iload 4, 2) := by decide +kernel
theorem dX6_stripsOf_7 : decode cX6_stripsOf 7 = .ok (.aload_n 0, 1) := by decide +kernel
theorem dX6_stripsOf_8 : decode cX6_stripsOf 8 = .ok (.getfield 26, 3) := by decide +kernel
theorem dX6_stripsOf_11 : decode cX6_stripsOf 11 = .ok (.iload_n 1, 1) := by decide +kernel
theorem dX6_stripsOf_12 : decode cX6_stripsOf 12 = .ok (.iaload, 1) := by decide +kernel
theorem dX6_stripsOf_13 : decode cX6_stripsOf 13 = .ok (.if_icmp .ge 27, 3) := by decide +kernel
theorem dX6_stripsOf_16 : decode cX6_stripsOf 16 = .ok (.aload_n 0, 1) := by decide +kernel
theorem dX6_stripsOf_17 : decode cX6_stripsOf 17 = .ok (.getfield 69, 3) := by decide +kernel
theorem dX6_stripsOf_20 : decode cX6_stripsOf 20 = .ok (.iload 4, 2) := by decide +kernel
theorem dX6_stripsOf_22 : decode cX6_stripsOf 22 = .ok (.iaload, 1) := by decide +kernel
theorem dX6_stripsOf_23 : decode cX6_stripsOf 23 = .ok (.iload_n 2, 1) := by decide +kernel
theorem dX6_stripsOf_24 : decode cX6_stripsOf 24 = .ok (.if_icmp .ne 10, 3) := by decide +kernel
theorem dX6_stripsOf_27 : decode cX6_stripsOf 27 = .ok (.iload_n 3, 1) := by decide +kernel
theorem dX6_stripsOf_28 : decode cX6_stripsOf 28 = .ok (.iconst 1, 1) := by decide +kernel
theorem dX6_stripsOf_29 : decode cX6_stripsOf 29 = .ok (.iload 4, 2) := by decide +kernel
theorem dX6_stripsOf_31 : decode cX6_stripsOf 31 = .ok (.ishl, 1) := by decide +kernel
theorem dX6_stripsOf_32 : decode cX6_stripsOf 32 = .ok (.ior, 1) := by decide +kernel
theorem dX6_stripsOf_33 : decode cX6_stripsOf 33 = .ok (.istore_n 3, 1) := by decide +kernel
theorem dX6_stripsOf_34 : decode cX6_stripsOf 34 = .ok (.iinc 4 1, 3) := by decide +kernel
theorem dX6_stripsOf_37 : decode cX6_stripsOf 37 = .ok (.goto (-32), 3) := by decide +kernel
theorem dX6_stripsOf_40 : decode cX6_stripsOf 40 = .ok (.iload_n 3, 1) := by decide +kernel
theorem dX6_stripsOf_41 : decode cX6_stripsOf 41 = .ok (.ireturn, 1) := by decide +kernel
def m_X6_stripsOf_5 (v1 : Int32) (v2 : Int32) (μ : fm_I) (ν : fm_L) (K : Int32 → Option (Int32)) : Nat → Int32 → Int32 → Option (Int32)
  | 0, _, _ => none
  | k + 1, v3, v4 => fm_g (fm_in v1 (fm_n 62)) (if (μ 62 v1.toNatClampNeg) ≤ v4 then K v3 else fm_g (fm_in v4 (fm_n 76)) (if (μ 76 v4.toNatClampNeg) = v2 then m_X6_stripsOf_5 v1 v2 μ ν K k ((v3 ||| ((((nI 1)) <<< (v4 &&& 31))))) ((v4 + nI 1)) else m_X6_stripsOf_5 v1 v2 μ ν K k v3 ((v4 + nI 1))))
def m_X6_stripsOf (v1 : Int32) (v2 : Int32) (μ : fm_I) (ν : fm_L) : Option (Int32) :=
  m_X6_stripsOf_5 v1 v2 μ ν (fun x3_5 => some x3_5) 5000 ((nI 0)) ((nI 0))
theorem ok_X6_stripsOf : fm_okV yX6_stripsOf cX6_stripsOf 5 (some .int) 2 := ⟨m_cd_X6_stripsOf, m_im_X6_stripsOf, m_se_X6_X6_stripsOf, m_ini_X6, by decide +kernel, by decide +kernel, by decide +kernel⟩
set_option maxHeartbeats 4000000 in
set_option maxRecDepth 100000 in
theorem j_X6_stripsOf_5_ {X : fm_X} {G : fm_G} {l : Launch} {v1 : Int32} {v2 : Int32} {μ : fm_I} {ν : fm_L} (C : fm_C X G l cX6_stripsOf RX6 5 (some .int) 1 12) {F : Int32 → State → Prop} (hF : F = fun r => fm_Qi X G (r, μ, ν))  {K : Int32 → Option (Int32)} (hK : ∀ (v3 : Int32), fm_J X G 5 F (K v3) μ ν 40 [(3, .int v3)] []) : ∀ (k : Nat) (v3 : Int32) (v4 : Int32), fm_J X G 5 F (m_X6_stripsOf_5 v1 v2 μ ν K k v3 v4) μ ν 5 [(0, .ref (G.2.2.1 58)), (1, .int v1), (2, .int v2), (3, .int v3), (4, .int v4)] [] := by
  intro k
  induction k with
  | zero =>
    intro v3 v4
    exact fm_none
  | succ k ih =>
    intro v3 v4
    rw [m_X6_stripsOf_5]
    refine fm_iload (pc := 5) C dX6_stripsOf_5 rfl ?_
    refine fm_aload_n (pc := 7) C dX6_stripsOf_7 rfl rfl ?_
    refine g6_strips (pc := 8) C (by decide) dX6_stripsOf_8 m_fl_X6_26 ?_
    refine fm_iload_n (pc := 11) C dX6_stripsOf_11 rfl rfl ?_
    refine fm_guard (fun h1 => ?_)
    refine fm_iald (pc := 12) C (by decide) h1 dX6_stripsOf_12 ?_
    refine fm_icmp_ge (pc := 13) (tgt := 40) C dX6_stripsOf_13 (by decide) (fun c2 => ?_) (fun c2 => ?_)
    · refine fm_less (lv' := [(3, .int v3)]) (by repeat (first | exact trivial | refine ⟨rfl, ?_⟩)) ?_
      exact hK _
    · refine fm_aload_n (pc := 16) C dX6_stripsOf_16 rfl rfl ?_
      refine g6_piece (pc := 17) C (by decide) dX6_stripsOf_17 m_fl_X6_69 ?_
      refine fm_iload (pc := 20) C dX6_stripsOf_20 rfl ?_
      refine fm_guard (fun h3 => ?_)
      refine fm_iald (pc := 22) C (by decide) h3 dX6_stripsOf_22 ?_
      refine fm_iload_n (pc := 23) C dX6_stripsOf_23 rfl rfl ?_
      refine fm_icmp_ne (pc := 24) (tgt := 34) C dX6_stripsOf_24 (by decide) (fun c4 => ?_) (fun c4 => ?_)
      · refine fm_iload_n (pc := 27) C dX6_stripsOf_27 rfl rfl ?_
        refine fm_iconst (pc := 28) (v := (nI 1)) C dX6_stripsOf_28 (by decide) ?_
        refine fm_iload (pc := 29) C dX6_stripsOf_29 rfl ?_
        refine fm_ishl (pc := 31) C dX6_stripsOf_31 ?_
        refine fm_ior (pc := 32) C dX6_stripsOf_32 ?_
        refine fm_istore_n (pc := 33) C dX6_stripsOf_33 rfl (by decide) rfl ?_
        refine fm_iinc (pc := 34) C dX6_stripsOf_34 rfl (v := (v4 + nI 1)) rfl (by decide) rfl ?_
        refine fm_goto (pc := 37) (tgt := 5) C dX6_stripsOf_37 (by decide) ?_
        refine fm_less (lv' := [(0, .ref (G.2.2.1 58)), (1, .int v1), (2, .int v2), (3, .int ((v3 ||| ((((nI 1)) <<< (v4 &&& 31)))))), (4, .int ((v4 + nI 1)))]) (by repeat (first | exact trivial | refine ⟨rfl, ?_⟩)) ?_
        exact ih _ _
      · refine fm_iinc (pc := 34) C dX6_stripsOf_34 rfl (v := (v4 + nI 1)) rfl (by decide) rfl ?_
        refine fm_goto (pc := 37) (tgt := 5) C dX6_stripsOf_37 (by decide) ?_
        refine fm_less (lv' := [(0, .ref (G.2.2.1 58)), (1, .int v1), (2, .int v2), (3, .int v3), (4, .int ((v4 + nI 1)))]) (by repeat (first | exact trivial | refine ⟨rfl, ?_⟩)) ?_
        exact ih _ _
set_option maxHeartbeats 4000000 in
set_option maxRecDepth 100000 in
theorem j_X6_stripsOf {X : fm_X} {G : fm_G} {l : Launch} {v1 : Int32} {v2 : Int32} {μ : fm_I} {ν : fm_L} (C : fm_C X G l cX6_stripsOf RX6 5 (some .int) 1 12) {F : Int32 → State → Prop} (hF : F = fun r => fm_Qi X G (r, μ, ν)) : fm_J X G 5 F (m_X6_stripsOf v1 v2 μ ν) μ ν 0 [(0, .ref (G.2.2.1 58)), (1, .int v1), (2, .int v2)] [] := by
  unfold m_X6_stripsOf
  refine fm_iconst (pc := 0) (v := (nI 0)) C dX6_stripsOf_0 (by decide) ?_
  refine fm_istore_n (pc := 1) C dX6_stripsOf_1 rfl (by decide) rfl ?_
  refine fm_iconst (pc := 2) (v := (nI 0)) C dX6_stripsOf_2 (by decide) ?_
  refine fm_istore (pc := 3) C dX6_stripsOf_3 (by decide) rfl ?_
  refine fm_less (lv' := [(0, .ref (G.2.2.1 58)), (1, .int v1), (2, .int v2), (3, .int ((nI 0))), (4, .int ((nI 0)))]) (by repeat (first | exact trivial | refine ⟨rfl, ?_⟩)) ?_
  refine j_X6_stripsOf_5_ C (v1 := v1) (v2 := v2) hF  (fun x3_5 => ?_) _ _ _
  refine fm_iload_n (pc := 40) C dX6_stripsOf_40 rfl rfl ?_
  exact fm_zret0 (pc := 41) C hF rfl rfl dX6_stripsOf_41
theorem t_X6_stripsOf {l : Launch} {G : fm_G} {v1 : Int32} {v2 : Int32} {μ : fm_I} {ν : fm_L} {r : Int32} (h : m_X6_stripsOf v1 v2 μ ν = some r) : fm_Mi l G yX6_stripsOf cX6_stripsOf 5 (some .int) 1 12 [.ref (G.2.2.1 58), .int v1, .int v2] μ ν (r, μ, ν) := fm_Mi_of (by decide +kernel) (Nat.le_of_ble_eq_true rfl) (fun _ C => j_X6_stripsOf C rfl r h)
theorem dX6_pieceOf_0 : decode cX6_pieceOf 0 = .ok (.aload_n 0, 1) := by decide +kernel
theorem dX6_pieceOf_1 : decode cX6_pieceOf 1 = .ok (.iload_n 1, 1) := by decide +kernel
theorem dX6_pieceOf_2 : decode cX6_pieceOf 2 = .ok (.iload_n 2, 1) := by decide +kernel
theorem dX6_pieceOf_3 : decode cX6_pieceOf 3 = .ok (.invokevirtual 179, 3) := by decide +kernel
theorem dX6_pieceOf_6 : decode cX6_pieceOf 6 = .ok (.ifCond .ne 9, 3) := by decide +kernel
theorem dX6_pieceOf_9 : decode cX6_pieceOf 9 = .ok (.aload_n 0, 1) := by decide +kernel
theorem dX6_pieceOf_10 : decode cX6_pieceOf 10 = .ok (.iconst (-1), 1) := by decide +kernel
theorem dX6_pieceOf_11 : decode cX6_pieceOf 11 = .ok (.invokevirtual 95, 3) := by decide +kernel
theorem dX6_pieceOf_14 : decode cX6_pieceOf 14 = .ok (.ireturn, 1) := by decide +kernel
theorem dX6_pieceOf_15 : decode cX6_pieceOf 15 = .ok (.iload_n 3, 1) := by decide +kernel
theorem dX6_pieceOf_16 : decode cX6_pieceOf 16 = .ok (.tableswitch 71 0 3 #[32, 39, 46, 53], 32) := by decide +kernel
theorem dX6_pieceOf_48 : decode cX6_pieceOf 48 = .ok (.aload_n 0, 1) := by decide +kernel
theorem dX6_pieceOf_49 : decode cX6_pieceOf 49 = .ok (.getfield 72, 3) := by decide +kernel
theorem dX6_pieceOf_52 : decode cX6_pieceOf 52 = .ok (.iload_n 2, 1) := by decide +kernel
theorem dX6_pieceOf_53 : decode cX6_pieceOf 53 = .ok (.iaload, 1) := by decide +kernel
theorem dX6_pieceOf_54 : decode cX6_pieceOf 54 = .ok (.ireturn, 1) := by decide +kernel
theorem dX6_pieceOf_55 : decode cX6_pieceOf 55 = .ok (.aload_n 0, 1) := by decide +kernel
theorem dX6_pieceOf_56 : decode cX6_pieceOf 56 = .ok (.iload_n 1, 1) := by decide +kernel
theorem dX6_pieceOf_57 : decode cX6_pieceOf 57 = .ok (.iload_n 2, 1) := by decide +kernel
theorem dX6_pieceOf_58 : decode cX6_pieceOf 58 = .ok (.invokevirtual 182, 3) := by decide +kernel
theorem dX6_pieceOf_61 : decode cX6_pieceOf 61 = .ok (.ireturn, 1) := by decide +kernel
theorem dX6_pieceOf_62 : decode cX6_pieceOf 62 = .ok (.aload_n 0, 1) := by decide +kernel
theorem dX6_pieceOf_63 : decode cX6_pieceOf 63 = .ok (.iload_n 1, 1) := by decide +kernel
theorem dX6_pieceOf_64 : decode cX6_pieceOf 64 = .ok (.iload_n 2, 1) := by decide +kernel
theorem dX6_pieceOf_65 : decode cX6_pieceOf 65 = .ok (.invokevirtual 185, 3) := by decide +kernel
theorem dX6_pieceOf_68 : decode cX6_pieceOf 68 = .ok (.ireturn, 1) := by decide +kernel
theorem dX6_pieceOf_69 : decode cX6_pieceOf 69 = .ok (.aload_n 0, 1) := by decide +kernel
theorem dX6_pieceOf_70 : decode cX6_pieceOf 70 = .ok (.iload_n 1, 1) := by decide +kernel
theorem dX6_pieceOf_71 : decode cX6_pieceOf 71 = .ok (.iload_n 2, 1) := by decide +kernel
theorem dX6_pieceOf_72 : decode cX6_pieceOf 72 = .ok (.invokevirtual 185, 3) := by decide +kernel
theorem dX6_pieceOf_75 : decode cX6_pieceOf 75 = .ok (.iconst 2, 1) := by decide +kernel
theorem dX6_pieceOf_76 : decode cX6_pieceOf 76 = .ok (.irem, 1) := by decide +kernel
theorem dX6_pieceOf_77 : decode cX6_pieceOf 77 = .ok (.iconst 1, 1) := by decide +kernel
theorem dX6_pieceOf_78 : decode cX6_pieceOf 78 = .ok (.if_icmp .ne 7, 3) := by decide +kernel
theorem dX6_pieceOf_81 : decode cX6_pieceOf 81 = .ok (.iconst 1, 1) := by decide +kernel
theorem dX6_pieceOf_82 : decode cX6_pieceOf 82 = .ok (.goto 4, 3) := by decide +kernel
theorem dX6_pieceOf_85 : decode cX6_pieceOf 85 = .ok (.iconst 2, 1) := by decide +kernel
theorem dX6_pieceOf_86 : decode cX6_pieceOf 86 = .ok (.ireturn, 1) := by decide +kernel
theorem dX6_pieceOf_87 : decode cX6_pieceOf 87 = .ok (.aload_n 0, 1) := by decide +kernel
theorem dX6_pieceOf_88 : decode cX6_pieceOf 88 = .ok (.bipush (-5), 2) := by decide +kernel
theorem dX6_pieceOf_90 : decode cX6_pieceOf 90 = .ok (.invokevirtual 95, 3) := by decide +kernel
theorem dX6_pieceOf_93 : decode cX6_pieceOf 93 = .ok (.ireturn, 1) := by decide +kernel
def m_X6_pieceOf (v1 : Int32) (v2 : Int32) (v3 : Int32) (μ : fm_I) (ν : fm_L) : Option (Int32 × fm_I × fm_L) :=
  (m_X6_isPiece v1 v2 μ ν).bind (fun r3 => if r3.1 = 0 then (m_X6_no ((-1 : Int32)) r3.2.1 r3.2.2).bind (fun r11 => some ((r11.1, r11.2.1, r11.2.2))) else if v3 = (nI 0) then fm_g (fm_in v2 (fm_n 77)) (some (((r3.2.1 77 v2.toNatClampNeg), r3.2.1, r3.2.2))) else if v3 = (nI 1) then (m_X6_stripsOf v1 v2 r3.2.1 r3.2.2).bind (fun r58 => some ((r58, r3.2.1, r3.2.2))) else if v3 = (nI 2) then (m_X6_turnsOf v1 v2 r3.2.1 r3.2.2).bind (fun r65 => some ((r65, r3.2.1, r3.2.2))) else if v3 = (nI 3) then (m_X6_turnsOf v1 v2 r3.2.1 r3.2.2).bind (fun r72 => if (r72 - r72 / ((nI 2)) * ((nI 2))) = (nI 1) then some (((nI 1), r3.2.1, r3.2.2)) else some (((nI 2), r3.2.1, r3.2.2))) else (m_X6_no ((-5 : Int32)) r3.2.1 r3.2.2).bind (fun r90 => some ((r90.1, r90.2.1, r90.2.2))))
theorem ok_X6_pieceOf : fm_okV yX6_pieceOf cX6_pieceOf 4 (some .int) 3 := ⟨m_cd_X6_pieceOf, m_im_X6_pieceOf, m_se_X6_X6_pieceOf, m_ini_X6, by decide +kernel, by decide +kernel, by decide +kernel⟩
set_option maxHeartbeats 4000000 in
set_option maxRecDepth 100000 in
theorem j_X6_pieceOf {X : fm_X} {G : fm_G} {l : Launch} {v1 : Int32} {v2 : Int32} {v3 : Int32} {μ : fm_I} {ν : fm_L} (C : fm_C X G l cX6_pieceOf RX6 4 (some .int) 5 104) {F : (Int32 × fm_I × fm_L) → State → Prop} (hF : F = fm_Qi X G) : fm_J X G 4 F (m_X6_pieceOf v1 v2 v3 μ ν) μ ν 0 [(0, .ref (G.2.2.1 58)), (1, .int v1), (2, .int v2), (3, .int v3)] [] := by
  unfold m_X6_pieceOf
  refine fm_aload_n (pc := 0) C dX6_pieceOf_0 rfl rfl ?_
  refine fm_iload_n (pc := 1) C dX6_pieceOf_1 rfl rfl ?_
  refine fm_iload_n (pc := 2) C dX6_pieceOf_2 rfl rfl ?_
  refine fm_bind (fun r3 e3 => ?_)
  refine fm_cVi (pc := 3) C (t_X6_isPiece e3) ok_X6_isPiece ⟨by decide, rfl⟩ m_ml_X6_179 dX6_pieceOf_3 ⟨Nat.le_of_ble_eq_true rfl, Nat.le_of_ble_eq_true rfl⟩ rfl rfl (Nat.le_of_ble_eq_true rfl) ?_
  refine fm_if_ne (pc := 6) (tgt := 15) C dX6_pieceOf_6 (by decide) (fun c1 => ?_) (fun c1 => ?_)
  · refine fm_aload_n (pc := 9) C dX6_pieceOf_9 rfl rfl ?_
    refine fm_iconst (pc := 10) (v := (-1 : Int32)) C dX6_pieceOf_10 (by decide) ?_
    refine fm_bind (fun r11 e11 => ?_)
    refine fm_cVi (pc := 11) C (t_X6_no e11) ok_X6_no ⟨by decide, rfl⟩ m_ml_X6_95 dX6_pieceOf_11 ⟨Nat.le_of_ble_eq_true rfl, Nat.le_of_ble_eq_true rfl⟩ rfl rfl (Nat.le_of_ble_eq_true rfl) ?_
    exact fm_zret (pc := 14) C hF rfl rfl dX6_pieceOf_14
  · refine fm_iload_n (pc := 15) C dX6_pieceOf_15 rfl rfl ?_
    refine fm_ite (fun s2 => ?_) (fun s2 => ?_)
    · refine fm_tabIn (pc := 16) (tgt := 48) (off := 32) C dX6_pieceOf_16 (by rw [s2]; decide) (by rw [s2]; decide) (by rw [s2]; decide) (by decide) ?_
      refine fm_aload_n (pc := 48) C dX6_pieceOf_48 rfl rfl ?_
      refine g6_many (pc := 49) C (by decide) dX6_pieceOf_49 m_fl_X6_72 ?_
      refine fm_iload_n (pc := 52) C dX6_pieceOf_52 rfl rfl ?_
      refine fm_guard (fun h3 => ?_)
      refine fm_iald (pc := 53) C (by decide) h3 dX6_pieceOf_53 ?_
      exact fm_zret (pc := 54) C hF rfl rfl dX6_pieceOf_54
    · refine fm_ite (fun s4 => ?_) (fun s4 => ?_)
      · refine fm_tabIn (pc := 16) (tgt := 55) (off := 39) C dX6_pieceOf_16 (by rw [s4]; decide) (by rw [s4]; decide) (by rw [s4]; decide) (by decide) ?_
        refine fm_aload_n (pc := 55) C dX6_pieceOf_55 rfl rfl ?_
        refine fm_iload_n (pc := 56) C dX6_pieceOf_56 rfl rfl ?_
        refine fm_iload_n (pc := 57) C dX6_pieceOf_57 rfl rfl ?_
        refine fm_bind (fun r58 e58 => ?_)
        refine fm_cVi0 (pc := 58) C (t_X6_stripsOf e58) ok_X6_stripsOf ⟨by decide, rfl⟩ m_ml_X6_182 dX6_pieceOf_58 ⟨Nat.le_of_ble_eq_true rfl, Nat.le_of_ble_eq_true rfl⟩ rfl rfl (Nat.le_of_ble_eq_true rfl) ?_
        exact fm_zret (pc := 61) C hF rfl rfl dX6_pieceOf_61
      · refine fm_ite (fun s5 => ?_) (fun s5 => ?_)
        · refine fm_tabIn (pc := 16) (tgt := 62) (off := 46) C dX6_pieceOf_16 (by rw [s5]; decide) (by rw [s5]; decide) (by rw [s5]; decide) (by decide) ?_
          refine fm_aload_n (pc := 62) C dX6_pieceOf_62 rfl rfl ?_
          refine fm_iload_n (pc := 63) C dX6_pieceOf_63 rfl rfl ?_
          refine fm_iload_n (pc := 64) C dX6_pieceOf_64 rfl rfl ?_
          refine fm_bind (fun r65 e65 => ?_)
          refine fm_cVi0 (pc := 65) C (t_X6_turnsOf e65) ok_X6_turnsOf ⟨by decide, rfl⟩ m_ml_X6_185 dX6_pieceOf_65 ⟨Nat.le_of_ble_eq_true rfl, Nat.le_of_ble_eq_true rfl⟩ rfl rfl (Nat.le_of_ble_eq_true rfl) ?_
          exact fm_zret (pc := 68) C hF rfl rfl dX6_pieceOf_68
        · refine fm_ite (fun s6 => ?_) (fun s6 => ?_)
          · refine fm_tabIn (pc := 16) (tgt := 69) (off := 53) C dX6_pieceOf_16 (by rw [s6]; decide) (by rw [s6]; decide) (by rw [s6]; decide) (by decide) ?_
            refine fm_aload_n (pc := 69) C dX6_pieceOf_69 rfl rfl ?_
            refine fm_iload_n (pc := 70) C dX6_pieceOf_70 rfl rfl ?_
            refine fm_iload_n (pc := 71) C dX6_pieceOf_71 rfl rfl ?_
            refine fm_bind (fun r72 e72 => ?_)
            refine fm_cVi0 (pc := 72) C (t_X6_turnsOf e72) ok_X6_turnsOf ⟨by decide, rfl⟩ m_ml_X6_185 dX6_pieceOf_72 ⟨Nat.le_of_ble_eq_true rfl, Nat.le_of_ble_eq_true rfl⟩ rfl rfl (Nat.le_of_ble_eq_true rfl) ?_
            refine fm_iconst (pc := 75) (v := (nI 2)) C dX6_pieceOf_75 (by decide) ?_
            refine fm_irem (pc := 76) C dX6_pieceOf_76 (by decide) ?_
            refine fm_iconst (pc := 77) (v := (nI 1)) C dX6_pieceOf_77 (by decide) ?_
            refine fm_icmp_ne (pc := 78) (tgt := 85) C dX6_pieceOf_78 (by decide) (fun c7 => ?_) (fun c7 => ?_)
            · refine fm_iconst (pc := 81) (v := (nI 1)) C dX6_pieceOf_81 (by decide) ?_
              refine fm_goto (pc := 82) (tgt := 86) C dX6_pieceOf_82 (by decide) ?_
              exact fm_zret (pc := 86) C hF rfl rfl dX6_pieceOf_86
            · refine fm_iconst (pc := 85) (v := (nI 2)) C dX6_pieceOf_85 (by decide) ?_
              exact fm_zret (pc := 86) C hF rfl rfl dX6_pieceOf_86
          · refine fm_tabOut (pc := 16) (tgt := 87) C dX6_pieceOf_16 (by have a0 := fm_ne (nI 0) (k := 0) (by decide) s2; have a1 := fm_ne (nI 1) (k := 1) (by decide) s4; have a2 := fm_ne (nI 2) (k := 2) (by decide) s5; have a3 := fm_ne (nI 3) (k := 3) (by decide) s6; omega) (by decide) ?_
            refine fm_aload_n (pc := 87) C dX6_pieceOf_87 rfl rfl ?_
            refine fm_bipush (pc := 88) (v := (-5 : Int32)) C dX6_pieceOf_88 (by decide) ?_
            refine fm_bind (fun r90 e90 => ?_)
            refine fm_cVi (pc := 90) C (t_X6_no e90) ok_X6_no ⟨by decide, rfl⟩ m_ml_X6_95 dX6_pieceOf_90 ⟨Nat.le_of_ble_eq_true rfl, Nat.le_of_ble_eq_true rfl⟩ rfl rfl (Nat.le_of_ble_eq_true rfl) ?_
            exact fm_zret (pc := 93) C hF rfl rfl dX6_pieceOf_93
theorem t_X6_pieceOf {l : Launch} {G : fm_G} {v1 : Int32} {v2 : Int32} {v3 : Int32} {μ : fm_I} {ν : fm_L} {r : Int32 × fm_I × fm_L} (h : m_X6_pieceOf v1 v2 v3 μ ν = some r) : fm_Mi l G yX6_pieceOf cX6_pieceOf 4 (some .int) 5 104 [.ref (G.2.2.1 58), .int v1, .int v2, .int v3] μ ν r := fm_Mi_of (by decide +kernel) (Nat.le_of_ble_eq_true rfl) (fun _ C => j_X6_pieceOf C rfl r h)
theorem dX6_pieceAt_0 : decode cX6_pieceAt 0 = .ok (.aload_n 0, 1) := by decide +kernel
theorem dX6_pieceAt_1 : decode cX6_pieceAt 1 = .ok (.iload_n 1, 1) := by decide +kernel
theorem dX6_pieceAt_2 : decode cX6_pieceAt 2 = .ok (.iload_n 2, 1) := by decide +kernel
theorem dX6_pieceAt_3 : decode cX6_pieceAt 3 = .ok (.invokevirtual 113, 3) := by decide +kernel
theorem dX6_pieceAt_6 : decode cX6_pieceAt 6 = .ok (.ifCond .ne 9, 3) := by decide +kernel
theorem dX6_pieceAt_9 : decode cX6_pieceAt 9 = .ok (.aload_n 0, 1) := by decide +kernel
theorem dX6_pieceAt_10 : decode cX6_pieceAt 10 = .ok (.iconst (-1), 1) := by decide +kernel
theorem dX6_pieceAt_11 : decode cX6_pieceAt 11 = .ok (.invokevirtual 95, 3) := by decide +kernel
theorem dX6_pieceAt_14 : decode cX6_pieceAt 14 = .ok (.ireturn, 1) := by decide +kernel
theorem dX6_pieceAt_15 : decode cX6_pieceAt 15 = .ok (.aload_n 0, 1) := by decide +kernel
theorem dX6_pieceAt_16 : decode cX6_pieceAt 16 = .ok (.iload_n 1, 1) := by decide +kernel
theorem dX6_pieceAt_17 : decode cX6_pieceAt 17 = .ok (.invokevirtual 175, 3) := by decide +kernel
theorem dX6_pieceAt_20 : decode cX6_pieceAt 20 = .ok (.aload_n 0, 1) := by decide +kernel
theorem dX6_pieceAt_21 : decode cX6_pieceAt 21 = .ok (.getfield 69, 3) := by decide +kernel
theorem dX6_pieceAt_24 : decode cX6_pieceAt 24 = .ok (.iload_n 2, 1) := by decide +kernel
theorem dX6_pieceAt_25 : decode cX6_pieceAt 25 = .ok (.iaload, 1) := by decide +kernel
theorem dX6_pieceAt_26 : decode cX6_pieceAt 26 = .ok (.ireturn, 1) := by decide +kernel
def m_X6_pieceAt (v1 : Int32) (v2 : Int32) (μ : fm_I) (ν : fm_L) : Option (Int32 × fm_I × fm_L) :=
  (m_X6_isStrip v1 v2 μ ν).bind (fun r3 => if r3 = 0 then (m_X6_no ((-1 : Int32)) μ ν).bind (fun r11 => some ((r11.1, r11.2.1, r11.2.2))) else (m_X6_cuts v1 μ ν).bind (fun r17 => fm_g (fm_in v2 (fm_n 76)) (some (((r17.1 76 v2.toNatClampNeg), r17.1, r17.2)))))
theorem ok_X6_pieceAt : fm_okV yX6_pieceAt cX6_pieceAt 3 (some .int) 2 := ⟨m_cd_X6_pieceAt, m_im_X6_pieceAt, m_se_X6_X6_pieceAt, m_ini_X6, by decide +kernel, by decide +kernel, by decide +kernel⟩
set_option maxHeartbeats 4000000 in
set_option maxRecDepth 100000 in
theorem j_X6_pieceAt {X : fm_X} {G : fm_G} {l : Launch} {v1 : Int32} {v2 : Int32} {μ : fm_I} {ν : fm_L} (C : fm_C X G l cX6_pieceAt RX6 3 (some .int) 4 82) {F : (Int32 × fm_I × fm_L) → State → Prop} (hF : F = fm_Qi X G) : fm_J X G 3 F (m_X6_pieceAt v1 v2 μ ν) μ ν 0 [(0, .ref (G.2.2.1 58)), (1, .int v1), (2, .int v2)] [] := by
  unfold m_X6_pieceAt
  refine fm_aload_n (pc := 0) C dX6_pieceAt_0 rfl rfl ?_
  refine fm_iload_n (pc := 1) C dX6_pieceAt_1 rfl rfl ?_
  refine fm_iload_n (pc := 2) C dX6_pieceAt_2 rfl rfl ?_
  refine fm_bind (fun r3 e3 => ?_)
  refine fm_cVi0 (pc := 3) C (t_X6_isStrip e3) ok_X6_isStrip ⟨by decide, rfl⟩ m_ml_X6_113 dX6_pieceAt_3 ⟨Nat.le_of_ble_eq_true rfl, Nat.le_of_ble_eq_true rfl⟩ rfl rfl (Nat.le_of_ble_eq_true rfl) ?_
  refine fm_if_ne (pc := 6) (tgt := 15) C dX6_pieceAt_6 (by decide) (fun c1 => ?_) (fun c1 => ?_)
  · refine fm_aload_n (pc := 9) C dX6_pieceAt_9 rfl rfl ?_
    refine fm_iconst (pc := 10) (v := (-1 : Int32)) C dX6_pieceAt_10 (by decide) ?_
    refine fm_bind (fun r11 e11 => ?_)
    refine fm_cVi (pc := 11) C (t_X6_no e11) ok_X6_no ⟨by decide, rfl⟩ m_ml_X6_95 dX6_pieceAt_11 ⟨Nat.le_of_ble_eq_true rfl, Nat.le_of_ble_eq_true rfl⟩ rfl rfl (Nat.le_of_ble_eq_true rfl) ?_
    exact fm_zret (pc := 14) C hF rfl rfl dX6_pieceAt_14
  · refine fm_aload_n (pc := 15) C dX6_pieceAt_15 rfl rfl ?_
    refine fm_iload_n (pc := 16) C dX6_pieceAt_16 rfl rfl ?_
    refine fm_bind (fun r17 e17 => ?_)
    refine fm_cVv (pc := 17) C (t_X6_cuts e17) ok_X6_cuts ⟨by decide, rfl⟩ m_ml_X6_175 dX6_pieceAt_17 ⟨Nat.le_of_ble_eq_true rfl, Nat.le_of_ble_eq_true rfl⟩ rfl rfl (Nat.le_of_ble_eq_true rfl) ?_
    refine fm_aload_n (pc := 20) C dX6_pieceAt_20 rfl rfl ?_
    refine g6_piece (pc := 21) C (by decide) dX6_pieceAt_21 m_fl_X6_69 ?_
    refine fm_iload_n (pc := 24) C dX6_pieceAt_24 rfl rfl ?_
    refine fm_guard (fun h2 => ?_)
    refine fm_iald (pc := 25) C (by decide) h2 dX6_pieceAt_25 ?_
    exact fm_zret (pc := 26) C hF rfl rfl dX6_pieceAt_26
theorem t_X6_pieceAt {l : Launch} {G : fm_G} {v1 : Int32} {v2 : Int32} {μ : fm_I} {ν : fm_L} {r : Int32 × fm_I × fm_L} (h : m_X6_pieceAt v1 v2 μ ν = some r) : fm_Mi l G yX6_pieceAt cX6_pieceAt 3 (some .int) 4 82 [.ref (G.2.2.1 58), .int v1, .int v2] μ ν r := fm_Mi_of (by decide +kernel) (Nat.le_of_ble_eq_true rfl) (fun _ C => j_X6_pieceAt C rfl r h)
theorem dX6_crossed_0 : decode cX6_crossed 0 = .ok (.aload_n 0, 1) := by decide +kernel
theorem dX6_crossed_1 : decode cX6_crossed 1 = .ok (.getfield 29, 3) := by decide +kernel
theorem dX6_crossed_4 : decode cX6_crossed 4 = .ok (.iload_n 1, 1) := by decide +kernel
theorem dX6_crossed_5 : decode cX6_crossed 5 = .ok (.iaload, 1) := by decide +kernel
theorem dX6_crossed_6 : decode cX6_crossed 6 = .ok (.iconst 1, 1) := by decide +kernel
theorem dX6_crossed_7 : decode cX6_crossed 7 = .ok (.if_icmp .ne 12, 3) := by decide +kernel
theorem dX6_crossed_10 : decode cX6_crossed 10 = .ok (.aload_n 0, 1) := by decide +kernel
theorem dX6_crossed_11 : decode cX6_crossed 11 = .ok (.getfield 23, 3) := by decide +kernel
theorem dX6_crossed_14 : decode cX6_crossed 14 = .ok (.iload_n 1, 1) := by decide +kernel
theorem dX6_crossed_15 : decode cX6_crossed 15 = .ok (.iaload, 1) := by decide +kernel
theorem dX6_crossed_16 : decode cX6_crossed 16 = .ok (.goto 10, 3) := by decide +kernel
theorem dX6_crossed_19 : decode cX6_crossed 19 = .ok (.aload_n 0, 1) := by decide +kernel
theorem dX6_crossed_20 : decode cX6_crossed 20 = .ok (.getfield 23, 3) := by decide +kernel
theorem dX6_crossed_23 : decode cX6_crossed 23 = .ok (.iload_n 1, 1) := by decide +kernel
theorem dX6_crossed_24 : decode cX6_crossed 24 = .ok (.iaload, 1) := by decide +kernel
theorem dX6_crossed_25 : decode cX6_crossed 25 = .ok (.ineg, 1) := by decide +kernel
theorem dX6_crossed_26 : decode cX6_crossed 26 = .ok (.istore 4, 2) := by decide +kernel
theorem dX6_crossed_28 : decode cX6_crossed 28 = .ok (.aload_n 0, 1) := by decide +kernel
theorem dX6_crossed_29 : decode cX6_crossed 29 = .ok (.iload_n 1, 1) := by decide +kernel
theorem dX6_crossed_30 : decode cX6_crossed 30 = .ok (.iload_n 2, 1) := by decide +kernel
theorem dX6_crossed_31 : decode cX6_crossed 31 = .ok (.invokevirtual 99, 3) := by decide +kernel
theorem dX6_crossed_34 : decode cX6_crossed 34 = .ok (.aload_n 0, 1) := by decide +kernel
theorem dX6_crossed_35 : decode cX6_crossed 35 = .ok (.iload_n 1, 1) := by decide +kernel
theorem dX6_crossed_36 : decode cX6_crossed 36 = .ok (.iload_n 3, 1) := by decide +kernel
theorem dX6_crossed_37 : decode cX6_crossed 37 = .ok (.invokevirtual 99, 3) := by decide +kernel
theorem dX6_crossed_40 : decode cX6_crossed 40 = .ok (.if_icmp .ge 7, 3) := by decide +kernel
theorem dX6_crossed_43 : decode cX6_crossed 43 = .ok (.iconst 1, 1) := by decide +kernel
theorem dX6_crossed_44 : decode cX6_crossed 44 = .ok (.goto 4, 3) := by decide +kernel
theorem dX6_crossed_47 : decode cX6_crossed 47 = .ok (.iconst 0, 1) := by decide +kernel
theorem dX6_crossed_48 : decode cX6_crossed 48 = .ok (.istore 5, 2) := by decide +kernel
theorem dX6_crossed_50 : decode cX6_crossed 50 = .ok (.iload 5, 2) := by decide +kernel
theorem dX6_crossed_52 : decode cX6_crossed 52 = .ok (.aload_n 0, 1) := by decide +kernel
theorem dX6_crossed_53 : decode cX6_crossed 53 = .ok (.getfield 23, 3) := by decide +kernel
theorem dX6_crossed_56 : decode cX6_crossed 56 = .ok (.iload_n 1, 1) := by decide +kernel
theorem dX6_crossed_57 : decode cX6_crossed 57 = .ok (.iaload, 1) := by decide +kernel
theorem dX6_crossed_58 : decode cX6_crossed 58 = .ok (.iconst 2, 1) := by decide +kernel
theorem dX6_crossed_59 : decode cX6_crossed 59 = .ok (.irem, 1) := by decide +kernel
theorem dX6_crossed_60 : decode cX6_crossed 60 = .ok (.iconst 1, 1) := by decide +kernel
theorem dX6_crossed_61 : decode cX6_crossed 61 = .ok (.if_icmp .ne 7, 3) := by decide +kernel
theorem dX6_crossed_64 : decode cX6_crossed 64 = .ok (.iconst 1, 1) := by decide +kernel
theorem dX6_crossed_65 : decode cX6_crossed 65 = .ok (.goto 4, 3) := by decide +kernel
theorem dX6_crossed_68 : decode cX6_crossed 68 = .ok (.iconst 0, 1) := by decide +kernel
theorem dX6_crossed_69 : decode cX6_crossed 69 = .ok (.if_icmp .ne 10, 3) := by decide +kernel
theorem dX6_crossed_72 : decode cX6_crossed 72 = .ok (.iload 4, 2) := by decide +kernel
theorem dX6_crossed_74 : decode cX6_crossed 74 = .ok (.iconst 1, 1) := by decide +kernel
theorem dX6_crossed_75 : decode cX6_crossed 75 = .ok (.iadd, 1) := by decide +kernel
theorem dX6_crossed_76 : decode cX6_crossed 76 = .ok (.goto 5, 3) := by decide +kernel
theorem dX6_crossed_79 : decode cX6_crossed 79 = .ok (.iload 4, 2) := by decide +kernel
theorem dX6_crossed_81 : decode cX6_crossed 81 = .ok (.ireturn, 1) := by decide +kernel
def m_X6_crossed (v1 : Int32) (v2 : Int32) (v3 : Int32) (μ : fm_I) (ν : fm_L) : Option (Int32) :=
  fm_g (fm_in v1 (fm_n 63)) (if (μ 63 v1.toNatClampNeg) = (nI 1) then fm_g (fm_in v1 (fm_n 61)) ((m_X6_onOf v1 v2 μ ν).bind (fun r31 => (m_X6_onOf v1 v3 μ ν).bind (fun r37 => if r37 ≤ r31 then if (((μ 61 v1.toNatClampNeg)) - ((μ 61 v1.toNatClampNeg)) / ((nI 2)) * ((nI 2))) = (nI 1) then if (nI 0) = (nI 1) then some ((((μ 61 v1.toNatClampNeg)) + ((nI 1)))) else some ((μ 61 v1.toNatClampNeg)) else if (nI 0) = (nI 0) then some ((((μ 61 v1.toNatClampNeg)) + ((nI 1)))) else some ((μ 61 v1.toNatClampNeg)) else if (((μ 61 v1.toNatClampNeg)) - ((μ 61 v1.toNatClampNeg)) / ((nI 2)) * ((nI 2))) = (nI 1) then if (nI 1) = (nI 1) then some ((((μ 61 v1.toNatClampNeg)) + ((nI 1)))) else some ((μ 61 v1.toNatClampNeg)) else if (nI 1) = (nI 0) then some ((((μ 61 v1.toNatClampNeg)) + ((nI 1)))) else some ((μ 61 v1.toNatClampNeg))))) else fm_g (fm_in v1 (fm_n 61)) ((m_X6_onOf v1 v2 μ ν).bind (fun r31 => (m_X6_onOf v1 v3 μ ν).bind (fun r37 => if r37 ≤ r31 then if (((μ 61 v1.toNatClampNeg)) - ((μ 61 v1.toNatClampNeg)) / ((nI 2)) * ((nI 2))) = (nI 1) then if (nI 0) = (nI 1) then some ((((-((μ 61 v1.toNatClampNeg)))) + ((nI 1)))) else some ((-((μ 61 v1.toNatClampNeg)))) else if (nI 0) = (nI 0) then some ((((-((μ 61 v1.toNatClampNeg)))) + ((nI 1)))) else some ((-((μ 61 v1.toNatClampNeg)))) else if (((μ 61 v1.toNatClampNeg)) - ((μ 61 v1.toNatClampNeg)) / ((nI 2)) * ((nI 2))) = (nI 1) then if (nI 1) = (nI 1) then some ((((-((μ 61 v1.toNatClampNeg)))) + ((nI 1)))) else some ((-((μ 61 v1.toNatClampNeg)))) else if (nI 1) = (nI 0) then some ((((-((μ 61 v1.toNatClampNeg)))) + ((nI 1)))) else some ((-((μ 61 v1.toNatClampNeg))))))))
theorem ok_X6_crossed : fm_okV yX6_crossed cX6_crossed 6 (some .int) 3 := ⟨m_cd_X6_crossed, m_im_X6_crossed, m_se_X6_X6_crossed, m_ini_X6, by decide +kernel, by decide +kernel, by decide +kernel⟩
set_option maxHeartbeats 4000000 in
set_option maxRecDepth 100000 in
theorem j_X6_crossed {X : fm_X} {G : fm_G} {l : Launch} {v1 : Int32} {v2 : Int32} {v3 : Int32} {μ : fm_I} {ν : fm_L} (C : fm_C X G l cX6_crossed RX6 6 (some .int) 3 58) {F : Int32 → State → Prop} (hF : F = fun r => fm_Qi X G (r, μ, ν)) : fm_J X G 6 F (m_X6_crossed v1 v2 v3 μ ν) μ ν 0 [(0, .ref (G.2.2.1 58)), (1, .int v1), (2, .int v2), (3, .int v3)] [] := by
  unfold m_X6_crossed
  refine fm_aload_n (pc := 0) C dX6_crossed_0 rfl rfl ?_
  refine g6_hand (pc := 1) C (by decide) dX6_crossed_1 m_fl_X6_29 ?_
  refine fm_iload_n (pc := 4) C dX6_crossed_4 rfl rfl ?_
  refine fm_guard (fun h1 => ?_)
  refine fm_iald (pc := 5) C (by decide) h1 dX6_crossed_5 ?_
  refine fm_iconst (pc := 6) (v := (nI 1)) C dX6_crossed_6 (by decide) ?_
  refine fm_icmp_ne (pc := 7) (tgt := 19) C dX6_crossed_7 (by decide) (fun c2 => ?_) (fun c2 => ?_)
  · refine fm_aload_n (pc := 10) C dX6_crossed_10 rfl rfl ?_
    refine g6_twists (pc := 11) C (by decide) dX6_crossed_11 m_fl_X6_23 ?_
    refine fm_iload_n (pc := 14) C dX6_crossed_14 rfl rfl ?_
    refine fm_guard (fun h3 => ?_)
    refine fm_iald (pc := 15) C (by decide) h3 dX6_crossed_15 ?_
    refine fm_goto (pc := 16) (tgt := 26) C dX6_crossed_16 (by decide) ?_
    refine fm_istore (pc := 26) C dX6_crossed_26 (by decide) rfl ?_
    refine fm_aload_n (pc := 28) C dX6_crossed_28 rfl rfl ?_
    refine fm_iload_n (pc := 29) C dX6_crossed_29 rfl rfl ?_
    refine fm_iload_n (pc := 30) C dX6_crossed_30 rfl rfl ?_
    refine fm_bind (fun r31 e31 => ?_)
    refine fm_cVi0 (pc := 31) C (t_X6_onOf e31) ok_X6_onOf ⟨by decide, rfl⟩ m_ml_X6_99 dX6_crossed_31 ⟨Nat.le_of_ble_eq_true rfl, Nat.le_of_ble_eq_true rfl⟩ rfl rfl (Nat.le_of_ble_eq_true rfl) ?_
    refine fm_aload_n (pc := 34) C dX6_crossed_34 rfl rfl ?_
    refine fm_iload_n (pc := 35) C dX6_crossed_35 rfl rfl ?_
    refine fm_iload_n (pc := 36) C dX6_crossed_36 rfl rfl ?_
    refine fm_bind (fun r37 e37 => ?_)
    refine fm_cVi0 (pc := 37) C (t_X6_onOf e37) ok_X6_onOf ⟨by decide, rfl⟩ m_ml_X6_99 dX6_crossed_37 ⟨Nat.le_of_ble_eq_true rfl, Nat.le_of_ble_eq_true rfl⟩ rfl rfl (Nat.le_of_ble_eq_true rfl) ?_
    refine fm_icmp_ge (pc := 40) (tgt := 47) C dX6_crossed_40 (by decide) (fun c4 => ?_) (fun c4 => ?_)
    · refine fm_iconst (pc := 47) (v := (nI 0)) C dX6_crossed_47 (by decide) ?_
      refine fm_istore (pc := 48) C dX6_crossed_48 (by decide) rfl ?_
      refine fm_iload (pc := 50) C dX6_crossed_50 rfl ?_
      refine fm_aload_n (pc := 52) C dX6_crossed_52 rfl rfl ?_
      refine g6_twists (pc := 53) C (by decide) dX6_crossed_53 m_fl_X6_23 ?_
      refine fm_iload_n (pc := 56) C dX6_crossed_56 rfl rfl ?_
      refine fm_iald (pc := 57) C (by decide) h3 dX6_crossed_57 ?_
      refine fm_iconst (pc := 58) (v := (nI 2)) C dX6_crossed_58 (by decide) ?_
      refine fm_irem (pc := 59) C dX6_crossed_59 (by decide) ?_
      refine fm_iconst (pc := 60) (v := (nI 1)) C dX6_crossed_60 (by decide) ?_
      refine fm_icmp_ne (pc := 61) (tgt := 68) C dX6_crossed_61 (by decide) (fun c5 => ?_) (fun c5 => ?_)
      · refine fm_iconst (pc := 64) (v := (nI 1)) C dX6_crossed_64 (by decide) ?_
        refine fm_goto (pc := 65) (tgt := 69) C dX6_crossed_65 (by decide) ?_
        refine fm_icmp_ne (pc := 69) (tgt := 79) C dX6_crossed_69 (by decide) (fun c6 => ?_) (fun c6 => ?_)
        · refine fm_iload (pc := 72) C dX6_crossed_72 rfl ?_
          refine fm_iconst (pc := 74) (v := (nI 1)) C dX6_crossed_74 (by decide) ?_
          refine fm_iadd (pc := 75) C dX6_crossed_75 ?_
          refine fm_goto (pc := 76) (tgt := 81) C dX6_crossed_76 (by decide) ?_
          exact fm_zret0 (pc := 81) C hF rfl rfl dX6_crossed_81
        · refine fm_iload (pc := 79) C dX6_crossed_79 rfl ?_
          exact fm_zret0 (pc := 81) C hF rfl rfl dX6_crossed_81
      · refine fm_iconst (pc := 68) (v := (nI 0)) C dX6_crossed_68 (by decide) ?_
        refine fm_icmp_ne (pc := 69) (tgt := 79) C dX6_crossed_69 (by decide) (fun c7 => ?_) (fun c7 => ?_)
        · refine fm_iload (pc := 72) C dX6_crossed_72 rfl ?_
          refine fm_iconst (pc := 74) (v := (nI 1)) C dX6_crossed_74 (by decide) ?_
          refine fm_iadd (pc := 75) C dX6_crossed_75 ?_
          refine fm_goto (pc := 76) (tgt := 81) C dX6_crossed_76 (by decide) ?_
          exact fm_zret0 (pc := 81) C hF rfl rfl dX6_crossed_81
        · refine fm_iload (pc := 79) C dX6_crossed_79 rfl ?_
          exact fm_zret0 (pc := 81) C hF rfl rfl dX6_crossed_81
    · refine fm_iconst (pc := 43) (v := (nI 1)) C dX6_crossed_43 (by decide) ?_
      refine fm_goto (pc := 44) (tgt := 48) C dX6_crossed_44 (by decide) ?_
      refine fm_istore (pc := 48) C dX6_crossed_48 (by decide) rfl ?_
      refine fm_iload (pc := 50) C dX6_crossed_50 rfl ?_
      refine fm_aload_n (pc := 52) C dX6_crossed_52 rfl rfl ?_
      refine g6_twists (pc := 53) C (by decide) dX6_crossed_53 m_fl_X6_23 ?_
      refine fm_iload_n (pc := 56) C dX6_crossed_56 rfl rfl ?_
      refine fm_iald (pc := 57) C (by decide) h3 dX6_crossed_57 ?_
      refine fm_iconst (pc := 58) (v := (nI 2)) C dX6_crossed_58 (by decide) ?_
      refine fm_irem (pc := 59) C dX6_crossed_59 (by decide) ?_
      refine fm_iconst (pc := 60) (v := (nI 1)) C dX6_crossed_60 (by decide) ?_
      refine fm_icmp_ne (pc := 61) (tgt := 68) C dX6_crossed_61 (by decide) (fun c8 => ?_) (fun c8 => ?_)
      · refine fm_iconst (pc := 64) (v := (nI 1)) C dX6_crossed_64 (by decide) ?_
        refine fm_goto (pc := 65) (tgt := 69) C dX6_crossed_65 (by decide) ?_
        refine fm_icmp_ne (pc := 69) (tgt := 79) C dX6_crossed_69 (by decide) (fun c9 => ?_) (fun c9 => ?_)
        · refine fm_iload (pc := 72) C dX6_crossed_72 rfl ?_
          refine fm_iconst (pc := 74) (v := (nI 1)) C dX6_crossed_74 (by decide) ?_
          refine fm_iadd (pc := 75) C dX6_crossed_75 ?_
          refine fm_goto (pc := 76) (tgt := 81) C dX6_crossed_76 (by decide) ?_
          exact fm_zret0 (pc := 81) C hF rfl rfl dX6_crossed_81
        · refine fm_iload (pc := 79) C dX6_crossed_79 rfl ?_
          exact fm_zret0 (pc := 81) C hF rfl rfl dX6_crossed_81
      · refine fm_iconst (pc := 68) (v := (nI 0)) C dX6_crossed_68 (by decide) ?_
        refine fm_icmp_ne (pc := 69) (tgt := 79) C dX6_crossed_69 (by decide) (fun c10 => ?_) (fun c10 => ?_)
        · refine fm_iload (pc := 72) C dX6_crossed_72 rfl ?_
          refine fm_iconst (pc := 74) (v := (nI 1)) C dX6_crossed_74 (by decide) ?_
          refine fm_iadd (pc := 75) C dX6_crossed_75 ?_
          refine fm_goto (pc := 76) (tgt := 81) C dX6_crossed_76 (by decide) ?_
          exact fm_zret0 (pc := 81) C hF rfl rfl dX6_crossed_81
        · refine fm_iload (pc := 79) C dX6_crossed_79 rfl ?_
          exact fm_zret0 (pc := 81) C hF rfl rfl dX6_crossed_81
  · refine fm_aload_n (pc := 19) C dX6_crossed_19 rfl rfl ?_
    refine g6_twists (pc := 20) C (by decide) dX6_crossed_20 m_fl_X6_23 ?_
    refine fm_iload_n (pc := 23) C dX6_crossed_23 rfl rfl ?_
    refine fm_guard (fun h11 => ?_)
    refine fm_iald (pc := 24) C (by decide) h11 dX6_crossed_24 ?_
    refine fm_ineg (pc := 25) C dX6_crossed_25 ?_
    refine fm_istore (pc := 26) C dX6_crossed_26 (by decide) rfl ?_
    refine fm_aload_n (pc := 28) C dX6_crossed_28 rfl rfl ?_
    refine fm_iload_n (pc := 29) C dX6_crossed_29 rfl rfl ?_
    refine fm_iload_n (pc := 30) C dX6_crossed_30 rfl rfl ?_
    refine fm_bind (fun r31 e31 => ?_)
    refine fm_cVi0 (pc := 31) C (t_X6_onOf e31) ok_X6_onOf ⟨by decide, rfl⟩ m_ml_X6_99 dX6_crossed_31 ⟨Nat.le_of_ble_eq_true rfl, Nat.le_of_ble_eq_true rfl⟩ rfl rfl (Nat.le_of_ble_eq_true rfl) ?_
    refine fm_aload_n (pc := 34) C dX6_crossed_34 rfl rfl ?_
    refine fm_iload_n (pc := 35) C dX6_crossed_35 rfl rfl ?_
    refine fm_iload_n (pc := 36) C dX6_crossed_36 rfl rfl ?_
    refine fm_bind (fun r37 e37 => ?_)
    refine fm_cVi0 (pc := 37) C (t_X6_onOf e37) ok_X6_onOf ⟨by decide, rfl⟩ m_ml_X6_99 dX6_crossed_37 ⟨Nat.le_of_ble_eq_true rfl, Nat.le_of_ble_eq_true rfl⟩ rfl rfl (Nat.le_of_ble_eq_true rfl) ?_
    refine fm_icmp_ge (pc := 40) (tgt := 47) C dX6_crossed_40 (by decide) (fun c12 => ?_) (fun c12 => ?_)
    · refine fm_iconst (pc := 47) (v := (nI 0)) C dX6_crossed_47 (by decide) ?_
      refine fm_istore (pc := 48) C dX6_crossed_48 (by decide) rfl ?_
      refine fm_iload (pc := 50) C dX6_crossed_50 rfl ?_
      refine fm_aload_n (pc := 52) C dX6_crossed_52 rfl rfl ?_
      refine g6_twists (pc := 53) C (by decide) dX6_crossed_53 m_fl_X6_23 ?_
      refine fm_iload_n (pc := 56) C dX6_crossed_56 rfl rfl ?_
      refine fm_iald (pc := 57) C (by decide) h11 dX6_crossed_57 ?_
      refine fm_iconst (pc := 58) (v := (nI 2)) C dX6_crossed_58 (by decide) ?_
      refine fm_irem (pc := 59) C dX6_crossed_59 (by decide) ?_
      refine fm_iconst (pc := 60) (v := (nI 1)) C dX6_crossed_60 (by decide) ?_
      refine fm_icmp_ne (pc := 61) (tgt := 68) C dX6_crossed_61 (by decide) (fun c13 => ?_) (fun c13 => ?_)
      · refine fm_iconst (pc := 64) (v := (nI 1)) C dX6_crossed_64 (by decide) ?_
        refine fm_goto (pc := 65) (tgt := 69) C dX6_crossed_65 (by decide) ?_
        refine fm_icmp_ne (pc := 69) (tgt := 79) C dX6_crossed_69 (by decide) (fun c14 => ?_) (fun c14 => ?_)
        · refine fm_iload (pc := 72) C dX6_crossed_72 rfl ?_
          refine fm_iconst (pc := 74) (v := (nI 1)) C dX6_crossed_74 (by decide) ?_
          refine fm_iadd (pc := 75) C dX6_crossed_75 ?_
          refine fm_goto (pc := 76) (tgt := 81) C dX6_crossed_76 (by decide) ?_
          exact fm_zret0 (pc := 81) C hF rfl rfl dX6_crossed_81
        · refine fm_iload (pc := 79) C dX6_crossed_79 rfl ?_
          exact fm_zret0 (pc := 81) C hF rfl rfl dX6_crossed_81
      · refine fm_iconst (pc := 68) (v := (nI 0)) C dX6_crossed_68 (by decide) ?_
        refine fm_icmp_ne (pc := 69) (tgt := 79) C dX6_crossed_69 (by decide) (fun c15 => ?_) (fun c15 => ?_)
        · refine fm_iload (pc := 72) C dX6_crossed_72 rfl ?_
          refine fm_iconst (pc := 74) (v := (nI 1)) C dX6_crossed_74 (by decide) ?_
          refine fm_iadd (pc := 75) C dX6_crossed_75 ?_
          refine fm_goto (pc := 76) (tgt := 81) C dX6_crossed_76 (by decide) ?_
          exact fm_zret0 (pc := 81) C hF rfl rfl dX6_crossed_81
        · refine fm_iload (pc := 79) C dX6_crossed_79 rfl ?_
          exact fm_zret0 (pc := 81) C hF rfl rfl dX6_crossed_81
    · refine fm_iconst (pc := 43) (v := (nI 1)) C dX6_crossed_43 (by decide) ?_
      refine fm_goto (pc := 44) (tgt := 48) C dX6_crossed_44 (by decide) ?_
      refine fm_istore (pc := 48) C dX6_crossed_48 (by decide) rfl ?_
      refine fm_iload (pc := 50) C dX6_crossed_50 rfl ?_
      refine fm_aload_n (pc := 52) C dX6_crossed_52 rfl rfl ?_
      refine g6_twists (pc := 53) C (by decide) dX6_crossed_53 m_fl_X6_23 ?_
      refine fm_iload_n (pc := 56) C dX6_crossed_56 rfl rfl ?_
      refine fm_iald (pc := 57) C (by decide) h11 dX6_crossed_57 ?_
      refine fm_iconst (pc := 58) (v := (nI 2)) C dX6_crossed_58 (by decide) ?_
      refine fm_irem (pc := 59) C dX6_crossed_59 (by decide) ?_
      refine fm_iconst (pc := 60) (v := (nI 1)) C dX6_crossed_60 (by decide) ?_
      refine fm_icmp_ne (pc := 61) (tgt := 68) C dX6_crossed_61 (by decide) (fun c16 => ?_) (fun c16 => ?_)
      · refine fm_iconst (pc := 64) (v := (nI 1)) C dX6_crossed_64 (by decide) ?_
        refine fm_goto (pc := 65) (tgt := 69) C dX6_crossed_65 (by decide) ?_
        refine fm_icmp_ne (pc := 69) (tgt := 79) C dX6_crossed_69 (by decide) (fun c17 => ?_) (fun c17 => ?_)
        · refine fm_iload (pc := 72) C dX6_crossed_72 rfl ?_
          refine fm_iconst (pc := 74) (v := (nI 1)) C dX6_crossed_74 (by decide) ?_
          refine fm_iadd (pc := 75) C dX6_crossed_75 ?_
          refine fm_goto (pc := 76) (tgt := 81) C dX6_crossed_76 (by decide) ?_
          exact fm_zret0 (pc := 81) C hF rfl rfl dX6_crossed_81
        · refine fm_iload (pc := 79) C dX6_crossed_79 rfl ?_
          exact fm_zret0 (pc := 81) C hF rfl rfl dX6_crossed_81
      · refine fm_iconst (pc := 68) (v := (nI 0)) C dX6_crossed_68 (by decide) ?_
        refine fm_icmp_ne (pc := 69) (tgt := 79) C dX6_crossed_69 (by decide) (fun c18 => ?_) (fun c18 => ?_)
        · refine fm_iload (pc := 72) C dX6_crossed_72 rfl ?_
          refine fm_iconst (pc := 74) (v := (nI 1)) C dX6_crossed_74 (by decide) ?_
          refine fm_iadd (pc := 75) C dX6_crossed_75 ?_
          refine fm_goto (pc := 76) (tgt := 81) C dX6_crossed_76 (by decide) ?_
          exact fm_zret0 (pc := 81) C hF rfl rfl dX6_crossed_81
        · refine fm_iload (pc := 79) C dX6_crossed_79 rfl ?_
          exact fm_zret0 (pc := 81) C hF rfl rfl dX6_crossed_81
theorem t_X6_crossed {l : Launch} {G : fm_G} {v1 : Int32} {v2 : Int32} {v3 : Int32} {μ : fm_I} {ν : fm_L} {r : Int32} (h : m_X6_crossed v1 v2 v3 μ ν = some r) : fm_Mi l G yX6_crossed cX6_crossed 6 (some .int) 3 58 [.ref (G.2.2.1 58), .int v1, .int v2, .int v3] μ ν (r, μ, ν) := fm_Mi_of (by decide +kernel) (Nat.le_of_ble_eq_true rfl) (fun _ C => j_X6_crossed C rfl r h)
theorem dX6_crossings_0 : decode cX6_crossings 0 = .ok (.aload_n 0, 1) := by decide +kernel
theorem dX6_crossings_1 : decode cX6_crossings 1 = .ok (.iload_n 1, 1) := by decide +kernel
theorem dX6_crossings_2 : decode cX6_crossings 2 = .ok (.iload_n 2, 1) := by decide +kernel
theorem dX6_crossings_3 : decode cX6_crossings 3 = .ok (.invokevirtual 113, 3) := by decide +kernel
theorem dX6_crossings_6 : decode cX6_crossings 6 = .ok (.ifCond .eq 12, 3) := by decide +kernel
theorem dX6_crossings_9 : decode cX6_crossings 9 = .ok (.aload_n 0, 1) := by decide +kernel
theorem dX6_crossings_10 : decode cX6_crossings 10 = .ok (.iload_n 1, 1) := by decide +kernel
theorem dX6_crossings_11 : decode cX6_crossings 11 = .ok (.iload_n 3, 1) := by decide +kernel
theorem dX6_crossings_12 : decode cX6_crossings 12 = .ok (.invokevirtual 113, 3) := by decide +kernel
theorem dX6_crossings_15 : decode cX6_crossings 15 = .ok (.ifCond .ne 9, 3) := by decide +kernel
theorem dX6_crossings_18 : decode cX6_crossings 18 = .ok (.aload_n 0, 1) := by decide +kernel
theorem dX6_crossings_19 : decode cX6_crossings 19 = .ok (.iconst (-1), 1) := by decide +kernel
theorem dX6_crossings_20 : decode cX6_crossings 20 = .ok (.invokevirtual 188, 3) := by decide +kernel
theorem dX6_crossings_23 : decode cX6_crossings 23 = .ok (.ireturn, 1) := by decide +kernel
theorem dX6_crossings_24 : decode cX6_crossings 24 = .ok (.iload_n 2, 1) := by decide +kernel
theorem dX6_crossings_25 : decode cX6_crossings 25 = .ok (.iload_n 3, 1) := by decide +kernel
theorem dX6_crossings_26 : decode cX6_crossings 26 = .ok (.if_icmp .ne 10, 3) := by decide +kernel
theorem dX6_crossings_29 : decode cX6_crossings 29 = .ok (.aload_n 0, 1) := by decide +kernel
theorem dX6_crossings_30 : decode cX6_crossings 30 = .ok (.bipush (-6), 2) := by decide +kernel
theorem dX6_crossings_32 : decode cX6_crossings 32 = .ok (.invokevirtual 188, 3) := by decide +kernel
theorem dX6_crossings_35 : decode cX6_crossings 35 = .ok (.ireturn, 1) := by decide +kernel
theorem dX6_crossings_36 : decode cX6_crossings 36 = .ok (.iload_n 2, 1) := by decide +kernel
theorem dX6_crossings_37 : decode cX6_crossings 37 = .ok (.iload_n 3, 1) := by decide +kernel
theorem dX6_crossings_38 : decode cX6_crossings 38 = .ok (.if_icmp .ge 13, 3) := by decide +kernel
theorem dX6_crossings_41 : decode cX6_crossings 41 = .ok (.aload_n 0, 1) := by decide +kernel
theorem dX6_crossings_42 : decode cX6_crossings 42 = .ok (.iload_n 1, 1) := by decide +kernel
theorem dX6_crossings_43 : decode cX6_crossings 43 = .ok (.iload_n 2, 1) := by decide +kernel
theorem dX6_crossings_44 : decode cX6_crossings 44 = .ok (.iload_n 3, 1) := by decide +kernel
theorem dX6_crossings_45 : decode cX6_crossings 45 = .ok (.invokevirtual 191, 3) := by decide +kernel
theorem dX6_crossings_48 : decode cX6_crossings 48 = .ok (.goto 10, 3) := by decide +kernel
theorem dX6_crossings_51 : decode cX6_crossings 51 = .ok (.aload_n 0, 1) := by decide +kernel
theorem dX6_crossings_52 : decode cX6_crossings 52 = .ok (.iload_n 1, 1) := by decide +kernel
theorem dX6_crossings_53 : decode cX6_crossings 53 = .ok (.iload_n 3, 1) := by decide +kernel
theorem dX6_crossings_54 : decode cX6_crossings 54 = .ok (.iload_n 2, 1) := by decide +kernel
theorem dX6_crossings_55 : decode cX6_crossings 55 = .ok (.invokevirtual 191, 3) := by decide +kernel
theorem dX6_crossings_58 : decode cX6_crossings 58 = .ok (.ireturn, 1) := by decide +kernel
def m_X6_crossings (v1 : Int32) (v2 : Int32) (v3 : Int32) (μ : fm_I) (ν : fm_L) : Option (Int32 × fm_I × fm_L) :=
  (m_X6_isStrip v1 v2 μ ν).bind (fun r3 => if r3 = 0 then (m_X6_noFar ((-1 : Int32)) μ ν).bind (fun r20 => some ((r20.1, r20.2.1, r20.2.2))) else (m_X6_isStrip v1 v3 μ ν).bind (fun r12 => if r12 = 0 then (m_X6_noFar ((-1 : Int32)) μ ν).bind (fun r20 => some ((r20.1, r20.2.1, r20.2.2))) else if v2 = v3 then (m_X6_noFar ((-6 : Int32)) μ ν).bind (fun r32 => some ((r32.1, r32.2.1, r32.2.2))) else if v3 ≤ v2 then (m_X6_crossed v1 v3 v2 μ ν).bind (fun r55 => some ((r55, μ, ν))) else (m_X6_crossed v1 v2 v3 μ ν).bind (fun r45 => some ((r45, μ, ν)))))
theorem ok_X6_crossings : fm_okV yX6_crossings cX6_crossings 4 (some .int) 3 := ⟨m_cd_X6_crossings, m_im_X6_crossings, m_se_X6_X6_crossings, m_ini_X6, by decide +kernel, by decide +kernel, by decide +kernel⟩
set_option maxHeartbeats 4000000 in
set_option maxRecDepth 100000 in
theorem j_X6_crossings {X : fm_X} {G : fm_G} {l : Launch} {v1 : Int32} {v2 : Int32} {v3 : Int32} {μ : fm_I} {ν : fm_L} (C : fm_C X G l cX6_crossings RX6 4 (some .int) 4 83) {F : (Int32 × fm_I × fm_L) → State → Prop} (hF : F = fm_Qi X G) : fm_J X G 4 F (m_X6_crossings v1 v2 v3 μ ν) μ ν 0 [(0, .ref (G.2.2.1 58)), (1, .int v1), (2, .int v2), (3, .int v3)] [] := by
  unfold m_X6_crossings
  refine fm_aload_n (pc := 0) C dX6_crossings_0 rfl rfl ?_
  refine fm_iload_n (pc := 1) C dX6_crossings_1 rfl rfl ?_
  refine fm_iload_n (pc := 2) C dX6_crossings_2 rfl rfl ?_
  refine fm_bind (fun r3 e3 => ?_)
  refine fm_cVi0 (pc := 3) C (t_X6_isStrip e3) ok_X6_isStrip ⟨by decide, rfl⟩ m_ml_X6_113 dX6_crossings_3 ⟨Nat.le_of_ble_eq_true rfl, Nat.le_of_ble_eq_true rfl⟩ rfl rfl (Nat.le_of_ble_eq_true rfl) ?_
  refine fm_if_eq (pc := 6) (tgt := 18) C dX6_crossings_6 (by decide) (fun c1 => ?_) (fun c1 => ?_)
  · refine fm_aload_n (pc := 18) C dX6_crossings_18 rfl rfl ?_
    refine fm_iconst (pc := 19) (v := (-1 : Int32)) C dX6_crossings_19 (by decide) ?_
    refine fm_bind (fun r20 e20 => ?_)
    refine fm_cVi (pc := 20) C (t_X6_noFar e20) ok_X6_noFar ⟨by decide, rfl⟩ m_ml_X6_188 dX6_crossings_20 ⟨Nat.le_of_ble_eq_true rfl, Nat.le_of_ble_eq_true rfl⟩ rfl rfl (Nat.le_of_ble_eq_true rfl) ?_
    exact fm_zret (pc := 23) C hF rfl rfl dX6_crossings_23
  · refine fm_aload_n (pc := 9) C dX6_crossings_9 rfl rfl ?_
    refine fm_iload_n (pc := 10) C dX6_crossings_10 rfl rfl ?_
    refine fm_iload_n (pc := 11) C dX6_crossings_11 rfl rfl ?_
    refine fm_bind (fun r12 e12 => ?_)
    refine fm_cVi0 (pc := 12) C (t_X6_isStrip e12) ok_X6_isStrip ⟨by decide, rfl⟩ m_ml_X6_113 dX6_crossings_12 ⟨Nat.le_of_ble_eq_true rfl, Nat.le_of_ble_eq_true rfl⟩ rfl rfl (Nat.le_of_ble_eq_true rfl) ?_
    refine fm_if_ne (pc := 15) (tgt := 24) C dX6_crossings_15 (by decide) (fun c2 => ?_) (fun c2 => ?_)
    · refine fm_aload_n (pc := 18) C dX6_crossings_18 rfl rfl ?_
      refine fm_iconst (pc := 19) (v := (-1 : Int32)) C dX6_crossings_19 (by decide) ?_
      refine fm_bind (fun r20 e20 => ?_)
      refine fm_cVi (pc := 20) C (t_X6_noFar e20) ok_X6_noFar ⟨by decide, rfl⟩ m_ml_X6_188 dX6_crossings_20 ⟨Nat.le_of_ble_eq_true rfl, Nat.le_of_ble_eq_true rfl⟩ rfl rfl (Nat.le_of_ble_eq_true rfl) ?_
      exact fm_zret (pc := 23) C hF rfl rfl dX6_crossings_23
    · refine fm_iload_n (pc := 24) C dX6_crossings_24 rfl rfl ?_
      refine fm_iload_n (pc := 25) C dX6_crossings_25 rfl rfl ?_
      refine fm_icmp_ne (pc := 26) (tgt := 36) C dX6_crossings_26 (by decide) (fun c3 => ?_) (fun c3 => ?_)
      · refine fm_aload_n (pc := 29) C dX6_crossings_29 rfl rfl ?_
        refine fm_bipush (pc := 30) (v := (-6 : Int32)) C dX6_crossings_30 (by decide) ?_
        refine fm_bind (fun r32 e32 => ?_)
        refine fm_cVi (pc := 32) C (t_X6_noFar e32) ok_X6_noFar ⟨by decide, rfl⟩ m_ml_X6_188 dX6_crossings_32 ⟨Nat.le_of_ble_eq_true rfl, Nat.le_of_ble_eq_true rfl⟩ rfl rfl (Nat.le_of_ble_eq_true rfl) ?_
        exact fm_zret (pc := 35) C hF rfl rfl dX6_crossings_35
      · refine fm_iload_n (pc := 36) C dX6_crossings_36 rfl rfl ?_
        refine fm_iload_n (pc := 37) C dX6_crossings_37 rfl rfl ?_
        refine fm_icmp_ge (pc := 38) (tgt := 51) C dX6_crossings_38 (by decide) (fun c4 => ?_) (fun c4 => ?_)
        · refine fm_aload_n (pc := 51) C dX6_crossings_51 rfl rfl ?_
          refine fm_iload_n (pc := 52) C dX6_crossings_52 rfl rfl ?_
          refine fm_iload_n (pc := 53) C dX6_crossings_53 rfl rfl ?_
          refine fm_iload_n (pc := 54) C dX6_crossings_54 rfl rfl ?_
          refine fm_bind (fun r55 e55 => ?_)
          refine fm_cVi0 (pc := 55) C (t_X6_crossed e55) ok_X6_crossed ⟨by decide, rfl⟩ m_ml_X6_191 dX6_crossings_55 ⟨Nat.le_of_ble_eq_true rfl, Nat.le_of_ble_eq_true rfl⟩ rfl rfl (Nat.le_of_ble_eq_true rfl) ?_
          exact fm_zret (pc := 58) C hF rfl rfl dX6_crossings_58
        · refine fm_aload_n (pc := 41) C dX6_crossings_41 rfl rfl ?_
          refine fm_iload_n (pc := 42) C dX6_crossings_42 rfl rfl ?_
          refine fm_iload_n (pc := 43) C dX6_crossings_43 rfl rfl ?_
          refine fm_iload_n (pc := 44) C dX6_crossings_44 rfl rfl ?_
          refine fm_bind (fun r45 e45 => ?_)
          refine fm_cVi0 (pc := 45) C (t_X6_crossed e45) ok_X6_crossed ⟨by decide, rfl⟩ m_ml_X6_191 dX6_crossings_45 ⟨Nat.le_of_ble_eq_true rfl, Nat.le_of_ble_eq_true rfl⟩ rfl rfl (Nat.le_of_ble_eq_true rfl) ?_
          refine fm_goto (pc := 48) (tgt := 58) C dX6_crossings_48 (by decide) ?_
          exact fm_zret (pc := 58) C hF rfl rfl dX6_crossings_58
theorem t_X6_crossings {l : Launch} {G : fm_G} {v1 : Int32} {v2 : Int32} {v3 : Int32} {μ : fm_I} {ν : fm_L} {r : Int32 × fm_I × fm_L} (h : m_X6_crossings v1 v2 v3 μ ν = some r) : fm_Mi l G yX6_crossings cX6_crossings 4 (some .int) 4 83 [.ref (G.2.2.1 58), .int v1, .int v2, .int v3] μ ν r := fm_Mi_of (by decide +kernel) (Nat.le_of_ble_eq_true rfl) (fun _ C => j_X6_crossings C rfl r h)
theorem dX6_hooked_0 : decode cX6_hooked 0 = .ok (.iconst 0, 1) := by decide +kernel
theorem dX6_hooked_1 : decode cX6_hooked 1 = .ok (.istore 4, 2) := by decide +kernel
theorem dX6_hooked_3 : decode cX6_hooked 3 = .ok (.iconst 0, 1) := by decide +kernel
theorem dX6_hooked_4 : decode cX6_hooked 4 = .ok (.istore 5, 2) := by decide +kernel
theorem dX6_hooked_6 : decode cX6_hooked 6 = .ok (.iload 5, 2) := by decide +kernel
theorem dX6_hooked_8 : decode cX6_hooked 8 = .ok (.aload_n 0, 1) := by decide +kernel
theorem dX6_hooked_9 : decode cX6_hooked 9 = .ok (.getfield 26, 3) := by decide +kernel
theorem dX6_hooked_12 : decode cX6_hooked 12 = .ok (.iload_n 1, 1) := by decide +kernel
theorem dX6_hooked_13 : decode cX6_hooked 13 = .ok (.iaload, 1) := by decide +kernel
theorem dX6_hooked_14 : decode cX6_hooked 14 = .ok (.if_icmp .ge 90, 3) := by decide +kernel
theorem dX6_hooked_17 : decode cX6_hooked 17 = .ok (.iload 5, 2) := by decide +kernel
theorem dX6_hooked_19 : decode cX6_hooked 19 = .ok (.iconst 1, 1) := by decide +kernel
theorem dX6_hooked_20 : decode cX6_hooked 20 = .ok (.iadd, 1) := by decide +kernel
theorem dX6_hooked_21 : decode cX6_hooked 21 = .ok (.istore 6, 2) := by decide +kernel
theorem dX6_hooked_23 : decode cX6_hooked 23 = .ok (.iload 6, 2) := by decide +kernel
theorem dX6_hooked_25 : decode cX6_hooked 25 = .ok (.aload_n 0, 1) := by decide +kernel
theorem dX6_hooked_26 : decode cX6_hooked 26 = .ok (.getfield 26, 3) := by decide +kernel
theorem dX6_hooked_29 : decode cX6_hooked 29 = .ok (.iload_n 1, 1) := by decide +kernel
theorem dX6_hooked_30 : decode cX6_hooked 30 = .ok (.iaload, 1) := by decide +kernel
theorem dX6_hooked_31 : decode cX6_hooked 31 = .ok (.if_icmp .ge 67, 3) := by decide +kernel
theorem dX6_hooked_34 : decode cX6_hooked 34 = .ok (.aload_n 0, 1) := by decide +kernel
theorem dX6_hooked_35 : decode cX6_hooked 35 = .ok (.getfield 69, 3) := by decide +kernel
theorem dX6_hooked_38 : decode cX6_hooked 38 = .ok (.iload 5, 2) := by decide +kernel
theorem dX6_hooked_40 : decode cX6_hooked 40 = .ok (.iaload, 1) := by decide +kernel
theorem dX6_hooked_41 : decode cX6_hooked 41 = .ok (.iload_n 2, 1) := by decide +kernel
theorem dX6_hooked_42 : decode cX6_hooked 42 = .ok (.if_icmp .ne 14, 3) := by decide +kernel
theorem dX6_hooked_45 : decode cX6_hooked 45 = .ok (.aload_n 0, 1) := by decide +kernel
theorem dX6_hooked_46 : decode cX6_hooked 46 = .ok (.getfield 69, 3) := by decide +kernel
theorem dX6_hooked_49 : decode cX6_hooked 49 = .ok (.iload 6, 2) := by decide +kernel
theorem dX6_hooked_51 : decode cX6_hooked 51 = .ok (.iaload, 1) := by decide +kernel
theorem dX6_hooked_52 : decode cX6_hooked 52 = .ok (.iload_n 3, 1) := by decide +kernel
theorem dX6_hooked_53 : decode cX6_hooked 53 = .ok (.if_icmp .eq 25, 3) := by decide +kernel
theorem dX6_hooked_56 : decode cX6_hooked 56 = .ok (.aload_n 0, 1) := by decide +kernel
theorem dX6_hooked_57 : decode cX6_hooked 57 = .ok (.getfield 69, 3) := by decide +kernel
theorem dX6_hooked_60 : decode cX6_hooked 60 = .ok (.iload 5, 2) := by decide +kernel
theorem dX6_hooked_62 : decode cX6_hooked 62 = .ok (.iaload, 1) := by decide +kernel
theorem dX6_hooked_63 : decode cX6_hooked 63 = .ok (.iload_n 3, 1) := by decide +kernel
theorem dX6_hooked_64 : decode cX6_hooked 64 = .ok (.if_icmp .ne 28, 3) := by decide +kernel
theorem dX6_hooked_67 : decode cX6_hooked 67 = .ok (.aload_n 0, 1) := by decide +kernel
theorem dX6_hooked_68 : decode cX6_hooked 68 = .ok (.getfield 69, 3) := by decide +kernel
theorem dX6_hooked_71 : decode cX6_hooked 71 = .ok (.iload 6, 2) := by decide +kernel
theorem dX6_hooked_73 : decode cX6_hooked 73 = .ok (.iaload, 1) := by decide +kernel
theorem dX6_hooked_74 : decode cX6_hooked 74 = .ok (.iload_n 2, 1) := by decide +kernel
theorem dX6_hooked_75 : decode cX6_hooked 75 = .ok (.if_icmp .ne 17, 3) := by decide +kernel
theorem dX6_hooked_78 : decode cX6_hooked 78 = .ok (.iload 4, 2) := by decide +kernel
theorem dX6_hooked_80 : decode cX6_hooked 80 = .ok (.aload_n 0, 1) := by decide +kernel
theorem dX6_hooked_81 : decode cX6_hooked 81 = .ok (.iload_n 1, 1) := by decide +kernel
theorem dX6_hooked_82 : decode cX6_hooked 82 = .ok (.iload 5, 2) := by decide +kernel
theorem dX6_hooked_84 : decode cX6_hooked 84 = .ok (.iload 6, 2) := by decide +kernel
theorem dX6_hooked_86 : decode cX6_hooked 86 = .ok (.invokevirtual 191, 3) := by decide +kernel
theorem dX6_hooked_89 : decode cX6_hooked 89 = .ok (.iadd, 1) := by decide +kernel
theorem dX6_hooked_90 : decode cX6_hooked 90 = .ok (.istore 4, 2) := by decide +kernel
theorem dX6_hooked_92 : decode cX6_hooked 92 = .ok (.iinc 6 1, 3) := by decide +kernel
theorem dX6_hooked_95 : decode cX6_hooked 95 = .ok (.goto (-72), 3) := by decide +kernel
theorem dX6_hooked_98 : decode cX6_hooked 98 = .ok (.iinc 5 1, 3) := by decide +kernel
theorem dX6_hooked_101 : decode cX6_hooked 101 = .ok (.goto (-95), 3) := by decide +kernel
theorem dX6_hooked_104 : decode cX6_hooked 104 = .ok (.iload 4, 2) := by decide +kernel
theorem dX6_hooked_106 : decode cX6_hooked 106 = .ok (.iconst 2, 1) := by decide +kernel
theorem dX6_hooked_107 : decode cX6_hooked 107 = .ok (.idiv, 1) := by decide +kernel
theorem dX6_hooked_108 : decode cX6_hooked 108 = .ok (.ireturn, 1) := by decide +kernel
def m_X6_hooked_23 (v1 : Int32) (v2 : Int32) (v3 : Int32) (v5 : Int32) (μ : fm_I) (ν : fm_L) (K : Int32 → Option (Int32)) : Nat → Int32 → Int32 → Option (Int32)
  | 0, _, _ => none
  | k + 1, v4, v6 => fm_g (fm_in v1 (fm_n 62)) (if (μ 62 v1.toNatClampNeg) ≤ v6 then K v4 else fm_g (fm_in v5 (fm_n 76)) (if (μ 76 v5.toNatClampNeg) = v2 then fm_g (fm_in v6 (fm_n 76)) (if (μ 76 v6.toNatClampNeg) = v3 then (m_X6_crossed v1 v5 v6 μ ν).bind (fun r86 => m_X6_hooked_23 v1 v2 v3 v5 μ ν K k ((v4 + r86)) ((v6 + nI 1))) else if (μ 76 v5.toNatClampNeg) = v3 then if (μ 76 v6.toNatClampNeg) = v2 then (m_X6_crossed v1 v5 v6 μ ν).bind (fun r86 => m_X6_hooked_23 v1 v2 v3 v5 μ ν K k ((v4 + r86)) ((v6 + nI 1))) else m_X6_hooked_23 v1 v2 v3 v5 μ ν K k v4 ((v6 + nI 1)) else m_X6_hooked_23 v1 v2 v3 v5 μ ν K k v4 ((v6 + nI 1))) else if (μ 76 v5.toNatClampNeg) = v3 then fm_g (fm_in v6 (fm_n 76)) (if (μ 76 v6.toNatClampNeg) = v2 then (m_X6_crossed v1 v5 v6 μ ν).bind (fun r86 => m_X6_hooked_23 v1 v2 v3 v5 μ ν K k ((v4 + r86)) ((v6 + nI 1))) else m_X6_hooked_23 v1 v2 v3 v5 μ ν K k v4 ((v6 + nI 1))) else m_X6_hooked_23 v1 v2 v3 v5 μ ν K k v4 ((v6 + nI 1))))
def m_X6_hooked_6 (v1 : Int32) (v2 : Int32) (v3 : Int32) (μ : fm_I) (ν : fm_L) (K : Int32 → Option (Int32)) : Nat → Int32 → Int32 → Option (Int32)
  | 0, _, _ => none
  | k + 1, v4, v5 => fm_g (fm_in v1 (fm_n 62)) (if (μ 62 v1.toNatClampNeg) ≤ v5 then K v4 else m_X6_hooked_23 v1 v2 v3 v5 μ ν (fun x4_23 => m_X6_hooked_6 v1 v2 v3 μ ν K k x4_23 ((v5 + nI 1))) 5000 v4 ((v5 + ((nI 1)))))
def m_X6_hooked (v1 : Int32) (v2 : Int32) (v3 : Int32) (μ : fm_I) (ν : fm_L) : Option (Int32) :=
  m_X6_hooked_6 v1 v2 v3 μ ν (fun x4_6 => some ((x4_6 / ((nI 2))))) 5000 ((nI 0)) ((nI 0))
theorem ok_X6_hooked : fm_okV yX6_hooked cX6_hooked 7 (some .int) 3 := ⟨m_cd_X6_hooked, m_im_X6_hooked, m_se_X6_X6_hooked, m_ini_X6, by decide +kernel, by decide +kernel, by decide +kernel⟩
set_option maxHeartbeats 4000000 in
set_option maxRecDepth 100000 in
theorem j_X6_hooked_23_ {X : fm_X} {G : fm_G} {l : Launch} {v1 : Int32} {v2 : Int32} {v3 : Int32} {v5 : Int32} {μ : fm_I} {ν : fm_L} (C : fm_C X G l cX6_hooked RX6 7 (some .int) 4 83) {F : Int32 → State → Prop} (hF : F = fun r => fm_Qi X G (r, μ, ν))  {K : Int32 → Option (Int32)} (hK : ∀ (v4 : Int32), fm_J X G 7 F (K v4) μ ν 98 [(0, .ref (G.2.2.1 58)), (1, .int v1), (2, .int v2), (3, .int v3), (4, .int v4), (5, .int v5)] []) : ∀ (k : Nat) (v4 : Int32) (v6 : Int32), fm_J X G 7 F (m_X6_hooked_23 v1 v2 v3 v5 μ ν K k v4 v6) μ ν 23 [(0, .ref (G.2.2.1 58)), (1, .int v1), (2, .int v2), (3, .int v3), (4, .int v4), (5, .int v5), (6, .int v6)] [] := by
  intro k
  induction k with
  | zero =>
    intro v4 v6
    exact fm_none
  | succ k ih =>
    intro v4 v6
    rw [m_X6_hooked_23]
    refine fm_iload (pc := 23) C dX6_hooked_23 rfl ?_
    refine fm_aload_n (pc := 25) C dX6_hooked_25 rfl rfl ?_
    refine g6_strips (pc := 26) C (by decide) dX6_hooked_26 m_fl_X6_26 ?_
    refine fm_iload_n (pc := 29) C dX6_hooked_29 rfl rfl ?_
    refine fm_guard (fun h3 => ?_)
    refine fm_iald (pc := 30) C (by decide) h3 dX6_hooked_30 ?_
    refine fm_icmp_ge (pc := 31) (tgt := 98) C dX6_hooked_31 (by decide) (fun c4 => ?_) (fun c4 => ?_)
    · refine fm_less (lv' := [(0, .ref (G.2.2.1 58)), (1, .int v1), (2, .int v2), (3, .int v3), (4, .int v4), (5, .int v5)]) (by repeat (first | exact trivial | refine ⟨rfl, ?_⟩)) ?_
      exact hK _
    · refine fm_aload_n (pc := 34) C dX6_hooked_34 rfl rfl ?_
      refine g6_piece (pc := 35) C (by decide) dX6_hooked_35 m_fl_X6_69 ?_
      refine fm_iload (pc := 38) C dX6_hooked_38 rfl ?_
      refine fm_guard (fun h5 => ?_)
      refine fm_iald (pc := 40) C (by decide) h5 dX6_hooked_40 ?_
      refine fm_iload_n (pc := 41) C dX6_hooked_41 rfl rfl ?_
      refine fm_icmp_ne (pc := 42) (tgt := 56) C dX6_hooked_42 (by decide) (fun c6 => ?_) (fun c6 => ?_)
      · refine fm_aload_n (pc := 45) C dX6_hooked_45 rfl rfl ?_
        refine g6_piece (pc := 46) C (by decide) dX6_hooked_46 m_fl_X6_69 ?_
        refine fm_iload (pc := 49) C dX6_hooked_49 rfl ?_
        refine fm_guard (fun h7 => ?_)
        refine fm_iald (pc := 51) C (by decide) h7 dX6_hooked_51 ?_
        refine fm_iload_n (pc := 52) C dX6_hooked_52 rfl rfl ?_
        refine fm_icmp_eq (pc := 53) (tgt := 78) C dX6_hooked_53 (by decide) (fun c8 => ?_) (fun c8 => ?_)
        · refine fm_iload (pc := 78) C dX6_hooked_78 rfl ?_
          refine fm_aload_n (pc := 80) C dX6_hooked_80 rfl rfl ?_
          refine fm_iload_n (pc := 81) C dX6_hooked_81 rfl rfl ?_
          refine fm_iload (pc := 82) C dX6_hooked_82 rfl ?_
          refine fm_iload (pc := 84) C dX6_hooked_84 rfl ?_
          refine fm_bind (fun r86 e86 => ?_)
          refine fm_cVi0 (pc := 86) C (t_X6_crossed e86) ok_X6_crossed ⟨by decide, rfl⟩ m_ml_X6_191 dX6_hooked_86 ⟨Nat.le_of_ble_eq_true rfl, Nat.le_of_ble_eq_true rfl⟩ rfl rfl (Nat.le_of_ble_eq_true rfl) ?_
          refine fm_iadd (pc := 89) C dX6_hooked_89 ?_
          refine fm_istore (pc := 90) C dX6_hooked_90 (by decide) rfl ?_
          refine fm_iinc (pc := 92) C dX6_hooked_92 rfl (v := (v6 + nI 1)) rfl (by decide) rfl ?_
          refine fm_goto (pc := 95) (tgt := 23) C dX6_hooked_95 (by decide) ?_
          refine fm_less (lv' := [(0, .ref (G.2.2.1 58)), (1, .int v1), (2, .int v2), (3, .int v3), (4, .int ((v4 + r86))), (5, .int v5), (6, .int ((v6 + nI 1)))]) (by repeat (first | exact trivial | refine ⟨rfl, ?_⟩)) ?_
          exact ih _ _
        · refine fm_aload_n (pc := 56) C dX6_hooked_56 rfl rfl ?_
          refine g6_piece (pc := 57) C (by decide) dX6_hooked_57 m_fl_X6_69 ?_
          refine fm_iload (pc := 60) C dX6_hooked_60 rfl ?_
          refine fm_iald (pc := 62) C (by decide) h5 dX6_hooked_62 ?_
          refine fm_iload_n (pc := 63) C dX6_hooked_63 rfl rfl ?_
          refine fm_icmp_ne (pc := 64) (tgt := 92) C dX6_hooked_64 (by decide) (fun c9 => ?_) (fun c9 => ?_)
          · refine fm_aload_n (pc := 67) C dX6_hooked_67 rfl rfl ?_
            refine g6_piece (pc := 68) C (by decide) dX6_hooked_68 m_fl_X6_69 ?_
            refine fm_iload (pc := 71) C dX6_hooked_71 rfl ?_
            refine fm_iald (pc := 73) C (by decide) h7 dX6_hooked_73 ?_
            refine fm_iload_n (pc := 74) C dX6_hooked_74 rfl rfl ?_
            refine fm_icmp_ne (pc := 75) (tgt := 92) C dX6_hooked_75 (by decide) (fun c10 => ?_) (fun c10 => ?_)
            · refine fm_iload (pc := 78) C dX6_hooked_78 rfl ?_
              refine fm_aload_n (pc := 80) C dX6_hooked_80 rfl rfl ?_
              refine fm_iload_n (pc := 81) C dX6_hooked_81 rfl rfl ?_
              refine fm_iload (pc := 82) C dX6_hooked_82 rfl ?_
              refine fm_iload (pc := 84) C dX6_hooked_84 rfl ?_
              refine fm_bind (fun r86 e86 => ?_)
              refine fm_cVi0 (pc := 86) C (t_X6_crossed e86) ok_X6_crossed ⟨by decide, rfl⟩ m_ml_X6_191 dX6_hooked_86 ⟨Nat.le_of_ble_eq_true rfl, Nat.le_of_ble_eq_true rfl⟩ rfl rfl (Nat.le_of_ble_eq_true rfl) ?_
              refine fm_iadd (pc := 89) C dX6_hooked_89 ?_
              refine fm_istore (pc := 90) C dX6_hooked_90 (by decide) rfl ?_
              refine fm_iinc (pc := 92) C dX6_hooked_92 rfl (v := (v6 + nI 1)) rfl (by decide) rfl ?_
              refine fm_goto (pc := 95) (tgt := 23) C dX6_hooked_95 (by decide) ?_
              refine fm_less (lv' := [(0, .ref (G.2.2.1 58)), (1, .int v1), (2, .int v2), (3, .int v3), (4, .int ((v4 + r86))), (5, .int v5), (6, .int ((v6 + nI 1)))]) (by repeat (first | exact trivial | refine ⟨rfl, ?_⟩)) ?_
              exact ih _ _
            · refine fm_iinc (pc := 92) C dX6_hooked_92 rfl (v := (v6 + nI 1)) rfl (by decide) rfl ?_
              refine fm_goto (pc := 95) (tgt := 23) C dX6_hooked_95 (by decide) ?_
              refine fm_less (lv' := [(0, .ref (G.2.2.1 58)), (1, .int v1), (2, .int v2), (3, .int v3), (4, .int v4), (5, .int v5), (6, .int ((v6 + nI 1)))]) (by repeat (first | exact trivial | refine ⟨rfl, ?_⟩)) ?_
              exact ih _ _
          · refine fm_iinc (pc := 92) C dX6_hooked_92 rfl (v := (v6 + nI 1)) rfl (by decide) rfl ?_
            refine fm_goto (pc := 95) (tgt := 23) C dX6_hooked_95 (by decide) ?_
            refine fm_less (lv' := [(0, .ref (G.2.2.1 58)), (1, .int v1), (2, .int v2), (3, .int v3), (4, .int v4), (5, .int v5), (6, .int ((v6 + nI 1)))]) (by repeat (first | exact trivial | refine ⟨rfl, ?_⟩)) ?_
            exact ih _ _
      · refine fm_aload_n (pc := 56) C dX6_hooked_56 rfl rfl ?_
        refine g6_piece (pc := 57) C (by decide) dX6_hooked_57 m_fl_X6_69 ?_
        refine fm_iload (pc := 60) C dX6_hooked_60 rfl ?_
        refine fm_iald (pc := 62) C (by decide) h5 dX6_hooked_62 ?_
        refine fm_iload_n (pc := 63) C dX6_hooked_63 rfl rfl ?_
        refine fm_icmp_ne (pc := 64) (tgt := 92) C dX6_hooked_64 (by decide) (fun c11 => ?_) (fun c11 => ?_)
        · refine fm_aload_n (pc := 67) C dX6_hooked_67 rfl rfl ?_
          refine g6_piece (pc := 68) C (by decide) dX6_hooked_68 m_fl_X6_69 ?_
          refine fm_iload (pc := 71) C dX6_hooked_71 rfl ?_
          refine fm_guard (fun h12 => ?_)
          refine fm_iald (pc := 73) C (by decide) h12 dX6_hooked_73 ?_
          refine fm_iload_n (pc := 74) C dX6_hooked_74 rfl rfl ?_
          refine fm_icmp_ne (pc := 75) (tgt := 92) C dX6_hooked_75 (by decide) (fun c13 => ?_) (fun c13 => ?_)
          · refine fm_iload (pc := 78) C dX6_hooked_78 rfl ?_
            refine fm_aload_n (pc := 80) C dX6_hooked_80 rfl rfl ?_
            refine fm_iload_n (pc := 81) C dX6_hooked_81 rfl rfl ?_
            refine fm_iload (pc := 82) C dX6_hooked_82 rfl ?_
            refine fm_iload (pc := 84) C dX6_hooked_84 rfl ?_
            refine fm_bind (fun r86 e86 => ?_)
            refine fm_cVi0 (pc := 86) C (t_X6_crossed e86) ok_X6_crossed ⟨by decide, rfl⟩ m_ml_X6_191 dX6_hooked_86 ⟨Nat.le_of_ble_eq_true rfl, Nat.le_of_ble_eq_true rfl⟩ rfl rfl (Nat.le_of_ble_eq_true rfl) ?_
            refine fm_iadd (pc := 89) C dX6_hooked_89 ?_
            refine fm_istore (pc := 90) C dX6_hooked_90 (by decide) rfl ?_
            refine fm_iinc (pc := 92) C dX6_hooked_92 rfl (v := (v6 + nI 1)) rfl (by decide) rfl ?_
            refine fm_goto (pc := 95) (tgt := 23) C dX6_hooked_95 (by decide) ?_
            refine fm_less (lv' := [(0, .ref (G.2.2.1 58)), (1, .int v1), (2, .int v2), (3, .int v3), (4, .int ((v4 + r86))), (5, .int v5), (6, .int ((v6 + nI 1)))]) (by repeat (first | exact trivial | refine ⟨rfl, ?_⟩)) ?_
            exact ih _ _
          · refine fm_iinc (pc := 92) C dX6_hooked_92 rfl (v := (v6 + nI 1)) rfl (by decide) rfl ?_
            refine fm_goto (pc := 95) (tgt := 23) C dX6_hooked_95 (by decide) ?_
            refine fm_less (lv' := [(0, .ref (G.2.2.1 58)), (1, .int v1), (2, .int v2), (3, .int v3), (4, .int v4), (5, .int v5), (6, .int ((v6 + nI 1)))]) (by repeat (first | exact trivial | refine ⟨rfl, ?_⟩)) ?_
            exact ih _ _
        · refine fm_iinc (pc := 92) C dX6_hooked_92 rfl (v := (v6 + nI 1)) rfl (by decide) rfl ?_
          refine fm_goto (pc := 95) (tgt := 23) C dX6_hooked_95 (by decide) ?_
          refine fm_less (lv' := [(0, .ref (G.2.2.1 58)), (1, .int v1), (2, .int v2), (3, .int v3), (4, .int v4), (5, .int v5), (6, .int ((v6 + nI 1)))]) (by repeat (first | exact trivial | refine ⟨rfl, ?_⟩)) ?_
          exact ih _ _
set_option maxHeartbeats 4000000 in
set_option maxRecDepth 100000 in
theorem j_X6_hooked_6_ {X : fm_X} {G : fm_G} {l : Launch} {v1 : Int32} {v2 : Int32} {v3 : Int32} {μ : fm_I} {ν : fm_L} (C : fm_C X G l cX6_hooked RX6 7 (some .int) 4 83) {F : Int32 → State → Prop} (hF : F = fun r => fm_Qi X G (r, μ, ν))  {K : Int32 → Option (Int32)} (hK : ∀ (v4 : Int32), fm_J X G 7 F (K v4) μ ν 104 [(4, .int v4)] []) : ∀ (k : Nat) (v4 : Int32) (v5 : Int32), fm_J X G 7 F (m_X6_hooked_6 v1 v2 v3 μ ν K k v4 v5) μ ν 6 [(0, .ref (G.2.2.1 58)), (1, .int v1), (2, .int v2), (3, .int v3), (4, .int v4), (5, .int v5)] [] := by
  intro k
  induction k with
  | zero =>
    intro v4 v5
    exact fm_none
  | succ k ih =>
    intro v4 v5
    rw [m_X6_hooked_6]
    refine fm_iload (pc := 6) C dX6_hooked_6 rfl ?_
    refine fm_aload_n (pc := 8) C dX6_hooked_8 rfl rfl ?_
    refine g6_strips (pc := 9) C (by decide) dX6_hooked_9 m_fl_X6_26 ?_
    refine fm_iload_n (pc := 12) C dX6_hooked_12 rfl rfl ?_
    refine fm_guard (fun h1 => ?_)
    refine fm_iald (pc := 13) C (by decide) h1 dX6_hooked_13 ?_
    refine fm_icmp_ge (pc := 14) (tgt := 104) C dX6_hooked_14 (by decide) (fun c2 => ?_) (fun c2 => ?_)
    · refine fm_less (lv' := [(4, .int v4)]) (by repeat (first | exact trivial | refine ⟨rfl, ?_⟩)) ?_
      exact hK _
    · refine fm_iload (pc := 17) C dX6_hooked_17 rfl ?_
      refine fm_iconst (pc := 19) (v := (nI 1)) C dX6_hooked_19 (by decide) ?_
      refine fm_iadd (pc := 20) C dX6_hooked_20 ?_
      refine fm_istore (pc := 21) C dX6_hooked_21 (by decide) rfl ?_
      refine fm_less (lv' := [(0, .ref (G.2.2.1 58)), (1, .int v1), (2, .int v2), (3, .int v3), (4, .int v4), (5, .int v5), (6, .int ((v5 + ((nI 1)))))]) (by repeat (first | exact trivial | refine ⟨rfl, ?_⟩)) ?_
      refine j_X6_hooked_23_ C (v1 := v1) (v2 := v2) (v3 := v3) (v5 := v5) hF  (fun x4_23 => ?_) _ _ _
      refine fm_iinc (pc := 98) C dX6_hooked_98 rfl (v := (v5 + nI 1)) rfl (by decide) rfl ?_
      refine fm_goto (pc := 101) (tgt := 6) C dX6_hooked_101 (by decide) ?_
      refine fm_less (lv' := [(0, .ref (G.2.2.1 58)), (1, .int v1), (2, .int v2), (3, .int v3), (4, .int x4_23), (5, .int ((v5 + nI 1)))]) (by repeat (first | exact trivial | refine ⟨rfl, ?_⟩)) ?_
      exact ih _ _
set_option maxHeartbeats 4000000 in
set_option maxRecDepth 100000 in
theorem j_X6_hooked {X : fm_X} {G : fm_G} {l : Launch} {v1 : Int32} {v2 : Int32} {v3 : Int32} {μ : fm_I} {ν : fm_L} (C : fm_C X G l cX6_hooked RX6 7 (some .int) 4 83) {F : Int32 → State → Prop} (hF : F = fun r => fm_Qi X G (r, μ, ν)) : fm_J X G 7 F (m_X6_hooked v1 v2 v3 μ ν) μ ν 0 [(0, .ref (G.2.2.1 58)), (1, .int v1), (2, .int v2), (3, .int v3)] [] := by
  unfold m_X6_hooked
  refine fm_iconst (pc := 0) (v := (nI 0)) C dX6_hooked_0 (by decide) ?_
  refine fm_istore (pc := 1) C dX6_hooked_1 (by decide) rfl ?_
  refine fm_iconst (pc := 3) (v := (nI 0)) C dX6_hooked_3 (by decide) ?_
  refine fm_istore (pc := 4) C dX6_hooked_4 (by decide) rfl ?_
  refine fm_less (lv' := [(0, .ref (G.2.2.1 58)), (1, .int v1), (2, .int v2), (3, .int v3), (4, .int ((nI 0))), (5, .int ((nI 0)))]) (by repeat (first | exact trivial | refine ⟨rfl, ?_⟩)) ?_
  refine j_X6_hooked_6_ C (v1 := v1) (v2 := v2) (v3 := v3) hF  (fun x4_6 => ?_) _ _ _
  refine fm_iload (pc := 104) C dX6_hooked_104 rfl ?_
  refine fm_iconst (pc := 106) (v := (nI 2)) C dX6_hooked_106 (by decide) ?_
  refine fm_idiv (pc := 107) C dX6_hooked_107 (by decide) ?_
  exact fm_zret0 (pc := 108) C hF rfl rfl dX6_hooked_108
theorem t_X6_hooked {l : Launch} {G : fm_G} {v1 : Int32} {v2 : Int32} {v3 : Int32} {μ : fm_I} {ν : fm_L} {r : Int32} (h : m_X6_hooked v1 v2 v3 μ ν = some r) : fm_Mi l G yX6_hooked cX6_hooked 7 (some .int) 4 83 [.ref (G.2.2.1 58), .int v1, .int v2, .int v3] μ ν (r, μ, ν) := fm_Mi_of (by decide +kernel) (Nat.le_of_ble_eq_true rfl) (fun _ C => j_X6_hooked C rfl r h)
theorem dX6_hooks_0 : decode cX6_hooks 0 = .ok (.aload_n 0, 1) := by decide +kernel
theorem dX6_hooks_1 : decode cX6_hooks 1 = .ok (.iload_n 1, 1) := by decide +kernel
theorem dX6_hooks_2 : decode cX6_hooks 2 = .ok (.iload_n 2, 1) := by decide +kernel
theorem dX6_hooks_3 : decode cX6_hooks 3 = .ok (.invokevirtual 179, 3) := by decide +kernel
theorem dX6_hooks_6 : decode cX6_hooks 6 = .ok (.ifCond .eq 12, 3) := by decide +kernel
theorem dX6_hooks_9 : decode cX6_hooks 9 = .ok (.aload_n 0, 1) := by decide +kernel
theorem dX6_hooks_10 : decode cX6_hooks 10 = .ok (.iload_n 1, 1) := by decide +kernel
theorem dX6_hooks_11 : decode cX6_hooks 11 = .ok (.iload_n 3, 1) := by decide +kernel
theorem dX6_hooks_12 : decode cX6_hooks 12 = .ok (.invokevirtual 179, 3) := by decide +kernel
theorem dX6_hooks_15 : decode cX6_hooks 15 = .ok (.ifCond .ne 9, 3) := by decide +kernel
theorem dX6_hooks_18 : decode cX6_hooks 18 = .ok (.aload_n 0, 1) := by decide +kernel
theorem dX6_hooks_19 : decode cX6_hooks 19 = .ok (.iconst (-1), 1) := by decide +kernel
theorem dX6_hooks_20 : decode cX6_hooks 20 = .ok (.invokevirtual 188, 3) := by decide +kernel
theorem dX6_hooks_23 : decode cX6_hooks 23 = .ok (.ireturn, 1) := by decide +kernel
theorem dX6_hooks_24 : decode cX6_hooks 24 = .ok (.iload_n 2, 1) := by decide +kernel
theorem dX6_hooks_25 : decode cX6_hooks 25 = .ok (.iload_n 3, 1) := by decide +kernel
theorem dX6_hooks_26 : decode cX6_hooks 26 = .ok (.if_icmp .ne 12, 3) := by decide +kernel
theorem dX6_hooks_29 : decode cX6_hooks 29 = .ok (.aload_n 0, 1) := by decide +kernel
theorem dX6_hooks_30 : decode cX6_hooks 30 = .ok (.bipush (-6), 2) := by decide +kernel
theorem dX6_hooks_32 : decode cX6_hooks 32 = .ok (.invokevirtual 188, 3) := by decide +kernel
theorem dX6_hooks_35 : decode cX6_hooks 35 = .ok (.goto 10, 3) := by decide +kernel
theorem dX6_hooks_38 : decode cX6_hooks 38 = .ok (.aload_n 0, 1) := by decide +kernel
theorem dX6_hooks_39 : decode cX6_hooks 39 = .ok (.iload_n 1, 1) := by decide +kernel
theorem dX6_hooks_40 : decode cX6_hooks 40 = .ok (.iload_n 2, 1) := by decide +kernel
theorem dX6_hooks_41 : decode cX6_hooks 41 = .ok (.iload_n 3, 1) := by decide +kernel
theorem dX6_hooks_42 : decode cX6_hooks 42 = .ok (.invokevirtual 195, 3) := by decide +kernel
theorem dX6_hooks_45 : decode cX6_hooks 45 = .ok (.ireturn, 1) := by decide +kernel
def m_X6_hooks (v1 : Int32) (v2 : Int32) (v3 : Int32) (μ : fm_I) (ν : fm_L) : Option (Int32 × fm_I × fm_L) :=
  (m_X6_isPiece v1 v2 μ ν).bind (fun r3 => if r3.1 = 0 then (m_X6_noFar ((-1 : Int32)) r3.2.1 r3.2.2).bind (fun r20 => some ((r20.1, r20.2.1, r20.2.2))) else (m_X6_isPiece v1 v3 r3.2.1 r3.2.2).bind (fun r12 => if r12.1 = 0 then (m_X6_noFar ((-1 : Int32)) r12.2.1 r12.2.2).bind (fun r20 => some ((r20.1, r20.2.1, r20.2.2))) else if v2 = v3 then (m_X6_noFar ((-6 : Int32)) r12.2.1 r12.2.2).bind (fun r32 => some ((r32.1, r32.2.1, r32.2.2))) else (m_X6_hooked v1 v2 v3 r12.2.1 r12.2.2).bind (fun r42 => some ((r42, r12.2.1, r12.2.2)))))
theorem ok_X6_hooks : fm_okV yX6_hooks cX6_hooks 4 (some .int) 3 := ⟨m_cd_X6_hooks, m_im_X6_hooks, m_se_X6_X6_hooks, m_ini_X6, by decide +kernel, by decide +kernel, by decide +kernel⟩
set_option maxHeartbeats 4000000 in
set_option maxRecDepth 100000 in
theorem j_X6_hooks {X : fm_X} {G : fm_G} {l : Launch} {v1 : Int32} {v2 : Int32} {v3 : Int32} {μ : fm_I} {ν : fm_L} (C : fm_C X G l cX6_hooks RX6 4 (some .int) 5 109) {F : (Int32 × fm_I × fm_L) → State → Prop} (hF : F = fm_Qi X G) : fm_J X G 4 F (m_X6_hooks v1 v2 v3 μ ν) μ ν 0 [(0, .ref (G.2.2.1 58)), (1, .int v1), (2, .int v2), (3, .int v3)] [] := by
  unfold m_X6_hooks
  refine fm_aload_n (pc := 0) C dX6_hooks_0 rfl rfl ?_
  refine fm_iload_n (pc := 1) C dX6_hooks_1 rfl rfl ?_
  refine fm_iload_n (pc := 2) C dX6_hooks_2 rfl rfl ?_
  refine fm_bind (fun r3 e3 => ?_)
  refine fm_cVi (pc := 3) C (t_X6_isPiece e3) ok_X6_isPiece ⟨by decide, rfl⟩ m_ml_X6_179 dX6_hooks_3 ⟨Nat.le_of_ble_eq_true rfl, Nat.le_of_ble_eq_true rfl⟩ rfl rfl (Nat.le_of_ble_eq_true rfl) ?_
  refine fm_if_eq (pc := 6) (tgt := 18) C dX6_hooks_6 (by decide) (fun c1 => ?_) (fun c1 => ?_)
  · refine fm_aload_n (pc := 18) C dX6_hooks_18 rfl rfl ?_
    refine fm_iconst (pc := 19) (v := (-1 : Int32)) C dX6_hooks_19 (by decide) ?_
    refine fm_bind (fun r20 e20 => ?_)
    refine fm_cVi (pc := 20) C (t_X6_noFar e20) ok_X6_noFar ⟨by decide, rfl⟩ m_ml_X6_188 dX6_hooks_20 ⟨Nat.le_of_ble_eq_true rfl, Nat.le_of_ble_eq_true rfl⟩ rfl rfl (Nat.le_of_ble_eq_true rfl) ?_
    exact fm_zret (pc := 23) C hF rfl rfl dX6_hooks_23
  · refine fm_aload_n (pc := 9) C dX6_hooks_9 rfl rfl ?_
    refine fm_iload_n (pc := 10) C dX6_hooks_10 rfl rfl ?_
    refine fm_iload_n (pc := 11) C dX6_hooks_11 rfl rfl ?_
    refine fm_bind (fun r12 e12 => ?_)
    refine fm_cVi (pc := 12) C (t_X6_isPiece e12) ok_X6_isPiece ⟨by decide, rfl⟩ m_ml_X6_179 dX6_hooks_12 ⟨Nat.le_of_ble_eq_true rfl, Nat.le_of_ble_eq_true rfl⟩ rfl rfl (Nat.le_of_ble_eq_true rfl) ?_
    refine fm_if_ne (pc := 15) (tgt := 24) C dX6_hooks_15 (by decide) (fun c2 => ?_) (fun c2 => ?_)
    · refine fm_aload_n (pc := 18) C dX6_hooks_18 rfl rfl ?_
      refine fm_iconst (pc := 19) (v := (-1 : Int32)) C dX6_hooks_19 (by decide) ?_
      refine fm_bind (fun r20 e20 => ?_)
      refine fm_cVi (pc := 20) C (t_X6_noFar e20) ok_X6_noFar ⟨by decide, rfl⟩ m_ml_X6_188 dX6_hooks_20 ⟨Nat.le_of_ble_eq_true rfl, Nat.le_of_ble_eq_true rfl⟩ rfl rfl (Nat.le_of_ble_eq_true rfl) ?_
      exact fm_zret (pc := 23) C hF rfl rfl dX6_hooks_23
    · refine fm_iload_n (pc := 24) C dX6_hooks_24 rfl rfl ?_
      refine fm_iload_n (pc := 25) C dX6_hooks_25 rfl rfl ?_
      refine fm_icmp_ne (pc := 26) (tgt := 38) C dX6_hooks_26 (by decide) (fun c3 => ?_) (fun c3 => ?_)
      · refine fm_aload_n (pc := 29) C dX6_hooks_29 rfl rfl ?_
        refine fm_bipush (pc := 30) (v := (-6 : Int32)) C dX6_hooks_30 (by decide) ?_
        refine fm_bind (fun r32 e32 => ?_)
        refine fm_cVi (pc := 32) C (t_X6_noFar e32) ok_X6_noFar ⟨by decide, rfl⟩ m_ml_X6_188 dX6_hooks_32 ⟨Nat.le_of_ble_eq_true rfl, Nat.le_of_ble_eq_true rfl⟩ rfl rfl (Nat.le_of_ble_eq_true rfl) ?_
        refine fm_goto (pc := 35) (tgt := 45) C dX6_hooks_35 (by decide) ?_
        exact fm_zret (pc := 45) C hF rfl rfl dX6_hooks_45
      · refine fm_aload_n (pc := 38) C dX6_hooks_38 rfl rfl ?_
        refine fm_iload_n (pc := 39) C dX6_hooks_39 rfl rfl ?_
        refine fm_iload_n (pc := 40) C dX6_hooks_40 rfl rfl ?_
        refine fm_iload_n (pc := 41) C dX6_hooks_41 rfl rfl ?_
        refine fm_bind (fun r42 e42 => ?_)
        refine fm_cVi0 (pc := 42) C (t_X6_hooked e42) ok_X6_hooked ⟨by decide, rfl⟩ m_ml_X6_195 dX6_hooks_42 ⟨Nat.le_of_ble_eq_true rfl, Nat.le_of_ble_eq_true rfl⟩ rfl rfl (Nat.le_of_ble_eq_true rfl) ?_
        exact fm_zret (pc := 45) C hF rfl rfl dX6_hooks_45
theorem t_X6_hooks {l : Launch} {G : fm_G} {v1 : Int32} {v2 : Int32} {v3 : Int32} {μ : fm_I} {ν : fm_L} {r : Int32 × fm_I × fm_L} (h : m_X6_hooks v1 v2 v3 μ ν = some r) : fm_Mi l G yX6_hooks cX6_hooks 4 (some .int) 5 109 [.ref (G.2.2.1 58), .int v1, .int v2, .int v3] μ ν r := fm_Mi_of (by decide +kernel) (Nat.le_of_ble_eq_true rfl) (fun _ C => j_X6_hooks C rfl r h)
theorem dX6_allOf_0 : decode cX6_allOf 0 = .ok (.aload_n 0, 1) := by decide +kernel
theorem dX6_allOf_1 : decode cX6_allOf 1 = .ok (.iload_n 1, 1) := by decide +kernel
theorem dX6_allOf_2 : decode cX6_allOf 2 = .ok (.invokevirtual 175, 3) := by decide +kernel
theorem dX6_allOf_5 : decode cX6_allOf 5 = .ok (.iconst 0, 1) := by decide +kernel
theorem dX6_allOf_6 : decode cX6_allOf 6 = .ok (.istore_n 2, 1) := by decide +kernel
theorem dX6_allOf_7 : decode cX6_allOf 7 = .ok (.iconst 0, 1) := by decide +kernel
theorem dX6_allOf_8 : decode cX6_allOf 8 = .ok (.istore_n 3, 1) := by decide +kernel
theorem dX6_allOf_9 : decode cX6_allOf 9 = .ok (.iload_n 3, 1) := by decide +kernel
theorem dX6_allOf_10 : decode cX6_allOf 10 = .ok (.aload_n 0, 1) := by decide +kernel
theorem dX6_allOf_11 : decode cX6_allOf 11 = .ok (.getfield 172, 3) := by decide +kernel
theorem dX6_allOf_14 : decode cX6_allOf 14 = .ok (.if_icmp .ge 50, 3) := by decide +kernel
theorem dX6_allOf_17 : decode cX6_allOf 17 = .ok (.iconst 0, 1) := by decide +kernel
theorem dX6_allOf_18 : decode cX6_allOf 18 = .ok (.istore 4, 2) := by decide +kernel
theorem dX6_allOf_20 : decode cX6_allOf 20 = .ok (.iload 4, 2) := by decide +kernel
theorem dX6_allOf_22 : decode cX6_allOf 22 = .ok (.iload_n 3, 1) := by decide +kernel
theorem dX6_allOf_23 : decode cX6_allOf 23 = .ok (.if_icmp .ge 35, 3) := by decide +kernel
theorem dX6_allOf_26 : decode cX6_allOf 26 = .ok (.aload_n 0, 1) := by decide +kernel
theorem dX6_allOf_27 : decode cX6_allOf 27 = .ok (.iload_n 1, 1) := by decide +kernel
theorem dX6_allOf_28 : decode cX6_allOf 28 = .ok (.iload_n 3, 1) := by decide +kernel
theorem dX6_allOf_29 : decode cX6_allOf 29 = .ok (.iload 4, 2) := by decide +kernel
theorem dX6_allOf_31 : decode cX6_allOf 31 = .ok (.invokevirtual 195, 3) := by decide +kernel
theorem dX6_allOf_34 : decode cX6_allOf 34 = .ok (.istore 5, 2) := by decide +kernel
theorem dX6_allOf_36 : decode cX6_allOf 36 = .ok (.iload_n 2, 1) := by decide +kernel
theorem dX6_allOf_37 : decode cX6_allOf 37 = .ok (.iload 5, 2) := by decide +kernel
theorem dX6_allOf_39 : decode cX6_allOf 39 = .ok (.ifCond .ge 9, 3) := by decide +kernel
theorem dX6_allOf_42 : decode cX6_allOf 42 = .ok (.iload 5, 2) := by decide +kernel
theorem dX6_allOf_44 : decode cX6_allOf 44 = .ok (.ineg, 1) := by decide +kernel
theorem dX6_allOf_45 : decode cX6_allOf 45 = .ok (.goto 5, 3) := by decide +kernel
theorem dX6_allOf_48 : decode cX6_allOf 48 = .ok (.iload 5, 2) := by decide +kernel
theorem dX6_allOf_50 : decode cX6_allOf 50 = .ok (.iadd, 1) := by decide +kernel
theorem dX6_allOf_51 : decode cX6_allOf 51 = .ok (.istore_n 2, 1) := by decide +kernel
theorem dX6_allOf_52 : decode cX6_allOf 52 = .ok (.iinc 4 1, 3) := by decide +kernel
theorem dX6_allOf_55 : decode cX6_allOf 55 = .ok (.goto (-35), 3) := by decide +kernel
theorem dX6_allOf_58 : decode cX6_allOf 58 = .ok (.iinc 3 1, 3) := by decide +kernel
theorem dX6_allOf_61 : decode cX6_allOf 61 = .ok (.goto (-52), 3) := by decide +kernel
theorem dX6_allOf_64 : decode cX6_allOf 64 = .ok (.iload_n 2, 1) := by decide +kernel
theorem dX6_allOf_65 : decode cX6_allOf 65 = .ok (.ireturn, 1) := by decide +kernel
def m_X6_allOf_20 (v1 : Int32) (v3 : Int32) (μ : fm_I) (ν : fm_L) (K : Int32 → Option (Int32 × fm_I × fm_L)) : Nat → Int32 → Int32 → Option (Int32 × fm_I × fm_L)
  | 0, _, _ => none
  | k + 1, v2, v4 => if v3 ≤ v4 then K v2 else (m_X6_hooked v1 v3 v4 μ ν).bind (fun r31 => if 0 ≤ r31 then m_X6_allOf_20 v1 v3 μ ν K k ((v2 + r31)) ((v4 + nI 1)) else m_X6_allOf_20 v1 v3 μ ν K k ((v2 + ((-r31)))) ((v4 + nI 1)))
def m_X6_allOf_9 (v1 : Int32) (μ : fm_I) (ν : fm_L) (K : Int32 → Option (Int32 × fm_I × fm_L)) : Nat → Int32 → Int32 → Option (Int32 × fm_I × fm_L)
  | 0, _, _ => none
  | k + 1, v2, v3 => if (μ 58 28) ≤ v3 then K v2 else m_X6_allOf_20 v1 v3 μ ν (fun x2_20 => m_X6_allOf_9 v1 μ ν K k x2_20 ((v3 + nI 1))) 5000 v2 ((nI 0))
def m_X6_allOf (v1 : Int32) (μ : fm_I) (ν : fm_L) : Option (Int32 × fm_I × fm_L) :=
  (m_X6_cuts v1 μ ν).bind (fun r2 => m_X6_allOf_9 v1 r2.1 r2.2 (fun x2_9 => some ((x2_9, r2.1, r2.2))) 5000 ((nI 0)) ((nI 0)))
theorem ok_X6_allOf : fm_okV yX6_allOf cX6_allOf 6 (some .int) 1 := ⟨m_cd_X6_allOf, m_im_X6_allOf, m_se_X6_X6_allOf, m_ini_X6, by decide +kernel, by decide +kernel, by decide +kernel⟩
set_option maxHeartbeats 4000000 in
set_option maxRecDepth 100000 in
theorem j_X6_allOf_20_ {X : fm_X} {G : fm_G} {l : Launch} {v1 : Int32} {v3 : Int32} {μ : fm_I} {ν : fm_L} (C : fm_C X G l cX6_allOf RX6 6 (some .int) 5 109) {F : (Int32 × fm_I × fm_L) → State → Prop} (hF : F = fm_Qi X G)  {K : Int32 → Option (Int32 × fm_I × fm_L)} (hK : ∀ (v2 : Int32), fm_J X G 6 F (K v2) μ ν 58 [(0, .ref (G.2.2.1 58)), (1, .int v1), (2, .int v2), (3, .int v3)] []) : ∀ (k : Nat) (v2 : Int32) (v4 : Int32), fm_J X G 6 F (m_X6_allOf_20 v1 v3 μ ν K k v2 v4) μ ν 20 [(0, .ref (G.2.2.1 58)), (1, .int v1), (2, .int v2), (3, .int v3), (4, .int v4)] [] := by
  intro k
  induction k with
  | zero =>
    intro v2 v4
    exact fm_none
  | succ k ih =>
    intro v2 v4
    rw [m_X6_allOf_20]
    refine fm_iload (pc := 20) C dX6_allOf_20 rfl ?_
    refine fm_iload_n (pc := 22) C dX6_allOf_22 rfl rfl ?_
    refine fm_icmp_ge (pc := 23) (tgt := 58) C dX6_allOf_23 (by decide) (fun c2 => ?_) (fun c2 => ?_)
    · refine fm_less (lv' := [(0, .ref (G.2.2.1 58)), (1, .int v1), (2, .int v2), (3, .int v3)]) (by repeat (first | exact trivial | refine ⟨rfl, ?_⟩)) ?_
      exact hK _
    · refine fm_aload_n (pc := 26) C dX6_allOf_26 rfl rfl ?_
      refine fm_iload_n (pc := 27) C dX6_allOf_27 rfl rfl ?_
      refine fm_iload_n (pc := 28) C dX6_allOf_28 rfl rfl ?_
      refine fm_iload (pc := 29) C dX6_allOf_29 rfl ?_
      refine fm_bind (fun r31 e31 => ?_)
      refine fm_cVi0 (pc := 31) C (t_X6_hooked e31) ok_X6_hooked ⟨by decide, rfl⟩ m_ml_X6_195 dX6_allOf_31 ⟨Nat.le_of_ble_eq_true rfl, Nat.le_of_ble_eq_true rfl⟩ rfl rfl (Nat.le_of_ble_eq_true rfl) ?_
      refine fm_istore (pc := 34) C dX6_allOf_34 (by decide) rfl ?_
      refine fm_iload_n (pc := 36) C dX6_allOf_36 rfl rfl ?_
      refine fm_iload (pc := 37) C dX6_allOf_37 rfl ?_
      refine fm_if_ge (pc := 39) (tgt := 48) C dX6_allOf_39 (by decide) (fun c3 => ?_) (fun c3 => ?_)
      · refine fm_iload (pc := 48) C dX6_allOf_48 rfl ?_
        refine fm_iadd (pc := 50) C dX6_allOf_50 ?_
        refine fm_istore_n (pc := 51) C dX6_allOf_51 rfl (by decide) rfl ?_
        refine fm_iinc (pc := 52) C dX6_allOf_52 rfl (v := (v4 + nI 1)) rfl (by decide) rfl ?_
        refine fm_goto (pc := 55) (tgt := 20) C dX6_allOf_55 (by decide) ?_
        refine fm_less (lv' := [(0, .ref (G.2.2.1 58)), (1, .int v1), (2, .int ((v2 + r31))), (3, .int v3), (4, .int ((v4 + nI 1)))]) (by repeat (first | exact trivial | refine ⟨rfl, ?_⟩)) ?_
        exact ih _ _
      · refine fm_iload (pc := 42) C dX6_allOf_42 rfl ?_
        refine fm_ineg (pc := 44) C dX6_allOf_44 ?_
        refine fm_goto (pc := 45) (tgt := 50) C dX6_allOf_45 (by decide) ?_
        refine fm_iadd (pc := 50) C dX6_allOf_50 ?_
        refine fm_istore_n (pc := 51) C dX6_allOf_51 rfl (by decide) rfl ?_
        refine fm_iinc (pc := 52) C dX6_allOf_52 rfl (v := (v4 + nI 1)) rfl (by decide) rfl ?_
        refine fm_goto (pc := 55) (tgt := 20) C dX6_allOf_55 (by decide) ?_
        refine fm_less (lv' := [(0, .ref (G.2.2.1 58)), (1, .int v1), (2, .int ((v2 + ((-r31))))), (3, .int v3), (4, .int ((v4 + nI 1)))]) (by repeat (first | exact trivial | refine ⟨rfl, ?_⟩)) ?_
        exact ih _ _
set_option maxHeartbeats 4000000 in
set_option maxRecDepth 100000 in
theorem j_X6_allOf_9_ {X : fm_X} {G : fm_G} {l : Launch} {v1 : Int32} {μ : fm_I} {ν : fm_L} (C : fm_C X G l cX6_allOf RX6 6 (some .int) 5 109) {F : (Int32 × fm_I × fm_L) → State → Prop} (hF : F = fm_Qi X G)  {K : Int32 → Option (Int32 × fm_I × fm_L)} (hK : ∀ (v2 : Int32), fm_J X G 6 F (K v2) μ ν 64 [(2, .int v2)] []) : ∀ (k : Nat) (v2 : Int32) (v3 : Int32), fm_J X G 6 F (m_X6_allOf_9 v1 μ ν K k v2 v3) μ ν 9 [(0, .ref (G.2.2.1 58)), (1, .int v1), (2, .int v2), (3, .int v3)] [] := by
  intro k
  induction k with
  | zero =>
    intro v2 v3
    exact fm_none
  | succ k ih =>
    intro v2 v3
    rw [m_X6_allOf_9]
    refine fm_iload_n (pc := 9) C dX6_allOf_9 rfl rfl ?_
    refine fm_aload_n (pc := 10) C dX6_allOf_10 rfl rfl ?_
    refine g6_pieces (pc := 11) C (by decide) dX6_allOf_11 m_fl_X6_172 ?_
    refine fm_icmp_ge (pc := 14) (tgt := 64) C dX6_allOf_14 (by decide) (fun c1 => ?_) (fun c1 => ?_)
    · refine fm_less (lv' := [(2, .int v2)]) (by repeat (first | exact trivial | refine ⟨rfl, ?_⟩)) ?_
      exact hK _
    · refine fm_iconst (pc := 17) (v := (nI 0)) C dX6_allOf_17 (by decide) ?_
      refine fm_istore (pc := 18) C dX6_allOf_18 (by decide) rfl ?_
      refine fm_less (lv' := [(0, .ref (G.2.2.1 58)), (1, .int v1), (2, .int v2), (3, .int v3), (4, .int ((nI 0)))]) (by repeat (first | exact trivial | refine ⟨rfl, ?_⟩)) ?_
      refine j_X6_allOf_20_ C (v1 := v1) (v3 := v3) hF  (fun x2_20 => ?_) _ _ _
      refine fm_iinc (pc := 58) C dX6_allOf_58 rfl (v := (v3 + nI 1)) rfl (by decide) rfl ?_
      refine fm_goto (pc := 61) (tgt := 9) C dX6_allOf_61 (by decide) ?_
      refine fm_less (lv' := [(0, .ref (G.2.2.1 58)), (1, .int v1), (2, .int x2_20), (3, .int ((v3 + nI 1)))]) (by repeat (first | exact trivial | refine ⟨rfl, ?_⟩)) ?_
      exact ih _ _
set_option maxHeartbeats 4000000 in
set_option maxRecDepth 100000 in
theorem j_X6_allOf {X : fm_X} {G : fm_G} {l : Launch} {v1 : Int32} {μ : fm_I} {ν : fm_L} (C : fm_C X G l cX6_allOf RX6 6 (some .int) 5 109) {F : (Int32 × fm_I × fm_L) → State → Prop} (hF : F = fm_Qi X G) : fm_J X G 6 F (m_X6_allOf v1 μ ν) μ ν 0 [(0, .ref (G.2.2.1 58)), (1, .int v1)] [] := by
  unfold m_X6_allOf
  refine fm_aload_n (pc := 0) C dX6_allOf_0 rfl rfl ?_
  refine fm_iload_n (pc := 1) C dX6_allOf_1 rfl rfl ?_
  refine fm_bind (fun r2 e2 => ?_)
  refine fm_cVv (pc := 2) C (t_X6_cuts e2) ok_X6_cuts ⟨by decide, rfl⟩ m_ml_X6_175 dX6_allOf_2 ⟨Nat.le_of_ble_eq_true rfl, Nat.le_of_ble_eq_true rfl⟩ rfl rfl (Nat.le_of_ble_eq_true rfl) ?_
  refine fm_iconst (pc := 5) (v := (nI 0)) C dX6_allOf_5 (by decide) ?_
  refine fm_istore_n (pc := 6) C dX6_allOf_6 rfl (by decide) rfl ?_
  refine fm_iconst (pc := 7) (v := (nI 0)) C dX6_allOf_7 (by decide) ?_
  refine fm_istore_n (pc := 8) C dX6_allOf_8 rfl (by decide) rfl ?_
  refine fm_less (lv' := [(0, .ref (G.2.2.1 58)), (1, .int v1), (2, .int ((nI 0))), (3, .int ((nI 0)))]) (by repeat (first | exact trivial | refine ⟨rfl, ?_⟩)) ?_
  refine j_X6_allOf_9_ C (v1 := v1) hF  (fun x2_9 => ?_) _ _ _
  refine fm_iload_n (pc := 64) C dX6_allOf_64 rfl rfl ?_
  exact fm_zret (pc := 65) C hF rfl rfl dX6_allOf_65
theorem t_X6_allOf {l : Launch} {G : fm_G} {v1 : Int32} {μ : fm_I} {ν : fm_L} {r : Int32 × fm_I × fm_L} (h : m_X6_allOf v1 μ ν = some r) : fm_Mi l G yX6_allOf cX6_allOf 6 (some .int) 5 109 [.ref (G.2.2.1 58), .int v1] μ ν r := fm_Mi_of (by decide +kernel) (Nat.le_of_ble_eq_true rfl) (fun _ C => j_X6_allOf C rfl r h)
theorem dX6_allHooks_0 : decode cX6_allHooks 0 = .ok (.aload_n 0, 1) := by decide +kernel
theorem dX6_allHooks_1 : decode cX6_allHooks 1 = .ok (.iload_n 1, 1) := by decide +kernel
theorem dX6_allHooks_2 : decode cX6_allHooks 2 = .ok (.invokevirtual 88, 3) := by decide +kernel
theorem dX6_allHooks_5 : decode cX6_allHooks 5 = .ok (.ifCond .eq 11, 3) := by decide +kernel
theorem dX6_allHooks_8 : decode cX6_allHooks 8 = .ok (.aload_n 0, 1) := by decide +kernel
theorem dX6_allHooks_9 : decode cX6_allHooks 9 = .ok (.iload_n 1, 1) := by decide +kernel
theorem dX6_allHooks_10 : decode cX6_allHooks 10 = .ok (.invokevirtual 198, 3) := by decide +kernel
theorem dX6_allHooks_13 : decode cX6_allHooks 13 = .ok (.goto 8, 3) := by decide +kernel
theorem dX6_allHooks_16 : decode cX6_allHooks 16 = .ok (.aload_n 0, 1) := by decide +kernel
theorem dX6_allHooks_17 : decode cX6_allHooks 17 = .ok (.iconst (-1), 1) := by decide +kernel
theorem dX6_allHooks_18 : decode cX6_allHooks 18 = .ok (.invokevirtual 95, 3) := by decide +kernel
theorem dX6_allHooks_21 : decode cX6_allHooks 21 = .ok (.ireturn, 1) := by decide +kernel
def m_X6_allHooks (v1 : Int32) (μ : fm_I) (ν : fm_L) : Option (Int32 × fm_I × fm_L) :=
  (m_X6_isBand v1 μ ν).bind (fun r2 => if r2 = 0 then (m_X6_no ((-1 : Int32)) μ ν).bind (fun r18 => some ((r18.1, r18.2.1, r18.2.2))) else (m_X6_allOf v1 μ ν).bind (fun r10 => some ((r10.1, r10.2.1, r10.2.2))))
theorem ok_X6_allHooks : fm_okV yX6_allHooks cX6_allHooks 2 (some .int) 1 := ⟨m_cd_X6_allHooks, m_im_X6_allHooks, m_se_X6_X6_allHooks, m_ini_X6, by decide +kernel, by decide +kernel, by decide +kernel⟩
set_option maxHeartbeats 4000000 in
set_option maxRecDepth 100000 in
theorem j_X6_allHooks {X : fm_X} {G : fm_G} {l : Launch} {v1 : Int32} {μ : fm_I} {ν : fm_L} (C : fm_C X G l cX6_allHooks RX6 2 (some .int) 6 134) {F : (Int32 × fm_I × fm_L) → State → Prop} (hF : F = fm_Qi X G) : fm_J X G 2 F (m_X6_allHooks v1 μ ν) μ ν 0 [(0, .ref (G.2.2.1 58)), (1, .int v1)] [] := by
  unfold m_X6_allHooks
  refine fm_aload_n (pc := 0) C dX6_allHooks_0 rfl rfl ?_
  refine fm_iload_n (pc := 1) C dX6_allHooks_1 rfl rfl ?_
  refine fm_bind (fun r2 e2 => ?_)
  refine fm_cVi0 (pc := 2) C (t_X6_isBand e2) ok_X6_isBand ⟨by decide, rfl⟩ m_ml_X6_88 dX6_allHooks_2 ⟨Nat.le_of_ble_eq_true rfl, Nat.le_of_ble_eq_true rfl⟩ rfl rfl (Nat.le_of_ble_eq_true rfl) ?_
  refine fm_if_eq (pc := 5) (tgt := 16) C dX6_allHooks_5 (by decide) (fun c1 => ?_) (fun c1 => ?_)
  · refine fm_aload_n (pc := 16) C dX6_allHooks_16 rfl rfl ?_
    refine fm_iconst (pc := 17) (v := (-1 : Int32)) C dX6_allHooks_17 (by decide) ?_
    refine fm_bind (fun r18 e18 => ?_)
    refine fm_cVi (pc := 18) C (t_X6_no e18) ok_X6_no ⟨by decide, rfl⟩ m_ml_X6_95 dX6_allHooks_18 ⟨Nat.le_of_ble_eq_true rfl, Nat.le_of_ble_eq_true rfl⟩ rfl rfl (Nat.le_of_ble_eq_true rfl) ?_
    exact fm_zret (pc := 21) C hF rfl rfl dX6_allHooks_21
  · refine fm_aload_n (pc := 8) C dX6_allHooks_8 rfl rfl ?_
    refine fm_iload_n (pc := 9) C dX6_allHooks_9 rfl rfl ?_
    refine fm_bind (fun r10 e10 => ?_)
    refine fm_cVi (pc := 10) C (t_X6_allOf e10) ok_X6_allOf ⟨by decide, rfl⟩ m_ml_X6_198 dX6_allHooks_10 ⟨Nat.le_of_ble_eq_true rfl, Nat.le_of_ble_eq_true rfl⟩ rfl rfl (Nat.le_of_ble_eq_true rfl) ?_
    refine fm_goto (pc := 13) (tgt := 21) C dX6_allHooks_13 (by decide) ?_
    exact fm_zret (pc := 21) C hF rfl rfl dX6_allHooks_21
theorem t_X6_allHooks {l : Launch} {G : fm_G} {v1 : Int32} {μ : fm_I} {ν : fm_L} {r : Int32 × fm_I × fm_L} (h : m_X6_allHooks v1 μ ν = some r) : fm_Mi l G yX6_allHooks cX6_allHooks 2 (some .int) 6 134 [.ref (G.2.2.1 58), .int v1] μ ν r := fm_Mi_of (by decide +kernel) (Nat.le_of_ble_eq_true rfl) (fun _ C => j_X6_allHooks C rfl r h)
theorem dX6_hangs_0 : decode cX6_hangs 0 = .ok (.aload_n 0, 1) := by decide +kernel
theorem dX6_hangs_1 : decode cX6_hangs 1 = .ok (.iload_n 1, 1) := by decide +kernel
theorem dX6_hangs_2 : decode cX6_hangs 2 = .ok (.invokevirtual 175, 3) := by decide +kernel
theorem dX6_hangs_5 : decode cX6_hangs 5 = .ok (.iconst 0, 1) := by decide +kernel
theorem dX6_hangs_6 : decode cX6_hangs 6 = .ok (.istore_n 2, 1) := by decide +kernel
theorem dX6_hangs_7 : decode cX6_hangs 7 = .ok (.iload_n 2, 1) := by decide +kernel
theorem dX6_hangs_8 : decode cX6_hangs 8 = .ok (.aload_n 0, 1) := by decide +kernel
theorem dX6_hangs_9 : decode cX6_hangs 9 = .ok (.getfield 172, 3) := by decide +kernel
theorem dX6_hangs_12 : decode cX6_hangs 12 = .ok (.if_icmp .ge 59, 3) := by decide +kernel
theorem dX6_hangs_15 : decode cX6_hangs 15 = .ok (.aload_n 0, 1) := by decide +kernel
theorem dX6_hangs_16 : decode cX6_hangs 16 = .ok (.getfield 75, 3) := by decide +kernel
theorem dX6_hangs_19 : decode cX6_hangs 19 = .ok (.iload_n 2, 1) := by decide +kernel
theorem dX6_hangs_20 : decode cX6_hangs 20 = .ok (.iconst 0, 1) := by decide +kernel
theorem dX6_hangs_21 : decode cX6_hangs 21 = .ok (.iastore, 1) := by decide +kernel
theorem dX6_hangs_22 : decode cX6_hangs 22 = .ok (.iconst 0, 1) := by decide +kernel
theorem dX6_hangs_23 : decode cX6_hangs 23 = .ok (.istore_n 3, 1) := by decide +kernel
theorem dX6_hangs_24 : decode cX6_hangs 24 = .ok (.iload_n 3, 1) := by decide +kernel
theorem dX6_hangs_25 : decode cX6_hangs 25 = .ok (.aload_n 0, 1) := by decide +kernel
theorem dX6_hangs_26 : decode cX6_hangs 26 = .ok (.getfield 172, 3) := by decide +kernel
theorem dX6_hangs_29 : decode cX6_hangs 29 = .ok (.if_icmp .ge 36, 3) := by decide +kernel
theorem dX6_hangs_32 : decode cX6_hangs 32 = .ok (.iload_n 3, 1) := by decide +kernel
theorem dX6_hangs_33 : decode cX6_hangs 33 = .ok (.iload_n 2, 1) := by decide +kernel
theorem dX6_hangs_34 : decode cX6_hangs 34 = .ok (.if_icmp .eq 25, 3) := by decide +kernel
theorem dX6_hangs_37 : decode cX6_hangs 37 = .ok (.aload_n 0, 1) := by decide +kernel
theorem dX6_hangs_38 : decode cX6_hangs 38 = .ok (.iload_n 1, 1) := by decide +kernel
theorem dX6_hangs_39 : decode cX6_hangs 39 = .ok (.iload_n 2, 1) := by decide +kernel
theorem dX6_hangs_40 : decode cX6_hangs 40 = .ok (.iload_n 3, 1) := by decide +kernel
theorem dX6_hangs_41 : decode cX6_hangs 41 = .ok (.invokevirtual 195, 3) := by decide +kernel
theorem dX6_hangs_44 : decode cX6_hangs 44 = .ok (.ifCond .eq 15, 3) := by decide +kernel
theorem dX6_hangs_47 : decode cX6_hangs 47 = .ok (.aload_n 0, 1) := by decide +kernel
theorem dX6_hangs_48 : decode cX6_hangs 48 = .ok (.getfield 75, 3) := by decide +kernel
theorem dX6_hangs_51 : decode cX6_hangs 51 = .ok (.iload_n 2, 1) := by decide +kernel
theorem dX6_hangs_52 : decode cX6_hangs 52 = .ok (.dup2, 1) := by decide +kernel
theorem dX6_hangs_53 : decode cX6_hangs 53 = .ok (.iaload, 1) := by decide +kernel
theorem dX6_hangs_54 : decode cX6_hangs 54 = .ok (.iconst 1, 1) := by decide +kernel
theorem dX6_hangs_55 : decode cX6_hangs 55 = .ok (.iload_n 3, 1) := by decide +kernel
theorem dX6_hangs_56 : decode cX6_hangs 56 = .ok (.ishl, 1) := by decide +kernel
theorem dX6_hangs_57 : decode cX6_hangs 57 = .ok (.ior, 1) := by decide +kernel
theorem dX6_hangs_58 : decode cX6_hangs 58 = .ok (.iastore, 1) := by decide +kernel
theorem dX6_hangs_59 : decode cX6_hangs 59 = .ok (.iinc 3 1, 3) := by decide +kernel
theorem dX6_hangs_62 : decode cX6_hangs 62 = .ok (.goto (-38), 3) := by decide +kernel
theorem dX6_hangs_65 : decode cX6_hangs 65 = .ok (.iinc 2 1, 3) := by decide +kernel
theorem dX6_hangs_68 : decode cX6_hangs 68 = .ok (.goto (-61), 3) := by decide +kernel
theorem dX6_hangs_71 : decode cX6_hangs 71 = .ok (.return_, 1) := by decide +kernel
def m_X6_hangs_24 (v1 : Int32) (v2 : Int32) (K : fm_I → fm_L → Option (fm_I × fm_L)) : Nat → Int32 → fm_I → fm_L → Option (fm_I × fm_L)
  | 0, _, _, _ => none
  | k + 1, v3, μ, ν => if (μ 58 28) ≤ v3 then K  μ ν else if v3 = v2 then m_X6_hangs_24 v1 v2 K k ((v3 + nI 1)) μ ν else (m_X6_hooked v1 v2 v3 μ ν).bind (fun r41 => if r41 = 0 then m_X6_hangs_24 v1 v2 K k ((v3 + nI 1)) μ ν else fm_g (fm_in v2 (fm_n 78)) (m_X6_hangs_24 v1 v2 K k ((v3 + nI 1)) (fm_u μ 78 v2.toNatClampNeg ((((μ 78 v2.toNatClampNeg)) ||| ((((nI 1)) <<< (v3 &&& 31)))))) ν))
def m_X6_hangs_7 (v1 : Int32) (K : fm_I → fm_L → Option (fm_I × fm_L)) : Nat → Int32 → fm_I → fm_L → Option (fm_I × fm_L)
  | 0, _, _, _ => none
  | k + 1, v2, μ, ν => if (μ 58 28) ≤ v2 then K  μ ν else fm_g (fm_in v2 (fm_n 78)) (m_X6_hangs_24 v1 v2  (fun μ24 ν24 => m_X6_hangs_7 v1 K k ((v2 + nI 1)) μ24 ν24) 5000 ((nI 0)) (fm_u μ 78 v2.toNatClampNeg ((nI 0))) ν)
def m_X6_hangs (v1 : Int32) (μ : fm_I) (ν : fm_L) : Option (fm_I × fm_L) :=
  (m_X6_cuts v1 μ ν).bind (fun r2 => m_X6_hangs_7 v1  (fun μ7 ν7 => some ((μ7, ν7))) 5000 ((nI 0)) r2.1 r2.2)
theorem ok_X6_hangs : fm_okV yX6_hangs cX6_hangs 4 (none : Option Jvm.ClassFile.FieldType) 1 := ⟨m_cd_X6_hangs, m_im_X6_hangs, m_se_X6_X6_hangs, m_ini_X6, by decide +kernel, by decide +kernel, by decide +kernel⟩
set_option maxHeartbeats 4000000 in
set_option maxRecDepth 100000 in
theorem j_X6_hangs_24_ {X : fm_X} {G : fm_G} {l : Launch} {v1 : Int32} {v2 : Int32} (C : fm_C X G l cX6_hangs RX6 4 (none : Option Jvm.ClassFile.FieldType) 5 109) {F : (fm_I × fm_L) → State → Prop} (hF : F = fm_Qv X G)  {K : fm_I → fm_L → Option (fm_I × fm_L)} (hK : ∀  (μ : fm_I) (ν : fm_L), fm_J X G 4 F (K μ ν) μ ν 65 [(0, .ref (G.2.2.1 58)), (1, .int v1), (2, .int v2)] []) : ∀ (k : Nat) (v3 : Int32) (μ : fm_I) (ν : fm_L), fm_J X G 4 F (m_X6_hangs_24 v1 v2 K k v3 μ ν) μ ν 24 [(0, .ref (G.2.2.1 58)), (1, .int v1), (2, .int v2), (3, .int v3)] [] := by
  intro k
  induction k with
  | zero =>
    intro v3 μ ν
    exact fm_none
  | succ k ih =>
    intro v3 μ ν
    rw [m_X6_hangs_24]
    refine fm_iload_n (pc := 24) C dX6_hangs_24 rfl rfl ?_
    refine fm_aload_n (pc := 25) C dX6_hangs_25 rfl rfl ?_
    refine g6_pieces (pc := 26) C (by decide) dX6_hangs_26 m_fl_X6_172 ?_
    refine fm_icmp_ge (pc := 29) (tgt := 65) C dX6_hangs_29 (by decide) (fun c3 => ?_) (fun c3 => ?_)
    · refine fm_less (lv' := [(0, .ref (G.2.2.1 58)), (1, .int v1), (2, .int v2)]) (by repeat (first | exact trivial | refine ⟨rfl, ?_⟩)) ?_
      exact hK  _ _
    · refine fm_iload_n (pc := 32) C dX6_hangs_32 rfl rfl ?_
      refine fm_iload_n (pc := 33) C dX6_hangs_33 rfl rfl ?_
      refine fm_icmp_eq (pc := 34) (tgt := 59) C dX6_hangs_34 (by decide) (fun c4 => ?_) (fun c4 => ?_)
      · refine fm_iinc (pc := 59) C dX6_hangs_59 rfl (v := (v3 + nI 1)) rfl (by decide) rfl ?_
        refine fm_goto (pc := 62) (tgt := 24) C dX6_hangs_62 (by decide) ?_
        refine fm_less (lv' := [(0, .ref (G.2.2.1 58)), (1, .int v1), (2, .int v2), (3, .int ((v3 + nI 1)))]) (by repeat (first | exact trivial | refine ⟨rfl, ?_⟩)) ?_
        exact ih _ _ _
      · refine fm_aload_n (pc := 37) C dX6_hangs_37 rfl rfl ?_
        refine fm_iload_n (pc := 38) C dX6_hangs_38 rfl rfl ?_
        refine fm_iload_n (pc := 39) C dX6_hangs_39 rfl rfl ?_
        refine fm_iload_n (pc := 40) C dX6_hangs_40 rfl rfl ?_
        refine fm_bind (fun r41 e41 => ?_)
        refine fm_cVi0 (pc := 41) C (t_X6_hooked e41) ok_X6_hooked ⟨by decide, rfl⟩ m_ml_X6_195 dX6_hangs_41 ⟨Nat.le_of_ble_eq_true rfl, Nat.le_of_ble_eq_true rfl⟩ rfl rfl (Nat.le_of_ble_eq_true rfl) ?_
        refine fm_if_eq (pc := 44) (tgt := 59) C dX6_hangs_44 (by decide) (fun c5 => ?_) (fun c5 => ?_)
        · refine fm_iinc (pc := 59) C dX6_hangs_59 rfl (v := (v3 + nI 1)) rfl (by decide) rfl ?_
          refine fm_goto (pc := 62) (tgt := 24) C dX6_hangs_62 (by decide) ?_
          refine fm_less (lv' := [(0, .ref (G.2.2.1 58)), (1, .int v1), (2, .int v2), (3, .int ((v3 + nI 1)))]) (by repeat (first | exact trivial | refine ⟨rfl, ?_⟩)) ?_
          exact ih _ _ _
        · refine fm_aload_n (pc := 47) C dX6_hangs_47 rfl rfl ?_
          refine g6_hang (pc := 48) C (by decide) dX6_hangs_48 m_fl_X6_75 ?_
          refine fm_iload_n (pc := 51) C dX6_hangs_51 rfl rfl ?_
          refine fm_dup2 (pc := 52) C dX6_hangs_52 rfl rfl ?_
          refine fm_guard (fun h6 => ?_)
          refine fm_iald (pc := 53) C (by decide) h6 dX6_hangs_53 ?_
          refine fm_iconst (pc := 54) (v := (nI 1)) C dX6_hangs_54 (by decide) ?_
          refine fm_iload_n (pc := 55) C dX6_hangs_55 rfl rfl ?_
          refine fm_ishl (pc := 56) C dX6_hangs_56 ?_
          refine fm_ior (pc := 57) C dX6_hangs_57 ?_
          refine fm_iast (pc := 58) C (by decide) h6 dX6_hangs_58 ?_
          refine fm_iinc (pc := 59) C dX6_hangs_59 rfl (v := (v3 + nI 1)) rfl (by decide) rfl ?_
          refine fm_goto (pc := 62) (tgt := 24) C dX6_hangs_62 (by decide) ?_
          refine fm_less (lv' := [(0, .ref (G.2.2.1 58)), (1, .int v1), (2, .int v2), (3, .int ((v3 + nI 1)))]) (by repeat (first | exact trivial | refine ⟨rfl, ?_⟩)) ?_
          exact ih _ _ _
set_option maxHeartbeats 4000000 in
set_option maxRecDepth 100000 in
theorem j_X6_hangs_7_ {X : fm_X} {G : fm_G} {l : Launch} {v1 : Int32} (C : fm_C X G l cX6_hangs RX6 4 (none : Option Jvm.ClassFile.FieldType) 5 109) {F : (fm_I × fm_L) → State → Prop} (hF : F = fm_Qv X G)  {K : fm_I → fm_L → Option (fm_I × fm_L)} (hK : ∀  (μ : fm_I) (ν : fm_L), fm_J X G 4 F (K μ ν) μ ν 71 [] []) : ∀ (k : Nat) (v2 : Int32) (μ : fm_I) (ν : fm_L), fm_J X G 4 F (m_X6_hangs_7 v1 K k v2 μ ν) μ ν 7 [(0, .ref (G.2.2.1 58)), (1, .int v1), (2, .int v2)] [] := by
  intro k
  induction k with
  | zero =>
    intro v2 μ ν
    exact fm_none
  | succ k ih =>
    intro v2 μ ν
    rw [m_X6_hangs_7]
    refine fm_iload_n (pc := 7) C dX6_hangs_7 rfl rfl ?_
    refine fm_aload_n (pc := 8) C dX6_hangs_8 rfl rfl ?_
    refine g6_pieces (pc := 9) C (by decide) dX6_hangs_9 m_fl_X6_172 ?_
    refine fm_icmp_ge (pc := 12) (tgt := 71) C dX6_hangs_12 (by decide) (fun c1 => ?_) (fun c1 => ?_)
    · refine fm_less (lv' := []) (by repeat (first | exact trivial | refine ⟨rfl, ?_⟩)) ?_
      exact hK  _ _
    · refine fm_aload_n (pc := 15) C dX6_hangs_15 rfl rfl ?_
      refine g6_hang (pc := 16) C (by decide) dX6_hangs_16 m_fl_X6_75 ?_
      refine fm_iload_n (pc := 19) C dX6_hangs_19 rfl rfl ?_
      refine fm_iconst (pc := 20) (v := (nI 0)) C dX6_hangs_20 (by decide) ?_
      refine fm_guard (fun h2 => ?_)
      refine fm_iast (pc := 21) C (by decide) h2 dX6_hangs_21 ?_
      refine fm_iconst (pc := 22) (v := (nI 0)) C dX6_hangs_22 (by decide) ?_
      refine fm_istore_n (pc := 23) C dX6_hangs_23 rfl (by decide) rfl ?_
      refine fm_less (lv' := [(0, .ref (G.2.2.1 58)), (1, .int v1), (2, .int v2), (3, .int ((nI 0)))]) (by repeat (first | exact trivial | refine ⟨rfl, ?_⟩)) ?_
      refine j_X6_hangs_24_ C (v1 := v1) (v2 := v2) hF  (fun μ24 ν24 => ?_) _ _ _ _
      refine fm_iinc (pc := 65) C dX6_hangs_65 rfl (v := (v2 + nI 1)) rfl (by decide) rfl ?_
      refine fm_goto (pc := 68) (tgt := 7) C dX6_hangs_68 (by decide) ?_
      refine fm_less (lv' := [(0, .ref (G.2.2.1 58)), (1, .int v1), (2, .int ((v2 + nI 1)))]) (by repeat (first | exact trivial | refine ⟨rfl, ?_⟩)) ?_
      exact ih _ _ _
set_option maxHeartbeats 4000000 in
set_option maxRecDepth 100000 in
theorem j_X6_hangs {X : fm_X} {G : fm_G} {l : Launch} {v1 : Int32} {μ : fm_I} {ν : fm_L} (C : fm_C X G l cX6_hangs RX6 4 (none : Option Jvm.ClassFile.FieldType) 5 109) {F : (fm_I × fm_L) → State → Prop} (hF : F = fm_Qv X G) : fm_J X G 4 F (m_X6_hangs v1 μ ν) μ ν 0 [(0, .ref (G.2.2.1 58)), (1, .int v1)] [] := by
  unfold m_X6_hangs
  refine fm_aload_n (pc := 0) C dX6_hangs_0 rfl rfl ?_
  refine fm_iload_n (pc := 1) C dX6_hangs_1 rfl rfl ?_
  refine fm_bind (fun r2 e2 => ?_)
  refine fm_cVv (pc := 2) C (t_X6_cuts e2) ok_X6_cuts ⟨by decide, rfl⟩ m_ml_X6_175 dX6_hangs_2 ⟨Nat.le_of_ble_eq_true rfl, Nat.le_of_ble_eq_true rfl⟩ rfl rfl (Nat.le_of_ble_eq_true rfl) ?_
  refine fm_iconst (pc := 5) (v := (nI 0)) C dX6_hangs_5 (by decide) ?_
  refine fm_istore_n (pc := 6) C dX6_hangs_6 rfl (by decide) rfl ?_
  refine fm_less (lv' := [(0, .ref (G.2.2.1 58)), (1, .int v1), (2, .int ((nI 0)))]) (by repeat (first | exact trivial | refine ⟨rfl, ?_⟩)) ?_
  refine j_X6_hangs_7_ C (v1 := v1) hF  (fun μ7 ν7 => ?_) _ _ _ _
  exact fm_vret (pc := 71) C hF rfl dX6_hangs_71
theorem t_X6_hangs {l : Launch} {G : fm_G} {v1 : Int32} {μ : fm_I} {ν : fm_L} {r : fm_I × fm_L} (h : m_X6_hangs v1 μ ν = some r) : fm_Mv l G yX6_hangs cX6_hangs 4 (none : Option Jvm.ClassFile.FieldType) 5 109 [.ref (G.2.2.1 58), .int v1] μ ν r := fm_Mv_of (by decide +kernel) (Nat.le_of_ble_eq_true rfl) (fun _ C => j_X6_hangs C rfl r h)
theorem dX6_groups_0 : decode cX6_groups 0 = .ok (.aload_n 0, 1) := by decide +kernel
theorem dX6_groups_1 : decode cX6_groups 1 = .ok (.iload_n 1, 1) := by decide +kernel
theorem dX6_groups_2 : decode cX6_groups 2 = .ok (.invokevirtual 88, 3) := by decide +kernel
theorem dX6_groups_5 : decode cX6_groups 5 = .ok (.ifCond .ne 9, 3) := by decide +kernel
theorem dX6_groups_8 : decode cX6_groups 8 = .ok (.aload_n 0, 1) := by decide +kernel
theorem dX6_groups_9 : decode cX6_groups 9 = .ok (.iconst (-1), 1) := by decide +kernel
theorem dX6_groups_10 : decode cX6_groups 10 = .ok (.invokevirtual 95, 3) := by decide +kernel
theorem dX6_groups_13 : decode cX6_groups 13 = .ok (.ireturn, 1) := by decide +kernel
theorem dX6_groups_14 : decode cX6_groups 14 = .ok (.aload_n 0, 1) := by decide +kernel
theorem dX6_groups_15 : decode cX6_groups 15 = .ok (.iload_n 1, 1) := by decide +kernel
theorem dX6_groups_16 : decode cX6_groups 16 = .ok (.invokevirtual 201, 3) := by decide +kernel
theorem dX6_groups_19 : decode cX6_groups 19 = .ok (.iconst 0, 1) := by decide +kernel
theorem dX6_groups_20 : decode cX6_groups 20 = .ok (.istore_n 2, 1) := by decide +kernel
theorem dX6_groups_21 : decode cX6_groups 21 = .ok (.iconst 0, 1) := by decide +kernel
theorem dX6_groups_22 : decode cX6_groups 22 = .ok (.istore_n 3, 1) := by decide +kernel
theorem dX6_groups_23 : decode cX6_groups 23 = .ok (.iconst 0, 1) := by decide +kernel
theorem dX6_groups_24 : decode cX6_groups 24 = .ok (.istore 4, 2) := by decide +kernel
theorem dX6_groups_26 : decode cX6_groups 26 = .ok (.iload 4, 2) := by decide +kernel
theorem dX6_groups_28 : decode cX6_groups 28 = .ok (.aload_n 0, 1) := by decide +kernel
theorem dX6_groups_29 : decode cX6_groups 29 = .ok (.getfield 172, 3) := by decide +kernel
theorem dX6_groups_32 : decode cX6_groups 32 = .ok (.if_icmp .ge 95, 3) := by decide +kernel
theorem dX6_groups_35 : decode cX6_groups 35 = .ok (.iload_n 2, 1) := by decide +kernel
theorem dX6_groups_36 : decode cX6_groups 36 = .ok (.iload 4, 2) := by decide +kernel
theorem dX6_groups_38 : decode cX6_groups 38 = .ok (.ishr, 1) := by decide +kernel
theorem dX6_groups_39 : decode cX6_groups 39 = .ok (.iconst 1, 1) := by decide +kernel
theorem dX6_groups_40 : decode cX6_groups 40 = .ok (.iand, 1) := by decide +kernel
theorem dX6_groups_41 : decode cX6_groups 41 = .ok (.iconst 1, 1) := by decide +kernel
theorem dX6_groups_42 : decode cX6_groups 42 = .ok (.if_icmp .ne 6, 3) := by decide +kernel
theorem dX6_groups_45 : decode cX6_groups 45 = .ok (.goto 76, 3) := by decide +kernel
theorem dX6_groups_48 : decode cX6_groups 48 = .ok (.iinc 3 1, 3) := by decide +kernel
theorem dX6_groups_51 : decode cX6_groups 51 = .ok (.iconst 1, 1) := by decide +kernel
theorem dX6_groups_52 : decode cX6_groups 52 = .ok (.iload 4, 2) := by decide +kernel
theorem dX6_groups_54 : decode cX6_groups 54 = .ok (.ishl, 1) := by decide +kernel
theorem dX6_groups_55 : decode cX6_groups 55 = .ok (.istore 5, 2) := by decide +kernel
theorem dX6_groups_57 : decode cX6_groups 57 = .ok (.iconst 0, 1) := by decide +kernel
theorem dX6_groups_58 : decode cX6_groups 58 = .ok (.istore 6, 2) := by decide +kernel
theorem dX6_groups_60 : decode cX6_groups 60 = .ok (.iload 6, 2) := by decide +kernel
theorem dX6_groups_62 : decode cX6_groups 62 = .ok (.aload_n 0, 1) := by decide +kernel
theorem dX6_groups_63 : decode cX6_groups 63 = .ok (.getfield 172, 3) := by decide +kernel
theorem dX6_groups_66 : decode cX6_groups 66 = .ok (.if_icmp .ge 50, 3) := by decide +kernel
theorem dX6_groups_69 : decode cX6_groups 69 = .ok (.iconst 0, 1) := by decide +kernel
theorem dX6_groups_70 : decode cX6_groups 70 = .ok (.istore 7, 2) := by decide +kernel
theorem dX6_groups_72 : decode cX6_groups 72 = .ok (.iload 7, 2) := by decide +kernel
theorem dX6_groups_74 : decode cX6_groups 74 = .ok (.aload_n 0, 1) := by decide +kernel
theorem dX6_groups_75 : decode cX6_groups 75 = .ok (.getfield 172, 3) := by decide +kernel
theorem dX6_groups_78 : decode cX6_groups 78 = .ok (.if_icmp .ge 32, 3) := by decide +kernel
theorem dX6_groups_81 : decode cX6_groups 81 = .ok (.iload 5, 2) := by decide +kernel
theorem dX6_groups_83 : decode cX6_groups 83 = .ok (.iload 7, 2) := by decide +kernel
theorem dX6_groups_85 : decode cX6_groups 85 = .ok (.ishr, 1) := by decide +kernel
theorem dX6_groups_86 : decode cX6_groups 86 = .ok (.iconst 1, 1) := by decide +kernel
theorem dX6_groups_87 : decode cX6_groups 87 = .ok (.iand, 1) := by decide +kernel
theorem dX6_groups_88 : decode cX6_groups 88 = .ok (.iconst 1, 1) := by decide +kernel
theorem dX6_groups_89 : decode cX6_groups 89 = .ok (.if_icmp .ne 15, 3) := by decide +kernel
theorem dX6_groups_92 : decode cX6_groups 92 = .ok (.iload 5, 2) := by decide +kernel
theorem dX6_groups_94 : decode cX6_groups 94 = .ok (.aload_n 0, 1) := by decide +kernel
theorem dX6_groups_95 : decode cX6_groups 95 = .ok (.getfield 75, 3) := by decide +kernel
theorem dX6_groups_98 : decode cX6_groups 98 = .ok (.iload 7, 2) := by decide +kernel
theorem dX6_groups_100 : decode cX6_groups 100 = .ok (.iaload, 1) := by decide +kernel
theorem dX6_groups_101 : decode cX6_groups 101 = .ok (.ior, 1) := by decide +kernel
theorem dX6_groups_102 : decode cX6_groups 102 = .ok (.istore 5, 2) := by decide +kernel
theorem dX6_groups_104 : decode cX6_groups 104 = .ok (.iinc 7 1, 3) := by decide +kernel
theorem dX6_groups_107 : decode cX6_groups 107 = .ok (.goto (-35), 3) := by decide +kernel
theorem dX6_groups_110 : decode cX6_groups 110 = .ok (.iinc 6 1, 3) := by decide +kernel
theorem dX6_groups_113 : decode cX6_groups 113 = .ok (.goto (-53), 3) := by decide +kernel
theorem dX6_groups_116 : decode cX6_groups 116 = .ok (.iload_n 2, 1) := by decide +kernel
theorem dX6_groups_117 : decode cX6_groups 117 = .ok (.iload 5, 2) := by decide +kernel
theorem dX6_groups_119 : decode cX6_groups 119 = .ok (.ior, 1) := by decide +kernel
theorem dX6_groups_120 : decode cX6_groups 120 = .ok (.istore_n 2, 1) := by decide +kernel
theorem dX6_groups_121 : decode cX6_groups 121 = .ok (.iinc 4 1, 3) := by decide +kernel
theorem dX6_groups_124 : decode cX6_groups 124 = .ok (.goto (-98), 3) := by decide +kernel
theorem dX6_groups_127 : decode cX6_groups 127 = .ok (.iload_n 3, 1) := by decide +kernel
theorem dX6_groups_128 : decode cX6_groups 128 = .ok (.ireturn, 1) := by decide +kernel
def m_X6_groups_72 (v2 : Int32) (v3 : Int32) (v4 : Int32) (v6 : Int32) (μ : fm_I) (ν : fm_L) (K : Int32 → Option (Int32 × fm_I × fm_L)) : Nat → Int32 → Int32 → Option (Int32 × fm_I × fm_L)
  | 0, _, _ => none
  | k + 1, v5, v7 => if (μ 58 28) ≤ v7 then K v5 else if (((v5 >>> (v7 &&& 31))) &&& ((nI 1))) = (nI 1) then fm_g (fm_in v7 (fm_n 78)) (m_X6_groups_72 v2 v3 v4 v6 μ ν K k ((v5 ||| ((μ 78 v7.toNatClampNeg)))) ((v7 + nI 1))) else m_X6_groups_72 v2 v3 v4 v6 μ ν K k v5 ((v7 + nI 1))
def m_X6_groups_60 (v2 : Int32) (v3 : Int32) (v4 : Int32) (μ : fm_I) (ν : fm_L) (K : Int32 → Option (Int32 × fm_I × fm_L)) : Nat → Int32 → Int32 → Option (Int32 × fm_I × fm_L)
  | 0, _, _ => none
  | k + 1, v5, v6 => if (μ 58 28) ≤ v6 then K v5 else m_X6_groups_72 v2 v3 v4 v6 μ ν (fun x5_72 => m_X6_groups_60 v2 v3 v4 μ ν K k x5_72 ((v6 + nI 1))) 5000 v5 ((nI 0))
def m_X6_groups_26  (μ : fm_I) (ν : fm_L) (K : Int32 → Option (Int32 × fm_I × fm_L)) : Nat → Int32 → Int32 → Int32 → Option (Int32 × fm_I × fm_L)
  | 0, _, _, _ => none
  | k + 1, v2, v3, v4 => if (μ 58 28) ≤ v4 then K v3 else if (((v2 >>> (v4 &&& 31))) &&& ((nI 1))) = (nI 1) then m_X6_groups_26 μ ν K k v2 v3 ((v4 + nI 1)) else m_X6_groups_60 v2 ((v3 + nI 1)) v4 μ ν (fun x5_60 => m_X6_groups_26 μ ν K k ((v2 ||| x5_60)) ((v3 + nI 1)) ((v4 + nI 1))) 5000 ((((nI 1)) <<< (v4 &&& 31))) ((nI 0))
def m_X6_groups (v1 : Int32) (μ : fm_I) (ν : fm_L) : Option (Int32 × fm_I × fm_L) :=
  (m_X6_isBand v1 μ ν).bind (fun r2 => if r2 = 0 then (m_X6_no ((-1 : Int32)) μ ν).bind (fun r10 => some ((r10.1, r10.2.1, r10.2.2))) else (m_X6_hangs v1 μ ν).bind (fun r16 => m_X6_groups_26 r16.1 r16.2 (fun x3_26 => some ((x3_26, r16.1, r16.2))) 5000 ((nI 0)) ((nI 0)) ((nI 0))))
theorem ok_X6_groups : fm_okV yX6_groups cX6_groups 8 (some .int) 1 := ⟨m_cd_X6_groups, m_im_X6_groups, m_se_X6_X6_groups, m_ini_X6, by decide +kernel, by decide +kernel, by decide +kernel⟩
set_option maxHeartbeats 4000000 in
set_option maxRecDepth 100000 in
theorem j_X6_groups_72_ {X : fm_X} {G : fm_G} {l : Launch} {v2 : Int32} {v3 : Int32} {v4 : Int32} {v6 : Int32} {μ : fm_I} {ν : fm_L} (C : fm_C X G l cX6_groups RX6 8 (some .int) 6 132) {F : (Int32 × fm_I × fm_L) → State → Prop} (hF : F = fm_Qi X G)  {K : Int32 → Option (Int32 × fm_I × fm_L)} (hK : ∀ (v5 : Int32), fm_J X G 8 F (K v5) μ ν 110 [(0, .ref (G.2.2.1 58)), (2, .int v2), (3, .int v3), (4, .int v4), (5, .int v5), (6, .int v6)] []) : ∀ (k : Nat) (v5 : Int32) (v7 : Int32), fm_J X G 8 F (m_X6_groups_72 v2 v3 v4 v6 μ ν K k v5 v7) μ ν 72 [(0, .ref (G.2.2.1 58)), (2, .int v2), (3, .int v3), (4, .int v4), (5, .int v5), (6, .int v6), (7, .int v7)] [] := by
  intro k
  induction k with
  | zero =>
    intro v5 v7
    exact fm_none
  | succ k ih =>
    intro v5 v7
    rw [m_X6_groups_72]
    refine fm_iload (pc := 72) C dX6_groups_72 rfl ?_
    refine fm_aload_n (pc := 74) C dX6_groups_74 rfl rfl ?_
    refine g6_pieces (pc := 75) C (by decide) dX6_groups_75 m_fl_X6_172 ?_
    refine fm_icmp_ge (pc := 78) (tgt := 110) C dX6_groups_78 (by decide) (fun c5 => ?_) (fun c5 => ?_)
    · refine fm_less (lv' := [(0, .ref (G.2.2.1 58)), (2, .int v2), (3, .int v3), (4, .int v4), (5, .int v5), (6, .int v6)]) (by repeat (first | exact trivial | refine ⟨rfl, ?_⟩)) ?_
      exact hK _
    · refine fm_iload (pc := 81) C dX6_groups_81 rfl ?_
      refine fm_iload (pc := 83) C dX6_groups_83 rfl ?_
      refine fm_ishr (pc := 85) C dX6_groups_85 ?_
      refine fm_iconst (pc := 86) (v := (nI 1)) C dX6_groups_86 (by decide) ?_
      refine fm_iand (pc := 87) C dX6_groups_87 ?_
      refine fm_iconst (pc := 88) (v := (nI 1)) C dX6_groups_88 (by decide) ?_
      refine fm_icmp_ne (pc := 89) (tgt := 104) C dX6_groups_89 (by decide) (fun c6 => ?_) (fun c6 => ?_)
      · refine fm_iload (pc := 92) C dX6_groups_92 rfl ?_
        refine fm_aload_n (pc := 94) C dX6_groups_94 rfl rfl ?_
        refine g6_hang (pc := 95) C (by decide) dX6_groups_95 m_fl_X6_75 ?_
        refine fm_iload (pc := 98) C dX6_groups_98 rfl ?_
        refine fm_guard (fun h7 => ?_)
        refine fm_iald (pc := 100) C (by decide) h7 dX6_groups_100 ?_
        refine fm_ior (pc := 101) C dX6_groups_101 ?_
        refine fm_istore (pc := 102) C dX6_groups_102 (by decide) rfl ?_
        refine fm_iinc (pc := 104) C dX6_groups_104 rfl (v := (v7 + nI 1)) rfl (by decide) rfl ?_
        refine fm_goto (pc := 107) (tgt := 72) C dX6_groups_107 (by decide) ?_
        refine fm_less (lv' := [(0, .ref (G.2.2.1 58)), (2, .int v2), (3, .int v3), (4, .int v4), (5, .int ((v5 ||| ((μ 78 v7.toNatClampNeg))))), (6, .int v6), (7, .int ((v7 + nI 1)))]) (by repeat (first | exact trivial | refine ⟨rfl, ?_⟩)) ?_
        exact ih _ _
      · refine fm_iinc (pc := 104) C dX6_groups_104 rfl (v := (v7 + nI 1)) rfl (by decide) rfl ?_
        refine fm_goto (pc := 107) (tgt := 72) C dX6_groups_107 (by decide) ?_
        refine fm_less (lv' := [(0, .ref (G.2.2.1 58)), (2, .int v2), (3, .int v3), (4, .int v4), (5, .int v5), (6, .int v6), (7, .int ((v7 + nI 1)))]) (by repeat (first | exact trivial | refine ⟨rfl, ?_⟩)) ?_
        exact ih _ _
set_option maxHeartbeats 4000000 in
set_option maxRecDepth 100000 in
theorem j_X6_groups_60_ {X : fm_X} {G : fm_G} {l : Launch} {v2 : Int32} {v3 : Int32} {v4 : Int32} {μ : fm_I} {ν : fm_L} (C : fm_C X G l cX6_groups RX6 8 (some .int) 6 132) {F : (Int32 × fm_I × fm_L) → State → Prop} (hF : F = fm_Qi X G)  {K : Int32 → Option (Int32 × fm_I × fm_L)} (hK : ∀ (v5 : Int32), fm_J X G 8 F (K v5) μ ν 116 [(0, .ref (G.2.2.1 58)), (2, .int v2), (3, .int v3), (4, .int v4), (5, .int v5)] []) : ∀ (k : Nat) (v5 : Int32) (v6 : Int32), fm_J X G 8 F (m_X6_groups_60 v2 v3 v4 μ ν K k v5 v6) μ ν 60 [(0, .ref (G.2.2.1 58)), (2, .int v2), (3, .int v3), (4, .int v4), (5, .int v5), (6, .int v6)] [] := by
  intro k
  induction k with
  | zero =>
    intro v5 v6
    exact fm_none
  | succ k ih =>
    intro v5 v6
    rw [m_X6_groups_60]
    refine fm_iload (pc := 60) C dX6_groups_60 rfl ?_
    refine fm_aload_n (pc := 62) C dX6_groups_62 rfl rfl ?_
    refine g6_pieces (pc := 63) C (by decide) dX6_groups_63 m_fl_X6_172 ?_
    refine fm_icmp_ge (pc := 66) (tgt := 116) C dX6_groups_66 (by decide) (fun c4 => ?_) (fun c4 => ?_)
    · refine fm_less (lv' := [(0, .ref (G.2.2.1 58)), (2, .int v2), (3, .int v3), (4, .int v4), (5, .int v5)]) (by repeat (first | exact trivial | refine ⟨rfl, ?_⟩)) ?_
      exact hK _
    · refine fm_iconst (pc := 69) (v := (nI 0)) C dX6_groups_69 (by decide) ?_
      refine fm_istore (pc := 70) C dX6_groups_70 (by decide) rfl ?_
      refine fm_less (lv' := [(0, .ref (G.2.2.1 58)), (2, .int v2), (3, .int v3), (4, .int v4), (5, .int v5), (6, .int v6), (7, .int ((nI 0)))]) (by repeat (first | exact trivial | refine ⟨rfl, ?_⟩)) ?_
      refine j_X6_groups_72_ C (v2 := v2) (v3 := v3) (v4 := v4) (v6 := v6) hF  (fun x5_72 => ?_) _ _ _
      refine fm_iinc (pc := 110) C dX6_groups_110 rfl (v := (v6 + nI 1)) rfl (by decide) rfl ?_
      refine fm_goto (pc := 113) (tgt := 60) C dX6_groups_113 (by decide) ?_
      refine fm_less (lv' := [(0, .ref (G.2.2.1 58)), (2, .int v2), (3, .int v3), (4, .int v4), (5, .int x5_72), (6, .int ((v6 + nI 1)))]) (by repeat (first | exact trivial | refine ⟨rfl, ?_⟩)) ?_
      exact ih _ _
set_option maxHeartbeats 4000000 in
set_option maxRecDepth 100000 in
theorem j_X6_groups_26_ {X : fm_X} {G : fm_G} {l : Launch}  {μ : fm_I} {ν : fm_L} (C : fm_C X G l cX6_groups RX6 8 (some .int) 6 132) {F : (Int32 × fm_I × fm_L) → State → Prop} (hF : F = fm_Qi X G)  {K : Int32 → Option (Int32 × fm_I × fm_L)} (hK : ∀ (v3 : Int32), fm_J X G 8 F (K v3) μ ν 127 [(3, .int v3)] []) : ∀ (k : Nat) (v2 : Int32) (v3 : Int32) (v4 : Int32), fm_J X G 8 F (m_X6_groups_26  μ ν K k v2 v3 v4) μ ν 26 [(0, .ref (G.2.2.1 58)), (2, .int v2), (3, .int v3), (4, .int v4)] [] := by
  intro k
  induction k with
  | zero =>
    intro v2 v3 v4
    exact fm_none
  | succ k ih =>
    intro v2 v3 v4
    rw [m_X6_groups_26]
    refine fm_iload (pc := 26) C dX6_groups_26 rfl ?_
    refine fm_aload_n (pc := 28) C dX6_groups_28 rfl rfl ?_
    refine g6_pieces (pc := 29) C (by decide) dX6_groups_29 m_fl_X6_172 ?_
    refine fm_icmp_ge (pc := 32) (tgt := 127) C dX6_groups_32 (by decide) (fun c2 => ?_) (fun c2 => ?_)
    · refine fm_less (lv' := [(3, .int v3)]) (by repeat (first | exact trivial | refine ⟨rfl, ?_⟩)) ?_
      exact hK _
    · refine fm_iload_n (pc := 35) C dX6_groups_35 rfl rfl ?_
      refine fm_iload (pc := 36) C dX6_groups_36 rfl ?_
      refine fm_ishr (pc := 38) C dX6_groups_38 ?_
      refine fm_iconst (pc := 39) (v := (nI 1)) C dX6_groups_39 (by decide) ?_
      refine fm_iand (pc := 40) C dX6_groups_40 ?_
      refine fm_iconst (pc := 41) (v := (nI 1)) C dX6_groups_41 (by decide) ?_
      refine fm_icmp_ne (pc := 42) (tgt := 48) C dX6_groups_42 (by decide) (fun c3 => ?_) (fun c3 => ?_)
      · refine fm_goto (pc := 45) (tgt := 121) C dX6_groups_45 (by decide) ?_
        refine fm_iinc (pc := 121) C dX6_groups_121 rfl (v := (v4 + nI 1)) rfl (by decide) rfl ?_
        refine fm_goto (pc := 124) (tgt := 26) C dX6_groups_124 (by decide) ?_
        refine fm_less (lv' := [(0, .ref (G.2.2.1 58)), (2, .int v2), (3, .int v3), (4, .int ((v4 + nI 1)))]) (by repeat (first | exact trivial | refine ⟨rfl, ?_⟩)) ?_
        exact ih _ _ _
      · refine fm_iinc (pc := 48) C dX6_groups_48 rfl (v := (v3 + nI 1)) rfl (by decide) rfl ?_
        refine fm_iconst (pc := 51) (v := (nI 1)) C dX6_groups_51 (by decide) ?_
        refine fm_iload (pc := 52) C dX6_groups_52 rfl ?_
        refine fm_ishl (pc := 54) C dX6_groups_54 ?_
        refine fm_istore (pc := 55) C dX6_groups_55 (by decide) rfl ?_
        refine fm_iconst (pc := 57) (v := (nI 0)) C dX6_groups_57 (by decide) ?_
        refine fm_istore (pc := 58) C dX6_groups_58 (by decide) rfl ?_
        refine fm_less (lv' := [(0, .ref (G.2.2.1 58)), (2, .int v2), (3, .int ((v3 + nI 1))), (4, .int v4), (5, .int ((((nI 1)) <<< (v4 &&& 31)))), (6, .int ((nI 0)))]) (by repeat (first | exact trivial | refine ⟨rfl, ?_⟩)) ?_
        refine j_X6_groups_60_ C (v2 := v2) (v3 := (v3 + nI 1)) (v4 := v4) hF  (fun x5_60 => ?_) _ _ _
        refine fm_iload_n (pc := 116) C dX6_groups_116 rfl rfl ?_
        refine fm_iload (pc := 117) C dX6_groups_117 rfl ?_
        refine fm_ior (pc := 119) C dX6_groups_119 ?_
        refine fm_istore_n (pc := 120) C dX6_groups_120 rfl (by decide) rfl ?_
        refine fm_iinc (pc := 121) C dX6_groups_121 rfl (v := (v4 + nI 1)) rfl (by decide) rfl ?_
        refine fm_goto (pc := 124) (tgt := 26) C dX6_groups_124 (by decide) ?_
        refine fm_less (lv' := [(0, .ref (G.2.2.1 58)), (2, .int ((v2 ||| x5_60))), (3, .int ((v3 + nI 1))), (4, .int ((v4 + nI 1)))]) (by repeat (first | exact trivial | refine ⟨rfl, ?_⟩)) ?_
        exact ih _ _ _
set_option maxHeartbeats 4000000 in
set_option maxRecDepth 100000 in
theorem j_X6_groups {X : fm_X} {G : fm_G} {l : Launch} {v1 : Int32} {μ : fm_I} {ν : fm_L} (C : fm_C X G l cX6_groups RX6 8 (some .int) 6 132) {F : (Int32 × fm_I × fm_L) → State → Prop} (hF : F = fm_Qi X G) : fm_J X G 8 F (m_X6_groups v1 μ ν) μ ν 0 [(0, .ref (G.2.2.1 58)), (1, .int v1)] [] := by
  unfold m_X6_groups
  refine fm_aload_n (pc := 0) C dX6_groups_0 rfl rfl ?_
  refine fm_iload_n (pc := 1) C dX6_groups_1 rfl rfl ?_
  refine fm_bind (fun r2 e2 => ?_)
  refine fm_cVi0 (pc := 2) C (t_X6_isBand e2) ok_X6_isBand ⟨by decide, rfl⟩ m_ml_X6_88 dX6_groups_2 ⟨Nat.le_of_ble_eq_true rfl, Nat.le_of_ble_eq_true rfl⟩ rfl rfl (Nat.le_of_ble_eq_true rfl) ?_
  refine fm_if_ne (pc := 5) (tgt := 14) C dX6_groups_5 (by decide) (fun c1 => ?_) (fun c1 => ?_)
  · refine fm_aload_n (pc := 8) C dX6_groups_8 rfl rfl ?_
    refine fm_iconst (pc := 9) (v := (-1 : Int32)) C dX6_groups_9 (by decide) ?_
    refine fm_bind (fun r10 e10 => ?_)
    refine fm_cVi (pc := 10) C (t_X6_no e10) ok_X6_no ⟨by decide, rfl⟩ m_ml_X6_95 dX6_groups_10 ⟨Nat.le_of_ble_eq_true rfl, Nat.le_of_ble_eq_true rfl⟩ rfl rfl (Nat.le_of_ble_eq_true rfl) ?_
    exact fm_zret (pc := 13) C hF rfl rfl dX6_groups_13
  · refine fm_aload_n (pc := 14) C dX6_groups_14 rfl rfl ?_
    refine fm_iload_n (pc := 15) C dX6_groups_15 rfl rfl ?_
    refine fm_bind (fun r16 e16 => ?_)
    refine fm_cVv (pc := 16) C (t_X6_hangs e16) ok_X6_hangs ⟨by decide, rfl⟩ m_ml_X6_201 dX6_groups_16 ⟨Nat.le_of_ble_eq_true rfl, Nat.le_of_ble_eq_true rfl⟩ rfl rfl (Nat.le_of_ble_eq_true rfl) ?_
    refine fm_iconst (pc := 19) (v := (nI 0)) C dX6_groups_19 (by decide) ?_
    refine fm_istore_n (pc := 20) C dX6_groups_20 rfl (by decide) rfl ?_
    refine fm_iconst (pc := 21) (v := (nI 0)) C dX6_groups_21 (by decide) ?_
    refine fm_istore_n (pc := 22) C dX6_groups_22 rfl (by decide) rfl ?_
    refine fm_iconst (pc := 23) (v := (nI 0)) C dX6_groups_23 (by decide) ?_
    refine fm_istore (pc := 24) C dX6_groups_24 (by decide) rfl ?_
    refine fm_less (lv' := [(0, .ref (G.2.2.1 58)), (2, .int ((nI 0))), (3, .int ((nI 0))), (4, .int ((nI 0)))]) (by repeat (first | exact trivial | refine ⟨rfl, ?_⟩)) ?_
    refine j_X6_groups_26_ C  hF  (fun x3_26 => ?_) _ _ _ _
    refine fm_iload_n (pc := 127) C dX6_groups_127 rfl rfl ?_
    exact fm_zret (pc := 128) C hF rfl rfl dX6_groups_128
theorem t_X6_groups {l : Launch} {G : fm_G} {v1 : Int32} {μ : fm_I} {ν : fm_L} {r : Int32 × fm_I × fm_L} (h : m_X6_groups v1 μ ν = some r) : fm_Mi l G yX6_groups cX6_groups 8 (some .int) 6 132 [.ref (G.2.2.1 58), .int v1] μ ν r := fm_Mi_of (by decide +kernel) (Nat.le_of_ble_eq_true rfl) (fun _ C => j_X6_groups C rfl r h)
theorem dX6_count_0 : decode cX6_count 0 = .ok (.iconst 0, 1) := by decide +kernel
theorem dX6_count_1 : decode cX6_count 1 = .ok (.istore_n 2, 1) := by decide +kernel
theorem dX6_count_2 : decode cX6_count 2 = .ok (.iconst 0, 1) := by decide +kernel
theorem dX6_count_3 : decode cX6_count 3 = .ok (.istore_n 3, 1) := by decide +kernel
theorem dX6_count_4 : decode cX6_count 4 = .ok (.iload_n 3, 1) := by decide +kernel
theorem dX6_count_5 : decode cX6_count 5 = .ok (.bipush 12, 2) := by decide +kernel
theorem dX6_count_7 : decode cX6_count 7 = .ok (.if_icmp .ge 17, 3) := by decide +kernel
theorem dX6_count_10 : decode cX6_count 10 = .ok (.iload_n 2, 1) := by decide +kernel
theorem dX6_count_11 : decode cX6_count 11 = .ok (.iload_n 1, 1) := by decide +kernel
theorem dX6_count_12 : decode cX6_count 12 = .ok (.iload_n 3, 1) := by decide +kernel
theorem dX6_count_13 : decode cX6_count 13 = .ok (.ishr, 1) := by decide +kernel
theorem dX6_count_14 : decode cX6_count 14 = .ok (.iconst 1, 1) := by decide +kernel
theorem dX6_count_15 : decode cX6_count 15 = .ok (.iand, 1) := by decide +kernel
theorem dX6_count_16 : decode cX6_count 16 = .ok (.iadd, 1) := by decide +kernel
theorem dX6_count_17 : decode cX6_count 17 = .ok (.istore_n 2, 1) := by decide +kernel
theorem dX6_count_18 : decode cX6_count 18 = .ok (.iinc 3 1, 3) := by decide +kernel
theorem dX6_count_21 : decode cX6_count 21 = .ok (.goto (-17), 3) := by decide +kernel
theorem dX6_count_24 : decode cX6_count 24 = .ok (.iload_n 2, 1) := by decide +kernel
theorem dX6_count_25 : decode cX6_count 25 = .ok (.ireturn, 1) := by decide +kernel
def m_X6_count_4 (v1 : Int32) (μ : fm_I) (ν : fm_L) (K : Int32 → Option (Int32)) : Nat → Int32 → Int32 → Option (Int32)
  | 0, _, _ => none
  | k + 1, v2, v3 => if (nI 12) ≤ v3 then K v2 else m_X6_count_4 v1 μ ν K k ((v2 + ((((v1 >>> (v3 &&& 31))) &&& ((nI 1)))))) ((v3 + nI 1))
def m_X6_count (v1 : Int32) (μ : fm_I) (ν : fm_L) : Option (Int32) :=
  m_X6_count_4 v1 μ ν (fun x2_4 => some x2_4) 5000 ((nI 0)) ((nI 0))
theorem ok_X6_count : fm_okV yX6_count cX6_count 4 (some .int) 1 := ⟨m_cd_X6_count, m_im_X6_count, m_se_X6_X6_count, m_ini_X6, by decide +kernel, by decide +kernel, by decide +kernel⟩
set_option maxHeartbeats 4000000 in
set_option maxRecDepth 100000 in
theorem j_X6_count_4_ {X : fm_X} {G : fm_G} {l : Launch} {v1 : Int32} {μ : fm_I} {ν : fm_L} (C : fm_C X G l cX6_count RX6 4 (some .int) 1 12) {F : Int32 → State → Prop} (hF : F = fun r => fm_Qi X G (r, μ, ν))  {K : Int32 → Option (Int32)} (hK : ∀ (v2 : Int32), fm_J X G 4 F (K v2) μ ν 24 [(2, .int v2)] []) : ∀ (k : Nat) (v2 : Int32) (v3 : Int32), fm_J X G 4 F (m_X6_count_4 v1 μ ν K k v2 v3) μ ν 4 [(1, .int v1), (2, .int v2), (3, .int v3)] [] := by
  intro k
  induction k with
  | zero =>
    intro v2 v3
    exact fm_none
  | succ k ih =>
    intro v2 v3
    rw [m_X6_count_4]
    refine fm_iload_n (pc := 4) C dX6_count_4 rfl rfl ?_
    refine fm_bipush (pc := 5) (v := (nI 12)) C dX6_count_5 (by decide) ?_
    refine fm_icmp_ge (pc := 7) (tgt := 24) C dX6_count_7 (by decide) (fun c1 => ?_) (fun c1 => ?_)
    · refine fm_less (lv' := [(2, .int v2)]) (by repeat (first | exact trivial | refine ⟨rfl, ?_⟩)) ?_
      exact hK _
    · refine fm_iload_n (pc := 10) C dX6_count_10 rfl rfl ?_
      refine fm_iload_n (pc := 11) C dX6_count_11 rfl rfl ?_
      refine fm_iload_n (pc := 12) C dX6_count_12 rfl rfl ?_
      refine fm_ishr (pc := 13) C dX6_count_13 ?_
      refine fm_iconst (pc := 14) (v := (nI 1)) C dX6_count_14 (by decide) ?_
      refine fm_iand (pc := 15) C dX6_count_15 ?_
      refine fm_iadd (pc := 16) C dX6_count_16 ?_
      refine fm_istore_n (pc := 17) C dX6_count_17 rfl (by decide) rfl ?_
      refine fm_iinc (pc := 18) C dX6_count_18 rfl (v := (v3 + nI 1)) rfl (by decide) rfl ?_
      refine fm_goto (pc := 21) (tgt := 4) C dX6_count_21 (by decide) ?_
      refine fm_less (lv' := [(1, .int v1), (2, .int ((v2 + ((((v1 >>> (v3 &&& 31))) &&& ((nI 1))))))), (3, .int ((v3 + nI 1)))]) (by repeat (first | exact trivial | refine ⟨rfl, ?_⟩)) ?_
      exact ih _ _
set_option maxHeartbeats 4000000 in
set_option maxRecDepth 100000 in
theorem j_X6_count {X : fm_X} {G : fm_G} {l : Launch} {v1 : Int32} {μ : fm_I} {ν : fm_L} (C : fm_C X G l cX6_count RX6 4 (some .int) 1 12) {F : Int32 → State → Prop} (hF : F = fun r => fm_Qi X G (r, μ, ν)) : fm_J X G 4 F (m_X6_count v1 μ ν) μ ν 0 [(0, .ref (G.2.2.1 58)), (1, .int v1)] [] := by
  unfold m_X6_count
  refine fm_iconst (pc := 0) (v := (nI 0)) C dX6_count_0 (by decide) ?_
  refine fm_istore_n (pc := 1) C dX6_count_1 rfl (by decide) rfl ?_
  refine fm_iconst (pc := 2) (v := (nI 0)) C dX6_count_2 (by decide) ?_
  refine fm_istore_n (pc := 3) C dX6_count_3 rfl (by decide) rfl ?_
  refine fm_less (lv' := [(1, .int v1), (2, .int ((nI 0))), (3, .int ((nI 0)))]) (by repeat (first | exact trivial | refine ⟨rfl, ?_⟩)) ?_
  refine j_X6_count_4_ C (v1 := v1) hF  (fun x2_4 => ?_) _ _ _
  refine fm_iload_n (pc := 24) C dX6_count_24 rfl rfl ?_
  exact fm_zret0 (pc := 25) C hF rfl rfl dX6_count_25
theorem t_X6_count {l : Launch} {G : fm_G} {v1 : Int32} {μ : fm_I} {ν : fm_L} {r : Int32} (h : m_X6_count v1 μ ν = some r) : fm_Mi l G yX6_count cX6_count 4 (some .int) 1 12 [.ref (G.2.2.1 58), .int v1] μ ν (r, μ, ν) := fm_Mi_of (by decide +kernel) (Nat.le_of_ble_eq_true rfl) (fun _ C => j_X6_count C rfl r h)
theorem dX6_unhook_0 : decode cX6_unhook 0 = .ok (.aload_n 0, 1) := by decide +kernel
theorem dX6_unhook_1 : decode cX6_unhook 1 = .ok (.iload_n 1, 1) := by decide +kernel
theorem dX6_unhook_2 : decode cX6_unhook 2 = .ok (.invokevirtual 88, 3) := by decide +kernel
theorem dX6_unhook_5 : decode cX6_unhook 5 = .ok (.ifCond .ne 9, 3) := by decide +kernel
theorem dX6_unhook_8 : decode cX6_unhook 8 = .ok (.aload_n 0, 1) := by decide +kernel
theorem dX6_unhook_9 : decode cX6_unhook 9 = .ok (.iconst (-1), 1) := by decide +kernel
theorem dX6_unhook_10 : decode cX6_unhook 10 = .ok (.invokevirtual 95, 3) := by decide +kernel
theorem dX6_unhook_13 : decode cX6_unhook 13 = .ok (.ireturn, 1) := by decide +kernel
theorem dX6_unhook_14 : decode cX6_unhook 14 = .ok (.aload_n 0, 1) := by decide +kernel
theorem dX6_unhook_15 : decode cX6_unhook 15 = .ok (.iload_n 1, 1) := by decide +kernel
theorem dX6_unhook_16 : decode cX6_unhook 16 = .ok (.invokevirtual 201, 3) := by decide +kernel
theorem dX6_unhook_19 : decode cX6_unhook 19 = .ok (.iconst (-1), 1) := by decide +kernel
theorem dX6_unhook_20 : decode cX6_unhook 20 = .ok (.istore_n 2, 1) := by decide +kernel
theorem dX6_unhook_21 : decode cX6_unhook 21 = .ok (.iconst 0, 1) := by decide +kernel
theorem dX6_unhook_22 : decode cX6_unhook 22 = .ok (.istore_n 3, 1) := by decide +kernel
theorem dX6_unhook_23 : decode cX6_unhook 23 = .ok (.iload_n 3, 1) := by decide +kernel
theorem dX6_unhook_24 : decode cX6_unhook 24 = .ok (.iconst 1, 1) := by decide +kernel
theorem dX6_unhook_25 : decode cX6_unhook 25 = .ok (.aload_n 0, 1) := by decide +kernel
theorem dX6_unhook_26 : decode cX6_unhook 26 = .ok (.getfield 172, 3) := by decide +kernel
theorem dX6_unhook_29 : decode cX6_unhook 29 = .ok (.ishl, 1) := by decide +kernel
theorem dX6_unhook_30 : decode cX6_unhook 30 = .ok (.if_icmp .ge 95, 3) := by decide +kernel
theorem dX6_unhook_33 : decode cX6_unhook 33 = .ok (.iload_n 2, 1) := by decide +kernel
theorem dX6_unhook_34 : decode cX6_unhook 34 = .ok (.iconst (-1), 1) := by decide +kernel
theorem dX6_unhook_35 : decode cX6_unhook 35 = .ok (.if_icmp .eq 16, 3) := by decide +kernel
theorem dX6_unhook_38 : decode cX6_unhook 38 = .ok (.aload_n 0, 1) := by decide +kernel
theorem dX6_unhook_39 : decode cX6_unhook 39 = .ok (.iload_n 3, 1) := by decide +kernel
theorem dX6_unhook_40 : decode cX6_unhook 40 = .ok (.invokevirtual 204, 3) := by decide +kernel
theorem dX6_unhook_43 : decode cX6_unhook 43 = .ok (.aload_n 0, 1) := by decide +kernel
theorem dX6_unhook_44 : decode cX6_unhook 44 = .ok (.iload_n 2, 1) := by decide +kernel
theorem dX6_unhook_45 : decode cX6_unhook 45 = .ok (.invokevirtual 204, 3) := by decide +kernel
theorem dX6_unhook_48 : decode cX6_unhook 48 = .ok (.if_icmp .ge 7, 3) := by decide +kernel
theorem dX6_unhook_51 : decode cX6_unhook 51 = .ok (.iconst 1, 1) := by decide +kernel
theorem dX6_unhook_52 : decode cX6_unhook 52 = .ok (.goto 4, 3) := by decide +kernel
theorem dX6_unhook_55 : decode cX6_unhook 55 = .ok (.iconst 0, 1) := by decide +kernel
theorem dX6_unhook_56 : decode cX6_unhook 56 = .ok (.istore 4, 2) := by decide +kernel
theorem dX6_unhook_58 : decode cX6_unhook 58 = .ok (.iconst 0, 1) := by decide +kernel
theorem dX6_unhook_59 : decode cX6_unhook 59 = .ok (.istore 5, 2) := by decide +kernel
theorem dX6_unhook_61 : decode cX6_unhook 61 = .ok (.iload 5, 2) := by decide +kernel
theorem dX6_unhook_63 : decode cX6_unhook 63 = .ok (.aload_n 0, 1) := by decide +kernel
theorem dX6_unhook_64 : decode cX6_unhook 64 = .ok (.getfield 172, 3) := by decide +kernel
theorem dX6_unhook_67 : decode cX6_unhook 67 = .ok (.if_icmp .ge 45, 3) := by decide +kernel
theorem dX6_unhook_70 : decode cX6_unhook 70 = .ok (.iload 4, 2) := by decide +kernel
theorem dX6_unhook_72 : decode cX6_unhook 72 = .ok (.ifCond .eq 40, 3) := by decide +kernel
theorem dX6_unhook_75 : decode cX6_unhook 75 = .ok (.iload_n 3, 1) := by decide +kernel
theorem dX6_unhook_76 : decode cX6_unhook 76 = .ok (.iload 5, 2) := by decide +kernel
theorem dX6_unhook_78 : decode cX6_unhook 78 = .ok (.ishr, 1) := by decide +kernel
theorem dX6_unhook_79 : decode cX6_unhook 79 = .ok (.iconst 1, 1) := by decide +kernel
theorem dX6_unhook_80 : decode cX6_unhook 80 = .ok (.iand, 1) := by decide +kernel
theorem dX6_unhook_81 : decode cX6_unhook 81 = .ok (.iconst 1, 1) := by decide +kernel
theorem dX6_unhook_82 : decode cX6_unhook 82 = .ok (.if_icmp .eq 17, 3) := by decide +kernel
theorem dX6_unhook_85 : decode cX6_unhook 85 = .ok (.aload_n 0, 1) := by decide +kernel
theorem dX6_unhook_86 : decode cX6_unhook 86 = .ok (.getfield 75, 3) := by decide +kernel
theorem dX6_unhook_89 : decode cX6_unhook 89 = .ok (.iload 5, 2) := by decide +kernel
theorem dX6_unhook_91 : decode cX6_unhook 91 = .ok (.iaload, 1) := by decide +kernel
theorem dX6_unhook_92 : decode cX6_unhook 92 = .ok (.iload_n 3, 1) := by decide +kernel
theorem dX6_unhook_93 : decode cX6_unhook 93 = .ok (.iconst (-1), 1) := by decide +kernel
theorem dX6_unhook_94 : decode cX6_unhook 94 = .ok (.ixor, 1) := by decide +kernel
theorem dX6_unhook_95 : decode cX6_unhook 95 = .ok (.iand, 1) := by decide +kernel
theorem dX6_unhook_96 : decode cX6_unhook 96 = .ok (.ifCond .ne 7, 3) := by decide +kernel
theorem dX6_unhook_99 : decode cX6_unhook 99 = .ok (.iconst 1, 1) := by decide +kernel
theorem dX6_unhook_100 : decode cX6_unhook 100 = .ok (.goto 4, 3) := by decide +kernel
theorem dX6_unhook_103 : decode cX6_unhook 103 = .ok (.iconst 0, 1) := by decide +kernel
theorem dX6_unhook_104 : decode cX6_unhook 104 = .ok (.istore 4, 2) := by decide +kernel
theorem dX6_unhook_106 : decode cX6_unhook 106 = .ok (.iinc 5 1, 3) := by decide +kernel
theorem dX6_unhook_109 : decode cX6_unhook 109 = .ok (.goto (-48), 3) := by decide +kernel
theorem dX6_unhook_112 : decode cX6_unhook 112 = .ok (.iload 4, 2) := by decide +kernel
theorem dX6_unhook_114 : decode cX6_unhook 114 = .ok (.ifCond .eq 5, 3) := by decide +kernel
theorem dX6_unhook_117 : decode cX6_unhook 117 = .ok (.iload_n 3, 1) := by decide +kernel
theorem dX6_unhook_118 : decode cX6_unhook 118 = .ok (.istore_n 2, 1) := by decide +kernel
theorem dX6_unhook_119 : decode cX6_unhook 119 = .ok (.iinc 3 1, 3) := by decide +kernel
theorem dX6_unhook_122 : decode cX6_unhook 122 = .ok (.goto (-99), 3) := by decide +kernel
theorem dX6_unhook_125 : decode cX6_unhook 125 = .ok (.iload_n 2, 1) := by decide +kernel
theorem dX6_unhook_126 : decode cX6_unhook 126 = .ok (.ireturn, 1) := by decide +kernel
def m_X6_unhook_61 (v2 : Int32) (v3 : Int32) (μ : fm_I) (ν : fm_L) (K : Int32 → Option (Int32 × fm_I × fm_L)) : Nat → Int32 → Int32 → Option (Int32 × fm_I × fm_L)
  | 0, _, _ => none
  | k + 1, v4, v5 => if (μ 58 28) ≤ v5 then K v4 else if v4 = 0 then K v4 else if (((v3 >>> (v5 &&& 31))) &&& ((nI 1))) = (nI 1) then m_X6_unhook_61 v2 v3 μ ν K k ((nI 1)) ((v5 + nI 1)) else fm_g (fm_in v5 (fm_n 78)) (if (((μ 78 v5.toNatClampNeg)) &&& ((v3 ^^^ ((-1 : Int32))))) = 0 then m_X6_unhook_61 v2 v3 μ ν K k ((nI 1)) ((v5 + nI 1)) else m_X6_unhook_61 v2 v3 μ ν K k ((nI 0)) ((v5 + nI 1)))
def m_X6_unhook_23  (μ : fm_I) (ν : fm_L) (K : Int32 → Option (Int32 × fm_I × fm_L)) : Nat → Int32 → Int32 → Option (Int32 × fm_I × fm_L)
  | 0, _, _ => none
  | k + 1, v2, v3 => if (((nI 1)) <<< (((μ 58 28)) &&& 31)) ≤ v3 then K v2 else if v2 = (-1 : Int32) then m_X6_unhook_61 v2 v3 μ ν (fun x4_61 => if x4_61 = 0 then m_X6_unhook_23 μ ν K k v2 ((v3 + nI 1)) else m_X6_unhook_23 μ ν K k v3 ((v3 + nI 1))) 5000 ((nI 1)) ((nI 0)) else (m_X6_count v3 μ ν).bind (fun r40 => (m_X6_count v2 μ ν).bind (fun r45 => if r45 ≤ r40 then m_X6_unhook_61 v2 v3 μ ν (fun x4_61 => if x4_61 = 0 then m_X6_unhook_23 μ ν K k v2 ((v3 + nI 1)) else m_X6_unhook_23 μ ν K k v3 ((v3 + nI 1))) 5000 ((nI 0)) ((nI 0)) else m_X6_unhook_61 v2 v3 μ ν (fun x4_61 => if x4_61 = 0 then m_X6_unhook_23 μ ν K k v2 ((v3 + nI 1)) else m_X6_unhook_23 μ ν K k v3 ((v3 + nI 1))) 5000 ((nI 1)) ((nI 0))))
def m_X6_unhook (v1 : Int32) (μ : fm_I) (ν : fm_L) : Option (Int32 × fm_I × fm_L) :=
  (m_X6_isBand v1 μ ν).bind (fun r2 => if r2 = 0 then (m_X6_no ((-1 : Int32)) μ ν).bind (fun r10 => some ((r10.1, r10.2.1, r10.2.2))) else (m_X6_hangs v1 μ ν).bind (fun r16 => m_X6_unhook_23 r16.1 r16.2 (fun x2_23 => some ((x2_23, r16.1, r16.2))) 5000 ((-1 : Int32)) ((nI 0))))
theorem ok_X6_unhook : fm_okV yX6_unhook cX6_unhook 6 (some .int) 1 := ⟨m_cd_X6_unhook, m_im_X6_unhook, m_se_X6_X6_unhook, m_ini_X6, by decide +kernel, by decide +kernel, by decide +kernel⟩
set_option maxHeartbeats 4000000 in
set_option maxRecDepth 100000 in
theorem j_X6_unhook_61_ {X : fm_X} {G : fm_G} {l : Launch} {v2 : Int32} {v3 : Int32} {μ : fm_I} {ν : fm_L} (C : fm_C X G l cX6_unhook RX6 6 (some .int) 6 132) {F : (Int32 × fm_I × fm_L) → State → Prop} (hF : F = fm_Qi X G)  {K : Int32 → Option (Int32 × fm_I × fm_L)} (hK : ∀ (v4 : Int32), fm_J X G 6 F (K v4) μ ν 112 [(0, .ref (G.2.2.1 58)), (2, .int v2), (3, .int v3), (4, .int v4)] []) : ∀ (k : Nat) (v4 : Int32) (v5 : Int32), fm_J X G 6 F (m_X6_unhook_61 v2 v3 μ ν K k v4 v5) μ ν 61 [(0, .ref (G.2.2.1 58)), (2, .int v2), (3, .int v3), (4, .int v4), (5, .int v5)] [] := by
  intro k
  induction k with
  | zero =>
    intro v4 v5
    exact fm_none
  | succ k ih =>
    intro v4 v5
    rw [m_X6_unhook_61]
    refine fm_iload (pc := 61) C dX6_unhook_61 rfl ?_
    refine fm_aload_n (pc := 63) C dX6_unhook_63 rfl rfl ?_
    refine g6_pieces (pc := 64) C (by decide) dX6_unhook_64 m_fl_X6_172 ?_
    refine fm_icmp_ge (pc := 67) (tgt := 112) C dX6_unhook_67 (by decide) (fun c4 => ?_) (fun c4 => ?_)
    · refine fm_less (lv' := [(0, .ref (G.2.2.1 58)), (2, .int v2), (3, .int v3), (4, .int v4)]) (by repeat (first | exact trivial | refine ⟨rfl, ?_⟩)) ?_
      exact hK _
    · refine fm_iload (pc := 70) C dX6_unhook_70 rfl ?_
      refine fm_if_eq (pc := 72) (tgt := 112) C dX6_unhook_72 (by decide) (fun c5 => ?_) (fun c5 => ?_)
      · refine fm_less (lv' := [(0, .ref (G.2.2.1 58)), (2, .int v2), (3, .int v3), (4, .int v4)]) (by repeat (first | exact trivial | refine ⟨rfl, ?_⟩)) ?_
        exact hK _
      · refine fm_iload_n (pc := 75) C dX6_unhook_75 rfl rfl ?_
        refine fm_iload (pc := 76) C dX6_unhook_76 rfl ?_
        refine fm_ishr (pc := 78) C dX6_unhook_78 ?_
        refine fm_iconst (pc := 79) (v := (nI 1)) C dX6_unhook_79 (by decide) ?_
        refine fm_iand (pc := 80) C dX6_unhook_80 ?_
        refine fm_iconst (pc := 81) (v := (nI 1)) C dX6_unhook_81 (by decide) ?_
        refine fm_icmp_eq (pc := 82) (tgt := 99) C dX6_unhook_82 (by decide) (fun c6 => ?_) (fun c6 => ?_)
        · refine fm_iconst (pc := 99) (v := (nI 1)) C dX6_unhook_99 (by decide) ?_
          refine fm_goto (pc := 100) (tgt := 104) C dX6_unhook_100 (by decide) ?_
          refine fm_istore (pc := 104) C dX6_unhook_104 (by decide) rfl ?_
          refine fm_iinc (pc := 106) C dX6_unhook_106 rfl (v := (v5 + nI 1)) rfl (by decide) rfl ?_
          refine fm_goto (pc := 109) (tgt := 61) C dX6_unhook_109 (by decide) ?_
          refine fm_less (lv' := [(0, .ref (G.2.2.1 58)), (2, .int v2), (3, .int v3), (4, .int ((nI 1))), (5, .int ((v5 + nI 1)))]) (by repeat (first | exact trivial | refine ⟨rfl, ?_⟩)) ?_
          exact ih _ _
        · refine fm_aload_n (pc := 85) C dX6_unhook_85 rfl rfl ?_
          refine g6_hang (pc := 86) C (by decide) dX6_unhook_86 m_fl_X6_75 ?_
          refine fm_iload (pc := 89) C dX6_unhook_89 rfl ?_
          refine fm_guard (fun h7 => ?_)
          refine fm_iald (pc := 91) C (by decide) h7 dX6_unhook_91 ?_
          refine fm_iload_n (pc := 92) C dX6_unhook_92 rfl rfl ?_
          refine fm_iconst (pc := 93) (v := (-1 : Int32)) C dX6_unhook_93 (by decide) ?_
          refine fm_ixor (pc := 94) C dX6_unhook_94 ?_
          refine fm_iand (pc := 95) C dX6_unhook_95 ?_
          refine fm_if_ne (pc := 96) (tgt := 103) C dX6_unhook_96 (by decide) (fun c8 => ?_) (fun c8 => ?_)
          · refine fm_iconst (pc := 99) (v := (nI 1)) C dX6_unhook_99 (by decide) ?_
            refine fm_goto (pc := 100) (tgt := 104) C dX6_unhook_100 (by decide) ?_
            refine fm_istore (pc := 104) C dX6_unhook_104 (by decide) rfl ?_
            refine fm_iinc (pc := 106) C dX6_unhook_106 rfl (v := (v5 + nI 1)) rfl (by decide) rfl ?_
            refine fm_goto (pc := 109) (tgt := 61) C dX6_unhook_109 (by decide) ?_
            refine fm_less (lv' := [(0, .ref (G.2.2.1 58)), (2, .int v2), (3, .int v3), (4, .int ((nI 1))), (5, .int ((v5 + nI 1)))]) (by repeat (first | exact trivial | refine ⟨rfl, ?_⟩)) ?_
            exact ih _ _
          · refine fm_iconst (pc := 103) (v := (nI 0)) C dX6_unhook_103 (by decide) ?_
            refine fm_istore (pc := 104) C dX6_unhook_104 (by decide) rfl ?_
            refine fm_iinc (pc := 106) C dX6_unhook_106 rfl (v := (v5 + nI 1)) rfl (by decide) rfl ?_
            refine fm_goto (pc := 109) (tgt := 61) C dX6_unhook_109 (by decide) ?_
            refine fm_less (lv' := [(0, .ref (G.2.2.1 58)), (2, .int v2), (3, .int v3), (4, .int ((nI 0))), (5, .int ((v5 + nI 1)))]) (by repeat (first | exact trivial | refine ⟨rfl, ?_⟩)) ?_
            exact ih _ _
set_option maxHeartbeats 4000000 in
set_option maxRecDepth 100000 in
theorem j_X6_unhook_23_ {X : fm_X} {G : fm_G} {l : Launch}  {μ : fm_I} {ν : fm_L} (C : fm_C X G l cX6_unhook RX6 6 (some .int) 6 132) {F : (Int32 × fm_I × fm_L) → State → Prop} (hF : F = fm_Qi X G)  {K : Int32 → Option (Int32 × fm_I × fm_L)} (hK : ∀ (v2 : Int32), fm_J X G 6 F (K v2) μ ν 125 [(2, .int v2)] []) : ∀ (k : Nat) (v2 : Int32) (v3 : Int32), fm_J X G 6 F (m_X6_unhook_23  μ ν K k v2 v3) μ ν 23 [(0, .ref (G.2.2.1 58)), (2, .int v2), (3, .int v3)] [] := by
  intro k
  induction k with
  | zero =>
    intro v2 v3
    exact fm_none
  | succ k ih =>
    intro v2 v3
    rw [m_X6_unhook_23]
    refine fm_iload_n (pc := 23) C dX6_unhook_23 rfl rfl ?_
    refine fm_iconst (pc := 24) (v := (nI 1)) C dX6_unhook_24 (by decide) ?_
    refine fm_aload_n (pc := 25) C dX6_unhook_25 rfl rfl ?_
    refine g6_pieces (pc := 26) C (by decide) dX6_unhook_26 m_fl_X6_172 ?_
    refine fm_ishl (pc := 29) C dX6_unhook_29 ?_
    refine fm_icmp_ge (pc := 30) (tgt := 125) C dX6_unhook_30 (by decide) (fun c2 => ?_) (fun c2 => ?_)
    · refine fm_less (lv' := [(2, .int v2)]) (by repeat (first | exact trivial | refine ⟨rfl, ?_⟩)) ?_
      exact hK _
    · refine fm_iload_n (pc := 33) C dX6_unhook_33 rfl rfl ?_
      refine fm_iconst (pc := 34) (v := (-1 : Int32)) C dX6_unhook_34 (by decide) ?_
      refine fm_icmp_eq (pc := 35) (tgt := 51) C dX6_unhook_35 (by decide) (fun c3 => ?_) (fun c3 => ?_)
      · refine fm_iconst (pc := 51) (v := (nI 1)) C dX6_unhook_51 (by decide) ?_
        refine fm_goto (pc := 52) (tgt := 56) C dX6_unhook_52 (by decide) ?_
        refine fm_istore (pc := 56) C dX6_unhook_56 (by decide) rfl ?_
        refine fm_iconst (pc := 58) (v := (nI 0)) C dX6_unhook_58 (by decide) ?_
        refine fm_istore (pc := 59) C dX6_unhook_59 (by decide) rfl ?_
        refine fm_less (lv' := [(0, .ref (G.2.2.1 58)), (2, .int v2), (3, .int v3), (4, .int ((nI 1))), (5, .int ((nI 0)))]) (by repeat (first | exact trivial | refine ⟨rfl, ?_⟩)) ?_
        refine j_X6_unhook_61_ C (v2 := v2) (v3 := v3) hF  (fun x4_61 => ?_) _ _ _
        refine fm_iload (pc := 112) C dX6_unhook_112 rfl ?_
        refine fm_if_eq (pc := 114) (tgt := 119) C dX6_unhook_114 (by decide) (fun c9 => ?_) (fun c9 => ?_)
        · refine fm_iinc (pc := 119) C dX6_unhook_119 rfl (v := (v3 + nI 1)) rfl (by decide) rfl ?_
          refine fm_goto (pc := 122) (tgt := 23) C dX6_unhook_122 (by decide) ?_
          refine fm_less (lv' := [(0, .ref (G.2.2.1 58)), (2, .int v2), (3, .int ((v3 + nI 1)))]) (by repeat (first | exact trivial | refine ⟨rfl, ?_⟩)) ?_
          exact ih _ _
        · refine fm_iload_n (pc := 117) C dX6_unhook_117 rfl rfl ?_
          refine fm_istore_n (pc := 118) C dX6_unhook_118 rfl (by decide) rfl ?_
          refine fm_iinc (pc := 119) C dX6_unhook_119 rfl (v := (v3 + nI 1)) rfl (by decide) rfl ?_
          refine fm_goto (pc := 122) (tgt := 23) C dX6_unhook_122 (by decide) ?_
          refine fm_less (lv' := [(0, .ref (G.2.2.1 58)), (2, .int v3), (3, .int ((v3 + nI 1)))]) (by repeat (first | exact trivial | refine ⟨rfl, ?_⟩)) ?_
          exact ih _ _
      · refine fm_aload_n (pc := 38) C dX6_unhook_38 rfl rfl ?_
        refine fm_iload_n (pc := 39) C dX6_unhook_39 rfl rfl ?_
        refine fm_bind (fun r40 e40 => ?_)
        refine fm_cVi0 (pc := 40) C (t_X6_count e40) ok_X6_count ⟨by decide, rfl⟩ m_ml_X6_204 dX6_unhook_40 ⟨Nat.le_of_ble_eq_true rfl, Nat.le_of_ble_eq_true rfl⟩ rfl rfl (Nat.le_of_ble_eq_true rfl) ?_
        refine fm_aload_n (pc := 43) C dX6_unhook_43 rfl rfl ?_
        refine fm_iload_n (pc := 44) C dX6_unhook_44 rfl rfl ?_
        refine fm_bind (fun r45 e45 => ?_)
        refine fm_cVi0 (pc := 45) C (t_X6_count e45) ok_X6_count ⟨by decide, rfl⟩ m_ml_X6_204 dX6_unhook_45 ⟨Nat.le_of_ble_eq_true rfl, Nat.le_of_ble_eq_true rfl⟩ rfl rfl (Nat.le_of_ble_eq_true rfl) ?_
        refine fm_icmp_ge (pc := 48) (tgt := 55) C dX6_unhook_48 (by decide) (fun c10 => ?_) (fun c10 => ?_)
        · refine fm_iconst (pc := 55) (v := (nI 0)) C dX6_unhook_55 (by decide) ?_
          refine fm_istore (pc := 56) C dX6_unhook_56 (by decide) rfl ?_
          refine fm_iconst (pc := 58) (v := (nI 0)) C dX6_unhook_58 (by decide) ?_
          refine fm_istore (pc := 59) C dX6_unhook_59 (by decide) rfl ?_
          refine fm_less (lv' := [(0, .ref (G.2.2.1 58)), (2, .int v2), (3, .int v3), (4, .int ((nI 0))), (5, .int ((nI 0)))]) (by repeat (first | exact trivial | refine ⟨rfl, ?_⟩)) ?_
          refine j_X6_unhook_61_ C (v2 := v2) (v3 := v3) hF  (fun x4_61 => ?_) _ _ _
          refine fm_iload (pc := 112) C dX6_unhook_112 rfl ?_
          refine fm_if_eq (pc := 114) (tgt := 119) C dX6_unhook_114 (by decide) (fun c11 => ?_) (fun c11 => ?_)
          · refine fm_iinc (pc := 119) C dX6_unhook_119 rfl (v := (v3 + nI 1)) rfl (by decide) rfl ?_
            refine fm_goto (pc := 122) (tgt := 23) C dX6_unhook_122 (by decide) ?_
            refine fm_less (lv' := [(0, .ref (G.2.2.1 58)), (2, .int v2), (3, .int ((v3 + nI 1)))]) (by repeat (first | exact trivial | refine ⟨rfl, ?_⟩)) ?_
            exact ih _ _
          · refine fm_iload_n (pc := 117) C dX6_unhook_117 rfl rfl ?_
            refine fm_istore_n (pc := 118) C dX6_unhook_118 rfl (by decide) rfl ?_
            refine fm_iinc (pc := 119) C dX6_unhook_119 rfl (v := (v3 + nI 1)) rfl (by decide) rfl ?_
            refine fm_goto (pc := 122) (tgt := 23) C dX6_unhook_122 (by decide) ?_
            refine fm_less (lv' := [(0, .ref (G.2.2.1 58)), (2, .int v3), (3, .int ((v3 + nI 1)))]) (by repeat (first | exact trivial | refine ⟨rfl, ?_⟩)) ?_
            exact ih _ _
        · refine fm_iconst (pc := 51) (v := (nI 1)) C dX6_unhook_51 (by decide) ?_
          refine fm_goto (pc := 52) (tgt := 56) C dX6_unhook_52 (by decide) ?_
          refine fm_istore (pc := 56) C dX6_unhook_56 (by decide) rfl ?_
          refine fm_iconst (pc := 58) (v := (nI 0)) C dX6_unhook_58 (by decide) ?_
          refine fm_istore (pc := 59) C dX6_unhook_59 (by decide) rfl ?_
          refine fm_less (lv' := [(0, .ref (G.2.2.1 58)), (2, .int v2), (3, .int v3), (4, .int ((nI 1))), (5, .int ((nI 0)))]) (by repeat (first | exact trivial | refine ⟨rfl, ?_⟩)) ?_
          refine j_X6_unhook_61_ C (v2 := v2) (v3 := v3) hF  (fun x4_61 => ?_) _ _ _
          refine fm_iload (pc := 112) C dX6_unhook_112 rfl ?_
          refine fm_if_eq (pc := 114) (tgt := 119) C dX6_unhook_114 (by decide) (fun c12 => ?_) (fun c12 => ?_)
          · refine fm_iinc (pc := 119) C dX6_unhook_119 rfl (v := (v3 + nI 1)) rfl (by decide) rfl ?_
            refine fm_goto (pc := 122) (tgt := 23) C dX6_unhook_122 (by decide) ?_
            refine fm_less (lv' := [(0, .ref (G.2.2.1 58)), (2, .int v2), (3, .int ((v3 + nI 1)))]) (by repeat (first | exact trivial | refine ⟨rfl, ?_⟩)) ?_
            exact ih _ _
          · refine fm_iload_n (pc := 117) C dX6_unhook_117 rfl rfl ?_
            refine fm_istore_n (pc := 118) C dX6_unhook_118 rfl (by decide) rfl ?_
            refine fm_iinc (pc := 119) C dX6_unhook_119 rfl (v := (v3 + nI 1)) rfl (by decide) rfl ?_
            refine fm_goto (pc := 122) (tgt := 23) C dX6_unhook_122 (by decide) ?_
            refine fm_less (lv' := [(0, .ref (G.2.2.1 58)), (2, .int v3), (3, .int ((v3 + nI 1)))]) (by repeat (first | exact trivial | refine ⟨rfl, ?_⟩)) ?_
            exact ih _ _
set_option maxHeartbeats 4000000 in
set_option maxRecDepth 100000 in
theorem j_X6_unhook {X : fm_X} {G : fm_G} {l : Launch} {v1 : Int32} {μ : fm_I} {ν : fm_L} (C : fm_C X G l cX6_unhook RX6 6 (some .int) 6 132) {F : (Int32 × fm_I × fm_L) → State → Prop} (hF : F = fm_Qi X G) : fm_J X G 6 F (m_X6_unhook v1 μ ν) μ ν 0 [(0, .ref (G.2.2.1 58)), (1, .int v1)] [] := by
  unfold m_X6_unhook
  refine fm_aload_n (pc := 0) C dX6_unhook_0 rfl rfl ?_
  refine fm_iload_n (pc := 1) C dX6_unhook_1 rfl rfl ?_
  refine fm_bind (fun r2 e2 => ?_)
  refine fm_cVi0 (pc := 2) C (t_X6_isBand e2) ok_X6_isBand ⟨by decide, rfl⟩ m_ml_X6_88 dX6_unhook_2 ⟨Nat.le_of_ble_eq_true rfl, Nat.le_of_ble_eq_true rfl⟩ rfl rfl (Nat.le_of_ble_eq_true rfl) ?_
  refine fm_if_ne (pc := 5) (tgt := 14) C dX6_unhook_5 (by decide) (fun c1 => ?_) (fun c1 => ?_)
  · refine fm_aload_n (pc := 8) C dX6_unhook_8 rfl rfl ?_
    refine fm_iconst (pc := 9) (v := (-1 : Int32)) C dX6_unhook_9 (by decide) ?_
    refine fm_bind (fun r10 e10 => ?_)
    refine fm_cVi (pc := 10) C (t_X6_no e10) ok_X6_no ⟨by decide, rfl⟩ m_ml_X6_95 dX6_unhook_10 ⟨Nat.le_of_ble_eq_true rfl, Nat.le_of_ble_eq_true rfl⟩ rfl rfl (Nat.le_of_ble_eq_true rfl) ?_
    exact fm_zret (pc := 13) C hF rfl rfl dX6_unhook_13
  · refine fm_aload_n (pc := 14) C dX6_unhook_14 rfl rfl ?_
    refine fm_iload_n (pc := 15) C dX6_unhook_15 rfl rfl ?_
    refine fm_bind (fun r16 e16 => ?_)
    refine fm_cVv (pc := 16) C (t_X6_hangs e16) ok_X6_hangs ⟨by decide, rfl⟩ m_ml_X6_201 dX6_unhook_16 ⟨Nat.le_of_ble_eq_true rfl, Nat.le_of_ble_eq_true rfl⟩ rfl rfl (Nat.le_of_ble_eq_true rfl) ?_
    refine fm_iconst (pc := 19) (v := (-1 : Int32)) C dX6_unhook_19 (by decide) ?_
    refine fm_istore_n (pc := 20) C dX6_unhook_20 rfl (by decide) rfl ?_
    refine fm_iconst (pc := 21) (v := (nI 0)) C dX6_unhook_21 (by decide) ?_
    refine fm_istore_n (pc := 22) C dX6_unhook_22 rfl (by decide) rfl ?_
    refine fm_less (lv' := [(0, .ref (G.2.2.1 58)), (2, .int ((-1 : Int32))), (3, .int ((nI 0)))]) (by repeat (first | exact trivial | refine ⟨rfl, ?_⟩)) ?_
    refine j_X6_unhook_23_ C  hF  (fun x2_23 => ?_) _ _ _
    refine fm_iload_n (pc := 125) C dX6_unhook_125 rfl rfl ?_
    exact fm_zret (pc := 126) C hF rfl rfl dX6_unhook_126
theorem t_X6_unhook {l : Launch} {G : fm_G} {v1 : Int32} {μ : fm_I} {ν : fm_L} {r : Int32 × fm_I × fm_L} (h : m_X6_unhook v1 μ ν = some r) : fm_Mi l G yX6_unhook cX6_unhook 6 (some .int) 6 132 [.ref (G.2.2.1 58), .int v1] μ ν r := fm_Mi_of (by decide +kernel) (Nat.le_of_ble_eq_true rfl) (fun _ C => j_X6_unhook C rfl r h)
theorem dX6_alike_0 : decode cX6_alike 0 = .ok (.iconst 0, 1) := by decide +kernel
theorem dX6_alike_1 : decode cX6_alike 1 = .ok (.istore_n 3, 1) := by decide +kernel
theorem dX6_alike_2 : decode cX6_alike 2 = .ok (.iconst 0, 1) := by decide +kernel
theorem dX6_alike_3 : decode cX6_alike 3 = .ok (.istore 4, 2) := by decide +kernel
theorem dX6_alike_5 : decode cX6_alike 5 = .ok (.iload 4, 2) := by decide +kernel
theorem dX6_alike_7 : decode cX6_alike 7 = .ok (.bipush 8, 2) := by decide +kernel
theorem dX6_alike_9 : decode cX6_alike 9 = .ok (.if_icmp .ge 76, 3) := by decide +kernel
theorem dX6_alike_12 : decode cX6_alike 12 = .ok (.iconst 0, 1) := by decide +kernel
theorem dX6_alike_13 : decode cX6_alike 13 = .ok (.istore 5, 2) := by decide +kernel
theorem dX6_alike_15 : decode cX6_alike 15 = .ok (.iconst 0, 1) := by decide +kernel
theorem dX6_alike_16 : decode cX6_alike 16 = .ok (.istore 6, 2) := by decide +kernel
theorem dX6_alike_18 : decode cX6_alike 18 = .ok (.iload 6, 2) := by decide +kernel
theorem dX6_alike_20 : decode cX6_alike 20 = .ok (.aload_n 0, 1) := by decide +kernel
theorem dX6_alike_21 : decode cX6_alike 21 = .ok (.getfield 26, 3) := by decide +kernel
theorem dX6_alike_24 : decode cX6_alike 24 = .ok (.iload_n 1, 1) := by decide +kernel
theorem dX6_alike_25 : decode cX6_alike 25 = .ok (.iaload, 1) := by decide +kernel
theorem dX6_alike_26 : decode cX6_alike 26 = .ok (.if_icmp .ge 40, 3) := by decide +kernel
theorem dX6_alike_29 : decode cX6_alike 29 = .ok (.aload_n 0, 1) := by decide +kernel
theorem dX6_alike_30 : decode cX6_alike 30 = .ok (.getfield 69, 3) := by decide +kernel
theorem dX6_alike_33 : decode cX6_alike 33 = .ok (.iload 6, 2) := by decide +kernel
theorem dX6_alike_35 : decode cX6_alike 35 = .ok (.iaload, 1) := by decide +kernel
theorem dX6_alike_36 : decode cX6_alike 36 = .ok (.iload_n 2, 1) := by decide +kernel
theorem dX6_alike_37 : decode cX6_alike 37 = .ok (.if_icmp .ne 23, 3) := by decide +kernel
theorem dX6_alike_40 : decode cX6_alike 40 = .ok (.aload_n 0, 1) := by decide +kernel
theorem dX6_alike_41 : decode cX6_alike 41 = .ok (.getfield 35, 3) := by decide +kernel
theorem dX6_alike_44 : decode cX6_alike 44 = .ok (.bipush 12, 2) := by decide +kernel
theorem dX6_alike_46 : decode cX6_alike 46 = .ok (.iload_n 1, 1) := by decide +kernel
theorem dX6_alike_47 : decode cX6_alike 47 = .ok (.imul, 1) := by decide +kernel
theorem dX6_alike_48 : decode cX6_alike 48 = .ok (.iload 6, 2) := by decide +kernel
theorem dX6_alike_50 : decode cX6_alike 50 = .ok (.iadd, 1) := by decide +kernel
theorem dX6_alike_51 : decode cX6_alike 51 = .ok (.iaload, 1) := by decide +kernel
theorem dX6_alike_52 : decode cX6_alike 52 = .ok (.iload 4, 2) := by decide +kernel
theorem dX6_alike_54 : decode cX6_alike 54 = .ok (.if_icmp .ne 6, 3) := by decide +kernel
theorem dX6_alike_57 : decode cX6_alike 57 = .ok (.iinc 5 1, 3) := by decide +kernel
theorem dX6_alike_60 : decode cX6_alike 60 = .ok (.iinc 6 1, 3) := by decide +kernel
theorem dX6_alike_63 : decode cX6_alike 63 = .ok (.goto (-45), 3) := by decide +kernel
theorem dX6_alike_66 : decode cX6_alike 66 = .ok (.iload 5, 2) := by decide +kernel
theorem dX6_alike_68 : decode cX6_alike 68 = .ok (.iload_n 3, 1) := by decide +kernel
theorem dX6_alike_69 : decode cX6_alike 69 = .ok (.if_icmp .le 8, 3) := by decide +kernel
theorem dX6_alike_72 : decode cX6_alike 72 = .ok (.iload 5, 2) := by decide +kernel
theorem dX6_alike_74 : decode cX6_alike 74 = .ok (.goto 4, 3) := by decide +kernel
theorem dX6_alike_77 : decode cX6_alike 77 = .ok (.iload_n 3, 1) := by decide +kernel
theorem dX6_alike_78 : decode cX6_alike 78 = .ok (.istore_n 3, 1) := by decide +kernel
theorem dX6_alike_79 : decode cX6_alike 79 = .ok (.iinc 4 1, 3) := by decide +kernel
theorem dX6_alike_82 : decode cX6_alike 82 = .ok (.goto (-77), 3) := by decide +kernel
theorem dX6_alike_85 : decode cX6_alike 85 = .ok (.iload_n 3, 1) := by decide +kernel
theorem dX6_alike_86 : decode cX6_alike 86 = .ok (.ireturn, 1) := by decide +kernel
def m_X6_alike_18 (v1 : Int32) (v2 : Int32) (v3 : Int32) (v4 : Int32) (μ : fm_I) (ν : fm_L) (K : Int32 → Option (Int32)) : Nat → Int32 → Int32 → Option (Int32)
  | 0, _, _ => none
  | k + 1, v5, v6 => fm_g (fm_in v1 (fm_n 62)) (if (μ 62 v1.toNatClampNeg) ≤ v6 then K v5 else fm_g (fm_in v6 (fm_n 76)) (if (μ 76 v6.toNatClampNeg) = v2 then fm_g (fm_in ((((((nI 12)) * v1)) + v6)) (fm_n 65)) (if (μ 65 ((((((nI 12)) * v1)) + v6)).toNatClampNeg) = v4 then m_X6_alike_18 v1 v2 v3 v4 μ ν K k ((v5 + nI 1)) ((v6 + nI 1)) else m_X6_alike_18 v1 v2 v3 v4 μ ν K k v5 ((v6 + nI 1))) else m_X6_alike_18 v1 v2 v3 v4 μ ν K k v5 ((v6 + nI 1))))
def m_X6_alike_5 (v1 : Int32) (v2 : Int32) (μ : fm_I) (ν : fm_L) (K : Int32 → Option (Int32)) : Nat → Int32 → Int32 → Option (Int32)
  | 0, _, _ => none
  | k + 1, v3, v4 => if (nI 8) ≤ v4 then K v3 else m_X6_alike_18 v1 v2 v3 v4 μ ν (fun x5_18 => if x5_18 ≤ v3 then m_X6_alike_5 v1 v2 μ ν K k v3 ((v4 + nI 1)) else m_X6_alike_5 v1 v2 μ ν K k x5_18 ((v4 + nI 1))) 5000 ((nI 0)) ((nI 0))
def m_X6_alike (v1 : Int32) (v2 : Int32) (μ : fm_I) (ν : fm_L) : Option (Int32) :=
  m_X6_alike_5 v1 v2 μ ν (fun x3_5 => some x3_5) 5000 ((nI 0)) ((nI 0))
theorem ok_X6_alike : fm_okV yX6_alike cX6_alike 7 (some .int) 2 := ⟨m_cd_X6_alike, m_im_X6_alike, m_se_X6_X6_alike, m_ini_X6, by decide +kernel, by decide +kernel, by decide +kernel⟩
set_option maxHeartbeats 4000000 in
set_option maxRecDepth 100000 in
theorem j_X6_alike_18_ {X : fm_X} {G : fm_G} {l : Launch} {v1 : Int32} {v2 : Int32} {v3 : Int32} {v4 : Int32} {μ : fm_I} {ν : fm_L} (C : fm_C X G l cX6_alike RX6 7 (some .int) 1 12) {F : Int32 → State → Prop} (hF : F = fun r => fm_Qi X G (r, μ, ν))  {K : Int32 → Option (Int32)} (hK : ∀ (v5 : Int32), fm_J X G 7 F (K v5) μ ν 66 [(0, .ref (G.2.2.1 58)), (1, .int v1), (2, .int v2), (3, .int v3), (4, .int v4), (5, .int v5)] []) : ∀ (k : Nat) (v5 : Int32) (v6 : Int32), fm_J X G 7 F (m_X6_alike_18 v1 v2 v3 v4 μ ν K k v5 v6) μ ν 18 [(0, .ref (G.2.2.1 58)), (1, .int v1), (2, .int v2), (3, .int v3), (4, .int v4), (5, .int v5), (6, .int v6)] [] := by
  intro k
  induction k with
  | zero =>
    intro v5 v6
    exact fm_none
  | succ k ih =>
    intro v5 v6
    rw [m_X6_alike_18]
    refine fm_iload (pc := 18) C dX6_alike_18 rfl ?_
    refine fm_aload_n (pc := 20) C dX6_alike_20 rfl rfl ?_
    refine g6_strips (pc := 21) C (by decide) dX6_alike_21 m_fl_X6_26 ?_
    refine fm_iload_n (pc := 24) C dX6_alike_24 rfl rfl ?_
    refine fm_guard (fun h2 => ?_)
    refine fm_iald (pc := 25) C (by decide) h2 dX6_alike_25 ?_
    refine fm_icmp_ge (pc := 26) (tgt := 66) C dX6_alike_26 (by decide) (fun c3 => ?_) (fun c3 => ?_)
    · refine fm_less (lv' := [(0, .ref (G.2.2.1 58)), (1, .int v1), (2, .int v2), (3, .int v3), (4, .int v4), (5, .int v5)]) (by repeat (first | exact trivial | refine ⟨rfl, ?_⟩)) ?_
      exact hK _
    · refine fm_aload_n (pc := 29) C dX6_alike_29 rfl rfl ?_
      refine g6_piece (pc := 30) C (by decide) dX6_alike_30 m_fl_X6_69 ?_
      refine fm_iload (pc := 33) C dX6_alike_33 rfl ?_
      refine fm_guard (fun h4 => ?_)
      refine fm_iald (pc := 35) C (by decide) h4 dX6_alike_35 ?_
      refine fm_iload_n (pc := 36) C dX6_alike_36 rfl rfl ?_
      refine fm_icmp_ne (pc := 37) (tgt := 60) C dX6_alike_37 (by decide) (fun c5 => ?_) (fun c5 => ?_)
      · refine fm_aload_n (pc := 40) C dX6_alike_40 rfl rfl ?_
        refine g6_colour (pc := 41) C (by decide) dX6_alike_41 m_fl_X6_35 ?_
        refine fm_bipush (pc := 44) (v := (nI 12)) C dX6_alike_44 (by decide) ?_
        refine fm_iload_n (pc := 46) C dX6_alike_46 rfl rfl ?_
        refine fm_imul (pc := 47) C dX6_alike_47 ?_
        refine fm_iload (pc := 48) C dX6_alike_48 rfl ?_
        refine fm_iadd (pc := 50) C dX6_alike_50 ?_
        refine fm_guard (fun h6 => ?_)
        refine fm_iald (pc := 51) C (by decide) h6 dX6_alike_51 ?_
        refine fm_iload (pc := 52) C dX6_alike_52 rfl ?_
        refine fm_icmp_ne (pc := 54) (tgt := 60) C dX6_alike_54 (by decide) (fun c7 => ?_) (fun c7 => ?_)
        · refine fm_iinc (pc := 57) C dX6_alike_57 rfl (v := (v5 + nI 1)) rfl (by decide) rfl ?_
          refine fm_iinc (pc := 60) C dX6_alike_60 rfl (v := (v6 + nI 1)) rfl (by decide) rfl ?_
          refine fm_goto (pc := 63) (tgt := 18) C dX6_alike_63 (by decide) ?_
          refine fm_less (lv' := [(0, .ref (G.2.2.1 58)), (1, .int v1), (2, .int v2), (3, .int v3), (4, .int v4), (5, .int ((v5 + nI 1))), (6, .int ((v6 + nI 1)))]) (by repeat (first | exact trivial | refine ⟨rfl, ?_⟩)) ?_
          exact ih _ _
        · refine fm_iinc (pc := 60) C dX6_alike_60 rfl (v := (v6 + nI 1)) rfl (by decide) rfl ?_
          refine fm_goto (pc := 63) (tgt := 18) C dX6_alike_63 (by decide) ?_
          refine fm_less (lv' := [(0, .ref (G.2.2.1 58)), (1, .int v1), (2, .int v2), (3, .int v3), (4, .int v4), (5, .int v5), (6, .int ((v6 + nI 1)))]) (by repeat (first | exact trivial | refine ⟨rfl, ?_⟩)) ?_
          exact ih _ _
      · refine fm_iinc (pc := 60) C dX6_alike_60 rfl (v := (v6 + nI 1)) rfl (by decide) rfl ?_
        refine fm_goto (pc := 63) (tgt := 18) C dX6_alike_63 (by decide) ?_
        refine fm_less (lv' := [(0, .ref (G.2.2.1 58)), (1, .int v1), (2, .int v2), (3, .int v3), (4, .int v4), (5, .int v5), (6, .int ((v6 + nI 1)))]) (by repeat (first | exact trivial | refine ⟨rfl, ?_⟩)) ?_
        exact ih _ _
set_option maxHeartbeats 4000000 in
set_option maxRecDepth 100000 in
theorem j_X6_alike_5_ {X : fm_X} {G : fm_G} {l : Launch} {v1 : Int32} {v2 : Int32} {μ : fm_I} {ν : fm_L} (C : fm_C X G l cX6_alike RX6 7 (some .int) 1 12) {F : Int32 → State → Prop} (hF : F = fun r => fm_Qi X G (r, μ, ν))  {K : Int32 → Option (Int32)} (hK : ∀ (v3 : Int32), fm_J X G 7 F (K v3) μ ν 85 [(3, .int v3)] []) : ∀ (k : Nat) (v3 : Int32) (v4 : Int32), fm_J X G 7 F (m_X6_alike_5 v1 v2 μ ν K k v3 v4) μ ν 5 [(0, .ref (G.2.2.1 58)), (1, .int v1), (2, .int v2), (3, .int v3), (4, .int v4)] [] := by
  intro k
  induction k with
  | zero =>
    intro v3 v4
    exact fm_none
  | succ k ih =>
    intro v3 v4
    rw [m_X6_alike_5]
    refine fm_iload (pc := 5) C dX6_alike_5 rfl ?_
    refine fm_bipush (pc := 7) (v := (nI 8)) C dX6_alike_7 (by decide) ?_
    refine fm_icmp_ge (pc := 9) (tgt := 85) C dX6_alike_9 (by decide) (fun c1 => ?_) (fun c1 => ?_)
    · refine fm_less (lv' := [(3, .int v3)]) (by repeat (first | exact trivial | refine ⟨rfl, ?_⟩)) ?_
      exact hK _
    · refine fm_iconst (pc := 12) (v := (nI 0)) C dX6_alike_12 (by decide) ?_
      refine fm_istore (pc := 13) C dX6_alike_13 (by decide) rfl ?_
      refine fm_iconst (pc := 15) (v := (nI 0)) C dX6_alike_15 (by decide) ?_
      refine fm_istore (pc := 16) C dX6_alike_16 (by decide) rfl ?_
      refine fm_less (lv' := [(0, .ref (G.2.2.1 58)), (1, .int v1), (2, .int v2), (3, .int v3), (4, .int v4), (5, .int ((nI 0))), (6, .int ((nI 0)))]) (by repeat (first | exact trivial | refine ⟨rfl, ?_⟩)) ?_
      refine j_X6_alike_18_ C (v1 := v1) (v2 := v2) (v3 := v3) (v4 := v4) hF  (fun x5_18 => ?_) _ _ _
      refine fm_iload (pc := 66) C dX6_alike_66 rfl ?_
      refine fm_iload_n (pc := 68) C dX6_alike_68 rfl rfl ?_
      refine fm_icmp_le (pc := 69) (tgt := 77) C dX6_alike_69 (by decide) (fun c8 => ?_) (fun c8 => ?_)
      · refine fm_iload_n (pc := 77) C dX6_alike_77 rfl rfl ?_
        refine fm_istore_n (pc := 78) C dX6_alike_78 rfl (by decide) rfl ?_
        refine fm_iinc (pc := 79) C dX6_alike_79 rfl (v := (v4 + nI 1)) rfl (by decide) rfl ?_
        refine fm_goto (pc := 82) (tgt := 5) C dX6_alike_82 (by decide) ?_
        refine fm_less (lv' := [(0, .ref (G.2.2.1 58)), (1, .int v1), (2, .int v2), (3, .int v3), (4, .int ((v4 + nI 1)))]) (by repeat (first | exact trivial | refine ⟨rfl, ?_⟩)) ?_
        exact ih _ _
      · refine fm_iload (pc := 72) C dX6_alike_72 rfl ?_
        refine fm_goto (pc := 74) (tgt := 78) C dX6_alike_74 (by decide) ?_
        refine fm_istore_n (pc := 78) C dX6_alike_78 rfl (by decide) rfl ?_
        refine fm_iinc (pc := 79) C dX6_alike_79 rfl (v := (v4 + nI 1)) rfl (by decide) rfl ?_
        refine fm_goto (pc := 82) (tgt := 5) C dX6_alike_82 (by decide) ?_
        refine fm_less (lv' := [(0, .ref (G.2.2.1 58)), (1, .int v1), (2, .int v2), (3, .int x5_18), (4, .int ((v4 + nI 1)))]) (by repeat (first | exact trivial | refine ⟨rfl, ?_⟩)) ?_
        exact ih _ _
set_option maxHeartbeats 4000000 in
set_option maxRecDepth 100000 in
theorem j_X6_alike {X : fm_X} {G : fm_G} {l : Launch} {v1 : Int32} {v2 : Int32} {μ : fm_I} {ν : fm_L} (C : fm_C X G l cX6_alike RX6 7 (some .int) 1 12) {F : Int32 → State → Prop} (hF : F = fun r => fm_Qi X G (r, μ, ν)) : fm_J X G 7 F (m_X6_alike v1 v2 μ ν) μ ν 0 [(0, .ref (G.2.2.1 58)), (1, .int v1), (2, .int v2)] [] := by
  unfold m_X6_alike
  refine fm_iconst (pc := 0) (v := (nI 0)) C dX6_alike_0 (by decide) ?_
  refine fm_istore_n (pc := 1) C dX6_alike_1 rfl (by decide) rfl ?_
  refine fm_iconst (pc := 2) (v := (nI 0)) C dX6_alike_2 (by decide) ?_
  refine fm_istore (pc := 3) C dX6_alike_3 (by decide) rfl ?_
  refine fm_less (lv' := [(0, .ref (G.2.2.1 58)), (1, .int v1), (2, .int v2), (3, .int ((nI 0))), (4, .int ((nI 0)))]) (by repeat (first | exact trivial | refine ⟨rfl, ?_⟩)) ?_
  refine j_X6_alike_5_ C (v1 := v1) (v2 := v2) hF  (fun x3_5 => ?_) _ _ _
  refine fm_iload_n (pc := 85) C dX6_alike_85 rfl rfl ?_
  exact fm_zret0 (pc := 86) C hF rfl rfl dX6_alike_86
theorem t_X6_alike {l : Launch} {G : fm_G} {v1 : Int32} {v2 : Int32} {μ : fm_I} {ν : fm_L} {r : Int32} (h : m_X6_alike v1 v2 μ ν = some r) : fm_Mi l G yX6_alike cX6_alike 7 (some .int) 1 12 [.ref (G.2.2.1 58), .int v1, .int v2] μ ν (r, μ, ν) := fm_Mi_of (by decide +kernel) (Nat.le_of_ble_eq_true rfl) (fun _ C => j_X6_alike C rfl r h)
theorem dX6_painted_0 : decode cX6_painted 0 = .ok (.aload_n 0, 1) := by decide +kernel
theorem dX6_painted_1 : decode cX6_painted 1 = .ok (.iload_n 1, 1) := by decide +kernel
theorem dX6_painted_2 : decode cX6_painted 2 = .ok (.invokevirtual 88, 3) := by decide +kernel
theorem dX6_painted_5 : decode cX6_painted 5 = .ok (.ifCond .ne 9, 3) := by decide +kernel
theorem dX6_painted_8 : decode cX6_painted 8 = .ok (.aload_n 0, 1) := by decide +kernel
theorem dX6_painted_9 : decode cX6_painted 9 = .ok (.iconst (-1), 1) := by decide +kernel
theorem dX6_painted_10 : decode cX6_painted 10 = .ok (.invokevirtual 95, 3) := by decide +kernel
theorem dX6_painted_13 : decode cX6_painted 13 = .ok (.ireturn, 1) := by decide +kernel
theorem dX6_painted_14 : decode cX6_painted 14 = .ok (.aload_n 0, 1) := by decide +kernel
theorem dX6_painted_15 : decode cX6_painted 15 = .ok (.iload_n 1, 1) := by decide +kernel
theorem dX6_painted_16 : decode cX6_painted 16 = .ok (.invokevirtual 175, 3) := by decide +kernel
theorem dX6_painted_19 : decode cX6_painted 19 = .ok (.iconst 0, 1) := by decide +kernel
theorem dX6_painted_20 : decode cX6_painted 20 = .ok (.istore_n 2, 1) := by decide +kernel
theorem dX6_painted_21 : decode cX6_painted 21 = .ok (.iconst 0, 1) := by decide +kernel
theorem dX6_painted_22 : decode cX6_painted 22 = .ok (.istore_n 3, 1) := by decide +kernel
theorem dX6_painted_23 : decode cX6_painted 23 = .ok (.iload_n 3, 1) := by decide +kernel
theorem dX6_painted_24 : decode cX6_painted 24 = .ok (.aload_n 0, 1) := by decide +kernel
theorem dX6_painted_25 : decode cX6_painted 25 = .ok (.getfield 172, 3) := by decide +kernel
theorem dX6_painted_28 : decode cX6_painted 28 = .ok (.if_icmp .ge 30, 3) := by decide +kernel
theorem dX6_painted_31 : decode cX6_painted 31 = .ok (.aload_n 0, 1) := by decide +kernel
theorem dX6_painted_32 : decode cX6_painted 32 = .ok (.iload_n 1, 1) := by decide +kernel
theorem dX6_painted_33 : decode cX6_painted 33 = .ok (.iload_n 3, 1) := by decide +kernel
theorem dX6_painted_34 : decode cX6_painted 34 = .ok (.invokevirtual 207, 3) := by decide +kernel
theorem dX6_painted_37 : decode cX6_painted 37 = .ok (.aload_n 0, 1) := by decide +kernel
theorem dX6_painted_38 : decode cX6_painted 38 = .ok (.getfield 72, 3) := by decide +kernel
theorem dX6_painted_41 : decode cX6_painted 41 = .ok (.iload_n 3, 1) := by decide +kernel
theorem dX6_painted_42 : decode cX6_painted 42 = .ok (.iaload, 1) := by decide +kernel
theorem dX6_painted_43 : decode cX6_painted 43 = .ok (.if_icmp .ne 9, 3) := by decide +kernel
theorem dX6_painted_46 : decode cX6_painted 46 = .ok (.iload_n 2, 1) := by decide +kernel
theorem dX6_painted_47 : decode cX6_painted 47 = .ok (.iconst 1, 1) := by decide +kernel
theorem dX6_painted_48 : decode cX6_painted 48 = .ok (.iload_n 3, 1) := by decide +kernel
theorem dX6_painted_49 : decode cX6_painted 49 = .ok (.ishl, 1) := by decide +kernel
theorem dX6_painted_50 : decode cX6_painted 50 = .ok (.ior, 1) := by decide +kernel
theorem dX6_painted_51 : decode cX6_painted 51 = .ok (.istore_n 2, 1) := by decide +kernel
theorem dX6_painted_52 : decode cX6_painted 52 = .ok (.iinc 3 1, 3) := by decide +kernel
theorem dX6_painted_55 : decode cX6_painted 55 = .ok (.goto (-32), 3) := by decide +kernel
theorem dX6_painted_58 : decode cX6_painted 58 = .ok (.iload_n 2, 1) := by decide +kernel
theorem dX6_painted_59 : decode cX6_painted 59 = .ok (.ireturn, 1) := by decide +kernel
def m_X6_painted_23 (v1 : Int32) (μ : fm_I) (ν : fm_L) (K : Int32 → Option (Int32 × fm_I × fm_L)) : Nat → Int32 → Int32 → Option (Int32 × fm_I × fm_L)
  | 0, _, _ => none
  | k + 1, v2, v3 => if (μ 58 28) ≤ v3 then K v2 else (m_X6_alike v1 v3 μ ν).bind (fun r34 => fm_g (fm_in v3 (fm_n 77)) (if r34 = (μ 77 v3.toNatClampNeg) then m_X6_painted_23 v1 μ ν K k ((v2 ||| ((((nI 1)) <<< (v3 &&& 31))))) ((v3 + nI 1)) else m_X6_painted_23 v1 μ ν K k v2 ((v3 + nI 1))))
def m_X6_painted (v1 : Int32) (μ : fm_I) (ν : fm_L) : Option (Int32 × fm_I × fm_L) :=
  (m_X6_isBand v1 μ ν).bind (fun r2 => if r2 = 0 then (m_X6_no ((-1 : Int32)) μ ν).bind (fun r10 => some ((r10.1, r10.2.1, r10.2.2))) else (m_X6_cuts v1 μ ν).bind (fun r16 => m_X6_painted_23 v1 r16.1 r16.2 (fun x2_23 => some ((x2_23, r16.1, r16.2))) 5000 ((nI 0)) ((nI 0))))
theorem ok_X6_painted : fm_okV yX6_painted cX6_painted 4 (some .int) 1 := ⟨m_cd_X6_painted, m_im_X6_painted, m_se_X6_X6_painted, m_ini_X6, by decide +kernel, by decide +kernel, by decide +kernel⟩
set_option maxHeartbeats 4000000 in
set_option maxRecDepth 100000 in
theorem j_X6_painted_23_ {X : fm_X} {G : fm_G} {l : Launch} {v1 : Int32} {μ : fm_I} {ν : fm_L} (C : fm_C X G l cX6_painted RX6 4 (some .int) 4 82) {F : (Int32 × fm_I × fm_L) → State → Prop} (hF : F = fm_Qi X G)  {K : Int32 → Option (Int32 × fm_I × fm_L)} (hK : ∀ (v2 : Int32), fm_J X G 4 F (K v2) μ ν 58 [(2, .int v2)] []) : ∀ (k : Nat) (v2 : Int32) (v3 : Int32), fm_J X G 4 F (m_X6_painted_23 v1 μ ν K k v2 v3) μ ν 23 [(0, .ref (G.2.2.1 58)), (1, .int v1), (2, .int v2), (3, .int v3)] [] := by
  intro k
  induction k with
  | zero =>
    intro v2 v3
    exact fm_none
  | succ k ih =>
    intro v2 v3
    rw [m_X6_painted_23]
    refine fm_iload_n (pc := 23) C dX6_painted_23 rfl rfl ?_
    refine fm_aload_n (pc := 24) C dX6_painted_24 rfl rfl ?_
    refine g6_pieces (pc := 25) C (by decide) dX6_painted_25 m_fl_X6_172 ?_
    refine fm_icmp_ge (pc := 28) (tgt := 58) C dX6_painted_28 (by decide) (fun c2 => ?_) (fun c2 => ?_)
    · refine fm_less (lv' := [(2, .int v2)]) (by repeat (first | exact trivial | refine ⟨rfl, ?_⟩)) ?_
      exact hK _
    · refine fm_aload_n (pc := 31) C dX6_painted_31 rfl rfl ?_
      refine fm_iload_n (pc := 32) C dX6_painted_32 rfl rfl ?_
      refine fm_iload_n (pc := 33) C dX6_painted_33 rfl rfl ?_
      refine fm_bind (fun r34 e34 => ?_)
      refine fm_cVi0 (pc := 34) C (t_X6_alike e34) ok_X6_alike ⟨by decide, rfl⟩ m_ml_X6_207 dX6_painted_34 ⟨Nat.le_of_ble_eq_true rfl, Nat.le_of_ble_eq_true rfl⟩ rfl rfl (Nat.le_of_ble_eq_true rfl) ?_
      refine fm_aload_n (pc := 37) C dX6_painted_37 rfl rfl ?_
      refine g6_many (pc := 38) C (by decide) dX6_painted_38 m_fl_X6_72 ?_
      refine fm_iload_n (pc := 41) C dX6_painted_41 rfl rfl ?_
      refine fm_guard (fun h3 => ?_)
      refine fm_iald (pc := 42) C (by decide) h3 dX6_painted_42 ?_
      refine fm_icmp_ne (pc := 43) (tgt := 52) C dX6_painted_43 (by decide) (fun c4 => ?_) (fun c4 => ?_)
      · refine fm_iload_n (pc := 46) C dX6_painted_46 rfl rfl ?_
        refine fm_iconst (pc := 47) (v := (nI 1)) C dX6_painted_47 (by decide) ?_
        refine fm_iload_n (pc := 48) C dX6_painted_48 rfl rfl ?_
        refine fm_ishl (pc := 49) C dX6_painted_49 ?_
        refine fm_ior (pc := 50) C dX6_painted_50 ?_
        refine fm_istore_n (pc := 51) C dX6_painted_51 rfl (by decide) rfl ?_
        refine fm_iinc (pc := 52) C dX6_painted_52 rfl (v := (v3 + nI 1)) rfl (by decide) rfl ?_
        refine fm_goto (pc := 55) (tgt := 23) C dX6_painted_55 (by decide) ?_
        refine fm_less (lv' := [(0, .ref (G.2.2.1 58)), (1, .int v1), (2, .int ((v2 ||| ((((nI 1)) <<< (v3 &&& 31)))))), (3, .int ((v3 + nI 1)))]) (by repeat (first | exact trivial | refine ⟨rfl, ?_⟩)) ?_
        exact ih _ _
      · refine fm_iinc (pc := 52) C dX6_painted_52 rfl (v := (v3 + nI 1)) rfl (by decide) rfl ?_
        refine fm_goto (pc := 55) (tgt := 23) C dX6_painted_55 (by decide) ?_
        refine fm_less (lv' := [(0, .ref (G.2.2.1 58)), (1, .int v1), (2, .int v2), (3, .int ((v3 + nI 1)))]) (by repeat (first | exact trivial | refine ⟨rfl, ?_⟩)) ?_
        exact ih _ _
set_option maxHeartbeats 4000000 in
set_option maxRecDepth 100000 in
theorem j_X6_painted {X : fm_X} {G : fm_G} {l : Launch} {v1 : Int32} {μ : fm_I} {ν : fm_L} (C : fm_C X G l cX6_painted RX6 4 (some .int) 4 82) {F : (Int32 × fm_I × fm_L) → State → Prop} (hF : F = fm_Qi X G) : fm_J X G 4 F (m_X6_painted v1 μ ν) μ ν 0 [(0, .ref (G.2.2.1 58)), (1, .int v1)] [] := by
  unfold m_X6_painted
  refine fm_aload_n (pc := 0) C dX6_painted_0 rfl rfl ?_
  refine fm_iload_n (pc := 1) C dX6_painted_1 rfl rfl ?_
  refine fm_bind (fun r2 e2 => ?_)
  refine fm_cVi0 (pc := 2) C (t_X6_isBand e2) ok_X6_isBand ⟨by decide, rfl⟩ m_ml_X6_88 dX6_painted_2 ⟨Nat.le_of_ble_eq_true rfl, Nat.le_of_ble_eq_true rfl⟩ rfl rfl (Nat.le_of_ble_eq_true rfl) ?_
  refine fm_if_ne (pc := 5) (tgt := 14) C dX6_painted_5 (by decide) (fun c1 => ?_) (fun c1 => ?_)
  · refine fm_aload_n (pc := 8) C dX6_painted_8 rfl rfl ?_
    refine fm_iconst (pc := 9) (v := (-1 : Int32)) C dX6_painted_9 (by decide) ?_
    refine fm_bind (fun r10 e10 => ?_)
    refine fm_cVi (pc := 10) C (t_X6_no e10) ok_X6_no ⟨by decide, rfl⟩ m_ml_X6_95 dX6_painted_10 ⟨Nat.le_of_ble_eq_true rfl, Nat.le_of_ble_eq_true rfl⟩ rfl rfl (Nat.le_of_ble_eq_true rfl) ?_
    exact fm_zret (pc := 13) C hF rfl rfl dX6_painted_13
  · refine fm_aload_n (pc := 14) C dX6_painted_14 rfl rfl ?_
    refine fm_iload_n (pc := 15) C dX6_painted_15 rfl rfl ?_
    refine fm_bind (fun r16 e16 => ?_)
    refine fm_cVv (pc := 16) C (t_X6_cuts e16) ok_X6_cuts ⟨by decide, rfl⟩ m_ml_X6_175 dX6_painted_16 ⟨Nat.le_of_ble_eq_true rfl, Nat.le_of_ble_eq_true rfl⟩ rfl rfl (Nat.le_of_ble_eq_true rfl) ?_
    refine fm_iconst (pc := 19) (v := (nI 0)) C dX6_painted_19 (by decide) ?_
    refine fm_istore_n (pc := 20) C dX6_painted_20 rfl (by decide) rfl ?_
    refine fm_iconst (pc := 21) (v := (nI 0)) C dX6_painted_21 (by decide) ?_
    refine fm_istore_n (pc := 22) C dX6_painted_22 rfl (by decide) rfl ?_
    refine fm_less (lv' := [(0, .ref (G.2.2.1 58)), (1, .int v1), (2, .int ((nI 0))), (3, .int ((nI 0)))]) (by repeat (first | exact trivial | refine ⟨rfl, ?_⟩)) ?_
    refine j_X6_painted_23_ C (v1 := v1) hF  (fun x2_23 => ?_) _ _ _
    refine fm_iload_n (pc := 58) C dX6_painted_58 rfl rfl ?_
    exact fm_zret (pc := 59) C hF rfl rfl dX6_painted_59
theorem t_X6_painted {l : Launch} {G : fm_G} {v1 : Int32} {μ : fm_I} {ν : fm_L} {r : Int32 × fm_I × fm_L} (h : m_X6_painted v1 μ ν = some r) : fm_Mi l G yX6_painted cX6_painted 4 (some .int) 4 82 [.ref (G.2.2.1 58), .int v1] μ ν r := fm_Mi_of (by decide +kernel) (Nat.le_of_ble_eq_true rfl) (fun _ C => j_X6_painted C rfl r h)
theorem dX6_repaint_0 : decode cX6_repaint 0 = .ok (.aload_n 0, 1) := by decide +kernel
theorem dX6_repaint_1 : decode cX6_repaint 1 = .ok (.iload_n 1, 1) := by decide +kernel
theorem dX6_repaint_2 : decode cX6_repaint 2 = .ok (.invokevirtual 88, 3) := by decide +kernel
theorem dX6_repaint_5 : decode cX6_repaint 5 = .ok (.ifCond .ne 9, 3) := by decide +kernel
theorem dX6_repaint_8 : decode cX6_repaint 8 = .ok (.aload_n 0, 1) := by decide +kernel
theorem dX6_repaint_9 : decode cX6_repaint 9 = .ok (.iconst (-1), 1) := by decide +kernel
theorem dX6_repaint_10 : decode cX6_repaint 10 = .ok (.invokevirtual 95, 3) := by decide +kernel
theorem dX6_repaint_13 : decode cX6_repaint 13 = .ok (.ireturn, 1) := by decide +kernel
theorem dX6_repaint_14 : decode cX6_repaint 14 = .ok (.aload_n 0, 1) := by decide +kernel
theorem dX6_repaint_15 : decode cX6_repaint 15 = .ok (.iload_n 1, 1) := by decide +kernel
theorem dX6_repaint_16 : decode cX6_repaint 16 = .ok (.invokevirtual 175, 3) := by decide +kernel
theorem dX6_repaint_19 : decode cX6_repaint 19 = .ok (.iconst 0, 1) := by decide +kernel
theorem dX6_repaint_20 : decode cX6_repaint 20 = .ok (.istore_n 2, 1) := by decide +kernel
theorem dX6_repaint_21 : decode cX6_repaint 21 = .ok (.iconst 0, 1) := by decide +kernel
theorem dX6_repaint_22 : decode cX6_repaint 22 = .ok (.istore_n 3, 1) := by decide +kernel
theorem dX6_repaint_23 : decode cX6_repaint 23 = .ok (.iload_n 3, 1) := by decide +kernel
theorem dX6_repaint_24 : decode cX6_repaint 24 = .ok (.aload_n 0, 1) := by decide +kernel
theorem dX6_repaint_25 : decode cX6_repaint 25 = .ok (.getfield 172, 3) := by decide +kernel
theorem dX6_repaint_28 : decode cX6_repaint 28 = .ok (.if_icmp .ge 25, 3) := by decide +kernel
theorem dX6_repaint_31 : decode cX6_repaint 31 = .ok (.iload_n 2, 1) := by decide +kernel
theorem dX6_repaint_32 : decode cX6_repaint 32 = .ok (.aload_n 0, 1) := by decide +kernel
theorem dX6_repaint_33 : decode cX6_repaint 33 = .ok (.getfield 72, 3) := by decide +kernel
theorem dX6_repaint_36 : decode cX6_repaint 36 = .ok (.iload_n 3, 1) := by decide +kernel
theorem dX6_repaint_37 : decode cX6_repaint 37 = .ok (.iaload, 1) := by decide +kernel
theorem dX6_repaint_38 : decode cX6_repaint 38 = .ok (.aload_n 0, 1) := by decide +kernel
theorem dX6_repaint_39 : decode cX6_repaint 39 = .ok (.iload_n 1, 1) := by decide +kernel
theorem dX6_repaint_40 : decode cX6_repaint 40 = .ok (.iload_n 3, 1) := by decide +kernel
theorem dX6_repaint_41 : decode cX6_repaint 41 = .ok (.invokevirtual 207, 3) := by decide +kernel
theorem dX6_repaint_44 : decode cX6_repaint 44 = .ok (.isub, 1) := by decide +kernel
theorem dX6_repaint_45 : decode cX6_repaint 45 = .ok (.iadd, 1) := by decide +kernel
theorem dX6_repaint_46 : decode cX6_repaint 46 = .ok (.istore_n 2, 1) := by decide +kernel
theorem dX6_repaint_47 : decode cX6_repaint 47 = .ok (.iinc 3 1, 3) := by decide +kernel
theorem dX6_repaint_50 : decode cX6_repaint 50 = .ok (.goto (-27), 3) := by decide +kernel
theorem dX6_repaint_53 : decode cX6_repaint 53 = .ok (.iload_n 2, 1) := by decide +kernel
theorem dX6_repaint_54 : decode cX6_repaint 54 = .ok (.ireturn, 1) := by decide +kernel
def m_X6_repaint_23 (v1 : Int32) (μ : fm_I) (ν : fm_L) (K : Int32 → Option (Int32 × fm_I × fm_L)) : Nat → Int32 → Int32 → Option (Int32 × fm_I × fm_L)
  | 0, _, _ => none
  | k + 1, v2, v3 => if (μ 58 28) ≤ v3 then K v2 else fm_g (fm_in v3 (fm_n 77)) ((m_X6_alike v1 v3 μ ν).bind (fun r41 => m_X6_repaint_23 v1 μ ν K k ((v2 + ((((μ 77 v3.toNatClampNeg)) - r41)))) ((v3 + nI 1))))
def m_X6_repaint (v1 : Int32) (μ : fm_I) (ν : fm_L) : Option (Int32 × fm_I × fm_L) :=
  (m_X6_isBand v1 μ ν).bind (fun r2 => if r2 = 0 then (m_X6_no ((-1 : Int32)) μ ν).bind (fun r10 => some ((r10.1, r10.2.1, r10.2.2))) else (m_X6_cuts v1 μ ν).bind (fun r16 => m_X6_repaint_23 v1 r16.1 r16.2 (fun x2_23 => some ((x2_23, r16.1, r16.2))) 5000 ((nI 0)) ((nI 0))))
theorem ok_X6_repaint : fm_okV yX6_repaint cX6_repaint 4 (some .int) 1 := ⟨m_cd_X6_repaint, m_im_X6_repaint, m_se_X6_X6_repaint, m_ini_X6, by decide +kernel, by decide +kernel, by decide +kernel⟩
set_option maxHeartbeats 4000000 in
set_option maxRecDepth 100000 in
theorem j_X6_repaint_23_ {X : fm_X} {G : fm_G} {l : Launch} {v1 : Int32} {μ : fm_I} {ν : fm_L} (C : fm_C X G l cX6_repaint RX6 4 (some .int) 4 82) {F : (Int32 × fm_I × fm_L) → State → Prop} (hF : F = fm_Qi X G)  {K : Int32 → Option (Int32 × fm_I × fm_L)} (hK : ∀ (v2 : Int32), fm_J X G 4 F (K v2) μ ν 53 [(2, .int v2)] []) : ∀ (k : Nat) (v2 : Int32) (v3 : Int32), fm_J X G 4 F (m_X6_repaint_23 v1 μ ν K k v2 v3) μ ν 23 [(0, .ref (G.2.2.1 58)), (1, .int v1), (2, .int v2), (3, .int v3)] [] := by
  intro k
  induction k with
  | zero =>
    intro v2 v3
    exact fm_none
  | succ k ih =>
    intro v2 v3
    rw [m_X6_repaint_23]
    refine fm_iload_n (pc := 23) C dX6_repaint_23 rfl rfl ?_
    refine fm_aload_n (pc := 24) C dX6_repaint_24 rfl rfl ?_
    refine g6_pieces (pc := 25) C (by decide) dX6_repaint_25 m_fl_X6_172 ?_
    refine fm_icmp_ge (pc := 28) (tgt := 53) C dX6_repaint_28 (by decide) (fun c2 => ?_) (fun c2 => ?_)
    · refine fm_less (lv' := [(2, .int v2)]) (by repeat (first | exact trivial | refine ⟨rfl, ?_⟩)) ?_
      exact hK _
    · refine fm_iload_n (pc := 31) C dX6_repaint_31 rfl rfl ?_
      refine fm_aload_n (pc := 32) C dX6_repaint_32 rfl rfl ?_
      refine g6_many (pc := 33) C (by decide) dX6_repaint_33 m_fl_X6_72 ?_
      refine fm_iload_n (pc := 36) C dX6_repaint_36 rfl rfl ?_
      refine fm_guard (fun h3 => ?_)
      refine fm_iald (pc := 37) C (by decide) h3 dX6_repaint_37 ?_
      refine fm_aload_n (pc := 38) C dX6_repaint_38 rfl rfl ?_
      refine fm_iload_n (pc := 39) C dX6_repaint_39 rfl rfl ?_
      refine fm_iload_n (pc := 40) C dX6_repaint_40 rfl rfl ?_
      refine fm_bind (fun r41 e41 => ?_)
      refine fm_cVi0 (pc := 41) C (t_X6_alike e41) ok_X6_alike ⟨by decide, rfl⟩ m_ml_X6_207 dX6_repaint_41 ⟨Nat.le_of_ble_eq_true rfl, Nat.le_of_ble_eq_true rfl⟩ rfl rfl (Nat.le_of_ble_eq_true rfl) ?_
      refine fm_isub (pc := 44) C dX6_repaint_44 ?_
      refine fm_iadd (pc := 45) C dX6_repaint_45 ?_
      refine fm_istore_n (pc := 46) C dX6_repaint_46 rfl (by decide) rfl ?_
      refine fm_iinc (pc := 47) C dX6_repaint_47 rfl (v := (v3 + nI 1)) rfl (by decide) rfl ?_
      refine fm_goto (pc := 50) (tgt := 23) C dX6_repaint_50 (by decide) ?_
      refine fm_less (lv' := [(0, .ref (G.2.2.1 58)), (1, .int v1), (2, .int ((v2 + ((((μ 77 v3.toNatClampNeg)) - r41))))), (3, .int ((v3 + nI 1)))]) (by repeat (first | exact trivial | refine ⟨rfl, ?_⟩)) ?_
      exact ih _ _
set_option maxHeartbeats 4000000 in
set_option maxRecDepth 100000 in
theorem j_X6_repaint {X : fm_X} {G : fm_G} {l : Launch} {v1 : Int32} {μ : fm_I} {ν : fm_L} (C : fm_C X G l cX6_repaint RX6 4 (some .int) 4 82) {F : (Int32 × fm_I × fm_L) → State → Prop} (hF : F = fm_Qi X G) : fm_J X G 4 F (m_X6_repaint v1 μ ν) μ ν 0 [(0, .ref (G.2.2.1 58)), (1, .int v1)] [] := by
  unfold m_X6_repaint
  refine fm_aload_n (pc := 0) C dX6_repaint_0 rfl rfl ?_
  refine fm_iload_n (pc := 1) C dX6_repaint_1 rfl rfl ?_
  refine fm_bind (fun r2 e2 => ?_)
  refine fm_cVi0 (pc := 2) C (t_X6_isBand e2) ok_X6_isBand ⟨by decide, rfl⟩ m_ml_X6_88 dX6_repaint_2 ⟨Nat.le_of_ble_eq_true rfl, Nat.le_of_ble_eq_true rfl⟩ rfl rfl (Nat.le_of_ble_eq_true rfl) ?_
  refine fm_if_ne (pc := 5) (tgt := 14) C dX6_repaint_5 (by decide) (fun c1 => ?_) (fun c1 => ?_)
  · refine fm_aload_n (pc := 8) C dX6_repaint_8 rfl rfl ?_
    refine fm_iconst (pc := 9) (v := (-1 : Int32)) C dX6_repaint_9 (by decide) ?_
    refine fm_bind (fun r10 e10 => ?_)
    refine fm_cVi (pc := 10) C (t_X6_no e10) ok_X6_no ⟨by decide, rfl⟩ m_ml_X6_95 dX6_repaint_10 ⟨Nat.le_of_ble_eq_true rfl, Nat.le_of_ble_eq_true rfl⟩ rfl rfl (Nat.le_of_ble_eq_true rfl) ?_
    exact fm_zret (pc := 13) C hF rfl rfl dX6_repaint_13
  · refine fm_aload_n (pc := 14) C dX6_repaint_14 rfl rfl ?_
    refine fm_iload_n (pc := 15) C dX6_repaint_15 rfl rfl ?_
    refine fm_bind (fun r16 e16 => ?_)
    refine fm_cVv (pc := 16) C (t_X6_cuts e16) ok_X6_cuts ⟨by decide, rfl⟩ m_ml_X6_175 dX6_repaint_16 ⟨Nat.le_of_ble_eq_true rfl, Nat.le_of_ble_eq_true rfl⟩ rfl rfl (Nat.le_of_ble_eq_true rfl) ?_
    refine fm_iconst (pc := 19) (v := (nI 0)) C dX6_repaint_19 (by decide) ?_
    refine fm_istore_n (pc := 20) C dX6_repaint_20 rfl (by decide) rfl ?_
    refine fm_iconst (pc := 21) (v := (nI 0)) C dX6_repaint_21 (by decide) ?_
    refine fm_istore_n (pc := 22) C dX6_repaint_22 rfl (by decide) rfl ?_
    refine fm_less (lv' := [(0, .ref (G.2.2.1 58)), (1, .int v1), (2, .int ((nI 0))), (3, .int ((nI 0)))]) (by repeat (first | exact trivial | refine ⟨rfl, ?_⟩)) ?_
    refine j_X6_repaint_23_ C (v1 := v1) hF  (fun x2_23 => ?_) _ _ _
    refine fm_iload_n (pc := 53) C dX6_repaint_53 rfl rfl ?_
    exact fm_zret (pc := 54) C hF rfl rfl dX6_repaint_54
theorem t_X6_repaint {l : Launch} {G : fm_G} {v1 : Int32} {μ : fm_I} {ν : fm_L} {r : Int32 × fm_I × fm_L} (h : m_X6_repaint v1 μ ν = some r) : fm_Mi l G yX6_repaint cX6_repaint 4 (some .int) 4 82 [.ref (G.2.2.1 58), .int v1] μ ν r := fm_Mi_of (by decide +kernel) (Nat.le_of_ble_eq_true rfl) (fun _ C => j_X6_repaint C rfl r h)
theorem dX6_worn_0 : decode cX6_worn 0 = .ok (.aload_n 0, 1) := by decide +kernel
theorem dX6_worn_1 : decode cX6_worn 1 = .ok (.iload_n 1, 1) := by decide +kernel
theorem dX6_worn_2 : decode cX6_worn 2 = .ok (.invokevirtual 88, 3) := by decide +kernel
theorem dX6_worn_5 : decode cX6_worn 5 = .ok (.ifCond .ne 9, 3) := by decide +kernel
theorem dX6_worn_8 : decode cX6_worn 8 = .ok (.aload_n 0, 1) := by decide +kernel
theorem dX6_worn_9 : decode cX6_worn 9 = .ok (.iconst (-1), 1) := by decide +kernel
theorem dX6_worn_10 : decode cX6_worn 10 = .ok (.invokevirtual 95, 3) := by decide +kernel
theorem dX6_worn_13 : decode cX6_worn 13 = .ok (.ireturn, 1) := by decide +kernel
theorem dX6_worn_14 : decode cX6_worn 14 = .ok (.aload_n 0, 1) := by decide +kernel
theorem dX6_worn_15 : decode cX6_worn 15 = .ok (.iload_n 1, 1) := by decide +kernel
theorem dX6_worn_16 : decode cX6_worn 16 = .ok (.invokevirtual 175, 3) := by decide +kernel
theorem dX6_worn_19 : decode cX6_worn 19 = .ok (.iconst 0, 1) := by decide +kernel
theorem dX6_worn_20 : decode cX6_worn 20 = .ok (.istore_n 2, 1) := by decide +kernel
theorem dX6_worn_21 : decode cX6_worn 21 = .ok (.iconst 0, 1) := by decide +kernel
theorem dX6_worn_22 : decode cX6_worn 22 = .ok (.istore_n 3, 1) := by decide +kernel
theorem dX6_worn_23 : decode cX6_worn 23 = .ok (.iload_n 3, 1) := by decide +kernel
theorem dX6_worn_24 : decode cX6_worn 24 = .ok (.aload_n 0, 1) := by decide +kernel
theorem dX6_worn_25 : decode cX6_worn 25 = .ok (.getfield 172, 3) := by decide +kernel
theorem dX6_worn_28 : decode cX6_worn 28 = .ok (.if_icmp .ge 27, 3) := by decide +kernel
theorem dX6_worn_31 : decode cX6_worn 31 = .ok (.aload_n 0, 1) := by decide +kernel
theorem dX6_worn_32 : decode cX6_worn 32 = .ok (.iload_n 1, 1) := by decide +kernel
theorem dX6_worn_33 : decode cX6_worn 33 = .ok (.iload_n 3, 1) := by decide +kernel
theorem dX6_worn_34 : decode cX6_worn 34 = .ok (.invokevirtual 185, 3) := by decide +kernel
theorem dX6_worn_37 : decode cX6_worn 37 = .ok (.iconst 2, 1) := by decide +kernel
theorem dX6_worn_38 : decode cX6_worn 38 = .ok (.irem, 1) := by decide +kernel
theorem dX6_worn_39 : decode cX6_worn 39 = .ok (.iconst 1, 1) := by decide +kernel
theorem dX6_worn_40 : decode cX6_worn 40 = .ok (.if_icmp .ne 9, 3) := by decide +kernel
theorem dX6_worn_43 : decode cX6_worn 43 = .ok (.iload_n 2, 1) := by decide +kernel
theorem dX6_worn_44 : decode cX6_worn 44 = .ok (.iconst 1, 1) := by decide +kernel
theorem dX6_worn_45 : decode cX6_worn 45 = .ok (.iload_n 3, 1) := by decide +kernel
theorem dX6_worn_46 : decode cX6_worn 46 = .ok (.ishl, 1) := by decide +kernel
theorem dX6_worn_47 : decode cX6_worn 47 = .ok (.ior, 1) := by decide +kernel
theorem dX6_worn_48 : decode cX6_worn 48 = .ok (.istore_n 2, 1) := by decide +kernel
theorem dX6_worn_49 : decode cX6_worn 49 = .ok (.iinc 3 1, 3) := by decide +kernel
theorem dX6_worn_52 : decode cX6_worn 52 = .ok (.goto (-29), 3) := by decide +kernel
theorem dX6_worn_55 : decode cX6_worn 55 = .ok (.iload_n 2, 1) := by decide +kernel
theorem dX6_worn_56 : decode cX6_worn 56 = .ok (.ireturn, 1) := by decide +kernel
def m_X6_worn_23 (v1 : Int32) (μ : fm_I) (ν : fm_L) (K : Int32 → Option (Int32 × fm_I × fm_L)) : Nat → Int32 → Int32 → Option (Int32 × fm_I × fm_L)
  | 0, _, _ => none
  | k + 1, v2, v3 => if (μ 58 28) ≤ v3 then K v2 else (m_X6_turnsOf v1 v3 μ ν).bind (fun r34 => if (r34 - r34 / ((nI 2)) * ((nI 2))) = (nI 1) then m_X6_worn_23 v1 μ ν K k ((v2 ||| ((((nI 1)) <<< (v3 &&& 31))))) ((v3 + nI 1)) else m_X6_worn_23 v1 μ ν K k v2 ((v3 + nI 1)))
def m_X6_worn (v1 : Int32) (μ : fm_I) (ν : fm_L) : Option (Int32 × fm_I × fm_L) :=
  (m_X6_isBand v1 μ ν).bind (fun r2 => if r2 = 0 then (m_X6_no ((-1 : Int32)) μ ν).bind (fun r10 => some ((r10.1, r10.2.1, r10.2.2))) else (m_X6_cuts v1 μ ν).bind (fun r16 => m_X6_worn_23 v1 r16.1 r16.2 (fun x2_23 => some ((x2_23, r16.1, r16.2))) 5000 ((nI 0)) ((nI 0))))
theorem ok_X6_worn : fm_okV yX6_worn cX6_worn 4 (some .int) 1 := ⟨m_cd_X6_worn, m_im_X6_worn, m_se_X6_X6_worn, m_ini_X6, by decide +kernel, by decide +kernel, by decide +kernel⟩
set_option maxHeartbeats 4000000 in
set_option maxRecDepth 100000 in
theorem j_X6_worn_23_ {X : fm_X} {G : fm_G} {l : Launch} {v1 : Int32} {μ : fm_I} {ν : fm_L} (C : fm_C X G l cX6_worn RX6 4 (some .int) 4 82) {F : (Int32 × fm_I × fm_L) → State → Prop} (hF : F = fm_Qi X G)  {K : Int32 → Option (Int32 × fm_I × fm_L)} (hK : ∀ (v2 : Int32), fm_J X G 4 F (K v2) μ ν 55 [(2, .int v2)] []) : ∀ (k : Nat) (v2 : Int32) (v3 : Int32), fm_J X G 4 F (m_X6_worn_23 v1 μ ν K k v2 v3) μ ν 23 [(0, .ref (G.2.2.1 58)), (1, .int v1), (2, .int v2), (3, .int v3)] [] := by
  intro k
  induction k with
  | zero =>
    intro v2 v3
    exact fm_none
  | succ k ih =>
    intro v2 v3
    rw [m_X6_worn_23]
    refine fm_iload_n (pc := 23) C dX6_worn_23 rfl rfl ?_
    refine fm_aload_n (pc := 24) C dX6_worn_24 rfl rfl ?_
    refine g6_pieces (pc := 25) C (by decide) dX6_worn_25 m_fl_X6_172 ?_
    refine fm_icmp_ge (pc := 28) (tgt := 55) C dX6_worn_28 (by decide) (fun c2 => ?_) (fun c2 => ?_)
    · refine fm_less (lv' := [(2, .int v2)]) (by repeat (first | exact trivial | refine ⟨rfl, ?_⟩)) ?_
      exact hK _
    · refine fm_aload_n (pc := 31) C dX6_worn_31 rfl rfl ?_
      refine fm_iload_n (pc := 32) C dX6_worn_32 rfl rfl ?_
      refine fm_iload_n (pc := 33) C dX6_worn_33 rfl rfl ?_
      refine fm_bind (fun r34 e34 => ?_)
      refine fm_cVi0 (pc := 34) C (t_X6_turnsOf e34) ok_X6_turnsOf ⟨by decide, rfl⟩ m_ml_X6_185 dX6_worn_34 ⟨Nat.le_of_ble_eq_true rfl, Nat.le_of_ble_eq_true rfl⟩ rfl rfl (Nat.le_of_ble_eq_true rfl) ?_
      refine fm_iconst (pc := 37) (v := (nI 2)) C dX6_worn_37 (by decide) ?_
      refine fm_irem (pc := 38) C dX6_worn_38 (by decide) ?_
      refine fm_iconst (pc := 39) (v := (nI 1)) C dX6_worn_39 (by decide) ?_
      refine fm_icmp_ne (pc := 40) (tgt := 49) C dX6_worn_40 (by decide) (fun c3 => ?_) (fun c3 => ?_)
      · refine fm_iload_n (pc := 43) C dX6_worn_43 rfl rfl ?_
        refine fm_iconst (pc := 44) (v := (nI 1)) C dX6_worn_44 (by decide) ?_
        refine fm_iload_n (pc := 45) C dX6_worn_45 rfl rfl ?_
        refine fm_ishl (pc := 46) C dX6_worn_46 ?_
        refine fm_ior (pc := 47) C dX6_worn_47 ?_
        refine fm_istore_n (pc := 48) C dX6_worn_48 rfl (by decide) rfl ?_
        refine fm_iinc (pc := 49) C dX6_worn_49 rfl (v := (v3 + nI 1)) rfl (by decide) rfl ?_
        refine fm_goto (pc := 52) (tgt := 23) C dX6_worn_52 (by decide) ?_
        refine fm_less (lv' := [(0, .ref (G.2.2.1 58)), (1, .int v1), (2, .int ((v2 ||| ((((nI 1)) <<< (v3 &&& 31)))))), (3, .int ((v3 + nI 1)))]) (by repeat (first | exact trivial | refine ⟨rfl, ?_⟩)) ?_
        exact ih _ _
      · refine fm_iinc (pc := 49) C dX6_worn_49 rfl (v := (v3 + nI 1)) rfl (by decide) rfl ?_
        refine fm_goto (pc := 52) (tgt := 23) C dX6_worn_52 (by decide) ?_
        refine fm_less (lv' := [(0, .ref (G.2.2.1 58)), (1, .int v1), (2, .int v2), (3, .int ((v3 + nI 1)))]) (by repeat (first | exact trivial | refine ⟨rfl, ?_⟩)) ?_
        exact ih _ _
set_option maxHeartbeats 4000000 in
set_option maxRecDepth 100000 in
theorem j_X6_worn {X : fm_X} {G : fm_G} {l : Launch} {v1 : Int32} {μ : fm_I} {ν : fm_L} (C : fm_C X G l cX6_worn RX6 4 (some .int) 4 82) {F : (Int32 × fm_I × fm_L) → State → Prop} (hF : F = fm_Qi X G) : fm_J X G 4 F (m_X6_worn v1 μ ν) μ ν 0 [(0, .ref (G.2.2.1 58)), (1, .int v1)] [] := by
  unfold m_X6_worn
  refine fm_aload_n (pc := 0) C dX6_worn_0 rfl rfl ?_
  refine fm_iload_n (pc := 1) C dX6_worn_1 rfl rfl ?_
  refine fm_bind (fun r2 e2 => ?_)
  refine fm_cVi0 (pc := 2) C (t_X6_isBand e2) ok_X6_isBand ⟨by decide, rfl⟩ m_ml_X6_88 dX6_worn_2 ⟨Nat.le_of_ble_eq_true rfl, Nat.le_of_ble_eq_true rfl⟩ rfl rfl (Nat.le_of_ble_eq_true rfl) ?_
  refine fm_if_ne (pc := 5) (tgt := 14) C dX6_worn_5 (by decide) (fun c1 => ?_) (fun c1 => ?_)
  · refine fm_aload_n (pc := 8) C dX6_worn_8 rfl rfl ?_
    refine fm_iconst (pc := 9) (v := (-1 : Int32)) C dX6_worn_9 (by decide) ?_
    refine fm_bind (fun r10 e10 => ?_)
    refine fm_cVi (pc := 10) C (t_X6_no e10) ok_X6_no ⟨by decide, rfl⟩ m_ml_X6_95 dX6_worn_10 ⟨Nat.le_of_ble_eq_true rfl, Nat.le_of_ble_eq_true rfl⟩ rfl rfl (Nat.le_of_ble_eq_true rfl) ?_
    exact fm_zret (pc := 13) C hF rfl rfl dX6_worn_13
  · refine fm_aload_n (pc := 14) C dX6_worn_14 rfl rfl ?_
    refine fm_iload_n (pc := 15) C dX6_worn_15 rfl rfl ?_
    refine fm_bind (fun r16 e16 => ?_)
    refine fm_cVv (pc := 16) C (t_X6_cuts e16) ok_X6_cuts ⟨by decide, rfl⟩ m_ml_X6_175 dX6_worn_16 ⟨Nat.le_of_ble_eq_true rfl, Nat.le_of_ble_eq_true rfl⟩ rfl rfl (Nat.le_of_ble_eq_true rfl) ?_
    refine fm_iconst (pc := 19) (v := (nI 0)) C dX6_worn_19 (by decide) ?_
    refine fm_istore_n (pc := 20) C dX6_worn_20 rfl (by decide) rfl ?_
    refine fm_iconst (pc := 21) (v := (nI 0)) C dX6_worn_21 (by decide) ?_
    refine fm_istore_n (pc := 22) C dX6_worn_22 rfl (by decide) rfl ?_
    refine fm_less (lv' := [(0, .ref (G.2.2.1 58)), (1, .int v1), (2, .int ((nI 0))), (3, .int ((nI 0)))]) (by repeat (first | exact trivial | refine ⟨rfl, ?_⟩)) ?_
    refine j_X6_worn_23_ C (v1 := v1) hF  (fun x2_23 => ?_) _ _ _
    refine fm_iload_n (pc := 55) C dX6_worn_55 rfl rfl ?_
    exact fm_zret (pc := 56) C hF rfl rfl dX6_worn_56
theorem t_X6_worn {l : Launch} {G : fm_G} {v1 : Int32} {μ : fm_I} {ν : fm_L} {r : Int32 × fm_I × fm_L} (h : m_X6_worn v1 μ ν = some r) : fm_Mi l G yX6_worn cX6_worn 4 (some .int) 4 82 [.ref (G.2.2.1 58), .int v1] μ ν r := fm_Mi_of (by decide +kernel) (Nat.le_of_ble_eq_true rfl) (fun _ C => j_X6_worn C rfl r h)
theorem dX6_law_0 : decode cX6_law 0 = .ok (.iload_n 3, 1) := by decide +kernel
theorem dX6_law_1 : decode cX6_law 1 = .ok (.ifCond .lt 8, 3) := by decide +kernel
theorem dX6_law_4 : decode cX6_law 4 = .ok (.iload_n 3, 1) := by decide +kernel
theorem dX6_law_5 : decode cX6_law 5 = .ok (.iconst 3, 1) := by decide +kernel
theorem dX6_law_6 : decode cX6_law 6 = .ok (.if_icmp .le 11, 3) := by decide +kernel
theorem dX6_law_9 : decode cX6_law 9 = .ok (.aload_n 0, 1) := by decide +kernel
theorem dX6_law_10 : decode cX6_law 10 = .ok (.bipush (-5), 2) := by decide +kernel
theorem dX6_law_12 : decode cX6_law 12 = .ok (.invokevirtual 95, 3) := by decide +kernel
theorem dX6_law_15 : decode cX6_law 15 = .ok (.i2l, 1) := by decide +kernel
theorem dX6_law_16 : decode cX6_law 16 = .ok (.lreturn, 1) := by decide +kernel
theorem dX6_law_17 : decode cX6_law 17 = .ok (.iload_n 1, 1) := by decide +kernel
theorem dX6_law_18 : decode cX6_law 18 = .ok (.ifCond .lt 20, 3) := by decide +kernel
theorem dX6_law_21 : decode cX6_law 21 = .ok (.iload_n 1, 1) := by decide +kernel
theorem dX6_law_22 : decode cX6_law 22 = .ok (.ldc 210, 2) := by decide +kernel
theorem dX6_law_24 : decode cX6_law 24 = .ok (.if_icmp .gt 14, 3) := by decide +kernel
theorem dX6_law_27 : decode cX6_law 27 = .ok (.iload_n 2, 1) := by decide +kernel
theorem dX6_law_28 : decode cX6_law 28 = .ok (.iconst 1, 1) := by decide +kernel
theorem dX6_law_29 : decode cX6_law 29 = .ok (.if_icmp .lt 9, 3) := by decide +kernel
theorem dX6_law_32 : decode cX6_law 32 = .ok (.iload_n 2, 1) := by decide +kernel
theorem dX6_law_33 : decode cX6_law 33 = .ok (.ldc 210, 2) := by decide +kernel
theorem dX6_law_35 : decode cX6_law 35 = .ok (.if_icmp .le 11, 3) := by decide +kernel
theorem dX6_law_38 : decode cX6_law 38 = .ok (.aload_n 0, 1) := by decide +kernel
theorem dX6_law_39 : decode cX6_law 39 = .ok (.bipush (-6), 2) := by decide +kernel
theorem dX6_law_41 : decode cX6_law 41 = .ok (.invokevirtual 95, 3) := by decide +kernel
theorem dX6_law_44 : decode cX6_law 44 = .ok (.i2l, 1) := by decide +kernel
theorem dX6_law_45 : decode cX6_law 45 = .ok (.lreturn, 1) := by decide +kernel
theorem dX6_law_46 : decode cX6_law 46 = .ok (.iload_n 1, 1) := by decide +kernel
theorem dX6_law_47 : decode cX6_law 47 = .ok (.iconst 2, 1) := by decide +kernel
theorem dX6_law_48 : decode cX6_law 48 = .ok (.irem, 1) := by decide +kernel
theorem dX6_law_49 : decode cX6_law 49 = .ok (.iconst 1, 1) := by decide +kernel
theorem dX6_law_50 : decode cX6_law 50 = .ok (.if_icmp .ne 7, 3) := by decide +kernel
theorem dX6_law_53 : decode cX6_law 53 = .ok (.iconst 1, 1) := by decide +kernel
theorem dX6_law_54 : decode cX6_law 54 = .ok (.goto 4, 3) := by decide +kernel
theorem dX6_law_57 : decode cX6_law 57 = .ok (.iconst 0, 1) := by decide +kernel
theorem dX6_law_58 : decode cX6_law 58 = .ok (.istore 4, 2) := by decide +kernel
theorem dX6_law_60 : decode cX6_law 60 = .ok (.iload_n 3, 1) := by decide +kernel
theorem dX6_law_61 : decode cX6_law 61 = .ok (.tableswitch 88 0 2 #[27, 44, 62], 27) := by decide +kernel
theorem dX6_law_88 : decode cX6_law 88 = .ok (.iload 4, 2) := by decide +kernel
theorem dX6_law_90 : decode cX6_law 90 = .ok (.ifCond .eq 12, 3) := by decide +kernel
theorem dX6_law_93 : decode cX6_law 93 = .ok (.iload_n 2, 1) := by decide +kernel
theorem dX6_law_94 : decode cX6_law 94 = .ok (.iconst 1, 1) := by decide +kernel
theorem dX6_law_95 : decode cX6_law 95 = .ok (.iadd, 1) := by decide +kernel
theorem dX6_law_96 : decode cX6_law 96 = .ok (.iconst 2, 1) := by decide +kernel
theorem dX6_law_97 : decode cX6_law 97 = .ok (.idiv, 1) := by decide +kernel
theorem dX6_law_98 : decode cX6_law 98 = .ok (.i2l, 1) := by decide +kernel
theorem dX6_law_99 : decode cX6_law 99 = .ok (.goto 5, 3) := by decide +kernel
theorem dX6_law_102 : decode cX6_law 102 = .ok (.iload_n 2, 1) := by decide +kernel
theorem dX6_law_103 : decode cX6_law 103 = .ok (.i2l, 1) := by decide +kernel
theorem dX6_law_104 : decode cX6_law 104 = .ok (.lreturn, 1) := by decide +kernel
theorem dX6_law_105 : decode cX6_law 105 = .ok (.iload 4, 2) := by decide +kernel
theorem dX6_law_107 : decode cX6_law 107 = .ok (.ifCond .eq 14, 3) := by decide +kernel
theorem dX6_law_110 : decode cX6_law 110 = .ok (.iload_n 2, 1) := by decide +kernel
theorem dX6_law_111 : decode cX6_law 111 = .ok (.iconst 1, 1) := by decide +kernel
theorem dX6_law_112 : decode cX6_law 112 = .ok (.if_icmp .le 9, 3) := by decide +kernel
theorem dX6_law_115 : decode cX6_law 115 = .ok (.ldc2_w 211, 3) := by decide +kernel
theorem dX6_law_118 : decode cX6_law 118 = .ok (.goto 4, 3) := by decide +kernel
theorem dX6_law_121 : decode cX6_law 121 = .ok (.lconst 1, 1) := by decide +kernel
theorem dX6_law_122 : decode cX6_law 122 = .ok (.lreturn, 1) := by decide +kernel
theorem dX6_law_123 : decode cX6_law 123 = .ok (.iload 4, 2) := by decide +kernel
theorem dX6_law_125 : decode cX6_law 125 = .ok (.ifCond .eq 21, 3) := by decide +kernel
theorem dX6_law_128 : decode cX6_law 128 = .ok (.iload_n 2, 1) := by decide +kernel
theorem dX6_law_129 : decode cX6_law 129 = .ok (.iconst 1, 1) := by decide +kernel
theorem dX6_law_130 : decode cX6_law 130 = .ok (.if_icmp .le 16, 3) := by decide +kernel
theorem dX6_law_133 : decode cX6_law 133 = .ok (.ldc2_w 211, 3) := by decide +kernel
theorem dX6_law_136 : decode cX6_law 136 = .ok (.iload_n 1, 1) := by decide +kernel
theorem dX6_law_137 : decode cX6_law 137 = .ok (.i2l, 1) := by decide +kernel
theorem dX6_law_138 : decode cX6_law 138 = .ok (.lmul, 1) := by decide +kernel
theorem dX6_law_139 : decode cX6_law 139 = .ok (.ldc2_w 211, 3) := by decide +kernel
theorem dX6_law_142 : decode cX6_law 142 = .ok (.ladd, 1) := by decide +kernel
theorem dX6_law_143 : decode cX6_law 143 = .ok (.goto 5, 3) := by decide +kernel
theorem dX6_law_146 : decode cX6_law 146 = .ok (.iload_n 1, 1) := by decide +kernel
theorem dX6_law_147 : decode cX6_law 147 = .ok (.i2l, 1) := by decide +kernel
theorem dX6_law_148 : decode cX6_law 148 = .ok (.lreturn, 1) := by decide +kernel
theorem dX6_law_149 : decode cX6_law 149 = .ok (.iload 4, 2) := by decide +kernel
theorem dX6_law_151 : decode cX6_law 151 = .ok (.ifCond .eq 29, 3) := by decide +kernel
theorem dX6_law_154 : decode cX6_law 154 = .ok (.iload_n 2, 1) := by decide +kernel
theorem dX6_law_155 : decode cX6_law 155 = .ok (.iconst 3, 1) := by decide +kernel
theorem dX6_law_156 : decode cX6_law 156 = .ok (.if_icmp .ge 7, 3) := by decide +kernel
theorem dX6_law_159 : decode cX6_law 159 = .ok (.lconst 0, 1) := by decide +kernel
theorem dX6_law_160 : decode cX6_law 160 = .ok (.goto 19, 3) := by decide +kernel
theorem dX6_law_163 : decode cX6_law 163 = .ok (.iload_n 2, 1) := by decide +kernel
theorem dX6_law_164 : decode cX6_law 164 = .ok (.iconst 3, 1) := by decide +kernel
theorem dX6_law_165 : decode cX6_law 165 = .ok (.if_icmp .ne 8, 3) := by decide +kernel
theorem dX6_law_168 : decode cX6_law 168 = .ok (.iload_n 1, 1) := by decide +kernel
theorem dX6_law_169 : decode cX6_law 169 = .ok (.i2l, 1) := by decide +kernel
theorem dX6_law_170 : decode cX6_law 170 = .ok (.goto 9, 3) := by decide +kernel
theorem dX6_law_173 : decode cX6_law 173 = .ok (.ldc2_w 211, 3) := by decide +kernel
theorem dX6_law_176 : decode cX6_law 176 = .ok (.iload_n 1, 1) := by decide +kernel
theorem dX6_law_177 : decode cX6_law 177 = .ok (.i2l, 1) := by decide +kernel
theorem dX6_law_178 : decode cX6_law 178 = .ok (.lmul, 1) := by decide +kernel
theorem dX6_law_179 : decode cX6_law 179 = .ok (.lreturn, 1) := by decide +kernel
theorem dX6_law_180 : decode cX6_law 180 = .ok (.iload_n 2, 1) := by decide +kernel
theorem dX6_law_181 : decode cX6_law 181 = .ok (.iconst 2, 1) := by decide +kernel
theorem dX6_law_182 : decode cX6_law 182 = .ok (.if_icmp .ge 7, 3) := by decide +kernel
theorem dX6_law_185 : decode cX6_law 185 = .ok (.lconst 0, 1) := by decide +kernel
theorem dX6_law_186 : decode cX6_law 186 = .ok (.goto 7, 3) := by decide +kernel
theorem dX6_law_189 : decode cX6_law 189 = .ok (.iload_n 1, 1) := by decide +kernel
theorem dX6_law_190 : decode cX6_law 190 = .ok (.iconst 2, 1) := by decide +kernel
theorem dX6_law_191 : decode cX6_law 191 = .ok (.idiv, 1) := by decide +kernel
theorem dX6_law_192 : decode cX6_law 192 = .ok (.i2l, 1) := by decide +kernel
theorem dX6_law_193 : decode cX6_law 193 = .ok (.lreturn, 1) := by decide +kernel
def m_X6_law_9  (μ : fm_I) (ν : fm_L) : Option (Int64 × fm_I × fm_L) :=
  (m_X6_no ((-5 : Int32)) μ ν).bind (fun r12 => some ((r12.1.toInt64, r12.2.1, r12.2.2)))
def m_X6_law_38  (μ : fm_I) (ν : fm_L) : Option (Int64 × fm_I × fm_L) :=
  (m_X6_no ((-6 : Int32)) μ ν).bind (fun r41 => some ((r41.1.toInt64, r41.2.1, r41.2.2)))
def m_X6_law_121  (μ : fm_I) (ν : fm_L) : Option (Int64 × fm_I × fm_L) :=
  some (((lN 1), μ, ν))
def m_X6_law_146 (v1 : Int32) (μ : fm_I) (ν : fm_L) : Option (Int64 × fm_I × fm_L) :=
  some ((v1.toInt64, μ, ν))
def m_X6_law_58 (v1 : Int32) (v2 : Int32) (v3 : Int32) (s0 : Int32) (μ : fm_I) (ν : fm_L) : Option (Int64 × fm_I × fm_L) :=
  if v3 = (nI 0) then if s0 = 0 then some ((v2.toInt64, μ, ν)) else some ((((((v2 + ((nI 1)))) / ((nI 2)))).toInt64, μ, ν)) else if v3 = (nI 1) then if s0 = 0 then m_X6_law_121  μ ν else if v2 ≤ (nI 1) then m_X6_law_121  μ ν else some (((lN 2), μ, ν)) else if v3 = (nI 2) then if s0 = 0 then m_X6_law_146 v1 μ ν else if v2 ≤ (nI 1) then m_X6_law_146 v1 μ ν else some (((((((lN 2)) * v1.toInt64)) + ((lN 2))), μ, ν)) else if s0 = 0 then if (nI 2) ≤ v2 then some ((((v1 / ((nI 2)))).toInt64, μ, ν)) else some (((lN 0), μ, ν)) else if (nI 3) ≤ v2 then if v2 = (nI 3) then some ((v1.toInt64, μ, ν)) else some (((((lN 2)) * v1.toInt64), μ, ν)) else some (((lN 0), μ, ν))
def m_X6_law (v1 : Int32) (v2 : Int32) (v3 : Int32) (μ : fm_I) (ν : fm_L) : Option (Int64 × fm_I × fm_L) :=
  if v3 < 0 then m_X6_law_9  μ ν else if v3 ≤ (nI 3) then if v1 < 0 then m_X6_law_38  μ ν else if (nI 1000000000) < v1 then m_X6_law_38  μ ν else if v2 < (nI 1) then m_X6_law_38  μ ν else if v2 ≤ (nI 1000000000) then if (v1 - v1 / ((nI 2)) * ((nI 2))) = (nI 1) then m_X6_law_58 v1 v2 v3 ((nI 1)) μ ν else m_X6_law_58 v1 v2 v3 ((nI 0)) μ ν else m_X6_law_38  μ ν else m_X6_law_9  μ ν
theorem ok_X6_law : fm_okV yX6_law cX6_law 5 (some .long) 3 := ⟨m_cd_X6_law, m_im_X6_law, m_se_X6_X6_law, m_ini_X6, by decide +kernel, by decide +kernel, by decide +kernel⟩
set_option maxHeartbeats 4000000 in
set_option maxRecDepth 100000 in
theorem j_X6_law_9_ {X : fm_X} {G : fm_G} {l : Launch}  {μ : fm_I} {ν : fm_L} (C : fm_C X G l cX6_law RX6 5 (some .long) 2 33) {F : (Int64 × fm_I × fm_L) → State → Prop} (hF : F = fm_Ql X G)  : fm_J X G 5 F (m_X6_law_9  μ ν) μ ν 9 [(0, .ref (G.2.2.1 58))] [] := by
  unfold m_X6_law_9
  refine fm_aload_n (pc := 9) C dX6_law_9 rfl rfl ?_
  refine fm_bipush (pc := 10) (v := (-5 : Int32)) C dX6_law_10 (by decide) ?_
  refine fm_bind (fun r12 e12 => ?_)
  refine fm_cVi (pc := 12) C (t_X6_no e12) ok_X6_no ⟨by decide, rfl⟩ m_ml_X6_95 dX6_law_12 ⟨Nat.le_of_ble_eq_true rfl, Nat.le_of_ble_eq_true rfl⟩ rfl rfl (Nat.le_of_ble_eq_true rfl) ?_
  refine fm_i2l (pc := 15) C dX6_law_15 ?_
  exact fm_lret (pc := 16) C hF rfl dX6_law_16
set_option maxHeartbeats 4000000 in
set_option maxRecDepth 100000 in
theorem j_X6_law_38_ {X : fm_X} {G : fm_G} {l : Launch}  {μ : fm_I} {ν : fm_L} (C : fm_C X G l cX6_law RX6 5 (some .long) 2 33) {F : (Int64 × fm_I × fm_L) → State → Prop} (hF : F = fm_Ql X G)  : fm_J X G 5 F (m_X6_law_38  μ ν) μ ν 38 [(0, .ref (G.2.2.1 58))] [] := by
  unfold m_X6_law_38
  refine fm_aload_n (pc := 38) C dX6_law_38 rfl rfl ?_
  refine fm_bipush (pc := 39) (v := (-6 : Int32)) C dX6_law_39 (by decide) ?_
  refine fm_bind (fun r41 e41 => ?_)
  refine fm_cVi (pc := 41) C (t_X6_no e41) ok_X6_no ⟨by decide, rfl⟩ m_ml_X6_95 dX6_law_41 ⟨Nat.le_of_ble_eq_true rfl, Nat.le_of_ble_eq_true rfl⟩ rfl rfl (Nat.le_of_ble_eq_true rfl) ?_
  refine fm_i2l (pc := 44) C dX6_law_44 ?_
  exact fm_lret (pc := 45) C hF rfl dX6_law_45
set_option maxHeartbeats 4000000 in
set_option maxRecDepth 100000 in
theorem j_X6_law_121_ {X : fm_X} {G : fm_G} {l : Launch}  {μ : fm_I} {ν : fm_L} (C : fm_C X G l cX6_law RX6 5 (some .long) 2 33) {F : (Int64 × fm_I × fm_L) → State → Prop} (hF : F = fm_Ql X G)  : fm_J X G 5 F (m_X6_law_121  μ ν) μ ν 121 [] [] := by
  unfold m_X6_law_121
  refine fm_lconst (pc := 121) (v := lN 1) C dX6_law_121 (by decide) ?_
  exact fm_lret (pc := 122) C hF rfl dX6_law_122
set_option maxHeartbeats 4000000 in
set_option maxRecDepth 100000 in
theorem j_X6_law_146_ {X : fm_X} {G : fm_G} {l : Launch} {v1 : Int32} {μ : fm_I} {ν : fm_L} (C : fm_C X G l cX6_law RX6 5 (some .long) 2 33) {F : (Int64 × fm_I × fm_L) → State → Prop} (hF : F = fm_Ql X G)  : fm_J X G 5 F (m_X6_law_146 v1 μ ν) μ ν 146 [(1, .int v1)] [] := by
  unfold m_X6_law_146
  refine fm_iload_n (pc := 146) C dX6_law_146 rfl rfl ?_
  refine fm_i2l (pc := 147) C dX6_law_147 ?_
  exact fm_lret (pc := 148) C hF rfl dX6_law_148
set_option maxHeartbeats 4000000 in
set_option maxRecDepth 100000 in
theorem j_X6_law_58_ {X : fm_X} {G : fm_G} {l : Launch} {v1 : Int32} {v2 : Int32} {v3 : Int32} {s0 : Int32} {μ : fm_I} {ν : fm_L} (C : fm_C X G l cX6_law RX6 5 (some .long) 2 33) {F : (Int64 × fm_I × fm_L) → State → Prop} (hF : F = fm_Ql X G)  : fm_J X G 5 F (m_X6_law_58 v1 v2 v3 s0 μ ν) μ ν 58 [(1, .int v1), (2, .int v2), (3, .int v3)] [.int s0] := by
  unfold m_X6_law_58
  refine fm_istore (pc := 58) C dX6_law_58 (by decide) rfl ?_
  refine fm_iload_n (pc := 60) C dX6_law_60 rfl rfl ?_
  refine fm_ite (fun s8 => ?_) (fun s8 => ?_)
  · refine fm_tabIn (pc := 61) (tgt := 88) (off := 27) C dX6_law_61 (by rw [s8]; decide) (by rw [s8]; decide) (by rw [s8]; decide) (by decide) ?_
    refine fm_iload (pc := 88) C dX6_law_88 rfl ?_
    refine fm_if_eq (pc := 90) (tgt := 102) C dX6_law_90 (by decide) (fun c9 => ?_) (fun c9 => ?_)
    · refine fm_iload_n (pc := 102) C dX6_law_102 rfl rfl ?_
      refine fm_i2l (pc := 103) C dX6_law_103 ?_
      exact fm_lret (pc := 104) C hF rfl dX6_law_104
    · refine fm_iload_n (pc := 93) C dX6_law_93 rfl rfl ?_
      refine fm_iconst (pc := 94) (v := (nI 1)) C dX6_law_94 (by decide) ?_
      refine fm_iadd (pc := 95) C dX6_law_95 ?_
      refine fm_iconst (pc := 96) (v := (nI 2)) C dX6_law_96 (by decide) ?_
      refine fm_idiv (pc := 97) C dX6_law_97 (by decide) ?_
      refine fm_i2l (pc := 98) C dX6_law_98 ?_
      refine fm_goto (pc := 99) (tgt := 104) C dX6_law_99 (by decide) ?_
      exact fm_lret (pc := 104) C hF rfl dX6_law_104
  · refine fm_ite (fun s10 => ?_) (fun s10 => ?_)
    · refine fm_tabIn (pc := 61) (tgt := 105) (off := 44) C dX6_law_61 (by rw [s10]; decide) (by rw [s10]; decide) (by rw [s10]; decide) (by decide) ?_
      refine fm_iload (pc := 105) C dX6_law_105 rfl ?_
      refine fm_if_eq (pc := 107) (tgt := 121) C dX6_law_107 (by decide) (fun c11 => ?_) (fun c11 => ?_)
      · refine fm_less (lv' := []) (by repeat (first | exact trivial | refine ⟨rfl, ?_⟩)) ?_
        exact j_X6_law_121_ C hF 
      · refine fm_iload_n (pc := 110) C dX6_law_110 rfl rfl ?_
        refine fm_iconst (pc := 111) (v := (nI 1)) C dX6_law_111 (by decide) ?_
        refine fm_icmp_le (pc := 112) (tgt := 121) C dX6_law_112 (by decide) (fun c12 => ?_) (fun c12 => ?_)
        · refine fm_less (lv' := []) (by repeat (first | exact trivial | refine ⟨rfl, ?_⟩)) ?_
          exact j_X6_law_121_ C hF 
        · refine fm_ldc2 (pc := 115) (v := (lN 2)) C dX6_law_115 m_cl_X6_211 ?_
          refine fm_goto (pc := 118) (tgt := 122) C dX6_law_118 (by decide) ?_
          exact fm_lret (pc := 122) C hF rfl dX6_law_122
    · refine fm_ite (fun s13 => ?_) (fun s13 => ?_)
      · refine fm_tabIn (pc := 61) (tgt := 123) (off := 62) C dX6_law_61 (by rw [s13]; decide) (by rw [s13]; decide) (by rw [s13]; decide) (by decide) ?_
        refine fm_iload (pc := 123) C dX6_law_123 rfl ?_
        refine fm_if_eq (pc := 125) (tgt := 146) C dX6_law_125 (by decide) (fun c14 => ?_) (fun c14 => ?_)
        · refine fm_less (lv' := [(1, .int v1)]) (by repeat (first | exact trivial | refine ⟨rfl, ?_⟩)) ?_
          exact j_X6_law_146_ C hF 
        · refine fm_iload_n (pc := 128) C dX6_law_128 rfl rfl ?_
          refine fm_iconst (pc := 129) (v := (nI 1)) C dX6_law_129 (by decide) ?_
          refine fm_icmp_le (pc := 130) (tgt := 146) C dX6_law_130 (by decide) (fun c15 => ?_) (fun c15 => ?_)
          · refine fm_less (lv' := [(1, .int v1)]) (by repeat (first | exact trivial | refine ⟨rfl, ?_⟩)) ?_
            exact j_X6_law_146_ C hF 
          · refine fm_ldc2 (pc := 133) (v := (lN 2)) C dX6_law_133 m_cl_X6_211 ?_
            refine fm_iload_n (pc := 136) C dX6_law_136 rfl rfl ?_
            refine fm_i2l (pc := 137) C dX6_law_137 ?_
            refine fm_lmul (pc := 138) C dX6_law_138 ?_
            refine fm_ldc2 (pc := 139) (v := (lN 2)) C dX6_law_139 m_cl_X6_211 ?_
            refine fm_ladd (pc := 142) C dX6_law_142 ?_
            refine fm_goto (pc := 143) (tgt := 148) C dX6_law_143 (by decide) ?_
            exact fm_lret (pc := 148) C hF rfl dX6_law_148
      · refine fm_tabOut (pc := 61) (tgt := 149) C dX6_law_61 (by have a0 := fm_ne (nI 0) (k := 0) (by decide) s8; have a1 := fm_ne (nI 1) (k := 1) (by decide) s10; have a2 := fm_ne (nI 2) (k := 2) (by decide) s13; omega) (by decide) ?_
        refine fm_iload (pc := 149) C dX6_law_149 rfl ?_
        refine fm_if_eq (pc := 151) (tgt := 180) C dX6_law_151 (by decide) (fun c16 => ?_) (fun c16 => ?_)
        · refine fm_iload_n (pc := 180) C dX6_law_180 rfl rfl ?_
          refine fm_iconst (pc := 181) (v := (nI 2)) C dX6_law_181 (by decide) ?_
          refine fm_icmp_ge (pc := 182) (tgt := 189) C dX6_law_182 (by decide) (fun c17 => ?_) (fun c17 => ?_)
          · refine fm_iload_n (pc := 189) C dX6_law_189 rfl rfl ?_
            refine fm_iconst (pc := 190) (v := (nI 2)) C dX6_law_190 (by decide) ?_
            refine fm_idiv (pc := 191) C dX6_law_191 (by decide) ?_
            refine fm_i2l (pc := 192) C dX6_law_192 ?_
            exact fm_lret (pc := 193) C hF rfl dX6_law_193
          · refine fm_lconst (pc := 185) (v := lN 0) C dX6_law_185 (by decide) ?_
            refine fm_goto (pc := 186) (tgt := 193) C dX6_law_186 (by decide) ?_
            exact fm_lret (pc := 193) C hF rfl dX6_law_193
        · refine fm_iload_n (pc := 154) C dX6_law_154 rfl rfl ?_
          refine fm_iconst (pc := 155) (v := (nI 3)) C dX6_law_155 (by decide) ?_
          refine fm_icmp_ge (pc := 156) (tgt := 163) C dX6_law_156 (by decide) (fun c18 => ?_) (fun c18 => ?_)
          · refine fm_iload_n (pc := 163) C dX6_law_163 rfl rfl ?_
            refine fm_iconst (pc := 164) (v := (nI 3)) C dX6_law_164 (by decide) ?_
            refine fm_icmp_ne (pc := 165) (tgt := 173) C dX6_law_165 (by decide) (fun c19 => ?_) (fun c19 => ?_)
            · refine fm_iload_n (pc := 168) C dX6_law_168 rfl rfl ?_
              refine fm_i2l (pc := 169) C dX6_law_169 ?_
              refine fm_goto (pc := 170) (tgt := 179) C dX6_law_170 (by decide) ?_
              exact fm_lret (pc := 179) C hF rfl dX6_law_179
            · refine fm_ldc2 (pc := 173) (v := (lN 2)) C dX6_law_173 m_cl_X6_211 ?_
              refine fm_iload_n (pc := 176) C dX6_law_176 rfl rfl ?_
              refine fm_i2l (pc := 177) C dX6_law_177 ?_
              refine fm_lmul (pc := 178) C dX6_law_178 ?_
              exact fm_lret (pc := 179) C hF rfl dX6_law_179
          · refine fm_lconst (pc := 159) (v := lN 0) C dX6_law_159 (by decide) ?_
            refine fm_goto (pc := 160) (tgt := 179) C dX6_law_160 (by decide) ?_
            exact fm_lret (pc := 179) C hF rfl dX6_law_179
set_option maxHeartbeats 4000000 in
set_option maxRecDepth 100000 in
theorem j_X6_law {X : fm_X} {G : fm_G} {l : Launch} {v1 : Int32} {v2 : Int32} {v3 : Int32} {μ : fm_I} {ν : fm_L} (C : fm_C X G l cX6_law RX6 5 (some .long) 2 33) {F : (Int64 × fm_I × fm_L) → State → Prop} (hF : F = fm_Ql X G) : fm_J X G 5 F (m_X6_law v1 v2 v3 μ ν) μ ν 0 [(0, .ref (G.2.2.1 58)), (1, .int v1), (2, .int v2), (3, .int v3)] [] := by
  unfold m_X6_law
  refine fm_iload_n (pc := 0) C dX6_law_0 rfl rfl ?_
  refine fm_if_lt (pc := 1) (tgt := 9) C dX6_law_1 (by decide) (fun c1 => ?_) (fun c1 => ?_)
  · refine fm_less (lv' := [(0, .ref (G.2.2.1 58))]) (by repeat (first | exact trivial | refine ⟨rfl, ?_⟩)) ?_
    exact j_X6_law_9_ C hF 
  · refine fm_iload_n (pc := 4) C dX6_law_4 rfl rfl ?_
    refine fm_iconst (pc := 5) (v := (nI 3)) C dX6_law_5 (by decide) ?_
    refine fm_icmp_le (pc := 6) (tgt := 17) C dX6_law_6 (by decide) (fun c2 => ?_) (fun c2 => ?_)
    · refine fm_iload_n (pc := 17) C dX6_law_17 rfl rfl ?_
      refine fm_if_lt (pc := 18) (tgt := 38) C dX6_law_18 (by decide) (fun c3 => ?_) (fun c3 => ?_)
      · refine fm_less (lv' := [(0, .ref (G.2.2.1 58))]) (by repeat (first | exact trivial | refine ⟨rfl, ?_⟩)) ?_
        exact j_X6_law_38_ C hF 
      · refine fm_iload_n (pc := 21) C dX6_law_21 rfl rfl ?_
        refine fm_ldc (pc := 22) (v := (nI 1000000000)) C dX6_law_22 m_ct_X6_210 ?_
        refine fm_icmp_gt (pc := 24) (tgt := 38) C dX6_law_24 (by decide) (fun c4 => ?_) (fun c4 => ?_)
        · refine fm_less (lv' := [(0, .ref (G.2.2.1 58))]) (by repeat (first | exact trivial | refine ⟨rfl, ?_⟩)) ?_
          exact j_X6_law_38_ C hF 
        · refine fm_iload_n (pc := 27) C dX6_law_27 rfl rfl ?_
          refine fm_iconst (pc := 28) (v := (nI 1)) C dX6_law_28 (by decide) ?_
          refine fm_icmp_lt (pc := 29) (tgt := 38) C dX6_law_29 (by decide) (fun c5 => ?_) (fun c5 => ?_)
          · refine fm_less (lv' := [(0, .ref (G.2.2.1 58))]) (by repeat (first | exact trivial | refine ⟨rfl, ?_⟩)) ?_
            exact j_X6_law_38_ C hF 
          · refine fm_iload_n (pc := 32) C dX6_law_32 rfl rfl ?_
            refine fm_ldc (pc := 33) (v := (nI 1000000000)) C dX6_law_33 m_ct_X6_210 ?_
            refine fm_icmp_le (pc := 35) (tgt := 46) C dX6_law_35 (by decide) (fun c6 => ?_) (fun c6 => ?_)
            · refine fm_iload_n (pc := 46) C dX6_law_46 rfl rfl ?_
              refine fm_iconst (pc := 47) (v := (nI 2)) C dX6_law_47 (by decide) ?_
              refine fm_irem (pc := 48) C dX6_law_48 (by decide) ?_
              refine fm_iconst (pc := 49) (v := (nI 1)) C dX6_law_49 (by decide) ?_
              refine fm_icmp_ne (pc := 50) (tgt := 57) C dX6_law_50 (by decide) (fun c7 => ?_) (fun c7 => ?_)
              · refine fm_iconst (pc := 53) (v := (nI 1)) C dX6_law_53 (by decide) ?_
                refine fm_goto (pc := 54) (tgt := 58) C dX6_law_54 (by decide) ?_
                refine fm_less (lv' := [(1, .int v1), (2, .int v2), (3, .int v3)]) (by repeat (first | exact trivial | refine ⟨rfl, ?_⟩)) ?_
                exact j_X6_law_58_ C hF 
              · refine fm_iconst (pc := 57) (v := (nI 0)) C dX6_law_57 (by decide) ?_
                refine fm_less (lv' := [(1, .int v1), (2, .int v2), (3, .int v3)]) (by repeat (first | exact trivial | refine ⟨rfl, ?_⟩)) ?_
                exact j_X6_law_58_ C hF 
            · refine fm_less (lv' := [(0, .ref (G.2.2.1 58))]) (by repeat (first | exact trivial | refine ⟨rfl, ?_⟩)) ?_
              exact j_X6_law_38_ C hF 
    · refine fm_less (lv' := [(0, .ref (G.2.2.1 58))]) (by repeat (first | exact trivial | refine ⟨rfl, ?_⟩)) ?_
      exact j_X6_law_9_ C hF 
theorem t_X6_law {l : Launch} {G : fm_G} {v1 : Int32} {v2 : Int32} {v3 : Int32} {μ : fm_I} {ν : fm_L} {r : Int64 × fm_I × fm_L} (h : m_X6_law v1 v2 v3 μ ν = some r) : fm_Ml l G yX6_law cX6_law 5 (some .long) 2 33 [.ref (G.2.2.1 58), .int v1, .int v2, .int v3] μ ν r := fm_Ml_of (by decide +kernel) (Nat.le_of_ble_eq_true rfl) (fun _ C => j_X6_law C rfl r h)
theorem dX6_judge_0 : decode cX6_judge 0 = .ok (.aload_n 0, 1) := by decide +kernel
theorem dX6_judge_1 : decode cX6_judge 1 = .ok (.iload_n 1, 1) := by decide +kernel
theorem dX6_judge_2 : decode cX6_judge 2 = .ok (.iload_n 2, 1) := by decide +kernel
theorem dX6_judge_3 : decode cX6_judge 3 = .ok (.iload_n 3, 1) := by decide +kernel
theorem dX6_judge_4 : decode cX6_judge 4 = .ok (.invokevirtual 213, 3) := by decide +kernel
theorem dX6_judge_7 : decode cX6_judge 7 = .ok (.istore 4, 2) := by decide +kernel
theorem dX6_judge_9 : decode cX6_judge 9 = .ok (.iload 4, 2) := by decide +kernel
theorem dX6_judge_11 : decode cX6_judge 11 = .ok (.ifCond .eq 10, 3) := by decide +kernel
theorem dX6_judge_14 : decode cX6_judge 14 = .ok (.aload_n 0, 1) := by decide +kernel
theorem dX6_judge_15 : decode cX6_judge 15 = .ok (.iload 4, 2) := by decide +kernel
theorem dX6_judge_17 : decode cX6_judge 17 = .ok (.invokevirtual 216, 3) := by decide +kernel
theorem dX6_judge_20 : decode cX6_judge 20 = .ok (.ireturn, 1) := by decide +kernel
theorem dX6_judge_21 : decode cX6_judge 21 = .ok (.aload_n 0, 1) := by decide +kernel
theorem dX6_judge_22 : decode cX6_judge 22 = .ok (.iload_n 1, 1) := by decide +kernel
theorem dX6_judge_23 : decode cX6_judge 23 = .ok (.invokevirtual 175, 3) := by decide +kernel
theorem dX6_judge_26 : decode cX6_judge 26 = .ok (.iconst 0, 1) := by decide +kernel
theorem dX6_judge_27 : decode cX6_judge 27 = .ok (.istore 5, 2) := by decide +kernel
theorem dX6_judge_29 : decode cX6_judge 29 = .ok (.iload 5, 2) := by decide +kernel
theorem dX6_judge_31 : decode cX6_judge 31 = .ok (.iload_n 3, 1) := by decide +kernel
theorem dX6_judge_32 : decode cX6_judge 32 = .ok (.if_icmp .ge 38, 3) := by decide +kernel
theorem dX6_judge_35 : decode cX6_judge 35 = .ok (.iload 5, 2) := by decide +kernel
theorem dX6_judge_37 : decode cX6_judge 37 = .ok (.aload_n 0, 1) := by decide +kernel
theorem dX6_judge_38 : decode cX6_judge 38 = .ok (.getfield 172, 3) := by decide +kernel
theorem dX6_judge_41 : decode cX6_judge 41 = .ok (.if_icmp .ge 20, 3) := by decide +kernel
theorem dX6_judge_44 : decode cX6_judge 44 = .ok (.aload_n 0, 1) := by decide +kernel
theorem dX6_judge_45 : decode cX6_judge 45 = .ok (.iload_n 2, 1) := by decide +kernel
theorem dX6_judge_46 : decode cX6_judge 46 = .ok (.iload 5, 2) := by decide +kernel
theorem dX6_judge_48 : decode cX6_judge 48 = .ok (.invokevirtual 219, 3) := by decide +kernel
theorem dX6_judge_51 : decode cX6_judge 51 = .ok (.aload_n 0, 1) := by decide +kernel
theorem dX6_judge_52 : decode cX6_judge 52 = .ok (.getfield 72, 3) := by decide +kernel
theorem dX6_judge_55 : decode cX6_judge 55 = .ok (.iload 5, 2) := by decide +kernel
theorem dX6_judge_57 : decode cX6_judge 57 = .ok (.iaload, 1) := by decide +kernel
theorem dX6_judge_58 : decode cX6_judge 58 = .ok (.if_icmp .eq 6, 3) := by decide +kernel
theorem dX6_judge_61 : decode cX6_judge 61 = .ok (.iload 5, 2) := by decide +kernel
theorem dX6_judge_63 : decode cX6_judge 63 = .ok (.ireturn, 1) := by decide +kernel
theorem dX6_judge_64 : decode cX6_judge 64 = .ok (.iinc 5 1, 3) := by decide +kernel
theorem dX6_judge_67 : decode cX6_judge 67 = .ok (.goto (-38), 3) := by decide +kernel
theorem dX6_judge_70 : decode cX6_judge 70 = .ok (.aload_n 0, 1) := by decide +kernel
theorem dX6_judge_71 : decode cX6_judge 71 = .ok (.getfield 172, 3) := by decide +kernel
theorem dX6_judge_74 : decode cX6_judge 74 = .ok (.iload_n 3, 1) := by decide +kernel
theorem dX6_judge_75 : decode cX6_judge 75 = .ok (.if_icmp .le 7, 3) := by decide +kernel
theorem dX6_judge_78 : decode cX6_judge 78 = .ok (.iload_n 3, 1) := by decide +kernel
theorem dX6_judge_79 : decode cX6_judge 79 = .ok (.goto 4, 3) := by decide +kernel
theorem dX6_judge_82 : decode cX6_judge 82 = .ok (.iconst (-1), 1) := by decide +kernel
theorem dX6_judge_83 : decode cX6_judge 83 = .ok (.ireturn, 1) := by decide +kernel
def m_X6_judge_29 (v2 : Int32) (v3 : Int32) (μ : fm_I) (ν : fm_L) (K : Option (Int32 × fm_I × fm_L)) : Nat → Int32 → Option (Int32 × fm_I × fm_L)
  | 0, _ => none
  | k + 1, v5 => if v3 ≤ v5 then K else if (μ 58 28) ≤ v5 then some ((v5, μ, ν)) else (m_X6_intAt v2 v5 μ ν).bind (fun r48 => fm_g (fm_in v5 (fm_n 77)) (if r48 = (μ 77 v5.toNatClampNeg) then m_X6_judge_29 v2 v3 μ ν K k ((v5 + nI 1)) else some ((v5, μ, ν))))
def m_X6_judge (v1 : Int32) (v2 : Int32) (v3 : Int32) (μ : fm_I) (ν : fm_L) : Option (Int32 × fm_I × fm_L) :=
  (m_X6_bars v1 v2 v3 μ ν).bind (fun r4 => if r4 = 0 then (m_X6_cuts v1 μ ν).bind (fun r23 => m_X6_judge_29 v2 v3 r23.1 r23.2 (if (r23.1 58 28) ≤ v3 then some (((-1 : Int32), r23.1, r23.2)) else some ((v3, r23.1, r23.2))) 5000 ((nI 0))) else (m_X6_noTen r4 μ ν).bind (fun r17 => some ((r17.1, r17.2.1, r17.2.2))))
theorem ok_X6_judge : fm_okV yX6_judge cX6_judge 6 (some .int) 3 := ⟨m_cd_X6_judge, m_im_X6_judge, m_se_X6_X6_judge, m_ini_X6, by decide +kernel, by decide +kernel, by decide +kernel⟩
set_option maxHeartbeats 4000000 in
set_option maxRecDepth 100000 in
theorem j_X6_judge_29_ {X : fm_X} {G : fm_G} {l : Launch} {v2 : Int32} {v3 : Int32} {μ : fm_I} {ν : fm_L} (C : fm_C X G l cX6_judge RX6 6 (some .int) 4 82) {F : (Int32 × fm_I × fm_L) → State → Prop} (hF : F = fm_Qi X G)  {K : Option (Int32 × fm_I × fm_L)} (hK : fm_J X G 6 F (K ) μ ν 70 [(0, .ref (G.2.2.1 58)), (3, .int v3)] []) : ∀ (k : Nat) (v5 : Int32), fm_J X G 6 F (m_X6_judge_29 v2 v3 μ ν K k v5) μ ν 29 [(0, .ref (G.2.2.1 58)), (2, .int v2), (3, .int v3), (5, .int v5)] [] := by
  intro k
  induction k with
  | zero =>
    intro v5
    exact fm_none
  | succ k ih =>
    intro v5
    rw [m_X6_judge_29]
    refine fm_iload (pc := 29) C dX6_judge_29 rfl ?_
    refine fm_iload_n (pc := 31) C dX6_judge_31 rfl rfl ?_
    refine fm_icmp_ge (pc := 32) (tgt := 70) C dX6_judge_32 (by decide) (fun c2 => ?_) (fun c2 => ?_)
    · refine fm_less (lv' := [(0, .ref (G.2.2.1 58)), (3, .int v3)]) (by repeat (first | exact trivial | refine ⟨rfl, ?_⟩)) ?_
      exact hK
    · refine fm_iload (pc := 35) C dX6_judge_35 rfl ?_
      refine fm_aload_n (pc := 37) C dX6_judge_37 rfl rfl ?_
      refine g6_pieces (pc := 38) C (by decide) dX6_judge_38 m_fl_X6_172 ?_
      refine fm_icmp_ge (pc := 41) (tgt := 61) C dX6_judge_41 (by decide) (fun c3 => ?_) (fun c3 => ?_)
      · refine fm_iload (pc := 61) C dX6_judge_61 rfl ?_
        exact fm_zret (pc := 63) C hF rfl rfl dX6_judge_63
      · refine fm_aload_n (pc := 44) C dX6_judge_44 rfl rfl ?_
        refine fm_iload_n (pc := 45) C dX6_judge_45 rfl rfl ?_
        refine fm_iload (pc := 46) C dX6_judge_46 rfl ?_
        refine fm_bind (fun r48 e48 => ?_)
        refine fm_cVi0 (pc := 48) C (t_X6_intAt e48) ok_X6_intAt ⟨by decide, rfl⟩ m_ml_X6_219 dX6_judge_48 ⟨Nat.le_of_ble_eq_true rfl, Nat.le_of_ble_eq_true rfl⟩ rfl rfl (Nat.le_of_ble_eq_true rfl) ?_
        refine fm_aload_n (pc := 51) C dX6_judge_51 rfl rfl ?_
        refine g6_many (pc := 52) C (by decide) dX6_judge_52 m_fl_X6_72 ?_
        refine fm_iload (pc := 55) C dX6_judge_55 rfl ?_
        refine fm_guard (fun h4 => ?_)
        refine fm_iald (pc := 57) C (by decide) h4 dX6_judge_57 ?_
        refine fm_icmp_eq (pc := 58) (tgt := 64) C dX6_judge_58 (by decide) (fun c5 => ?_) (fun c5 => ?_)
        · refine fm_iinc (pc := 64) C dX6_judge_64 rfl (v := (v5 + nI 1)) rfl (by decide) rfl ?_
          refine fm_goto (pc := 67) (tgt := 29) C dX6_judge_67 (by decide) ?_
          refine fm_less (lv' := [(0, .ref (G.2.2.1 58)), (2, .int v2), (3, .int v3), (5, .int ((v5 + nI 1)))]) (by repeat (first | exact trivial | refine ⟨rfl, ?_⟩)) ?_
          exact ih _
        · refine fm_iload (pc := 61) C dX6_judge_61 rfl ?_
          exact fm_zret (pc := 63) C hF rfl rfl dX6_judge_63
set_option maxHeartbeats 4000000 in
set_option maxRecDepth 100000 in
theorem j_X6_judge {X : fm_X} {G : fm_G} {l : Launch} {v1 : Int32} {v2 : Int32} {v3 : Int32} {μ : fm_I} {ν : fm_L} (C : fm_C X G l cX6_judge RX6 6 (some .int) 4 82) {F : (Int32 × fm_I × fm_L) → State → Prop} (hF : F = fm_Qi X G) : fm_J X G 6 F (m_X6_judge v1 v2 v3 μ ν) μ ν 0 [(0, .ref (G.2.2.1 58)), (1, .int v1), (2, .int v2), (3, .int v3)] [] := by
  unfold m_X6_judge
  refine fm_aload_n (pc := 0) C dX6_judge_0 rfl rfl ?_
  refine fm_iload_n (pc := 1) C dX6_judge_1 rfl rfl ?_
  refine fm_iload_n (pc := 2) C dX6_judge_2 rfl rfl ?_
  refine fm_iload_n (pc := 3) C dX6_judge_3 rfl rfl ?_
  refine fm_bind (fun r4 e4 => ?_)
  refine fm_cVi0 (pc := 4) C (t_X6_bars e4) ok_X6_bars ⟨by decide, rfl⟩ m_ml_X6_213 dX6_judge_4 ⟨Nat.le_of_ble_eq_true rfl, Nat.le_of_ble_eq_true rfl⟩ rfl rfl (Nat.le_of_ble_eq_true rfl) ?_
  refine fm_istore (pc := 7) C dX6_judge_7 (by decide) rfl ?_
  refine fm_iload (pc := 9) C dX6_judge_9 rfl ?_
  refine fm_if_eq (pc := 11) (tgt := 21) C dX6_judge_11 (by decide) (fun c1 => ?_) (fun c1 => ?_)
  · refine fm_aload_n (pc := 21) C dX6_judge_21 rfl rfl ?_
    refine fm_iload_n (pc := 22) C dX6_judge_22 rfl rfl ?_
    refine fm_bind (fun r23 e23 => ?_)
    refine fm_cVv (pc := 23) C (t_X6_cuts e23) ok_X6_cuts ⟨by decide, rfl⟩ m_ml_X6_175 dX6_judge_23 ⟨Nat.le_of_ble_eq_true rfl, Nat.le_of_ble_eq_true rfl⟩ rfl rfl (Nat.le_of_ble_eq_true rfl) ?_
    refine fm_iconst (pc := 26) (v := (nI 0)) C dX6_judge_26 (by decide) ?_
    refine fm_istore (pc := 27) C dX6_judge_27 (by decide) rfl ?_
    refine fm_less (lv' := [(0, .ref (G.2.2.1 58)), (2, .int v2), (3, .int v3), (5, .int ((nI 0)))]) (by repeat (first | exact trivial | refine ⟨rfl, ?_⟩)) ?_
    refine j_X6_judge_29_ C (v2 := v2) (v3 := v3) hF  ?_ _ _
    refine fm_aload_n (pc := 70) C dX6_judge_70 rfl rfl ?_
    refine g6_pieces (pc := 71) C (by decide) dX6_judge_71 m_fl_X6_172 ?_
    refine fm_iload_n (pc := 74) C dX6_judge_74 rfl rfl ?_
    refine fm_icmp_le (pc := 75) (tgt := 82) C dX6_judge_75 (by decide) (fun c6 => ?_) (fun c6 => ?_)
    · refine fm_iconst (pc := 82) (v := (-1 : Int32)) C dX6_judge_82 (by decide) ?_
      exact fm_zret (pc := 83) C hF rfl rfl dX6_judge_83
    · refine fm_iload_n (pc := 78) C dX6_judge_78 rfl rfl ?_
      refine fm_goto (pc := 79) (tgt := 83) C dX6_judge_79 (by decide) ?_
      exact fm_zret (pc := 83) C hF rfl rfl dX6_judge_83
  · refine fm_aload_n (pc := 14) C dX6_judge_14 rfl rfl ?_
    refine fm_iload (pc := 15) C dX6_judge_15 rfl ?_
    refine fm_bind (fun r17 e17 => ?_)
    refine fm_cVi (pc := 17) C (t_X6_noTen e17) ok_X6_noTen ⟨by decide, rfl⟩ m_ml_X6_216 dX6_judge_17 ⟨Nat.le_of_ble_eq_true rfl, Nat.le_of_ble_eq_true rfl⟩ rfl rfl (Nat.le_of_ble_eq_true rfl) ?_
    exact fm_zret (pc := 20) C hF rfl rfl dX6_judge_20
theorem t_X6_judge {l : Launch} {G : fm_G} {v1 : Int32} {v2 : Int32} {v3 : Int32} {μ : fm_I} {ν : fm_L} {r : Int32 × fm_I × fm_L} (h : m_X6_judge v1 v2 v3 μ ν = some r) : fm_Mi l G yX6_judge cX6_judge 6 (some .int) 4 82 [.ref (G.2.2.1 58), .int v1, .int v2, .int v3] μ ν r := fm_Mi_of (by decide +kernel) (Nat.le_of_ble_eq_true rfl) (fun _ C => j_X6_judge C rfl r h)
theorem dX6_isFit_0 : decode cX6_isFit 0 = .ok (.aload_n 0, 1) := by decide +kernel
theorem dX6_isFit_1 : decode cX6_isFit 1 = .ok (.iload_n 1, 1) := by decide +kernel
theorem dX6_isFit_2 : decode cX6_isFit 2 = .ok (.invokevirtual 175, 3) := by decide +kernel
theorem dX6_isFit_5 : decode cX6_isFit 5 = .ok (.aload_n 0, 1) := by decide +kernel
theorem dX6_isFit_6 : decode cX6_isFit 6 = .ok (.getfield 172, 3) := by decide +kernel
theorem dX6_isFit_9 : decode cX6_isFit 9 = .ok (.iload_n 3, 1) := by decide +kernel
theorem dX6_isFit_10 : decode cX6_isFit 10 = .ok (.if_icmp .eq 5, 3) := by decide +kernel
theorem dX6_isFit_13 : decode cX6_isFit 13 = .ok (.iconst 0, 1) := by decide +kernel
theorem dX6_isFit_14 : decode cX6_isFit 14 = .ok (.ireturn, 1) := by decide +kernel
theorem dX6_isFit_15 : decode cX6_isFit 15 = .ok (.iconst 0, 1) := by decide +kernel
theorem dX6_isFit_16 : decode cX6_isFit 16 = .ok (.istore 4, 2) := by decide +kernel
theorem dX6_isFit_18 : decode cX6_isFit 18 = .ok (.iload 4, 2) := by decide +kernel
theorem dX6_isFit_20 : decode cX6_isFit 20 = .ok (.iload_n 3, 1) := by decide +kernel
theorem dX6_isFit_21 : decode cX6_isFit 21 = .ok (.if_icmp .ge 79, 3) := by decide +kernel
theorem dX6_isFit_24 : decode cX6_isFit 24 = .ok (.iconst 0, 1) := by decide +kernel
theorem dX6_isFit_25 : decode cX6_isFit 25 = .ok (.istore 5, 2) := by decide +kernel
theorem dX6_isFit_27 : decode cX6_isFit 27 = .ok (.iconst 0, 1) := by decide +kernel
theorem dX6_isFit_28 : decode cX6_isFit 28 = .ok (.istore 6, 2) := by decide +kernel
theorem dX6_isFit_30 : decode cX6_isFit 30 = .ok (.iconst 0, 1) := by decide +kernel
theorem dX6_isFit_31 : decode cX6_isFit 31 = .ok (.istore 7, 2) := by decide +kernel
theorem dX6_isFit_33 : decode cX6_isFit 33 = .ok (.iload 7, 2) := by decide +kernel
theorem dX6_isFit_35 : decode cX6_isFit 35 = .ok (.iload_n 3, 1) := by decide +kernel
theorem dX6_isFit_36 : decode cX6_isFit 36 = .ok (.if_icmp .ge 49, 3) := by decide +kernel
theorem dX6_isFit_39 : decode cX6_isFit 39 = .ok (.aload_n 0, 1) := by decide +kernel
theorem dX6_isFit_40 : decode cX6_isFit 40 = .ok (.iload_n 2, 1) := by decide +kernel
theorem dX6_isFit_41 : decode cX6_isFit 41 = .ok (.iload 7, 2) := by decide +kernel
theorem dX6_isFit_43 : decode cX6_isFit 43 = .ok (.invokevirtual 219, 3) := by decide +kernel
theorem dX6_isFit_46 : decode cX6_isFit 46 = .ok (.aload_n 0, 1) := by decide +kernel
theorem dX6_isFit_47 : decode cX6_isFit 47 = .ok (.iload_n 1, 1) := by decide +kernel
theorem dX6_isFit_48 : decode cX6_isFit 48 = .ok (.iload 4, 2) := by decide +kernel
theorem dX6_isFit_50 : decode cX6_isFit 50 = .ok (.invokevirtual 185, 3) := by decide +kernel
theorem dX6_isFit_53 : decode cX6_isFit 53 = .ok (.if_icmp .ne 6, 3) := by decide +kernel
theorem dX6_isFit_56 : decode cX6_isFit 56 = .ok (.iinc 6 1, 3) := by decide +kernel
theorem dX6_isFit_59 : decode cX6_isFit 59 = .ok (.aload_n 0, 1) := by decide +kernel
theorem dX6_isFit_60 : decode cX6_isFit 60 = .ok (.iload_n 1, 1) := by decide +kernel
theorem dX6_isFit_61 : decode cX6_isFit 61 = .ok (.iload 7, 2) := by decide +kernel
theorem dX6_isFit_63 : decode cX6_isFit 63 = .ok (.invokevirtual 185, 3) := by decide +kernel
theorem dX6_isFit_66 : decode cX6_isFit 66 = .ok (.aload_n 0, 1) := by decide +kernel
theorem dX6_isFit_67 : decode cX6_isFit 67 = .ok (.iload_n 1, 1) := by decide +kernel
theorem dX6_isFit_68 : decode cX6_isFit 68 = .ok (.iload 4, 2) := by decide +kernel
theorem dX6_isFit_70 : decode cX6_isFit 70 = .ok (.invokevirtual 185, 3) := by decide +kernel
theorem dX6_isFit_73 : decode cX6_isFit 73 = .ok (.if_icmp .ne 6, 3) := by decide +kernel
theorem dX6_isFit_76 : decode cX6_isFit 76 = .ok (.iinc 5 1, 3) := by decide +kernel
theorem dX6_isFit_79 : decode cX6_isFit 79 = .ok (.iinc 7 1, 3) := by decide +kernel
theorem dX6_isFit_82 : decode cX6_isFit 82 = .ok (.goto (-49), 3) := by decide +kernel
theorem dX6_isFit_85 : decode cX6_isFit 85 = .ok (.iload 5, 2) := by decide +kernel
theorem dX6_isFit_87 : decode cX6_isFit 87 = .ok (.iload 6, 2) := by decide +kernel
theorem dX6_isFit_89 : decode cX6_isFit 89 = .ok (.if_icmp .eq 5, 3) := by decide +kernel
theorem dX6_isFit_92 : decode cX6_isFit 92 = .ok (.iconst 0, 1) := by decide +kernel
theorem dX6_isFit_93 : decode cX6_isFit 93 = .ok (.ireturn, 1) := by decide +kernel
theorem dX6_isFit_94 : decode cX6_isFit 94 = .ok (.iinc 4 1, 3) := by decide +kernel
theorem dX6_isFit_97 : decode cX6_isFit 97 = .ok (.goto (-79), 3) := by decide +kernel
theorem dX6_isFit_100 : decode cX6_isFit 100 = .ok (.iconst 1, 1) := by decide +kernel
theorem dX6_isFit_101 : decode cX6_isFit 101 = .ok (.ireturn, 1) := by decide +kernel
def m_X6_isFit_33 (v1 : Int32) (v2 : Int32) (v3 : Int32) (v4 : Int32) (μ : fm_I) (ν : fm_L) (K : Int32 → Int32 → Option (Int32 × fm_I × fm_L)) : Nat → Int32 → Int32 → Int32 → Option (Int32 × fm_I × fm_L)
  | 0, _, _, _ => none
  | k + 1, v5, v6, v7 => if v3 ≤ v7 then K v5 v6 else (m_X6_intAt v2 v7 μ ν).bind (fun r43 => (m_X6_turnsOf v1 v4 μ ν).bind (fun r50 => if r43 = r50 then (m_X6_turnsOf v1 v7 μ ν).bind (fun r63 => (m_X6_turnsOf v1 v4 μ ν).bind (fun r70 => if r63 = r70 then m_X6_isFit_33 v1 v2 v3 v4 μ ν K k ((v5 + nI 1)) ((v6 + nI 1)) ((v7 + nI 1)) else m_X6_isFit_33 v1 v2 v3 v4 μ ν K k v5 ((v6 + nI 1)) ((v7 + nI 1)))) else (m_X6_turnsOf v1 v7 μ ν).bind (fun r63 => (m_X6_turnsOf v1 v4 μ ν).bind (fun r70 => if r63 = r70 then m_X6_isFit_33 v1 v2 v3 v4 μ ν K k ((v5 + nI 1)) v6 ((v7 + nI 1)) else m_X6_isFit_33 v1 v2 v3 v4 μ ν K k v5 v6 ((v7 + nI 1))))))
def m_X6_isFit_18 (v1 : Int32) (v2 : Int32) (v3 : Int32) (μ : fm_I) (ν : fm_L) (K : Option (Int32 × fm_I × fm_L)) : Nat → Int32 → Option (Int32 × fm_I × fm_L)
  | 0, _ => none
  | k + 1, v4 => if v3 ≤ v4 then K else m_X6_isFit_33 v1 v2 v3 v4 μ ν (fun x5_33 x6_33 => if x5_33 = x6_33 then m_X6_isFit_18 v1 v2 v3 μ ν K k ((v4 + nI 1)) else some (((nI 0), μ, ν))) 5000 ((nI 0)) ((nI 0)) ((nI 0))
def m_X6_isFit (v1 : Int32) (v2 : Int32) (v3 : Int32) (μ : fm_I) (ν : fm_L) : Option (Int32 × fm_I × fm_L) :=
  (m_X6_cuts v1 μ ν).bind (fun r2 => if (r2.1 58 28) = v3 then m_X6_isFit_18 v1 v2 v3 r2.1 r2.2 (some (((nI 1), r2.1, r2.2))) 5000 ((nI 0)) else some (((nI 0), r2.1, r2.2)))
theorem ok_X6_isFit : fm_okV yX6_isFit cX6_isFit 8 (some .boolean) 3 := ⟨m_cd_X6_isFit, m_im_X6_isFit, m_se_X6_X6_isFit, m_ini_X6, by decide +kernel, by decide +kernel, by decide +kernel⟩
set_option maxHeartbeats 4000000 in
set_option maxRecDepth 100000 in
theorem j_X6_isFit_33_ {X : fm_X} {G : fm_G} {l : Launch} {v1 : Int32} {v2 : Int32} {v3 : Int32} {v4 : Int32} {μ : fm_I} {ν : fm_L} (C : fm_C X G l cX6_isFit RX6 8 (some .boolean) 4 82) {F : (Int32 × fm_I × fm_L) → State → Prop} (hF : F = fm_Qi X G)  {K : Int32 → Int32 → Option (Int32 × fm_I × fm_L)} (hK : ∀ (v5 : Int32) (v6 : Int32), fm_J X G 8 F (K v5 v6) μ ν 85 [(0, .ref (G.2.2.1 58)), (1, .int v1), (2, .int v2), (3, .int v3), (4, .int v4), (5, .int v5), (6, .int v6)] []) : ∀ (k : Nat) (v5 : Int32) (v6 : Int32) (v7 : Int32), fm_J X G 8 F (m_X6_isFit_33 v1 v2 v3 v4 μ ν K k v5 v6 v7) μ ν 33 [(0, .ref (G.2.2.1 58)), (1, .int v1), (2, .int v2), (3, .int v3), (4, .int v4), (5, .int v5), (6, .int v6), (7, .int v7)] [] := by
  intro k
  induction k with
  | zero =>
    intro v5 v6 v7
    exact fm_none
  | succ k ih =>
    intro v5 v6 v7
    rw [m_X6_isFit_33]
    refine fm_iload (pc := 33) C dX6_isFit_33 rfl ?_
    refine fm_iload_n (pc := 35) C dX6_isFit_35 rfl rfl ?_
    refine fm_icmp_ge (pc := 36) (tgt := 85) C dX6_isFit_36 (by decide) (fun c3 => ?_) (fun c3 => ?_)
    · refine fm_less (lv' := [(0, .ref (G.2.2.1 58)), (1, .int v1), (2, .int v2), (3, .int v3), (4, .int v4), (5, .int v5), (6, .int v6)]) (by repeat (first | exact trivial | refine ⟨rfl, ?_⟩)) ?_
      exact hK _ _
    · refine fm_aload_n (pc := 39) C dX6_isFit_39 rfl rfl ?_
      refine fm_iload_n (pc := 40) C dX6_isFit_40 rfl rfl ?_
      refine fm_iload (pc := 41) C dX6_isFit_41 rfl ?_
      refine fm_bind (fun r43 e43 => ?_)
      refine fm_cVi0 (pc := 43) C (t_X6_intAt e43) ok_X6_intAt ⟨by decide, rfl⟩ m_ml_X6_219 dX6_isFit_43 ⟨Nat.le_of_ble_eq_true rfl, Nat.le_of_ble_eq_true rfl⟩ rfl rfl (Nat.le_of_ble_eq_true rfl) ?_
      refine fm_aload_n (pc := 46) C dX6_isFit_46 rfl rfl ?_
      refine fm_iload_n (pc := 47) C dX6_isFit_47 rfl rfl ?_
      refine fm_iload (pc := 48) C dX6_isFit_48 rfl ?_
      refine fm_bind (fun r50 e50 => ?_)
      refine fm_cVi0 (pc := 50) C (t_X6_turnsOf e50) ok_X6_turnsOf ⟨by decide, rfl⟩ m_ml_X6_185 dX6_isFit_50 ⟨Nat.le_of_ble_eq_true rfl, Nat.le_of_ble_eq_true rfl⟩ rfl rfl (Nat.le_of_ble_eq_true rfl) ?_
      refine fm_icmp_ne (pc := 53) (tgt := 59) C dX6_isFit_53 (by decide) (fun c4 => ?_) (fun c4 => ?_)
      · refine fm_iinc (pc := 56) C dX6_isFit_56 rfl (v := (v6 + nI 1)) rfl (by decide) rfl ?_
        refine fm_aload_n (pc := 59) C dX6_isFit_59 rfl rfl ?_
        refine fm_iload_n (pc := 60) C dX6_isFit_60 rfl rfl ?_
        refine fm_iload (pc := 61) C dX6_isFit_61 rfl ?_
        refine fm_bind (fun r63 e63 => ?_)
        refine fm_cVi0 (pc := 63) C (t_X6_turnsOf e63) ok_X6_turnsOf ⟨by decide, rfl⟩ m_ml_X6_185 dX6_isFit_63 ⟨Nat.le_of_ble_eq_true rfl, Nat.le_of_ble_eq_true rfl⟩ rfl rfl (Nat.le_of_ble_eq_true rfl) ?_
        refine fm_aload_n (pc := 66) C dX6_isFit_66 rfl rfl ?_
        refine fm_iload_n (pc := 67) C dX6_isFit_67 rfl rfl ?_
        refine fm_iload (pc := 68) C dX6_isFit_68 rfl ?_
        refine fm_bind (fun r70 e70 => ?_)
        refine fm_cVi0 (pc := 70) C (t_X6_turnsOf e70) ok_X6_turnsOf ⟨by decide, rfl⟩ m_ml_X6_185 dX6_isFit_70 ⟨Nat.le_of_ble_eq_true rfl, Nat.le_of_ble_eq_true rfl⟩ rfl rfl (Nat.le_of_ble_eq_true rfl) ?_
        refine fm_icmp_ne (pc := 73) (tgt := 79) C dX6_isFit_73 (by decide) (fun c5 => ?_) (fun c5 => ?_)
        · refine fm_iinc (pc := 76) C dX6_isFit_76 rfl (v := (v5 + nI 1)) rfl (by decide) rfl ?_
          refine fm_iinc (pc := 79) C dX6_isFit_79 rfl (v := (v7 + nI 1)) rfl (by decide) rfl ?_
          refine fm_goto (pc := 82) (tgt := 33) C dX6_isFit_82 (by decide) ?_
          refine fm_less (lv' := [(0, .ref (G.2.2.1 58)), (1, .int v1), (2, .int v2), (3, .int v3), (4, .int v4), (5, .int ((v5 + nI 1))), (6, .int ((v6 + nI 1))), (7, .int ((v7 + nI 1)))]) (by repeat (first | exact trivial | refine ⟨rfl, ?_⟩)) ?_
          exact ih _ _ _
        · refine fm_iinc (pc := 79) C dX6_isFit_79 rfl (v := (v7 + nI 1)) rfl (by decide) rfl ?_
          refine fm_goto (pc := 82) (tgt := 33) C dX6_isFit_82 (by decide) ?_
          refine fm_less (lv' := [(0, .ref (G.2.2.1 58)), (1, .int v1), (2, .int v2), (3, .int v3), (4, .int v4), (5, .int v5), (6, .int ((v6 + nI 1))), (7, .int ((v7 + nI 1)))]) (by repeat (first | exact trivial | refine ⟨rfl, ?_⟩)) ?_
          exact ih _ _ _
      · refine fm_aload_n (pc := 59) C dX6_isFit_59 rfl rfl ?_
        refine fm_iload_n (pc := 60) C dX6_isFit_60 rfl rfl ?_
        refine fm_iload (pc := 61) C dX6_isFit_61 rfl ?_
        refine fm_bind (fun r63 e63 => ?_)
        refine fm_cVi0 (pc := 63) C (t_X6_turnsOf e63) ok_X6_turnsOf ⟨by decide, rfl⟩ m_ml_X6_185 dX6_isFit_63 ⟨Nat.le_of_ble_eq_true rfl, Nat.le_of_ble_eq_true rfl⟩ rfl rfl (Nat.le_of_ble_eq_true rfl) ?_
        refine fm_aload_n (pc := 66) C dX6_isFit_66 rfl rfl ?_
        refine fm_iload_n (pc := 67) C dX6_isFit_67 rfl rfl ?_
        refine fm_iload (pc := 68) C dX6_isFit_68 rfl ?_
        refine fm_bind (fun r70 e70 => ?_)
        refine fm_cVi0 (pc := 70) C (t_X6_turnsOf e70) ok_X6_turnsOf ⟨by decide, rfl⟩ m_ml_X6_185 dX6_isFit_70 ⟨Nat.le_of_ble_eq_true rfl, Nat.le_of_ble_eq_true rfl⟩ rfl rfl (Nat.le_of_ble_eq_true rfl) ?_
        refine fm_icmp_ne (pc := 73) (tgt := 79) C dX6_isFit_73 (by decide) (fun c6 => ?_) (fun c6 => ?_)
        · refine fm_iinc (pc := 76) C dX6_isFit_76 rfl (v := (v5 + nI 1)) rfl (by decide) rfl ?_
          refine fm_iinc (pc := 79) C dX6_isFit_79 rfl (v := (v7 + nI 1)) rfl (by decide) rfl ?_
          refine fm_goto (pc := 82) (tgt := 33) C dX6_isFit_82 (by decide) ?_
          refine fm_less (lv' := [(0, .ref (G.2.2.1 58)), (1, .int v1), (2, .int v2), (3, .int v3), (4, .int v4), (5, .int ((v5 + nI 1))), (6, .int v6), (7, .int ((v7 + nI 1)))]) (by repeat (first | exact trivial | refine ⟨rfl, ?_⟩)) ?_
          exact ih _ _ _
        · refine fm_iinc (pc := 79) C dX6_isFit_79 rfl (v := (v7 + nI 1)) rfl (by decide) rfl ?_
          refine fm_goto (pc := 82) (tgt := 33) C dX6_isFit_82 (by decide) ?_
          refine fm_less (lv' := [(0, .ref (G.2.2.1 58)), (1, .int v1), (2, .int v2), (3, .int v3), (4, .int v4), (5, .int v5), (6, .int v6), (7, .int ((v7 + nI 1)))]) (by repeat (first | exact trivial | refine ⟨rfl, ?_⟩)) ?_
          exact ih _ _ _
set_option maxHeartbeats 4000000 in
set_option maxRecDepth 100000 in
theorem j_X6_isFit_18_ {X : fm_X} {G : fm_G} {l : Launch} {v1 : Int32} {v2 : Int32} {v3 : Int32} {μ : fm_I} {ν : fm_L} (C : fm_C X G l cX6_isFit RX6 8 (some .boolean) 4 82) {F : (Int32 × fm_I × fm_L) → State → Prop} (hF : F = fm_Qi X G)  {K : Option (Int32 × fm_I × fm_L)} (hK : fm_J X G 8 F (K ) μ ν 100 [] []) : ∀ (k : Nat) (v4 : Int32), fm_J X G 8 F (m_X6_isFit_18 v1 v2 v3 μ ν K k v4) μ ν 18 [(0, .ref (G.2.2.1 58)), (1, .int v1), (2, .int v2), (3, .int v3), (4, .int v4)] [] := by
  intro k
  induction k with
  | zero =>
    intro v4
    exact fm_none
  | succ k ih =>
    intro v4
    rw [m_X6_isFit_18]
    refine fm_iload (pc := 18) C dX6_isFit_18 rfl ?_
    refine fm_iload_n (pc := 20) C dX6_isFit_20 rfl rfl ?_
    refine fm_icmp_ge (pc := 21) (tgt := 100) C dX6_isFit_21 (by decide) (fun c2 => ?_) (fun c2 => ?_)
    · refine fm_less (lv' := []) (by repeat (first | exact trivial | refine ⟨rfl, ?_⟩)) ?_
      exact hK
    · refine fm_iconst (pc := 24) (v := (nI 0)) C dX6_isFit_24 (by decide) ?_
      refine fm_istore (pc := 25) C dX6_isFit_25 (by decide) rfl ?_
      refine fm_iconst (pc := 27) (v := (nI 0)) C dX6_isFit_27 (by decide) ?_
      refine fm_istore (pc := 28) C dX6_isFit_28 (by decide) rfl ?_
      refine fm_iconst (pc := 30) (v := (nI 0)) C dX6_isFit_30 (by decide) ?_
      refine fm_istore (pc := 31) C dX6_isFit_31 (by decide) rfl ?_
      refine fm_less (lv' := [(0, .ref (G.2.2.1 58)), (1, .int v1), (2, .int v2), (3, .int v3), (4, .int v4), (5, .int ((nI 0))), (6, .int ((nI 0))), (7, .int ((nI 0)))]) (by repeat (first | exact trivial | refine ⟨rfl, ?_⟩)) ?_
      refine j_X6_isFit_33_ C (v1 := v1) (v2 := v2) (v3 := v3) (v4 := v4) hF  (fun x5_33 x6_33 => ?_) _ _ _ _
      refine fm_iload (pc := 85) C dX6_isFit_85 rfl ?_
      refine fm_iload (pc := 87) C dX6_isFit_87 rfl ?_
      refine fm_icmp_eq (pc := 89) (tgt := 94) C dX6_isFit_89 (by decide) (fun c7 => ?_) (fun c7 => ?_)
      · refine fm_iinc (pc := 94) C dX6_isFit_94 rfl (v := (v4 + nI 1)) rfl (by decide) rfl ?_
        refine fm_goto (pc := 97) (tgt := 18) C dX6_isFit_97 (by decide) ?_
        refine fm_less (lv' := [(0, .ref (G.2.2.1 58)), (1, .int v1), (2, .int v2), (3, .int v3), (4, .int ((v4 + nI 1)))]) (by repeat (first | exact trivial | refine ⟨rfl, ?_⟩)) ?_
        exact ih _
      · refine fm_iconst (pc := 92) (v := (nI 0)) C dX6_isFit_92 (by decide) ?_
        exact fm_zret (pc := 93) C hF rfl rfl dX6_isFit_93
set_option maxHeartbeats 4000000 in
set_option maxRecDepth 100000 in
theorem j_X6_isFit {X : fm_X} {G : fm_G} {l : Launch} {v1 : Int32} {v2 : Int32} {v3 : Int32} {μ : fm_I} {ν : fm_L} (C : fm_C X G l cX6_isFit RX6 8 (some .boolean) 4 82) {F : (Int32 × fm_I × fm_L) → State → Prop} (hF : F = fm_Qi X G) : fm_J X G 8 F (m_X6_isFit v1 v2 v3 μ ν) μ ν 0 [(0, .ref (G.2.2.1 58)), (1, .int v1), (2, .int v2), (3, .int v3)] [] := by
  unfold m_X6_isFit
  refine fm_aload_n (pc := 0) C dX6_isFit_0 rfl rfl ?_
  refine fm_iload_n (pc := 1) C dX6_isFit_1 rfl rfl ?_
  refine fm_bind (fun r2 e2 => ?_)
  refine fm_cVv (pc := 2) C (t_X6_cuts e2) ok_X6_cuts ⟨by decide, rfl⟩ m_ml_X6_175 dX6_isFit_2 ⟨Nat.le_of_ble_eq_true rfl, Nat.le_of_ble_eq_true rfl⟩ rfl rfl (Nat.le_of_ble_eq_true rfl) ?_
  refine fm_aload_n (pc := 5) C dX6_isFit_5 rfl rfl ?_
  refine g6_pieces (pc := 6) C (by decide) dX6_isFit_6 m_fl_X6_172 ?_
  refine fm_iload_n (pc := 9) C dX6_isFit_9 rfl rfl ?_
  refine fm_icmp_eq (pc := 10) (tgt := 15) C dX6_isFit_10 (by decide) (fun c1 => ?_) (fun c1 => ?_)
  · refine fm_iconst (pc := 15) (v := (nI 0)) C dX6_isFit_15 (by decide) ?_
    refine fm_istore (pc := 16) C dX6_isFit_16 (by decide) rfl ?_
    refine fm_less (lv' := [(0, .ref (G.2.2.1 58)), (1, .int v1), (2, .int v2), (3, .int v3), (4, .int ((nI 0)))]) (by repeat (first | exact trivial | refine ⟨rfl, ?_⟩)) ?_
    refine j_X6_isFit_18_ C (v1 := v1) (v2 := v2) (v3 := v3) hF  ?_ _ _
    refine fm_iconst (pc := 100) (v := (nI 1)) C dX6_isFit_100 (by decide) ?_
    exact fm_zret (pc := 101) C hF rfl rfl dX6_isFit_101
  · refine fm_iconst (pc := 13) (v := (nI 0)) C dX6_isFit_13 (by decide) ?_
    exact fm_zret (pc := 14) C hF rfl rfl dX6_isFit_14
theorem t_X6_isFit {l : Launch} {G : fm_G} {v1 : Int32} {v2 : Int32} {v3 : Int32} {μ : fm_I} {ν : fm_L} {r : Int32 × fm_I × fm_L} (h : m_X6_isFit v1 v2 v3 μ ν = some r) : fm_Mi l G yX6_isFit cX6_isFit 8 (some .boolean) 4 82 [.ref (G.2.2.1 58), .int v1, .int v2, .int v3] μ ν r := fm_Mi_of (by decide +kernel) (Nat.le_of_ble_eq_true rfl) (fun _ C => j_X6_isFit C rfl r h)
theorem dX6_fits_0 : decode cX6_fits 0 = .ok (.aload_n 0, 1) := by decide +kernel
theorem dX6_fits_1 : decode cX6_fits 1 = .ok (.iload_n 1, 1) := by decide +kernel
theorem dX6_fits_2 : decode cX6_fits 2 = .ok (.iload_n 2, 1) := by decide +kernel
theorem dX6_fits_3 : decode cX6_fits 3 = .ok (.iload_n 3, 1) := by decide +kernel
theorem dX6_fits_4 : decode cX6_fits 4 = .ok (.invokevirtual 213, 3) := by decide +kernel
theorem dX6_fits_7 : decode cX6_fits 7 = .ok (.istore 4, 2) := by decide +kernel
theorem dX6_fits_9 : decode cX6_fits 9 = .ok (.iload 4, 2) := by decide +kernel
theorem dX6_fits_11 : decode cX6_fits 11 = .ok (.ifCond .eq 11, 3) := by decide +kernel
theorem dX6_fits_14 : decode cX6_fits 14 = .ok (.aload_n 0, 1) := by decide +kernel
theorem dX6_fits_15 : decode cX6_fits 15 = .ok (.iload 4, 2) := by decide +kernel
theorem dX6_fits_17 : decode cX6_fits 17 = .ok (.invokevirtual 95, 3) := by decide +kernel
theorem dX6_fits_20 : decode cX6_fits 20 = .ok (.i2l, 1) := by decide +kernel
theorem dX6_fits_21 : decode cX6_fits 21 = .ok (.lreturn, 1) := by decide +kernel
theorem dX6_fits_22 : decode cX6_fits 22 = .ok (.aload_n 0, 1) := by decide +kernel
theorem dX6_fits_23 : decode cX6_fits 23 = .ok (.getfield 23, 3) := by decide +kernel
theorem dX6_fits_26 : decode cX6_fits 26 = .ok (.iload_n 1, 1) := by decide +kernel
theorem dX6_fits_27 : decode cX6_fits 27 = .ok (.iaload, 1) := by decide +kernel
theorem dX6_fits_28 : decode cX6_fits 28 = .ok (.istore 5, 2) := by decide +kernel
theorem dX6_fits_30 : decode cX6_fits 30 = .ok (.lconst 0, 1) := by decide +kernel
theorem dX6_fits_31 : decode cX6_fits 31 = .ok (.lstore 6, 2) := by decide +kernel
theorem dX6_fits_33 : decode cX6_fits 33 = .ok (.iconst 0, 1) := by decide +kernel
theorem dX6_fits_34 : decode cX6_fits 34 = .ok (.istore 8, 2) := by decide +kernel
theorem dX6_fits_36 : decode cX6_fits 36 = .ok (.iload 8, 2) := by decide +kernel
theorem dX6_fits_38 : decode cX6_fits 38 = .ok (.bipush 40, 2) := by decide +kernel
theorem dX6_fits_40 : decode cX6_fits 40 = .ok (.if_icmp .gt 36, 3) := by decide +kernel
theorem dX6_fits_43 : decode cX6_fits 43 = .ok (.aload_n 0, 1) := by decide +kernel
theorem dX6_fits_44 : decode cX6_fits 44 = .ok (.getfield 23, 3) := by decide +kernel
theorem dX6_fits_47 : decode cX6_fits 47 = .ok (.iload_n 1, 1) := by decide +kernel
theorem dX6_fits_48 : decode cX6_fits 48 = .ok (.iload 8, 2) := by decide +kernel
theorem dX6_fits_50 : decode cX6_fits 50 = .ok (.iastore, 1) := by decide +kernel
theorem dX6_fits_51 : decode cX6_fits 51 = .ok (.aload_n 0, 1) := by decide +kernel
theorem dX6_fits_52 : decode cX6_fits 52 = .ok (.iload_n 1, 1) := by decide +kernel
theorem dX6_fits_53 : decode cX6_fits 53 = .ok (.iload_n 2, 1) := by decide +kernel
theorem dX6_fits_54 : decode cX6_fits 54 = .ok (.iload_n 3, 1) := by decide +kernel
theorem dX6_fits_55 : decode cX6_fits 55 = .ok (.invokevirtual 222, 3) := by decide +kernel
theorem dX6_fits_58 : decode cX6_fits 58 = .ok (.ifCond .eq 12, 3) := by decide +kernel
theorem dX6_fits_61 : decode cX6_fits 61 = .ok (.lload 6, 2) := by decide +kernel
theorem dX6_fits_63 : decode cX6_fits 63 = .ok (.lconst 1, 1) := by decide +kernel
theorem dX6_fits_64 : decode cX6_fits 64 = .ok (.iload 8, 2) := by decide +kernel
theorem dX6_fits_66 : decode cX6_fits 66 = .ok (.lshl, 1) := by decide +kernel
theorem dX6_fits_67 : decode cX6_fits 67 = .ok (.lor, 1) := by decide +kernel
theorem dX6_fits_68 : decode cX6_fits 68 = .ok (.lstore 6, 2) := by decide +kernel
theorem dX6_fits_70 : decode cX6_fits 70 = .ok (.iinc 8 1, 3) := by decide +kernel
theorem dX6_fits_73 : decode cX6_fits 73 = .ok (.goto (-37), 3) := by decide +kernel
theorem dX6_fits_76 : decode cX6_fits 76 = .ok (.aload_n 0, 1) := by decide +kernel
theorem dX6_fits_77 : decode cX6_fits 77 = .ok (.getfield 23, 3) := by decide +kernel
theorem dX6_fits_80 : decode cX6_fits 80 = .ok (.iload_n 1, 1) := by decide +kernel
theorem dX6_fits_81 : decode cX6_fits 81 = .ok (.iload 5, 2) := by decide +kernel
theorem dX6_fits_83 : decode cX6_fits 83 = .ok (.iastore, 1) := by decide +kernel
theorem dX6_fits_84 : decode cX6_fits 84 = .ok (.lload 6, 2) := by decide +kernel
theorem dX6_fits_86 : decode cX6_fits 86 = .ok (.lreturn, 1) := by decide +kernel
def m_X6_fits_36 (v1 : Int32) (v2 : Int32) (v3 : Int32) (v5 : Int32) (K : Int64 → fm_I → fm_L → Option (Int64 × fm_I × fm_L)) : Nat → Int64 → Int32 → fm_I → fm_L → Option (Int64 × fm_I × fm_L)
  | 0, _, _, _, _ => none
  | k + 1, v6, v8, μ, ν => if (nI 40) < v8 then K v6 μ ν else fm_g (fm_in v1 (fm_n 61)) ((m_X6_isFit v1 v2 v3 (fm_u μ 61 v1.toNatClampNeg v8) ν).bind (fun r55 => if r55.1 = 0 then m_X6_fits_36 v1 v2 v3 v5 K k v6 ((v8 + nI 1)) r55.2.1 r55.2.2 else m_X6_fits_36 v1 v2 v3 v5 K k ((v6 ||| ((((lN 1)) <<< (v8.toInt64 &&& 63))))) ((v8 + nI 1)) r55.2.1 r55.2.2))
def m_X6_fits (v1 : Int32) (v2 : Int32) (v3 : Int32) (μ : fm_I) (ν : fm_L) : Option (Int64 × fm_I × fm_L) :=
  (m_X6_bars v1 v2 v3 μ ν).bind (fun r4 => if r4 = 0 then fm_g (fm_in v1 (fm_n 61)) (m_X6_fits_36 v1 v2 v3 ((μ 61 v1.toNatClampNeg))  (fun x6_36 μ36 ν36 => some ((x6_36, (fm_u μ36 61 v1.toNatClampNeg ((μ 61 v1.toNatClampNeg))), ν36))) 5000 ((lN 0)) ((nI 0)) μ ν) else (m_X6_no r4 μ ν).bind (fun r17 => some ((r17.1.toInt64, r17.2.1, r17.2.2))))
theorem ok_X6_fits : fm_okV yX6_fits cX6_fits 9 (some .long) 3 := ⟨m_cd_X6_fits, m_im_X6_fits, m_se_X6_X6_fits, m_ini_X6, by decide +kernel, by decide +kernel, by decide +kernel⟩
set_option maxHeartbeats 4000000 in
set_option maxRecDepth 100000 in
theorem j_X6_fits_36_ {X : fm_X} {G : fm_G} {l : Launch} {v1 : Int32} {v2 : Int32} {v3 : Int32} {v5 : Int32} (C : fm_C X G l cX6_fits RX6 9 (some .long) 5 109) {F : (Int64 × fm_I × fm_L) → State → Prop} (hF : F = fm_Ql X G)  {K : Int64 → fm_I → fm_L → Option (Int64 × fm_I × fm_L)} (hK : ∀ (v6 : Int64) (μ : fm_I) (ν : fm_L), fm_J X G 9 F (K v6 μ ν) μ ν 76 [(0, .ref (G.2.2.1 58)), (1, .int v1), (5, .int v5), (6, .long v6)] []) : ∀ (k : Nat) (v6 : Int64) (v8 : Int32) (μ : fm_I) (ν : fm_L), fm_J X G 9 F (m_X6_fits_36 v1 v2 v3 v5 K k v6 v8 μ ν) μ ν 36 [(0, .ref (G.2.2.1 58)), (1, .int v1), (2, .int v2), (3, .int v3), (5, .int v5), (6, .long v6), (8, .int v8)] [] := by
  intro k
  induction k with
  | zero =>
    intro v6 v8 μ ν
    exact fm_none
  | succ k ih =>
    intro v6 v8 μ ν
    rw [m_X6_fits_36]
    refine fm_iload (pc := 36) C dX6_fits_36 rfl ?_
    refine fm_bipush (pc := 38) (v := (nI 40)) C dX6_fits_38 (by decide) ?_
    refine fm_icmp_gt (pc := 40) (tgt := 76) C dX6_fits_40 (by decide) (fun c3 => ?_) (fun c3 => ?_)
    · refine fm_less (lv' := [(0, .ref (G.2.2.1 58)), (1, .int v1), (5, .int v5), (6, .long v6)]) (by repeat (first | exact trivial | refine ⟨rfl, ?_⟩)) ?_
      exact hK _ _ _
    · refine fm_aload_n (pc := 43) C dX6_fits_43 rfl rfl ?_
      refine g6_twists (pc := 44) C (by decide) dX6_fits_44 m_fl_X6_23 ?_
      refine fm_iload_n (pc := 47) C dX6_fits_47 rfl rfl ?_
      refine fm_iload (pc := 48) C dX6_fits_48 rfl ?_
      refine fm_guard (fun h4 => ?_)
      refine fm_iast (pc := 50) C (by decide) h4 dX6_fits_50 ?_
      refine fm_aload_n (pc := 51) C dX6_fits_51 rfl rfl ?_
      refine fm_iload_n (pc := 52) C dX6_fits_52 rfl rfl ?_
      refine fm_iload_n (pc := 53) C dX6_fits_53 rfl rfl ?_
      refine fm_iload_n (pc := 54) C dX6_fits_54 rfl rfl ?_
      refine fm_bind (fun r55 e55 => ?_)
      refine fm_cVi (pc := 55) C (t_X6_isFit e55) ok_X6_isFit ⟨by decide, rfl⟩ m_ml_X6_222 dX6_fits_55 ⟨Nat.le_of_ble_eq_true rfl, Nat.le_of_ble_eq_true rfl⟩ rfl rfl (Nat.le_of_ble_eq_true rfl) ?_
      refine fm_if_eq (pc := 58) (tgt := 70) C dX6_fits_58 (by decide) (fun c5 => ?_) (fun c5 => ?_)
      · refine fm_iinc (pc := 70) C dX6_fits_70 rfl (v := (v8 + nI 1)) rfl (by decide) rfl ?_
        refine fm_goto (pc := 73) (tgt := 36) C dX6_fits_73 (by decide) ?_
        refine fm_less (lv' := [(0, .ref (G.2.2.1 58)), (1, .int v1), (2, .int v2), (3, .int v3), (5, .int v5), (6, .long v6), (8, .int ((v8 + nI 1)))]) (by repeat (first | exact trivial | refine ⟨rfl, ?_⟩)) ?_
        exact ih _ _ _ _
      · refine fm_lload (pc := 61) C dX6_fits_61 rfl ?_
        refine fm_lconst (pc := 63) (v := lN 1) C dX6_fits_63 (by decide) ?_
        refine fm_iload (pc := 64) C dX6_fits_64 rfl ?_
        refine fm_lshl (pc := 66) C dX6_fits_66 ?_
        refine fm_lor (pc := 67) C dX6_fits_67 ?_
        refine fm_lstore (pc := 68) C dX6_fits_68 (by decide) rfl ?_
        refine fm_iinc (pc := 70) C dX6_fits_70 rfl (v := (v8 + nI 1)) rfl (by decide) rfl ?_
        refine fm_goto (pc := 73) (tgt := 36) C dX6_fits_73 (by decide) ?_
        refine fm_less (lv' := [(0, .ref (G.2.2.1 58)), (1, .int v1), (2, .int v2), (3, .int v3), (5, .int v5), (6, .long ((v6 ||| ((((lN 1)) <<< (v8.toInt64 &&& 63)))))), (8, .int ((v8 + nI 1)))]) (by repeat (first | exact trivial | refine ⟨rfl, ?_⟩)) ?_
        exact ih _ _ _ _
set_option maxHeartbeats 4000000 in
set_option maxRecDepth 100000 in
theorem j_X6_fits {X : fm_X} {G : fm_G} {l : Launch} {v1 : Int32} {v2 : Int32} {v3 : Int32} {μ : fm_I} {ν : fm_L} (C : fm_C X G l cX6_fits RX6 9 (some .long) 5 109) {F : (Int64 × fm_I × fm_L) → State → Prop} (hF : F = fm_Ql X G) : fm_J X G 9 F (m_X6_fits v1 v2 v3 μ ν) μ ν 0 [(0, .ref (G.2.2.1 58)), (1, .int v1), (2, .int v2), (3, .int v3)] [] := by
  unfold m_X6_fits
  refine fm_aload_n (pc := 0) C dX6_fits_0 rfl rfl ?_
  refine fm_iload_n (pc := 1) C dX6_fits_1 rfl rfl ?_
  refine fm_iload_n (pc := 2) C dX6_fits_2 rfl rfl ?_
  refine fm_iload_n (pc := 3) C dX6_fits_3 rfl rfl ?_
  refine fm_bind (fun r4 e4 => ?_)
  refine fm_cVi0 (pc := 4) C (t_X6_bars e4) ok_X6_bars ⟨by decide, rfl⟩ m_ml_X6_213 dX6_fits_4 ⟨Nat.le_of_ble_eq_true rfl, Nat.le_of_ble_eq_true rfl⟩ rfl rfl (Nat.le_of_ble_eq_true rfl) ?_
  refine fm_istore (pc := 7) C dX6_fits_7 (by decide) rfl ?_
  refine fm_iload (pc := 9) C dX6_fits_9 rfl ?_
  refine fm_if_eq (pc := 11) (tgt := 22) C dX6_fits_11 (by decide) (fun c1 => ?_) (fun c1 => ?_)
  · refine fm_aload_n (pc := 22) C dX6_fits_22 rfl rfl ?_
    refine g6_twists (pc := 23) C (by decide) dX6_fits_23 m_fl_X6_23 ?_
    refine fm_iload_n (pc := 26) C dX6_fits_26 rfl rfl ?_
    refine fm_guard (fun h2 => ?_)
    refine fm_iald (pc := 27) C (by decide) h2 dX6_fits_27 ?_
    refine fm_istore (pc := 28) C dX6_fits_28 (by decide) rfl ?_
    refine fm_lconst (pc := 30) (v := lN 0) C dX6_fits_30 (by decide) ?_
    refine fm_lstore (pc := 31) C dX6_fits_31 (by decide) rfl ?_
    refine fm_iconst (pc := 33) (v := (nI 0)) C dX6_fits_33 (by decide) ?_
    refine fm_istore (pc := 34) C dX6_fits_34 (by decide) rfl ?_
    refine fm_less (lv' := [(0, .ref (G.2.2.1 58)), (1, .int v1), (2, .int v2), (3, .int v3), (5, .int ((μ 61 v1.toNatClampNeg))), (6, .long ((lN 0))), (8, .int ((nI 0)))]) (by repeat (first | exact trivial | refine ⟨rfl, ?_⟩)) ?_
    refine j_X6_fits_36_ C (v1 := v1) (v2 := v2) (v3 := v3) (v5 := (μ 61 v1.toNatClampNeg)) hF  (fun x6_36 μ36 ν36 => ?_) _ _ _ _ _
    refine fm_aload_n (pc := 76) C dX6_fits_76 rfl rfl ?_
    refine g6_twists (pc := 77) C (by decide) dX6_fits_77 m_fl_X6_23 ?_
    refine fm_iload_n (pc := 80) C dX6_fits_80 rfl rfl ?_
    refine fm_iload (pc := 81) C dX6_fits_81 rfl ?_
    refine fm_iast (pc := 83) C (by decide) h2 dX6_fits_83 ?_
    refine fm_lload (pc := 84) C dX6_fits_84 rfl ?_
    exact fm_lret (pc := 86) C hF rfl dX6_fits_86
  · refine fm_aload_n (pc := 14) C dX6_fits_14 rfl rfl ?_
    refine fm_iload (pc := 15) C dX6_fits_15 rfl ?_
    refine fm_bind (fun r17 e17 => ?_)
    refine fm_cVi (pc := 17) C (t_X6_no e17) ok_X6_no ⟨by decide, rfl⟩ m_ml_X6_95 dX6_fits_17 ⟨Nat.le_of_ble_eq_true rfl, Nat.le_of_ble_eq_true rfl⟩ rfl rfl (Nat.le_of_ble_eq_true rfl) ?_
    refine fm_i2l (pc := 20) C dX6_fits_20 ?_
    exact fm_lret (pc := 21) C hF rfl dX6_fits_21
theorem t_X6_fits {l : Launch} {G : fm_G} {v1 : Int32} {v2 : Int32} {v3 : Int32} {μ : fm_I} {ν : fm_L} {r : Int64 × fm_I × fm_L} (h : m_X6_fits v1 v2 v3 μ ν = some r) : fm_Ml l G yX6_fits cX6_fits 9 (some .long) 5 109 [.ref (G.2.2.1 58), .int v1, .int v2, .int v3] μ ν r := fm_Ml_of (by decide +kernel) (Nat.le_of_ble_eq_true rfl) (fun _ C => j_X6_fits C rfl r h)
theorem dX6_make_0 : decode cX6_make 0 = .ok (.iload_n 1, 1) := by decide +kernel
theorem dX6_make_1 : decode cX6_make 1 = .ok (.iconst 1, 1) := by decide +kernel
theorem dX6_make_2 : decode cX6_make 2 = .ok (.if_icmp .lt 13, 3) := by decide +kernel
theorem dX6_make_5 : decode cX6_make 5 = .ok (.iload_n 1, 1) := by decide +kernel
theorem dX6_make_6 : decode cX6_make 6 = .ok (.bipush 12, 2) := by decide +kernel
theorem dX6_make_8 : decode cX6_make 8 = .ok (.if_icmp .gt 7, 3) := by decide +kernel
theorem dX6_make_11 : decode cX6_make 11 = .ok (.iload_n 2, 1) := by decide +kernel
theorem dX6_make_12 : decode cX6_make 12 = .ok (.ifCond .ge 10, 3) := by decide +kernel
theorem dX6_make_15 : decode cX6_make 15 = .ok (.aload_n 0, 1) := by decide +kernel
theorem dX6_make_16 : decode cX6_make 16 = .ok (.bipush (-6), 2) := by decide +kernel
theorem dX6_make_18 : decode cX6_make 18 = .ok (.invokevirtual 216, 3) := by decide +kernel
theorem dX6_make_21 : decode cX6_make 21 = .ok (.ireturn, 1) := by decide +kernel
theorem dX6_make_22 : decode cX6_make 22 = .ok (.iconst 1, 1) := by decide +kernel
theorem dX6_make_23 : decode cX6_make 23 = .ok (.istore_n 3, 1) := by decide +kernel
theorem dX6_make_24 : decode cX6_make 24 = .ok (.iload_n 3, 1) := by decide +kernel
theorem dX6_make_25 : decode cX6_make 25 = .ok (.bipush 12, 2) := by decide +kernel
theorem dX6_make_27 : decode cX6_make 27 = .ok (.if_icmp .gt 94, 3) := by decide +kernel
theorem dX6_make_30 : decode cX6_make 30 = .ok (.iconst 0, 1) := by decide +kernel
theorem dX6_make_31 : decode cX6_make 31 = .ok (.istore 4, 2) := by decide +kernel
theorem dX6_make_33 : decode cX6_make 33 = .ok (.iload 4, 2) := by decide +kernel
theorem dX6_make_35 : decode cX6_make 35 = .ok (.bipush 40, 2) := by decide +kernel
theorem dX6_make_37 : decode cX6_make 37 = .ok (.if_icmp .gt 78, 3) := by decide +kernel
theorem dX6_make_40 : decode cX6_make 40 = .ok (.iload 4, 2) := by decide +kernel
theorem dX6_make_42 : decode cX6_make 42 = .ok (.iconst 2, 1) := by decide +kernel
theorem dX6_make_43 : decode cX6_make 43 = .ok (.irem, 1) := by decide +kernel
theorem dX6_make_44 : decode cX6_make 44 = .ok (.iconst 1, 1) := by decide +kernel
theorem dX6_make_45 : decode cX6_make 45 = .ok (.if_icmp .ne 12, 3) := by decide +kernel
theorem dX6_make_48 : decode cX6_make 48 = .ok (.iload_n 3, 1) := by decide +kernel
theorem dX6_make_49 : decode cX6_make 49 = .ok (.iconst 1, 1) := by decide +kernel
theorem dX6_make_50 : decode cX6_make 50 = .ok (.if_icmp .le 7, 3) := by decide +kernel
theorem dX6_make_53 : decode cX6_make 53 = .ok (.iconst 2, 1) := by decide +kernel
theorem dX6_make_54 : decode cX6_make 54 = .ok (.goto 4, 3) := by decide +kernel
theorem dX6_make_57 : decode cX6_make 57 = .ok (.iconst 1, 1) := by decide +kernel
theorem dX6_make_58 : decode cX6_make 58 = .ok (.istore 5, 2) := by decide +kernel
theorem dX6_make_60 : decode cX6_make 60 = .ok (.iload 4, 2) := by decide +kernel
theorem dX6_make_62 : decode cX6_make 62 = .ok (.iconst 2, 1) := by decide +kernel
theorem dX6_make_63 : decode cX6_make 63 = .ok (.irem, 1) := by decide +kernel
theorem dX6_make_64 : decode cX6_make 64 = .ok (.iconst 1, 1) := by decide +kernel
theorem dX6_make_65 : decode cX6_make 65 = .ok (.if_icmp .ne 11, 3) := by decide +kernel
theorem dX6_make_68 : decode cX6_make 68 = .ok (.iload_n 3, 1) := by decide +kernel
theorem dX6_make_69 : decode cX6_make 69 = .ok (.iconst 1, 1) := by decide +kernel
theorem dX6_make_70 : decode cX6_make 70 = .ok (.iadd, 1) := by decide +kernel
theorem dX6_make_71 : decode cX6_make 71 = .ok (.iconst 2, 1) := by decide +kernel
theorem dX6_make_72 : decode cX6_make 72 = .ok (.idiv, 1) := by decide +kernel
theorem dX6_make_73 : decode cX6_make 73 = .ok (.goto 4, 3) := by decide +kernel
theorem dX6_make_76 : decode cX6_make 76 = .ok (.iload_n 3, 1) := by decide +kernel
theorem dX6_make_77 : decode cX6_make 77 = .ok (.istore 6, 2) := by decide +kernel
theorem dX6_make_79 : decode cX6_make 79 = .ok (.iload 6, 2) := by decide +kernel
theorem dX6_make_81 : decode cX6_make 81 = .ok (.iload_n 1, 1) := by decide +kernel
theorem dX6_make_82 : decode cX6_make 82 = .ok (.if_icmp .ne 27, 3) := by decide +kernel
theorem dX6_make_85 : decode cX6_make 85 = .ok (.iload 4, 2) := by decide +kernel
theorem dX6_make_87 : decode cX6_make 87 = .ok (.iload 5, 2) := by decide +kernel
theorem dX6_make_89 : decode cX6_make 89 = .ok (.imul, 1) := by decide +kernel
theorem dX6_make_90 : decode cX6_make 90 = .ok (.iconst 2, 1) := by decide +kernel
theorem dX6_make_91 : decode cX6_make 91 = .ok (.iload 5, 2) := by decide +kernel
theorem dX6_make_93 : decode cX6_make 93 = .ok (.iconst 1, 1) := by decide +kernel
theorem dX6_make_94 : decode cX6_make 94 = .ok (.isub, 1) := by decide +kernel
theorem dX6_make_95 : decode cX6_make 95 = .ok (.imul, 1) := by decide +kernel
theorem dX6_make_96 : decode cX6_make 96 = .ok (.iadd, 1) := by decide +kernel
theorem dX6_make_97 : decode cX6_make 97 = .ok (.iload_n 2, 1) := by decide +kernel
theorem dX6_make_98 : decode cX6_make 98 = .ok (.if_icmp .ne 11, 3) := by decide +kernel
theorem dX6_make_101 : decode cX6_make 101 = .ok (.bipush 100, 2) := by decide +kernel
theorem dX6_make_103 : decode cX6_make 103 = .ok (.iload_n 3, 1) := by decide +kernel
theorem dX6_make_104 : decode cX6_make 104 = .ok (.imul, 1) := by decide +kernel
theorem dX6_make_105 : decode cX6_make 105 = .ok (.iload 4, 2) := by decide +kernel
theorem dX6_make_107 : decode cX6_make 107 = .ok (.iadd, 1) := by decide +kernel
theorem dX6_make_108 : decode cX6_make 108 = .ok (.ireturn, 1) := by decide +kernel
theorem dX6_make_109 : decode cX6_make 109 = .ok (.iinc 4 1, 3) := by decide +kernel
theorem dX6_make_112 : decode cX6_make 112 = .ok (.goto (-79), 3) := by decide +kernel
theorem dX6_make_115 : decode cX6_make 115 = .ok (.iinc 3 1, 3) := by decide +kernel
theorem dX6_make_118 : decode cX6_make 118 = .ok (.goto (-94), 3) := by decide +kernel
theorem dX6_make_121 : decode cX6_make 121 = .ok (.iconst (-1), 1) := by decide +kernel
theorem dX6_make_122 : decode cX6_make 122 = .ok (.ireturn, 1) := by decide +kernel
def m_X6_make_33 (v1 : Int32) (v2 : Int32) (v3 : Int32) (μ : fm_I) (ν : fm_L) (K : Option (Int32 × fm_I × fm_L)) : Nat → Int32 → Option (Int32 × fm_I × fm_L)
  | 0, _ => none
  | k + 1, v4 => if (nI 40) < v4 then K else if (v4 - v4 / ((nI 2)) * ((nI 2))) = (nI 1) then if v3 ≤ (nI 1) then if (v4 - v4 / ((nI 2)) * ((nI 2))) = (nI 1) then if (((v3 + ((nI 1)))) / ((nI 2))) = v1 then if (((v4 * ((nI 1)))) + ((((nI 2)) * ((((nI 1)) - ((nI 1))))))) = v2 then some (((((((nI 100)) * v3)) + v4), μ, ν)) else m_X6_make_33 v1 v2 v3 μ ν K k ((v4 + nI 1)) else m_X6_make_33 v1 v2 v3 μ ν K k ((v4 + nI 1)) else if v3 = v1 then if (((v4 * ((nI 1)))) + ((((nI 2)) * ((((nI 1)) - ((nI 1))))))) = v2 then some (((((((nI 100)) * v3)) + v4), μ, ν)) else m_X6_make_33 v1 v2 v3 μ ν K k ((v4 + nI 1)) else m_X6_make_33 v1 v2 v3 μ ν K k ((v4 + nI 1)) else if (v4 - v4 / ((nI 2)) * ((nI 2))) = (nI 1) then if (((v3 + ((nI 1)))) / ((nI 2))) = v1 then if (((v4 * ((nI 2)))) + ((((nI 2)) * ((((nI 2)) - ((nI 1))))))) = v2 then some (((((((nI 100)) * v3)) + v4), μ, ν)) else m_X6_make_33 v1 v2 v3 μ ν K k ((v4 + nI 1)) else m_X6_make_33 v1 v2 v3 μ ν K k ((v4 + nI 1)) else if v3 = v1 then if (((v4 * ((nI 2)))) + ((((nI 2)) * ((((nI 2)) - ((nI 1))))))) = v2 then some (((((((nI 100)) * v3)) + v4), μ, ν)) else m_X6_make_33 v1 v2 v3 μ ν K k ((v4 + nI 1)) else m_X6_make_33 v1 v2 v3 μ ν K k ((v4 + nI 1)) else if (v4 - v4 / ((nI 2)) * ((nI 2))) = (nI 1) then if (((v3 + ((nI 1)))) / ((nI 2))) = v1 then if (((v4 * ((nI 1)))) + ((((nI 2)) * ((((nI 1)) - ((nI 1))))))) = v2 then some (((((((nI 100)) * v3)) + v4), μ, ν)) else m_X6_make_33 v1 v2 v3 μ ν K k ((v4 + nI 1)) else m_X6_make_33 v1 v2 v3 μ ν K k ((v4 + nI 1)) else if v3 = v1 then if (((v4 * ((nI 1)))) + ((((nI 2)) * ((((nI 1)) - ((nI 1))))))) = v2 then some (((((((nI 100)) * v3)) + v4), μ, ν)) else m_X6_make_33 v1 v2 v3 μ ν K k ((v4 + nI 1)) else m_X6_make_33 v1 v2 v3 μ ν K k ((v4 + nI 1))
def m_X6_make_24 (v1 : Int32) (v2 : Int32) (μ : fm_I) (ν : fm_L) (K : Option (Int32 × fm_I × fm_L)) : Nat → Int32 → Option (Int32 × fm_I × fm_L)
  | 0, _ => none
  | k + 1, v3 => if (nI 12) < v3 then K else m_X6_make_33 v1 v2 v3 μ ν (m_X6_make_24 v1 v2 μ ν K k ((v3 + nI 1))) 5000 ((nI 0))
def m_X6_make (v1 : Int32) (v2 : Int32) (μ : fm_I) (ν : fm_L) : Option (Int32 × fm_I × fm_L) :=
  if v1 < (nI 1) then (m_X6_noTen ((-6 : Int32)) μ ν).bind (fun r18 => some ((r18.1, r18.2.1, r18.2.2))) else if (nI 12) < v1 then (m_X6_noTen ((-6 : Int32)) μ ν).bind (fun r18 => some ((r18.1, r18.2.1, r18.2.2))) else if 0 ≤ v2 then m_X6_make_24 v1 v2 μ ν (some (((-1 : Int32), μ, ν))) 5000 ((nI 1)) else (m_X6_noTen ((-6 : Int32)) μ ν).bind (fun r18 => some ((r18.1, r18.2.1, r18.2.2)))
theorem ok_X6_make : fm_okV yX6_make cX6_make 7 (some .int) 2 := ⟨m_cd_X6_make, m_im_X6_make, m_se_X6_X6_make, m_ini_X6, by decide +kernel, by decide +kernel, by decide +kernel⟩
set_option maxHeartbeats 4000000 in
set_option maxRecDepth 100000 in
theorem j_X6_make_33_ {X : fm_X} {G : fm_G} {l : Launch} {v1 : Int32} {v2 : Int32} {v3 : Int32} {μ : fm_I} {ν : fm_L} (C : fm_C X G l cX6_make RX6 7 (some .int) 2 33) {F : (Int32 × fm_I × fm_L) → State → Prop} (hF : F = fm_Qi X G)  {K : Option (Int32 × fm_I × fm_L)} (hK : fm_J X G 7 F (K ) μ ν 115 [(1, .int v1), (2, .int v2), (3, .int v3)] []) : ∀ (k : Nat) (v4 : Int32), fm_J X G 7 F (m_X6_make_33 v1 v2 v3 μ ν K k v4) μ ν 33 [(1, .int v1), (2, .int v2), (3, .int v3), (4, .int v4)] [] := by
  intro k
  induction k with
  | zero =>
    intro v4
    exact fm_none
  | succ k ih =>
    intro v4
    rw [m_X6_make_33]
    refine fm_iload (pc := 33) C dX6_make_33 rfl ?_
    refine fm_bipush (pc := 35) (v := (nI 40)) C dX6_make_35 (by decide) ?_
    refine fm_icmp_gt (pc := 37) (tgt := 115) C dX6_make_37 (by decide) (fun c5 => ?_) (fun c5 => ?_)
    · refine fm_less (lv' := [(1, .int v1), (2, .int v2), (3, .int v3)]) (by repeat (first | exact trivial | refine ⟨rfl, ?_⟩)) ?_
      exact hK
    · refine fm_iload (pc := 40) C dX6_make_40 rfl ?_
      refine fm_iconst (pc := 42) (v := (nI 2)) C dX6_make_42 (by decide) ?_
      refine fm_irem (pc := 43) C dX6_make_43 (by decide) ?_
      refine fm_iconst (pc := 44) (v := (nI 1)) C dX6_make_44 (by decide) ?_
      refine fm_icmp_ne (pc := 45) (tgt := 57) C dX6_make_45 (by decide) (fun c6 => ?_) (fun c6 => ?_)
      · refine fm_iload_n (pc := 48) C dX6_make_48 rfl rfl ?_
        refine fm_iconst (pc := 49) (v := (nI 1)) C dX6_make_49 (by decide) ?_
        refine fm_icmp_le (pc := 50) (tgt := 57) C dX6_make_50 (by decide) (fun c7 => ?_) (fun c7 => ?_)
        · refine fm_iconst (pc := 57) (v := (nI 1)) C dX6_make_57 (by decide) ?_
          refine fm_istore (pc := 58) C dX6_make_58 (by decide) rfl ?_
          refine fm_iload (pc := 60) C dX6_make_60 rfl ?_
          refine fm_iconst (pc := 62) (v := (nI 2)) C dX6_make_62 (by decide) ?_
          refine fm_irem (pc := 63) C dX6_make_63 (by decide) ?_
          refine fm_iconst (pc := 64) (v := (nI 1)) C dX6_make_64 (by decide) ?_
          refine fm_icmp_ne (pc := 65) (tgt := 76) C dX6_make_65 (by decide) (fun c8 => ?_) (fun c8 => ?_)
          · refine fm_iload_n (pc := 68) C dX6_make_68 rfl rfl ?_
            refine fm_iconst (pc := 69) (v := (nI 1)) C dX6_make_69 (by decide) ?_
            refine fm_iadd (pc := 70) C dX6_make_70 ?_
            refine fm_iconst (pc := 71) (v := (nI 2)) C dX6_make_71 (by decide) ?_
            refine fm_idiv (pc := 72) C dX6_make_72 (by decide) ?_
            refine fm_goto (pc := 73) (tgt := 77) C dX6_make_73 (by decide) ?_
            refine fm_istore (pc := 77) C dX6_make_77 (by decide) rfl ?_
            refine fm_iload (pc := 79) C dX6_make_79 rfl ?_
            refine fm_iload_n (pc := 81) C dX6_make_81 rfl rfl ?_
            refine fm_icmp_ne (pc := 82) (tgt := 109) C dX6_make_82 (by decide) (fun c9 => ?_) (fun c9 => ?_)
            · refine fm_iload (pc := 85) C dX6_make_85 rfl ?_
              refine fm_iload (pc := 87) C dX6_make_87 rfl ?_
              refine fm_imul (pc := 89) C dX6_make_89 ?_
              refine fm_iconst (pc := 90) (v := (nI 2)) C dX6_make_90 (by decide) ?_
              refine fm_iload (pc := 91) C dX6_make_91 rfl ?_
              refine fm_iconst (pc := 93) (v := (nI 1)) C dX6_make_93 (by decide) ?_
              refine fm_isub (pc := 94) C dX6_make_94 ?_
              refine fm_imul (pc := 95) C dX6_make_95 ?_
              refine fm_iadd (pc := 96) C dX6_make_96 ?_
              refine fm_iload_n (pc := 97) C dX6_make_97 rfl rfl ?_
              refine fm_icmp_ne (pc := 98) (tgt := 109) C dX6_make_98 (by decide) (fun c10 => ?_) (fun c10 => ?_)
              · refine fm_bipush (pc := 101) (v := (nI 100)) C dX6_make_101 (by decide) ?_
                refine fm_iload_n (pc := 103) C dX6_make_103 rfl rfl ?_
                refine fm_imul (pc := 104) C dX6_make_104 ?_
                refine fm_iload (pc := 105) C dX6_make_105 rfl ?_
                refine fm_iadd (pc := 107) C dX6_make_107 ?_
                exact fm_zret (pc := 108) C hF rfl rfl dX6_make_108
              · refine fm_iinc (pc := 109) C dX6_make_109 rfl (v := (v4 + nI 1)) rfl (by decide) rfl ?_
                refine fm_goto (pc := 112) (tgt := 33) C dX6_make_112 (by decide) ?_
                refine fm_less (lv' := [(1, .int v1), (2, .int v2), (3, .int v3), (4, .int ((v4 + nI 1)))]) (by repeat (first | exact trivial | refine ⟨rfl, ?_⟩)) ?_
                exact ih _
            · refine fm_iinc (pc := 109) C dX6_make_109 rfl (v := (v4 + nI 1)) rfl (by decide) rfl ?_
              refine fm_goto (pc := 112) (tgt := 33) C dX6_make_112 (by decide) ?_
              refine fm_less (lv' := [(1, .int v1), (2, .int v2), (3, .int v3), (4, .int ((v4 + nI 1)))]) (by repeat (first | exact trivial | refine ⟨rfl, ?_⟩)) ?_
              exact ih _
          · refine fm_iload_n (pc := 76) C dX6_make_76 rfl rfl ?_
            refine fm_istore (pc := 77) C dX6_make_77 (by decide) rfl ?_
            refine fm_iload (pc := 79) C dX6_make_79 rfl ?_
            refine fm_iload_n (pc := 81) C dX6_make_81 rfl rfl ?_
            refine fm_icmp_ne (pc := 82) (tgt := 109) C dX6_make_82 (by decide) (fun c11 => ?_) (fun c11 => ?_)
            · refine fm_iload (pc := 85) C dX6_make_85 rfl ?_
              refine fm_iload (pc := 87) C dX6_make_87 rfl ?_
              refine fm_imul (pc := 89) C dX6_make_89 ?_
              refine fm_iconst (pc := 90) (v := (nI 2)) C dX6_make_90 (by decide) ?_
              refine fm_iload (pc := 91) C dX6_make_91 rfl ?_
              refine fm_iconst (pc := 93) (v := (nI 1)) C dX6_make_93 (by decide) ?_
              refine fm_isub (pc := 94) C dX6_make_94 ?_
              refine fm_imul (pc := 95) C dX6_make_95 ?_
              refine fm_iadd (pc := 96) C dX6_make_96 ?_
              refine fm_iload_n (pc := 97) C dX6_make_97 rfl rfl ?_
              refine fm_icmp_ne (pc := 98) (tgt := 109) C dX6_make_98 (by decide) (fun c12 => ?_) (fun c12 => ?_)
              · refine fm_bipush (pc := 101) (v := (nI 100)) C dX6_make_101 (by decide) ?_
                refine fm_iload_n (pc := 103) C dX6_make_103 rfl rfl ?_
                refine fm_imul (pc := 104) C dX6_make_104 ?_
                refine fm_iload (pc := 105) C dX6_make_105 rfl ?_
                refine fm_iadd (pc := 107) C dX6_make_107 ?_
                exact fm_zret (pc := 108) C hF rfl rfl dX6_make_108
              · refine fm_iinc (pc := 109) C dX6_make_109 rfl (v := (v4 + nI 1)) rfl (by decide) rfl ?_
                refine fm_goto (pc := 112) (tgt := 33) C dX6_make_112 (by decide) ?_
                refine fm_less (lv' := [(1, .int v1), (2, .int v2), (3, .int v3), (4, .int ((v4 + nI 1)))]) (by repeat (first | exact trivial | refine ⟨rfl, ?_⟩)) ?_
                exact ih _
            · refine fm_iinc (pc := 109) C dX6_make_109 rfl (v := (v4 + nI 1)) rfl (by decide) rfl ?_
              refine fm_goto (pc := 112) (tgt := 33) C dX6_make_112 (by decide) ?_
              refine fm_less (lv' := [(1, .int v1), (2, .int v2), (3, .int v3), (4, .int ((v4 + nI 1)))]) (by repeat (first | exact trivial | refine ⟨rfl, ?_⟩)) ?_
              exact ih _
        · refine fm_iconst (pc := 53) (v := (nI 2)) C dX6_make_53 (by decide) ?_
          refine fm_goto (pc := 54) (tgt := 58) C dX6_make_54 (by decide) ?_
          refine fm_istore (pc := 58) C dX6_make_58 (by decide) rfl ?_
          refine fm_iload (pc := 60) C dX6_make_60 rfl ?_
          refine fm_iconst (pc := 62) (v := (nI 2)) C dX6_make_62 (by decide) ?_
          refine fm_irem (pc := 63) C dX6_make_63 (by decide) ?_
          refine fm_iconst (pc := 64) (v := (nI 1)) C dX6_make_64 (by decide) ?_
          refine fm_icmp_ne (pc := 65) (tgt := 76) C dX6_make_65 (by decide) (fun c13 => ?_) (fun c13 => ?_)
          · refine fm_iload_n (pc := 68) C dX6_make_68 rfl rfl ?_
            refine fm_iconst (pc := 69) (v := (nI 1)) C dX6_make_69 (by decide) ?_
            refine fm_iadd (pc := 70) C dX6_make_70 ?_
            refine fm_iconst (pc := 71) (v := (nI 2)) C dX6_make_71 (by decide) ?_
            refine fm_idiv (pc := 72) C dX6_make_72 (by decide) ?_
            refine fm_goto (pc := 73) (tgt := 77) C dX6_make_73 (by decide) ?_
            refine fm_istore (pc := 77) C dX6_make_77 (by decide) rfl ?_
            refine fm_iload (pc := 79) C dX6_make_79 rfl ?_
            refine fm_iload_n (pc := 81) C dX6_make_81 rfl rfl ?_
            refine fm_icmp_ne (pc := 82) (tgt := 109) C dX6_make_82 (by decide) (fun c14 => ?_) (fun c14 => ?_)
            · refine fm_iload (pc := 85) C dX6_make_85 rfl ?_
              refine fm_iload (pc := 87) C dX6_make_87 rfl ?_
              refine fm_imul (pc := 89) C dX6_make_89 ?_
              refine fm_iconst (pc := 90) (v := (nI 2)) C dX6_make_90 (by decide) ?_
              refine fm_iload (pc := 91) C dX6_make_91 rfl ?_
              refine fm_iconst (pc := 93) (v := (nI 1)) C dX6_make_93 (by decide) ?_
              refine fm_isub (pc := 94) C dX6_make_94 ?_
              refine fm_imul (pc := 95) C dX6_make_95 ?_
              refine fm_iadd (pc := 96) C dX6_make_96 ?_
              refine fm_iload_n (pc := 97) C dX6_make_97 rfl rfl ?_
              refine fm_icmp_ne (pc := 98) (tgt := 109) C dX6_make_98 (by decide) (fun c15 => ?_) (fun c15 => ?_)
              · refine fm_bipush (pc := 101) (v := (nI 100)) C dX6_make_101 (by decide) ?_
                refine fm_iload_n (pc := 103) C dX6_make_103 rfl rfl ?_
                refine fm_imul (pc := 104) C dX6_make_104 ?_
                refine fm_iload (pc := 105) C dX6_make_105 rfl ?_
                refine fm_iadd (pc := 107) C dX6_make_107 ?_
                exact fm_zret (pc := 108) C hF rfl rfl dX6_make_108
              · refine fm_iinc (pc := 109) C dX6_make_109 rfl (v := (v4 + nI 1)) rfl (by decide) rfl ?_
                refine fm_goto (pc := 112) (tgt := 33) C dX6_make_112 (by decide) ?_
                refine fm_less (lv' := [(1, .int v1), (2, .int v2), (3, .int v3), (4, .int ((v4 + nI 1)))]) (by repeat (first | exact trivial | refine ⟨rfl, ?_⟩)) ?_
                exact ih _
            · refine fm_iinc (pc := 109) C dX6_make_109 rfl (v := (v4 + nI 1)) rfl (by decide) rfl ?_
              refine fm_goto (pc := 112) (tgt := 33) C dX6_make_112 (by decide) ?_
              refine fm_less (lv' := [(1, .int v1), (2, .int v2), (3, .int v3), (4, .int ((v4 + nI 1)))]) (by repeat (first | exact trivial | refine ⟨rfl, ?_⟩)) ?_
              exact ih _
          · refine fm_iload_n (pc := 76) C dX6_make_76 rfl rfl ?_
            refine fm_istore (pc := 77) C dX6_make_77 (by decide) rfl ?_
            refine fm_iload (pc := 79) C dX6_make_79 rfl ?_
            refine fm_iload_n (pc := 81) C dX6_make_81 rfl rfl ?_
            refine fm_icmp_ne (pc := 82) (tgt := 109) C dX6_make_82 (by decide) (fun c16 => ?_) (fun c16 => ?_)
            · refine fm_iload (pc := 85) C dX6_make_85 rfl ?_
              refine fm_iload (pc := 87) C dX6_make_87 rfl ?_
              refine fm_imul (pc := 89) C dX6_make_89 ?_
              refine fm_iconst (pc := 90) (v := (nI 2)) C dX6_make_90 (by decide) ?_
              refine fm_iload (pc := 91) C dX6_make_91 rfl ?_
              refine fm_iconst (pc := 93) (v := (nI 1)) C dX6_make_93 (by decide) ?_
              refine fm_isub (pc := 94) C dX6_make_94 ?_
              refine fm_imul (pc := 95) C dX6_make_95 ?_
              refine fm_iadd (pc := 96) C dX6_make_96 ?_
              refine fm_iload_n (pc := 97) C dX6_make_97 rfl rfl ?_
              refine fm_icmp_ne (pc := 98) (tgt := 109) C dX6_make_98 (by decide) (fun c17 => ?_) (fun c17 => ?_)
              · refine fm_bipush (pc := 101) (v := (nI 100)) C dX6_make_101 (by decide) ?_
                refine fm_iload_n (pc := 103) C dX6_make_103 rfl rfl ?_
                refine fm_imul (pc := 104) C dX6_make_104 ?_
                refine fm_iload (pc := 105) C dX6_make_105 rfl ?_
                refine fm_iadd (pc := 107) C dX6_make_107 ?_
                exact fm_zret (pc := 108) C hF rfl rfl dX6_make_108
              · refine fm_iinc (pc := 109) C dX6_make_109 rfl (v := (v4 + nI 1)) rfl (by decide) rfl ?_
                refine fm_goto (pc := 112) (tgt := 33) C dX6_make_112 (by decide) ?_
                refine fm_less (lv' := [(1, .int v1), (2, .int v2), (3, .int v3), (4, .int ((v4 + nI 1)))]) (by repeat (first | exact trivial | refine ⟨rfl, ?_⟩)) ?_
                exact ih _
            · refine fm_iinc (pc := 109) C dX6_make_109 rfl (v := (v4 + nI 1)) rfl (by decide) rfl ?_
              refine fm_goto (pc := 112) (tgt := 33) C dX6_make_112 (by decide) ?_
              refine fm_less (lv' := [(1, .int v1), (2, .int v2), (3, .int v3), (4, .int ((v4 + nI 1)))]) (by repeat (first | exact trivial | refine ⟨rfl, ?_⟩)) ?_
              exact ih _
      · refine fm_iconst (pc := 57) (v := (nI 1)) C dX6_make_57 (by decide) ?_
        refine fm_istore (pc := 58) C dX6_make_58 (by decide) rfl ?_
        refine fm_iload (pc := 60) C dX6_make_60 rfl ?_
        refine fm_iconst (pc := 62) (v := (nI 2)) C dX6_make_62 (by decide) ?_
        refine fm_irem (pc := 63) C dX6_make_63 (by decide) ?_
        refine fm_iconst (pc := 64) (v := (nI 1)) C dX6_make_64 (by decide) ?_
        refine fm_icmp_ne (pc := 65) (tgt := 76) C dX6_make_65 (by decide) (fun c18 => ?_) (fun c18 => ?_)
        · refine fm_iload_n (pc := 68) C dX6_make_68 rfl rfl ?_
          refine fm_iconst (pc := 69) (v := (nI 1)) C dX6_make_69 (by decide) ?_
          refine fm_iadd (pc := 70) C dX6_make_70 ?_
          refine fm_iconst (pc := 71) (v := (nI 2)) C dX6_make_71 (by decide) ?_
          refine fm_idiv (pc := 72) C dX6_make_72 (by decide) ?_
          refine fm_goto (pc := 73) (tgt := 77) C dX6_make_73 (by decide) ?_
          refine fm_istore (pc := 77) C dX6_make_77 (by decide) rfl ?_
          refine fm_iload (pc := 79) C dX6_make_79 rfl ?_
          refine fm_iload_n (pc := 81) C dX6_make_81 rfl rfl ?_
          refine fm_icmp_ne (pc := 82) (tgt := 109) C dX6_make_82 (by decide) (fun c19 => ?_) (fun c19 => ?_)
          · refine fm_iload (pc := 85) C dX6_make_85 rfl ?_
            refine fm_iload (pc := 87) C dX6_make_87 rfl ?_
            refine fm_imul (pc := 89) C dX6_make_89 ?_
            refine fm_iconst (pc := 90) (v := (nI 2)) C dX6_make_90 (by decide) ?_
            refine fm_iload (pc := 91) C dX6_make_91 rfl ?_
            refine fm_iconst (pc := 93) (v := (nI 1)) C dX6_make_93 (by decide) ?_
            refine fm_isub (pc := 94) C dX6_make_94 ?_
            refine fm_imul (pc := 95) C dX6_make_95 ?_
            refine fm_iadd (pc := 96) C dX6_make_96 ?_
            refine fm_iload_n (pc := 97) C dX6_make_97 rfl rfl ?_
            refine fm_icmp_ne (pc := 98) (tgt := 109) C dX6_make_98 (by decide) (fun c20 => ?_) (fun c20 => ?_)
            · refine fm_bipush (pc := 101) (v := (nI 100)) C dX6_make_101 (by decide) ?_
              refine fm_iload_n (pc := 103) C dX6_make_103 rfl rfl ?_
              refine fm_imul (pc := 104) C dX6_make_104 ?_
              refine fm_iload (pc := 105) C dX6_make_105 rfl ?_
              refine fm_iadd (pc := 107) C dX6_make_107 ?_
              exact fm_zret (pc := 108) C hF rfl rfl dX6_make_108
            · refine fm_iinc (pc := 109) C dX6_make_109 rfl (v := (v4 + nI 1)) rfl (by decide) rfl ?_
              refine fm_goto (pc := 112) (tgt := 33) C dX6_make_112 (by decide) ?_
              refine fm_less (lv' := [(1, .int v1), (2, .int v2), (3, .int v3), (4, .int ((v4 + nI 1)))]) (by repeat (first | exact trivial | refine ⟨rfl, ?_⟩)) ?_
              exact ih _
          · refine fm_iinc (pc := 109) C dX6_make_109 rfl (v := (v4 + nI 1)) rfl (by decide) rfl ?_
            refine fm_goto (pc := 112) (tgt := 33) C dX6_make_112 (by decide) ?_
            refine fm_less (lv' := [(1, .int v1), (2, .int v2), (3, .int v3), (4, .int ((v4 + nI 1)))]) (by repeat (first | exact trivial | refine ⟨rfl, ?_⟩)) ?_
            exact ih _
        · refine fm_iload_n (pc := 76) C dX6_make_76 rfl rfl ?_
          refine fm_istore (pc := 77) C dX6_make_77 (by decide) rfl ?_
          refine fm_iload (pc := 79) C dX6_make_79 rfl ?_
          refine fm_iload_n (pc := 81) C dX6_make_81 rfl rfl ?_
          refine fm_icmp_ne (pc := 82) (tgt := 109) C dX6_make_82 (by decide) (fun c21 => ?_) (fun c21 => ?_)
          · refine fm_iload (pc := 85) C dX6_make_85 rfl ?_
            refine fm_iload (pc := 87) C dX6_make_87 rfl ?_
            refine fm_imul (pc := 89) C dX6_make_89 ?_
            refine fm_iconst (pc := 90) (v := (nI 2)) C dX6_make_90 (by decide) ?_
            refine fm_iload (pc := 91) C dX6_make_91 rfl ?_
            refine fm_iconst (pc := 93) (v := (nI 1)) C dX6_make_93 (by decide) ?_
            refine fm_isub (pc := 94) C dX6_make_94 ?_
            refine fm_imul (pc := 95) C dX6_make_95 ?_
            refine fm_iadd (pc := 96) C dX6_make_96 ?_
            refine fm_iload_n (pc := 97) C dX6_make_97 rfl rfl ?_
            refine fm_icmp_ne (pc := 98) (tgt := 109) C dX6_make_98 (by decide) (fun c22 => ?_) (fun c22 => ?_)
            · refine fm_bipush (pc := 101) (v := (nI 100)) C dX6_make_101 (by decide) ?_
              refine fm_iload_n (pc := 103) C dX6_make_103 rfl rfl ?_
              refine fm_imul (pc := 104) C dX6_make_104 ?_
              refine fm_iload (pc := 105) C dX6_make_105 rfl ?_
              refine fm_iadd (pc := 107) C dX6_make_107 ?_
              exact fm_zret (pc := 108) C hF rfl rfl dX6_make_108
            · refine fm_iinc (pc := 109) C dX6_make_109 rfl (v := (v4 + nI 1)) rfl (by decide) rfl ?_
              refine fm_goto (pc := 112) (tgt := 33) C dX6_make_112 (by decide) ?_
              refine fm_less (lv' := [(1, .int v1), (2, .int v2), (3, .int v3), (4, .int ((v4 + nI 1)))]) (by repeat (first | exact trivial | refine ⟨rfl, ?_⟩)) ?_
              exact ih _
          · refine fm_iinc (pc := 109) C dX6_make_109 rfl (v := (v4 + nI 1)) rfl (by decide) rfl ?_
            refine fm_goto (pc := 112) (tgt := 33) C dX6_make_112 (by decide) ?_
            refine fm_less (lv' := [(1, .int v1), (2, .int v2), (3, .int v3), (4, .int ((v4 + nI 1)))]) (by repeat (first | exact trivial | refine ⟨rfl, ?_⟩)) ?_
            exact ih _
set_option maxHeartbeats 4000000 in
set_option maxRecDepth 100000 in
theorem j_X6_make_24_ {X : fm_X} {G : fm_G} {l : Launch} {v1 : Int32} {v2 : Int32} {μ : fm_I} {ν : fm_L} (C : fm_C X G l cX6_make RX6 7 (some .int) 2 33) {F : (Int32 × fm_I × fm_L) → State → Prop} (hF : F = fm_Qi X G)  {K : Option (Int32 × fm_I × fm_L)} (hK : fm_J X G 7 F (K ) μ ν 121 [] []) : ∀ (k : Nat) (v3 : Int32), fm_J X G 7 F (m_X6_make_24 v1 v2 μ ν K k v3) μ ν 24 [(1, .int v1), (2, .int v2), (3, .int v3)] [] := by
  intro k
  induction k with
  | zero =>
    intro v3
    exact fm_none
  | succ k ih =>
    intro v3
    rw [m_X6_make_24]
    refine fm_iload_n (pc := 24) C dX6_make_24 rfl rfl ?_
    refine fm_bipush (pc := 25) (v := (nI 12)) C dX6_make_25 (by decide) ?_
    refine fm_icmp_gt (pc := 27) (tgt := 121) C dX6_make_27 (by decide) (fun c4 => ?_) (fun c4 => ?_)
    · refine fm_less (lv' := []) (by repeat (first | exact trivial | refine ⟨rfl, ?_⟩)) ?_
      exact hK
    · refine fm_iconst (pc := 30) (v := (nI 0)) C dX6_make_30 (by decide) ?_
      refine fm_istore (pc := 31) C dX6_make_31 (by decide) rfl ?_
      refine fm_less (lv' := [(1, .int v1), (2, .int v2), (3, .int v3), (4, .int ((nI 0)))]) (by repeat (first | exact trivial | refine ⟨rfl, ?_⟩)) ?_
      refine j_X6_make_33_ C (v1 := v1) (v2 := v2) (v3 := v3) hF  ?_ _ _
      refine fm_iinc (pc := 115) C dX6_make_115 rfl (v := (v3 + nI 1)) rfl (by decide) rfl ?_
      refine fm_goto (pc := 118) (tgt := 24) C dX6_make_118 (by decide) ?_
      refine fm_less (lv' := [(1, .int v1), (2, .int v2), (3, .int ((v3 + nI 1)))]) (by repeat (first | exact trivial | refine ⟨rfl, ?_⟩)) ?_
      exact ih _
set_option maxHeartbeats 4000000 in
set_option maxRecDepth 100000 in
theorem j_X6_make {X : fm_X} {G : fm_G} {l : Launch} {v1 : Int32} {v2 : Int32} {μ : fm_I} {ν : fm_L} (C : fm_C X G l cX6_make RX6 7 (some .int) 2 33) {F : (Int32 × fm_I × fm_L) → State → Prop} (hF : F = fm_Qi X G) : fm_J X G 7 F (m_X6_make v1 v2 μ ν) μ ν 0 [(0, .ref (G.2.2.1 58)), (1, .int v1), (2, .int v2)] [] := by
  unfold m_X6_make
  refine fm_iload_n (pc := 0) C dX6_make_0 rfl rfl ?_
  refine fm_iconst (pc := 1) (v := (nI 1)) C dX6_make_1 (by decide) ?_
  refine fm_icmp_lt (pc := 2) (tgt := 15) C dX6_make_2 (by decide) (fun c1 => ?_) (fun c1 => ?_)
  · refine fm_aload_n (pc := 15) C dX6_make_15 rfl rfl ?_
    refine fm_bipush (pc := 16) (v := (-6 : Int32)) C dX6_make_16 (by decide) ?_
    refine fm_bind (fun r18 e18 => ?_)
    refine fm_cVi (pc := 18) C (t_X6_noTen e18) ok_X6_noTen ⟨by decide, rfl⟩ m_ml_X6_216 dX6_make_18 ⟨Nat.le_of_ble_eq_true rfl, Nat.le_of_ble_eq_true rfl⟩ rfl rfl (Nat.le_of_ble_eq_true rfl) ?_
    exact fm_zret (pc := 21) C hF rfl rfl dX6_make_21
  · refine fm_iload_n (pc := 5) C dX6_make_5 rfl rfl ?_
    refine fm_bipush (pc := 6) (v := (nI 12)) C dX6_make_6 (by decide) ?_
    refine fm_icmp_gt (pc := 8) (tgt := 15) C dX6_make_8 (by decide) (fun c2 => ?_) (fun c2 => ?_)
    · refine fm_aload_n (pc := 15) C dX6_make_15 rfl rfl ?_
      refine fm_bipush (pc := 16) (v := (-6 : Int32)) C dX6_make_16 (by decide) ?_
      refine fm_bind (fun r18 e18 => ?_)
      refine fm_cVi (pc := 18) C (t_X6_noTen e18) ok_X6_noTen ⟨by decide, rfl⟩ m_ml_X6_216 dX6_make_18 ⟨Nat.le_of_ble_eq_true rfl, Nat.le_of_ble_eq_true rfl⟩ rfl rfl (Nat.le_of_ble_eq_true rfl) ?_
      exact fm_zret (pc := 21) C hF rfl rfl dX6_make_21
    · refine fm_iload_n (pc := 11) C dX6_make_11 rfl rfl ?_
      refine fm_if_ge (pc := 12) (tgt := 22) C dX6_make_12 (by decide) (fun c3 => ?_) (fun c3 => ?_)
      · refine fm_iconst (pc := 22) (v := (nI 1)) C dX6_make_22 (by decide) ?_
        refine fm_istore_n (pc := 23) C dX6_make_23 rfl (by decide) rfl ?_
        refine fm_less (lv' := [(1, .int v1), (2, .int v2), (3, .int ((nI 1)))]) (by repeat (first | exact trivial | refine ⟨rfl, ?_⟩)) ?_
        refine j_X6_make_24_ C (v1 := v1) (v2 := v2) hF  ?_ _ _
        refine fm_iconst (pc := 121) (v := (-1 : Int32)) C dX6_make_121 (by decide) ?_
        exact fm_zret (pc := 122) C hF rfl rfl dX6_make_122
      · refine fm_aload_n (pc := 15) C dX6_make_15 rfl rfl ?_
        refine fm_bipush (pc := 16) (v := (-6 : Int32)) C dX6_make_16 (by decide) ?_
        refine fm_bind (fun r18 e18 => ?_)
        refine fm_cVi (pc := 18) C (t_X6_noTen e18) ok_X6_noTen ⟨by decide, rfl⟩ m_ml_X6_216 dX6_make_18 ⟨Nat.le_of_ble_eq_true rfl, Nat.le_of_ble_eq_true rfl⟩ rfl rfl (Nat.le_of_ble_eq_true rfl) ?_
        exact fm_zret (pc := 21) C hF rfl rfl dX6_make_21
theorem t_X6_make {l : Launch} {G : fm_G} {v1 : Int32} {v2 : Int32} {μ : fm_I} {ν : fm_L} {r : Int32 × fm_I × fm_L} (h : m_X6_make v1 v2 μ ν = some r) : fm_Mi l G yX6_make cX6_make 7 (some .int) 2 33 [.ref (G.2.2.1 58), .int v1, .int v2] μ ν r := fm_Mi_of (by decide +kernel) (Nat.le_of_ble_eq_true rfl) (fun _ C => j_X6_make C rfl r h)
theorem dX6_leastTwist_0 : decode cX6_leastTwist 0 = .ok (.aload_n 0, 1) := by decide +kernel
theorem dX6_leastTwist_1 : decode cX6_leastTwist 1 = .ok (.iload_n 1, 1) := by decide +kernel
theorem dX6_leastTwist_2 : decode cX6_leastTwist 2 = .ok (.invokevirtual 88, 3) := by decide +kernel
theorem dX6_leastTwist_5 : decode cX6_leastTwist 5 = .ok (.ifCond .ne 9, 3) := by decide +kernel
theorem dX6_leastTwist_8 : decode cX6_leastTwist 8 = .ok (.aload_n 0, 1) := by decide +kernel
theorem dX6_leastTwist_9 : decode cX6_leastTwist 9 = .ok (.iconst (-1), 1) := by decide +kernel
theorem dX6_leastTwist_10 : decode cX6_leastTwist 10 = .ok (.invokevirtual 216, 3) := by decide +kernel
theorem dX6_leastTwist_13 : decode cX6_leastTwist 13 = .ok (.ireturn, 1) := by decide +kernel
theorem dX6_leastTwist_14 : decode cX6_leastTwist 14 = .ok (.iload_n 2, 1) := by decide +kernel
theorem dX6_leastTwist_15 : decode cX6_leastTwist 15 = .ok (.iconst 1, 1) := by decide +kernel
theorem dX6_leastTwist_16 : decode cX6_leastTwist 16 = .ok (.if_icmp .lt 9, 3) := by decide +kernel
theorem dX6_leastTwist_19 : decode cX6_leastTwist 19 = .ok (.iload_n 2, 1) := by decide +kernel
theorem dX6_leastTwist_20 : decode cX6_leastTwist 20 = .ok (.bipush 12, 2) := by decide +kernel
theorem dX6_leastTwist_22 : decode cX6_leastTwist 22 = .ok (.if_icmp .le 10, 3) := by decide +kernel
theorem dX6_leastTwist_25 : decode cX6_leastTwist 25 = .ok (.aload_n 0, 1) := by decide +kernel
theorem dX6_leastTwist_26 : decode cX6_leastTwist 26 = .ok (.bipush (-6), 2) := by decide +kernel
theorem dX6_leastTwist_28 : decode cX6_leastTwist 28 = .ok (.invokevirtual 216, 3) := by decide +kernel
theorem dX6_leastTwist_31 : decode cX6_leastTwist 31 = .ok (.ireturn, 1) := by decide +kernel
theorem dX6_leastTwist_32 : decode cX6_leastTwist 32 = .ok (.aload_n 0, 1) := by decide +kernel
theorem dX6_leastTwist_33 : decode cX6_leastTwist 33 = .ok (.getfield 23, 3) := by decide +kernel
theorem dX6_leastTwist_36 : decode cX6_leastTwist 36 = .ok (.iload_n 1, 1) := by decide +kernel
theorem dX6_leastTwist_37 : decode cX6_leastTwist 37 = .ok (.iaload, 1) := by decide +kernel
theorem dX6_leastTwist_38 : decode cX6_leastTwist 38 = .ok (.istore_n 3, 1) := by decide +kernel
theorem dX6_leastTwist_39 : decode cX6_leastTwist 39 = .ok (.iconst (-1), 1) := by decide +kernel
theorem dX6_leastTwist_40 : decode cX6_leastTwist 40 = .ok (.istore 4, 2) := by decide +kernel
theorem dX6_leastTwist_42 : decode cX6_leastTwist 42 = .ok (.iconst 0, 1) := by decide +kernel
theorem dX6_leastTwist_43 : decode cX6_leastTwist 43 = .ok (.istore 5, 2) := by decide +kernel
theorem dX6_leastTwist_45 : decode cX6_leastTwist 45 = .ok (.iload 5, 2) := by decide +kernel
theorem dX6_leastTwist_47 : decode cX6_leastTwist 47 = .ok (.bipush 40, 2) := by decide +kernel
theorem dX6_leastTwist_49 : decode cX6_leastTwist 49 = .ok (.if_icmp .gt 42, 3) := by decide +kernel
theorem dX6_leastTwist_52 : decode cX6_leastTwist 52 = .ok (.iload 4, 2) := by decide +kernel
theorem dX6_leastTwist_54 : decode cX6_leastTwist 54 = .ok (.iconst (-1), 1) := by decide +kernel
theorem dX6_leastTwist_55 : decode cX6_leastTwist 55 = .ok (.if_icmp .ne 36, 3) := by decide +kernel
theorem dX6_leastTwist_58 : decode cX6_leastTwist 58 = .ok (.aload_n 0, 1) := by decide +kernel
theorem dX6_leastTwist_59 : decode cX6_leastTwist 59 = .ok (.getfield 23, 3) := by decide +kernel
theorem dX6_leastTwist_62 : decode cX6_leastTwist 62 = .ok (.iload_n 1, 1) := by decide +kernel
theorem dX6_leastTwist_63 : decode cX6_leastTwist 63 = .ok (.iload_n 3, 1) := by decide +kernel
theorem dX6_leastTwist_64 : decode cX6_leastTwist 64 = .ok (.iload 5, 2) := by decide +kernel
theorem dX6_leastTwist_66 : decode cX6_leastTwist 66 = .ok (.iadd, 1) := by decide +kernel
theorem dX6_leastTwist_67 : decode cX6_leastTwist 67 = .ok (.iastore, 1) := by decide +kernel
theorem dX6_leastTwist_68 : decode cX6_leastTwist 68 = .ok (.aload_n 0, 1) := by decide +kernel
theorem dX6_leastTwist_69 : decode cX6_leastTwist 69 = .ok (.iload_n 1, 1) := by decide +kernel
theorem dX6_leastTwist_70 : decode cX6_leastTwist 70 = .ok (.invokevirtual 175, 3) := by decide +kernel
theorem dX6_leastTwist_73 : decode cX6_leastTwist 73 = .ok (.aload_n 0, 1) := by decide +kernel
theorem dX6_leastTwist_74 : decode cX6_leastTwist 74 = .ok (.getfield 172, 3) := by decide +kernel
theorem dX6_leastTwist_77 : decode cX6_leastTwist 77 = .ok (.iload_n 2, 1) := by decide +kernel
theorem dX6_leastTwist_78 : decode cX6_leastTwist 78 = .ok (.if_icmp .ne 7, 3) := by decide +kernel
theorem dX6_leastTwist_81 : decode cX6_leastTwist 81 = .ok (.iload 5, 2) := by decide +kernel
theorem dX6_leastTwist_83 : decode cX6_leastTwist 83 = .ok (.istore 4, 2) := by decide +kernel
theorem dX6_leastTwist_85 : decode cX6_leastTwist 85 = .ok (.iinc 5 1, 3) := by decide +kernel
theorem dX6_leastTwist_88 : decode cX6_leastTwist 88 = .ok (.goto (-43), 3) := by decide +kernel
theorem dX6_leastTwist_91 : decode cX6_leastTwist 91 = .ok (.aload_n 0, 1) := by decide +kernel
theorem dX6_leastTwist_92 : decode cX6_leastTwist 92 = .ok (.getfield 23, 3) := by decide +kernel
theorem dX6_leastTwist_95 : decode cX6_leastTwist 95 = .ok (.iload_n 1, 1) := by decide +kernel
theorem dX6_leastTwist_96 : decode cX6_leastTwist 96 = .ok (.iload_n 3, 1) := by decide +kernel
theorem dX6_leastTwist_97 : decode cX6_leastTwist 97 = .ok (.iastore, 1) := by decide +kernel
theorem dX6_leastTwist_98 : decode cX6_leastTwist 98 = .ok (.iload 4, 2) := by decide +kernel
theorem dX6_leastTwist_100 : decode cX6_leastTwist 100 = .ok (.ireturn, 1) := by decide +kernel
def m_X6_leastTwist_45 (v1 : Int32) (v2 : Int32) (v3 : Int32) (K : Int32 → fm_I → fm_L → Option (Int32 × fm_I × fm_L)) : Nat → Int32 → Int32 → fm_I → fm_L → Option (Int32 × fm_I × fm_L)
  | 0, _, _, _, _ => none
  | k + 1, v4, v5, μ, ν => if (nI 40) < v5 then K v4 μ ν else if v4 = (-1 : Int32) then fm_g (fm_in v1 (fm_n 61)) ((m_X6_cuts v1 (fm_u μ 61 v1.toNatClampNeg ((v3 + v5))) ν).bind (fun r70 => if (r70.1 58 28) = v2 then m_X6_leastTwist_45 v1 v2 v3 K k v5 ((v5 + nI 1)) r70.1 r70.2 else m_X6_leastTwist_45 v1 v2 v3 K k v4 ((v5 + nI 1)) r70.1 r70.2)) else K v4 μ ν
def m_X6_leastTwist (v1 : Int32) (v2 : Int32) (μ : fm_I) (ν : fm_L) : Option (Int32 × fm_I × fm_L) :=
  (m_X6_isBand v1 μ ν).bind (fun r2 => if r2 = 0 then (m_X6_noTen ((-1 : Int32)) μ ν).bind (fun r10 => some ((r10.1, r10.2.1, r10.2.2))) else if v2 < (nI 1) then (m_X6_noTen ((-6 : Int32)) μ ν).bind (fun r28 => some ((r28.1, r28.2.1, r28.2.2))) else if v2 ≤ (nI 12) then fm_g (fm_in v1 (fm_n 61)) (m_X6_leastTwist_45 v1 v2 ((μ 61 v1.toNatClampNeg))  (fun x4_45 μ45 ν45 => some ((x4_45, (fm_u μ45 61 v1.toNatClampNeg ((μ 61 v1.toNatClampNeg))), ν45))) 5000 ((-1 : Int32)) ((nI 0)) μ ν) else (m_X6_noTen ((-6 : Int32)) μ ν).bind (fun r28 => some ((r28.1, r28.2.1, r28.2.2))))
theorem ok_X6_leastTwist : fm_okV yX6_leastTwist cX6_leastTwist 6 (some .int) 2 := ⟨m_cd_X6_leastTwist, m_im_X6_leastTwist, m_se_X6_X6_leastTwist, m_ini_X6, by decide +kernel, by decide +kernel, by decide +kernel⟩
set_option maxHeartbeats 4000000 in
set_option maxRecDepth 100000 in
theorem j_X6_leastTwist_45_ {X : fm_X} {G : fm_G} {l : Launch} {v1 : Int32} {v2 : Int32} {v3 : Int32} (C : fm_C X G l cX6_leastTwist RX6 6 (some .int) 4 82) {F : (Int32 × fm_I × fm_L) → State → Prop} (hF : F = fm_Qi X G)  {K : Int32 → fm_I → fm_L → Option (Int32 × fm_I × fm_L)} (hK : ∀ (v4 : Int32) (μ : fm_I) (ν : fm_L), fm_J X G 6 F (K v4 μ ν) μ ν 91 [(0, .ref (G.2.2.1 58)), (1, .int v1), (3, .int v3), (4, .int v4)] []) : ∀ (k : Nat) (v4 : Int32) (v5 : Int32) (μ : fm_I) (ν : fm_L), fm_J X G 6 F (m_X6_leastTwist_45 v1 v2 v3 K k v4 v5 μ ν) μ ν 45 [(0, .ref (G.2.2.1 58)), (1, .int v1), (2, .int v2), (3, .int v3), (4, .int v4), (5, .int v5)] [] := by
  intro k
  induction k with
  | zero =>
    intro v4 v5 μ ν
    exact fm_none
  | succ k ih =>
    intro v4 v5 μ ν
    rw [m_X6_leastTwist_45]
    refine fm_iload (pc := 45) C dX6_leastTwist_45 rfl ?_
    refine fm_bipush (pc := 47) (v := (nI 40)) C dX6_leastTwist_47 (by decide) ?_
    refine fm_icmp_gt (pc := 49) (tgt := 91) C dX6_leastTwist_49 (by decide) (fun c5 => ?_) (fun c5 => ?_)
    · refine fm_less (lv' := [(0, .ref (G.2.2.1 58)), (1, .int v1), (3, .int v3), (4, .int v4)]) (by repeat (first | exact trivial | refine ⟨rfl, ?_⟩)) ?_
      exact hK _ _ _
    · refine fm_iload (pc := 52) C dX6_leastTwist_52 rfl ?_
      refine fm_iconst (pc := 54) (v := (-1 : Int32)) C dX6_leastTwist_54 (by decide) ?_
      refine fm_icmp_ne (pc := 55) (tgt := 91) C dX6_leastTwist_55 (by decide) (fun c6 => ?_) (fun c6 => ?_)
      · refine fm_aload_n (pc := 58) C dX6_leastTwist_58 rfl rfl ?_
        refine g6_twists (pc := 59) C (by decide) dX6_leastTwist_59 m_fl_X6_23 ?_
        refine fm_iload_n (pc := 62) C dX6_leastTwist_62 rfl rfl ?_
        refine fm_iload_n (pc := 63) C dX6_leastTwist_63 rfl rfl ?_
        refine fm_iload (pc := 64) C dX6_leastTwist_64 rfl ?_
        refine fm_iadd (pc := 66) C dX6_leastTwist_66 ?_
        refine fm_guard (fun h7 => ?_)
        refine fm_iast (pc := 67) C (by decide) h7 dX6_leastTwist_67 ?_
        refine fm_aload_n (pc := 68) C dX6_leastTwist_68 rfl rfl ?_
        refine fm_iload_n (pc := 69) C dX6_leastTwist_69 rfl rfl ?_
        refine fm_bind (fun r70 e70 => ?_)
        refine fm_cVv (pc := 70) C (t_X6_cuts e70) ok_X6_cuts ⟨by decide, rfl⟩ m_ml_X6_175 dX6_leastTwist_70 ⟨Nat.le_of_ble_eq_true rfl, Nat.le_of_ble_eq_true rfl⟩ rfl rfl (Nat.le_of_ble_eq_true rfl) ?_
        refine fm_aload_n (pc := 73) C dX6_leastTwist_73 rfl rfl ?_
        refine g6_pieces (pc := 74) C (by decide) dX6_leastTwist_74 m_fl_X6_172 ?_
        refine fm_iload_n (pc := 77) C dX6_leastTwist_77 rfl rfl ?_
        refine fm_icmp_ne (pc := 78) (tgt := 85) C dX6_leastTwist_78 (by decide) (fun c8 => ?_) (fun c8 => ?_)
        · refine fm_iload (pc := 81) C dX6_leastTwist_81 rfl ?_
          refine fm_istore (pc := 83) C dX6_leastTwist_83 (by decide) rfl ?_
          refine fm_iinc (pc := 85) C dX6_leastTwist_85 rfl (v := (v5 + nI 1)) rfl (by decide) rfl ?_
          refine fm_goto (pc := 88) (tgt := 45) C dX6_leastTwist_88 (by decide) ?_
          refine fm_less (lv' := [(0, .ref (G.2.2.1 58)), (1, .int v1), (2, .int v2), (3, .int v3), (4, .int v5), (5, .int ((v5 + nI 1)))]) (by repeat (first | exact trivial | refine ⟨rfl, ?_⟩)) ?_
          exact ih _ _ _ _
        · refine fm_iinc (pc := 85) C dX6_leastTwist_85 rfl (v := (v5 + nI 1)) rfl (by decide) rfl ?_
          refine fm_goto (pc := 88) (tgt := 45) C dX6_leastTwist_88 (by decide) ?_
          refine fm_less (lv' := [(0, .ref (G.2.2.1 58)), (1, .int v1), (2, .int v2), (3, .int v3), (4, .int v4), (5, .int ((v5 + nI 1)))]) (by repeat (first | exact trivial | refine ⟨rfl, ?_⟩)) ?_
          exact ih _ _ _ _
      · refine fm_less (lv' := [(0, .ref (G.2.2.1 58)), (1, .int v1), (3, .int v3), (4, .int v4)]) (by repeat (first | exact trivial | refine ⟨rfl, ?_⟩)) ?_
        exact hK _ _ _
set_option maxHeartbeats 4000000 in
set_option maxRecDepth 100000 in
theorem j_X6_leastTwist {X : fm_X} {G : fm_G} {l : Launch} {v1 : Int32} {v2 : Int32} {μ : fm_I} {ν : fm_L} (C : fm_C X G l cX6_leastTwist RX6 6 (some .int) 4 82) {F : (Int32 × fm_I × fm_L) → State → Prop} (hF : F = fm_Qi X G) : fm_J X G 6 F (m_X6_leastTwist v1 v2 μ ν) μ ν 0 [(0, .ref (G.2.2.1 58)), (1, .int v1), (2, .int v2)] [] := by
  unfold m_X6_leastTwist
  refine fm_aload_n (pc := 0) C dX6_leastTwist_0 rfl rfl ?_
  refine fm_iload_n (pc := 1) C dX6_leastTwist_1 rfl rfl ?_
  refine fm_bind (fun r2 e2 => ?_)
  refine fm_cVi0 (pc := 2) C (t_X6_isBand e2) ok_X6_isBand ⟨by decide, rfl⟩ m_ml_X6_88 dX6_leastTwist_2 ⟨Nat.le_of_ble_eq_true rfl, Nat.le_of_ble_eq_true rfl⟩ rfl rfl (Nat.le_of_ble_eq_true rfl) ?_
  refine fm_if_ne (pc := 5) (tgt := 14) C dX6_leastTwist_5 (by decide) (fun c1 => ?_) (fun c1 => ?_)
  · refine fm_aload_n (pc := 8) C dX6_leastTwist_8 rfl rfl ?_
    refine fm_iconst (pc := 9) (v := (-1 : Int32)) C dX6_leastTwist_9 (by decide) ?_
    refine fm_bind (fun r10 e10 => ?_)
    refine fm_cVi (pc := 10) C (t_X6_noTen e10) ok_X6_noTen ⟨by decide, rfl⟩ m_ml_X6_216 dX6_leastTwist_10 ⟨Nat.le_of_ble_eq_true rfl, Nat.le_of_ble_eq_true rfl⟩ rfl rfl (Nat.le_of_ble_eq_true rfl) ?_
    exact fm_zret (pc := 13) C hF rfl rfl dX6_leastTwist_13
  · refine fm_iload_n (pc := 14) C dX6_leastTwist_14 rfl rfl ?_
    refine fm_iconst (pc := 15) (v := (nI 1)) C dX6_leastTwist_15 (by decide) ?_
    refine fm_icmp_lt (pc := 16) (tgt := 25) C dX6_leastTwist_16 (by decide) (fun c2 => ?_) (fun c2 => ?_)
    · refine fm_aload_n (pc := 25) C dX6_leastTwist_25 rfl rfl ?_
      refine fm_bipush (pc := 26) (v := (-6 : Int32)) C dX6_leastTwist_26 (by decide) ?_
      refine fm_bind (fun r28 e28 => ?_)
      refine fm_cVi (pc := 28) C (t_X6_noTen e28) ok_X6_noTen ⟨by decide, rfl⟩ m_ml_X6_216 dX6_leastTwist_28 ⟨Nat.le_of_ble_eq_true rfl, Nat.le_of_ble_eq_true rfl⟩ rfl rfl (Nat.le_of_ble_eq_true rfl) ?_
      exact fm_zret (pc := 31) C hF rfl rfl dX6_leastTwist_31
    · refine fm_iload_n (pc := 19) C dX6_leastTwist_19 rfl rfl ?_
      refine fm_bipush (pc := 20) (v := (nI 12)) C dX6_leastTwist_20 (by decide) ?_
      refine fm_icmp_le (pc := 22) (tgt := 32) C dX6_leastTwist_22 (by decide) (fun c3 => ?_) (fun c3 => ?_)
      · refine fm_aload_n (pc := 32) C dX6_leastTwist_32 rfl rfl ?_
        refine g6_twists (pc := 33) C (by decide) dX6_leastTwist_33 m_fl_X6_23 ?_
        refine fm_iload_n (pc := 36) C dX6_leastTwist_36 rfl rfl ?_
        refine fm_guard (fun h4 => ?_)
        refine fm_iald (pc := 37) C (by decide) h4 dX6_leastTwist_37 ?_
        refine fm_istore_n (pc := 38) C dX6_leastTwist_38 rfl (by decide) rfl ?_
        refine fm_iconst (pc := 39) (v := (-1 : Int32)) C dX6_leastTwist_39 (by decide) ?_
        refine fm_istore (pc := 40) C dX6_leastTwist_40 (by decide) rfl ?_
        refine fm_iconst (pc := 42) (v := (nI 0)) C dX6_leastTwist_42 (by decide) ?_
        refine fm_istore (pc := 43) C dX6_leastTwist_43 (by decide) rfl ?_
        refine fm_less (lv' := [(0, .ref (G.2.2.1 58)), (1, .int v1), (2, .int v2), (3, .int ((μ 61 v1.toNatClampNeg))), (4, .int ((-1 : Int32))), (5, .int ((nI 0)))]) (by repeat (first | exact trivial | refine ⟨rfl, ?_⟩)) ?_
        refine j_X6_leastTwist_45_ C (v1 := v1) (v2 := v2) (v3 := (μ 61 v1.toNatClampNeg)) hF  (fun x4_45 μ45 ν45 => ?_) _ _ _ _ _
        refine fm_aload_n (pc := 91) C dX6_leastTwist_91 rfl rfl ?_
        refine g6_twists (pc := 92) C (by decide) dX6_leastTwist_92 m_fl_X6_23 ?_
        refine fm_iload_n (pc := 95) C dX6_leastTwist_95 rfl rfl ?_
        refine fm_iload_n (pc := 96) C dX6_leastTwist_96 rfl rfl ?_
        refine fm_iast (pc := 97) C (by decide) h4 dX6_leastTwist_97 ?_
        refine fm_iload (pc := 98) C dX6_leastTwist_98 rfl ?_
        exact fm_zret (pc := 100) C hF rfl rfl dX6_leastTwist_100
      · refine fm_aload_n (pc := 25) C dX6_leastTwist_25 rfl rfl ?_
        refine fm_bipush (pc := 26) (v := (-6 : Int32)) C dX6_leastTwist_26 (by decide) ?_
        refine fm_bind (fun r28 e28 => ?_)
        refine fm_cVi (pc := 28) C (t_X6_noTen e28) ok_X6_noTen ⟨by decide, rfl⟩ m_ml_X6_216 dX6_leastTwist_28 ⟨Nat.le_of_ble_eq_true rfl, Nat.le_of_ble_eq_true rfl⟩ rfl rfl (Nat.le_of_ble_eq_true rfl) ?_
        exact fm_zret (pc := 31) C hF rfl rfl dX6_leastTwist_31
theorem t_X6_leastTwist {l : Launch} {G : fm_G} {v1 : Int32} {v2 : Int32} {μ : fm_I} {ν : fm_L} {r : Int32 × fm_I × fm_L} (h : m_X6_leastTwist v1 v2 μ ν = some r) : fm_Mi l G yX6_leastTwist cX6_leastTwist 6 (some .int) 4 82 [.ref (G.2.2.1 58), .int v1, .int v2] μ ν r := fm_Mi_of (by decide +kernel) (Nat.le_of_ble_eq_true rfl) (fun _ C => j_X6_leastTwist C rfl r h)
theorem dX6_most_0 : decode cX6_most 0 = .ok (.aload_n 0, 1) := by decide +kernel
theorem dX6_most_1 : decode cX6_most 1 = .ok (.iload_n 1, 1) := by decide +kernel
theorem dX6_most_2 : decode cX6_most 2 = .ok (.invokevirtual 88, 3) := by decide +kernel
theorem dX6_most_5 : decode cX6_most 5 = .ok (.ifCond .ne 9, 3) := by decide +kernel
theorem dX6_most_8 : decode cX6_most 8 = .ok (.aload_n 0, 1) := by decide +kernel
theorem dX6_most_9 : decode cX6_most 9 = .ok (.iconst (-1), 1) := by decide +kernel
theorem dX6_most_10 : decode cX6_most 10 = .ok (.invokevirtual 95, 3) := by decide +kernel
theorem dX6_most_13 : decode cX6_most 13 = .ok (.ireturn, 1) := by decide +kernel
theorem dX6_most_14 : decode cX6_most 14 = .ok (.aload_n 0, 1) := by decide +kernel
theorem dX6_most_15 : decode cX6_most 15 = .ok (.getfield 26, 3) := by decide +kernel
theorem dX6_most_18 : decode cX6_most 18 = .ok (.iload_n 1, 1) := by decide +kernel
theorem dX6_most_19 : decode cX6_most 19 = .ok (.iaload, 1) := by decide +kernel
theorem dX6_most_20 : decode cX6_most 20 = .ok (.istore_n 2, 1) := by decide +kernel
theorem dX6_most_21 : decode cX6_most 21 = .ok (.iconst 1, 1) := by decide +kernel
theorem dX6_most_22 : decode cX6_most 22 = .ok (.istore_n 3, 1) := by decide +kernel
theorem dX6_most_23 : decode cX6_most 23 = .ok (.iconst 0, 1) := by decide +kernel
theorem dX6_most_24 : decode cX6_most 24 = .ok (.istore 4, 2) := by decide +kernel
theorem dX6_most_26 : decode cX6_most 26 = .ok (.iconst 1, 1) := by decide +kernel
theorem dX6_most_27 : decode cX6_most 27 = .ok (.istore 5, 2) := by decide +kernel
theorem dX6_most_29 : decode cX6_most 29 = .ok (.iload 5, 2) := by decide +kernel
theorem dX6_most_31 : decode cX6_most 31 = .ok (.bipush 12, 2) := by decide +kernel
theorem dX6_most_33 : decode cX6_most 33 = .ok (.if_icmp .gt 41, 3) := by decide +kernel
theorem dX6_most_36 : decode cX6_most 36 = .ok (.aload_n 0, 1) := by decide +kernel
theorem dX6_most_37 : decode cX6_most 37 = .ok (.getfield 26, 3) := by decide +kernel
theorem dX6_most_40 : decode cX6_most 40 = .ok (.iload_n 1, 1) := by decide +kernel
theorem dX6_most_41 : decode cX6_most 41 = .ok (.iload 5, 2) := by decide +kernel
theorem dX6_most_43 : decode cX6_most 43 = .ok (.iastore, 1) := by decide +kernel
theorem dX6_most_44 : decode cX6_most 44 = .ok (.aload_n 0, 1) := by decide +kernel
theorem dX6_most_45 : decode cX6_most 45 = .ok (.iload_n 1, 1) := by decide +kernel
theorem dX6_most_46 : decode cX6_most 46 = .ok (.invokevirtual 198, 3) := by decide +kernel
theorem dX6_most_49 : decode cX6_most 49 = .ok (.istore 6, 2) := by decide +kernel
theorem dX6_most_51 : decode cX6_most 51 = .ok (.iload 6, 2) := by decide +kernel
theorem dX6_most_53 : decode cX6_most 53 = .ok (.iload 4, 2) := by decide +kernel
theorem dX6_most_55 : decode cX6_most 55 = .ok (.if_icmp .gt 6, 3) := by decide +kernel
theorem dX6_most_58 : decode cX6_most 58 = .ok (.goto 10, 3) := by decide +kernel
theorem dX6_most_61 : decode cX6_most 61 = .ok (.iload 5, 2) := by decide +kernel
theorem dX6_most_63 : decode cX6_most 63 = .ok (.istore_n 3, 1) := by decide +kernel
theorem dX6_most_64 : decode cX6_most 64 = .ok (.iload 6, 2) := by decide +kernel
theorem dX6_most_66 : decode cX6_most 66 = .ok (.istore 4, 2) := by decide +kernel
theorem dX6_most_68 : decode cX6_most 68 = .ok (.iinc 5 1, 3) := by decide +kernel
theorem dX6_most_71 : decode cX6_most 71 = .ok (.goto (-42), 3) := by decide +kernel
theorem dX6_most_74 : decode cX6_most 74 = .ok (.aload_n 0, 1) := by decide +kernel
theorem dX6_most_75 : decode cX6_most 75 = .ok (.getfield 26, 3) := by decide +kernel
theorem dX6_most_78 : decode cX6_most 78 = .ok (.iload_n 1, 1) := by decide +kernel
theorem dX6_most_79 : decode cX6_most 79 = .ok (.iload_n 2, 1) := by decide +kernel
theorem dX6_most_80 : decode cX6_most 80 = .ok (.iastore, 1) := by decide +kernel
theorem dX6_most_81 : decode cX6_most 81 = .ok (.iload_n 3, 1) := by decide +kernel
theorem dX6_most_82 : decode cX6_most 82 = .ok (.ireturn, 1) := by decide +kernel
def m_X6_most_29 (v1 : Int32) (v2 : Int32) (K : Int32 → fm_I → fm_L → Option (Int32 × fm_I × fm_L)) : Nat → Int32 → Int32 → Int32 → fm_I → fm_L → Option (Int32 × fm_I × fm_L)
  | 0, _, _, _, _, _ => none
  | k + 1, v3, v4, v5, μ, ν => if (nI 12) < v5 then K v3 μ ν else fm_g (fm_in v1 (fm_n 62)) ((m_X6_allOf v1 (fm_u μ 62 v1.toNatClampNeg v5) ν).bind (fun r46 => if v4 < r46.1 then m_X6_most_29 v1 v2 K k v5 r46.1 ((v5 + nI 1)) r46.2.1 r46.2.2 else m_X6_most_29 v1 v2 K k v3 v4 ((v5 + nI 1)) r46.2.1 r46.2.2))
def m_X6_most (v1 : Int32) (μ : fm_I) (ν : fm_L) : Option (Int32 × fm_I × fm_L) :=
  (m_X6_isBand v1 μ ν).bind (fun r2 => if r2 = 0 then (m_X6_no ((-1 : Int32)) μ ν).bind (fun r10 => some ((r10.1, r10.2.1, r10.2.2))) else fm_g (fm_in v1 (fm_n 62)) (m_X6_most_29 v1 ((μ 62 v1.toNatClampNeg))  (fun x3_29 μ29 ν29 => some ((x3_29, (fm_u μ29 62 v1.toNatClampNeg ((μ 62 v1.toNatClampNeg))), ν29))) 5000 ((nI 1)) ((nI 0)) ((nI 1)) μ ν))
theorem ok_X6_most : fm_okV yX6_most cX6_most 7 (some .int) 1 := ⟨m_cd_X6_most, m_im_X6_most, m_se_X6_X6_most, m_ini_X6, by decide +kernel, by decide +kernel, by decide +kernel⟩
set_option maxHeartbeats 4000000 in
set_option maxRecDepth 100000 in
theorem j_X6_most_29_ {X : fm_X} {G : fm_G} {l : Launch} {v1 : Int32} {v2 : Int32} (C : fm_C X G l cX6_most RX6 7 (some .int) 6 134) {F : (Int32 × fm_I × fm_L) → State → Prop} (hF : F = fm_Qi X G)  {K : Int32 → fm_I → fm_L → Option (Int32 × fm_I × fm_L)} (hK : ∀ (v3 : Int32) (μ : fm_I) (ν : fm_L), fm_J X G 7 F (K v3 μ ν) μ ν 74 [(0, .ref (G.2.2.1 58)), (1, .int v1), (2, .int v2), (3, .int v3)] []) : ∀ (k : Nat) (v3 : Int32) (v4 : Int32) (v5 : Int32) (μ : fm_I) (ν : fm_L), fm_J X G 7 F (m_X6_most_29 v1 v2 K k v3 v4 v5 μ ν) μ ν 29 [(0, .ref (G.2.2.1 58)), (1, .int v1), (2, .int v2), (3, .int v3), (4, .int v4), (5, .int v5)] [] := by
  intro k
  induction k with
  | zero =>
    intro v3 v4 v5 μ ν
    exact fm_none
  | succ k ih =>
    intro v3 v4 v5 μ ν
    rw [m_X6_most_29]
    refine fm_iload (pc := 29) C dX6_most_29 rfl ?_
    refine fm_bipush (pc := 31) (v := (nI 12)) C dX6_most_31 (by decide) ?_
    refine fm_icmp_gt (pc := 33) (tgt := 74) C dX6_most_33 (by decide) (fun c3 => ?_) (fun c3 => ?_)
    · refine fm_less (lv' := [(0, .ref (G.2.2.1 58)), (1, .int v1), (2, .int v2), (3, .int v3)]) (by repeat (first | exact trivial | refine ⟨rfl, ?_⟩)) ?_
      exact hK _ _ _
    · refine fm_aload_n (pc := 36) C dX6_most_36 rfl rfl ?_
      refine g6_strips (pc := 37) C (by decide) dX6_most_37 m_fl_X6_26 ?_
      refine fm_iload_n (pc := 40) C dX6_most_40 rfl rfl ?_
      refine fm_iload (pc := 41) C dX6_most_41 rfl ?_
      refine fm_guard (fun h4 => ?_)
      refine fm_iast (pc := 43) C (by decide) h4 dX6_most_43 ?_
      refine fm_aload_n (pc := 44) C dX6_most_44 rfl rfl ?_
      refine fm_iload_n (pc := 45) C dX6_most_45 rfl rfl ?_
      refine fm_bind (fun r46 e46 => ?_)
      refine fm_cVi (pc := 46) C (t_X6_allOf e46) ok_X6_allOf ⟨by decide, rfl⟩ m_ml_X6_198 dX6_most_46 ⟨Nat.le_of_ble_eq_true rfl, Nat.le_of_ble_eq_true rfl⟩ rfl rfl (Nat.le_of_ble_eq_true rfl) ?_
      refine fm_istore (pc := 49) C dX6_most_49 (by decide) rfl ?_
      refine fm_iload (pc := 51) C dX6_most_51 rfl ?_
      refine fm_iload (pc := 53) C dX6_most_53 rfl ?_
      refine fm_icmp_gt (pc := 55) (tgt := 61) C dX6_most_55 (by decide) (fun c5 => ?_) (fun c5 => ?_)
      · refine fm_iload (pc := 61) C dX6_most_61 rfl ?_
        refine fm_istore_n (pc := 63) C dX6_most_63 rfl (by decide) rfl ?_
        refine fm_iload (pc := 64) C dX6_most_64 rfl ?_
        refine fm_istore (pc := 66) C dX6_most_66 (by decide) rfl ?_
        refine fm_iinc (pc := 68) C dX6_most_68 rfl (v := (v5 + nI 1)) rfl (by decide) rfl ?_
        refine fm_goto (pc := 71) (tgt := 29) C dX6_most_71 (by decide) ?_
        refine fm_less (lv' := [(0, .ref (G.2.2.1 58)), (1, .int v1), (2, .int v2), (3, .int v5), (4, .int r46.1), (5, .int ((v5 + nI 1)))]) (by repeat (first | exact trivial | refine ⟨rfl, ?_⟩)) ?_
        exact ih _ _ _ _ _
      · refine fm_goto (pc := 58) (tgt := 68) C dX6_most_58 (by decide) ?_
        refine fm_iinc (pc := 68) C dX6_most_68 rfl (v := (v5 + nI 1)) rfl (by decide) rfl ?_
        refine fm_goto (pc := 71) (tgt := 29) C dX6_most_71 (by decide) ?_
        refine fm_less (lv' := [(0, .ref (G.2.2.1 58)), (1, .int v1), (2, .int v2), (3, .int v3), (4, .int v4), (5, .int ((v5 + nI 1)))]) (by repeat (first | exact trivial | refine ⟨rfl, ?_⟩)) ?_
        exact ih _ _ _ _ _
set_option maxHeartbeats 4000000 in
set_option maxRecDepth 100000 in
theorem j_X6_most {X : fm_X} {G : fm_G} {l : Launch} {v1 : Int32} {μ : fm_I} {ν : fm_L} (C : fm_C X G l cX6_most RX6 7 (some .int) 6 134) {F : (Int32 × fm_I × fm_L) → State → Prop} (hF : F = fm_Qi X G) : fm_J X G 7 F (m_X6_most v1 μ ν) μ ν 0 [(0, .ref (G.2.2.1 58)), (1, .int v1)] [] := by
  unfold m_X6_most
  refine fm_aload_n (pc := 0) C dX6_most_0 rfl rfl ?_
  refine fm_iload_n (pc := 1) C dX6_most_1 rfl rfl ?_
  refine fm_bind (fun r2 e2 => ?_)
  refine fm_cVi0 (pc := 2) C (t_X6_isBand e2) ok_X6_isBand ⟨by decide, rfl⟩ m_ml_X6_88 dX6_most_2 ⟨Nat.le_of_ble_eq_true rfl, Nat.le_of_ble_eq_true rfl⟩ rfl rfl (Nat.le_of_ble_eq_true rfl) ?_
  refine fm_if_ne (pc := 5) (tgt := 14) C dX6_most_5 (by decide) (fun c1 => ?_) (fun c1 => ?_)
  · refine fm_aload_n (pc := 8) C dX6_most_8 rfl rfl ?_
    refine fm_iconst (pc := 9) (v := (-1 : Int32)) C dX6_most_9 (by decide) ?_
    refine fm_bind (fun r10 e10 => ?_)
    refine fm_cVi (pc := 10) C (t_X6_no e10) ok_X6_no ⟨by decide, rfl⟩ m_ml_X6_95 dX6_most_10 ⟨Nat.le_of_ble_eq_true rfl, Nat.le_of_ble_eq_true rfl⟩ rfl rfl (Nat.le_of_ble_eq_true rfl) ?_
    exact fm_zret (pc := 13) C hF rfl rfl dX6_most_13
  · refine fm_aload_n (pc := 14) C dX6_most_14 rfl rfl ?_
    refine g6_strips (pc := 15) C (by decide) dX6_most_15 m_fl_X6_26 ?_
    refine fm_iload_n (pc := 18) C dX6_most_18 rfl rfl ?_
    refine fm_guard (fun h2 => ?_)
    refine fm_iald (pc := 19) C (by decide) h2 dX6_most_19 ?_
    refine fm_istore_n (pc := 20) C dX6_most_20 rfl (by decide) rfl ?_
    refine fm_iconst (pc := 21) (v := (nI 1)) C dX6_most_21 (by decide) ?_
    refine fm_istore_n (pc := 22) C dX6_most_22 rfl (by decide) rfl ?_
    refine fm_iconst (pc := 23) (v := (nI 0)) C dX6_most_23 (by decide) ?_
    refine fm_istore (pc := 24) C dX6_most_24 (by decide) rfl ?_
    refine fm_iconst (pc := 26) (v := (nI 1)) C dX6_most_26 (by decide) ?_
    refine fm_istore (pc := 27) C dX6_most_27 (by decide) rfl ?_
    refine fm_less (lv' := [(0, .ref (G.2.2.1 58)), (1, .int v1), (2, .int ((μ 62 v1.toNatClampNeg))), (3, .int ((nI 1))), (4, .int ((nI 0))), (5, .int ((nI 1)))]) (by repeat (first | exact trivial | refine ⟨rfl, ?_⟩)) ?_
    refine j_X6_most_29_ C (v1 := v1) (v2 := (μ 62 v1.toNatClampNeg)) hF  (fun x3_29 μ29 ν29 => ?_) _ _ _ _ _ _
    refine fm_aload_n (pc := 74) C dX6_most_74 rfl rfl ?_
    refine g6_strips (pc := 75) C (by decide) dX6_most_75 m_fl_X6_26 ?_
    refine fm_iload_n (pc := 78) C dX6_most_78 rfl rfl ?_
    refine fm_iload_n (pc := 79) C dX6_most_79 rfl rfl ?_
    refine fm_iast (pc := 80) C (by decide) h2 dX6_most_80 ?_
    refine fm_iload_n (pc := 81) C dX6_most_81 rfl rfl ?_
    exact fm_zret (pc := 82) C hF rfl rfl dX6_most_82
theorem t_X6_most {l : Launch} {G : fm_G} {v1 : Int32} {μ : fm_I} {ν : fm_L} {r : Int32 × fm_I × fm_L} (h : m_X6_most v1 μ ν = some r) : fm_Mi l G yX6_most cX6_most 7 (some .int) 6 134 [.ref (G.2.2.1 58), .int v1] μ ν r := fm_Mi_of (by decide +kernel) (Nat.le_of_ble_eq_true rfl) (fun _ C => j_X6_most C rfl r h)
theorem dX6_joins_0 : decode cX6_joins 0 = .ok (.aload_n 0, 1) := by decide +kernel
theorem dX6_joins_1 : decode cX6_joins 1 = .ok (.getfield 78, 3) := by decide +kernel
theorem dX6_joins_4 : decode cX6_joins 4 = .ok (.iload_n 1, 1) := by decide +kernel
theorem dX6_joins_5 : decode cX6_joins 5 = .ok (.iaload, 1) := by decide +kernel
theorem dX6_joins_6 : decode cX6_joins 6 = .ok (.istore_n 3, 1) := by decide +kernel
theorem dX6_joins_7 : decode cX6_joins 7 = .ok (.aload_n 0, 1) := by decide +kernel
theorem dX6_joins_8 : decode cX6_joins 8 = .ok (.getfield 78, 3) := by decide +kernel
theorem dX6_joins_11 : decode cX6_joins 11 = .ok (.iload_n 2, 1) := by decide +kernel
theorem dX6_joins_12 : decode cX6_joins 12 = .ok (.iaload, 1) := by decide +kernel
theorem dX6_joins_13 : decode cX6_joins 13 = .ok (.istore 4, 2) := by decide +kernel
theorem dX6_joins_15 : decode cX6_joins 15 = .ok (.iconst 0, 1) := by decide +kernel
theorem dX6_joins_16 : decode cX6_joins 16 = .ok (.istore 5, 2) := by decide +kernel
theorem dX6_joins_18 : decode cX6_joins 18 = .ok (.iload 5, 2) := by decide +kernel
theorem dX6_joins_20 : decode cX6_joins 20 = .ok (.iconst 4, 1) := by decide +kernel
theorem dX6_joins_21 : decode cX6_joins 21 = .ok (.if_icmp .ge 29, 3) := by decide +kernel
theorem dX6_joins_24 : decode cX6_joins 24 = .ok (.aload_n 0, 1) := by decide +kernel
theorem dX6_joins_25 : decode cX6_joins 25 = .ok (.getfield 78, 3) := by decide +kernel
theorem dX6_joins_28 : decode cX6_joins 28 = .ok (.iload 5, 2) := by decide +kernel
theorem dX6_joins_30 : decode cX6_joins 30 = .ok (.iaload, 1) := by decide +kernel
theorem dX6_joins_31 : decode cX6_joins 31 = .ok (.iload_n 3, 1) := by decide +kernel
theorem dX6_joins_32 : decode cX6_joins 32 = .ok (.if_icmp .ne 12, 3) := by decide +kernel
theorem dX6_joins_35 : decode cX6_joins 35 = .ok (.aload_n 0, 1) := by decide +kernel
theorem dX6_joins_36 : decode cX6_joins 36 = .ok (.getfield 78, 3) := by decide +kernel
theorem dX6_joins_39 : decode cX6_joins 39 = .ok (.iload 5, 2) := by decide +kernel
theorem dX6_joins_41 : decode cX6_joins 41 = .ok (.iload 4, 2) := by decide +kernel
theorem dX6_joins_43 : decode cX6_joins 43 = .ok (.iastore, 1) := by decide +kernel
theorem dX6_joins_44 : decode cX6_joins 44 = .ok (.iinc 5 1, 3) := by decide +kernel
theorem dX6_joins_47 : decode cX6_joins 47 = .ok (.goto (-29), 3) := by decide +kernel
theorem dX6_joins_50 : decode cX6_joins 50 = .ok (.return_, 1) := by decide +kernel
def m_X6_joins_18 (v3 : Int32) (v4 : Int32) (K : fm_I → fm_L → Option (fm_I × fm_L)) : Nat → Int32 → fm_I → fm_L → Option (fm_I × fm_L)
  | 0, _, _, _ => none
  | k + 1, v5, μ, ν => if (nI 4) ≤ v5 then K  μ ν else fm_g (fm_in v5 (fm_n 79)) (if (μ 79 v5.toNatClampNeg) = v3 then m_X6_joins_18 v3 v4 K k ((v5 + nI 1)) (fm_u μ 79 v5.toNatClampNeg v4) ν else m_X6_joins_18 v3 v4 K k ((v5 + nI 1)) μ ν)
def m_X6_joins (v1 : Int32) (v2 : Int32) (μ : fm_I) (ν : fm_L) : Option (fm_I × fm_L) :=
  fm_g (fm_in v1 (fm_n 79)) (fm_g (fm_in v2 (fm_n 79)) (m_X6_joins_18 ((μ 79 v1.toNatClampNeg)) ((μ 79 v2.toNatClampNeg))  (fun μ18 ν18 => some ((μ18, ν18))) 5000 ((nI 0)) μ ν))
theorem ok_X6_joins : fm_okV yX6_joins cX6_joins 6 (none : Option Jvm.ClassFile.FieldType) 2 := ⟨m_cd_X6_joins, m_im_X6_joins, m_se_X6_X6_joins, m_ini_X6, by decide +kernel, by decide +kernel, by decide +kernel⟩
set_option maxHeartbeats 4000000 in
set_option maxRecDepth 100000 in
theorem j_X6_joins_18_ {X : fm_X} {G : fm_G} {l : Launch} {v3 : Int32} {v4 : Int32} (C : fm_C X G l cX6_joins RX6 6 (none : Option Jvm.ClassFile.FieldType) 1 12) {F : (fm_I × fm_L) → State → Prop} (hF : F = fm_Qv X G)  {K : fm_I → fm_L → Option (fm_I × fm_L)} (hK : ∀  (μ : fm_I) (ν : fm_L), fm_J X G 6 F (K μ ν) μ ν 50 [] []) : ∀ (k : Nat) (v5 : Int32) (μ : fm_I) (ν : fm_L), fm_J X G 6 F (m_X6_joins_18 v3 v4 K k v5 μ ν) μ ν 18 [(0, .ref (G.2.2.1 58)), (3, .int v3), (4, .int v4), (5, .int v5)] [] := by
  intro k
  induction k with
  | zero =>
    intro v5 μ ν
    exact fm_none
  | succ k ih =>
    intro v5 μ ν
    rw [m_X6_joins_18]
    refine fm_iload (pc := 18) C dX6_joins_18 rfl ?_
    refine fm_iconst (pc := 20) (v := (nI 4)) C dX6_joins_20 (by decide) ?_
    refine fm_icmp_ge (pc := 21) (tgt := 50) C dX6_joins_21 (by decide) (fun c3 => ?_) (fun c3 => ?_)
    · refine fm_less (lv' := []) (by repeat (first | exact trivial | refine ⟨rfl, ?_⟩)) ?_
      exact hK  _ _
    · refine fm_aload_n (pc := 24) C dX6_joins_24 rfl rfl ?_
      refine g6_corner (pc := 25) C (by decide) dX6_joins_25 m_fl_X6_78 ?_
      refine fm_iload (pc := 28) C dX6_joins_28 rfl ?_
      refine fm_guard (fun h4 => ?_)
      refine fm_iald (pc := 30) C (by decide) h4 dX6_joins_30 ?_
      refine fm_iload_n (pc := 31) C dX6_joins_31 rfl rfl ?_
      refine fm_icmp_ne (pc := 32) (tgt := 44) C dX6_joins_32 (by decide) (fun c5 => ?_) (fun c5 => ?_)
      · refine fm_aload_n (pc := 35) C dX6_joins_35 rfl rfl ?_
        refine g6_corner (pc := 36) C (by decide) dX6_joins_36 m_fl_X6_78 ?_
        refine fm_iload (pc := 39) C dX6_joins_39 rfl ?_
        refine fm_iload (pc := 41) C dX6_joins_41 rfl ?_
        refine fm_iast (pc := 43) C (by decide) h4 dX6_joins_43 ?_
        refine fm_iinc (pc := 44) C dX6_joins_44 rfl (v := (v5 + nI 1)) rfl (by decide) rfl ?_
        refine fm_goto (pc := 47) (tgt := 18) C dX6_joins_47 (by decide) ?_
        refine fm_less (lv' := [(0, .ref (G.2.2.1 58)), (3, .int v3), (4, .int v4), (5, .int ((v5 + nI 1)))]) (by repeat (first | exact trivial | refine ⟨rfl, ?_⟩)) ?_
        exact ih _ _ _
      · refine fm_iinc (pc := 44) C dX6_joins_44 rfl (v := (v5 + nI 1)) rfl (by decide) rfl ?_
        refine fm_goto (pc := 47) (tgt := 18) C dX6_joins_47 (by decide) ?_
        refine fm_less (lv' := [(0, .ref (G.2.2.1 58)), (3, .int v3), (4, .int v4), (5, .int ((v5 + nI 1)))]) (by repeat (first | exact trivial | refine ⟨rfl, ?_⟩)) ?_
        exact ih _ _ _
set_option maxHeartbeats 4000000 in
set_option maxRecDepth 100000 in
theorem j_X6_joins {X : fm_X} {G : fm_G} {l : Launch} {v1 : Int32} {v2 : Int32} {μ : fm_I} {ν : fm_L} (C : fm_C X G l cX6_joins RX6 6 (none : Option Jvm.ClassFile.FieldType) 1 12) {F : (fm_I × fm_L) → State → Prop} (hF : F = fm_Qv X G) : fm_J X G 6 F (m_X6_joins v1 v2 μ ν) μ ν 0 [(0, .ref (G.2.2.1 58)), (1, .int v1), (2, .int v2)] [] := by
  unfold m_X6_joins
  refine fm_aload_n (pc := 0) C dX6_joins_0 rfl rfl ?_
  refine g6_corner (pc := 1) C (by decide) dX6_joins_1 m_fl_X6_78 ?_
  refine fm_iload_n (pc := 4) C dX6_joins_4 rfl rfl ?_
  refine fm_guard (fun h1 => ?_)
  refine fm_iald (pc := 5) C (by decide) h1 dX6_joins_5 ?_
  refine fm_istore_n (pc := 6) C dX6_joins_6 rfl (by decide) rfl ?_
  refine fm_aload_n (pc := 7) C dX6_joins_7 rfl rfl ?_
  refine g6_corner (pc := 8) C (by decide) dX6_joins_8 m_fl_X6_78 ?_
  refine fm_iload_n (pc := 11) C dX6_joins_11 rfl rfl ?_
  refine fm_guard (fun h2 => ?_)
  refine fm_iald (pc := 12) C (by decide) h2 dX6_joins_12 ?_
  refine fm_istore (pc := 13) C dX6_joins_13 (by decide) rfl ?_
  refine fm_iconst (pc := 15) (v := (nI 0)) C dX6_joins_15 (by decide) ?_
  refine fm_istore (pc := 16) C dX6_joins_16 (by decide) rfl ?_
  refine fm_less (lv' := [(0, .ref (G.2.2.1 58)), (3, .int ((μ 79 v1.toNatClampNeg))), (4, .int ((μ 79 v2.toNatClampNeg))), (5, .int ((nI 0)))]) (by repeat (first | exact trivial | refine ⟨rfl, ?_⟩)) ?_
  refine j_X6_joins_18_ C (v3 := (μ 79 v1.toNatClampNeg)) (v4 := (μ 79 v2.toNatClampNeg)) hF  (fun μ18 ν18 => ?_) _ _ _ _
  exact fm_vret (pc := 50) C hF rfl dX6_joins_50
theorem t_X6_joins {l : Launch} {G : fm_G} {v1 : Int32} {v2 : Int32} {μ : fm_I} {ν : fm_L} {r : fm_I × fm_L} (h : m_X6_joins v1 v2 μ ν = some r) : fm_Mv l G yX6_joins cX6_joins 6 (none : Option Jvm.ClassFile.FieldType) 1 12 [.ref (G.2.2.1 58), .int v1, .int v2] μ ν r := fm_Mv_of (by decide +kernel) (Nat.le_of_ble_eq_true rfl) (fun _ C => j_X6_joins C rfl r h)
theorem dX6_cross_0 : decode cX6_cross 0 = .ok (.aload_n 0, 1) := by decide +kernel
theorem dX6_cross_1 : decode cX6_cross 1 = .ok (.iload_n 1, 1) := by decide +kernel
theorem dX6_cross_2 : decode cX6_cross 2 = .ok (.invokevirtual 88, 3) := by decide +kernel
theorem dX6_cross_5 : decode cX6_cross 5 = .ok (.ifCond .eq 11, 3) := by decide +kernel
theorem dX6_cross_8 : decode cX6_cross 8 = .ok (.aload_n 0, 1) := by decide +kernel
theorem dX6_cross_9 : decode cX6_cross 9 = .ok (.iload_n 2, 1) := by decide +kernel
theorem dX6_cross_10 : decode cX6_cross 10 = .ok (.invokevirtual 88, 3) := by decide +kernel
theorem dX6_cross_13 : decode cX6_cross 13 = .ok (.ifCond .ne 9, 3) := by decide +kernel
theorem dX6_cross_16 : decode cX6_cross 16 = .ok (.aload_n 0, 1) := by decide +kernel
theorem dX6_cross_17 : decode cX6_cross 17 = .ok (.iconst (-1), 1) := by decide +kernel
theorem dX6_cross_18 : decode cX6_cross 18 = .ok (.invokevirtual 95, 3) := by decide +kernel
theorem dX6_cross_21 : decode cX6_cross 21 = .ok (.ireturn, 1) := by decide +kernel
theorem dX6_cross_22 : decode cX6_cross 22 = .ok (.iload_n 3, 1) := by decide +kernel
theorem dX6_cross_23 : decode cX6_cross 23 = .ok (.ifCond .lt 8, 3) := by decide +kernel
theorem dX6_cross_26 : decode cX6_cross 26 = .ok (.iload_n 3, 1) := by decide +kernel
theorem dX6_cross_27 : decode cX6_cross 27 = .ok (.iconst 1, 1) := by decide +kernel
theorem dX6_cross_28 : decode cX6_cross 28 = .ok (.if_icmp .le 10, 3) := by decide +kernel
theorem dX6_cross_31 : decode cX6_cross 31 = .ok (.aload_n 0, 1) := by decide +kernel
theorem dX6_cross_32 : decode cX6_cross 32 = .ok (.bipush (-5), 2) := by decide +kernel
theorem dX6_cross_34 : decode cX6_cross 34 = .ok (.invokevirtual 95, 3) := by decide +kernel
theorem dX6_cross_37 : decode cX6_cross 37 = .ok (.ireturn, 1) := by decide +kernel
theorem dX6_cross_38 : decode cX6_cross 38 = .ok (.iload_n 1, 1) := by decide +kernel
theorem dX6_cross_39 : decode cX6_cross 39 = .ok (.iload_n 2, 1) := by decide +kernel
theorem dX6_cross_40 : decode cX6_cross 40 = .ok (.if_icmp .ne 10, 3) := by decide +kernel
theorem dX6_cross_43 : decode cX6_cross 43 = .ok (.aload_n 0, 1) := by decide +kernel
theorem dX6_cross_44 : decode cX6_cross 44 = .ok (.bipush (-6), 2) := by decide +kernel
theorem dX6_cross_46 : decode cX6_cross 46 = .ok (.invokevirtual 95, 3) := by decide +kernel
theorem dX6_cross_49 : decode cX6_cross 49 = .ok (.ireturn, 1) := by decide +kernel
theorem dX6_cross_50 : decode cX6_cross 50 = .ok (.iconst 0, 1) := by decide +kernel
theorem dX6_cross_51 : decode cX6_cross 51 = .ok (.istore 4, 2) := by decide +kernel
theorem dX6_cross_53 : decode cX6_cross 53 = .ok (.iload 4, 2) := by decide +kernel
theorem dX6_cross_55 : decode cX6_cross 55 = .ok (.iconst 4, 1) := by decide +kernel
theorem dX6_cross_56 : decode cX6_cross 56 = .ok (.if_icmp .ge 18, 3) := by decide +kernel
theorem dX6_cross_59 : decode cX6_cross 59 = .ok (.aload_n 0, 1) := by decide +kernel
theorem dX6_cross_60 : decode cX6_cross 60 = .ok (.getfield 78, 3) := by decide +kernel
theorem dX6_cross_63 : decode cX6_cross 63 = .ok (.iload 4, 2) := by decide +kernel
theorem dX6_cross_65 : decode cX6_cross 65 = .ok (.iload 4, 2) := by decide +kernel
theorem dX6_cross_67 : decode cX6_cross 67 = .ok (.iastore, 1) := by decide +kernel
theorem dX6_cross_68 : decode cX6_cross 68 = .ok (.iinc 4 1, 3) := by decide +kernel
theorem dX6_cross_71 : decode cX6_cross 71 = .ok (.goto (-18), 3) := by decide +kernel
theorem dX6_cross_74 : decode cX6_cross 74 = .ok (.aload_n 0, 1) := by decide +kernel
theorem dX6_cross_75 : decode cX6_cross 75 = .ok (.getfield 23, 3) := by decide +kernel
theorem dX6_cross_78 : decode cX6_cross 78 = .ok (.iload_n 1, 1) := by decide +kernel
theorem dX6_cross_79 : decode cX6_cross 79 = .ok (.iaload, 1) := by decide +kernel
theorem dX6_cross_80 : decode cX6_cross 80 = .ok (.iconst 2, 1) := by decide +kernel
theorem dX6_cross_81 : decode cX6_cross 81 = .ok (.irem, 1) := by decide +kernel
theorem dX6_cross_82 : decode cX6_cross 82 = .ok (.iconst 1, 1) := by decide +kernel
theorem dX6_cross_83 : decode cX6_cross 83 = .ok (.if_icmp .ne 7, 3) := by decide +kernel
theorem dX6_cross_86 : decode cX6_cross 86 = .ok (.iconst 1, 1) := by decide +kernel
theorem dX6_cross_87 : decode cX6_cross 87 = .ok (.goto 4, 3) := by decide +kernel
theorem dX6_cross_90 : decode cX6_cross 90 = .ok (.iconst 0, 1) := by decide +kernel
theorem dX6_cross_91 : decode cX6_cross 91 = .ok (.istore 4, 2) := by decide +kernel
theorem dX6_cross_93 : decode cX6_cross 93 = .ok (.aload_n 0, 1) := by decide +kernel
theorem dX6_cross_94 : decode cX6_cross 94 = .ok (.iconst 0, 1) := by decide +kernel
theorem dX6_cross_95 : decode cX6_cross 95 = .ok (.iload 4, 2) := by decide +kernel
theorem dX6_cross_97 : decode cX6_cross 97 = .ok (.ifCond .eq 7, 3) := by decide +kernel
theorem dX6_cross_100 : decode cX6_cross 100 = .ok (.iconst 3, 1) := by decide +kernel
theorem dX6_cross_101 : decode cX6_cross 101 = .ok (.goto 4, 3) := by decide +kernel
theorem dX6_cross_104 : decode cX6_cross 104 = .ok (.iconst 2, 1) := by decide +kernel
theorem dX6_cross_105 : decode cX6_cross 105 = .ok (.invokevirtual 226, 3) := by decide +kernel
theorem dX6_cross_108 : decode cX6_cross 108 = .ok (.aload_n 0, 1) := by decide +kernel
theorem dX6_cross_109 : decode cX6_cross 109 = .ok (.iconst 1, 1) := by decide +kernel
theorem dX6_cross_110 : decode cX6_cross 110 = .ok (.iload 4, 2) := by decide +kernel
theorem dX6_cross_112 : decode cX6_cross 112 = .ok (.ifCond .eq 7, 3) := by decide +kernel
theorem dX6_cross_115 : decode cX6_cross 115 = .ok (.iconst 2, 1) := by decide +kernel
theorem dX6_cross_116 : decode cX6_cross 116 = .ok (.goto 4, 3) := by decide +kernel
theorem dX6_cross_119 : decode cX6_cross 119 = .ok (.iconst 3, 1) := by decide +kernel
theorem dX6_cross_120 : decode cX6_cross 120 = .ok (.invokevirtual 226, 3) := by decide +kernel
theorem dX6_cross_123 : decode cX6_cross 123 = .ok (.aload_n 0, 1) := by decide +kernel
theorem dX6_cross_124 : decode cX6_cross 124 = .ok (.getfield 23, 3) := by decide +kernel
theorem dX6_cross_127 : decode cX6_cross 127 = .ok (.iload_n 2, 1) := by decide +kernel
theorem dX6_cross_128 : decode cX6_cross 128 = .ok (.iaload, 1) := by decide +kernel
theorem dX6_cross_129 : decode cX6_cross 129 = .ok (.iconst 2, 1) := by decide +kernel
theorem dX6_cross_130 : decode cX6_cross 130 = .ok (.irem, 1) := by decide +kernel
theorem dX6_cross_131 : decode cX6_cross 131 = .ok (.iconst 1, 1) := by decide +kernel
theorem dX6_cross_132 : decode cX6_cross 132 = .ok (.if_icmp .ne 7, 3) := by decide +kernel
theorem dX6_cross_135 : decode cX6_cross 135 = .ok (.iconst 1, 1) := by decide +kernel
theorem dX6_cross_136 : decode cX6_cross 136 = .ok (.goto 4, 3) := by decide +kernel
theorem dX6_cross_139 : decode cX6_cross 139 = .ok (.iconst 0, 1) := by decide +kernel
theorem dX6_cross_140 : decode cX6_cross 140 = .ok (.istore 4, 2) := by decide +kernel
theorem dX6_cross_142 : decode cX6_cross 142 = .ok (.aload_n 0, 1) := by decide +kernel
theorem dX6_cross_143 : decode cX6_cross 143 = .ok (.iconst 0, 1) := by decide +kernel
theorem dX6_cross_144 : decode cX6_cross 144 = .ok (.iload 4, 2) := by decide +kernel
theorem dX6_cross_146 : decode cX6_cross 146 = .ok (.ifCond .eq 7, 3) := by decide +kernel
theorem dX6_cross_149 : decode cX6_cross 149 = .ok (.iconst 3, 1) := by decide +kernel
theorem dX6_cross_150 : decode cX6_cross 150 = .ok (.goto 4, 3) := by decide +kernel
theorem dX6_cross_153 : decode cX6_cross 153 = .ok (.iconst 1, 1) := by decide +kernel
theorem dX6_cross_154 : decode cX6_cross 154 = .ok (.invokevirtual 226, 3) := by decide +kernel
theorem dX6_cross_157 : decode cX6_cross 157 = .ok (.aload_n 0, 1) := by decide +kernel
theorem dX6_cross_158 : decode cX6_cross 158 = .ok (.iconst 2, 1) := by decide +kernel
theorem dX6_cross_159 : decode cX6_cross 159 = .ok (.iload 4, 2) := by decide +kernel
theorem dX6_cross_161 : decode cX6_cross 161 = .ok (.ifCond .eq 7, 3) := by decide +kernel
theorem dX6_cross_164 : decode cX6_cross 164 = .ok (.iconst 1, 1) := by decide +kernel
theorem dX6_cross_165 : decode cX6_cross 165 = .ok (.goto 4, 3) := by decide +kernel
theorem dX6_cross_168 : decode cX6_cross 168 = .ok (.iconst 3, 1) := by decide +kernel
theorem dX6_cross_169 : decode cX6_cross 169 = .ok (.invokevirtual 226, 3) := by decide +kernel
theorem dX6_cross_172 : decode cX6_cross 172 = .ok (.iconst 0, 1) := by decide +kernel
theorem dX6_cross_173 : decode cX6_cross 173 = .ok (.istore 5, 2) := by decide +kernel
theorem dX6_cross_175 : decode cX6_cross 175 = .ok (.iconst 0, 1) := by decide +kernel
theorem dX6_cross_176 : decode cX6_cross 176 = .ok (.istore 6, 2) := by decide +kernel
theorem dX6_cross_178 : decode cX6_cross 178 = .ok (.iload 6, 2) := by decide +kernel
theorem dX6_cross_180 : decode cX6_cross 180 = .ok (.iconst 4, 1) := by decide +kernel
theorem dX6_cross_181 : decode cX6_cross 181 = .ok (.if_icmp .ge 23, 3) := by decide +kernel
theorem dX6_cross_184 : decode cX6_cross 184 = .ok (.iload 5, 2) := by decide +kernel
theorem dX6_cross_186 : decode cX6_cross 186 = .ok (.iconst 1, 1) := by decide +kernel
theorem dX6_cross_187 : decode cX6_cross 187 = .ok (.aload_n 0, 1) := by decide +kernel
theorem dX6_cross_188 : decode cX6_cross 188 = .ok (.getfield 78, 3) := by decide +kernel
theorem dX6_cross_191 : decode cX6_cross 191 = .ok (.iload 6, 2) := by decide +kernel
theorem dX6_cross_193 : decode cX6_cross 193 = .ok (.iaload, 1) := by decide +kernel
theorem dX6_cross_194 : decode cX6_cross 194 = .ok (.ishl, 1) := by decide +kernel
theorem dX6_cross_195 : decode cX6_cross 195 = .ok (.ior, 1) := by decide +kernel
theorem dX6_cross_196 : decode cX6_cross 196 = .ok (.istore 5, 2) := by decide +kernel
theorem dX6_cross_198 : decode cX6_cross 198 = .ok (.iinc 6 1, 3) := by decide +kernel
theorem dX6_cross_201 : decode cX6_cross 201 = .ok (.goto (-23), 3) := by decide +kernel
theorem dX6_cross_204 : decode cX6_cross 204 = .ok (.iload_n 3, 1) := by decide +kernel
theorem dX6_cross_205 : decode cX6_cross 205 = .ok (.ifCond .ne 10, 3) := by decide +kernel
theorem dX6_cross_208 : decode cX6_cross 208 = .ok (.aload_n 0, 1) := by decide +kernel
theorem dX6_cross_209 : decode cX6_cross 209 = .ok (.iload 5, 2) := by decide +kernel
theorem dX6_cross_211 : decode cX6_cross 211 = .ok (.invokevirtual 204, 3) := by decide +kernel
theorem dX6_cross_214 : decode cX6_cross 214 = .ok (.ireturn, 1) := by decide +kernel
theorem dX6_cross_215 : decode cX6_cross 215 = .ok (.aload_n 0, 1) := by decide +kernel
theorem dX6_cross_216 : decode cX6_cross 216 = .ok (.iload 5, 2) := by decide +kernel
theorem dX6_cross_218 : decode cX6_cross 218 = .ok (.invokevirtual 204, 3) := by decide +kernel
theorem dX6_cross_221 : decode cX6_cross 221 = .ok (.iconst 2, 1) := by decide +kernel
theorem dX6_cross_222 : decode cX6_cross 222 = .ok (.if_icmp .ne 22, 3) := by decide +kernel
theorem dX6_cross_225 : decode cX6_cross 225 = .ok (.aload_n 0, 1) := by decide +kernel
theorem dX6_cross_226 : decode cX6_cross 226 = .ok (.getfield 29, 3) := by decide +kernel
theorem dX6_cross_229 : decode cX6_cross 229 = .ok (.iload_n 1, 1) := by decide +kernel
theorem dX6_cross_230 : decode cX6_cross 230 = .ok (.iaload, 1) := by decide +kernel
theorem dX6_cross_231 : decode cX6_cross 231 = .ok (.aload_n 0, 1) := by decide +kernel
theorem dX6_cross_232 : decode cX6_cross 232 = .ok (.getfield 29, 3) := by decide +kernel
theorem dX6_cross_235 : decode cX6_cross 235 = .ok (.iload_n 2, 1) := by decide +kernel
theorem dX6_cross_236 : decode cX6_cross 236 = .ok (.iaload, 1) := by decide +kernel
theorem dX6_cross_237 : decode cX6_cross 237 = .ok (.if_icmp .eq 7, 3) := by decide +kernel
theorem dX6_cross_240 : decode cX6_cross 240 = .ok (.iconst 1, 1) := by decide +kernel
theorem dX6_cross_241 : decode cX6_cross 241 = .ok (.goto 4, 3) := by decide +kernel
theorem dX6_cross_244 : decode cX6_cross 244 = .ok (.iconst 0, 1) := by decide +kernel
theorem dX6_cross_245 : decode cX6_cross 245 = .ok (.ireturn, 1) := by decide +kernel
def m_X6_cross_16  (μ : fm_I) (ν : fm_L) : Option (Int32 × fm_I × fm_L) :=
  (m_X6_no ((-1 : Int32)) μ ν).bind (fun r18 => some ((r18.1, r18.2.1, r18.2.2)))
def m_X6_cross_31  (μ : fm_I) (ν : fm_L) : Option (Int32 × fm_I × fm_L) :=
  (m_X6_no ((-5 : Int32)) μ ν).bind (fun r34 => some ((r34.1, r34.2.1, r34.2.2)))
def m_X6_cross_53 (v1 : Int32) (v2 : Int32) (v3 : Int32) (K : fm_I → fm_L → Option (Int32 × fm_I × fm_L)) : Nat → Int32 → fm_I → fm_L → Option (Int32 × fm_I × fm_L)
  | 0, _, _, _ => none
  | k + 1, v4, μ, ν => if (nI 4) ≤ v4 then K  μ ν else fm_g (fm_in v4 (fm_n 79)) (m_X6_cross_53 v1 v2 v3 K k ((v4 + nI 1)) (fm_u μ 79 v4.toNatClampNeg v4) ν)
def m_X6_cross_178 (v1 : Int32) (v2 : Int32) (v3 : Int32) (μ : fm_I) (ν : fm_L) (K : Int32 → Option (Int32 × fm_I × fm_L)) : Nat → Int32 → Int32 → Option (Int32 × fm_I × fm_L)
  | 0, _, _ => none
  | k + 1, v5, v6 => if (nI 4) ≤ v6 then K v5 else fm_g (fm_in v6 (fm_n 79)) (m_X6_cross_178 v1 v2 v3 μ ν K k ((v5 ||| ((((nI 1)) <<< (((μ 79 v6.toNatClampNeg)) &&& 31))))) ((v6 + nI 1)))
def m_X6_cross_244  (μ : fm_I) (ν : fm_L) : Option (Int32 × fm_I × fm_L) :=
  some (((nI 0), μ, ν))
def m_X6_cross_169 (v1 : Int32) (v2 : Int32) (v3 : Int32) (s1 : Int32) (s2 : Int32) (μ : fm_I) (ν : fm_L) : Option (Int32 × fm_I × fm_L) :=
  (m_X6_joins s1 s2 μ ν).bind (fun r169 => m_X6_cross_178 v1 v2 v3 r169.1 r169.2 (fun x5_178 => if v3 = 0 then (m_X6_count x5_178 r169.1 r169.2).bind (fun r211 => some ((r211, r169.1, r169.2))) else (m_X6_count x5_178 r169.1 r169.2).bind (fun r218 => if r218 = (nI 2) then fm_g (fm_in v1 (fm_n 63)) (fm_g (fm_in v2 (fm_n 63)) (if (r169.1 63 v1.toNatClampNeg) = (r169.1 63 v2.toNatClampNeg) then m_X6_cross_244  r169.1 r169.2 else some (((nI 1), r169.1, r169.2)))) else m_X6_cross_244  r169.1 r169.2)) 5000 ((nI 0)) ((nI 0)))
def m_X6_cross_154 (v1 : Int32) (v2 : Int32) (v3 : Int32) (v4 : Int32) (s1 : Int32) (s2 : Int32) (μ : fm_I) (ν : fm_L) : Option (Int32 × fm_I × fm_L) :=
  (m_X6_joins s1 s2 μ ν).bind (fun r154 => if v4 = 0 then m_X6_cross_169 v1 v2 v3 ((nI 2)) ((nI 3)) r154.1 r154.2 else m_X6_cross_169 v1 v2 v3 ((nI 2)) ((nI 1)) r154.1 r154.2)
def m_X6_cross_140 (v1 : Int32) (v2 : Int32) (v3 : Int32) (s0 : Int32) (μ : fm_I) (ν : fm_L) : Option (Int32 × fm_I × fm_L) :=
  if s0 = 0 then m_X6_cross_154 v1 v2 v3 s0 ((nI 0)) ((nI 1)) μ ν else m_X6_cross_154 v1 v2 v3 s0 ((nI 0)) ((nI 3)) μ ν
def m_X6_cross_120 (v1 : Int32) (v2 : Int32) (v3 : Int32) (s1 : Int32) (s2 : Int32) (μ : fm_I) (ν : fm_L) : Option (Int32 × fm_I × fm_L) :=
  (m_X6_joins s1 s2 μ ν).bind (fun r120 => fm_g (fm_in v2 (fm_n 61)) (if (((r120.1 61 v2.toNatClampNeg)) - ((r120.1 61 v2.toNatClampNeg)) / ((nI 2)) * ((nI 2))) = (nI 1) then m_X6_cross_140 v1 v2 v3 ((nI 1)) r120.1 r120.2 else m_X6_cross_140 v1 v2 v3 ((nI 0)) r120.1 r120.2))
def m_X6_cross_105 (v1 : Int32) (v2 : Int32) (v3 : Int32) (v4 : Int32) (s1 : Int32) (s2 : Int32) (μ : fm_I) (ν : fm_L) : Option (Int32 × fm_I × fm_L) :=
  (m_X6_joins s1 s2 μ ν).bind (fun r105 => if v4 = 0 then m_X6_cross_120 v1 v2 v3 ((nI 1)) ((nI 3)) r105.1 r105.2 else m_X6_cross_120 v1 v2 v3 ((nI 1)) ((nI 2)) r105.1 r105.2)
def m_X6_cross_91 (v1 : Int32) (v2 : Int32) (v3 : Int32) (s0 : Int32) (μ : fm_I) (ν : fm_L) : Option (Int32 × fm_I × fm_L) :=
  if s0 = 0 then m_X6_cross_105 v1 v2 v3 s0 ((nI 0)) ((nI 2)) μ ν else m_X6_cross_105 v1 v2 v3 s0 ((nI 0)) ((nI 3)) μ ν
def m_X6_cross (v1 : Int32) (v2 : Int32) (v3 : Int32) (μ : fm_I) (ν : fm_L) : Option (Int32 × fm_I × fm_L) :=
  (m_X6_isBand v1 μ ν).bind (fun r2 => if r2 = 0 then m_X6_cross_16  μ ν else (m_X6_isBand v2 μ ν).bind (fun r10 => if r10 = 0 then m_X6_cross_16  μ ν else if v3 < 0 then m_X6_cross_31  μ ν else if v3 ≤ (nI 1) then if v1 = v2 then (m_X6_no ((-6 : Int32)) μ ν).bind (fun r46 => some ((r46.1, r46.2.1, r46.2.2))) else m_X6_cross_53 v1 v2 v3  (fun μ53 ν53 => fm_g (fm_in v1 (fm_n 61)) (if (((μ53 61 v1.toNatClampNeg)) - ((μ53 61 v1.toNatClampNeg)) / ((nI 2)) * ((nI 2))) = (nI 1) then m_X6_cross_91 v1 v2 v3 ((nI 1)) μ53 ν53 else m_X6_cross_91 v1 v2 v3 ((nI 0)) μ53 ν53)) 5000 ((nI 0)) μ ν else m_X6_cross_31  μ ν))
theorem ok_X6_cross : fm_okV yX6_cross cX6_cross 7 (some .int) 3 := ⟨m_cd_X6_cross, m_im_X6_cross, m_se_X6_X6_cross, m_ini_X6, by decide +kernel, by decide +kernel, by decide +kernel⟩
set_option maxHeartbeats 4000000 in
set_option maxRecDepth 100000 in
theorem j_X6_cross_16_ {X : fm_X} {G : fm_G} {l : Launch}  {μ : fm_I} {ν : fm_L} (C : fm_C X G l cX6_cross RX6 7 (some .int) 2 37) {F : (Int32 × fm_I × fm_L) → State → Prop} (hF : F = fm_Qi X G)  : fm_J X G 7 F (m_X6_cross_16  μ ν) μ ν 16 [(0, .ref (G.2.2.1 58))] [] := by
  unfold m_X6_cross_16
  refine fm_aload_n (pc := 16) C dX6_cross_16 rfl rfl ?_
  refine fm_iconst (pc := 17) (v := (-1 : Int32)) C dX6_cross_17 (by decide) ?_
  refine fm_bind (fun r18 e18 => ?_)
  refine fm_cVi (pc := 18) C (t_X6_no e18) ok_X6_no ⟨by decide, rfl⟩ m_ml_X6_95 dX6_cross_18 ⟨Nat.le_of_ble_eq_true rfl, Nat.le_of_ble_eq_true rfl⟩ rfl rfl (Nat.le_of_ble_eq_true rfl) ?_
  exact fm_zret (pc := 21) C hF rfl rfl dX6_cross_21
set_option maxHeartbeats 4000000 in
set_option maxRecDepth 100000 in
theorem j_X6_cross_31_ {X : fm_X} {G : fm_G} {l : Launch}  {μ : fm_I} {ν : fm_L} (C : fm_C X G l cX6_cross RX6 7 (some .int) 2 37) {F : (Int32 × fm_I × fm_L) → State → Prop} (hF : F = fm_Qi X G)  : fm_J X G 7 F (m_X6_cross_31  μ ν) μ ν 31 [(0, .ref (G.2.2.1 58))] [] := by
  unfold m_X6_cross_31
  refine fm_aload_n (pc := 31) C dX6_cross_31 rfl rfl ?_
  refine fm_bipush (pc := 32) (v := (-5 : Int32)) C dX6_cross_32 (by decide) ?_
  refine fm_bind (fun r34 e34 => ?_)
  refine fm_cVi (pc := 34) C (t_X6_no e34) ok_X6_no ⟨by decide, rfl⟩ m_ml_X6_95 dX6_cross_34 ⟨Nat.le_of_ble_eq_true rfl, Nat.le_of_ble_eq_true rfl⟩ rfl rfl (Nat.le_of_ble_eq_true rfl) ?_
  exact fm_zret (pc := 37) C hF rfl rfl dX6_cross_37
set_option maxHeartbeats 4000000 in
set_option maxRecDepth 100000 in
theorem j_X6_cross_53_ {X : fm_X} {G : fm_G} {l : Launch} {v1 : Int32} {v2 : Int32} {v3 : Int32} (C : fm_C X G l cX6_cross RX6 7 (some .int) 2 37) {F : (Int32 × fm_I × fm_L) → State → Prop} (hF : F = fm_Qi X G)  {K : fm_I → fm_L → Option (Int32 × fm_I × fm_L)} (hK : ∀  (μ : fm_I) (ν : fm_L), fm_J X G 7 F (K μ ν) μ ν 74 [(0, .ref (G.2.2.1 58)), (1, .int v1), (2, .int v2), (3, .int v3)] []) : ∀ (k : Nat) (v4 : Int32) (μ : fm_I) (ν : fm_L), fm_J X G 7 F (m_X6_cross_53 v1 v2 v3 K k v4 μ ν) μ ν 53 [(0, .ref (G.2.2.1 58)), (1, .int v1), (2, .int v2), (3, .int v3), (4, .int v4)] [] := by
  intro k
  induction k with
  | zero =>
    intro v4 μ ν
    exact fm_none
  | succ k ih =>
    intro v4 μ ν
    rw [m_X6_cross_53]
    refine fm_iload (pc := 53) C dX6_cross_53 rfl ?_
    refine fm_iconst (pc := 55) (v := (nI 4)) C dX6_cross_55 (by decide) ?_
    refine fm_icmp_ge (pc := 56) (tgt := 74) C dX6_cross_56 (by decide) (fun c6 => ?_) (fun c6 => ?_)
    · refine fm_less (lv' := [(0, .ref (G.2.2.1 58)), (1, .int v1), (2, .int v2), (3, .int v3)]) (by repeat (first | exact trivial | refine ⟨rfl, ?_⟩)) ?_
      exact hK  _ _
    · refine fm_aload_n (pc := 59) C dX6_cross_59 rfl rfl ?_
      refine g6_corner (pc := 60) C (by decide) dX6_cross_60 m_fl_X6_78 ?_
      refine fm_iload (pc := 63) C dX6_cross_63 rfl ?_
      refine fm_iload (pc := 65) C dX6_cross_65 rfl ?_
      refine fm_guard (fun h7 => ?_)
      refine fm_iast (pc := 67) C (by decide) h7 dX6_cross_67 ?_
      refine fm_iinc (pc := 68) C dX6_cross_68 rfl (v := (v4 + nI 1)) rfl (by decide) rfl ?_
      refine fm_goto (pc := 71) (tgt := 53) C dX6_cross_71 (by decide) ?_
      refine fm_less (lv' := [(0, .ref (G.2.2.1 58)), (1, .int v1), (2, .int v2), (3, .int v3), (4, .int ((v4 + nI 1)))]) (by repeat (first | exact trivial | refine ⟨rfl, ?_⟩)) ?_
      exact ih _ _ _
set_option maxHeartbeats 4000000 in
set_option maxRecDepth 100000 in
theorem j_X6_cross_178_ {X : fm_X} {G : fm_G} {l : Launch} {v1 : Int32} {v2 : Int32} {v3 : Int32} {μ : fm_I} {ν : fm_L} (C : fm_C X G l cX6_cross RX6 7 (some .int) 2 37) {F : (Int32 × fm_I × fm_L) → State → Prop} (hF : F = fm_Qi X G)  {K : Int32 → Option (Int32 × fm_I × fm_L)} (hK : ∀ (v5 : Int32), fm_J X G 7 F (K v5) μ ν 204 [(0, .ref (G.2.2.1 58)), (1, .int v1), (2, .int v2), (3, .int v3), (5, .int v5)] []) : ∀ (k : Nat) (v5 : Int32) (v6 : Int32), fm_J X G 7 F (m_X6_cross_178 v1 v2 v3 μ ν K k v5 v6) μ ν 178 [(0, .ref (G.2.2.1 58)), (1, .int v1), (2, .int v2), (3, .int v3), (5, .int v5), (6, .int v6)] [] := by
  intro k
  induction k with
  | zero =>
    intro v5 v6
    exact fm_none
  | succ k ih =>
    intro v5 v6
    rw [m_X6_cross_178]
    refine fm_iload (pc := 178) C dX6_cross_178 rfl ?_
    refine fm_iconst (pc := 180) (v := (nI 4)) C dX6_cross_180 (by decide) ?_
    refine fm_icmp_ge (pc := 181) (tgt := 204) C dX6_cross_181 (by decide) (fun c16 => ?_) (fun c16 => ?_)
    · refine fm_less (lv' := [(0, .ref (G.2.2.1 58)), (1, .int v1), (2, .int v2), (3, .int v3), (5, .int v5)]) (by repeat (first | exact trivial | refine ⟨rfl, ?_⟩)) ?_
      exact hK _
    · refine fm_iload (pc := 184) C dX6_cross_184 rfl ?_
      refine fm_iconst (pc := 186) (v := (nI 1)) C dX6_cross_186 (by decide) ?_
      refine fm_aload_n (pc := 187) C dX6_cross_187 rfl rfl ?_
      refine g6_corner (pc := 188) C (by decide) dX6_cross_188 m_fl_X6_78 ?_
      refine fm_iload (pc := 191) C dX6_cross_191 rfl ?_
      refine fm_guard (fun h17 => ?_)
      refine fm_iald (pc := 193) C (by decide) h17 dX6_cross_193 ?_
      refine fm_ishl (pc := 194) C dX6_cross_194 ?_
      refine fm_ior (pc := 195) C dX6_cross_195 ?_
      refine fm_istore (pc := 196) C dX6_cross_196 (by decide) rfl ?_
      refine fm_iinc (pc := 198) C dX6_cross_198 rfl (v := (v6 + nI 1)) rfl (by decide) rfl ?_
      refine fm_goto (pc := 201) (tgt := 178) C dX6_cross_201 (by decide) ?_
      refine fm_less (lv' := [(0, .ref (G.2.2.1 58)), (1, .int v1), (2, .int v2), (3, .int v3), (5, .int ((v5 ||| ((((nI 1)) <<< (((μ 79 v6.toNatClampNeg)) &&& 31)))))), (6, .int ((v6 + nI 1)))]) (by repeat (first | exact trivial | refine ⟨rfl, ?_⟩)) ?_
      exact ih _ _
set_option maxHeartbeats 4000000 in
set_option maxRecDepth 100000 in
theorem j_X6_cross_244_ {X : fm_X} {G : fm_G} {l : Launch}  {μ : fm_I} {ν : fm_L} (C : fm_C X G l cX6_cross RX6 7 (some .int) 2 37) {F : (Int32 × fm_I × fm_L) → State → Prop} (hF : F = fm_Qi X G)  : fm_J X G 7 F (m_X6_cross_244  μ ν) μ ν 244 [] [] := by
  unfold m_X6_cross_244
  refine fm_iconst (pc := 244) (v := (nI 0)) C dX6_cross_244 (by decide) ?_
  exact fm_zret (pc := 245) C hF rfl rfl dX6_cross_245
set_option maxHeartbeats 4000000 in
set_option maxRecDepth 100000 in
theorem j_X6_cross_169_ {X : fm_X} {G : fm_G} {l : Launch} {v1 : Int32} {v2 : Int32} {v3 : Int32} {s1 : Int32} {s2 : Int32} {μ : fm_I} {ν : fm_L} (C : fm_C X G l cX6_cross RX6 7 (some .int) 2 37) {F : (Int32 × fm_I × fm_L) → State → Prop} (hF : F = fm_Qi X G)  : fm_J X G 7 F (m_X6_cross_169 v1 v2 v3 s1 s2 μ ν) μ ν 169 [(0, .ref (G.2.2.1 58)), (1, .int v1), (2, .int v2), (3, .int v3)] [.int s2, .int s1, .ref (G.2.2.1 58)] := by
  unfold m_X6_cross_169
  refine fm_bind (fun r169 e169 => ?_)
  refine fm_cVv (pc := 169) C (t_X6_joins e169) ok_X6_joins ⟨by decide, rfl⟩ m_ml_X6_226 dX6_cross_169 ⟨Nat.le_of_ble_eq_true rfl, Nat.le_of_ble_eq_true rfl⟩ rfl rfl (Nat.le_of_ble_eq_true rfl) ?_
  refine fm_iconst (pc := 172) (v := (nI 0)) C dX6_cross_172 (by decide) ?_
  refine fm_istore (pc := 173) C dX6_cross_173 (by decide) rfl ?_
  refine fm_iconst (pc := 175) (v := (nI 0)) C dX6_cross_175 (by decide) ?_
  refine fm_istore (pc := 176) C dX6_cross_176 (by decide) rfl ?_
  refine fm_less (lv' := [(0, .ref (G.2.2.1 58)), (1, .int v1), (2, .int v2), (3, .int v3), (5, .int ((nI 0))), (6, .int ((nI 0)))]) (by repeat (first | exact trivial | refine ⟨rfl, ?_⟩)) ?_
  refine j_X6_cross_178_ C (v1 := v1) (v2 := v2) (v3 := v3) hF  (fun x5_178 => ?_) _ _ _
  refine fm_iload_n (pc := 204) C dX6_cross_204 rfl rfl ?_
  refine fm_if_ne (pc := 205) (tgt := 215) C dX6_cross_205 (by decide) (fun c18 => ?_) (fun c18 => ?_)
  · refine fm_aload_n (pc := 208) C dX6_cross_208 rfl rfl ?_
    refine fm_iload (pc := 209) C dX6_cross_209 rfl ?_
    refine fm_bind (fun r211 e211 => ?_)
    refine fm_cVi0 (pc := 211) C (t_X6_count e211) ok_X6_count ⟨by decide, rfl⟩ m_ml_X6_204 dX6_cross_211 ⟨Nat.le_of_ble_eq_true rfl, Nat.le_of_ble_eq_true rfl⟩ rfl rfl (Nat.le_of_ble_eq_true rfl) ?_
    exact fm_zret (pc := 214) C hF rfl rfl dX6_cross_214
  · refine fm_aload_n (pc := 215) C dX6_cross_215 rfl rfl ?_
    refine fm_iload (pc := 216) C dX6_cross_216 rfl ?_
    refine fm_bind (fun r218 e218 => ?_)
    refine fm_cVi0 (pc := 218) C (t_X6_count e218) ok_X6_count ⟨by decide, rfl⟩ m_ml_X6_204 dX6_cross_218 ⟨Nat.le_of_ble_eq_true rfl, Nat.le_of_ble_eq_true rfl⟩ rfl rfl (Nat.le_of_ble_eq_true rfl) ?_
    refine fm_iconst (pc := 221) (v := (nI 2)) C dX6_cross_221 (by decide) ?_
    refine fm_icmp_ne (pc := 222) (tgt := 244) C dX6_cross_222 (by decide) (fun c19 => ?_) (fun c19 => ?_)
    · refine fm_aload_n (pc := 225) C dX6_cross_225 rfl rfl ?_
      refine g6_hand (pc := 226) C (by decide) dX6_cross_226 m_fl_X6_29 ?_
      refine fm_iload_n (pc := 229) C dX6_cross_229 rfl rfl ?_
      refine fm_guard (fun h20 => ?_)
      refine fm_iald (pc := 230) C (by decide) h20 dX6_cross_230 ?_
      refine fm_aload_n (pc := 231) C dX6_cross_231 rfl rfl ?_
      refine g6_hand (pc := 232) C (by decide) dX6_cross_232 m_fl_X6_29 ?_
      refine fm_iload_n (pc := 235) C dX6_cross_235 rfl rfl ?_
      refine fm_guard (fun h21 => ?_)
      refine fm_iald (pc := 236) C (by decide) h21 dX6_cross_236 ?_
      refine fm_icmp_eq (pc := 237) (tgt := 244) C dX6_cross_237 (by decide) (fun c22 => ?_) (fun c22 => ?_)
      · refine fm_less (lv' := []) (by repeat (first | exact trivial | refine ⟨rfl, ?_⟩)) ?_
        exact j_X6_cross_244_ C hF 
      · refine fm_iconst (pc := 240) (v := (nI 1)) C dX6_cross_240 (by decide) ?_
        refine fm_goto (pc := 241) (tgt := 245) C dX6_cross_241 (by decide) ?_
        exact fm_zret (pc := 245) C hF rfl rfl dX6_cross_245
    · refine fm_less (lv' := []) (by repeat (first | exact trivial | refine ⟨rfl, ?_⟩)) ?_
      exact j_X6_cross_244_ C hF 
set_option maxHeartbeats 4000000 in
set_option maxRecDepth 100000 in
theorem j_X6_cross_154_ {X : fm_X} {G : fm_G} {l : Launch} {v1 : Int32} {v2 : Int32} {v3 : Int32} {v4 : Int32} {s1 : Int32} {s2 : Int32} {μ : fm_I} {ν : fm_L} (C : fm_C X G l cX6_cross RX6 7 (some .int) 2 37) {F : (Int32 × fm_I × fm_L) → State → Prop} (hF : F = fm_Qi X G)  : fm_J X G 7 F (m_X6_cross_154 v1 v2 v3 v4 s1 s2 μ ν) μ ν 154 [(0, .ref (G.2.2.1 58)), (1, .int v1), (2, .int v2), (3, .int v3), (4, .int v4)] [.int s2, .int s1, .ref (G.2.2.1 58)] := by
  unfold m_X6_cross_154
  refine fm_bind (fun r154 e154 => ?_)
  refine fm_cVv (pc := 154) C (t_X6_joins e154) ok_X6_joins ⟨by decide, rfl⟩ m_ml_X6_226 dX6_cross_154 ⟨Nat.le_of_ble_eq_true rfl, Nat.le_of_ble_eq_true rfl⟩ rfl rfl (Nat.le_of_ble_eq_true rfl) ?_
  refine fm_aload_n (pc := 157) C dX6_cross_157 rfl rfl ?_
  refine fm_iconst (pc := 158) (v := (nI 2)) C dX6_cross_158 (by decide) ?_
  refine fm_iload (pc := 159) C dX6_cross_159 rfl ?_
  refine fm_if_eq (pc := 161) (tgt := 168) C dX6_cross_161 (by decide) (fun c15 => ?_) (fun c15 => ?_)
  · refine fm_iconst (pc := 168) (v := (nI 3)) C dX6_cross_168 (by decide) ?_
    refine fm_less (lv' := [(0, .ref (G.2.2.1 58)), (1, .int v1), (2, .int v2), (3, .int v3)]) (by repeat (first | exact trivial | refine ⟨rfl, ?_⟩)) ?_
    exact j_X6_cross_169_ C hF 
  · refine fm_iconst (pc := 164) (v := (nI 1)) C dX6_cross_164 (by decide) ?_
    refine fm_goto (pc := 165) (tgt := 169) C dX6_cross_165 (by decide) ?_
    refine fm_less (lv' := [(0, .ref (G.2.2.1 58)), (1, .int v1), (2, .int v2), (3, .int v3)]) (by repeat (first | exact trivial | refine ⟨rfl, ?_⟩)) ?_
    exact j_X6_cross_169_ C hF 
set_option maxHeartbeats 4000000 in
set_option maxRecDepth 100000 in
theorem j_X6_cross_140_ {X : fm_X} {G : fm_G} {l : Launch} {v1 : Int32} {v2 : Int32} {v3 : Int32} {s0 : Int32} {μ : fm_I} {ν : fm_L} (C : fm_C X G l cX6_cross RX6 7 (some .int) 2 37) {F : (Int32 × fm_I × fm_L) → State → Prop} (hF : F = fm_Qi X G)  : fm_J X G 7 F (m_X6_cross_140 v1 v2 v3 s0 μ ν) μ ν 140 [(0, .ref (G.2.2.1 58)), (1, .int v1), (2, .int v2), (3, .int v3)] [.int s0] := by
  unfold m_X6_cross_140
  refine fm_istore (pc := 140) C dX6_cross_140 (by decide) rfl ?_
  refine fm_aload_n (pc := 142) C dX6_cross_142 rfl rfl ?_
  refine fm_iconst (pc := 143) (v := (nI 0)) C dX6_cross_143 (by decide) ?_
  refine fm_iload (pc := 144) C dX6_cross_144 rfl ?_
  refine fm_if_eq (pc := 146) (tgt := 153) C dX6_cross_146 (by decide) (fun c14 => ?_) (fun c14 => ?_)
  · refine fm_iconst (pc := 153) (v := (nI 1)) C dX6_cross_153 (by decide) ?_
    refine fm_less (lv' := [(0, .ref (G.2.2.1 58)), (1, .int v1), (2, .int v2), (3, .int v3), (4, .int s0)]) (by repeat (first | exact trivial | refine ⟨rfl, ?_⟩)) ?_
    exact j_X6_cross_154_ C hF 
  · refine fm_iconst (pc := 149) (v := (nI 3)) C dX6_cross_149 (by decide) ?_
    refine fm_goto (pc := 150) (tgt := 154) C dX6_cross_150 (by decide) ?_
    refine fm_less (lv' := [(0, .ref (G.2.2.1 58)), (1, .int v1), (2, .int v2), (3, .int v3), (4, .int s0)]) (by repeat (first | exact trivial | refine ⟨rfl, ?_⟩)) ?_
    exact j_X6_cross_154_ C hF 
set_option maxHeartbeats 4000000 in
set_option maxRecDepth 100000 in
theorem j_X6_cross_120_ {X : fm_X} {G : fm_G} {l : Launch} {v1 : Int32} {v2 : Int32} {v3 : Int32} {s1 : Int32} {s2 : Int32} {μ : fm_I} {ν : fm_L} (C : fm_C X G l cX6_cross RX6 7 (some .int) 2 37) {F : (Int32 × fm_I × fm_L) → State → Prop} (hF : F = fm_Qi X G)  : fm_J X G 7 F (m_X6_cross_120 v1 v2 v3 s1 s2 μ ν) μ ν 120 [(0, .ref (G.2.2.1 58)), (1, .int v1), (2, .int v2), (3, .int v3)] [.int s2, .int s1, .ref (G.2.2.1 58)] := by
  unfold m_X6_cross_120
  refine fm_bind (fun r120 e120 => ?_)
  refine fm_cVv (pc := 120) C (t_X6_joins e120) ok_X6_joins ⟨by decide, rfl⟩ m_ml_X6_226 dX6_cross_120 ⟨Nat.le_of_ble_eq_true rfl, Nat.le_of_ble_eq_true rfl⟩ rfl rfl (Nat.le_of_ble_eq_true rfl) ?_
  refine fm_aload_n (pc := 123) C dX6_cross_123 rfl rfl ?_
  refine g6_twists (pc := 124) C (by decide) dX6_cross_124 m_fl_X6_23 ?_
  refine fm_iload_n (pc := 127) C dX6_cross_127 rfl rfl ?_
  refine fm_guard (fun h12 => ?_)
  refine fm_iald (pc := 128) C (by decide) h12 dX6_cross_128 ?_
  refine fm_iconst (pc := 129) (v := (nI 2)) C dX6_cross_129 (by decide) ?_
  refine fm_irem (pc := 130) C dX6_cross_130 (by decide) ?_
  refine fm_iconst (pc := 131) (v := (nI 1)) C dX6_cross_131 (by decide) ?_
  refine fm_icmp_ne (pc := 132) (tgt := 139) C dX6_cross_132 (by decide) (fun c13 => ?_) (fun c13 => ?_)
  · refine fm_iconst (pc := 135) (v := (nI 1)) C dX6_cross_135 (by decide) ?_
    refine fm_goto (pc := 136) (tgt := 140) C dX6_cross_136 (by decide) ?_
    refine fm_less (lv' := [(0, .ref (G.2.2.1 58)), (1, .int v1), (2, .int v2), (3, .int v3)]) (by repeat (first | exact trivial | refine ⟨rfl, ?_⟩)) ?_
    exact j_X6_cross_140_ C hF 
  · refine fm_iconst (pc := 139) (v := (nI 0)) C dX6_cross_139 (by decide) ?_
    refine fm_less (lv' := [(0, .ref (G.2.2.1 58)), (1, .int v1), (2, .int v2), (3, .int v3)]) (by repeat (first | exact trivial | refine ⟨rfl, ?_⟩)) ?_
    exact j_X6_cross_140_ C hF 
set_option maxHeartbeats 4000000 in
set_option maxRecDepth 100000 in
theorem j_X6_cross_105_ {X : fm_X} {G : fm_G} {l : Launch} {v1 : Int32} {v2 : Int32} {v3 : Int32} {v4 : Int32} {s1 : Int32} {s2 : Int32} {μ : fm_I} {ν : fm_L} (C : fm_C X G l cX6_cross RX6 7 (some .int) 2 37) {F : (Int32 × fm_I × fm_L) → State → Prop} (hF : F = fm_Qi X G)  : fm_J X G 7 F (m_X6_cross_105 v1 v2 v3 v4 s1 s2 μ ν) μ ν 105 [(0, .ref (G.2.2.1 58)), (1, .int v1), (2, .int v2), (3, .int v3), (4, .int v4)] [.int s2, .int s1, .ref (G.2.2.1 58)] := by
  unfold m_X6_cross_105
  refine fm_bind (fun r105 e105 => ?_)
  refine fm_cVv (pc := 105) C (t_X6_joins e105) ok_X6_joins ⟨by decide, rfl⟩ m_ml_X6_226 dX6_cross_105 ⟨Nat.le_of_ble_eq_true rfl, Nat.le_of_ble_eq_true rfl⟩ rfl rfl (Nat.le_of_ble_eq_true rfl) ?_
  refine fm_aload_n (pc := 108) C dX6_cross_108 rfl rfl ?_
  refine fm_iconst (pc := 109) (v := (nI 1)) C dX6_cross_109 (by decide) ?_
  refine fm_iload (pc := 110) C dX6_cross_110 rfl ?_
  refine fm_if_eq (pc := 112) (tgt := 119) C dX6_cross_112 (by decide) (fun c11 => ?_) (fun c11 => ?_)
  · refine fm_iconst (pc := 119) (v := (nI 3)) C dX6_cross_119 (by decide) ?_
    refine fm_less (lv' := [(0, .ref (G.2.2.1 58)), (1, .int v1), (2, .int v2), (3, .int v3)]) (by repeat (first | exact trivial | refine ⟨rfl, ?_⟩)) ?_
    exact j_X6_cross_120_ C hF 
  · refine fm_iconst (pc := 115) (v := (nI 2)) C dX6_cross_115 (by decide) ?_
    refine fm_goto (pc := 116) (tgt := 120) C dX6_cross_116 (by decide) ?_
    refine fm_less (lv' := [(0, .ref (G.2.2.1 58)), (1, .int v1), (2, .int v2), (3, .int v3)]) (by repeat (first | exact trivial | refine ⟨rfl, ?_⟩)) ?_
    exact j_X6_cross_120_ C hF 
set_option maxHeartbeats 4000000 in
set_option maxRecDepth 100000 in
theorem j_X6_cross_91_ {X : fm_X} {G : fm_G} {l : Launch} {v1 : Int32} {v2 : Int32} {v3 : Int32} {s0 : Int32} {μ : fm_I} {ν : fm_L} (C : fm_C X G l cX6_cross RX6 7 (some .int) 2 37) {F : (Int32 × fm_I × fm_L) → State → Prop} (hF : F = fm_Qi X G)  : fm_J X G 7 F (m_X6_cross_91 v1 v2 v3 s0 μ ν) μ ν 91 [(0, .ref (G.2.2.1 58)), (1, .int v1), (2, .int v2), (3, .int v3)] [.int s0] := by
  unfold m_X6_cross_91
  refine fm_istore (pc := 91) C dX6_cross_91 (by decide) rfl ?_
  refine fm_aload_n (pc := 93) C dX6_cross_93 rfl rfl ?_
  refine fm_iconst (pc := 94) (v := (nI 0)) C dX6_cross_94 (by decide) ?_
  refine fm_iload (pc := 95) C dX6_cross_95 rfl ?_
  refine fm_if_eq (pc := 97) (tgt := 104) C dX6_cross_97 (by decide) (fun c10 => ?_) (fun c10 => ?_)
  · refine fm_iconst (pc := 104) (v := (nI 2)) C dX6_cross_104 (by decide) ?_
    refine fm_less (lv' := [(0, .ref (G.2.2.1 58)), (1, .int v1), (2, .int v2), (3, .int v3), (4, .int s0)]) (by repeat (first | exact trivial | refine ⟨rfl, ?_⟩)) ?_
    exact j_X6_cross_105_ C hF 
  · refine fm_iconst (pc := 100) (v := (nI 3)) C dX6_cross_100 (by decide) ?_
    refine fm_goto (pc := 101) (tgt := 105) C dX6_cross_101 (by decide) ?_
    refine fm_less (lv' := [(0, .ref (G.2.2.1 58)), (1, .int v1), (2, .int v2), (3, .int v3), (4, .int s0)]) (by repeat (first | exact trivial | refine ⟨rfl, ?_⟩)) ?_
    exact j_X6_cross_105_ C hF 
set_option maxHeartbeats 4000000 in
set_option maxRecDepth 100000 in
theorem j_X6_cross {X : fm_X} {G : fm_G} {l : Launch} {v1 : Int32} {v2 : Int32} {v3 : Int32} {μ : fm_I} {ν : fm_L} (C : fm_C X G l cX6_cross RX6 7 (some .int) 2 37) {F : (Int32 × fm_I × fm_L) → State → Prop} (hF : F = fm_Qi X G) : fm_J X G 7 F (m_X6_cross v1 v2 v3 μ ν) μ ν 0 [(0, .ref (G.2.2.1 58)), (1, .int v1), (2, .int v2), (3, .int v3)] [] := by
  unfold m_X6_cross
  refine fm_aload_n (pc := 0) C dX6_cross_0 rfl rfl ?_
  refine fm_iload_n (pc := 1) C dX6_cross_1 rfl rfl ?_
  refine fm_bind (fun r2 e2 => ?_)
  refine fm_cVi0 (pc := 2) C (t_X6_isBand e2) ok_X6_isBand ⟨by decide, rfl⟩ m_ml_X6_88 dX6_cross_2 ⟨Nat.le_of_ble_eq_true rfl, Nat.le_of_ble_eq_true rfl⟩ rfl rfl (Nat.le_of_ble_eq_true rfl) ?_
  refine fm_if_eq (pc := 5) (tgt := 16) C dX6_cross_5 (by decide) (fun c1 => ?_) (fun c1 => ?_)
  · refine fm_less (lv' := [(0, .ref (G.2.2.1 58))]) (by repeat (first | exact trivial | refine ⟨rfl, ?_⟩)) ?_
    exact j_X6_cross_16_ C hF 
  · refine fm_aload_n (pc := 8) C dX6_cross_8 rfl rfl ?_
    refine fm_iload_n (pc := 9) C dX6_cross_9 rfl rfl ?_
    refine fm_bind (fun r10 e10 => ?_)
    refine fm_cVi0 (pc := 10) C (t_X6_isBand e10) ok_X6_isBand ⟨by decide, rfl⟩ m_ml_X6_88 dX6_cross_10 ⟨Nat.le_of_ble_eq_true rfl, Nat.le_of_ble_eq_true rfl⟩ rfl rfl (Nat.le_of_ble_eq_true rfl) ?_
    refine fm_if_ne (pc := 13) (tgt := 22) C dX6_cross_13 (by decide) (fun c2 => ?_) (fun c2 => ?_)
    · refine fm_less (lv' := [(0, .ref (G.2.2.1 58))]) (by repeat (first | exact trivial | refine ⟨rfl, ?_⟩)) ?_
      exact j_X6_cross_16_ C hF 
    · refine fm_iload_n (pc := 22) C dX6_cross_22 rfl rfl ?_
      refine fm_if_lt (pc := 23) (tgt := 31) C dX6_cross_23 (by decide) (fun c3 => ?_) (fun c3 => ?_)
      · refine fm_less (lv' := [(0, .ref (G.2.2.1 58))]) (by repeat (first | exact trivial | refine ⟨rfl, ?_⟩)) ?_
        exact j_X6_cross_31_ C hF 
      · refine fm_iload_n (pc := 26) C dX6_cross_26 rfl rfl ?_
        refine fm_iconst (pc := 27) (v := (nI 1)) C dX6_cross_27 (by decide) ?_
        refine fm_icmp_le (pc := 28) (tgt := 38) C dX6_cross_28 (by decide) (fun c4 => ?_) (fun c4 => ?_)
        · refine fm_iload_n (pc := 38) C dX6_cross_38 rfl rfl ?_
          refine fm_iload_n (pc := 39) C dX6_cross_39 rfl rfl ?_
          refine fm_icmp_ne (pc := 40) (tgt := 50) C dX6_cross_40 (by decide) (fun c5 => ?_) (fun c5 => ?_)
          · refine fm_aload_n (pc := 43) C dX6_cross_43 rfl rfl ?_
            refine fm_bipush (pc := 44) (v := (-6 : Int32)) C dX6_cross_44 (by decide) ?_
            refine fm_bind (fun r46 e46 => ?_)
            refine fm_cVi (pc := 46) C (t_X6_no e46) ok_X6_no ⟨by decide, rfl⟩ m_ml_X6_95 dX6_cross_46 ⟨Nat.le_of_ble_eq_true rfl, Nat.le_of_ble_eq_true rfl⟩ rfl rfl (Nat.le_of_ble_eq_true rfl) ?_
            exact fm_zret (pc := 49) C hF rfl rfl dX6_cross_49
          · refine fm_iconst (pc := 50) (v := (nI 0)) C dX6_cross_50 (by decide) ?_
            refine fm_istore (pc := 51) C dX6_cross_51 (by decide) rfl ?_
            refine fm_less (lv' := [(0, .ref (G.2.2.1 58)), (1, .int v1), (2, .int v2), (3, .int v3), (4, .int ((nI 0)))]) (by repeat (first | exact trivial | refine ⟨rfl, ?_⟩)) ?_
            refine j_X6_cross_53_ C (v1 := v1) (v2 := v2) (v3 := v3) hF  (fun μ53 ν53 => ?_) _ _ _ _
            refine fm_aload_n (pc := 74) C dX6_cross_74 rfl rfl ?_
            refine g6_twists (pc := 75) C (by decide) dX6_cross_75 m_fl_X6_23 ?_
            refine fm_iload_n (pc := 78) C dX6_cross_78 rfl rfl ?_
            refine fm_guard (fun h8 => ?_)
            refine fm_iald (pc := 79) C (by decide) h8 dX6_cross_79 ?_
            refine fm_iconst (pc := 80) (v := (nI 2)) C dX6_cross_80 (by decide) ?_
            refine fm_irem (pc := 81) C dX6_cross_81 (by decide) ?_
            refine fm_iconst (pc := 82) (v := (nI 1)) C dX6_cross_82 (by decide) ?_
            refine fm_icmp_ne (pc := 83) (tgt := 90) C dX6_cross_83 (by decide) (fun c9 => ?_) (fun c9 => ?_)
            · refine fm_iconst (pc := 86) (v := (nI 1)) C dX6_cross_86 (by decide) ?_
              refine fm_goto (pc := 87) (tgt := 91) C dX6_cross_87 (by decide) ?_
              refine fm_less (lv' := [(0, .ref (G.2.2.1 58)), (1, .int v1), (2, .int v2), (3, .int v3)]) (by repeat (first | exact trivial | refine ⟨rfl, ?_⟩)) ?_
              exact j_X6_cross_91_ C hF 
            · refine fm_iconst (pc := 90) (v := (nI 0)) C dX6_cross_90 (by decide) ?_
              refine fm_less (lv' := [(0, .ref (G.2.2.1 58)), (1, .int v1), (2, .int v2), (3, .int v3)]) (by repeat (first | exact trivial | refine ⟨rfl, ?_⟩)) ?_
              exact j_X6_cross_91_ C hF 
        · refine fm_less (lv' := [(0, .ref (G.2.2.1 58))]) (by repeat (first | exact trivial | refine ⟨rfl, ?_⟩)) ?_
          exact j_X6_cross_31_ C hF 
theorem t_X6_cross {l : Launch} {G : fm_G} {v1 : Int32} {v2 : Int32} {v3 : Int32} {μ : fm_I} {ν : fm_L} {r : Int32 × fm_I × fm_L} (h : m_X6_cross v1 v2 v3 μ ν = some r) : fm_Mi l G yX6_cross cX6_cross 7 (some .int) 2 37 [.ref (G.2.2.1 58), .int v1, .int v2, .int v3] μ ν r := fm_Mi_of (by decide +kernel) (Nat.le_of_ble_eq_true rfl) (fun _ C => j_X6_cross C rfl r h)
theorem dX6_cut_0 : decode cX6_cut 0 = .ok (.aload_n 0, 1) := by decide +kernel
theorem dX6_cut_1 : decode cX6_cut 1 = .ok (.iload_n 1, 1) := by decide +kernel
theorem dX6_cut_2 : decode cX6_cut 2 = .ok (.iload_n 2, 1) := by decide +kernel
theorem dX6_cut_3 : decode cX6_cut 3 = .ok (.invokevirtual 179, 3) := by decide +kernel
theorem dX6_cut_6 : decode cX6_cut 6 = .ok (.ifCond .ne 9, 3) := by decide +kernel
theorem dX6_cut_9 : decode cX6_cut 9 = .ok (.aload_n 0, 1) := by decide +kernel
theorem dX6_cut_10 : decode cX6_cut 10 = .ok (.iconst (-1), 1) := by decide +kernel
theorem dX6_cut_11 : decode cX6_cut 11 = .ok (.invokevirtual 95, 3) := by decide +kernel
theorem dX6_cut_14 : decode cX6_cut 14 = .ok (.ireturn, 1) := by decide +kernel
theorem dX6_cut_15 : decode cX6_cut 15 = .ok (.aload_n 0, 1) := by decide +kernel
theorem dX6_cut_16 : decode cX6_cut 16 = .ok (.iload_n 1, 1) := by decide +kernel
theorem dX6_cut_17 : decode cX6_cut 17 = .ok (.iload_n 2, 1) := by decide +kernel
theorem dX6_cut_18 : decode cX6_cut 18 = .ok (.invokevirtual 185, 3) := by decide +kernel
theorem dX6_cut_21 : decode cX6_cut 21 = .ok (.istore_n 3, 1) := by decide +kernel
theorem dX6_cut_22 : decode cX6_cut 22 = .ok (.iload_n 3, 1) := by decide +kernel
theorem dX6_cut_23 : decode cX6_cut 23 = .ok (.sipush 9999, 3) := by decide +kernel
theorem dX6_cut_26 : decode cX6_cut 26 = .ok (.if_icmp .le 10, 3) := by decide +kernel
theorem dX6_cut_29 : decode cX6_cut 29 = .ok (.aload_n 0, 1) := by decide +kernel
theorem dX6_cut_30 : decode cX6_cut 30 = .ok (.bipush (-7), 2) := by decide +kernel
theorem dX6_cut_32 : decode cX6_cut 32 = .ok (.invokevirtual 95, 3) := by decide +kernel
theorem dX6_cut_35 : decode cX6_cut 35 = .ok (.ireturn, 1) := by decide +kernel
theorem dX6_cut_36 : decode cX6_cut 36 = .ok (.aload_n 0, 1) := by decide +kernel
theorem dX6_cut_37 : decode cX6_cut 37 = .ok (.getfield 23, 3) := by decide +kernel
theorem dX6_cut_40 : decode cX6_cut 40 = .ok (.iload_n 1, 1) := by decide +kernel
theorem dX6_cut_41 : decode cX6_cut 41 = .ok (.iload_n 3, 1) := by decide +kernel
theorem dX6_cut_42 : decode cX6_cut 42 = .ok (.iastore, 1) := by decide +kernel
theorem dX6_cut_43 : decode cX6_cut 43 = .ok (.aload_n 0, 1) := by decide +kernel
theorem dX6_cut_44 : decode cX6_cut 44 = .ok (.dup, 1) := by decide +kernel
theorem dX6_cut_45 : decode cX6_cut 45 = .ok (.getfield 159, 3) := by decide +kernel
theorem dX6_cut_48 : decode cX6_cut 48 = .ok (.aload_n 0, 1) := by decide +kernel
theorem dX6_cut_49 : decode cX6_cut 49 = .ok (.getfield 26, 3) := by decide +kernel
theorem dX6_cut_52 : decode cX6_cut 52 = .ok (.iload_n 1, 1) := by decide +kernel
theorem dX6_cut_53 : decode cX6_cut 53 = .ok (.iaload, 1) := by decide +kernel
theorem dX6_cut_54 : decode cX6_cut 54 = .ok (.iconst 1, 1) := by decide +kernel
theorem dX6_cut_55 : decode cX6_cut 55 = .ok (.isub, 1) := by decide +kernel
theorem dX6_cut_56 : decode cX6_cut 56 = .ok (.iadd, 1) := by decide +kernel
theorem dX6_cut_57 : decode cX6_cut 57 = .ok (.putfield 159, 3) := by decide +kernel
theorem dX6_cut_60 : decode cX6_cut 60 = .ok (.iload_n 3, 1) := by decide +kernel
theorem dX6_cut_61 : decode cX6_cut 61 = .ok (.ireturn, 1) := by decide +kernel
def m_X6_cut (v1 : Int32) (v2 : Int32) (μ : fm_I) (ν : fm_L) : Option (Int32 × fm_I × fm_L) :=
  (m_X6_isPiece v1 v2 μ ν).bind (fun r3 => if r3.1 = 0 then (m_X6_no ((-1 : Int32)) r3.2.1 r3.2.2).bind (fun r11 => some ((r11.1, r11.2.1, r11.2.2))) else (m_X6_turnsOf v1 v2 r3.2.1 r3.2.2).bind (fun r18 => if r18 ≤ (nI 9999) then fm_g (fm_in v1 (fm_n 61)) (fm_g (fm_in v1 (fm_n 62)) (some ((r18, (fm_u (fm_u r3.2.1 61 v1.toNatClampNeg r18) 58 1 ((((((fm_u r3.2.1 61 v1.toNatClampNeg r18)) 58 1)) + (((((fm_u r3.2.1 61 v1.toNatClampNeg r18) 62 v1.toNatClampNeg)) - ((nI 1))))))), r3.2.2)))) else (m_X6_no ((-7 : Int32)) r3.2.1 r3.2.2).bind (fun r32 => some ((r32.1, r32.2.1, r32.2.2)))))
theorem ok_X6_cut : fm_okV yX6_cut cX6_cut 4 (some .int) 2 := ⟨m_cd_X6_cut, m_im_X6_cut, m_se_X6_X6_cut, m_ini_X6, by decide +kernel, by decide +kernel, by decide +kernel⟩
set_option maxHeartbeats 4000000 in
set_option maxRecDepth 100000 in
theorem j_X6_cut {X : fm_X} {G : fm_G} {l : Launch} {v1 : Int32} {v2 : Int32} {μ : fm_I} {ν : fm_L} (C : fm_C X G l cX6_cut RX6 4 (some .int) 5 104) {F : (Int32 × fm_I × fm_L) → State → Prop} (hF : F = fm_Qi X G) : fm_J X G 4 F (m_X6_cut v1 v2 μ ν) μ ν 0 [(0, .ref (G.2.2.1 58)), (1, .int v1), (2, .int v2)] [] := by
  unfold m_X6_cut
  refine fm_aload_n (pc := 0) C dX6_cut_0 rfl rfl ?_
  refine fm_iload_n (pc := 1) C dX6_cut_1 rfl rfl ?_
  refine fm_iload_n (pc := 2) C dX6_cut_2 rfl rfl ?_
  refine fm_bind (fun r3 e3 => ?_)
  refine fm_cVi (pc := 3) C (t_X6_isPiece e3) ok_X6_isPiece ⟨by decide, rfl⟩ m_ml_X6_179 dX6_cut_3 ⟨Nat.le_of_ble_eq_true rfl, Nat.le_of_ble_eq_true rfl⟩ rfl rfl (Nat.le_of_ble_eq_true rfl) ?_
  refine fm_if_ne (pc := 6) (tgt := 15) C dX6_cut_6 (by decide) (fun c1 => ?_) (fun c1 => ?_)
  · refine fm_aload_n (pc := 9) C dX6_cut_9 rfl rfl ?_
    refine fm_iconst (pc := 10) (v := (-1 : Int32)) C dX6_cut_10 (by decide) ?_
    refine fm_bind (fun r11 e11 => ?_)
    refine fm_cVi (pc := 11) C (t_X6_no e11) ok_X6_no ⟨by decide, rfl⟩ m_ml_X6_95 dX6_cut_11 ⟨Nat.le_of_ble_eq_true rfl, Nat.le_of_ble_eq_true rfl⟩ rfl rfl (Nat.le_of_ble_eq_true rfl) ?_
    exact fm_zret (pc := 14) C hF rfl rfl dX6_cut_14
  · refine fm_aload_n (pc := 15) C dX6_cut_15 rfl rfl ?_
    refine fm_iload_n (pc := 16) C dX6_cut_16 rfl rfl ?_
    refine fm_iload_n (pc := 17) C dX6_cut_17 rfl rfl ?_
    refine fm_bind (fun r18 e18 => ?_)
    refine fm_cVi0 (pc := 18) C (t_X6_turnsOf e18) ok_X6_turnsOf ⟨by decide, rfl⟩ m_ml_X6_185 dX6_cut_18 ⟨Nat.le_of_ble_eq_true rfl, Nat.le_of_ble_eq_true rfl⟩ rfl rfl (Nat.le_of_ble_eq_true rfl) ?_
    refine fm_istore_n (pc := 21) C dX6_cut_21 rfl (by decide) rfl ?_
    refine fm_iload_n (pc := 22) C dX6_cut_22 rfl rfl ?_
    refine fm_sipush (pc := 23) (v := (nI 9999)) C dX6_cut_23 (by decide) ?_
    refine fm_icmp_le (pc := 26) (tgt := 36) C dX6_cut_26 (by decide) (fun c2 => ?_) (fun c2 => ?_)
    · refine fm_aload_n (pc := 36) C dX6_cut_36 rfl rfl ?_
      refine g6_twists (pc := 37) C (by decide) dX6_cut_37 m_fl_X6_23 ?_
      refine fm_iload_n (pc := 40) C dX6_cut_40 rfl rfl ?_
      refine fm_iload_n (pc := 41) C dX6_cut_41 rfl rfl ?_
      refine fm_guard (fun h3 => ?_)
      refine fm_iast (pc := 42) C (by decide) h3 dX6_cut_42 ?_
      refine fm_aload_n (pc := 43) C dX6_cut_43 rfl rfl ?_
      refine fm_dup (pc := 44) C dX6_cut_44 rfl ?_
      refine g6_snips (pc := 45) C (by decide) dX6_cut_45 m_fl_X6_159 ?_
      refine fm_aload_n (pc := 48) C dX6_cut_48 rfl rfl ?_
      refine g6_strips (pc := 49) C (by decide) dX6_cut_49 m_fl_X6_26 ?_
      refine fm_iload_n (pc := 52) C dX6_cut_52 rfl rfl ?_
      refine fm_guard (fun h4 => ?_)
      refine fm_iald (pc := 53) C (by decide) h4 dX6_cut_53 ?_
      refine fm_iconst (pc := 54) (v := (nI 1)) C dX6_cut_54 (by decide) ?_
      refine fm_isub (pc := 55) C dX6_cut_55 ?_
      refine fm_iadd (pc := 56) C dX6_cut_56 ?_
      refine p6_snips (pc := 57) C (by decide) dX6_cut_57 m_fl_X6_159 ?_
      refine fm_iload_n (pc := 60) C dX6_cut_60 rfl rfl ?_
      exact fm_zret (pc := 61) C hF rfl rfl dX6_cut_61
    · refine fm_aload_n (pc := 29) C dX6_cut_29 rfl rfl ?_
      refine fm_bipush (pc := 30) (v := (-7 : Int32)) C dX6_cut_30 (by decide) ?_
      refine fm_bind (fun r32 e32 => ?_)
      refine fm_cVi (pc := 32) C (t_X6_no e32) ok_X6_no ⟨by decide, rfl⟩ m_ml_X6_95 dX6_cut_32 ⟨Nat.le_of_ble_eq_true rfl, Nat.le_of_ble_eq_true rfl⟩ rfl rfl (Nat.le_of_ble_eq_true rfl) ?_
      exact fm_zret (pc := 35) C hF rfl rfl dX6_cut_35
theorem t_X6_cut {l : Launch} {G : fm_G} {v1 : Int32} {v2 : Int32} {μ : fm_I} {ν : fm_L} {r : Int32 × fm_I × fm_L} (h : m_X6_cut v1 v2 μ ν = some r) : fm_Mi l G yX6_cut cX6_cut 4 (some .int) 5 104 [.ref (G.2.2.1 58), .int v1, .int v2] μ ν r := fm_Mi_of (by decide +kernel) (Nat.le_of_ble_eq_true rfl) (fun _ C => j_X6_cut C rfl r h)
theorem dX6_draw_0 : decode cX6_draw 0 = .ok (.aload_n 0, 1) := by decide +kernel
theorem dX6_draw_1 : decode cX6_draw 1 = .ok (.aload_n 0, 1) := by decide +kernel
theorem dX6_draw_2 : decode cX6_draw 2 = .ok (.getfield 7, 3) := by decide +kernel
theorem dX6_draw_5 : decode cX6_draw 5 = .ok (.ldc 230, 2) := by decide +kernel
theorem dX6_draw_7 : decode cX6_draw 7 = .ok (.imul, 1) := by decide +kernel
theorem dX6_draw_8 : decode cX6_draw 8 = .ok (.sipush 12345, 3) := by decide +kernel
theorem dX6_draw_11 : decode cX6_draw 11 = .ok (.iadd, 1) := by decide +kernel
theorem dX6_draw_12 : decode cX6_draw 12 = .ok (.putfield 7, 3) := by decide +kernel
theorem dX6_draw_15 : decode cX6_draw 15 = .ok (.aload_n 0, 1) := by decide +kernel
theorem dX6_draw_16 : decode cX6_draw 16 = .ok (.getfield 7, 3) := by decide +kernel
theorem dX6_draw_19 : decode cX6_draw 19 = .ok (.bipush 16, 2) := by decide +kernel
theorem dX6_draw_21 : decode cX6_draw 21 = .ok (.iushr, 1) := by decide +kernel
theorem dX6_draw_22 : decode cX6_draw 22 = .ok (.iload_n 1, 1) := by decide +kernel
theorem dX6_draw_23 : decode cX6_draw 23 = .ok (.irem, 1) := by decide +kernel
theorem dX6_draw_24 : decode cX6_draw 24 = .ok (.ireturn, 1) := by decide +kernel
def m_X6_draw (v1 : Int32) (μ : fm_I) (ν : fm_L) : Option (Int32 × fm_I × fm_L) :=
  fm_g (decide (¬ v1 = 0)) (some ((((((((((fm_u μ 58 2 ((((((μ 58 2)) * ((nI 1103515245)))) + ((nI 12345)))))) 58 2)).toUInt32 >>> (((nI 16)).toUInt32 &&& Int32.toUInt32 31)).toInt32)) - (((((((fm_u μ 58 2 ((((((μ 58 2)) * ((nI 1103515245)))) + ((nI 12345)))))) 58 2)).toUInt32 >>> (((nI 16)).toUInt32 &&& Int32.toUInt32 31)).toInt32)) / v1 * v1), (fm_u μ 58 2 ((((((μ 58 2)) * ((nI 1103515245)))) + ((nI 12345))))), ν)))
theorem ok_X6_draw : fm_okV yX6_draw cX6_draw 2 (some .int) 1 := ⟨m_cd_X6_draw, m_im_X6_draw, m_se_X6_X6_draw, m_ini_X6, by decide +kernel, by decide +kernel, by decide +kernel⟩
set_option maxHeartbeats 4000000 in
set_option maxRecDepth 100000 in
theorem j_X6_draw {X : fm_X} {G : fm_G} {l : Launch} {v1 : Int32} {μ : fm_I} {ν : fm_L} (C : fm_C X G l cX6_draw RX6 2 (some .int) 1 12) {F : (Int32 × fm_I × fm_L) → State → Prop} (hF : F = fm_Qi X G) : fm_J X G 2 F (m_X6_draw v1 μ ν) μ ν 0 [(0, .ref (G.2.2.1 58)), (1, .int v1)] [] := by
  unfold m_X6_draw
  refine fm_aload_n (pc := 0) C dX6_draw_0 rfl rfl ?_
  refine fm_aload_n (pc := 1) C dX6_draw_1 rfl rfl ?_
  refine g6_seed (pc := 2) C (by decide) dX6_draw_2 m_fl_X6_7 ?_
  refine fm_ldc (pc := 5) (v := (nI 1103515245)) C dX6_draw_5 m_ct_X6_230 ?_
  refine fm_imul (pc := 7) C dX6_draw_7 ?_
  refine fm_sipush (pc := 8) (v := (nI 12345)) C dX6_draw_8 (by decide) ?_
  refine fm_iadd (pc := 11) C dX6_draw_11 ?_
  refine p6_seed (pc := 12) C (by decide) dX6_draw_12 m_fl_X6_7 ?_
  refine fm_aload_n (pc := 15) C dX6_draw_15 rfl rfl ?_
  refine g6_seed (pc := 16) C (by decide) dX6_draw_16 m_fl_X6_7 ?_
  refine fm_bipush (pc := 19) (v := (nI 16)) C dX6_draw_19 (by decide) ?_
  refine fm_iushr (pc := 21) C dX6_draw_21 ?_
  refine fm_iload_n (pc := 22) C dX6_draw_22 rfl rfl ?_
  refine fm_guard (fun h1 => ?_)
  refine fm_irem (pc := 23) C dX6_draw_23 h1 ?_
  exact fm_zret (pc := 24) C hF rfl rfl dX6_draw_24
theorem t_X6_draw {l : Launch} {G : fm_G} {v1 : Int32} {μ : fm_I} {ν : fm_L} {r : Int32 × fm_I × fm_L} (h : m_X6_draw v1 μ ν = some r) : fm_Mi l G yX6_draw cX6_draw 2 (some .int) 1 12 [.ref (G.2.2.1 58), .int v1] μ ν r := fm_Mi_of (by decide +kernel) (Nat.le_of_ble_eq_true rfl) (fun _ C => j_X6_draw C rfl r h)
theorem dX6_draws_0 : decode cX6_draws 0 = .ok (.iload_n 1, 1) := by decide +kernel
theorem dX6_draws_1 : decode cX6_draws 1 = .ok (.iconst 1, 1) := by decide +kernel
theorem dX6_draws_2 : decode cX6_draws 2 = .ok (.if_icmp .lt 9, 3) := by decide +kernel
theorem dX6_draws_5 : decode cX6_draws 5 = .ok (.iload_n 1, 1) := by decide +kernel
theorem dX6_draws_6 : decode cX6_draws 6 = .ok (.bipush 6, 2) := by decide +kernel
theorem dX6_draws_8 : decode cX6_draws 8 = .ok (.if_icmp .le 10, 3) := by decide +kernel
theorem dX6_draws_11 : decode cX6_draws 11 = .ok (.aload_n 0, 1) := by decide +kernel
theorem dX6_draws_12 : decode cX6_draws 12 = .ok (.bipush (-6), 2) := by decide +kernel
theorem dX6_draws_14 : decode cX6_draws 14 = .ok (.invokevirtual 95, 3) := by decide +kernel
theorem dX6_draws_17 : decode cX6_draws 17 = .ok (.ireturn, 1) := by decide +kernel
theorem dX6_draws_18 : decode cX6_draws 18 = .ok (.iconst 0, 1) := by decide +kernel
theorem dX6_draws_19 : decode cX6_draws 19 = .ok (.istore_n 2, 1) := by decide +kernel
theorem dX6_draws_20 : decode cX6_draws 20 = .ok (.iload_n 2, 1) := by decide +kernel
theorem dX6_draws_21 : decode cX6_draws 21 = .ok (.iload_n 1, 1) := by decide +kernel
theorem dX6_draws_22 : decode cX6_draws 22 = .ok (.if_icmp .ge 68, 3) := by decide +kernel
theorem dX6_draws_25 : decode cX6_draws 25 = .ok (.aload_n 0, 1) := by decide +kernel
theorem dX6_draws_26 : decode cX6_draws 26 = .ok (.getfield 85, 3) := by decide +kernel
theorem dX6_draws_29 : decode cX6_draws 29 = .ok (.bipush 6, 2) := by decide +kernel
theorem dX6_draws_31 : decode cX6_draws 31 = .ok (.if_icmp .ge 59, 3) := by decide +kernel
theorem dX6_draws_34 : decode cX6_draws 34 = .ok (.aload_n 0, 1) := by decide +kernel
theorem dX6_draws_35 : decode cX6_draws 35 = .ok (.bipush 7, 2) := by decide +kernel
theorem dX6_draws_37 : decode cX6_draws 37 = .ok (.invokevirtual 231, 3) := by decide +kernel
theorem dX6_draws_40 : decode cX6_draws 40 = .ok (.istore_n 3, 1) := by decide +kernel
theorem dX6_draws_41 : decode cX6_draws 41 = .ok (.aload_n 0, 1) := by decide +kernel
theorem dX6_draws_42 : decode cX6_draws 42 = .ok (.bipush 9, 2) := by decide +kernel
theorem dX6_draws_44 : decode cX6_draws 44 = .ok (.invokevirtual 231, 3) := by decide +kernel
theorem dX6_draws_47 : decode cX6_draws 47 = .ok (.istore 4, 2) := by decide +kernel
theorem dX6_draws_49 : decode cX6_draws 49 = .ok (.aload_n 0, 1) := by decide +kernel
theorem dX6_draws_50 : decode cX6_draws 50 = .ok (.bipush 12, 2) := by decide +kernel
theorem dX6_draws_52 : decode cX6_draws 52 = .ok (.invokevirtual 231, 3) := by decide +kernel
theorem dX6_draws_55 : decode cX6_draws 55 = .ok (.iconst 1, 1) := by decide +kernel
theorem dX6_draws_56 : decode cX6_draws 56 = .ok (.iadd, 1) := by decide +kernel
theorem dX6_draws_57 : decode cX6_draws 57 = .ok (.istore 5, 2) := by decide +kernel
theorem dX6_draws_59 : decode cX6_draws 59 = .ok (.aload_n 0, 1) := by decide +kernel
theorem dX6_draws_60 : decode cX6_draws 60 = .ok (.iconst 2, 1) := by decide +kernel
theorem dX6_draws_61 : decode cX6_draws 61 = .ok (.invokevirtual 231, 3) := by decide +kernel
theorem dX6_draws_64 : decode cX6_draws 64 = .ok (.istore 6, 2) := by decide +kernel
theorem dX6_draws_66 : decode cX6_draws 66 = .ok (.aload_n 0, 1) := by decide +kernel
theorem dX6_draws_67 : decode cX6_draws 67 = .ok (.iload_n 3, 1) := by decide +kernel
theorem dX6_draws_68 : decode cX6_draws 68 = .ok (.iload 4, 2) := by decide +kernel
theorem dX6_draws_70 : decode cX6_draws 70 = .ok (.iload 5, 2) := by decide +kernel
theorem dX6_draws_72 : decode cX6_draws 72 = .ok (.iload 6, 2) := by decide +kernel
theorem dX6_draws_74 : decode cX6_draws 74 = .ok (.aload_n 0, 1) := by decide +kernel
theorem dX6_draws_75 : decode cX6_draws 75 = .ok (.bipush 10, 2) := by decide +kernel
theorem dX6_draws_77 : decode cX6_draws 77 = .ok (.invokevirtual 231, 3) := by decide +kernel
theorem dX6_draws_80 : decode cX6_draws 80 = .ok (.invokevirtual 109, 3) := by decide +kernel
theorem dX6_draws_83 : decode cX6_draws 83 = .ok (.pop, 1) := by decide +kernel
theorem dX6_draws_84 : decode cX6_draws 84 = .ok (.iinc 2 1, 3) := by decide +kernel
theorem dX6_draws_87 : decode cX6_draws 87 = .ok (.goto (-67), 3) := by decide +kernel
theorem dX6_draws_90 : decode cX6_draws 90 = .ok (.iload_n 2, 1) := by decide +kernel
theorem dX6_draws_91 : decode cX6_draws 91 = .ok (.ireturn, 1) := by decide +kernel
def m_X6_draws_20 (v1 : Int32) (K : Int32 → fm_I → fm_L → Option (Int32 × fm_I × fm_L)) : Nat → Int32 → fm_I → fm_L → Option (Int32 × fm_I × fm_L)
  | 0, _, _, _ => none
  | k + 1, v2, μ, ν => if v1 ≤ v2 then K v2 μ ν else if (nI 6) ≤ (μ 58 0) then K v2 μ ν else (m_X6_draw ((nI 7)) μ ν).bind (fun r37 => (m_X6_draw ((nI 9)) r37.2.1 r37.2.2).bind (fun r44 => (m_X6_draw ((nI 12)) r44.2.1 r44.2.2).bind (fun r52 => (m_X6_draw ((nI 2)) r52.2.1 r52.2.2).bind (fun r61 => (m_X6_draw ((nI 10)) r61.2.1 r61.2.2).bind (fun r77 => (m_X6_adds r37.1 r44.1 ((r52.1 + ((nI 1)))) r61.1 r77.1 r77.2.1 r77.2.2).bind (fun r80 => m_X6_draws_20 v1 K k ((v2 + nI 1)) r80.2.1 r80.2.2))))))
def m_X6_draws (v1 : Int32) (μ : fm_I) (ν : fm_L) : Option (Int32 × fm_I × fm_L) :=
  if v1 < (nI 1) then (m_X6_no ((-6 : Int32)) μ ν).bind (fun r14 => some ((r14.1, r14.2.1, r14.2.2))) else if v1 ≤ (nI 6) then m_X6_draws_20 v1  (fun x2_20 μ20 ν20 => some ((x2_20, μ20, ν20))) 5000 ((nI 0)) μ ν else (m_X6_no ((-6 : Int32)) μ ν).bind (fun r14 => some ((r14.1, r14.2.1, r14.2.2)))
theorem ok_X6_draws : fm_okV yX6_draws cX6_draws 7 (some .int) 1 := ⟨m_cd_X6_draws, m_im_X6_draws, m_se_X6_X6_draws, m_ini_X6, by decide +kernel, by decide +kernel, by decide +kernel⟩
set_option maxHeartbeats 4000000 in
set_option maxRecDepth 100000 in
theorem j_X6_draws_20_ {X : fm_X} {G : fm_G} {l : Launch} {v1 : Int32} (C : fm_C X G l cX6_draws RX6 7 (some .int) 2 38) {F : (Int32 × fm_I × fm_L) → State → Prop} (hF : F = fm_Qi X G)  {K : Int32 → fm_I → fm_L → Option (Int32 × fm_I × fm_L)} (hK : ∀ (v2 : Int32) (μ : fm_I) (ν : fm_L), fm_J X G 7 F (K v2 μ ν) μ ν 90 [(2, .int v2)] []) : ∀ (k : Nat) (v2 : Int32) (μ : fm_I) (ν : fm_L), fm_J X G 7 F (m_X6_draws_20 v1 K k v2 μ ν) μ ν 20 [(0, .ref (G.2.2.1 58)), (1, .int v1), (2, .int v2)] [] := by
  intro k
  induction k with
  | zero =>
    intro v2 μ ν
    exact fm_none
  | succ k ih =>
    intro v2 μ ν
    rw [m_X6_draws_20]
    refine fm_iload_n (pc := 20) C dX6_draws_20 rfl rfl ?_
    refine fm_iload_n (pc := 21) C dX6_draws_21 rfl rfl ?_
    refine fm_icmp_ge (pc := 22) (tgt := 90) C dX6_draws_22 (by decide) (fun c3 => ?_) (fun c3 => ?_)
    · refine fm_less (lv' := [(2, .int v2)]) (by repeat (first | exact trivial | refine ⟨rfl, ?_⟩)) ?_
      exact hK _ _ _
    · refine fm_aload_n (pc := 25) C dX6_draws_25 rfl rfl ?_
      refine g6_bands (pc := 26) C (by decide) dX6_draws_26 m_fl_X6_85 ?_
      refine fm_bipush (pc := 29) (v := (nI 6)) C dX6_draws_29 (by decide) ?_
      refine fm_icmp_ge (pc := 31) (tgt := 90) C dX6_draws_31 (by decide) (fun c4 => ?_) (fun c4 => ?_)
      · refine fm_less (lv' := [(2, .int v2)]) (by repeat (first | exact trivial | refine ⟨rfl, ?_⟩)) ?_
        exact hK _ _ _
      · refine fm_aload_n (pc := 34) C dX6_draws_34 rfl rfl ?_
        refine fm_bipush (pc := 35) (v := (nI 7)) C dX6_draws_35 (by decide) ?_
        refine fm_bind (fun r37 e37 => ?_)
        refine fm_cVi (pc := 37) C (t_X6_draw e37) ok_X6_draw ⟨by decide, rfl⟩ m_ml_X6_231 dX6_draws_37 ⟨Nat.le_of_ble_eq_true rfl, Nat.le_of_ble_eq_true rfl⟩ rfl rfl (Nat.le_of_ble_eq_true rfl) ?_
        refine fm_istore_n (pc := 40) C dX6_draws_40 rfl (by decide) rfl ?_
        refine fm_aload_n (pc := 41) C dX6_draws_41 rfl rfl ?_
        refine fm_bipush (pc := 42) (v := (nI 9)) C dX6_draws_42 (by decide) ?_
        refine fm_bind (fun r44 e44 => ?_)
        refine fm_cVi (pc := 44) C (t_X6_draw e44) ok_X6_draw ⟨by decide, rfl⟩ m_ml_X6_231 dX6_draws_44 ⟨Nat.le_of_ble_eq_true rfl, Nat.le_of_ble_eq_true rfl⟩ rfl rfl (Nat.le_of_ble_eq_true rfl) ?_
        refine fm_istore (pc := 47) C dX6_draws_47 (by decide) rfl ?_
        refine fm_aload_n (pc := 49) C dX6_draws_49 rfl rfl ?_
        refine fm_bipush (pc := 50) (v := (nI 12)) C dX6_draws_50 (by decide) ?_
        refine fm_bind (fun r52 e52 => ?_)
        refine fm_cVi (pc := 52) C (t_X6_draw e52) ok_X6_draw ⟨by decide, rfl⟩ m_ml_X6_231 dX6_draws_52 ⟨Nat.le_of_ble_eq_true rfl, Nat.le_of_ble_eq_true rfl⟩ rfl rfl (Nat.le_of_ble_eq_true rfl) ?_
        refine fm_iconst (pc := 55) (v := (nI 1)) C dX6_draws_55 (by decide) ?_
        refine fm_iadd (pc := 56) C dX6_draws_56 ?_
        refine fm_istore (pc := 57) C dX6_draws_57 (by decide) rfl ?_
        refine fm_aload_n (pc := 59) C dX6_draws_59 rfl rfl ?_
        refine fm_iconst (pc := 60) (v := (nI 2)) C dX6_draws_60 (by decide) ?_
        refine fm_bind (fun r61 e61 => ?_)
        refine fm_cVi (pc := 61) C (t_X6_draw e61) ok_X6_draw ⟨by decide, rfl⟩ m_ml_X6_231 dX6_draws_61 ⟨Nat.le_of_ble_eq_true rfl, Nat.le_of_ble_eq_true rfl⟩ rfl rfl (Nat.le_of_ble_eq_true rfl) ?_
        refine fm_istore (pc := 64) C dX6_draws_64 (by decide) rfl ?_
        refine fm_aload_n (pc := 66) C dX6_draws_66 rfl rfl ?_
        refine fm_iload_n (pc := 67) C dX6_draws_67 rfl rfl ?_
        refine fm_iload (pc := 68) C dX6_draws_68 rfl ?_
        refine fm_iload (pc := 70) C dX6_draws_70 rfl ?_
        refine fm_iload (pc := 72) C dX6_draws_72 rfl ?_
        refine fm_aload_n (pc := 74) C dX6_draws_74 rfl rfl ?_
        refine fm_bipush (pc := 75) (v := (nI 10)) C dX6_draws_75 (by decide) ?_
        refine fm_bind (fun r77 e77 => ?_)
        refine fm_cVi (pc := 77) C (t_X6_draw e77) ok_X6_draw ⟨by decide, rfl⟩ m_ml_X6_231 dX6_draws_77 ⟨Nat.le_of_ble_eq_true rfl, Nat.le_of_ble_eq_true rfl⟩ rfl rfl (Nat.le_of_ble_eq_true rfl) ?_
        refine fm_bind (fun r80 e80 => ?_)
        refine fm_cVi (pc := 80) C (t_X6_adds e80) ok_X6_adds ⟨by decide, rfl⟩ m_ml_X6_109 dX6_draws_80 ⟨Nat.le_of_ble_eq_true rfl, Nat.le_of_ble_eq_true rfl⟩ rfl rfl (Nat.le_of_ble_eq_true rfl) ?_
        refine fm_pop (pc := 83) C dX6_draws_83 rfl ?_
        refine fm_iinc (pc := 84) C dX6_draws_84 rfl (v := (v2 + nI 1)) rfl (by decide) rfl ?_
        refine fm_goto (pc := 87) (tgt := 20) C dX6_draws_87 (by decide) ?_
        refine fm_less (lv' := [(0, .ref (G.2.2.1 58)), (1, .int v1), (2, .int ((v2 + nI 1)))]) (by repeat (first | exact trivial | refine ⟨rfl, ?_⟩)) ?_
        exact ih _ _ _
set_option maxHeartbeats 4000000 in
set_option maxRecDepth 100000 in
theorem j_X6_draws {X : fm_X} {G : fm_G} {l : Launch} {v1 : Int32} {μ : fm_I} {ν : fm_L} (C : fm_C X G l cX6_draws RX6 7 (some .int) 2 38) {F : (Int32 × fm_I × fm_L) → State → Prop} (hF : F = fm_Qi X G) : fm_J X G 7 F (m_X6_draws v1 μ ν) μ ν 0 [(0, .ref (G.2.2.1 58)), (1, .int v1)] [] := by
  unfold m_X6_draws
  refine fm_iload_n (pc := 0) C dX6_draws_0 rfl rfl ?_
  refine fm_iconst (pc := 1) (v := (nI 1)) C dX6_draws_1 (by decide) ?_
  refine fm_icmp_lt (pc := 2) (tgt := 11) C dX6_draws_2 (by decide) (fun c1 => ?_) (fun c1 => ?_)
  · refine fm_aload_n (pc := 11) C dX6_draws_11 rfl rfl ?_
    refine fm_bipush (pc := 12) (v := (-6 : Int32)) C dX6_draws_12 (by decide) ?_
    refine fm_bind (fun r14 e14 => ?_)
    refine fm_cVi (pc := 14) C (t_X6_no e14) ok_X6_no ⟨by decide, rfl⟩ m_ml_X6_95 dX6_draws_14 ⟨Nat.le_of_ble_eq_true rfl, Nat.le_of_ble_eq_true rfl⟩ rfl rfl (Nat.le_of_ble_eq_true rfl) ?_
    exact fm_zret (pc := 17) C hF rfl rfl dX6_draws_17
  · refine fm_iload_n (pc := 5) C dX6_draws_5 rfl rfl ?_
    refine fm_bipush (pc := 6) (v := (nI 6)) C dX6_draws_6 (by decide) ?_
    refine fm_icmp_le (pc := 8) (tgt := 18) C dX6_draws_8 (by decide) (fun c2 => ?_) (fun c2 => ?_)
    · refine fm_iconst (pc := 18) (v := (nI 0)) C dX6_draws_18 (by decide) ?_
      refine fm_istore_n (pc := 19) C dX6_draws_19 rfl (by decide) rfl ?_
      refine fm_less (lv' := [(0, .ref (G.2.2.1 58)), (1, .int v1), (2, .int ((nI 0)))]) (by repeat (first | exact trivial | refine ⟨rfl, ?_⟩)) ?_
      refine j_X6_draws_20_ C (v1 := v1) hF  (fun x2_20 μ20 ν20 => ?_) _ _ _ _
      refine fm_iload_n (pc := 90) C dX6_draws_90 rfl rfl ?_
      exact fm_zret (pc := 91) C hF rfl rfl dX6_draws_91
    · refine fm_aload_n (pc := 11) C dX6_draws_11 rfl rfl ?_
      refine fm_bipush (pc := 12) (v := (-6 : Int32)) C dX6_draws_12 (by decide) ?_
      refine fm_bind (fun r14 e14 => ?_)
      refine fm_cVi (pc := 14) C (t_X6_no e14) ok_X6_no ⟨by decide, rfl⟩ m_ml_X6_95 dX6_draws_14 ⟨Nat.le_of_ble_eq_true rfl, Nat.le_of_ble_eq_true rfl⟩ rfl rfl (Nat.le_of_ble_eq_true rfl) ?_
      exact fm_zret (pc := 17) C hF rfl rfl dX6_draws_17
theorem t_X6_draws {l : Launch} {G : fm_G} {v1 : Int32} {μ : fm_I} {ν : fm_L} {r : Int32 × fm_I × fm_L} (h : m_X6_draws v1 μ ν = some r) : fm_Mi l G yX6_draws cX6_draws 7 (some .int) 2 38 [.ref (G.2.2.1 58), .int v1] μ ν r := fm_Mi_of (by decide +kernel) (Nat.le_of_ble_eq_true rfl) (fun _ C => j_X6_draws C rfl r h)
theorem dX6_goes_0 : decode cX6_goes 0 = .ok (.aload_n 0, 1) := by decide +kernel
theorem dX6_goes_1 : decode cX6_goes 1 = .ok (.getfield 85, 3) := by decide +kernel
theorem dX6_goes_4 : decode cX6_goes 4 = .ok (.ifCond .ne 10, 3) := by decide +kernel
theorem dX6_goes_7 : decode cX6_goes 7 = .ok (.aload_n 0, 1) := by decide +kernel
theorem dX6_goes_8 : decode cX6_goes 8 = .ok (.bipush (-6), 2) := by decide +kernel
theorem dX6_goes_10 : decode cX6_goes 10 = .ok (.invokevirtual 95, 3) := by decide +kernel
theorem dX6_goes_13 : decode cX6_goes 13 = .ok (.ireturn, 1) := by decide +kernel
theorem dX6_goes_14 : decode cX6_goes 14 = .ok (.aload_n 0, 1) := by decide +kernel
theorem dX6_goes_15 : decode cX6_goes 15 = .ok (.dup, 1) := by decide +kernel
theorem dX6_goes_16 : decode cX6_goes 16 = .ok (.getfield 85, 3) := by decide +kernel
theorem dX6_goes_19 : decode cX6_goes 19 = .ok (.iconst 1, 1) := by decide +kernel
theorem dX6_goes_20 : decode cX6_goes 20 = .ok (.isub, 1) := by decide +kernel
theorem dX6_goes_21 : decode cX6_goes 21 = .ok (.putfield 85, 3) := by decide +kernel
theorem dX6_goes_24 : decode cX6_goes 24 = .ok (.iconst 0, 1) := by decide +kernel
theorem dX6_goes_25 : decode cX6_goes 25 = .ok (.istore_n 1, 1) := by decide +kernel
theorem dX6_goes_26 : decode cX6_goes 26 = .ok (.iload_n 1, 1) := by decide +kernel
theorem dX6_goes_27 : decode cX6_goes 27 = .ok (.bipush 8, 2) := by decide +kernel
theorem dX6_goes_29 : decode cX6_goes 29 = .ok (.if_icmp .ge 39, 3) := by decide +kernel
theorem dX6_goes_32 : decode cX6_goes 32 = .ok (.aload_n 0, 1) := by decide +kernel
theorem dX6_goes_33 : decode cX6_goes 33 = .ok (.getfield 38, 3) := by decide +kernel
theorem dX6_goes_36 : decode cX6_goes 36 = .ok (.iload_n 1, 1) := by decide +kernel
theorem dX6_goes_37 : decode cX6_goes 37 = .ok (.iaload, 1) := by decide +kernel
theorem dX6_goes_38 : decode cX6_goes 38 = .ok (.iconst 2, 1) := by decide +kernel
theorem dX6_goes_39 : decode cX6_goes 39 = .ok (.if_icmp .ne 23, 3) := by decide +kernel
theorem dX6_goes_42 : decode cX6_goes 42 = .ok (.aload_n 0, 1) := by decide +kernel
theorem dX6_goes_43 : decode cX6_goes 43 = .ok (.getfield 47, 3) := by decide +kernel
theorem dX6_goes_46 : decode cX6_goes 46 = .ok (.iload_n 1, 1) := by decide +kernel
theorem dX6_goes_47 : decode cX6_goes 47 = .ok (.iaload, 1) := by decide +kernel
theorem dX6_goes_48 : decode cX6_goes 48 = .ok (.aload_n 0, 1) := by decide +kernel
theorem dX6_goes_49 : decode cX6_goes 49 = .ok (.getfield 85, 3) := by decide +kernel
theorem dX6_goes_52 : decode cX6_goes 52 = .ok (.if_icmp .ne 10, 3) := by decide +kernel
theorem dX6_goes_55 : decode cX6_goes 55 = .ok (.aload_n 0, 1) := by decide +kernel
theorem dX6_goes_56 : decode cX6_goes 56 = .ok (.getfield 38, 3) := by decide +kernel
theorem dX6_goes_59 : decode cX6_goes 59 = .ok (.iload_n 1, 1) := by decide +kernel
theorem dX6_goes_60 : decode cX6_goes 60 = .ok (.iconst 0, 1) := by decide +kernel
theorem dX6_goes_61 : decode cX6_goes 61 = .ok (.iastore, 1) := by decide +kernel
theorem dX6_goes_62 : decode cX6_goes 62 = .ok (.iinc 1 1, 3) := by decide +kernel
theorem dX6_goes_65 : decode cX6_goes 65 = .ok (.goto (-39), 3) := by decide +kernel
theorem dX6_goes_68 : decode cX6_goes 68 = .ok (.aload_n 0, 1) := by decide +kernel
theorem dX6_goes_69 : decode cX6_goes 69 = .ok (.getfield 85, 3) := by decide +kernel
theorem dX6_goes_72 : decode cX6_goes 72 = .ok (.ireturn, 1) := by decide +kernel
def m_X6_goes_26  (K : fm_I → fm_L → Option (Int32 × fm_I × fm_L)) : Nat → Int32 → fm_I → fm_L → Option (Int32 × fm_I × fm_L)
  | 0, _, _, _ => none
  | k + 1, v1, μ, ν => if (nI 8) ≤ v1 then K  μ ν else fm_g (fm_in v1 (fm_n 66)) (if (μ 66 v1.toNatClampNeg) = (nI 2) then fm_g (fm_in v1 (fm_n 69)) (if (μ 69 v1.toNatClampNeg) = (μ 58 0) then m_X6_goes_26 K k ((v1 + nI 1)) (fm_u μ 66 v1.toNatClampNeg ((nI 0))) ν else m_X6_goes_26 K k ((v1 + nI 1)) μ ν) else m_X6_goes_26 K k ((v1 + nI 1)) μ ν)
def m_X6_goes  (μ : fm_I) (ν : fm_L) : Option (Int32 × fm_I × fm_L) :=
  if (μ 58 0) = 0 then (m_X6_no ((-6 : Int32)) μ ν).bind (fun r10 => some ((r10.1, r10.2.1, r10.2.2))) else m_X6_goes_26  (fun μ26 ν26 => some (((μ26 58 0), μ26, ν26))) 5000 ((nI 0)) (fm_u μ 58 0 ((((μ 58 0)) - ((nI 1))))) ν
theorem ok_X6_goes : fm_okV yX6_goes cX6_goes 2 (some .int) 0 := ⟨m_cd_X6_goes, m_im_X6_goes, m_se_X6_X6_goes, m_ini_X6, by decide +kernel, by decide +kernel, by decide +kernel⟩
set_option maxHeartbeats 4000000 in
set_option maxRecDepth 100000 in
theorem j_X6_goes_26_ {X : fm_X} {G : fm_G} {l : Launch}  (C : fm_C X G l cX6_goes RX6 2 (some .int) 2 33) {F : (Int32 × fm_I × fm_L) → State → Prop} (hF : F = fm_Qi X G)  {K : fm_I → fm_L → Option (Int32 × fm_I × fm_L)} (hK : ∀  (μ : fm_I) (ν : fm_L), fm_J X G 2 F (K μ ν) μ ν 68 [(0, .ref (G.2.2.1 58))] []) : ∀ (k : Nat) (v1 : Int32) (μ : fm_I) (ν : fm_L), fm_J X G 2 F (m_X6_goes_26  K k v1 μ ν) μ ν 26 [(0, .ref (G.2.2.1 58)), (1, .int v1)] [] := by
  intro k
  induction k with
  | zero =>
    intro v1 μ ν
    exact fm_none
  | succ k ih =>
    intro v1 μ ν
    rw [m_X6_goes_26]
    refine fm_iload_n (pc := 26) C dX6_goes_26 rfl rfl ?_
    refine fm_bipush (pc := 27) (v := (nI 8)) C dX6_goes_27 (by decide) ?_
    refine fm_icmp_ge (pc := 29) (tgt := 68) C dX6_goes_29 (by decide) (fun c2 => ?_) (fun c2 => ?_)
    · refine fm_less (lv' := [(0, .ref (G.2.2.1 58))]) (by repeat (first | exact trivial | refine ⟨rfl, ?_⟩)) ?_
      exact hK  _ _
    · refine fm_aload_n (pc := 32) C dX6_goes_32 rfl rfl ?_
      refine g6_held (pc := 33) C (by decide) dX6_goes_33 m_fl_X6_38 ?_
      refine fm_iload_n (pc := 36) C dX6_goes_36 rfl rfl ?_
      refine fm_guard (fun h3 => ?_)
      refine fm_iald (pc := 37) C (by decide) h3 dX6_goes_37 ?_
      refine fm_iconst (pc := 38) (v := (nI 2)) C dX6_goes_38 (by decide) ?_
      refine fm_icmp_ne (pc := 39) (tgt := 62) C dX6_goes_39 (by decide) (fun c4 => ?_) (fun c4 => ?_)
      · refine fm_aload_n (pc := 42) C dX6_goes_42 rfl rfl ?_
        refine g6_shown (pc := 43) C (by decide) dX6_goes_43 m_fl_X6_47 ?_
        refine fm_iload_n (pc := 46) C dX6_goes_46 rfl rfl ?_
        refine fm_guard (fun h5 => ?_)
        refine fm_iald (pc := 47) C (by decide) h5 dX6_goes_47 ?_
        refine fm_aload_n (pc := 48) C dX6_goes_48 rfl rfl ?_
        refine g6_bands (pc := 49) C (by decide) dX6_goes_49 m_fl_X6_85 ?_
        refine fm_icmp_ne (pc := 52) (tgt := 62) C dX6_goes_52 (by decide) (fun c6 => ?_) (fun c6 => ?_)
        · refine fm_aload_n (pc := 55) C dX6_goes_55 rfl rfl ?_
          refine g6_held (pc := 56) C (by decide) dX6_goes_56 m_fl_X6_38 ?_
          refine fm_iload_n (pc := 59) C dX6_goes_59 rfl rfl ?_
          refine fm_iconst (pc := 60) (v := (nI 0)) C dX6_goes_60 (by decide) ?_
          refine fm_iast (pc := 61) C (by decide) h3 dX6_goes_61 ?_
          refine fm_iinc (pc := 62) C dX6_goes_62 rfl (v := (v1 + nI 1)) rfl (by decide) rfl ?_
          refine fm_goto (pc := 65) (tgt := 26) C dX6_goes_65 (by decide) ?_
          refine fm_less (lv' := [(0, .ref (G.2.2.1 58)), (1, .int ((v1 + nI 1)))]) (by repeat (first | exact trivial | refine ⟨rfl, ?_⟩)) ?_
          exact ih _ _ _
        · refine fm_iinc (pc := 62) C dX6_goes_62 rfl (v := (v1 + nI 1)) rfl (by decide) rfl ?_
          refine fm_goto (pc := 65) (tgt := 26) C dX6_goes_65 (by decide) ?_
          refine fm_less (lv' := [(0, .ref (G.2.2.1 58)), (1, .int ((v1 + nI 1)))]) (by repeat (first | exact trivial | refine ⟨rfl, ?_⟩)) ?_
          exact ih _ _ _
      · refine fm_iinc (pc := 62) C dX6_goes_62 rfl (v := (v1 + nI 1)) rfl (by decide) rfl ?_
        refine fm_goto (pc := 65) (tgt := 26) C dX6_goes_65 (by decide) ?_
        refine fm_less (lv' := [(0, .ref (G.2.2.1 58)), (1, .int ((v1 + nI 1)))]) (by repeat (first | exact trivial | refine ⟨rfl, ?_⟩)) ?_
        exact ih _ _ _
set_option maxHeartbeats 4000000 in
set_option maxRecDepth 100000 in
theorem j_X6_goes {X : fm_X} {G : fm_G} {l : Launch}  {μ : fm_I} {ν : fm_L} (C : fm_C X G l cX6_goes RX6 2 (some .int) 2 33) {F : (Int32 × fm_I × fm_L) → State → Prop} (hF : F = fm_Qi X G) : fm_J X G 2 F (m_X6_goes  μ ν) μ ν 0 [(0, .ref (G.2.2.1 58))] [] := by
  unfold m_X6_goes
  refine fm_aload_n (pc := 0) C dX6_goes_0 rfl rfl ?_
  refine g6_bands (pc := 1) C (by decide) dX6_goes_1 m_fl_X6_85 ?_
  refine fm_if_ne (pc := 4) (tgt := 14) C dX6_goes_4 (by decide) (fun c1 => ?_) (fun c1 => ?_)
  · refine fm_aload_n (pc := 7) C dX6_goes_7 rfl rfl ?_
    refine fm_bipush (pc := 8) (v := (-6 : Int32)) C dX6_goes_8 (by decide) ?_
    refine fm_bind (fun r10 e10 => ?_)
    refine fm_cVi (pc := 10) C (t_X6_no e10) ok_X6_no ⟨by decide, rfl⟩ m_ml_X6_95 dX6_goes_10 ⟨Nat.le_of_ble_eq_true rfl, Nat.le_of_ble_eq_true rfl⟩ rfl rfl (Nat.le_of_ble_eq_true rfl) ?_
    exact fm_zret (pc := 13) C hF rfl rfl dX6_goes_13
  · refine fm_aload_n (pc := 14) C dX6_goes_14 rfl rfl ?_
    refine fm_dup (pc := 15) C dX6_goes_15 rfl ?_
    refine g6_bands (pc := 16) C (by decide) dX6_goes_16 m_fl_X6_85 ?_
    refine fm_iconst (pc := 19) (v := (nI 1)) C dX6_goes_19 (by decide) ?_
    refine fm_isub (pc := 20) C dX6_goes_20 ?_
    refine p6_bands (pc := 21) C (by decide) dX6_goes_21 m_fl_X6_85 ?_
    refine fm_iconst (pc := 24) (v := (nI 0)) C dX6_goes_24 (by decide) ?_
    refine fm_istore_n (pc := 25) C dX6_goes_25 rfl (by decide) rfl ?_
    refine fm_less (lv' := [(0, .ref (G.2.2.1 58)), (1, .int ((nI 0)))]) (by repeat (first | exact trivial | refine ⟨rfl, ?_⟩)) ?_
    refine j_X6_goes_26_ C  hF  (fun μ26 ν26 => ?_) _ _ _ _
    refine fm_aload_n (pc := 68) C dX6_goes_68 rfl rfl ?_
    refine g6_bands (pc := 69) C (by decide) dX6_goes_69 m_fl_X6_85 ?_
    exact fm_zret (pc := 72) C hF rfl rfl dX6_goes_72
theorem t_X6_goes {l : Launch} {G : fm_G}  {μ : fm_I} {ν : fm_L} {r : Int32 × fm_I × fm_L} (h : m_X6_goes  μ ν = some r) : fm_Mi l G yX6_goes cX6_goes 2 (some .int) 2 33 [.ref (G.2.2.1 58)] μ ν r := fm_Mi_of (by decide +kernel) (Nat.le_of_ble_eq_true rfl) (fun _ C => j_X6_goes C rfl r h)
theorem dX6_seed_0 : decode cX6_seed 0 = .ok (.aload_n 0, 1) := by decide +kernel
theorem dX6_seed_1 : decode cX6_seed 1 = .ok (.getfield 7, 3) := by decide +kernel
theorem dX6_seed_4 : decode cX6_seed 4 = .ok (.istore_n 2, 1) := by decide +kernel
theorem dX6_seed_5 : decode cX6_seed 5 = .ok (.aload_n 0, 1) := by decide +kernel
theorem dX6_seed_6 : decode cX6_seed 6 = .ok (.iload_n 1, 1) := by decide +kernel
theorem dX6_seed_7 : decode cX6_seed 7 = .ok (.putfield 7, 3) := by decide +kernel
theorem dX6_seed_10 : decode cX6_seed 10 = .ok (.iload_n 2, 1) := by decide +kernel
theorem dX6_seed_11 : decode cX6_seed 11 = .ok (.ireturn, 1) := by decide +kernel
def m_X6_seed (v1 : Int32) (μ : fm_I) (ν : fm_L) : Option (Int32 × fm_I × fm_L) :=
  some (((μ 58 2), (fm_u μ 58 2 v1), ν))
theorem ok_X6_seed : fm_okV yX6_seed cX6_seed 3 (some .int) 1 := ⟨m_cd_X6_seed, m_im_X6_seed, m_se_X6_X6_seed, m_ini_X6, by decide +kernel, by decide +kernel, by decide +kernel⟩
set_option maxHeartbeats 4000000 in
set_option maxRecDepth 100000 in
theorem j_X6_seed {X : fm_X} {G : fm_G} {l : Launch} {v1 : Int32} {μ : fm_I} {ν : fm_L} (C : fm_C X G l cX6_seed RX6 3 (some .int) 1 12) {F : (Int32 × fm_I × fm_L) → State → Prop} (hF : F = fm_Qi X G) : fm_J X G 3 F (m_X6_seed v1 μ ν) μ ν 0 [(0, .ref (G.2.2.1 58)), (1, .int v1)] [] := by
  unfold m_X6_seed
  refine fm_aload_n (pc := 0) C dX6_seed_0 rfl rfl ?_
  refine g6_seed (pc := 1) C (by decide) dX6_seed_1 m_fl_X6_7 ?_
  refine fm_istore_n (pc := 4) C dX6_seed_4 rfl (by decide) rfl ?_
  refine fm_aload_n (pc := 5) C dX6_seed_5 rfl rfl ?_
  refine fm_iload_n (pc := 6) C dX6_seed_6 rfl rfl ?_
  refine p6_seed (pc := 7) C (by decide) dX6_seed_7 m_fl_X6_7 ?_
  refine fm_iload_n (pc := 10) C dX6_seed_10 rfl rfl ?_
  exact fm_zret (pc := 11) C hF rfl rfl dX6_seed_11
theorem t_X6_seed {l : Launch} {G : fm_G} {v1 : Int32} {μ : fm_I} {ν : fm_L} {r : Int32 × fm_I × fm_L} (h : m_X6_seed v1 μ ν = some r) : fm_Mi l G yX6_seed cX6_seed 3 (some .int) 1 12 [.ref (G.2.2.1 58), .int v1] μ ν r := fm_Mi_of (by decide +kernel) (Nat.le_of_ble_eq_true rfl) (fun _ C => j_X6_seed C rfl r h)
theorem dX6_body_0 : decode cX6_body 0 = .ok (.aload_n 0, 1) := by decide +kernel
theorem dX6_body_1 : decode cX6_body 1 = .ok (.getfield 234, 3) := by decide +kernel
theorem dX6_body_4 : decode cX6_body 4 = .ok (.bipush 20, 2) := by decide +kernel
theorem dX6_body_6 : decode cX6_body 6 = .ok (.if_icmp .ge 13, 3) := by decide +kernel
theorem dX6_body_9 : decode cX6_body 9 = .ok (.aload_n 0, 1) := by decide +kernel
theorem dX6_body_10 : decode cX6_body 10 = .ok (.getfield 81, 3) := by decide +kernel
theorem dX6_body_13 : decode cX6_body 13 = .ok (.aload_n 0, 1) := by decide +kernel
theorem dX6_body_14 : decode cX6_body 14 = .ok (.getfield 234, 3) := by decide +kernel
theorem dX6_body_17 : decode cX6_body 17 = .ok (.iload_n 1, 1) := by decide +kernel
theorem dX6_body_18 : decode cX6_body 18 = .ok (.iastore, 1) := by decide +kernel
theorem dX6_body_19 : decode cX6_body 19 = .ok (.aload_n 0, 1) := by decide +kernel
theorem dX6_body_20 : decode cX6_body 20 = .ok (.dup, 1) := by decide +kernel
theorem dX6_body_21 : decode cX6_body 21 = .ok (.getfield 234, 3) := by decide +kernel
theorem dX6_body_24 : decode cX6_body 24 = .ok (.iconst 1, 1) := by decide +kernel
theorem dX6_body_25 : decode cX6_body 25 = .ok (.iadd, 1) := by decide +kernel
theorem dX6_body_26 : decode cX6_body 26 = .ok (.putfield 234, 3) := by decide +kernel
theorem dX6_body_29 : decode cX6_body 29 = .ok (.return_, 1) := by decide +kernel
def m_X6_body (v1 : Int32) (μ : fm_I) (ν : fm_L) : Option (fm_I × fm_L) :=
  if (nI 20) ≤ (μ 58 32) then some (((fm_u μ 58 32 ((((μ 58 32)) + ((nI 1))))), ν)) else fm_g (fm_in ((μ 58 32)) (fm_n 80)) (some (((fm_u (fm_u μ 80 ((μ 58 32)).toNatClampNeg v1) 58 32 ((((((fm_u μ 80 ((μ 58 32)).toNatClampNeg v1)) 58 32)) + ((nI 1))))), ν)))
theorem ok_X6_body : fm_okV yX6_body cX6_body 2 (none : Option Jvm.ClassFile.FieldType) 1 := ⟨m_cd_X6_body, m_im_X6_body, m_se_X6_X6_body, m_ini_X6, by decide +kernel, by decide +kernel, by decide +kernel⟩
set_option maxHeartbeats 4000000 in
set_option maxRecDepth 100000 in
theorem j_X6_body {X : fm_X} {G : fm_G} {l : Launch} {v1 : Int32} {μ : fm_I} {ν : fm_L} (C : fm_C X G l cX6_body RX6 2 (none : Option Jvm.ClassFile.FieldType) 1 12) {F : (fm_I × fm_L) → State → Prop} (hF : F = fm_Qv X G) : fm_J X G 2 F (m_X6_body v1 μ ν) μ ν 0 [(0, .ref (G.2.2.1 58)), (1, .int v1)] [] := by
  unfold m_X6_body
  refine fm_aload_n (pc := 0) C dX6_body_0 rfl rfl ?_
  refine g6_ran (pc := 1) C (by decide) dX6_body_1 m_fl_X6_234 ?_
  refine fm_bipush (pc := 4) (v := (nI 20)) C dX6_body_4 (by decide) ?_
  refine fm_icmp_ge (pc := 6) (tgt := 19) C dX6_body_6 (by decide) (fun c1 => ?_) (fun c1 => ?_)
  · refine fm_aload_n (pc := 19) C dX6_body_19 rfl rfl ?_
    refine fm_dup (pc := 20) C dX6_body_20 rfl ?_
    refine g6_ran (pc := 21) C (by decide) dX6_body_21 m_fl_X6_234 ?_
    refine fm_iconst (pc := 24) (v := (nI 1)) C dX6_body_24 (by decide) ?_
    refine fm_iadd (pc := 25) C dX6_body_25 ?_
    refine p6_ran (pc := 26) C (by decide) dX6_body_26 m_fl_X6_234 ?_
    exact fm_vret (pc := 29) C hF rfl dX6_body_29
  · refine fm_aload_n (pc := 9) C dX6_body_9 rfl rfl ?_
    refine g6_trace (pc := 10) C (by decide) dX6_body_10 m_fl_X6_81 ?_
    refine fm_aload_n (pc := 13) C dX6_body_13 rfl rfl ?_
    refine g6_ran (pc := 14) C (by decide) dX6_body_14 m_fl_X6_234 ?_
    refine fm_iload_n (pc := 17) C dX6_body_17 rfl rfl ?_
    refine fm_guard (fun h2 => ?_)
    refine fm_iast (pc := 18) C (by decide) h2 dX6_body_18 ?_
    refine fm_aload_n (pc := 19) C dX6_body_19 rfl rfl ?_
    refine fm_dup (pc := 20) C dX6_body_20 rfl ?_
    refine g6_ran (pc := 21) C (by decide) dX6_body_21 m_fl_X6_234 ?_
    refine fm_iconst (pc := 24) (v := (nI 1)) C dX6_body_24 (by decide) ?_
    refine fm_iadd (pc := 25) C dX6_body_25 ?_
    refine p6_ran (pc := 26) C (by decide) dX6_body_26 m_fl_X6_234 ?_
    exact fm_vret (pc := 29) C hF rfl dX6_body_29
theorem t_X6_body {l : Launch} {G : fm_G} {v1 : Int32} {μ : fm_I} {ν : fm_L} {r : fm_I × fm_L} (h : m_X6_body v1 μ ν = some r) : fm_Mv l G yX6_body cX6_body 2 (none : Option Jvm.ClassFile.FieldType) 1 12 [.ref (G.2.2.1 58), .int v1] μ ν r := fm_Mv_of (by decide +kernel) (Nat.le_of_ble_eq_true rfl) (fun _ C => j_X6_body C rfl r h)
theorem dX6_going_0 : decode cX6_going 0 = .ok (.aload_n 0, 1) := by decide +kernel
theorem dX6_going_1 : decode cX6_going 1 = .ok (.getfield 20, 3) := by decide +kernel
theorem dX6_going_4 : decode cX6_going 4 = .ok (.iload_n 1, 1) := by decide +kernel
theorem dX6_going_5 : decode cX6_going 5 = .ok (.iaload, 1) := by decide +kernel
theorem dX6_going_6 : decode cX6_going 6 = .ok (.istore_n 3, 1) := by decide +kernel
theorem dX6_going_7 : decode cX6_going 7 = .ok (.iload_n 3, 1) := by decide +kernel
theorem dX6_going_8 : decode cX6_going 8 = .ok (.bipush 6, 2) := by decide +kernel
theorem dX6_going_10 : decode cX6_going 10 = .ok (.if_icmp .ne 9, 3) := by decide +kernel
theorem dX6_going_13 : decode cX6_going 13 = .ok (.aload_n 0, 1) := by decide +kernel
theorem dX6_going_14 : decode cX6_going 14 = .ok (.bipush 70, 2) := by decide +kernel
theorem dX6_going_16 : decode cX6_going 16 = .ok (.invokevirtual 237, 3) := by decide +kernel
theorem dX6_going_19 : decode cX6_going 19 = .ok (.iload_n 3, 1) := by decide +kernel
theorem dX6_going_20 : decode cX6_going 20 = .ok (.iconst 4, 1) := by decide +kernel
theorem dX6_going_21 : decode cX6_going 21 = .ok (.if_icmp .eq 9, 3) := by decide +kernel
theorem dX6_going_24 : decode cX6_going 24 = .ok (.iload_n 3, 1) := by decide +kernel
theorem dX6_going_25 : decode cX6_going 25 = .ok (.bipush 6, 2) := by decide +kernel
theorem dX6_going_27 : decode cX6_going 27 = .ok (.if_icmp .ne 9, 3) := by decide +kernel
theorem dX6_going_30 : decode cX6_going 30 = .ok (.aload_n 0, 1) := by decide +kernel
theorem dX6_going_31 : decode cX6_going 31 = .ok (.bipush 51, 2) := by decide +kernel
theorem dX6_going_33 : decode cX6_going 33 = .ok (.invokevirtual 237, 3) := by decide +kernel
theorem dX6_going_36 : decode cX6_going 36 = .ok (.iload_n 3, 1) := by decide +kernel
theorem dX6_going_37 : decode cX6_going 37 = .ok (.iconst 1, 1) := by decide +kernel
theorem dX6_going_38 : decode cX6_going 38 = .ok (.if_icmp .eq 8, 3) := by decide +kernel
theorem dX6_going_41 : decode cX6_going 41 = .ok (.iload_n 3, 1) := by decide +kernel
theorem dX6_going_42 : decode cX6_going 42 = .ok (.iconst 3, 1) := by decide +kernel
theorem dX6_going_43 : decode cX6_going 43 = .ok (.if_icmp .ne 9, 3) := by decide +kernel
theorem dX6_going_46 : decode cX6_going 46 = .ok (.aload_n 0, 1) := by decide +kernel
theorem dX6_going_47 : decode cX6_going 47 = .ok (.bipush 20, 2) := by decide +kernel
theorem dX6_going_49 : decode cX6_going 49 = .ok (.invokevirtual 237, 3) := by decide +kernel
theorem dX6_going_52 : decode cX6_going 52 = .ok (.aload_n 0, 1) := by decide +kernel
theorem dX6_going_53 : decode cX6_going 53 = .ok (.bipush 10, 2) := by decide +kernel
theorem dX6_going_55 : decode cX6_going 55 = .ok (.invokevirtual 237, 3) := by decide +kernel
theorem dX6_going_58 : decode cX6_going 58 = .ok (.iload_n 2, 1) := by decide +kernel
theorem dX6_going_59 : decode cX6_going 59 = .ok (.iload_n 1, 1) := by decide +kernel
theorem dX6_going_60 : decode cX6_going 60 = .ok (.iadd, 1) := by decide +kernel
theorem dX6_going_61 : decode cX6_going 61 = .ok (.istore 4, 2) := by decide +kernel
theorem dX6_going_63 : decode cX6_going 63 = .ok (.iload_n 3, 1) := by decide +kernel
theorem dX6_going_64 : decode cX6_going 64 = .ok (.iconst 1, 1) := by decide +kernel
theorem dX6_going_65 : decode cX6_going 65 = .ok (.if_icmp .eq 8, 3) := by decide +kernel
theorem dX6_going_68 : decode cX6_going 68 = .ok (.iload_n 3, 1) := by decide +kernel
theorem dX6_going_69 : decode cX6_going 69 = .ok (.iconst 3, 1) := by decide +kernel
theorem dX6_going_70 : decode cX6_going 70 = .ok (.if_icmp .ne 14, 3) := by decide +kernel
theorem dX6_going_73 : decode cX6_going 73 = .ok (.iload 4, 2) := by decide +kernel
theorem dX6_going_75 : decode cX6_going 75 = .ok (.aload_n 0, 1) := by decide +kernel
theorem dX6_going_76 : decode cX6_going 76 = .ok (.getfield 32, 3) := by decide +kernel
theorem dX6_going_79 : decode cX6_going 79 = .ok (.iload_n 1, 1) := by decide +kernel
theorem dX6_going_80 : decode cX6_going 80 = .ok (.iaload, 1) := by decide +kernel
theorem dX6_going_81 : decode cX6_going 81 = .ok (.iadd, 1) := by decide +kernel
theorem dX6_going_82 : decode cX6_going 82 = .ok (.istore 4, 2) := by decide +kernel
theorem dX6_going_84 : decode cX6_going 84 = .ok (.iload_n 3, 1) := by decide +kernel
theorem dX6_going_85 : decode cX6_going 85 = .ok (.iconst 4, 1) := by decide +kernel
theorem dX6_going_86 : decode cX6_going 86 = .ok (.if_icmp .eq 9, 3) := by decide +kernel
theorem dX6_going_89 : decode cX6_going 89 = .ok (.iload_n 3, 1) := by decide +kernel
theorem dX6_going_90 : decode cX6_going 90 = .ok (.bipush 6, 2) := by decide +kernel
theorem dX6_going_92 : decode cX6_going 92 = .ok (.if_icmp .ne 9, 3) := by decide +kernel
theorem dX6_going_95 : decode cX6_going 95 = .ok (.iload 4, 2) := by decide +kernel
theorem dX6_going_97 : decode cX6_going 97 = .ok (.iload_n 1, 1) := by decide +kernel
theorem dX6_going_98 : decode cX6_going 98 = .ok (.isub, 1) := by decide +kernel
theorem dX6_going_99 : decode cX6_going 99 = .ok (.istore 4, 2) := by decide +kernel
theorem dX6_going_101 : decode cX6_going 101 = .ok (.iload_n 3, 1) := by decide +kernel
theorem dX6_going_102 : decode cX6_going 102 = .ok (.bipush 6, 2) := by decide +kernel
theorem dX6_going_104 : decode cX6_going 104 = .ok (.if_icmp .ne 10, 3) := by decide +kernel
theorem dX6_going_107 : decode cX6_going 107 = .ok (.iload 4, 2) := by decide +kernel
theorem dX6_going_109 : decode cX6_going 109 = .ok (.iconst 2, 1) := by decide +kernel
theorem dX6_going_110 : decode cX6_going 110 = .ok (.imul, 1) := by decide +kernel
theorem dX6_going_111 : decode cX6_going 111 = .ok (.goto 5, 3) := by decide +kernel
theorem dX6_going_114 : decode cX6_going 114 = .ok (.iload 4, 2) := by decide +kernel
theorem dX6_going_116 : decode cX6_going 116 = .ok (.ireturn, 1) := by decide +kernel
def m_X6_going_101 (v3 : Int32) (v4 : Int32) (μ : fm_I) (ν : fm_L) : Option (Int32 × fm_I × fm_L) :=
  if v3 = (nI 6) then some (((v4 * ((nI 2))), μ, ν)) else some ((v4, μ, ν))
def m_X6_going_95 (v1 : Int32) (v3 : Int32) (v4 : Int32) (μ : fm_I) (ν : fm_L) : Option (Int32 × fm_I × fm_L) :=
  m_X6_going_101 v3 ((v4 - v1)) μ ν
def m_X6_going_84 (v1 : Int32) (v3 : Int32) (v4 : Int32) (μ : fm_I) (ν : fm_L) : Option (Int32 × fm_I × fm_L) :=
  if v3 = (nI 4) then m_X6_going_95 v1 v3 v4 μ ν else if v3 = (nI 6) then m_X6_going_95 v1 v3 v4 μ ν else m_X6_going_101 v3 v4 μ ν
def m_X6_going_73 (v1 : Int32) (v3 : Int32) (v4 : Int32) (μ : fm_I) (ν : fm_L) : Option (Int32 × fm_I × fm_L) :=
  fm_g (fm_in v1 (fm_n 64)) (m_X6_going_84 v1 v3 ((v4 + ((μ 64 v1.toNatClampNeg)))) μ ν)
def m_X6_going_52 (v1 : Int32) (v2 : Int32) (v3 : Int32) (μ : fm_I) (ν : fm_L) : Option (Int32 × fm_I × fm_L) :=
  (m_X6_body ((nI 10)) μ ν).bind (fun r55 => if v3 = (nI 1) then m_X6_going_73 v1 v3 ((v2 + v1)) r55.1 r55.2 else if v3 = (nI 3) then m_X6_going_73 v1 v3 ((v2 + v1)) r55.1 r55.2 else m_X6_going_84 v1 v3 ((v2 + v1)) r55.1 r55.2)
def m_X6_going_46 (v1 : Int32) (v2 : Int32) (v3 : Int32) (μ : fm_I) (ν : fm_L) : Option (Int32 × fm_I × fm_L) :=
  (m_X6_body ((nI 20)) μ ν).bind (fun r49 => m_X6_going_52 v1 v2 v3 r49.1 r49.2)
def m_X6_going_36 (v1 : Int32) (v2 : Int32) (v3 : Int32) (μ : fm_I) (ν : fm_L) : Option (Int32 × fm_I × fm_L) :=
  if v3 = (nI 1) then m_X6_going_46 v1 v2 v3 μ ν else if v3 = (nI 3) then m_X6_going_46 v1 v2 v3 μ ν else m_X6_going_52 v1 v2 v3 μ ν
def m_X6_going_30 (v1 : Int32) (v2 : Int32) (v3 : Int32) (μ : fm_I) (ν : fm_L) : Option (Int32 × fm_I × fm_L) :=
  (m_X6_body ((nI 51)) μ ν).bind (fun r33 => m_X6_going_36 v1 v2 v3 r33.1 r33.2)
def m_X6_going_19 (v1 : Int32) (v2 : Int32) (v3 : Int32) (μ : fm_I) (ν : fm_L) : Option (Int32 × fm_I × fm_L) :=
  if v3 = (nI 4) then m_X6_going_30 v1 v2 v3 μ ν else if v3 = (nI 6) then m_X6_going_30 v1 v2 v3 μ ν else m_X6_going_36 v1 v2 v3 μ ν
def m_X6_going (v1 : Int32) (v2 : Int32) (μ : fm_I) (ν : fm_L) : Option (Int32 × fm_I × fm_L) :=
  fm_g (fm_in v1 (fm_n 60)) (if (μ 60 v1.toNatClampNeg) = (nI 6) then (m_X6_body ((nI 70)) μ ν).bind (fun r16 => m_X6_going_19 v1 v2 ((μ 60 v1.toNatClampNeg)) r16.1 r16.2) else m_X6_going_19 v1 v2 ((μ 60 v1.toNatClampNeg)) μ ν)
theorem ok_X6_going : fm_okV yX6_going cX6_going 5 (some .int) 2 := ⟨m_cd_X6_going, m_im_X6_going, m_se_X6_X6_going, m_ini_X6, by decide +kernel, by decide +kernel, by decide +kernel⟩
set_option maxHeartbeats 4000000 in
set_option maxRecDepth 100000 in
theorem j_X6_going_101_ {X : fm_X} {G : fm_G} {l : Launch} {v3 : Int32} {v4 : Int32} {μ : fm_I} {ν : fm_L} (C : fm_C X G l cX6_going RX6 5 (some .int) 2 33) {F : (Int32 × fm_I × fm_L) → State → Prop} (hF : F = fm_Qi X G)  : fm_J X G 5 F (m_X6_going_101 v3 v4 μ ν) μ ν 101 [(3, .int v3), (4, .int v4)] [] := by
  unfold m_X6_going_101
  refine fm_iload_n (pc := 101) C dX6_going_101 rfl rfl ?_
  refine fm_bipush (pc := 102) (v := (nI 6)) C dX6_going_102 (by decide) ?_
  refine fm_icmp_ne (pc := 104) (tgt := 114) C dX6_going_104 (by decide) (fun c8 => ?_) (fun c8 => ?_)
  · refine fm_iload (pc := 107) C dX6_going_107 rfl ?_
    refine fm_iconst (pc := 109) (v := (nI 2)) C dX6_going_109 (by decide) ?_
    refine fm_imul (pc := 110) C dX6_going_110 ?_
    refine fm_goto (pc := 111) (tgt := 116) C dX6_going_111 (by decide) ?_
    exact fm_zret (pc := 116) C hF rfl rfl dX6_going_116
  · refine fm_iload (pc := 114) C dX6_going_114 rfl ?_
    exact fm_zret (pc := 116) C hF rfl rfl dX6_going_116
set_option maxHeartbeats 4000000 in
set_option maxRecDepth 100000 in
theorem j_X6_going_95_ {X : fm_X} {G : fm_G} {l : Launch} {v1 : Int32} {v3 : Int32} {v4 : Int32} {μ : fm_I} {ν : fm_L} (C : fm_C X G l cX6_going RX6 5 (some .int) 2 33) {F : (Int32 × fm_I × fm_L) → State → Prop} (hF : F = fm_Qi X G)  : fm_J X G 5 F (m_X6_going_95 v1 v3 v4 μ ν) μ ν 95 [(1, .int v1), (3, .int v3), (4, .int v4)] [] := by
  unfold m_X6_going_95
  refine fm_iload (pc := 95) C dX6_going_95 rfl ?_
  refine fm_iload_n (pc := 97) C dX6_going_97 rfl rfl ?_
  refine fm_isub (pc := 98) C dX6_going_98 ?_
  refine fm_istore (pc := 99) C dX6_going_99 (by decide) rfl ?_
  refine fm_less (lv' := [(3, .int v3), (4, .int ((v4 - v1)))]) (by repeat (first | exact trivial | refine ⟨rfl, ?_⟩)) ?_
  exact j_X6_going_101_ C hF 
set_option maxHeartbeats 4000000 in
set_option maxRecDepth 100000 in
theorem j_X6_going_84_ {X : fm_X} {G : fm_G} {l : Launch} {v1 : Int32} {v3 : Int32} {v4 : Int32} {μ : fm_I} {ν : fm_L} (C : fm_C X G l cX6_going RX6 5 (some .int) 2 33) {F : (Int32 × fm_I × fm_L) → State → Prop} (hF : F = fm_Qi X G)  : fm_J X G 5 F (m_X6_going_84 v1 v3 v4 μ ν) μ ν 84 [(1, .int v1), (3, .int v3), (4, .int v4)] [] := by
  unfold m_X6_going_84
  refine fm_iload_n (pc := 84) C dX6_going_84 rfl rfl ?_
  refine fm_iconst (pc := 85) (v := (nI 4)) C dX6_going_85 (by decide) ?_
  refine fm_icmp_eq (pc := 86) (tgt := 95) C dX6_going_86 (by decide) (fun c7 => ?_) (fun c7 => ?_)
  · refine fm_less (lv' := [(1, .int v1), (3, .int v3), (4, .int v4)]) (by repeat (first | exact trivial | refine ⟨rfl, ?_⟩)) ?_
    exact j_X6_going_95_ C hF 
  · refine fm_iload_n (pc := 89) C dX6_going_89 rfl rfl ?_
    refine fm_bipush (pc := 90) (v := (nI 6)) C dX6_going_90 (by decide) ?_
    refine fm_icmp_ne (pc := 92) (tgt := 101) C dX6_going_92 (by decide) (fun c9 => ?_) (fun c9 => ?_)
    · refine fm_less (lv' := [(1, .int v1), (3, .int v3), (4, .int v4)]) (by repeat (first | exact trivial | refine ⟨rfl, ?_⟩)) ?_
      exact j_X6_going_95_ C hF 
    · refine fm_less (lv' := [(3, .int v3), (4, .int v4)]) (by repeat (first | exact trivial | refine ⟨rfl, ?_⟩)) ?_
      exact j_X6_going_101_ C hF 
set_option maxHeartbeats 4000000 in
set_option maxRecDepth 100000 in
theorem j_X6_going_73_ {X : fm_X} {G : fm_G} {l : Launch} {v1 : Int32} {v3 : Int32} {v4 : Int32} {μ : fm_I} {ν : fm_L} (C : fm_C X G l cX6_going RX6 5 (some .int) 2 33) {F : (Int32 × fm_I × fm_L) → State → Prop} (hF : F = fm_Qi X G)  : fm_J X G 5 F (m_X6_going_73 v1 v3 v4 μ ν) μ ν 73 [(0, .ref (G.2.2.1 58)), (1, .int v1), (3, .int v3), (4, .int v4)] [] := by
  unfold m_X6_going_73
  refine fm_iload (pc := 73) C dX6_going_73 rfl ?_
  refine fm_aload_n (pc := 75) C dX6_going_75 rfl rfl ?_
  refine g6_part (pc := 76) C (by decide) dX6_going_76 m_fl_X6_32 ?_
  refine fm_iload_n (pc := 79) C dX6_going_79 rfl rfl ?_
  refine fm_guard (fun h6 => ?_)
  refine fm_iald (pc := 80) C (by decide) h6 dX6_going_80 ?_
  refine fm_iadd (pc := 81) C dX6_going_81 ?_
  refine fm_istore (pc := 82) C dX6_going_82 (by decide) rfl ?_
  refine fm_less (lv' := [(1, .int v1), (3, .int v3), (4, .int ((v4 + ((μ 64 v1.toNatClampNeg)))))]) (by repeat (first | exact trivial | refine ⟨rfl, ?_⟩)) ?_
  exact j_X6_going_84_ C hF 
set_option maxHeartbeats 4000000 in
set_option maxRecDepth 100000 in
theorem j_X6_going_52_ {X : fm_X} {G : fm_G} {l : Launch} {v1 : Int32} {v2 : Int32} {v3 : Int32} {μ : fm_I} {ν : fm_L} (C : fm_C X G l cX6_going RX6 5 (some .int) 2 33) {F : (Int32 × fm_I × fm_L) → State → Prop} (hF : F = fm_Qi X G)  : fm_J X G 5 F (m_X6_going_52 v1 v2 v3 μ ν) μ ν 52 [(0, .ref (G.2.2.1 58)), (1, .int v1), (2, .int v2), (3, .int v3)] [] := by
  unfold m_X6_going_52
  refine fm_aload_n (pc := 52) C dX6_going_52 rfl rfl ?_
  refine fm_bipush (pc := 53) (v := (nI 10)) C dX6_going_53 (by decide) ?_
  refine fm_bind (fun r55 e55 => ?_)
  refine fm_cVv (pc := 55) C (t_X6_body e55) ok_X6_body ⟨by decide, rfl⟩ m_ml_X6_237 dX6_going_55 ⟨Nat.le_of_ble_eq_true rfl, Nat.le_of_ble_eq_true rfl⟩ rfl rfl (Nat.le_of_ble_eq_true rfl) ?_
  refine fm_iload_n (pc := 58) C dX6_going_58 rfl rfl ?_
  refine fm_iload_n (pc := 59) C dX6_going_59 rfl rfl ?_
  refine fm_iadd (pc := 60) C dX6_going_60 ?_
  refine fm_istore (pc := 61) C dX6_going_61 (by decide) rfl ?_
  refine fm_iload_n (pc := 63) C dX6_going_63 rfl rfl ?_
  refine fm_iconst (pc := 64) (v := (nI 1)) C dX6_going_64 (by decide) ?_
  refine fm_icmp_eq (pc := 65) (tgt := 73) C dX6_going_65 (by decide) (fun c5 => ?_) (fun c5 => ?_)
  · refine fm_less (lv' := [(0, .ref (G.2.2.1 58)), (1, .int v1), (3, .int v3), (4, .int ((v2 + v1)))]) (by repeat (first | exact trivial | refine ⟨rfl, ?_⟩)) ?_
    exact j_X6_going_73_ C hF 
  · refine fm_iload_n (pc := 68) C dX6_going_68 rfl rfl ?_
    refine fm_iconst (pc := 69) (v := (nI 3)) C dX6_going_69 (by decide) ?_
    refine fm_icmp_ne (pc := 70) (tgt := 84) C dX6_going_70 (by decide) (fun c10 => ?_) (fun c10 => ?_)
    · refine fm_less (lv' := [(0, .ref (G.2.2.1 58)), (1, .int v1), (3, .int v3), (4, .int ((v2 + v1)))]) (by repeat (first | exact trivial | refine ⟨rfl, ?_⟩)) ?_
      exact j_X6_going_73_ C hF 
    · refine fm_less (lv' := [(1, .int v1), (3, .int v3), (4, .int ((v2 + v1)))]) (by repeat (first | exact trivial | refine ⟨rfl, ?_⟩)) ?_
      exact j_X6_going_84_ C hF 
set_option maxHeartbeats 4000000 in
set_option maxRecDepth 100000 in
theorem j_X6_going_46_ {X : fm_X} {G : fm_G} {l : Launch} {v1 : Int32} {v2 : Int32} {v3 : Int32} {μ : fm_I} {ν : fm_L} (C : fm_C X G l cX6_going RX6 5 (some .int) 2 33) {F : (Int32 × fm_I × fm_L) → State → Prop} (hF : F = fm_Qi X G)  : fm_J X G 5 F (m_X6_going_46 v1 v2 v3 μ ν) μ ν 46 [(0, .ref (G.2.2.1 58)), (1, .int v1), (2, .int v2), (3, .int v3)] [] := by
  unfold m_X6_going_46
  refine fm_aload_n (pc := 46) C dX6_going_46 rfl rfl ?_
  refine fm_bipush (pc := 47) (v := (nI 20)) C dX6_going_47 (by decide) ?_
  refine fm_bind (fun r49 e49 => ?_)
  refine fm_cVv (pc := 49) C (t_X6_body e49) ok_X6_body ⟨by decide, rfl⟩ m_ml_X6_237 dX6_going_49 ⟨Nat.le_of_ble_eq_true rfl, Nat.le_of_ble_eq_true rfl⟩ rfl rfl (Nat.le_of_ble_eq_true rfl) ?_
  refine fm_less (lv' := [(0, .ref (G.2.2.1 58)), (1, .int v1), (2, .int v2), (3, .int v3)]) (by repeat (first | exact trivial | refine ⟨rfl, ?_⟩)) ?_
  exact j_X6_going_52_ C hF 
set_option maxHeartbeats 4000000 in
set_option maxRecDepth 100000 in
theorem j_X6_going_36_ {X : fm_X} {G : fm_G} {l : Launch} {v1 : Int32} {v2 : Int32} {v3 : Int32} {μ : fm_I} {ν : fm_L} (C : fm_C X G l cX6_going RX6 5 (some .int) 2 33) {F : (Int32 × fm_I × fm_L) → State → Prop} (hF : F = fm_Qi X G)  : fm_J X G 5 F (m_X6_going_36 v1 v2 v3 μ ν) μ ν 36 [(0, .ref (G.2.2.1 58)), (1, .int v1), (2, .int v2), (3, .int v3)] [] := by
  unfold m_X6_going_36
  refine fm_iload_n (pc := 36) C dX6_going_36 rfl rfl ?_
  refine fm_iconst (pc := 37) (v := (nI 1)) C dX6_going_37 (by decide) ?_
  refine fm_icmp_eq (pc := 38) (tgt := 46) C dX6_going_38 (by decide) (fun c4 => ?_) (fun c4 => ?_)
  · refine fm_less (lv' := [(0, .ref (G.2.2.1 58)), (1, .int v1), (2, .int v2), (3, .int v3)]) (by repeat (first | exact trivial | refine ⟨rfl, ?_⟩)) ?_
    exact j_X6_going_46_ C hF 
  · refine fm_iload_n (pc := 41) C dX6_going_41 rfl rfl ?_
    refine fm_iconst (pc := 42) (v := (nI 3)) C dX6_going_42 (by decide) ?_
    refine fm_icmp_ne (pc := 43) (tgt := 52) C dX6_going_43 (by decide) (fun c11 => ?_) (fun c11 => ?_)
    · refine fm_less (lv' := [(0, .ref (G.2.2.1 58)), (1, .int v1), (2, .int v2), (3, .int v3)]) (by repeat (first | exact trivial | refine ⟨rfl, ?_⟩)) ?_
      exact j_X6_going_46_ C hF 
    · refine fm_less (lv' := [(0, .ref (G.2.2.1 58)), (1, .int v1), (2, .int v2), (3, .int v3)]) (by repeat (first | exact trivial | refine ⟨rfl, ?_⟩)) ?_
      exact j_X6_going_52_ C hF 
set_option maxHeartbeats 4000000 in
set_option maxRecDepth 100000 in
theorem j_X6_going_30_ {X : fm_X} {G : fm_G} {l : Launch} {v1 : Int32} {v2 : Int32} {v3 : Int32} {μ : fm_I} {ν : fm_L} (C : fm_C X G l cX6_going RX6 5 (some .int) 2 33) {F : (Int32 × fm_I × fm_L) → State → Prop} (hF : F = fm_Qi X G)  : fm_J X G 5 F (m_X6_going_30 v1 v2 v3 μ ν) μ ν 30 [(0, .ref (G.2.2.1 58)), (1, .int v1), (2, .int v2), (3, .int v3)] [] := by
  unfold m_X6_going_30
  refine fm_aload_n (pc := 30) C dX6_going_30 rfl rfl ?_
  refine fm_bipush (pc := 31) (v := (nI 51)) C dX6_going_31 (by decide) ?_
  refine fm_bind (fun r33 e33 => ?_)
  refine fm_cVv (pc := 33) C (t_X6_body e33) ok_X6_body ⟨by decide, rfl⟩ m_ml_X6_237 dX6_going_33 ⟨Nat.le_of_ble_eq_true rfl, Nat.le_of_ble_eq_true rfl⟩ rfl rfl (Nat.le_of_ble_eq_true rfl) ?_
  refine fm_less (lv' := [(0, .ref (G.2.2.1 58)), (1, .int v1), (2, .int v2), (3, .int v3)]) (by repeat (first | exact trivial | refine ⟨rfl, ?_⟩)) ?_
  exact j_X6_going_36_ C hF 
set_option maxHeartbeats 4000000 in
set_option maxRecDepth 100000 in
theorem j_X6_going_19_ {X : fm_X} {G : fm_G} {l : Launch} {v1 : Int32} {v2 : Int32} {v3 : Int32} {μ : fm_I} {ν : fm_L} (C : fm_C X G l cX6_going RX6 5 (some .int) 2 33) {F : (Int32 × fm_I × fm_L) → State → Prop} (hF : F = fm_Qi X G)  : fm_J X G 5 F (m_X6_going_19 v1 v2 v3 μ ν) μ ν 19 [(0, .ref (G.2.2.1 58)), (1, .int v1), (2, .int v2), (3, .int v3)] [] := by
  unfold m_X6_going_19
  refine fm_iload_n (pc := 19) C dX6_going_19 rfl rfl ?_
  refine fm_iconst (pc := 20) (v := (nI 4)) C dX6_going_20 (by decide) ?_
  refine fm_icmp_eq (pc := 21) (tgt := 30) C dX6_going_21 (by decide) (fun c3 => ?_) (fun c3 => ?_)
  · refine fm_less (lv' := [(0, .ref (G.2.2.1 58)), (1, .int v1), (2, .int v2), (3, .int v3)]) (by repeat (first | exact trivial | refine ⟨rfl, ?_⟩)) ?_
    exact j_X6_going_30_ C hF 
  · refine fm_iload_n (pc := 24) C dX6_going_24 rfl rfl ?_
    refine fm_bipush (pc := 25) (v := (nI 6)) C dX6_going_25 (by decide) ?_
    refine fm_icmp_ne (pc := 27) (tgt := 36) C dX6_going_27 (by decide) (fun c12 => ?_) (fun c12 => ?_)
    · refine fm_less (lv' := [(0, .ref (G.2.2.1 58)), (1, .int v1), (2, .int v2), (3, .int v3)]) (by repeat (first | exact trivial | refine ⟨rfl, ?_⟩)) ?_
      exact j_X6_going_30_ C hF 
    · refine fm_less (lv' := [(0, .ref (G.2.2.1 58)), (1, .int v1), (2, .int v2), (3, .int v3)]) (by repeat (first | exact trivial | refine ⟨rfl, ?_⟩)) ?_
      exact j_X6_going_36_ C hF 
set_option maxHeartbeats 4000000 in
set_option maxRecDepth 100000 in
theorem j_X6_going {X : fm_X} {G : fm_G} {l : Launch} {v1 : Int32} {v2 : Int32} {μ : fm_I} {ν : fm_L} (C : fm_C X G l cX6_going RX6 5 (some .int) 2 33) {F : (Int32 × fm_I × fm_L) → State → Prop} (hF : F = fm_Qi X G) : fm_J X G 5 F (m_X6_going v1 v2 μ ν) μ ν 0 [(0, .ref (G.2.2.1 58)), (1, .int v1), (2, .int v2)] [] := by
  unfold m_X6_going
  refine fm_aload_n (pc := 0) C dX6_going_0 rfl rfl ?_
  refine g6_kind (pc := 1) C (by decide) dX6_going_1 m_fl_X6_20 ?_
  refine fm_iload_n (pc := 4) C dX6_going_4 rfl rfl ?_
  refine fm_guard (fun h1 => ?_)
  refine fm_iald (pc := 5) C (by decide) h1 dX6_going_5 ?_
  refine fm_istore_n (pc := 6) C dX6_going_6 rfl (by decide) rfl ?_
  refine fm_iload_n (pc := 7) C dX6_going_7 rfl rfl ?_
  refine fm_bipush (pc := 8) (v := (nI 6)) C dX6_going_8 (by decide) ?_
  refine fm_icmp_ne (pc := 10) (tgt := 19) C dX6_going_10 (by decide) (fun c2 => ?_) (fun c2 => ?_)
  · refine fm_aload_n (pc := 13) C dX6_going_13 rfl rfl ?_
    refine fm_bipush (pc := 14) (v := (nI 70)) C dX6_going_14 (by decide) ?_
    refine fm_bind (fun r16 e16 => ?_)
    refine fm_cVv (pc := 16) C (t_X6_body e16) ok_X6_body ⟨by decide, rfl⟩ m_ml_X6_237 dX6_going_16 ⟨Nat.le_of_ble_eq_true rfl, Nat.le_of_ble_eq_true rfl⟩ rfl rfl (Nat.le_of_ble_eq_true rfl) ?_
    refine fm_less (lv' := [(0, .ref (G.2.2.1 58)), (1, .int v1), (2, .int v2), (3, .int ((μ 60 v1.toNatClampNeg)))]) (by repeat (first | exact trivial | refine ⟨rfl, ?_⟩)) ?_
    exact j_X6_going_19_ C hF 
  · refine fm_less (lv' := [(0, .ref (G.2.2.1 58)), (1, .int v1), (2, .int v2), (3, .int ((μ 60 v1.toNatClampNeg)))]) (by repeat (first | exact trivial | refine ⟨rfl, ?_⟩)) ?_
    exact j_X6_going_19_ C hF 
theorem t_X6_going {l : Launch} {G : fm_G} {v1 : Int32} {v2 : Int32} {μ : fm_I} {ν : fm_L} {r : Int32 × fm_I × fm_L} (h : m_X6_going v1 v2 μ ν = some r) : fm_Mi l G yX6_going cX6_going 5 (some .int) 2 33 [.ref (G.2.2.1 58), .int v1, .int v2] μ ν r := fm_Mi_of (by decide +kernel) (Nat.le_of_ble_eq_true rfl) (fun _ C => j_X6_going C rfl r h)
theorem dX6_turning_0 : decode cX6_turning 0 = .ok (.aload_n 0, 1) := by decide +kernel
theorem dX6_turning_1 : decode cX6_turning 1 = .ok (.getfield 20, 3) := by decide +kernel
theorem dX6_turning_4 : decode cX6_turning 4 = .ok (.iload_n 1, 1) := by decide +kernel
theorem dX6_turning_5 : decode cX6_turning 5 = .ok (.iaload, 1) := by decide +kernel
theorem dX6_turning_6 : decode cX6_turning 6 = .ok (.istore_n 3, 1) := by decide +kernel
theorem dX6_turning_7 : decode cX6_turning 7 = .ok (.iload_n 2, 1) := by decide +kernel
theorem dX6_turning_8 : decode cX6_turning 8 = .ok (.istore 4, 2) := by decide +kernel
theorem dX6_turning_10 : decode cX6_turning 10 = .ok (.iload_n 3, 1) := by decide +kernel
theorem dX6_turning_11 : decode cX6_turning 11 = .ok (.iconst 3, 1) := by decide +kernel
theorem dX6_turning_12 : decode cX6_turning 12 = .ok (.if_icmp .ne 14, 3) := by decide +kernel
theorem dX6_turning_15 : decode cX6_turning 15 = .ok (.aload_n 0, 1) := by decide +kernel
theorem dX6_turning_16 : decode cX6_turning 16 = .ok (.bipush 40, 2) := by decide +kernel
theorem dX6_turning_18 : decode cX6_turning 18 = .ok (.invokevirtual 237, 3) := by decide +kernel
theorem dX6_turning_21 : decode cX6_turning 21 = .ok (.iload_n 2, 1) := by decide +kernel
theorem dX6_turning_22 : decode cX6_turning 22 = .ok (.iconst 1, 1) := by decide +kernel
theorem dX6_turning_23 : decode cX6_turning 23 = .ok (.iadd, 1) := by decide +kernel
theorem dX6_turning_24 : decode cX6_turning 24 = .ok (.istore 4, 2) := by decide +kernel
theorem dX6_turning_26 : decode cX6_turning 26 = .ok (.iload_n 3, 1) := by decide +kernel
theorem dX6_turning_27 : decode cX6_turning 27 = .ok (.bipush 6, 2) := by decide +kernel
theorem dX6_turning_29 : decode cX6_turning 29 = .ok (.if_icmp .ne 19, 3) := by decide +kernel
theorem dX6_turning_32 : decode cX6_turning 32 = .ok (.aload_n 0, 1) := by decide +kernel
theorem dX6_turning_33 : decode cX6_turning 33 = .ok (.bipush 71, 2) := by decide +kernel
theorem dX6_turning_35 : decode cX6_turning 35 = .ok (.invokevirtual 237, 3) := by decide +kernel
theorem dX6_turning_38 : decode cX6_turning 38 = .ok (.iload_n 2, 1) := by decide +kernel
theorem dX6_turning_39 : decode cX6_turning 39 = .ok (.aload_n 0, 1) := by decide +kernel
theorem dX6_turning_40 : decode cX6_turning 40 = .ok (.getfield 32, 3) := by decide +kernel
theorem dX6_turning_43 : decode cX6_turning 43 = .ok (.iload_n 1, 1) := by decide +kernel
theorem dX6_turning_44 : decode cX6_turning 44 = .ok (.iaload, 1) := by decide +kernel
theorem dX6_turning_45 : decode cX6_turning 45 = .ok (.isub, 1) := by decide +kernel
theorem dX6_turning_46 : decode cX6_turning 46 = .ok (.istore 4, 2) := by decide +kernel
theorem dX6_turning_48 : decode cX6_turning 48 = .ok (.iload_n 3, 1) := by decide +kernel
theorem dX6_turning_49 : decode cX6_turning 49 = .ok (.iconst 2, 1) := by decide +kernel
theorem dX6_turning_50 : decode cX6_turning 50 = .ok (.if_icmp .eq 8, 3) := by decide +kernel
theorem dX6_turning_53 : decode cX6_turning 53 = .ok (.iload_n 3, 1) := by decide +kernel
theorem dX6_turning_54 : decode cX6_turning 54 = .ok (.iconst 5, 1) := by decide +kernel
theorem dX6_turning_55 : decode cX6_turning 55 = .ok (.if_icmp .ne 7, 3) := by decide +kernel
theorem dX6_turning_58 : decode cX6_turning 58 = .ok (.iconst 1, 1) := by decide +kernel
theorem dX6_turning_59 : decode cX6_turning 59 = .ok (.goto 4, 3) := by decide +kernel
theorem dX6_turning_62 : decode cX6_turning 62 = .ok (.iconst 0, 1) := by decide +kernel
theorem dX6_turning_63 : decode cX6_turning 63 = .ok (.istore 5, 2) := by decide +kernel
theorem dX6_turning_65 : decode cX6_turning 65 = .ok (.iload 5, 2) := by decide +kernel
theorem dX6_turning_67 : decode cX6_turning 67 = .ok (.ifCond .eq 9, 3) := by decide +kernel
theorem dX6_turning_70 : decode cX6_turning 70 = .ok (.aload_n 0, 1) := by decide +kernel
theorem dX6_turning_71 : decode cX6_turning 71 = .ok (.bipush 30, 2) := by decide +kernel
theorem dX6_turning_73 : decode cX6_turning 73 = .ok (.invokevirtual 237, 3) := by decide +kernel
theorem dX6_turning_76 : decode cX6_turning 76 = .ok (.aload_n 0, 1) := by decide +kernel
theorem dX6_turning_77 : decode cX6_turning 77 = .ok (.bipush 11, 2) := by decide +kernel
theorem dX6_turning_79 : decode cX6_turning 79 = .ok (.invokevirtual 237, 3) := by decide +kernel
theorem dX6_turning_82 : decode cX6_turning 82 = .ok (.aload_n 0, 1) := by decide +kernel
theorem dX6_turning_83 : decode cX6_turning 83 = .ok (.iload_n 1, 1) := by decide +kernel
theorem dX6_turning_84 : decode cX6_turning 84 = .ok (.iload 4, 2) := by decide +kernel
theorem dX6_turning_86 : decode cX6_turning 86 = .ok (.invokevirtual 240, 3) := by decide +kernel
theorem dX6_turning_89 : decode cX6_turning 89 = .ok (.iconst 2, 1) := by decide +kernel
theorem dX6_turning_90 : decode cX6_turning 90 = .ok (.imul, 1) := by decide +kernel
theorem dX6_turning_91 : decode cX6_turning 91 = .ok (.istore 6, 2) := by decide +kernel
theorem dX6_turning_93 : decode cX6_turning 93 = .ok (.iload 5, 2) := by decide +kernel
theorem dX6_turning_95 : decode cX6_turning 95 = .ok (.ifCond .eq 10, 3) := by decide +kernel
theorem dX6_turning_98 : decode cX6_turning 98 = .ok (.iload 6, 2) := by decide +kernel
theorem dX6_turning_100 : decode cX6_turning 100 = .ok (.iconst 3, 1) := by decide +kernel
theorem dX6_turning_101 : decode cX6_turning 101 = .ok (.imul, 1) := by decide +kernel
theorem dX6_turning_102 : decode cX6_turning 102 = .ok (.goto 5, 3) := by decide +kernel
theorem dX6_turning_105 : decode cX6_turning 105 = .ok (.iload 6, 2) := by decide +kernel
theorem dX6_turning_107 : decode cX6_turning 107 = .ok (.ireturn, 1) := by decide +kernel
def m_X6_turning_76 (v1 : Int32) (v4 : Int32) (v5 : Int32) (μ : fm_I) (ν : fm_L) : Option (Int32 × fm_I × fm_L) :=
  (m_X6_body ((nI 11)) μ ν).bind (fun r79 => (m_X6_going v1 v4 r79.1 r79.2).bind (fun r86 => if v5 = 0 then some (((r86.1 * ((nI 2))), r86.2.1, r86.2.2)) else some (((((r86.1 * ((nI 2)))) * ((nI 3))), r86.2.1, r86.2.2))))
def m_X6_turning_63 (v1 : Int32) (v4 : Int32) (s0 : Int32) (μ : fm_I) (ν : fm_L) : Option (Int32 × fm_I × fm_L) :=
  if s0 = 0 then m_X6_turning_76 v1 v4 s0 μ ν else (m_X6_body ((nI 30)) μ ν).bind (fun r73 => m_X6_turning_76 v1 v4 s0 r73.1 r73.2)
def m_X6_turning_58 (v1 : Int32) (v4 : Int32) (μ : fm_I) (ν : fm_L) : Option (Int32 × fm_I × fm_L) :=
  m_X6_turning_63 v1 v4 ((nI 1)) μ ν
def m_X6_turning_48 (v1 : Int32) (v3 : Int32) (v4 : Int32) (μ : fm_I) (ν : fm_L) : Option (Int32 × fm_I × fm_L) :=
  if v3 = (nI 2) then m_X6_turning_58 v1 v4 μ ν else if v3 = (nI 5) then m_X6_turning_58 v1 v4 μ ν else m_X6_turning_63 v1 v4 ((nI 0)) μ ν
def m_X6_turning_26 (v1 : Int32) (v2 : Int32) (v3 : Int32) (v4 : Int32) (μ : fm_I) (ν : fm_L) : Option (Int32 × fm_I × fm_L) :=
  if v3 = (nI 6) then (m_X6_body ((nI 71)) μ ν).bind (fun r35 => fm_g (fm_in v1 (fm_n 64)) (m_X6_turning_48 v1 v3 ((v2 - ((r35.1 64 v1.toNatClampNeg)))) r35.1 r35.2)) else m_X6_turning_48 v1 v3 v4 μ ν
def m_X6_turning (v1 : Int32) (v2 : Int32) (μ : fm_I) (ν : fm_L) : Option (Int32 × fm_I × fm_L) :=
  fm_g (fm_in v1 (fm_n 60)) (if (μ 60 v1.toNatClampNeg) = (nI 3) then (m_X6_body ((nI 40)) μ ν).bind (fun r18 => m_X6_turning_26 v1 v2 ((μ 60 v1.toNatClampNeg)) ((v2 + ((nI 1)))) r18.1 r18.2) else m_X6_turning_26 v1 v2 ((μ 60 v1.toNatClampNeg)) v2 μ ν)
theorem ok_X6_turning : fm_okV yX6_turning cX6_turning 7 (some .int) 2 := ⟨m_cd_X6_turning, m_im_X6_turning, m_se_X6_X6_turning, m_ini_X6, by decide +kernel, by decide +kernel, by decide +kernel⟩
set_option maxHeartbeats 4000000 in
set_option maxRecDepth 100000 in
theorem j_X6_turning_76_ {X : fm_X} {G : fm_G} {l : Launch} {v1 : Int32} {v4 : Int32} {v5 : Int32} {μ : fm_I} {ν : fm_L} (C : fm_C X G l cX6_turning RX6 7 (some .int) 3 57) {F : (Int32 × fm_I × fm_L) → State → Prop} (hF : F = fm_Qi X G)  : fm_J X G 7 F (m_X6_turning_76 v1 v4 v5 μ ν) μ ν 76 [(0, .ref (G.2.2.1 58)), (1, .int v1), (4, .int v4), (5, .int v5)] [] := by
  unfold m_X6_turning_76
  refine fm_aload_n (pc := 76) C dX6_turning_76 rfl rfl ?_
  refine fm_bipush (pc := 77) (v := (nI 11)) C dX6_turning_77 (by decide) ?_
  refine fm_bind (fun r79 e79 => ?_)
  refine fm_cVv (pc := 79) C (t_X6_body e79) ok_X6_body ⟨by decide, rfl⟩ m_ml_X6_237 dX6_turning_79 ⟨Nat.le_of_ble_eq_true rfl, Nat.le_of_ble_eq_true rfl⟩ rfl rfl (Nat.le_of_ble_eq_true rfl) ?_
  refine fm_aload_n (pc := 82) C dX6_turning_82 rfl rfl ?_
  refine fm_iload_n (pc := 83) C dX6_turning_83 rfl rfl ?_
  refine fm_iload (pc := 84) C dX6_turning_84 rfl ?_
  refine fm_bind (fun r86 e86 => ?_)
  refine fm_cVi (pc := 86) C (t_X6_going e86) ok_X6_going ⟨by decide, rfl⟩ m_ml_X6_240 dX6_turning_86 ⟨Nat.le_of_ble_eq_true rfl, Nat.le_of_ble_eq_true rfl⟩ rfl rfl (Nat.le_of_ble_eq_true rfl) ?_
  refine fm_iconst (pc := 89) (v := (nI 2)) C dX6_turning_89 (by decide) ?_
  refine fm_imul (pc := 90) C dX6_turning_90 ?_
  refine fm_istore (pc := 91) C dX6_turning_91 (by decide) rfl ?_
  refine fm_iload (pc := 93) C dX6_turning_93 rfl ?_
  refine fm_if_eq (pc := 95) (tgt := 105) C dX6_turning_95 (by decide) (fun c7 => ?_) (fun c7 => ?_)
  · refine fm_iload (pc := 105) C dX6_turning_105 rfl ?_
    exact fm_zret (pc := 107) C hF rfl rfl dX6_turning_107
  · refine fm_iload (pc := 98) C dX6_turning_98 rfl ?_
    refine fm_iconst (pc := 100) (v := (nI 3)) C dX6_turning_100 (by decide) ?_
    refine fm_imul (pc := 101) C dX6_turning_101 ?_
    refine fm_goto (pc := 102) (tgt := 107) C dX6_turning_102 (by decide) ?_
    exact fm_zret (pc := 107) C hF rfl rfl dX6_turning_107
set_option maxHeartbeats 4000000 in
set_option maxRecDepth 100000 in
theorem j_X6_turning_63_ {X : fm_X} {G : fm_G} {l : Launch} {v1 : Int32} {v4 : Int32} {s0 : Int32} {μ : fm_I} {ν : fm_L} (C : fm_C X G l cX6_turning RX6 7 (some .int) 3 57) {F : (Int32 × fm_I × fm_L) → State → Prop} (hF : F = fm_Qi X G)  : fm_J X G 7 F (m_X6_turning_63 v1 v4 s0 μ ν) μ ν 63 [(0, .ref (G.2.2.1 58)), (1, .int v1), (4, .int v4)] [.int s0] := by
  unfold m_X6_turning_63
  refine fm_istore (pc := 63) C dX6_turning_63 (by decide) rfl ?_
  refine fm_iload (pc := 65) C dX6_turning_65 rfl ?_
  refine fm_if_eq (pc := 67) (tgt := 76) C dX6_turning_67 (by decide) (fun c6 => ?_) (fun c6 => ?_)
  · refine fm_less (lv' := [(0, .ref (G.2.2.1 58)), (1, .int v1), (4, .int v4), (5, .int s0)]) (by repeat (first | exact trivial | refine ⟨rfl, ?_⟩)) ?_
    exact j_X6_turning_76_ C hF 
  · refine fm_aload_n (pc := 70) C dX6_turning_70 rfl rfl ?_
    refine fm_bipush (pc := 71) (v := (nI 30)) C dX6_turning_71 (by decide) ?_
    refine fm_bind (fun r73 e73 => ?_)
    refine fm_cVv (pc := 73) C (t_X6_body e73) ok_X6_body ⟨by decide, rfl⟩ m_ml_X6_237 dX6_turning_73 ⟨Nat.le_of_ble_eq_true rfl, Nat.le_of_ble_eq_true rfl⟩ rfl rfl (Nat.le_of_ble_eq_true rfl) ?_
    refine fm_less (lv' := [(0, .ref (G.2.2.1 58)), (1, .int v1), (4, .int v4), (5, .int s0)]) (by repeat (first | exact trivial | refine ⟨rfl, ?_⟩)) ?_
    exact j_X6_turning_76_ C hF 
set_option maxHeartbeats 4000000 in
set_option maxRecDepth 100000 in
theorem j_X6_turning_58_ {X : fm_X} {G : fm_G} {l : Launch} {v1 : Int32} {v4 : Int32} {μ : fm_I} {ν : fm_L} (C : fm_C X G l cX6_turning RX6 7 (some .int) 3 57) {F : (Int32 × fm_I × fm_L) → State → Prop} (hF : F = fm_Qi X G)  : fm_J X G 7 F (m_X6_turning_58 v1 v4 μ ν) μ ν 58 [(0, .ref (G.2.2.1 58)), (1, .int v1), (4, .int v4)] [] := by
  unfold m_X6_turning_58
  refine fm_iconst (pc := 58) (v := (nI 1)) C dX6_turning_58 (by decide) ?_
  refine fm_goto (pc := 59) (tgt := 63) C dX6_turning_59 (by decide) ?_
  refine fm_less (lv' := [(0, .ref (G.2.2.1 58)), (1, .int v1), (4, .int v4)]) (by repeat (first | exact trivial | refine ⟨rfl, ?_⟩)) ?_
  exact j_X6_turning_63_ C hF 
set_option maxHeartbeats 4000000 in
set_option maxRecDepth 100000 in
theorem j_X6_turning_48_ {X : fm_X} {G : fm_G} {l : Launch} {v1 : Int32} {v3 : Int32} {v4 : Int32} {μ : fm_I} {ν : fm_L} (C : fm_C X G l cX6_turning RX6 7 (some .int) 3 57) {F : (Int32 × fm_I × fm_L) → State → Prop} (hF : F = fm_Qi X G)  : fm_J X G 7 F (m_X6_turning_48 v1 v3 v4 μ ν) μ ν 48 [(0, .ref (G.2.2.1 58)), (1, .int v1), (3, .int v3), (4, .int v4)] [] := by
  unfold m_X6_turning_48
  refine fm_iload_n (pc := 48) C dX6_turning_48 rfl rfl ?_
  refine fm_iconst (pc := 49) (v := (nI 2)) C dX6_turning_49 (by decide) ?_
  refine fm_icmp_eq (pc := 50) (tgt := 58) C dX6_turning_50 (by decide) (fun c5 => ?_) (fun c5 => ?_)
  · refine fm_less (lv' := [(0, .ref (G.2.2.1 58)), (1, .int v1), (4, .int v4)]) (by repeat (first | exact trivial | refine ⟨rfl, ?_⟩)) ?_
    exact j_X6_turning_58_ C hF 
  · refine fm_iload_n (pc := 53) C dX6_turning_53 rfl rfl ?_
    refine fm_iconst (pc := 54) (v := (nI 5)) C dX6_turning_54 (by decide) ?_
    refine fm_icmp_ne (pc := 55) (tgt := 62) C dX6_turning_55 (by decide) (fun c8 => ?_) (fun c8 => ?_)
    · refine fm_less (lv' := [(0, .ref (G.2.2.1 58)), (1, .int v1), (4, .int v4)]) (by repeat (first | exact trivial | refine ⟨rfl, ?_⟩)) ?_
      exact j_X6_turning_58_ C hF 
    · refine fm_iconst (pc := 62) (v := (nI 0)) C dX6_turning_62 (by decide) ?_
      refine fm_less (lv' := [(0, .ref (G.2.2.1 58)), (1, .int v1), (4, .int v4)]) (by repeat (first | exact trivial | refine ⟨rfl, ?_⟩)) ?_
      exact j_X6_turning_63_ C hF 
set_option maxHeartbeats 4000000 in
set_option maxRecDepth 100000 in
theorem j_X6_turning_26_ {X : fm_X} {G : fm_G} {l : Launch} {v1 : Int32} {v2 : Int32} {v3 : Int32} {v4 : Int32} {μ : fm_I} {ν : fm_L} (C : fm_C X G l cX6_turning RX6 7 (some .int) 3 57) {F : (Int32 × fm_I × fm_L) → State → Prop} (hF : F = fm_Qi X G)  : fm_J X G 7 F (m_X6_turning_26 v1 v2 v3 v4 μ ν) μ ν 26 [(0, .ref (G.2.2.1 58)), (1, .int v1), (2, .int v2), (3, .int v3), (4, .int v4)] [] := by
  unfold m_X6_turning_26
  refine fm_iload_n (pc := 26) C dX6_turning_26 rfl rfl ?_
  refine fm_bipush (pc := 27) (v := (nI 6)) C dX6_turning_27 (by decide) ?_
  refine fm_icmp_ne (pc := 29) (tgt := 48) C dX6_turning_29 (by decide) (fun c3 => ?_) (fun c3 => ?_)
  · refine fm_aload_n (pc := 32) C dX6_turning_32 rfl rfl ?_
    refine fm_bipush (pc := 33) (v := (nI 71)) C dX6_turning_33 (by decide) ?_
    refine fm_bind (fun r35 e35 => ?_)
    refine fm_cVv (pc := 35) C (t_X6_body e35) ok_X6_body ⟨by decide, rfl⟩ m_ml_X6_237 dX6_turning_35 ⟨Nat.le_of_ble_eq_true rfl, Nat.le_of_ble_eq_true rfl⟩ rfl rfl (Nat.le_of_ble_eq_true rfl) ?_
    refine fm_iload_n (pc := 38) C dX6_turning_38 rfl rfl ?_
    refine fm_aload_n (pc := 39) C dX6_turning_39 rfl rfl ?_
    refine g6_part (pc := 40) C (by decide) dX6_turning_40 m_fl_X6_32 ?_
    refine fm_iload_n (pc := 43) C dX6_turning_43 rfl rfl ?_
    refine fm_guard (fun h4 => ?_)
    refine fm_iald (pc := 44) C (by decide) h4 dX6_turning_44 ?_
    refine fm_isub (pc := 45) C dX6_turning_45 ?_
    refine fm_istore (pc := 46) C dX6_turning_46 (by decide) rfl ?_
    refine fm_less (lv' := [(0, .ref (G.2.2.1 58)), (1, .int v1), (3, .int v3), (4, .int ((v2 - ((r35.1 64 v1.toNatClampNeg)))))]) (by repeat (first | exact trivial | refine ⟨rfl, ?_⟩)) ?_
    exact j_X6_turning_48_ C hF 
  · refine fm_less (lv' := [(0, .ref (G.2.2.1 58)), (1, .int v1), (3, .int v3), (4, .int v4)]) (by repeat (first | exact trivial | refine ⟨rfl, ?_⟩)) ?_
    exact j_X6_turning_48_ C hF 
set_option maxHeartbeats 4000000 in
set_option maxRecDepth 100000 in
theorem j_X6_turning {X : fm_X} {G : fm_G} {l : Launch} {v1 : Int32} {v2 : Int32} {μ : fm_I} {ν : fm_L} (C : fm_C X G l cX6_turning RX6 7 (some .int) 3 57) {F : (Int32 × fm_I × fm_L) → State → Prop} (hF : F = fm_Qi X G) : fm_J X G 7 F (m_X6_turning v1 v2 μ ν) μ ν 0 [(0, .ref (G.2.2.1 58)), (1, .int v1), (2, .int v2)] [] := by
  unfold m_X6_turning
  refine fm_aload_n (pc := 0) C dX6_turning_0 rfl rfl ?_
  refine g6_kind (pc := 1) C (by decide) dX6_turning_1 m_fl_X6_20 ?_
  refine fm_iload_n (pc := 4) C dX6_turning_4 rfl rfl ?_
  refine fm_guard (fun h1 => ?_)
  refine fm_iald (pc := 5) C (by decide) h1 dX6_turning_5 ?_
  refine fm_istore_n (pc := 6) C dX6_turning_6 rfl (by decide) rfl ?_
  refine fm_iload_n (pc := 7) C dX6_turning_7 rfl rfl ?_
  refine fm_istore (pc := 8) C dX6_turning_8 (by decide) rfl ?_
  refine fm_iload_n (pc := 10) C dX6_turning_10 rfl rfl ?_
  refine fm_iconst (pc := 11) (v := (nI 3)) C dX6_turning_11 (by decide) ?_
  refine fm_icmp_ne (pc := 12) (tgt := 26) C dX6_turning_12 (by decide) (fun c2 => ?_) (fun c2 => ?_)
  · refine fm_aload_n (pc := 15) C dX6_turning_15 rfl rfl ?_
    refine fm_bipush (pc := 16) (v := (nI 40)) C dX6_turning_16 (by decide) ?_
    refine fm_bind (fun r18 e18 => ?_)
    refine fm_cVv (pc := 18) C (t_X6_body e18) ok_X6_body ⟨by decide, rfl⟩ m_ml_X6_237 dX6_turning_18 ⟨Nat.le_of_ble_eq_true rfl, Nat.le_of_ble_eq_true rfl⟩ rfl rfl (Nat.le_of_ble_eq_true rfl) ?_
    refine fm_iload_n (pc := 21) C dX6_turning_21 rfl rfl ?_
    refine fm_iconst (pc := 22) (v := (nI 1)) C dX6_turning_22 (by decide) ?_
    refine fm_iadd (pc := 23) C dX6_turning_23 ?_
    refine fm_istore (pc := 24) C dX6_turning_24 (by decide) rfl ?_
    refine fm_less (lv' := [(0, .ref (G.2.2.1 58)), (1, .int v1), (2, .int v2), (3, .int ((μ 60 v1.toNatClampNeg))), (4, .int ((v2 + ((nI 1)))))]) (by repeat (first | exact trivial | refine ⟨rfl, ?_⟩)) ?_
    exact j_X6_turning_26_ C hF 
  · refine fm_less (lv' := [(0, .ref (G.2.2.1 58)), (1, .int v1), (2, .int v2), (3, .int ((μ 60 v1.toNatClampNeg))), (4, .int v2)]) (by repeat (first | exact trivial | refine ⟨rfl, ?_⟩)) ?_
    exact j_X6_turning_26_ C hF 
theorem t_X6_turning {l : Launch} {G : fm_G} {v1 : Int32} {v2 : Int32} {μ : fm_I} {ν : fm_L} {r : Int32 × fm_I × fm_L} (h : m_X6_turning v1 v2 μ ν = some r) : fm_Mi l G yX6_turning cX6_turning 7 (some .int) 3 57 [.ref (G.2.2.1 58), .int v1, .int v2] μ ν r := fm_Mi_of (by decide +kernel) (Nat.le_of_ble_eq_true rfl) (fun _ C => j_X6_turning C rfl r h)
theorem dX6_hooking_0 : decode cX6_hooking 0 = .ok (.aload_n 0, 1) := by decide +kernel
theorem dX6_hooking_1 : decode cX6_hooking 1 = .ok (.getfield 20, 3) := by decide +kernel
theorem dX6_hooking_4 : decode cX6_hooking 4 = .ok (.iload_n 1, 1) := by decide +kernel
theorem dX6_hooking_5 : decode cX6_hooking 5 = .ok (.iaload, 1) := by decide +kernel
theorem dX6_hooking_6 : decode cX6_hooking 6 = .ok (.istore_n 3, 1) := by decide +kernel
theorem dX6_hooking_7 : decode cX6_hooking 7 = .ok (.iload_n 3, 1) := by decide +kernel
theorem dX6_hooking_8 : decode cX6_hooking 8 = .ok (.iconst 4, 1) := by decide +kernel
theorem dX6_hooking_9 : decode cX6_hooking 9 = .ok (.if_icmp .eq 9, 3) := by decide +kernel
theorem dX6_hooking_12 : decode cX6_hooking 12 = .ok (.iload_n 3, 1) := by decide +kernel
theorem dX6_hooking_13 : decode cX6_hooking 13 = .ok (.bipush 6, 2) := by decide +kernel
theorem dX6_hooking_15 : decode cX6_hooking 15 = .ok (.if_icmp .ne 9, 3) := by decide +kernel
theorem dX6_hooking_18 : decode cX6_hooking 18 = .ok (.aload_n 0, 1) := by decide +kernel
theorem dX6_hooking_19 : decode cX6_hooking 19 = .ok (.bipush 50, 2) := by decide +kernel
theorem dX6_hooking_21 : decode cX6_hooking 21 = .ok (.invokevirtual 237, 3) := by decide +kernel
theorem dX6_hooking_24 : decode cX6_hooking 24 = .ok (.iload_n 3, 1) := by decide +kernel
theorem dX6_hooking_25 : decode cX6_hooking 25 = .ok (.iconst 5, 1) := by decide +kernel
theorem dX6_hooking_26 : decode cX6_hooking 26 = .ok (.if_icmp .ne 9, 3) := by decide +kernel
theorem dX6_hooking_29 : decode cX6_hooking 29 = .ok (.aload_n 0, 1) := by decide +kernel
theorem dX6_hooking_30 : decode cX6_hooking 30 = .ok (.bipush 60, 2) := by decide +kernel
theorem dX6_hooking_32 : decode cX6_hooking 32 = .ok (.invokevirtual 237, 3) := by decide +kernel
theorem dX6_hooking_35 : decode cX6_hooking 35 = .ok (.aload_n 0, 1) := by decide +kernel
theorem dX6_hooking_36 : decode cX6_hooking 36 = .ok (.bipush 12, 2) := by decide +kernel
theorem dX6_hooking_38 : decode cX6_hooking 38 = .ok (.invokevirtual 237, 3) := by decide +kernel
theorem dX6_hooking_41 : decode cX6_hooking 41 = .ok (.aload_n 0, 1) := by decide +kernel
theorem dX6_hooking_42 : decode cX6_hooking 42 = .ok (.iload_n 1, 1) := by decide +kernel
theorem dX6_hooking_43 : decode cX6_hooking 43 = .ok (.iload_n 2, 1) := by decide +kernel
theorem dX6_hooking_44 : decode cX6_hooking 44 = .ok (.invokevirtual 243, 3) := by decide +kernel
theorem dX6_hooking_47 : decode cX6_hooking 47 = .ok (.istore 4, 2) := by decide +kernel
theorem dX6_hooking_49 : decode cX6_hooking 49 = .ok (.iload 4, 2) := by decide +kernel
theorem dX6_hooking_51 : decode cX6_hooking 51 = .ok (.aload_n 0, 1) := by decide +kernel
theorem dX6_hooking_52 : decode cX6_hooking 52 = .ok (.iload_n 1, 1) := by decide +kernel
theorem dX6_hooking_53 : decode cX6_hooking 53 = .ok (.iload_n 2, 1) := by decide +kernel
theorem dX6_hooking_54 : decode cX6_hooking 54 = .ok (.aload_n 0, 1) := by decide +kernel
theorem dX6_hooking_55 : decode cX6_hooking 55 = .ok (.getfield 32, 3) := by decide +kernel
theorem dX6_hooking_58 : decode cX6_hooking 58 = .ok (.iload_n 1, 1) := by decide +kernel
theorem dX6_hooking_59 : decode cX6_hooking 59 = .ok (.iaload, 1) := by decide +kernel
theorem dX6_hooking_60 : decode cX6_hooking 60 = .ok (.isub, 1) := by decide +kernel
theorem dX6_hooking_61 : decode cX6_hooking 61 = .ok (.invokevirtual 240, 3) := by decide +kernel
theorem dX6_hooking_64 : decode cX6_hooking 64 = .ok (.ixor, 1) := by decide +kernel
theorem dX6_hooking_65 : decode cX6_hooking 65 = .ok (.istore 4, 2) := by decide +kernel
theorem dX6_hooking_67 : decode cX6_hooking 67 = .ok (.iload_n 3, 1) := by decide +kernel
theorem dX6_hooking_68 : decode cX6_hooking 68 = .ok (.iconst 4, 1) := by decide +kernel
theorem dX6_hooking_69 : decode cX6_hooking 69 = .ok (.if_icmp .eq 9, 3) := by decide +kernel
theorem dX6_hooking_72 : decode cX6_hooking 72 = .ok (.iload_n 3, 1) := by decide +kernel
theorem dX6_hooking_73 : decode cX6_hooking 73 = .ok (.bipush 6, 2) := by decide +kernel
theorem dX6_hooking_75 : decode cX6_hooking 75 = .ok (.if_icmp .ne 9, 3) := by decide +kernel
theorem dX6_hooking_78 : decode cX6_hooking 78 = .ok (.iload 4, 2) := by decide +kernel
theorem dX6_hooking_80 : decode cX6_hooking 80 = .ok (.ineg, 1) := by decide +kernel
theorem dX6_hooking_81 : decode cX6_hooking 81 = .ok (.goto 17, 3) := by decide +kernel
theorem dX6_hooking_84 : decode cX6_hooking 84 = .ok (.iload_n 3, 1) := by decide +kernel
theorem dX6_hooking_85 : decode cX6_hooking 85 = .ok (.iconst 5, 1) := by decide +kernel
theorem dX6_hooking_86 : decode cX6_hooking 86 = .ok (.if_icmp .ne 10, 3) := by decide +kernel
theorem dX6_hooking_89 : decode cX6_hooking 89 = .ok (.iload 4, 2) := by decide +kernel
theorem dX6_hooking_91 : decode cX6_hooking 91 = .ok (.iconst 5, 1) := by decide +kernel
theorem dX6_hooking_92 : decode cX6_hooking 92 = .ok (.ixor, 1) := by decide +kernel
theorem dX6_hooking_93 : decode cX6_hooking 93 = .ok (.goto 5, 3) := by decide +kernel
theorem dX6_hooking_96 : decode cX6_hooking 96 = .ok (.iload 4, 2) := by decide +kernel
theorem dX6_hooking_98 : decode cX6_hooking 98 = .ok (.ireturn, 1) := by decide +kernel
def m_X6_hooking_78 (v4 : Int32) (μ : fm_I) (ν : fm_L) : Option (Int32 × fm_I × fm_L) :=
  some (((-v4), μ, ν))
def m_X6_hooking_35 (v1 : Int32) (v2 : Int32) (v3 : Int32) (μ : fm_I) (ν : fm_L) : Option (Int32 × fm_I × fm_L) :=
  (m_X6_body ((nI 12)) μ ν).bind (fun r38 => (m_X6_turning v1 v2 r38.1 r38.2).bind (fun r44 => fm_g (fm_in v1 (fm_n 64)) ((m_X6_going v1 ((v2 - ((r44.2.1 64 v1.toNatClampNeg)))) r44.2.1 r44.2.2).bind (fun r61 => if v3 = (nI 4) then m_X6_hooking_78 ((r44.1 ^^^ r61.1)) r61.2.1 r61.2.2 else if v3 = (nI 6) then m_X6_hooking_78 ((r44.1 ^^^ r61.1)) r61.2.1 r61.2.2 else if v3 = (nI 5) then some (((((r44.1 ^^^ r61.1)) ^^^ ((nI 5))), r61.2.1, r61.2.2)) else some (((r44.1 ^^^ r61.1), r61.2.1, r61.2.2))))))
def m_X6_hooking_24 (v1 : Int32) (v2 : Int32) (v3 : Int32) (μ : fm_I) (ν : fm_L) : Option (Int32 × fm_I × fm_L) :=
  if v3 = (nI 5) then (m_X6_body ((nI 60)) μ ν).bind (fun r32 => m_X6_hooking_35 v1 v2 v3 r32.1 r32.2) else m_X6_hooking_35 v1 v2 v3 μ ν
def m_X6_hooking_18 (v1 : Int32) (v2 : Int32) (v3 : Int32) (μ : fm_I) (ν : fm_L) : Option (Int32 × fm_I × fm_L) :=
  (m_X6_body ((nI 50)) μ ν).bind (fun r21 => m_X6_hooking_24 v1 v2 v3 r21.1 r21.2)
def m_X6_hooking (v1 : Int32) (v2 : Int32) (μ : fm_I) (ν : fm_L) : Option (Int32 × fm_I × fm_L) :=
  fm_g (fm_in v1 (fm_n 60)) (if (μ 60 v1.toNatClampNeg) = (nI 4) then m_X6_hooking_18 v1 v2 ((μ 60 v1.toNatClampNeg)) μ ν else if (μ 60 v1.toNatClampNeg) = (nI 6) then m_X6_hooking_18 v1 v2 ((μ 60 v1.toNatClampNeg)) μ ν else m_X6_hooking_24 v1 v2 ((μ 60 v1.toNatClampNeg)) μ ν)
theorem ok_X6_hooking : fm_okV yX6_hooking cX6_hooking 5 (some .int) 2 := ⟨m_cd_X6_hooking, m_im_X6_hooking, m_se_X6_X6_hooking, m_ini_X6, by decide +kernel, by decide +kernel, by decide +kernel⟩
set_option maxHeartbeats 4000000 in
set_option maxRecDepth 100000 in
theorem j_X6_hooking_78_ {X : fm_X} {G : fm_G} {l : Launch} {v4 : Int32} {μ : fm_I} {ν : fm_L} (C : fm_C X G l cX6_hooking RX6 5 (some .int) 4 83) {F : (Int32 × fm_I × fm_L) → State → Prop} (hF : F = fm_Qi X G)  : fm_J X G 5 F (m_X6_hooking_78 v4 μ ν) μ ν 78 [(4, .int v4)] [] := by
  unfold m_X6_hooking_78
  refine fm_iload (pc := 78) C dX6_hooking_78 rfl ?_
  refine fm_ineg (pc := 80) C dX6_hooking_80 ?_
  refine fm_goto (pc := 81) (tgt := 98) C dX6_hooking_81 (by decide) ?_
  exact fm_zret (pc := 98) C hF rfl rfl dX6_hooking_98
set_option maxHeartbeats 4000000 in
set_option maxRecDepth 100000 in
theorem j_X6_hooking_35_ {X : fm_X} {G : fm_G} {l : Launch} {v1 : Int32} {v2 : Int32} {v3 : Int32} {μ : fm_I} {ν : fm_L} (C : fm_C X G l cX6_hooking RX6 5 (some .int) 4 83) {F : (Int32 × fm_I × fm_L) → State → Prop} (hF : F = fm_Qi X G)  : fm_J X G 5 F (m_X6_hooking_35 v1 v2 v3 μ ν) μ ν 35 [(0, .ref (G.2.2.1 58)), (1, .int v1), (2, .int v2), (3, .int v3)] [] := by
  unfold m_X6_hooking_35
  refine fm_aload_n (pc := 35) C dX6_hooking_35 rfl rfl ?_
  refine fm_bipush (pc := 36) (v := (nI 12)) C dX6_hooking_36 (by decide) ?_
  refine fm_bind (fun r38 e38 => ?_)
  refine fm_cVv (pc := 38) C (t_X6_body e38) ok_X6_body ⟨by decide, rfl⟩ m_ml_X6_237 dX6_hooking_38 ⟨Nat.le_of_ble_eq_true rfl, Nat.le_of_ble_eq_true rfl⟩ rfl rfl (Nat.le_of_ble_eq_true rfl) ?_
  refine fm_aload_n (pc := 41) C dX6_hooking_41 rfl rfl ?_
  refine fm_iload_n (pc := 42) C dX6_hooking_42 rfl rfl ?_
  refine fm_iload_n (pc := 43) C dX6_hooking_43 rfl rfl ?_
  refine fm_bind (fun r44 e44 => ?_)
  refine fm_cVi (pc := 44) C (t_X6_turning e44) ok_X6_turning ⟨by decide, rfl⟩ m_ml_X6_243 dX6_hooking_44 ⟨Nat.le_of_ble_eq_true rfl, Nat.le_of_ble_eq_true rfl⟩ rfl rfl (Nat.le_of_ble_eq_true rfl) ?_
  refine fm_istore (pc := 47) C dX6_hooking_47 (by decide) rfl ?_
  refine fm_iload (pc := 49) C dX6_hooking_49 rfl ?_
  refine fm_aload_n (pc := 51) C dX6_hooking_51 rfl rfl ?_
  refine fm_iload_n (pc := 52) C dX6_hooking_52 rfl rfl ?_
  refine fm_iload_n (pc := 53) C dX6_hooking_53 rfl rfl ?_
  refine fm_aload_n (pc := 54) C dX6_hooking_54 rfl rfl ?_
  refine g6_part (pc := 55) C (by decide) dX6_hooking_55 m_fl_X6_32 ?_
  refine fm_iload_n (pc := 58) C dX6_hooking_58 rfl rfl ?_
  refine fm_guard (fun h4 => ?_)
  refine fm_iald (pc := 59) C (by decide) h4 dX6_hooking_59 ?_
  refine fm_isub (pc := 60) C dX6_hooking_60 ?_
  refine fm_bind (fun r61 e61 => ?_)
  refine fm_cVi (pc := 61) C (t_X6_going e61) ok_X6_going ⟨by decide, rfl⟩ m_ml_X6_240 dX6_hooking_61 ⟨Nat.le_of_ble_eq_true rfl, Nat.le_of_ble_eq_true rfl⟩ rfl rfl (Nat.le_of_ble_eq_true rfl) ?_
  refine fm_ixor (pc := 64) C dX6_hooking_64 ?_
  refine fm_istore (pc := 65) C dX6_hooking_65 (by decide) rfl ?_
  refine fm_iload_n (pc := 67) C dX6_hooking_67 rfl rfl ?_
  refine fm_iconst (pc := 68) (v := (nI 4)) C dX6_hooking_68 (by decide) ?_
  refine fm_icmp_eq (pc := 69) (tgt := 78) C dX6_hooking_69 (by decide) (fun c5 => ?_) (fun c5 => ?_)
  · refine fm_less (lv' := [(4, .int ((r44.1 ^^^ r61.1)))]) (by repeat (first | exact trivial | refine ⟨rfl, ?_⟩)) ?_
    exact j_X6_hooking_78_ C hF 
  · refine fm_iload_n (pc := 72) C dX6_hooking_72 rfl rfl ?_
    refine fm_bipush (pc := 73) (v := (nI 6)) C dX6_hooking_73 (by decide) ?_
    refine fm_icmp_ne (pc := 75) (tgt := 84) C dX6_hooking_75 (by decide) (fun c6 => ?_) (fun c6 => ?_)
    · refine fm_less (lv' := [(4, .int ((r44.1 ^^^ r61.1)))]) (by repeat (first | exact trivial | refine ⟨rfl, ?_⟩)) ?_
      exact j_X6_hooking_78_ C hF 
    · refine fm_iload_n (pc := 84) C dX6_hooking_84 rfl rfl ?_
      refine fm_iconst (pc := 85) (v := (nI 5)) C dX6_hooking_85 (by decide) ?_
      refine fm_icmp_ne (pc := 86) (tgt := 96) C dX6_hooking_86 (by decide) (fun c7 => ?_) (fun c7 => ?_)
      · refine fm_iload (pc := 89) C dX6_hooking_89 rfl ?_
        refine fm_iconst (pc := 91) (v := (nI 5)) C dX6_hooking_91 (by decide) ?_
        refine fm_ixor (pc := 92) C dX6_hooking_92 ?_
        refine fm_goto (pc := 93) (tgt := 98) C dX6_hooking_93 (by decide) ?_
        exact fm_zret (pc := 98) C hF rfl rfl dX6_hooking_98
      · refine fm_iload (pc := 96) C dX6_hooking_96 rfl ?_
        exact fm_zret (pc := 98) C hF rfl rfl dX6_hooking_98
set_option maxHeartbeats 4000000 in
set_option maxRecDepth 100000 in
theorem j_X6_hooking_24_ {X : fm_X} {G : fm_G} {l : Launch} {v1 : Int32} {v2 : Int32} {v3 : Int32} {μ : fm_I} {ν : fm_L} (C : fm_C X G l cX6_hooking RX6 5 (some .int) 4 83) {F : (Int32 × fm_I × fm_L) → State → Prop} (hF : F = fm_Qi X G)  : fm_J X G 5 F (m_X6_hooking_24 v1 v2 v3 μ ν) μ ν 24 [(0, .ref (G.2.2.1 58)), (1, .int v1), (2, .int v2), (3, .int v3)] [] := by
  unfold m_X6_hooking_24
  refine fm_iload_n (pc := 24) C dX6_hooking_24 rfl rfl ?_
  refine fm_iconst (pc := 25) (v := (nI 5)) C dX6_hooking_25 (by decide) ?_
  refine fm_icmp_ne (pc := 26) (tgt := 35) C dX6_hooking_26 (by decide) (fun c3 => ?_) (fun c3 => ?_)
  · refine fm_aload_n (pc := 29) C dX6_hooking_29 rfl rfl ?_
    refine fm_bipush (pc := 30) (v := (nI 60)) C dX6_hooking_30 (by decide) ?_
    refine fm_bind (fun r32 e32 => ?_)
    refine fm_cVv (pc := 32) C (t_X6_body e32) ok_X6_body ⟨by decide, rfl⟩ m_ml_X6_237 dX6_hooking_32 ⟨Nat.le_of_ble_eq_true rfl, Nat.le_of_ble_eq_true rfl⟩ rfl rfl (Nat.le_of_ble_eq_true rfl) ?_
    refine fm_less (lv' := [(0, .ref (G.2.2.1 58)), (1, .int v1), (2, .int v2), (3, .int v3)]) (by repeat (first | exact trivial | refine ⟨rfl, ?_⟩)) ?_
    exact j_X6_hooking_35_ C hF 
  · refine fm_less (lv' := [(0, .ref (G.2.2.1 58)), (1, .int v1), (2, .int v2), (3, .int v3)]) (by repeat (first | exact trivial | refine ⟨rfl, ?_⟩)) ?_
    exact j_X6_hooking_35_ C hF 
set_option maxHeartbeats 4000000 in
set_option maxRecDepth 100000 in
theorem j_X6_hooking_18_ {X : fm_X} {G : fm_G} {l : Launch} {v1 : Int32} {v2 : Int32} {v3 : Int32} {μ : fm_I} {ν : fm_L} (C : fm_C X G l cX6_hooking RX6 5 (some .int) 4 83) {F : (Int32 × fm_I × fm_L) → State → Prop} (hF : F = fm_Qi X G)  : fm_J X G 5 F (m_X6_hooking_18 v1 v2 v3 μ ν) μ ν 18 [(0, .ref (G.2.2.1 58)), (1, .int v1), (2, .int v2), (3, .int v3)] [] := by
  unfold m_X6_hooking_18
  refine fm_aload_n (pc := 18) C dX6_hooking_18 rfl rfl ?_
  refine fm_bipush (pc := 19) (v := (nI 50)) C dX6_hooking_19 (by decide) ?_
  refine fm_bind (fun r21 e21 => ?_)
  refine fm_cVv (pc := 21) C (t_X6_body e21) ok_X6_body ⟨by decide, rfl⟩ m_ml_X6_237 dX6_hooking_21 ⟨Nat.le_of_ble_eq_true rfl, Nat.le_of_ble_eq_true rfl⟩ rfl rfl (Nat.le_of_ble_eq_true rfl) ?_
  refine fm_less (lv' := [(0, .ref (G.2.2.1 58)), (1, .int v1), (2, .int v2), (3, .int v3)]) (by repeat (first | exact trivial | refine ⟨rfl, ?_⟩)) ?_
  exact j_X6_hooking_24_ C hF 
set_option maxHeartbeats 4000000 in
set_option maxRecDepth 100000 in
theorem j_X6_hooking {X : fm_X} {G : fm_G} {l : Launch} {v1 : Int32} {v2 : Int32} {μ : fm_I} {ν : fm_L} (C : fm_C X G l cX6_hooking RX6 5 (some .int) 4 83) {F : (Int32 × fm_I × fm_L) → State → Prop} (hF : F = fm_Qi X G) : fm_J X G 5 F (m_X6_hooking v1 v2 μ ν) μ ν 0 [(0, .ref (G.2.2.1 58)), (1, .int v1), (2, .int v2)] [] := by
  unfold m_X6_hooking
  refine fm_aload_n (pc := 0) C dX6_hooking_0 rfl rfl ?_
  refine g6_kind (pc := 1) C (by decide) dX6_hooking_1 m_fl_X6_20 ?_
  refine fm_iload_n (pc := 4) C dX6_hooking_4 rfl rfl ?_
  refine fm_guard (fun h1 => ?_)
  refine fm_iald (pc := 5) C (by decide) h1 dX6_hooking_5 ?_
  refine fm_istore_n (pc := 6) C dX6_hooking_6 rfl (by decide) rfl ?_
  refine fm_iload_n (pc := 7) C dX6_hooking_7 rfl rfl ?_
  refine fm_iconst (pc := 8) (v := (nI 4)) C dX6_hooking_8 (by decide) ?_
  refine fm_icmp_eq (pc := 9) (tgt := 18) C dX6_hooking_9 (by decide) (fun c2 => ?_) (fun c2 => ?_)
  · refine fm_less (lv' := [(0, .ref (G.2.2.1 58)), (1, .int v1), (2, .int v2), (3, .int ((μ 60 v1.toNatClampNeg)))]) (by repeat (first | exact trivial | refine ⟨rfl, ?_⟩)) ?_
    exact j_X6_hooking_18_ C hF 
  · refine fm_iload_n (pc := 12) C dX6_hooking_12 rfl rfl ?_
    refine fm_bipush (pc := 13) (v := (nI 6)) C dX6_hooking_13 (by decide) ?_
    refine fm_icmp_ne (pc := 15) (tgt := 24) C dX6_hooking_15 (by decide) (fun c8 => ?_) (fun c8 => ?_)
    · refine fm_less (lv' := [(0, .ref (G.2.2.1 58)), (1, .int v1), (2, .int v2), (3, .int ((μ 60 v1.toNatClampNeg)))]) (by repeat (first | exact trivial | refine ⟨rfl, ?_⟩)) ?_
      exact j_X6_hooking_18_ C hF 
    · refine fm_less (lv' := [(0, .ref (G.2.2.1 58)), (1, .int v1), (2, .int v2), (3, .int ((μ 60 v1.toNatClampNeg)))]) (by repeat (first | exact trivial | refine ⟨rfl, ?_⟩)) ?_
      exact j_X6_hooking_24_ C hF 
theorem t_X6_hooking {l : Launch} {G : fm_G} {v1 : Int32} {v2 : Int32} {μ : fm_I} {ν : fm_L} {r : Int32 × fm_I × fm_L} (h : m_X6_hooking v1 v2 μ ν = some r) : fm_Mi l G yX6_hooking cX6_hooking 5 (some .int) 4 83 [.ref (G.2.2.1 58), .int v1, .int v2] μ ν r := fm_Mi_of (by decide +kernel) (Nat.le_of_ble_eq_true rfl) (fun _ C => j_X6_hooking C rfl r h)
theorem dX6_act_0 : decode cX6_act 0 = .ok (.aload_n 0, 1) := by decide +kernel
theorem dX6_act_1 : decode cX6_act 1 = .ok (.iconst 0, 1) := by decide +kernel
theorem dX6_act_2 : decode cX6_act 2 = .ok (.putfield 234, 3) := by decide +kernel
theorem dX6_act_5 : decode cX6_act 5 = .ok (.aload_n 0, 1) := by decide +kernel
theorem dX6_act_6 : decode cX6_act 6 = .ok (.iload_n 1, 1) := by decide +kernel
theorem dX6_act_7 : decode cX6_act 7 = .ok (.invokevirtual 88, 3) := by decide +kernel
theorem dX6_act_10 : decode cX6_act 10 = .ok (.ifCond .eq 12, 3) := by decide +kernel
theorem dX6_act_13 : decode cX6_act 13 = .ok (.iload_n 2, 1) := by decide +kernel
theorem dX6_act_14 : decode cX6_act 14 = .ok (.ifCond .lt 8, 3) := by decide +kernel
theorem dX6_act_17 : decode cX6_act 17 = .ok (.iload_n 2, 1) := by decide +kernel
theorem dX6_act_18 : decode cX6_act 18 = .ok (.iconst 2, 1) := by decide +kernel
theorem dX6_act_19 : decode cX6_act 19 = .ok (.if_icmp .le 5, 3) := by decide +kernel
theorem dX6_act_22 : decode cX6_act 22 = .ok (.iconst 0, 1) := by decide +kernel
theorem dX6_act_23 : decode cX6_act 23 = .ok (.ireturn, 1) := by decide +kernel
theorem dX6_act_24 : decode cX6_act 24 = .ok (.iload_n 2, 1) := by decide +kernel
theorem dX6_act_25 : decode cX6_act 25 = .ok (.ifCond .ne 12, 3) := by decide +kernel
theorem dX6_act_28 : decode cX6_act 28 = .ok (.aload_n 0, 1) := by decide +kernel
theorem dX6_act_29 : decode cX6_act 29 = .ok (.iload_n 1, 1) := by decide +kernel
theorem dX6_act_30 : decode cX6_act 30 = .ok (.iload_n 3, 1) := by decide +kernel
theorem dX6_act_31 : decode cX6_act 31 = .ok (.invokevirtual 240, 3) := by decide +kernel
theorem dX6_act_34 : decode cX6_act 34 = .ok (.goto 23, 3) := by decide +kernel
theorem dX6_act_37 : decode cX6_act 37 = .ok (.iload_n 2, 1) := by decide +kernel
theorem dX6_act_38 : decode cX6_act 38 = .ok (.iconst 1, 1) := by decide +kernel
theorem dX6_act_39 : decode cX6_act 39 = .ok (.if_icmp .ne 12, 3) := by decide +kernel
theorem dX6_act_42 : decode cX6_act 42 = .ok (.aload_n 0, 1) := by decide +kernel
theorem dX6_act_43 : decode cX6_act 43 = .ok (.iload_n 1, 1) := by decide +kernel
theorem dX6_act_44 : decode cX6_act 44 = .ok (.iload_n 3, 1) := by decide +kernel
theorem dX6_act_45 : decode cX6_act 45 = .ok (.invokevirtual 243, 3) := by decide +kernel
theorem dX6_act_48 : decode cX6_act 48 = .ok (.goto 9, 3) := by decide +kernel
theorem dX6_act_51 : decode cX6_act 51 = .ok (.aload_n 0, 1) := by decide +kernel
theorem dX6_act_52 : decode cX6_act 52 = .ok (.iload_n 1, 1) := by decide +kernel
theorem dX6_act_53 : decode cX6_act 53 = .ok (.iload_n 3, 1) := by decide +kernel
theorem dX6_act_54 : decode cX6_act 54 = .ok (.invokevirtual 246, 3) := by decide +kernel
theorem dX6_act_57 : decode cX6_act 57 = .ok (.ireturn, 1) := by decide +kernel
def m_X6_act (v1 : Int32) (v2 : Int32) (v3 : Int32) (μ : fm_I) (ν : fm_L) : Option (Int32 × fm_I × fm_L) :=
  (m_X6_isBand v1 (fm_u μ 58 32 ((nI 0))) ν).bind (fun r7 => if r7 = 0 then some (((nI 0), (fm_u μ 58 32 ((nI 0))), ν)) else if v2 < 0 then some (((nI 0), (fm_u μ 58 32 ((nI 0))), ν)) else if v2 ≤ (nI 2) then if v2 = 0 then (m_X6_going v1 v3 (fm_u μ 58 32 ((nI 0))) ν).bind (fun r31 => some ((r31.1, r31.2.1, r31.2.2))) else if v2 = (nI 1) then (m_X6_turning v1 v3 (fm_u μ 58 32 ((nI 0))) ν).bind (fun r45 => some ((r45.1, r45.2.1, r45.2.2))) else (m_X6_hooking v1 v3 (fm_u μ 58 32 ((nI 0))) ν).bind (fun r54 => some ((r54.1, r54.2.1, r54.2.2))) else some (((nI 0), (fm_u μ 58 32 ((nI 0))), ν)))
theorem ok_X6_act : fm_okV yX6_act cX6_act 4 (some .int) 3 := ⟨m_cd_X6_act, m_im_X6_act, m_se_X6_X6_act, m_ini_X6, by decide +kernel, by decide +kernel, by decide +kernel⟩
set_option maxHeartbeats 4000000 in
set_option maxRecDepth 100000 in
theorem j_X6_act {X : fm_X} {G : fm_G} {l : Launch} {v1 : Int32} {v2 : Int32} {v3 : Int32} {μ : fm_I} {ν : fm_L} (C : fm_C X G l cX6_act RX6 4 (some .int) 5 107) {F : (Int32 × fm_I × fm_L) → State → Prop} (hF : F = fm_Qi X G) : fm_J X G 4 F (m_X6_act v1 v2 v3 μ ν) μ ν 0 [(0, .ref (G.2.2.1 58)), (1, .int v1), (2, .int v2), (3, .int v3)] [] := by
  unfold m_X6_act
  refine fm_aload_n (pc := 0) C dX6_act_0 rfl rfl ?_
  refine fm_iconst (pc := 1) (v := (nI 0)) C dX6_act_1 (by decide) ?_
  refine p6_ran (pc := 2) C (by decide) dX6_act_2 m_fl_X6_234 ?_
  refine fm_aload_n (pc := 5) C dX6_act_5 rfl rfl ?_
  refine fm_iload_n (pc := 6) C dX6_act_6 rfl rfl ?_
  refine fm_bind (fun r7 e7 => ?_)
  refine fm_cVi0 (pc := 7) C (t_X6_isBand e7) ok_X6_isBand ⟨by decide, rfl⟩ m_ml_X6_88 dX6_act_7 ⟨Nat.le_of_ble_eq_true rfl, Nat.le_of_ble_eq_true rfl⟩ rfl rfl (Nat.le_of_ble_eq_true rfl) ?_
  refine fm_if_eq (pc := 10) (tgt := 22) C dX6_act_10 (by decide) (fun c1 => ?_) (fun c1 => ?_)
  · refine fm_iconst (pc := 22) (v := (nI 0)) C dX6_act_22 (by decide) ?_
    exact fm_zret (pc := 23) C hF rfl rfl dX6_act_23
  · refine fm_iload_n (pc := 13) C dX6_act_13 rfl rfl ?_
    refine fm_if_lt (pc := 14) (tgt := 22) C dX6_act_14 (by decide) (fun c2 => ?_) (fun c2 => ?_)
    · refine fm_iconst (pc := 22) (v := (nI 0)) C dX6_act_22 (by decide) ?_
      exact fm_zret (pc := 23) C hF rfl rfl dX6_act_23
    · refine fm_iload_n (pc := 17) C dX6_act_17 rfl rfl ?_
      refine fm_iconst (pc := 18) (v := (nI 2)) C dX6_act_18 (by decide) ?_
      refine fm_icmp_le (pc := 19) (tgt := 24) C dX6_act_19 (by decide) (fun c3 => ?_) (fun c3 => ?_)
      · refine fm_iload_n (pc := 24) C dX6_act_24 rfl rfl ?_
        refine fm_if_ne (pc := 25) (tgt := 37) C dX6_act_25 (by decide) (fun c4 => ?_) (fun c4 => ?_)
        · refine fm_aload_n (pc := 28) C dX6_act_28 rfl rfl ?_
          refine fm_iload_n (pc := 29) C dX6_act_29 rfl rfl ?_
          refine fm_iload_n (pc := 30) C dX6_act_30 rfl rfl ?_
          refine fm_bind (fun r31 e31 => ?_)
          refine fm_cVi (pc := 31) C (t_X6_going e31) ok_X6_going ⟨by decide, rfl⟩ m_ml_X6_240 dX6_act_31 ⟨Nat.le_of_ble_eq_true rfl, Nat.le_of_ble_eq_true rfl⟩ rfl rfl (Nat.le_of_ble_eq_true rfl) ?_
          refine fm_goto (pc := 34) (tgt := 57) C dX6_act_34 (by decide) ?_
          exact fm_zret (pc := 57) C hF rfl rfl dX6_act_57
        · refine fm_iload_n (pc := 37) C dX6_act_37 rfl rfl ?_
          refine fm_iconst (pc := 38) (v := (nI 1)) C dX6_act_38 (by decide) ?_
          refine fm_icmp_ne (pc := 39) (tgt := 51) C dX6_act_39 (by decide) (fun c5 => ?_) (fun c5 => ?_)
          · refine fm_aload_n (pc := 42) C dX6_act_42 rfl rfl ?_
            refine fm_iload_n (pc := 43) C dX6_act_43 rfl rfl ?_
            refine fm_iload_n (pc := 44) C dX6_act_44 rfl rfl ?_
            refine fm_bind (fun r45 e45 => ?_)
            refine fm_cVi (pc := 45) C (t_X6_turning e45) ok_X6_turning ⟨by decide, rfl⟩ m_ml_X6_243 dX6_act_45 ⟨Nat.le_of_ble_eq_true rfl, Nat.le_of_ble_eq_true rfl⟩ rfl rfl (Nat.le_of_ble_eq_true rfl) ?_
            refine fm_goto (pc := 48) (tgt := 57) C dX6_act_48 (by decide) ?_
            exact fm_zret (pc := 57) C hF rfl rfl dX6_act_57
          · refine fm_aload_n (pc := 51) C dX6_act_51 rfl rfl ?_
            refine fm_iload_n (pc := 52) C dX6_act_52 rfl rfl ?_
            refine fm_iload_n (pc := 53) C dX6_act_53 rfl rfl ?_
            refine fm_bind (fun r54 e54 => ?_)
            refine fm_cVi (pc := 54) C (t_X6_hooking e54) ok_X6_hooking ⟨by decide, rfl⟩ m_ml_X6_246 dX6_act_54 ⟨Nat.le_of_ble_eq_true rfl, Nat.le_of_ble_eq_true rfl⟩ rfl rfl (Nat.le_of_ble_eq_true rfl) ?_
            exact fm_zret (pc := 57) C hF rfl rfl dX6_act_57
      · refine fm_iconst (pc := 22) (v := (nI 0)) C dX6_act_22 (by decide) ?_
        exact fm_zret (pc := 23) C hF rfl rfl dX6_act_23
theorem t_X6_act {l : Launch} {G : fm_G} {v1 : Int32} {v2 : Int32} {v3 : Int32} {μ : fm_I} {ν : fm_L} {r : Int32 × fm_I × fm_L} (h : m_X6_act v1 v2 v3 μ ν = some r) : fm_Mi l G yX6_act cX6_act 4 (some .int) 5 107 [.ref (G.2.2.1 58), .int v1, .int v2, .int v3] μ ν r := fm_Mi_of (by decide +kernel) (Nat.le_of_ble_eq_true rfl) (fun _ C => j_X6_act C rfl r h)
theorem dX6_trace_0 : decode cX6_trace 0 = .ok (.iload_n 1, 1) := by decide +kernel
theorem dX6_trace_1 : decode cX6_trace 1 = .ok (.ifCond .lt 26, 3) := by decide +kernel
theorem dX6_trace_4 : decode cX6_trace 4 = .ok (.iload_n 1, 1) := by decide +kernel
theorem dX6_trace_5 : decode cX6_trace 5 = .ok (.bipush 20, 2) := by decide +kernel
theorem dX6_trace_7 : decode cX6_trace 7 = .ok (.if_icmp .ge 20, 3) := by decide +kernel
theorem dX6_trace_10 : decode cX6_trace 10 = .ok (.iload_n 1, 1) := by decide +kernel
theorem dX6_trace_11 : decode cX6_trace 11 = .ok (.aload_n 0, 1) := by decide +kernel
theorem dX6_trace_12 : decode cX6_trace 12 = .ok (.getfield 234, 3) := by decide +kernel
theorem dX6_trace_15 : decode cX6_trace 15 = .ok (.if_icmp .ge 12, 3) := by decide +kernel
theorem dX6_trace_18 : decode cX6_trace 18 = .ok (.aload_n 0, 1) := by decide +kernel
theorem dX6_trace_19 : decode cX6_trace 19 = .ok (.getfield 81, 3) := by decide +kernel
theorem dX6_trace_22 : decode cX6_trace 22 = .ok (.iload_n 1, 1) := by decide +kernel
theorem dX6_trace_23 : decode cX6_trace 23 = .ok (.iaload, 1) := by decide +kernel
theorem dX6_trace_24 : decode cX6_trace 24 = .ok (.goto 4, 3) := by decide +kernel
theorem dX6_trace_27 : decode cX6_trace 27 = .ok (.iconst (-1), 1) := by decide +kernel
theorem dX6_trace_28 : decode cX6_trace 28 = .ok (.ireturn, 1) := by decide +kernel
def m_X6_trace (v1 : Int32) (μ : fm_I) (ν : fm_L) : Option (Int32) :=
  if v1 < 0 then some ((-1 : Int32)) else if (nI 20) ≤ v1 then some ((-1 : Int32)) else if (μ 58 32) ≤ v1 then some ((-1 : Int32)) else fm_g (fm_in v1 (fm_n 80)) (some ((μ 80 v1.toNatClampNeg)))
theorem ok_X6_trace : fm_okV yX6_trace cX6_trace 2 (some .int) 1 := ⟨m_cd_X6_trace, m_im_X6_trace, m_se_X6_X6_trace, m_ini_X6, by decide +kernel, by decide +kernel, by decide +kernel⟩
set_option maxHeartbeats 4000000 in
set_option maxRecDepth 100000 in
theorem j_X6_trace {X : fm_X} {G : fm_G} {l : Launch} {v1 : Int32} {μ : fm_I} {ν : fm_L} (C : fm_C X G l cX6_trace RX6 2 (some .int) 1 12) {F : Int32 → State → Prop} (hF : F = fun r => fm_Qi X G (r, μ, ν)) : fm_J X G 2 F (m_X6_trace v1 μ ν) μ ν 0 [(0, .ref (G.2.2.1 58)), (1, .int v1)] [] := by
  unfold m_X6_trace
  refine fm_iload_n (pc := 0) C dX6_trace_0 rfl rfl ?_
  refine fm_if_lt (pc := 1) (tgt := 27) C dX6_trace_1 (by decide) (fun c1 => ?_) (fun c1 => ?_)
  · refine fm_iconst (pc := 27) (v := (-1 : Int32)) C dX6_trace_27 (by decide) ?_
    exact fm_zret0 (pc := 28) C hF rfl rfl dX6_trace_28
  · refine fm_iload_n (pc := 4) C dX6_trace_4 rfl rfl ?_
    refine fm_bipush (pc := 5) (v := (nI 20)) C dX6_trace_5 (by decide) ?_
    refine fm_icmp_ge (pc := 7) (tgt := 27) C dX6_trace_7 (by decide) (fun c2 => ?_) (fun c2 => ?_)
    · refine fm_iconst (pc := 27) (v := (-1 : Int32)) C dX6_trace_27 (by decide) ?_
      exact fm_zret0 (pc := 28) C hF rfl rfl dX6_trace_28
    · refine fm_iload_n (pc := 10) C dX6_trace_10 rfl rfl ?_
      refine fm_aload_n (pc := 11) C dX6_trace_11 rfl rfl ?_
      refine g6_ran (pc := 12) C (by decide) dX6_trace_12 m_fl_X6_234 ?_
      refine fm_icmp_ge (pc := 15) (tgt := 27) C dX6_trace_15 (by decide) (fun c3 => ?_) (fun c3 => ?_)
      · refine fm_iconst (pc := 27) (v := (-1 : Int32)) C dX6_trace_27 (by decide) ?_
        exact fm_zret0 (pc := 28) C hF rfl rfl dX6_trace_28
      · refine fm_aload_n (pc := 18) C dX6_trace_18 rfl rfl ?_
        refine g6_trace (pc := 19) C (by decide) dX6_trace_19 m_fl_X6_81 ?_
        refine fm_iload_n (pc := 22) C dX6_trace_22 rfl rfl ?_
        refine fm_guard (fun h4 => ?_)
        refine fm_iald (pc := 23) C (by decide) h4 dX6_trace_23 ?_
        refine fm_goto (pc := 24) (tgt := 28) C dX6_trace_24 (by decide) ?_
        exact fm_zret0 (pc := 28) C hF rfl rfl dX6_trace_28
theorem t_X6_trace {l : Launch} {G : fm_G} {v1 : Int32} {μ : fm_I} {ν : fm_L} {r : Int32} (h : m_X6_trace v1 μ ν = some r) : fm_Mi l G yX6_trace cX6_trace 2 (some .int) 1 12 [.ref (G.2.2.1 58), .int v1] μ ν (r, μ, ν) := fm_Mi_of (by decide +kernel) (Nat.le_of_ble_eq_true rfl) (fun _ C => j_X6_trace C rfl r h)
theorem dX6_image_0 : decode cX6_image 0 = .ok (.aload_n 0, 1) := by decide +kernel
theorem dX6_image_1 : decode cX6_image 1 = .ok (.iconst 1, 1) := by decide +kernel
theorem dX6_image_2 : decode cX6_image 2 = .ok (.putfield 249, 3) := by decide +kernel
theorem dX6_image_5 : decode cX6_image 5 = .ok (.aload_n 0, 1) := by decide +kernel
theorem dX6_image_6 : decode cX6_image 6 = .ok (.aload_n 0, 1) := by decide +kernel
theorem dX6_image_7 : decode cX6_image 7 = .ok (.getfield 66, 3) := by decide +kernel
theorem dX6_image_10 : decode cX6_image 10 = .ok (.iconst 0, 1) := by decide +kernel
theorem dX6_image_11 : decode cX6_image 11 = .ok (.invokevirtual 162, 3) := by decide +kernel
theorem dX6_image_14 : decode cX6_image 14 = .ok (.aload_n 0, 1) := by decide +kernel
theorem dX6_image_15 : decode cX6_image 15 = .ok (.getfield 85, 3) := by decide +kernel
theorem dX6_image_18 : decode cX6_image 18 = .ok (.ireturn, 1) := by decide +kernel
def m_X6_image  (μ : fm_I) (ν : fm_L) : Option (Int32 × fm_I × fm_L) :=
  (m_X6_all 75 ((nI 0)) (fm_u μ 58 33 ((nI 1))) ν).bind (fun r11 => some (((r11.1 58 0), r11.1, r11.2)))
theorem ok_X6_image : fm_okV yX6_image cX6_image 1 (some .int) 0 := ⟨m_cd_X6_image, m_im_X6_image, m_se_X6_X6_image, m_ini_X6, by decide +kernel, by decide +kernel, by decide +kernel⟩
set_option maxHeartbeats 4000000 in
set_option maxRecDepth 100000 in
theorem j_X6_image {X : fm_X} {G : fm_G} {l : Launch}  {μ : fm_I} {ν : fm_L} (C : fm_C X G l cX6_image RX6 1 (some .int) 3 61) {F : (Int32 × fm_I × fm_L) → State → Prop} (hF : F = fm_Qi X G) : fm_J X G 1 F (m_X6_image  μ ν) μ ν 0 [(0, .ref (G.2.2.1 58))] [] := by
  unfold m_X6_image
  refine fm_aload_n (pc := 0) C dX6_image_0 rfl rfl ?_
  refine fm_iconst (pc := 1) (v := (nI 1)) C dX6_image_1 (by decide) ?_
  refine p6_isKept (pc := 2) C rfl (by decide) dX6_image_2 m_fl_X6_249 ?_
  refine fm_aload_n (pc := 5) C dX6_image_5 rfl rfl ?_
  refine fm_aload_n (pc := 6) C dX6_image_6 rfl rfl ?_
  refine g6_kept (pc := 7) C (by decide) dX6_image_7 m_fl_X6_66 ?_
  refine fm_iconst (pc := 10) (v := (nI 0)) C dX6_image_10 (by decide) ?_
  refine fm_bind (fun r11 e11 => ?_)
  refine fm_cVv (pc := 11) C (t_X6_all e11) ok_X6_all ⟨by decide, rfl⟩ m_ml_X6_162 dX6_image_11 ⟨Nat.le_of_ble_eq_true rfl, Nat.le_of_ble_eq_true rfl⟩ rfl rfl (Nat.le_of_ble_eq_true rfl) ?_
  refine fm_aload_n (pc := 14) C dX6_image_14 rfl rfl ?_
  refine g6_bands (pc := 15) C (by decide) dX6_image_15 m_fl_X6_85 ?_
  exact fm_zret (pc := 18) C hF rfl rfl dX6_image_18
theorem t_X6_image {l : Launch} {G : fm_G}  {μ : fm_I} {ν : fm_L} {r : Int32 × fm_I × fm_L} (h : m_X6_image  μ ν = some r) : fm_Mi l G yX6_image cX6_image 1 (some .int) 3 61 [.ref (G.2.2.1 58)] μ ν r := fm_Mi_of (by decide +kernel) (Nat.le_of_ble_eq_true rfl) (fun _ C => j_X6_image C rfl r h)
theorem dX6_restore_0 : decode cX6_restore 0 = .ok (.aload_n 0, 1) := by decide +kernel
theorem dX6_restore_1 : decode cX6_restore 1 = .ok (.getfield 249, 3) := by decide +kernel
theorem dX6_restore_4 : decode cX6_restore 4 = .ok (.ifCond .ne 10, 3) := by decide +kernel
theorem dX6_restore_7 : decode cX6_restore 7 = .ok (.aload_n 0, 1) := by decide +kernel
theorem dX6_restore_8 : decode cX6_restore 8 = .ok (.bipush (-6), 2) := by decide +kernel
theorem dX6_restore_10 : decode cX6_restore 10 = .ok (.invokevirtual 95, 3) := by decide +kernel
theorem dX6_restore_13 : decode cX6_restore 13 = .ok (.ireturn, 1) := by decide +kernel
theorem dX6_restore_14 : decode cX6_restore 14 = .ok (.aload_n 0, 1) := by decide +kernel
theorem dX6_restore_15 : decode cX6_restore 15 = .ok (.aload_n 0, 1) := by decide +kernel
theorem dX6_restore_16 : decode cX6_restore 16 = .ok (.getfield 66, 3) := by decide +kernel
theorem dX6_restore_19 : decode cX6_restore 19 = .ok (.iconst 1, 1) := by decide +kernel
theorem dX6_restore_20 : decode cX6_restore 20 = .ok (.invokevirtual 162, 3) := by decide +kernel
theorem dX6_restore_23 : decode cX6_restore 23 = .ok (.iconst 0, 1) := by decide +kernel
theorem dX6_restore_24 : decode cX6_restore 24 = .ok (.istore_n 1, 1) := by decide +kernel
theorem dX6_restore_25 : decode cX6_restore 25 = .ok (.iload_n 1, 1) := by decide +kernel
theorem dX6_restore_26 : decode cX6_restore 26 = .ok (.bipush 8, 2) := by decide +kernel
theorem dX6_restore_28 : decode cX6_restore 28 = .ok (.if_icmp .ge 39, 3) := by decide +kernel
theorem dX6_restore_31 : decode cX6_restore 31 = .ok (.aload_n 0, 1) := by decide +kernel
theorem dX6_restore_32 : decode cX6_restore 32 = .ok (.getfield 38, 3) := by decide +kernel
theorem dX6_restore_35 : decode cX6_restore 35 = .ok (.iload_n 1, 1) := by decide +kernel
theorem dX6_restore_36 : decode cX6_restore 36 = .ok (.iaload, 1) := by decide +kernel
theorem dX6_restore_37 : decode cX6_restore 37 = .ok (.iconst 2, 1) := by decide +kernel
theorem dX6_restore_38 : decode cX6_restore 38 = .ok (.if_icmp .ne 23, 3) := by decide +kernel
theorem dX6_restore_41 : decode cX6_restore 41 = .ok (.aload_n 0, 1) := by decide +kernel
theorem dX6_restore_42 : decode cX6_restore 42 = .ok (.getfield 47, 3) := by decide +kernel
theorem dX6_restore_45 : decode cX6_restore 45 = .ok (.iload_n 1, 1) := by decide +kernel
theorem dX6_restore_46 : decode cX6_restore 46 = .ok (.iaload, 1) := by decide +kernel
theorem dX6_restore_47 : decode cX6_restore 47 = .ok (.aload_n 0, 1) := by decide +kernel
theorem dX6_restore_48 : decode cX6_restore 48 = .ok (.getfield 85, 3) := by decide +kernel
theorem dX6_restore_51 : decode cX6_restore 51 = .ok (.if_icmp .lt 10, 3) := by decide +kernel
theorem dX6_restore_54 : decode cX6_restore 54 = .ok (.aload_n 0, 1) := by decide +kernel
theorem dX6_restore_55 : decode cX6_restore 55 = .ok (.getfield 38, 3) := by decide +kernel
theorem dX6_restore_58 : decode cX6_restore 58 = .ok (.iload_n 1, 1) := by decide +kernel
theorem dX6_restore_59 : decode cX6_restore 59 = .ok (.iconst 0, 1) := by decide +kernel
theorem dX6_restore_60 : decode cX6_restore 60 = .ok (.iastore, 1) := by decide +kernel
theorem dX6_restore_61 : decode cX6_restore 61 = .ok (.iinc 1 1, 3) := by decide +kernel
theorem dX6_restore_64 : decode cX6_restore 64 = .ok (.goto (-39), 3) := by decide +kernel
theorem dX6_restore_67 : decode cX6_restore 67 = .ok (.aload_n 0, 1) := by decide +kernel
theorem dX6_restore_68 : decode cX6_restore 68 = .ok (.getfield 85, 3) := by decide +kernel
theorem dX6_restore_71 : decode cX6_restore 71 = .ok (.ireturn, 1) := by decide +kernel
def m_X6_restore_25  (K : fm_I → fm_L → Option (Int32 × fm_I × fm_L)) : Nat → Int32 → fm_I → fm_L → Option (Int32 × fm_I × fm_L)
  | 0, _, _, _ => none
  | k + 1, v1, μ, ν => if (nI 8) ≤ v1 then K  μ ν else fm_g (fm_in v1 (fm_n 66)) (if (μ 66 v1.toNatClampNeg) = (nI 2) then fm_g (fm_in v1 (fm_n 69)) (if (μ 69 v1.toNatClampNeg) < (μ 58 0) then m_X6_restore_25 K k ((v1 + nI 1)) μ ν else m_X6_restore_25 K k ((v1 + nI 1)) (fm_u μ 66 v1.toNatClampNeg ((nI 0))) ν) else m_X6_restore_25 K k ((v1 + nI 1)) μ ν)
def m_X6_restore  (μ : fm_I) (ν : fm_L) : Option (Int32 × fm_I × fm_L) :=
  if (μ 58 33) = 0 then (m_X6_no ((-6 : Int32)) μ ν).bind (fun r10 => some ((r10.1, r10.2.1, r10.2.2))) else (m_X6_all 75 ((nI 1)) μ ν).bind (fun r20 => m_X6_restore_25  (fun μ25 ν25 => some (((μ25 58 0), μ25, ν25))) 5000 ((nI 0)) r20.1 r20.2)
theorem ok_X6_restore : fm_okV yX6_restore cX6_restore 2 (some .int) 0 := ⟨m_cd_X6_restore, m_im_X6_restore, m_se_X6_X6_restore, m_ini_X6, by decide +kernel, by decide +kernel, by decide +kernel⟩
set_option maxHeartbeats 4000000 in
set_option maxRecDepth 100000 in
theorem j_X6_restore_25_ {X : fm_X} {G : fm_G} {l : Launch}  (C : fm_C X G l cX6_restore RX6 2 (some .int) 3 61) {F : (Int32 × fm_I × fm_L) → State → Prop} (hF : F = fm_Qi X G)  {K : fm_I → fm_L → Option (Int32 × fm_I × fm_L)} (hK : ∀  (μ : fm_I) (ν : fm_L), fm_J X G 2 F (K μ ν) μ ν 67 [(0, .ref (G.2.2.1 58))] []) : ∀ (k : Nat) (v1 : Int32) (μ : fm_I) (ν : fm_L), fm_J X G 2 F (m_X6_restore_25  K k v1 μ ν) μ ν 25 [(0, .ref (G.2.2.1 58)), (1, .int v1)] [] := by
  intro k
  induction k with
  | zero =>
    intro v1 μ ν
    exact fm_none
  | succ k ih =>
    intro v1 μ ν
    rw [m_X6_restore_25]
    refine fm_iload_n (pc := 25) C dX6_restore_25 rfl rfl ?_
    refine fm_bipush (pc := 26) (v := (nI 8)) C dX6_restore_26 (by decide) ?_
    refine fm_icmp_ge (pc := 28) (tgt := 67) C dX6_restore_28 (by decide) (fun c2 => ?_) (fun c2 => ?_)
    · refine fm_less (lv' := [(0, .ref (G.2.2.1 58))]) (by repeat (first | exact trivial | refine ⟨rfl, ?_⟩)) ?_
      exact hK  _ _
    · refine fm_aload_n (pc := 31) C dX6_restore_31 rfl rfl ?_
      refine g6_held (pc := 32) C (by decide) dX6_restore_32 m_fl_X6_38 ?_
      refine fm_iload_n (pc := 35) C dX6_restore_35 rfl rfl ?_
      refine fm_guard (fun h3 => ?_)
      refine fm_iald (pc := 36) C (by decide) h3 dX6_restore_36 ?_
      refine fm_iconst (pc := 37) (v := (nI 2)) C dX6_restore_37 (by decide) ?_
      refine fm_icmp_ne (pc := 38) (tgt := 61) C dX6_restore_38 (by decide) (fun c4 => ?_) (fun c4 => ?_)
      · refine fm_aload_n (pc := 41) C dX6_restore_41 rfl rfl ?_
        refine g6_shown (pc := 42) C (by decide) dX6_restore_42 m_fl_X6_47 ?_
        refine fm_iload_n (pc := 45) C dX6_restore_45 rfl rfl ?_
        refine fm_guard (fun h5 => ?_)
        refine fm_iald (pc := 46) C (by decide) h5 dX6_restore_46 ?_
        refine fm_aload_n (pc := 47) C dX6_restore_47 rfl rfl ?_
        refine g6_bands (pc := 48) C (by decide) dX6_restore_48 m_fl_X6_85 ?_
        refine fm_icmp_lt (pc := 51) (tgt := 61) C dX6_restore_51 (by decide) (fun c6 => ?_) (fun c6 => ?_)
        · refine fm_iinc (pc := 61) C dX6_restore_61 rfl (v := (v1 + nI 1)) rfl (by decide) rfl ?_
          refine fm_goto (pc := 64) (tgt := 25) C dX6_restore_64 (by decide) ?_
          refine fm_less (lv' := [(0, .ref (G.2.2.1 58)), (1, .int ((v1 + nI 1)))]) (by repeat (first | exact trivial | refine ⟨rfl, ?_⟩)) ?_
          exact ih _ _ _
        · refine fm_aload_n (pc := 54) C dX6_restore_54 rfl rfl ?_
          refine g6_held (pc := 55) C (by decide) dX6_restore_55 m_fl_X6_38 ?_
          refine fm_iload_n (pc := 58) C dX6_restore_58 rfl rfl ?_
          refine fm_iconst (pc := 59) (v := (nI 0)) C dX6_restore_59 (by decide) ?_
          refine fm_iast (pc := 60) C (by decide) h3 dX6_restore_60 ?_
          refine fm_iinc (pc := 61) C dX6_restore_61 rfl (v := (v1 + nI 1)) rfl (by decide) rfl ?_
          refine fm_goto (pc := 64) (tgt := 25) C dX6_restore_64 (by decide) ?_
          refine fm_less (lv' := [(0, .ref (G.2.2.1 58)), (1, .int ((v1 + nI 1)))]) (by repeat (first | exact trivial | refine ⟨rfl, ?_⟩)) ?_
          exact ih _ _ _
      · refine fm_iinc (pc := 61) C dX6_restore_61 rfl (v := (v1 + nI 1)) rfl (by decide) rfl ?_
        refine fm_goto (pc := 64) (tgt := 25) C dX6_restore_64 (by decide) ?_
        refine fm_less (lv' := [(0, .ref (G.2.2.1 58)), (1, .int ((v1 + nI 1)))]) (by repeat (first | exact trivial | refine ⟨rfl, ?_⟩)) ?_
        exact ih _ _ _
set_option maxHeartbeats 4000000 in
set_option maxRecDepth 100000 in
theorem j_X6_restore {X : fm_X} {G : fm_G} {l : Launch}  {μ : fm_I} {ν : fm_L} (C : fm_C X G l cX6_restore RX6 2 (some .int) 3 61) {F : (Int32 × fm_I × fm_L) → State → Prop} (hF : F = fm_Qi X G) : fm_J X G 2 F (m_X6_restore  μ ν) μ ν 0 [(0, .ref (G.2.2.1 58))] [] := by
  unfold m_X6_restore
  refine fm_aload_n (pc := 0) C dX6_restore_0 rfl rfl ?_
  refine g6_isKept (pc := 1) C (by decide) dX6_restore_1 m_fl_X6_249 ?_
  refine fm_if_ne (pc := 4) (tgt := 14) C dX6_restore_4 (by decide) (fun c1 => ?_) (fun c1 => ?_)
  · refine fm_aload_n (pc := 7) C dX6_restore_7 rfl rfl ?_
    refine fm_bipush (pc := 8) (v := (-6 : Int32)) C dX6_restore_8 (by decide) ?_
    refine fm_bind (fun r10 e10 => ?_)
    refine fm_cVi (pc := 10) C (t_X6_no e10) ok_X6_no ⟨by decide, rfl⟩ m_ml_X6_95 dX6_restore_10 ⟨Nat.le_of_ble_eq_true rfl, Nat.le_of_ble_eq_true rfl⟩ rfl rfl (Nat.le_of_ble_eq_true rfl) ?_
    exact fm_zret (pc := 13) C hF rfl rfl dX6_restore_13
  · refine fm_aload_n (pc := 14) C dX6_restore_14 rfl rfl ?_
    refine fm_aload_n (pc := 15) C dX6_restore_15 rfl rfl ?_
    refine g6_kept (pc := 16) C (by decide) dX6_restore_16 m_fl_X6_66 ?_
    refine fm_iconst (pc := 19) (v := (nI 1)) C dX6_restore_19 (by decide) ?_
    refine fm_bind (fun r20 e20 => ?_)
    refine fm_cVv (pc := 20) C (t_X6_all e20) ok_X6_all ⟨by decide, rfl⟩ m_ml_X6_162 dX6_restore_20 ⟨Nat.le_of_ble_eq_true rfl, Nat.le_of_ble_eq_true rfl⟩ rfl rfl (Nat.le_of_ble_eq_true rfl) ?_
    refine fm_iconst (pc := 23) (v := (nI 0)) C dX6_restore_23 (by decide) ?_
    refine fm_istore_n (pc := 24) C dX6_restore_24 rfl (by decide) rfl ?_
    refine fm_less (lv' := [(0, .ref (G.2.2.1 58)), (1, .int ((nI 0)))]) (by repeat (first | exact trivial | refine ⟨rfl, ?_⟩)) ?_
    refine j_X6_restore_25_ C  hF  (fun μ25 ν25 => ?_) _ _ _ _
    refine fm_aload_n (pc := 67) C dX6_restore_67 rfl rfl ?_
    refine g6_bands (pc := 68) C (by decide) dX6_restore_68 m_fl_X6_85 ?_
    exact fm_zret (pc := 71) C hF rfl rfl dX6_restore_71
theorem t_X6_restore {l : Launch} {G : fm_G}  {μ : fm_I} {ν : fm_L} {r : Int32 × fm_I × fm_L} (h : m_X6_restore  μ ν = some r) : fm_Mi l G yX6_restore cX6_restore 2 (some .int) 3 61 [.ref (G.2.2.1 58)] μ ν r := fm_Mi_of (by decide +kernel) (Nat.le_of_ble_eq_true rfl) (fun _ C => j_X6_restore C rfl r h)
theorem dX6_status_0 : decode cX6_status 0 = .ok (.iload_n 1, 1) := by decide +kernel
theorem dX6_status_1 : decode cX6_status 1 = .ok (.bipush 11, 2) := by decide +kernel
theorem dX6_status_3 : decode cX6_status 3 = .ok (.if_icmp .lt 19, 3) := by decide +kernel
theorem dX6_status_6 : decode cX6_status 6 = .ok (.iload_n 1, 1) := by decide +kernel
theorem dX6_status_7 : decode cX6_status 7 = .ok (.bipush 17, 2) := by decide +kernel
theorem dX6_status_9 : decode cX6_status 9 = .ok (.if_icmp .gt 13, 3) := by decide +kernel
theorem dX6_status_12 : decode cX6_status 12 = .ok (.aload_n 0, 1) := by decide +kernel
theorem dX6_status_13 : decode cX6_status 13 = .ok (.getfield 16, 3) := by decide +kernel
theorem dX6_status_16 : decode cX6_status 16 = .ok (.iload_n 1, 1) := by decide +kernel
theorem dX6_status_17 : decode cX6_status 17 = .ok (.bipush 10, 2) := by decide +kernel
theorem dX6_status_19 : decode cX6_status 19 = .ok (.isub, 1) := by decide +kernel
theorem dX6_status_20 : decode cX6_status 20 = .ok (.iaload, 1) := by decide +kernel
theorem dX6_status_21 : decode cX6_status 21 = .ok (.ireturn, 1) := by decide +kernel
theorem dX6_status_22 : decode cX6_status 22 = .ok (.iconst 0, 1) := by decide +kernel
theorem dX6_status_23 : decode cX6_status 23 = .ok (.istore_n 2, 1) := by decide +kernel
theorem dX6_status_24 : decode cX6_status 24 = .ok (.iload_n 1, 1) := by decide +kernel
theorem dX6_status_25 : decode cX6_status 25 = .ok (.tableswitch 85 0 4 #[35, 40, 70, 75, 80], 35) := by decide +kernel
theorem dX6_status_60 : decode cX6_status 60 = .ok (.aload_n 0, 1) := by decide +kernel
theorem dX6_status_61 : decode cX6_status 61 = .ok (.getfield 85, 3) := by decide +kernel
theorem dX6_status_64 : decode cX6_status 64 = .ok (.ireturn, 1) := by decide +kernel
theorem dX6_status_65 : decode cX6_status 65 = .ok (.iconst 0, 1) := by decide +kernel
theorem dX6_status_66 : decode cX6_status 66 = .ok (.istore_n 3, 1) := by decide +kernel
theorem dX6_status_67 : decode cX6_status 67 = .ok (.iload_n 3, 1) := by decide +kernel
theorem dX6_status_68 : decode cX6_status 68 = .ok (.aload_n 0, 1) := by decide +kernel
theorem dX6_status_69 : decode cX6_status 69 = .ok (.getfield 85, 3) := by decide +kernel
theorem dX6_status_72 : decode cX6_status 72 = .ok (.if_icmp .ge 21, 3) := by decide +kernel
theorem dX6_status_75 : decode cX6_status 75 = .ok (.aload_n 0, 1) := by decide +kernel
theorem dX6_status_76 : decode cX6_status 76 = .ok (.iload_n 3, 1) := by decide +kernel
theorem dX6_status_77 : decode cX6_status 77 = .ok (.invokevirtual 175, 3) := by decide +kernel
theorem dX6_status_80 : decode cX6_status 80 = .ok (.iload_n 2, 1) := by decide +kernel
theorem dX6_status_81 : decode cX6_status 81 = .ok (.aload_n 0, 1) := by decide +kernel
theorem dX6_status_82 : decode cX6_status 82 = .ok (.getfield 172, 3) := by decide +kernel
theorem dX6_status_85 : decode cX6_status 85 = .ok (.iadd, 1) := by decide +kernel
theorem dX6_status_86 : decode cX6_status 86 = .ok (.istore_n 2, 1) := by decide +kernel
theorem dX6_status_87 : decode cX6_status 87 = .ok (.iinc 3 1, 3) := by decide +kernel
theorem dX6_status_90 : decode cX6_status 90 = .ok (.goto (-23), 3) := by decide +kernel
theorem dX6_status_93 : decode cX6_status 93 = .ok (.iload_n 2, 1) := by decide +kernel
theorem dX6_status_94 : decode cX6_status 94 = .ok (.ireturn, 1) := by decide +kernel
theorem dX6_status_95 : decode cX6_status 95 = .ok (.aload_n 0, 1) := by decide +kernel
theorem dX6_status_96 : decode cX6_status 96 = .ok (.getfield 159, 3) := by decide +kernel
theorem dX6_status_99 : decode cX6_status 99 = .ok (.ireturn, 1) := by decide +kernel
theorem dX6_status_100 : decode cX6_status 100 = .ok (.aload_n 0, 1) := by decide +kernel
theorem dX6_status_101 : decode cX6_status 101 = .ok (.getfield 7, 3) := by decide +kernel
theorem dX6_status_104 : decode cX6_status 104 = .ok (.ireturn, 1) := by decide +kernel
theorem dX6_status_105 : decode cX6_status 105 = .ok (.aload_n 0, 1) := by decide +kernel
theorem dX6_status_106 : decode cX6_status 106 = .ok (.getfield 234, 3) := by decide +kernel
theorem dX6_status_109 : decode cX6_status 109 = .ok (.ireturn, 1) := by decide +kernel
theorem dX6_status_110 : decode cX6_status 110 = .ok (.iconst (-1), 1) := by decide +kernel
theorem dX6_status_111 : decode cX6_status 111 = .ok (.ireturn, 1) := by decide +kernel
def m_X6_status_67  (K : Int32 → fm_I → fm_L → Option (Int32 × fm_I × fm_L)) : Nat → Int32 → Int32 → fm_I → fm_L → Option (Int32 × fm_I × fm_L)
  | 0, _, _, _, _ => none
  | k + 1, v2, v3, μ, ν => if (μ 58 0) ≤ v3 then K v2 μ ν else (m_X6_cuts v3 μ ν).bind (fun r77 => m_X6_status_67 K k ((v2 + ((r77.1 58 28)))) ((v3 + nI 1)) r77.1 r77.2)
def m_X6_status (v1 : Int32) (μ : fm_I) (ν : fm_L) : Option (Int32 × fm_I × fm_L) :=
  if v1 < (nI 11) then if v1 = (nI 0) then some (((μ 58 0), μ, ν)) else if v1 = (nI 1) then m_X6_status_67  (fun x2_67 μ67 ν67 => some ((x2_67, μ67, ν67))) 5000 ((nI 0)) ((nI 0)) μ ν else if v1 = (nI 2) then some (((μ 58 1), μ, ν)) else if v1 = (nI 3) then some (((μ 58 2), μ, ν)) else if v1 = (nI 4) then some (((μ 58 32), μ, ν)) else some (((-1 : Int32), μ, ν)) else if (nI 17) < v1 then if v1 = (nI 0) then some (((μ 58 0), μ, ν)) else if v1 = (nI 1) then m_X6_status_67  (fun x2_67 μ67 ν67 => some ((x2_67, μ67, ν67))) 5000 ((nI 0)) ((nI 0)) μ ν else if v1 = (nI 2) then some (((μ 58 1), μ, ν)) else if v1 = (nI 3) then some (((μ 58 2), μ, ν)) else if v1 = (nI 4) then some (((μ 58 32), μ, ν)) else some (((-1 : Int32), μ, ν)) else fm_g (fm_in ((v1 - ((nI 10)))) (fm_n 59)) (some (((μ 59 ((v1 - ((nI 10)))).toNatClampNeg), μ, ν)))
theorem ok_X6_status : fm_okV yX6_status cX6_status 4 (some .int) 1 := ⟨m_cd_X6_status, m_im_X6_status, m_se_X6_X6_status, m_ini_X6, by decide +kernel, by decide +kernel, by decide +kernel⟩
set_option maxHeartbeats 4000000 in
set_option maxRecDepth 100000 in
theorem j_X6_status_67_ {X : fm_X} {G : fm_G} {l : Launch}  (C : fm_C X G l cX6_status RX6 4 (some .int) 4 82) {F : (Int32 × fm_I × fm_L) → State → Prop} (hF : F = fm_Qi X G)  {K : Int32 → fm_I → fm_L → Option (Int32 × fm_I × fm_L)} (hK : ∀ (v2 : Int32) (μ : fm_I) (ν : fm_L), fm_J X G 4 F (K v2 μ ν) μ ν 93 [(2, .int v2)] []) : ∀ (k : Nat) (v2 : Int32) (v3 : Int32) (μ : fm_I) (ν : fm_L), fm_J X G 4 F (m_X6_status_67  K k v2 v3 μ ν) μ ν 67 [(0, .ref (G.2.2.1 58)), (2, .int v2), (3, .int v3)] [] := by
  intro k
  induction k with
  | zero =>
    intro v2 v3 μ ν
    exact fm_none
  | succ k ih =>
    intro v2 v3 μ ν
    rw [m_X6_status_67]
    refine fm_iload_n (pc := 67) C dX6_status_67 rfl rfl ?_
    refine fm_aload_n (pc := 68) C dX6_status_68 rfl rfl ?_
    refine g6_bands (pc := 69) C (by decide) dX6_status_69 m_fl_X6_85 ?_
    refine fm_icmp_ge (pc := 72) (tgt := 93) C dX6_status_72 (by decide) (fun c4 => ?_) (fun c4 => ?_)
    · refine fm_less (lv' := [(2, .int v2)]) (by repeat (first | exact trivial | refine ⟨rfl, ?_⟩)) ?_
      exact hK _ _ _
    · refine fm_aload_n (pc := 75) C dX6_status_75 rfl rfl ?_
      refine fm_iload_n (pc := 76) C dX6_status_76 rfl rfl ?_
      refine fm_bind (fun r77 e77 => ?_)
      refine fm_cVv (pc := 77) C (t_X6_cuts e77) ok_X6_cuts ⟨by decide, rfl⟩ m_ml_X6_175 dX6_status_77 ⟨Nat.le_of_ble_eq_true rfl, Nat.le_of_ble_eq_true rfl⟩ rfl rfl (Nat.le_of_ble_eq_true rfl) ?_
      refine fm_iload_n (pc := 80) C dX6_status_80 rfl rfl ?_
      refine fm_aload_n (pc := 81) C dX6_status_81 rfl rfl ?_
      refine g6_pieces (pc := 82) C (by decide) dX6_status_82 m_fl_X6_172 ?_
      refine fm_iadd (pc := 85) C dX6_status_85 ?_
      refine fm_istore_n (pc := 86) C dX6_status_86 rfl (by decide) rfl ?_
      refine fm_iinc (pc := 87) C dX6_status_87 rfl (v := (v3 + nI 1)) rfl (by decide) rfl ?_
      refine fm_goto (pc := 90) (tgt := 67) C dX6_status_90 (by decide) ?_
      refine fm_less (lv' := [(0, .ref (G.2.2.1 58)), (2, .int ((v2 + ((r77.1 58 28))))), (3, .int ((v3 + nI 1)))]) (by repeat (first | exact trivial | refine ⟨rfl, ?_⟩)) ?_
      exact ih _ _ _ _
set_option maxHeartbeats 4000000 in
set_option maxRecDepth 100000 in
theorem j_X6_status {X : fm_X} {G : fm_G} {l : Launch} {v1 : Int32} {μ : fm_I} {ν : fm_L} (C : fm_C X G l cX6_status RX6 4 (some .int) 4 82) {F : (Int32 × fm_I × fm_L) → State → Prop} (hF : F = fm_Qi X G) : fm_J X G 4 F (m_X6_status v1 μ ν) μ ν 0 [(0, .ref (G.2.2.1 58)), (1, .int v1)] [] := by
  unfold m_X6_status
  refine fm_iload_n (pc := 0) C dX6_status_0 rfl rfl ?_
  refine fm_bipush (pc := 1) (v := (nI 11)) C dX6_status_1 (by decide) ?_
  refine fm_icmp_lt (pc := 3) (tgt := 22) C dX6_status_3 (by decide) (fun c1 => ?_) (fun c1 => ?_)
  · refine fm_iconst (pc := 22) (v := (nI 0)) C dX6_status_22 (by decide) ?_
    refine fm_istore_n (pc := 23) C dX6_status_23 rfl (by decide) rfl ?_
    refine fm_iload_n (pc := 24) C dX6_status_24 rfl rfl ?_
    refine fm_ite (fun s2 => ?_) (fun s2 => ?_)
    · refine fm_tabIn (pc := 25) (tgt := 60) (off := 35) C dX6_status_25 (by rw [s2]; decide) (by rw [s2]; decide) (by rw [s2]; decide) (by decide) ?_
      refine fm_aload_n (pc := 60) C dX6_status_60 rfl rfl ?_
      refine g6_bands (pc := 61) C (by decide) dX6_status_61 m_fl_X6_85 ?_
      exact fm_zret (pc := 64) C hF rfl rfl dX6_status_64
    · refine fm_ite (fun s3 => ?_) (fun s3 => ?_)
      · refine fm_tabIn (pc := 25) (tgt := 65) (off := 40) C dX6_status_25 (by rw [s3]; decide) (by rw [s3]; decide) (by rw [s3]; decide) (by decide) ?_
        refine fm_iconst (pc := 65) (v := (nI 0)) C dX6_status_65 (by decide) ?_
        refine fm_istore_n (pc := 66) C dX6_status_66 rfl (by decide) rfl ?_
        refine fm_less (lv' := [(0, .ref (G.2.2.1 58)), (2, .int ((nI 0))), (3, .int ((nI 0)))]) (by repeat (first | exact trivial | refine ⟨rfl, ?_⟩)) ?_
        refine j_X6_status_67_ C  hF  (fun x2_67 μ67 ν67 => ?_) _ _ _ _ _
        refine fm_iload_n (pc := 93) C dX6_status_93 rfl rfl ?_
        exact fm_zret (pc := 94) C hF rfl rfl dX6_status_94
      · refine fm_ite (fun s5 => ?_) (fun s5 => ?_)
        · refine fm_tabIn (pc := 25) (tgt := 95) (off := 70) C dX6_status_25 (by rw [s5]; decide) (by rw [s5]; decide) (by rw [s5]; decide) (by decide) ?_
          refine fm_aload_n (pc := 95) C dX6_status_95 rfl rfl ?_
          refine g6_snips (pc := 96) C (by decide) dX6_status_96 m_fl_X6_159 ?_
          exact fm_zret (pc := 99) C hF rfl rfl dX6_status_99
        · refine fm_ite (fun s6 => ?_) (fun s6 => ?_)
          · refine fm_tabIn (pc := 25) (tgt := 100) (off := 75) C dX6_status_25 (by rw [s6]; decide) (by rw [s6]; decide) (by rw [s6]; decide) (by decide) ?_
            refine fm_aload_n (pc := 100) C dX6_status_100 rfl rfl ?_
            refine g6_seed (pc := 101) C (by decide) dX6_status_101 m_fl_X6_7 ?_
            exact fm_zret (pc := 104) C hF rfl rfl dX6_status_104
          · refine fm_ite (fun s7 => ?_) (fun s7 => ?_)
            · refine fm_tabIn (pc := 25) (tgt := 105) (off := 80) C dX6_status_25 (by rw [s7]; decide) (by rw [s7]; decide) (by rw [s7]; decide) (by decide) ?_
              refine fm_aload_n (pc := 105) C dX6_status_105 rfl rfl ?_
              refine g6_ran (pc := 106) C (by decide) dX6_status_106 m_fl_X6_234 ?_
              exact fm_zret (pc := 109) C hF rfl rfl dX6_status_109
            · refine fm_tabOut (pc := 25) (tgt := 110) C dX6_status_25 (by have a0 := fm_ne (nI 0) (k := 0) (by decide) s2; have a1 := fm_ne (nI 1) (k := 1) (by decide) s3; have a2 := fm_ne (nI 2) (k := 2) (by decide) s5; have a3 := fm_ne (nI 3) (k := 3) (by decide) s6; have a4 := fm_ne (nI 4) (k := 4) (by decide) s7; omega) (by decide) ?_
              refine fm_iconst (pc := 110) (v := (-1 : Int32)) C dX6_status_110 (by decide) ?_
              exact fm_zret (pc := 111) C hF rfl rfl dX6_status_111
  · refine fm_iload_n (pc := 6) C dX6_status_6 rfl rfl ?_
    refine fm_bipush (pc := 7) (v := (nI 17)) C dX6_status_7 (by decide) ?_
    refine fm_icmp_gt (pc := 9) (tgt := 22) C dX6_status_9 (by decide) (fun c8 => ?_) (fun c8 => ?_)
    · refine fm_iconst (pc := 22) (v := (nI 0)) C dX6_status_22 (by decide) ?_
      refine fm_istore_n (pc := 23) C dX6_status_23 rfl (by decide) rfl ?_
      refine fm_iload_n (pc := 24) C dX6_status_24 rfl rfl ?_
      refine fm_ite (fun s9 => ?_) (fun s9 => ?_)
      · refine fm_tabIn (pc := 25) (tgt := 60) (off := 35) C dX6_status_25 (by rw [s9]; decide) (by rw [s9]; decide) (by rw [s9]; decide) (by decide) ?_
        refine fm_aload_n (pc := 60) C dX6_status_60 rfl rfl ?_
        refine g6_bands (pc := 61) C (by decide) dX6_status_61 m_fl_X6_85 ?_
        exact fm_zret (pc := 64) C hF rfl rfl dX6_status_64
      · refine fm_ite (fun s10 => ?_) (fun s10 => ?_)
        · refine fm_tabIn (pc := 25) (tgt := 65) (off := 40) C dX6_status_25 (by rw [s10]; decide) (by rw [s10]; decide) (by rw [s10]; decide) (by decide) ?_
          refine fm_iconst (pc := 65) (v := (nI 0)) C dX6_status_65 (by decide) ?_
          refine fm_istore_n (pc := 66) C dX6_status_66 rfl (by decide) rfl ?_
          refine fm_less (lv' := [(0, .ref (G.2.2.1 58)), (2, .int ((nI 0))), (3, .int ((nI 0)))]) (by repeat (first | exact trivial | refine ⟨rfl, ?_⟩)) ?_
          refine j_X6_status_67_ C  hF  (fun x2_67 μ67 ν67 => ?_) _ _ _ _ _
          refine fm_iload_n (pc := 93) C dX6_status_93 rfl rfl ?_
          exact fm_zret (pc := 94) C hF rfl rfl dX6_status_94
        · refine fm_ite (fun s11 => ?_) (fun s11 => ?_)
          · refine fm_tabIn (pc := 25) (tgt := 95) (off := 70) C dX6_status_25 (by rw [s11]; decide) (by rw [s11]; decide) (by rw [s11]; decide) (by decide) ?_
            refine fm_aload_n (pc := 95) C dX6_status_95 rfl rfl ?_
            refine g6_snips (pc := 96) C (by decide) dX6_status_96 m_fl_X6_159 ?_
            exact fm_zret (pc := 99) C hF rfl rfl dX6_status_99
          · refine fm_ite (fun s12 => ?_) (fun s12 => ?_)
            · refine fm_tabIn (pc := 25) (tgt := 100) (off := 75) C dX6_status_25 (by rw [s12]; decide) (by rw [s12]; decide) (by rw [s12]; decide) (by decide) ?_
              refine fm_aload_n (pc := 100) C dX6_status_100 rfl rfl ?_
              refine g6_seed (pc := 101) C (by decide) dX6_status_101 m_fl_X6_7 ?_
              exact fm_zret (pc := 104) C hF rfl rfl dX6_status_104
            · refine fm_ite (fun s13 => ?_) (fun s13 => ?_)
              · refine fm_tabIn (pc := 25) (tgt := 105) (off := 80) C dX6_status_25 (by rw [s13]; decide) (by rw [s13]; decide) (by rw [s13]; decide) (by decide) ?_
                refine fm_aload_n (pc := 105) C dX6_status_105 rfl rfl ?_
                refine g6_ran (pc := 106) C (by decide) dX6_status_106 m_fl_X6_234 ?_
                exact fm_zret (pc := 109) C hF rfl rfl dX6_status_109
              · refine fm_tabOut (pc := 25) (tgt := 110) C dX6_status_25 (by have a0 := fm_ne (nI 0) (k := 0) (by decide) s9; have a1 := fm_ne (nI 1) (k := 1) (by decide) s10; have a2 := fm_ne (nI 2) (k := 2) (by decide) s11; have a3 := fm_ne (nI 3) (k := 3) (by decide) s12; have a4 := fm_ne (nI 4) (k := 4) (by decide) s13; omega) (by decide) ?_
                refine fm_iconst (pc := 110) (v := (-1 : Int32)) C dX6_status_110 (by decide) ?_
                exact fm_zret (pc := 111) C hF rfl rfl dX6_status_111
    · refine fm_aload_n (pc := 12) C dX6_status_12 rfl rfl ?_
      refine g6_refused (pc := 13) C (by decide) dX6_status_13 m_fl_X6_16 ?_
      refine fm_iload_n (pc := 16) C dX6_status_16 rfl rfl ?_
      refine fm_bipush (pc := 17) (v := (nI 10)) C dX6_status_17 (by decide) ?_
      refine fm_isub (pc := 19) C dX6_status_19 ?_
      refine fm_guard (fun h14 => ?_)
      refine fm_iald (pc := 20) C (by decide) h14 dX6_status_20 ?_
      exact fm_zret (pc := 21) C hF rfl rfl dX6_status_21
theorem t_X6_status {l : Launch} {G : fm_G} {v1 : Int32} {μ : fm_I} {ν : fm_L} {r : Int32 × fm_I × fm_L} (h : m_X6_status v1 μ ν = some r) : fm_Mi l G yX6_status cX6_status 4 (some .int) 4 82 [.ref (G.2.2.1 58), .int v1] μ ν r := fm_Mi_of (by decide +kernel) (Nat.le_of_ble_eq_true rfl) (fun _ C => j_X6_status C rfl r h)
