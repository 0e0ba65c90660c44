/-! TABLE -/
theorem pD_l {c : Nat → Int32} {m a l h p : Nat} (q : pD c m a l h = .inl p) : p = a := by
  unfold pD at q
  by_cases z : (dg c m 4 a 0).1 = a
  · rw [if_pos z] at q
    exact (Sum.inl.inj q).symm
  · rw [if_neg z] at q
    by_cases y : (dg c m 4 a 0).2 < l ∨ h ≤ (dg c m 4 a 0).2
    · rw [if_pos y] at q
      exact (Sum.inl.inj q).symm
    · rw [if_neg y] at q
      cases q
theorem pN_l {c : Nat → Int32} {m a l h p : Nat} (ha : a ≤ m) (q : pN c m a l h = .inl p) : p ≤ m := by
  unfold pN at q
  by_cases z : a < m ∧ c a = nI 32
  · rw [if_pos z] at q
    have := pD_l q
    have := z.1
    omega
  · rw [if_neg z] at q
    have := Sum.inl.inj q
    omega
theorem nums_l {c : Nat → Int32} {m w n : Nat} {S : Nat → Nat} : ∀ (d i a p : Nat) (x : Nat → Nat), a ≤ m → nums c m w n S d i a x = .inl p → p ≤ m := by
  intro d
  induction d with
  | zero => intro i a p x _ q; rw [nums] at q; cases q
  | succ d ih =>
    intro i a p x ha q
    by_cases z : i = 0
    · subst z
      rw [nums_0] at q
      rcases hr : pD c m a (lo w 0) (hx w 0 n (S (x 0))) with p' | ⟨e, v⟩
      · rw [hr] at q
        have := Sum.inl.inj q
        have := pD_l hr
        omega
      · rw [hr] at q
        exact ih 1 e p _ ((pD_r hr).2.1 ha) q
    · obtain ⟨k, rfl⟩ : ∃ k, i = k + 1 := ⟨i - 1, by omega⟩
      rw [nums_s] at q
      rcases hr : pN c m a (lo w (k + 1)) (hx w (k + 1) n (S (x 0))) with p' | ⟨e, v⟩
      · rw [hr] at q
        have := Sum.inl.inj q
        have := pN_l ha hr
        omega
      · rw [hr] at q
        exact ih _ e p _ (pN_r hr).2.1 q
theorem pI_small {c : Nat → Int32} {m n a p : Nat} {S : Nat → Nat} (ha : a ≤ m) (hm : m ≤ 160) (q : pI c m n S a = .inl p) : p < 2147483648 := by
  have fl : fwA c m a ≤ 5 := by
    unfold fwA
    split
    · exact fw_le _
    · exact Nat.le_refl 5
  by_cases c5 : fwA c m a = 5
  · rw [pI_5 c5] at q
    have := Sum.inl.inj q
    omega
  have f5 : fwA c m a < 5 := by omega
  by_cases c0 : fwA c m a = 0 ∧ 4 ≤ mW c m a 0 ∧ n = 6
  · rw [pI_full c0.1 c0.2.1 c0.2.2] at q
    have := Sum.inl.inj q
    omega
  have mle := mW_le c m a (fwA c m a)
  have l := wl_5 (fwA c m a)
  by_cases c1 : mW c m a (fwA c m a) < wl (fwA c m a)
  · rw [pI_w rfl f5 c0 c1] at q
    have := Sum.inl.inj q
    omega
  · have am := (mW_i (c := c) (m := m) (a := a) (w := fwA c m a) (j := wl (fwA c m a) - 1) (by omega)).1
    rw [pI_m rfl f5 c0 c1] at q
    rcases hr : nums c m (fwA c m a) n S (cnt (fwA c m a)) 0 (a + wl (fwA c m a)) (fun _ => 0) with p' | ⟨e, x⟩
    · rw [hr] at q
      have := Sum.inl.inj q
      have := nums_l _ _ _ _ _ (by omega) hr
      omega
    · rw [hr] at q
      cases q
theorem op_table {μ : fm_I} {ν : fm_L} (h : Inv μ ν) (a0 : Int32) : pa_op (m_X5_table a0 μ ν) (fun μ ν => m_X6_table a0 μ ν) := by
  obtain ⟨n, F, hI⟩ := id h
  have hn := hI.1.1
  rcases sh_cases a0 with h0 | ⟨s, hs, rfl⟩
  · refine op_rf h 1 (by decide) (r := -1) ?_ ?_
    · simp -implicitDefEqProofs (disch := omega) only [m_X5_table, m_X5_rowRefusal, soX h0, ev_b, ev_b2, ev_g, ev_gF, ev_on, ev_os, ev_cl, ev_in, ev_in6, ev_eq0, ev_lt0, ev_0le, ev_le0, ev_0lt, ev_lt, ev_le, ev_eq, ev_m1a, ev_m1b, ev_m1c, ev_m1d, ev_m1e, ev_n1, ev_n4, ev_n8, ev_n9, ev_n10, ev_n11, ev_n12, ev_n13, ev_n14, ev_n15, ev_n16, ev_n17, ev_n59, ev_n60, ev_n61, ev_n62, ev_n63, ev_n64, ev_n65, ev_n66, ev_n67, ev_n68, ev_n69, ev_n70, ev_n71, ev_n72, ev_n73, ev_n74, ev_n75, ev_n76, ev_n77, ev_n78, ev_n79, ev_n80, ev_k18, ev_k34, ev_k40, ev_n26, ev_n26b, ev_n46, ev_n46b, ev_n52b, ev_uq, ev_us, ev_uj, ev_lq, ev_ls, ev_lj, ev_urq, ev_urs, ev_ulq, ev_uls, nI_add, pk_sub, pk_mul, if_true, if_false, ite_true, ite_false, decide_true, decide_false, eq_self_iff_true, Nat.reduceEqDiff, Nat.reduceLeDiff, Nat.reduceLT, Nat.reduceAdd, Nat.reduceMul, Nat.reduceSub, Nat.reduceDiv, Nat.reduceMod, ↓reduceIte, rX1]
    · show m_X6_table a0 _ ν = _
      have W : ∀ w, m_X6_wanted a0 (fm_u μ 4 1 w) ν = some (-1) := fun w => by
        simp -implicitDefEqProofs (disch := omega) only [m_X6_wanted, soM h0, ev_b, ev_b2, ev_g, ev_gF, ev_on, ev_os, ev_cl, ev_in, ev_in6, ev_eq0, ev_lt0, ev_0le, ev_le0, ev_0lt, ev_lt, ev_le, ev_eq, ev_m1a, ev_m1b, ev_m1c, ev_m1d, ev_m1e, ev_n1, ev_n4, ev_n8, ev_n9, ev_n10, ev_n11, ev_n12, ev_n13, ev_n14, ev_n15, ev_n16, ev_n17, ev_n59, ev_n60, ev_n61, ev_n62, ev_n63, ev_n64, ev_n65, ev_n66, ev_n67, ev_n68, ev_n69, ev_n70, ev_n71, ev_n72, ev_n73, ev_n74, ev_n75, ev_n76, ev_n77, ev_n78, ev_n79, ev_n80, ev_k18, ev_k34, ev_k40, ev_n26, ev_n26b, ev_n46, ev_n46b, ev_n52b, ev_uq, ev_us, ev_uj, ev_lq, ev_ls, ev_lj, ev_urq, ev_urs, ev_ulq, ev_uls, nI_add, pk_sub, pk_mul, if_true, if_false, ite_true, ite_false, decide_true, decide_false, eq_self_iff_true, Nat.reduceEqDiff, Nat.reduceLeDiff, Nat.reduceLT, Nat.reduceAdd, Nat.reduceMul, Nat.reduceSub, Nat.reduceDiv, Nat.reduceMod, ↓reduceIte]
      rw [m_X6_table, W, ev_b, if_neg (by decide), rM1, ev_b]
  rcases sh_held (hI.2.2.2.2.2.1 s hs) hI.1.1 with ⟨e1, e2⟩ | ⟨o, m, ho, hm, e1, e2, e3, e4, e5, e6⟩ | ⟨b, hb, hbn, e1, e2, e3⟩
  · refine op_rf h 3 (by decide) (r := -3) ?_ ?_
    · simp -implicitDefEqProofs (disch := omega) only [m_X5_table, m_X5_rowRefusal, shX hs, (hR0 hs ν e2).1, (hR0 hs ν e2).2, rX3, ev_b, ev_b2, ev_g, ev_gF, ev_on, ev_os, ev_cl, ev_in, ev_in6, ev_eq0, ev_lt0, ev_0le, ev_le0, ev_0lt, ev_lt, ev_le, ev_eq, ev_m1a, ev_m1b, ev_m1c, ev_m1d, ev_m1e, ev_n1, ev_n4, ev_n8, ev_n9, ev_n10, ev_n11, ev_n12, ev_n13, ev_n14, ev_n15, ev_n16, ev_n17, ev_n59, ev_n60, ev_n61, ev_n62, ev_n63, ev_n64, ev_n65, ev_n66, ev_n67, ev_n68, ev_n69, ev_n70, ev_n71, ev_n72, ev_n73, ev_n74, ev_n75, ev_n76, ev_n77, ev_n78, ev_n79, ev_n80, ev_k18, ev_k34, ev_k40, ev_n26, ev_n26b, ev_n46, ev_n46b, ev_n52b, ev_uq, ev_us, ev_uj, ev_lq, ev_ls, ev_lj, ev_urq, ev_urs, ev_ulq, ev_uls, nI_add, pk_sub, pk_mul, if_true, if_false, ite_true, ite_false, decide_true, decide_false, eq_self_iff_true, Nat.reduceEqDiff, Nat.reduceLeDiff, Nat.reduceLT, Nat.reduceAdd, Nat.reduceMul, Nat.reduceSub, Nat.reduceDiv, Nat.reduceMod, ↓reduceIte]
    · show m_X6_table (nI s) _ ν = _
      have W : ∀ w, m_X6_wanted (nI s) (fm_u μ 4 3 w) ν = some (-3) := fun w => by
        simp -implicitDefEqProofs (disch := omega) only [m_X6_wanted, shM hs, e1, ev_b, ev_b2, ev_g, ev_gF, ev_on, ev_os, ev_cl, ev_in, ev_in6, ev_eq0, ev_lt0, ev_0le, ev_le0, ev_0lt, ev_lt, ev_le, ev_eq, ev_m1a, ev_m1b, ev_m1c, ev_m1d, ev_m1e, ev_n1, ev_n4, ev_n8, ev_n9, ev_n10, ev_n11, ev_n12, ev_n13, ev_n14, ev_n15, ev_n16, ev_n17, ev_n59, ev_n60, ev_n61, ev_n62, ev_n63, ev_n64, ev_n65, ev_n66, ev_n67, ev_n68, ev_n69, ev_n70, ev_n71, ev_n72, ev_n73, ev_n74, ev_n75, ev_n76, ev_n77, ev_n78, ev_n79, ev_n80, ev_k18, ev_k34, ev_k40, ev_n26, ev_n26b, ev_n46, ev_n46b, ev_n52b, ev_uq, ev_us, ev_uj, ev_lq, ev_ls, ev_lj, ev_urq, ev_urs, ev_ulq, ev_uls, nI_add, pk_sub, pk_mul, if_true, if_false, ite_true, ite_false, decide_true, decide_false, eq_self_iff_true, Nat.reduceEqDiff, Nat.reduceLeDiff, Nat.reduceLT, Nat.reduceAdd, Nat.reduceMul, Nat.reduceSub, Nat.reduceDiv, Nat.reduceMod, ↓reduceIte]
      rw [m_X6_table, W, ev_b, if_neg (by decide), rM3, ev_b]
  · have RR : m_X5_rowRefusal (nI s) μ ν = some (nI 0) := by
      simp -implicitDefEqProofs (disch := omega) only [m_X5_rowRefusal, shX hs, (hR1 hs ho ν e4).1, (hR1 hs ho ν e4).2, ev_b, ev_b2, ev_g, ev_gF, ev_on, ev_os, ev_cl, ev_in, ev_in6, ev_eq0, ev_lt0, ev_0le, ev_le0, ev_0lt, ev_lt, ev_le, ev_eq, ev_m1a, ev_m1b, ev_m1c, ev_m1d, ev_m1e, ev_n1, ev_n4, ev_n8, ev_n9, ev_n10, ev_n11, ev_n12, ev_n13, ev_n14, ev_n15, ev_n16, ev_n17, ev_n59, ev_n60, ev_n61, ev_n62, ev_n63, ev_n64, ev_n65, ev_n66, ev_n67, ev_n68, ev_n69, ev_n70, ev_n71, ev_n72, ev_n73, ev_n74, ev_n75, ev_n76, ev_n77, ev_n78, ev_n79, ev_n80, ev_k18, ev_k34, ev_k40, ev_n26, ev_n26b, ev_n46, ev_n46b, ev_n52b, ev_uq, ev_us, ev_uj, ev_lq, ev_ls, ev_lj, ev_urq, ev_urs, ev_ulq, ev_uls, nI_add, pk_sub, pk_mul, if_true, if_false, ite_true, ite_false, decide_true, decide_false, eq_self_iff_true, Nat.reduceEqDiff, Nat.reduceLeDiff, Nat.reduceLT, Nat.reduceAdd, Nat.reduceMul, Nat.reduceSub, Nat.reduceDiv, Nat.reduceMod, ↓reduceIte]
    have hV : stV n F := ⟨hn, fun b hb => (hI.2.1 b hb).1⟩
    obtain ⟨μ1, b1, b2, b3, b4⟩ := bg_X (F := F) hs ho hm hn e6 e4 e5 (fun b hb => (hI.2.1 b hb).2.1)
    have RD := rd_X hm (fun μ2 ν2 => (m_X3_failAt ((μ2 6 2)) μ2 ν2).bind (fun r54 => some ((r54.2.1, r54.2.2)))) ν 23 0 5000 0 n F μ1 (by omega) (by omega) (by omega) (Nat.zero_le _) hV b3 b4
    have fr12 : ∀ μ2, rF μ1 μ2 → ∀ y, y ≠ 6 → y ≠ 14 → y ≠ 15 → y ≠ 16 → y ≠ 17 → μ2 y = μ y := fun μ2 t y h6 h14 h15 h16 h17 => by rw [t y h6 h15 h16 h17, b2 y h6 h14 h15]
    have TX : ∀ μ2, m_X3_readItems μ1 ν = some (μ2, ν) → m_X5_table (nI s) μ ν = if μ2 6 0 = (-1 : Int32) then m_X5_table_72 (fun μ72 ν72 => some (((μ72 6 1), μ72, ν72))) 5000 (nI 0) (fm_u μ2 0 13 (μ2 6 0)) ν else (m_X5_refuse (nI 6) (fm_u μ2 0 13 (μ2 6 0)) ν).bind (fun r66 => some ((r66.1, r66.2.1, r66.2.2))) := fun μ2 t => by
      rw [m_X5_table, RR, ev_b, if_pos (by decide), ev_in (by omega) (by omega), ev_g, ev_cl (by omega), hI.1.2.1, b1, ev_b, t, ev_b, ev_us]
    rcases hr : rn (fun i => (ν 70 (160 * s + i)).toInt32) m 23 0 n F with p | L
    · obtain ⟨μ2, r1, r2, r3⟩ := RD.1 p hr
      have fr := fr12 μ2 r2
      have pm : ¬ nI p = (-1 : Int32) := by
        have key : ∀ (d q a n : Nat) (F : Nat → Nat → Nat), q + d = 23 → 7 * q ≤ a → a ≤ m → stV n F → rn (fun i => (ν 70 (160 * s + i)).toInt32) m d a n F = .inl p → p < 2147483648 := by
          intro d
          induction d with
          | zero => intro q a n F hq h7 ha; omega
          | succ d ih =>
            intro q a n F hq h7 ha hV hh
            rcases hp : pI (fun i => (ν 70 (160 * s + i)).toInt32) m n (fun b => F b 2) a with ps | ⟨e, w, x⟩
            · rw [rn_l hp] at hh
              obtain rfl := Sum.inl.inj hh
              exact pI_small ha hm hp
            · obtain ⟨_, w5, ae, em, o⟩ := pI_r hp
              by_cases z : m ≤ e
              · rw [rn_e hp z] at hh; cases hh
              · by_cases y : (ν 70 (160 * s + e)).toInt32 = nI 59
                · rw [rn_c hp z y] at hh
                  rcases hr2 : rn (fun i => (ν 70 (160 * s + i)).toInt32) m d (e + 1) (exN w n) (exF w x n F) with ps | L
                  · rw [hr2] at hh
                    obtain rfl := Sum.inl.inj hh
                    exact ih (q + 1) (e + 1) (exN w n) (exF w x n F) (by omega) (by omega) (by omega) (stV_e hV o).1 hr2
                  · rw [hr2] at hh; cases hh
                · rw [rn_n hp z y] at hh
                  obtain rfl := Sum.inl.inj hh
                  omega
        have ps := key 23 0 0 n F (by omega) (by omega) (Nat.zero_le _) hV hr
        rw [ev_m1a ps]
        exact not_false
      have X := TX μ2 r1
      rw [r3, if_neg pm, rX6, ev_b] at X
      obtain ⟨n', F', hJ⟩ := inv_rf h (k := 6) (by decide)
      have h3 : ∀ y, y ≠ 0 → y ≠ 4 → y ≠ 6 → y ≠ 14 → y ≠ 15 → y ≠ 16 → y ≠ 17 → (fm_u (fm_u μ2 0 13 (nI p)) 4 6 ((fm_u μ2 0 13 (nI p)) 4 6 + nI 1)) y = μ y := fun y y0 y4 y6 y14 y15 y16 y17 => by rw [ev_uq y4, ev_uq y0, fr y y6 y14 y15 y16 y17]
      have g3 : (fm_u (fm_u μ2 0 13 (nI p)) 4 6 ((fm_u μ2 0 13 (nI p)) 4 6 + nI 1)) 4 = upd (μ 4) 6 (μ 4 6 + nI 1) := by
        rw [fm_u_self, ev_uq (by decide), fr 4 (by decide) (by decide) (by decide) (by decide) (by decide)]
      have k3 : ∀ j, j ≠ 13 → (fm_u (fm_u μ2 0 13 (nI p)) 4 6 ((fm_u μ2 0 13 (nI p)) 4 6 + nI 1)) 0 j = μ 0 j := fun j hj => by rw [ev_uq (by decide), ev_uj hj, fr 0 (by decide) (by decide) (by decide) (by decide) (by decide)]
      have k3' : (fm_u (fm_u μ2 0 13 (nI p)) 4 6 ((fm_u μ2 0 13 (nI p)) 4 6 + nI 1)) 0 13 = nI p := by rw [ev_uq (by decide), ev_us]
      have hX3 : m_X5_table (nI s) μ ν = some (-6, fm_u (fm_u μ2 0 13 (nI p)) 4 6 ((fm_u μ2 0 13 (nI p)) 4 6 + nI 1), ν) := X
      generalize (fm_u (fm_u μ2 0 13 (nI p)) 4 6 ((fm_u μ2 0 13 (nI p)) 4 6 + nI 1)) = μ3 at *
      obtain ⟨μ4, A1, A2, A3, A4, A5, A6, A7⟩ := all_O 74 (Or.inl rfl) μ3 ν
      have f4 : ∀ y, 58 ≤ y → y ≠ 74 → μ4 y = μ y := fun y y1 y2 => by rw [A2 y y2, h3 y (by omega) (by omega) (by omega) (by omega) (by omega) (by omega) (by omega)]
      have hq : qS s m 0 (fm_u (fm_u (fm_u (fm_u μ4 58 19 (nI (160 * s))) 58 20 (nI 0)) 58 21 (nI m)) 58 3 (-1)) := ⟨by rw [ev_uj (by decide), ev_uj (by decide), ev_uj (by decide), ev_us], by rw [ev_uj (by decide), ev_uj (by decide), ev_us], by rw [ev_uj (by decide), ev_us], fun i hi => by rw [ev_uq (by decide), ev_uq (by decide), ev_uq (by decide), ev_uq (by decide), f4 72 (by decide) (by decide)]; exact hI.2.2.2.2.2.2.2.2 i hi⟩
      have hM : clM n F (μ 0 8) (μ 0 9) (-1) (fm_u (fm_u (fm_u (fm_u μ4 58 19 (nI (160 * s))) 58 20 (nI 0)) 58 21 (nI m)) 58 3 (-1)) := ⟨by rw [ev_uj (by decide), ev_uj (by decide), ev_uj (by decide), ev_uj (by decide), f4 58 (by decide) (by decide)]; exact hI.1.2.2, by rw [ev_uj (by decide), ev_uj (by decide), ev_uj (by decide), ev_uj (by decide), f4 58 (by decide) (by decide)]; exact hI.2.2.2.1.1, by rw [ev_uj (by decide), ev_uj (by decide), ev_uj (by decide), ev_uj (by decide), f4 58 (by decide) (by decide)]; exact hI.2.2.2.1.2.1, ev_us, fun b hb => kp_M (hI.2.1 b hb).2.2 (fun q q1 q2 => by rw [ev_uq (by omega), ev_uq (by omega), ev_uq (by omega), ev_uq (by omega), f4 q (by omega) (by omega)])⟩
      obtain ⟨v, μ5, T1, T2, T3⟩ := (rt_M (c := fun i => (ν 70 (160 * s + i)).toInt32) (fun _ => rfl) hs hm 23 0 0 n 5000 1 F (fm_u (fm_u (fm_u (fm_u μ4 58 19 (nI (160 * s))) 58 20 (nI 0)) 58 21 (nI m)) 58 3 (-1)) (by omega) (by omega) (by omega) (Nat.zero_le _) hV hq hM).1 p hr
      obtain ⟨μ6, B1, B2, B3, B4, B5, B6, B7, B8⟩ := all_I 74 (Or.inl rfl) μ5 ν
      have c74 : μ5 74 = μ4 74 := by rw [T3.1 74 (by decide) (by decide) (by decide), ev_uq (by decide), ev_uq (by decide), ev_uq (by decide), ev_uq (by decide)]
      have f6 : ∀ y, y ≠ 58 → ¬ (60 ≤ y ∧ y ≤ 65) → y ≠ 73 → y ≠ 74 → μ6 y = μ3 y := fun y y1 y2 y3 y4 => by rw [B2 y y1 y2, T3.1 y y1 y2 y3, ev_uq y1, ev_uq y1, ev_uq y1, ev_uq y1, A2 y y4]
      have p6 : μ6 58 23 = nI p := by rw [B3 23 (by decide)]; exact T2
      have f658 : ∀ k, k = 32 ∨ k = 33 → μ6 58 k = μ3 58 k := fun k hk => by rw [B3 k (by omega), T3.2 k (by omega) (by omega) (by omega) (by omega), ev_uj (by omega), ev_uj (by omega), ev_uj (by omega), ev_uj (by omega), A2 58 (by decide)]
      have WT : m_X6_wanted (nI s) μ3 ν = some (nI 0) := by
        have z : μ3 66 s = nI 1 := by rw [h3 66 (by decide) (by decide) (by decide) (by decide) (by decide) (by decide) (by decide)]; exact e1
        simp -implicitDefEqProofs (disch := omega) only [m_X6_wanted, shM hs, z, ev_b, ev_b2, ev_g, ev_gF, ev_on, ev_os, ev_cl, ev_in, ev_in6, ev_eq0, ev_lt0, ev_0le, ev_le0, ev_0lt, ev_lt, ev_le, ev_eq, ev_m1a, ev_m1b, ev_m1c, ev_m1d, ev_m1e, ev_n1, ev_n4, ev_n8, ev_n9, ev_n10, ev_n11, ev_n12, ev_n13, ev_n14, ev_n15, ev_n16, ev_n17, ev_n59, ev_n60, ev_n61, ev_n62, ev_n63, ev_n64, ev_n65, ev_n66, ev_n67, ev_n68, ev_n69, ev_n70, ev_n71, ev_n72, ev_n73, ev_n74, ev_n75, ev_n76, ev_n77, ev_n78, ev_n79, ev_n80, ev_k18, ev_k34, ev_k40, ev_n26, ev_n26b, ev_n46, ev_n46b, ev_n52b, ev_uq, ev_us, ev_uj, ev_lq, ev_ls, ev_lj, ev_urq, ev_urs, ev_ulq, ev_uls, nI_add, pk_sub, pk_mul, if_true, if_false, ite_true, ite_false, decide_true, decide_false, eq_self_iff_true, Nat.reduceEqDiff, Nat.reduceLeDiff, Nat.reduceLT, Nat.reduceAdd, Nat.reduceMul, Nat.reduceSub, Nat.reduceDiv, Nat.reduceMod, ↓reduceIte]
      have z68 : μ4 68 s = nI m := by rw [f4 68 (by decide) (by decide)]; exact e3
      refine op_mk (r := -6) (μ1 := μ3) (ν1 := ν) (μ2 := fm_u (fm_u μ6 58 3 (nI p)) 59 6 ((fm_u μ6 58 3 (nI p)) 59 6 + nI 1)) (ν2 := ν) hX3 ?_ ?_
      · show m_X6_table (nI s) μ3 ν = _
        rw [m_X6_table, WT, ev_b, if_pos (by decide), A1, ev_b, ev_in (by rw [ev_n68]; omega) (by omega), ev_g, ev_cl (by omega), pk_mul]
        rw [show ((fm_u (fm_u (μ4, ν).1 58 19 (nI (160 * s))) 58 20 (nI 0)) 68 s) = nI m by
          show (fm_u (fm_u μ4 58 19 (nI (160 * s))) 58 20 (nI 0)) 68 s = nI m
          rw [ev_uq (by decide), ev_uq (by decide)]
          exact z68]
        refine (T1 _).trans ?_
        refine (if_pos nI0).trans ?_
        rw [B1, ev_b]
        show (m_X6_no (-6) (fm_u μ6 58 3 (μ6 58 23)) ν).bind _ = _
        rw [p6, rM6, ev_b]
      · have q59 : (fm_u μ6 58 3 (nI p)) 59 = μ 59 := by rw [ev_uq (by decide), f6 59 (by decide) (by decide) (by decide) (by decide), h3 59 (by decide) (by decide) (by decide) (by decide) (by decide) (by decide) (by decide)]
        have m59 : μ3 59 = μ 59 := h3 59 (by decide) (by decide) (by decide) (by decide) (by decide) (by decide) (by decide)
        have j0 : ∀ y, y ≠ 4 → y ≠ 59 → (fm_u (fm_u μ 4 6 (μ 4 6 + nI 1)) 59 6 ((fm_u μ 4 6 (μ 4 6 + nI 1)) 59 6 + nI 1)) y = μ y := fun y y1 y2 => by rw [ev_uq y2, ev_uq y1]
        have j4 : (fm_u (fm_u μ 4 6 (μ 4 6 + nI 1)) 59 6 ((fm_u μ 4 6 (μ 4 6 + nI 1)) 59 6 + nI 1)) 4 = upd (μ 4) 6 (μ 4 6 + nI 1) := by rw [ev_uq (by decide), fm_u_self]
        have j59 : (fm_u (fm_u μ 4 6 (μ 4 6 + nI 1)) 59 6 ((fm_u μ 4 6 (μ 4 6 + nI 1)) 59 6 + nI 1)) 59 = upd (μ 59) 6 (μ 59 6 + nI 1) := by rw [fm_u_self, ev_uq (by decide)]
        have n6' := hJ.1.1
        have jX := hJ.2.1
        generalize (fm_u (fm_u μ 4 6 (μ 4 6 + nI 1)) 59 6 ((fm_u μ 4 6 (μ 4 6 + nI 1)) 59 6 + nI 1)) = μr at *
        have x3 : ∀ y, y ≠ 0 → y ≠ 4 → y ≠ 6 → y ≠ 14 → y ≠ 15 → y ≠ 16 → y ≠ 17 → y ≠ 59 → (fm_u μ3 59 6 (μ 59 6 + nI 1)) y = μr y := fun y y0 y4 y6 y14 y15 y16 y17 y59 => by rw [ev_uq y59, h3 y y0 y4 y6 y14 y15 y16 y17, j0 y y4 y59]
        refine inv_fr (n := n') (n' := n') (F := F') (F' := F') (s := μ 0 8) (p := μ 0 9) (f := nI p) (μ := μr) (μ1 := fm_u μ3 59 6 (μ 59 6 + nI 1)) hJ (Nat.le_refl _) n6' ⟨fun q hq => ?_, fun k k1 k2 => ?_, fun b hb => ?_⟩ ⟨fun q hq => ?_, fun k hk => ?_⟩ ⟨?_, ?_, ?_, ?_, fun b hb => ?_⟩ ⟨?_, ?_, ?_, ?_, fun b hb => ?_⟩ (fun b hb => (jX b hb).1) (fun _ _ => rfl)
        · obtain ⟨q0, q1, q2, q5, q6, q9⟩ := hq
          by_cases z4 : q = 4
          · rw [z4, ev_uq (by decide), g3, j4]
          · by_cases z59 : q = 59
            · rw [z59, fm_u_self, m59, j59]
            · exact x3 q (by omega) z4 (by omega) (by omega) (by omega) (by omega) (by omega) z59
        · rw [ev_uq (by decide), k3 k (by omega), j0 0 (by decide) (by decide)]
        · rw [x3 (34 + b) (by omega) (by omega) (by omega) (by omega) (by omega) (by omega) (by omega) (by omega)]
        · obtain ⟨q58, q60, q73, q74, q76⟩ := hq
          by_cases z59 : q = 59
          · rw [z59, fm_u_self, fm_u_self, q59, m59]
          · rw [ev_uq z59, ev_uq z59, ev_uq q58, f6 q q58 q60 q73 q74]
        · rw [ev_uq (by decide), ev_uj (by omega), ev_uq (by decide), f658 k hk]
        · rw [ev_uq (by decide), k3 7 (by decide), ← hJ.1.2.1, j0 0 (by decide) (by decide)]
        · rw [ev_uq (by decide), k3 8 (by decide)]
        · rw [ev_uq (by decide), k3 9 (by decide)]
        · rw [ev_uq (by decide), k3']
        · exact kp_X (jX b hb).2.1 (x3 _ (by omega) (by omega) (by omega) (by omega) (by omega) (by omega) (by omega) (by omega)) (x3 _ (by omega) (by omega) (by omega) (by omega) (by omega) (by omega) (by omega) (by omega))
        · rw [ev_uq (by decide), ev_uj (by decide), B6, c74, A5, h3 58 (by decide) (by decide) (by decide) (by decide) (by decide) (by decide) (by decide), ← hJ.1.2.2, j0 58 (by decide) (by decide)]
        · rw [ev_uq (by decide), ev_uj (by decide), B8, c74, A7, h3 58 (by decide) (by decide) (by decide) (by decide) (by decide) (by decide) (by decide)]
          exact hI.2.2.2.1.1
        · rw [ev_uq (by decide), ev_uj (by decide), B7, c74, A6, h3 58 (by decide) (by decide) (by decide) (by decide) (by decide) (by decide) (by decide)]
          exact hI.2.2.2.1.2.1
        · rw [ev_uq (by decide), ev_us]
        · obtain ⟨u0, u1, u2, u3, u4, u5⟩ := (jX b hb).2.2
          have R : ∀ q, 60 ≤ q → q ≤ 65 → (fm_u (fm_u μ6 58 3 (nI p)) 59 6 ((fm_u μ6 58 3 (nI p)) 59 6 + nI 1)) q = μ6 q := fun q q1 q2 => by rw [ev_uq (by omega), ev_uq (by omega)]
          have M3 : ∀ q, 60 ≤ q → q ≤ 65 → μ3 q = μr q := fun q q1 q2 => by rw [h3 q (by omega) (by omega) (by omega) (by omega) (by omega) (by omega) (by omega), j0 q (by omega) (by omega)]
          obtain ⟨v0, v1, v2, v3, v4⟩ := B4 b (by omega)
          obtain ⟨w0, w1, w2, w3, w4⟩ := A3 b (by omega)
          refine ⟨?_, ?_, ?_, ?_, ?_, fun i hi => ?_⟩
          · rw [R 60 (by decide) (by decide), v0, c74, w0, M3 60 (by decide) (by decide)]; exact u0
          · rw [R 61 (by decide) (by decide), v1, c74, w1, M3 61 (by decide) (by decide)]; exact u1
          · rw [R 62 (by decide) (by decide), v2, c74, w2, M3 62 (by decide) (by decide)]; exact u2
          · rw [R 63 (by decide) (by decide), v3, c74, w3, M3 63 (by decide) (by decide)]; exact u3
          · rw [R 64 (by decide) (by decide), v4, c74, w4, M3 64 (by decide) (by decide)]; exact u4
          · rw [R 65 (by decide) (by decide), B5 (12 * b + i) (by omega), c74, A4 (12 * b + i) (by omega), M3 65 (by decide) (by decide)]; exact u5 i hi
    · obtain ⟨μ2, r1, r2, r3, r4, r5, r6, _, _⟩ := RD.2 L hr
      have fr := fr12 μ2 r2
      have X := TX μ2 r1
      have hv := rn_v 23 0 n F L hr
      rw [r3, if_pos rfl] at X
      have cx0 : clX n F (μ 0 8) (μ 0 9) (-1) (fm_u μ2 0 13 (-1)) := ⟨by rw [ev_uj (by decide), fr 0 (by decide) (by decide) (by decide) (by decide) (by decide)]; exact hI.1.2.1, by rw [ev_uj (by decide), fr 0 (by decide) (by decide) (by decide) (by decide) (by decide)], by rw [ev_uj (by decide), fr 0 (by decide) (by decide) (by decide) (by decide) (by decide)], ev_us, fun b hb => kp_X (hI.2.1 b hb).2.1 (by rw [ev_uq (by omega), fr _ (by omega) (by omega) (by omega) (by omega) (by omega)]) (by rw [ev_uq (by omega), fr _ (by omega) (by omega) (by omega) (by omega) (by omega)])⟩
      have fx0 : frX μ (fm_u μ2 0 13 (-1)) := ⟨fun q hq => by
        obtain ⟨q0, q1, q2, q5, q6, q9⟩ := hq
        rw [ev_uq q0, fr q q6 (by omega) (by omega) (by omega) (by omega)], fun k k1 k2 => by rw [ev_uj (by omega), fr 0 (by decide) (by decide) (by decide) (by decide) (by decide)], fun b hb => by rw [ev_uq (by omega), fr _ (by omega) (by omega) (by omega) (by omega) (by omega)]⟩
      obtain ⟨μ3, t1, t2', t3, t4⟩ := tb_72 (fun μ72 ν72 => some (((μ72 6 1), μ72, ν72))) ν L 0 5000 n F (fm_u μ2 0 13 (-1)) r5 (by omega) (by rw [ev_uq (by decide)]; exact r4) hV hv (rc_k (ev_uq (by decide)) (ev_uq (by decide)) L 0 r6) cx0
      have fX := frX_t fx0 t2'
      have hX3 : m_X5_table (nI s) μ ν = some (nI L.length, μ3, ν) := by
        rw [X, t1, t4, ev_uq (by decide), r4, Nat.zero_add]
      have f58 : ∀ q, 58 ≤ q → μ3 q = μ q := fun q hq => fX.1 q ⟨by omega, by omega, by omega, by omega, by omega, by omega⟩
      obtain ⟨μ4, A1, A2, A3, A4, A5, A6, A7⟩ := all_O 74 (Or.inl rfl) μ3 ν
      have f4 : ∀ y, 58 ≤ y → y ≠ 74 → μ4 y = μ y := fun y y1 y2 => by rw [A2 y y2, f58 y y1]
      have hq : qS s m 0 (fm_u (fm_u (fm_u (fm_u μ4 58 19 (nI (160 * s))) 58 20 (nI 0)) 58 21 (nI m)) 58 3 (-1)) := ⟨by rw [ev_uj (by decide), ev_uj (by decide), ev_uj (by decide), ev_us], by rw [ev_uj (by decide), ev_uj (by decide), ev_us], by rw [ev_uj (by decide), ev_us], fun i hi => by rw [ev_uq (by decide), ev_uq (by decide), ev_uq (by decide), ev_uq (by decide), f4 72 (by decide) (by decide)]; exact hI.2.2.2.2.2.2.2.2 i hi⟩
      have hM : clM n F (μ 0 8) (μ 0 9) (-1) (fm_u (fm_u (fm_u (fm_u μ4 58 19 (nI (160 * s))) 58 20 (nI 0)) 58 21 (nI m)) 58 3 (-1)) := ⟨by rw [ev_uj (by decide), ev_uj (by decide), ev_uj (by decide), ev_uj (by decide), f4 58 (by decide) (by decide)]; exact hI.1.2.2, by rw [ev_uj (by decide), ev_uj (by decide), ev_uj (by decide), ev_uj (by decide), f4 58 (by decide) (by decide)]; exact hI.2.2.2.1.1, by rw [ev_uj (by decide), ev_uj (by decide), ev_uj (by decide), ev_uj (by decide), f4 58 (by decide) (by decide)]; exact hI.2.2.2.1.2.1, ev_us, fun b hb => kp_M (hI.2.1 b hb).2.2 (fun q q1 q2 => by rw [ev_uq (by omega), ev_uq (by omega), ev_uq (by omega), ev_uq (by omega), f4 q (by omega) (by omega)])⟩
      obtain ⟨μ5, T1, T2, T3, T4⟩ := (rt_M (c := fun i => (ν 70 (160 * s + i)).toInt32) (fun _ => rfl) hs hm 23 0 0 n 5000 1 F (fm_u (fm_u (fm_u (fm_u μ4 58 19 (nI (160 * s))) 58 20 (nI 0)) 58 21 (nI m)) 58 3 (-1)) (by omega) (by omega) (by omega) (Nat.zero_le _) hV hq hM).2 L hr
      obtain ⟨V1, V2⟩ := fo_V L n F hV hv
      have WT : m_X6_wanted (nI s) μ3 ν = some (nI 0) := by
        have z : μ3 66 s = nI 1 := by rw [f58 66 (by decide)]; exact e1
        simp -implicitDefEqProofs (disch := omega) only [m_X6_wanted, shM hs, z, ev_b, ev_b2, ev_g, ev_gF, ev_on, ev_os, ev_cl, ev_in, ev_in6, ev_eq0, ev_lt0, ev_0le, ev_le0, ev_0lt, ev_lt, ev_le, ev_eq, ev_m1a, ev_m1b, ev_m1c, ev_m1d, ev_m1e, ev_n1, ev_n4, ev_n8, ev_n9, ev_n10, ev_n11, ev_n12, ev_n13, ev_n14, ev_n15, ev_n16, ev_n17, ev_n59, ev_n60, ev_n61, ev_n62, ev_n63, ev_n64, ev_n65, ev_n66, ev_n67, ev_n68, ev_n69, ev_n70, ev_n71, ev_n72, ev_n73, ev_n74, ev_n75, ev_n76, ev_n77, ev_n78, ev_n79, ev_n80, ev_k18, ev_k34, ev_k40, ev_n26, ev_n26b, ev_n46, ev_n46b, ev_n52b, ev_uq, ev_us, ev_uj, ev_lq, ev_ls, ev_lj, ev_urq, ev_urs, ev_ulq, ev_uls, nI_add, pk_sub, pk_mul, if_true, if_false, ite_true, ite_false, decide_true, decide_false, eq_self_iff_true, Nat.reduceEqDiff, Nat.reduceLeDiff, Nat.reduceLT, Nat.reduceAdd, Nat.reduceMul, Nat.reduceSub, Nat.reduceDiv, Nat.reduceMod, ↓reduceIte]
      have z68 : μ4 68 s = nI m := by rw [f4 68 (by decide) (by decide)]; exact e3
      refine op_mk (r := nI L.length) (μ1 := μ3) (ν1 := ν) (μ2 := μ5) (ν2 := ν) hX3 ?_ (inv_fr hI V2 V1.1 fX ⟨fun q hq => ?_, fun k hk => ?_⟩ t3 T2 V1.2 (fun _ _ => rfl))
      · show m_X6_table (nI s) μ3 ν = _
        rw [m_X6_table, WT, ev_b, if_pos (by decide), A1, ev_b, ev_in (by rw [ev_n68]; omega) (by omega), ev_g, ev_cl (by omega), pk_mul]
        rw [show ((fm_u (fm_u (μ4, ν).1 58 19 (nI (160 * s))) 58 20 (nI 0)) 68 s) = nI m by
          show (fm_u (fm_u μ4 58 19 (nI (160 * s))) 58 20 (nI 0)) 68 s = nI m
          rw [ev_uq (by decide), ev_uq (by decide)]
          exact z68]
        refine (T1 _).trans ?_
        refine (if_neg nI1n).trans ?_
        rw [Nat.add_sub_cancel_left]
      · obtain ⟨q58, q60, q73, q74, q76⟩ := hq
        rw [T3.1 q q58 q60 q73, ev_uq q58, ev_uq q58, ev_uq q58, ev_uq q58, A2 q q74]
      · rw [T3.2 k (by omega) (by omega) (by omega) (by omega), ev_uj (by omega), ev_uj (by omega), ev_uj (by omega), ev_uj (by omega), A2 58 (by decide)]
  · refine op_rf h 2 (by decide) (r := -2) ?_ ?_
    · simp -implicitDefEqProofs (disch := omega) only [m_X5_table, m_X5_rowRefusal, shX hs, (hR2 hs hb ν e3).1, (hR2 hs hb ν e3).2, rX2, ev_b, ev_b2, ev_g, ev_gF, ev_on, ev_os, ev_cl, ev_in, ev_in6, ev_eq0, ev_lt0, ev_0le, ev_le0, ev_0lt, ev_lt, ev_le, ev_eq, ev_m1a, ev_m1b, ev_m1c, ev_m1d, ev_m1e, ev_n1, ev_n4, ev_n8, ev_n9, ev_n10, ev_n11, ev_n12, ev_n13, ev_n14, ev_n15, ev_n16, ev_n17, ev_n59, ev_n60, ev_n61, ev_n62, ev_n63, ev_n64, ev_n65, ev_n66, ev_n67, ev_n68, ev_n69, ev_n70, ev_n71, ev_n72, ev_n73, ev_n74, ev_n75, ev_n76, ev_n77, ev_n78, ev_n79, ev_n80, ev_k18, ev_k34, ev_k40, ev_n26, ev_n26b, ev_n46, ev_n46b, ev_n52b, ev_uq, ev_us, ev_uj, ev_lq, ev_ls, ev_lj, ev_urq, ev_urs, ev_ulq, ev_uls, nI_add, pk_sub, pk_mul, if_true, if_false, ite_true, ite_false, decide_true, decide_false, eq_self_iff_true, Nat.reduceEqDiff, Nat.reduceLeDiff, Nat.reduceLT, Nat.reduceAdd, Nat.reduceMul, Nat.reduceSub, Nat.reduceDiv, Nat.reduceMod, ↓reduceIte]
    · show m_X6_table (nI s) _ ν = _
      have W : ∀ w, m_X6_wanted (nI s) (fm_u μ 4 2 w) ν = some (-2) := fun w => by
        simp -implicitDefEqProofs (disch := omega) only [m_X6_wanted, shM hs, e1, ev_b, ev_b2, ev_g, ev_gF, ev_on, ev_os, ev_cl, ev_in, ev_in6, ev_eq0, ev_lt0, ev_0le, ev_le0, ev_0lt, ev_lt, ev_le, ev_eq, ev_m1a, ev_m1b, ev_m1c, ev_m1d, ev_m1e, ev_n1, ev_n4, ev_n8, ev_n9, ev_n10, ev_n11, ev_n12, ev_n13, ev_n14, ev_n15, ev_n16, ev_n17, ev_n59, ev_n60, ev_n61, ev_n62, ev_n63, ev_n64, ev_n65, ev_n66, ev_n67, ev_n68, ev_n69, ev_n70, ev_n71, ev_n72, ev_n73, ev_n74, ev_n75, ev_n76, ev_n77, ev_n78, ev_n79, ev_n80, ev_k18, ev_k34, ev_k40, ev_n26, ev_n26b, ev_n46, ev_n46b, ev_n52b, ev_uq, ev_us, ev_uj, ev_lq, ev_ls, ev_lj, ev_urq, ev_urs, ev_ulq, ev_uls, nI_add, pk_sub, pk_mul, if_true, if_false, ite_true, ite_false, decide_true, decide_false, eq_self_iff_true, Nat.reduceEqDiff, Nat.reduceLeDiff, Nat.reduceLT, Nat.reduceAdd, Nat.reduceMul, Nat.reduceSub, Nat.reduceDiv, Nat.reduceMod, ↓reduceIte]
      rw [m_X6_table, W, ev_b, if_neg (by decide), rM2, ev_b]
