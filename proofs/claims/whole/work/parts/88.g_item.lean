/-! THE CLASS READS A NUMBER, AN ITEM -/
theorem vle {b h : Nat} (hb : b < 2147483647) (e : b + 1 = h) : ∀ v, v < 10000 → (nI v ≤ nI b ↔ v < h) := fun v hv => ⟨fun z => by have := (nI_leI (by omega) (by omega)).mp z; omega, fun z => le_i (by omega) (by omega)⟩
theorem vle_n {n : Nat} {x : Int32} (hn : n ≤ 6) (e : x = nI n) : ∀ v, v < 10000 → (nI v ≤ x - nI 1 ↔ v < n) := by
  intro v hv
  rw [e]
  by_cases z : n = 0
  · rw [z, show nI 0 - nI 1 = (-1 : Int32) by decide, ev_m1c (by omega)]
    exact ⟨fun w => w.elim, fun w => absurd w (by omega)⟩
  · rw [pk_sub (by omega)]
    exact vle (by omega) (by omega) v hv
theorem rn_X {c : Nat → Int32} {m a n q p lw hw : Nat} {S : Nat → Nat} {v3 : Int32} (hm : m ≤ 160) (ha : a ≤ m) (hp : p < 4) (hq : q < 23) (hlo : lw ≤ 1) (hv3 : ∀ v, v < 10000 → (nI v ≤ v3 ↔ v < hw)) {μ : fm_I} (ν : fm_L) (h : rS c m a n q S μ) : (∀ e v, pN c m a lw hw = .inr (e, v) → ∃ μ', m_X3_readNumber (nI p) (nI lw) v3 μ ν = some (nI 1, μ', ν) ∧ rS c m e n q S μ' ∧ (∀ y, y ≠ 6 → y ≠ 17 → μ' y = μ y) ∧ μ' 6 0 = μ 6 0 ∧ μ' 17 (q * 4 + p) = nI v ∧ ∀ y, y ≠ q * 4 + p → μ' 17 y = μ 17 y) ∧ (∀ ps, pN c m a lw hw = .inl ps → ∃ μ', m_X3_readNumber (nI p) (nI lw) v3 μ ν = some (nI 0, μ', ν) ∧ (∀ y, y ≠ 6 → y ≠ 17 → μ' y = μ y) ∧ μ' 6 0 = nI ps) := by
  have R := rl_X h hm ha (nI 32) ν
  by_cases z : a < m ∧ c a = nI 32
  · have R1 := R.1 z
    obtain ⟨μ1, D, d2, d3, d4⟩ := dg_X hm ν 4 0 5000 (a + 1) 0 (fm_u μ 6 2 (nI (a + 1))) (by omega) (by omega) (by omega) (rS_m h (a + 1))
    have b1 := dg_b c m 4 (a + 1) 0
    have bv := dg_v c m 4 0 (a + 1) 0 (by decide) (by decide)
    have f1 : ∀ y, y ≠ 6 → μ1 y = μ y := fun y hy => by rw [d3 y hy, ev_uq hy]
    have g0 : μ1 6 0 = μ 6 0 := by rw [d4, ev_uj (by decide)]
    have hP : pN c m a lw hw = pD c m (a + 1) lw hw := by unfold pN; rw [if_pos z]
    rw [hP]
    unfold pD
    generalize hE : dg c m 4 (a + 1) 0 = E at *
    obtain ⟨e, v⟩ := E
    have e2 : μ1 6 2 = nI e := d2.2.1
    have em : e ≤ m := b1.2.2 (by omega)
    have bv' : v < 10000 := bv
    have ea : a + 1 ≤ e := b1.1
    show (∀ e' v', (if e = a + 1 then Sum.inl (a + 1) else if v < lw ∨ hw ≤ v then Sum.inl (a + 1) else Sum.inr (e, v)) = Sum.inr (e', v') → _) ∧ (∀ ps, (if e = a + 1 then Sum.inl (a + 1) else if v < lw ∨ hw ≤ v then Sum.inl (a + 1) else Sum.inr (e, v)) = Sum.inl ps → _)
    have D' : ∀ (v1 v2 v3 v4 : Int32) (K : Int32 → fm_I → fm_L → Option (Int32 × fm_I × fm_L)), m_X3_readNumber_23 v1 v2 v3 v4 K 5000 (nI 0) (nI 0) (fm_u μ 6 2 (nI (a + 1))) ν = K (nI v) μ1 ν := D
    by_cases y1 : e = a + 1
    · rw [if_pos y1]
      refine ⟨fun _ _ q => (by cases q), fun ps hps => ?_⟩
      have : a + 1 = ps := Sum.inl.inj hps
      subst this
      refine ⟨fm_u μ1 6 0 (nI (a + 1)), ?_, fun y h6 _ => by rw [ev_uq h6, f1 y h6], ev_us⟩
      rw [m_X3_readNumber, R1, ev_b]
      simp -implicitDefEqProofs (disch := omega) only [D', e2, y1, m_X3_failAt, ev_b, ev_b2, ev_g, ev_gF, ev_on, ev_os, ev_cl, ev_in, ev_in6, ev_eq0, ev_lt0, ev_0le, ev_le0, ev_0lt, ev_lt, ev_le, ev_eq, ev_m1a, ev_m1b, ev_m1c, ev_m1d, ev_m1e, ev_n1, ev_n4, ev_n8, ev_n9, ev_n10, ev_n11, ev_n12, ev_n13, ev_n14, ev_n15, ev_n16, ev_n17, ev_n59, ev_n60, ev_n61, ev_n62, ev_n63, ev_n64, ev_n65, ev_n66, ev_n67, ev_n68, ev_n69, ev_n70, ev_n71, ev_n72, ev_n73, ev_n74, ev_n75, ev_n76, ev_n77, ev_n78, ev_n79, ev_n80, ev_k18, ev_k34, ev_k40, ev_n26, ev_n26b, ev_n46, ev_n46b, ev_n52b, ev_uq, ev_us, ev_uj, ev_lq, ev_ls, ev_lj, ev_urq, ev_urs, ev_ulq, ev_uls, nI_add, pk_sub, pk_mul, if_true, if_false, ite_true, ite_false, decide_true, decide_false, eq_self_iff_true, Nat.reduceEqDiff, Nat.reduceLeDiff, Nat.reduceLT, Nat.reduceAdd, Nat.reduceMul, Nat.reduceSub, Nat.reduceDiv, Nat.reduceMod, ↓reduceIte]
      rfl
    · rw [if_neg y1]
      have y1' : (e = a + 1) = False := eq_false y1
      by_cases y2 : v < lw ∨ hw ≤ v
      · rw [if_pos y2]
        refine ⟨fun _ _ q => (by cases q), fun ps hps => ?_⟩
        have : a + 1 = ps := Sum.inl.inj hps
        subst this
        refine ⟨fm_u μ1 6 0 (nI (a + 1)), ?_, fun y h6 _ => by rw [ev_uq h6, f1 y h6], ev_us⟩
        rw [m_X3_readNumber, R1, ev_b]
        by_cases y3 : v < lw
        · have y3' : (v < lw) = True := eq_true y3
          simp -implicitDefEqProofs (disch := omega) only [D', e2, y1', y3', m_X3_failAt, ev_b, ev_b2, ev_g, ev_gF, ev_on, ev_os, ev_cl, ev_in, ev_in6, ev_eq0, ev_lt0, ev_0le, ev_le0, ev_0lt, ev_lt, ev_le, ev_eq, ev_m1a, ev_m1b, ev_m1c, ev_m1d, ev_m1e, ev_n1, ev_n4, ev_n8, ev_n9, ev_n10, ev_n11, ev_n12, ev_n13, ev_n14, ev_n15, ev_n16, ev_n17, ev_n59, ev_n60, ev_n61, ev_n62, ev_n63, ev_n64, ev_n65, ev_n66, ev_n67, ev_n68, ev_n69, ev_n70, ev_n71, ev_n72, ev_n73, ev_n74, ev_n75, ev_n76, ev_n77, ev_n78, ev_n79, ev_n80, ev_k18, ev_k34, ev_k40, ev_n26, ev_n26b, ev_n46, ev_n46b, ev_n52b, ev_uq, ev_us, ev_uj, ev_lq, ev_ls, ev_lj, ev_urq, ev_urs, ev_ulq, ev_uls, nI_add, pk_sub, pk_mul, if_true, if_false, ite_true, ite_false, decide_true, decide_false, eq_self_iff_true, Nat.reduceEqDiff, Nat.reduceLeDiff, Nat.reduceLT, Nat.reduceAdd, Nat.reduceMul, Nat.reduceSub, Nat.reduceDiv, Nat.reduceMod, ↓reduceIte]
          rfl
        · have y3' : (v < lw) = False := eq_false y3
          have y4 : (nI v ≤ v3) = False := eq_false (fun w => by have := (hv3 v bv').mp w; omega)
          simp -implicitDefEqProofs (disch := omega) only [D', e2, y1', y3', y4, m_X3_failAt, ev_b, ev_b2, ev_g, ev_gF, ev_on, ev_os, ev_cl, ev_in, ev_in6, ev_eq0, ev_lt0, ev_0le, ev_le0, ev_0lt, ev_lt, ev_le, ev_eq, ev_m1a, ev_m1b, ev_m1c, ev_m1d, ev_m1e, ev_n1, ev_n4, ev_n8, ev_n9, ev_n10, ev_n11, ev_n12, ev_n13, ev_n14, ev_n15, ev_n16, ev_n17, ev_n59, ev_n60, ev_n61, ev_n62, ev_n63, ev_n64, ev_n65, ev_n66, ev_n67, ev_n68, ev_n69, ev_n70, ev_n71, ev_n72, ev_n73, ev_n74, ev_n75, ev_n76, ev_n77, ev_n78, ev_n79, ev_n80, ev_k18, ev_k34, ev_k40, ev_n26, ev_n26b, ev_n46, ev_n46b, ev_n52b, ev_uq, ev_us, ev_uj, ev_lq, ev_ls, ev_lj, ev_urq, ev_urs, ev_ulq, ev_uls, nI_add, pk_sub, pk_mul, if_true, if_false, ite_true, ite_false, decide_true, decide_false, eq_self_iff_true, Nat.reduceEqDiff, Nat.reduceLeDiff, Nat.reduceLT, Nat.reduceAdd, Nat.reduceMul, Nat.reduceSub, Nat.reduceDiv, Nat.reduceMod, ↓reduceIte]
          rfl
      · rw [if_neg y2]
        refine ⟨fun e' v' hps => ?_, fun _ q => (by cases q)⟩
        have hh := Sum.inr.inj hps
        have h1 := (Prod.mk.inj hh).1
        have h2 := (Prod.mk.inj hh).2
        subst h1 h2
        have y3' : (v < lw) = False := eq_false (by omega)
        have y4 : (nI v ≤ v3) = True := eq_true ((hv3 v bv').mpr (by omega))
        have y5 : (92 ≤ q * 4 + p) = False := eq_false (by omega)
        refine ⟨fm_u μ1 17 (q * 4 + p) (nI v), ?_, rS_k d2 (fun y hy => ev_uq (by omega)), fun y h6 h17 => by rw [ev_uq h17, f1 y h6], by rw [ev_uq (by decide)]; exact g0, ev_us, fun y hy => by rw [ev_uj hy, f1 17 (by decide)]⟩
        rw [m_X3_readNumber, R1, ev_b]
        simp -implicitDefEqProofs (disch := omega) only [D', e2, d2.1, y1', y3', y4, y5, ev_b, ev_b2, ev_g, ev_gF, ev_on, ev_os, ev_cl, ev_in, ev_in6, ev_eq0, ev_lt0, ev_0le, ev_le0, ev_0lt, ev_lt, ev_le, ev_eq, ev_m1a, ev_m1b, ev_m1c, ev_m1d, ev_m1e, ev_n1, ev_n4, ev_n8, ev_n9, ev_n10, ev_n11, ev_n12, ev_n13, ev_n14, ev_n15, ev_n16, ev_n17, ev_n59, ev_n60, ev_n61, ev_n62, ev_n63, ev_n64, ev_n65, ev_n66, ev_n67, ev_n68, ev_n69, ev_n70, ev_n71, ev_n72, ev_n73, ev_n74, ev_n75, ev_n76, ev_n77, ev_n78, ev_n79, ev_n80, ev_k18, ev_k34, ev_k40, ev_n26, ev_n26b, ev_n46, ev_n46b, ev_n52b, ev_uq, ev_us, ev_uj, ev_lq, ev_ls, ev_lj, ev_urq, ev_urs, ev_ulq, ev_uls, nI_add, pk_sub, pk_mul, if_true, if_false, ite_true, ite_false, decide_true, decide_false, eq_self_iff_true, Nat.reduceEqDiff, Nat.reduceLeDiff, Nat.reduceLT, Nat.reduceAdd, Nat.reduceMul, Nat.reduceSub, Nat.reduceDiv, Nat.reduceMod, ↓reduceIte]
  · have R2 := R.2 z
    have hP : pN c m a lw hw = .inl a := by unfold pN; rw [if_neg z]
    rw [hP]
    refine ⟨fun _ _ q => (by cases q), fun ps hps => ?_⟩
    have : a = ps := Sum.inl.inj hps
    subst this
    refine ⟨fm_u μ 6 0 (nI a), ?_, fun y h6 _ => ev_uq h6, ev_us⟩
    rw [m_X3_readNumber, R2, ev_b]
    simp -implicitDefEqProofs (disch := omega) only [ev_b, ev_b2, ev_g, ev_gF, ev_on, ev_os, ev_cl, ev_in, ev_in6, ev_eq0, ev_lt0, ev_0le, ev_le0, ev_0lt, ev_lt, ev_le, ev_eq, ev_m1a, ev_m1b, ev_m1c, ev_m1d, ev_m1e, ev_n1, ev_n4, ev_n8, ev_n9, ev_n10, ev_n11, ev_n12, ev_n13, ev_n14, ev_n15, ev_n16, ev_n17, ev_n59, ev_n60, ev_n61, ev_n62, ev_n63, ev_n64, ev_n65, ev_n66, ev_n67, ev_n68, ev_n69, ev_n70, ev_n71, ev_n72, ev_n73, ev_n74, ev_n75, ev_n76, ev_n77, ev_n78, ev_n79, ev_n80, ev_k18, ev_k34, ev_k40, ev_n26, ev_n26b, ev_n46, ev_n46b, ev_n52b, ev_uq, ev_us, ev_uj, ev_lq, ev_ls, ev_lj, ev_urq, ev_urs, ev_ulq, ev_uls, nI_add, pk_sub, pk_mul, if_true, if_false, ite_true, ite_false, decide_true, decide_false, eq_self_iff_true, Nat.reduceEqDiff, Nat.reduceLeDiff, Nat.reduceLT, Nat.reduceAdd, Nat.reduceMul, Nat.reduceSub, Nat.reduceDiv, Nat.reduceMod, ↓reduceIte]
theorem pI_5 {c : Nat → Int32} {m n a : Nat} {S : Nat → Nat} (h : fwA c m a = 5) : pI c m n S a = .inl a := by
  unfold pI
  rw [if_pos h]
theorem pI_full {c : Nat → Int32} {m n a : Nat} {S : Nat → Nat} (h : fwA c m a = 0) (h2 : 4 ≤ mW c m a 0) (h3 : n = 6) : pI c m n S a = .inl a := by
  unfold pI
  rw [if_neg (by omega), if_pos ⟨h, h2, h3⟩]
theorem pI_f {c : Nat → Int32} {m n a w : Nat} {S : Nat → Nat} (h : fwA c m a = w) (hw : w < 5) (h2 : mW c m a w < wl w - 1) : pI c m n S a = .inl (a + mW c m a w) := by
  unfold pI
  rw [h, if_neg (by omega), if_neg (fun z => by
    have e : w = 0 := z.1
    subst e
    have l : wl 0 = 5 := rfl
    omega), if_pos (by omega)]
theorem pI_n {c : Nat → Int32} {m n a w : Nat} {S : Nat → Nat} (h : fwA c m a = w) (hw : w < 5) (h2 : wl w - 1 ≤ mW c m a w) (h3 : ¬ (w = 0 ∧ n = 6)) : pI c m n S a = match pN c m (a + (wl w - 1)) (lo w 0) (hx w 0 n (S 0)) with
    | .inl p => .inl p
    | .inr (e, v) => match nums c m w n S (cnt w - 1) 1 e (xU (fun _ => 0) 0 v) with
      | .inl p => .inl p
      | .inr (e, x) => .inr (e, w, x) := by
  have l := wl_5 w
  have ml := mW_le c m a w
  have bl := bl_w w hw
  unfold pI
  rw [h, if_neg (by omega), if_neg (fun z => h3 ⟨z.1, z.2.2⟩)]
  by_cases full : mW c m a w < wl w
  · have e : mW c m a w = wl w - 1 := by omega
    have O := mW_o full
    rw [e, bl] at O
    have hP : pN c m (a + (wl w - 1)) (lo w 0) (hx w 0 n (S 0)) = .inl (a + (wl w - 1)) := by unfold pN; rw [if_neg O]
    rw [if_pos full, hP, e]
  · have I := mW_i (c := c) (m := m) (a := a) (w := w) (j := wl w - 1) (by omega)
    rw [bl] at I
    have hP : pN c m (a + (wl w - 1)) (lo w 0) (hx w 0 n (S 0)) = pD c m (a + wl w) (lo w 0) (hx w 0 n (S 0)) := by
      unfold pN
      rw [if_pos I, show a + (wl w - 1) + 1 = a + wl w by omega]
    have cp := cnt_1 w
    obtain ⟨k, hk⟩ : ∃ k, cnt w = k + 1 := ⟨cnt w - 1, by omega⟩
    rw [if_neg full, hP, hk, Nat.add_sub_cancel, nums, if_pos rfl]
    rcases pD c m (a + wl w) (lo w 0) (hx w 0 n (S 0)) with p | ⟨e, v⟩
    · rfl
    · rfl
