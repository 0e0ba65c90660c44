/-! TWIST, PAINT, BAND: the class reads them -/
theorem nums_s {c : Nat → Int32} {m w n d i a : Nat} {S x : Nat → Nat} : nums c m w n S (d + 1) (i + 1) a x = match pN c m a (lo w (i + 1)) (hx w (i + 1) n (S (x 0))) with
    | .inl p => .inl p
    | .inr (e, v) => nums c m w n S d (i + 1 + 1) e (xU x (i + 1) v) := by
  rw [nums, if_neg (Nat.succ_ne_zero i)]
  rcases pN c m a (lo w (i + 1)) (hx w (i + 1) n (S (x 0))) with p | ⟨e, v⟩
  · rfl
  · rfl
theorem ri_4 {c : Nat → Int32} {m a n q : Nat} {S : Nat → Nat} (hm : m ≤ 160) (ha : a ≤ m) (hq : q < 23) (hn : n ≤ 6) {μ : fm_I} (ν : fm_L) (h : rS c m a n q S μ) (hw : fwA c m a = 4) : rO c m n q S μ ν (pI c m n S a) := by
  obtain ⟨LH, W1, W2⟩ := ri_w hm ha (by decide) ν h hw
  have LH' : m_X3_letterHere μ ν = some (nI 116) := LH
  have q23 : (q < 23) = True := eq_true hq
  by_cases k : mW c m a 4 < wl 4 - 1
  · rw [pI_f hw (by decide) k]
    obtain ⟨μ1, w1, w2, w3⟩ := W2 k
    have w1' : m_X3_readWord 4 (fm_u μ 16 q (nI 116)) ν = some (nI 0, μ1, ν) := w1
    refine rO_l ⟨μ1, ?_, fun y h6 _ h16 _ => w2 y h6 h16, w3⟩
    simp -implicitDefEqProofs (disch := omega) only [m_X3_readItem, h.1, h.2.1, LH', w1', q23, ev_b, ev_b2, ev_g, ev_gF, ev_on, ev_os, ev_cl, ev_in, ev_in6, ev_eq0, ev_lt0, ev_0le, ev_le0, ev_0lt, ev_lt, ev_le, ev_eq, ev_m1a, ev_m1b, ev_m1c, ev_m1d, ev_m1e, ev_n1, ev_n4, ev_n8, ev_n9, ev_n10, ev_n11, ev_n12, ev_n13, ev_n14, ev_n15, ev_n16, ev_n17, ev_n59, ev_n60, ev_n61, ev_n62, ev_n63, ev_n64, ev_n65, ev_n66, ev_n67, ev_n68, ev_n69, ev_n70, ev_n71, ev_n72, ev_n73, ev_n74, ev_n75, ev_n76, ev_n77, ev_n78, ev_n79, ev_n80, ev_k18, ev_k34, ev_k40, ev_n26, ev_n26b, ev_n46, ev_n46b, ev_n52b, ev_uq, ev_us, ev_uj, ev_lq, ev_ls, ev_lj, ev_urq, ev_urs, ev_ulq, ev_uls, nI_add, pk_sub, pk_mul, if_true, if_false, ite_true, ite_false, decide_true, decide_false, eq_self_iff_true, Nat.reduceEqDiff, Nat.reduceLeDiff, Nat.reduceLT, Nat.reduceAdd, Nat.reduceMul, Nat.reduceSub, Nat.reduceDiv, Nat.reduceMod, ↓reduceIte]
  · obtain ⟨am, μ1, w1, s1, f1, g16, g16n, g0⟩ := W1 (by omega)
    have w1' : m_X3_readWord 4 (fm_u μ 16 q (nI 116)) ν = some (nI 1, μ1, ν) := w1
    rw [pI_n hw (by decide) (by omega) (fun z => absurd z.1 (by decide))]
    have R := rn_X (p := 0) (lw := lo 4 0) (hw := hx 4 0 n (S 0)) (v3 := μ1 6 4 - nI 1) hm am (by decide) hq (by decide) (vle_n hn s1.2.2.2.1) ν s1
    rcases hN : pN c m (a + (wl 4 - 1)) (lo 4 0) (hx 4 0 n (S 0)) with p | ⟨e0, v0⟩
    · obtain ⟨μ2, r1, r2, r3⟩ := R.2 p hN
      have r1' : m_X3_readNumber (nI 0) (nI 0) (μ1 6 4 - nI 1) μ1 ν = some (nI 0, μ2, ν) := r1
      refine rO_l ⟨μ2, ?_, fun y h6 _ h16 h17 => by rw [r2 y h6 h17, f1 y h6 h16], r3⟩
      simp -implicitDefEqProofs (disch := omega) only [m_X3_readItem, h.1, h.2.1, LH', w1', q23, m_X3_readBandNumber, r1', b01_0, ev_b, ev_b2, ev_g, ev_gF, ev_on, ev_os, ev_cl, ev_in, ev_in6, ev_eq0, ev_lt0, ev_0le, ev_le0, ev_0lt, ev_lt, ev_le, ev_eq, ev_m1a, ev_m1b, ev_m1c, ev_m1d, ev_m1e, ev_n1, ev_n4, ev_n8, ev_n9, ev_n10, ev_n11, ev_n12, ev_n13, ev_n14, ev_n15, ev_n16, ev_n17, ev_n59, ev_n60, ev_n61, ev_n62, ev_n63, ev_n64, ev_n65, ev_n66, ev_n67, ev_n68, ev_n69, ev_n70, ev_n71, ev_n72, ev_n73, ev_n74, ev_n75, ev_n76, ev_n77, ev_n78, ev_n79, ev_n80, ev_k18, ev_k34, ev_k40, ev_n26, ev_n26b, ev_n46, ev_n46b, ev_n52b, ev_uq, ev_us, ev_uj, ev_lq, ev_ls, ev_lj, ev_urq, ev_urs, ev_ulq, ev_uls, nI_add, pk_sub, pk_mul, if_true, if_false, ite_true, ite_false, decide_true, decide_false, eq_self_iff_true, Nat.reduceEqDiff, Nat.reduceLeDiff, Nat.reduceLT, Nat.reduceAdd, Nat.reduceMul, Nat.reduceSub, Nat.reduceDiv, Nat.reduceMod, ↓reduceIte]
    obtain ⟨μ2, r1, r2, r3, r4, r5, r6⟩ := R.1 e0 v0 hN
    have r1' : m_X3_readNumber (nI 0) (nI 0) (μ1 6 4 - nI 1) μ1 ν = some (nI 1, μ2, ν) := r1
    have em := (pN_r hN).2.1
    have R' := rn_X (p := 1) (lw := lo 4 1) (hw := hx 4 1 n (S (xU (fun _ => 0) 0 v0 0))) (v3 := nI 9999) hm em (by decide) hq (by decide) (vle (by decide) rfl) ν r2
    have N1 : nums c m 4 n S (cnt 4 - 1) 1 e0 (xU (fun _ => 0) 0 v0) = match pN c m e0 (lo 4 1) (hx 4 1 n (S (xU (fun _ => 0) 0 v0 0))) with
      | .inl p => .inl p
      | .inr (e, v) => nums c m 4 n S 0 2 e (xU (xU (fun _ => 0) 0 v0) 1 v) := nums_s
    show rO c m n q S μ ν (match nums c m 4 n S (cnt 4 - 1) 1 e0 (xU (fun _ => 0) 0 v0) with
      | .inl p => .inl p
      | .inr (e, x) => .inr (e, 4, x))
    rw [N1]
    rcases hN2 : pN c m e0 (lo 4 1) (hx 4 1 n (S (xU (fun _ => 0) 0 v0 0))) with p | ⟨e1, v1⟩
    · obtain ⟨μ3, t1, t2, t3⟩ := R'.2 p hN2
      have t1' : m_X3_readNumber (nI 1) (nI 0) (nI 9999) μ2 ν = some (nI 0, μ3, ν) := t1
      refine rO_l ⟨μ3, ?_, fun y h6 _ h16 h17 => by rw [t2 y h6 h17, r3 y h6 h17, f1 y h6 h16], t3⟩
      simp -implicitDefEqProofs (disch := omega) only [m_X3_readItem, h.1, h.2.1, LH', w1', q23, m_X3_readBandNumber, r1', b01_1, t1', ev_b, ev_b2, ev_g, ev_gF, ev_on, ev_os, ev_cl, ev_in, ev_in6, ev_eq0, ev_lt0, ev_0le, ev_le0, ev_0lt, ev_lt, ev_le, ev_eq, ev_m1a, ev_m1b, ev_m1c, ev_m1d, ev_m1e, ev_n1, ev_n4, ev_n8, ev_n9, ev_n10, ev_n11, ev_n12, ev_n13, ev_n14, ev_n15, ev_n16, ev_n17, ev_n59, ev_n60, ev_n61, ev_n62, ev_n63, ev_n64, ev_n65, ev_n66, ev_n67, ev_n68, ev_n69, ev_n70, ev_n71, ev_n72, ev_n73, ev_n74, ev_n75, ev_n76, ev_n77, ev_n78, ev_n79, ev_n80, ev_k18, ev_k34, ev_k40, ev_n26, ev_n26b, ev_n46, ev_n46b, ev_n52b, ev_uq, ev_us, ev_uj, ev_lq, ev_ls, ev_lj, ev_urq, ev_urs, ev_ulq, ev_uls, nI_add, pk_sub, pk_mul, if_true, if_false, ite_true, ite_false, decide_true, decide_false, eq_self_iff_true, Nat.reduceEqDiff, Nat.reduceLeDiff, Nat.reduceLT, Nat.reduceAdd, Nat.reduceMul, Nat.reduceSub, Nat.reduceDiv, Nat.reduceMod, ↓reduceIte]
    · obtain ⟨μ3, t1, t2, t3, t4, t5, t6⟩ := R'.1 e1 v1 hN2
      have t1' : m_X3_readNumber (nI 1) (nI 0) (nI 9999) μ2 ν = some (nI 1, μ3, ν) := t1
      refine rO_r (e := e1) (w := 4) (x := xU (xU (fun _ => 0) 0 v0) 1 v1) ⟨μ3, ?_, t2, fun y h6 _ h16 h17 => by rw [t3 y h6 h17, r3 y h6 h17, f1 y h6 h16], by rw [t4, r4, g0], by rw [t3 16 (by decide) (by decide), r3 16 (by decide) (by decide)]; exact g16, fun y hy => by rw [t3 16 (by decide) (by decide), r3 16 (by decide) (by decide)]; exact g16n y hy, fun j hj => ?_, fun y hy => by rw [t6 y (by omega), r6 y (by omega), f1 17 (by decide) (by decide)]⟩
      · simp -implicitDefEqProofs (disch := omega) only [m_X3_readItem, h.1, h.2.1, LH', w1', q23, m_X3_readBandNumber, r1', b01_1, t1', ev_b, ev_b2, ev_g, ev_gF, ev_on, ev_os, ev_cl, ev_in, ev_in6, ev_eq0, ev_lt0, ev_0le, ev_le0, ev_0lt, ev_lt, ev_le, ev_eq, ev_m1a, ev_m1b, ev_m1c, ev_m1d, ev_m1e, ev_n1, ev_n4, ev_n8, ev_n9, ev_n10, ev_n11, ev_n12, ev_n13, ev_n14, ev_n15, ev_n16, ev_n17, ev_n59, ev_n60, ev_n61, ev_n62, ev_n63, ev_n64, ev_n65, ev_n66, ev_n67, ev_n68, ev_n69, ev_n70, ev_n71, ev_n72, ev_n73, ev_n74, ev_n75, ev_n76, ev_n77, ev_n78, ev_n79, ev_n80, ev_k18, ev_k34, ev_k40, ev_n26, ev_n26b, ev_n46, ev_n46b, ev_n52b, ev_uq, ev_us, ev_uj, ev_lq, ev_ls, ev_lj, ev_urq, ev_urs, ev_ulq, ev_uls, nI_add, pk_sub, pk_mul, if_true, if_false, ite_true, ite_false, decide_true, decide_false, eq_self_iff_true, Nat.reduceEqDiff, Nat.reduceLeDiff, Nat.reduceLT, Nat.reduceAdd, Nat.reduceMul, Nat.reduceSub, Nat.reduceDiv, Nat.reduceMod, ↓reduceIte]
      · have c2 : cnt 4 = 2 := rfl
        rcases (by omega : j = 0 ∨ j = 1) with rfl | rfl
        · rw [t6 _ (by omega)]
          exact r5
        · exact t5
theorem ri_3 {c : Nat → Int32} {m a n q : Nat} {S : Nat → Nat} (hm : m ≤ 160) (ha : a ≤ m) (hq : q < 23) (hn : n ≤ 6) (hS : ∀ b, b < n → 1 ≤ S b ∧ S b ≤ 12) {μ : fm_I} (ν : fm_L) (h : rS c m a n q S μ) (hw : fwA c m a = 3) : rO c m n q S μ ν (pI c m n S a) := by
  obtain ⟨LH, W1, W2⟩ := ri_w hm ha (by decide) ν h hw
  have LH' : m_X3_letterHere μ ν = some (nI 112) := LH
  have q23 : (q < 23) = True := eq_true hq
  have q23' : (23 ≤ q) = False := eq_false (by omega)
  by_cases k : mW c m a 3 < wl 3 - 1
  · rw [pI_f hw (by decide) k]
    obtain ⟨μ1, w1, w2, w3⟩ := W2 k
    have w1' : m_X3_readWord 3 (fm_u μ 16 q (nI 112)) ν = some (nI 0, μ1, ν) := w1
    refine rO_l ⟨μ1, ?_, fun y h6 _ h16 _ => w2 y h6 h16, w3⟩
    simp -implicitDefEqProofs (disch := omega) only [m_X3_readItem, h.1, h.2.1, LH', w1', q23, ev_b, ev_b2, ev_g, ev_gF, ev_on, ev_os, ev_cl, ev_in, ev_in6, ev_eq0, ev_lt0, ev_0le, ev_le0, ev_0lt, ev_lt, ev_le, ev_eq, ev_m1a, ev_m1b, ev_m1c, ev_m1d, ev_m1e, ev_n1, ev_n4, ev_n8, ev_n9, ev_n10, ev_n11, ev_n12, ev_n13, ev_n14, ev_n15, ev_n16, ev_n17, ev_n59, ev_n60, ev_n61, ev_n62, ev_n63, ev_n64, ev_n65, ev_n66, ev_n67, ev_n68, ev_n69, ev_n70, ev_n71, ev_n72, ev_n73, ev_n74, ev_n75, ev_n76, ev_n77, ev_n78, ev_n79, ev_n80, ev_k18, ev_k34, ev_k40, ev_n26, ev_n26b, ev_n46, ev_n46b, ev_n52b, ev_uq, ev_us, ev_uj, ev_lq, ev_ls, ev_lj, ev_urq, ev_urs, ev_ulq, ev_uls, nI_add, pk_sub, pk_mul, if_true, if_false, ite_true, ite_false, decide_true, decide_false, eq_self_iff_true, Nat.reduceEqDiff, Nat.reduceLeDiff, Nat.reduceLT, Nat.reduceAdd, Nat.reduceMul, Nat.reduceSub, Nat.reduceDiv, Nat.reduceMod, ↓reduceIte]
  · obtain ⟨am, μ1, w1, s1, f1, g16, g16n, g0⟩ := W1 (by omega)
    have w1' : m_X3_readWord 3 (fm_u μ 16 q (nI 112)) ν = some (nI 1, μ1, ν) := w1
    rw [pI_n hw (by decide) (by omega) (fun z => absurd z.1 (by decide))]
    have R := rn_X (p := 0) (lw := lo 3 0) (hw := hx 3 0 n (S 0)) (v3 := μ1 6 4 - nI 1) hm am (by decide) hq (by decide) (vle_n hn s1.2.2.2.1) ν s1
    rcases hN : pN c m (a + (wl 3 - 1)) (lo 3 0) (hx 3 0 n (S 0)) with p | ⟨e0, v0⟩
    · obtain ⟨μ2, r1, r2, r3⟩ := R.2 p hN
      have r1' : m_X3_readNumber (nI 0) (nI 0) (μ1 6 4 - nI 1) μ1 ν = some (nI 0, μ2, ν) := r1
      refine rO_l ⟨μ2, ?_, fun y h6 _ h16 h17 => by rw [r2 y h6 h17, f1 y h6 h16], r3⟩
      simp -implicitDefEqProofs (disch := omega) only [m_X3_readItem, h.1, h.2.1, LH', w1', q23, m_X3_readBandNumber, r1', b01_0, ev_b, ev_b2, ev_g, ev_gF, ev_on, ev_os, ev_cl, ev_in, ev_in6, ev_eq0, ev_lt0, ev_0le, ev_le0, ev_0lt, ev_lt, ev_le, ev_eq, ev_m1a, ev_m1b, ev_m1c, ev_m1d, ev_m1e, ev_n1, ev_n4, ev_n8, ev_n9, ev_n10, ev_n11, ev_n12, ev_n13, ev_n14, ev_n15, ev_n16, ev_n17, ev_n59, ev_n60, ev_n61, ev_n62, ev_n63, ev_n64, ev_n65, ev_n66, ev_n67, ev_n68, ev_n69, ev_n70, ev_n71, ev_n72, ev_n73, ev_n74, ev_n75, ev_n76, ev_n77, ev_n78, ev_n79, ev_n80, ev_k18, ev_k34, ev_k40, ev_n26, ev_n26b, ev_n46, ev_n46b, ev_n52b, ev_uq, ev_us, ev_uj, ev_lq, ev_ls, ev_lj, ev_urq, ev_urs, ev_ulq, ev_uls, nI_add, pk_sub, pk_mul, if_true, if_false, ite_true, ite_false, decide_true, decide_false, eq_self_iff_true, Nat.reduceEqDiff, Nat.reduceLeDiff, Nat.reduceLT, Nat.reduceAdd, Nat.reduceMul, Nat.reduceSub, Nat.reduceDiv, Nat.reduceMod, ↓reduceIte]
    obtain ⟨μ2, r1, r2, r3, r4, r5, r6⟩ := R.1 e0 v0 hN
    have r1' : m_X3_readNumber (nI 0) (nI 0) (μ1 6 4 - nI 1) μ1 ν = some (nI 1, μ2, ν) := r1
    have em := (pN_r hN).2.1
    have vn : v0 < n := (pN_r hN).2.2.2.1
    obtain ⟨sv1, sv2⟩ := hS v0 vn
    have nn : (n ≤ v0) = False := eq_false (by omega)
    have n6 : (6 ≤ v0) = False := eq_false (by omega)
    have r5' : μ2 17 (q * 4) = nI v0 := r5
    have ST : m_X3_stripsOfTold μ2 ν = some (nI (S v0)) := by
      simp -implicitDefEqProofs (disch := omega) only [m_X3_stripsOfTold, m_X3_number, r2.1, q23', r5, r5', Nat.add_zero, r2.2.2.2.1, nn, n6, r2.2.2.2.2.2 v0 vn, ev_b, ev_b2, ev_g, ev_gF, ev_on, ev_os, ev_cl, ev_in, ev_in6, ev_eq0, ev_lt0, ev_0le, ev_le0, ev_0lt, ev_lt, ev_le, ev_eq, ev_m1a, ev_m1b, ev_m1c, ev_m1d, ev_m1e, ev_n1, ev_n4, ev_n8, ev_n9, ev_n10, ev_n11, ev_n12, ev_n13, ev_n14, ev_n15, ev_n16, ev_n17, ev_n59, ev_n60, ev_n61, ev_n62, ev_n63, ev_n64, ev_n65, ev_n66, ev_n67, ev_n68, ev_n69, ev_n70, ev_n71, ev_n72, ev_n73, ev_n74, ev_n75, ev_n76, ev_n77, ev_n78, ev_n79, ev_n80, ev_k18, ev_k34, ev_k40, ev_n26, ev_n26b, ev_n46, ev_n46b, ev_n52b, ev_uq, ev_us, ev_uj, ev_lq, ev_ls, ev_lj, ev_urq, ev_urs, ev_ulq, ev_uls, nI_add, pk_sub, pk_mul, if_true, if_false, ite_true, ite_false, decide_true, decide_false, eq_self_iff_true, Nat.reduceEqDiff, Nat.reduceLeDiff, Nat.reduceLT, Nat.reduceAdd, Nat.reduceMul, Nat.reduceSub, Nat.reduceDiv, Nat.reduceMod, ↓reduceIte]
    have R' := rn_X (p := 1) (lw := lo 3 1) (hw := hx 3 1 n (S (xU (fun _ => 0) 0 v0 0))) (v3 := nI (S v0 - 1)) hm em (by decide) hq (by decide) (vle (by omega) (by show S v0 - 1 + 1 = S v0; omega)) ν r2
    have N1 : nums c m 3 n S (cnt 3 - 1) 1 e0 (xU (fun _ => 0) 0 v0) = match pN c m e0 (lo 3 1) (hx 3 1 n (S (xU (fun _ => 0) 0 v0 0))) with
      | .inl p => .inl p
      | .inr (e, v) => nums c m 3 n S 1 2 e (xU (xU (fun _ => 0) 0 v0) 1 v) := nums_s
    show rO c m n q S μ ν (match nums c m 3 n S (cnt 3 - 1) 1 e0 (xU (fun _ => 0) 0 v0) with
      | .inl p => .inl p
      | .inr (e, x) => .inr (e, 3, x))
    rw [N1]
    rcases hN2 : pN c m e0 (lo 3 1) (hx 3 1 n (S (xU (fun _ => 0) 0 v0 0))) with p | ⟨e1, v1⟩
    · obtain ⟨μ3, t1, t2, t3⟩ := R'.2 p hN2
      have t1' : m_X3_readNumber (nI 1) (nI 0) (nI (S v0 - 1)) μ2 ν = some (nI 0, μ3, ν) := t1
      refine rO_l ⟨μ3, ?_, fun y h6 _ h16 h17 => by rw [t2 y h6 h17, r3 y h6 h17, f1 y h6 h16], t3⟩
      simp -implicitDefEqProofs (disch := omega) only [m_X3_readItem, h.1, h.2.1, LH', w1', q23, m_X3_readBandNumber, r1', b01_1, ST, t1', ev_b, ev_b2, ev_g, ev_gF, ev_on, ev_os, ev_cl, ev_in, ev_in6, ev_eq0, ev_lt0, ev_0le, ev_le0, ev_0lt, ev_lt, ev_le, ev_eq, ev_m1a, ev_m1b, ev_m1c, ev_m1d, ev_m1e, ev_n1, ev_n4, ev_n8, ev_n9, ev_n10, ev_n11, ev_n12, ev_n13, ev_n14, ev_n15, ev_n16, ev_n17, ev_n59, ev_n60, ev_n61, ev_n62, ev_n63, ev_n64, ev_n65, ev_n66, ev_n67, ev_n68, ev_n69, ev_n70, ev_n71, ev_n72, ev_n73, ev_n74, ev_n75, ev_n76, ev_n77, ev_n78, ev_n79, ev_n80, ev_k18, ev_k34, ev_k40, ev_n26, ev_n26b, ev_n46, ev_n46b, ev_n52b, ev_uq, ev_us, ev_uj, ev_lq, ev_ls, ev_lj, ev_urq, ev_urs, ev_ulq, ev_uls, nI_add, pk_sub, pk_mul, if_true, if_false, ite_true, ite_false, decide_true, decide_false, eq_self_iff_true, Nat.reduceEqDiff, Nat.reduceLeDiff, Nat.reduceLT, Nat.reduceAdd, Nat.reduceMul, Nat.reduceSub, Nat.reduceDiv, Nat.reduceMod, ↓reduceIte]
    obtain ⟨μ3, t1, t2, t3, t4, t5, t6⟩ := R'.1 e1 v1 hN2
    have t1' : m_X3_readNumber (nI 1) (nI 0) (nI (S v0 - 1)) μ2 ν = some (nI 1, μ3, ν) := t1
    have em2 := (pN_r hN2).2.1
    have R2 := rn_X (p := 2) (lw := lo 3 2) (hw := hx 3 2 n (S (xU (xU (fun _ => 0) 0 v0) 1 v1 0))) (v3 := nI 7) hm em2 (by decide) hq (by decide) (vle (by decide) rfl) ν t2
    have N2 : nums c m 3 n S 1 2 e1 (xU (xU (fun _ => 0) 0 v0) 1 v1) = match pN c m e1 (lo 3 2) (hx 3 2 n (S (xU (xU (fun _ => 0) 0 v0) 1 v1 0))) with
      | .inl p => .inl p
      | .inr (e, v) => nums c m 3 n S 0 3 e (xU (xU (xU (fun _ => 0) 0 v0) 1 v1) 2 v) := nums_s
    show rO c m n q S μ ν (match nums c m 3 n S 1 2 e1 (xU (xU (fun _ => 0) 0 v0) 1 v1) with
      | .inl p => .inl p
      | .inr (e, x) => .inr (e, 3, x))
    rw [N2]
    rcases hN3 : pN c m e1 (lo 3 2) (hx 3 2 n (S (xU (xU (fun _ => 0) 0 v0) 1 v1 0))) with p | ⟨e2, v2⟩
    · obtain ⟨μ4, u1, u2, u3⟩ := R2.2 p hN3
      have u1' : m_X3_readNumber (nI 2) (nI 0) (nI 7) μ3 ν = some (nI 0, μ4, ν) := u1
      refine rO_l ⟨μ4, ?_, fun y h6 _ h16 h17 => by rw [u2 y h6 h17, t3 y h6 h17, r3 y h6 h17, f1 y h6 h16], u3⟩
      simp -implicitDefEqProofs (disch := omega) only [m_X3_readItem, h.1, h.2.1, LH', w1', q23, m_X3_readBandNumber, r1', b01_1, ST, t1', u1', ev_b, ev_b2, ev_g, ev_gF, ev_on, ev_os, ev_cl, ev_in, ev_in6, ev_eq0, ev_lt0, ev_0le, ev_le0, ev_0lt, ev_lt, ev_le, ev_eq, ev_m1a, ev_m1b, ev_m1c, ev_m1d, ev_m1e, ev_n1, ev_n4, ev_n8, ev_n9, ev_n10, ev_n11, ev_n12, ev_n13, ev_n14, ev_n15, ev_n16, ev_n17, ev_n59, ev_n60, ev_n61, ev_n62, ev_n63, ev_n64, ev_n65, ev_n66, ev_n67, ev_n68, ev_n69, ev_n70, ev_n71, ev_n72, ev_n73, ev_n74, ev_n75, ev_n76, ev_n77, ev_n78, ev_n79, ev_n80, ev_k18, ev_k34, ev_k40, ev_n26, ev_n26b, ev_n46, ev_n46b, ev_n52b, ev_uq, ev_us, ev_uj, ev_lq, ev_ls, ev_lj, ev_urq, ev_urs, ev_ulq, ev_uls, nI_add, pk_sub, pk_mul, if_true, if_false, ite_true, ite_false, decide_true, decide_false, eq_self_iff_true, Nat.reduceEqDiff, Nat.reduceLeDiff, Nat.reduceLT, Nat.reduceAdd, Nat.reduceMul, Nat.reduceSub, Nat.reduceDiv, Nat.reduceMod, ↓reduceIte]
    · obtain ⟨μ4, u1, u2, u3, u4, u5, u6⟩ := R2.1 e2 v2 hN3
      have u1' : m_X3_readNumber (nI 2) (nI 0) (nI 7) μ3 ν = some (nI 1, μ4, ν) := u1
      refine rO_r (e := e2) (w := 3) (x := xU (xU (xU (fun _ => 0) 0 v0) 1 v1) 2 v2) ⟨μ4, ?_, u2, fun y h6 _ h16 h17 => by rw [u3 y h6 h17, t3 y h6 h17, r3 y h6 h17, f1 y h6 h16], by rw [u4, t4, r4, g0], by rw [u3 16 (by decide) (by decide), t3 16 (by decide) (by decide), r3 16 (by decide) (by decide)]; exact g16, fun y hy => by rw [u3 16 (by decide) (by decide), t3 16 (by decide) (by decide), r3 16 (by decide) (by decide)]; exact g16n y hy, fun j hj => ?_, fun y hy => by rw [u6 y (by omega), t6 y (by omega), r6 y (by omega), f1 17 (by decide) (by decide)]⟩
      · simp -implicitDefEqProofs (disch := omega) only [m_X3_readItem, h.1, h.2.1, LH', w1', q23, m_X3_readBandNumber, r1', b01_1, ST, t1', u1', ev_b, ev_b2, ev_g, ev_gF, ev_on, ev_os, ev_cl, ev_in, ev_in6, ev_eq0, ev_lt0, ev_0le, ev_le0, ev_0lt, ev_lt, ev_le, ev_eq, ev_m1a, ev_m1b, ev_m1c, ev_m1d, ev_m1e, ev_n1, ev_n4, ev_n8, ev_n9, ev_n10, ev_n11, ev_n12, ev_n13, ev_n14, ev_n15, ev_n16, ev_n17, ev_n59, ev_n60, ev_n61, ev_n62, ev_n63, ev_n64, ev_n65, ev_n66, ev_n67, ev_n68, ev_n69, ev_n70, ev_n71, ev_n72, ev_n73, ev_n74, ev_n75, ev_n76, ev_n77, ev_n78, ev_n79, ev_n80, ev_k18, ev_k34, ev_k40, ev_n26, ev_n26b, ev_n46, ev_n46b, ev_n52b, ev_uq, ev_us, ev_uj, ev_lq, ev_ls, ev_lj, ev_urq, ev_urs, ev_ulq, ev_uls, nI_add, pk_sub, pk_mul, if_true, if_false, ite_true, ite_false, decide_true, decide_false, eq_self_iff_true, Nat.reduceEqDiff, Nat.reduceLeDiff, Nat.reduceLT, Nat.reduceAdd, Nat.reduceMul, Nat.reduceSub, Nat.reduceDiv, Nat.reduceMod, ↓reduceIte]
      · have c2 : cnt 3 = 3 := rfl
        rcases (by omega : j = 0 ∨ j = 1 ∨ j = 2) with rfl | rfl | rfl
        · rw [u6 _ (by omega), t6 _ (by omega)]
          exact r5
        · rw [u6 _ (by omega)]
          exact t5
        · exact u5
theorem ri_0 {c : Nat → Int32} {m a n q : Nat} {S : Nat → Nat} (hm : m ≤ 160) (ha : a ≤ m) (hq : q < 23) (hn : n ≤ 6) {μ : fm_I} (ν : fm_L) (h : rS c m a n q S μ) (hw : fwA c m a = 0) : rO c m n q S μ ν (pI c m n S a) := by
  obtain ⟨LH, W1, W2⟩ := ri_w hm ha (by decide) ν h hw
  have LH' : m_X3_letterHere μ ν = some (nI 98) := LH
  have q23 : (q < 23) = True := eq_true hq
  have q23' : (23 ≤ q) = False := eq_false (by omega)
  have l0 : wl 0 = 5 := rfl
  by_cases k : mW c m a 0 < wl 0 - 1
  · rw [pI_f hw (by decide) k]
    obtain ⟨μ1, w1, w2, w3⟩ := W2 k
    have w1' : m_X3_readWord 0 (fm_u μ 16 q (nI 98)) ν = some (nI 0, μ1, ν) := w1
    refine rO_l ⟨μ1, ?_, fun y h6 _ h16 _ => w2 y h6 h16, w3⟩
    simp -implicitDefEqProofs (disch := omega) only [m_X3_readItem, h.1, h.2.1, LH', w1', q23, ev_b, ev_b2, ev_g, ev_gF, ev_on, ev_os, ev_cl, ev_in, ev_in6, ev_eq0, ev_lt0, ev_0le, ev_le0, ev_0lt, ev_lt, ev_le, ev_eq, ev_m1a, ev_m1b, ev_m1c, ev_m1d, ev_m1e, ev_n1, ev_n4, ev_n8, ev_n9, ev_n10, ev_n11, ev_n12, ev_n13, ev_n14, ev_n15, ev_n16, ev_n17, ev_n59, ev_n60, ev_n61, ev_n62, ev_n63, ev_n64, ev_n65, ev_n66, ev_n67, ev_n68, ev_n69, ev_n70, ev_n71, ev_n72, ev_n73, ev_n74, ev_n75, ev_n76, ev_n77, ev_n78, ev_n79, ev_n80, ev_k18, ev_k34, ev_k40, ev_n26, ev_n26b, ev_n46, ev_n46b, ev_n52b, ev_uq, ev_us, ev_uj, ev_lq, ev_ls, ev_lj, ev_urq, ev_urs, ev_ulq, ev_uls, nI_add, pk_sub, pk_mul, if_true, if_false, ite_true, ite_false, decide_true, decide_false, eq_self_iff_true, Nat.reduceEqDiff, Nat.reduceLeDiff, Nat.reduceLT, Nat.reduceAdd, Nat.reduceMul, Nat.reduceSub, Nat.reduceDiv, Nat.reduceMod, ↓reduceIte]
  obtain ⟨am, μ1, w1, s1, f1, g16, g16n, g0⟩ := W1 (by omega)
  have w1' : m_X3_readWord 0 (fm_u μ 16 q (nI 98)) ν = some (nI 1, μ1, ν) := w1
  by_cases hn6 : n = 6
  · rw [pI_full hw (by omega) hn6]
    have e4 : μ1 6 4 = nI 6 := by rw [s1.2.2.2.1, hn6]
    refine rO_l ⟨fm_u μ1 6 0 (nI a), ?_, fun y h6 _ h16 _ => by rw [ev_uq h6, f1 y h6 h16], ev_us⟩
    simp -implicitDefEqProofs (disch := omega) only [m_X3_readItem, h.1, h.2.1, LH', w1', q23, m_X3_hasRoom, e4, m_X3_failAt, ev_b, ev_b2, ev_g, ev_gF, ev_on, ev_os, ev_cl, ev_in, ev_in6, ev_eq0, ev_lt0, ev_0le, ev_le0, ev_0lt, ev_lt, ev_le, ev_eq, ev_m1a, ev_m1b, ev_m1c, ev_m1d, ev_m1e, ev_n1, ev_n4, ev_n8, ev_n9, ev_n10, ev_n11, ev_n12, ev_n13, ev_n14, ev_n15, ev_n16, ev_n17, ev_n59, ev_n60, ev_n61, ev_n62, ev_n63, ev_n64, ev_n65, ev_n66, ev_n67, ev_n68, ev_n69, ev_n70, ev_n71, ev_n72, ev_n73, ev_n74, ev_n75, ev_n76, ev_n77, ev_n78, ev_n79, ev_n80, ev_k18, ev_k34, ev_k40, ev_n26, ev_n26b, ev_n46, ev_n46b, ev_n52b, ev_uq, ev_us, ev_uj, ev_lq, ev_ls, ev_lj, ev_urq, ev_urs, ev_ulq, ev_uls, nI_add, pk_sub, pk_mul, if_true, if_false, ite_true, ite_false, decide_true, decide_false, eq_self_iff_true, Nat.reduceEqDiff, Nat.reduceLeDiff, Nat.reduceLT, Nat.reduceAdd, Nat.reduceMul, Nat.reduceSub, Nat.reduceDiv, Nat.reduceMod, ↓reduceIte]
  rw [pI_n hw (by decide) (by omega) (fun z => hn6 z.2)]
  have n6 : (n < 6) = True := eq_true (by omega)
  have HR : m_X3_hasRoom (nI a) μ1 ν = some (nI 1, μ1, ν) := by
    simp -implicitDefEqProofs (disch := omega) only [m_X3_hasRoom, s1.2.2.2.1, n6, ev_b, ev_b2, ev_g, ev_gF, ev_on, ev_os, ev_cl, ev_in, ev_in6, ev_eq0, ev_lt0, ev_0le, ev_le0, ev_0lt, ev_lt, ev_le, ev_eq, ev_m1a, ev_m1b, ev_m1c, ev_m1d, ev_m1e, ev_n1, ev_n4, ev_n8, ev_n9, ev_n10, ev_n11, ev_n12, ev_n13, ev_n14, ev_n15, ev_n16, ev_n17, ev_n59, ev_n60, ev_n61, ev_n62, ev_n63, ev_n64, ev_n65, ev_n66, ev_n67, ev_n68, ev_n69, ev_n70, ev_n71, ev_n72, ev_n73, ev_n74, ev_n75, ev_n76, ev_n77, ev_n78, ev_n79, ev_n80, ev_k18, ev_k34, ev_k40, ev_n26, ev_n26b, ev_n46, ev_n46b, ev_n52b, ev_uq, ev_us, ev_uj, ev_lq, ev_ls, ev_lj, ev_urq, ev_urs, ev_ulq, ev_uls, nI_add, pk_sub, pk_mul, if_true, if_false, ite_true, ite_false, decide_true, decide_false, eq_self_iff_true, Nat.reduceEqDiff, Nat.reduceLeDiff, Nat.reduceLT, Nat.reduceAdd, Nat.reduceMul, Nat.reduceSub, Nat.reduceDiv, Nat.reduceMod, ↓reduceIte]
  have R := rn_X (p := 0) (lw := lo 0 0) (hw := hx 0 0 n (S 0)) (v3 := nI 6) hm am (by decide) hq (by decide) (vle (by decide) rfl) ν s1
  rcases hN : pN c m (a + (wl 0 - 1)) (lo 0 0) (hx 0 0 n (S 0)) with p | ⟨e0, v0⟩
  · obtain ⟨μ2, r1, r2, r3⟩ := R.2 p hN
    have r1' : m_X3_readNumber (nI 0) (nI 0) (nI 6) μ1 ν = some (nI 0, μ2, ν) := r1
    refine rO_l ⟨μ2, ?_, fun y h6 _ h16 h17 => by rw [r2 y h6 h17, f1 y h6 h16], r3⟩
    have NW : m_X3_readNewBand μ1 ν = some (nI 0, μ2, ν) := by
      simp -implicitDefEqProofs (disch := omega) only [m_X3_readNewBand, r1', ev_b, ev_b2, ev_g, ev_gF, ev_on, ev_os, ev_cl, ev_in, ev_in6, ev_eq0, ev_lt0, ev_0le, ev_le0, ev_0lt, ev_lt, ev_le, ev_eq, ev_m1a, ev_m1b, ev_m1c, ev_m1d, ev_m1e, ev_n1, ev_n4, ev_n8, ev_n9, ev_n10, ev_n11, ev_n12, ev_n13, ev_n14, ev_n15, ev_n16, ev_n17, ev_n59, ev_n60, ev_n61, ev_n62, ev_n63, ev_n64, ev_n65, ev_n66, ev_n67, ev_n68, ev_n69, ev_n70, ev_n71, ev_n72, ev_n73, ev_n74, ev_n75, ev_n76, ev_n77, ev_n78, ev_n79, ev_n80, ev_k18, ev_k34, ev_k40, ev_n26, ev_n26b, ev_n46, ev_n46b, ev_n52b, ev_uq, ev_us, ev_uj, ev_lq, ev_ls, ev_lj, ev_urq, ev_urs, ev_ulq, ev_uls, nI_add, pk_sub, pk_mul, if_true, if_false, ite_true, ite_false, decide_true, decide_false, eq_self_iff_true, Nat.reduceEqDiff, Nat.reduceLeDiff, Nat.reduceLT, Nat.reduceAdd, Nat.reduceMul, Nat.reduceSub, Nat.reduceDiv, Nat.reduceMod, ↓reduceIte]
    simp -implicitDefEqProofs (disch := omega) only [m_X3_readItem, h.1, h.2.1, LH', w1', q23, HR, NW, ev_b, ev_b2, ev_g, ev_gF, ev_on, ev_os, ev_cl, ev_in, ev_in6, ev_eq0, ev_lt0, ev_0le, ev_le0, ev_0lt, ev_lt, ev_le, ev_eq, ev_m1a, ev_m1b, ev_m1c, ev_m1d, ev_m1e, ev_n1, ev_n4, ev_n8, ev_n9, ev_n10, ev_n11, ev_n12, ev_n13, ev_n14, ev_n15, ev_n16, ev_n17, ev_n59, ev_n60, ev_n61, ev_n62, ev_n63, ev_n64, ev_n65, ev_n66, ev_n67, ev_n68, ev_n69, ev_n70, ev_n71, ev_n72, ev_n73, ev_n74, ev_n75, ev_n76, ev_n77, ev_n78, ev_n79, ev_n80, ev_k18, ev_k34, ev_k40, ev_n26, ev_n26b, ev_n46, ev_n46b, ev_n52b, ev_uq, ev_us, ev_uj, ev_lq, ev_ls, ev_lj, ev_urq, ev_urs, ev_ulq, ev_uls, nI_add, pk_sub, pk_mul, if_true, if_false, ite_true, ite_false, decide_true, decide_false, eq_self_iff_true, Nat.reduceEqDiff, Nat.reduceLeDiff, Nat.reduceLT, Nat.reduceAdd, Nat.reduceMul, Nat.reduceSub, Nat.reduceDiv, Nat.reduceMod, ↓reduceIte]
  obtain ⟨μ2, r1, r2, r3, r4, r5, r6⟩ := R.1 e0 v0 hN
  have r1' : m_X3_readNumber (nI 0) (nI 0) (nI 6) μ1 ν = some (nI 1, μ2, ν) := r1
  have em := (pN_r hN).2.1
  have R' := rn_X (p := 1) (lw := lo 0 1) (hw := hx 0 1 n (S (xU (fun _ => 0) 0 v0 0))) (v3 := nI 9999) hm em (by decide) hq (by decide) (vle (by decide) rfl) ν r2
  have N1 : nums c m 0 n S (cnt 0 - 1) 1 e0 (xU (fun _ => 0) 0 v0) = match pN c m e0 (lo 0 1) (hx 0 1 n (S (xU (fun _ => 0) 0 v0 0))) with
    | .inl p => .inl p
    | .inr (e, v) => nums c m 0 n S 2 2 e (xU (xU (fun _ => 0) 0 v0) 1 v) := nums_s
  show rO c m n q S μ ν (match nums c m 0 n S (cnt 0 - 1) 1 e0 (xU (fun _ => 0) 0 v0) with
    | .inl p => .inl p
    | .inr (e, x) => .inr (e, 0, x))
  rw [N1]
  rcases hN2 : pN c m e0 (lo 0 1) (hx 0 1 n (S (xU (fun _ => 0) 0 v0 0))) with p | ⟨e1, v1⟩
  · obtain ⟨μ3, t1, t2, t3⟩ := R'.2 p hN2
    have t1' : m_X3_readNumber (nI 1) (nI 0) (nI 9999) μ2 ν = some (nI 0, μ3, ν) := t1
    refine rO_l ⟨μ3, ?_, fun y h6 _ h16 h17 => by rw [t2 y h6 h17, r3 y h6 h17, f1 y h6 h16], t3⟩
    have NW : m_X3_readNewBand μ1 ν = some (nI 0, μ3, ν) := by
      simp -implicitDefEqProofs (disch := omega) only [m_X3_readNewBand, r1', t1', ev_b, ev_b2, ev_g, ev_gF, ev_on, ev_os, ev_cl, ev_in, ev_in6, ev_eq0, ev_lt0, ev_0le, ev_le0, ev_0lt, ev_lt, ev_le, ev_eq, ev_m1a, ev_m1b, ev_m1c, ev_m1d, ev_m1e, ev_n1, ev_n4, ev_n8, ev_n9, ev_n10, ev_n11, ev_n12, ev_n13, ev_n14, ev_n15, ev_n16, ev_n17, ev_n59, ev_n60, ev_n61, ev_n62, ev_n63, ev_n64, ev_n65, ev_n66, ev_n67, ev_n68, ev_n69, ev_n70, ev_n71, ev_n72, ev_n73, ev_n74, ev_n75, ev_n76, ev_n77, ev_n78, ev_n79, ev_n80, ev_k18, ev_k34, ev_k40, ev_n26, ev_n26b, ev_n46, ev_n46b, ev_n52b, ev_uq, ev_us, ev_uj, ev_lq, ev_ls, ev_lj, ev_urq, ev_urs, ev_ulq, ev_uls, nI_add, pk_sub, pk_mul, if_true, if_false, ite_true, ite_false, decide_true, decide_false, eq_self_iff_true, Nat.reduceEqDiff, Nat.reduceLeDiff, Nat.reduceLT, Nat.reduceAdd, Nat.reduceMul, Nat.reduceSub, Nat.reduceDiv, Nat.reduceMod, ↓reduceIte]
    simp -implicitDefEqProofs (disch := omega) only [m_X3_readItem, h.1, h.2.1, LH', w1', q23, HR, NW, ev_b, ev_b2, ev_g, ev_gF, ev_on, ev_os, ev_cl, ev_in, ev_in6, ev_eq0, ev_lt0, ev_0le, ev_le0, ev_0lt, ev_lt, ev_le, ev_eq, ev_m1a, ev_m1b, ev_m1c, ev_m1d, ev_m1e, ev_n1, ev_n4, ev_n8, ev_n9, ev_n10, ev_n11, ev_n12, ev_n13, ev_n14, ev_n15, ev_n16, ev_n17, ev_n59, ev_n60, ev_n61, ev_n62, ev_n63, ev_n64, ev_n65, ev_n66, ev_n67, ev_n68, ev_n69, ev_n70, ev_n71, ev_n72, ev_n73, ev_n74, ev_n75, ev_n76, ev_n77, ev_n78, ev_n79, ev_n80, ev_k18, ev_k34, ev_k40, ev_n26, ev_n26b, ev_n46, ev_n46b, ev_n52b, ev_uq, ev_us, ev_uj, ev_lq, ev_ls, ev_lj, ev_urq, ev_urs, ev_ulq, ev_uls, nI_add, pk_sub, pk_mul, if_true, if_false, ite_true, ite_false, decide_true, decide_false, eq_self_iff_true, Nat.reduceEqDiff, Nat.reduceLeDiff, Nat.reduceLT, Nat.reduceAdd, Nat.reduceMul, Nat.reduceSub, Nat.reduceDiv, Nat.reduceMod, ↓reduceIte]
  obtain ⟨μ3, t1, t2, t3, t4, t5, t6⟩ := R'.1 e1 v1 hN2
  have t1' : m_X3_readNumber (nI 1) (nI 0) (nI 9999) μ2 ν = some (nI 1, μ3, ν) := t1
  have em2 := (pN_r hN2).2.1
  have R2 := rn_X (p := 2) (lw := lo 0 2) (hw := hx 0 2 n (S (xU (xU (fun _ => 0) 0 v0) 1 v1 0))) (v3 := nI 12) hm em2 (by decide) hq (by decide) (vle (by decide) rfl) ν t2
  have N2 : nums c m 0 n S 2 2 e1 (xU (xU (fun _ => 0) 0 v0) 1 v1) = match pN c m e1 (lo 0 2) (hx 0 2 n (S (xU (xU (fun _ => 0) 0 v0) 1 v1 0))) with
    | .inl p => .inl p
    | .inr (e, v) => nums c m 0 n S 1 3 e (xU (xU (xU (fun _ => 0) 0 v0) 1 v1) 2 v) := nums_s
  show rO c m n q S μ ν (match nums c m 0 n S 2 2 e1 (xU (xU (fun _ => 0) 0 v0) 1 v1) with
    | .inl p => .inl p
    | .inr (e, x) => .inr (e, 0, x))
  rw [N2]
  rcases hN3 : pN c m e1 (lo 0 2) (hx 0 2 n (S (xU (xU (fun _ => 0) 0 v0) 1 v1 0))) with p | ⟨e2, v2⟩
  · obtain ⟨μ4, u1, u2, u3⟩ := R2.2 p hN3
    have u1' : m_X3_readNumber (nI 2) (nI 1) (nI 12) μ3 ν = some (nI 0, μ4, ν) := u1
    refine rO_l ⟨μ4, ?_, fun y h6 _ h16 h17 => by rw [u2 y h6 h17, t3 y h6 h17, r3 y h6 h17, f1 y h6 h16], u3⟩
    have NW : m_X3_readNewBand μ1 ν = some (nI 0, μ4, ν) := by
      simp -implicitDefEqProofs (disch := omega) only [m_X3_readNewBand, r1', t1', u1', ev_b, ev_b2, ev_g, ev_gF, ev_on, ev_os, ev_cl, ev_in, ev_in6, ev_eq0, ev_lt0, ev_0le, ev_le0, ev_0lt, ev_lt, ev_le, ev_eq, ev_m1a, ev_m1b, ev_m1c, ev_m1d, ev_m1e, ev_n1, ev_n4, ev_n8, ev_n9, ev_n10, ev_n11, ev_n12, ev_n13, ev_n14, ev_n15, ev_n16, ev_n17, ev_n59, ev_n60, ev_n61, ev_n62, ev_n63, ev_n64, ev_n65, ev_n66, ev_n67, ev_n68, ev_n69, ev_n70, ev_n71, ev_n72, ev_n73, ev_n74, ev_n75, ev_n76, ev_n77, ev_n78, ev_n79, ev_n80, ev_k18, ev_k34, ev_k40, ev_n26, ev_n26b, ev_n46, ev_n46b, ev_n52b, ev_uq, ev_us, ev_uj, ev_lq, ev_ls, ev_lj, ev_urq, ev_urs, ev_ulq, ev_uls, nI_add, pk_sub, pk_mul, if_true, if_false, ite_true, ite_false, decide_true, decide_false, eq_self_iff_true, Nat.reduceEqDiff, Nat.reduceLeDiff, Nat.reduceLT, Nat.reduceAdd, Nat.reduceMul, Nat.reduceSub, Nat.reduceDiv, Nat.reduceMod, ↓reduceIte]
    simp -implicitDefEqProofs (disch := omega) only [m_X3_readItem, h.1, h.2.1, LH', w1', q23, HR, NW, ev_b, ev_b2, ev_g, ev_gF, ev_on, ev_os, ev_cl, ev_in, ev_in6, ev_eq0, ev_lt0, ev_0le, ev_le0, ev_0lt, ev_lt, ev_le, ev_eq, ev_m1a, ev_m1b, ev_m1c, ev_m1d, ev_m1e, ev_n1, ev_n4, ev_n8, ev_n9, ev_n10, ev_n11, ev_n12, ev_n13, ev_n14, ev_n15, ev_n16, ev_n17, ev_n59, ev_n60, ev_n61, ev_n62, ev_n63, ev_n64, ev_n65, ev_n66, ev_n67, ev_n68, ev_n69, ev_n70, ev_n71, ev_n72, ev_n73, ev_n74, ev_n75, ev_n76, ev_n77, ev_n78, ev_n79, ev_n80, ev_k18, ev_k34, ev_k40, ev_n26, ev_n26b, ev_n46, ev_n46b, ev_n52b, ev_uq, ev_us, ev_uj, ev_lq, ev_ls, ev_lj, ev_urq, ev_urs, ev_ulq, ev_uls, nI_add, pk_sub, pk_mul, if_true, if_false, ite_true, ite_false, decide_true, decide_false, eq_self_iff_true, Nat.reduceEqDiff, Nat.reduceLeDiff, Nat.reduceLT, Nat.reduceAdd, Nat.reduceMul, Nat.reduceSub, Nat.reduceDiv, Nat.reduceMod, ↓reduceIte]
  obtain ⟨μ4, u1, u2, u3, u4, u5, u6⟩ := R2.1 e2 v2 hN3
  have u1' : m_X3_readNumber (nI 2) (nI 1) (nI 12) μ3 ν = some (nI 1, μ4, ν) := u1
  have em3 := (pN_r hN3).2.1
  have R3 := rn_X (p := 3) (lw := lo 0 3) (hw := hx 0 3 n (S (xU (xU (xU (fun _ => 0) 0 v0) 1 v1) 2 v2 0))) (v3 := nI 9) hm em3 (by decide) hq (by decide) (vle (by decide) rfl) ν u2
  have N3 : nums c m 0 n S 1 3 e2 (xU (xU (xU (fun _ => 0) 0 v0) 1 v1) 2 v2) = match pN c m e2 (lo 0 3) (hx 0 3 n (S (xU (xU (xU (fun _ => 0) 0 v0) 1 v1) 2 v2 0))) with
    | .inl p => .inl p
    | .inr (e, v) => nums c m 0 n S 0 4 e (xU (xU (xU (xU (fun _ => 0) 0 v0) 1 v1) 2 v2) 3 v) := nums_s
  show rO c m n q S μ ν (match nums c m 0 n S 1 3 e2 (xU (xU (xU (fun _ => 0) 0 v0) 1 v1) 2 v2) with
    | .inl p => .inl p
    | .inr (e, x) => .inr (e, 0, x))
  rw [N3]
  rcases hN4 : pN c m e2 (lo 0 3) (hx 0 3 n (S (xU (xU (xU (fun _ => 0) 0 v0) 1 v1) 2 v2 0))) with p | ⟨e3, v3⟩
  · obtain ⟨μ5, y1, y2, y3⟩ := R3.2 p hN4
    have y1' : m_X3_readNumber (nI 3) (nI 0) (nI 9) μ4 ν = some (nI 0, μ5, ν) := y1
    refine rO_l ⟨μ5, ?_, fun y h6 _ h16 h17 => by rw [y2 y h6 h17, u3 y h6 h17, t3 y h6 h17, r3 y h6 h17, f1 y h6 h16], y3⟩
    have NW : m_X3_readNewBand μ1 ν = some (nI 0, μ5, ν) := by
      simp -implicitDefEqProofs (disch := omega) only [m_X3_readNewBand, r1', t1', u1', y1', ev_b, ev_b2, ev_g, ev_gF, ev_on, ev_os, ev_cl, ev_in, ev_in6, ev_eq0, ev_lt0, ev_0le, ev_le0, ev_0lt, ev_lt, ev_le, ev_eq, ev_m1a, ev_m1b, ev_m1c, ev_m1d, ev_m1e, ev_n1, ev_n4, ev_n8, ev_n9, ev_n10, ev_n11, ev_n12, ev_n13, ev_n14, ev_n15, ev_n16, ev_n17, ev_n59, ev_n60, ev_n61, ev_n62, ev_n63, ev_n64, ev_n65, ev_n66, ev_n67, ev_n68, ev_n69, ev_n70, ev_n71, ev_n72, ev_n73, ev_n74, ev_n75, ev_n76, ev_n77, ev_n78, ev_n79, ev_n80, ev_k18, ev_k34, ev_k40, ev_n26, ev_n26b, ev_n46, ev_n46b, ev_n52b, ev_uq, ev_us, ev_uj, ev_lq, ev_ls, ev_lj, ev_urq, ev_urs, ev_ulq, ev_uls, nI_add, pk_sub, pk_mul, if_true, if_false, ite_true, ite_false, decide_true, decide_false, eq_self_iff_true, Nat.reduceEqDiff, Nat.reduceLeDiff, Nat.reduceLT, Nat.reduceAdd, Nat.reduceMul, Nat.reduceSub, Nat.reduceDiv, Nat.reduceMod, ↓reduceIte]
    simp -implicitDefEqProofs (disch := omega) only [m_X3_readItem, h.1, h.2.1, LH', w1', q23, HR, NW, ev_b, ev_b2, ev_g, ev_gF, ev_on, ev_os, ev_cl, ev_in, ev_in6, ev_eq0, ev_lt0, ev_0le, ev_le0, ev_0lt, ev_lt, ev_le, ev_eq, ev_m1a, ev_m1b, ev_m1c, ev_m1d, ev_m1e, ev_n1, ev_n4, ev_n8, ev_n9, ev_n10, ev_n11, ev_n12, ev_n13, ev_n14, ev_n15, ev_n16, ev_n17, ev_n59, ev_n60, ev_n61, ev_n62, ev_n63, ev_n64, ev_n65, ev_n66, ev_n67, ev_n68, ev_n69, ev_n70, ev_n71, ev_n72, ev_n73, ev_n74, ev_n75, ev_n76, ev_n77, ev_n78, ev_n79, ev_n80, ev_k18, ev_k34, ev_k40, ev_n26, ev_n26b, ev_n46, ev_n46b, ev_n52b, ev_uq, ev_us, ev_uj, ev_lq, ev_ls, ev_lj, ev_urq, ev_urs, ev_ulq, ev_uls, nI_add, pk_sub, pk_mul, if_true, if_false, ite_true, ite_false, decide_true, decide_false, eq_self_iff_true, Nat.reduceEqDiff, Nat.reduceLeDiff, Nat.reduceLT, Nat.reduceAdd, Nat.reduceMul, Nat.reduceSub, Nat.reduceDiv, Nat.reduceMod, ↓reduceIte]
  · obtain ⟨μ5, y1, y2, y3, y4, y5, y6⟩ := R3.1 e3 v3 hN4
    have y1' : m_X3_readNumber (nI 3) (nI 0) (nI 9) μ4 ν = some (nI 1, μ5, ν) := y1
    have z2 : μ5 17 (q * 4 + 2) = nI v2 := by rw [y6 _ (by omega)]; exact u5
    have NB : m_X3_number (nI q) (nI 2) μ5 ν = some (nI v2) := by
      simp -implicitDefEqProofs (disch := omega) only [m_X3_number, q23', z2, ev_b, ev_b2, ev_g, ev_gF, ev_on, ev_os, ev_cl, ev_in, ev_in6, ev_eq0, ev_lt0, ev_0le, ev_le0, ev_0lt, ev_lt, ev_le, ev_eq, ev_m1a, ev_m1b, ev_m1c, ev_m1d, ev_m1e, ev_n1, ev_n4, ev_n8, ev_n9, ev_n10, ev_n11, ev_n12, ev_n13, ev_n14, ev_n15, ev_n16, ev_n17, ev_n59, ev_n60, ev_n61, ev_n62, ev_n63, ev_n64, ev_n65, ev_n66, ev_n67, ev_n68, ev_n69, ev_n70, ev_n71, ev_n72, ev_n73, ev_n74, ev_n75, ev_n76, ev_n77, ev_n78, ev_n79, ev_n80, ev_k18, ev_k34, ev_k40, ev_n26, ev_n26b, ev_n46, ev_n46b, ev_n52b, ev_uq, ev_us, ev_uj, ev_lq, ev_ls, ev_lj, ev_urq, ev_urs, ev_ulq, ev_uls, nI_add, pk_sub, pk_mul, if_true, if_false, ite_true, ite_false, decide_true, decide_false, eq_self_iff_true, Nat.reduceEqDiff, Nat.reduceLeDiff, Nat.reduceLT, Nat.reduceAdd, Nat.reduceMul, Nat.reduceSub, Nat.reduceDiv, Nat.reduceMod, ↓reduceIte]
    have NT : m_X3_noteBand (nI v2) μ5 ν = some (nI 1, fm_u (fm_u μ5 15 n (nI v2)) 6 4 (nI (n + 1)), ν) := by
      simp -implicitDefEqProofs (disch := omega) only [m_X3_noteBand, y2.2.2.2.1, n6, ev_b, ev_b2, ev_g, ev_gF, ev_on, ev_os, ev_cl, ev_in, ev_in6, ev_eq0, ev_lt0, ev_0le, ev_le0, ev_0lt, ev_lt, ev_le, ev_eq, ev_m1a, ev_m1b, ev_m1c, ev_m1d, ev_m1e, ev_n1, ev_n4, ev_n8, ev_n9, ev_n10, ev_n11, ev_n12, ev_n13, ev_n14, ev_n15, ev_n16, ev_n17, ev_n59, ev_n60, ev_n61, ev_n62, ev_n63, ev_n64, ev_n65, ev_n66, ev_n67, ev_n68, ev_n69, ev_n70, ev_n71, ev_n72, ev_n73, ev_n74, ev_n75, ev_n76, ev_n77, ev_n78, ev_n79, ev_n80, ev_k18, ev_k34, ev_k40, ev_n26, ev_n26b, ev_n46, ev_n46b, ev_n52b, ev_uq, ev_us, ev_uj, ev_lq, ev_ls, ev_lj, ev_urq, ev_urs, ev_ulq, ev_uls, nI_add, pk_sub, pk_mul, if_true, if_false, ite_true, ite_false, decide_true, decide_false, eq_self_iff_true, Nat.reduceEqDiff, Nat.reduceLeDiff, Nat.reduceLT, Nat.reduceAdd, Nat.reduceMul, Nat.reduceSub, Nat.reduceDiv, Nat.reduceMod, ↓reduceIte]
    have fr : ∀ y, y ≠ 6 → y ≠ 15 → y ≠ 16 → y ≠ 17 → (fm_u (fm_u μ5 15 n (nI v2)) 6 4 (nI (n + 1))) y = μ y := fun y h6 h15 h16 h17 => by rw [ev_uq h6, ev_uq h15, y3 y h6 h17, u3 y h6 h17, t3 y h6 h17, r3 y h6 h17, f1 y h6 h16]
    have f16 : (fm_u (fm_u μ5 15 n (nI v2)) 6 4 (nI (n + 1))) 16 = μ1 16 := by rw [ev_uq (by decide), ev_uq (by decide), y3 16 (by decide) (by decide), u3 16 (by decide) (by decide), t3 16 (by decide) (by decide), r3 16 (by decide) (by decide)]
    have f17 : (fm_u (fm_u μ5 15 n (nI v2)) 6 4 (nI (n + 1))) 17 = μ5 17 := by rw [ev_uq (by decide), ev_uq (by decide)]
    refine rO_r (e := e3) (w := 0) (x := xU (xU (xU (xU (fun _ => 0) 0 v0) 1 v1) 2 v2) 3 v3) ⟨fm_u (fm_u μ5 15 n (nI v2)) 6 4 (nI (n + 1)), ?_, ?_, fr, ?_, by rw [f16]; exact g16, fun y hy => by rw [f16]; exact g16n y hy, fun j hj => ?_, fun y hy => by rw [f17, y6 y (by omega), u6 y (by omega), t6 y (by omega), r6 y (by omega), f1 17 (by decide) (by decide)]⟩
    · have NW : m_X3_readNewBand μ1 ν = some (nI 1, fm_u (fm_u μ5 15 n (nI v2)) 6 4 (nI (n + 1)), ν) := by
        simp -implicitDefEqProofs (disch := omega) only [m_X3_readNewBand, r1', t1', u1', y1', y2.1, NB, NT, ev_b, ev_b2, ev_g, ev_gF, ev_on, ev_os, ev_cl, ev_in, ev_in6, ev_eq0, ev_lt0, ev_0le, ev_le0, ev_0lt, ev_lt, ev_le, ev_eq, ev_m1a, ev_m1b, ev_m1c, ev_m1d, ev_m1e, ev_n1, ev_n4, ev_n8, ev_n9, ev_n10, ev_n11, ev_n12, ev_n13, ev_n14, ev_n15, ev_n16, ev_n17, ev_n59, ev_n60, ev_n61, ev_n62, ev_n63, ev_n64, ev_n65, ev_n66, ev_n67, ev_n68, ev_n69, ev_n70, ev_n71, ev_n72, ev_n73, ev_n74, ev_n75, ev_n76, ev_n77, ev_n78, ev_n79, ev_n80, ev_k18, ev_k34, ev_k40, ev_n26, ev_n26b, ev_n46, ev_n46b, ev_n52b, ev_uq, ev_us, ev_uj, ev_lq, ev_ls, ev_lj, ev_urq, ev_urs, ev_ulq, ev_uls, nI_add, pk_sub, pk_mul, if_true, if_false, ite_true, ite_false, decide_true, decide_false, eq_self_iff_true, Nat.reduceEqDiff, Nat.reduceLeDiff, Nat.reduceLT, Nat.reduceAdd, Nat.reduceMul, Nat.reduceSub, Nat.reduceDiv, Nat.reduceMod, ↓reduceIte]
      simp -implicitDefEqProofs (disch := omega) only [m_X3_readItem, h.1, h.2.1, LH', w1', q23, HR, NW, ev_b, ev_b2, ev_g, ev_gF, ev_on, ev_os, ev_cl, ev_in, ev_in6, ev_eq0, ev_lt0, ev_0le, ev_le0, ev_0lt, ev_lt, ev_le, ev_eq, ev_m1a, ev_m1b, ev_m1c, ev_m1d, ev_m1e, ev_n1, ev_n4, ev_n8, ev_n9, ev_n10, ev_n11, ev_n12, ev_n13, ev_n14, ev_n15, ev_n16, ev_n17, ev_n59, ev_n60, ev_n61, ev_n62, ev_n63, ev_n64, ev_n65, ev_n66, ev_n67, ev_n68, ev_n69, ev_n70, ev_n71, ev_n72, ev_n73, ev_n74, ev_n75, ev_n76, ev_n77, ev_n78, ev_n79, ev_n80, ev_k18, ev_k34, ev_k40, ev_n26, ev_n26b, ev_n46, ev_n46b, ev_n52b, ev_uq, ev_us, ev_uj, ev_lq, ev_ls, ev_lj, ev_urq, ev_urs, ev_ulq, ev_uls, nI_add, pk_sub, pk_mul, if_true, if_false, ite_true, ite_false, decide_true, decide_false, eq_self_iff_true, Nat.reduceEqDiff, Nat.reduceLeDiff, Nat.reduceLT, Nat.reduceAdd, Nat.reduceMul, Nat.reduceSub, Nat.reduceDiv, Nat.reduceMod, ↓reduceIte]
    · obtain ⟨a1, a2, a3, a4, a5, a6⟩ := y2
      refine ⟨by rw [ev_uj (by decide), ev_uq (by decide)]; exact a1, by rw [ev_uj (by decide), ev_uq (by decide)]; exact a2, by rw [ev_uj (by decide), ev_uq (by decide)]; exact a3, ev_us, fun i hi => by rw [ev_uq (by decide), ev_uq (by decide)]; exact a5 i hi, fun b hb => ?_⟩
      have hb' : b < n + 1 := hb
      rw [ev_uq (by decide), ev_u]
      by_cases z : b = n
      · rw [if_pos ⟨rfl, z⟩, z]
        show nI v2 = nI (if n = n then v2 else S n)
        rw [if_pos rfl]
      · rw [if_neg (fun w => z w.2), a6 b (by omega)]
        show nI (S b) = nI (if b = n then v2 else S b)
        rw [if_neg z]
    · rw [ev_uj (by decide), ev_uq (by decide), y4, u4, t4, r4, g0]
    · rw [f17]
      have c2 : cnt 0 = 4 := rfl
      rcases (by omega : j = 0 ∨ j = 1 ∨ j = 2 ∨ j = 3) with rfl | rfl | rfl | rfl
      · rw [y6 _ (by omega), u6 _ (by omega), t6 _ (by omega)]
        exact r5
      · rw [y6 _ (by omega), u6 _ (by omega)]
        exact t5
      · exact z2
      · exact y5
theorem ri_X {c : Nat → Int32} {m a n q : Nat} {S : Nat → Nat} (hm : m ≤ 160) (ha : a ≤ m) (hq : q < 23) (hn : n ≤ 6) (hS : ∀ b, b < n → 1 ≤ S b ∧ S b ≤ 12) {μ : fm_I} (ν : fm_L) (h : rS c m a n q S μ) : rO c m n q S μ ν (pI c m n S a) := by
  have fl : fwA c m a ≤ 5 := by
    unfold fwA
    split
    · exact fw_le _
    · exact Nat.le_refl 5
  rcases (by omega : fwA c m a = 0 ∨ fwA c m a = 1 ∨ fwA c m a = 2 ∨ fwA c m a = 3 ∨ fwA c m a = 4 ∨ fwA c m a = 5) with e | e | e | e | e | e
  · exact ri_0 hm ha hq hn ν h e
  · exact ri_1 hm ha hq hn ν h e
  · exact ri_2 hm ha hq hn ν h e
  · exact ri_3 hm ha hq hn hS ν h e
  · exact ri_4 hm ha hq hn ν h e
  · exact ri_5 hm ha hq ν h e
