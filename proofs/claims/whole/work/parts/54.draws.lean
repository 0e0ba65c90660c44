/-! DRAWS -/
def dS (s : Int32) : Int32 := s * nI 1103515245 + nI 12345
def dN (x : Int32) : Nat := x.toBitVec.toNat / 65536
theorem dN_lt (x : Int32) : dN x < 65536 := by
  have := x.toBitVec.isLt
  unfold dN
  omega
theorem dN_eq (x : Int32) : (x.toUInt32 >>> ((nI 16).toUInt32 &&& Int32.toUInt32 31)).toInt32 = nI (x.toBitVec.toNat / 65536) := by
  have e : ((nI 16).toUInt32 &&& Int32.toUInt32 31) = 16 := by decide
  rw [e]
  apply Int32.toBitVec_inj.mp
  show (x.toUInt32 >>> 16).toBitVec = BitVec.ofNat 32 _
  apply BitVec.eq_of_toNat_eq
  rw [BitVec.toNat_ofNat]
  show (x.toUInt32 >>> 16).toNat = _
  rw [UInt32.toNat_shiftRight]
  show x.toBitVec.toNat >>> (16 % 32) = _
  rw [show 16 % 32 = 16 from rfl, Nat.shiftRight_eq_div_pow]
  have := x.toBitVec.isLt
  omega
theorem dr_X {D : Int32 → Int32} (hD : ∀ s, s * nI 1103515245 + nI 12345 = D s) (m : Nat) (h0 : 0 < m) (hm : m < 100) (μ : fm_I) (ν : fm_L) : m_X5_draw (nI m) μ ν = some (nI (dN (D (μ 0 8)) % m), fm_u μ 0 8 (D (μ 0 8)), ν) := by
  have e : (nI m = 0) = False := by rw [ev_eq0 (by omega)]; exact eq_false (by omega)
  have e1 : (1 ≤ m) = True := eq_true (by omega)
  have b := dN_lt (D (μ 0 8))
  simp -implicitDefEqProofs (disch := omega) only [m_X5_draw, e, e1, not_false_eq_true, dN_eq, ev_b, ev_b2, ev_g, ev_gF, ev_on, ev_os, ev_cl, ev_in, ev_in6, ev_eq0, ev_lt0, ev_0le, ev_le0, ev_0lt, ev_lt, ev_le, ev_eq, ev_m1a, ev_m1b, ev_m1c, ev_m1d, ev_m1e, ev_n1, ev_n4, ev_n8, ev_n9, ev_n10, ev_n11, ev_n12, ev_n13, ev_n14, ev_n15, ev_n16, ev_n17, ev_n59, ev_n60, ev_n61, ev_n62, ev_n63, ev_n64, ev_n65, ev_n66, ev_n67, ev_n68, ev_n69, ev_n70, ev_n71, ev_n72, ev_n73, ev_n74, ev_n75, ev_n76, ev_n77, ev_n78, ev_n79, ev_n80, ev_k18, ev_k34, ev_k40, ev_n26, ev_n26b, ev_n46, ev_n46b, ev_n52b, ev_uq, ev_us, ev_uj, ev_lq, ev_ls, ev_lj, ev_urq, ev_urs, ev_ulq, ev_uls, nI_add, pk_sub, pk_mul, if_true, if_false, ite_true, ite_false, decide_true, decide_false, eq_self_iff_true, Nat.reduceEqDiff, Nat.reduceLeDiff, Nat.reduceLT, Nat.reduceAdd, Nat.reduceMul, Nat.reduceSub, Nat.reduceDiv, Nat.reduceMod, ↓reduceIte]
  rw [hD, show (D (μ 0 8)).toBitVec.toNat / 65536 = dN (D (μ 0 8)) from rfl, pk_rem (by omega) h0 (by omega)]
theorem dr_M {D : Int32 → Int32} (hD : ∀ s, s * nI 1103515245 + nI 12345 = D s) (m : Nat) (h0 : 0 < m) (hm : m < 100) (μ : fm_I) (ν : fm_L) : m_X6_draw (nI m) μ ν = some (nI (dN (D (μ 58 2)) % m), fm_u μ 58 2 (D (μ 58 2)), ν) := by
  have e : (nI m = 0) = False := by rw [ev_eq0 (by omega)]; exact eq_false (by omega)
  have b := dN_lt (D (μ 58 2))
  simp -implicitDefEqProofs (disch := omega) only [m_X6_draw, e, not_false_eq_true, dN_eq, ev_b, ev_b2, ev_g, ev_gF, ev_on, ev_os, ev_cl, ev_in, ev_in6, ev_eq0, ev_lt0, ev_0le, ev_le0, ev_0lt, ev_lt, ev_le, ev_eq, ev_m1a, ev_m1b, ev_m1c, ev_m1d, ev_m1e, ev_n1, ev_n4, ev_n8, ev_n9, ev_n10, ev_n11, ev_n12, ev_n13, ev_n14, ev_n15, ev_n16, ev_n17, ev_n59, ev_n60, ev_n61, ev_n62, ev_n63, ev_n64, ev_n65, ev_n66, ev_n67, ev_n68, ev_n69, ev_n70, ev_n71, ev_n72, ev_n73, ev_n74, ev_n75, ev_n76, ev_n77, ev_n78, ev_n79, ev_n80, ev_k18, ev_k34, ev_k40, ev_n26, ev_n26b, ev_n46, ev_n46b, ev_n52b, ev_uq, ev_us, ev_uj, ev_lq, ev_ls, ev_lj, ev_urq, ev_urs, ev_ulq, ev_uls, nI_add, pk_sub, pk_mul, if_true, if_false, ite_true, ite_false, decide_true, decide_false, eq_self_iff_true, Nat.reduceEqDiff, Nat.reduceLeDiff, Nat.reduceLT, Nat.reduceAdd, Nat.reduceMul, Nat.reduceSub, Nat.reduceDiv, Nat.reduceMod, ↓reduceIte]
  rw [hD, show (D (μ 58 2)).toBitVec.toNat / 65536 = dN (D (μ 58 2)) from rfl, pk_rem (by omega) h0 (by omega)]
theorem clX_s {n : Nat} {F : Nat → Nat → Nat} {s p f : Int32} {μ : fm_I} (h : clX n F s p f μ) (hn : n ≤ 6) (w : Int32) : clX n F w p f (fm_u μ 0 8 w) ∧ frX μ (fm_u μ 0 8 w) := by
  obtain ⟨h1, h2, h3, h4, h5⟩ := h
  refine ⟨⟨?_, ?_, ?_, ?_, fun b hb => kp_X (h5 b hb) (by rw [ev_uq (by omega)]) (by rw [ev_uq (by omega)])⟩, fun q hq => ev_uq hq.1, fun k k1 k2 => by rw [ev_uj (by omega)], fun b hb => by rw [ev_uq (by omega)]⟩
  · rw [ev_uj (by omega)]; exact h1
  · rw [ev_us]
  · rw [ev_uj (by omega)]; exact h3
  · rw [ev_uj (by omega)]; exact h4
theorem clM_s {n : Nat} {F : Nat → Nat → Nat} {s p f : Int32} {μ : fm_I} (h : clM n F s p f μ) (w : Int32) : clM n F w p f (fm_u μ 58 2 w) ∧ frM μ (fm_u μ 58 2 w) := by
  obtain ⟨h1, h2, h3, h4, h5⟩ := h
  refine ⟨⟨?_, ?_, ?_, ?_, fun b hb => kp_M (h5 b hb) (fun q q1 q2 => by rw [ev_uq (by omega)])⟩, fun q hq => ev_uq hq.1, fun k k1 => by rw [ev_uj (by omega)]⟩
  · rw [ev_uj (by omega)]; exact h1
  · rw [ev_us]
  · rw [ev_uj (by omega)]; exact h3
  · rw [ev_uj (by omega)]; exact h4
def d5 (D : Int32 → Int32) (s : Int32) : Int32 := D (D (D (D (D s))))
def dB (D : Int32 → Int32) (s : Int32) : Nat → Nat := nb (dN (D s) % 7) (dN (D (D s)) % 9) (dN (D (D (D s))) % 12 + 1) (dN (D (D (D (D s)))) % 2) (dN (D (D (D (D (D s))))) % 10)
def dF (D : Int32 → Int32) (F : Nat → Nat → Nat) (n : Nat) (s : Int32) : Nat → Nat → Nat → Nat
  | 0 => F
  | d + 1 => dF D (fA F n (dB D s)) (n + 1) (d5 D s) d
def dZ (D : Int32 → Int32) (s : Int32) : Nat → Int32
  | 0 => s
  | d + 1 => dZ D (d5 D s) d
theorem clX_e {D : Int32 → Int32} {m n d : Nat} {F : Nat → Nat → Nat} {s p f : Int32} {μ : fm_I} (h : m = n + 1 + d) (c : clX (n + 1 + d) (dF D (fA F n (dB D s)) (n + 1) (d5 D s) d) (dZ D (d5 D s) d) p f μ) : clX m (dF D F n s (d + 1)) (dZ D s (d + 1)) p f μ := by
  subst h
  exact c
theorem clM_e {D : Int32 → Int32} {m n d : Nat} {F : Nat → Nat → Nat} {s p f : Int32} {μ : fm_I} (h : m = n + 1 + d) (c : clM (n + 1 + d) (dF D (fA F n (dB D s)) (n + 1) (d5 D s) d) (dZ D (d5 D s) d) p f μ) : clM m (dF D F n s (d + 1)) (dZ D s (d + 1)) p f μ := by
  subst h
  exact c
theorem dB_B (D : Int32 → Int32) (s : Int32) : pa_B (dB D s) := nb_B (by omega) (by omega) (by omega) (by omega) (by omega) (by omega)
theorem dF_B (D : Int32 → Int32) : ∀ (d n : Nat) (F : Nat → Nat → Nat) (s : Int32), (∀ b, b < n → pa_B (F b)) → ∀ b, b < n + d → pa_B (dF D F n s d b) := by
  intro d
  induction d with
  | zero => intro n F s h b hb; exact h b hb
  | succ d ih =>
    intro n F s h b hb
    exact ih (n + 1) _ _ (fA_B h (dB_B D s)) b (by omega)
theorem dL_X {D : Int32 → Int32} (hD : ∀ s, s * nI 1103515245 + nI 12345 = D s) (r : Nat) (hr : r ≤ 6) (K : fm_I → fm_L → Option (Int32 × fm_I × fm_L)) : ∀ (d i fuel n : Nat) (F : Nat → Nat → Nat) (s p f : Int32) (μ : fm_I) (ν : fm_L), i + d = r → d < fuel → n + d ≤ 6 → clX n F s p f μ → ∃ μ1, m_X5_draws_32 (nI r) K fuel (nI i) μ ν = K μ1 ν ∧ frX μ μ1 ∧ clX (n + d) (dF D F n s d) (dZ D s d) p f μ1 := by
  intro d
  induction d with
  | zero =>
    intro i fuel n F s p f μ ν hi hf hn h
    obtain ⟨k, rfl⟩ : ∃ k, fuel = k + 1 := ⟨fuel - 1, by omega⟩
    refine ⟨μ, ?_, frX_r μ, h⟩
    rw [m_X5_draws_32, if_pos (by simp -implicitDefEqProofs (disch := omega) only [ev_b, ev_b2, ev_g, ev_gF, ev_on, ev_os, ev_cl, ev_in, ev_in6, ev_eq0, ev_lt0, ev_0le, ev_le0, ev_0lt, ev_lt, ev_le, ev_eq, ev_m1a, ev_m1b, ev_m1c, ev_m1d, ev_m1e, ev_n1, ev_n4, ev_n8, ev_n9, ev_n10, ev_n11, ev_n12, ev_n13, ev_n14, ev_n15, ev_n16, ev_n17, ev_n59, ev_n60, ev_n61, ev_n62, ev_n63, ev_n64, ev_n65, ev_n66, ev_n67, ev_n68, ev_n69, ev_n70, ev_n71, ev_n72, ev_n73, ev_n74, ev_n75, ev_n76, ev_n77, ev_n78, ev_n79, ev_n80, ev_k18, ev_k34, ev_k40, ev_n26, ev_n26b, ev_n46, ev_n46b, ev_n52b, ev_uq, ev_us, ev_uj, ev_lq, ev_ls, ev_lj, ev_urq, ev_urs, ev_ulq, ev_uls, nI_add, pk_sub, pk_mul, if_true, if_false, ite_true, ite_false, decide_true, decide_false, eq_self_iff_true, Nat.reduceEqDiff, Nat.reduceLeDiff, Nat.reduceLT, Nat.reduceAdd, Nat.reduceMul, Nat.reduceSub, Nat.reduceDiv, Nat.reduceMod, ↓reduceIte]; omega)]
  | succ d ih =>
    intro i fuel n F s p f μ ν hi hf hn h
    obtain ⟨k, rfl⟩ : ∃ k, fuel = k + 1 := ⟨fuel - 1, by omega⟩
    obtain ⟨c1, g1⟩ := clX_s h (by omega) (D s)
    obtain ⟨c2, g2⟩ := clX_s c1 (by omega) (D (D s))
    obtain ⟨c3, g3⟩ := clX_s c2 (by omega) (D (D (D s)))
    obtain ⟨c4, g4⟩ := clX_s c3 (by omega) (D (D (D (D s))))
    obtain ⟨c5, g5⟩ := clX_s c4 (by omega) (d5 D s)
    obtain ⟨μ1, e1, g6, c6⟩ := add_X ν c5 (by omega) (dN (D s) % 7) (dN (D (D s)) % 9) (dN (D (D (D s))) % 12 + 1) (dN (D (D (D (D s)))) % 2) (dN (D (D (D (D (D s))))) % 10)
    obtain ⟨μ2, e2, g7, c7⟩ := ih (i + 1) k (n + 1) (fA F n (dB D s)) (d5 D s) p f μ1 ν (by omega) (by omega) (by omega) (by unfold dB; exact c6)
    refine ⟨μ2, ?_, frX_t g1 (frX_t g2 (frX_t g3 (frX_t g4 (frX_t g5 (frX_t g6 g7))))), clX_e (by omega) c7⟩
    rw [show d5 D s = D (D (D (D (D s)))) from rfl] at e1
    rw [m_X5_draws_32, if_neg (by simp -implicitDefEqProofs (disch := omega) only [ev_b, ev_b2, ev_g, ev_gF, ev_on, ev_os, ev_cl, ev_in, ev_in6, ev_eq0, ev_lt0, ev_0le, ev_le0, ev_0lt, ev_lt, ev_le, ev_eq, ev_m1a, ev_m1b, ev_m1c, ev_m1d, ev_m1e, ev_n1, ev_n4, ev_n8, ev_n9, ev_n10, ev_n11, ev_n12, ev_n13, ev_n14, ev_n15, ev_n16, ev_n17, ev_n59, ev_n60, ev_n61, ev_n62, ev_n63, ev_n64, ev_n65, ev_n66, ev_n67, ev_n68, ev_n69, ev_n70, ev_n71, ev_n72, ev_n73, ev_n74, ev_n75, ev_n76, ev_n77, ev_n78, ev_n79, ev_n80, ev_k18, ev_k34, ev_k40, ev_n26, ev_n26b, ev_n46, ev_n46b, ev_n52b, ev_uq, ev_us, ev_uj, ev_lq, ev_ls, ev_lj, ev_urq, ev_urs, ev_ulq, ev_uls, nI_add, pk_sub, pk_mul, if_true, if_false, ite_true, ite_false, decide_true, decide_false, eq_self_iff_true, Nat.reduceEqDiff, Nat.reduceLeDiff, Nat.reduceLT, Nat.reduceAdd, Nat.reduceMul, Nat.reduceSub, Nat.reduceDiv, Nat.reduceMod, ↓reduceIte]; omega)]
    simp -implicitDefEqProofs (disch := omega) only [dr_X hD 7 (by decide) (by decide), dr_X hD 9 (by decide) (by decide), dr_X hD 12 (by decide) (by decide), dr_X hD 2 (by decide) (by decide), dr_X hD 10 (by decide) (by decide), h.2.1, e1, ev_b, ev_b2, ev_g, ev_gF, ev_on, ev_os, ev_cl, ev_in, ev_in6, ev_eq0, ev_lt0, ev_0le, ev_le0, ev_0lt, ev_lt, ev_le, ev_eq, ev_m1a, ev_m1b, ev_m1c, ev_m1d, ev_m1e, ev_n1, ev_n4, ev_n8, ev_n9, ev_n10, ev_n11, ev_n12, ev_n13, ev_n14, ev_n15, ev_n16, ev_n17, ev_n59, ev_n60, ev_n61, ev_n62, ev_n63, ev_n64, ev_n65, ev_n66, ev_n67, ev_n68, ev_n69, ev_n70, ev_n71, ev_n72, ev_n73, ev_n74, ev_n75, ev_n76, ev_n77, ev_n78, ev_n79, ev_n80, ev_k18, ev_k34, ev_k40, ev_n26, ev_n26b, ev_n46, ev_n46b, ev_n52b, ev_uq, ev_us, ev_uj, ev_lq, ev_ls, ev_lj, ev_urq, ev_urs, ev_ulq, ev_uls, nI_add, pk_sub, pk_mul, if_true, if_false, ite_true, ite_false, decide_true, decide_false, eq_self_iff_true, Nat.reduceEqDiff, Nat.reduceLeDiff, Nat.reduceLT, Nat.reduceAdd, Nat.reduceMul, Nat.reduceSub, Nat.reduceDiv, Nat.reduceMod, ↓reduceIte]
    exact e2
theorem dL_M {D : Int32 → Int32} (hD : ∀ s, s * nI 1103515245 + nI 12345 = D s) (c : Nat) (hc : c ≤ 6) (K : Int32 → fm_I → fm_L → Option (Int32 × fm_I × fm_L)) : ∀ (d i fuel n : Nat) (F : Nat → Nat → Nat) (s p f : Int32) (μ : fm_I) (ν : fm_L), (i + d = c ∨ i + d ≤ c ∧ n + d = 6) → d < fuel → n + d ≤ 6 → clM n F s p f μ → ∃ μ1, m_X6_draws_20 (nI c) K fuel (nI i) μ ν = K (nI (i + d)) μ1 ν ∧ frM μ μ1 ∧ clM (n + d) (dF D F n s d) (dZ D s d) p f μ1 := by
  intro d
  induction d with
  | zero =>
    intro i fuel n F s p f μ ν hi hf hn h
    obtain ⟨k, rfl⟩ : ∃ k, fuel = k + 1 := ⟨fuel - 1, by omega⟩
    refine ⟨μ, ?_, frM_r μ, h⟩
    rw [m_X6_draws_20]
    by_cases ic : i = c
    · rw [if_pos (by simp -implicitDefEqProofs (disch := omega) only [ev_b, ev_b2, ev_g, ev_gF, ev_on, ev_os, ev_cl, ev_in, ev_in6, ev_eq0, ev_lt0, ev_0le, ev_le0, ev_0lt, ev_lt, ev_le, ev_eq, ev_m1a, ev_m1b, ev_m1c, ev_m1d, ev_m1e, ev_n1, ev_n4, ev_n8, ev_n9, ev_n10, ev_n11, ev_n12, ev_n13, ev_n14, ev_n15, ev_n16, ev_n17, ev_n59, ev_n60, ev_n61, ev_n62, ev_n63, ev_n64, ev_n65, ev_n66, ev_n67, ev_n68, ev_n69, ev_n70, ev_n71, ev_n72, ev_n73, ev_n74, ev_n75, ev_n76, ev_n77, ev_n78, ev_n79, ev_n80, ev_k18, ev_k34, ev_k40, ev_n26, ev_n26b, ev_n46, ev_n46b, ev_n52b, ev_uq, ev_us, ev_uj, ev_lq, ev_ls, ev_lj, ev_urq, ev_urs, ev_ulq, ev_uls, nI_add, pk_sub, pk_mul, if_true, if_false, ite_true, ite_false, decide_true, decide_false, eq_self_iff_true, Nat.reduceEqDiff, Nat.reduceLeDiff, Nat.reduceLT, Nat.reduceAdd, Nat.reduceMul, Nat.reduceSub, Nat.reduceDiv, Nat.reduceMod, ↓reduceIte]; omega)]
      rfl
    · rw [if_neg (by simp -implicitDefEqProofs (disch := omega) only [ev_b, ev_b2, ev_g, ev_gF, ev_on, ev_os, ev_cl, ev_in, ev_in6, ev_eq0, ev_lt0, ev_0le, ev_le0, ev_0lt, ev_lt, ev_le, ev_eq, ev_m1a, ev_m1b, ev_m1c, ev_m1d, ev_m1e, ev_n1, ev_n4, ev_n8, ev_n9, ev_n10, ev_n11, ev_n12, ev_n13, ev_n14, ev_n15, ev_n16, ev_n17, ev_n59, ev_n60, ev_n61, ev_n62, ev_n63, ev_n64, ev_n65, ev_n66, ev_n67, ev_n68, ev_n69, ev_n70, ev_n71, ev_n72, ev_n73, ev_n74, ev_n75, ev_n76, ev_n77, ev_n78, ev_n79, ev_n80, ev_k18, ev_k34, ev_k40, ev_n26, ev_n26b, ev_n46, ev_n46b, ev_n52b, ev_uq, ev_us, ev_uj, ev_lq, ev_ls, ev_lj, ev_urq, ev_urs, ev_ulq, ev_uls, nI_add, pk_sub, pk_mul, if_true, if_false, ite_true, ite_false, decide_true, decide_false, eq_self_iff_true, Nat.reduceEqDiff, Nat.reduceLeDiff, Nat.reduceLT, Nat.reduceAdd, Nat.reduceMul, Nat.reduceSub, Nat.reduceDiv, Nat.reduceMod, ↓reduceIte]; omega), if_pos (by rw [h.1]; simp -implicitDefEqProofs (disch := omega) only [ev_b, ev_b2, ev_g, ev_gF, ev_on, ev_os, ev_cl, ev_in, ev_in6, ev_eq0, ev_lt0, ev_0le, ev_le0, ev_0lt, ev_lt, ev_le, ev_eq, ev_m1a, ev_m1b, ev_m1c, ev_m1d, ev_m1e, ev_n1, ev_n4, ev_n8, ev_n9, ev_n10, ev_n11, ev_n12, ev_n13, ev_n14, ev_n15, ev_n16, ev_n17, ev_n59, ev_n60, ev_n61, ev_n62, ev_n63, ev_n64, ev_n65, ev_n66, ev_n67, ev_n68, ev_n69, ev_n70, ev_n71, ev_n72, ev_n73, ev_n74, ev_n75, ev_n76, ev_n77, ev_n78, ev_n79, ev_n80, ev_k18, ev_k34, ev_k40, ev_n26, ev_n26b, ev_n46, ev_n46b, ev_n52b, ev_uq, ev_us, ev_uj, ev_lq, ev_ls, ev_lj, ev_urq, ev_urs, ev_ulq, ev_uls, nI_add, pk_sub, pk_mul, if_true, if_false, ite_true, ite_false, decide_true, decide_false, eq_self_iff_true, Nat.reduceEqDiff, Nat.reduceLeDiff, Nat.reduceLT, Nat.reduceAdd, Nat.reduceMul, Nat.reduceSub, Nat.reduceDiv, Nat.reduceMod, ↓reduceIte]; omega)]
      rfl
  | succ d ih =>
    intro i fuel n F s p f μ ν hi hf hn h
    obtain ⟨k, rfl⟩ : ∃ k, fuel = k + 1 := ⟨fuel - 1, by omega⟩
    obtain ⟨c1, g1⟩ := clM_s h (D s)
    obtain ⟨c2, g2⟩ := clM_s c1 (D (D s))
    obtain ⟨c3, g3⟩ := clM_s c2 (D (D (D s)))
    obtain ⟨c4, g4⟩ := clM_s c3 (D (D (D (D s))))
    obtain ⟨c5, g5⟩ := clM_s c4 (d5 D s)
    obtain ⟨μ1, e1, g6, c6⟩ := add_M ν c5 (by omega) (dN (D s) % 7) (dN (D (D s)) % 9) (dN (D (D (D s))) % 12 + 1) (dN (D (D (D (D s)))) % 2) (dN (D (D (D (D (D s))))) % 10)
    obtain ⟨μ2, e2, g7, c7⟩ := ih (i + 1) k (n + 1) (fA F n (dB D s)) (d5 D s) p f μ1 ν (by omega) (by omega) (by omega) (by unfold dB; exact c6)
    refine ⟨μ2, ?_, frM_t g1 (frM_t g2 (frM_t g3 (frM_t g4 (frM_t g5 (frM_t g6 g7))))), clM_e (by omega) c7⟩
    rw [show d5 D s = D (D (D (D (D s)))) from rfl] at e1
    rw [m_X6_draws_20, if_neg (by simp -implicitDefEqProofs (disch := omega) only [ev_b, ev_b2, ev_g, ev_gF, ev_on, ev_os, ev_cl, ev_in, ev_in6, ev_eq0, ev_lt0, ev_0le, ev_le0, ev_0lt, ev_lt, ev_le, ev_eq, ev_m1a, ev_m1b, ev_m1c, ev_m1d, ev_m1e, ev_n1, ev_n4, ev_n8, ev_n9, ev_n10, ev_n11, ev_n12, ev_n13, ev_n14, ev_n15, ev_n16, ev_n17, ev_n59, ev_n60, ev_n61, ev_n62, ev_n63, ev_n64, ev_n65, ev_n66, ev_n67, ev_n68, ev_n69, ev_n70, ev_n71, ev_n72, ev_n73, ev_n74, ev_n75, ev_n76, ev_n77, ev_n78, ev_n79, ev_n80, ev_k18, ev_k34, ev_k40, ev_n26, ev_n26b, ev_n46, ev_n46b, ev_n52b, ev_uq, ev_us, ev_uj, ev_lq, ev_ls, ev_lj, ev_urq, ev_urs, ev_ulq, ev_uls, nI_add, pk_sub, pk_mul, if_true, if_false, ite_true, ite_false, decide_true, decide_false, eq_self_iff_true, Nat.reduceEqDiff, Nat.reduceLeDiff, Nat.reduceLT, Nat.reduceAdd, Nat.reduceMul, Nat.reduceSub, Nat.reduceDiv, Nat.reduceMod, ↓reduceIte]; omega), if_neg (by rw [h.1]; simp -implicitDefEqProofs (disch := omega) only [ev_b, ev_b2, ev_g, ev_gF, ev_on, ev_os, ev_cl, ev_in, ev_in6, ev_eq0, ev_lt0, ev_0le, ev_le0, ev_0lt, ev_lt, ev_le, ev_eq, ev_m1a, ev_m1b, ev_m1c, ev_m1d, ev_m1e, ev_n1, ev_n4, ev_n8, ev_n9, ev_n10, ev_n11, ev_n12, ev_n13, ev_n14, ev_n15, ev_n16, ev_n17, ev_n59, ev_n60, ev_n61, ev_n62, ev_n63, ev_n64, ev_n65, ev_n66, ev_n67, ev_n68, ev_n69, ev_n70, ev_n71, ev_n72, ev_n73, ev_n74, ev_n75, ev_n76, ev_n77, ev_n78, ev_n79, ev_n80, ev_k18, ev_k34, ev_k40, ev_n26, ev_n26b, ev_n46, ev_n46b, ev_n52b, ev_uq, ev_us, ev_uj, ev_lq, ev_ls, ev_lj, ev_urq, ev_urs, ev_ulq, ev_uls, nI_add, pk_sub, pk_mul, if_true, if_false, ite_true, ite_false, decide_true, decide_false, eq_self_iff_true, Nat.reduceEqDiff, Nat.reduceLeDiff, Nat.reduceLT, Nat.reduceAdd, Nat.reduceMul, Nat.reduceSub, Nat.reduceDiv, Nat.reduceMod, ↓reduceIte]; omega)]
    simp -implicitDefEqProofs (disch := omega) only [dr_M hD 7 (by decide) (by decide), dr_M hD 9 (by decide) (by decide), dr_M hD 12 (by decide) (by decide), dr_M hD 2 (by decide) (by decide), dr_M hD 10 (by decide) (by decide), h.2.1, e1, ev_b, ev_b2, ev_g, ev_gF, ev_on, ev_os, ev_cl, ev_in, ev_in6, ev_eq0, ev_lt0, ev_0le, ev_le0, ev_0lt, ev_lt, ev_le, ev_eq, ev_m1a, ev_m1b, ev_m1c, ev_m1d, ev_m1e, ev_n1, ev_n4, ev_n8, ev_n9, ev_n10, ev_n11, ev_n12, ev_n13, ev_n14, ev_n15, ev_n16, ev_n17, ev_n59, ev_n60, ev_n61, ev_n62, ev_n63, ev_n64, ev_n65, ev_n66, ev_n67, ev_n68, ev_n69, ev_n70, ev_n71, ev_n72, ev_n73, ev_n74, ev_n75, ev_n76, ev_n77, ev_n78, ev_n79, ev_n80, ev_k18, ev_k34, ev_k40, ev_n26, ev_n26b, ev_n46, ev_n46b, ev_n52b, ev_uq, ev_us, ev_uj, ev_lq, ev_ls, ev_lj, ev_urq, ev_urs, ev_ulq, ev_uls, nI_add, pk_sub, pk_mul, if_true, if_false, ite_true, ite_false, decide_true, decide_false, eq_self_iff_true, Nat.reduceEqDiff, Nat.reduceLeDiff, Nat.reduceLT, Nat.reduceAdd, Nat.reduceMul, Nat.reduceSub, Nat.reduceDiv, Nat.reduceMod, ↓reduceIte]
    rw [show i + (d + 1) = i + 1 + d by omega]
    exact e2
theorem op_draws {μ : fm_I} {ν : fm_L} (h : Inv μ ν) (a0 : Int32) : pa_op (m_X5_draws a0 μ ν) (fun μ ν => m_X6_draws a0 μ ν) := by
  obtain ⟨n, F, hI⟩ := id h
  have hn := hI.1.1
  by_cases h1 : a0 < nI 1
  · refine op_rf h 6 (by decide) (r := -6) ?_ ?_
    · simp -implicitDefEqProofs (disch := omega) only [m_X5_draws, h1, ev_b, ev_b2, ev_g, ev_gF, ev_on, ev_os, ev_cl, ev_in, ev_in6, ev_eq0, ev_lt0, ev_0le, ev_le0, ev_0lt, ev_lt, ev_le, ev_eq, ev_m1a, ev_m1b, ev_m1c, ev_m1d, ev_m1e, ev_n1, ev_n4, ev_n8, ev_n9, ev_n10, ev_n11, ev_n12, ev_n13, ev_n14, ev_n15, ev_n16, ev_n17, ev_n59, ev_n60, ev_n61, ev_n62, ev_n63, ev_n64, ev_n65, ev_n66, ev_n67, ev_n68, ev_n69, ev_n70, ev_n71, ev_n72, ev_n73, ev_n74, ev_n75, ev_n76, ev_n77, ev_n78, ev_n79, ev_n80, ev_k18, ev_k34, ev_k40, ev_n26, ev_n26b, ev_n46, ev_n46b, ev_n52b, ev_uq, ev_us, ev_uj, ev_lq, ev_ls, ev_lj, ev_urq, ev_urs, ev_ulq, ev_uls, nI_add, pk_sub, pk_mul, if_true, if_false, ite_true, ite_false, decide_true, decide_false, eq_self_iff_true, Nat.reduceEqDiff, Nat.reduceLeDiff, Nat.reduceLT, Nat.reduceAdd, Nat.reduceMul, Nat.reduceSub, Nat.reduceDiv, Nat.reduceMod, ↓reduceIte, rX6]
    · show m_X6_draws a0 _ ν = _
      simp -implicitDefEqProofs (disch := omega) only [m_X6_draws, h1, ev_b, ev_b2, ev_g, ev_gF, ev_on, ev_os, ev_cl, ev_in, ev_in6, ev_eq0, ev_lt0, ev_0le, ev_le0, ev_0lt, ev_lt, ev_le, ev_eq, ev_m1a, ev_m1b, ev_m1c, ev_m1d, ev_m1e, ev_n1, ev_n4, ev_n8, ev_n9, ev_n10, ev_n11, ev_n12, ev_n13, ev_n14, ev_n15, ev_n16, ev_n17, ev_n59, ev_n60, ev_n61, ev_n62, ev_n63, ev_n64, ev_n65, ev_n66, ev_n67, ev_n68, ev_n69, ev_n70, ev_n71, ev_n72, ev_n73, ev_n74, ev_n75, ev_n76, ev_n77, ev_n78, ev_n79, ev_n80, ev_k18, ev_k34, ev_k40, ev_n26, ev_n26b, ev_n46, ev_n46b, ev_n52b, ev_uq, ev_us, ev_uj, ev_lq, ev_ls, ev_lj, ev_urq, ev_urs, ev_ulq, ev_uls, nI_add, pk_sub, pk_mul, if_true, if_false, ite_true, ite_false, decide_true, decide_false, eq_self_iff_true, Nat.reduceEqDiff, Nat.reduceLeDiff, Nat.reduceLT, Nat.reduceAdd, Nat.reduceMul, Nat.reduceSub, Nat.reduceDiv, Nat.reduceMod, ↓reduceIte, rM6]
  rcases i_cases a0 6 (by decide) with h0 | ⟨b1, b2, b3, b4⟩ | ⟨c, hc, rfl⟩
  · exact absurd (by
      rw [Int32.lt_iff_toInt_lt] at h0 ⊢
      rw [nI_toInt (by decide)]
      rw [show (0 : Int32).toInt = 0 by decide] at h0
      omega) h1
  · refine op_rf h 6 (by decide) (r := -6) ?_ ?_
    · simp -implicitDefEqProofs (disch := omega) only [m_X5_draws, h1, b3, ev_b, ev_b2, ev_g, ev_gF, ev_on, ev_os, ev_cl, ev_in, ev_in6, ev_eq0, ev_lt0, ev_0le, ev_le0, ev_0lt, ev_lt, ev_le, ev_eq, ev_m1a, ev_m1b, ev_m1c, ev_m1d, ev_m1e, ev_n1, ev_n4, ev_n8, ev_n9, ev_n10, ev_n11, ev_n12, ev_n13, ev_n14, ev_n15, ev_n16, ev_n17, ev_n59, ev_n60, ev_n61, ev_n62, ev_n63, ev_n64, ev_n65, ev_n66, ev_n67, ev_n68, ev_n69, ev_n70, ev_n71, ev_n72, ev_n73, ev_n74, ev_n75, ev_n76, ev_n77, ev_n78, ev_n79, ev_n80, ev_k18, ev_k34, ev_k40, ev_n26, ev_n26b, ev_n46, ev_n46b, ev_n52b, ev_uq, ev_us, ev_uj, ev_lq, ev_ls, ev_lj, ev_urq, ev_urs, ev_ulq, ev_uls, nI_add, pk_sub, pk_mul, if_true, if_false, ite_true, ite_false, decide_true, decide_false, eq_self_iff_true, Nat.reduceEqDiff, Nat.reduceLeDiff, Nat.reduceLT, Nat.reduceAdd, Nat.reduceMul, Nat.reduceSub, Nat.reduceDiv, Nat.reduceMod, ↓reduceIte, rX6]
    · show m_X6_draws a0 _ ν = _
      simp -implicitDefEqProofs (disch := omega) only [m_X6_draws, h1, b3, ev_b, ev_b2, ev_g, ev_gF, ev_on, ev_os, ev_cl, ev_in, ev_in6, ev_eq0, ev_lt0, ev_0le, ev_le0, ev_0lt, ev_lt, ev_le, ev_eq, ev_m1a, ev_m1b, ev_m1c, ev_m1d, ev_m1e, ev_n1, ev_n4, ev_n8, ev_n9, ev_n10, ev_n11, ev_n12, ev_n13, ev_n14, ev_n15, ev_n16, ev_n17, ev_n59, ev_n60, ev_n61, ev_n62, ev_n63, ev_n64, ev_n65, ev_n66, ev_n67, ev_n68, ev_n69, ev_n70, ev_n71, ev_n72, ev_n73, ev_n74, ev_n75, ev_n76, ev_n77, ev_n78, ev_n79, ev_n80, ev_k18, ev_k34, ev_k40, ev_n26, ev_n26b, ev_n46, ev_n46b, ev_n52b, ev_uq, ev_us, ev_uj, ev_lq, ev_ls, ev_lj, ev_urq, ev_urs, ev_ulq, ev_uls, nI_add, pk_sub, pk_mul, if_true, if_false, ite_true, ite_false, decide_true, decide_false, eq_self_iff_true, Nat.reduceEqDiff, Nat.reduceLeDiff, Nat.reduceLT, Nat.reduceAdd, Nat.reduceMul, Nat.reduceSub, Nat.reduceDiv, Nat.reduceMod, ↓reduceIte, rM6]
  have c1 : (c < 1) = False := by
    rw [← ev_lt (a := c) (b := 1) (by omega) (by omega)]
    exact eq_false h1
  obtain ⟨r, hr, hr2, hr3⟩ : ∃ r, r ≤ c ∧ n + r ≤ 6 ∧ (r = c ∨ n + r = 6) := by
    by_cases z : n + c ≤ 6
    · exact ⟨c, Nat.le_refl c, z, Or.inl rfl⟩
    · exact ⟨6 - n, by omega, by omega, by omega⟩
  obtain ⟨μ1, p1, p2, p3⟩ := dL_X (D := dS) (fun _ => rfl) r (by omega) (fun μ32 ν32 => some ((nI r, μ32, ν32))) r 0 5000 n F _ _ _ μ ν (by omega) (by omega) hr2 (clX_of hI)
  obtain ⟨μ2, q1, q2, q3⟩ := dL_M (D := dS) (fun _ => rfl) c hc (fun x2_20 μ20 ν20 => some ((x2_20, μ20, ν20))) r 0 5000 n F _ _ _ μ1 ν (by omega) (by omega) hr2 (clM_of hI p2)
  refine op_mk (r := nI r) (μ1 := μ1) (ν1 := ν) (μ2 := μ2) (ν2 := ν) ?_ ?_ (inv_fr hI (Nat.le_add_right n r) hr2 p2 q2 p3 q3 (dF_B dS r n F _ (fun b hb => (hI.2.1 b hb).1)) (fun _ _ => rfl))
  · have e : (if (nI 6 - μ 0 7) < nI c then nI 6 - μ 0 7 else nI c) = nI r := by
      rw [hI.1.2.1, pk_sub hn]
      simp -implicitDefEqProofs (disch := omega) only [ev_b, ev_b2, ev_g, ev_gF, ev_on, ev_os, ev_cl, ev_in, ev_in6, ev_eq0, ev_lt0, ev_0le, ev_le0, ev_0lt, ev_lt, ev_le, ev_eq, ev_m1a, ev_m1b, ev_m1c, ev_m1d, ev_m1e, ev_n1, ev_n4, ev_n8, ev_n9, ev_n10, ev_n11, ev_n12, ev_n13, ev_n14, ev_n15, ev_n16, ev_n17, ev_n59, ev_n60, ev_n61, ev_n62, ev_n63, ev_n64, ev_n65, ev_n66, ev_n67, ev_n68, ev_n69, ev_n70, ev_n71, ev_n72, ev_n73, ev_n74, ev_n75, ev_n76, ev_n77, ev_n78, ev_n79, ev_n80, ev_k18, ev_k34, ev_k40, ev_n26, ev_n26b, ev_n46, ev_n46b, ev_n52b, ev_uq, ev_us, ev_uj, ev_lq, ev_ls, ev_lj, ev_urq, ev_urs, ev_ulq, ev_uls, nI_add, pk_sub, pk_mul, if_true, if_false, ite_true, ite_false, decide_true, decide_false, eq_self_iff_true, Nat.reduceEqDiff, Nat.reduceLeDiff, Nat.reduceLT, Nat.reduceAdd, Nat.reduceMul, Nat.reduceSub, Nat.reduceDiv, Nat.reduceMod, ↓reduceIte]
      split
      · congr 1; omega
      · congr 1; omega
    rw [m_X5_draws, if_neg h1, if_pos (by simp -implicitDefEqProofs (disch := omega) only [ev_b, ev_b2, ev_g, ev_gF, ev_on, ev_os, ev_cl, ev_in, ev_in6, ev_eq0, ev_lt0, ev_0le, ev_le0, ev_0lt, ev_lt, ev_le, ev_eq, ev_m1a, ev_m1b, ev_m1c, ev_m1d, ev_m1e, ev_n1, ev_n4, ev_n8, ev_n9, ev_n10, ev_n11, ev_n12, ev_n13, ev_n14, ev_n15, ev_n16, ev_n17, ev_n59, ev_n60, ev_n61, ev_n62, ev_n63, ev_n64, ev_n65, ev_n66, ev_n67, ev_n68, ev_n69, ev_n70, ev_n71, ev_n72, ev_n73, ev_n74, ev_n75, ev_n76, ev_n77, ev_n78, ev_n79, ev_n80, ev_k18, ev_k34, ev_k40, ev_n26, ev_n26b, ev_n46, ev_n46b, ev_n52b, ev_uq, ev_us, ev_uj, ev_lq, ev_ls, ev_lj, ev_urq, ev_urs, ev_ulq, ev_uls, nI_add, pk_sub, pk_mul, if_true, if_false, ite_true, ite_false, decide_true, decide_false, eq_self_iff_true, Nat.reduceEqDiff, Nat.reduceLeDiff, Nat.reduceLT, Nat.reduceAdd, Nat.reduceMul, Nat.reduceSub, Nat.reduceDiv, Nat.reduceMod, ↓reduceIte]; omega), e]
    exact p1
  · show m_X6_draws (nI c) _ _ = _
    rw [m_X6_draws, if_neg h1, if_pos (by simp -implicitDefEqProofs (disch := omega) only [ev_b, ev_b2, ev_g, ev_gF, ev_on, ev_os, ev_cl, ev_in, ev_in6, ev_eq0, ev_lt0, ev_0le, ev_le0, ev_0lt, ev_lt, ev_le, ev_eq, ev_m1a, ev_m1b, ev_m1c, ev_m1d, ev_m1e, ev_n1, ev_n4, ev_n8, ev_n9, ev_n10, ev_n11, ev_n12, ev_n13, ev_n14, ev_n15, ev_n16, ev_n17, ev_n59, ev_n60, ev_n61, ev_n62, ev_n63, ev_n64, ev_n65, ev_n66, ev_n67, ev_n68, ev_n69, ev_n70, ev_n71, ev_n72, ev_n73, ev_n74, ev_n75, ev_n76, ev_n77, ev_n78, ev_n79, ev_n80, ev_k18, ev_k34, ev_k40, ev_n26, ev_n26b, ev_n46, ev_n46b, ev_n52b, ev_uq, ev_us, ev_uj, ev_lq, ev_ls, ev_lj, ev_urq, ev_urs, ev_ulq, ev_uls, nI_add, pk_sub, pk_mul, if_true, if_false, ite_true, ite_false, decide_true, decide_false, eq_self_iff_true, Nat.reduceEqDiff, Nat.reduceLeDiff, Nat.reduceLT, Nat.reduceAdd, Nat.reduceMul, Nat.reduceSub, Nat.reduceDiv, Nat.reduceMod, ↓reduceIte]; omega), q1, Nat.zero_add]
