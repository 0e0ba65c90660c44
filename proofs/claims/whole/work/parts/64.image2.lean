theorem car_E (p Q a N : Nat) (hp : p ≠ Q) (hN : N ≤ fm_n p) (hQ : a + N ≤ fm_n Q) (hp2 : fm_n p ≤ 2000) (hQ2 : fm_n Q ≤ 2000) (kp : Nat.beq (fm_k p) 7 = true) (kQ : Nat.beq (fm_k Q) 7 = true) (μ : fm_I) (ν : fm_L) : ∃ M, m_X6_carries p (nI N) Q (nI a) (nI 0) μ ν = some (nI (a + N), M, ν) ∧ (∀ q, q ≠ Q → M q = μ q) ∧ (∀ j, a ≤ j → j < a + N → M Q j = μ p (j - a)) ∧ (∀ j, (j < a ∨ a + N ≤ j) → M Q j = μ Q j) := by
  refine ⟨_, car_O p Q a N hp hN hQ hp2 hQ2 kp kQ μ ν, fun q hq => ev_urq hq, fun j j1 j2 => ?_, fun j hj => ?_⟩
  · rw [ev_urs, if_pos ⟨j1, j2⟩]
  · rw [ev_urs, if_neg (by omega)]
theorem car_F (p Q a N : Nat) (hp : p ≠ Q) (hN : N ≤ fm_n p) (hQ : a + N ≤ fm_n Q) (hp2 : fm_n p ≤ 2000) (hQ2 : fm_n Q ≤ 2000) (kp : Nat.beq (fm_k p) 7 = true) (kQ : Nat.beq (fm_k Q) 7 = true) (μ : fm_I) (ν : fm_L) : ∃ M, m_X6_carries p (nI N) Q (nI a) (nI 1) μ ν = some (nI (a + N), M, ν) ∧ (∀ q, q ≠ p → M q = μ q) ∧ (∀ j, j < N → M p j = μ Q (a + j)) := by
  refine ⟨_, car_I p Q a N hp hN hQ hp2 hQ2 kp kQ μ ν, fun q hq => ev_urq hq, fun j j1 => ?_⟩
  rw [ev_urs, if_pos j1]
theorem all_O (Q : Nat) (h : Q = 74 ∨ Q = 75) (μ : fm_I) (ν : fm_L) : ∃ μ', m_X6_all Q (nI 0) μ ν = some (μ', ν) ∧ (∀ q, q ≠ Q → μ' q = μ q) ∧ (∀ b, b < 6 → μ' Q b = μ 60 b ∧ μ' Q (6 + b) = μ 61 b ∧ μ' Q (12 + b) = μ 62 b ∧ μ' Q (18 + b) = μ 63 b ∧ μ' Q (24 + b) = μ 64 b) ∧ (∀ i, i < 72 → μ' Q (30 + i) = μ 65 i) ∧ μ' Q 102 = μ 58 0 ∧ μ' Q 103 = μ 58 1 ∧ μ' Q 104 = μ 58 2 := by
  have nQ : fm_n Q = 110 := by rcases h with rfl | rfl <;> rfl
  have kQ : Nat.beq (fm_k Q) 7 = true := by rcases h with rfl | rfl <;> decide
  obtain ⟨M1, e1, f1, g1, o1⟩ := car_E 60 Q 0 6 (by omega) (by decide) (by omega) (by decide) (by omega) (by decide) kQ μ ν
  obtain ⟨M2, e2, f2, g2, o2⟩ := car_E 61 Q 6 6 (by omega) (by decide) (by omega) (by decide) (by omega) (by decide) kQ M1 ν
  obtain ⟨M3, e3, f3, g3, o3⟩ := car_E 62 Q 12 6 (by omega) (by decide) (by omega) (by decide) (by omega) (by decide) kQ M2 ν
  obtain ⟨M4, e4, f4, g4, o4⟩ := car_E 63 Q 18 6 (by omega) (by decide) (by omega) (by decide) (by omega) (by decide) kQ M3 ν
  obtain ⟨M5, e5, f5, g5, o5⟩ := car_E 64 Q 24 6 (by omega) (by decide) (by omega) (by decide) (by omega) (by decide) kQ M4 ν
  obtain ⟨M6, e6, f6, g6, o6⟩ := car_E 65 Q 30 72 (by omega) (by decide) (by omega) (by decide) (by omega) (by decide) kQ M5 ν
  have c58 : M6 58 = μ 58 := by rw [f6 58 (by omega), f5 58 (by omega), f4 58 (by omega), f3 58 (by omega), f2 58 (by omega), f1 58 (by omega)]
  refine ⟨fm_u (fm_u (fm_u M6 Q 102 (μ 58 0)) Q 103 (μ 58 1)) Q 104 (μ 58 2), ?_, fun q hq => ?_, fun b hb => ⟨?_, ?_, ?_, ?_, ?_⟩, fun i hi => ?_, ?_, ?_, ?_⟩
  · rw [m_X6_all, kQ, ev_g, e1, ev_b, e2, ev_b, e3, ev_b, e4, ev_b, e5, ev_b, e6, ev_b, if_pos (by rfl)]
    simp -implicitDefEqProofs (disch := omega) only [nQ, c58, ev_b, ev_b2, ev_g, ev_gF, ev_on, ev_os, ev_cl, ev_in, ev_in6, ev_eq0, ev_lt0, ev_0le, ev_le0, ev_0lt, ev_lt, ev_le, ev_eq, ev_m1a, ev_m1b, ev_m1c, ev_m1d, ev_m1e, ev_n1, ev_n4, ev_n8, ev_n9, ev_n10, ev_n11, ev_n12, ev_n13, ev_n14, ev_n15, ev_n16, ev_n17, ev_n59, ev_n60, ev_n61, ev_n62, ev_n63, ev_n64, ev_n65, ev_n66, ev_n67, ev_n68, ev_n69, ev_n70, ev_n71, ev_n72, ev_n73, ev_n74, ev_n75, ev_n76, ev_n77, ev_n78, ev_n79, ev_n80, ev_k18, ev_k34, ev_k40, ev_n26, ev_n26b, ev_n46, ev_n46b, ev_n52b, ev_uq, ev_us, ev_uj, ev_lq, ev_ls, ev_lj, ev_urq, ev_urs, ev_ulq, ev_uls, nI_add, pk_sub, pk_mul, if_true, if_false, ite_true, ite_false, decide_true, decide_false, eq_self_iff_true, Nat.reduceEqDiff, Nat.reduceLeDiff, Nat.reduceLT, Nat.reduceAdd, Nat.reduceMul, Nat.reduceSub, Nat.reduceDiv, Nat.reduceMod, ↓reduceIte]
  · rw [ev_uq hq, ev_uq hq, ev_uq hq, f6 q hq, f5 q hq, f4 q hq, f3 q hq, f2 q hq, f1 q hq]
  · rw [ev_uj (by omega), ev_uj (by omega), ev_uj (by omega), o6 _ (by omega), o5 _ (by omega), o4 _ (by omega), o3 _ (by omega), o2 _ (by omega), g1 _ (by omega) (by omega), Nat.sub_zero]
  · rw [ev_uj (by omega), ev_uj (by omega), ev_uj (by omega), o6 _ (by omega), o5 _ (by omega), o4 _ (by omega), o3 _ (by omega), g2 _ (by omega) (by omega), f1 61 (by omega), show 6 + b - 6 = b by omega]
  · rw [ev_uj (by omega), ev_uj (by omega), ev_uj (by omega), o6 _ (by omega), o5 _ (by omega), o4 _ (by omega), g3 _ (by omega) (by omega), f2 62 (by omega), f1 62 (by omega), show 12 + b - 12 = b by omega]
  · rw [ev_uj (by omega), ev_uj (by omega), ev_uj (by omega), o6 _ (by omega), o5 _ (by omega), g4 _ (by omega) (by omega), f3 63 (by omega), f2 63 (by omega), f1 63 (by omega), show 18 + b - 18 = b by omega]
  · rw [ev_uj (by omega), ev_uj (by omega), ev_uj (by omega), o6 _ (by omega), g5 _ (by omega) (by omega), f4 64 (by omega), f3 64 (by omega), f2 64 (by omega), f1 64 (by omega), show 24 + b - 24 = b by omega]
  · rw [ev_uj (by omega), ev_uj (by omega), ev_uj (by omega), g6 _ (by omega) (by omega), f5 65 (by omega), f4 65 (by omega), f3 65 (by omega), f2 65 (by omega), f1 65 (by omega), show 30 + i - 30 = i by omega]
  · rw [ev_uj (by omega), ev_uj (by omega), ev_us]
  · rw [ev_uj (by omega), ev_us]
  · rw [ev_us]
theorem all_I (Q : Nat) (h : Q = 74 ∨ Q = 75) (μ : fm_I) (ν : fm_L) : ∃ μ', m_X6_all Q (nI 1) μ ν = some (μ', ν) ∧ (∀ q, q ≠ 58 → ¬ (60 ≤ q ∧ q ≤ 65) → μ' q = μ q) ∧ (∀ k, 3 ≤ k → μ' 58 k = μ 58 k) ∧ (∀ b, b < 6 → μ' 60 b = μ Q b ∧ μ' 61 b = μ Q (6 + b) ∧ μ' 62 b = μ Q (12 + b) ∧ μ' 63 b = μ Q (18 + b) ∧ μ' 64 b = μ Q (24 + b)) ∧ (∀ i, i < 72 → μ' 65 i = μ Q (30 + i)) ∧ μ' 58 0 = μ Q 102 ∧ μ' 58 1 = μ Q 103 ∧ μ' 58 2 = μ Q 104 := by
  have nQ : fm_n Q = 110 := by rcases h with rfl | rfl <;> rfl
  have kQ : Nat.beq (fm_k Q) 7 = true := by rcases h with rfl | rfl <;> decide
  obtain ⟨M1, e1, f1, g1⟩ := car_F 60 Q 0 6 (by omega) (by decide) (by omega) (by decide) (by omega) (by decide) kQ μ ν
  obtain ⟨M2, e2, f2, g2⟩ := car_F 61 Q 6 6 (by omega) (by decide) (by omega) (by decide) (by omega) (by decide) kQ M1 ν
  obtain ⟨M3, e3, f3, g3⟩ := car_F 62 Q 12 6 (by omega) (by decide) (by omega) (by decide) (by omega) (by decide) kQ M2 ν
  obtain ⟨M4, e4, f4, g4⟩ := car_F 63 Q 18 6 (by omega) (by decide) (by omega) (by decide) (by omega) (by decide) kQ M3 ν
  obtain ⟨M5, e5, f5, g5⟩ := car_F 64 Q 24 6 (by omega) (by decide) (by omega) (by decide) (by omega) (by decide) kQ M4 ν
  obtain ⟨M6, e6, f6, g6⟩ := car_F 65 Q 30 72 (by omega) (by decide) (by omega) (by decide) (by omega) (by decide) kQ M5 ν
  have cQ : M6 Q = μ Q := by rw [f6 Q (by omega), f5 Q (by omega), f4 Q (by omega), f3 Q (by omega), f2 Q (by omega), f1 Q (by omega)]
  refine ⟨fm_u (fm_u (fm_u M6 58 0 (μ Q 102)) 58 1 (μ Q 103)) 58 2 (μ Q 104), ?_, fun q q1 q2 => ?_, fun k hk => ?_, fun b hb => ⟨?_, ?_, ?_, ?_, ?_⟩, fun i hi => ?_, ?_, ?_, ?_⟩
  · rw [m_X6_all, kQ, ev_g, e1, ev_b, e2, ev_b, e3, ev_b, e4, ev_b, e5, ev_b, e6, ev_b, if_neg (by decide)]
    simp -implicitDefEqProofs (disch := omega) only [nQ, cQ, ev_b, ev_b2, ev_g, ev_gF, ev_on, ev_os, ev_cl, ev_in, ev_in6, ev_eq0, ev_lt0, ev_0le, ev_le0, ev_0lt, ev_lt, ev_le, ev_eq, ev_m1a, ev_m1b, ev_m1c, ev_m1d, ev_m1e, ev_n1, ev_n4, ev_n8, ev_n9, ev_n10, ev_n11, ev_n12, ev_n13, ev_n14, ev_n15, ev_n16, ev_n17, ev_n59, ev_n60, ev_n61, ev_n62, ev_n63, ev_n64, ev_n65, ev_n66, ev_n67, ev_n68, ev_n69, ev_n70, ev_n71, ev_n72, ev_n73, ev_n74, ev_n75, ev_n76, ev_n77, ev_n78, ev_n79, ev_n80, ev_k18, ev_k34, ev_k40, ev_n26, ev_n26b, ev_n46, ev_n46b, ev_n52b, ev_uq, ev_us, ev_uj, ev_lq, ev_ls, ev_lj, ev_urq, ev_urs, ev_ulq, ev_uls, nI_add, pk_sub, pk_mul, if_true, if_false, ite_true, ite_false, decide_true, decide_false, eq_self_iff_true, Nat.reduceEqDiff, Nat.reduceLeDiff, Nat.reduceLT, Nat.reduceAdd, Nat.reduceMul, Nat.reduceSub, Nat.reduceDiv, Nat.reduceMod, ↓reduceIte]
  · rw [ev_uq q1, ev_uq q1, ev_uq q1, f6 q (by omega), f5 q (by omega), f4 q (by omega), f3 q (by omega), f2 q (by omega), f1 q (by omega)]
  · rw [ev_uj (by omega), ev_uj (by omega), ev_uj (by omega), f6 58 (by omega), f5 58 (by omega), f4 58 (by omega), f3 58 (by omega), f2 58 (by omega), f1 58 (by omega)]
  · rw [ev_uq (by omega), ev_uq (by omega), ev_uq (by omega), f6 60 (by omega), f5 60 (by omega), f4 60 (by omega), f3 60 (by omega), f2 60 (by omega), g1 b hb, Nat.zero_add]
  · rw [ev_uq (by omega), ev_uq (by omega), ev_uq (by omega), f6 61 (by omega), f5 61 (by omega), f4 61 (by omega), f3 61 (by omega), g2 b hb, f1 Q (by omega)]
  · rw [ev_uq (by omega), ev_uq (by omega), ev_uq (by omega), f6 62 (by omega), f5 62 (by omega), f4 62 (by omega), g3 b hb, f2 Q (by omega), f1 Q (by omega)]
  · rw [ev_uq (by omega), ev_uq (by omega), ev_uq (by omega), f6 63 (by omega), f5 63 (by omega), g4 b hb, f3 Q (by omega), f2 Q (by omega), f1 Q (by omega)]
  · rw [ev_uq (by omega), ev_uq (by omega), ev_uq (by omega), f6 64 (by omega), g5 b hb, f4 Q (by omega), f3 Q (by omega), f2 Q (by omega), f1 Q (by omega)]
  · rw [ev_uq (by omega), ev_uq (by omega), ev_uq (by omega), g6 i hi, f5 Q (by omega), f4 Q (by omega), f3 Q (by omega), f2 Q (by omega), f1 Q (by omega)]
  · rw [ev_uj (by omega), ev_uj (by omega), ev_us]
  · rw [ev_uj (by omega), ev_us]
  · rw [ev_us]
theorem op_image {μ : fm_I} {ν : fm_L} (h : Inv μ ν)  : pa_op (m_X5_image  μ ν) (fun μ ν => m_X6_image  μ ν) := by
  obtain ⟨n, F, h1, h2, h3, h4, h5, h6, h7, h8, h9⟩ := id h
  have hn := h1.1
  obtain ⟨μ1, e1, k1, x1⟩ := im_l (F := F) hn (fun μ2 ν2 => some (((((fm_u (fm_u (fm_u μ2 0 10 ((μ2 0 7))) 0 11 ((((fm_u μ2 0 10 ((μ2 0 7)))) 0 8))) 0 12 ((((fm_u (fm_u μ2 0 10 ((μ2 0 7))) 0 11 ((((fm_u μ2 0 10 ((μ2 0 7)))) 0 8)))) 0 9)))) 0 7), (fm_u (fm_u (fm_u μ2 0 10 ((μ2 0 7))) 0 11 ((((fm_u μ2 0 10 ((μ2 0 7)))) 0 8))) 0 12 ((((fm_u (fm_u μ2 0 10 ((μ2 0 7))) 0 11 ((((fm_u μ2 0 10 ((μ2 0 7)))) 0 8)))) 0 9))), ν2))) n 0 5000 μ ν (by omega) (by omega) h1.2.1 (fun b hb => (h2 b hb).2.1) (fun b hb => absurd hb (Nat.not_lt_zero b))
  have m0 : μ1 0 = μ 0 := k1 0 (by omega) (by omega)
  have X : m_X5_image μ ν = some (nI n, fm_u (fm_u (fm_u μ1 0 10 (nI n)) 0 11 (μ 0 8)) 0 12 (μ 0 9), ν) := by
    rw [m_X5_image, e1]
    simp -implicitDefEqProofs (disch := omega) only [m0, h1.2.1, ev_b, ev_b2, ev_g, ev_gF, ev_on, ev_os, ev_cl, ev_in, ev_in6, ev_eq0, ev_lt0, ev_0le, ev_le0, ev_0lt, ev_lt, ev_le, ev_eq, ev_m1a, ev_m1b, ev_m1c, ev_m1d, ev_m1e, ev_n1, ev_n4, ev_n8, ev_n9, ev_n10, ev_n11, ev_n12, ev_n13, ev_n14, ev_n15, ev_n16, ev_n17, ev_n59, ev_n60, ev_n61, ev_n62, ev_n63, ev_n64, ev_n65, ev_n66, ev_n67, ev_n68, ev_n69, ev_n70, ev_n71, ev_n72, ev_n73, ev_n74, ev_n75, ev_n76, ev_n77, ev_n78, ev_n79, ev_n80, ev_k18, ev_k34, ev_k40, ev_n26, ev_n26b, ev_n46, ev_n46b, ev_n52b, ev_uq, ev_us, ev_uj, ev_lq, ev_ls, ev_lj, ev_urq, ev_urs, ev_ulq, ev_uls, nI_add, pk_sub, pk_mul, if_true, if_false, ite_true, ite_false, decide_true, decide_false, eq_self_iff_true, Nat.reduceEqDiff, Nat.reduceLeDiff, Nat.reduceLT, Nat.reduceAdd, Nat.reduceMul, Nat.reduceSub, Nat.reduceDiv, Nat.reduceMod, ↓reduceIte]
  obtain ⟨μ2, e2, k2, y1, y2, y3, y4, y5⟩ := all_O 75 (Or.inr rfl) (fm_u (fm_u (fm_u (fm_u μ1 0 10 (nI n)) 0 11 (μ 0 8)) 0 12 (μ 0 9)) 58 33 (nI 1)) ν
  have K : ∀ q, q ≠ 0 → q ≠ 58 → q ≠ 75 → ¬ (40 ≤ q ∧ q ≤ 45) → ¬ (52 ≤ q ∧ q ≤ 57) → μ2 q = μ q := fun q q1 q2 q3 q4 q5 => by rw [k2 q q3, ev_uq q2, ev_uq q1, ev_uq q1, ev_uq q1, k1 q q4 q5]
  have K0 : ∀ k, k ≠ 10 → k ≠ 11 → k ≠ 12 → μ2 0 k = μ 0 k := fun k q1 q2 q3 => by rw [k2 0 (by omega), ev_uq (by omega), ev_uj q3, ev_uj q2, ev_uj q1, m0]
  have K58 : ∀ k, k ≠ 33 → μ2 58 k = μ 58 k := fun k q1 => by rw [k2 58 (by omega), ev_uj q1, ev_uq (by omega), ev_uq (by omega), ev_uq (by omega), k1 58 (by omega) (by omega)]
  have R : ∀ q, 60 ≤ q → q ≤ 65 → fm_u (fm_u (fm_u (fm_u μ1 0 10 (nI n)) 0 11 (μ 0 8)) 0 12 (μ 0 9)) 58 33 (nI 1) q = μ q := fun q q1 q2 => by rw [ev_uq (by omega), ev_uq (by omega), ev_uq (by omega), ev_uq (by omega), k1 q (by omega) (by omega)]
  have R58 : ∀ k, k ≠ 33 → fm_u (fm_u (fm_u (fm_u μ1 0 10 (nI n)) 0 11 (μ 0 8)) 0 12 (μ 0 9)) 58 33 (nI 1) 58 k = μ 58 k := fun k hk => by rw [ev_uj hk, ev_uq (by omega), ev_uq (by omega), ev_uq (by omega), k1 58 (by omega) (by omega)]
  refine op_mk (μ2 := μ2) (ν2 := ν) X ?_ ⟨n, F, ⟨hn, ?_, ?_⟩, fun b hb => ?_, fun b hb => ?_, ?_, fun k hk => ?_, fun s hs => ?_, ?_, Or.inr ⟨n, F, hn, ?_, ?_, ?_, ?_, ?_, fun b hb => ?_⟩, fun i hi => ?_⟩
  · show m_X6_image _ ν = _
    have e9 : μ2 58 0 = nI n := by rw [K58 0 (by decide), h1.2.2]
    rw [m_X6_image, e2]
    simp -implicitDefEqProofs (disch := omega) only [e9, ev_b, ev_b2, ev_g, ev_gF, ev_on, ev_os, ev_cl, ev_in, ev_in6, ev_eq0, ev_lt0, ev_0le, ev_le0, ev_0lt, ev_lt, ev_le, ev_eq, ev_m1a, ev_m1b, ev_m1c, ev_m1d, ev_m1e, ev_n1, ev_n4, ev_n8, ev_n9, ev_n10, ev_n11, ev_n12, ev_n13, ev_n14, ev_n15, ev_n16, ev_n17, ev_n59, ev_n60, ev_n61, ev_n62, ev_n63, ev_n64, ev_n65, ev_n66, ev_n67, ev_n68, ev_n69, ev_n70, ev_n71, ev_n72, ev_n73, ev_n74, ev_n75, ev_n76, ev_n77, ev_n78, ev_n79, ev_n80, ev_k18, ev_k34, ev_k40, ev_n26, ev_n26b, ev_n46, ev_n46b, ev_n52b, ev_uq, ev_us, ev_uj, ev_lq, ev_ls, ev_lj, ev_urq, ev_urs, ev_ulq, ev_uls, nI_add, pk_sub, pk_mul, if_true, if_false, ite_true, ite_false, decide_true, decide_false, eq_self_iff_true, Nat.reduceEqDiff, Nat.reduceLeDiff, Nat.reduceLT, Nat.reduceAdd, Nat.reduceMul, Nat.reduceSub, Nat.reduceDiv, Nat.reduceMod, ↓reduceIte]
  · rw [K0 7 (by decide) (by decide) (by decide)]; exact h1.2.1
  · rw [K58 0 (by decide)]; exact h1.2.2
  · obtain ⟨a1, a2, a3⟩ := h2 b hb
    exact ⟨a1, kp_X a2 (K _ (by omega) (by omega) (by omega) (by omega) (by omega)) (K _ (by omega) (by omega) (by omega) (by omega) (by omega)), kp_M a3 (fun q q1 q2 => K q (by omega) (by omega) (by omega) (by omega) (by omega))⟩
  · rw [K _ (by omega) (by omega) (by omega) (by omega) (by omega)]; exact h3 b hb
  · rw [K0 8 (by decide) (by decide) (by decide), K0 9 (by decide) (by decide) (by decide), K0 13 (by decide) (by decide) (by decide), K58 1 (by decide), K58 2 (by decide), K58 3 (by decide)]; exact h4
  · rw [K 59 (by omega) (by omega) (by omega) (by omega) (by omega), K 4 (by omega) (by omega) (by omega) (by omega) (by omega)]; exact h5 k hk
  · exact kp_S (h6 s hs) (Nat.le_refl n) (fun q q1 q2 => K q (by omega) (by omega) (by omega) (by omega) (by omega)) (K _ (by omega) (by omega) (by omega) (by omega) (by omega)) rfl rfl
  · exact kp_T h7 (by rw [K 7 (by omega) (by omega) (by omega) (by omega) (by omega)]) (K58 32 (by decide)) (K 80 (by omega) (by omega) (by omega) (by omega) (by omega)) (K 8 (by omega) (by omega) (by omega) (by omega) (by omega))
  · rw [k2 0 (by omega), ev_uq (by omega), ev_uj (by omega), ev_uj (by omega), ev_us]
  · rw [k2 58 (by omega), ev_us]
  · rw [y3, R58 0 (by decide)]; exact h1.2.2
  · rw [y4, R58 1 (by decide), k2 0 (by omega), ev_uq (by omega), ev_us]; exact h4.2.1
  · rw [y5, R58 2 (by decide), k2 0 (by omega), ev_uq (by omega), ev_uj (by omega), ev_us]; exact h4.1
  · obtain ⟨a1, a2, a3⟩ := h2 b hb
    refine ⟨a1, kp_X (x1 b hb) (by rw [k2 _ (by omega), ev_uq (by omega), ev_uq (by omega), ev_uq (by omega), ev_uq (by omega)]) (by rw [k2 _ (by omega), ev_uq (by omega), ev_uq (by omega), ev_uq (by omega), ev_uq (by omega)]), ?_⟩
    obtain ⟨z0, z1, z2, z3, z4⟩ := y1 b (by omega)
    refine ⟨?_, ?_, ?_, ?_, ?_, fun i hi => ?_⟩
    · rw [z0, R 60 (by omega) (by omega)]; exact a3.1
    · rw [z1, R 61 (by omega) (by omega)]; exact a3.2.1
    · rw [z2, R 62 (by omega) (by omega)]; exact a3.2.2.1
    · rw [z3, R 63 (by omega) (by omega)]; exact a3.2.2.2.1
    · rw [z4, R 64 (by omega) (by omega)]; exact a3.2.2.2.2.1
    · rw [y2 _ (by omega), R 65 (by omega) (by omega)]; exact a3.2.2.2.2.2 i hi
  · rw [K 72 (by omega) (by omega) (by omega) (by omega) (by omega)]; exact h9 i hi
