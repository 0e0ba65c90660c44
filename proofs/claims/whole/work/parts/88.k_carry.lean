/-! THE CLASS BEGINS, AND CARRIES OUT -/
theorem bg_17 {s o m : Nat} (hs : s < 8) (ho : o ≤ 3) (hm : m ≤ 160) {ν : fm_L} (e6 : ∀ i, i < 160 → ν (26 + s) i = ν 70 (160 * s + i)) (v3 : Int32) (K : fm_I → fm_L → Option (fm_I × fm_L)) : ∀ (d i fuel : Nat) (μ : fm_I), i + d = m → d < fuel → μ (18 + s) 0 = nI (100 + o) → μ (18 + s) 1 = nI m → μ 6 3 = nI m → (∀ j, j < i → μ 14 j = (ν 70 (160 * s + j)).toInt32) → ∃ μ', m_X3_begin_17 (18 + s) 2 v3 K fuel (nI i) μ ν = K μ' ν ∧ (∀ y, y ≠ 14 → μ' y = μ y) ∧ ∀ j, j < m → μ' 14 j = (ν 70 (160 * s + j)).toInt32 := by
  intro d
  induction d with
  | zero =>
    intro i fuel μ hi hf' h0 h1 h3 h14
    obtain ⟨f, rfl⟩ : ∃ j, fuel = j + 1 := ⟨fuel - 1, by omega⟩
    refine ⟨μ, ?_, fun _ _ => rfl, fun j hj => h14 j (by omega)⟩
    rw [m_X3_begin_17, h3, if_pos (le_i (by omega) (by omega))]
  | succ d ih =>
    intro i fuel μ hi hf' h0 h1 h3 h14
    obtain ⟨f, rfl⟩ : ∃ j, fuel = j + 1 := ⟨fuel - 1, by omega⟩
    obtain ⟨μ', q1, q2, q3⟩ := ih (i + 1) f (fm_u μ 14 i ((ν 70 (160 * s + i)).toInt32)) (by omega) (by omega) (by rw [ev_uq (by omega)]; exact h0) (by rw [ev_uq (by omega)]; exact h1) (by rw [ev_uq (by omega)]; exact h3) (fun j hj => by
      rw [ev_u]
      by_cases z : j = i
      · rw [if_pos ⟨rfl, z⟩, z]
      · rw [if_neg (fun w => z w.2), h14 j (by omega)])
    refine ⟨μ', ?_, fun y hy => by rw [q2 y hy, ev_uq hy], q3⟩
    rw [m_X3_begin_17, h3, if_neg (nle_i (by omega) (by omega)), int_X hs ho hm (by omega) h0 h1 e6, ev_b, ev_in (by rw [ev_n14]; omega) (by omega), ev_g, ev_cl (by omega), nI_add]
    exact q1
theorem bg_53 {n : Nat} {F : Nat → Nat → Nat} (hn : n ≤ 6) (K : fm_I → fm_L → Option (fm_I × fm_L)) : ∀ (d i fuel : Nat) (μ : fm_I) (ν : fm_L), i + d = n → d < fuel → (∀ b, b < n → pa_X (F b) (34 + b) μ) → μ 6 4 = nI i → (∀ b, b < i → μ 15 b = nI (F b 2)) → ∃ μ', m_X3_begin_53 2 (nI n) K fuel (nI i) μ ν = K μ' ν ∧ (∀ y, y ≠ 6 → y ≠ 15 → μ' y = μ y) ∧ (∀ j, j ≠ 4 → μ' 6 j = μ 6 j) ∧ μ' 6 4 = nI n ∧ ∀ b, b < n → μ' 15 b = nI (F b 2) := by
  intro d
  induction d with
  | zero =>
    intro i fuel μ ν hi hf' hX h4 h15
    obtain ⟨f, rfl⟩ : ∃ j, fuel = j + 1 := ⟨fuel - 1, by omega⟩
    obtain rfl : i = n := by omega
    refine ⟨μ, ?_, fun _ _ _ => rfl, fun _ _ => rfl, h4, h15⟩
    rw [m_X3_begin_53, if_pos (le_i (by omega) (by omega))]
  | succ d ih =>
    intro i fuel μ ν hi hf' hX h4 h15
    obtain ⟨f, rfl⟩ : ∃ j, fuel = j + 1 := ⟨fuel - 1, by omega⟩
    have i6 : (i < 6) = True := eq_true (by omega)
    have x4 : μ (34 + i) 4 = nI (F i 2) := (hX i (by omega)).2.2.1
    have NT : m_X3_noteBand (nI (F i 2)) μ ν = some (nI 1, fm_u (fm_u μ 15 i (nI (F i 2))) 6 4 (nI (i + 1)), ν) := by
      simp -implicitDefEqProofs (disch := omega) only [m_X3_noteBand, h4, i6, ev_b, ev_b2, ev_g, ev_gF, ev_on, ev_os, ev_cl, ev_in, ev_in6, ev_eq0, ev_lt0, ev_0le, ev_le0, ev_0lt, ev_lt, ev_le, ev_eq, ev_m1a, ev_m1b, ev_m1c, ev_m1d, ev_m1e, ev_n1, ev_n4, ev_n8, ev_n9, ev_n10, ev_n11, ev_n12, ev_n13, ev_n14, ev_n15, ev_n16, ev_n17, ev_n59, ev_n60, ev_n61, ev_n62, ev_n63, ev_n64, ev_n65, ev_n66, ev_n67, ev_n68, ev_n69, ev_n70, ev_n71, ev_n72, ev_n73, ev_n74, ev_n75, ev_n76, ev_n77, ev_n78, ev_n79, ev_n80, ev_k18, ev_k34, ev_k40, ev_n26, ev_n26b, ev_n46, ev_n46b, ev_n52b, ev_uq, ev_us, ev_uj, ev_lq, ev_ls, ev_lj, ev_urq, ev_urs, ev_ulq, ev_uls, nI_add, pk_sub, pk_mul, if_true, if_false, ite_true, ite_false, decide_true, decide_false, eq_self_iff_true, Nat.reduceEqDiff, Nat.reduceLeDiff, Nat.reduceLT, Nat.reduceAdd, Nat.reduceMul, Nat.reduceSub, Nat.reduceDiv, Nat.reduceMod, ↓reduceIte]
    obtain ⟨μ', q1, q2, q3, q4, q5⟩ := ih (i + 1) f (fm_u (fm_u μ 15 i (nI (F i 2))) 6 4 (nI (i + 1))) ν (by omega) (by omega) (fun b hb => kp_X (hX b hb) (by rw [ev_uq (by omega), ev_uq (by omega)]) (by rw [ev_uq (by omega), ev_uq (by omega)])) ev_us (fun b hb => by
      rw [ev_uq (by decide), ev_u]
      by_cases z : b = i
      · rw [if_pos ⟨rfl, z⟩, z]
      · rw [if_neg (fun w => z w.2), h15 b (by omega)])
    refine ⟨μ', ?_, fun y h6 hy => by rw [q2 y h6 hy, ev_uq h6, ev_uq hy], fun j hj => by rw [q3 j hj, ev_uj hj, ev_uq (by decide)], q4, q5⟩
    rw [m_X3_begin_53, if_neg (nle_i (by omega) (by omega)), if_neg (nle_i (by omega) (by omega)), ev_in (by omega) (by omega), ev_g, ev_cl (by omega)]
    show fm_g (Nat.beq (fm_k (34 + i)) 0) ((m_X3_noteBand (μ (34 + i) 4) μ ν).bind _) = _
    rw [ev_k34 (by omega), ev_g, x4, NT, ev_b, nI_add]
    exact q1
theorem bg_X {s o m n : Nat} {F : Nat → Nat → Nat} (hs : s < 8) (ho : o ≤ 3) (hm : m ≤ 160) (hn : n ≤ 6) {μ : fm_I} {ν : fm_L} (e6 : ∀ i, i < 160 → ν (26 + s) i = ν 70 (160 * s + i)) (h0 : μ (18 + s) 0 = nI (100 + o)) (h1 : μ (18 + s) 1 = nI m) (hX : ∀ b, b < n → pa_X (F b) (34 + b) μ) : ∃ μ', m_X3_begin (18 + s) 2 (nI n) μ ν = some (μ', ν) ∧ (∀ y, y ≠ 6 → y ≠ 14 → y ≠ 15 → μ' y = μ y) ∧ rS (fun i => (ν 70 (160 * s + i)).toInt32) m 0 n 0 (fun b => F b 2) μ' ∧ μ' 6 0 = -1 := by
  obtain ⟨μ1, p1, p2, p3⟩ := bg_17 hs ho hm e6 (nI n) (fun μ17 ν17 => m_X3_begin_53 2 (nI n) (fun μ53 ν53 => some (((fm_u (fm_u (fm_u μ53 6 2 ((nI 0))) 6 0 ((-1 : Int32))) 6 1 ((nI 0))), ν53))) 5000 ((nI 0)) (fm_u μ17 6 4 ((nI 0))) ν17) m 0 5000 (fm_u μ 6 3 (nI m)) (by omega) (by omega) (by rw [ev_uq (by omega)]; exact h0) (by rw [ev_uq (by omega)]; exact h1) ev_us (fun j hj => absurd hj (Nat.not_lt_zero j))
  obtain ⟨μ2, q1, q2, q3, q4, q5⟩ := bg_53 (F := F) hn (fun μ53 ν53 => some (((fm_u (fm_u (fm_u μ53 6 2 ((nI 0))) 6 0 ((-1 : Int32))) 6 1 ((nI 0))), ν53))) n 0 5000 (fm_u μ1 6 4 (nI 0)) ν (by omega) (by omega) (fun b hb => kp_X (hX b hb) (by rw [ev_uq (by omega), p2 _ (by omega), ev_uq (by omega)]) (by rw [ev_uq (by omega), p2 _ (by omega), ev_uq (by omega)])) ev_us (fun b hb => absurd hb (Nat.not_lt_zero b))
  refine ⟨fm_u (fm_u (fm_u μ2 6 2 (nI 0)) 6 0 (-1)) 6 1 (nI 0), ?_, fun y h6 h14 h15 => by rw [ev_uq h6, ev_uq h6, ev_uq h6, q2 y h6 h15, ev_uq h6, p2 y h14, ev_uq h6], ⟨ev_us, ?_, ?_, ?_, fun i hi => ?_, fun b hb => ?_⟩, ?_⟩
  · rw [m_X3_begin, ev_k18 hs, ev_g, show Nat.beq (fm_k 2) 9 = true by decide, ev_g, h1, if_neg (fun z => by have := (nI_ltI (by omega) (by omega)).mp z; omega), p1, q1]
  · rw [ev_uj (by decide), ev_uj (by decide), ev_us]
  · rw [ev_uj (by decide), ev_uj (by decide), ev_uj (by decide), q3 3 (by decide), ev_uj (by decide), p2 6 (by decide), ev_us]
  · rw [ev_uj (by decide), ev_uj (by decide), ev_uj (by decide), q4]
  · rw [ev_uq (by decide), ev_uq (by decide), ev_uq (by decide), q2 14 (by decide) (by decide), ev_uq (by decide), p3 i hi]
  · rw [ev_uq (by decide), ev_uq (by decide), ev_uq (by decide), q5 b hb]
  · rw [ev_uj (by decide), ev_us]
theorem clX_u {n : Nat} {F : Nat → Nat → Nat} {s p f : Int32} {μ : fm_I} (h : clX n F s p f μ) (hn : n ≤ 6) {b k v : Nat} (hb : b < n) (hk : k ≤ 4) : clX n (fU F b k v) s p f (fm_u μ (34 + b) (k + 2) (nI v)) ∧ frX μ (fm_u μ (34 + b) (k + 2) (nI v)) := by
  obtain ⟨h1, h2, h3, h4, h5⟩ := h
  refine ⟨⟨by rw [ev_uq (by omega)]; exact h1, by rw [ev_uq (by omega)]; exact h2, by rw [ev_uq (by omega)]; exact h3, by rw [ev_uq (by omega)]; exact h4, fun c hc => X_of (fun j hj => ?_) (fun i hi => ?_)⟩, fun q hq => ?_, fun j _ _ => by rw [ev_uq (by omega)], fun c hc => ?_⟩
  · rw [ev_u]
    by_cases e : c = b ∧ j = k
    · rw [if_pos (by omega), e.1, e.2, fU_s]
    · rw [if_neg (by omega), fU_n (by omega)]
      exact X_at (h5 c hc) j hj
  · rw [ev_uq (by omega), fU_n (by omega)]
    exact (h5 c hc).2.2.2.2.2 i hi
  · obtain ⟨q1, q2, q3, _⟩ := hq
    rw [ev_uq (by omega)]
  · rw [ev_u, if_neg (by omega)]
theorem clX_c {n : Nat} {F : Nat → Nat → Nat} {s p f : Int32} {μ : fm_I} (h : clX n F s p f μ) (hn : n ≤ 6) {b k v : Nat} (hb : b < n) (hk : k < 12) : clX n (fU F b (10 + k) v) s p f (fm_u μ (34 + b + 12) k (nI v)) ∧ frX μ (fm_u μ (34 + b + 12) k (nI v)) := by
  obtain ⟨h1, h2, h3, h4, h5⟩ := h
  refine ⟨⟨by rw [ev_uq (by omega)]; exact h1, by rw [ev_uq (by omega)]; exact h2, by rw [ev_uq (by omega)]; exact h3, by rw [ev_uq (by omega)]; exact h4, fun c hc => X_of (fun j hj => ?_) (fun i hi => ?_)⟩, fun q hq => ?_, fun j _ _ => by rw [ev_uq (by omega)], fun c hc => ?_⟩
  · rw [ev_uq (by omega), fU_n (by omega)]
    exact X_at (h5 c hc) j hj
  · rw [ev_u]
    by_cases e : c = b ∧ i = k
    · rw [if_pos (by omega), e.1, e.2, fU_s]
    · rw [if_neg (by omega), fU_n (by omega)]
      exact (h5 c hc).2.2.2.2.2 i hi
  · obtain ⟨q1, q2, q3, _⟩ := hq
    rw [ev_uq (by omega)]
  · rw [ev_uq (by omega)]
theorem add_X2 {n : Nat} {F : Nat → Nat → Nat} {s p f : Int32} {μ : fm_I} (ν : fm_L) (h : clX n F s p f μ) (hn : n < 6) (k t st hd a : Nat) : ∃ μ1, m_X5_addBand (nI k) (nI t) (nI st) (nI hd) (nI a) μ ν = some (μ1, ν) ∧ frX μ μ1 ∧ clX (n + 1) (fA F n (nb k t st hd a)) s p f μ1 ∧ ∀ y, y = 6 ∨ (14 ≤ y ∧ y ≤ 17) → μ1 y = μ y := by
  obtain ⟨μ1, a1, a2, a3⟩ := add_X ν h hn k t st hd a
  refine ⟨μ1, a1, a2, a3, fun y hy => ?_⟩
  have h1 := h.1
  have e1 : m_X5_addBand (nI k) (nI t) (nI st) (nI hd) (nI a) μ ν = some (fm_u (fm_ur (fm_u (fm_u (fm_u (fm_u (fm_u μ (34 + n) 2 (nI k)) (34 + n) 3 (nI t)) (34 + n) 4 (nI st)) (34 + n) 5 (nI hd)) (34 + n) 6 (nI a)) (34 + n + 12) (fun j => if j < 12 then nI 0 else (fm_u (fm_u (fm_u (fm_u (fm_u μ (34 + n) 2 (nI k)) (34 + n) 3 (nI t)) (34 + n) 4 (nI st)) (34 + n) 5 (nI hd)) (34 + n) 6 (nI a)) (34 + n + 12) j)) 0 7 (nI (n + 1)), ν) := by
    simp -implicitDefEqProofs (disch := omega) only [m_X5_addBand, h1, hn, m_X0_become, ev_b, ev_b2, ev_g, ev_gF, ev_on, ev_os, ev_cl, ev_in, ev_in6, ev_eq0, ev_lt0, ev_0le, ev_le0, ev_0lt, ev_lt, ev_le, ev_eq, ev_m1a, ev_m1b, ev_m1c, ev_m1d, ev_m1e, ev_n1, ev_n4, ev_n8, ev_n9, ev_n10, ev_n11, ev_n12, ev_n13, ev_n14, ev_n15, ev_n16, ev_n17, ev_n59, ev_n60, ev_n61, ev_n62, ev_n63, ev_n64, ev_n65, ev_n66, ev_n67, ev_n68, ev_n69, ev_n70, ev_n71, ev_n72, ev_n73, ev_n74, ev_n75, ev_n76, ev_n77, ev_n78, ev_n79, ev_n80, ev_k18, ev_k34, ev_k40, ev_n26, ev_n26b, ev_n46, ev_n46b, ev_n52b, ev_uq, ev_us, ev_uj, ev_lq, ev_ls, ev_lj, ev_urq, ev_urs, ev_ulq, ev_uls, nI_add, pk_sub, pk_mul, if_true, if_false, ite_true, ite_false, decide_true, decide_false, eq_self_iff_true, Nat.reduceEqDiff, Nat.reduceLeDiff, Nat.reduceLT, Nat.reduceAdd, Nat.reduceMul, Nat.reduceSub, Nat.reduceDiv, Nat.reduceMod, ↓reduceIte]
    rw [fill_I (34 + n + 12) (nI 0) 12 (ev_n46b hn) (by decide) (ev_k46 hn).1]
    simp -implicitDefEqProofs (disch := omega) only [h1, ev_b, ev_b2, ev_g, ev_gF, ev_on, ev_os, ev_cl, ev_in, ev_in6, ev_eq0, ev_lt0, ev_0le, ev_le0, ev_0lt, ev_lt, ev_le, ev_eq, ev_m1a, ev_m1b, ev_m1c, ev_m1d, ev_m1e, ev_n1, ev_n4, ev_n8, ev_n9, ev_n10, ev_n11, ev_n12, ev_n13, ev_n14, ev_n15, ev_n16, ev_n17, ev_n59, ev_n60, ev_n61, ev_n62, ev_n63, ev_n64, ev_n65, ev_n66, ev_n67, ev_n68, ev_n69, ev_n70, ev_n71, ev_n72, ev_n73, ev_n74, ev_n75, ev_n76, ev_n77, ev_n78, ev_n79, ev_n80, ev_k18, ev_k34, ev_k40, ev_n26, ev_n26b, ev_n46, ev_n46b, ev_n52b, ev_uq, ev_us, ev_uj, ev_lq, ev_ls, ev_lj, ev_urq, ev_urs, ev_ulq, ev_uls, nI_add, pk_sub, pk_mul, if_true, if_false, ite_true, ite_false, decide_true, decide_false, eq_self_iff_true, Nat.reduceEqDiff, Nat.reduceLeDiff, Nat.reduceLT, Nat.reduceAdd, Nat.reduceMul, Nat.reduceSub, Nat.reduceDiv, Nat.reduceMod, ↓reduceIte]
  rw [a1] at e1
  have e2 := (Prod.mk.inj (Option.some.inj e1)).1
  rw [e2, ev_uq (by omega), ev_urq (by omega), ev_uq (by omega), ev_uq (by omega), ev_uq (by omega), ev_uq (by omega), ev_uq (by omega)]
theorem num_X {q j : Nat} (hq : q < 23) (hj : j < 4) (μ : fm_I) (ν : fm_L) : m_X3_number (nI q) (nI j) μ ν = some (μ 17 (q * 4 + j)) := by
  have q1 : (23 ≤ q) = False := eq_false (by omega)
  have j1 : (4 ≤ j) = False := eq_false (by omega)
  simp -implicitDefEqProofs (disch := omega) only [m_X3_number, q1, j1, ev_b, ev_b2, ev_g, ev_gF, ev_on, ev_os, ev_cl, ev_in, ev_in6, ev_eq0, ev_lt0, ev_0le, ev_le0, ev_0lt, ev_lt, ev_le, ev_eq, ev_m1a, ev_m1b, ev_m1c, ev_m1d, ev_m1e, ev_n1, ev_n4, ev_n8, ev_n9, ev_n10, ev_n11, ev_n12, ev_n13, ev_n14, ev_n15, ev_n16, ev_n17, ev_n59, ev_n60, ev_n61, ev_n62, ev_n63, ev_n64, ev_n65, ev_n66, ev_n67, ev_n68, ev_n69, ev_n70, ev_n71, ev_n72, ev_n73, ev_n74, ev_n75, ev_n76, ev_n77, ev_n78, ev_n79, ev_n80, ev_k18, ev_k34, ev_k40, ev_n26, ev_n26b, ev_n46, ev_n46b, ev_n52b, ev_uq, ev_us, ev_uj, ev_lq, ev_ls, ev_lj, ev_urq, ev_urs, ev_ulq, ev_uls, nI_add, pk_sub, pk_mul, if_true, if_false, ite_true, ite_false, decide_true, decide_false, eq_self_iff_true, Nat.reduceEqDiff, Nat.reduceLeDiff, Nat.reduceLT, Nat.reduceAdd, Nat.reduceMul, Nat.reduceSub, Nat.reduceDiv, Nat.reduceMod, ↓reduceIte]
theorem car_X {n q w : Nat} {F : Nat → Nat → Nat} {x : Nat → Nat} {s p f : Int32} {μ : fm_I} (ν : fm_L) (hV : stV n F) (o : okI n (fun b => F b 2) w x) (hq : q < 23) (h : clX n F s p f μ) (h16 : μ 16 q = wd (po w)) (h17 : ∀ j, j < cnt w → μ 17 (q * 4 + j) = nI (x j)) : ∃ μ', m_X5_carryOut (nI q) μ ν = some (μ', ν) ∧ frX μ μ' ∧ clX (exN w n) (exF w x n F) s p f μ' ∧ ∀ y, y = 6 ∨ (14 ≤ y ∧ y ≤ 17) → μ' y = μ y := by
  obtain ⟨hn, hB⟩ := hV
  obtain ⟨o1, o2, o3, o4, o5⟩ := o
  have q1 : (23 ≤ q) = False := eq_false (by omega)
  have N0 := num_X hq (show 0 < 4 by decide) μ ν
  have N1 := num_X hq (show 1 < 4 by decide) μ ν
  have N2 := num_X hq (show 2 < 4 by decide) μ ν
  have N3 := num_X hq (show 3 < 4 by decide) μ ν
  have WD : m_X3_word (nI q) μ ν = some (wd (po w)) := by
    simp -implicitDefEqProofs (disch := omega) only [m_X3_word, q1, h16, ev_b, ev_b2, ev_g, ev_gF, ev_on, ev_os, ev_cl, ev_in, ev_in6, ev_eq0, ev_lt0, ev_0le, ev_le0, ev_0lt, ev_lt, ev_le, ev_eq, ev_m1a, ev_m1b, ev_m1c, ev_m1d, ev_m1e, ev_n1, ev_n4, ev_n8, ev_n9, ev_n10, ev_n11, ev_n12, ev_n13, ev_n14, ev_n15, ev_n16, ev_n17, ev_n59, ev_n60, ev_n61, ev_n62, ev_n63, ev_n64, ev_n65, ev_n66, ev_n67, ev_n68, ev_n69, ev_n70, ev_n71, ev_n72, ev_n73, ev_n74, ev_n75, ev_n76, ev_n77, ev_n78, ev_n79, ev_n80, ev_k18, ev_k34, ev_k40, ev_n26, ev_n26b, ev_n46, ev_n46b, ev_n52b, ev_uq, ev_us, ev_uj, ev_lq, ev_ls, ev_lj, ev_urq, ev_urs, ev_ulq, ev_uls, nI_add, pk_sub, pk_mul, if_true, if_false, ite_true, ite_false, decide_true, decide_false, eq_self_iff_true, Nat.reduceEqDiff, Nat.reduceLeDiff, Nat.reduceLT, Nat.reduceAdd, Nat.reduceMul, Nat.reduceSub, Nat.reduceDiv, Nat.reduceMod, ↓reduceIte]
  have x0 : μ 17 (q * 4 + 0) = nI (x 0) := h17 0 (by have := cnt_1 w; omega)
  rw [x0] at N0
  rcases (by omega : w = 0 ∨ w = 1 ∨ w = 2 ∨ w = 3 ∨ w = 4) with rfl | rfl | rfl | rfl | rfl
  · obtain ⟨p1, p2, p3, p4, p5, p6⟩ := o2 rfl
    rw [h17 1 (by decide)] at N1
    rw [h17 2 (by decide)] at N2
    rw [h17 3 (by decide)] at N3
    have WD' : m_X3_word (nI q) μ ν = some (nI 98) := WD
    obtain ⟨μ1, a1, a2, a3, a4⟩ := add_X2 ν h (by omega) (x 0) (x 1) (x 2) 0 (x 3)
    refine ⟨μ1, ?_, a2, a3, a4⟩
    simp -implicitDefEqProofs (disch := omega) only [m_X5_carryOut, N0, N1, N2, N3, WD', a1, ev_b, ev_b2, ev_g, ev_gF, ev_on, ev_os, ev_cl, ev_in, ev_in6, ev_eq0, ev_lt0, ev_0le, ev_le0, ev_0lt, ev_lt, ev_le, ev_eq, ev_m1a, ev_m1b, ev_m1c, ev_m1d, ev_m1e, ev_n1, ev_n4, ev_n8, ev_n9, ev_n10, ev_n11, ev_n12, ev_n13, ev_n14, ev_n15, ev_n16, ev_n17, ev_n59, ev_n60, ev_n61, ev_n62, ev_n63, ev_n64, ev_n65, ev_n66, ev_n67, ev_n68, ev_n69, ev_n70, ev_n71, ev_n72, ev_n73, ev_n74, ev_n75, ev_n76, ev_n77, ev_n78, ev_n79, ev_n80, ev_k18, ev_k34, ev_k40, ev_n26, ev_n26b, ev_n46, ev_n46b, ev_n52b, ev_uq, ev_us, ev_uj, ev_lq, ev_ls, ev_lj, ev_urq, ev_urs, ev_ulq, ev_uls, nI_add, pk_sub, pk_mul, if_true, if_false, ite_true, ite_false, decide_true, decide_false, eq_self_iff_true, Nat.reduceEqDiff, Nat.reduceLeDiff, Nat.reduceLT, Nat.reduceAdd, Nat.reduceMul, Nat.reduceSub, Nat.reduceDiv, Nat.reduceMod, ↓reduceIte]
  · have b := o3 (by decide)
    have WD' : m_X3_word (nI q) μ ν = some (nI 114) := WD
    obtain ⟨c1, c2⟩ := clX_u (v := 1) h hn b (show 3 ≤ 4 by decide)
    refine ⟨_, ?_, c2, c1, fun y hy => by rw [ev_uq (by omega)]⟩
    simp -implicitDefEqProofs (disch := omega) only [m_X5_carryOut, N0, N1, N2, WD', ba_in hn b h.1, ev_b, ev_b2, ev_g, ev_gF, ev_on, ev_os, ev_cl, ev_in, ev_in6, ev_eq0, ev_lt0, ev_0le, ev_le0, ev_0lt, ev_lt, ev_le, ev_eq, ev_m1a, ev_m1b, ev_m1c, ev_m1d, ev_m1e, ev_n1, ev_n4, ev_n8, ev_n9, ev_n10, ev_n11, ev_n12, ev_n13, ev_n14, ev_n15, ev_n16, ev_n17, ev_n59, ev_n60, ev_n61, ev_n62, ev_n63, ev_n64, ev_n65, ev_n66, ev_n67, ev_n68, ev_n69, ev_n70, ev_n71, ev_n72, ev_n73, ev_n74, ev_n75, ev_n76, ev_n77, ev_n78, ev_n79, ev_n80, ev_k18, ev_k34, ev_k40, ev_n26, ev_n26b, ev_n46, ev_n46b, ev_n52b, ev_uq, ev_us, ev_uj, ev_lq, ev_ls, ev_lj, ev_urq, ev_urs, ev_ulq, ev_uls, nI_add, pk_sub, pk_mul, if_true, if_false, ite_true, ite_false, decide_true, decide_false, eq_self_iff_true, Nat.reduceEqDiff, Nat.reduceLeDiff, Nat.reduceLT, Nat.reduceAdd, Nat.reduceMul, Nat.reduceSub, Nat.reduceDiv, Nat.reduceMod, ↓reduceIte]
  · have b := o3 (by decide)
    have WD' : m_X3_word (nI q) μ ν = some (nI 108) := WD
    obtain ⟨c1, c2⟩ := clX_u (v := 0) h hn b (show 3 ≤ 4 by decide)
    refine ⟨_, ?_, c2, c1, fun y hy => by rw [ev_uq (by omega)]⟩
    simp -implicitDefEqProofs (disch := omega) only [m_X5_carryOut, N0, N1, N2, WD', ba_in hn b h.1, ev_b, ev_b2, ev_g, ev_gF, ev_on, ev_os, ev_cl, ev_in, ev_in6, ev_eq0, ev_lt0, ev_0le, ev_le0, ev_0lt, ev_lt, ev_le, ev_eq, ev_m1a, ev_m1b, ev_m1c, ev_m1d, ev_m1e, ev_n1, ev_n4, ev_n8, ev_n9, ev_n10, ev_n11, ev_n12, ev_n13, ev_n14, ev_n15, ev_n16, ev_n17, ev_n59, ev_n60, ev_n61, ev_n62, ev_n63, ev_n64, ev_n65, ev_n66, ev_n67, ev_n68, ev_n69, ev_n70, ev_n71, ev_n72, ev_n73, ev_n74, ev_n75, ev_n76, ev_n77, ev_n78, ev_n79, ev_n80, ev_k18, ev_k34, ev_k40, ev_n26, ev_n26b, ev_n46, ev_n46b, ev_n52b, ev_uq, ev_us, ev_uj, ev_lq, ev_ls, ev_lj, ev_urq, ev_urs, ev_ulq, ev_uls, nI_add, pk_sub, pk_mul, if_true, if_false, ite_true, ite_false, decide_true, decide_false, eq_self_iff_true, Nat.reduceEqDiff, Nat.reduceLeDiff, Nat.reduceLT, Nat.reduceAdd, Nat.reduceMul, Nat.reduceSub, Nat.reduceDiv, Nat.reduceMod, ↓reduceIte]
  · have b := o3 (by decide)
    obtain ⟨p1, p2⟩ := o4 rfl
    have p1' : x 1 < F (x 0) 2 := p1
    have s12 := (hB (x 0) b).2.2.2.1
    rw [h17 1 (by decide)] at N1
    rw [h17 2 (by decide)] at N2
    have WD' : m_X3_word (nI q) μ ν = some (nI 112) := WD
    have ST := st_in ν (h.2.2.2.2 (x 0) b) (by omega) s12 p1'
    obtain ⟨c1, c2⟩ := clX_c (v := x 2) h hn b (show x 1 < 12 by omega)
    refine ⟨_, ?_, c2, c1, fun y hy => by rw [ev_uq (by omega)]⟩
    simp -implicitDefEqProofs (disch := omega) only [m_X5_carryOut, N0, N1, N2, WD', ba_in hn b h.1, ST, ev_b, ev_b2, ev_g, ev_gF, ev_on, ev_os, ev_cl, ev_in, ev_in6, ev_eq0, ev_lt0, ev_0le, ev_le0, ev_0lt, ev_lt, ev_le, ev_eq, ev_m1a, ev_m1b, ev_m1c, ev_m1d, ev_m1e, ev_n1, ev_n4, ev_n8, ev_n9, ev_n10, ev_n11, ev_n12, ev_n13, ev_n14, ev_n15, ev_n16, ev_n17, ev_n59, ev_n60, ev_n61, ev_n62, ev_n63, ev_n64, ev_n65, ev_n66, ev_n67, ev_n68, ev_n69, ev_n70, ev_n71, ev_n72, ev_n73, ev_n74, ev_n75, ev_n76, ev_n77, ev_n78, ev_n79, ev_n80, ev_k18, ev_k34, ev_k40, ev_n26, ev_n26b, ev_n46, ev_n46b, ev_n52b, ev_uq, ev_us, ev_uj, ev_lq, ev_ls, ev_lj, ev_urq, ev_urs, ev_ulq, ev_uls, nI_add, pk_sub, pk_mul, if_true, if_false, ite_true, ite_false, decide_true, decide_false, eq_self_iff_true, Nat.reduceEqDiff, Nat.reduceLeDiff, Nat.reduceLT, Nat.reduceAdd, Nat.reduceMul, Nat.reduceSub, Nat.reduceDiv, Nat.reduceMod, ↓reduceIte]
  · have b := o3 (by decide)
    rw [h17 1 (by decide)] at N1
    have WD' : m_X3_word (nI q) μ ν = some (nI 116) := WD
    obtain ⟨c1, c2⟩ := clX_u (v := x 1) h hn b (show 1 ≤ 4 by decide)
    refine ⟨_, ?_, c2, c1, fun y hy => by rw [ev_uq (by omega)]⟩
    simp -implicitDefEqProofs (disch := omega) only [m_X5_carryOut, N0, N1, N2, WD', ba_in hn b h.1, ev_b, ev_b2, ev_g, ev_gF, ev_on, ev_os, ev_cl, ev_in, ev_in6, ev_eq0, ev_lt0, ev_0le, ev_le0, ev_0lt, ev_lt, ev_le, ev_eq, ev_m1a, ev_m1b, ev_m1c, ev_m1d, ev_m1e, ev_n1, ev_n4, ev_n8, ev_n9, ev_n10, ev_n11, ev_n12, ev_n13, ev_n14, ev_n15, ev_n16, ev_n17, ev_n59, ev_n60, ev_n61, ev_n62, ev_n63, ev_n64, ev_n65, ev_n66, ev_n67, ev_n68, ev_n69, ev_n70, ev_n71, ev_n72, ev_n73, ev_n74, ev_n75, ev_n76, ev_n77, ev_n78, ev_n79, ev_n80, ev_k18, ev_k34, ev_k40, ev_n26, ev_n26b, ev_n46, ev_n46b, ev_n52b, ev_uq, ev_us, ev_uj, ev_lq, ev_ls, ev_lj, ev_urq, ev_urs, ev_ulq, ev_uls, nI_add, pk_sub, pk_mul, if_true, if_false, ite_true, ite_false, decide_true, decide_false, eq_self_iff_true, Nat.reduceEqDiff, Nat.reduceLeDiff, Nat.reduceLT, Nat.reduceAdd, Nat.reduceMul, Nat.reduceSub, Nat.reduceDiv, Nat.reduceMod, ↓reduceIte]
theorem tb_72 {s p f : Int32} (K : fm_I → fm_L → Option (Int32 × fm_I × fm_L)) (ν : fm_L) : ∀ (L : List (Nat × (Nat → Nat))) (q fuel n : Nat) (F : Nat → Nat → Nat) (μ : fm_I), q + L.length ≤ 23 → L.length < fuel → μ 6 1 = nI (q + L.length) → stV n F → vL L n F → rc μ q L → clX n F s p f μ → ∃ μ', m_X5_table_72 K fuel (nI q) μ ν = K μ' ν ∧ frX μ μ' ∧ clX (foN L n) (foF L n F) s p f μ' ∧ μ' 6 1 = μ 6 1 := by
  intro L
  induction L with
  | nil =>
    intro q fuel n F μ hq hf' h1 _ _ _ h
    obtain ⟨g, rfl⟩ : ∃ j, fuel = j + 1 := ⟨fuel - 1, by omega⟩
    refine ⟨μ, ?_, frX_r μ, h, rfl⟩
    rw [m_X5_table_72, h1]
    exact if_pos (le_i (Nat.le_refl _) (by omega))
  | cons a L ih =>
    obtain ⟨w, x⟩ := a
    intro q fuel n F μ hq hf' h1 hV v r h
    obtain ⟨g, rfl⟩ : ∃ j, fuel = j + 1 := ⟨fuel - 1, by omega⟩
    have ln : ((w, x) :: L).length = L.length + 1 := rfl
    rw [ln] at hq hf' h1
    obtain ⟨μ1, c1, c2, c3, c4⟩ := car_X ν hV v.1 (show q < 23 by omega) h r.1 r.2.1
    obtain ⟨μ', i1, i2, i3, i4⟩ := ih (q + 1) g (exN w n) (exF w x n F) μ1 (by omega) (by omega) (by rw [c4 6 (Or.inl rfl), h1]; congr 1; omega) (stV_e hV v.1).1 v.2 (rc_k (c4 16 (by omega)) (c4 17 (by omega)) L (q + 1) r.2.2) c3
    refine ⟨μ', ?_, frX_t c2 i2, i3, by rw [i4, c4 6 (Or.inl rfl)]⟩
    rw [m_X5_table_72, h1, if_neg (nle_i (by omega) (by omega)), c1, ev_b, nI_add]
    exact i1
