/-! LEAST TWIST, MOST: as if -/
noncomputable def lT (k n a t q : Nat) : Nat → Nat → Int32
  | 0, _ => -1
  | d + 1, i => if pC k n a ((t + i) % 2) = q then nI i else lT k n a t q d (i + 1)
theorem lt_X {b k n a s t q : Nat} (hb : b < 6) (ok : ∀ i, i ≤ 40 → okP k n a s (t + i)) (hq : q ≤ 12) : ∀ (d i fuel : Nat) (μ : fm_I) (ν : fm_L), i + d = 41 → d < fuel → μ (34 + b) 2 = nI k → μ (34 + b) 3 = nI t → μ (34 + b) 4 = nI n → μ (34 + b) 5 = nI s → μ (34 + b) 6 = nI a → ∃ μ', m_X5_leastTwist_41 (nI q) (34 + b) (fun μ41 ν41 => some (((-1 : Int32), μ41, ν41))) fuel (nI i) μ ν = some (lT k n a t q d i, μ', ν) ∧ ∀ x, x ≠ 5 → x ≠ 9 → x ≠ 10 → x ≠ 11 → μ' x = μ x := by
  intro d
  induction d with
  | zero =>
    intro i fuel μ ν hi hf' e2 e3 e4 e5 e6
    obtain ⟨f, rfl⟩ : ∃ j, fuel = j + 1 := ⟨fuel - 1, by omega⟩
    refine ⟨μ, ?_, fun _ _ _ _ _ => rfl⟩
    rw [m_X5_leastTwist_41, if_pos ((nI_ltI (by omega) (by omega)).mpr (by omega))]
    rfl
  | succ d ih =>
    intro i fuel μ ν hi hf' e2 e3 e4 e5 e6
    obtain ⟨f, rfl⟩ : ∃ j, fuel = j + 1 := ⟨fuel - 1, by omega⟩
    have ok1 := ok i (by omega)
    have cc := pC_le ok1
    obtain ⟨μ1, p1, p2, p3⟩ := layX ok1 hb ν e2 e5 e6
    have f0 : μ1 (34 + b) = μ (34 + b) := p2 _ (by omega) (by omega) (by omega) (by omega)
    by_cases c : pC k n a ((t + i) % 2) = q
    · refine ⟨μ1, ?_, p2⟩
      rw [m_X5_leastTwist_41, if_neg (fun z => by have := (nI_ltI (by omega) (by omega)).mp z; omega), ev_k34 hb, ev_g, e4, e3, nI_add, p1, ev_b]
      show (if μ1 5 0 = nI q then some (nI i, μ1, ν) else _) = _
      rw [p3.2.2.2.2.2.1, if_pos (by rw [c]), lT, if_pos c]
    · obtain ⟨μ', q1, q2⟩ := ih (i + 1) f μ1 ν (by omega) (by omega) (by rw [f0]; exact e2) (by rw [f0]; exact e3) (by rw [f0]; exact e4) (by rw [f0]; exact e5) (by rw [f0]; exact e6)
      refine ⟨μ', ?_, fun x y1 y2 y3 y4 => by rw [q2 x y1 y2 y3 y4, p2 x y1 y2 y3 y4]⟩
      rw [m_X5_leastTwist_41, if_neg (fun z => by have := (nI_ltI (by omega) (by omega)).mp z; omega), ev_k34 hb, ev_g, e4, e3, nI_add, p1, ev_b]
      show (if μ1 5 0 = nI q then _ else m_X5_leastTwist_41 (nI q) (34 + b) (fun μ41 ν41 => some (((-1 : Int32), μ41, ν41))) f (nI i + nI 1) μ1 ν) = _
      rw [p3.2.2.2.2.2.1, if_neg (ne_i c (by omega) (by omega)), lT, if_neg c, nI_add]
      exact q1
theorem bM_t {k n a s t t' b : Nat} {μ : fm_I} (h : bM k n a s t b μ) : bM k n a s t' b (fm_u μ 61 b (nI t')) := by
  obtain ⟨e0, e1, e2, e3, e4⟩ := h
  exact ⟨by rw [ev_uq (by decide)]; exact e0, ev_us, by rw [ev_uq (by decide)]; exact e2, by rw [ev_uq (by decide)]; exact e3, by rw [ev_uq (by decide)]; exact e4⟩
theorem bM_n {k n n' a s t b : Nat} {μ : fm_I} (h : bM k n a s t b μ) : bM k n' a s t b (fm_u μ 62 b (nI n')) := by
  obtain ⟨e0, e1, e2, e3, e4⟩ := h
  exact ⟨by rw [ev_uq (by decide)]; exact e0, by rw [ev_uq (by decide)]; exact e1, ev_us, by rw [ev_uq (by decide)]; exact e3, by rw [ev_uq (by decide)]; exact e4⟩
/-- what the reference changes when it tries a number in the row q of the band b -/
def fT (q b : Nat) (μ μ' : fm_I) : Prop := (∀ x, x ≠ q → x ≠ 76 → x ≠ 77 → x ≠ 58 → μ' x = μ x) ∧ (∀ j, j ≠ b → μ' q j = μ q j) ∧ ∀ j, j ≠ 28 → μ' 58 j = μ 58 j
theorem fT_r (q b : Nat) (μ : fm_I) : fT q b μ μ := ⟨fun _ _ _ _ _ => rfl, fun _ _ => rfl, fun _ _ => rfl⟩
theorem fT_t {q b : Nat} {μ1 μ2 μ3 : fm_I} (h : fT q b μ1 μ2) (h2 : fT q b μ2 μ3) : fT q b μ1 μ3 := ⟨fun x a b c d => (h2.1 x a b c d).trans (h.1 x a b c d), fun j c => (h2.2.1 j c).trans (h.2.1 j c), fun j c => (h2.2.2 j c).trans (h.2.2 j c)⟩
theorem fT_s {q b : Nat} {v : Int32} {μ μ' : fm_I} (hq : q = 61 ∨ q = 62) (h : ∀ x, x ≠ 76 → x ≠ 77 → x ≠ 58 → μ' x = (fm_u μ q b v) x) (h2 : ∀ j, j ≠ 28 → μ' 58 j = (fm_u μ q b v) 58 j) : fT q b μ μ' := by
  refine ⟨fun x a1 a2 a3 a4 => by rw [h x a2 a3 a4, ev_uq a1], fun j hj => by rw [h q (by omega) (by omega) (by omega), ev_uj hj], fun j hj => by rw [h2 j hj, ev_uq (by omega)]⟩
theorem fT_inv {q b : Nat} {μ μ1 μ2 : fm_I} {ν : fm_L} (h : Inv μ ν) (hq : q = 61 ∨ q = 62) (x : ∀ x, x ≠ 5 → x ≠ 9 → x ≠ 10 → x ≠ 11 → x ≠ 12 → μ1 x = μ x) (m : fT q b μ1 μ2) : Inv (fm_u μ2 q b (μ q b)) ν := by
  obtain ⟨m1, m2, m3⟩ := m
  refine inv_scr h (fun y hy => ?_) (fun j hj => ?_) (fun _ _ => rfl)
  · by_cases c : y = q
    · subst c
      funext j
      rw [ev_u]
      by_cases z : j = b
      · rw [if_pos ⟨rfl, z⟩, z]
      · rw [if_neg (fun w => z w.2), m2 j z, x y (by omega) (by omega) (by omega) (by omega) (by omega)]
    · rw [ev_uq c, m1 y c (by omega) (by omega) (by omega), x y (by omega) (by omega) (by omega) (by omega) (by omega)]
  · rw [ev_uq (by omega), m3 j (by omega), x 58 (by omega) (by omega) (by omega) (by omega) (by omega)]
theorem lt_M {b k n a s t q : Nat} (hb : b < 6) (ok : ∀ i, i ≤ 40 → okP k n a s (t + i)) (hq : q ≤ 12) (K : Int32 → fm_I → fm_L → Option (Int32 × fm_I × fm_L)) : ∀ (d i fuel : Nat) (t' : Nat) (μ : fm_I) (ν : fm_L), i + d = 41 → d + 1 < fuel → bM k n a s t' b μ → ∃ μ', m_X6_leastTwist_45 (nI b) (nI q) (nI t) K fuel (-1) (nI i) μ ν = K (lT k n a t q d i) μ' ν ∧ fT 61 b μ μ' := by
  intro d
  induction d with
  | zero =>
    intro i fuel t' μ ν hi hf' h
    obtain ⟨f, rfl⟩ : ∃ j, fuel = j + 1 := ⟨fuel - 1, by omega⟩
    refine ⟨μ, ?_, fT_r _ _ _⟩
    rw [m_X6_leastTwist_45, if_pos ((nI_ltI (by omega) (by omega)).mpr (by omega))]
    rfl
  | succ d ih =>
    intro i fuel t' μ ν hi hf' h
    obtain ⟨f, rfl⟩ : ∃ j, fuel = j + 1 := ⟨fuel - 1, by omega⟩
    have ok1 := ok i (by omega)
    have cc := pC_le ok1
    have h1 := bM_t (t' := t + i) h
    obtain ⟨μ1, p1, p2, p3, p4⟩ := cutsM' ν ok1 hb h1
    have F1 := fT_s (q := 61) (Or.inl rfl) p2 p3
    by_cases c : pC k n a ((t + i) % 2) = q
    · refine ⟨μ1, ?_, F1⟩
      rw [m_X6_leastTwist_45, if_neg (fun z => by have := (nI_ltI (by omega) (by omega)).mp z; omega), if_pos rfl, ev_in (by rw [ev_n61]; omega) (by omega), ev_g, ev_cl (by omega), nI_add, p1, ev_b]
      show (if μ1 58 28 = nI q then m_X6_leastTwist_45 (nI b) (nI q) (nI t) K f (nI i) (nI i + nI 1) μ1 ν else _) = _
      rw [p4.2.1, if_pos (by rw [c]), lT, if_pos c, nI_add]
      obtain ⟨g, rfl⟩ : ∃ j, f = j + 1 := ⟨f - 1, by omega⟩
      rw [m_X6_leastTwist_45]
      by_cases z : nI 40 < nI (i + 1)
      · rw [if_pos z]
      · rw [if_neg z, if_neg (by rw [ev_m1a (by omega)]; exact not_false)]
    · obtain ⟨μ', q1, q2⟩ := ih (i + 1) f (t + i) μ1 ν (by omega) (by omega) (kp_bM h1 (fun x a1 a2 => p2 x (by omega) (by omega) (by omega)))
      refine ⟨μ', ?_, fT_t F1 q2⟩
      rw [m_X6_leastTwist_45, if_neg (fun z => by have := (nI_ltI (by omega) (by omega)).mp z; omega), if_pos rfl, ev_in (by rw [ev_n61]; omega) (by omega), ev_g, ev_cl (by omega), nI_add, p1, ev_b]
      show (if μ1 58 28 = nI q then _ else m_X6_leastTwist_45 (nI b) (nI q) (nI t) K f (-1) (nI i + nI 1) μ1 ν) = _
      rw [p4.2.1, if_neg (ne_i c (by omega) (by omega)), lT, if_neg c, nI_add]
      exact q1
theorem rX11 (μ : fm_I) (ν : fm_L) : m_X5_refuseOffBy (nI 10) (nI 1) μ ν = some (-11, fm_u μ 4 1 (μ 4 1 + nI 1), ν) := rf_XO (nI 10) 1 (by decide) (by decide) μ ν
theorem rM11 (μ : fm_I) (ν : fm_L) : m_X6_noTen (-1) μ ν = some (-11, fm_u μ 59 1 (μ 59 1 + nI 1), ν) := (rf_M 1 (by decide) (-1) (by decide) μ ν).2.1
theorem op_leastTwist {μ : fm_I} {ν : fm_L} (h : Inv μ ν) (a0 : Int32) (a1 : Int32) : pa_op (m_X5_leastTwist a0 a1 μ ν) (fun μ ν => m_X6_leastTwist a0 a1 μ ν) := by
  obtain ⟨n, F, hI⟩ := id h
  have hn := hI.1.1
  rcases bd_cases a0 hn with h0 | ⟨b, hb, rfl⟩
  · refine op_rf h 1 (by decide) (r := -11) ?_ ?_
    · simp -implicitDefEqProofs (disch := omega) only [m_X5_leastTwist, ba_out h0 hI.1.2.1, rX11, ev_b, ev_b2, ev_g, ev_gF, ev_on, ev_os, ev_cl, ev_in, ev_in6, ev_eq0, ev_lt0, ev_0le, ev_le0, ev_0lt, ev_lt, ev_le, ev_eq, ev_m1a, ev_m1b, ev_m1c, ev_m1d, ev_m1e, ev_n1, ev_n4, ev_n8, ev_n9, ev_n10, ev_n11, ev_n12, ev_n13, ev_n14, ev_n15, ev_n16, ev_n17, ev_n59, ev_n60, ev_n61, ev_n62, ev_n63, ev_n64, ev_n65, ev_n66, ev_n67, ev_n68, ev_n69, ev_n70, ev_n71, ev_n72, ev_n73, ev_n74, ev_n75, ev_n76, ev_n77, ev_n78, ev_n79, ev_n80, ev_k18, ev_k34, ev_k40, ev_n26, ev_n26b, ev_n46, ev_n46b, ev_n52b, ev_uq, ev_us, ev_uj, ev_lq, ev_ls, ev_lj, ev_urq, ev_urs, ev_ulq, ev_uls, nI_add, pk_sub, pk_mul, if_true, if_false, ite_true, ite_false, decide_true, decide_false, eq_self_iff_true, Nat.reduceEqDiff, Nat.reduceLeDiff, Nat.reduceLT, Nat.reduceAdd, Nat.reduceMul, Nat.reduceSub, Nat.reduceDiv, Nat.reduceMod, ↓reduceIte]
    · show m_X6_leastTwist a0 a1 _ ν = _
      simp -implicitDefEqProofs (disch := omega) only [m_X6_leastTwist, bo2 h0 hI.1.2.2, rM11, ev_b, ev_b2, ev_g, ev_gF, ev_on, ev_os, ev_cl, ev_in, ev_in6, ev_eq0, ev_lt0, ev_0le, ev_le0, ev_0lt, ev_lt, ev_le, ev_eq, ev_m1a, ev_m1b, ev_m1c, ev_m1d, ev_m1e, ev_n1, ev_n4, ev_n8, ev_n9, ev_n10, ev_n11, ev_n12, ev_n13, ev_n14, ev_n15, ev_n16, ev_n17, ev_n59, ev_n60, ev_n61, ev_n62, ev_n63, ev_n64, ev_n65, ev_n66, ev_n67, ev_n68, ev_n69, ev_n70, ev_n71, ev_n72, ev_n73, ev_n74, ev_n75, ev_n76, ev_n77, ev_n78, ev_n79, ev_n80, ev_k18, ev_k34, ev_k40, ev_n26, ev_n26b, ev_n46, ev_n46b, ev_n52b, ev_uq, ev_us, ev_uj, ev_lq, ev_ls, ev_lj, ev_urq, ev_urs, ev_ulq, ev_uls, nI_add, pk_sub, pk_mul, if_true, if_false, ite_true, ite_false, decide_true, decide_false, eq_self_iff_true, Nat.reduceEqDiff, Nat.reduceLeDiff, Nat.reduceLT, Nat.reduceAdd, Nat.reduceMul, Nat.reduceSub, Nat.reduceDiv, Nat.reduceMod, ↓reduceIte]
  by_cases h1 : a1 < nI 1
  · refine op_rf h 6 (by decide) (r := -16) ?_ ?_
    · simp -implicitDefEqProofs (disch := omega) only [m_X5_leastTwist, ba_in hn hb hI.1.2.1, h1, rX16, ev_b, ev_b2, ev_g, ev_gF, ev_on, ev_os, ev_cl, ev_in, ev_in6, ev_eq0, ev_lt0, ev_0le, ev_le0, ev_0lt, ev_lt, ev_le, ev_eq, ev_m1a, ev_m1b, ev_m1c, ev_m1d, ev_m1e, ev_n1, ev_n4, ev_n8, ev_n9, ev_n10, ev_n11, ev_n12, ev_n13, ev_n14, ev_n15, ev_n16, ev_n17, ev_n59, ev_n60, ev_n61, ev_n62, ev_n63, ev_n64, ev_n65, ev_n66, ev_n67, ev_n68, ev_n69, ev_n70, ev_n71, ev_n72, ev_n73, ev_n74, ev_n75, ev_n76, ev_n77, ev_n78, ev_n79, ev_n80, ev_k18, ev_k34, ev_k40, ev_n26, ev_n26b, ev_n46, ev_n46b, ev_n52b, ev_uq, ev_us, ev_uj, ev_lq, ev_ls, ev_lj, ev_urq, ev_urs, ev_ulq, ev_uls, nI_add, pk_sub, pk_mul, if_true, if_false, ite_true, ite_false, decide_true, decide_false, eq_self_iff_true, Nat.reduceEqDiff, Nat.reduceLeDiff, Nat.reduceLT, Nat.reduceAdd, Nat.reduceMul, Nat.reduceSub, Nat.reduceDiv, Nat.reduceMod, ↓reduceIte]
    · show m_X6_leastTwist (nI b) a1 _ ν = _
      simp -implicitDefEqProofs (disch := omega) only [m_X6_leastTwist, bi2 hn hb hI.1.2.2, h1, rM16, ev_b, ev_b2, ev_g, ev_gF, ev_on, ev_os, ev_cl, ev_in, ev_in6, ev_eq0, ev_lt0, ev_0le, ev_le0, ev_0lt, ev_lt, ev_le, ev_eq, ev_m1a, ev_m1b, ev_m1c, ev_m1d, ev_m1e, ev_n1, ev_n4, ev_n8, ev_n9, ev_n10, ev_n11, ev_n12, ev_n13, ev_n14, ev_n15, ev_n16, ev_n17, ev_n59, ev_n60, ev_n61, ev_n62, ev_n63, ev_n64, ev_n65, ev_n66, ev_n67, ev_n68, ev_n69, ev_n70, ev_n71, ev_n72, ev_n73, ev_n74, ev_n75, ev_n76, ev_n77, ev_n78, ev_n79, ev_n80, ev_k18, ev_k34, ev_k40, ev_n26, ev_n26b, ev_n46, ev_n46b, ev_n52b, ev_uq, ev_us, ev_uj, ev_lq, ev_ls, ev_lj, ev_urq, ev_urs, ev_ulq, ev_uls, nI_add, pk_sub, pk_mul, if_true, if_false, ite_true, ite_false, decide_true, decide_false, eq_self_iff_true, Nat.reduceEqDiff, Nat.reduceLeDiff, Nat.reduceLT, Nat.reduceAdd, Nat.reduceMul, Nat.reduceSub, Nat.reduceDiv, Nat.reduceMod, ↓reduceIte]
  rcases i_cases a1 12 (by decide) with h2 | ⟨b1, b2, b3, b4⟩ | ⟨q, hq, rfl⟩
  · exact absurd (i_lt1 h2) h1
  · refine op_rf h 6 (by decide) (r := -16) ?_ ?_
    · simp -implicitDefEqProofs (disch := omega) only [m_X5_leastTwist, ba_in hn hb hI.1.2.1, h1, b3, rX16, ev_b, ev_b2, ev_g, ev_gF, ev_on, ev_os, ev_cl, ev_in, ev_in6, ev_eq0, ev_lt0, ev_0le, ev_le0, ev_0lt, ev_lt, ev_le, ev_eq, ev_m1a, ev_m1b, ev_m1c, ev_m1d, ev_m1e, ev_n1, ev_n4, ev_n8, ev_n9, ev_n10, ev_n11, ev_n12, ev_n13, ev_n14, ev_n15, ev_n16, ev_n17, ev_n59, ev_n60, ev_n61, ev_n62, ev_n63, ev_n64, ev_n65, ev_n66, ev_n67, ev_n68, ev_n69, ev_n70, ev_n71, ev_n72, ev_n73, ev_n74, ev_n75, ev_n76, ev_n77, ev_n78, ev_n79, ev_n80, ev_k18, ev_k34, ev_k40, ev_n26, ev_n26b, ev_n46, ev_n46b, ev_n52b, ev_uq, ev_us, ev_uj, ev_lq, ev_ls, ev_lj, ev_urq, ev_urs, ev_ulq, ev_uls, nI_add, pk_sub, pk_mul, if_true, if_false, ite_true, ite_false, decide_true, decide_false, eq_self_iff_true, Nat.reduceEqDiff, Nat.reduceLeDiff, Nat.reduceLT, Nat.reduceAdd, Nat.reduceMul, Nat.reduceSub, Nat.reduceDiv, Nat.reduceMod, ↓reduceIte]
    · show m_X6_leastTwist (nI b) a1 _ ν = _
      simp -implicitDefEqProofs (disch := omega) only [m_X6_leastTwist, bi2 hn hb hI.1.2.2, h1, b3, rM16, ev_b, ev_b2, ev_g, ev_gF, ev_on, ev_os, ev_cl, ev_in, ev_in6, ev_eq0, ev_lt0, ev_0le, ev_le0, ev_0lt, ev_lt, ev_le, ev_eq, ev_m1a, ev_m1b, ev_m1c, ev_m1d, ev_m1e, ev_n1, ev_n4, ev_n8, ev_n9, ev_n10, ev_n11, ev_n12, ev_n13, ev_n14, ev_n15, ev_n16, ev_n17, ev_n59, ev_n60, ev_n61, ev_n62, ev_n63, ev_n64, ev_n65, ev_n66, ev_n67, ev_n68, ev_n69, ev_n70, ev_n71, ev_n72, ev_n73, ev_n74, ev_n75, ev_n76, ev_n77, ev_n78, ev_n79, ev_n80, ev_k18, ev_k34, ev_k40, ev_n26, ev_n26b, ev_n46, ev_n46b, ev_n52b, ev_uq, ev_us, ev_uj, ev_lq, ev_ls, ev_lj, ev_urq, ev_urs, ev_ulq, ev_uls, nI_add, pk_sub, pk_mul, if_true, if_false, ite_true, ite_false, decide_true, decide_false, eq_self_iff_true, Nat.reduceEqDiff, Nat.reduceLeDiff, Nat.reduceLT, Nat.reduceAdd, Nat.reduceMul, Nat.reduceSub, Nat.reduceDiv, Nat.reduceMod, ↓reduceIte]
  obtain ⟨d1, d2, d3⟩ := hI.2.1 b hb
  obtain ⟨c0, c1, c2, c3, c4, c5, c6⟩ := id d1
  have ok : ∀ i, i ≤ 40 → okP (F b 0) (F b 2) (F b 4) (F b 3) (F b 1 + i) := fun i hi => ⟨c0, c2, c3, c5, c4, by omega⟩
  have q12 : (q ≤ 12) = True := eq_true hq
  obtain ⟨μ1, p1, p2⟩ := lt_X (q := q) (show b < 6 by omega) ok hq 41 0 5000 μ ν (by omega) (by omega) d2.1 d2.2.1 d2.2.2.1 d2.2.2.2.1 d2.2.2.2.2.1
  have d3' := kp_M (μ' := μ1) d3 (fun q z1 z2 => p2 q (by omega) (by omega) (by omega) (by omega))
  have e58 : μ1 58 0 = nI n := by rw [p2 58 (by decide) (by decide) (by decide) (by decide)]; exact hI.1.2.2
  obtain ⟨μ2, q1, q2⟩ := lt_M (q := q) (show b < 6 by omega) ok hq (fun x4_45 μ45 ν45 => some ((x4_45, (fm_u μ45 61 b ((μ1 61 b))), ν45))) 41 0 5000 (F b 1) μ1 ν (by omega) (by omega) (bM_of d3')
  have e61 : μ1 61 b = μ 61 b := by rw [p2 61 (by decide) (by decide) (by decide) (by decide)]
  refine op_mk (r := lT (F b 0) (F b 2) (F b 4) (F b 1) q 41 0) (μ1 := μ1) (ν1 := ν) (μ2 := fm_u μ2 61 b (μ 61 b)) (ν2 := ν) ?_ ?_ (fT_inv h (Or.inl rfl) (fun x y1 y2 y3 y4 _ => p2 x y1 y2 y3 y4) q2)
  · rw [m_X5_leastTwist, ba_in hn hb hI.1.2.1, ev_b, ev_os, if_neg h1, if_pos (le_i hq (by omega))]
    exact p1
  · show m_X6_leastTwist (nI b) (nI q) μ1 ν = _
    rw [m_X6_leastTwist, bd_inM hn hb e58, ev_b, if_neg (by decide), if_neg h1, if_pos (le_i hq (by omega)), ev_in (by rw [ev_n61]; omega) (by omega), ev_g, ev_cl (by omega)]
    rw [d3'.2.1] at q1 ⊢
    rw [q1, ← e61, d3'.2.1]
/-! MOST -/
noncomputable def mS (k a s t : Nat) : Nat → Nat → Int32 → Int32 → Int32
  | 0, _, v, _ => v
  | d + 1, i, v, w => if aH k i a s t ≤ w then mS k a s t d (i + 1) v w else mS k a s t d (i + 1) (nI i) (aH k i a s t)
theorem ms_X {b k a s t : Nat} (hb : b < 6) (ok : ∀ i, 1 ≤ i → i ≤ 12 → okP k i a s t) (K : Int32 → fm_I → fm_L → Option (Int32 × fm_I × fm_L)) : ∀ (d i fuel : Nat) (v w : Int32) (μ : fm_I) (ν : fm_L), i + d = 13 → 1 ≤ i → d < fuel → μ (34 + b) 2 = nI k → μ (34 + b) 3 = nI t → μ (34 + b) 5 = nI s → μ (34 + b) 6 = nI a → ∃ μ', m_X5_most_24 (34 + b) K fuel v w (nI i) μ ν = K (mS k a s t d i v w) μ' ν ∧ ∀ x, x ≠ 5 → x ≠ 9 → x ≠ 10 → x ≠ 11 → x ≠ 12 → μ' x = μ x := by
  intro d
  induction d with
  | zero =>
    intro i fuel v w μ ν hi h1 hf' e2 e3 e5 e6
    obtain ⟨f, rfl⟩ : ∃ j, fuel = j + 1 := ⟨fuel - 1, by omega⟩
    refine ⟨μ, ?_, fun _ _ _ _ _ _ => rfl⟩
    rw [m_X5_most_24, if_pos ((nI_ltI (by omega) (by omega)).mpr (by omega))]
    rfl
  | succ d ih =>
    intro i fuel v w μ ν hi h1 hf' e2 e3 e5 e6
    obtain ⟨f, rfl⟩ : ∃ j, fuel = j + 1 := ⟨fuel - 1, by omega⟩
    have ok1 := ok i h1 (by omega)
    obtain ⟨μ1, p1, p2, p3⟩ := layX ok1 hb ν e2 e5 e6
    obtain ⟨μ2, q1, q2⟩ := all_X ok1 ν p3
    have fr : ∀ x, x ≠ 5 → x ≠ 9 → x ≠ 10 → x ≠ 11 → x ≠ 12 → μ2 x = μ x := fun x y1 y2 y3 y4 y5 => by rw [q2 x y5, p2 x y1 y2 y3 y4]
    have f0 : μ2 (34 + b) = μ (34 + b) := fr _ (by omega) (by omega) (by omega) (by omega) (by omega)
    by_cases c : aH k i a s t ≤ w
    · obtain ⟨μ', r1, r2⟩ := ih (i + 1) f v w μ2 ν (by omega) (by omega) (by omega) (by rw [f0]; exact e2) (by rw [f0]; exact e3) (by rw [f0]; exact e5) (by rw [f0]; exact e6)
      refine ⟨μ', ?_, fun x y1 y2 y3 y4 y5 => by rw [r2 x y1 y2 y3 y4 y5, fr x y1 y2 y3 y4 y5]⟩
      rw [m_X5_most_24, if_neg (fun z => by have := (nI_ltI (by omega) (by omega)).mp z; omega), ev_k34 hb, ev_g, e3, p1, ev_b, q1, ev_b, mS, if_pos c, if_pos c, nI_add]
      exact r1
    · obtain ⟨μ', r1, r2⟩ := ih (i + 1) f (nI i) (aH k i a s t) μ2 ν (by omega) (by omega) (by omega) (by rw [f0]; exact e2) (by rw [f0]; exact e3) (by rw [f0]; exact e5) (by rw [f0]; exact e6)
      refine ⟨μ', ?_, fun x y1 y2 y3 y4 y5 => by rw [r2 x y1 y2 y3 y4 y5, fr x y1 y2 y3 y4 y5]⟩
      rw [m_X5_most_24, if_neg (fun z => by have := (nI_ltI (by omega) (by omega)).mp z; omega), ev_k34 hb, ev_g, e3, p1, ev_b, q1, ev_b, mS, if_neg c, if_neg c, nI_add]
      exact r1
theorem ms_M {b k a s t : Nat} (hb : b < 6) (ok : ∀ i, 1 ≤ i → i ≤ 12 → okP k i a s t) (v2 : Int32) (K : Int32 → fm_I → fm_L → Option (Int32 × fm_I × fm_L)) : ∀ (d i fuel n' : Nat) (v w : Int32) (μ : fm_I) (ν : fm_L), i + d = 13 → 1 ≤ i → d < fuel → bM k n' a s t b μ → ∃ μ', m_X6_most_29 (nI b) v2 K fuel v w (nI i) μ ν = K (mS k a s t d i v w) μ' ν ∧ fT 62 b μ μ' := by
  intro d
  induction d with
  | zero =>
    intro i fuel n' v w μ ν hi h1 hf' h
    obtain ⟨f, rfl⟩ : ∃ j, fuel = j + 1 := ⟨fuel - 1, by omega⟩
    refine ⟨μ, ?_, fT_r _ _ _⟩
    rw [m_X6_most_29, if_pos ((nI_ltI (by omega) (by omega)).mpr (by omega))]
    rfl
  | succ d ih =>
    intro i fuel n' v w μ ν hi h1 hf' h
    obtain ⟨f, rfl⟩ : ∃ j, fuel = j + 1 := ⟨fuel - 1, by omega⟩
    have ok1 := ok i h1 (by omega)
    have g1 := bM_n (n' := i) h
    obtain ⟨μ1, p1, p2, p3, p4⟩ := cutsM' ν ok1 hb g1
    have F1 := fT_s (q := 62) (Or.inr rfl) p2 p3
    have g2 := kp_bM g1 (μ' := μ1) (fun x a1 a2 => p2 x (by omega) (by omega) (by omega))
    have A : m_X6_allOf (nI b) (fm_u μ 62 b (nI i)) ν = some (aH k i a s t, μ1, ν) := by
      rw [m_X6_allOf, p1, ev_b]
      exact all_M ok1 hb ν g2 p4 _
    by_cases c : aH k i a s t ≤ w
    · obtain ⟨μ', r1, r2⟩ := ih (i + 1) f i v w μ1 ν (by omega) (by omega) (by omega) g2
      refine ⟨μ', ?_, fT_t F1 r2⟩
      rw [m_X6_most_29, if_neg (fun z => by have := (nI_ltI (by omega) (by omega)).mp z; omega), ev_in (by rw [ev_n62]; omega) (by omega), ev_g, ev_cl (by omega), A, ev_b, mS, if_pos c]
      show (if w < aH k i a s t then _ else m_X6_most_29 (nI b) v2 K f v w (nI i + nI 1) μ1 ν) = _
      rw [if_neg (by rw [i_nlt c]; exact not_false), nI_add]
      exact r1
    · obtain ⟨μ', r1, r2⟩ := ih (i + 1) f i (nI i) (aH k i a s t) μ1 ν (by omega) (by omega) (by omega) g2
      refine ⟨μ', ?_, fT_t F1 r2⟩
      rw [m_X6_most_29, if_neg (fun z => by have := (nI_ltI (by omega) (by omega)).mp z; omega), ev_in (by rw [ev_n62]; omega) (by omega), ev_g, ev_cl (by omega), A, ev_b, mS, if_neg c]
      show (if w < aH k i a s t then m_X6_most_29 (nI b) v2 K f (nI i) (aH k i a s t) (nI i + nI 1) μ1 ν else _) = _
      rw [if_pos (by
        rw [Int32.le_iff_toInt_le] at c
        rw [Int32.lt_iff_toInt_lt]
        omega), nI_add]
      exact r1
theorem op_most {μ : fm_I} {ν : fm_L} (h : Inv μ ν) (a0 : Int32) : pa_op (m_X5_most a0 μ ν) (fun μ ν => m_X6_most a0 μ ν) := by
  obtain ⟨n, F, hI⟩ := id h
  have hn := hI.1.1
  rcases bd_cases a0 hn with h0 | ⟨b, hb, rfl⟩
  · refine op_rf h 1 (by decide) (r := -1) ?_ ?_
    · simp -implicitDefEqProofs (disch := omega) only [m_X5_most, ba_out h0 hI.1.2.1, ev_b, ev_b2, ev_g, ev_gF, ev_on, ev_os, ev_cl, ev_in, ev_in6, ev_eq0, ev_lt0, ev_0le, ev_le0, ev_0lt, ev_lt, ev_le, ev_eq, ev_m1a, ev_m1b, ev_m1c, ev_m1d, ev_m1e, ev_n1, ev_n4, ev_n8, ev_n9, ev_n10, ev_n11, ev_n12, ev_n13, ev_n14, ev_n15, ev_n16, ev_n17, ev_n59, ev_n60, ev_n61, ev_n62, ev_n63, ev_n64, ev_n65, ev_n66, ev_n67, ev_n68, ev_n69, ev_n70, ev_n71, ev_n72, ev_n73, ev_n74, ev_n75, ev_n76, ev_n77, ev_n78, ev_n79, ev_n80, ev_k18, ev_k34, ev_k40, ev_n26, ev_n26b, ev_n46, ev_n46b, ev_n52b, ev_uq, ev_us, ev_uj, ev_lq, ev_ls, ev_lj, ev_urq, ev_urs, ev_ulq, ev_uls, nI_add, pk_sub, pk_mul, if_true, if_false, ite_true, ite_false, decide_true, decide_false, eq_self_iff_true, Nat.reduceEqDiff, Nat.reduceLeDiff, Nat.reduceLT, Nat.reduceAdd, Nat.reduceMul, Nat.reduceSub, Nat.reduceDiv, Nat.reduceMod, ↓reduceIte, rX1]
    · show m_X6_most a0 _ ν = _
      simp -implicitDefEqProofs (disch := omega) only [m_X6_most, bo2 h0 hI.1.2.2, ev_b, ev_b2, ev_g, ev_gF, ev_on, ev_os, ev_cl, ev_in, ev_in6, ev_eq0, ev_lt0, ev_0le, ev_le0, ev_0lt, ev_lt, ev_le, ev_eq, ev_m1a, ev_m1b, ev_m1c, ev_m1d, ev_m1e, ev_n1, ev_n4, ev_n8, ev_n9, ev_n10, ev_n11, ev_n12, ev_n13, ev_n14, ev_n15, ev_n16, ev_n17, ev_n59, ev_n60, ev_n61, ev_n62, ev_n63, ev_n64, ev_n65, ev_n66, ev_n67, ev_n68, ev_n69, ev_n70, ev_n71, ev_n72, ev_n73, ev_n74, ev_n75, ev_n76, ev_n77, ev_n78, ev_n79, ev_n80, ev_k18, ev_k34, ev_k40, ev_n26, ev_n26b, ev_n46, ev_n46b, ev_n52b, ev_uq, ev_us, ev_uj, ev_lq, ev_ls, ev_lj, ev_urq, ev_urs, ev_ulq, ev_uls, nI_add, pk_sub, pk_mul, if_true, if_false, ite_true, ite_false, decide_true, decide_false, eq_self_iff_true, Nat.reduceEqDiff, Nat.reduceLeDiff, Nat.reduceLT, Nat.reduceAdd, Nat.reduceMul, Nat.reduceSub, Nat.reduceDiv, Nat.reduceMod, ↓reduceIte, rM1]
  obtain ⟨d1, d2, d3⟩ := hI.2.1 b hb
  obtain ⟨c0, c1, c2, c3, c4, c5, c6⟩ := id d1
  have ok : ∀ i, 1 ≤ i → i ≤ 12 → okP (F b 0) i (F b 4) (F b 3) (F b 1) := fun i h1 hi => ⟨c0, h1, hi, c5, c4, by omega⟩
  obtain ⟨μ1, p1, p2⟩ := ms_X (show b < 6 by omega) ok (fun x3_24 μ24 ν24 => some ((x3_24, μ24, ν24))) 12 1 5000 (nI 1) (nI 0) μ ν (by omega) (by omega) (by omega) d2.1 d2.2.1 d2.2.2.2.1 d2.2.2.2.2.1
  have d3' := kp_M (μ' := μ1) d3 (fun q z1 z2 => p2 q (by omega) (by omega) (by omega) (by omega) (by omega))
  have e58 : μ1 58 0 = nI n := by rw [p2 58 (by decide) (by decide) (by decide) (by decide) (by decide)]; exact hI.1.2.2
  obtain ⟨μ2, q1, q2⟩ := ms_M (show b < 6 by omega) ok (μ1 62 b) (fun x3_29 μ29 ν29 => some ((x3_29, (fm_u μ29 62 b ((μ1 62 b))), ν29))) 12 1 5000 (F b 2) (nI 1) (nI 0) μ1 ν (by omega) (by omega) (by omega) (bM_of d3')
  have e62 : μ1 62 b = μ 62 b := by rw [p2 62 (by decide) (by decide) (by decide) (by decide) (by decide)]
  refine op_mk (r := mS (F b 0) (F b 4) (F b 3) (F b 1) 12 1 (nI 1) (nI 0)) (μ1 := μ1) (ν1 := ν) (μ2 := fm_u μ2 62 b (μ 62 b)) (ν2 := ν) ?_ ?_ (fT_inv h (Or.inr rfl) p2 q2)
  · rw [m_X5_most, ba_in hn hb hI.1.2.1, ev_b, ev_os]
    exact p1
  · show m_X6_most (nI b) μ1 ν = _
    rw [m_X6_most, bd_inM hn hb e58, ev_b, if_neg (by decide), ev_in (by rw [ev_n62]; omega) (by omega), ev_g, ev_cl (by omega), q1, e62]
