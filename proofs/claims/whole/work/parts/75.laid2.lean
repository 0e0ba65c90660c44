theorem lay_39 {b k n a t : Nat} (hb : b < 6) (hk : k ≤ 6) (hn : n ≤ 12) (ha : a ≤ 9) (ht : t < 2147483648) (K : fm_I → fm_L → Option (fm_I × fm_L)) : ∀ (d i fuel : Nat) (μ : fm_I) (ν : fm_L), i + d = n → d < fuel → μ 5 1 = nI n → μ 5 2 = nI t → μ (34 + b) 2 = nI k → μ (34 + b) 6 = nI a → (∀ x, x < i → μ 9 x = nI (fo k n a (t % 2) x) ∧ μ 10 x = -1) → ∃ μ', m_X1_lay_39 (34 + b) K fuel (nI i) μ ν = K μ' ν ∧ (∀ q, q ≠ 9 → q ≠ 10 → μ' q = μ q) ∧ ∀ x, x < n → μ' 9 x = nI (fo k n a (t % 2) x) ∧ μ' 10 x = -1 := by
  intro d
  induction d with
  | zero =>
    intro i fuel μ ν hi hf h1 h2 e2 e6 h
    obtain ⟨f, rfl⟩ : ∃ j, fuel = j + 1 := ⟨fuel - 1, by omega⟩
    refine ⟨μ, ?_, fun _ _ _ => rfl, fun x hx => h x (by omega)⟩
    rw [m_X1_lay_39, h1, if_pos (by simp -implicitDefEqProofs (disch := omega) only [ev_b, ev_b2, ev_g, ev_gF, ev_on, ev_os, ev_cl, ev_in, ev_in6, ev_eq0, ev_lt0, ev_0le, ev_le0, ev_0lt, ev_lt, ev_le, ev_eq, ev_m1a, ev_m1b, ev_m1c, ev_m1d, ev_m1e, ev_n1, ev_n4, ev_n8, ev_n9, ev_n10, ev_n11, ev_n12, ev_n13, ev_n14, ev_n15, ev_n16, ev_n17, ev_n59, ev_n60, ev_n61, ev_n62, ev_n63, ev_n64, ev_n65, ev_n66, ev_n67, ev_n68, ev_n69, ev_n70, ev_n71, ev_n72, ev_n73, ev_n74, ev_n75, ev_n76, ev_n77, ev_n78, ev_n79, ev_n80, ev_k18, ev_k34, ev_k40, ev_n26, ev_n26b, ev_n46, ev_n46b, ev_n52b, ev_uq, ev_us, ev_uj, ev_lq, ev_ls, ev_lj, ev_urq, ev_urs, ev_ulq, ev_uls, nI_add, pk_sub, pk_mul, if_true, if_false, ite_true, ite_false, decide_true, decide_false, eq_self_iff_true, Nat.reduceEqDiff, Nat.reduceLeDiff, Nat.reduceLT, Nat.reduceAdd, Nat.reduceMul, Nat.reduceSub, Nat.reduceDiv, Nat.reduceMod, ↓reduceIte]; omega)]
  | succ d ih =>
    intro i fuel μ ν hi hf h1 h2 e2 e6 h
    obtain ⟨f, rfl⟩ : ∃ j, fuel = j + 1 := ⟨fuel - 1, by omega⟩
    obtain ⟨μ', q1, q2, q3⟩ := ih (i + 1) f (fm_u (fm_u μ 9 i (nI (fo k n a (t % 2) i))) 10 i (-1)) ν (by omega) (by omega) (by rw [ev_uq (by omega), ev_uq (by omega)]; exact h1) (by rw [ev_uq (by omega), ev_uq (by omega)]; exact h2) (by rw [ev_uq (by omega), ev_uq (by omega)]; exact e2) (by rw [ev_uq (by omega), ev_uq (by omega)]; exact e6) (fun x hx => by
      by_cases z : x = i
      · rw [z]
        exact ⟨by rw [ev_uq (by decide), ev_us], by rw [ev_us]⟩
      · obtain ⟨s1, s2⟩ := h x (by omega)
        exact ⟨by rw [ev_uq (by decide), ev_uj z]; exact s1, by rw [ev_uj z, ev_uq (by decide)]; exact s2⟩)
    refine ⟨μ', ?_, fun q a1 a2 => by rw [q2 q a1 a2, ev_uq a2, ev_uq a1], q3⟩
    rw [m_X1_lay_39, h1, if_neg (by simp -implicitDefEqProofs (disch := omega) only [ev_b, ev_b2, ev_g, ev_gF, ev_on, ev_os, ev_cl, ev_in, ev_in6, ev_eq0, ev_lt0, ev_0le, ev_le0, ev_0lt, ev_lt, ev_le, ev_eq, ev_m1a, ev_m1b, ev_m1c, ev_m1d, ev_m1e, ev_n1, ev_n4, ev_n8, ev_n9, ev_n10, ev_n11, ev_n12, ev_n13, ev_n14, ev_n15, ev_n16, ev_n17, ev_n59, ev_n60, ev_n61, ev_n62, ev_n63, ev_n64, ev_n65, ev_n66, ev_n67, ev_n68, ev_n69, ev_n70, ev_n71, ev_n72, ev_n73, ev_n74, ev_n75, ev_n76, ev_n77, ev_n78, ev_n79, ev_n80, ev_k18, ev_k34, ev_k40, ev_n26, ev_n26b, ev_n46, ev_n46b, ev_n52b, ev_uq, ev_us, ev_uj, ev_lq, ev_ls, ev_lj, ev_urq, ev_urs, ev_ulq, ev_uls, nI_add, pk_sub, pk_mul, if_true, if_false, ite_true, ite_false, decide_true, decide_false, eq_self_iff_true, Nat.reduceEqDiff, Nat.reduceLeDiff, Nat.reduceLT, Nat.reduceAdd, Nat.reduceMul, Nat.reduceSub, Nat.reduceDiv, Nat.reduceMod, ↓reduceIte]; omega), h2, fol_X hb hk hn (by omega) ha ht ν e2 e6, ev_b, ev_in (by rw [ev_n9]; omega) (by omega), ev_g, ev_in (by rw [ev_n10]; omega) (by omega), ev_g, ev_cl (by omega), nI_add]
    exact q1
/-- the class's cutting of a band, with a number of strips and of twists -/
theorem lay_X {b k n a t s : Nat} (hb : b < 6) (hk : k ≤ 6) (hn : n ≤ 12) (h1n : 1 ≤ n) (ha : a ≤ 9) (hs : s ≤ 1) (ht : t < 2147483648) {μ : fm_I} (ν : fm_L) (e2 : μ (34 + b) 2 = nI k) (e5 : μ (34 + b) 5 = nI s) (e6 : μ (34 + b) 6 = nI a) : ∃ μ', m_X1_lay (34 + b) (nI n) (nI t) μ ν = some (μ', ν) ∧ (∀ q, q ≠ 5 → q ≠ 9 → q ≠ 10 → q ≠ 11 → μ' q = μ q) ∧ μ' 5 1 = nI n ∧ μ' 5 2 = nI t ∧ μ' 5 3 = (if s = 1 then nI 1 else -1) ∧ (∀ x, x < n → μ' 9 x = nI (fo k n a (t % 2) x)) ∧ (∀ x, x < n → μ' 10 x = nI (pR k n a (t % 2) x)) ∧ μ' 5 0 = nI (pC k n a (t % 2)) ∧ ∀ q, q < pC k n a (t % 2) → ∃ m, μ' 11 q = nI m ∧ isMask (pR k n a (t % 2)) n q m := by
  have gen : ∀ w : Int32, ∃ μ', m_X1_lay_39 (34 + b) (fun μ39 ν39 => m_X1_lay_91 (fun μ91 ν91 => some ((μ91, ν91))) 5000 ((nI 0)) (fm_u μ39 5 0 ((nI 0))) ν39) 5000 ((nI 0)) (fm_u (fm_u (fm_u μ 5 1 (nI n)) 5 2 (nI t)) 5 3 w) ν = some (μ', ν) ∧ (∀ q, q ≠ 5 → q ≠ 9 → q ≠ 10 → q ≠ 11 → μ' q = μ q) ∧ μ' 5 1 = nI n ∧ μ' 5 2 = nI t ∧ μ' 5 3 = w ∧ (∀ x, x < n → μ' 9 x = nI (fo k n a (t % 2) x)) ∧ (∀ x, x < n → μ' 10 x = nI (pR k n a (t % 2) x)) ∧ μ' 5 0 = nI (pC k n a (t % 2)) ∧ ∀ q, q < pC k n a (t % 2) → ∃ m, μ' 11 q = nI m ∧ isMask (pR k n a (t % 2)) n q m := fun w => by
    obtain ⟨μ1, p1, p2, p3⟩ := lay_39 (b := b) (k := k) (a := a) (t := t) hb hk hn ha ht (fun μ39 ν39 => m_X1_lay_91 (fun μ91 ν91 => some ((μ91, ν91))) 5000 ((nI 0)) (fm_u μ39 5 0 ((nI 0))) ν39) n 0 5000 (fm_u (fm_u (fm_u μ 5 1 (nI n)) 5 2 (nI t)) 5 3 w) ν (by omega) (by omega) (by rw [ev_uj (by decide), ev_uj (by decide), ev_us]) (by rw [ev_uj (by decide), ev_us]) (by rw [ev_uq (by omega), ev_uq (by omega), ev_uq (by omega)]; exact e2) (by rw [ev_uq (by omega), ev_uq (by omega), ev_uq (by omega)]; exact e6) (fun x hx => absurd hx (Nat.not_lt_zero x))
    obtain ⟨μ2, q1, q2, q3, q4, q5, q6⟩ := lay_91 (g := fo k n a (t % 2)) hn (fun x hx => fo_lt hx) (fun x hx => per hk hn ha (by omega) hx) (fun μ91 ν91 => some ((μ91, ν91))) n 0 5000 (fun _ => 99) 0 (fm_u μ1 5 0 (nI 0)) ν (by omega) (by omega) (Nat.le_refl 0) ⟨fun _ _ => rfl, fun _ _ => Or.inl rfl⟩ (by rw [ev_us]) (by rw [ev_uj (by decide), p2 5 (by decide) (by decide), ev_uj (by decide), ev_uj (by decide), ev_us]) (fun x hx => by rw [ev_uq (by decide)]; exact (p3 x hx).1) (fun x hx => by rw [ev_uq (by decide)]; exact (p3 x hx).2) (fun q hq => absurd hq (Nat.not_lt_zero q))
    obtain ⟨z1, z2⟩ := pR_lt hk hn ha (by omega : t % 2 < 2)
    refine ⟨μ2, by rw [p1, q1], fun q a1 a2 a3 a4 => by rw [q2 q a1 a3 a4, ev_uq a1, p2 q a2 a3, ev_uq a1, ev_uq a1, ev_uq a1], ?_, ?_, ?_, fun x hx => ?_, fun x hx => ?_, q5, q6⟩
    · rw [q3 1 (by decide), ev_uj (by decide), p2 5 (by decide) (by decide), ev_uj (by decide), ev_uj (by decide), ev_us]
    · rw [q3 2 (by decide), ev_uj (by decide), p2 5 (by decide) (by decide), ev_uj (by decide), ev_us]
    · rw [q3 3 (by decide), ev_uj (by decide), p2 5 (by decide) (by decide), ev_us]
    · rw [q2 9 (by decide) (by decide) (by decide), ev_uq (by decide)]; exact (p3 x hx).1
    · rw [q4 x hx]
      exact lab_n (by have := z1 x hx; unfold pR pL at this; omega)
  have c1 : (12 < n) = False := eq_false (by omega)
  have c2 : (0 < n) = True := eq_true (by omega)
  rcases (by omega : s = 0 ∨ s = 1) with rfl | rfl
  · obtain ⟨μ', h⟩ := gen (-1)
    refine ⟨μ', ?_, h.2.1, h.2.2.1, h.2.2.2.1, ?_, h.2.2.2.2.2⟩
    · rw [← h.1, m_X1_lay]
      simp -implicitDefEqProofs (disch := omega) only [e5, c1, c2, ev_b, ev_b2, ev_g, ev_gF, ev_on, ev_os, ev_cl, ev_in, ev_in6, ev_eq0, ev_lt0, ev_0le, ev_le0, ev_0lt, ev_lt, ev_le, ev_eq, ev_m1a, ev_m1b, ev_m1c, ev_m1d, ev_m1e, ev_n1, ev_n4, ev_n8, ev_n9, ev_n10, ev_n11, ev_n12, ev_n13, ev_n14, ev_n15, ev_n16, ev_n17, ev_n59, ev_n60, ev_n61, ev_n62, ev_n63, ev_n64, ev_n65, ev_n66, ev_n67, ev_n68, ev_n69, ev_n70, ev_n71, ev_n72, ev_n73, ev_n74, ev_n75, ev_n76, ev_n77, ev_n78, ev_n79, ev_n80, ev_k18, ev_k34, ev_k40, ev_n26, ev_n26b, ev_n46, ev_n46b, ev_n52b, ev_uq, ev_us, ev_uj, ev_lq, ev_ls, ev_lj, ev_urq, ev_urs, ev_ulq, ev_uls, nI_add, pk_sub, pk_mul, if_true, if_false, ite_true, ite_false, decide_true, decide_false, eq_self_iff_true, Nat.reduceEqDiff, Nat.reduceLeDiff, Nat.reduceLT, Nat.reduceAdd, Nat.reduceMul, Nat.reduceSub, Nat.reduceDiv, Nat.reduceMod, ↓reduceIte]
    · rw [if_neg (by decide)]; exact h.2.2.2.2.1
  · obtain ⟨μ', h⟩ := gen (nI 1)
    refine ⟨μ', ?_, h.2.1, h.2.2.1, h.2.2.2.1, ?_, h.2.2.2.2.2⟩
    · rw [← h.1, m_X1_lay]
      simp -implicitDefEqProofs (disch := omega) only [e5, c1, c2, ev_b, ev_b2, ev_g, ev_gF, ev_on, ev_os, ev_cl, ev_in, ev_in6, ev_eq0, ev_lt0, ev_0le, ev_le0, ev_0lt, ev_lt, ev_le, ev_eq, ev_m1a, ev_m1b, ev_m1c, ev_m1d, ev_m1e, ev_n1, ev_n4, ev_n8, ev_n9, ev_n10, ev_n11, ev_n12, ev_n13, ev_n14, ev_n15, ev_n16, ev_n17, ev_n59, ev_n60, ev_n61, ev_n62, ev_n63, ev_n64, ev_n65, ev_n66, ev_n67, ev_n68, ev_n69, ev_n70, ev_n71, ev_n72, ev_n73, ev_n74, ev_n75, ev_n76, ev_n77, ev_n78, ev_n79, ev_n80, ev_k18, ev_k34, ev_k40, ev_n26, ev_n26b, ev_n46, ev_n46b, ev_n52b, ev_uq, ev_us, ev_uj, ev_lq, ev_ls, ev_lj, ev_urq, ev_urs, ev_ulq, ev_uls, nI_add, pk_sub, pk_mul, if_true, if_false, ite_true, ite_false, decide_true, decide_false, eq_self_iff_true, Nat.reduceEqDiff, Nat.reduceLeDiff, Nat.reduceLT, Nat.reduceAdd, Nat.reduceMul, Nat.reduceSub, Nat.reduceDiv, Nat.reduceMod, ↓reduceIte]
    · rw [if_pos rfl]; exact h.2.2.2.2.1
