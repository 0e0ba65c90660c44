theorem fr_X {g : Nat → Nat} {n p v : Nat} {R : Nat → Nat} (hn : n ≤ 12) (hg : ∀ x, x < n → g x < n) (hp : p < 12) (hv : v < n) {μ : fm_I} (ν : fm_L) (h0 : μ 5 0 = nI p) (h1 : μ 5 1 = nI n) (h9 : ∀ x, x < n → μ 9 x = nI (g x)) (h10 : ∀ x, x < n → μ 10 x = lab (R x)) : ∃ μ', m_X1_followRound (nI v) μ ν = some (μ', ν) ∧ (∀ q, q ≠ 10 → q ≠ 11 → μ' q = μ q) ∧ (∀ x, x < n → μ' 10 x = lab (nxt g n v p R x)) ∧ μ' 11 p = nI (mO g n v 0) ∧ ∀ q, q ≠ p → μ' 11 q = μ 11 q := by
  obtain ⟨μ1, q1, q2, q3⟩ := round_X (g := g) (p := p) hn hg (by omega) (fun x2_7 μ7 ν7 => fm_g (fm_in ((μ7 5 0)) (fm_n 11)) (some (((fm_u μ7 11 ((μ7 5 0)).toNatClampNeg x2_7), ν7)))) n 0 5000 R v 0 μ ν (by omega) (by omega) hv h0 h1 h9 h10
  refine ⟨fm_u μ1 11 p (nI (mO g n v 0)), ?_, fun q a1 a2 => by rw [ev_uq a2, q2 q a1], fun x hx => by rw [ev_uq (by decide), q3 x hx], by rw [ev_us], fun q hq => by rw [ev_uj hq, q2 11 (by decide)]⟩
  rw [m_X1_followRound, q1, q2 5 (by decide), h0, ev_in (by rw [ev_n11]; omega) (by omega), ev_g, ev_cl (by omega)]
/-- the strips of a piece, in one number -/
def isMask (R : Nat → Nat) (n q m : Nat) : Prop := ∀ x, m.testBit x = decide (x < n ∧ R x = q)
theorem mask_new {g : Nat → Nat} {n v c : Nat} {R : Nat → Nat} (hg : ∀ x, x < n → g x < n) (J : Jv g n c R) (hv : v < n) (hc : c < 99) : isMask (nxt g n v c R) n c (mO g n v 0) := by
  intro x
  rw [mO_bit, Nat.zero_testBit, Bool.false_or]
  cases h : orbB g n v x
  · symm
    refine decide_eq_false (fun z => ?_)
    obtain ⟨z1, z2⟩ := z
    unfold nxt at z2
    rw [if_neg (by rw [h]; decide)] at z2
    rcases J.2 x z1 with w | w <;> omega
  · symm
    refine decide_eq_true ⟨?_, ?_⟩
    · obtain ⟨j, _, rfl⟩ := (orbB_iff g n v x).mp h
      exact it_lt hg j v hv
    · unfold nxt
      rw [if_pos h]
theorem mask_old {g : Nat → Nat} {n v c q m : Nat} {R : Nat → Nat} (hg : ∀ x, x < n → g x < n) (J : Jv g n c R) (hv : v < n) (rv : R v = 99) (hq : q < c) (hc : c < 99) (h : isMask R n q m) : isMask (nxt g n v c R) n q m := by
  intro x
  rw [h x]
  congr 1
  refine propext ⟨fun z => ⟨z.1, ?_⟩, fun z => ⟨z.1, ?_⟩⟩
  · unfold nxt
    by_cases o : orbB g n v x = true
    · obtain ⟨j, _, e⟩ := (orbB_iff g n v x).mp o
      have := z.2
      rw [← e, Jv_it J hg j v hv, rv] at this
      omega
    · rw [if_neg o]; exact z.2
  · have w := z.2
    unfold nxt at w
    by_cases o : orbB g n v x = true
    · rw [if_pos o] at w; omega
    · rw [if_neg o] at w; exact w
theorem lay_91 {g : Nat → Nat} {n : Nat} (hn : n ≤ 12) (hg : ∀ x, x < n → g x < n) (hper : ∀ x, x < n → ∃ d, 1 ≤ d ∧ d ≤ n ∧ it g d x = x) (K : fm_I → fm_L → Option (fm_I × fm_L)) : ∀ (d v fuel : Nat) (R : Nat → Nat) (c : Nat) (μ : fm_I) (ν : fm_L), v + d = n → d < fuel → c ≤ v → Jv g n c R → μ 5 0 = nI c → μ 5 1 = nI n → (∀ x, x < n → μ 9 x = nI (g x)) → (∀ x, x < n → μ 10 x = lab (R x)) → (∀ q, q < c → ∃ m, μ 11 q = nI m ∧ isMask R n q m) → ∃ μ', m_X1_lay_91 K fuel (nI v) μ ν = K μ' ν ∧ (∀ q, q ≠ 5 → q ≠ 10 → q ≠ 11 → μ' q = μ q) ∧ (∀ j, j ≠ 0 → μ' 5 j = μ 5 j) ∧ (∀ x, x < n → μ' 10 x = lab ((lay g n d v R c).1 x)) ∧ μ' 5 0 = nI (lay g n d v R c).2 ∧ ∀ q, q < (lay g n d v R c).2 → ∃ m, μ' 11 q = nI m ∧ isMask (lay g n d v R c).1 n q m := by
  intro d
  induction d with
  | zero =>
    intro v fuel R c μ ν hv hf hc J h0 h1 h9 h10 h11
    obtain ⟨f, rfl⟩ : ∃ j, fuel = j + 1 := ⟨fuel - 1, by omega⟩
    refine ⟨μ, ?_, fun _ _ _ _ => rfl, fun _ _ => rfl, h10, h0, h11⟩
    rw [m_X1_lay_91, h1, if_pos (by simp -implicitDefEqProofs (disch := omega) only [ev_b, ev_b2, ev_g, ev_gF, ev_on, ev_os, ev_cl, ev_in, ev_in6, ev_eq0, ev_lt0, ev_0le, ev_le0, ev_0lt, ev_lt, ev_le, ev_eq, ev_m1a, ev_m1b, ev_m1c, ev_m1d, ev_m1e, ev_n1, ev_n4, ev_n8, ev_n9, ev_n10, ev_n11, ev_n12, ev_n13, ev_n14, ev_n15, ev_n16, ev_n17, ev_n59, ev_n60, ev_n61, ev_n62, ev_n63, ev_n64, ev_n65, ev_n66, ev_n67, ev_n68, ev_n69, ev_n70, ev_n71, ev_n72, ev_n73, ev_n74, ev_n75, ev_n76, ev_n77, ev_n78, ev_n79, ev_n80, ev_k18, ev_k34, ev_k40, ev_n26, ev_n26b, ev_n46, ev_n46b, ev_n52b, ev_uq, ev_us, ev_uj, ev_lq, ev_ls, ev_lj, ev_urq, ev_urs, ev_ulq, ev_uls, nI_add, pk_sub, pk_mul, if_true, if_false, ite_true, ite_false, decide_true, decide_false, eq_self_iff_true, Nat.reduceEqDiff, Nat.reduceLeDiff, Nat.reduceLT, Nat.reduceAdd, Nat.reduceMul, Nat.reduceSub, Nat.reduceDiv, Nat.reduceMod, ↓reduceIte]; omega)]
  | succ d ih =>
    intro v fuel R c μ ν hv hf hc J h0 h1 h9 h10 h11
    obtain ⟨f, rfl⟩ : ∃ j, fuel = j + 1 := ⟨fuel - 1, by omega⟩
    have R100 : ∀ x, x < n → R x < 100 := fun x hx => by rcases J.2 x hx with z | z <;> omega
    by_cases rv : R v = 99
    · obtain ⟨μ1, g1, g2, g3, g4, g5⟩ := fr_X (p := c) (v := v) hn hg (by omega) (by omega) ν h0 h1 h9 h10
      have m50 : μ1 5 0 = nI c := by rw [g2 5 (by decide) (by decide)]; exact h0
      obtain ⟨μ', q1, q2, q3, q4, q5, q6⟩ := ih (v + 1) f (nxt g n v c R) (c + 1) (fm_u μ1 5 0 (nI (c + 1))) ν (by omega) (by omega) (by omega) (Jv_n J hper (by omega)) (by rw [ev_us]) (by rw [ev_uj (by decide), g2 5 (by decide) (by decide)]; exact h1) (fun x hx => by rw [ev_uq (by decide), g2 9 (by decide) (by decide)]; exact h9 x hx) (fun x hx => by rw [ev_uq (by decide), g3 x hx]) (fun q hq => by
        by_cases z : q = c
        · subst z
          exact ⟨_, by rw [ev_uq (by decide)]; exact g4, mask_new hg J (by omega) (by omega)⟩
        · obtain ⟨m, m1, m2⟩ := h11 q (by omega)
          exact ⟨m, by rw [ev_uq (by decide), g5 q z]; exact m1, mask_old hg J (by omega) rv (by omega) (by omega) m2⟩)
      have L : lay g n (d + 1) v R c = lay g n d (v + 1) (nxt g n v c R) (c + 1) := by rw [lay, if_pos rv]
      rw [L]
      refine ⟨μ', ?_, fun q a1 a2 a3 => by rw [q2 q a1 a2 a3, ev_uq a1, g2 q a2 a3], fun j hj => by rw [q3 j hj, ev_uj hj, g2 5 (by decide) (by decide)], q4, q5, q6⟩
      rw [m_X1_lay_91, h1, if_neg (by simp -implicitDefEqProofs (disch := omega) only [ev_b, ev_b2, ev_g, ev_gF, ev_on, ev_os, ev_cl, ev_in, ev_in6, ev_eq0, ev_lt0, ev_0le, ev_le0, ev_0lt, ev_lt, ev_le, ev_eq, ev_m1a, ev_m1b, ev_m1c, ev_m1d, ev_m1e, ev_n1, ev_n4, ev_n8, ev_n9, ev_n10, ev_n11, ev_n12, ev_n13, ev_n14, ev_n15, ev_n16, ev_n17, ev_n59, ev_n60, ev_n61, ev_n62, ev_n63, ev_n64, ev_n65, ev_n66, ev_n67, ev_n68, ev_n69, ev_n70, ev_n71, ev_n72, ev_n73, ev_n74, ev_n75, ev_n76, ev_n77, ev_n78, ev_n79, ev_n80, ev_k18, ev_k34, ev_k40, ev_n26, ev_n26b, ev_n46, ev_n46b, ev_n52b, ev_uq, ev_us, ev_uj, ev_lq, ev_ls, ev_lj, ev_urq, ev_urs, ev_ulq, ev_uls, nI_add, pk_sub, pk_mul, if_true, if_false, ite_true, ite_false, decide_true, decide_false, eq_self_iff_true, Nat.reduceEqDiff, Nat.reduceLeDiff, Nat.reduceLT, Nat.reduceAdd, Nat.reduceMul, Nat.reduceSub, Nat.reduceDiv, Nat.reduceMod, ↓reduceIte]; omega), if_neg (by rw [h0]; simp -implicitDefEqProofs (disch := omega) only [ev_b, ev_b2, ev_g, ev_gF, ev_on, ev_os, ev_cl, ev_in, ev_in6, ev_eq0, ev_lt0, ev_0le, ev_le0, ev_0lt, ev_lt, ev_le, ev_eq, ev_m1a, ev_m1b, ev_m1c, ev_m1d, ev_m1e, ev_n1, ev_n4, ev_n8, ev_n9, ev_n10, ev_n11, ev_n12, ev_n13, ev_n14, ev_n15, ev_n16, ev_n17, ev_n59, ev_n60, ev_n61, ev_n62, ev_n63, ev_n64, ev_n65, ev_n66, ev_n67, ev_n68, ev_n69, ev_n70, ev_n71, ev_n72, ev_n73, ev_n74, ev_n75, ev_n76, ev_n77, ev_n78, ev_n79, ev_n80, ev_k18, ev_k34, ev_k40, ev_n26, ev_n26b, ev_n46, ev_n46b, ev_n52b, ev_uq, ev_us, ev_uj, ev_lq, ev_ls, ev_lj, ev_urq, ev_urs, ev_ulq, ev_uls, nI_add, pk_sub, pk_mul, if_true, if_false, ite_true, ite_false, decide_true, decide_false, eq_self_iff_true, Nat.reduceEqDiff, Nat.reduceLeDiff, Nat.reduceLT, Nat.reduceAdd, Nat.reduceMul, Nat.reduceSub, Nat.reduceDiv, Nat.reduceMod, ↓reduceIte]; omega), ev_in (by rw [ev_n10]; omega) (by omega), ev_g, ev_cl (by omega), h10 v (by omega), rv, if_pos lab_99, g1, ev_b, nI_add]
      show m_X1_lay_91 K f (nI (v + 1)) (fm_u μ1 5 0 (μ1 5 0 + nI 1)) ν = K μ' ν
      rw [m50, nI_add]
      exact q1
    · obtain ⟨μ', q1, q2, q3, q4, q5, q6⟩ := ih (v + 1) f R c μ ν (by omega) (by omega) (by omega) J h0 h1 h9 h10 h11
      have L : lay g n (d + 1) v R c = lay g n d (v + 1) R c := by rw [lay, if_neg rv]
      rw [L]
      refine ⟨μ', ?_, q2, q3, q4, q5, q6⟩
      rw [m_X1_lay_91, h1, if_neg (by simp -implicitDefEqProofs (disch := omega) only [ev_b, ev_b2, ev_g, ev_gF, ev_on, ev_os, ev_cl, ev_in, ev_in6, ev_eq0, ev_lt0, ev_0le, ev_le0, ev_0lt, ev_lt, ev_le, ev_eq, ev_m1a, ev_m1b, ev_m1c, ev_m1d, ev_m1e, ev_n1, ev_n4, ev_n8, ev_n9, ev_n10, ev_n11, ev_n12, ev_n13, ev_n14, ev_n15, ev_n16, ev_n17, ev_n59, ev_n60, ev_n61, ev_n62, ev_n63, ev_n64, ev_n65, ev_n66, ev_n67, ev_n68, ev_n69, ev_n70, ev_n71, ev_n72, ev_n73, ev_n74, ev_n75, ev_n76, ev_n77, ev_n78, ev_n79, ev_n80, ev_k18, ev_k34, ev_k40, ev_n26, ev_n26b, ev_n46, ev_n46b, ev_n52b, ev_uq, ev_us, ev_uj, ev_lq, ev_ls, ev_lj, ev_urq, ev_urs, ev_ulq, ev_uls, nI_add, pk_sub, pk_mul, if_true, if_false, ite_true, ite_false, decide_true, decide_false, eq_self_iff_true, Nat.reduceEqDiff, Nat.reduceLeDiff, Nat.reduceLT, Nat.reduceAdd, Nat.reduceMul, Nat.reduceSub, Nat.reduceDiv, Nat.reduceMod, ↓reduceIte]; omega), if_neg (by rw [h0]; simp -implicitDefEqProofs (disch := omega) only [ev_b, ev_b2, ev_g, ev_gF, ev_on, ev_os, ev_cl, ev_in, ev_in6, ev_eq0, ev_lt0, ev_0le, ev_le0, ev_0lt, ev_lt, ev_le, ev_eq, ev_m1a, ev_m1b, ev_m1c, ev_m1d, ev_m1e, ev_n1, ev_n4, ev_n8, ev_n9, ev_n10, ev_n11, ev_n12, ev_n13, ev_n14, ev_n15, ev_n16, ev_n17, ev_n59, ev_n60, ev_n61, ev_n62, ev_n63, ev_n64, ev_n65, ev_n66, ev_n67, ev_n68, ev_n69, ev_n70, ev_n71, ev_n72, ev_n73, ev_n74, ev_n75, ev_n76, ev_n77, ev_n78, ev_n79, ev_n80, ev_k18, ev_k34, ev_k40, ev_n26, ev_n26b, ev_n46, ev_n46b, ev_n52b, ev_uq, ev_us, ev_uj, ev_lq, ev_ls, ev_lj, ev_urq, ev_urs, ev_ulq, ev_uls, nI_add, pk_sub, pk_mul, if_true, if_false, ite_true, ite_false, decide_true, decide_false, eq_self_iff_true, Nat.reduceEqDiff, Nat.reduceLeDiff, Nat.reduceLT, Nat.reduceAdd, Nat.reduceMul, Nat.reduceSub, Nat.reduceDiv, Nat.reduceMod, ↓reduceIte]; omega), ev_in (by rw [ev_n10]; omega) (by omega), ev_g, ev_cl (by omega), h10 v (by omega), if_neg (by rw [lab_m (by have := R100 v (by omega); omega)]; exact rv), nI_add]
      exact q1
