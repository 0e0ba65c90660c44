theorem cn_le (R : Nat → Nat) (q : Nat) : ∀ n, cn R q n ≤ n := by
  intro n
  induction n with
  | zero => exact Nat.le_refl 0
  | succ n ih => rw [cn]; split <;> omega
theorem cn_0 {R : Nat → Nat} {q : Nat} : ∀ n, (∀ x, x < n → R x ≠ q) → cn R q n = 0 := by
  intro n
  induction n with
  | zero => intro _; rfl
  | succ n ih => intro h; rw [cn, ih (fun x hx => h x (by omega)), if_neg (h n (by omega))]
theorem nxt_o {g : Nat → Nat} {n v c q : Nat} {R : Nat → Nat} (J : Jv g n c R) (hg : ∀ x, x < n → g x < n) (hv : v < n) (rv : R v = 99) (hq : q ≠ c) (hq2 : q ≠ 99) : cn (nxt g n v c R) q n = cn R q n := by
  refine cn_eq n (fun x hx => ?_)
  unfold nxt
  by_cases o : orb g n v x
  · rw [if_pos ((orbB_iff g n v x).mpr o)]
    obtain ⟨j, _, rfl⟩ := o
    rw [Jv_it J hg j v hv, rv]
    exact ⟨fun z => absurd z.symm hq, fun z => absurd z.symm hq2⟩
  · rw [if_neg (fun z => o ((orbB_iff g n v x).mp z))]
theorem cuts_7 {b n : Nat} (hb : b < 6) (hn : n ≤ 12) (K : fm_I → fm_L → Option (fm_I × fm_L)) : ∀ (d i fuel : Nat) (μ : fm_I) (ν : fm_L), i + d = n → d < fuel → μ 62 b = nI n → ∃ μ', m_X6_cuts_7 (nI b) K fuel (nI i) μ ν = K μ' ν ∧ (∀ q, q ≠ 76 → μ' q = μ q) ∧ (∀ x, x < i → μ' 76 x = μ 76 x) ∧ ∀ x, i ≤ x → x < n → μ' 76 x = -1 := by
  intro d
  induction d with
  | zero =>
    intro i fuel μ ν hi hf h
    obtain ⟨k, rfl⟩ : ∃ k, fuel = k + 1 := ⟨fuel - 1, by omega⟩
    refine ⟨μ, ?_, fun _ _ => rfl, fun _ _ => rfl, fun x x1 x2 => absurd x1 (by omega)⟩
    rw [m_X6_cuts_7, ev_in (by rw [ev_n62]; omega) (by omega), ev_g, ev_cl (by omega), h, if_pos (by simp -implicitDefEqProofs (disch := omega) only [ev_b, ev_b2, ev_g, ev_gF, ev_on, ev_os, ev_cl, ev_in, ev_in6, ev_eq0, ev_lt0, ev_0le, ev_le0, ev_0lt, ev_lt, ev_le, ev_eq, ev_m1a, ev_m1b, ev_m1c, ev_m1d, ev_m1e, ev_n1, ev_n4, ev_n8, ev_n9, ev_n10, ev_n11, ev_n12, ev_n13, ev_n14, ev_n15, ev_n16, ev_n17, ev_n59, ev_n60, ev_n61, ev_n62, ev_n63, ev_n64, ev_n65, ev_n66, ev_n67, ev_n68, ev_n69, ev_n70, ev_n71, ev_n72, ev_n73, ev_n74, ev_n75, ev_n76, ev_n77, ev_n78, ev_n79, ev_n80, ev_k18, ev_k34, ev_k40, ev_n26, ev_n26b, ev_n46, ev_n46b, ev_n52b, ev_uq, ev_us, ev_uj, ev_lq, ev_ls, ev_lj, ev_urq, ev_urs, ev_ulq, ev_uls, nI_add, pk_sub, pk_mul, if_true, if_false, ite_true, ite_false, decide_true, decide_false, eq_self_iff_true, Nat.reduceEqDiff, Nat.reduceLeDiff, Nat.reduceLT, Nat.reduceAdd, Nat.reduceMul, Nat.reduceSub, Nat.reduceDiv, Nat.reduceMod, ↓reduceIte]; omega)]
  | succ d ih =>
    intro i fuel μ ν hi hf h
    obtain ⟨k, rfl⟩ : ∃ k, fuel = k + 1 := ⟨fuel - 1, by omega⟩
    obtain ⟨μ', e1, e2, e3, e4⟩ := ih (i + 1) k (fm_u μ 76 i (-1)) ν (by omega) (by omega) (by rw [ev_uq (by decide)]; exact h)
    refine ⟨μ', ?_, fun q hq => by rw [e2 q hq, ev_uq hq], fun x hx => by rw [e3 x (by omega), ev_uj (by omega)], fun x x1 x2 => ?_⟩
    · rw [m_X6_cuts_7, ev_in (by rw [ev_n62]; omega) (by omega), ev_g, ev_cl (by omega), h, if_neg (by simp -implicitDefEqProofs (disch := omega) only [ev_b, ev_b2, ev_g, ev_gF, ev_on, ev_os, ev_cl, ev_in, ev_in6, ev_eq0, ev_lt0, ev_0le, ev_le0, ev_0lt, ev_lt, ev_le, ev_eq, ev_m1a, ev_m1b, ev_m1c, ev_m1d, ev_m1e, ev_n1, ev_n4, ev_n8, ev_n9, ev_n10, ev_n11, ev_n12, ev_n13, ev_n14, ev_n15, ev_n16, ev_n17, ev_n59, ev_n60, ev_n61, ev_n62, ev_n63, ev_n64, ev_n65, ev_n66, ev_n67, ev_n68, ev_n69, ev_n70, ev_n71, ev_n72, ev_n73, ev_n74, ev_n75, ev_n76, ev_n77, ev_n78, ev_n79, ev_n80, ev_k18, ev_k34, ev_k40, ev_n26, ev_n26b, ev_n46, ev_n46b, ev_n52b, ev_uq, ev_us, ev_uj, ev_lq, ev_ls, ev_lj, ev_urq, ev_urs, ev_ulq, ev_uls, nI_add, pk_sub, pk_mul, if_true, if_false, ite_true, ite_false, decide_true, decide_false, eq_self_iff_true, Nat.reduceEqDiff, Nat.reduceLeDiff, Nat.reduceLT, Nat.reduceAdd, Nat.reduceMul, Nat.reduceSub, Nat.reduceDiv, Nat.reduceMod, ↓reduceIte]; omega), ev_in (by rw [ev_n76]; omega) (by omega), ev_g, ev_cl (by omega), nI_add]
      exact e1
    · by_cases z : x = i
      · rw [z, e3 i (by omega), ev_us]
      · exact e4 x (by omega) x2
theorem cuts_32 {b k n a t : Nat} (hb : b < 6) (hk : k ≤ 6) (hn : n ≤ 12) (ha : a ≤ 9) (ht : t < 2147483648) (K : fm_I → fm_L → Option (fm_I × fm_L)) : ∀ (d v fuel : Nat) (R : Nat → Nat) (c : Nat) (μ : fm_I) (ν : fm_L), v + d = n → d < fuel → c ≤ v → Jv (fo k n a (t % 2)) n c R → (∀ x, x < n → μ 76 x = lab (R x)) → (∀ q, q < c → μ 77 q = nI (cn R q n)) → μ 58 28 = nI c → μ 60 b = nI k → μ 61 b = nI t → μ 62 b = nI n → μ 64 b = nI a → ∃ μ', m_X6_cuts_32 (nI b) K fuel (nI v) μ ν = K μ' ν ∧ (∀ q, q ≠ 76 → q ≠ 77 → q ≠ 58 → μ' q = μ q) ∧ (∀ j, j ≠ 28 → μ' 58 j = μ 58 j) ∧ (∀ x, x < n → μ' 76 x = lab ((lay (fo k n a (t % 2)) n d v R c).1 x)) ∧ μ' 58 28 = nI (lay (fo k n a (t % 2)) n d v R c).2 ∧ ∀ q, q < (lay (fo k n a (t % 2)) n d v R c).2 → μ' 77 q = nI (cn (lay (fo k n a (t % 2)) n d v R c).1 q n) := by
  have hg : ∀ x, x < n → fo k n a (t % 2) x < n := fun x hx => fo_lt hx
  have hper : ∀ x, x < n → ∃ d, 1 ≤ d ∧ d ≤ n ∧ it (fo k n a (t % 2)) d x = x := fun x hx => per hk hn ha (by omega) hx
  intro d
  induction d with
  | zero =>
    intro v fuel R c μ ν hv hf hc J h76 h77 h58 e0 e1 e2 e4
    obtain ⟨f, rfl⟩ : ∃ j, fuel = j + 1 := ⟨fuel - 1, by omega⟩
    refine ⟨μ, ?_, fun _ _ _ _ => rfl, fun _ _ => rfl, h76, h58, h77⟩
    rw [m_X6_cuts_32, ev_in (by rw [ev_n62]; omega) (by omega), ev_g, ev_cl (by omega), e2, if_pos (by simp -implicitDefEqProofs (disch := omega) only [ev_b, ev_b2, ev_g, ev_gF, ev_on, ev_os, ev_cl, ev_in, ev_in6, ev_eq0, ev_lt0, ev_0le, ev_le0, ev_0lt, ev_lt, ev_le, ev_eq, ev_m1a, ev_m1b, ev_m1c, ev_m1d, ev_m1e, ev_n1, ev_n4, ev_n8, ev_n9, ev_n10, ev_n11, ev_n12, ev_n13, ev_n14, ev_n15, ev_n16, ev_n17, ev_n59, ev_n60, ev_n61, ev_n62, ev_n63, ev_n64, ev_n65, ev_n66, ev_n67, ev_n68, ev_n69, ev_n70, ev_n71, ev_n72, ev_n73, ev_n74, ev_n75, ev_n76, ev_n77, ev_n78, ev_n79, ev_n80, ev_k18, ev_k34, ev_k40, ev_n26, ev_n26b, ev_n46, ev_n46b, ev_n52b, ev_uq, ev_us, ev_uj, ev_lq, ev_ls, ev_lj, ev_urq, ev_urs, ev_ulq, ev_uls, nI_add, pk_sub, pk_mul, if_true, if_false, ite_true, ite_false, decide_true, decide_false, eq_self_iff_true, Nat.reduceEqDiff, Nat.reduceLeDiff, Nat.reduceLT, Nat.reduceAdd, Nat.reduceMul, Nat.reduceSub, Nat.reduceDiv, Nat.reduceMod, ↓reduceIte]; omega)]
  | succ d ih =>
    intro v fuel R c μ ν hv hf hc J h76 h77 h58 e0 e1 e2 e4
    obtain ⟨f, rfl⟩ : ∃ j, fuel = j + 1 := ⟨fuel - 1, by omega⟩
    have R100 : ∀ x, x < n → R x < 100 := fun x hx => by rcases J.2 x hx with z | z <;> omega
    by_cases rv : R v = 99
    · obtain ⟨e, R', μ1, g1, g2, g3, g4, g5, g6, g7, g8⟩ := mark_M hb hk hn ha ht (p := c) (by omega) (nI v) (fun x3_60 μ60 ν60 => fm_g (fm_in ((μ60 58 28)) (fm_n 77)) (m_X6_cuts_32 (nI b) K f (nI (v + 1)) (fm_u (fm_u μ60 77 ((μ60 58 28)).toNatClampNeg x3_60) 58 28 ((((((fm_u μ60 77 ((μ60 58 28)).toNatClampNeg x3_60)) 58 28)) + ((nI 1))))) ν60)) n 5000 R v 0 μ ν (cn_le R 99 n) (by omega) (by omega) (by omega) R100 h76 h58 e0 e1 e2 e4
      have hR := mark_fin hg hper (by omega) (by omega) J rv g5 g6 g7
      have m58 : μ1 58 28 = nI c := by rw [g2 58 (by decide)]; exact h58
      have cz : cn R c n = 0 := cn_0 n (fun x hx z => by rcases J.2 x hx with w | w <;> omega)
      have ce : e = cn (nxt (fo k n a (t % 2)) n v c R) c n := by
        rw [← cn_eq (R := R') n (fun x hx => by rw [hR x hx]), g8, cz, Nat.zero_add]
      obtain ⟨μ', q1, q2, q3, q4, q5, q6⟩ := ih (v + 1) f (nxt (fo k n a (t % 2)) n v c R) (c + 1) (fm_u (fm_u μ1 77 c (nI e)) 58 28 (nI (c + 1))) ν (by omega) (by omega) (by omega) (Jv_n J hper (by omega)) (fun x hx => by rw [ev_uq (by decide), ev_uq (by decide), g3 x hx, hR x hx]) (fun q hq => by
        rw [ev_uq (by decide), ev_u]
        by_cases z : q = c
        · rw [if_pos ⟨rfl, z⟩, z, ce]
        · rw [if_neg (fun w => z w.2), g2 77 (by decide), h77 q (by omega), nxt_o J hg (by omega) rv z (by omega)]) (by rw [ev_us]) (by rw [ev_uq (by decide), ev_uq (by decide), g2 60 (by decide)]; exact e0) (by rw [ev_uq (by decide), ev_uq (by decide), g2 61 (by decide)]; exact e1) (by rw [ev_uq (by decide), ev_uq (by decide), g2 62 (by decide)]; exact e2) (by rw [ev_uq (by decide), ev_uq (by decide), g2 64 (by decide)]; exact e4)
      have L : lay (fo k n a (t % 2)) n (d + 1) v R c = lay (fo k n a (t % 2)) n d (v + 1) (nxt (fo k n a (t % 2)) n v c R) (c + 1) := by rw [lay, if_pos rv]
      rw [L]
      refine ⟨μ', ?_, fun q a1 a2 a3 => by rw [q2 q a1 a2 a3, ev_uq a3, ev_uq a2, g2 q a1], fun j hj => by rw [q3 j hj, ev_uj hj, ev_uq (by decide), g2 58 (by decide)], q4, q5, q6⟩
      rw [m_X6_cuts_32, ev_in (by rw [ev_n62]; omega) (by omega), ev_g, ev_cl (by omega), e2, if_neg (by simp -implicitDefEqProofs (disch := omega) only [ev_b, ev_b2, ev_g, ev_gF, ev_on, ev_os, ev_cl, ev_in, ev_in6, ev_eq0, ev_lt0, ev_0le, ev_le0, ev_0lt, ev_lt, ev_le, ev_eq, ev_m1a, ev_m1b, ev_m1c, ev_m1d, ev_m1e, ev_n1, ev_n4, ev_n8, ev_n9, ev_n10, ev_n11, ev_n12, ev_n13, ev_n14, ev_n15, ev_n16, ev_n17, ev_n59, ev_n60, ev_n61, ev_n62, ev_n63, ev_n64, ev_n65, ev_n66, ev_n67, ev_n68, ev_n69, ev_n70, ev_n71, ev_n72, ev_n73, ev_n74, ev_n75, ev_n76, ev_n77, ev_n78, ev_n79, ev_n80, ev_k18, ev_k34, ev_k40, ev_n26, ev_n26b, ev_n46, ev_n46b, ev_n52b, ev_uq, ev_us, ev_uj, ev_lq, ev_ls, ev_lj, ev_urq, ev_urs, ev_ulq, ev_uls, nI_add, pk_sub, pk_mul, if_true, if_false, ite_true, ite_false, decide_true, decide_false, eq_self_iff_true, Nat.reduceEqDiff, Nat.reduceLeDiff, Nat.reduceLT, Nat.reduceAdd, Nat.reduceMul, Nat.reduceSub, Nat.reduceDiv, Nat.reduceMod, ↓reduceIte]; omega), ev_in (by rw [ev_n76]; omega) (by omega), ev_g, ev_cl (by omega), h76 v (by omega), rv, if_pos lab_99, nI_add, g1, m58, ev_in (by rw [ev_n77]; omega) (by omega), ev_g, ev_cl (by omega), ev_uq (by decide), m58, nI_add, Nat.zero_add]
      exact q1
    · obtain ⟨μ', q1, q2, q3, q4, q5, q6⟩ := ih (v + 1) f R c μ ν (by omega) (by omega) (by omega) J h76 h77 h58 e0 e1 e2 e4
      have L : lay (fo k n a (t % 2)) n (d + 1) v R c = lay (fo k n a (t % 2)) n d (v + 1) R c := by rw [lay, if_neg rv]
      rw [L]
      refine ⟨μ', ?_, q2, q3, q4, q5, q6⟩
      rw [m_X6_cuts_32, ev_in (by rw [ev_n62]; omega) (by omega), ev_g, ev_cl (by omega), e2, if_neg (by simp -implicitDefEqProofs (disch := omega) only [ev_b, ev_b2, ev_g, ev_gF, ev_on, ev_os, ev_cl, ev_in, ev_in6, ev_eq0, ev_lt0, ev_0le, ev_le0, ev_0lt, ev_lt, ev_le, ev_eq, ev_m1a, ev_m1b, ev_m1c, ev_m1d, ev_m1e, ev_n1, ev_n4, ev_n8, ev_n9, ev_n10, ev_n11, ev_n12, ev_n13, ev_n14, ev_n15, ev_n16, ev_n17, ev_n59, ev_n60, ev_n61, ev_n62, ev_n63, ev_n64, ev_n65, ev_n66, ev_n67, ev_n68, ev_n69, ev_n70, ev_n71, ev_n72, ev_n73, ev_n74, ev_n75, ev_n76, ev_n77, ev_n78, ev_n79, ev_n80, ev_k18, ev_k34, ev_k40, ev_n26, ev_n26b, ev_n46, ev_n46b, ev_n52b, ev_uq, ev_us, ev_uj, ev_lq, ev_ls, ev_lj, ev_urq, ev_urs, ev_ulq, ev_uls, nI_add, pk_sub, pk_mul, if_true, if_false, ite_true, ite_false, decide_true, decide_false, eq_self_iff_true, Nat.reduceEqDiff, Nat.reduceLeDiff, Nat.reduceLT, Nat.reduceAdd, Nat.reduceMul, Nat.reduceSub, Nat.reduceDiv, Nat.reduceMod, ↓reduceIte]; omega), ev_in (by rw [ev_n76]; omega) (by omega), ev_g, ev_cl (by omega), h76 v (by omega), if_neg (by rw [lab_m (by have := R100 v (by omega); omega)]; exact rv), nI_add]
      exact q1
