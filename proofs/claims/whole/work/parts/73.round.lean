/-! THE CLASS FOLLOWS A ROUND -/
theorem orbB_s (g : Nat → Nat) (d y x : Nat) : orbB g (d + 1) y x = (Nat.beq y x || orbB g d (g y) x) := by
  unfold orbB
  rw [List.range_succ_eq_map, List.any_cons, List.any_map]
  rfl
theorem nxt_s (g : Nat → Nat) (d y p : Nat) (R : Nat → Nat) : nxt g (d + 1) y p R = nxt g d (g y) p (f1 R y p) := by
  funext x
  unfold nxt f1
  rw [orbB_s]
  by_cases c : x = y
  · subst c
    rw [Nat.beq_refl, Bool.true_or, if_pos rfl, if_pos rfl]
    split <;> rfl
  · have e : Nat.beq y x = false := by
      cases h : Nat.beq y x
      · rfl
      · exact absurd (Nat.eq_of_beq_eq_true h).symm c
    rw [e, Bool.false_or, if_neg c]
theorem sh1 : ∀ x, x < 12 → nI 1 <<< (nI x &&& 31) = nI (2 ^ x) := by decide
theorem or_N (a b : Nat) : nI a ||| nI b = nI (a ||| b) := by
  apply Int32.toBitVec_inj.mp
  show BitVec.ofNat 32 a ||| BitVec.ofNat 32 b = BitVec.ofNat 32 (a ||| b)
  exact (BitVec.ofNat_or ..).symm
def mO (g : Nat → Nat) : Nat → Nat → Nat → Nat
  | 0, _, m => m
  | d + 1, y, m => mO g d (g y) (m ||| 2 ^ y)
theorem mO_bit (g : Nat → Nat) : ∀ (d y m x : Nat), (mO g d y m).testBit x = (m.testBit x || orbB g d y x) := by
  intro d
  induction d with
  | zero =>
    intro y m x
    rw [mO, show orbB g 0 y x = false from rfl, Bool.or_false]
  | succ d ih =>
    intro y m x
    rw [mO, ih, orbB_s, Nat.testBit_or, Nat.testBit_two_pow, Bool.or_assoc]
    congr 2
    by_cases c : y = x
    · subst c
      rw [Nat.beq_refl]
      exact decide_eq_true rfl
    · rw [decide_eq_false c]
      cases h : Nat.beq y x
      · rfl
      · exact absurd (Nat.eq_of_beq_eq_true h) c
theorem round_X {g : Nat → Nat} {n p : Nat} (hn : n ≤ 12) (hg : ∀ x, x < n → g x < n) (hp : p < 99) (K : Int32 → fm_I → fm_L → Option (fm_I × fm_L)) : ∀ (d i fuel : Nat) (R : Nat → Nat) (y m : Nat) (μ : fm_I) (ν : fm_L), i + d = n → d < fuel → y < n → μ 5 0 = nI p → μ 5 1 = nI n → (∀ x, x < n → μ 9 x = nI (g x)) → (∀ x, x < n → μ 10 x = lab (R x)) → ∃ μ', m_X1_followRound_7 K fuel (nI m) (nI y) (nI i) μ ν = K (nI (mO g d y m)) μ' ν ∧ (∀ q, q ≠ 10 → μ' q = μ q) ∧ ∀ x, x < n → μ' 10 x = lab (nxt g d y p R x) := by
  intro d
  induction d with
  | zero =>
    intro i fuel R y m μ ν hi hf hy h0 h1 h9 h10
    obtain ⟨f, rfl⟩ : ∃ j, fuel = j + 1 := ⟨fuel - 1, by omega⟩
    refine ⟨μ, ?_, fun _ _ => rfl, fun x hx => ?_⟩
    · rw [m_X1_followRound_7, h1, if_pos (by simp -implicitDefEqProofs (disch := omega) only [ev_b, ev_b2, ev_g, ev_gF, ev_on, ev_os, ev_cl, ev_in, ev_in6, ev_eq0, ev_lt0, ev_0le, ev_le0, ev_0lt, ev_lt, ev_le, ev_eq, ev_m1a, ev_m1b, ev_m1c, ev_m1d, ev_m1e, ev_n1, ev_n4, ev_n8, ev_n9, ev_n10, ev_n11, ev_n12, ev_n13, ev_n14, ev_n15, ev_n16, ev_n17, ev_n59, ev_n60, ev_n61, ev_n62, ev_n63, ev_n64, ev_n65, ev_n66, ev_n67, ev_n68, ev_n69, ev_n70, ev_n71, ev_n72, ev_n73, ev_n74, ev_n75, ev_n76, ev_n77, ev_n78, ev_n79, ev_n80, ev_k18, ev_k34, ev_k40, ev_n26, ev_n26b, ev_n46, ev_n46b, ev_n52b, ev_uq, ev_us, ev_uj, ev_lq, ev_ls, ev_lj, ev_urq, ev_urs, ev_ulq, ev_uls, nI_add, pk_sub, pk_mul, if_true, if_false, ite_true, ite_false, decide_true, decide_false, eq_self_iff_true, Nat.reduceEqDiff, Nat.reduceLeDiff, Nat.reduceLT, Nat.reduceAdd, Nat.reduceMul, Nat.reduceSub, Nat.reduceDiv, Nat.reduceMod, ↓reduceIte]; omega)]
      rfl
    · rw [h10 x hx]
      unfold nxt
      rw [show orbB g 0 y x = false from rfl]
      rfl
  | succ d ih =>
    intro i fuel R y m μ ν hi hf hy h0 h1 h9 h10
    obtain ⟨f, rfl⟩ : ∃ j, fuel = j + 1 := ⟨fuel - 1, by omega⟩
    obtain ⟨μ', q1, q2, q3⟩ := ih (i + 1) f (f1 R y p) (g y) (m ||| 2 ^ y) (fm_u μ 10 y (nI p)) ν (by omega) (by omega) (hg y hy) (by rw [ev_uq (by decide)]; exact h0) (by rw [ev_uq (by decide)]; exact h1) (fun x hx => by rw [ev_uq (by decide)]; exact h9 x hx) (fun x hx => by
      rw [ev_u]
      unfold f1
      by_cases z : x = y
      · rw [if_pos ⟨rfl, z⟩, if_pos z, lab_n (by omega)]
      · rw [if_neg (fun w => z w.2), if_neg z, h10 x hx])
    refine ⟨μ', ?_, fun q hq => by rw [q2 q hq, ev_uq hq], fun x hx => by rw [q3 x hx, nxt_s]⟩
    rw [m_X1_followRound_7, h1, if_neg (by simp -implicitDefEqProofs (disch := omega) only [ev_b, ev_b2, ev_g, ev_gF, ev_on, ev_os, ev_cl, ev_in, ev_in6, ev_eq0, ev_lt0, ev_0le, ev_le0, ev_0lt, ev_lt, ev_le, ev_eq, ev_m1a, ev_m1b, ev_m1c, ev_m1d, ev_m1e, ev_n1, ev_n4, ev_n8, ev_n9, ev_n10, ev_n11, ev_n12, ev_n13, ev_n14, ev_n15, ev_n16, ev_n17, ev_n59, ev_n60, ev_n61, ev_n62, ev_n63, ev_n64, ev_n65, ev_n66, ev_n67, ev_n68, ev_n69, ev_n70, ev_n71, ev_n72, ev_n73, ev_n74, ev_n75, ev_n76, ev_n77, ev_n78, ev_n79, ev_n80, ev_k18, ev_k34, ev_k40, ev_n26, ev_n26b, ev_n46, ev_n46b, ev_n52b, ev_uq, ev_us, ev_uj, ev_lq, ev_ls, ev_lj, ev_urq, ev_urs, ev_ulq, ev_uls, nI_add, pk_sub, pk_mul, if_true, if_false, ite_true, ite_false, decide_true, decide_false, eq_self_iff_true, Nat.reduceEqDiff, Nat.reduceLeDiff, Nat.reduceLT, Nat.reduceAdd, Nat.reduceMul, Nat.reduceSub, Nat.reduceDiv, Nat.reduceMod, ↓reduceIte]; omega), if_neg (nI_pos (by omega)), if_neg (by simp -implicitDefEqProofs (disch := omega) only [ev_b, ev_b2, ev_g, ev_gF, ev_on, ev_os, ev_cl, ev_in, ev_in6, ev_eq0, ev_lt0, ev_0le, ev_le0, ev_0lt, ev_lt, ev_le, ev_eq, ev_m1a, ev_m1b, ev_m1c, ev_m1d, ev_m1e, ev_n1, ev_n4, ev_n8, ev_n9, ev_n10, ev_n11, ev_n12, ev_n13, ev_n14, ev_n15, ev_n16, ev_n17, ev_n59, ev_n60, ev_n61, ev_n62, ev_n63, ev_n64, ev_n65, ev_n66, ev_n67, ev_n68, ev_n69, ev_n70, ev_n71, ev_n72, ev_n73, ev_n74, ev_n75, ev_n76, ev_n77, ev_n78, ev_n79, ev_n80, ev_k18, ev_k34, ev_k40, ev_n26, ev_n26b, ev_n46, ev_n46b, ev_n52b, ev_uq, ev_us, ev_uj, ev_lq, ev_ls, ev_lj, ev_urq, ev_urs, ev_ulq, ev_uls, nI_add, pk_sub, pk_mul, if_true, if_false, ite_true, ite_false, decide_true, decide_false, eq_self_iff_true, Nat.reduceEqDiff, Nat.reduceLeDiff, Nat.reduceLT, Nat.reduceAdd, Nat.reduceMul, Nat.reduceSub, Nat.reduceDiv, Nat.reduceMod, ↓reduceIte]; omega), ev_in (by rw [ev_n10]; omega) (by omega), ev_g, ev_in (by rw [ev_n9]; omega) (by omega), ev_g, ev_cl (by omega), sh1 y (by omega), or_N, h0, ev_uq (by decide), h9 y hy, nI_add]
    exact q1
