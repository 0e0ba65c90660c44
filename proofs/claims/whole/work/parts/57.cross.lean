/-! CROSS -/
def jn (c : Nat → Nat) (a b : Nat) : Nat → Nat := fun i => if c i = c a then c b else c i
def r79 (c : Nat → Nat) (μ : fm_I) : Prop := (∀ i, i < 4 → μ 79 i = nI (c i)) ∧ ∀ i, i < 4 → c i < 4
theorem jn_lt {c : Nat → Nat} {a b : Nat} (h : ∀ i, i < 4 → c i < 4) (ha : a < 4) (hb : b < 4) : ∀ i, i < 4 → jn c a b i < 4 := fun i hi => by
  unfold jn
  split
  · exact h b hb
  · exact h i hi
theorem joins_l (x y : Nat) (hx : x < 4) (c : Nat → Nat) (hc : ∀ i, i < 4 → c i < 4) (K : fm_I → fm_L → Option (fm_I × fm_L)) : ∀ (d i fuel : Nat) (μ : fm_I) (ν : fm_L), i + d = 4 → d < fuel → (∀ j, i ≤ j → j < 4 → μ 79 j = nI (c j)) → ∃ μ', m_X6_joins_18 (nI x) (nI y) K fuel (nI i) μ ν = K μ' ν ∧ (∀ q, q ≠ 79 → μ' q = μ q) ∧ (∀ j, j < i → μ' 79 j = μ 79 j) ∧ ∀ j, i ≤ j → j < 4 → μ' 79 j = nI (if c j = x then y else c j) := by
  intro d
  induction d with
  | zero =>
    intro i fuel μ ν hi hf h
    obtain ⟨k, rfl⟩ : ∃ k, fuel = k + 1 := ⟨fuel - 1, by omega⟩
    refine ⟨μ, ?_, fun _ _ => rfl, fun _ _ => rfl, fun j j1 j2 => absurd j1 (by omega)⟩
    rw [m_X6_joins_18, if_pos (by simp -implicitDefEqProofs (disch := omega) only [ev_b, ev_b2, ev_g, ev_gF, ev_on, ev_os, ev_cl, ev_in, ev_in6, ev_eq0, ev_lt0, ev_0le, ev_le0, ev_0lt, ev_lt, ev_le, ev_eq, ev_m1a, ev_m1b, ev_m1c, ev_m1d, ev_m1e, ev_n1, ev_n4, ev_n8, ev_n9, ev_n10, ev_n11, ev_n12, ev_n13, ev_n14, ev_n15, ev_n16, ev_n17, ev_n59, ev_n60, ev_n61, ev_n62, ev_n63, ev_n64, ev_n65, ev_n66, ev_n67, ev_n68, ev_n69, ev_n70, ev_n71, ev_n72, ev_n73, ev_n74, ev_n75, ev_n76, ev_n77, ev_n78, ev_n79, ev_n80, ev_k18, ev_k34, ev_k40, ev_n26, ev_n26b, ev_n46, ev_n46b, ev_n52b, ev_uq, ev_us, ev_uj, ev_lq, ev_ls, ev_lj, ev_urq, ev_urs, ev_ulq, ev_uls, nI_add, pk_sub, pk_mul, if_true, if_false, ite_true, ite_false, decide_true, decide_false, eq_self_iff_true, Nat.reduceEqDiff, Nat.reduceLeDiff, Nat.reduceLT, Nat.reduceAdd, Nat.reduceMul, Nat.reduceSub, Nat.reduceDiv, Nat.reduceMod, ↓reduceIte]; omega)]
  | succ d ih =>
    intro i fuel μ ν hi hf h
    obtain ⟨k, rfl⟩ : ∃ k, fuel = k + 1 := ⟨fuel - 1, by omega⟩
    have ci := hc i (by omega)
    rw [m_X6_joins_18, if_neg (by simp -implicitDefEqProofs (disch := omega) only [ev_b, ev_b2, ev_g, ev_gF, ev_on, ev_os, ev_cl, ev_in, ev_in6, ev_eq0, ev_lt0, ev_0le, ev_le0, ev_0lt, ev_lt, ev_le, ev_eq, ev_m1a, ev_m1b, ev_m1c, ev_m1d, ev_m1e, ev_n1, ev_n4, ev_n8, ev_n9, ev_n10, ev_n11, ev_n12, ev_n13, ev_n14, ev_n15, ev_n16, ev_n17, ev_n59, ev_n60, ev_n61, ev_n62, ev_n63, ev_n64, ev_n65, ev_n66, ev_n67, ev_n68, ev_n69, ev_n70, ev_n71, ev_n72, ev_n73, ev_n74, ev_n75, ev_n76, ev_n77, ev_n78, ev_n79, ev_n80, ev_k18, ev_k34, ev_k40, ev_n26, ev_n26b, ev_n46, ev_n46b, ev_n52b, ev_uq, ev_us, ev_uj, ev_lq, ev_ls, ev_lj, ev_urq, ev_urs, ev_ulq, ev_uls, nI_add, pk_sub, pk_mul, if_true, if_false, ite_true, ite_false, decide_true, decide_false, eq_self_iff_true, Nat.reduceEqDiff, Nat.reduceLeDiff, Nat.reduceLT, Nat.reduceAdd, Nat.reduceMul, Nat.reduceSub, Nat.reduceDiv, Nat.reduceMod, ↓reduceIte]; omega)]
    simp -implicitDefEqProofs (disch := omega) only [h i (Nat.le_refl i) (by omega), ev_b, ev_b2, ev_g, ev_gF, ev_on, ev_os, ev_cl, ev_in, ev_in6, ev_eq0, ev_lt0, ev_0le, ev_le0, ev_0lt, ev_lt, ev_le, ev_eq, ev_m1a, ev_m1b, ev_m1c, ev_m1d, ev_m1e, ev_n1, ev_n4, ev_n8, ev_n9, ev_n10, ev_n11, ev_n12, ev_n13, ev_n14, ev_n15, ev_n16, ev_n17, ev_n59, ev_n60, ev_n61, ev_n62, ev_n63, ev_n64, ev_n65, ev_n66, ev_n67, ev_n68, ev_n69, ev_n70, ev_n71, ev_n72, ev_n73, ev_n74, ev_n75, ev_n76, ev_n77, ev_n78, ev_n79, ev_n80, ev_k18, ev_k34, ev_k40, ev_n26, ev_n26b, ev_n46, ev_n46b, ev_n52b, ev_uq, ev_us, ev_uj, ev_lq, ev_ls, ev_lj, ev_urq, ev_urs, ev_ulq, ev_uls, nI_add, pk_sub, pk_mul, if_true, if_false, ite_true, ite_false, decide_true, decide_false, eq_self_iff_true, Nat.reduceEqDiff, Nat.reduceLeDiff, Nat.reduceLT, Nat.reduceAdd, Nat.reduceMul, Nat.reduceSub, Nat.reduceDiv, Nat.reduceMod, ↓reduceIte]
    by_cases z : c i = x
    · rw [if_pos z]
      obtain ⟨μ', e1, e2, e3, e4⟩ := ih (i + 1) k (fm_u μ 79 i (nI y)) ν (by omega) (by omega) (fun j j1 j2 => by rw [ev_uj (by omega)]; exact h j (by omega) j2)
      refine ⟨μ', e1, fun q hq => by rw [e2 q hq, ev_uq hq], fun j hj => by rw [e3 j (by omega), ev_uj (by omega)], fun j j1 j2 => ?_⟩
      by_cases ji : j = i
      · subst ji
        rw [e3 j (by omega), ev_us, if_pos z]
      · exact e4 j (by omega) j2
    · rw [if_neg z]
      obtain ⟨μ', e1, e2, e3, e4⟩ := ih (i + 1) k μ ν (by omega) (by omega) (fun j j1 j2 => h j (by omega) j2)
      refine ⟨μ', e1, e2, fun j hj => e3 j (by omega), fun j j1 j2 => ?_⟩
      by_cases ji : j = i
      · subst ji
        rw [e3 j (by omega), h j j1 j2, if_neg z]
      · exact e4 j (by omega) j2
theorem joins_M {c : Nat → Nat} {μ : fm_I} (ν : fm_L) (h : r79 c μ) {a b : Nat} (ha : a < 4) (hb : b < 4) : ∃ μ', m_X6_joins (nI a) (nI b) μ ν = some (μ', ν) ∧ (∀ q, q ≠ 79 → μ' q = μ q) ∧ r79 (jn c a b) μ' := by
  obtain ⟨μ', e1, e2, e3, e4⟩ := joins_l (c a) (c b) (h.2 a ha) c h.2 (fun μ18 ν18 => some (μ18, ν18)) 4 0 5000 μ ν (by omega) (by omega) (fun j _ j2 => h.1 j j2)
  refine ⟨μ', ?_, e2, fun i hi => e4 i (Nat.zero_le i) hi, jn_lt h.2 ha hb⟩
  simp -implicitDefEqProofs (disch := omega) only [m_X6_joins, h.1 a ha, h.1 b hb, ev_b, ev_b2, ev_g, ev_gF, ev_on, ev_os, ev_cl, ev_in, ev_in6, ev_eq0, ev_lt0, ev_0le, ev_le0, ev_0lt, ev_lt, ev_le, ev_eq, ev_m1a, ev_m1b, ev_m1c, ev_m1d, ev_m1e, ev_n1, ev_n4, ev_n8, ev_n9, ev_n10, ev_n11, ev_n12, ev_n13, ev_n14, ev_n15, ev_n16, ev_n17, ev_n59, ev_n60, ev_n61, ev_n62, ev_n63, ev_n64, ev_n65, ev_n66, ev_n67, ev_n68, ev_n69, ev_n70, ev_n71, ev_n72, ev_n73, ev_n74, ev_n75, ev_n76, ev_n77, ev_n78, ev_n79, ev_n80, ev_k18, ev_k34, ev_k40, ev_n26, ev_n26b, ev_n46, ev_n46b, ev_n52b, ev_uq, ev_us, ev_uj, ev_lq, ev_ls, ev_lj, ev_urq, ev_urs, ev_ulq, ev_uls, nI_add, pk_sub, pk_mul, if_true, if_false, ite_true, ite_false, decide_true, decide_false, eq_self_iff_true, Nat.reduceEqDiff, Nat.reduceLeDiff, Nat.reduceLT, Nat.reduceAdd, Nat.reduceMul, Nat.reduceSub, Nat.reduceDiv, Nat.reduceMod, ↓reduceIte]
  exact e1
def cf (o1 o2 : Nat) : Nat → Nat := jn (jn (jn (jn (fun i => i) 0 (if o1 = 0 then 2 else 3)) 1 (if o1 = 0 then 3 else 2)) 0 (if o2 = 0 then 1 else 3)) 2 (if o2 = 0 then 3 else 1)
theorem joins_4 (o1 o2 t2 : Nat) (h1 : o1 < 2) (h2 : o2 = t2 % 2) (ht : t2 ≤ 9999) (a b : Nat) (hb : b < 6) (v3 : Int32) {μ : fm_I} (ν : fm_L) (e : μ 61 b = nI t2) (h : r79 (fun i => i) μ) : ∃ μ', (∀ q, q ≠ 79 → μ' q = μ q) ∧ r79 (cf o1 o2) μ' ∧ m_X6_cross_91 (nI a) (nI b) v3 (nI o1) μ ν = m_X6_cross_178 (nI a) (nI b) v3 μ' ν (fun x5_178 => if v3 = 0 then (m_X6_count x5_178 μ' ν).bind (fun r211 => some ((r211, μ', ν))) else (m_X6_count x5_178 μ' ν).bind (fun r218 => if r218 = (nI 2) then fm_g (fm_in (nI a) (fm_n 63)) (fm_g (fm_in (nI b) (fm_n 63)) (if (μ' 63 (nI a).toNatClampNeg) = (μ' 63 (nI b).toNatClampNeg) then m_X6_cross_244 μ' ν else some (((nI 1), μ', ν)))) else m_X6_cross_244 μ' ν)) 5000 ((nI 0)) ((nI 0)) := by
  obtain ⟨μ1, p1, k1, r1⟩ := joins_M ν h (a := 0) (b := if o1 = 0 then 2 else 3) (by decide) (by split <;> decide)
  obtain ⟨μ2, p2, k2, r2⟩ := joins_M ν r1 (a := 1) (b := if o1 = 0 then 3 else 2) (by decide) (by split <;> decide)
  obtain ⟨μ3, p3, k3, r3⟩ := joins_M ν r2 (a := 0) (b := if o2 = 0 then 1 else 3) (by decide) (by split <;> decide)
  obtain ⟨μ4, p4, k4, r4⟩ := joins_M ν r3 (a := 2) (b := if o2 = 0 then 3 else 1) (by decide) (by split <;> decide)
  refine ⟨μ4, fun q hq => by rw [k4 q hq, k3 q hq, k2 q hq, k1 q hq], r4, ?_⟩
  have e2 : μ2 61 b = nI t2 := by rw [k2 61 (by decide), k1 61 (by decide)]; exact e
  have er : nI t2 - nI t2 / nI 2 * nI 2 = nI o2 := by rw [h2]; exact pk_rem (by omega) (by decide) (by decide)
  have o2' : o2 = 0 ∨ o2 = 1 := by omega
  rcases (by omega : o1 = 0 ∨ o1 = 1) with rfl | rfl
  · rw [if_pos rfl] at p1 p2
    rcases o2' with rfl | rfl
    · rw [if_pos rfl] at p3 p4
      simp -implicitDefEqProofs (disch := omega) only [m_X6_cross_91, m_X6_cross_105, p1, m_X6_cross_120, p2, e2, er, m_X6_cross_140, m_X6_cross_154, p3, m_X6_cross_169, p4, ev_b, ev_g, ev_in, ev_n61, ev_cl, ev_eq0, ev_eq, Nat.reduceEqDiff, ↓reduceIte]
    · rw [if_neg (by decide)] at p3 p4
      simp -implicitDefEqProofs (disch := omega) only [m_X6_cross_91, m_X6_cross_105, p1, m_X6_cross_120, p2, e2, er, m_X6_cross_140, m_X6_cross_154, p3, m_X6_cross_169, p4, ev_b, ev_g, ev_in, ev_n61, ev_cl, ev_eq0, ev_eq, Nat.reduceEqDiff, ↓reduceIte]
  · rw [if_neg (by decide)] at p1 p2
    rcases o2' with rfl | rfl
    · rw [if_pos rfl] at p3 p4
      simp -implicitDefEqProofs (disch := omega) only [m_X6_cross_91, m_X6_cross_105, p1, m_X6_cross_120, p2, e2, er, m_X6_cross_140, m_X6_cross_154, p3, m_X6_cross_169, p4, ev_b, ev_g, ev_in, ev_n61, ev_cl, ev_eq0, ev_eq, Nat.reduceEqDiff, ↓reduceIte]
    · rw [if_neg (by decide)] at p3 p4
      simp -implicitDefEqProofs (disch := omega) only [m_X6_cross_91, m_X6_cross_105, p1, m_X6_cross_120, p2, e2, er, m_X6_cross_140, m_X6_cross_154, p3, m_X6_cross_169, p4, ev_b, ev_g, ev_in, ev_n61, ev_cl, ev_eq0, ev_eq, Nat.reduceEqDiff, ↓reduceIte]
theorem mask_178 (v1 v2 v3 : Int32) (c : Nat → Nat) {μ : fm_I} (ν : fm_L) (K : Int32 → Option (Int32 × fm_I × fm_L)) (h : r79 c μ) : m_X6_cross_178 v1 v2 v3 μ ν K 5000 (nI 0) (nI 0) = K ((((nI 0 ||| (nI 1 <<< (nI (c 0) &&& 31))) ||| (nI 1 <<< (nI (c 1) &&& 31))) ||| (nI 1 <<< (nI (c 2) &&& 31))) ||| (nI 1 <<< (nI (c 3) &&& 31))) := by
  have h0 := h.1 0 (by decide)
  have h1 := h.1 1 (by decide)
  have h2 := h.1 2 (by decide)
  have h3 := h.1 3 (by decide)
  rw [m_X6_cross_178, if_neg (by decide), show fm_in (nI 0) (fm_n 79) = true from rfl, ev_g, show (nI 0).toNatClampNeg = 0 from rfl, h0, show nI 0 + nI 1 = nI 1 from rfl]
  rw [m_X6_cross_178, if_neg (by decide), show fm_in (nI 1) (fm_n 79) = true from rfl, ev_g, show (nI 1).toNatClampNeg = 1 from rfl, h1, show nI 1 + nI 1 = nI 2 from rfl]
  rw [m_X6_cross_178, if_neg (by decide), show fm_in (nI 2) (fm_n 79) = true from rfl, ev_g, show (nI 2).toNatClampNeg = 2 from rfl, h2, show nI 2 + nI 1 = nI 3 from rfl]
  rw [m_X6_cross_178, if_neg (by decide), show fm_in (nI 3) (fm_n 79) = true from rfl, ev_g, show (nI 3).toNatClampNeg = 3 from rfl, h3, show nI 3 + nI 1 = nI 4 from rfl]
  rw [m_X6_cross_178, if_pos (by decide)]
