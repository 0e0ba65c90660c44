def hX (m i : Nat) (μ : fm_I) : fm_I := fun q k => if 18 + i ≤ q ∧ q < 26 ∧ k = 0 ∧ nI m ≤ μ q 0 ∧ μ q 0 < nI 100 then -1 else μ q k
def hM (m i : Nat) (μ : fm_I) : fm_I := fun q k => if q = 66 ∧ i ≤ k ∧ k < 8 ∧ μ 66 k = nI 2 ∧ ¬ μ 69 k < nI m then nI 0 else μ q k
theorem hX_s {m i : Nat} {μ : fm_I} (h : ¬ (nI m ≤ μ (18 + i) 0 ∧ μ (18 + i) 0 < nI 100)) : hX m (i + 1) μ = hX m i μ := by
  funext q j
  unfold hX
  by_cases c : q = 18 + i
  · subst c
    rw [if_neg (by omega), if_neg (fun z => h z.2.2.2)]
  · by_cases c2 : 18 + i ≤ q ∧ q < 26 ∧ j = 0 ∧ nI m ≤ μ q 0 ∧ μ q 0 < nI 100
    · rw [if_pos c2, if_pos ⟨by omega, c2.2⟩]
    · rw [if_neg c2, if_neg (fun z => c2 ⟨by omega, z.2⟩)]
theorem hX_c {m i : Nat} (hi : i < 8) {μ : fm_I} (h : nI m ≤ μ (18 + i) 0 ∧ μ (18 + i) 0 < nI 100) : hX m (i + 1) (fm_u μ (18 + i) 0 (-1)) = hX m i μ := by
  funext q j
  unfold hX
  by_cases c : q = 18 + i
  · subst c
    rw [if_neg (by omega), ev_u]
    by_cases cj : j = 0
    · rw [if_pos ⟨rfl, cj⟩, if_pos ⟨by omega, by omega, cj, h⟩]
    · rw [if_neg (fun z => cj z.2), if_neg (fun z => cj z.2.2.1)]
  · rw [ev_uq c]
    by_cases c2 : 18 + i ≤ q ∧ q < 26 ∧ j = 0 ∧ nI m ≤ μ q 0 ∧ μ q 0 < nI 100
    · rw [if_pos c2, if_pos ⟨by omega, c2.2⟩]
    · rw [if_neg c2, if_neg (fun z => c2 ⟨by omega, z.2⟩)]
theorem hr_X (m : Nat) (hm : m ≤ 6) (K : fm_I → fm_L → Option (fm_I × fm_L)) : ∀ (d i fuel : Nat) (μ : fm_I) (ν : fm_L), i + d = 8 → d < fuel → μ 0 7 = nI m → (∀ t, i ≤ t → t < 8 → heldOK 5 (μ (18 + t) 0)) → m_X5_clearShelvesOfGoneBands_2 K fuel (nI i) μ ν = K (hX m i μ) ν := by
  intro d
  induction d with
  | zero =>
    intro i fuel μ ν hi hf h0 hs
    obtain ⟨k, rfl⟩ : ∃ k, fuel = k + 1 := ⟨fuel - 1, by omega⟩
    rw [m_X5_clearShelvesOfGoneBands_2, if_pos (by simp -implicitDefEqProofs (disch := omega) only [ev_b, ev_b2, ev_g, ev_gF, ev_on, ev_os, ev_cl, ev_in, ev_in6, ev_eq0, ev_lt0, ev_0le, ev_le0, ev_0lt, ev_lt, ev_le, ev_eq, ev_m1a, ev_m1b, ev_m1c, ev_m1d, ev_m1e, ev_n1, ev_n4, ev_n8, ev_n9, ev_n10, ev_n11, ev_n12, ev_n13, ev_n14, ev_n15, ev_n16, ev_n17, ev_n59, ev_n60, ev_n61, ev_n62, ev_n63, ev_n64, ev_n65, ev_n66, ev_n67, ev_n68, ev_n69, ev_n70, ev_n71, ev_n72, ev_n73, ev_n74, ev_n75, ev_n76, ev_n77, ev_n78, ev_n79, ev_n80, ev_k18, ev_k34, ev_k40, ev_n26, ev_n26b, ev_n46, ev_n46b, ev_n52b, ev_uq, ev_us, ev_uj, ev_lq, ev_ls, ev_lj, ev_urq, ev_urs, ev_ulq, ev_uls, nI_add, pk_sub, pk_mul, if_true, if_false, ite_true, ite_false, decide_true, decide_false, eq_self_iff_true, Nat.reduceEqDiff, Nat.reduceLeDiff, Nat.reduceLT, Nat.reduceAdd, Nat.reduceMul, Nat.reduceSub, Nat.reduceDiv, Nat.reduceMod, ↓reduceIte]; omega), show hX m i μ = μ from ?_]
    funext q j
    rw [hX, if_neg (by omega)]
  | succ d ih =>
    intro i fuel μ ν hi hf h0 hs
    obtain ⟨k, rfl⟩ : ∃ k, fuel = k + 1 := ⟨fuel - 1, by omega⟩
    rw [m_X5_clearShelvesOfGoneBands_2, if_neg (by simp -implicitDefEqProofs (disch := omega) only [ev_b, ev_b2, ev_g, ev_gF, ev_on, ev_os, ev_cl, ev_in, ev_in6, ev_eq0, ev_lt0, ev_0le, ev_le0, ev_0lt, ev_lt, ev_le, ev_eq, ev_m1a, ev_m1b, ev_m1c, ev_m1d, ev_m1e, ev_n1, ev_n4, ev_n8, ev_n9, ev_n10, ev_n11, ev_n12, ev_n13, ev_n14, ev_n15, ev_n16, ev_n17, ev_n59, ev_n60, ev_n61, ev_n62, ev_n63, ev_n64, ev_n65, ev_n66, ev_n67, ev_n68, ev_n69, ev_n70, ev_n71, ev_n72, ev_n73, ev_n74, ev_n75, ev_n76, ev_n77, ev_n78, ev_n79, ev_n80, ev_k18, ev_k34, ev_k40, ev_n26, ev_n26b, ev_n46, ev_n46b, ev_n52b, ev_uq, ev_us, ev_uj, ev_lq, ev_ls, ev_lj, ev_urq, ev_urs, ev_ulq, ev_uls, nI_add, pk_sub, pk_mul, if_true, if_false, ite_true, ite_false, decide_true, decide_false, eq_self_iff_true, Nat.reduceEqDiff, Nat.reduceLeDiff, Nat.reduceLT, Nat.reduceAdd, Nat.reduceMul, Nat.reduceSub, Nat.reduceDiv, Nat.reduceMod, ↓reduceIte]; omega)]
    have hi8 : i < 8 := by omega
    have I := ih (i + 1) k μ ν (by omega) (by omega) h0 (fun t t1 t2 => hs t (by omega) t2)
    rcases hs i (Nat.le_refl i) hi8 with e | ⟨o, ho, e⟩ | ⟨b, hb, e⟩
    · simp -implicitDefEqProofs (disch := omega) only [(hR0 hi8 ν e).2, ev_b, ev_b2, ev_g, ev_gF, ev_on, ev_os, ev_cl, ev_in, ev_in6, ev_eq0, ev_lt0, ev_0le, ev_le0, ev_0lt, ev_lt, ev_le, ev_eq, ev_m1a, ev_m1b, ev_m1c, ev_m1d, ev_m1e, ev_n1, ev_n4, ev_n8, ev_n9, ev_n10, ev_n11, ev_n12, ev_n13, ev_n14, ev_n15, ev_n16, ev_n17, ev_n59, ev_n60, ev_n61, ev_n62, ev_n63, ev_n64, ev_n65, ev_n66, ev_n67, ev_n68, ev_n69, ev_n70, ev_n71, ev_n72, ev_n73, ev_n74, ev_n75, ev_n76, ev_n77, ev_n78, ev_n79, ev_n80, ev_k18, ev_k34, ev_k40, ev_n26, ev_n26b, ev_n46, ev_n46b, ev_n52b, ev_uq, ev_us, ev_uj, ev_lq, ev_ls, ev_lj, ev_urq, ev_urs, ev_ulq, ev_uls, nI_add, pk_sub, pk_mul, if_true, if_false, ite_true, ite_false, decide_true, decide_false, eq_self_iff_true, Nat.reduceEqDiff, Nat.reduceLeDiff, Nat.reduceLT, Nat.reduceAdd, Nat.reduceMul, Nat.reduceSub, Nat.reduceDiv, Nat.reduceMod, ↓reduceIte]
      rw [I, hX_s (fun z => by rw [e, ev_m1c (by omega)] at z; exact z.1)]
    · simp -implicitDefEqProofs (disch := omega) only [(hR1 hi8 ho ν e).2, ev_b, ev_b2, ev_g, ev_gF, ev_on, ev_os, ev_cl, ev_in, ev_in6, ev_eq0, ev_lt0, ev_0le, ev_le0, ev_0lt, ev_lt, ev_le, ev_eq, ev_m1a, ev_m1b, ev_m1c, ev_m1d, ev_m1e, ev_n1, ev_n4, ev_n8, ev_n9, ev_n10, ev_n11, ev_n12, ev_n13, ev_n14, ev_n15, ev_n16, ev_n17, ev_n59, ev_n60, ev_n61, ev_n62, ev_n63, ev_n64, ev_n65, ev_n66, ev_n67, ev_n68, ev_n69, ev_n70, ev_n71, ev_n72, ev_n73, ev_n74, ev_n75, ev_n76, ev_n77, ev_n78, ev_n79, ev_n80, ev_k18, ev_k34, ev_k40, ev_n26, ev_n26b, ev_n46, ev_n46b, ev_n52b, ev_uq, ev_us, ev_uj, ev_lq, ev_ls, ev_lj, ev_urq, ev_urs, ev_ulq, ev_uls, nI_add, pk_sub, pk_mul, if_true, if_false, ite_true, ite_false, decide_true, decide_false, eq_self_iff_true, Nat.reduceEqDiff, Nat.reduceLeDiff, Nat.reduceLT, Nat.reduceAdd, Nat.reduceMul, Nat.reduceSub, Nat.reduceDiv, Nat.reduceMod, ↓reduceIte]
      rw [I, hX_s (fun z => by rw [e, ev_lt (by omega) (by omega)] at z; omega)]
    · by_cases bm : m ≤ b
      · simp -implicitDefEqProofs (disch := omega) only [(hR2 hi8 (b := b) (by omega) ν e).2, e, bd_out (n := m) (v := nI b) (Or.inr ((nI_leI (by omega) (by omega)).mpr bm)) h0, ev_b, ev_b2, ev_g, ev_gF, ev_on, ev_os, ev_cl, ev_in, ev_in6, ev_eq0, ev_lt0, ev_0le, ev_le0, ev_0lt, ev_lt, ev_le, ev_eq, ev_m1a, ev_m1b, ev_m1c, ev_m1d, ev_m1e, ev_n1, ev_n4, ev_n8, ev_n9, ev_n10, ev_n11, ev_n12, ev_n13, ev_n14, ev_n15, ev_n16, ev_n17, ev_n59, ev_n60, ev_n61, ev_n62, ev_n63, ev_n64, ev_n65, ev_n66, ev_n67, ev_n68, ev_n69, ev_n70, ev_n71, ev_n72, ev_n73, ev_n74, ev_n75, ev_n76, ev_n77, ev_n78, ev_n79, ev_n80, ev_k18, ev_k34, ev_k40, ev_n26, ev_n26b, ev_n46, ev_n46b, ev_n52b, ev_uq, ev_us, ev_uj, ev_lq, ev_ls, ev_lj, ev_urq, ev_urs, ev_ulq, ev_uls, nI_add, pk_sub, pk_mul, if_true, if_false, ite_true, ite_false, decide_true, decide_false, eq_self_iff_true, Nat.reduceEqDiff, Nat.reduceLeDiff, Nat.reduceLT, Nat.reduceAdd, Nat.reduceMul, Nat.reduceSub, Nat.reduceDiv, Nat.reduceMod, ↓reduceIte]
        rw [ih (i + 1) k _ ν (by omega) (by omega) (by rw [ev_uq (by omega)]; exact h0) (fun t t1 t2 => by rw [ev_uq (by omega)]; exact hs t (by omega) t2), hX_c hi8 (by rw [e, ev_le (by omega) (by omega), ev_lt (by omega) (by omega)]; omega)]
      · simp -implicitDefEqProofs (disch := omega) only [(hR2 hi8 (b := b) (by omega) ν e).2, e, bd_in (n := m) (k := b) hm (by omega) h0, ev_b, ev_b2, ev_g, ev_gF, ev_on, ev_os, ev_cl, ev_in, ev_in6, ev_eq0, ev_lt0, ev_0le, ev_le0, ev_0lt, ev_lt, ev_le, ev_eq, ev_m1a, ev_m1b, ev_m1c, ev_m1d, ev_m1e, ev_n1, ev_n4, ev_n8, ev_n9, ev_n10, ev_n11, ev_n12, ev_n13, ev_n14, ev_n15, ev_n16, ev_n17, ev_n59, ev_n60, ev_n61, ev_n62, ev_n63, ev_n64, ev_n65, ev_n66, ev_n67, ev_n68, ev_n69, ev_n70, ev_n71, ev_n72, ev_n73, ev_n74, ev_n75, ev_n76, ev_n77, ev_n78, ev_n79, ev_n80, ev_k18, ev_k34, ev_k40, ev_n26, ev_n26b, ev_n46, ev_n46b, ev_n52b, ev_uq, ev_us, ev_uj, ev_lq, ev_ls, ev_lj, ev_urq, ev_urs, ev_ulq, ev_uls, nI_add, pk_sub, pk_mul, if_true, if_false, ite_true, ite_false, decide_true, decide_false, eq_self_iff_true, Nat.reduceEqDiff, Nat.reduceLeDiff, Nat.reduceLT, Nat.reduceAdd, Nat.reduceMul, Nat.reduceSub, Nat.reduceDiv, Nat.reduceMod, ↓reduceIte]
        rw [I, hX_s (fun z => by rw [e, ev_le (by omega) (by omega)] at z; omega)]
theorem hr_M (m : Nat) (hm : m ≤ 6) (K : fm_I → fm_L → Option (Int32 × fm_I × fm_L)) : ∀ (d i fuel : Nat) (μ : fm_I) (ν : fm_L), i + d = 8 → d < fuel → μ 58 0 = nI m → m_X6_restore_25 K fuel (nI i) μ ν = K (hM m i μ) ν := by
  intro d
  induction d with
  | zero =>
    intro i fuel μ ν hi hf h0
    obtain ⟨k, rfl⟩ : ∃ k, fuel = k + 1 := ⟨fuel - 1, by omega⟩
    rw [m_X6_restore_25, if_pos (by simp -implicitDefEqProofs (disch := omega) only [ev_b, ev_b2, ev_g, ev_gF, ev_on, ev_os, ev_cl, ev_in, ev_in6, ev_eq0, ev_lt0, ev_0le, ev_le0, ev_0lt, ev_lt, ev_le, ev_eq, ev_m1a, ev_m1b, ev_m1c, ev_m1d, ev_m1e, ev_n1, ev_n4, ev_n8, ev_n9, ev_n10, ev_n11, ev_n12, ev_n13, ev_n14, ev_n15, ev_n16, ev_n17, ev_n59, ev_n60, ev_n61, ev_n62, ev_n63, ev_n64, ev_n65, ev_n66, ev_n67, ev_n68, ev_n69, ev_n70, ev_n71, ev_n72, ev_n73, ev_n74, ev_n75, ev_n76, ev_n77, ev_n78, ev_n79, ev_n80, ev_k18, ev_k34, ev_k40, ev_n26, ev_n26b, ev_n46, ev_n46b, ev_n52b, ev_uq, ev_us, ev_uj, ev_lq, ev_ls, ev_lj, ev_urq, ev_urs, ev_ulq, ev_uls, nI_add, pk_sub, pk_mul, if_true, if_false, ite_true, ite_false, decide_true, decide_false, eq_self_iff_true, Nat.reduceEqDiff, Nat.reduceLeDiff, Nat.reduceLT, Nat.reduceAdd, Nat.reduceMul, Nat.reduceSub, Nat.reduceDiv, Nat.reduceMod, ↓reduceIte]; omega), show hM m i μ = μ from ?_]
    funext q j
    rw [hM, if_neg (by omega)]
  | succ d ih =>
    intro i fuel μ ν hi hf h0
    obtain ⟨k, rfl⟩ : ∃ k, fuel = k + 1 := ⟨fuel - 1, by omega⟩
    rw [m_X6_restore_25, if_neg (by simp -implicitDefEqProofs (disch := omega) only [ev_b, ev_b2, ev_g, ev_gF, ev_on, ev_os, ev_cl, ev_in, ev_in6, ev_eq0, ev_lt0, ev_0le, ev_le0, ev_0lt, ev_lt, ev_le, ev_eq, ev_m1a, ev_m1b, ev_m1c, ev_m1d, ev_m1e, ev_n1, ev_n4, ev_n8, ev_n9, ev_n10, ev_n11, ev_n12, ev_n13, ev_n14, ev_n15, ev_n16, ev_n17, ev_n59, ev_n60, ev_n61, ev_n62, ev_n63, ev_n64, ev_n65, ev_n66, ev_n67, ev_n68, ev_n69, ev_n70, ev_n71, ev_n72, ev_n73, ev_n74, ev_n75, ev_n76, ev_n77, ev_n78, ev_n79, ev_n80, ev_k18, ev_k34, ev_k40, ev_n26, ev_n26b, ev_n46, ev_n46b, ev_n52b, ev_uq, ev_us, ev_uj, ev_lq, ev_ls, ev_lj, ev_urq, ev_urs, ev_ulq, ev_uls, nI_add, pk_sub, pk_mul, if_true, if_false, ite_true, ite_false, decide_true, decide_false, eq_self_iff_true, Nat.reduceEqDiff, Nat.reduceLeDiff, Nat.reduceLT, Nat.reduceAdd, Nat.reduceMul, Nat.reduceSub, Nat.reduceDiv, Nat.reduceMod, ↓reduceIte]; omega)]
    by_cases h : μ 66 i = nI 2 ∧ ¬ μ 69 i < nI m
    · simp -implicitDefEqProofs (disch := omega) only [h.1, h.2, h0, ev_b, ev_b2, ev_g, ev_gF, ev_on, ev_os, ev_cl, ev_in, ev_in6, ev_eq0, ev_lt0, ev_0le, ev_le0, ev_0lt, ev_lt, ev_le, ev_eq, ev_m1a, ev_m1b, ev_m1c, ev_m1d, ev_m1e, ev_n1, ev_n4, ev_n8, ev_n9, ev_n10, ev_n11, ev_n12, ev_n13, ev_n14, ev_n15, ev_n16, ev_n17, ev_n59, ev_n60, ev_n61, ev_n62, ev_n63, ev_n64, ev_n65, ev_n66, ev_n67, ev_n68, ev_n69, ev_n70, ev_n71, ev_n72, ev_n73, ev_n74, ev_n75, ev_n76, ev_n77, ev_n78, ev_n79, ev_n80, ev_k18, ev_k34, ev_k40, ev_n26, ev_n26b, ev_n46, ev_n46b, ev_n52b, ev_uq, ev_us, ev_uj, ev_lq, ev_ls, ev_lj, ev_urq, ev_urs, ev_ulq, ev_uls, nI_add, pk_sub, pk_mul, if_true, if_false, ite_true, ite_false, decide_true, decide_false, eq_self_iff_true, Nat.reduceEqDiff, Nat.reduceLeDiff, Nat.reduceLT, Nat.reduceAdd, Nat.reduceMul, Nat.reduceSub, Nat.reduceDiv, Nat.reduceMod, ↓reduceIte]
      rw [ih (i + 1) k _ ν (by omega) (by omega) (by rw [ev_uq (by omega)]; exact h0)]
      congr 1
      funext q j
      unfold hM
      by_cases c : q = 66 ∧ j = i
      · rw [c.1, c.2, if_neg (by omega), ev_us, if_pos ⟨rfl, by omega, by omega, h⟩]
      · rw [show fm_u μ 66 i (nI 0) q j = μ q j by rw [ev_u, if_neg c], ev_uq (q := 69) (by omega)]
        by_cases c2 : q = 66 ∧ i ≤ j ∧ j < 8 ∧ μ 66 j = nI 2 ∧ ¬ μ 69 j < nI m
        · rw [if_pos c2, if_pos ⟨c2.1, by omega, c2.2.2.1, by rw [ev_uj (by omega)]; exact c2.2.2.2.1, c2.2.2.2.2⟩]
        · rw [if_neg c2, if_neg (fun z => c2 ⟨z.1, by omega, z.2.2.1, by have := z.2.2.2.1; rw [ev_uj (by omega)] at this; exact this, z.2.2.2.2⟩)]
    · have I := ih (i + 1) k μ ν (by omega) (by omega) h0
      have E : hM m (i + 1) μ = hM m i μ := by
        funext q j
        unfold hM
        by_cases c : q = 66 ∧ j = i
        · rw [c.2, if_neg (by omega), if_neg (fun z => h z.2.2.2)]
        · by_cases c2 : q = 66 ∧ i ≤ j ∧ j < 8 ∧ μ 66 j = nI 2 ∧ ¬ μ 69 j < nI m
          · rw [if_pos c2, if_pos ⟨c2.1, by omega, c2.2.2⟩]
          · rw [if_neg c2, if_neg (fun z => c2 ⟨z.1, by omega, z.2.2⟩)]
      rw [E] at I
      simp -implicitDefEqProofs (disch := omega) only [h0, ev_b, ev_b2, ev_g, ev_gF, ev_on, ev_os, ev_cl, ev_in, ev_in6, ev_eq0, ev_lt0, ev_0le, ev_le0, ev_0lt, ev_lt, ev_le, ev_eq, ev_m1a, ev_m1b, ev_m1c, ev_m1d, ev_m1e, ev_n1, ev_n4, ev_n8, ev_n9, ev_n10, ev_n11, ev_n12, ev_n13, ev_n14, ev_n15, ev_n16, ev_n17, ev_n59, ev_n60, ev_n61, ev_n62, ev_n63, ev_n64, ev_n65, ev_n66, ev_n67, ev_n68, ev_n69, ev_n70, ev_n71, ev_n72, ev_n73, ev_n74, ev_n75, ev_n76, ev_n77, ev_n78, ev_n79, ev_n80, ev_k18, ev_k34, ev_k40, ev_n26, ev_n26b, ev_n46, ev_n46b, ev_n52b, ev_uq, ev_us, ev_uj, ev_lq, ev_ls, ev_lj, ev_urq, ev_urs, ev_ulq, ev_uls, nI_add, pk_sub, pk_mul, if_true, if_false, ite_true, ite_false, decide_true, decide_false, eq_self_iff_true, Nat.reduceEqDiff, Nat.reduceLeDiff, Nat.reduceLT, Nat.reduceAdd, Nat.reduceMul, Nat.reduceSub, Nat.reduceDiv, Nat.reduceMod, ↓reduceIte]
      by_cases h2 : μ 66 i = nI 2
      · have h3 : μ 69 i < nI m := by
          by_cases z : μ 69 i < nI m
          · exact z
          · exact absurd ⟨h2, z⟩ h
        rw [if_pos h2, if_pos h3, I]
      · rw [if_neg h2, I]
theorem rs_S {n m s : Nat} {μ μ2 : fm_I} {ν : fm_L} (hn : n ≤ 6) (hm : m ≤ 6) (h : pa_S n s μ ν) (hs : s < 8) (e : ∀ q, 67 ≤ q → q ≤ 69 → μ2 q s = μ q s) (e66 : μ2 66 s = if μ 66 s = nI 2 ∧ ¬ μ 69 s < nI m then nI 0 else μ 66 s) (e1 : μ2 (18 + s) 1 = μ (18 + s) 1) (e0 : μ2 (18 + s) 0 = if nI m ≤ μ (18 + s) 0 ∧ μ (18 + s) 0 < nI 100 then -1 else μ (18 + s) 0) : pa_S m s μ2 ν := by
  unfold pa_S at *
  rw [e66, e0, e1, e 67 (by omega) (by omega), e 68 (by omega) (by omega), e 69 (by omega) (by omega)]
  rcases h with ⟨a1, a2⟩ | ⟨o, w, a1, a2, a3, a4, a5, a6, a7, a8⟩ | ⟨b, hb, a1, a2, a3⟩
  · refine Or.inl ⟨?_, ?_⟩
    · split
      · rfl
      · exact a1
    · split
      · rfl
      · exact a2
  · have z : ¬ (μ 66 s = nI 2 ∧ ¬ μ 69 s < nI m) := fun z => by
      rw [a3] at z
      exact absurd z.1 (by decide)
    have z2 : ¬ (nI m ≤ μ (18 + s) 0 ∧ μ (18 + s) 0 < nI 100) := fun z => by
      rw [a6, ev_lt (by omega) (by omega)] at z
      omega
    rw [if_neg z, if_neg z2]
    exact Or.inr (Or.inl ⟨o, w, a1, a2, a3, a4, a5, a6, a7, a8⟩)
  · by_cases c : m ≤ b
    · rw [if_pos ⟨a1, by rw [a2, ev_lt (by omega) (by omega)]; omega⟩, if_pos (by rw [a3, ev_le (by omega) (by omega), ev_lt (by omega) (by omega)]; omega)]
      exact Or.inl ⟨rfl, rfl⟩
    · rw [if_neg (fun z => by rw [a2, ev_lt (by omega) (by omega)] at z; omega), if_neg (fun z => by rw [a3, ev_le (by omega) (by omega)] at z; omega)]
      exact Or.inr (Or.inr ⟨b, by omega, a1, a2, a3⟩)
theorem op_restore {μ : fm_I} {ν : fm_L} (h : Inv μ ν)  : pa_op (m_X5_restore  μ ν) (fun μ ν => m_X6_restore  μ ν) := by
  obtain ⟨n, F, h1, h2, h3, h4, h5, h6, h7, h8, h9⟩ := id h
  have hn := h1.1
  rcases h8 with ⟨i1, i2⟩ | ⟨m, FI, hm, i1, i2, i3, i4, i5, i6⟩
  · refine op_rf h 6 (by decide) (r := -6) ?_ ?_
    · simp -implicitDefEqProofs (disch := omega) only [m_X5_restore, i1, ev_b, ev_b2, ev_g, ev_gF, ev_on, ev_os, ev_cl, ev_in, ev_in6, ev_eq0, ev_lt0, ev_0le, ev_le0, ev_0lt, ev_lt, ev_le, ev_eq, ev_m1a, ev_m1b, ev_m1c, ev_m1d, ev_m1e, ev_n1, ev_n4, ev_n8, ev_n9, ev_n10, ev_n11, ev_n12, ev_n13, ev_n14, ev_n15, ev_n16, ev_n17, ev_n59, ev_n60, ev_n61, ev_n62, ev_n63, ev_n64, ev_n65, ev_n66, ev_n67, ev_n68, ev_n69, ev_n70, ev_n71, ev_n72, ev_n73, ev_n74, ev_n75, ev_n76, ev_n77, ev_n78, ev_n79, ev_n80, ev_k18, ev_k34, ev_k40, ev_n26, ev_n26b, ev_n46, ev_n46b, ev_n52b, ev_uq, ev_us, ev_uj, ev_lq, ev_ls, ev_lj, ev_urq, ev_urs, ev_ulq, ev_uls, nI_add, pk_sub, pk_mul, if_true, if_false, ite_true, ite_false, decide_true, decide_false, eq_self_iff_true, Nat.reduceEqDiff, Nat.reduceLeDiff, Nat.reduceLT, Nat.reduceAdd, Nat.reduceMul, Nat.reduceSub, Nat.reduceDiv, Nat.reduceMod, ↓reduceIte, rX6]
    · show m_X6_restore _ ν = _
      simp -implicitDefEqProofs (disch := omega) only [m_X6_restore, i2, ev_b, ev_b2, ev_g, ev_gF, ev_on, ev_os, ev_cl, ev_in, ev_in6, ev_eq0, ev_lt0, ev_0le, ev_le0, ev_0lt, ev_lt, ev_le, ev_eq, ev_m1a, ev_m1b, ev_m1c, ev_m1d, ev_m1e, ev_n1, ev_n4, ev_n8, ev_n9, ev_n10, ev_n11, ev_n12, ev_n13, ev_n14, ev_n15, ev_n16, ev_n17, ev_n59, ev_n60, ev_n61, ev_n62, ev_n63, ev_n64, ev_n65, ev_n66, ev_n67, ev_n68, ev_n69, ev_n70, ev_n71, ev_n72, ev_n73, ev_n74, ev_n75, ev_n76, ev_n77, ev_n78, ev_n79, ev_n80, ev_k18, ev_k34, ev_k40, ev_n26, ev_n26b, ev_n46, ev_n46b, ev_n52b, ev_uq, ev_us, ev_uj, ev_lq, ev_ls, ev_lj, ev_urq, ev_urs, ev_ulq, ev_uls, nI_add, pk_sub, pk_mul, if_true, if_false, ite_true, ite_false, decide_true, decide_false, eq_self_iff_true, Nat.reduceEqDiff, Nat.reduceLeDiff, Nat.reduceLT, Nat.reduceAdd, Nat.reduceMul, Nat.reduceSub, Nat.reduceDiv, Nat.reduceMod, ↓reduceIte, rM6]
  have ok : ∀ t, t < 8 → heldOK 5 (μ (18 + t) 0) := fun t t2 => by
    rcases h6 t t2 with ⟨_, e⟩ | ⟨o, w, a1, a2, a3, a4, a5, a6, a7, a8⟩ | ⟨b, hb, a1, a2, a3⟩
    · exact Or.inl e
    · exact Or.inr (Or.inl ⟨o, a1, a6⟩)
    · exact Or.inr (Or.inr ⟨b, by omega, a3⟩)
  obtain ⟨μ1, e1, k1, n1, x1⟩ := rs_l (F := FI) hm (fun μ17 ν17 => (m_X5_clearShelvesOfGoneBands  (fm_u (fm_u (fm_u μ17 0 7 ((μ17 0 10))) 0 8 ((((fm_u μ17 0 7 ((μ17 0 10)))) 0 11))) 0 9 ((((fm_u (fm_u μ17 0 7 ((μ17 0 10))) 0 8 ((((fm_u μ17 0 7 ((μ17 0 10)))) 0 11)))) 0 12))) ν17).bind (fun r71 => some (((r71.1 0 7), r71.1, r71.2)))) m 0 5000 μ ν (by omega) (by omega) i1 (fun b hb => (i6 b hb).2.1) (fun b hb => absurd hb (Nat.not_lt_zero b))
  have m0 : μ1 0 = μ 0 := k1 0 (by omega) (by omega)
  have X : m_X5_restore μ ν = some (nI m, hX m 0 (fm_u (fm_u (fm_u μ1 0 7 (nI m)) 0 8 (μ 0 11)) 0 9 (μ 0 12)), ν) := by
    rw [m_X5_restore, i1, if_neg (of_eq_false (ev_m1a (by omega))), e1]
    simp -implicitDefEqProofs (disch := omega) only [m0, i1, m_X5_clearShelvesOfGoneBands, ev_b, ev_b2, ev_g, ev_gF, ev_on, ev_os, ev_cl, ev_in, ev_in6, ev_eq0, ev_lt0, ev_0le, ev_le0, ev_0lt, ev_lt, ev_le, ev_eq, ev_m1a, ev_m1b, ev_m1c, ev_m1d, ev_m1e, ev_n1, ev_n4, ev_n8, ev_n9, ev_n10, ev_n11, ev_n12, ev_n13, ev_n14, ev_n15, ev_n16, ev_n17, ev_n59, ev_n60, ev_n61, ev_n62, ev_n63, ev_n64, ev_n65, ev_n66, ev_n67, ev_n68, ev_n69, ev_n70, ev_n71, ev_n72, ev_n73, ev_n74, ev_n75, ev_n76, ev_n77, ev_n78, ev_n79, ev_n80, ev_k18, ev_k34, ev_k40, ev_n26, ev_n26b, ev_n46, ev_n46b, ev_n52b, ev_uq, ev_us, ev_uj, ev_lq, ev_ls, ev_lj, ev_urq, ev_urs, ev_ulq, ev_uls, nI_add, pk_sub, pk_mul, if_true, if_false, ite_true, ite_false, decide_true, decide_false, eq_self_iff_true, Nat.reduceEqDiff, Nat.reduceLeDiff, Nat.reduceLT, Nat.reduceAdd, Nat.reduceMul, Nat.reduceSub, Nat.reduceDiv, Nat.reduceMod, ↓reduceIte]
    rw [hr_X m hm _ 8 0 5000 _ ν (by omega) (by omega) (by simp -implicitDefEqProofs (disch := omega) only [ev_b, ev_b2, ev_g, ev_gF, ev_on, ev_os, ev_cl, ev_in, ev_in6, ev_eq0, ev_lt0, ev_0le, ev_le0, ev_0lt, ev_lt, ev_le, ev_eq, ev_m1a, ev_m1b, ev_m1c, ev_m1d, ev_m1e, ev_n1, ev_n4, ev_n8, ev_n9, ev_n10, ev_n11, ev_n12, ev_n13, ev_n14, ev_n15, ev_n16, ev_n17, ev_n59, ev_n60, ev_n61, ev_n62, ev_n63, ev_n64, ev_n65, ev_n66, ev_n67, ev_n68, ev_n69, ev_n70, ev_n71, ev_n72, ev_n73, ev_n74, ev_n75, ev_n76, ev_n77, ev_n78, ev_n79, ev_n80, ev_k18, ev_k34, ev_k40, ev_n26, ev_n26b, ev_n46, ev_n46b, ev_n52b, ev_uq, ev_us, ev_uj, ev_lq, ev_ls, ev_lj, ev_urq, ev_urs, ev_ulq, ev_uls, nI_add, pk_sub, pk_mul, if_true, if_false, ite_true, ite_false, decide_true, decide_false, eq_self_iff_true, Nat.reduceEqDiff, Nat.reduceLeDiff, Nat.reduceLT, Nat.reduceAdd, Nat.reduceMul, Nat.reduceSub, Nat.reduceDiv, Nat.reduceMod, ↓reduceIte]) (fun t _ t2 => by rw [ev_uq (by omega), ev_uq (by omega), ev_uq (by omega), k1 _ (by omega) (by omega)]; exact ok t t2)]
    simp -implicitDefEqProofs (disch := omega) only [hX, false_and, ev_b, ev_b2, ev_g, ev_gF, ev_on, ev_os, ev_cl, ev_in, ev_in6, ev_eq0, ev_lt0, ev_0le, ev_le0, ev_0lt, ev_lt, ev_le, ev_eq, ev_m1a, ev_m1b, ev_m1c, ev_m1d, ev_m1e, ev_n1, ev_n4, ev_n8, ev_n9, ev_n10, ev_n11, ev_n12, ev_n13, ev_n14, ev_n15, ev_n16, ev_n17, ev_n59, ev_n60, ev_n61, ev_n62, ev_n63, ev_n64, ev_n65, ev_n66, ev_n67, ev_n68, ev_n69, ev_n70, ev_n71, ev_n72, ev_n73, ev_n74, ev_n75, ev_n76, ev_n77, ev_n78, ev_n79, ev_n80, ev_k18, ev_k34, ev_k40, ev_n26, ev_n26b, ev_n46, ev_n46b, ev_n52b, ev_uq, ev_us, ev_uj, ev_lq, ev_ls, ev_lj, ev_urq, ev_urs, ev_ulq, ev_uls, nI_add, pk_sub, pk_mul, if_true, if_false, ite_true, ite_false, decide_true, decide_false, eq_self_iff_true, Nat.reduceEqDiff, Nat.reduceLeDiff, Nat.reduceLT, Nat.reduceAdd, Nat.reduceMul, Nat.reduceSub, Nat.reduceDiv, Nat.reduceMod, ↓reduceIte]
  have KX : ∀ q, q ≠ 0 → ¬ (18 ≤ q ∧ q ≤ 25) → ¬ (34 ≤ q ∧ q ≤ 39) → ¬ (46 ≤ q ∧ q ≤ 51) → hX m 0 (fm_u (fm_u (fm_u μ1 0 7 (nI m)) 0 8 (μ 0 11)) 0 9 (μ 0 12)) q = μ q := fun q q1 q2 q3 q4 => by
    funext j
    rw [hX, if_neg (by omega), ev_uq q1, ev_uq q1, ev_uq q1, k1 q q3 q4]
  obtain ⟨μ2, e2, k2, l2, y1, y2, y3, y4, y5⟩ := all_I 75 (Or.inr rfl) (hX m 0 (fm_u (fm_u (fm_u μ1 0 7 (nI m)) 0 8 (μ 0 11)) 0 9 (μ 0 12))) ν
  have r75 := KX 75 (by omega) (by omega) (by omega) (by omega)
  have e58 : μ2 58 0 = nI m := by rw [y3, r75]; exact i3
  have B : m_X6_restore (hX m 0 (fm_u (fm_u (fm_u μ1 0 7 (nI m)) 0 8 (μ 0 11)) 0 9 (μ 0 12))) ν = some (nI m, hM m 0 μ2, ν) := by
    rw [m_X6_restore, KX 58 (by omega) (by omega) (by omega) (by omega), i2, if_neg (by decide), e2, ev_b, hr_M m hm _ 8 0 5000 μ2 ν (by omega) (by omega) e58]
    simp -implicitDefEqProofs (disch := omega) only [hM, false_and, e58, ev_b, ev_b2, ev_g, ev_gF, ev_on, ev_os, ev_cl, ev_in, ev_in6, ev_eq0, ev_lt0, ev_0le, ev_le0, ev_0lt, ev_lt, ev_le, ev_eq, ev_m1a, ev_m1b, ev_m1c, ev_m1d, ev_m1e, ev_n1, ev_n4, ev_n8, ev_n9, ev_n10, ev_n11, ev_n12, ev_n13, ev_n14, ev_n15, ev_n16, ev_n17, ev_n59, ev_n60, ev_n61, ev_n62, ev_n63, ev_n64, ev_n65, ev_n66, ev_n67, ev_n68, ev_n69, ev_n70, ev_n71, ev_n72, ev_n73, ev_n74, ev_n75, ev_n76, ev_n77, ev_n78, ev_n79, ev_n80, ev_k18, ev_k34, ev_k40, ev_n26, ev_n26b, ev_n46, ev_n46b, ev_n52b, ev_uq, ev_us, ev_uj, ev_lq, ev_ls, ev_lj, ev_urq, ev_urs, ev_ulq, ev_uls, nI_add, pk_sub, pk_mul, if_true, if_false, ite_true, ite_false, decide_true, decide_false, eq_self_iff_true, Nat.reduceEqDiff, Nat.reduceLeDiff, Nat.reduceLT, Nat.reduceAdd, Nat.reduceMul, Nat.reduceSub, Nat.reduceDiv, Nat.reduceMod, ↓reduceIte]
  have H : ∀ q, q ≠ 66 → hM m 0 μ2 q = μ2 q := fun q hq => by
    funext j
    rw [hM, if_neg (fun z => hq z.1)]
  have K : ∀ q, q ≠ 0 → q ≠ 58 → q ≠ 66 → ¬ (18 ≤ q ∧ q ≤ 25) → ¬ (34 ≤ q ∧ q ≤ 39) → ¬ (46 ≤ q ∧ q ≤ 51) → ¬ (60 ≤ q ∧ q ≤ 65) → hM m 0 μ2 q = μ q := fun q q1 q2 q3 q4 q5 q6 q7 => by rw [H q q3, k2 q q2 q7, KX q q1 q4 q5 q6]
  have K0 : hM m 0 μ2 0 = fm_u (fm_u (fm_u μ1 0 7 (nI m)) 0 8 (μ 0 11)) 0 9 (μ 0 12) 0 := by
    rw [H 0 (by omega), k2 0 (by omega) (by omega)]
    funext j
    rw [hX, if_neg (by omega)]
  have KB : ∀ b, b < 6 → hM m 0 μ2 (34 + b) = μ1 (34 + b) ∧ hM m 0 μ2 (34 + b + 12) = μ1 (34 + b + 12) := fun b hb => by
    constructor
    · rw [H _ (by omega), k2 _ (by omega) (by omega)]
      funext j
      rw [hX, if_neg (by omega), ev_uq (by omega), ev_uq (by omega), ev_uq (by omega)]
    · rw [H _ (by omega), k2 _ (by omega) (by omega)]
      funext j
      rw [hX, if_neg (by omega), ev_uq (by omega), ev_uq (by omega), ev_uq (by omega)]
  have K58 : ∀ k, 3 ≤ k → hM m 0 μ2 58 k = μ 58 k := fun k hk => by rw [H 58 (by omega), l2 k hk, KX 58 (by omega) (by omega) (by omega) (by omega)]
  refine op_mk X B ⟨m, FI, ⟨hm, ?_, ?_⟩, fun b hb => ?_, fun b hb => ?_, ⟨?_, ?_, ?_⟩, fun k hk => ?_, fun s hs => ?_, ?_, ?_, fun i hi => ?_⟩
  · rw [K0, ev_uj (by omega), ev_uj (by omega), ev_us]
  · rw [H 58 (by omega)]; exact e58
  · obtain ⟨a1, a2, a3⟩ := i6 b hb
    obtain ⟨z0, z1, z2, z3, z4, z5⟩ := a3
    obtain ⟨w0, w1, w2, w3, w4⟩ := y1 b (by omega)
    refine ⟨a1, kp_X (x1 b hb) (KB b (by omega)).1 (KB b (by omega)).2, ?_, ?_, ?_, ?_, ?_, fun i hi => ?_⟩
    · rw [H 60 (by omega), w0, r75]; exact z0
    · rw [H 61 (by omega), w1, r75]; exact z1
    · rw [H 62 (by omega), w2, r75]; exact z2
    · rw [H 63 (by omega), w3, r75]; exact z3
    · rw [H 64 (by omega), w4, r75]; exact z4
    · rw [H 65 (by omega), y2 _ (by omega), r75]; exact z5 i hi
  · rw [(KB b hb).1, n1 b hb]; exact h3 b hb
  · rw [H 58 (by omega), y5, r75, i5, K0, ev_uj (by omega), ev_us]
  · rw [H 58 (by omega), y4, r75, i4, K0, ev_us]
  · rw [K58 3 (by omega), K0, ev_uj (by omega), ev_uj (by omega), ev_uj (by omega), m0]; exact h4.2.2
  · rw [K 59 (by omega) (by omega) (by omega) (by omega) (by omega) (by omega) (by omega), K 4 (by omega) (by omega) (by omega) (by omega) (by omega) (by omega) (by omega)]; exact h5 k hk
  · refine rs_S hn hm (h6 s hs) hs (fun q q1 q2 => by rw [K q (by omega) (by omega) (by omega) (by omega) (by omega) (by omega) (by omega)]) ?_ ?_ ?_
    · unfold hM
      have q66 : μ2 66 = μ 66 := by rw [k2 66 (by omega) (by omega), KX 66 (by omega) (by omega) (by omega) (by omega)]
      have q69 : μ2 69 = μ 69 := by rw [k2 69 (by omega) (by omega), KX 69 (by omega) (by omega) (by omega) (by omega)]
      rw [q66, q69]
      by_cases z : μ 66 s = nI 2 ∧ ¬ μ 69 s < nI m
      · rw [if_pos z, if_pos ⟨rfl, by omega, hs, z⟩]
      · rw [if_neg z, if_neg (fun w => z w.2.2.2)]
    · rw [H _ (by omega), k2 _ (by omega) (by omega), hX, if_neg (by omega), ev_uq (by omega), ev_uq (by omega), ev_uq (by omega), k1 _ (by omega) (by omega)]
    · rw [H _ (by omega), k2 _ (by omega) (by omega), hX, ev_uq (by omega), ev_uq (by omega), ev_uq (by omega), k1 _ (by omega) (by omega)]
      by_cases z : nI m ≤ μ (18 + s) 0 ∧ μ (18 + s) 0 < nI 100
      · rw [if_pos z, if_pos ⟨by omega, by omega, rfl, z⟩]
      · rw [if_neg z, if_neg (fun w => z w.2.2.2)]
  · exact kp_T h7 (by rw [K 7 (by omega) (by omega) (by omega) (by omega) (by omega) (by omega) (by omega)]) (K58 32 (by omega)) (K 80 (by omega) (by omega) (by omega) (by omega) (by omega) (by omega) (by omega)) (K 8 (by omega) (by omega) (by omega) (by omega) (by omega) (by omega) (by omega))
  · exact kp_I (Or.inr ⟨m, FI, hm, i1, i2, i3, i4, i5, i6⟩) (fun k k1 k2 => by rw [K0, ev_uj (by omega), ev_uj (by omega), ev_uj (by omega), m0]) (K58 33 (by omega)) (K 75 (by omega) (by omega) (by omega) (by omega) (by omega) (by omega) (by omega)) (fun b hb => ⟨K _ (by omega) (by omega) (by omega) (by omega) (by omega) (by omega) (by omega), K _ (by omega) (by omega) (by omega) (by omega) (by omega) (by omega) (by omega)⟩)
  · rw [K 72 (by omega) (by omega) (by omega) (by omega) (by omega) (by omega) (by omega)]; exact h9 i hi
