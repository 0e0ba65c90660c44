/-! HOOKS of two pieces: half of a sum of crossings -/
def hC (R : Nat → Nat) (p q i j : Nat) : Prop := (R i = p ∧ R j = q) ∨ (R i = q ∧ R j = p)
theorem hC_s {R : Nat → Nat} {p q i j : Nat} : hC R p q i j ↔ hC R q p i j := ⟨fun h => Or.symm h, fun h => Or.symm h⟩
noncomputable def hA1 (R : Nat → Nat) (X : Nat → Nat → Int32) (p q i j : Nat) (v : Int32) : Int32 := if R i = p ∧ R j = q then v + X i j else if R i = q ∧ R j = p then v + X i j else v
theorem hA_s (R : Nat → Nat) (X : Nat → Nat → Int32) (p q i j : Nat) (v : Int32) : hA1 R X p q i j v = hA1 R X q p i j v := by
  unfold hA1
  by_cases c : R i = p ∧ R j = q
  · rw [if_pos c]
    by_cases d : R i = q ∧ R j = p
    · rw [if_pos d]
    · rw [if_neg d, if_pos c]
  · rw [if_neg c]
    by_cases d : R i = q ∧ R j = p
    · rw [if_pos d, if_pos d]
    · rw [if_neg d, if_neg d, if_neg c]
noncomputable def hJ (R : Nat → Nat) (X : Nat → Nat → Int32) (p q i : Nat) : Nat → Nat → Int32 → Int32
  | 0, _, v => v
  | d + 1, j, v => hJ R X p q i d (j + 1) (hA1 R X p q i j v)
noncomputable def hI (R : Nat → Nat) (X : Nat → Nat → Int32) (p q n : Nat) : Nat → Nat → Int32 → Int32
  | 0, _, v => v
  | d + 1, i, v => hI R X p q n d (i + 1) (hJ R X p q i (n - (i + 1)) (i + 1) v)
theorem hJ_s (R : Nat → Nat) (X : Nat → Nat → Int32) (p q i : Nat) : ∀ (d j : Nat) (v : Int32), hJ R X p q i d j v = hJ R X q p i d j v := by
  intro d
  induction d with
  | zero => intro j v; rfl
  | succ d ih => intro j v; rw [hJ, hJ, hA_s, ih]
theorem hI_s (R : Nat → Nat) (X : Nat → Nat → Int32) (p q n : Nat) : ∀ (d i : Nat) (v : Int32), hI R X p q n d i v = hI R X q p n d i v := by
  intro d
  induction d with
  | zero => intro i v; rfl
  | succ d ih => intro i v; rw [hI, hI, hJ_s, ih]
/-- HOOKS of the pieces p, q -/
noncomputable def hk (k n a s t p q : Nat) : Int32 := hI (pR k n a (t % 2)) (xv k n a s t) p q n n 0 (nI 0) / nI 2
theorem hk_s (k n a s t p q : Nat) : hk k n a s t p q = hk k n a s t q p := by
  unfold hk
  rw [hI_s]
/-! the class's table of crossings -/
theorem kp_cX {k n a s t : Nat} {μ μ' : fm_I} (h : zX k n a s t μ) (e : ∀ q, q = 5 ∨ q = 9 ∨ q = 10 ∨ q = 11 → μ' q = μ q) : zX k n a s t μ' := by
  unfold zX at *
  rw [e 5 (by omega), e 9 (by omega), e 10 (by omega), e 11 (by omega)]
  exact h
theorem pair_X {k n a s t p q : Nat} (ok : okP k n a s t) {μ : fm_I} (h : zX k n a s t μ) (hp : p < pC k n a (t % 2)) (hq : q < pC k n a (t % 2)) (ν : fm_L) : m_X1_pair (nI p) (nI q) μ ν = some (nI (min p q * 12 + max p q)) := by
  have cc := pC_le ok
  rcases Nat.lt_or_ge p q with c | c
  · have k1 : (p < q) = True := eq_true c
    have k2 : (q < p) = False := eq_false (by omega)
    have k3 : min p q = p := by omega
    have k4 : max p q = q := by omega
    simp -implicitDefEqProofs (disch := omega) only [m_X1_pair, has_X ok h hp, has_X ok h hq, k1, k2, k3, k4, ev_b, ev_b2, ev_g, ev_gF, ev_on, ev_os, ev_cl, ev_in, ev_in6, ev_eq0, ev_lt0, ev_0le, ev_le0, ev_0lt, ev_lt, ev_le, ev_eq, ev_m1a, ev_m1b, ev_m1c, ev_m1d, ev_m1e, ev_n1, ev_n4, ev_n8, ev_n9, ev_n10, ev_n11, ev_n12, ev_n13, ev_n14, ev_n15, ev_n16, ev_n17, ev_n59, ev_n60, ev_n61, ev_n62, ev_n63, ev_n64, ev_n65, ev_n66, ev_n67, ev_n68, ev_n69, ev_n70, ev_n71, ev_n72, ev_n73, ev_n74, ev_n75, ev_n76, ev_n77, ev_n78, ev_n79, ev_n80, ev_k18, ev_k34, ev_k40, ev_n26, ev_n26b, ev_n46, ev_n46b, ev_n52b, ev_uq, ev_us, ev_uj, ev_lq, ev_ls, ev_lj, ev_urq, ev_urs, ev_ulq, ev_uls, nI_add, pk_sub, pk_mul, if_true, if_false, ite_true, ite_false, decide_true, decide_false, eq_self_iff_true, Nat.reduceEqDiff, Nat.reduceLeDiff, Nat.reduceLT, Nat.reduceAdd, Nat.reduceMul, Nat.reduceSub, Nat.reduceDiv, Nat.reduceMod, ↓reduceIte]
  · have k1 : (p < q) = False := eq_false (by omega)
    have k3 : min p q = q := by omega
    have k4 : max p q = p := by omega
    rcases (by omega : q < p ∨ q = p) with e | e
    · have k2 : (q < p) = True := eq_true e
      simp -implicitDefEqProofs (disch := omega) only [m_X1_pair, has_X ok h hp, has_X ok h hq, k1, k2, k3, k4, ev_b, ev_b2, ev_g, ev_gF, ev_on, ev_os, ev_cl, ev_in, ev_in6, ev_eq0, ev_lt0, ev_0le, ev_le0, ev_0lt, ev_lt, ev_le, ev_eq, ev_m1a, ev_m1b, ev_m1c, ev_m1d, ev_m1e, ev_n1, ev_n4, ev_n8, ev_n9, ev_n10, ev_n11, ev_n12, ev_n13, ev_n14, ev_n15, ev_n16, ev_n17, ev_n59, ev_n60, ev_n61, ev_n62, ev_n63, ev_n64, ev_n65, ev_n66, ev_n67, ev_n68, ev_n69, ev_n70, ev_n71, ev_n72, ev_n73, ev_n74, ev_n75, ev_n76, ev_n77, ev_n78, ev_n79, ev_n80, ev_k18, ev_k34, ev_k40, ev_n26, ev_n26b, ev_n46, ev_n46b, ev_n52b, ev_uq, ev_us, ev_uj, ev_lq, ev_ls, ev_lj, ev_urq, ev_urs, ev_ulq, ev_uls, nI_add, pk_sub, pk_mul, if_true, if_false, ite_true, ite_false, decide_true, decide_false, eq_self_iff_true, Nat.reduceEqDiff, Nat.reduceLeDiff, Nat.reduceLT, Nat.reduceAdd, Nat.reduceMul, Nat.reduceSub, Nat.reduceDiv, Nat.reduceMod, ↓reduceIte]
    · subst e
      simp -implicitDefEqProofs (disch := omega) only [m_X1_pair, has_X ok h hp, k1, k3, k4, ev_b, ev_b2, ev_g, ev_gF, ev_on, ev_os, ev_cl, ev_in, ev_in6, ev_eq0, ev_lt0, ev_0le, ev_le0, ev_0lt, ev_lt, ev_le, ev_eq, ev_m1a, ev_m1b, ev_m1c, ev_m1d, ev_m1e, ev_n1, ev_n4, ev_n8, ev_n9, ev_n10, ev_n11, ev_n12, ev_n13, ev_n14, ev_n15, ev_n16, ev_n17, ev_n59, ev_n60, ev_n61, ev_n62, ev_n63, ev_n64, ev_n65, ev_n66, ev_n67, ev_n68, ev_n69, ev_n70, ev_n71, ev_n72, ev_n73, ev_n74, ev_n75, ev_n76, ev_n77, ev_n78, ev_n79, ev_n80, ev_k18, ev_k34, ev_k40, ev_n26, ev_n26b, ev_n46, ev_n46b, ev_n52b, ev_uq, ev_us, ev_uj, ev_lq, ev_ls, ev_lj, ev_urq, ev_urs, ev_ulq, ev_uls, nI_add, pk_sub, pk_mul, if_true, if_false, ite_true, ite_false, decide_true, decide_false, eq_self_iff_true, Nat.reduceEqDiff, Nat.reduceLeDiff, Nat.reduceLT, Nat.reduceAdd, Nat.reduceMul, Nat.reduceSub, Nat.reduceDiv, Nat.reduceMod, ↓reduceIte]
theorem cnt_22 {k n a s t i : Nat} (ok : okP k n a s t) (hi : i < n) (K : fm_I → fm_L → Option (fm_I × fm_L)) : ∀ (d j fuel : Nat) (A : Nat → Nat → Int32) (μ : fm_I) (ν : fm_L), j + d = n → d < fuel → i < j → zX k n a s t μ → (∀ p q, p < q → q < pC k n a (t % 2) → μ 12 (12 * p + q) = A p q) → ∃ μ', m_X1_countCrossings_22 (nI i) K fuel (nI j) μ ν = K μ' ν ∧ (∀ q, q ≠ 12 → μ' q = μ q) ∧ ∀ p q, p < q → q < pC k n a (t % 2) → μ' 12 (12 * p + q) = hJ (pR k n a (t % 2)) (xv k n a s t) p q i d j (A p q) := by
  have cc := pC_le ok
  intro d
  induction d with
  | zero =>
    intro j fuel A μ ν hj hf hij h hA
    obtain ⟨f, rfl⟩ : ∃ j, fuel = j + 1 := ⟨fuel - 1, by omega⟩
    refine ⟨μ, ?_, fun _ _ => rfl, fun p q hp hq => hA p q hp hq⟩
    rw [m_X1_countCrossings_22, h.1, if_pos (le_i (by omega) (by omega))]
  | succ d ih =>
    intro j fuel A μ ν hj hf hij h hA
    obtain ⟨f, rfl⟩ : ∃ j, fuel = j + 1 := ⟨fuel - 1, by omega⟩
    have r1 := cc.2.2 i hi
    have r2 := cc.2.2 j (by omega)
    have P := pair_X ok h r1 r2 ν
    obtain ⟨μ', q1, q2, q3⟩ := ih (j + 1) f (fun p q => hA1 (pR k n a (t % 2)) (xv k n a s t) p q i j (A p q)) (fm_u μ 12 (min (pR k n a (t % 2) i) (pR k n a (t % 2) j) * 12 + max (pR k n a (t % 2) i) (pR k n a (t % 2) j)) (μ 12 (min (pR k n a (t % 2) i) (pR k n a (t % 2) j) * 12 + max (pR k n a (t % 2) i) (pR k n a (t % 2) j)) + xv k n a s t i j)) ν (by omega) (by omega) (by omega) (kp_cX h (fun q hq => ev_uq (by omega))) (fun p q hp hq => by
      rw [ev_u]
      unfold hA1
      by_cases c : pR k n a (t % 2) i = p ∧ pR k n a (t % 2) j = q
      · have z : 12 * p + q = min (pR k n a (t % 2) i) (pR k n a (t % 2) j) * 12 + max (pR k n a (t % 2) i) (pR k n a (t % 2) j) := by omega
        rw [if_pos c, if_pos ⟨rfl, z⟩, ← z, hA p q hp hq]
      · rw [if_neg c]
        by_cases e : pR k n a (t % 2) i = q ∧ pR k n a (t % 2) j = p
        · have z : 12 * p + q = min (pR k n a (t % 2) i) (pR k n a (t % 2) j) * 12 + max (pR k n a (t % 2) i) (pR k n a (t % 2) j) := by omega
          rw [if_pos e, if_pos ⟨rfl, z⟩, ← z, hA p q hp hq]
        · rw [if_neg e, if_neg (fun z => by have := z.2; omega), hA p q hp hq])
    refine ⟨μ', ?_, fun q hq => by rw [q2 q hq, ev_uq hq], fun p q hp hq => by rw [q3 p q hp hq, hJ]⟩
    rw [m_X1_countCrossings_22, h.1, if_neg (nle_i (by omega) (by omega)), ev_in (by rw [ev_n10]; omega) (by omega), ev_g, ev_in (by rw [ev_n10]; omega) (by omega), ev_g, ev_cl (k := i) (by omega), ev_cl (k := j) (by omega), h.2.2.2.2.1 i hi, h.2.2.2.2.1 j (by omega), P, ev_b, ev_in (by rw [ev_n12]; omega) (by omega), ev_g, (crs_X ok h hij (by omega) ν).1, ev_b, ev_cl (by omega), nI_add]
    exact q1
theorem cnt_10 {k n a s t : Nat} (ok : okP k n a s t) (K : fm_I → fm_L → Option (fm_I × fm_L)) : ∀ (d i fuel : Nat) (A : Nat → Nat → Int32) (μ : fm_I) (ν : fm_L), i + d = n → d < fuel → zX k n a s t μ → (∀ p q, p < q → q < pC k n a (t % 2) → μ 12 (12 * p + q) = A p q) → ∃ μ', m_X1_countCrossings_10 K fuel (nI i) μ ν = K μ' ν ∧ (∀ q, q ≠ 12 → μ' q = μ q) ∧ ∀ p q, p < q → q < pC k n a (t % 2) → μ' 12 (12 * p + q) = hI (pR k n a (t % 2)) (xv k n a s t) p q n d i (A p q) := by
  have cc := pC_le ok
  intro d
  induction d with
  | zero =>
    intro i fuel A μ ν hi hf h hA
    obtain ⟨f, rfl⟩ : ∃ j, fuel = j + 1 := ⟨fuel - 1, by omega⟩
    refine ⟨μ, ?_, fun _ _ => rfl, fun p q hp hq => hA p q hp hq⟩
    rw [m_X1_countCrossings_10, h.1, if_pos (le_i (by omega) (by omega))]
  | succ d ih =>
    intro i fuel A μ ν hi hf h hA
    obtain ⟨f, rfl⟩ : ∃ j, fuel = j + 1 := ⟨fuel - 1, by omega⟩
    obtain ⟨μ1, g1, g2, g3⟩ := cnt_22 ok (show i < n by omega) (fun μ22 ν22 => m_X1_countCrossings_10 K f (nI (i + 1)) μ22 ν22) (n - (i + 1)) (i + 1) 5000 A μ ν (by omega) (by omega) (by omega) h hA
    obtain ⟨μ', q1, q2, q3⟩ := ih (i + 1) f (fun p q => hJ (pR k n a (t % 2)) (xv k n a s t) p q i (n - (i + 1)) (i + 1) (A p q)) μ1 ν (by omega) (by omega) (kp_cX h (fun q hq => g2 q (by omega))) g3
    refine ⟨μ', ?_, fun q hq => by rw [q2 q hq, g2 q hq], fun p q hp hq => by rw [q3 p q hp hq, hI]⟩
    rw [m_X1_countCrossings_10, h.1, if_neg (nle_i (by omega) (by omega)), nI_add]
    exact g1.trans q1
def tbX (k n a s t : Nat) (μ : fm_I) : Prop := ∀ p q, p < q → q < pC k n a (t % 2) → μ 12 (12 * p + q) = hI (pR k n a (t % 2)) (xv k n a s t) p q n n 0 (nI 0)
theorem cnt_X {k n a s t : Nat} (ok : okP k n a s t) {μ : fm_I} (ν : fm_L) (h : zX k n a s t μ) : ∃ μ', m_X1_countCrossings μ ν = some (μ', ν) ∧ (∀ q, q ≠ 12 → μ' q = μ q) ∧ tbX k n a s t μ' := by
  have cc := pC_le ok
  have e5 : ∀ q, q ≠ 12 → fm_ur μ 12 (fun j => if j < 144 then nI 0 else μ 12 j) q = μ q := fun q hq => ev_urq hq
  obtain ⟨μ', q1, q2, q3⟩ := cnt_10 ok (fun μ10 ν10 => some (μ10, ν10)) n 0 5000 (fun _ _ => nI 0) (fm_ur μ 12 (fun j => if j < 144 then nI 0 else μ 12 j)) ν (by omega) (by omega) (kp_cX h (fun q hq => e5 q (by omega))) (fun p q hp hq => by rw [ev_urs, if_pos (by omega)])
  refine ⟨μ', ?_, fun q hq => by rw [q2 q hq, e5 q hq], q3⟩
  rw [m_X1_countCrossings, fill_I 12 (nI 0) 144 ev_n12 (by decide) (by decide), ev_b]
  exact q1
theorem hc_X {k n a s t p q : Nat} (ok : okP k n a s t) {μ : fm_I} (ν : fm_L) (h : zX k n a s t μ) (ht : tbX k n a s t μ) (hp : p < pC k n a (t % 2)) (hq : q < pC k n a (t % 2)) (hn : p ≠ q) : m_X1_hooksCounted (nI p) (nI q) μ ν = some (hk k n a s t p q) := by
  have cc := pC_le ok
  rw [m_X1_hooksCounted, pair_X ok h hp hq, ev_b, ev_in (by rw [ev_n12]; omega) (by omega), ev_g, ev_cl (by omega)]
  rcases (by omega : p < q ∨ q < p) with c | c
  · rw [show min p q * 12 + max p q = 12 * p + q by omega, ht p q c hq]
    rfl
  · rw [show min p q * 12 + max p q = 12 * q + p by omega, ht q p c hp, hk_s]
    rfl
/-! the reference's -/
theorem hkd_23 {b k n a s t i p q : Nat} (ok : okP k n a s t) (hb : b < 6) (hi : i < n) (hp : p < 12) (hq : q < 12) {μ : fm_I} (ν : fm_L) (h : bM k n a s t b μ) (h2 : zM k n a t μ) (K : Int32 → Option Int32) : ∀ (d j fuel : Nat) (v : Int32), j + d = n → d < fuel → i < j → m_X6_hooked_23 (nI b) (nI p) (nI q) (nI i) μ ν K fuel v (nI j) = K (hJ (pR k n a (t % 2)) (xv k n a s t) p q i d j v) := by
  have cc := pC_le ok
  intro d
  induction d with
  | zero =>
    intro j fuel v hj hf hij
    obtain ⟨f, rfl⟩ : ∃ j, fuel = j + 1 := ⟨fuel - 1, by omega⟩
    rw [m_X6_hooked_23, ev_in (by rw [ev_n62]; omega) (by omega), ev_g, ev_cl (by omega), h.2.2.1, if_pos (le_i (by omega) (by omega))]
    rfl
  | succ d ih =>
    intro j fuel v hj hf hij
    obtain ⟨f, rfl⟩ : ∃ j, fuel = j + 1 := ⟨fuel - 1, by omega⟩
    have r1 := cc.2.2 i hi
    have r2 := cc.2.2 j (by omega)
    have C := crs_M ok hb h hi (show j < n by omega) ν
    rw [hJ, ← ih (j + 1) f _ (by omega) (by omega) (by omega), m_X6_hooked_23, ev_in (by rw [ev_n62]; omega) (by omega), ev_g, ev_cl (k := b) (by omega), h.2.2.1, if_neg (nle_i (by omega) (by omega)), ev_in (by rw [ev_n76]; omega) (by omega), ev_g, ev_in (k := j) (by rw [ev_n76]; omega) (by omega), ev_g, ev_g, ev_cl (k := i) (by omega), ev_cl (k := j) (by omega), h2.1 i hi, h2.1 j (by omega), C, ev_b, nI_add]
    unfold hA1
    have m1 := ev_eq (a := pR k n a (t % 2) i) (b := p) (by omega) (by omega)
    have m2 := ev_eq (a := pR k n a (t % 2) j) (b := q) (by omega) (by omega)
    have m3 := ev_eq (a := pR k n a (t % 2) i) (b := q) (by omega) (by omega)
    have m4 := ev_eq (a := pR k n a (t % 2) j) (b := p) (by omega) (by omega)
    by_cases a1 : pR k n a (t % 2) i = p
    · rw [if_pos (m1.mpr a1)]
      by_cases a2 : pR k n a (t % 2) j = q
      · rw [if_pos (m2.mpr a2), if_pos ⟨a1, a2⟩]
      · rw [if_neg (fun z => a2 (m2.mp z)), if_neg (show ¬ (pR k n a (t % 2) i = p ∧ pR k n a (t % 2) j = q) from fun z => a2 z.2)]
        by_cases a3 : pR k n a (t % 2) i = q
        · rw [if_pos (m3.mpr a3)]
          by_cases a4 : pR k n a (t % 2) j = p
          · rw [if_pos (m4.mpr a4), if_pos ⟨a3, a4⟩]
          · rw [if_neg (fun z => a4 (m4.mp z)), if_neg (show ¬ (pR k n a (t % 2) i = q ∧ pR k n a (t % 2) j = p) from fun z => a4 z.2)]
        · rw [if_neg (fun z => a3 (m3.mp z)), if_neg (show ¬ (pR k n a (t % 2) i = q ∧ pR k n a (t % 2) j = p) from fun z => a3 z.1)]
    · rw [if_neg (fun z => a1 (m1.mp z)), if_neg (show ¬ (pR k n a (t % 2) i = p ∧ pR k n a (t % 2) j = q) from fun z => a1 z.1)]
      by_cases a3 : pR k n a (t % 2) i = q
      · rw [if_pos (m3.mpr a3)]
        by_cases a4 : pR k n a (t % 2) j = p
        · rw [if_pos (m4.mpr a4), if_pos ⟨a3, a4⟩]
        · rw [if_neg (fun z => a4 (m4.mp z)), if_neg (show ¬ (pR k n a (t % 2) i = q ∧ pR k n a (t % 2) j = p) from fun z => a4 z.2)]
      · rw [if_neg (fun z => a3 (m3.mp z)), if_neg (show ¬ (pR k n a (t % 2) i = q ∧ pR k n a (t % 2) j = p) from fun z => a3 z.1)]
theorem hkd_6 {b k n a s t p q : Nat} (ok : okP k n a s t) (hb : b < 6) (hp : p < 12) (hq : q < 12) {μ : fm_I} (ν : fm_L) (h : bM k n a s t b μ) (h2 : zM k n a t μ) (K : Int32 → Option Int32) : ∀ (d i fuel : Nat) (v : Int32), i + d = n → d < fuel → m_X6_hooked_6 (nI b) (nI p) (nI q) μ ν K fuel v (nI i) = K (hI (pR k n a (t % 2)) (xv k n a s t) p q n d i v) := by
  have cc := pC_le ok
  intro d
  induction d with
  | zero =>
    intro i fuel v hi hf
    obtain ⟨f, rfl⟩ : ∃ j, fuel = j + 1 := ⟨fuel - 1, by omega⟩
    rw [m_X6_hooked_6, ev_in (by rw [ev_n62]; omega) (by omega), ev_g, ev_cl (by omega), h.2.2.1, if_pos (le_i (by omega) (by omega))]
    rfl
  | succ d ih =>
    intro i fuel v hi hf
    obtain ⟨f, rfl⟩ : ∃ j, fuel = j + 1 := ⟨fuel - 1, by omega⟩
    rw [m_X6_hooked_6, ev_in (by rw [ev_n62]; omega) (by omega), ev_g, ev_cl (by omega), h.2.2.1, if_neg (nle_i (by omega) (by omega)), nI_add, hkd_23 ok hb (show i < n by omega) hp hq ν h h2 _ (n - (i + 1)) (i + 1) 5000 v (by omega) (by omega) (by omega), hI]
    exact ih (i + 1) f _ (by omega) (by omega)
theorem hkd_M {b k n a s t p q : Nat} (ok : okP k n a s t) (hb : b < 6) (hp : p < 12) (hq : q < 12) {μ : fm_I} (ν : fm_L) (h : bM k n a s t b μ) (h2 : zM k n a t μ) : m_X6_hooked (nI b) (nI p) (nI q) μ ν = some (hk k n a s t p q) := by
  have cc := pC_le ok
  rw [m_X6_hooked, hkd_6 ok hb hp hq ν h h2 _ n 0 5000 (nI 0) (by omega) (by omega)]
  rfl
theorem kp_bM {k n a s t b : Nat} {μ μ' : fm_I} (h : bM k n a s t b μ) (e : ∀ q, 60 ≤ q → q ≤ 64 → μ' q = μ q) : bM k n a s t b μ' := by
  unfold bM at *
  rw [e 60 (by omega) (by omega), e 61 (by omega) (by omega), e 62 (by omega) (by omega), e 63 (by omega) (by omega), e 64 (by omega) (by omega)]
  exact h
theorem kp_cM {k n a t : Nat} {μ μ' : fm_I} (h : zM k n a t μ) (e : ∀ q, q = 58 ∨ q = 76 ∨ q = 77 → μ' q = μ q) : zM k n a t μ' := by
  unfold zM at *
  rw [e 58 (by omega), e 76 (by omega), e 77 (by omega)]
  exact h
