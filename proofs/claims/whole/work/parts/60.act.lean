/-! ACTS AND THEIR TRACE -/
def tX (r x : Nat) (μ : fm_I) : fm_I := fm_u (fm_u μ 8 r (nI x)) 7 1 (nI (r + 1))
def tM (r x : Nat) (μ : fm_I) : fm_I := fm_u (fm_u μ 80 r (nI x)) 58 32 (nI (r + 1))
def tXl : List Nat → Nat → fm_I → fm_I
  | [], _, μ => μ
  | x :: l, r, μ => tXl l (r + 1) (tX r x μ)
def tMl : List Nat → Nat → fm_I → fm_I
  | [], _, μ => μ
  | x :: l, r, μ => tMl l (r + 1) (tM r x μ)
theorem tX_n {r x : Nat} {μ : fm_I} : tX r x μ 7 1 = nI (r + 1) := by unfold tX; rw [ev_us]
theorem tX_q {r x q : Nat} {μ : fm_I} (h : q ≠ 7) (h2 : q ≠ 8) : tX r x μ q = μ q := by unfold tX; rw [ev_uq h, ev_uq h2]
theorem tM_n {r x : Nat} {μ : fm_I} : tM r x μ 58 32 = nI (r + 1) := by unfold tM; rw [ev_us]
theorem tM_q {r x q : Nat} {μ : fm_I} (h : q ≠ 58) (h2 : q ≠ 80) : tM r x μ q = μ q := by unfold tM; rw [ev_uq h, ev_uq h2]
theorem tM_j {r x j : Nat} {μ : fm_I} (h : j ≠ 32) : tM r x μ 58 j = μ 58 j := by unfold tM; rw [ev_uj h, ev_uq (by decide)]
theorem tXl_q : ∀ (l : List Nat) (r : Nat) (μ : fm_I) (q : Nat), q ≠ 7 → q ≠ 8 → tXl l r μ q = μ q := by
  intro l
  induction l with
  | nil => intro r μ q _ _; rfl
  | cons x l ih => intro r μ q h h2; rw [tXl, ih _ _ q h h2, tX_q h h2]
theorem tMl_q : ∀ (l : List Nat) (r : Nat) (μ : fm_I) (q : Nat), q ≠ 58 → q ≠ 80 → tMl l r μ q = μ q := by
  intro l
  induction l with
  | nil => intro r μ q _ _; rfl
  | cons x l ih => intro r μ q h h2; rw [tMl, ih _ _ q h h2, tM_q h h2]
theorem tMl_j : ∀ (l : List Nat) (r : Nat) (μ : fm_I) (j : Nat), j ≠ 32 → tMl l r μ 58 j = μ 58 j := by
  intro l
  induction l with
  | nil => intro r μ j _; rfl
  | cons x l ih => intro r μ j h; rw [tMl, ih _ _ j h, tM_j h]
theorem tXl_n : ∀ (l : List Nat) (r : Nat) (μ : fm_I), μ 7 1 = nI r → tXl l r μ 7 1 = nI (r + l.length) := by
  intro l
  induction l with
  | nil => intro r μ h; exact h
  | cons x l ih => intro r μ h; rw [tXl, ih _ _ tX_n, List.length_cons]; congr 1; omega
theorem tMl_n : ∀ (l : List Nat) (r : Nat) (μ : fm_I), μ 58 32 = nI r → tMl l r μ 58 32 = nI (r + l.length) := by
  intro l
  induction l with
  | nil => intro r μ h; exact h
  | cons x l ih => intro r μ h; rw [tMl, ih _ _ tM_n, List.length_cons]; congr 1; omega
theorem tXl_b : ∀ (l : List Nat) (r : Nat) (μ : fm_I) (j : Nat), tXl l r μ 8 j = if r ≤ j ∧ j < r + l.length then nI (l.getD (j - r) 0) else μ 8 j := by
  intro l
  induction l with
  | nil => intro r μ j; rw [if_neg (by simp only [List.length_nil]; omega)]; rfl
  | cons x l ih =>
    intro r μ j
    rw [tXl, ih, List.length_cons]
    by_cases c : j = r
    · rw [if_neg (by omega), if_pos (by omega), c, Nat.sub_self]
      unfold tX
      rw [ev_uq (by decide), ev_us]
      rfl
    · by_cases c2 : r + 1 ≤ j ∧ j < r + 1 + l.length
      · rw [if_pos c2, if_pos (by omega), show j - r = (j - (r + 1)) + 1 by omega]
        rfl
      · rw [if_neg c2, if_neg (by omega)]
        unfold tX
        rw [ev_uq (by decide), ev_uj c]
theorem tMl_b : ∀ (l : List Nat) (r : Nat) (μ : fm_I) (j : Nat), tMl l r μ 80 j = if r ≤ j ∧ j < r + l.length then nI (l.getD (j - r) 0) else μ 80 j := by
  intro l
  induction l with
  | nil => intro r μ j; rw [if_neg (by simp only [List.length_nil]; omega)]; rfl
  | cons x l ih =>
    intro r μ j
    rw [tMl, ih, List.length_cons]
    by_cases c : j = r
    · rw [if_neg (by omega), if_pos (by omega), c, Nat.sub_self]
      unfold tM
      rw [ev_uq (by decide), ev_us]
      rfl
    · by_cases c2 : r + 1 ≤ j ∧ j < r + 1 + l.length
      · rw [if_pos c2, if_pos (by omega), show j - r = (j - (r + 1)) + 1 by omega]
        rfl
      · rw [if_neg c2, if_neg (by omega)]
        unfold tM
        rw [ev_uq (by decide), ev_uj c]
theorem tXl_app : ∀ (l m : List Nat) (r : Nat) (μ : fm_I), tXl (l ++ m) r μ = tXl m (r + l.length) (tXl l r μ) := by
  intro l
  induction l with
  | nil => intro m r μ; rfl
  | cons x l ih => intro m r μ; rw [List.cons_append, tXl, ih, tXl, List.length_cons, show r + 1 + l.length = r + (l.length + 1) by omega]
theorem tMl_app : ∀ (l m : List Nat) (r : Nat) (μ : fm_I), tMl (l ++ m) r μ = tMl m (r + l.length) (tMl l r μ) := by
  intro l
  induction l with
  | nil => intro m r μ; rfl
  | cons x l ih => intro m r μ; rw [List.cons_append, tMl, ih, tMl, List.length_cons, show r + 1 + l.length = r + (l.length + 1) by omega]
theorem begin_X {r : Nat} (hr : r < 20) (x : Nat) {μ : fm_I} (ν : fm_L) (e : μ 7 1 = nI r) : m_X4_begin (nI x) μ ν = some (tX r x μ, ν) := by
  have k : (20 ≤ r) = False := eq_false (by omega)
  simp -implicitDefEqProofs (disch := omega) only [m_X4_begin, e, k, ev_b, ev_b2, ev_g, ev_gF, ev_on, ev_os, ev_cl, ev_in, ev_in6, ev_eq0, ev_lt0, ev_0le, ev_le0, ev_0lt, ev_lt, ev_le, ev_eq, ev_m1a, ev_m1b, ev_m1c, ev_m1d, ev_m1e, ev_n1, ev_n4, ev_n8, ev_n9, ev_n10, ev_n11, ev_n12, ev_n13, ev_n14, ev_n15, ev_n16, ev_n17, ev_n59, ev_n60, ev_n61, ev_n62, ev_n63, ev_n64, ev_n65, ev_n66, ev_n67, ev_n68, ev_n69, ev_n70, ev_n71, ev_n72, ev_n73, ev_n74, ev_n75, ev_n76, ev_n77, ev_n78, ev_n79, ev_n80, ev_k18, ev_k34, ev_k40, ev_n26, ev_n26b, ev_n46, ev_n46b, ev_n52b, ev_uq, ev_us, ev_uj, ev_lq, ev_ls, ev_lj, ev_urq, ev_urs, ev_ulq, ev_uls, nI_add, pk_sub, pk_mul, if_true, if_false, ite_true, ite_false, decide_true, decide_false, eq_self_iff_true, Nat.reduceEqDiff, Nat.reduceLeDiff, Nat.reduceLT, Nat.reduceAdd, Nat.reduceMul, Nat.reduceSub, Nat.reduceDiv, Nat.reduceMod, ↓reduceIte, tX]
theorem body_M {r : Nat} (hr : r < 20) (x : Nat) {μ : fm_I} (ν : fm_L) (e : μ 58 32 = nI r) : m_X6_body (nI x) μ ν = some (tM r x μ, ν) := by
  have k : (20 ≤ r) = False := eq_false (by omega)
  simp -implicitDefEqProofs (disch := omega) only [m_X6_body, e, k, ev_b, ev_b2, ev_g, ev_gF, ev_on, ev_os, ev_cl, ev_in, ev_in6, ev_eq0, ev_lt0, ev_0le, ev_le0, ev_0lt, ev_lt, ev_le, ev_eq, ev_m1a, ev_m1b, ev_m1c, ev_m1d, ev_m1e, ev_n1, ev_n4, ev_n8, ev_n9, ev_n10, ev_n11, ev_n12, ev_n13, ev_n14, ev_n15, ev_n16, ev_n17, ev_n59, ev_n60, ev_n61, ev_n62, ev_n63, ev_n64, ev_n65, ev_n66, ev_n67, ev_n68, ev_n69, ev_n70, ev_n71, ev_n72, ev_n73, ev_n74, ev_n75, ev_n76, ev_n77, ev_n78, ev_n79, ev_n80, ev_k18, ev_k34, ev_k40, ev_n26, ev_n26b, ev_n46, ev_n46b, ev_n52b, ev_uq, ev_us, ev_uj, ev_lq, ev_ls, ev_lj, ev_urq, ev_urs, ev_ulq, ev_uls, nI_add, pk_sub, pk_mul, if_true, if_false, ite_true, ite_false, decide_true, decide_false, eq_self_iff_true, Nat.reduceEqDiff, Nat.reduceLeDiff, Nat.reduceLT, Nat.reduceAdd, Nat.reduceMul, Nat.reduceSub, Nat.reduceDiv, Nat.reduceMod, ↓reduceIte, tM]
theorem bodyOf_X {b kd : Nat} (hb : b < 6) (hk : kd ≤ 6) (j : Nat) (hj : j < 3) {μ : fm_I} (ν : fm_L) (e : μ (34 + b) 2 = nI kd) : m_X0_bodyOf (34 + b) (nI j) μ ν = some ((fm_sl (j + 1)).getD kd 0) := by
  have k : (6 < kd) = False := eq_false (by omega)
  rcases (by omega : j = 0 ∨ j = 1 ∨ j = 2) with rfl | rfl | rfl
  · simp -implicitDefEqProofs (disch := omega) only [m_X0_bodyOf, m_X5_isKind, e, k, ev_b, ev_b2, ev_g, ev_gF, ev_on, ev_os, ev_cl, ev_in, ev_in6, ev_eq0, ev_lt0, ev_0le, ev_le0, ev_0lt, ev_lt, ev_le, ev_eq, ev_m1a, ev_m1b, ev_m1c, ev_m1d, ev_m1e, ev_n1, ev_n4, ev_n8, ev_n9, ev_n10, ev_n11, ev_n12, ev_n13, ev_n14, ev_n15, ev_n16, ev_n17, ev_n59, ev_n60, ev_n61, ev_n62, ev_n63, ev_n64, ev_n65, ev_n66, ev_n67, ev_n68, ev_n69, ev_n70, ev_n71, ev_n72, ev_n73, ev_n74, ev_n75, ev_n76, ev_n77, ev_n78, ev_n79, ev_n80, ev_k18, ev_k34, ev_k40, ev_n26, ev_n26b, ev_n46, ev_n46b, ev_n52b, ev_uq, ev_us, ev_uj, ev_lq, ev_ls, ev_lj, ev_urq, ev_urs, ev_ulq, ev_uls, nI_add, pk_sub, pk_mul, if_true, if_false, ite_true, ite_false, decide_true, decide_false, eq_self_iff_true, Nat.reduceEqDiff, Nat.reduceLeDiff, Nat.reduceLT, Nat.reduceAdd, Nat.reduceMul, Nat.reduceSub, Nat.reduceDiv, Nat.reduceMod, ↓reduceIte]
  · simp -implicitDefEqProofs (disch := omega) only [m_X0_bodyOf, m_X5_isKind, e, k, ev_b, ev_b2, ev_g, ev_gF, ev_on, ev_os, ev_cl, ev_in, ev_in6, ev_eq0, ev_lt0, ev_0le, ev_le0, ev_0lt, ev_lt, ev_le, ev_eq, ev_m1a, ev_m1b, ev_m1c, ev_m1d, ev_m1e, ev_n1, ev_n4, ev_n8, ev_n9, ev_n10, ev_n11, ev_n12, ev_n13, ev_n14, ev_n15, ev_n16, ev_n17, ev_n59, ev_n60, ev_n61, ev_n62, ev_n63, ev_n64, ev_n65, ev_n66, ev_n67, ev_n68, ev_n69, ev_n70, ev_n71, ev_n72, ev_n73, ev_n74, ev_n75, ev_n76, ev_n77, ev_n78, ev_n79, ev_n80, ev_k18, ev_k34, ev_k40, ev_n26, ev_n26b, ev_n46, ev_n46b, ev_n52b, ev_uq, ev_us, ev_uj, ev_lq, ev_ls, ev_lj, ev_urq, ev_urs, ev_ulq, ev_uls, nI_add, pk_sub, pk_mul, if_true, if_false, ite_true, ite_false, decide_true, decide_false, eq_self_iff_true, Nat.reduceEqDiff, Nat.reduceLeDiff, Nat.reduceLT, Nat.reduceAdd, Nat.reduceMul, Nat.reduceSub, Nat.reduceDiv, Nat.reduceMod, ↓reduceIte]
  · simp -implicitDefEqProofs (disch := omega) only [m_X0_bodyOf, m_X5_isKind, e, k, ev_b, ev_b2, ev_g, ev_gF, ev_on, ev_os, ev_cl, ev_in, ev_in6, ev_eq0, ev_lt0, ev_0le, ev_le0, ev_0lt, ev_lt, ev_le, ev_eq, ev_m1a, ev_m1b, ev_m1c, ev_m1d, ev_m1e, ev_n1, ev_n4, ev_n8, ev_n9, ev_n10, ev_n11, ev_n12, ev_n13, ev_n14, ev_n15, ev_n16, ev_n17, ev_n59, ev_n60, ev_n61, ev_n62, ev_n63, ev_n64, ev_n65, ev_n66, ev_n67, ev_n68, ev_n69, ev_n70, ev_n71, ev_n72, ev_n73, ev_n74, ev_n75, ev_n76, ev_n77, ev_n78, ev_n79, ev_n80, ev_k18, ev_k34, ev_k40, ev_n26, ev_n26b, ev_n46, ev_n46b, ev_n52b, ev_uq, ev_us, ev_uj, ev_lq, ev_ls, ev_lj, ev_urq, ev_urs, ev_ulq, ev_uls, nI_add, pk_sub, pk_mul, if_true, if_false, ite_true, ite_false, decide_true, decide_false, eq_self_iff_true, Nat.reduceEqDiff, Nat.reduceLeDiff, Nat.reduceLT, Nat.reduceAdd, Nat.reduceMul, Nat.reduceSub, Nat.reduceDiv, Nat.reduceMod, ↓reduceIte]
/-- what a body of the class does -/
def RB (b kd a x : Nat) (L : List Nat) (f : Int32 → Int32) (dep : Nat) : Prop := ∀ (k r d : Nat) (v : Int32) (μ : fm_I) (ν : fm_L), dep ≤ k → d + dep ≤ 11 → r + L.length ≤ 20 → μ 7 1 = nI r → μ (34 + b) 0 = nI b → μ (34 + b) 2 = nI kd → μ (34 + b) 6 = nI a → m_X0_runBody k (34 + b) (nI x) v (nI d) μ ν = some (f v, tXl L r μ, ν)
theorem rb10 {b kd a : Nat} (hb : b < 6) : RB b kd a 10 [10] (fun v => v + nI b) 1 := by
  intro k r d v μ ν hk hd hr e1 e2 e3 e4
  obtain ⟨k, rfl⟩ : ∃ j, k = j + 1 := ⟨k - 1, by omega⟩
  have d10 : (d ≤ 10) = True := eq_true (by omega)
  rw [List.length_singleton] at hr
  rw [m_X0_runBody, begin_X (by omega) 10 ν e1]
  simp -implicitDefEqProofs (disch := omega) only [tX_q, e2, d10, ev_b, ev_b2, ev_g, ev_gF, ev_on, ev_os, ev_cl, ev_in, ev_in6, ev_eq0, ev_lt0, ev_0le, ev_le0, ev_0lt, ev_lt, ev_le, ev_eq, ev_m1a, ev_m1b, ev_m1c, ev_m1d, ev_m1e, ev_n1, ev_n4, ev_n8, ev_n9, ev_n10, ev_n11, ev_n12, ev_n13, ev_n14, ev_n15, ev_n16, ev_n17, ev_n59, ev_n60, ev_n61, ev_n62, ev_n63, ev_n64, ev_n65, ev_n66, ev_n67, ev_n68, ev_n69, ev_n70, ev_n71, ev_n72, ev_n73, ev_n74, ev_n75, ev_n76, ev_n77, ev_n78, ev_n79, ev_n80, ev_k18, ev_k34, ev_k40, ev_n26, ev_n26b, ev_n46, ev_n46b, ev_n52b, ev_uq, ev_us, ev_uj, ev_lq, ev_ls, ev_lj, ev_urq, ev_urs, ev_ulq, ev_uls, nI_add, pk_sub, pk_mul, if_true, if_false, ite_true, ite_false, decide_true, decide_false, eq_self_iff_true, Nat.reduceEqDiff, Nat.reduceLeDiff, Nat.reduceLT, Nat.reduceAdd, Nat.reduceMul, Nat.reduceSub, Nat.reduceDiv, Nat.reduceMod, ↓reduceIte]
  rfl
theorem rb20 {b kd a : Nat} (hb : b < 6) : RB b kd a 20 [20, 10] (fun v => v + nI b + nI a) 2 := by
  intro k r d v μ ν hk hd hr e1 e2 e3 e4
  obtain ⟨k, rfl⟩ : ∃ j, k = j + 1 := ⟨k - 1, by omega⟩
  have d10 : (d ≤ 10) = True := eq_true (by omega)
  have hr' : r + 2 ≤ 20 := hr
  have H := rb10 (b := b) (kd := kd) (a := a) hb k (r + 1) (d + 1) v (tX r 20 μ) ν (by omega) (by omega) (by rw [List.length_singleton]; omega) tX_n (by rw [tX_q (by omega) (by omega)]; exact e2) (by rw [tX_q (by omega) (by omega)]; exact e3) (by rw [tX_q (by omega) (by omega)]; exact e4)
  rw [m_X0_runBody, begin_X (by omega) 20 ν e1]
  simp -implicitDefEqProofs (disch := omega) only [H, d10, tXl_q, tX_q, e4, ev_b, ev_b2, ev_g, ev_gF, ev_on, ev_os, ev_cl, ev_in, ev_in6, ev_eq0, ev_lt0, ev_0le, ev_le0, ev_0lt, ev_lt, ev_le, ev_eq, ev_m1a, ev_m1b, ev_m1c, ev_m1d, ev_m1e, ev_n1, ev_n4, ev_n8, ev_n9, ev_n10, ev_n11, ev_n12, ev_n13, ev_n14, ev_n15, ev_n16, ev_n17, ev_n59, ev_n60, ev_n61, ev_n62, ev_n63, ev_n64, ev_n65, ev_n66, ev_n67, ev_n68, ev_n69, ev_n70, ev_n71, ev_n72, ev_n73, ev_n74, ev_n75, ev_n76, ev_n77, ev_n78, ev_n79, ev_n80, ev_k18, ev_k34, ev_k40, ev_n26, ev_n26b, ev_n46, ev_n46b, ev_n52b, ev_uq, ev_us, ev_uj, ev_lq, ev_ls, ev_lj, ev_urq, ev_urs, ev_ulq, ev_uls, nI_add, pk_sub, pk_mul, if_true, if_false, ite_true, ite_false, decide_true, decide_false, eq_self_iff_true, Nat.reduceEqDiff, Nat.reduceLeDiff, Nat.reduceLT, Nat.reduceAdd, Nat.reduceMul, Nat.reduceSub, Nat.reduceDiv, Nat.reduceMod, ↓reduceIte]
  rfl
theorem rb51 {b kd a : Nat} (hb : b < 6) : RB b kd a 51 [51, 10] (fun v => v + nI b - nI b) 2 := by
  intro k r d v μ ν hk hd hr e1 e2 e3 e4
  obtain ⟨k, rfl⟩ : ∃ j, k = j + 1 := ⟨k - 1, by omega⟩
  have d10 : (d ≤ 10) = True := eq_true (by omega)
  have hr' : r + 2 ≤ 20 := hr
  have H := rb10 (b := b) (kd := kd) (a := a) hb k (r + 1) (d + 1) v (tX r 51 μ) ν (by omega) (by omega) (by rw [List.length_singleton]; omega) tX_n (by rw [tX_q (by omega) (by omega)]; exact e2) (by rw [tX_q (by omega) (by omega)]; exact e3) (by rw [tX_q (by omega) (by omega)]; exact e4)
  rw [m_X0_runBody, begin_X (by omega) 51 ν e1]
  simp -implicitDefEqProofs (disch := omega) only [H, d10, tXl_q, tX_q, e2, ev_b, ev_b2, ev_g, ev_gF, ev_on, ev_os, ev_cl, ev_in, ev_in6, ev_eq0, ev_lt0, ev_0le, ev_le0, ev_0lt, ev_lt, ev_le, ev_eq, ev_m1a, ev_m1b, ev_m1c, ev_m1d, ev_m1e, ev_n1, ev_n4, ev_n8, ev_n9, ev_n10, ev_n11, ev_n12, ev_n13, ev_n14, ev_n15, ev_n16, ev_n17, ev_n59, ev_n60, ev_n61, ev_n62, ev_n63, ev_n64, ev_n65, ev_n66, ev_n67, ev_n68, ev_n69, ev_n70, ev_n71, ev_n72, ev_n73, ev_n74, ev_n75, ev_n76, ev_n77, ev_n78, ev_n79, ev_n80, ev_k18, ev_k34, ev_k40, ev_n26, ev_n26b, ev_n46, ev_n46b, ev_n52b, ev_uq, ev_us, ev_uj, ev_lq, ev_ls, ev_lj, ev_urq, ev_urs, ev_ulq, ev_uls, nI_add, pk_sub, pk_mul, if_true, if_false, ite_true, ite_false, decide_true, decide_false, eq_self_iff_true, Nat.reduceEqDiff, Nat.reduceLeDiff, Nat.reduceLT, Nat.reduceAdd, Nat.reduceMul, Nat.reduceSub, Nat.reduceDiv, Nat.reduceMod, ↓reduceIte]
  rfl
theorem rb70 {b kd a : Nat} (hb : b < 6) : RB b kd a 70 [70, 51, 10] (fun v => (v + nI b - nI b) * nI 2) 3 := by
  intro k r d v μ ν hk hd hr e1 e2 e3 e4
  obtain ⟨k, rfl⟩ : ∃ j, k = j + 1 := ⟨k - 1, by omega⟩
  have d10 : (d ≤ 10) = True := eq_true (by omega)
  have hr' : r + 3 ≤ 20 := hr
  have H := rb51 (b := b) (kd := kd) (a := a) hb k (r + 1) (d + 1) v (tX r 70 μ) ν (by omega) (by omega) (by show r + 1 + 2 ≤ 20; omega) tX_n (by rw [tX_q (by omega) (by omega)]; exact e2) (by rw [tX_q (by omega) (by omega)]; exact e3) (by rw [tX_q (by omega) (by omega)]; exact e4)
  rw [m_X0_runBody, begin_X (by omega) 70 ν e1]
  simp -implicitDefEqProofs (disch := omega) only [H, d10, ev_b, ev_b2, ev_g, ev_gF, ev_on, ev_os, ev_cl, ev_in, ev_in6, ev_eq0, ev_lt0, ev_0le, ev_le0, ev_0lt, ev_lt, ev_le, ev_eq, ev_m1a, ev_m1b, ev_m1c, ev_m1d, ev_m1e, ev_n1, ev_n4, ev_n8, ev_n9, ev_n10, ev_n11, ev_n12, ev_n13, ev_n14, ev_n15, ev_n16, ev_n17, ev_n59, ev_n60, ev_n61, ev_n62, ev_n63, ev_n64, ev_n65, ev_n66, ev_n67, ev_n68, ev_n69, ev_n70, ev_n71, ev_n72, ev_n73, ev_n74, ev_n75, ev_n76, ev_n77, ev_n78, ev_n79, ev_n80, ev_k18, ev_k34, ev_k40, ev_n26, ev_n26b, ev_n46, ev_n46b, ev_n52b, ev_uq, ev_us, ev_uj, ev_lq, ev_ls, ev_lj, ev_urq, ev_urs, ev_ulq, ev_uls, nI_add, pk_sub, pk_mul, if_true, if_false, ite_true, ite_false, decide_true, decide_false, eq_self_iff_true, Nat.reduceEqDiff, Nat.reduceLeDiff, Nat.reduceLT, Nat.reduceAdd, Nat.reduceMul, Nat.reduceSub, Nat.reduceDiv, Nat.reduceMod, ↓reduceIte]
  rfl
