theorem rb11 {b kd a g dg : Nat} {Lg : List Nat} {fg : Int32 → Int32} (hb : b < 6) (hk : kd ≤ 6) (hg : (fm_sl 1).getD kd 0 = nI g) (H : RB b kd a g Lg fg dg) : RB b kd a 11 (11 :: Lg) (fun v => fg v * nI 2) (dg + 1) := by
  intro k r d v μ ν hk2 hd hr e1 e2 e3 e4
  obtain ⟨k, rfl⟩ : ∃ j, k = j + 1 := ⟨k - 1, by omega⟩
  have d10 : (d ≤ 10) = True := eq_true (by omega)
  rw [List.length_cons] at hr
  have f2 : tX r 11 μ (34 + b) 0 = nI b := by rw [tX_q (by omega) (by omega)]; exact e2
  have f3 : tX r 11 μ (34 + b) 2 = nI kd := by rw [tX_q (by omega) (by omega)]; exact e3
  have f4 : tX r 11 μ (34 + b) 6 = nI a := by rw [tX_q (by omega) (by omega)]; exact e4
  have H1 := H k (r + 1) (d + 1) v (tX r 11 μ) ν (by omega) (by omega) (by omega) tX_n f2 f3 f4
  have B := bodyOf_X hb hk 0 (by decide) (μ := tX r 11 μ) ν f3
  rw [show 0 + 1 = 1 from rfl, hg] at B
  rw [m_X0_runBody, begin_X (by omega) 11 ν e1]
  simp -implicitDefEqProofs (disch := omega) only [B, H1, d10, ev_b, ev_b2, ev_g, ev_gF, ev_on, ev_os, ev_cl, ev_in, ev_in6, ev_eq0, ev_lt0, ev_0le, ev_le0, ev_0lt, ev_lt, ev_le, ev_eq, ev_m1a, ev_m1b, ev_m1c, ev_m1d, ev_m1e, ev_n1, ev_n4, ev_n8, ev_n9, ev_n10, ev_n11, ev_n12, ev_n13, ev_n14, ev_n15, ev_n16, ev_n17, ev_n59, ev_n60, ev_n61, ev_n62, ev_n63, ev_n64, ev_n65, ev_n66, ev_n67, ev_n68, ev_n69, ev_n70, ev_n71, ev_n72, ev_n73, ev_n74, ev_n75, ev_n76, ev_n77, ev_n78, ev_n79, ev_n80, ev_k18, ev_k34, ev_k40, ev_n26, ev_n26b, ev_n46, ev_n46b, ev_n52b, ev_uq, ev_us, ev_uj, ev_lq, ev_ls, ev_lj, ev_urq, ev_urs, ev_ulq, ev_uls, nI_add, pk_sub, pk_mul, if_true, if_false, ite_true, ite_false, decide_true, decide_false, eq_self_iff_true, Nat.reduceEqDiff, Nat.reduceLeDiff, Nat.reduceLT, Nat.reduceAdd, Nat.reduceMul, Nat.reduceSub, Nat.reduceDiv, Nat.reduceMod, ↓reduceIte]
  rfl
theorem rb30 {b kd a dg : Nat} {Lg : List Nat} {fg : Int32 → Int32} (hb : b < 6) (H : RB b kd a 11 Lg fg dg) : RB b kd a 30 (30 :: Lg) (fun v => fg v * nI 3) (dg + 1) := by
  intro k r d v μ ν hk2 hd hr e1 e2 e3 e4
  obtain ⟨k, rfl⟩ : ∃ j, k = j + 1 := ⟨k - 1, by omega⟩
  have d10 : (d ≤ 10) = True := eq_true (by omega)
  rw [List.length_cons] at hr
  have f2 : tX r 30 μ (34 + b) 0 = nI b := by rw [tX_q (by omega) (by omega)]; exact e2
  have f3 : tX r 30 μ (34 + b) 2 = nI kd := by rw [tX_q (by omega) (by omega)]; exact e3
  have f4 : tX r 30 μ (34 + b) 6 = nI a := by rw [tX_q (by omega) (by omega)]; exact e4
  have H1 := H k (r + 1) (d + 1) v (tX r 30 μ) ν (by omega) (by omega) (by omega) tX_n f2 f3 f4
  rw [m_X0_runBody, begin_X (by omega) 30 ν e1]
  simp -implicitDefEqProofs (disch := omega) only [H1, d10, ev_b, ev_b2, ev_g, ev_gF, ev_on, ev_os, ev_cl, ev_in, ev_in6, ev_eq0, ev_lt0, ev_0le, ev_le0, ev_0lt, ev_lt, ev_le, ev_eq, ev_m1a, ev_m1b, ev_m1c, ev_m1d, ev_m1e, ev_n1, ev_n4, ev_n8, ev_n9, ev_n10, ev_n11, ev_n12, ev_n13, ev_n14, ev_n15, ev_n16, ev_n17, ev_n59, ev_n60, ev_n61, ev_n62, ev_n63, ev_n64, ev_n65, ev_n66, ev_n67, ev_n68, ev_n69, ev_n70, ev_n71, ev_n72, ev_n73, ev_n74, ev_n75, ev_n76, ev_n77, ev_n78, ev_n79, ev_n80, ev_k18, ev_k34, ev_k40, ev_n26, ev_n26b, ev_n46, ev_n46b, ev_n52b, ev_uq, ev_us, ev_uj, ev_lq, ev_ls, ev_lj, ev_urq, ev_urs, ev_ulq, ev_uls, nI_add, pk_sub, pk_mul, if_true, if_false, ite_true, ite_false, decide_true, decide_false, eq_self_iff_true, Nat.reduceEqDiff, Nat.reduceLeDiff, Nat.reduceLT, Nat.reduceAdd, Nat.reduceMul, Nat.reduceSub, Nat.reduceDiv, Nat.reduceMod, ↓reduceIte]
  rfl
theorem rb40 {b kd a dg : Nat} {Lg : List Nat} {fg : Int32 → Int32} (hb : b < 6) (H : RB b kd a 11 Lg fg dg) : RB b kd a 40 (40 :: Lg) (fun v => fg (v + nI 1)) (dg + 1) := by
  intro k r d v μ ν hk2 hd hr e1 e2 e3 e4
  obtain ⟨k, rfl⟩ : ∃ j, k = j + 1 := ⟨k - 1, by omega⟩
  have d10 : (d ≤ 10) = True := eq_true (by omega)
  rw [List.length_cons] at hr
  have f2 : tX r 40 μ (34 + b) 0 = nI b := by rw [tX_q (by omega) (by omega)]; exact e2
  have f3 : tX r 40 μ (34 + b) 2 = nI kd := by rw [tX_q (by omega) (by omega)]; exact e3
  have f4 : tX r 40 μ (34 + b) 6 = nI a := by rw [tX_q (by omega) (by omega)]; exact e4
  have H1 := H k (r + 1) (d + 1) (v + nI 1) (tX r 40 μ) ν (by omega) (by omega) (by omega) tX_n f2 f3 f4
  rw [m_X0_runBody, begin_X (by omega) 40 ν e1]
  simp -implicitDefEqProofs (disch := omega) only [H1, d10, ev_b, ev_b2, ev_g, ev_gF, ev_on, ev_os, ev_cl, ev_in, ev_in6, ev_eq0, ev_lt0, ev_0le, ev_le0, ev_0lt, ev_lt, ev_le, ev_eq, ev_m1a, ev_m1b, ev_m1c, ev_m1d, ev_m1e, ev_n1, ev_n4, ev_n8, ev_n9, ev_n10, ev_n11, ev_n12, ev_n13, ev_n14, ev_n15, ev_n16, ev_n17, ev_n59, ev_n60, ev_n61, ev_n62, ev_n63, ev_n64, ev_n65, ev_n66, ev_n67, ev_n68, ev_n69, ev_n70, ev_n71, ev_n72, ev_n73, ev_n74, ev_n75, ev_n76, ev_n77, ev_n78, ev_n79, ev_n80, ev_k18, ev_k34, ev_k40, ev_n26, ev_n26b, ev_n46, ev_n46b, ev_n52b, ev_uq, ev_us, ev_uj, ev_lq, ev_ls, ev_lj, ev_urq, ev_urs, ev_ulq, ev_uls, nI_add, pk_sub, pk_mul, if_true, if_false, ite_true, ite_false, decide_true, decide_false, eq_self_iff_true, Nat.reduceEqDiff, Nat.reduceLeDiff, Nat.reduceLT, Nat.reduceAdd, Nat.reduceMul, Nat.reduceSub, Nat.reduceDiv, Nat.reduceMod, ↓reduceIte]
  rfl
theorem rb71 {b kd a dg : Nat} {Lg : List Nat} {fg : Int32 → Int32} (hb : b < 6) (H : RB b kd a 11 Lg fg dg) : RB b kd a 71 (71 :: Lg) (fun v => fg (v - nI a)) (dg + 1) := by
  intro k r d v μ ν hk2 hd hr e1 e2 e3 e4
  obtain ⟨k, rfl⟩ : ∃ j, k = j + 1 := ⟨k - 1, by omega⟩
  have d10 : (d ≤ 10) = True := eq_true (by omega)
  rw [List.length_cons] at hr
  have f2 : tX r 71 μ (34 + b) 0 = nI b := by rw [tX_q (by omega) (by omega)]; exact e2
  have f3 : tX r 71 μ (34 + b) 2 = nI kd := by rw [tX_q (by omega) (by omega)]; exact e3
  have f4 : tX r 71 μ (34 + b) 6 = nI a := by rw [tX_q (by omega) (by omega)]; exact e4
  have H1 := H k (r + 1) (d + 1) (v - nI a) (tX r 71 μ) ν (by omega) (by omega) (by omega) tX_n f2 f3 f4
  rw [m_X0_runBody, begin_X (by omega) 71 ν e1]
  simp -implicitDefEqProofs (disch := omega) only [f4, H1, d10, ev_b, ev_b2, ev_g, ev_gF, ev_on, ev_os, ev_cl, ev_in, ev_in6, ev_eq0, ev_lt0, ev_0le, ev_le0, ev_0lt, ev_lt, ev_le, ev_eq, ev_m1a, ev_m1b, ev_m1c, ev_m1d, ev_m1e, ev_n1, ev_n4, ev_n8, ev_n9, ev_n10, ev_n11, ev_n12, ev_n13, ev_n14, ev_n15, ev_n16, ev_n17, ev_n59, ev_n60, ev_n61, ev_n62, ev_n63, ev_n64, ev_n65, ev_n66, ev_n67, ev_n68, ev_n69, ev_n70, ev_n71, ev_n72, ev_n73, ev_n74, ev_n75, ev_n76, ev_n77, ev_n78, ev_n79, ev_n80, ev_k18, ev_k34, ev_k40, ev_n26, ev_n26b, ev_n46, ev_n46b, ev_n52b, ev_uq, ev_us, ev_uj, ev_lq, ev_ls, ev_lj, ev_urq, ev_urs, ev_ulq, ev_uls, nI_add, pk_sub, pk_mul, if_true, if_false, ite_true, ite_false, decide_true, decide_false, eq_self_iff_true, Nat.reduceEqDiff, Nat.reduceLeDiff, Nat.reduceLT, Nat.reduceAdd, Nat.reduceMul, Nat.reduceSub, Nat.reduceDiv, Nat.reduceMod, ↓reduceIte]
  rfl
theorem rb12 {b kd a g dg t dt : Nat} {Lg Lt : List Nat} {fg ft : Int32 → Int32} (hb : b < 6) (hk : kd ≤ 6) (hg : (fm_sl 1).getD kd 0 = nI g) (ht : (fm_sl 2).getD kd 0 = nI t) (H : RB b kd a g Lg fg dg) (HT : RB b kd a t Lt ft dt) (hd2 : dg ≤ dt) : RB b kd a 12 (12 :: (Lt ++ Lg)) (fun v => ft v ^^^ fg (v - nI a)) (dt + 1) := by
  intro k r d v μ ν hk2 hd hr e1 e2 e3 e4
  obtain ⟨k, rfl⟩ : ∃ j, k = j + 1 := ⟨k - 1, by omega⟩
  have d10 : (d ≤ 10) = True := eq_true (by omega)
  rw [List.length_cons, List.length_append] at hr
  have f2 : tX r 12 μ (34 + b) 0 = nI b := by rw [tX_q (by omega) (by omega)]; exact e2
  have f3 : tX r 12 μ (34 + b) 2 = nI kd := by rw [tX_q (by omega) (by omega)]; exact e3
  have f4 : tX r 12 μ (34 + b) 6 = nI a := by rw [tX_q (by omega) (by omega)]; exact e4
  have H1 := HT k (r + 1) (d + 1) v (tX r 12 μ) ν (by omega) (by omega) (by omega) tX_n f2 f3 f4
  have g2 : tXl Lt (r + 1) (tX r 12 μ) (34 + b) 0 = nI b := by rw [tXl_q _ _ _ _ (by omega) (by omega)]; exact f2
  have g3 : tXl Lt (r + 1) (tX r 12 μ) (34 + b) 2 = nI kd := by rw [tXl_q _ _ _ _ (by omega) (by omega)]; exact f3
  have g4 : tXl Lt (r + 1) (tX r 12 μ) (34 + b) 6 = nI a := by rw [tXl_q _ _ _ _ (by omega) (by omega)]; exact f4
  have H2 := H k (r + 1 + Lt.length) (d + 1) (v - nI a) (tXl Lt (r + 1) (tX r 12 μ)) ν (by omega) (by omega) (by omega) (tXl_n _ _ _ tX_n) g2 g3 g4
  have B1 := bodyOf_X hb hk 1 (by decide) (μ := tX r 12 μ) ν f3
  have B2 := bodyOf_X hb hk 0 (by decide) (μ := tXl Lt (r + 1) (tX r 12 μ)) ν g3
  rw [show 1 + 1 = 2 from rfl, ht] at B1
  rw [show 0 + 1 = 1 from rfl, hg] at B2
  rw [m_X0_runBody, begin_X (by omega) 12 ν e1]
  simp -implicitDefEqProofs (disch := omega) only [B1, B2, H1, H2, g4, d10, ev_b, ev_b2, ev_g, ev_gF, ev_on, ev_os, ev_cl, ev_in, ev_in6, ev_eq0, ev_lt0, ev_0le, ev_le0, ev_0lt, ev_lt, ev_le, ev_eq, ev_m1a, ev_m1b, ev_m1c, ev_m1d, ev_m1e, ev_n1, ev_n4, ev_n8, ev_n9, ev_n10, ev_n11, ev_n12, ev_n13, ev_n14, ev_n15, ev_n16, ev_n17, ev_n59, ev_n60, ev_n61, ev_n62, ev_n63, ev_n64, ev_n65, ev_n66, ev_n67, ev_n68, ev_n69, ev_n70, ev_n71, ev_n72, ev_n73, ev_n74, ev_n75, ev_n76, ev_n77, ev_n78, ev_n79, ev_n80, ev_k18, ev_k34, ev_k40, ev_n26, ev_n26b, ev_n46, ev_n46b, ev_n52b, ev_uq, ev_us, ev_uj, ev_lq, ev_ls, ev_lj, ev_urq, ev_urs, ev_ulq, ev_uls, nI_add, pk_sub, pk_mul, if_true, if_false, ite_true, ite_false, decide_true, decide_false, eq_self_iff_true, Nat.reduceEqDiff, Nat.reduceLeDiff, Nat.reduceLT, Nat.reduceAdd, Nat.reduceMul, Nat.reduceSub, Nat.reduceDiv, Nat.reduceMod, ↓reduceIte]
  rw [tXl, tXl_app]
theorem rb50 {b kd a dg : Nat} {Lg : List Nat} {fg : Int32 → Int32} (hb : b < 6) (H : RB b kd a 12 Lg fg dg) : RB b kd a 50 (50 :: Lg) (fun v => - fg v) (dg + 1) := by
  intro k r d v μ ν hk2 hd hr e1 e2 e3 e4
  obtain ⟨k, rfl⟩ : ∃ j, k = j + 1 := ⟨k - 1, by omega⟩
  have d10 : (d ≤ 10) = True := eq_true (by omega)
  rw [List.length_cons] at hr
  have f2 : tX r 50 μ (34 + b) 0 = nI b := by rw [tX_q (by omega) (by omega)]; exact e2
  have f3 : tX r 50 μ (34 + b) 2 = nI kd := by rw [tX_q (by omega) (by omega)]; exact e3
  have f4 : tX r 50 μ (34 + b) 6 = nI a := by rw [tX_q (by omega) (by omega)]; exact e4
  have H1 := H k (r + 1) (d + 1) v (tX r 50 μ) ν (by omega) (by omega) (by omega) tX_n f2 f3 f4
  rw [m_X0_runBody, begin_X (by omega) 50 ν e1]
  simp -implicitDefEqProofs (disch := omega) only [H1, d10, ev_b, ev_b2, ev_g, ev_gF, ev_on, ev_os, ev_cl, ev_in, ev_in6, ev_eq0, ev_lt0, ev_0le, ev_le0, ev_0lt, ev_lt, ev_le, ev_eq, ev_m1a, ev_m1b, ev_m1c, ev_m1d, ev_m1e, ev_n1, ev_n4, ev_n8, ev_n9, ev_n10, ev_n11, ev_n12, ev_n13, ev_n14, ev_n15, ev_n16, ev_n17, ev_n59, ev_n60, ev_n61, ev_n62, ev_n63, ev_n64, ev_n65, ev_n66, ev_n67, ev_n68, ev_n69, ev_n70, ev_n71, ev_n72, ev_n73, ev_n74, ev_n75, ev_n76, ev_n77, ev_n78, ev_n79, ev_n80, ev_k18, ev_k34, ev_k40, ev_n26, ev_n26b, ev_n46, ev_n46b, ev_n52b, ev_uq, ev_us, ev_uj, ev_lq, ev_ls, ev_lj, ev_urq, ev_urs, ev_ulq, ev_uls, nI_add, pk_sub, pk_mul, if_true, if_false, ite_true, ite_false, decide_true, decide_false, eq_self_iff_true, Nat.reduceEqDiff, Nat.reduceLeDiff, Nat.reduceLT, Nat.reduceAdd, Nat.reduceMul, Nat.reduceSub, Nat.reduceDiv, Nat.reduceMod, ↓reduceIte]
  rfl
theorem rb60 {b kd a dg : Nat} {Lg : List Nat} {fg : Int32 → Int32} (hb : b < 6) (H : RB b kd a 12 Lg fg dg) : RB b kd a 60 (60 :: Lg) (fun v => fg v ^^^ nI 5) (dg + 1) := by
  intro k r d v μ ν hk2 hd hr e1 e2 e3 e4
  obtain ⟨k, rfl⟩ : ∃ j, k = j + 1 := ⟨k - 1, by omega⟩
  have d10 : (d ≤ 10) = True := eq_true (by omega)
  rw [List.length_cons] at hr
  have f2 : tX r 60 μ (34 + b) 0 = nI b := by rw [tX_q (by omega) (by omega)]; exact e2
  have f3 : tX r 60 μ (34 + b) 2 = nI kd := by rw [tX_q (by omega) (by omega)]; exact e3
  have f4 : tX r 60 μ (34 + b) 6 = nI a := by rw [tX_q (by omega) (by omega)]; exact e4
  have H1 := H k (r + 1) (d + 1) v (tX r 60 μ) ν (by omega) (by omega) (by omega) tX_n f2 f3 f4
  rw [m_X0_runBody, begin_X (by omega) 60 ν e1]
  simp -implicitDefEqProofs (disch := omega) only [H1, d10, ev_b, ev_b2, ev_g, ev_gF, ev_on, ev_os, ev_cl, ev_in, ev_in6, ev_eq0, ev_lt0, ev_0le, ev_le0, ev_0lt, ev_lt, ev_le, ev_eq, ev_m1a, ev_m1b, ev_m1c, ev_m1d, ev_m1e, ev_n1, ev_n4, ev_n8, ev_n9, ev_n10, ev_n11, ev_n12, ev_n13, ev_n14, ev_n15, ev_n16, ev_n17, ev_n59, ev_n60, ev_n61, ev_n62, ev_n63, ev_n64, ev_n65, ev_n66, ev_n67, ev_n68, ev_n69, ev_n70, ev_n71, ev_n72, ev_n73, ev_n74, ev_n75, ev_n76, ev_n77, ev_n78, ev_n79, ev_n80, ev_k18, ev_k34, ev_k40, ev_n26, ev_n26b, ev_n46, ev_n46b, ev_n52b, ev_uq, ev_us, ev_uj, ev_lq, ev_ls, ev_lj, ev_urq, ev_urs, ev_ulq, ev_uls, nI_add, pk_sub, pk_mul, if_true, if_false, ite_true, ite_false, decide_true, decide_false, eq_self_iff_true, Nat.reduceEqDiff, Nat.reduceLeDiff, Nat.reduceLT, Nat.reduceAdd, Nat.reduceMul, Nat.reduceSub, Nat.reduceDiv, Nat.reduceMod, ↓reduceIte]
  rfl
/-- the bodies of goes, turns and hooks, by kinds -/
def gL (kd : Nat) : List Nat := match kd with
  | 1 => [20, 10]
  | 3 => [20, 10]
  | 4 => [51, 10]
  | 6 => [70, 51, 10]
  | _ => [10]
def gF (kd b a : Nat) (v : Int32) : Int32 := match kd with
  | 1 => v + nI b + nI a
  | 3 => v + nI b + nI a
  | 4 => v + nI b - nI b
  | 6 => (v + nI b - nI b) * nI 2
  | _ => v + nI b
def tL (kd : Nat) : List Nat := match kd with
  | 2 => 30 :: 11 :: gL 2
  | 3 => 40 :: 11 :: gL 3
  | 5 => 30 :: 11 :: gL 5
  | 6 => 71 :: 11 :: gL 6
  | k => 11 :: gL k
def tF (kd b a : Nat) (v : Int32) : Int32 := match kd with
  | 2 => gF 2 b a v * nI 2 * nI 3
  | 3 => gF 3 b a (v + nI 1) * nI 2
  | 5 => gF 5 b a v * nI 2 * nI 3
  | 6 => gF 6 b a (v - nI a) * nI 2
  | k => gF k b a v * nI 2
def hL (kd : Nat) : List Nat := match kd with
  | 4 => 50 :: 12 :: (tL 4 ++ gL 4)
  | 5 => 60 :: 12 :: (tL 5 ++ gL 5)
  | 6 => 50 :: 12 :: (tL 6 ++ gL 6)
  | k => 12 :: (tL k ++ gL k)
def hF (kd b a : Nat) (v : Int32) : Int32 := match kd with
  | 4 => - (tF 4 b a v ^^^ gF 4 b a (v - nI a))
  | 5 => tF 5 b a v ^^^ gF 5 b a (v - nI a) ^^^ nI 5
  | 6 => - (tF 6 b a v ^^^ gF 6 b a (v - nI a))
  | k => tF k b a v ^^^ gF k b a (v - nI a)
theorem run_X {b kd a : Nat} (hb : b < 6) (hk : kd ≤ 6) : (∃ g, (fm_sl 1).getD kd 0 = nI g ∧ RB b kd a g (gL kd) (gF kd b a) 3) ∧ (∃ t, (fm_sl 2).getD kd 0 = nI t ∧ RB b kd a t (tL kd) (tF kd b a) 5) ∧ (∃ t, (fm_sl 3).getD kd 0 = nI t ∧ RB b kd a t (hL kd) (hF kd b a) 7) := by
  have up : ∀ {x : Nat} {L : List Nat} {f : Int32 → Int32} {d e : Nat}, d ≤ e → RB b kd a x L f d → RB b kd a x L f e := fun h H k r d v μ ν q1 q2 => H k r d v μ ν (by omega) (by omega)
  rcases (by omega : kd = 0 ∨ kd = 1 ∨ kd = 2 ∨ kd = 3 ∨ kd = 4 ∨ kd = 5 ∨ kd = 6) with rfl | rfl | rfl | rfl | rfl | rfl | rfl
  · have G : RB b 0 a 10 (gL 0) (gF 0 b a) 3 := up (by decide) (rb10 hb)
    have T := rb11 hb hk (rfl : (fm_sl 1).getD 0 0 = nI 10) G
    exact ⟨⟨10, rfl, G⟩, ⟨11, rfl, up (by decide) T⟩, 12, rfl, up (by decide) (rb12 hb hk rfl rfl G T (by decide))⟩
  · have G : RB b 1 a 20 (gL 1) (gF 1 b a) 3 := up (by decide) (rb20 hb)
    have T := rb11 hb hk (rfl : (fm_sl 1).getD 1 0 = nI 20) G
    exact ⟨⟨20, rfl, G⟩, ⟨11, rfl, up (by decide) T⟩, 12, rfl, up (by decide) (rb12 hb hk rfl rfl G T (by decide))⟩
  · have G : RB b 2 a 10 (gL 2) (gF 2 b a) 3 := up (by decide) (rb10 hb)
    have T := rb30 hb (rb11 hb hk (rfl : (fm_sl 1).getD 2 0 = nI 10) G)
    exact ⟨⟨10, rfl, G⟩, ⟨30, rfl, up (by decide) T⟩, 12, rfl, up (by decide) (rb12 hb hk rfl rfl G T (by decide))⟩
  · have G : RB b 3 a 20 (gL 3) (gF 3 b a) 3 := up (by decide) (rb20 hb)
    have T := rb40 hb (rb11 hb hk (rfl : (fm_sl 1).getD 3 0 = nI 20) G)
    exact ⟨⟨20, rfl, G⟩, ⟨40, rfl, up (by decide) T⟩, 12, rfl, up (by decide) (rb12 hb hk rfl rfl G T (by decide))⟩
  · have G : RB b 4 a 51 (gL 4) (gF 4 b a) 3 := up (by decide) (rb51 hb)
    have T := rb11 hb hk (rfl : (fm_sl 1).getD 4 0 = nI 51) G
    exact ⟨⟨51, rfl, G⟩, ⟨11, rfl, up (by decide) T⟩, 50, rfl, up (by decide) (rb50 hb (rb12 hb hk rfl rfl G T (by decide)))⟩
  · have G : RB b 5 a 10 (gL 5) (gF 5 b a) 3 := up (by decide) (rb10 hb)
    have T := rb30 hb (rb11 hb hk (rfl : (fm_sl 1).getD 5 0 = nI 10) G)
    exact ⟨⟨10, rfl, G⟩, ⟨30, rfl, up (by decide) T⟩, 60, rfl, up (by decide) (rb60 hb (rb12 hb hk rfl rfl G T (by decide)))⟩
  · have G : RB b 6 a 70 (gL 6) (gF 6 b a) 3 := up (by decide) (rb70 hb)
    have T := rb71 hb (rb11 hb hk (rfl : (fm_sl 1).getD 6 0 = nI 70) G)
    exact ⟨⟨70, rfl, G⟩, ⟨71, rfl, up (by decide) T⟩, 50, rfl, up (by decide) (rb50 hb (rb12 hb hk rfl rfl G T (by decide)))⟩
