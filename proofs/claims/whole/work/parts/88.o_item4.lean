/-! THE REFERENCE READS AN ITEM; A TABLE -/
theorem pI_w {c : Nat → Int32} {m n a w : Nat} {S : Nat → Nat} (h : fwA c m a = w) (hw : w < 5) (h2 : ¬ (w = 0 ∧ 4 ≤ mW c m a 0 ∧ n = 6)) (h3 : mW c m a w < wl w) : pI c m n S a = .inl (a + mW c m a w) := by
  unfold pI
  rw [h, if_neg (by omega), if_neg h2, if_pos h3]
theorem pI_m {c : Nat → Int32} {m n a w : Nat} {S : Nat → Nat} (h : fwA c m a = w) (hw : w < 5) (h2 : ¬ (w = 0 ∧ 4 ≤ mW c m a 0 ∧ n = 6)) (h3 : ¬ mW c m a w < wl w) : pI c m n S a = match nums c m w n S (cnt w) 0 (a + wl w) (fun _ => 0) with
    | .inl p => .inl p
    | .inr (e, x) => .inr (e, w, x) := by
  unfold pI
  rw [h, if_neg (by omega), if_neg h2, if_neg h3]
  rcases nums c m w n S (cnt w) 0 (a + wl w) (fun _ => 0) with p | ⟨e, x⟩
  · rfl
  · rfl
def tO (n : Nat) (F : Nat → Nat → Nat) (s' p' f' : Int32) (μ : fm_I) (ν : fm_L) : Sum Nat (Nat × Nat × (Nat → Nat)) → Prop
  | .inl ps => ∃ μ', m_X6_item μ ν = some (nI 0, μ', ν) ∧ μ' 58 23 = nI ps ∧ t2 μ μ'
  | .inr (e, w, x) => ∃ μ', m_X6_item μ ν = some (nI 1, μ', ν) ∧ μ' 58 20 = nI e ∧ clM (exN w n) (exF w x n F) s' p' f' μ' ∧ t2 μ μ'
theorem tO_l {n : Nat} {F : Nat → Nat → Nat} {s' p' f' : Int32} {μ : fm_I} {ν : fm_L} {ps : Nat} (h : ∃ μ', m_X6_item μ ν = some (nI 0, μ', ν) ∧ μ' 58 23 = nI ps ∧ t2 μ μ') : tO n F s' p' f' μ ν (.inl ps) := h
theorem tO_r {n : Nat} {F : Nat → Nat → Nat} {s' p' f' : Int32} {μ : fm_I} {ν : fm_L} {e w : Nat} {x : Nat → Nat} (h : ∃ μ', m_X6_item μ ν = some (nI 1, μ', ν) ∧ μ' 58 20 = nI e ∧ clM (exN w n) (exF w x n F) s' p' f' μ' ∧ t2 μ μ') : tO n F s' p' f' μ ν (.inr (e, w, x)) := h
theorem it74 {w : Nat} (hw : w < 5) (μ : fm_I) (ν : fm_L) : m_X6_item_74 (nI w) μ ν = m_X6_item_101 (nI w) (nI (cnt w)) μ ν := by
  rcases (by omega : w = 0 ∨ w = 1 ∨ w = 2 ∨ w = 3 ∨ w = 4) with rfl | rfl | rfl | rfl | rfl
  · rw [m_X6_item_74, if_pos (by decide)]; rfl
  · rw [m_X6_item_74, if_neg (by decide), if_neg (by decide), if_neg (by decide)]; rfl
  · rw [m_X6_item_74, if_neg (by decide), if_neg (by decide), if_neg (by decide)]; rfl
  · rw [m_X6_item_74, if_neg (by decide), if_pos rfl]; rfl
  · rw [m_X6_item_74, if_neg (by decide), if_neg (by decide), if_pos rfl]; rfl
theorem im_M {s m a n : Nat} {F : Nat → Nat → Nat} {s' p' f' : Int32} {μ : fm_I} {ν : fm_L} {c : Nat → Int32} (hc : ∀ i, c i = (ν 70 (160 * s + i)).toInt32) (hs : s < 8) (hm : m ≤ 160) (ha : a ≤ m) (hV : stV n F) (h : qS s m a μ) (hM : clM n F s' p' f' μ) : tO n F s' p' f' μ ν (pI c m n (fun b => F b 2) a) := by
  have I2 := fun K => it2 (K := K) hc hs hm ha h hM.1 hV.1
  have W := wd_M hc hs hm ha h
  have fl : fwA c m a ≤ 5 := by
    unfold fwA
    split
    · exact fw_le _
    · exact Nat.le_refl 5
  by_cases c5 : fwA c m a = 5
  · rw [pI_5 c5]
    have z := mW_z (c := c) (m := m) (a := a) (w := 0) (by decide) (by omega)
    refine tO_l ⟨fm_u μ 58 23 (nI a), ?_, ev_us, t2_f (tf_u μ _ (by omega))⟩
    rw [m_X6_item, I2, if_neg (by omega), W.1 c5, ev_b]
    exact if_pos rfl
  have f5 : fwA c m a < 5 := by omega
  by_cases c0 : fwA c m a = 0 ∧ 4 ≤ mW c m a 0 ∧ n = 6
  · rw [pI_full c0.1 c0.2.1 c0.2.2]
    refine tO_l ⟨fm_u μ 58 23 (nI a), ?_, ev_us, t2_f (tf_u μ _ (by omega))⟩
    rw [m_X6_item, I2, if_pos c0.2]
  have c0' : ¬ (4 ≤ mW c m a 0 ∧ n = 6) := fun z => by
    by_cases f0 : fwA c m a = 0
    · exact c0 ⟨f0, z⟩
    · have := mW_z (c := c) (m := m) (a := a) (w := 0) (by decide) f0
      omega
  have W1 := W.2.1 f5
  have W2 := W.2.2 f5
  generalize hw : fwA c m a = w at *
  by_cases c1 : mW c m a w < wl w
  · rw [pI_w hw f5 c0 c1]
    refine tO_l ⟨fm_u μ 58 23 (nI (a + mW c m a w)), ?_, ev_us, t2_f (tf_u μ _ (by omega))⟩
    rw [m_X6_item, I2, if_neg c0', W2 c1, ev_b]
    exact if_pos rfl
  have hpI := pI_m (n := n) (S := fun b => F b 2) hw f5 c0 c1
  have l := wl_5 w
  have mle := mW_le c m a w
  have full : mW c m a w = wl w := by omega
  have am := (mW_i (c := c) (m := m) (a := a) (w := w) (j := wl w - 1) (by omega)).1
  have h1 : qS s m (a + wl w) (fm_u μ 58 20 (nI (a + wl w))) := qS_f h (t2_f (tf_u μ _ (by omega))) ev_us
  have hM1 : clM n F s' p' f' (fm_u μ 58 20 (nI (a + wl w))) := clM_f hM (tf_u μ _ (by omega))
  have IT : m_X6_item μ ν = m_X6_item_101 (nI w) (nI (cnt w)) (fm_u μ 58 20 (nI (a + wl w))) ν := by
    rw [m_X6_item, I2, if_neg c0', W1 full, ev_b, ← it74 f5]
    refine (if_neg (by show ¬ nI w = -1; rw [ev_m1a (by omega)]; exact not_false)).trans ?_
    by_cases w0 : w = 0
    · subst w0
      refine (if_pos nI0).trans (if_neg ?_)
      show ¬ (fm_u μ 58 20 (nI (a + wl 0))) 58 0 = nI 6
      rw [hM1.1]
      have l0 : wl 0 = 5 := rfl
      have n6 := hV.1
      exact ne_i (fun z => c0' ⟨by omega, z⟩) (by omega) (by omega)
    · exact if_neg (by show ¬ nI w = 0; rw [ev_eq0 (by omega)]; exact w0)
  have N := nm_M hc hs hm f5 hV (cnt w) 0 5000 (a + wl w) (fun _ => 0) (fm_u μ 58 20 (nI (a + wl w))) (by omega) (by have : cnt w ≤ 4 := (by unfold cnt; split <;> omega); omega) (by omega) h1 hM1 (fun j hj => absurd hj (Nat.not_lt_zero j)) (fun y => absurd y (Nat.lt_irrefl 0))
  rcases hr : nums c m w n (fun b => F b 2) (cnt w) 0 (a + wl w) (fun _ => 0) with ps | ⟨e, x⟩
  · rw [hr] at hpI
    obtain ⟨μ2, E, g1, g2⟩ := N.1 ps hr
    rw [hpI]
    refine tO_l ⟨μ2, ?_, g1, t2_t (t2_f (tf_u μ _ (by omega))) (t2_f g2)⟩
    rw [IT, m_X6_item_101, E]
  · rw [hr] at hpI
    obtain ⟨μ2, E, g1, g73, g2⟩ := N.2 e x hr
    have o := (pI_r hpI).2.2.2.2
    rw [hpI]
    obtain ⟨o1, o2, o3, o4, o5⟩ := o
    have T := t2_t (t2_f (tf_u μ (nI (a + wl w)) (k := 20) (by omega))) (t2_f g2)
    have hM2 := clM_f hM1 g2
    have hn := hV.1
    rcases (by omega : w = 0 ∨ w = 1 ∨ w = 2 ∨ w = 3 ∨ w = 4) with rfl | rfl | rfl | rfl | rfl
    · obtain ⟨p1, p2, p3, p4, p5, p6⟩ := o2 rfl
      obtain ⟨μ3, a1, a2, a3, a4⟩ := add_M2 ν hM2 (by omega) (x 0) (x 1) (x 2) 0 (x 3)
      refine tO_r ⟨μ3, ?_, by rw [a4]; exact g1, a2, t2_t T a3⟩
      rw [IT, m_X6_item_101, E]
      simp -implicitDefEqProofs (disch := omega) only [g73 0 (by decide), g73 1 (by decide), g73 2 (by decide), g73 3 (by decide), a1, m_X6_item_358, ev_b, ev_b2, ev_g, ev_gF, ev_on, ev_os, ev_cl, ev_in, ev_in6, ev_eq0, ev_lt0, ev_0le, ev_le0, ev_0lt, ev_lt, ev_le, ev_eq, ev_m1a, ev_m1b, ev_m1c, ev_m1d, ev_m1e, ev_n1, ev_n4, ev_n8, ev_n9, ev_n10, ev_n11, ev_n12, ev_n13, ev_n14, ev_n15, ev_n16, ev_n17, ev_n59, ev_n60, ev_n61, ev_n62, ev_n63, ev_n64, ev_n65, ev_n66, ev_n67, ev_n68, ev_n69, ev_n70, ev_n71, ev_n72, ev_n73, ev_n74, ev_n75, ev_n76, ev_n77, ev_n78, ev_n79, ev_n80, ev_k18, ev_k34, ev_k40, ev_n26, ev_n26b, ev_n46, ev_n46b, ev_n52b, ev_uq, ev_us, ev_uj, ev_lq, ev_ls, ev_lj, ev_urq, ev_urs, ev_ulq, ev_uls, nI_add, pk_sub, pk_mul, if_true, if_false, ite_true, ite_false, decide_true, decide_false, eq_self_iff_true, Nat.reduceEqDiff, Nat.reduceLeDiff, Nat.reduceLT, Nat.reduceAdd, Nat.reduceMul, Nat.reduceSub, Nat.reduceDiv, Nat.reduceMod, ↓reduceIte]
    · have b := o3 (by decide)
      obtain ⟨a2, a3, a4⟩ := clM_u (k := 3) (v := 1) hM2 b (by decide)
      refine tO_r ⟨_, ?_, by rw [a4]; exact g1, a2, t2_t T a3⟩
      rw [IT, m_X6_item_101, E]
      simp -implicitDefEqProofs (disch := omega) only [g73 0 (by decide), m_X6_item_358, ev_b, ev_b2, ev_g, ev_gF, ev_on, ev_os, ev_cl, ev_in, ev_in6, ev_eq0, ev_lt0, ev_0le, ev_le0, ev_0lt, ev_lt, ev_le, ev_eq, ev_m1a, ev_m1b, ev_m1c, ev_m1d, ev_m1e, ev_n1, ev_n4, ev_n8, ev_n9, ev_n10, ev_n11, ev_n12, ev_n13, ev_n14, ev_n15, ev_n16, ev_n17, ev_n59, ev_n60, ev_n61, ev_n62, ev_n63, ev_n64, ev_n65, ev_n66, ev_n67, ev_n68, ev_n69, ev_n70, ev_n71, ev_n72, ev_n73, ev_n74, ev_n75, ev_n76, ev_n77, ev_n78, ev_n79, ev_n80, ev_k18, ev_k34, ev_k40, ev_n26, ev_n26b, ev_n46, ev_n46b, ev_n52b, ev_uq, ev_us, ev_uj, ev_lq, ev_ls, ev_lj, ev_urq, ev_urs, ev_ulq, ev_uls, nI_add, pk_sub, pk_mul, if_true, if_false, ite_true, ite_false, decide_true, decide_false, eq_self_iff_true, Nat.reduceEqDiff, Nat.reduceLeDiff, Nat.reduceLT, Nat.reduceAdd, Nat.reduceMul, Nat.reduceSub, Nat.reduceDiv, Nat.reduceMod, ↓reduceIte]
    · have b := o3 (by decide)
      obtain ⟨a2, a3, a4⟩ := clM_u (k := 3) (v := 0) hM2 b (by decide)
      refine tO_r ⟨_, ?_, by rw [a4]; exact g1, a2, t2_t T a3⟩
      rw [IT, m_X6_item_101, E]
      simp -implicitDefEqProofs (disch := omega) only [g73 0 (by decide), m_X6_item_358, ev_b, ev_b2, ev_g, ev_gF, ev_on, ev_os, ev_cl, ev_in, ev_in6, ev_eq0, ev_lt0, ev_0le, ev_le0, ev_0lt, ev_lt, ev_le, ev_eq, ev_m1a, ev_m1b, ev_m1c, ev_m1d, ev_m1e, ev_n1, ev_n4, ev_n8, ev_n9, ev_n10, ev_n11, ev_n12, ev_n13, ev_n14, ev_n15, ev_n16, ev_n17, ev_n59, ev_n60, ev_n61, ev_n62, ev_n63, ev_n64, ev_n65, ev_n66, ev_n67, ev_n68, ev_n69, ev_n70, ev_n71, ev_n72, ev_n73, ev_n74, ev_n75, ev_n76, ev_n77, ev_n78, ev_n79, ev_n80, ev_k18, ev_k34, ev_k40, ev_n26, ev_n26b, ev_n46, ev_n46b, ev_n52b, ev_uq, ev_us, ev_uj, ev_lq, ev_ls, ev_lj, ev_urq, ev_urs, ev_ulq, ev_uls, nI_add, pk_sub, pk_mul, if_true, if_false, ite_true, ite_false, decide_true, decide_false, eq_self_iff_true, Nat.reduceEqDiff, Nat.reduceLeDiff, Nat.reduceLT, Nat.reduceAdd, Nat.reduceMul, Nat.reduceSub, Nat.reduceDiv, Nat.reduceMod, ↓reduceIte]
    · have b := o3 (by decide)
      obtain ⟨p1, p2⟩ := o4 rfl
      have p1' : x 1 < F (x 0) 2 := p1
      have s12 := (hV.2 (x 0) b).2.2.2.1
      obtain ⟨a2, a3, a4⟩ := clM_c (k := x 1) (v := x 2) hM2 b (by omega)
      refine tO_r ⟨_, ?_, by rw [a4]; exact g1, a2, t2_t T a3⟩
      rw [IT, m_X6_item_101, E]
      simp -implicitDefEqProofs (disch := omega) only [g73 0 (by decide), g73 1 (by decide), g73 2 (by decide), m_X6_item_358, ev_b, ev_b2, ev_g, ev_gF, ev_on, ev_os, ev_cl, ev_in, ev_in6, ev_eq0, ev_lt0, ev_0le, ev_le0, ev_0lt, ev_lt, ev_le, ev_eq, ev_m1a, ev_m1b, ev_m1c, ev_m1d, ev_m1e, ev_n1, ev_n4, ev_n8, ev_n9, ev_n10, ev_n11, ev_n12, ev_n13, ev_n14, ev_n15, ev_n16, ev_n17, ev_n59, ev_n60, ev_n61, ev_n62, ev_n63, ev_n64, ev_n65, ev_n66, ev_n67, ev_n68, ev_n69, ev_n70, ev_n71, ev_n72, ev_n73, ev_n74, ev_n75, ev_n76, ev_n77, ev_n78, ev_n79, ev_n80, ev_k18, ev_k34, ev_k40, ev_n26, ev_n26b, ev_n46, ev_n46b, ev_n52b, ev_uq, ev_us, ev_uj, ev_lq, ev_ls, ev_lj, ev_urq, ev_urs, ev_ulq, ev_uls, nI_add, pk_sub, pk_mul, if_true, if_false, ite_true, ite_false, decide_true, decide_false, eq_self_iff_true, Nat.reduceEqDiff, Nat.reduceLeDiff, Nat.reduceLT, Nat.reduceAdd, Nat.reduceMul, Nat.reduceSub, Nat.reduceDiv, Nat.reduceMod, ↓reduceIte]
    · have b := o3 (by decide)
      obtain ⟨a2, a3, a4⟩ := clM_u (k := 1) (v := x 1) hM2 b (by decide)
      refine tO_r ⟨_, ?_, by rw [a4]; exact g1, a2, t2_t T a3⟩
      rw [IT, m_X6_item_101, E]
      simp -implicitDefEqProofs (disch := omega) only [g73 0 (by decide), g73 1 (by decide), m_X6_item_358, ev_b, ev_b2, ev_g, ev_gF, ev_on, ev_os, ev_cl, ev_in, ev_in6, ev_eq0, ev_lt0, ev_0le, ev_le0, ev_0lt, ev_lt, ev_le, ev_eq, ev_m1a, ev_m1b, ev_m1c, ev_m1d, ev_m1e, ev_n1, ev_n4, ev_n8, ev_n9, ev_n10, ev_n11, ev_n12, ev_n13, ev_n14, ev_n15, ev_n16, ev_n17, ev_n59, ev_n60, ev_n61, ev_n62, ev_n63, ev_n64, ev_n65, ev_n66, ev_n67, ev_n68, ev_n69, ev_n70, ev_n71, ev_n72, ev_n73, ev_n74, ev_n75, ev_n76, ev_n77, ev_n78, ev_n79, ev_n80, ev_k18, ev_k34, ev_k40, ev_n26, ev_n26b, ev_n46, ev_n46b, ev_n52b, ev_uq, ev_us, ev_uj, ev_lq, ev_ls, ev_lj, ev_urq, ev_urs, ev_ulq, ev_uls, nI_add, pk_sub, pk_mul, if_true, if_false, ite_true, ite_false, decide_true, decide_false, eq_self_iff_true, Nat.reduceEqDiff, Nat.reduceLeDiff, Nat.reduceLT, Nat.reduceAdd, Nat.reduceMul, Nat.reduceSub, Nat.reduceDiv, Nat.reduceMod, ↓reduceIte]
theorem rt_M {s m : Nat} {s' p' f' : Int32} {ν : fm_L} {c : Nat → Int32} (hc : ∀ i, c i = (ν 70 (160 * s + i)).toInt32) (hs : s < 8) (hm : m ≤ 160) : ∀ (d q a n fuel z : Nat) (F : Nat → Nat → Nat) (μ : fm_I), q + d = 23 → d + 1 ≤ fuel → 7 * q ≤ a → a ≤ m → stV n F → qS s m a μ → clM n F s' p' f' μ → (∀ ps, rn c m d a n F = .inl ps → ∃ v μ', (∀ K : Int32 → Int32 → fm_I → fm_L → Option (Int32 × fm_I × fm_L), (m_X6_item μ ν).bind (fun r57 => m_X6_table_62 K fuel (nI z) r57.1 r57.2.1 r57.2.2) = K v (nI 0) μ' ν) ∧ μ' 58 23 = nI ps ∧ t2 μ μ') ∧ (∀ L, rn c m d a n F = .inr L → ∃ μ', (∀ K : Int32 → Int32 → fm_I → fm_L → Option (Int32 × fm_I × fm_L), (m_X6_item μ ν).bind (fun r57 => m_X6_table_62 K fuel (nI z) r57.1 r57.2.1 r57.2.2) = K (nI (z + L.length - 1)) (nI 1) μ' ν) ∧ clM (foN L n) (foF L n F) s' p' f' μ' ∧ t2 μ μ' ∧ 1 ≤ L.length) := by
  intro d
  induction d with
  | zero => intro q a n fuel z F μ hq _ h7 ha; omega
  | succ d ih =>
    intro q a n fuel z F μ hq hf' h7 ha hV h hM
    obtain ⟨f, rfl⟩ : ∃ j, fuel = j + 1 := ⟨fuel - 1, by omega⟩
    have R := im_M hc hs hm ha hV h hM
    rcases hp : pI c m n (fun b => F b 2) a with p | ⟨e, w, x⟩
    · rw [hp] at R
      obtain ⟨μ1, r1, r2, r3⟩ := R
      rw [rn_l hp]
      refine ⟨fun p' h' => ?_, fun _ h' => (by cases h')⟩
      obtain rfl := Sum.inl.inj h'
      refine ⟨nI z, μ1, fun K => ?_, r2, r3⟩
      rw [r1, ev_b]
      show m_X6_table_62 K (f + 1) (nI z) (nI 0) μ1 ν = _
      rw [m_X6_table_62, if_pos nI0]
    · rw [hp] at R
      obtain ⟨μ1, r1, r2, r3, r4⟩ := R
      obtain ⟨_, w5, ae, em, o⟩ := pI_r hp
      obtain ⟨V1, V2⟩ := stV_e hV o
      have h1 := qS_f h r4 r2
      have E : ∀ K : Int32 → Int32 → fm_I → fm_L → Option (Int32 × fm_I × fm_L), (m_X6_item μ ν).bind (fun r57 => m_X6_table_62 K (f + 1) (nI z) r57.1 r57.2.1 r57.2.2) = m_X6_table_62 K (f + 1) (nI z) (nI 1) μ1 ν := fun K => by
        rw [r1, ev_b]
      by_cases y : m ≤ e
      · rw [rn_e hp y]
        refine ⟨fun _ h' => (by cases h'), fun L h' => ?_⟩
        obtain rfl := Sum.inr.inj h'
        refine ⟨μ1, fun K => ?_, r3, r4, Nat.le_refl 1⟩
        rw [E, m_X6_table_62, if_neg nI1n, h1.2.2.1, h1.2.1, if_pos (le_i y (by omega))]
        rfl
      · by_cases y2 : c e = nI 59
        · have h2 : qS s m (e + 1) (fm_u μ1 58 20 (nI (e + 1))) := qS_f h1 (t2_f (tf_u μ1 _ (by omega))) ev_us
          have hM2 : clM (exN w n) (exF w x n F) s' p' f' (fm_u μ1 58 20 (nI (e + 1))) := clM_f r3 (tf_u μ1 _ (by omega))
          have T := t2_t r4 (t2_f (tf_u μ1 (nI (e + 1)) (k := 20) (by omega)))
          obtain ⟨i1, i2⟩ := ih (q + 1) (e + 1) (exN w n) f (z + 1) (exF w x n F) (fm_u μ1 58 20 (nI (e + 1))) (by omega) (by omega) (by omega) (by omega) V1 h2 hM2
          have E2 : ∀ K : Int32 → Int32 → fm_I → fm_L → Option (Int32 × fm_I × fm_L), m_X6_table_62 K (f + 1) (nI z) (nI 1) μ1 ν = (m_X6_item (fm_u μ1 58 20 (nI (e + 1))) ν).bind (fun r57 => m_X6_table_62 K f (nI (z + 1)) r57.1 r57.2.1 r57.2.2) := fun K => by
            rw [m_X6_table_62, if_neg nI1n, h1.2.2.1, h1.2.1, if_neg (nle_i (by omega) (by omega)), h1.1, nI_add, ev_in (by rw [ev_n70]; omega) (by omega), ev_g, ev_cl (by omega), ← hc e, if_pos y2, nI_add, nI_add]
          rw [rn_c hp y y2]
          rcases hr : rn c m d (e + 1) (exN w n) (exF w x n F) with p | L'
          · refine ⟨fun p' h' => ?_, fun _ h' => (by cases h')⟩
            obtain rfl := Sum.inl.inj h'
            obtain ⟨v, μ', j1, j2, j3⟩ := i1 p hr
            exact ⟨v, μ', fun K => by rw [E, E2, j1], j2, t2_t T j3⟩
          · refine ⟨fun _ h' => (by cases h'), fun L h' => ?_⟩
            obtain rfl := Sum.inr.inj h'
            obtain ⟨μ', j1, j2, j3, j4⟩ := i2 L' hr
            have ln : ((w, x) :: L').length = L'.length + 1 := rfl
            refine ⟨μ', fun K => ?_, j2, t2_t T j3, by rw [ln]; omega⟩
            rw [E, E2, j1, ln, show z + 1 + L'.length - 1 = z + (L'.length + 1) - 1 by omega]
        · rw [rn_n hp y y2]
          refine ⟨fun p' h' => ?_, fun _ h' => (by cases h')⟩
          obtain rfl := Sum.inl.inj h'
          obtain ⟨g, rfl⟩ : ∃ j, f = j + 1 := ⟨f - 1, by omega⟩
          refine ⟨nI z, fm_u μ1 58 23 (nI e), fun K => ?_, ev_us, t2_t r4 (t2_f (tf_u μ1 _ (by omega)))⟩
          rw [E, m_X6_table_62, if_neg nI1n, h1.2.2.1, h1.2.1, if_neg (nle_i (by omega) (by omega)), h1.1, nI_add, ev_in (by rw [ev_n70]; omega) (by omega), ev_g, ev_cl (by omega), ← hc e, if_neg y2, m_X6_wrong, ev_b]
          show m_X6_table_62 K (g + 1) (nI z) (nI 0) (fm_u μ1 58 23 (nI e)) ν = _
          rw [m_X6_table_62, if_pos nI0]
