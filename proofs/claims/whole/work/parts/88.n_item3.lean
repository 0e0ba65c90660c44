/-! THE REFERENCE READS AN ITEM, AND CARRIES IT OUT -/
theorem nums_0 {c : Nat → Int32} {m w n d a : Nat} {S x : Nat → Nat} : nums c m w n S (d + 1) 0 a x = match pD c m a (lo w 0) (hx w 0 n (S (x 0))) with
    | .inl p => .inl p
    | .inr (e, v) => nums c m w n S d 1 e (xU x 0 v) := by
  rw [nums, if_pos rfl]
  rcases pD c m a (lo w 0) (hx w 0 n (S (x 0))) with p | ⟨e, v⟩
  · rfl
  · rfl
theorem nm_M {s m w n : Nat} {F : Nat → Nat → Nat} {s' p' f' : Int32} {ν : fm_L} {c : Nat → Int32} (hc : ∀ i, c i = (ν 70 (160 * s + i)).toInt32) (hs : s < 8) (hm : m ≤ 160) (hw : w < 5) (hV : stV n F) : ∀ (d i fuel a : Nat) (x : Nat → Nat) (μ : fm_I), i + d = cnt w → d < fuel → a ≤ m → qS s m a μ → clM n F s' p' f' μ → (∀ j, j < i → μ 73 j = nI (x j)) → (0 < i → w ≠ 0 → x 0 < n) → (∀ ps, nums c m w n (fun b => F b 2) d i a x = .inl ps → ∃ μ', (∀ K : fm_I → fm_L → Option (Int32 × fm_I × fm_L), m_X6_item_105 (nI w) (nI (cnt w)) K fuel (nI i) μ ν = some (nI 0, μ', ν)) ∧ μ' 58 23 = nI ps ∧ tf μ μ') ∧ (∀ e y, nums c m w n (fun b => F b 2) d i a x = .inr (e, y) → ∃ μ', (∀ K : fm_I → fm_L → Option (Int32 × fm_I × fm_L), m_X6_item_105 (nI w) (nI (cnt w)) K fuel (nI i) μ ν = K μ' ν) ∧ μ' 58 20 = nI e ∧ (∀ j, j < cnt w → μ' 73 j = nI (y j)) ∧ tf μ μ') := by
  have cj : cnt w ≤ 4 := by
    unfold cnt
    split <;> omega
  intro d
  induction d with
  | zero =>
    intro i fuel a x μ hi hf' ha h hM h73 hxn
    obtain ⟨f, rfl⟩ : ∃ j, fuel = j + 1 := ⟨fuel - 1, by omega⟩
    obtain rfl : i = cnt w := by omega
    rw [nums]
    refine ⟨fun _ q => (by cases q), fun e y q => ?_⟩
    have q' := Prod.mk.inj (Sum.inr.inj q)
    refine ⟨μ, fun K => ?_, by rw [← q'.1]; exact h.2.1, fun j hj => by rw [← q'.2]; exact h73 j hj, tf_r μ⟩
    rw [m_X6_item_105, if_pos (le_i (Nat.le_refl _) (by omega))]
  | succ d ih =>
    intro i fuel a x μ hi hf' ha h hM h73 hxn
    obtain ⟨f, rfl⟩ : ∃ j, fuel = j + 1 := ⟨fuel - 1, by omega⟩
    /- what follows a number that was read -/
    have go : ∀ (μ1 : fm_I) (e v : Nat), v < hx w i n (F (x 0) 2) → e ≤ m → μ1 58 20 = nI e → μ1 73 i = nI v → (∀ j, j ≠ i → μ1 73 j = μ 73 j) → tf μ μ1 → (∀ K : fm_I → fm_L → Option (Int32 × fm_I × fm_L), m_X6_item_105 (nI w) (nI (cnt w)) K (f + 1) (nI i) μ ν = m_X6_item_105 (nI w) (nI (cnt w)) K f (nI (i + 1)) μ1 ν) → (∀ ps, nums c m w n (fun b => F b 2) d (i + 1) e (xU x i v) = .inl ps → ∃ μ', (∀ K : fm_I → fm_L → Option (Int32 × fm_I × fm_L), m_X6_item_105 (nI w) (nI (cnt w)) K (f + 1) (nI i) μ ν = some (nI 0, μ', ν)) ∧ μ' 58 23 = nI ps ∧ tf μ μ') ∧ (∀ e' y, nums c m w n (fun b => F b 2) d (i + 1) e (xU x i v) = .inr (e', y) → ∃ μ', (∀ K : fm_I → fm_L → Option (Int32 × fm_I × fm_L), m_X6_item_105 (nI w) (nI (cnt w)) K (f + 1) (nI i) μ ν = K μ' ν) ∧ μ' 58 20 = nI e' ∧ (∀ j, j < cnt w → μ' 73 j = nI (y j)) ∧ tf μ μ') := by
      intro μ1 e v hv he h20 h73i h73j t E
      obtain ⟨i1, i2⟩ := ih (i + 1) f e (xU x i v) μ1 (by omega) (by omega) he (qS_f h (t2_f t) h20) (clM_f hM t) (fun j hj => by
        by_cases z : j = i
        · rw [z, h73i, show xU x i v i = v from if_pos rfl]
        · rw [h73j j z, show xU x i v j = x j from if_neg z]
          exact h73 j (by omega)) (fun _ w0 => by
        by_cases z : i = 0
        · subst z
          rw [show xU x 0 v 0 = v from if_pos rfl]
          have e0 : hx w 0 n (F (x 0) 2) = n := by
            unfold hx
            rw [if_neg w0, if_pos rfl]
          omega
        · rw [show xU x i v 0 = x 0 from if_neg (fun y => z y.symm)]
          exact hxn (by omega) w0)
      refine ⟨fun ps q => ?_, fun e' y q => ?_⟩
      · obtain ⟨μ', j1, j2, j3⟩ := i1 ps q
        exact ⟨μ', fun K => by rw [E, j1], j2, tf_t t j3⟩
      · obtain ⟨μ', j1, j2, j3, j4⟩ := i2 e' y q
        exact ⟨μ', fun K => by rw [E, j1], j2, j3, tf_t t j4⟩
    by_cases hi0 : i = 0
    · subst hi0
      have P := pD_M (x0 := x 0) (sx := F (x 0) 2) hc hs hm ha h hw (show 0 < cnt w by omega) hV.1 hM.1 (fun _ y => absurd y (by decide))
      have E0 : ∀ K : fm_I → fm_L → Option (Int32 × fm_I × fm_L), m_X6_item_105 (nI w) (nI (cnt w)) K (f + 1) (nI 0) μ ν = (m_X6_number μ ν).bind (fun r173 => if r173.1 = 0 then some (((nI 0), r173.2.1, r173.2.2)) else (m_X6_isSo (nI w) (nI 0) r173.2.1 r173.2.2).bind (fun r185 => if r185 = 0 then (m_X6_wrong (nI a) r173.2.1 r173.2.2).bind (fun r194 => fm_g (fm_b01 r194.1) (some ((r194.1, r194.2.1, r194.2.2)))) else fm_g (fm_in (nI 0) (fm_n 73)) (m_X6_item_105 (nI w) (nI (cnt w)) K f ((nI 0 + nI 1)) (fm_u r173.2.1 73 (nI 0).toNatClampNeg ((r173.2.1 58 22))) r173.2.2))) := fun K => by
        rw [m_X6_item_105, if_neg (nle_i (by omega) (by omega)), if_pos (by decide), h.2.1]
      rw [nums_0]
      rcases hr : pD c m a (lo w 0) (hx w 0 n (F (x 0) 2)) with ps | ⟨e, v⟩
      · obtain ⟨μ1, p1, p2, p3⟩ := P.1 ps hr
        refine ⟨fun ps' q => ?_, fun _ _ q => (by cases q)⟩
        obtain rfl := Sum.inl.inj q
        exact ⟨μ1, fun K => by rw [E0, p1], p2, p3⟩
      · obtain ⟨μ1, p1, p2, p3, p4, p5⟩ := P.2 e v hr
        obtain ⟨b1, b2, b3, b4, b5⟩ := pD_r hr
        exact go μ1 e v b4 (b2 ha) p2 p3 p4 p5 (fun K => by rw [E0, p1])
    · obtain ⟨k, rfl⟩ : ∃ k, i = k + 1 := ⟨i - 1, by omega⟩
      rw [nums_s]
      by_cases z : a < m ∧ c a = nI 32
      · have hP : pN c m a (lo w (k + 1)) (hx w (k + 1) n (F (x 0) 2)) = pD c m (a + 1) (lo w (k + 1)) (hx w (k + 1) n (F (x 0) 2)) := by unfold pN; rw [if_pos z]
        have h1 : qS s m (a + 1) (fm_u μ 58 20 (nI (a + 1))) := qS_f h (t2_f (tf_u μ _ (by omega))) ev_us
        have P := pD_M (x0 := x 0) (sx := F (x 0) 2) (μ := fm_u μ 58 20 (nI (a + 1))) (i := k + 1) hc hs hm (show a + 1 ≤ m by omega) h1 hw (show k + 1 < cnt w by omega) hV.1 (by rw [ev_uj (by decide)]; exact hM.1) (fun w3 _ => by
          have xn := hxn (by omega) (by omega)
          have hB := hV.2 (x 0) xn
          have n6 := hV.1
          refine ⟨by omega, by have := hB.2.2.2.1; omega, by rw [ev_uq (by decide)]; exact h73 0 (by omega), by rw [ev_uq (by decide)]; exact (hM.2.2.2.2 (x 0) xn).2.2.1⟩)
        have E0 : ∀ K : fm_I → fm_L → Option (Int32 × fm_I × fm_L), m_X6_item_105 (nI w) (nI (cnt w)) K (f + 1) (nI (k + 1)) μ ν = (m_X6_number (fm_u μ 58 20 (nI (a + 1))) ν).bind (fun r173 => if r173.1 = 0 then some (((nI 0), r173.2.1, r173.2.2)) else (m_X6_isSo (nI w) (nI (k + 1)) r173.2.1 r173.2.2).bind (fun r185 => if r185 = 0 then (m_X6_wrong (nI (a + 1)) r173.2.1 r173.2.2).bind (fun r194 => fm_g (fm_b01 r194.1) (some ((r194.1, r194.2.1, r194.2.2)))) else fm_g (fm_in (nI (k + 1)) (fm_n 73)) (m_X6_item_105 (nI w) (nI (cnt w)) K f ((nI (k + 1) + nI 1)) (fm_u r173.2.1 73 (nI (k + 1)).toNatClampNeg ((r173.2.1 58 22))) r173.2.2))) := fun K => by
          rw [m_X6_item_105, if_neg (nle_i (by omega) (by omega)), if_neg (by rw [← nI0]; exact nle_i (by omega) (by omega)), h.2.1, h.2.2.1, if_neg (nle_i (by omega) (by omega)), h.1, nI_add, ev_in (by rw [ev_n70]; omega) (by omega), ev_g, ev_cl (k := 160 * s + a) (by omega), ← hc a, if_pos z.2, nI_add, ev_us]
        rw [hP]
        rcases hr : pD c m (a + 1) (lo w (k + 1)) (hx w (k + 1) n (F (x 0) 2)) with ps | ⟨e, v⟩
        · obtain ⟨μ1, p1, p2, p3⟩ := P.1 ps hr
          refine ⟨fun ps' q => ?_, fun _ _ q => (by cases q)⟩
          obtain rfl := Sum.inl.inj q
          exact ⟨μ1, fun K => by rw [E0, p1], p2, tf_t (tf_u μ _ (by omega)) p3⟩
        · obtain ⟨μ1, p1, p2, p3, p4, p5⟩ := P.2 e v hr
          obtain ⟨b1, b2, b3, b4, b5⟩ := pD_r hr
          exact go μ1 e v b4 (b2 (by omega)) p2 p3 (fun j hj => by rw [p4 j hj, ev_uq (by decide)]) (tf_t (tf_u μ _ (by omega)) p5) (fun K => by rw [E0, p1])
      · have hP : pN c m a (lo w (k + 1)) (hx w (k + 1) n (F (x 0) 2)) = .inl a := by unfold pN; rw [if_neg z]
        rw [hP]
        refine ⟨fun ps' q => ?_, fun _ _ q => (by cases q)⟩
        obtain rfl := Sum.inl.inj q
        refine ⟨fm_u μ 58 23 (nI a), fun K => ?_, ev_us, tf_u μ _ (by omega)⟩
        rw [m_X6_item_105, if_neg (nle_i (by omega) (by omega)), if_neg (by rw [← nI0]; exact nle_i (by omega) (by omega)), h.2.1, h.2.2.1]
        by_cases y : m ≤ a
        · rw [if_pos (le_i y (by omega)), m_X6_wrong, ev_b]
          rfl
        · rw [if_neg (nle_i (by omega) (by omega)), h.1, nI_add, ev_in (by rw [ev_n70]; omega) (by omega), ev_g, ev_cl (k := 160 * s + a) (by omega), ← hc a, if_neg (fun w => z ⟨by omega, w⟩), m_X6_wrong, ev_b]
          rfl
theorem clM_u {n : Nat} {F : Nat → Nat → Nat} {s p f : Int32} {μ : fm_I} (h : clM n F s p f μ) {b k v : Nat} (hb : b < n) (hk : k ≤ 4) : clM n (fU F b k v) s p f (fm_u μ (60 + k) b (nI v)) ∧ t2 μ (fm_u μ (60 + k) b (nI v)) ∧ (fm_u μ (60 + k) b (nI v)) 58 = μ 58 := by
  obtain ⟨h1, h2, h3, h4, h5⟩ := h
  have e : (fm_u μ (60 + k) b (nI v)) 58 = μ 58 := ev_uq (by omega)
  refine ⟨⟨by rw [e]; exact h1, by rw [e]; exact h2, by rw [e]; exact h3, by rw [e]; exact h4, fun c hc => M_of (fun j hj => ?_) (fun i hi => ?_)⟩, ⟨fun y y1 y2 _ => ev_uq (by omega), fun j _ _ _ _ => by rw [e]⟩, e⟩
  · rw [ev_u]
    by_cases z : c = b ∧ j = k
    · rw [if_pos (by omega), z.1, z.2, fU_s]
    · rw [if_neg (by omega), fU_n (by omega)]
      exact M_at (h5 c hc) j hj
  · rw [ev_uq (by omega), fU_n (by omega)]
    exact (h5 c hc).2.2.2.2.2 i hi
theorem clM_c {n : Nat} {F : Nat → Nat → Nat} {s p f : Int32} {μ : fm_I} (h : clM n F s p f μ) {b k v : Nat} (hb : b < n) (hk : k < 12) : clM n (fU F b (10 + k) v) s p f (fm_u μ 65 (12 * b + k) (nI v)) ∧ t2 μ (fm_u μ 65 (12 * b + k) (nI v)) ∧ (fm_u μ 65 (12 * b + k) (nI v)) 58 = μ 58 := by
  obtain ⟨h1, h2, h3, h4, h5⟩ := h
  have e : (fm_u μ 65 (12 * b + k) (nI v)) 58 = μ 58 := ev_uq (by omega)
  refine ⟨⟨by rw [e]; exact h1, by rw [e]; exact h2, by rw [e]; exact h3, by rw [e]; exact h4, fun c hc => M_of (fun j hj => ?_) (fun i hi => ?_)⟩, ⟨fun y y1 y2 _ => ev_uq (by omega), fun j _ _ _ _ => by rw [e]⟩, e⟩
  · rw [ev_uq (by omega), fU_n (by omega)]
    exact M_at (h5 c hc) j hj
  · rw [ev_u]
    by_cases z : c = b ∧ i = k
    · rw [if_pos (by omega), z.1, z.2, fU_s]
    · rw [if_neg (by omega), fU_n (by omega)]
      exact (h5 c hc).2.2.2.2.2 i hi
theorem add_M2 {n : Nat} {F : Nat → Nat → Nat} {s p f : Int32} {μ : fm_I} (ν : fm_L) (h : clM n F s p f μ) (hn : n < 6) (k t st hd a : Nat) : ∃ μ1, m_X6_adds (nI k) (nI t) (nI st) (nI hd) (nI a) μ ν = some (nI n, μ1, ν) ∧ clM (n + 1) (fA F n (nb k t st hd a)) s p f μ1 ∧ t2 μ μ1 ∧ μ1 58 20 = μ 58 20 := by
  obtain ⟨μ1, a1, a2, a3⟩ := add_M ν h hn k t st hd a
  have h1 := h.1
  have e1 : m_X6_adds (nI k) (nI t) (nI st) (nI hd) (nI a) μ ν = some (nI n, fm_u (fm_ur (fm_u (fm_u (fm_u (fm_u (fm_u μ 60 n (nI k)) 61 n (nI t)) 62 n (nI st)) 63 n (nI hd)) 64 n (nI a)) 65 (fun j => if 12 * n + 0 ≤ j ∧ j < 12 * n + 12 then nI 0 else (fm_u (fm_u (fm_u (fm_u (fm_u μ 60 n (nI k)) 61 n (nI t)) 62 n (nI st)) 63 n (nI hd)) 64 n (nI a)) 65 j)) 58 0 (nI (n + 1)), ν) := by
    simp -implicitDefEqProofs (disch := omega) only [m_X6_adds, h1, ev_b, ev_b2, ev_g, ev_gF, ev_on, ev_os, ev_cl, ev_in, ev_in6, ev_eq0, ev_lt0, ev_0le, ev_le0, ev_0lt, ev_lt, ev_le, ev_eq, ev_m1a, ev_m1b, ev_m1c, ev_m1d, ev_m1e, ev_n1, ev_n4, ev_n8, ev_n9, ev_n10, ev_n11, ev_n12, ev_n13, ev_n14, ev_n15, ev_n16, ev_n17, ev_n59, ev_n60, ev_n61, ev_n62, ev_n63, ev_n64, ev_n65, ev_n66, ev_n67, ev_n68, ev_n69, ev_n70, ev_n71, ev_n72, ev_n73, ev_n74, ev_n75, ev_n76, ev_n77, ev_n78, ev_n79, ev_n80, ev_k18, ev_k34, ev_k40, ev_n26, ev_n26b, ev_n46, ev_n46b, ev_n52b, ev_uq, ev_us, ev_uj, ev_lq, ev_ls, ev_lj, ev_urq, ev_urs, ev_ulq, ev_uls, nI_add, pk_sub, pk_mul, if_true, if_false, ite_true, ite_false, decide_true, decide_false, eq_self_iff_true, Nat.reduceEqDiff, Nat.reduceLeDiff, Nat.reduceLT, Nat.reduceAdd, Nat.reduceMul, Nat.reduceSub, Nat.reduceDiv, Nat.reduceMod, ↓reduceIte]
    rw [fill_65 n hn _ 12 0 5000 _ ν (by omega) (by omega) (by simp -implicitDefEqProofs (disch := omega) only [ev_b, ev_b2, ev_g, ev_gF, ev_on, ev_os, ev_cl, ev_in, ev_in6, ev_eq0, ev_lt0, ev_0le, ev_le0, ev_0lt, ev_lt, ev_le, ev_eq, ev_m1a, ev_m1b, ev_m1c, ev_m1d, ev_m1e, ev_n1, ev_n4, ev_n8, ev_n9, ev_n10, ev_n11, ev_n12, ev_n13, ev_n14, ev_n15, ev_n16, ev_n17, ev_n59, ev_n60, ev_n61, ev_n62, ev_n63, ev_n64, ev_n65, ev_n66, ev_n67, ev_n68, ev_n69, ev_n70, ev_n71, ev_n72, ev_n73, ev_n74, ev_n75, ev_n76, ev_n77, ev_n78, ev_n79, ev_n80, ev_k18, ev_k34, ev_k40, ev_n26, ev_n26b, ev_n46, ev_n46b, ev_n52b, ev_uq, ev_us, ev_uj, ev_lq, ev_ls, ev_lj, ev_urq, ev_urs, ev_ulq, ev_uls, nI_add, pk_sub, pk_mul, if_true, if_false, ite_true, ite_false, decide_true, decide_false, eq_self_iff_true, Nat.reduceEqDiff, Nat.reduceLeDiff, Nat.reduceLT, Nat.reduceAdd, Nat.reduceMul, Nat.reduceSub, Nat.reduceDiv, Nat.reduceMod, ↓reduceIte]; exact h1)]
    simp -implicitDefEqProofs (disch := omega) only [h1, ev_b, ev_b2, ev_g, ev_gF, ev_on, ev_os, ev_cl, ev_in, ev_in6, ev_eq0, ev_lt0, ev_0le, ev_le0, ev_0lt, ev_lt, ev_le, ev_eq, ev_m1a, ev_m1b, ev_m1c, ev_m1d, ev_m1e, ev_n1, ev_n4, ev_n8, ev_n9, ev_n10, ev_n11, ev_n12, ev_n13, ev_n14, ev_n15, ev_n16, ev_n17, ev_n59, ev_n60, ev_n61, ev_n62, ev_n63, ev_n64, ev_n65, ev_n66, ev_n67, ev_n68, ev_n69, ev_n70, ev_n71, ev_n72, ev_n73, ev_n74, ev_n75, ev_n76, ev_n77, ev_n78, ev_n79, ev_n80, ev_k18, ev_k34, ev_k40, ev_n26, ev_n26b, ev_n46, ev_n46b, ev_n52b, ev_uq, ev_us, ev_uj, ev_lq, ev_ls, ev_lj, ev_urq, ev_urs, ev_ulq, ev_uls, nI_add, pk_sub, pk_mul, if_true, if_false, ite_true, ite_false, decide_true, decide_false, eq_self_iff_true, Nat.reduceEqDiff, Nat.reduceLeDiff, Nat.reduceLT, Nat.reduceAdd, Nat.reduceMul, Nat.reduceSub, Nat.reduceDiv, Nat.reduceMod, ↓reduceIte]
  rw [a1] at e1
  have e2 := (Prod.mk.inj (Prod.mk.inj (Option.some.inj e1)).2).1
  refine ⟨μ1, a1, a3, ⟨fun y y1 y2 y3 => ?_, fun j j0 _ _ _ => ?_⟩, ?_⟩
  · rw [e2, ev_uq y1, ev_urq (by omega), ev_uq (by omega), ev_uq (by omega), ev_uq (by omega), ev_uq (by omega), ev_uq (by omega)]
  · rw [e2, ev_uj j0, ev_urq (by omega), ev_uq (by omega), ev_uq (by omega), ev_uq (by omega), ev_uq (by omega), ev_uq (by omega)]
  · rw [e2, ev_uj (by decide), ev_urq (by omega), ev_uq (by omega), ev_uq (by omega), ev_uq (by omega), ev_uq (by omega), ev_uq (by omega)]
