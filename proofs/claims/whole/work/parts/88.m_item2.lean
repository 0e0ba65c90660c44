/-! THE REFERENCE READS NUMBERS -/
/-- what stays while the reference reads numbers; while it reads items -/
def tf (μ μ' : fm_I) : Prop := (∀ y, y ≠ 58 → y ≠ 73 → μ' y = μ y) ∧ ∀ j, j ≠ 20 → j ≠ 22 → j ≠ 23 → μ' 58 j = μ 58 j
def t2 (μ μ' : fm_I) : Prop := (∀ y, y ≠ 58 → ¬ (60 ≤ y ∧ y ≤ 65) → y ≠ 73 → μ' y = μ y) ∧ ∀ j, j ≠ 0 → j ≠ 20 → j ≠ 22 → j ≠ 23 → μ' 58 j = μ 58 j
theorem tf_r (μ : fm_I) : tf μ μ := ⟨fun _ _ _ => rfl, fun _ _ _ _ => rfl⟩
theorem tf_t {a b c : fm_I} (h : tf a b) (h2 : tf b c) : tf a c := ⟨fun y y1 y2 => (h2.1 y y1 y2).trans (h.1 y y1 y2), fun j j1 j2 j3 => (h2.2 j j1 j2 j3).trans (h.2 j j1 j2 j3)⟩
theorem t2_t {a b c : fm_I} (h : t2 a b) (h2 : t2 b c) : t2 a c := ⟨fun y y1 y2 y3 => (h2.1 y y1 y2 y3).trans (h.1 y y1 y2 y3), fun j j0 j1 j2 j3 => (h2.2 j j0 j1 j2 j3).trans (h.2 j j0 j1 j2 j3)⟩
theorem t2_f {a b : fm_I} (h : tf a b) : t2 a b := ⟨fun y y1 _ y3 => h.1 y y1 y3, fun j _ j1 j2 j3 => h.2 j j1 j2 j3⟩
theorem tf_u (μ : fm_I) {k : Nat} (v : Int32) (hk : k = 20 ∨ k = 22 ∨ k = 23) : tf μ (fm_u μ 58 k v) := ⟨fun y y1 _ => ev_uq y1, fun j j1 j2 j3 => by rw [ev_uj (by omega)]⟩
theorem tf_73 (μ : fm_I) (k : Nat) (v : Int32) : tf μ (fm_u μ 73 k v) := ⟨fun y _ y2 => ev_uq y2, fun j _ _ _ => by rw [ev_uq (by decide)]⟩
theorem qS_f {s m a a' : Nat} {μ μ' : fm_I} (h : qS s m a μ) (t : t2 μ μ') (e : μ' 58 20 = nI a') : qS s m a' μ' := ⟨by rw [t.2 19 (by decide) (by decide) (by decide) (by decide)]; exact h.1, e, by rw [t.2 21 (by decide) (by decide) (by decide) (by decide)]; exact h.2.2.1, fun i hi => by rw [t.1 72 (by decide) (by decide) (by decide)]; exact h.2.2.2 i hi⟩
theorem clM_f {n : Nat} {F : Nat → Nat → Nat} {s p f : Int32} {μ μ' : fm_I} (h : clM n F s p f μ) (t : tf μ μ') : clM n F s p f μ' := by
  obtain ⟨h1, h2, h3, h4, h5⟩ := h
  exact ⟨by rw [t.2 0 (by decide) (by decide) (by decide)]; exact h1, by rw [t.2 2 (by decide) (by decide) (by decide)]; exact h2, by rw [t.2 1 (by decide) (by decide) (by decide)]; exact h3, by rw [t.2 3 (by decide) (by decide) (by decide)]; exact h4, fun b hb => kp_M (h5 b hb) (fun q q1 q2 => t.1 q (by omega) (by omega))⟩
def tg (μ μ' : fm_I) : Prop := (∀ y, y ≠ 58 → μ' y = μ y) ∧ ∀ j, j ≠ 20 → j ≠ 22 → j ≠ 23 → μ' 58 j = μ 58 j
theorem tg_r (μ : fm_I) : tg μ μ := ⟨fun _ _ => rfl, fun _ _ _ _ => rfl⟩
theorem tg_t {a b c : fm_I} (h : tg a b) (h2 : tg b c) : tg a c := ⟨fun y y1 => (h2.1 y y1).trans (h.1 y y1), fun j j1 j2 j3 => (h2.2 j j1 j2 j3).trans (h.2 j j1 j2 j3)⟩
theorem tg_f {a b : fm_I} (h : tg a b) : tf a b := ⟨fun y y1 _ => h.1 y y1, h.2⟩
theorem tg_u (μ : fm_I) {k : Nat} (v : Int32) (hk : k = 20 ∨ k = 22 ∨ k = 23) : tg μ (fm_u μ 58 k v) := ⟨fun y y1 => ev_uq y1, fun j j1 j2 j3 => by rw [ev_uj (by omega)]⟩
theorem idg {s m a : Nat} {μ : fm_I} {ν : fm_L} {c : Nat → Int32} (hc : ∀ i, c i = (ν 70 (160 * s + i)).toInt32) (hs : s < 8) (hm : m ≤ 160) (ha : a ≤ m) (h19 : μ 58 19 = nI (160 * s)) (h20 : μ 58 20 = nI a) (h21 : μ 58 21 = nI m) : (a < m ∧ nI 48 ≤ c a ∧ c a ≤ nI 57 → m_X6_isDigit μ ν = some (nI 1)) ∧ (¬ (a < m ∧ nI 48 ≤ c a ∧ c a ≤ nI 57) → m_X6_isDigit μ ν = some (nI 0)) := by
  constructor
  · intro z
    rw [m_X6_isDigit, h21, h20, if_neg (nle_i z.1 (by omega)), h19, nI_add, ev_in (by rw [ev_n70]; omega) (by omega), ev_g, ev_cl (by omega), ← hc a, if_neg (by rw [i_nlt z.2.1]; exact not_false), if_neg (by rw [i_nlt z.2.2]; exact not_false)]
  · intro z
    rw [m_X6_isDigit, h21, h20]
    by_cases y : m ≤ a
    · rw [if_pos (le_i y (by omega))]
    · rw [if_neg (nle_i (by omega) (by omega)), h19, nI_add, ev_in (by rw [ev_n70]; omega) (by omega), ev_g, ev_cl (by omega), ← hc a]
      by_cases w : c a < nI 48
      · rw [if_pos w]
      · rw [if_neg w, if_pos (by
          by_cases w2 : nI 57 < c a
          · exact w2
          · refine absurd ⟨by omega, ?_, ?_⟩ z
            · rw [Int32.lt_iff_toInt_lt] at w
              rw [Int32.le_iff_toInt_le]
              omega
            · rw [Int32.lt_iff_toInt_lt] at w2
              rw [Int32.le_iff_toInt_le]
              omega)]
theorem nb_23 {s m : Nat} {ν : fm_L} {c : Nat → Int32} (hc : ∀ i, c i = (ν 70 (160 * s + i)).toInt32) (hs : s < 8) (hm : m ≤ 160) (K : fm_I → fm_L → Option (Int32 × fm_I × fm_L)) : ∀ (d k fuel a v : Nat) (μ : fm_I), k + d = 4 → d < fuel → a ≤ m → μ 58 19 = nI (160 * s) → μ 58 20 = nI a → μ 58 21 = nI m → μ 58 22 = nI v → ∃ μ', m_X6_number_23 K fuel (nI k) μ ν = K μ' ν ∧ μ' 58 20 = nI (dg c m d a v).1 ∧ μ' 58 22 = nI (dg c m d a v).2 ∧ tg μ μ' := by
  intro d
  induction d with
  | zero =>
    intro k fuel a v μ hk hf' ha h19 h20 h21 h22
    obtain ⟨f, rfl⟩ : ∃ j, fuel = j + 1 := ⟨fuel - 1, by omega⟩
    refine ⟨μ, ?_, h20, h22, tg_r μ⟩
    rw [m_X6_number_23, if_pos (le_i (by omega) (by omega))]
  | succ d ih =>
    intro k fuel a v μ hk hf' ha h19 h20 h21 h22
    obtain ⟨f, rfl⟩ : ∃ j, fuel = j + 1 := ⟨fuel - 1, by omega⟩
    have D := idg (μ := μ) (ν := ν) hc hs hm ha h19 h20 h21
    rw [dg]
    by_cases z : a < m ∧ nI 48 ≤ c a ∧ c a ≤ nI 57
    · rw [dif_pos z]
      obtain ⟨z1, z2, z3⟩ := isD_v (x := c a) z.2
      obtain ⟨μ', q1, q2, q3, q4⟩ := ih (k + 1) f (a + 1) (v * 10 + dV (c a) - 48) (fm_u (fm_u μ 58 22 (nI (v * 10 + dV (c a) - 48))) 58 20 (nI (a + 1))) (by omega) (by omega) (by omega) (by rw [ev_uj (by decide), ev_uj (by decide)]; exact h19) ev_us (by rw [ev_uj (by decide), ev_uj (by decide)]; exact h21) (by rw [ev_uj (by decide), ev_us])
      refine ⟨μ', ?_, q2, q3, tg_t (tg_t (tg_u μ _ (by omega)) (tg_u _ _ (by omega))) q4⟩
      rw [← q1, m_X6_number_23, if_neg (nle_i (by omega) (by omega)), D.1 z, ev_b, if_neg (by decide), h19, h20, nI_add, ev_in (by rw [ev_n70]; omega) (by omega), ev_g, ev_cl (by omega), ← hc a, h22]
      rw [show nI 10 * nI v + c a - nI 48 = nI (v * 10 + dV (c a) - 48) by
        rw [pk_mul]
        conv => lhs; rw [z1]
        rw [nI_add, pk_sub (by omega), Nat.mul_comm 10 v]]
      rw [ev_uj (by decide), h20, nI_add, nI_add]
    · rw [dif_neg z]
      refine ⟨μ, ?_, h20, h22, tg_r μ⟩
      rw [m_X6_number_23, if_neg (nle_i (by omega) (by omega)), D.2 z, ev_b, if_pos (by decide)]
theorem nb_M {s m a : Nat} {ν : fm_L} {c : Nat → Int32} (hc : ∀ i, c i = (ν 70 (160 * s + i)).toInt32) (hs : s < 8) (hm : m ≤ 160) {μ : fm_I} (ha : a ≤ m) (h19 : μ 58 19 = nI (160 * s)) (h20 : μ 58 20 = nI a) (h21 : μ 58 21 = nI m) : ((dg c m 4 a 0).1 = a → ∃ μ', m_X6_number μ ν = some (nI 0, μ', ν) ∧ μ' 58 23 = nI a ∧ tg μ μ') ∧ (¬ (dg c m 4 a 0).1 = a → ∃ μ', m_X6_number μ ν = some (nI 1, μ', ν) ∧ μ' 58 20 = nI (dg c m 4 a 0).1 ∧ μ' 58 22 = nI (dg c m 4 a 0).2 ∧ tg μ μ') := by
  have g19 : (fm_u μ 58 22 (nI 0)) 58 19 = nI (160 * s) := by rw [ev_uj (by decide)]; exact h19
  have g20 : (fm_u μ 58 22 (nI 0)) 58 20 = nI a := by rw [ev_uj (by decide)]; exact h20
  have g21 : (fm_u μ 58 22 (nI 0)) 58 21 = nI m := by rw [ev_uj (by decide)]; exact h21
  have D := idg (μ := fm_u μ 58 22 (nI 0)) (ν := ν) hc hs hm ha g19 g20 g21
  by_cases z : a < m ∧ nI 48 ≤ c a ∧ c a ≤ nI 57
  · have b := (dg_b c m 3 (a + 1) (0 * 10 + dV (c a) - 48)).1
    have e : dg c m 4 a 0 = dg c m 3 (a + 1) (0 * 10 + dV (c a) - 48) := by rw [dg, dif_pos z]
    refine ⟨fun y => by rw [e] at y; omega, fun _ => ?_⟩
    obtain ⟨μ', q1, q2, q3, q4⟩ := nb_23 hc hs hm (fun μ23 ν23 => some (((nI 1), μ23, ν23))) 4 0 5000 a 0 (fm_u μ 58 22 (nI 0)) (by omega) (by omega) ha g19 g20 g21 ev_us
    refine ⟨μ', ?_, q2, q3, tg_t (tg_u μ _ (by omega)) q4⟩
    rw [m_X6_number, D.1 z, ev_b, if_neg (by decide)]
    exact q1
  · have e : dg c m 4 a 0 = (a, 0) := by rw [dg, dif_neg z]
    refine ⟨fun _ => ?_, fun y => absurd (by rw [e]) y⟩
    refine ⟨fm_u (fm_u μ 58 22 (nI 0)) 58 23 (nI a), ?_, ev_us, tg_t (tg_u μ _ (by omega)) (tg_u _ _ (by omega))⟩
    rw [m_X6_number, D.2 z, ev_b, if_pos (by decide), m_X6_wrong, ev_b, g20]
    rfl
theorem iso {w i n v sx x0 : Nat} {μ : fm_I} (hw : w < 5) (hi : i < cnt w) (hn : n ≤ 6) (hv : v < 10000) (h22 : μ 58 22 = nI v) (h0 : μ 58 0 = nI n) (hxx : w = 3 → i = 1 → x0 < 6 ∧ sx < 10000 ∧ μ 73 0 = nI x0 ∧ μ 62 x0 = nI sx) (ν : fm_L) : m_X6_isSo (nI w) (nI i) μ ν = some (nI (if v < lo w i ∨ hx w i n sx ≤ v then 0 else 1)) := by
  have key : ∀ (p q : Prop) [Decidable p] [Decidable q], (p ↔ q) → (if p then (0 : Nat) else 1) = if q then 0 else 1 := fun p q _ _ h => by
    by_cases z : p
    · rw [if_pos z, if_pos (h.mp z)]
    · rw [if_neg z, if_neg (fun y => z (h.mpr y))]
  have L : ∀ a b : Nat, a < 20000 → b < 20000 → (if nI a < nI b then some (nI 0) else some (nI 1)) = some (nI (if a < b then 0 else 1)) := fun a b ha hb => by
    by_cases z : a < b
    · rw [if_pos z, if_pos ((nI_ltI (by omega) (by omega)).mpr z)]
    · rw [if_neg z, if_neg (fun y => z ((nI_ltI (by omega) (by omega)).mp y))]
  have E : ∀ a b : Nat, a < 20000 → b < 20000 → (if nI a ≤ nI b then some (nI 0) else some (nI 1)) = some (nI (if a ≤ b then 0 else 1)) := fun a b ha hb => by
    by_cases z : a ≤ b
    · rw [if_pos z, if_pos (le_i z (by omega))]
    · rw [if_neg z, if_neg (nle_i (by omega) (by omega))]
  rcases (by omega : w = 0 ∨ w = 1 ∨ w = 2 ∨ w = 3 ∨ w = 4) with rfl | rfl | rfl | rfl | rfl
  · have c4 : cnt 0 = 4 := rfl
    rcases (by omega : i = 0 ∨ i = 1 ∨ i = 2 ∨ i = 3) with rfl | rfl | rfl | rfl
    · rw [m_X6_isSo, if_pos (by decide), if_pos (by decide), h22, L 6 v (by omega) (by omega), key (6 < v) (v < lo 0 0 ∨ hx 0 0 n sx ≤ v) (by
        show 6 < v ↔ v < 0 ∨ 7 ≤ v
        omega)]
    · rw [m_X6_isSo, if_pos (by decide), if_neg (by decide), if_pos rfl, if_neg (by
        show ¬ (v < 0 ∨ 10000 ≤ v)
        omega)]
    · rw [m_X6_isSo, if_pos (by decide), if_neg (by decide), if_neg (by decide), if_pos rfl, h22, L 12 v (by omega) (by omega)]
      by_cases z : v < 1
      · rw [if_pos ((nI_ltI (by omega) (by omega)).mpr z), if_pos (by
          show v < 1 ∨ 13 ≤ v
          omega)]
      · rw [if_neg (fun y => z ((nI_ltI (by omega) (by omega)).mp y)), key (12 < v) (v < lo 0 2 ∨ hx 0 2 n sx ≤ v) (by
          show 12 < v ↔ v < 1 ∨ 13 ≤ v
          omega)]
    · rw [m_X6_isSo, if_pos (by decide), if_neg (by decide), if_neg (by decide), if_neg (by decide), h22, L 9 v (by omega) (by omega), key (9 < v) (v < lo 0 3 ∨ hx 0 3 n sx ≤ v) (by
        show 9 < v ↔ v < 0 ∨ 10 ≤ v
        omega)]
  · have c4 : cnt 1 = 1 := rfl
    obtain rfl : i = 0 := by omega
    rw [m_X6_isSo, if_neg (by decide), if_pos (by decide), h22, h0, E n v (by omega) (by omega), key (n ≤ v) (v < lo 1 0 ∨ hx 1 0 n sx ≤ v) (by
      show n ≤ v ↔ v < 0 ∨ n ≤ v
      omega)]
  · have c4 : cnt 2 = 1 := rfl
    obtain rfl : i = 0 := by omega
    rw [m_X6_isSo, if_neg (by decide), if_pos (by decide), h22, h0, E n v (by omega) (by omega), key (n ≤ v) (v < lo 2 0 ∨ hx 2 0 n sx ≤ v) (by
      show n ≤ v ↔ v < 0 ∨ n ≤ v
      omega)]
  · have c4 : cnt 3 = 3 := rfl
    rcases (by omega : i = 0 ∨ i = 1 ∨ i = 2) with rfl | rfl | rfl
    · rw [m_X6_isSo, if_neg (by decide), if_pos (by decide), h22, h0, E n v (by omega) (by omega), key (n ≤ v) (v < lo 3 0 ∨ hx 3 0 n sx ≤ v) (by
        show n ≤ v ↔ v < 0 ∨ n ≤ v
        omega)]
    · obtain ⟨y1, y2, y3, y4⟩ := hxx rfl rfl
      rw [m_X6_isSo, if_neg (by decide), if_neg (by decide), if_pos rfl, if_pos rfl, ev_in (by rw [ev_n73]; omega) (by omega), ev_g, ev_cl (k := 0) (by omega), y3, ev_in (by rw [ev_n62]; omega) (by omega), ev_g, ev_cl (k := x0) (by omega), y4, h22, E sx v (by omega) (by omega), key (sx ≤ v) (v < lo 3 1 ∨ hx 3 1 n sx ≤ v) (by
        show sx ≤ v ↔ v < 0 ∨ sx ≤ v
        omega)]
    · rw [m_X6_isSo, if_neg (by decide), if_neg (by decide), if_pos rfl, if_neg (by decide), h22, L 7 v (by omega) (by omega), key (7 < v) (v < lo 3 2 ∨ hx 3 2 n sx ≤ v) (by
        show 7 < v ↔ v < 0 ∨ 8 ≤ v
        omega)]
  · have c4 : cnt 4 = 2 := rfl
    rcases (by omega : i = 0 ∨ i = 1) with rfl | rfl
    · rw [m_X6_isSo, if_neg (by decide), if_pos (by decide), h22, h0, E n v (by omega) (by omega), key (n ≤ v) (v < lo 4 0 ∨ hx 4 0 n sx ≤ v) (by
        show n ≤ v ↔ v < 0 ∨ n ≤ v
        omega)]
    · rw [m_X6_isSo, if_neg (by decide), if_neg (by decide), if_neg (by decide), if_neg (by
        show ¬ (v < 0 ∨ 10000 ≤ v)
        omega)]
/-- one number, as the document wants it there -/
theorem pD_M {s m a w i n x0 sx : Nat} {ν : fm_L} {c : Nat → Int32} (hc : ∀ i, c i = (ν 70 (160 * s + i)).toInt32) (hs : s < 8) (hm : m ≤ 160) {μ : fm_I} (ha : a ≤ m) (h : qS s m a μ) (hw : w < 5) (hi : i < cnt w) (hn : n ≤ 6) (h0 : μ 58 0 = nI n) (hx' : w = 3 → i = 1 → x0 < 6 ∧ sx < 10000 ∧ μ 73 0 = nI x0 ∧ μ 62 x0 = nI sx) : (∀ p, pD c m a (lo w i) (hx w i n sx) = .inl p → ∃ μ', (∀ (K : fm_I → fm_L → Option (Int32 × fm_I × fm_L)) (f : Nat), (m_X6_number μ ν).bind (fun r173 => if r173.1 = 0 then some (((nI 0), r173.2.1, r173.2.2)) else (m_X6_isSo (nI w) (nI i) r173.2.1 r173.2.2).bind (fun r185 => if r185 = 0 then (m_X6_wrong (nI a) r173.2.1 r173.2.2).bind (fun r194 => fm_g (fm_b01 r194.1) (some ((r194.1, r194.2.1, r194.2.2)))) else fm_g (fm_in (nI i) (fm_n 73)) (m_X6_item_105 (nI w) (nI (cnt w)) K f ((nI i + nI 1)) (fm_u r173.2.1 73 (nI i).toNatClampNeg ((r173.2.1 58 22))) r173.2.2))) = some (nI 0, μ', ν)) ∧ μ' 58 23 = nI p ∧ tf μ μ') ∧ (∀ e v, pD c m a (lo w i) (hx w i n sx) = .inr (e, v) → ∃ μ', (∀ (K : fm_I → fm_L → Option (Int32 × fm_I × fm_L)) (f : Nat), (m_X6_number μ ν).bind (fun r173 => if r173.1 = 0 then some (((nI 0), r173.2.1, r173.2.2)) else (m_X6_isSo (nI w) (nI i) r173.2.1 r173.2.2).bind (fun r185 => if r185 = 0 then (m_X6_wrong (nI a) r173.2.1 r173.2.2).bind (fun r194 => fm_g (fm_b01 r194.1) (some ((r194.1, r194.2.1, r194.2.2)))) else fm_g (fm_in (nI i) (fm_n 73)) (m_X6_item_105 (nI w) (nI (cnt w)) K f ((nI i + nI 1)) (fm_u r173.2.1 73 (nI i).toNatClampNeg ((r173.2.1 58 22))) r173.2.2))) = m_X6_item_105 (nI w) (nI (cnt w)) K f (nI (i + 1)) μ' ν) ∧ μ' 58 20 = nI e ∧ μ' 73 i = nI v ∧ (∀ j, j ≠ i → μ' 73 j = μ 73 j) ∧ tf μ μ') := by
  have N := nb_M (μ := μ) hc hs hm ha h.1 h.2.1 h.2.2.1
  have cj : cnt w ≤ 4 := by
    unfold cnt
    split <;> omega
  have bv := dg_v c m 4 0 a 0 (by decide) (by decide)
  unfold pD
  by_cases z : (dg c m 4 a 0).1 = a
  · rw [if_pos z]
    obtain ⟨μ1, n1, n2, n3⟩ := N.1 z
    refine ⟨fun p hp => ?_, fun _ _ q => (by cases q)⟩
    obtain rfl := Sum.inl.inj hp
    refine ⟨μ1, fun K f => ?_, n2, tg_f n3⟩
    rw [n1, ev_b]
    exact if_pos nI0
  · rw [if_neg z]
    obtain ⟨μ1, n1, n2, n3, n4⟩ := N.2 z
    have I := iso (x0 := x0) (sx := sx) (μ := μ1) hw hi hn bv n3 (by rw [n4.2 0 (by decide) (by decide) (by decide)]; exact h0) (fun y1 y2 => by
      obtain ⟨k1, k2, k3, k4⟩ := hx' y1 y2
      refine ⟨k1, k2, ?_, by rw [n4.1 62 (by decide)]; exact k4⟩
      rw [n4.1 73 (by decide)]
      exact k3) ν
    by_cases y : (dg c m 4 a 0).2 < lo w i ∨ hx w i n sx ≤ (dg c m 4 a 0).2
    · rw [if_pos y]
      rw [if_pos y] at I
      refine ⟨fun p hp => ?_, fun _ _ q => (by cases q)⟩
      obtain rfl := Sum.inl.inj hp
      refine ⟨fm_u μ1 58 23 (nI a), fun K f => ?_, ev_us, tf_t (tg_f n4) (tf_u _ _ (by omega))⟩
      rw [n1, ev_b]
      refine (if_neg nI1n).trans ?_
      show (m_X6_isSo (nI w) (nI i) μ1 ν).bind _ = _
      rw [I, ev_b, if_pos (by decide), m_X6_wrong, ev_b]
      rfl
    · rw [if_neg y]
      rw [if_neg y] at I
      refine ⟨fun _ q => (by cases q), fun e v hp => ?_⟩
      have hh := Sum.inr.inj hp
      refine ⟨fm_u μ1 73 i (nI v), fun K f => ?_, by rw [ev_uq (by decide), n2, hh], ev_us, fun j hj => by rw [ev_uj hj, n4.1 73 (by decide)], tf_t (tg_f n4) (tf_73 _ _ _)⟩
      rw [n1, ev_b]
      refine (if_neg nI1n).trans ?_
      show (m_X6_isSo (nI w) (nI i) μ1 ν).bind _ = _
      rw [I, ev_b, if_neg (by decide), ev_in (by rw [ev_n73]; omega) (by omega), ev_g, ev_cl (by omega)]
      show m_X6_item_105 (nI w) (nI (cnt w)) K f (nI i + nI 1) (fm_u μ1 73 i (μ1 58 22)) ν = _
      rw [n3, hh, nI_add]
