/-! FITS: two ways to say that rows have the same numbers -/
def cq (f : Nat → Int32) (v : Int32) : Nat → Nat
  | 0 => 0
  | k + 1 => cq f v k + (if f k = v then 1 else 0)
theorem cq_le (f : Nat → Int32) (v : Int32) : ∀ n, cq f v n ≤ n := by
  intro n
  induction n with
  | zero => exact Nat.le_refl 0
  | succ n ih =>
    rw [cq]
    by_cases z : f n = v
    · rw [if_pos z]; omega
    · rw [if_neg z]; omega
def ls (f : Nat → Int32) : Nat → List Int32
  | 0 => []
  | k + 1 => f k :: ls f k
theorem ls_count (f : Nat → Int32) (v : Int32) : ∀ k, (ls f k).count v = cq f v k := by
  intro k
  induction k with
  | zero => rfl
  | succ k ih =>
    rw [ls, cq, List.count_cons, ih]
    by_cases c : f k = v
    · rw [if_pos c, if_pos (beq_iff_eq.mpr c)]
    · rw [if_neg c, if_neg (fun z => c (beq_iff_eq.mp z))]
theorem ls_len (f : Nat → Int32) : ∀ k, (ls f k).length = k := by
  intro k
  induction k with
  | zero => rfl
  | succ k ih => rw [ls, List.length_cons, ih]
theorem ls_mem (f : Nat → Int32) (v : Int32) : ∀ k, v ∈ ls f k → ∃ x, x < k ∧ f x = v := by
  intro k
  induction k with
  | zero => intro h; exact absurd h List.not_mem_nil
  | succ k ih =>
    intro h
    rw [ls, List.mem_cons] at h
    rcases h with h | h
    · exact ⟨k, by omega, h.symm⟩
    · obtain ⟨x, h1, h2⟩ := ih h
      exact ⟨x, by omega, h2⟩
theorem perm_of : ∀ (l1 l2 : List Int32), (∀ v, v ∈ l1 → l1.count v ≤ l2.count v) → l1.length = l2.length → l1.Perm l2 := by
  intro l1
  induction l1 with
  | nil =>
    intro l2 _ h
    have : l2 = [] := List.eq_nil_of_length_eq_zero h.symm
    rw [this]
  | cons a l ih =>
    intro l2 h hl
    have h0 := h a List.mem_cons_self
    rw [List.count_cons, if_pos (beq_self_eq_true a)] at h0
    have hm : a ∈ l2 := List.count_pos_iff.mp (by omega)
    have p := List.perm_cons_erase hm
    have q : l.Perm (l2.erase a) := ih (l2.erase a) (fun v hv => by
      have h1 := h v (List.mem_cons_of_mem a hv)
      rw [List.count_cons] at h1
      rw [List.count_erase]
      by_cases c : (a == v) = true
      · rw [if_pos c] at h1
        rw [if_pos c]
        omega
      · rw [if_neg c] at h1
        rw [if_neg c]
        omega) (by
      rw [List.length_erase_of_mem hm]
      rw [List.length_cons] at hl
      omega)
    exact (List.Perm.cons a q).trans p.symm
theorem cq_all {f g : Nat → Int32} {j : Nat} (h : ∀ x, x < j → cq f (f x) j = cq g (f x) j) : ∀ v, cq f v j = cq g v j := by
  intro v
  have p := perm_of (ls f j) (ls g j) (fun v hv => by
    obtain ⟨x, h1, h2⟩ := ls_mem f v j hv
    rw [ls_count, ls_count, ← h2, h x h1]
    exact Nat.le_refl _) (by rw [ls_len, ls_len])
  rw [← ls_count, ← ls_count]
  exact p.count_eq v
def jB (f g e : Nat → Int32) (j : Nat) : Nat → Nat → Bool
  | 0, _ => true
  | d + 1, i => if cq f (e i) j = cq g (e i) j then jB f g e j d (i + 1) else false
theorem jB_iff (f g e : Nat → Int32) (j : Nat) : ∀ d i, jB f g e j d i = true ↔ ∀ x, i ≤ x → x < i + d → cq f (e x) j = cq g (e x) j := by
  intro d
  induction d with
  | zero => intro i; exact ⟨fun _ x h1 h2 => absurd h2 (by omega), fun _ => rfl⟩
  | succ d ih =>
    intro i
    rw [jB]
    by_cases c : cq f (e i) j = cq g (e i) j
    · rw [if_pos c, ih]
      constructor
      · intro h x h1 h2
        by_cases z : x = i
        · rw [z]; exact c
        · exact h x (by omega) (by omega)
      · intro h x h1 h2
        exact h x (by omega) (by omega)
    · rw [if_neg c]
      exact ⟨fun z => absurd z (by decide), fun h => absurd (h i (Nat.le_refl i) (by omega)) c⟩
theorem jB_eq (f g : Nat → Int32) (j : Nat) : jB f g f j j 0 = jB f g g j j 0 := by
  apply Bool.eq_iff_iff.mpr
  rw [jB_iff, jB_iff]
  constructor
  · intro h x _ _
    exact cq_all (fun y hy => h y (Nat.zero_le y) (by omega)) (g x)
  · intro h x _ _
    exact (cq_all (f := g) (g := f) (fun y hy => (h y (Nat.zero_le y) (by omega)).symm) (f x)).symm
def gT (k n a t x : Nat) : Int32 := nI (tn t (cn (pR k n a (t % 2)) x n))
theorem jt_33 {k n a s t w o m j : Nat} {f : Nat → Int32} (ok : okP k n a s t) (hw : w < 8) (ho : o ≤ 3) (hm : m ≤ 160) (hjm : j ≤ m) (hj : j = pC k n a (t % 2)) {μ : fm_I} {ν : fm_L} (h : zX k n a s t μ) (e : μ (18 + w) 0 = nI (100 + o)) (e1 : μ (18 + w) 1 = nI m) (e6 : ∀ i, i < 160 → ν (26 + w) i = ν 70 (160 * w + i)) (hf : ∀ x, f x = (ν 70 (160 * w + x)).toInt32) (v3 v : Int32) (K : Int32 → Int32 → Option Int32) : ∀ (d x fuel : Nat), x + d = j → d < fuel → m_X1_hasJustTurns_33 (18 + w) (nI j) v3 v μ ν K fuel (nI (cq f v x)) (nI (cq (gT k n a t) v x)) (nI x) = K (nI (cq f v j)) (nI (cq (gT k n a t) v j)) := by
  have cc := pC_le ok
  intro d
  induction d with
  | zero =>
    intro x fuel hx hf'
    obtain ⟨fu, rfl⟩ : ∃ j, fuel = j + 1 := ⟨fuel - 1, by omega⟩
    obtain rfl : x = j := by omega
    rw [m_X1_hasJustTurns_33, if_pos (le_i (Nat.le_refl _) (by omega))]
  | succ d ih =>
    intro x fuel hx hf'
    obtain ⟨fu, rfl⟩ : ∃ j, fuel = j + 1 := ⟨fuel - 1, by omega⟩
    have s := ih (x + 1) fu (by omega) (by omega)
    rw [cq, cq] at s
    have I := int_X (j := x) hw ho hm (by omega) e e1 e6
    rw [← hf x] at I
    have T : m_X1_turnsOf (nI x) μ ν = some (gT k n a t x) := turns_X ok h (by omega) ν
    rw [m_X1_hasJustTurns_33, if_neg (nle_i (by omega) (by omega)), I, ev_b]
    by_cases c1 : f x = v
    · by_cases c2 : gT k n a t x = v
      · rw [if_pos c1, if_pos c2] at s
        rw [if_pos c1, T, ev_b, if_pos c2, nI_add, nI_add, nI_add]
        exact s
      · rw [if_pos c1, if_neg c2] at s
        rw [if_pos c1, T, ev_b, if_neg c2, nI_add, nI_add, nI_add]
        exact s
    · by_cases c2 : gT k n a t x = v
      · rw [if_neg c1, if_pos c2] at s
        rw [if_neg c1, T, ev_b, if_pos c2, nI_add, nI_add, nI_add]
        exact s
      · rw [if_neg c1, if_neg c2] at s
        rw [if_neg c1, T, ev_b, if_neg c2, nI_add, nI_add, nI_add]
        exact s
theorem jt_12 {k n a s t w o m j : Nat} {f : Nat → Int32} (ok : okP k n a s t) (hw : w < 8) (ho : o ≤ 3) (hm : m ≤ 160) (hjm : j ≤ m) (hj : j = pC k n a (t % 2)) {μ : fm_I} {ν : fm_L} (h : zX k n a s t μ) (e : μ (18 + w) 0 = nI (100 + o)) (e1 : μ (18 + w) 1 = nI m) (e6 : ∀ i, i < 160 → ν (26 + w) i = ν 70 (160 * w + i)) (hf : ∀ x, f x = (ν 70 (160 * w + x)).toInt32) : ∀ (d i fuel : Nat), i + d = j → d < fuel → m_X1_hasJustTurns_12 (18 + w) (nI j) μ ν (some (nI 1)) fuel (nI i) = some (nI (if jB f (gT k n a t) f j d i = true then 1 else 0)) := by
  have cc := pC_le ok
  intro d
  induction d with
  | zero =>
    intro i fuel hi hf'
    obtain ⟨fu, rfl⟩ : ∃ j, fuel = j + 1 := ⟨fuel - 1, by omega⟩
    rw [m_X1_hasJustTurns_12, if_pos (le_i (by omega) (by omega))]
    rfl
  | succ d ih =>
    intro i fuel hi hf'
    obtain ⟨fu, rfl⟩ : ∃ j, fuel = j + 1 := ⟨fuel - 1, by omega⟩
    have I := int_X (j := i) hw ho hm (by omega) e e1 e6
    rw [← hf i] at I
    have l1 := cq_le f (f i) j
    have l2 := cq_le (gT k n a t) (f i) j
    rw [m_X1_hasJustTurns_12, if_neg (nle_i (by omega) (by omega)), I, ev_b]
    refine (jt_33 ok hw ho hm hjm hj h e e1 e6 hf (nI i) (f i) _ j 0 5000 (by omega) (by omega)).trans ?_
    rw [jB]
    by_cases c : cq f (f i) j = cq (gT k n a t) (f i) j
    · rw [if_pos (by rw [c]), if_pos c, nI_add]
      exact ih (i + 1) fu (by omega) (by omega)
    · rw [if_neg (ne_i c (by omega) (by omega)), if_neg c, if_neg (by decide)]
noncomputable def fB (k n a j : Nat) (f : Nat → Int32) (t : Nat) : Bool := if j = pC k n a (t % 2) then jB f (gT k n a t) f j j 0 else false
theorem jt_X {k n a s t w o m j : Nat} {f : Nat → Int32} (ok : okP k n a s t) (hw : w < 8) (ho : o ≤ 3) (hm : m ≤ 160) (hjm : j ≤ m) {μ : fm_I} {ν : fm_L} (h : zX k n a s t μ) (e : μ (18 + w) 0 = nI (100 + o)) (e1 : μ (18 + w) 1 = nI m) (e6 : ∀ i, i < 160 → ν (26 + w) i = ν 70 (160 * w + i)) (hf : ∀ x, f x = (ν 70 (160 * w + x)).toInt32) : m_X1_hasJustTurns (18 + w) (nI j) μ ν = some (nI (if fB k n a j f t = true then 1 else 0)) := by
  have cc := pC_le ok
  rw [m_X1_hasJustTurns, ev_k18 hw, ev_g, h.2.2.2.2.2.1]
  unfold fB
  by_cases c : j = pC k n a (t % 2)
  · rw [if_pos (by rw [c]), jt_12 ok hw ho hm hjm c h e e1 e6 hf j 0 5000 (by omega) (by omega), if_pos c]
  · rw [if_neg (ne_i c (by omega) (by omega)), if_neg c, if_neg (by decide)]
theorem jm_33 {b k n a s t w j i : Nat} {f : Nat → Int32} (ok : okP k n a s t) (hb : b < 6) (hw : w < 8) (hj : j = pC k n a (t % 2)) (hi : i < j) {μ : fm_I} {ν : fm_L} (hB : bM k n a s t b μ) (h : zM k n a t μ) (hf : ∀ x, f x = (ν 70 (160 * w + x)).toInt32) (K : Int32 → Int32 → Option (Int32 × fm_I × fm_L)) : ∀ (d x fuel : Nat), x + d = j → d < fuel → m_X6_isFit_33 (nI b) (nI w) (nI j) (nI i) μ ν K fuel (nI (cq (gT k n a t) (gT k n a t i) x)) (nI (cq f (gT k n a t i) x)) (nI x) = K (nI (cq (gT k n a t) (gT k n a t i) j)) (nI (cq f (gT k n a t i) j)) := by
  have cc := pC_le ok
  have Ti : m_X6_turnsOf (nI b) (nI i) μ ν = some (gT k n a t i) := turns_M ok hb hB.2.1 h (by omega) ν
  intro d
  induction d with
  | zero =>
    intro x fuel hx hf'
    obtain ⟨fu, rfl⟩ : ∃ j, fuel = j + 1 := ⟨fuel - 1, by omega⟩
    obtain rfl : x = j := by omega
    rw [m_X6_isFit_33, if_pos (le_i (Nat.le_refl _) (by omega))]
  | succ d ih =>
    intro x fuel hx hf'
    obtain ⟨fu, rfl⟩ : ∃ j, fuel = j + 1 := ⟨fuel - 1, by omega⟩
    have s := ih (x + 1) fu (by omega) (by omega)
    rw [cq, cq] at s
    have I := int_M (j := x) hw (by omega) μ ν
    rw [← hf x] at I
    have T : m_X6_turnsOf (nI b) (nI x) μ ν = some (gT k n a t x) := turns_M ok hb hB.2.1 h (by omega) ν
    rw [m_X6_isFit_33, if_neg (nle_i (by omega) (by omega)), I, ev_b, Ti, ev_b]
    by_cases c1 : f x = gT k n a t i
    · by_cases c2 : gT k n a t x = gT k n a t i
      · rw [if_pos c2, if_pos c1] at s
        rw [if_pos c1, T, ev_b, ev_b, if_pos c2, nI_add, nI_add, nI_add]
        exact s
      · rw [if_neg c2, if_pos c1] at s
        rw [if_pos c1, T, ev_b, ev_b, if_neg c2, nI_add, nI_add]
        exact s
    · by_cases c2 : gT k n a t x = gT k n a t i
      · rw [if_pos c2, if_neg c1] at s
        rw [if_neg c1, T, ev_b, ev_b, if_pos c2, nI_add, nI_add]
        exact s
      · rw [if_neg c2, if_neg c1] at s
        rw [if_neg c1, T, ev_b, ev_b, if_neg c2, nI_add]
        exact s
theorem jm_18 {b k n a s t w j : Nat} {f : Nat → Int32} (ok : okP k n a s t) (hb : b < 6) (hw : w < 8) (hj : j = pC k n a (t % 2)) {μ : fm_I} {ν : fm_L} (hB : bM k n a s t b μ) (h : zM k n a t μ) (hf : ∀ x, f x = (ν 70 (160 * w + x)).toInt32) : ∀ (d i fuel : Nat), i + d = j → d < fuel → m_X6_isFit_18 (nI b) (nI w) (nI j) μ ν (some (nI 1, μ, ν)) fuel (nI i) = some (nI (if jB f (gT k n a t) (gT k n a t) j d i = true then 1 else 0), μ, ν) := by
  have cc := pC_le ok
  intro d
  induction d with
  | zero =>
    intro i fuel hi hf'
    obtain ⟨fu, rfl⟩ : ∃ j, fuel = j + 1 := ⟨fuel - 1, by omega⟩
    rw [m_X6_isFit_18, if_pos (le_i (by omega) (by omega))]
    rfl
  | succ d ih =>
    intro i fuel hi hf'
    obtain ⟨fu, rfl⟩ : ∃ j, fuel = j + 1 := ⟨fuel - 1, by omega⟩
    have l1 := cq_le f (gT k n a t i) j
    have l2 := cq_le (gT k n a t) (gT k n a t i) j
    rw [m_X6_isFit_18, if_neg (nle_i (by omega) (by omega))]
    refine (jm_33 ok hb hw hj (show i < j by omega) hB h hf _ j 0 5000 (by omega) (by omega)).trans ?_
    rw [jB]
    by_cases c : cq f (gT k n a t i) j = cq (gT k n a t) (gT k n a t i) j
    · rw [if_pos (by rw [c]), if_pos c, nI_add]
      exact ih (i + 1) fu (by omega) (by omega)
    · rw [if_neg (ne_i (fun z => c z.symm) (by omega) (by omega)), if_neg c, if_neg (by decide)]
noncomputable def fAs (k n a j : Nat) (f : Nat → Int32) : Nat → Nat → Int64 → Int64
  | 0, _, v => v
  | d + 1, t, v => fAs k n a j f d (t + 1) (if fB k n a j f t = true then v ||| (lN 1 <<< ((nI t).toInt64 &&& 63)) else v)
theorem ft_X {b k n a s w o m j : Nat} {f : Nat → Int32} (ok : ∀ t, t ≤ 40 → okP k n a s t) (hb : b < 6) (hw : w < 8) (ho : o ≤ 3) (hm : m ≤ 160) (hjm : j ≤ m) {ν : fm_L} (e6 : ∀ i, i < 160 → ν (26 + w) i = ν 70 (160 * w + i)) (hf : ∀ x, f x = (ν 70 (160 * w + x)).toInt32) (K : Int64 → fm_I → fm_L → Option (Int64 × fm_I × fm_L)) : ∀ (d t fuel : Nat) (v : Int64) (μ : fm_I), t + d = 41 → d < fuel → μ (34 + b) 2 = nI k → μ (34 + b) 4 = nI n → μ (34 + b) 5 = nI s → μ (34 + b) 6 = nI a → μ (18 + w) 0 = nI (100 + o) → μ (18 + w) 1 = nI m → ∃ μ', m_X5_fits_36 (nI w) (nI j) (34 + b) K fuel v (nI t) μ ν = K (fAs k n a j f d t v) μ' ν ∧ ∀ x, x ≠ 5 → x ≠ 9 → x ≠ 10 → x ≠ 11 → μ' x = μ x := by
  intro d
  induction d with
  | zero =>
    intro t fuel v μ ht hf' e2 e4 e5 e7 g0 g1
    obtain ⟨fu, rfl⟩ : ∃ j, fuel = j + 1 := ⟨fuel - 1, by omega⟩
    refine ⟨μ, ?_, fun _ _ _ _ _ => rfl⟩
    rw [m_X5_fits_36, if_pos ((nI_ltI (by omega) (by omega)).mpr (by omega))]
    rfl
  | succ d ih =>
    intro t fuel v μ ht hf' e2 e4 e5 e7 g0 g1
    obtain ⟨fu, rfl⟩ : ∃ j, fuel = j + 1 := ⟨fuel - 1, by omega⟩
    have ok1 := ok t (by omega)
    obtain ⟨μ1, p1, p2, p3⟩ := layX ok1 hb ν e2 e5 e7
    have f0 : μ1 (34 + b) = μ (34 + b) := p2 _ (by omega) (by omega) (by omega) (by omega)
    have f1 : μ1 (18 + w) = μ (18 + w) := p2 _ (by omega) (by omega) (by omega) (by omega)
    have J := jt_X (j := j) ok1 hw ho hm hjm p3 (by rw [f1]; exact g0) (by rw [f1]; exact g1) e6 hf
    obtain ⟨μ', q1, q2⟩ := ih (t + 1) fu (if fB k n a j f t = true then v ||| (lN 1 <<< ((nI t).toInt64 &&& 63)) else v) μ1 (by omega) (by omega) (by rw [f0]; exact e2) (by rw [f0]; exact e4) (by rw [f0]; exact e5) (by rw [f0]; exact e7) (by rw [f1]; exact g0) (by rw [f1]; exact g1)
    refine ⟨μ', ?_, fun x y1 y2 y3 y4 => by rw [q2 x y1 y2 y3 y4, p2 x y1 y2 y3 y4]⟩
    rw [m_X5_fits_36, if_neg (fun z => by have := (nI_ltI (by omega) (by omega)).mp z; omega), e4, p1, ev_b, ev_in (by omega) (by omega), ev_g, ev_cl (by omega), J, ev_b, fAs, ← q1]
    by_cases c : fB k n a j f t = true
    · rw [if_pos c, if_neg (by decide), if_pos c, nI_add]
    · rw [if_neg c, if_pos (by decide), if_neg c, nI_add]
theorem ft_M {b k n a s w j : Nat} {f : Nat → Int32} (ok : ∀ t, t ≤ 40 → okP k n a s t) (hb : b < 6) (hw : w < 8) (hj160 : j ≤ 160) {ν : fm_L} (hf : ∀ x, f x = (ν 70 (160 * w + x)).toInt32) (v5 : Int32) (K : Int64 → fm_I → fm_L → Option (Int64 × fm_I × fm_L)) : ∀ (d t fuel t' : Nat) (v : Int64) (μ : fm_I), t + d = 41 → d < fuel → bM k n a s t' b μ → ∃ μ', m_X6_fits_36 (nI b) (nI w) (nI j) v5 K fuel v (nI t) μ ν = K (fAs k n a j f d t v) μ' ν ∧ fT 61 b μ μ' := by
  intro d
  induction d with
  | zero =>
    intro t fuel t' v μ ht hf' h
    obtain ⟨fu, rfl⟩ : ∃ j, fuel = j + 1 := ⟨fuel - 1, by omega⟩
    refine ⟨μ, ?_, fT_r _ _ _⟩
    rw [m_X6_fits_36, if_pos ((nI_ltI (by omega) (by omega)).mpr (by omega))]
    rfl
  | succ d ih =>
    intro t fuel t' v μ ht hf' h
    obtain ⟨fu, rfl⟩ : ∃ j, fuel = j + 1 := ⟨fuel - 1, by omega⟩
    have ok1 := ok t (by omega)
    have cc := pC_le ok1
    have h1 := bM_t (t' := t) h
    obtain ⟨μ1, p1, p2, p3, p4⟩ := cutsM' ν ok1 hb h1
    have F1 := fT_s (q := 61) (Or.inl rfl) p2 p3
    have g2 := kp_bM h1 (μ' := μ1) (fun x a1 a2 => p2 x (by omega) (by omega) (by omega))
    have J : m_X6_isFit (nI b) (nI w) (nI j) (fm_u μ 61 b (nI t)) ν = some (nI (if fB k n a j f t = true then 1 else 0), μ1, ν) := by
      rw [m_X6_isFit, p1, ev_b]
      show (if μ1 58 28 = nI j then m_X6_isFit_18 (nI b) (nI w) (nI j) μ1 ν (some (nI 1, μ1, ν)) 5000 (nI 0) else some (nI 0, μ1, ν)) = _
      rw [p4.2.1]
      unfold fB
      by_cases c : j = pC k n a (t % 2)
      · rw [if_pos (by rw [c]), jm_18 ok1 hb hw c g2 p4 hf j 0 5000 (by omega) (by omega), if_pos c, jB_eq]
      · rw [if_neg (ne_i (fun z => c z.symm) (by omega) (by omega)), if_neg c, if_neg (by decide)]
    obtain ⟨μ', q1, q2⟩ := ih (t + 1) fu t (if fB k n a j f t = true then v ||| (lN 1 <<< ((nI t).toInt64 &&& 63)) else v) μ1 (by omega) (by omega) g2
    refine ⟨μ', ?_, fT_t F1 q2⟩
    rw [m_X6_fits_36, if_neg (fun z => by have := (nI_ltI (by omega) (by omega)).mp z; omega), ev_in (by rw [ev_n61]; omega) (by omega), ev_g, ev_cl (by omega), J, ev_b, fAs, ← q1]
    by_cases c : fB k n a j f t = true
    · rw [if_pos c, if_pos c]
      show (if nI 1 = 0 then _ else m_X6_fits_36 (nI b) (nI w) (nI j) v5 K fu (v ||| (lN 1 <<< ((nI t).toInt64 &&& 63))) (nI t + nI 1) μ1 ν) = _
      rw [if_neg (by decide), nI_add]
    · rw [if_neg c, if_neg c]
      show (if nI 0 = 0 then m_X6_fits_36 (nI b) (nI w) (nI j) v5 K fu v (nI t + nI 1) μ1 ν else _) = _
      rw [if_pos (by decide), nI_add]
theorem op_fits {μ : fm_I} {ν : fm_L} (h : Inv μ ν) (a0 : Int32) (a1 : Int32) (a2 : Int32) : pa_op (m_X5_fits a0 a1 a2 μ ν) (fun μ ν => m_X6_fits a0 a1 a2 μ ν) := by
  obtain ⟨n, F, hI⟩ := id h
  have hn := hI.1.1
  rcases told hI a0 a1 a2 with ⟨k, v, k1, k5, vk, vk2, tX, tM⟩ | ⟨b, s, o, m, j, hb, hs, ho, hm, hj, rfl, rfl, rfl, e0, e1, e6, tX, tM⟩
  · have nz : ¬ nI k = 0 := by rw [ev_eq0 (by omega)]; omega
    have vz : ¬ v = 0 := fun c => by
      rw [c] at vk
      exact nz (vk.symm.trans (by decide))
    have fX : m_X5_refuse (nI k) μ ν = some (v, fm_u μ 4 k (μ 4 k + nI 1), ν) := by rw [rf_X k k1 (by omega), vk2]
    refine op_rf h k (by omega) (r := v.toInt64) ?_ ?_
    · rw [m_X5_fits, tX, ev_b, if_neg nz, fX, ev_b]
    · show m_X6_fits a0 a1 a2 _ ν = _
      rw [m_X6_fits, tM, ev_b, if_neg vz, (rf_M k (by omega) v vk _ ν).1, ev_b]
  obtain ⟨d1, d2, d3⟩ := hI.2.1 b hb
  obtain ⟨c0, c1, c2, c3, c4, c5, c6⟩ := id d1
  have ok : ∀ t, t ≤ 40 → okP (F b 0) (F b 2) (F b 4) (F b 3) t := fun t ht => ⟨c0, c2, c3, c5, c4, by omega⟩
  obtain ⟨μ1, p1, p2⟩ := ft_X (f := fun x => (ν 70 (160 * s + x)).toInt32) (j := j) ok (show b < 6 by omega) hs ho hm hj e6 (fun _ => rfl) (fun x6_36 μ36 ν36 => some ((x6_36, μ36, ν36))) 41 0 5000 (lN 0) μ (by omega) (by omega) d2.1 d2.2.2.1 d2.2.2.2.1 d2.2.2.2.2.1 e0 e1
  have d3' := kp_M (μ' := μ1) d3 (fun q z1 z2 => p2 q (by omega) (by omega) (by omega) (by omega))
  have bars := tM μ1 (by rw [p2 58 (by decide) (by decide) (by decide) (by decide)]; exact hI.1.2.2) (p2 66 (by decide) (by decide) (by decide) (by decide)) (p2 68 (by decide) (by decide) (by decide) (by decide))
  obtain ⟨μ2, q1, q2⟩ := ft_M (f := fun x => (ν 70 (160 * s + x)).toInt32) (j := j) ok (show b < 6 by omega) hs (by omega) (fun _ => rfl) (μ1 61 b) (fun x6_36 μ36 ν36 => some ((x6_36, (fm_u μ36 61 b ((μ1 61 b))), ν36))) 41 0 5000 (F b 1) (lN 0) μ1 (by omega) (by omega) (bM_of d3')
  have e61 : μ1 61 b = μ 61 b := by rw [p2 61 (by decide) (by decide) (by decide) (by decide)]
  refine op_mk (r := fAs (F b 0) (F b 2) (F b 4) j (fun x => (ν 70 (160 * s + x)).toInt32) 41 0 (lN 0)) (μ1 := μ1) (ν1 := ν) (μ2 := fm_u μ2 61 b (μ 61 b)) (ν2 := ν) ?_ ?_ (fT_inv h (Or.inl rfl) (fun x y1 y2 y3 y4 _ => p2 x y1 y2 y3 y4) q2)
  · rw [m_X5_fits, tX, ev_b, if_pos (by decide), ev_in (by omega) (by omega), ev_g, ev_cl (by omega)]
    exact p1
  · show m_X6_fits (nI b) (nI s) (nI j) μ1 ν = _
    rw [m_X6_fits, bars, ev_b, if_pos (by decide), ev_in (by rw [ev_n61]; omega) (by omega), ev_g, ev_cl (by omega), q1, e61]
