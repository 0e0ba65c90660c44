/-! BITS, SIZES, TURNS of a piece -/
theorem le_i {a b : Nat} (h : a ≤ b) (hb : b < 2147483648) : nI a ≤ nI b := (nI_leI (by omega) hb).mpr h
theorem nle_i {a b : Nat} (h : b < a) (ha : a < 2147483648) : ¬ nI a ≤ nI b := fun c => by
  have := (nI_leI ha (by omega)).mp c
  omega
theorem ne_i {a b : Nat} (h : a ≠ b) (ha : a < 2147483648) (hb : b < 2147483648) : ¬ nI a = nI b := fun c => h ((nI_eq ha hb).mp c)
def bcX (v : Int32) : Int32 := (m_J6_bitCount_0f7a4 v (fun _ _ => 0) (fun _ _ => 0)).getD 0
theorem bc_X (v : Int32) (μ : fm_I) (ν : fm_L) : m_J6_bitCount_0f7a4 v μ ν = some (bcX v) := rfl
def pc (m : Nat) : Nat → Nat
  | 0 => 0
  | k + 1 => pc m k + (if m.testBit k then 1 else 0)
theorem bc_all : ((List.range 64).all (fun a => (List.range 64).all (fun c => decide (bcX (nI (64 * a + c)) = nI (pc (64 * a + c) 12))))) = true := by decide +kernel
theorem bc_m {m : Nat} (h : m < 4096) : bcX (nI m) = nI (pc m 12) := by
  have q := bc_all
  rw [List.all_eq_true] at q
  have q1 := q (m / 64) (List.mem_range.mpr (by omega))
  rw [List.all_eq_true] at q1
  have q2 := of_decide_eq_true (q1 (m % 64) (List.mem_range.mpr (by omega)))
  rw [Nat.div_add_mod] at q2
  exact q2
theorem pc_mask {R : Nat → Nat} {n q m : Nat} (hn : n ≤ 12) (h : isMask R n q m) : m < 4096 ∧ pc m 12 = cn R q n := by
  have a : ∀ k, k ≤ n → pc m k = cn R q k := by
    intro k
    induction k with
    | zero => intro _; rfl
    | succ k ih =>
      intro hk
      rw [pc, cn, ih (by omega), h k]
      by_cases c : R k = q
      · have e : decide (k < n ∧ R k = q) = true := decide_eq_true ⟨by omega, c⟩
        rw [e, if_pos rfl, if_pos c]
      · have e : decide (k < n ∧ R k = q) = false := decide_eq_false (fun z => c z.2)
        rw [e, if_neg (by decide), if_neg c]
  have b : ∀ j, pc m (n + j) = cn R q n := by
    intro j
    induction j with
    | zero => exact a n (Nat.le_refl n)
    | succ j ih =>
      have e : decide (n + j < n ∧ R (n + j) = q) = false := decide_eq_false (fun z => by omega)
      show pc m (n + j + 1) = _
      rw [pc, ih, h (n + j), e, if_neg (by decide), Nat.add_zero]
  refine ⟨?_, ?_⟩
  · show m < 2 ^ 12
    refine Nat.lt_pow_two_of_testBit m (fun i hi => ?_)
    rw [h i]
    exact decide_eq_false (fun z => by omega)
  · have := b (12 - n)
    rwa [show n + (12 - n) = 12 by omega] at this
def sM (R : Nat → Nat) (q : Nat) : Nat → Nat
  | 0 => 0
  | k + 1 => if R k = q then sM R q k ||| 2 ^ k else sM R q k
theorem sM_mask (R : Nat → Nat) (q : Nat) : ∀ n, isMask R n q (sM R q n) := by
  intro n
  induction n with
  | zero =>
    intro x
    rw [sM, Nat.zero_testBit]
    exact (decide_eq_false (fun z => absurd z.1 (Nat.not_lt_zero x))).symm
  | succ n ih =>
    intro x
    rw [sM]
    by_cases c : R n = q
    · rw [if_pos c, Nat.testBit_or, ih x, Nat.testBit_two_pow]
      by_cases e : n = x
      · subst e
        have e1 : decide (n = n) = true := decide_eq_true rfl
        rw [e1, Bool.or_true]
        exact (decide_eq_true ⟨by omega, c⟩).symm
      · rw [decide_eq_false e, Bool.or_false]
        exact decide_eq_decide.mpr ⟨fun z => ⟨by omega, z.2⟩, fun z => ⟨by omega, z.2⟩⟩
    · rw [if_neg c, ih x]
      refine decide_eq_decide.mpr ⟨fun z => ⟨by omega, z.2⟩, fun z => ⟨?_, z.2⟩⟩
      rcases Nat.lt_or_ge x n with w | w
      · exact w
      · have e : n = x := by omega
        rw [e] at c
        exact absurd z.2 c
theorem mask_eq {R : Nat → Nat} {n q m m' : Nat} (h : isMask R n q m) (h' : isMask R n q m') : m = m' := Nat.eq_of_testBit_eq (fun i => by rw [h i, h' i])
theorem str_M {b n q : Nat} {R : Nat → Nat} (hb : b < 6) (hn : n ≤ 12) (hq : q < 12) {μ : fm_I} (ν : fm_L) (e2 : μ 62 b = nI n) (h : ∀ x, x < n → μ 76 x = nI (R x)) (hR : ∀ x, x < n → R x < 12) (K : Int32 → Option Int32) : ∀ (d i fuel : Nat), i + d = n → d < fuel → m_X6_stripsOf_5 (nI b) (nI q) μ ν K fuel (nI (sM R q i)) (nI i) = K (nI (sM R q n)) := by
  intro d
  induction d with
  | zero =>
    intro i fuel hi hf
    obtain ⟨f, rfl⟩ : ∃ j, fuel = j + 1 := ⟨fuel - 1, by omega⟩
    obtain rfl : i = n := by omega
    rw [m_X6_stripsOf_5, ev_in (by rw [ev_n62]; omega) (by omega), ev_g, ev_cl (by omega), e2, if_pos (le_i (Nat.le_refl _) (by omega))]
  | succ d ih =>
    intro i fuel hi hf
    obtain ⟨f, rfl⟩ : ∃ j, fuel = j + 1 := ⟨fuel - 1, by omega⟩
    rw [m_X6_stripsOf_5, ev_in (by rw [ev_n62]; omega) (by omega), ev_g, ev_cl (by omega), e2, if_neg (nle_i (by omega) (by omega)), ev_in (by rw [ev_n76]; omega) (by omega), ev_g, ev_cl (by omega), h i (by omega)]
    have hi12 := hR i (by omega)
    by_cases c : R i = q
    · rw [if_pos (by rw [c]), sh1 i (by omega), or_N, nI_add, show sM R q i ||| 2 ^ i = sM R q (i + 1) by rw [sM, if_pos c]]
      exact ih (i + 1) f (by omega) (by omega)
    · rw [if_neg (ne_i c (by omega) (by omega)), nI_add, show sM R q i = sM R q (i + 1) by rw [sM, if_neg c]]
      exact ih (i + 1) f (by omega) (by omega)
theorem lay_P {g : Nat → Nat} {n : Nat} (hg : ∀ x, x < n → g x < n) (hper : ∀ x, x < n → ∃ d, 1 ≤ d ∧ d ≤ n ∧ it g d x = x) : ∀ (d v : Nat) (R : Nat → Nat) (c : Nat), v + d = n → c ≤ v → n ≤ 12 → Jv g n c R → (∀ q, q < c → ∃ x, x < n ∧ R x = q) → ∀ q, q < (lay g n d v R c).2 → ∃ x, x < n ∧ (lay g n d v R c).1 x = q := by
  intro d
  induction d with
  | zero => intro v R c _ _ _ _ h q hq; exact h q hq
  | succ d ih =>
    intro v R c hv hc hn J h
    by_cases rv : R v = 99
    · have L : lay g n (d + 1) v R c = lay g n d (v + 1) (nxt g n v c R) (c + 1) := by rw [lay, if_pos rv]
      rw [L]
      refine ih (v + 1) (nxt g n v c R) (c + 1) (by omega) (by omega) hn (Jv_n J hper (by omega)) (fun q hq => ?_)
      by_cases z : q = c
      · exact ⟨v, by omega, by unfold nxt; rw [if_pos ((orbB_iff g n v v).mpr (orb_s g (by omega))), z]⟩
      · obtain ⟨x, hx, e⟩ := h q (by omega)
        refine ⟨x, hx, ?_⟩
        unfold nxt
        by_cases o : orbB g n v x = true
        · obtain ⟨j, _, w⟩ := (orbB_iff g n v x).mp o
          have y := Jv_it J hg j v (by omega)
          rw [w, rv] at y
          omega
        · rw [if_neg o, e]
    · have L : lay g n (d + 1) v R c = lay g n d (v + 1) R c := by rw [lay, if_neg rv]
      rw [L]
      exact ih (v + 1) R c (by omega) (by omega) hn J h
theorem cn_1 {R : Nat → Nat} {q x : Nat} : ∀ n, x < n → R x = q → 1 ≤ cn R q n := by
  intro n
  induction n with
  | zero => intro h; omega
  | succ n ih =>
    intro hx h
    rw [cn]
    by_cases c : x = n
    · rw [← c, if_pos h]
      omega
    · exact Nat.le_trans (ih (by omega) h) (Nat.le_add_right _ _)
def okP (k n a s t : Nat) : Prop := k ≤ 6 ∧ 1 ≤ n ∧ n ≤ 12 ∧ a ≤ 9 ∧ s ≤ 1 ∧ t ≤ 20000
theorem okP_of {G : Nat → Nat} (h : pa_B G) : okP (G 0) (G 2) (G 4) (G 3) (G 1) := ⟨h.1, h.2.2.1, h.2.2.2.1, h.2.2.2.2.2.1, h.2.2.2.2.1, by have := h.2.1; omega⟩
theorem cn_pos {k n a s t q : Nat} (ok : okP k n a s t) (hq : q < pC k n a (t % 2)) : 1 ≤ cn (pR k n a (t % 2)) q n ∧ cn (pR k n a (t % 2)) q n ≤ n := by
  obtain ⟨hk, h1, hn, ha, hs, ht⟩ := ok
  obtain ⟨x, hx, e⟩ := lay_P (g := fo k n a (t % 2)) (n := n) (fun x hx => fo_lt hx) (fun x hx => per hk hn ha (by omega) hx) n 0 (fun _ => 99) 0 (by omega) (Nat.le_refl 0) hn ⟨fun _ _ => rfl, fun _ _ => Or.inl rfl⟩ (fun q hq => absurd hq (Nat.not_lt_zero q)) q hq
  exact ⟨cn_1 n hx e, cn_le _ _ n⟩
theorem pC_le {k n a s t : Nat} (ok : okP k n a s t) : pC k n a (t % 2) ≤ n ∧ n ≤ 12 ∧ ∀ x, x < n → pR k n a (t % 2) x < pC k n a (t % 2) := by
  obtain ⟨hk, h1, hn, ha, hs, ht⟩ := ok
  have := pR_lt hk hn ha (by omega : t % 2 < 2)
  exact ⟨this.2, hn, this.1⟩
/-- what the class knows of a cutting; what the reference knows -/
def zX (k n a s t : Nat) (μ : fm_I) : Prop := μ 5 1 = nI n ∧ μ 5 2 = nI t ∧ μ 5 3 = (if s = 1 then nI 1 else -1) ∧ (∀ x, x < n → μ 9 x = nI (fo k n a (t % 2) x)) ∧ (∀ x, x < n → μ 10 x = nI (pR k n a (t % 2) x)) ∧ μ 5 0 = nI (pC k n a (t % 2)) ∧ ∀ q, q < pC k n a (t % 2) → ∃ m, μ 11 q = nI m ∧ isMask (pR k n a (t % 2)) n q m
def zM (k n a t : Nat) (μ : fm_I) : Prop := (∀ x, x < n → μ 76 x = nI (pR k n a (t % 2) x)) ∧ μ 58 28 = nI (pC k n a (t % 2)) ∧ ∀ q, q < pC k n a (t % 2) → μ 77 q = nI (cn (pR k n a (t % 2)) q n)
theorem laidX {G : Nat → Nat} {b : Nat} {μ : fm_I} (ν : fm_L) (hb : b < 6) (hB : pa_B G) (h : pa_X G (34 + b) μ) : ∃ μ', m_X5_laid (34 + b) μ ν = some (μ', ν) ∧ (∀ q, q ≠ 5 → q ≠ 9 → q ≠ 10 → q ≠ 11 → μ' q = μ q) ∧ zX (G 0) (G 2) (G 4) (G 3) (G 1) μ' := laid_X ν hb hB h
theorem layX {b k n a s t : Nat} (ok : okP k n a s t) (hb : b < 6) {μ : fm_I} (ν : fm_L) (e2 : μ (34 + b) 2 = nI k) (e5 : μ (34 + b) 5 = nI s) (e6 : μ (34 + b) 6 = nI a) : ∃ μ', m_X1_lay (34 + b) (nI n) (nI t) μ ν = some (μ', ν) ∧ (∀ q, q ≠ 5 → q ≠ 9 → q ≠ 10 → q ≠ 11 → μ' q = μ q) ∧ zX k n a s t μ' := by
  obtain ⟨hk, h1, hn, ha, hs, ht⟩ := ok
  exact lay_X hb hk hn h1 ha hs (by omega) ν e2 e5 e6
theorem cutsM {G : Nat → Nat} {b : Nat} {μ : fm_I} (ν : fm_L) (hb : b < 6) (hB : pa_B G) (h : pa_M G b μ) : ∃ μ', m_X6_cuts (nI b) μ ν = some (μ', ν) ∧ (∀ q, q ≠ 76 → q ≠ 77 → q ≠ 58 → μ' q = μ q) ∧ (∀ j, j ≠ 28 → μ' 58 j = μ 58 j) ∧ zM (G 0) (G 2) (G 4) (G 1) μ' := cuts_M ν hb hB h
theorem has_X {k n a s t p : Nat} (ok : okP k n a s t) {μ : fm_I} (h : zX k n a s t μ) (hp : p < pC k n a (t % 2)) (ν : fm_L) : m_X1_hasPiece (nI p) μ ν = some (nI 1) := by
  have c := pC_le ok
  rw [m_X1_hasPiece, if_neg (nI_pos (by omega)), h.2.2.2.2.2.1, if_neg (nle_i hp (by omega))]
theorem has_O {k n a s t : Nat} {v : Int32} {μ : fm_I} (h : zX k n a s t μ) (hv : v < 0 ∨ nI (pC k n a (t % 2)) ≤ v) (ν : fm_L) : m_X1_hasPiece v μ ν = some (nI 0) := by
  rw [m_X1_hasPiece]
  by_cases h0 : v < 0
  · rw [if_pos h0]
  · rw [if_neg h0, h.2.2.2.2.2.1, if_pos (hv.resolve_left h0)]
theorem mem_X {k n a s t p : Nat} (ok : okP k n a s t) {μ : fm_I} (h : zX k n a s t μ) (hp : p < pC k n a (t % 2)) (ν : fm_L) : m_X1_members (nI p) μ ν = some (nI (sM (pR k n a (t % 2)) p n)) := by
  have c := pC_le ok
  obtain ⟨m, e1, e2⟩ := h.2.2.2.2.2.2 p hp
  rw [m_X1_members, has_X ok h hp, ev_b, if_neg (by decide), ev_in (by rw [ev_n11]; omega) (by omega), ev_g, ev_cl (by omega), e1, mask_eq e2 (sM_mask _ _ _)]
theorem size_X {k n a s t p : Nat} (ok : okP k n a s t) {μ : fm_I} (h : zX k n a s t μ) (hp : p < pC k n a (t % 2)) (ν : fm_L) : m_X1_size (nI p) μ ν = some (nI (cn (pR k n a (t % 2)) p n)) := by
  obtain ⟨z1, z2⟩ := pc_mask (pC_le ok).2.1 (sM_mask (pR k n a (t % 2)) p n)
  rw [m_X1_size, mem_X ok h hp, ev_b, bc_X, ev_b, bc_m z1, z2]
def tn (t c : Nat) : Nat := t * c + 2 * (c - 1)
theorem tn_lt {t c : Nat} (ht : t ≤ 20000) (hc : c ≤ 12) : tn t c < 300000 := by
  unfold tn
  have := Nat.mul_le_mul ht hc
  omega
theorem turns_X {k n a s t p : Nat} (ok : okP k n a s t) {μ : fm_I} (h : zX k n a s t μ) (hp : p < pC k n a (t % 2)) (ν : fm_L) : m_X1_turnsOf (nI p) μ ν = some (nI (tn t (cn (pR k n a (t % 2)) p n))) := by
  obtain ⟨c1, c2⟩ := cn_pos ok hp
  rw [m_X1_turnsOf, size_X ok h hp, ev_b, h.2.1, m_X5_turnsOfSize, ev_b, Int64.toInt32_add, Int64.toInt32_mul, Int64.toInt32_mul, Int32.toInt32_toInt64, Int32.toInt32_toInt64, Int32.toInt32_toInt64, pk_sub c1, show (lN 2).toInt32 = nI 2 by decide, pk_mul, pk_mul, nI_add]
  rfl
theorem turns_M {b k n a s t p : Nat} (ok : okP k n a s t) (hb : b < 6) {μ : fm_I} (e1 : μ 61 b = nI t) (h : zM k n a t μ) (hp : p < pC k n a (t % 2)) (ν : fm_L) : m_X6_turnsOf (nI b) (nI p) μ ν = some (nI (tn t (cn (pR k n a (t % 2)) p n))) := by
  obtain ⟨c1, c2⟩ := cn_pos ok hp
  have c := pC_le ok
  rw [m_X6_turnsOf, ev_in (by rw [ev_n61]; omega) (by omega), ev_g, ev_in (by rw [ev_n77]; omega) (by omega), ev_g, ev_cl (by omega), e1, ev_cl (by omega), h.2.2 p hp, pk_sub c1, pk_mul, pk_mul, nI_add]
  rfl
theorem one_X {k n a s t p : Nat} (ok : okP k n a s t) {μ : fm_I} (h : zX k n a s t μ) (hp : p < pC k n a (t % 2)) (ν : fm_L) : m_X1_isOneSided (nI p) μ ν = some (nI (tn t (cn (pR k n a (t % 2)) p n) % 2)) := by
  obtain ⟨c1, c2⟩ := cn_pos ok hp
  have c := pC_le ok
  have z := tn_lt (t := t) (c := cn (pR k n a (t % 2)) p n) ok.2.2.2.2.2 (by omega)
  rw [m_X1_isOneSided, turns_X ok h hp, ev_b, odd_X _ (by omega), ev_b]
  rcases Nat.mod_two_eq_zero_or_one (tn t (cn (pR k n a (t % 2)) p n)) with e | e
  · rw [e]; rfl
  · rw [e]; rfl
theorem strM {b k n a s t p : Nat} (ok : okP k n a s t) (hb : b < 6) {μ : fm_I} (e2 : μ 62 b = nI n) (h : zM k n a t μ) (hp : p < pC k n a (t % 2)) (ν : fm_L) : m_X6_stripsOf (nI b) (nI p) μ ν = some (nI (sM (pR k n a (t % 2)) p n)) := by
  have c := pC_le ok
  rw [m_X6_stripsOf]
  exact str_M hb c.2.1 (by omega) ν e2 h.1 (fun x hx => by have := c.2.2 x hx; omega) _ n 0 5000 (by omega) (by omega)
/-- a refusal after the class has cut; the reference cuts too -/
theorem cut_rf {μ μ1 μ2 : fm_I} {ν : fm_L} (h : Inv μ ν) {k : Nat} (hk : k < 8) (x : ∀ q, q ≠ 5 → q ≠ 9 → q ≠ 10 → q ≠ 11 → μ1 q = μ q) (m : ∀ q, q ≠ 76 → q ≠ 77 → q ≠ 58 → μ2 q = (fm_u μ1 4 k (μ1 4 k + nI 1)) q) (m58 : ∀ j, j ≠ 28 → μ2 58 j = (fm_u μ1 4 k (μ1 4 k + nI 1)) 58 j) : Inv (fm_u μ2 59 k (μ2 59 k + nI 1)) ν := by
  have e4 : μ1 4 = μ 4 := x 4 (by decide) (by decide) (by decide) (by decide)
  have e59 : μ1 59 = μ 59 := x 59 (by decide) (by decide) (by decide) (by decide)
  refine inv_scr (inv_rf h hk) (fun q hq => ?_) (fun j hj => ?_) (fun _ _ => rfl)
  · by_cases z : q = 59
    · subst z
      rw [fm_u_self, fm_u_self, m 59 (by decide) (by decide) (by decide), ev_uq (by decide), ev_uq (by decide), e59]
    · rw [ev_uq z, ev_uq z, m q (by omega) (by omega) (by omega)]
      by_cases y : q = 4
      · subst y
        rw [fm_u_self, fm_u_self, e4]
      · rw [ev_uq y, ev_uq y, x q (by omega) (by omega) (by omega) (by omega)]
  · rw [ev_uq (by decide), m58 j (by omega), ev_uq (by decide), ev_uq (by decide), ev_uq (by decide), x 58 (by decide) (by decide) (by decide) (by decide)]
theorem isP_in {G : Nat → Nat} {n b : Nat} {v : Int32} {μ : fm_I} (ν : fm_L) (hn : n ≤ 6) (hb : b < n) (e : μ 58 0 = nI n) (hB : pa_B G) (h : pa_M G b μ) : ∃ μ', (∀ p, p < pC (G 0) (G 2) (G 4) (G 1 % 2) → v = nI p → m_X6_isPiece (nI b) v μ ν = some (nI 1, μ', ν)) ∧ ((v < 0 ∨ nI (pC (G 0) (G 2) (G 4) (G 1 % 2)) ≤ v) → m_X6_isPiece (nI b) v μ ν = some (nI 0, μ', ν)) ∧ (∀ q, q ≠ 76 → q ≠ 77 → q ≠ 58 → μ' q = μ q) ∧ (∀ j, j ≠ 28 → μ' 58 j = μ 58 j) ∧ zM (G 0) (G 2) (G 4) (G 1) μ' := by
  obtain ⟨μ2, q1, q2, q3, q4⟩ := cutsM ν (by omega) hB h
  have c := pC_le (okP_of hB)
  refine ⟨μ2, fun p hp hv => ?_, fun hv => ?_, q2, q3, q4⟩
  · subst hv
    rw [m_X6_isPiece, bd_inM hn hb e, ev_b, if_neg (by decide), q1, ev_b, if_neg (nI_pos (by omega)), if_neg (by show ¬ μ2 58 28 ≤ nI p; rw [q4.2.1]; exact nle_i hp (by omega))]
  · rw [m_X6_isPiece, bd_inM hn hb e, ev_b, if_neg (by decide), q1, ev_b]
    by_cases h0 : v < 0
    · rw [if_pos h0]
    · rw [if_neg h0, if_pos (by show μ2 58 28 ≤ v; rw [q4.2.1]; exact hv.resolve_left h0)]
theorem nI0 : nI 0 = 0 := by decide
