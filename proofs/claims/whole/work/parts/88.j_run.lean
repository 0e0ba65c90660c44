/-! A TABLE, READ TO ITS END: the class -/
theorem nI1n : ¬ nI 1 = 0 := by decide
def exF (w : Nat) (x : Nat → Nat) (n : Nat) (F : Nat → Nat → Nat) : Nat → Nat → Nat := if w = 0 then fA F n (nb (x 0) (x 1) (x 2) 0 (x 3)) else if w = 1 then fU F (x 0) 3 1 else if w = 2 then fU F (x 0) 3 0 else if w = 3 then fU F (x 0) (10 + x 1) (x 2) else fU F (x 0) 1 (x 1)
theorem exF_S {w n : Nat} {x : Nat → Nat} {F : Nat → Nat → Nat} (b : Nat) : exS w x n (fun b => F b 2) b = exF w x n F b 2 := by
  unfold exS exF
  by_cases c0 : w = 0
  · rw [if_pos c0, if_pos c0]
    show (if b = n then x 2 else F b 2) = fA F n (nb (x 0) (x 1) (x 2) 0 (x 3)) b 2
    by_cases z : b = n
    · rw [if_pos z, show fA F n (nb (x 0) (x 1) (x 2) 0 (x 3)) b = nb (x 0) (x 1) (x 2) 0 (x 3) from if_pos z]
      rfl
    · rw [if_neg z, show fA F n (nb (x 0) (x 1) (x 2) 0 (x 3)) b = F b from if_neg z]
  · rw [if_neg c0, if_neg c0]
    by_cases c1 : w = 1
    · rw [if_pos c1, fU_n (by omega)]
    · rw [if_neg c1]
      by_cases c2 : w = 2
      · rw [if_pos c2, fU_n (by omega)]
      · rw [if_neg c2]
        by_cases c3 : w = 3
        · rw [if_pos c3, fU_n (by omega)]
        · rw [if_neg c3, fU_n (by omega)]
def stV (n : Nat) (F : Nat → Nat → Nat) : Prop := n ≤ 6 ∧ ∀ b, b < n → pa_B (F b)
theorem fU_B {F : Nat → Nat → Nat} {b c k v : Nat} (h : pa_B (F c)) (hk : (k = 1 ∧ v ≤ 9999) ∨ (k = 3 ∧ v ≤ 1) ∨ (10 ≤ k ∧ v ≤ 7)) : pa_B (fU F b k v c) := by
  obtain ⟨a0, a1, a2, a3, a4, a5, a6⟩ := h
  have key : ∀ j, fU F b k v c j = F c j ∨ (j = k ∧ fU F b k v c j = v) := fun j => by
    by_cases z : c = b ∧ j = k
    · exact Or.inr ⟨z.2, if_pos z⟩
    · exact Or.inl (if_neg z)
  have k0 := key 0
  have k1 := key 1
  have k2 := key 2
  have k3 := key 3
  have k4 := key 4
  refine ⟨by omega, by omega, by omega, by omega, by omega, by omega, fun i hi => ?_⟩
  have ki := key (10 + i)
  have := a6 i hi
  omega
theorem stV_e {n w : Nat} {x : Nat → Nat} {F : Nat → Nat → Nat} (h : stV n F) (o : okI n (fun b => F b 2) w x) : stV (exN w n) (exF w x n F) ∧ n ≤ exN w n := by
  obtain ⟨h1, h2⟩ := h
  obtain ⟨o1, o2, o3, o4, o5⟩ := o
  unfold exN exF
  by_cases c0 : w = 0
  · rw [if_pos c0, if_pos c0]
    obtain ⟨p1, p2, p3, p4, p5, p6⟩ := o2 c0
    exact ⟨⟨by omega, fA_B h2 (nb_B p2 p3 p4 p5 (by decide) p6)⟩, by omega⟩
  · rw [if_neg c0, if_neg c0]
    refine ⟨⟨h1, fun b hb => ?_⟩, Nat.le_refl n⟩
    by_cases c1 : w = 1
    · rw [if_pos c1]; exact fU_B (h2 b hb) (by omega)
    · rw [if_neg c1]
      by_cases c2 : w = 2
      · rw [if_pos c2]; exact fU_B (h2 b hb) (by omega)
      · rw [if_neg c2]
        by_cases c3 : w = 3
        · rw [if_pos c3]; exact fU_B (h2 b hb) (by have := (o4 c3).2; omega)
        · rw [if_neg c3]; exact fU_B (h2 b hb) (by have := o5 (by omega); omega)
noncomputable def rn (c : Nat → Int32) (m : Nat) : Nat → Nat → Nat → (Nat → Nat → Nat) → Sum Nat (List (Nat × (Nat → Nat)))
  | 0, a, _, _ => .inl a
  | d + 1, a, n, F => match pI c m n (fun b => F b 2) a with
    | .inl p => .inl p
    | .inr (e, w, x) => if m ≤ e then .inr [(w, x)] else if c e = nI 59 then (match rn c m d (e + 1) (exN w n) (exF w x n F) with
      | .inl p => .inl p
      | .inr L => .inr ((w, x) :: L)) else .inl e
def foN : List (Nat × (Nat → Nat)) → Nat → Nat
  | [], n => n
  | (w, _) :: L, n => foN L (exN w n)
def foF : List (Nat × (Nat → Nat)) → Nat → (Nat → Nat → Nat) → (Nat → Nat → Nat)
  | [], _, F => F
  | (w, x) :: L, n, F => foF L (exN w n) (exF w x n F)
def vL : List (Nat × (Nat → Nat)) → Nat → (Nat → Nat → Nat) → Prop
  | [], _, _ => True
  | (w, x) :: L, n, F => okI n (fun b => F b 2) w x ∧ vL L (exN w n) (exF w x n F)
theorem rn_l {c : Nat → Int32} {m d a n p : Nat} {F : Nat → Nat → Nat} (h : pI c m n (fun b => F b 2) a = .inl p) : rn c m (d + 1) a n F = .inl p := by rw [rn, h]
theorem rn_e {c : Nat → Int32} {m d a n e w : Nat} {x : Nat → Nat} {F : Nat → Nat → Nat} (h : pI c m n (fun b => F b 2) a = .inr (e, w, x)) (z : m ≤ e) : rn c m (d + 1) a n F = .inr [(w, x)] := by
  rw [rn, h]
  exact if_pos z
theorem rn_n {c : Nat → Int32} {m d a n e w : Nat} {x : Nat → Nat} {F : Nat → Nat → Nat} (h : pI c m n (fun b => F b 2) a = .inr (e, w, x)) (z : ¬ m ≤ e) (y : ¬ c e = nI 59) : rn c m (d + 1) a n F = .inl e := by
  rw [rn, h]
  exact (if_neg z).trans (if_neg y)
theorem rn_c {c : Nat → Int32} {m d a n e w : Nat} {x : Nat → Nat} {F : Nat → Nat → Nat} (h : pI c m n (fun b => F b 2) a = .inr (e, w, x)) (z : ¬ m ≤ e) (y : c e = nI 59) : rn c m (d + 1) a n F = match rn c m d (e + 1) (exN w n) (exF w x n F) with
    | .inl p => .inl p
    | .inr L => .inr ((w, x) :: L) := by
  rw [rn, h]
  refine ((if_neg z).trans (if_pos y)).trans ?_
  rcases rn c m d (e + 1) (exN w n) (exF w x n F) with p | L
  · rfl
  · rfl
theorem rn_v {c : Nat → Int32} {m : Nat} : ∀ (d a n : Nat) (F : Nat → Nat → Nat) (L : List (Nat × (Nat → Nat))), rn c m d a n F = .inr L → vL L n F := by
  intro d
  induction d with
  | zero => intro a n F L h; rw [rn] at h; cases h
  | succ d ih =>
    intro a n F L h
    rcases hp : pI c m n (fun b => F b 2) a with p | ⟨e, w, x⟩
    · rw [rn_l hp] at h; cases h
    · have o := (pI_r hp).2.2.2.2
      by_cases z : m ≤ e
      · rw [rn_e hp z] at h
        obtain rfl := Sum.inr.inj h
        exact ⟨o, trivial⟩
      · by_cases y : c e = nI 59
        · rw [rn_c hp z y] at h
          rcases hr : rn c m d (e + 1) (exN w n) (exF w x n F) with p | L'
          · rw [hr] at h; cases h
          · rw [hr] at h
            obtain rfl := Sum.inr.inj h
            exact ⟨o, ih _ _ _ _ hr⟩
        · rw [rn_n hp z y] at h; cases h
theorem fo_V : ∀ (L : List (Nat × (Nat → Nat))) (n : Nat) (F : Nat → Nat → Nat), stV n F → vL L n F → stV (foN L n) (foF L n F) ∧ n ≤ foN L n := by
  intro L
  induction L with
  | nil => intro n F h _; exact ⟨h, Nat.le_refl n⟩
  | cons a L ih =>
    obtain ⟨w, x⟩ := a
    intro n F h v
    obtain ⟨s1, s2⟩ := stV_e h v.1
    obtain ⟨i1, i2⟩ := ih _ _ s1 v.2
    exact ⟨i1, Nat.le_trans s2 i2⟩
/-- what is noted of the items from q on -/
def rc (μ : fm_I) : Nat → List (Nat × (Nat → Nat)) → Prop
  | _, [] => True
  | q, (w, x) :: L => μ 16 q = wd (po w) ∧ (∀ j, j < cnt w → μ 17 (q * 4 + j) = nI (x j)) ∧ rc μ (q + 1) L
theorem rc_k {μ μ' : fm_I} (e : μ' 16 = μ 16) (e2 : μ' 17 = μ 17) : ∀ (L : List (Nat × (Nat → Nat))) (q : Nat), rc μ q L → rc μ' q L := by
  intro L
  induction L with
  | nil => intro q _; exact trivial
  | cons a L ih =>
    obtain ⟨w, x⟩ := a
    intro q h
    exact ⟨by rw [e]; exact h.1, fun j hj => by rw [e2]; exact h.2.1 j hj, ih (q + 1) h.2.2⟩
theorem rS_q {c : Nat → Int32} {m a n q : Nat} {S : Nat → Nat} {μ : fm_I} (h : rS c m a n q S μ) (q' : Nat) : rS c m a n q' S (fm_u μ 6 1 (nI q')) := by
  obtain ⟨h1, h2, h3, h4, h5, h6⟩ := h
  exact ⟨ev_us, by rw [ev_uj (by decide)]; exact h2, by rw [ev_uj (by decide)]; exact h3, by rw [ev_uj (by decide)]; exact h4, fun i hi => by rw [ev_uq (by decide)]; exact h5 i hi, fun b hb => by rw [ev_uq (by decide)]; exact h6 b hb⟩
theorem rS_S {c : Nat → Int32} {m a n q : Nat} {S S' : Nat → Nat} {μ : fm_I} (h : rS c m a n q S μ) (e : ∀ b, S b = S' b) : rS c m a n q S' μ := by
  obtain ⟨h1, h2, h3, h4, h5, h6⟩ := h
  exact ⟨h1, h2, h3, h4, h5, fun b hb => by rw [← e b]; exact h6 b hb⟩
theorem rd_X {c : Nat → Int32} {m : Nat} (hm : m ≤ 160) (K : fm_I → fm_L → Option (fm_I × fm_L)) (ν : fm_L) : ∀ (d q fuel a n : Nat) (F : Nat → Nat → Nat) (μ : fm_I), q + d = 23 → d < fuel → 7 * q ≤ a → a ≤ m → stV n F → rS c m a n q (fun b => F b 2) μ → μ 6 0 = -1 → (∀ p, rn c m d a n F = .inl p → ∃ μ', m_X3_readItems_2 K fuel (nI q) μ ν = some (μ', ν) ∧ rF μ μ' ∧ μ' 6 0 = nI p) ∧ (∀ L, rn c m d a n F = .inr L → ∃ μ', m_X3_readItems_2 K fuel (nI q) μ ν = some (μ', ν) ∧ rF μ μ' ∧ μ' 6 0 = -1 ∧ μ' 6 1 = nI (q + L.length) ∧ q + L.length ≤ 23 ∧ rc μ' q L ∧ (∀ y, y < q → μ' 16 y = μ 16 y) ∧ ∀ y, y < q * 4 → μ' 17 y = μ 17 y) := by
  intro d
  induction d with
  | zero => intro q fuel a n F μ hq _ h7 ha; omega
  | succ d ih =>
    intro q fuel a n F μ hq hf' h7 ha hV h h0
    obtain ⟨f, rfl⟩ : ∃ j, fuel = j + 1 := ⟨fuel - 1, by omega⟩
    have R := ri_X hm ha (show q < 23 by omega) hV.1 (fun b hb => ⟨(hV.2 b hb).2.2.1, (hV.2 b hb).2.2.2.1⟩) ν h
    rcases hp : pI c m n (fun b => F b 2) a with p | ⟨e, w, x⟩
    · rw [hp] at R
      obtain ⟨μ1, r1, r2, r3⟩ := R
      rw [rn_l hp]
      refine ⟨fun p' h' => ?_, fun _ h' => (by cases h')⟩
      obtain rfl := Sum.inl.inj h'
      refine ⟨μ1, ?_, r2, r3⟩
      rw [m_X3_readItems_2, if_neg (nle_i (by omega) (by omega)), r1, ev_b]
      exact if_pos nI0
    · rw [hp] at R
      obtain ⟨μ1, r1, s1, r2, r3, r4, r5, r6, r7⟩ := R
      obtain ⟨_, w5, ae, em, o⟩ := pI_r hp
      obtain ⟨V1, V2⟩ := stV_e hV o
      have s2 := rS_q s1 (q + 1)
      have A := ae_X s2 hm em ν
      have e1 : μ1 6 1 + nI 1 = nI (q + 1) := by rw [s1.1, nI_add]
      have f2 : rF μ (fm_u μ1 6 1 (nI (q + 1))) := fun y h6 h15 h16 h17 => by rw [ev_uq h6, r2 y h6 h15 h16 h17]
      have g2 : (fm_u μ1 6 1 (nI (q + 1))) 6 0 = -1 := by rw [ev_uj (by decide), r3, h0]
      have E : m_X3_readItems_2 K (f + 1) (nI q) μ ν = (m_X3_isAtEnd (fm_u μ1 6 1 (nI (q + 1))) ν).bind (fun r27 => if r27 = 0 then (m_X3_readLetter ((nI 59)) (fm_u μ1 6 1 (nI (q + 1))) ν).bind (fun r36 => if r36.1 = 0 then some ((r36.2.1, r36.2.2)) else m_X3_readItems_2 K f ((nI q + nI 1)) r36.2.1 r36.2.2) else some (((fm_u μ1 6 1 (nI (q + 1))), ν))) := by
        rw [m_X3_readItems_2, if_neg (nle_i (by omega) (by omega)), r1, ev_b, ← e1]
        exact if_neg nI1n
      rw [A, ev_b] at E
      by_cases z : m ≤ e
      · rw [rn_e hp z]
        refine ⟨fun _ h' => (by cases h'), fun L h' => ?_⟩
        obtain rfl := Sum.inr.inj h'
        rw [if_pos z, if_neg (by decide)] at E
        refine ⟨_, E, f2, g2, by rw [ev_us]; rfl, by show q + 1 ≤ 23; omega, ⟨by rw [ev_uq (by decide)]; exact r4, fun j hj => by rw [ev_uq (by decide)]; exact r6 j hj, trivial⟩, fun y hy => by rw [ev_uq (by decide), r5 y (by omega)], fun y hy => by rw [ev_uq (by decide), r7 y hy]⟩
      · rw [if_neg z, if_pos (by decide)] at E
        have RL := rl_X s2 hm em (nI 59) ν
        by_cases y : c e = nI 59
        · rw [RL.1 ⟨by omega, y⟩, ev_b] at E
          have E2 : m_X3_readItems_2 K (f + 1) (nI q) μ ν = m_X3_readItems_2 K f (nI (q + 1)) (fm_u (fm_u μ1 6 1 (nI (q + 1))) 6 2 (nI (e + 1))) ν := by
            rw [E, ← nI_add]
            exact if_neg nI1n
          rw [E2]
          obtain ⟨i1, i2⟩ := ih (q + 1) f (e + 1) (exN w n) (exF w x n F) (fm_u (fm_u μ1 6 1 (nI (q + 1))) 6 2 (nI (e + 1))) (by omega) (by omega) (by omega) (by omega) V1 (rS_S (rS_m s2 (e + 1)) exF_S) (by rw [ev_uj (by decide)]; exact g2)
          have f3 : rF μ (fm_u (fm_u μ1 6 1 (nI (q + 1))) 6 2 (nI (e + 1))) := fun y h6 h15 h16 h17 => by rw [ev_uq h6, f2 y h6 h15 h16 h17]
          rw [rn_c hp z y]
          rcases hr : rn c m d (e + 1) (exN w n) (exF w x n F) with p | L'
          · refine ⟨fun p' h' => ?_, fun _ h' => (by cases h')⟩
            obtain rfl := Sum.inl.inj h'
            obtain ⟨μ', j1, j2, j3⟩ := i1 p hr
            exact ⟨μ', j1, rF_t f3 j2, j3⟩
          · refine ⟨fun _ h' => (by cases h'), fun L h' => ?_⟩
            obtain rfl := Sum.inr.inj h'
            obtain ⟨μ', j1, j2, j3, j4, j5, j6, j7, j8⟩ := i2 L' hr
            have ln : ((w, x) :: L').length = L'.length + 1 := rfl
            refine ⟨μ', j1, rF_t f3 j2, j3, by rw [j4, ln]; congr 1; omega, by rw [ln]; omega, ⟨?_, fun j hj => ?_, j6⟩, fun y hy => ?_, fun y hy => ?_⟩
            · rw [j7 q (by omega), ev_uq (by decide), ev_uq (by decide)]
              exact r4
            · have cj : cnt w ≤ 4 := by
                unfold cnt
                split <;> omega
              rw [j8 _ (by omega), ev_uq (by decide), ev_uq (by decide)]
              exact r6 j hj
            · rw [j7 y (by omega), ev_uq (by decide), ev_uq (by decide), r5 y (by omega)]
            · rw [j8 y (by omega), ev_uq (by decide), ev_uq (by decide), r7 y hy]
        · rw [RL.2 (fun w => y w.2), ev_b] at E
          rw [rn_n hp z y]
          refine ⟨fun p' h' => ?_, fun _ h' => (by cases h')⟩
          obtain rfl := Sum.inl.inj h'
          refine ⟨fm_u (fm_u μ1 6 1 (nI (q + 1))) 6 0 (nI e), ?_, fun y h6 h15 h16 h17 => by rw [ev_uq h6, f2 y h6 h15 h16 h17], ev_us⟩
          rw [E]
          exact if_pos nI0
