/-! BANDS: twist, turn, paint -/
theorem inv_all {n n' : Nat} {F F' : Nat → Nat → Nat} {μ μ' : fm_I} {ν ν' : fm_L} (h : pa_In n F μ ν) (hn : n ≤ n') (hn6 : n' ≤ 6) (e0 : μ' 0 7 = nI n') (e58 : μ' 58 0 = nI n') (hb : ∀ b, b < n' → pa_B (F' b) ∧ pa_X (F' b) (34 + b) μ' ∧ pa_M (F' b) b μ') (hk : ∀ b, b < 6 → μ' (34 + b) 0 = μ (34 + b) 0) (sc : μ' 58 2 = μ' 0 8 ∧ μ' 58 1 = μ' 0 9 ∧ μ' 58 3 = μ' 0 13) (f0 : ∀ k, 10 ≤ k → k ≤ 12 → μ' 0 k = μ 0 k) (f58 : μ' 58 33 = μ 58 33) (hT : pa_T μ') (e : ∀ q, (q = 4 ∨ q = 59 ∨ (18 ≤ q ∧ q ≤ 25) ∨ (40 ≤ q ∧ q ≤ 45) ∨ (52 ≤ q ∧ q ≤ 57) ∨ (66 ≤ q ∧ q ≤ 69) ∨ q = 72 ∨ q = 75) → μ' q = μ q) (en : ∀ q, ((26 ≤ q ∧ q ≤ 33) ∨ q = 70) → ν' q = ν q) : Inv μ' ν' := by
  obtain ⟨h1, h2, h3, h4, h5, h6, h7, h8, h9⟩ := h
  refine ⟨n', F', ⟨hn6, e0, e58⟩, hb, fun b b6 => ?_, sc, fun k k8 => ?_, fun s hs => ?_, hT, ?_, fun i hi => ?_⟩
  · rw [hk b b6]
    exact h3 b b6
  · rw [e 59 (by omega), e 4 (by omega)]
    exact h5 k k8
  · exact kp_S (h6 s hs) hn (fun q q1 q2 => e q (by omega)) (e _ (by omega)) (en _ (by omega)) (en 70 (by omega))
  · exact kp_I h8 f0 f58 (e 75 (by omega)) (fun b hb => ⟨e _ (by omega), e _ (by omega)⟩)
  · rw [e 72 (by omega)]
    exact h9 i hi
/-- a field of a band is changed -/
def fU (F : Nat → Nat → Nat) (b k v : Nat) : Nat → Nat → Nat := fun c j => if c = b ∧ j = k then v else F c j
theorem fU_s (F : Nat → Nat → Nat) (b k v : Nat) : fU F b k v b k = v := if_pos ⟨rfl, rfl⟩
theorem fU_n {F : Nat → Nat → Nat} {b k v c j : Nat} (h : c ≠ b ∨ j ≠ k) : fU F b k v c j = F c j := if_neg (fun z => h.elim (fun q => q z.1) (fun q => q z.2))
theorem X_of {G : Nat → Nat} {p : Nat} {μ : fm_I} (a : ∀ j, j ≤ 4 → μ p (j + 2) = nI (G j)) (c : ∀ i, i < 12 → μ (p + 12) i = nI (G (10 + i))) : pa_X G p μ := ⟨a 0 (by decide), a 1 (by decide), a 2 (by decide), a 3 (by decide), a 4 (by decide), c⟩
theorem M_of {G : Nat → Nat} {b : Nat} {μ : fm_I} (a : ∀ j, j ≤ 4 → μ (60 + j) b = nI (G j)) (c : ∀ i, i < 12 → μ 65 (12 * b + i) = nI (G (10 + i))) : pa_M G b μ := ⟨a 0 (by decide), a 1 (by decide), a 2 (by decide), a 3 (by decide), a 4 (by decide), c⟩
theorem X_at {G : Nat → Nat} {p : Nat} {μ : fm_I} (h : pa_X G p μ) (j : Nat) (hj : j ≤ 4) : μ p (j + 2) = nI (G j) := by
  obtain ⟨a0, a1, a2, a3, a4, _⟩ := h
  rcases (by omega : j = 0 ∨ j = 1 ∨ j = 2 ∨ j = 3 ∨ j = 4) with rfl | rfl | rfl | rfl | rfl <;> assumption
theorem M_at {G : Nat → Nat} {b : Nat} {μ : fm_I} (h : pa_M G b μ) (j : Nat) (hj : j ≤ 4) : μ (60 + j) b = nI (G j) := by
  obtain ⟨a0, a1, a2, a3, a4, _⟩ := h
  rcases (by omega : j = 0 ∨ j = 1 ∨ j = 2 ∨ j = 3 ∨ j = 4) with rfl | rfl | rfl | rfl | rfl <;> assumption
theorem fld_inv {n : Nat} {F : Nat → Nat → Nat} {μ : fm_I} {ν : fm_L} (h : pa_In n F μ ν) {b k t : Nat} (hb : b < n) (hk : k ≤ 4) (hB : pa_B (fU F b k t b)) : pa_In n (fU F b k t) (fm_u (fm_u μ (34 + b) (k + 2) (nI t)) (60 + k) b (nI t)) ν := by
  obtain ⟨h1, h2, h3, h4, h5, h6, h7, h8, h9⟩ := h
  have hn := h1.1
  refine ⟨⟨h1.1, ?_, ?_⟩, fun c hc => ⟨?_, ?_, ?_⟩, fun c hc => ?_, ?_, fun c hc => ?_, fun s hs => ?_, ?_, ?_, fun i hi => ?_⟩
  · rw [ev_uq (by omega), ev_uq (by omega)]
    exact h1.2.1
  · rw [ev_uq (by omega), ev_uq (by omega)]
    exact h1.2.2
  · by_cases e : c = b
    · subst e
      exact hB
    · rw [show fU F b k t c = F c from funext (fun j => fU_n (Or.inl e))]
      exact (h2 c hc).1
  · refine X_of (fun j hj => ?_) (fun i hi => ?_)
    · rw [ev_uq (by omega), ev_u]
      by_cases e : c = b ∧ j = k
      · rw [if_pos (by omega), e.1, e.2, fU_s]
      · rw [if_neg (by omega), fU_n (by omega)]
        exact X_at (h2 c hc).2.1 j hj
    · rw [ev_uq (by omega), ev_uq (by omega), fU_n (by omega)]
      exact (h2 c hc).2.1.2.2.2.2.2 i hi
  · refine M_of (fun j hj => ?_) (fun i hi => ?_)
    · rw [ev_u]
      by_cases e : c = b ∧ j = k
      · rw [if_pos (by omega), e.1, e.2, fU_s]
      · rw [if_neg (by omega), fU_n (by omega), ev_uq (by omega)]
        exact M_at (h2 c hc).2.2 j hj
    · rw [ev_uq (by omega), ev_uq (by omega), fU_n (by omega)]
      exact (h2 c hc).2.2.2.2.2.2.2 i hi
  · rw [ev_uq (by omega), ev_u, if_neg (by omega)]
    exact h3 c hc
  · rw [ev_uq (by omega), ev_uq (by omega), ev_uq (by omega), ev_uq (by omega)]
    exact h4
  · rw [ev_uq (by omega), ev_uq (by omega), ev_uq (by omega), ev_uq (by omega)]
    exact h5 c hc
  · exact kp_S (h6 s hs) (Nat.le_refl n) (fun q q1 q2 => by rw [ev_uq (by omega), ev_uq (by omega)]) (by rw [ev_uq (by omega), ev_uq (by omega)]) rfl rfl
  · exact kp_T h7 (by rw [ev_uq (by omega), ev_uq (by omega)]) (by rw [ev_uq (by omega), ev_uq (by omega)]) (by rw [ev_uq (by omega), ev_uq (by omega)]) (by rw [ev_uq (by omega), ev_uq (by omega)])
  · exact kp_I h8 (fun k _ _ => by rw [ev_uq (by omega), ev_uq (by omega)]) (by rw [ev_uq (by omega), ev_uq (by omega)]) (by rw [ev_uq (by omega), ev_uq (by omega)]) (fun b hb => ⟨by rw [ev_uq (by omega), ev_uq (by omega)], by rw [ev_uq (by omega), ev_uq (by omega)]⟩)
  · rw [ev_uq (by omega), ev_uq (by omega)]
    exact h9 i hi
theorem col_inv {n : Nat} {F : Nat → Nat → Nat} {μ : fm_I} {ν : fm_L} (h : pa_In n F μ ν) {b k t : Nat} (hb : b < n) (hk : k < 12) (ht : t ≤ 7) : pa_In n (fU F b (10 + k) t) (fm_u (fm_u μ (34 + b + 12) k (nI t)) 65 (12 * b + k) (nI t)) ν := by
  obtain ⟨h1, h2, h3, h4, h5, h6, h7, h8, h9⟩ := h
  have hn := h1.1
  refine ⟨⟨h1.1, ?_, ?_⟩, fun c hc => ⟨?_, ?_, ?_⟩, fun c hc => ?_, ?_, fun c hc => ?_, fun s hs => ?_, ?_, ?_, fun i hi => ?_⟩
  · rw [ev_uq (by omega), ev_uq (by omega)]
    exact h1.2.1
  · rw [ev_uq (by omega), ev_uq (by omega)]
    exact h1.2.2
  · obtain ⟨a0, a1, a2, a3, a4, a5, a6⟩ := (h2 c hc).1
    refine ⟨?_, ?_, ?_, ?_, ?_, ?_, fun i hi => ?_⟩
    · rw [fU_n (by omega)]; exact a0
    · rw [fU_n (by omega)]; exact a1
    · rw [fU_n (by omega)]; exact a2
    · rw [fU_n (by omega)]; exact a3
    · rw [fU_n (by omega)]; exact a4
    · rw [fU_n (by omega)]; exact a5
    · by_cases e : c = b ∧ i = k
      · rw [e.1, e.2, fU_s]; exact ht
      · rw [fU_n (by omega)]; exact a6 i hi
  · refine X_of (fun j hj => ?_) (fun i hi => ?_)
    · rw [ev_uq (by omega), ev_uq (by omega), fU_n (by omega)]
      exact X_at (h2 c hc).2.1 j hj
    · rw [ev_uq (by omega), ev_u]
      by_cases e : c = b ∧ i = k
      · rw [if_pos (by omega), e.1, e.2, fU_s]
      · rw [if_neg (by omega), fU_n (by omega)]
        exact (h2 c hc).2.1.2.2.2.2.2 i hi
  · refine M_of (fun j hj => ?_) (fun i hi => ?_)
    · rw [ev_uq (by omega), ev_uq (by omega), fU_n (by omega)]
      exact M_at (h2 c hc).2.2 j hj
    · rw [ev_u]
      by_cases e : c = b ∧ i = k
      · rw [if_pos (by omega), e.1, e.2, fU_s]
      · rw [if_neg (by omega), fU_n (by omega), ev_uq (by omega)]
        exact (h2 c hc).2.2.2.2.2.2.2 i hi
  · rw [ev_uq (by omega), ev_uq (by omega)]
    exact h3 c hc
  · rw [ev_uq (by omega), ev_uq (by omega), ev_uq (by omega), ev_uq (by omega)]
    exact h4
  · rw [ev_uq (by omega), ev_uq (by omega), ev_uq (by omega), ev_uq (by omega)]
    exact h5 c hc
  · exact kp_S (h6 s hs) (Nat.le_refl n) (fun q q1 q2 => by rw [ev_uq (by omega), ev_uq (by omega)]) (by rw [ev_uq (by omega), ev_uq (by omega)]) rfl rfl
  · exact kp_T h7 (by rw [ev_uq (by omega), ev_uq (by omega)]) (by rw [ev_uq (by omega), ev_uq (by omega)]) (by rw [ev_uq (by omega), ev_uq (by omega)]) (by rw [ev_uq (by omega), ev_uq (by omega)])
  · exact kp_I h8 (fun k _ _ => by rw [ev_uq (by omega), ev_uq (by omega)]) (by rw [ev_uq (by omega), ev_uq (by omega)]) (by rw [ev_uq (by omega), ev_uq (by omega)]) (fun b hb => ⟨by rw [ev_uq (by omega), ev_uq (by omega)], by rw [ev_uq (by omega), ev_uq (by omega)]⟩)
  · rw [ev_uq (by omega), ev_uq (by omega)]
    exact h9 i hi
