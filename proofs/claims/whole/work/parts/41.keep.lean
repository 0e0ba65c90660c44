/-! WHAT STAYS of the relation under writes elsewhere -/
theorem kp_X {F : Nat → Nat} {p : Nat} {μ μ' : fm_I} (h : pa_X F p μ) (e : μ' p = μ p) (e2 : μ' (p + 12) = μ (p + 12)) : pa_X F p μ' := by
  unfold pa_X at *
  rw [e, e2]
  exact h
theorem kp_M {F : Nat → Nat} {b : Nat} {μ μ' : fm_I} (h : pa_M F b μ) (e : ∀ q, 60 ≤ q → q ≤ 65 → μ' q = μ q) : pa_M F b μ' := by
  unfold pa_M at *
  rw [e 60 (by decide) (by decide), e 61 (by decide) (by decide), e 62 (by decide) (by decide), e 63 (by decide) (by decide), e 64 (by decide) (by decide), e 65 (by decide) (by decide)]
  exact h
theorem kp_S {n n' s : Nat} {μ μ' : fm_I} {ν ν' : fm_L} (h : pa_S n s μ ν) (hn : n ≤ n') (e : ∀ q, 66 ≤ q → q ≤ 69 → μ' q = μ q) (e2 : μ' (18 + s) = μ (18 + s)) (e3 : ν' (26 + s) = ν (26 + s)) (e4 : ν' 70 = ν 70) : pa_S n' s μ' ν' := by
  unfold pa_S at *
  rw [e 66 (by decide) (by decide), e 67 (by decide) (by decide), e 68 (by decide) (by decide), e 69 (by decide) (by decide), e2, e3, e4]
  rcases h with h | h | ⟨b, hb, h⟩
  · exact Or.inl h
  · exact Or.inr (Or.inl h)
  · exact Or.inr (Or.inr ⟨b, Nat.lt_of_lt_of_le hb hn, h⟩)
theorem kp_T {μ μ' : fm_I} (h : pa_T μ) (e7 : μ' 7 1 = μ 7 1) (e58 : μ' 58 32 = μ 58 32) (e80 : μ' 80 = μ 80) (e8 : μ' 8 = μ 8) : pa_T μ' := by
  obtain ⟨r, h1, h2, h3, h4⟩ := h
  refine ⟨r, h1, e7.trans h2, e58.trans h3, ?_⟩
  rw [e80, e8]
  exact h4
theorem kp_I {μ μ' : fm_I} (h : pa_I μ) (e0 : ∀ k, 10 ≤ k → k ≤ 12 → μ' 0 k = μ 0 k) (e58 : μ' 58 33 = μ 58 33) (e75 : μ' 75 = μ 75) (eI : ∀ b, b < 6 → μ' (40 + b) = μ (40 + b) ∧ μ' (40 + b + 12) = μ (40 + b + 12)) : pa_I μ' := by
  rcases h with ⟨h1, h2⟩ | ⟨m, FI, h1, h2, h3, h4, h5, h6, h7⟩
  · exact Or.inl ⟨(e0 10 (by decide) (by decide)).trans h1, e58.trans h2⟩
  · refine Or.inr ⟨m, FI, h1, (e0 10 (by decide) (by decide)).trans h2, e58.trans h3, by rw [e75]; exact h4, by rw [e75, e0 12 (by decide) (by decide)]; exact h5, by rw [e75, e0 11 (by decide) (by decide)]; exact h6, fun b hb => ?_⟩
    obtain ⟨c1, c2, c3⟩ := h7 b hb
    refine ⟨c1, kp_X c2 (eI b (by omega)).1 (eI b (by omega)).2, ?_⟩
    unfold pa_K at *
    rw [e75]
    exact c3
/-- writes on scratch rows alone -/
theorem inv_scr {μ μ' : fm_I} {ν ν' : fm_L} (h : Inv μ ν) (e : ∀ q, (q ≤ 4 ∨ q = 7 ∨ q = 8 ∨ (18 ≤ q ∧ q ≤ 57) ∨ (59 ≤ q ∧ q ≤ 70) ∨ q = 72 ∨ q = 75 ∨ q = 80) → μ' q = μ q) (e58 : ∀ k, (k ≤ 3 ∨ k = 32 ∨ k = 33) → μ' 58 k = μ 58 k) (en : ∀ q, q ≠ 71 → ν' q = ν q) : Inv μ' ν' := by
  obtain ⟨n, F, h1, h2, h3, h4, h5, h6, h7, h8, h9⟩ := h
  refine ⟨n, F, ⟨h1.1, by rw [e 0 (by omega)]; exact h1.2.1, by rw [e58 0 (by omega)]; exact h1.2.2⟩, fun b hb => ?_, fun b hb => ?_, ?_, fun k hk => ?_, fun s hs => ?_, ?_, ?_, fun i hi => ?_⟩
  · obtain ⟨a1, a2, a3⟩ := h2 b hb
    have hn := h1.1
    exact ⟨a1, kp_X a2 (e _ (by omega)) (e _ (by omega)), kp_M a3 (fun q q1 q2 => e q (by omega))⟩
  · rw [e (34 + b) (by omega)]
    exact h3 b hb
  · rw [e58 1 (by omega), e58 2 (by omega), e58 3 (by omega), e 0 (by omega)]
    exact h4
  · rw [e 59 (by omega), e 4 (by omega)]
    exact h5 k hk
  · exact kp_S (h6 s hs) (Nat.le_refl _) (fun q q1 q2 => e q (by omega)) (e _ (by omega)) (en _ (by omega)) (en _ (by omega))
  · exact kp_T h7 (by rw [e 7 (by omega)]) (e58 32 (by omega)) (e 80 (by omega)) (e 8 (by omega))
  · exact kp_I h8 (fun k _ _ => by rw [e 0 (by omega)]) (e58 33 (by omega)) (e 75 (by omega)) (fun b hb => ⟨e _ (by omega), e _ (by omega)⟩)
  · rw [e 72 (by omega)]
    exact h9 i hi
/-- a number of both, not told by anything else: of the class's row 0, of the reference's row 58 -/
theorem inv_sc {μ : fm_I} {ν : fm_L} (h : Inv μ ν) (a c : Nat) (v : Int32) (hac : (a = 8 ∧ c = 2) ∨ (a = 9 ∧ c = 1) ∨ (a = 13 ∧ c = 3)) : Inv (fm_u (fm_u μ 0 a v) 58 c v) ν := by
  obtain ⟨n, F, h1, h2, h3, h4, h5, h6, h7, h8, h9⟩ := h
  have hq : ∀ q, q ≠ 0 → q ≠ 58 → (fm_u (fm_u μ 0 a v) 58 c v) q = μ q := fun q a b => by rw [ev_uq b, ev_uq a]
  have h0 : ∀ k, (fm_u (fm_u μ 0 a v) 58 c v) 0 k = if k = a then v else μ 0 k := fun k => by
    rw [ev_uq (by decide), ev_u]
    simp
  have hM : ∀ k, (fm_u (fm_u μ 0 a v) 58 c v) 58 k = if k = c then v else μ 58 k := fun k => by
    rw [ev_u]
    simp only [true_and]
    rw [ev_uq (by decide)]
  refine ⟨n, F, ⟨h1.1, ?_, ?_⟩, fun b hb => ?_, fun b hb => ?_, ?_, fun k hk => ?_, fun s hs => ?_, ?_, ?_, fun i hi => ?_⟩
  · rw [h0, if_neg (by omega)]; exact h1.2.1
  · rw [hM, if_neg (by omega)]; exact h1.2.2
  · obtain ⟨a1, a2, a3⟩ := h2 b hb
    have hn := h1.1
    exact ⟨a1, kp_X a2 (hq _ (by omega) (by omega)) (hq _ (by omega) (by omega)), kp_M a3 (fun q q1 q2 => hq q (by omega) (by omega))⟩
  · rw [hq (34 + b) (by omega) (by omega)]
    exact h3 b hb
  · rw [hM, hM, hM, h0, h0, h0]
    obtain ⟨a1, a2, a3⟩ := h4
    rcases hac with ⟨rfl, rfl⟩ | ⟨rfl, rfl⟩ | ⟨rfl, rfl⟩
    · exact ⟨rfl, a2, a3⟩
    · exact ⟨a1, rfl, a3⟩
    · exact ⟨a1, a2, rfl⟩
  · rw [hq 59 (by omega) (by omega), hq 4 (by omega) (by omega)]
    exact h5 k hk
  · exact kp_S (h6 s hs) (Nat.le_refl _) (fun q q1 q2 => hq q (by omega) (by omega)) (hq _ (by omega) (by omega)) rfl rfl
  · exact kp_T h7 (by rw [hq 7 (by omega) (by omega)]) (by rw [hM, if_neg (by omega)]) (hq 80 (by omega) (by omega)) (hq 8 (by omega) (by omega))
  · exact kp_I h8 (fun k _ _ => by rw [h0, if_neg (by omega)]) (by rw [hM, if_neg (by omega)]) (hq 75 (by omega) (by omega)) (fun b hb => ⟨hq _ (by omega) (by omega), hq _ (by omega) (by omega)⟩)
  · rw [hq 72 (by omega) (by omega)]
    exact h9 i hi
/-- a refusal of both -/
theorem op_rf {μ : fm_I} {ν : fm_L} (h : Inv μ ν) {α : Type} {r : α} (k : Nat) (hk : k < 8) {f : Option (α × fm_I × fm_L)} {g : fm_I → fm_L → Option (α × fm_I × fm_L)} (hf : f = some (r, fm_u μ 4 k (μ 4 k + nI 1), ν)) (hg : g (fm_u μ 4 k (μ 4 k + nI 1)) ν = some (r, fm_u (fm_u μ 4 k (μ 4 k + nI 1)) 59 k ((fm_u μ 4 k (μ 4 k + nI 1)) 59 k + nI 1), ν)) : pa_op f g := ⟨r, _, _, _, _, hf, hg, inv_rf h hk⟩
theorem op_ro {μ : fm_I} {ν : fm_L} (h : Inv μ ν) {α : Type} {r : α} {f : Option α} {G : fm_I → fm_L → Option α} (hf : f = some r) (hg : G μ ν = some r) : pa_op (pa_ro f μ ν) (fun μ ν => pa_ro (G μ ν) μ ν) := ⟨r, μ, ν, μ, ν, by rw [hf]; rfl, by show pa_ro (G μ ν) μ ν = _; rw [hg]; rfl, h⟩
theorem rX1 (μ : fm_I) (ν : fm_L) : m_X5_refuse (nI 1) μ ν = some (-1, fm_u μ 4 1 (μ 4 1 + nI 1), ν) := rf_X 1 (by decide) (by decide) μ ν
theorem rX2 (μ : fm_I) (ν : fm_L) : m_X5_refuse (nI 2) μ ν = some (-2, fm_u μ 4 2 (μ 4 2 + nI 1), ν) := rf_X 2 (by decide) (by decide) μ ν
theorem rX3 (μ : fm_I) (ν : fm_L) : m_X5_refuse (nI 3) μ ν = some (-3, fm_u μ 4 3 (μ 4 3 + nI 1), ν) := rf_X 3 (by decide) (by decide) μ ν
theorem rX4 (μ : fm_I) (ν : fm_L) : m_X5_refuse (nI 4) μ ν = some (-4, fm_u μ 4 4 (μ 4 4 + nI 1), ν) := rf_X 4 (by decide) (by decide) μ ν
theorem rX5 (μ : fm_I) (ν : fm_L) : m_X5_refuse (nI 5) μ ν = some (-5, fm_u μ 4 5 (μ 4 5 + nI 1), ν) := rf_X 5 (by decide) (by decide) μ ν
theorem rX6 (μ : fm_I) (ν : fm_L) : m_X5_refuse (nI 6) μ ν = some (-6, fm_u μ 4 6 (μ 4 6 + nI 1), ν) := rf_X 6 (by decide) (by decide) μ ν
theorem rX7 (μ : fm_I) (ν : fm_L) : m_X5_refuse (nI 7) μ ν = some (-7, fm_u μ 4 7 (μ 4 7 + nI 1), ν) := rf_X 7 (by decide) (by decide) μ ν
theorem rM1 (μ : fm_I) (ν : fm_L) : m_X6_no (-1) μ ν = some (-1, fm_u μ 59 1 (μ 59 1 + nI 1), ν) := (rf_M 1 (by decide) (-1) (by decide) μ ν).1
theorem rM2 (μ : fm_I) (ν : fm_L) : m_X6_no (-2) μ ν = some (-2, fm_u μ 59 2 (μ 59 2 + nI 1), ν) := (rf_M 2 (by decide) (-2) (by decide) μ ν).1
theorem rM3 (μ : fm_I) (ν : fm_L) : m_X6_no (-3) μ ν = some (-3, fm_u μ 59 3 (μ 59 3 + nI 1), ν) := (rf_M 3 (by decide) (-3) (by decide) μ ν).1
theorem rM4 (μ : fm_I) (ν : fm_L) : m_X6_no (-4) μ ν = some (-4, fm_u μ 59 4 (μ 59 4 + nI 1), ν) := (rf_M 4 (by decide) (-4) (by decide) μ ν).1
theorem rM5 (μ : fm_I) (ν : fm_L) : m_X6_no (-5) μ ν = some (-5, fm_u μ 59 5 (μ 59 5 + nI 1), ν) := (rf_M 5 (by decide) (-5) (by decide) μ ν).1
theorem rM6 (μ : fm_I) (ν : fm_L) : m_X6_no (-6) μ ν = some (-6, fm_u μ 59 6 (μ 59 6 + nI 1), ν) := (rf_M 6 (by decide) (-6) (by decide) μ ν).1
theorem rM7 (μ : fm_I) (ν : fm_L) : m_X6_no (-7) μ ν = some (-7, fm_u μ 59 7 (μ 59 7 + nI 1), ν) := (rf_M 7 (by decide) (-7) (by decide) μ ν).1
/-- a band's number of both: it is none, or it is one -/
theorem in_n {n : Nat} {F : Nat → Nat → Nat} {μ : fm_I} {ν : fm_L} (h : pa_In n F μ ν) : n ≤ 6 ∧ μ 0 7 = nI n ∧ μ 58 0 = nI n := h.1
theorem rf58 {μ : fm_I} {k : Nat} {v : Int32} : fm_u μ 4 k v 58 = μ 58 := ev_uq (by decide)
