/-! WHICH HANG IN WHICH -/
noncomputable def hB (k n a s t p : Nat) : Nat → Nat → Nat → Nat
  | 0, _, v => v
  | d + 1, q, v => hB k n a s t p d (q + 1) (if q = p then v else if hk k n a s t p q = 0 then v else v ||| 2 ^ q)
noncomputable def hH (k n a s t p : Nat) : Nat := hB k n a s t p (pC k n a (t % 2)) 0 0
theorem hB_lt (k n a s t p : Nat) {c : Nat} : ∀ (d q v : Nat), q + d = c → v < 2 ^ c → hB k n a s t p d q v < 2 ^ c := by
  intro d
  induction d with
  | zero => intro q v _ h; exact h
  | succ d ih =>
    intro q v hq h
    rw [hB]
    refine ih (q + 1) _ (by omega) ?_
    by_cases e : q = p
    · rw [if_pos e]; exact h
    · rw [if_neg e]
      by_cases e2 : hk k n a s t p q = 0
      · rw [if_pos e2]; exact h
      · rw [if_neg e2]
        exact Nat.or_lt_two_pow h (Nat.pow_lt_pow_right (by decide) (by omega))
theorem hH_lt (k n a s t p : Nat) : hH k n a s t p < 2 ^ (pC k n a (t % 2)) := hB_lt k n a s t p _ 0 0 (Nat.zero_add _) (Nat.two_pow_pos _)
theorem fh_23 {k n a s t p : Nat} (ok : okP k n a s t) (hp : p < pC k n a (t % 2)) (K : fm_I → fm_L → Option (fm_I × fm_L)) : ∀ (d q fuel v : Nat) (μ : fm_I) (ν : fm_L), q + d = pC k n a (t % 2) → d < fuel → zX k n a s t μ → tbX k n a s t μ → μ 13 p = nI v → ∃ μ', m_X1_findHung_23 (nI p) K fuel (nI q) μ ν = K μ' ν ∧ (∀ x, x ≠ 13 → μ' x = μ x) ∧ (∀ j, j ≠ p → μ' 13 j = μ 13 j) ∧ μ' 13 p = nI (hB k n a s t p d q v) := by
  have cc := pC_le ok
  intro d
  induction d with
  | zero =>
    intro q fuel v μ ν hq hf' h ht h13
    obtain ⟨f, rfl⟩ : ∃ j, fuel = j + 1 := ⟨fuel - 1, by omega⟩
    refine ⟨μ, ?_, fun _ _ => rfl, fun _ _ => rfl, h13⟩
    rw [m_X1_findHung_23, h.2.2.2.2.2.1, if_pos (le_i (by omega) (by omega))]
  | succ d ih =>
    intro q fuel v μ ν hq hf' h ht h13
    obtain ⟨f, rfl⟩ : ∃ j, fuel = j + 1 := ⟨fuel - 1, by omega⟩
    by_cases e : q = p
    · obtain ⟨μ', q1, q2, q3, q4⟩ := ih (q + 1) f v μ ν (by omega) (by omega) h ht h13
      refine ⟨μ', ?_, q2, q3, by rw [q4, hB, if_pos e]⟩
      rw [m_X1_findHung_23, h.2.2.2.2.2.1, if_neg (nle_i (by omega) (by omega)), if_pos (by rw [e]), nI_add]
      exact q1
    · have C := hc_X ok ν h ht hp (show q < pC k n a (t % 2) by omega) (fun z => e z.symm)
      by_cases e2 : hk k n a s t p q = 0
      · obtain ⟨μ', q1, q2, q3, q4⟩ := ih (q + 1) f v μ ν (by omega) (by omega) h ht h13
        refine ⟨μ', ?_, q2, q3, by rw [q4, hB, if_neg e, if_pos e2]⟩
        rw [m_X1_findHung_23, h.2.2.2.2.2.1, if_neg (nle_i (by omega) (by omega)), if_neg (ne_i e (by omega) (by omega)), C, ev_b, if_pos e2, nI_add]
        exact q1
      · obtain ⟨μ', q1, q2, q3, q4⟩ := ih (q + 1) f (v ||| 2 ^ q) (fm_u μ 13 p (nI (v ||| 2 ^ q))) ν (by omega) (by omega) (kp_cX h (fun x hx => ev_uq (by omega))) (fun x y hx hy => by rw [ev_uq (by decide)]; exact ht x y hx hy) ev_us
        refine ⟨μ', ?_, fun x hx => by rw [q2 x hx, ev_uq hx], fun j hj => by rw [q3 j hj, ev_uj hj], by rw [q4, hB, if_neg e, if_neg e2]⟩
        rw [m_X1_findHung_23, h.2.2.2.2.2.1, if_neg (nle_i (by omega) (by omega)), if_neg (ne_i e (by omega) (by omega)), C, ev_b, if_neg e2, ev_in (by rw [ev_n13]; omega) (by omega), ev_g, ev_cl (by omega), h13, sh1 q (by omega), or_N, nI_add]
        exact q1
theorem fh_6 {k n a s t : Nat} (ok : okP k n a s t) (K : fm_I → fm_L → Option (fm_I × fm_L)) : ∀ (d i fuel : Nat) (μ : fm_I) (ν : fm_L), i + d = pC k n a (t % 2) → d < fuel → zX k n a s t μ → tbX k n a s t μ → (∀ p, p < i → μ 13 p = nI (hH k n a s t p)) → ∃ μ', m_X1_findHung_6 K fuel (nI i) μ ν = K μ' ν ∧ (∀ x, x ≠ 13 → μ' x = μ x) ∧ ∀ p, p < pC k n a (t % 2) → μ' 13 p = nI (hH k n a s t p) := by
  have cc := pC_le ok
  intro d
  induction d with
  | zero =>
    intro i fuel μ ν hi hf' h ht h13
    obtain ⟨f, rfl⟩ : ∃ j, fuel = j + 1 := ⟨fuel - 1, by omega⟩
    refine ⟨μ, ?_, fun _ _ => rfl, fun p hp => h13 p (by omega)⟩
    rw [m_X1_findHung_6, h.2.2.2.2.2.1, if_pos (le_i (by omega) (by omega))]
  | succ d ih =>
    intro i fuel μ ν hi hf' h ht h13
    obtain ⟨f, rfl⟩ : ∃ j, fuel = j + 1 := ⟨fuel - 1, by omega⟩
    obtain ⟨μ1, g1, g2, g3, g4⟩ := fh_23 ok (show i < pC k n a (t % 2) by omega) (fun μ23 ν23 => m_X1_findHung_6 K f (nI (i + 1)) μ23 ν23) (pC k n a (t % 2)) 0 5000 0 (fm_u μ 13 i (nI 0)) ν (by omega) (by omega) (kp_cX h (fun x hx => ev_uq (by omega))) (fun x y hx hy => by rw [ev_uq (by decide)]; exact ht x y hx hy) ev_us
    have f1 : ∀ x, x ≠ 13 → μ1 x = μ x := fun x hx => by rw [g2 x hx, ev_uq hx]
    obtain ⟨μ', q1, q2, q3⟩ := ih (i + 1) f μ1 ν (by omega) (by omega) (kp_cX h (fun x hx => f1 x (by omega))) (fun x y hx hy => by rw [f1 12 (by decide)]; exact ht x y hx hy) (fun p hp => by
      by_cases e : p = i
      · rw [e, g4]; rfl
      · rw [g3 p e, ev_uj e, h13 p (by omega)])
    refine ⟨μ', ?_, fun x hx => by rw [q2 x hx, f1 x hx], q3⟩
    rw [m_X1_findHung_6, h.2.2.2.2.2.1, if_neg (nle_i (by omega) (by omega)), ev_in (by rw [ev_n13]; omega) (by omega), ev_g, ev_cl (by omega), nI_add]
    exact g1.trans q1
theorem fh_X {k n a s t : Nat} (ok : okP k n a s t) {μ : fm_I} (ν : fm_L) (h : zX k n a s t μ) : ∃ μ', m_X1_findHung μ ν = some (μ', ν) ∧ (∀ x, x ≠ 12 → x ≠ 13 → μ' x = μ x) ∧ ∀ p, p < pC k n a (t % 2) → μ' 13 p = nI (hH k n a s t p) := by
  have cc := pC_le ok
  obtain ⟨μ1, q1, q2, q3⟩ := cnt_X ok ν h
  obtain ⟨μ2, r1, r2, r3⟩ := fh_6 ok (fun μ6 ν6 => some (μ6, ν6)) (pC k n a (t % 2)) 0 5000 μ1 ν (by omega) (by omega) (kp_cX h (fun x hx => q2 x (by omega))) q3 (fun p hp => absurd hp (Nat.not_lt_zero p))
  refine ⟨μ2, ?_, fun x h1 h2 => by rw [r2 x h2, q2 x h1], r3⟩
  rw [m_X1_findHung, q1, ev_b]
  exact r1
theorem hg_24 {b k n a s t p : Nat} (ok : okP k n a s t) (hb : b < 6) (hp : p < pC k n a (t % 2)) (K : fm_I → fm_L → Option (fm_I × fm_L)) : ∀ (d q fuel v : Nat) (μ : fm_I) (ν : fm_L), q + d = pC k n a (t % 2) → d < fuel → bM k n a s t b μ → zM k n a t μ → μ 78 p = nI v → ∃ μ', m_X6_hangs_24 (nI b) (nI p) K fuel (nI q) μ ν = K μ' ν ∧ (∀ x, x ≠ 78 → μ' x = μ x) ∧ (∀ j, j ≠ p → μ' 78 j = μ 78 j) ∧ μ' 78 p = nI (hB k n a s t p d q v) := by
  have cc := pC_le ok
  intro d
  induction d with
  | zero =>
    intro q fuel v μ ν hq hf' h h2 h13
    obtain ⟨f, rfl⟩ : ∃ j, fuel = j + 1 := ⟨fuel - 1, by omega⟩
    refine ⟨μ, ?_, fun _ _ => rfl, fun _ _ => rfl, h13⟩
    rw [m_X6_hangs_24, h2.2.1, if_pos (le_i (by omega) (by omega))]
  | succ d ih =>
    intro q fuel v μ ν hq hf' h h2 h13
    obtain ⟨f, rfl⟩ : ∃ j, fuel = j + 1 := ⟨fuel - 1, by omega⟩
    by_cases e : q = p
    · obtain ⟨μ', q1, q2, q3, q4⟩ := ih (q + 1) f v μ ν (by omega) (by omega) h h2 h13
      refine ⟨μ', ?_, q2, q3, by rw [q4, hB, if_pos e]⟩
      rw [m_X6_hangs_24, h2.2.1, if_neg (nle_i (by omega) (by omega)), if_pos (by rw [e]), nI_add]
      exact q1
    · have C := hkd_M ok hb (show p < 12 by omega) (show q < 12 by omega) ν h h2
      by_cases e2 : hk k n a s t p q = 0
      · obtain ⟨μ', q1, q2, q3, q4⟩ := ih (q + 1) f v μ ν (by omega) (by omega) h h2 h13
        refine ⟨μ', ?_, q2, q3, by rw [q4, hB, if_neg e, if_pos e2]⟩
        rw [m_X6_hangs_24, h2.2.1, if_neg (nle_i (by omega) (by omega)), if_neg (ne_i e (by omega) (by omega)), C, ev_b, if_pos e2, nI_add]
        exact q1
      · obtain ⟨μ', q1, q2, q3, q4⟩ := ih (q + 1) f (v ||| 2 ^ q) (fm_u μ 78 p (nI (v ||| 2 ^ q))) ν (by omega) (by omega) (kp_bM h (fun x hx _ => ev_uq (by omega))) (kp_cM h2 (fun x hx => ev_uq (by omega))) ev_us
        refine ⟨μ', ?_, fun x hx => by rw [q2 x hx, ev_uq hx], fun j hj => by rw [q3 j hj, ev_uj hj], by rw [q4, hB, if_neg e, if_neg e2]⟩
        rw [m_X6_hangs_24, h2.2.1, if_neg (nle_i (by omega) (by omega)), if_neg (ne_i e (by omega) (by omega)), C, ev_b, if_neg e2, ev_in (by rw [ev_n78]; omega) (by omega), ev_g, ev_cl (by omega), h13, sh1 q (by omega), or_N, nI_add]
        exact q1
theorem hg_7 {b k n a s t : Nat} (ok : okP k n a s t) (hb : b < 6) (K : fm_I → fm_L → Option (fm_I × fm_L)) : ∀ (d i fuel : Nat) (μ : fm_I) (ν : fm_L), i + d = pC k n a (t % 2) → d < fuel → bM k n a s t b μ → zM k n a t μ → (∀ p, p < i → μ 78 p = nI (hH k n a s t p)) → ∃ μ', m_X6_hangs_7 (nI b) K fuel (nI i) μ ν = K μ' ν ∧ (∀ x, x ≠ 78 → μ' x = μ x) ∧ ∀ p, p < pC k n a (t % 2) → μ' 78 p = nI (hH k n a s t p) := by
  have cc := pC_le ok
  intro d
  induction d with
  | zero =>
    intro i fuel μ ν hi hf' h h2 h13
    obtain ⟨f, rfl⟩ : ∃ j, fuel = j + 1 := ⟨fuel - 1, by omega⟩
    refine ⟨μ, ?_, fun _ _ => rfl, fun p hp => h13 p (by omega)⟩
    rw [m_X6_hangs_7, h2.2.1, if_pos (le_i (by omega) (by omega))]
  | succ d ih =>
    intro i fuel μ ν hi hf' h h2 h13
    obtain ⟨f, rfl⟩ : ∃ j, fuel = j + 1 := ⟨fuel - 1, by omega⟩
    obtain ⟨μ1, g1, g2, g3, g4⟩ := hg_24 ok hb (show i < pC k n a (t % 2) by omega) (fun μ24 ν24 => m_X6_hangs_7 (nI b) K f (nI (i + 1)) μ24 ν24) (pC k n a (t % 2)) 0 5000 0 (fm_u μ 78 i (nI 0)) ν (by omega) (by omega) (kp_bM h (fun x hx _ => ev_uq (by omega))) (kp_cM h2 (fun x hx => ev_uq (by omega))) ev_us
    have f1 : ∀ x, x ≠ 78 → μ1 x = μ x := fun x hx => by rw [g2 x hx, ev_uq hx]
    obtain ⟨μ', q1, q2, q3⟩ := ih (i + 1) f μ1 ν (by omega) (by omega) (kp_bM h (fun x hx _ => f1 x (by omega))) (kp_cM h2 (fun x hx => f1 x (by omega))) (fun p hp => by
      by_cases e : p = i
      · rw [e, g4]; rfl
      · rw [g3 p e, ev_uj e, h13 p (by omega)])
    refine ⟨μ', ?_, fun x hx => by rw [q2 x hx, f1 x hx], q3⟩
    rw [m_X6_hangs_7, h2.2.1, if_neg (nle_i (by omega) (by omega)), ev_in (by rw [ev_n78]; omega) (by omega), ev_g, ev_cl (by omega), nI_add]
    exact g1.trans q1
theorem hg_M {G : Nat → Nat} {b : Nat} {μ : fm_I} (ν : fm_L) (hb : b < 6) (hB : pa_B G) (h : pa_M G b μ) : ∃ μ', m_X6_hangs (nI b) μ ν = some (μ', ν) ∧ (∀ q, q ≠ 76 → q ≠ 77 → q ≠ 78 → q ≠ 58 → μ' q = μ q) ∧ (∀ j, j ≠ 28 → μ' 58 j = μ 58 j) ∧ μ' 58 28 = nI (pC (G 0) (G 2) (G 4) (G 1 % 2)) ∧ ∀ p, p < pC (G 0) (G 2) (G 4) (G 1 % 2) → μ' 78 p = nI (hH (G 0) (G 2) (G 4) (G 3) (G 1) p) := by
  have ok := okP_of hB
  have cc := pC_le ok
  obtain ⟨μ1, q1, q2, q3, q4⟩ := cutsM ν hb hB h
  obtain ⟨μ2, r1, r2, r3⟩ := hg_7 ok hb (fun μ7 ν7 => some (μ7, ν7)) (pC (G 0) (G 2) (G 4) (G 1 % 2)) 0 5000 μ1 ν (by omega) (by omega) (kp_bM (bM_of h) (fun x h1 h2 => q2 x (by omega) (by omega) (by omega))) q4 (fun p hp => absurd hp (Nat.not_lt_zero p))
  refine ⟨μ2, ?_, fun q h1 h2 h3 h4 => by rw [r2 q h3, q2 q h1 h2 h4], fun j hj => by rw [r2 58 (by decide), q3 j hj], by rw [r2 58 (by decide)]; exact q4.2.1, r3⟩
  rw [m_X6_hangs, q1, ev_b]
  exact r1
