/-! COLOURS OF A PIECE -/
theorem sr5 : ∀ i, i < 12 → ((nI i &&& 31).toBitVec.smod 32).toNat = i := by decide
theorem bt_i {m i : Nat} (hm : m < 2147483648) (hi : i < 12) : (nI m >>> (nI i &&& 31)) &&& nI 1 = nI (if m.testBit i then 1 else 0) := by
  have q : m / 2 ^ i ≤ m := Nat.div_le_self _ _
  rw [pk_shrN (by omega) _ i (sr5 i hi), pk_andN (by omega) 1 (by decide), Nat.testBit_eq_decide_div_mod_eq, Nat.pow_one]
  rcases Nat.mod_two_eq_zero_or_one (m / 2 ^ i) with e | e
  · rw [e, if_neg (by decide)]
  · rw [e, if_pos (by decide)]
def ck (R F : Nat → Nat) (p c : Nat) : Nat → Nat
  | 0 => 0
  | i + 1 => ck R F p c i + (if R i = p ∧ F (10 + i) = c then 1 else 0)
theorem ck_le (R F : Nat → Nat) (p c : Nat) : ∀ n, ck R F p c n ≤ n := by
  intro n
  induction n with
  | zero => exact Nat.le_refl 0
  | succ n ih =>
    rw [ck]
    by_cases z : R n = p ∧ F (10 + n) = c
    · rw [if_pos z]; omega
    · rw [if_neg z]; omega
def mx (R F : Nat → Nat) (p n : Nat) : Nat → Nat
  | 0 => 0
  | c + 1 => if mx R F p n c < ck R F p c n then ck R F p c n else mx R F p n c
theorem mx_le (R F : Nat → Nat) (p n : Nat) : ∀ c, mx R F p n c ≤ n := by
  intro c
  induction c with
  | zero => exact Nat.zero_le n
  | succ c ih =>
    rw [mx]
    by_cases z : mx R F p n c < ck R F p c n
    · rw [if_pos z]; exact ck_le R F p c n
    · rw [if_neg z]; exact ih
theorem col_X {b n p c : Nat} {R F : Nat → Nat} (hb : b < 6) (hn : n ≤ 12) (hc : c < 8) (hF : ∀ i, i < 12 → F (10 + i) ≤ 7) {μ : fm_I} (ν : fm_L) (h : ∀ i, i < 12 → μ (34 + b + 12) i = nI (F (10 + i))) (v2 : Int32) (K : Int32 → Option Int32) : ∀ (d i fuel : Nat), i + d = 12 → d < fuel → m_X0_mostOfOneColour_16 (34 + b) (nI (sM R p n)) v2 (nI c) μ ν K fuel (nI (ck R F p c (min i n))) (nI i) = K (nI (ck R F p c n)) := by
  have hm := pc_mask hn (sM_mask R p n)
  intro d
  induction d with
  | zero =>
    intro i fuel hi hf
    obtain ⟨f, rfl⟩ : ∃ j, fuel = j + 1 := ⟨fuel - 1, by omega⟩
    rw [m_X0_mostOfOneColour_16, if_pos (le_i (by omega) (by omega)), show min i n = n by omega]
  | succ d ih =>
    intro i fuel hi hf
    obtain ⟨f, rfl⟩ : ∃ j, fuel = j + 1 := ⟨fuel - 1, by omega⟩
    have s := ih (i + 1) f (by omega) (by omega)
    have kl := ck_le R F p c (min i n)
    rw [m_X0_mostOfOneColour_16, if_neg (nle_i (by omega) (by omega)), bt_i (by omega) (by omega), sM_mask R p n i]
    by_cases hin : i < n
    · rw [show min (i + 1) n = i + 1 by omega, ck] at s
      rw [show min i n = i by omega]
      by_cases w : R i = p
      · have e : decide (i < n ∧ R i = p) = true := decide_eq_true ⟨hin, w⟩
        rw [e, if_pos rfl, if_pos rfl, ev_in (by rw [ev_n46b hb]; omega) (by omega), ev_g, ev_cl (by omega), h i (by omega)]
        have hf7 := hF i (by omega)
        by_cases y : F (10 + i) = c
        · rw [if_pos ⟨w, y⟩] at s
          rw [if_pos (by rw [y]), nI_add, nI_add]
          exact s
        · rw [if_neg (fun z => y z.2), Nat.add_zero] at s
          rw [if_neg (ne_i y (by omega) (by omega)), nI_add]
          exact s
      · have e : decide (i < n ∧ R i = p) = false := decide_eq_false (fun z => w z.2)
        rw [if_neg (fun z => w z.1), Nat.add_zero] at s
        rw [e, if_neg (by decide), nI_add]
        exact s
    · have e : decide (i < n ∧ R i = p) = false := decide_eq_false (fun z => hin z.1)
      rw [show min (i + 1) n = n by omega] at s
      rw [e, if_neg (by decide), nI_add, show min i n = n by omega]
      exact s
theorem col_M {b n p c : Nat} {R F : Nat → Nat} (hb : b < 6) (hn : n ≤ 12) (hp : p < 12) (hc : c < 8) (hF : ∀ i, i < 12 → F (10 + i) ≤ 7) {μ : fm_I} (ν : fm_L) (e2 : μ 62 b = nI n) (hR : ∀ x, x < n → μ 76 x = nI (R x)) (hR2 : ∀ x, x < n → R x < 12) (h : ∀ i, i < 12 → μ 65 (12 * b + i) = nI (F (10 + i))) (v3 : Int32) (K : Int32 → Option Int32) : ∀ (d i fuel : Nat), i + d = n → d < fuel → m_X6_alike_18 (nI b) (nI p) v3 (nI c) μ ν K fuel (nI (ck R F p c i)) (nI i) = K (nI (ck R F p c n)) := by
  intro d
  induction d with
  | zero =>
    intro i fuel hi hf
    obtain ⟨f, rfl⟩ : ∃ j, fuel = j + 1 := ⟨fuel - 1, by omega⟩
    obtain rfl : i = n := by omega
    rw [m_X6_alike_18, ev_in (by rw [ev_n62]; omega) (by omega), ev_g, ev_cl (by omega), e2, if_pos (le_i (by omega) (by omega))]
  | succ d ih =>
    intro i fuel hi hf
    obtain ⟨f, rfl⟩ : ∃ j, fuel = j + 1 := ⟨fuel - 1, by omega⟩
    have s := ih (i + 1) f (by omega) (by omega)
    have hr := hR2 i (by omega)
    have hf7 := hF i (by omega)
    rw [ck] at s
    rw [m_X6_alike_18, ev_in (by rw [ev_n62]; omega) (by omega), ev_g, ev_cl (by omega), e2, if_neg (nle_i (by omega) (by omega)), ev_in (by rw [ev_n76]; omega) (by omega), ev_g, ev_cl (by omega), hR i (by omega)]
    by_cases w : R i = p
    · rw [if_pos (by rw [w]), pk_mul, nI_add, ev_in (by rw [ev_n65]; omega) (by omega), ev_g, ev_cl (by omega), h i (by omega)]
      by_cases y : F (10 + i) = c
      · rw [if_pos ⟨w, y⟩] at s
        rw [if_pos (by rw [y]), nI_add, nI_add]
        exact s
      · rw [if_neg (fun z => y z.2), Nat.add_zero] at s
        rw [if_neg (ne_i y (by omega) (by omega)), nI_add]
        exact s
    · rw [if_neg (fun z => w z.1), Nat.add_zero] at s
      rw [if_neg (ne_i w (by omega) (by omega)), nI_add]
      exact s
theorem most_X {b n p : Nat} {R F : Nat → Nat} (hb : b < 6) (hn : n ≤ 12) (hF : ∀ i, i < 12 → F (10 + i) ≤ 7) {μ : fm_I} (ν : fm_L) (h : ∀ i, i < 12 → μ (34 + b + 12) i = nI (F (10 + i))) : m_X0_mostOfOneColour (34 + b) (nI (sM R p n)) μ ν = some (nI (mx R F p n 8)) := by
  have L : ∀ (d c fuel : Nat), c + d = 8 → d < fuel → m_X0_mostOfOneColour_4 (34 + b) (nI (sM R p n)) μ ν (fun x2_4 => some x2_4) fuel (nI (mx R F p n c)) (nI c) = some (nI (mx R F p n 8)) := by
    intro d
    induction d with
    | zero =>
      intro c fuel hi hf
      obtain ⟨f, rfl⟩ : ∃ j, fuel = j + 1 := ⟨fuel - 1, by omega⟩
      obtain rfl : c = 8 := by omega
      rw [m_X0_mostOfOneColour_4, if_pos (by decide)]
    | succ d ih =>
      intro c fuel hi hf
      obtain ⟨f, rfl⟩ : ∃ j, fuel = j + 1 := ⟨fuel - 1, by omega⟩
      have k1 := ck_le R F p c n
      have k2 := mx_le R F p n c
      have q := col_X (p := p) (c := c) (R := R) hb hn (by omega) hF ν h (nI (mx R F p n c)) (fun x4_16 => m_X0_mostOfOneColour_4 (34 + b) (nI (sM R p n)) μ ν (fun x2_4 => some x2_4) f (if nI (mx R F p n c) < x4_16 then x4_16 else nI (mx R F p n c)) (nI c + nI 1)) 12 0 5000 (by omega) (by omega)
      have s := ih (c + 1) f (by omega) (by omega)
      rw [mx] at s
      rw [m_X0_mostOfOneColour_4, if_neg (fun z => by have := (nI_ltI (by omega) (by omega)).mp z; omega)]
      refine Eq.trans q ?_
      rw [nI_add]
      by_cases y : mx R F p n c < ck R F p c n
      · rw [if_pos y] at s
        rw [if_pos ((nI_ltI (by omega) (by omega)).mpr y)]
        exact s
      · rw [if_neg y] at s
        rw [if_neg (fun z => y ((nI_ltI (by omega) (by omega)).mp z))]
        exact s
  rw [m_X0_mostOfOneColour, ev_k34 hb, ev_g]
  exact L 8 0 5000 (by omega) (by omega)
theorem alike_M {b n p : Nat} {R F : Nat → Nat} (hb : b < 6) (hn : n ≤ 12) (hp : p < 12) (hF : ∀ i, i < 12 → F (10 + i) ≤ 7) {μ : fm_I} (ν : fm_L) (e2 : μ 62 b = nI n) (hR : ∀ x, x < n → μ 76 x = nI (R x)) (hR2 : ∀ x, x < n → R x < 12) (h : ∀ i, i < 12 → μ 65 (12 * b + i) = nI (F (10 + i))) : m_X6_alike (nI b) (nI p) μ ν = some (nI (mx R F p n 8)) := by
  have L : ∀ (d c fuel : Nat), c + d = 8 → d < fuel → m_X6_alike_5 (nI b) (nI p) μ ν (fun x3_5 => some x3_5) fuel (nI (mx R F p n c)) (nI c) = some (nI (mx R F p n 8)) := by
    intro d
    induction d with
    | zero =>
      intro c fuel hi hf
      obtain ⟨f, rfl⟩ : ∃ j, fuel = j + 1 := ⟨fuel - 1, by omega⟩
      obtain rfl : c = 8 := by omega
      rw [m_X6_alike_5, if_pos (by decide)]
    | succ d ih =>
      intro c fuel hi hf
      obtain ⟨f, rfl⟩ : ∃ j, fuel = j + 1 := ⟨fuel - 1, by omega⟩
      have k1 := ck_le R F p c n
      have k2 := mx_le R F p n c
      have q := col_M (c := c) (R := R) hb hn hp (by omega) hF ν e2 hR hR2 h (nI (mx R F p n c)) (fun x5_18 => if x5_18 ≤ nI (mx R F p n c) then m_X6_alike_5 (nI b) (nI p) μ ν (fun x3_5 => some x3_5) f (nI (mx R F p n c)) (nI c + nI 1) else m_X6_alike_5 (nI b) (nI p) μ ν (fun x3_5 => some x3_5) f x5_18 (nI c + nI 1)) n 0 5000 (by omega) (by omega)
      have s := ih (c + 1) f (by omega) (by omega)
      rw [mx] at s
      rw [m_X6_alike_5, if_neg (nle_i (by omega) (by omega))]
      refine Eq.trans q ?_
      rw [nI_add]
      by_cases y : mx R F p n c < ck R F p c n
      · rw [if_pos y] at s
        rw [if_neg (nle_i y (by omega))]
        exact s
      · rw [if_neg y] at s
        rw [if_pos (le_i (by omega) (by omega))]
        exact s
  rw [m_X6_alike]
  exact L 8 0 5000 (by omega) (by omega)
theorem pnt_l {b k n a s t : Nat} {F : Nat → Nat} (ok : okP k n a s t) (hb : b < 6) (hF : ∀ i, i < 12 → F (10 + i) ≤ 7) {μ1 μ2 : fm_I} {ν : fm_L} (h : zX k n a s t μ1) (h2 : zM k n a t μ2) (c1 : ∀ i, i < 12 → μ1 (34 + b + 12) i = nI (F (10 + i))) (e2 : μ2 62 b = nI n) (c2 : ∀ i, i < 12 → μ2 65 (12 * b + i) = nI (F (10 + i))) (KX KM : Int32 → Option (Int32 × fm_I × fm_L)) : ∀ (d i fuel : Nat) (v : Int32), i + d = pC k n a (t % 2) → d < fuel → (∃ r, m_X5_painted_27 (34 + b) μ1 ν KX fuel v (nI i) = KX r ∧ m_X6_painted_23 (nI b) μ2 ν KM fuel v (nI i) = KM r) ∧ ∃ r, m_X5_repaint_27 (34 + b) μ1 ν KX fuel v (nI i) = KX r ∧ m_X6_repaint_23 (nI b) μ2 ν KM fuel v (nI i) = KM r := by
  have cc := pC_le ok
  intro d
  induction d with
  | zero =>
    intro i fuel v hi hf
    obtain ⟨f, rfl⟩ : ∃ j, fuel = j + 1 := ⟨fuel - 1, by omega⟩
    refine ⟨⟨v, ?_, ?_⟩, v, ?_, ?_⟩
    · rw [m_X5_painted_27, h.2.2.2.2.2.1, if_pos (le_i (by omega) (by omega))]
    · rw [m_X6_painted_23, h2.2.1, if_pos (le_i (by omega) (by omega))]
    · rw [m_X5_repaint_27, h.2.2.2.2.2.1, if_pos (le_i (by omega) (by omega))]
    · rw [m_X6_repaint_23, h2.2.1, if_pos (le_i (by omega) (by omega))]
  | succ d ih =>
    intro i fuel v hi hf
    obtain ⟨f, rfl⟩ : ∃ j, fuel = j + 1 := ⟨fuel - 1, by omega⟩
    have hp : i < pC k n a (t % 2) := by omega
    have A := alike_M (p := i) (R := pR k n a (t % 2)) hb cc.2.1 (by omega) hF ν e2 h2.1 (fun x hx => by have := cc.2.2 x hx; omega) c2
    have X := most_X (p := i) (R := pR k n a (t % 2)) hb cc.2.1 hF ν c1
    have k2 := mx_le (pR k n a (t % 2)) F i n 8
    have k3 := cn_pos ok hp
    constructor
    · by_cases e : nI (mx (pR k n a (t % 2)) F i n 8) = nI (cn (pR k n a (t % 2)) i n)
      · obtain ⟨r, q1, q2⟩ := (ih (i + 1) f (v ||| (nI 1 <<< (nI i &&& 31))) (by omega) (by omega)).1
        refine ⟨r, ?_, ?_⟩
        · rw [m_X5_painted_27, h.2.2.2.2.2.1, if_neg (nle_i hp (by omega)), mem_X ok h hp, ev_b, ev_k34 hb, ev_g, X, ev_b, size_X ok h hp, ev_b, if_pos e, nI_add]
          exact q1
        · rw [m_X6_painted_23, h2.2.1, if_neg (nle_i hp (by omega)), A, ev_b, ev_in (by rw [ev_n77]; omega) (by omega), ev_g, ev_cl (by omega), h2.2.2 i hp, if_pos e, nI_add]
          exact q2
      · obtain ⟨r, q1, q2⟩ := (ih (i + 1) f v (by omega) (by omega)).1
        refine ⟨r, ?_, ?_⟩
        · rw [m_X5_painted_27, h.2.2.2.2.2.1, if_neg (nle_i hp (by omega)), mem_X ok h hp, ev_b, ev_k34 hb, ev_g, X, ev_b, size_X ok h hp, ev_b, if_neg e, nI_add]
          exact q1
        · rw [m_X6_painted_23, h2.2.1, if_neg (nle_i hp (by omega)), A, ev_b, ev_in (by rw [ev_n77]; omega) (by omega), ev_g, ev_cl (by omega), h2.2.2 i hp, if_neg e, nI_add]
          exact q2
    · obtain ⟨r, q1, q2⟩ := (ih (i + 1) f (v + (nI (cn (pR k n a (t % 2)) i n) - nI (mx (pR k n a (t % 2)) F i n 8))) (by omega) (by omega)).2
      refine ⟨r, ?_, ?_⟩
      · rw [m_X5_repaint_27, h.2.2.2.2.2.1, if_neg (nle_i hp (by omega)), size_X ok h hp, ev_b, mem_X ok h hp, ev_b, ev_k34 hb, ev_g, X, ev_b, nI_add]
        exact q1
      · rw [m_X6_repaint_23, h2.2.1, if_neg (nle_i hp (by omega)), ev_in (by rw [ev_n77]; omega) (by omega), ev_g, A, ev_b, ev_cl (by omega), h2.2.2 i hp, nI_add]
        exact q2
theorem op_painted {μ : fm_I} {ν : fm_L} (h : Inv μ ν) (a0 : Int32) : pa_op (m_X5_painted a0 μ ν) (fun μ ν => m_X6_painted a0 μ ν) := by
  obtain ⟨n, F, hI⟩ := id h
  have hn := hI.1.1
  rcases bd_cases a0 hn with h0 | ⟨b, hb, rfl⟩
  · refine op_rf h 1 (by decide) (r := -1) ?_ ?_
    · simp -implicitDefEqProofs (disch := omega) only [m_X5_painted, ba_out h0 hI.1.2.1, ev_b, ev_b2, ev_g, ev_gF, ev_on, ev_os, ev_cl, ev_in, ev_in6, ev_eq0, ev_lt0, ev_0le, ev_le0, ev_0lt, ev_lt, ev_le, ev_eq, ev_m1a, ev_m1b, ev_m1c, ev_m1d, ev_m1e, ev_n1, ev_n4, ev_n8, ev_n9, ev_n10, ev_n11, ev_n12, ev_n13, ev_n14, ev_n15, ev_n16, ev_n17, ev_n59, ev_n60, ev_n61, ev_n62, ev_n63, ev_n64, ev_n65, ev_n66, ev_n67, ev_n68, ev_n69, ev_n70, ev_n71, ev_n72, ev_n73, ev_n74, ev_n75, ev_n76, ev_n77, ev_n78, ev_n79, ev_n80, ev_k18, ev_k34, ev_k40, ev_n26, ev_n26b, ev_n46, ev_n46b, ev_n52b, ev_uq, ev_us, ev_uj, ev_lq, ev_ls, ev_lj, ev_urq, ev_urs, ev_ulq, ev_uls, nI_add, pk_sub, pk_mul, if_true, if_false, ite_true, ite_false, decide_true, decide_false, eq_self_iff_true, Nat.reduceEqDiff, Nat.reduceLeDiff, Nat.reduceLT, Nat.reduceAdd, Nat.reduceMul, Nat.reduceSub, Nat.reduceDiv, Nat.reduceMod, ↓reduceIte, rX1]
    · show m_X6_painted a0 _ ν = _
      simp -implicitDefEqProofs (disch := omega) only [m_X6_painted, bo2 h0 hI.1.2.2, ev_b, ev_b2, ev_g, ev_gF, ev_on, ev_os, ev_cl, ev_in, ev_in6, ev_eq0, ev_lt0, ev_0le, ev_le0, ev_0lt, ev_lt, ev_le, ev_eq, ev_m1a, ev_m1b, ev_m1c, ev_m1d, ev_m1e, ev_n1, ev_n4, ev_n8, ev_n9, ev_n10, ev_n11, ev_n12, ev_n13, ev_n14, ev_n15, ev_n16, ev_n17, ev_n59, ev_n60, ev_n61, ev_n62, ev_n63, ev_n64, ev_n65, ev_n66, ev_n67, ev_n68, ev_n69, ev_n70, ev_n71, ev_n72, ev_n73, ev_n74, ev_n75, ev_n76, ev_n77, ev_n78, ev_n79, ev_n80, ev_k18, ev_k34, ev_k40, ev_n26, ev_n26b, ev_n46, ev_n46b, ev_n52b, ev_uq, ev_us, ev_uj, ev_lq, ev_ls, ev_lj, ev_urq, ev_urs, ev_ulq, ev_uls, nI_add, pk_sub, pk_mul, if_true, if_false, ite_true, ite_false, decide_true, decide_false, eq_self_iff_true, Nat.reduceEqDiff, Nat.reduceLeDiff, Nat.reduceLT, Nat.reduceAdd, Nat.reduceMul, Nat.reduceSub, Nat.reduceDiv, Nat.reduceMod, ↓reduceIte, rM1]
  obtain ⟨d1, d2, d3⟩ := hI.2.1 b hb
  have ok := okP_of d1
  have cc := pC_le ok
  obtain ⟨μ1, p1, p3, p2, _, _, μ2, q1, q2, q3, q4, q5, q6, q7⟩ := laid_all h hI hb
  obtain ⟨r, r1, r2⟩ := (pnt_l ok (by omega) (ν := ν) d1.2.2.2.2.2.2 p3 q4 (fun i hi => by rw [p2 _ (by omega) (by omega) (by omega) (by omega)]; exact d2.2.2.2.2.2 i hi) q3.2.2.1 q3.2.2.2.2.2 (fun x3_27 => some (x3_27, μ1, ν)) (fun x => some (x, μ2, ν)) _ 0 5000 (nI 0) (Nat.zero_add _) (by omega)).1
  refine op_mk (r := r) (μ1 := μ1) (ν1 := ν) (μ2 := μ2) (ν2 := ν) ?_ ?_ q7
  · rw [m_X5_painted, ba_in hn hb hI.1.2.1, ev_b, ev_os, p1, ev_b]
    exact r1
  · show m_X6_painted (nI b) μ1 ν = _
    rw [m_X6_painted, q2, ev_b, if_neg (by decide), q1, ev_b]
    exact r2
theorem op_repaint {μ : fm_I} {ν : fm_L} (h : Inv μ ν) (a0 : Int32) : pa_op (m_X5_repaint a0 μ ν) (fun μ ν => m_X6_repaint a0 μ ν) := by
  obtain ⟨n, F, hI⟩ := id h
  have hn := hI.1.1
  rcases bd_cases a0 hn with h0 | ⟨b, hb, rfl⟩
  · refine op_rf h 1 (by decide) (r := -1) ?_ ?_
    · simp -implicitDefEqProofs (disch := omega) only [m_X5_repaint, ba_out h0 hI.1.2.1, ev_b, ev_b2, ev_g, ev_gF, ev_on, ev_os, ev_cl, ev_in, ev_in6, ev_eq0, ev_lt0, ev_0le, ev_le0, ev_0lt, ev_lt, ev_le, ev_eq, ev_m1a, ev_m1b, ev_m1c, ev_m1d, ev_m1e, ev_n1, ev_n4, ev_n8, ev_n9, ev_n10, ev_n11, ev_n12, ev_n13, ev_n14, ev_n15, ev_n16, ev_n17, ev_n59, ev_n60, ev_n61, ev_n62, ev_n63, ev_n64, ev_n65, ev_n66, ev_n67, ev_n68, ev_n69, ev_n70, ev_n71, ev_n72, ev_n73, ev_n74, ev_n75, ev_n76, ev_n77, ev_n78, ev_n79, ev_n80, ev_k18, ev_k34, ev_k40, ev_n26, ev_n26b, ev_n46, ev_n46b, ev_n52b, ev_uq, ev_us, ev_uj, ev_lq, ev_ls, ev_lj, ev_urq, ev_urs, ev_ulq, ev_uls, nI_add, pk_sub, pk_mul, if_true, if_false, ite_true, ite_false, decide_true, decide_false, eq_self_iff_true, Nat.reduceEqDiff, Nat.reduceLeDiff, Nat.reduceLT, Nat.reduceAdd, Nat.reduceMul, Nat.reduceSub, Nat.reduceDiv, Nat.reduceMod, ↓reduceIte, rX1]
    · show m_X6_repaint a0 _ ν = _
      simp -implicitDefEqProofs (disch := omega) only [m_X6_repaint, bo2 h0 hI.1.2.2, ev_b, ev_b2, ev_g, ev_gF, ev_on, ev_os, ev_cl, ev_in, ev_in6, ev_eq0, ev_lt0, ev_0le, ev_le0, ev_0lt, ev_lt, ev_le, ev_eq, ev_m1a, ev_m1b, ev_m1c, ev_m1d, ev_m1e, ev_n1, ev_n4, ev_n8, ev_n9, ev_n10, ev_n11, ev_n12, ev_n13, ev_n14, ev_n15, ev_n16, ev_n17, ev_n59, ev_n60, ev_n61, ev_n62, ev_n63, ev_n64, ev_n65, ev_n66, ev_n67, ev_n68, ev_n69, ev_n70, ev_n71, ev_n72, ev_n73, ev_n74, ev_n75, ev_n76, ev_n77, ev_n78, ev_n79, ev_n80, ev_k18, ev_k34, ev_k40, ev_n26, ev_n26b, ev_n46, ev_n46b, ev_n52b, ev_uq, ev_us, ev_uj, ev_lq, ev_ls, ev_lj, ev_urq, ev_urs, ev_ulq, ev_uls, nI_add, pk_sub, pk_mul, if_true, if_false, ite_true, ite_false, decide_true, decide_false, eq_self_iff_true, Nat.reduceEqDiff, Nat.reduceLeDiff, Nat.reduceLT, Nat.reduceAdd, Nat.reduceMul, Nat.reduceSub, Nat.reduceDiv, Nat.reduceMod, ↓reduceIte, rM1]
  obtain ⟨d1, d2, d3⟩ := hI.2.1 b hb
  have ok := okP_of d1
  have cc := pC_le ok
  obtain ⟨μ1, p1, p3, p2, _, _, μ2, q1, q2, q3, q4, q5, q6, q7⟩ := laid_all h hI hb
  obtain ⟨r, r1, r2⟩ := (pnt_l ok (by omega) (ν := ν) d1.2.2.2.2.2.2 p3 q4 (fun i hi => by rw [p2 _ (by omega) (by omega) (by omega) (by omega)]; exact d2.2.2.2.2.2 i hi) q3.2.2.1 q3.2.2.2.2.2 (fun x3_27 => some (x3_27, μ1, ν)) (fun x => some (x, μ2, ν)) _ 0 5000 (nI 0) (Nat.zero_add _) (by omega)).2
  refine op_mk (r := r) (μ1 := μ1) (ν1 := ν) (μ2 := μ2) (ν2 := ν) ?_ ?_ q7
  · rw [m_X5_repaint, ba_in hn hb hI.1.2.1, ev_b, ev_os, p1, ev_b]
    exact r1
  · show m_X6_repaint (nI b) μ1 ν = _
    rw [m_X6_repaint, q2, ev_b, if_neg (by decide), q1, ev_b]
    exact r2
