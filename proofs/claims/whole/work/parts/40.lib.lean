/-! EVALUATION of the pure programs -/
theorem ev_b {α β : Type} {a : α} {f : α → Option β} : (some a).bind f = f a := rfl
theorem ev_b2 {α β : Type} {f : α → Option β} : (none : Option α).bind f = none := rfl
theorem ev_g {ρ : Type} {o : Option ρ} : fm_g true o = o := rfl
theorem ev_gF {ρ : Type} {o : Option ρ} : fm_g false o = none := rfl
theorem ev_on {ρ α : Type} {a : Option ρ} {b : α → Option ρ} : fm_o none a b = a := rfl
theorem ev_os {ρ α : Type} {a : Option ρ} {b : α → Option ρ} {y : α} : fm_o (some y) a b = b y := rfl
theorem ev_cl {k : Nat} (h : k < 2147483648) : (nI k).toNatClampNeg = k := nI_clamp h
theorem ev_inP {k n : Nat} (h : k < 2147483648) : fm_in (nI k) n = decide (k < n) := by
  simp only [fm_in, nI_toInt h]
  rw [← Bool.decide_and]
  exact decide_eq_decide.mpr ⟨fun h => by omega, fun h => by omega⟩
theorem ev_in {k n : Nat} (hk : k < n) (h : k < 2147483648) : fm_in (nI k) n = true := by
  rw [ev_inP h]
  exact decide_eq_true hk
theorem ev_in6 {k n : Nat} (hk : n ≤ k) (h : k < 2147483648) : fm_in (nI k) n = false := by
  rw [ev_inP h]
  exact decide_eq_false (by omega)
theorem ev_eq0 {k : Nat} (h : k < 2147483648) : (nI k = 0) = (k = 0) := by
  rw [← nI_0]
  exact propext (nI_eq h (by decide))
theorem ev_lt0 {k : Nat} (h : k < 2147483648) : (nI k < 0) = False := eq_false (nI_pos h)
theorem ev_0le {k : Nat} (h : k < 2147483648) : (0 ≤ nI k) = True := eq_true (nI_pos' h)
theorem ev_le0 {k : Nat} (h : k < 2147483648) : (nI k ≤ 0) = (k = 0) := by
  rw [← nI_0]
  exact propext ((nI_leI h (by decide)).trans ⟨fun q => by omega, fun q => by omega⟩)
theorem ev_0lt {k : Nat} (h : k < 2147483648) : (0 < nI k) = (0 < k) := by
  rw [← nI_0]
  exact propext (nI_ltI (by decide) h)
theorem ev_lt {a b : Nat} (ha : a < 2147483648) (hb : b < 2147483648) : (nI a < nI b) = (a < b) := propext (nI_ltI ha hb)
theorem ev_le {a b : Nat} (ha : a < 2147483648) (hb : b < 2147483648) : (nI a ≤ nI b) = (a ≤ b) := propext (nI_leI ha hb)
theorem ev_eq {a b : Nat} (ha : a < 2147483648) (hb : b < 2147483648) : (nI a = nI b) = (a = b) := propext (nI_eq ha hb)
theorem ev_m1x : (-1 : Int32).toInt = -1 := by decide
theorem ev_m1a {k : Nat} (h : k < 2147483648) : (nI k = (-1 : Int32)) = False := eq_false (fun e => by
  have := congrArg Int32.toInt e
  rw [nI_toInt h, ev_m1x] at this
  omega)
theorem ev_m1b {k : Nat} (h : k < 2147483648) : ((-1 : Int32) = nI k) = False := eq_false (fun e => by
  have := congrArg Int32.toInt e
  rw [nI_toInt h, ev_m1x] at this
  omega)
theorem ev_m1c {k : Nat} (h : k < 2147483648) : (nI k ≤ (-1 : Int32)) = False := eq_false (fun e => by
  rw [Int32.le_iff_toInt_le, nI_toInt h, ev_m1x] at e
  omega)
theorem ev_m1d {k : Nat} (h : k < 2147483648) : ((-1 : Int32) < nI k) = True := eq_true (by
  rw [Int32.lt_iff_toInt_lt, nI_toInt h, ev_m1x]
  omega)
theorem ev_m1e : ((-1 : Int32) < 0) = True := eq_true (by decide)
theorem ev_n1 : fm_n 1 = 8 := rfl
theorem ev_n4 : fm_n 4 = 8 := rfl
theorem ev_n8 : fm_n 8 = 20 := rfl
theorem ev_n9 : fm_n 9 = 12 := rfl
theorem ev_n10 : fm_n 10 = 12 := rfl
theorem ev_n11 : fm_n 11 = 12 := rfl
theorem ev_n12 : fm_n 12 = 144 := rfl
theorem ev_n13 : fm_n 13 = 12 := rfl
theorem ev_n14 : fm_n 14 = 160 := rfl
theorem ev_n15 : fm_n 15 = 6 := rfl
theorem ev_n16 : fm_n 16 = 23 := rfl
theorem ev_n17 : fm_n 17 = 92 := rfl
theorem ev_n59 : fm_n 59 = 8 := rfl
theorem ev_n60 : fm_n 60 = 6 := rfl
theorem ev_n61 : fm_n 61 = 6 := rfl
theorem ev_n62 : fm_n 62 = 6 := rfl
theorem ev_n63 : fm_n 63 = 6 := rfl
theorem ev_n64 : fm_n 64 = 6 := rfl
theorem ev_n65 : fm_n 65 = 72 := rfl
theorem ev_n66 : fm_n 66 = 8 := rfl
theorem ev_n67 : fm_n 67 = 8 := rfl
theorem ev_n68 : fm_n 68 = 8 := rfl
theorem ev_n69 : fm_n 69 = 8 := rfl
theorem ev_n70 : fm_n 70 = 1280 := rfl
theorem ev_n71 : fm_n 71 = 160 := rfl
theorem ev_n72 : fm_n 72 = 33 := rfl
theorem ev_n73 : fm_n 73 = 4 := rfl
theorem ev_n74 : fm_n 74 = 110 := rfl
theorem ev_n75 : fm_n 75 = 110 := rfl
theorem ev_n76 : fm_n 76 = 12 := rfl
theorem ev_n77 : fm_n 77 = 12 := rfl
theorem ev_n78 : fm_n 78 = 12 := rfl
theorem ev_n79 : fm_n 79 = 4 := rfl
theorem ev_n80 : fm_n 80 = 20 := rfl
theorem ev_kk : ∀ k, (k < 8 → Nat.beq (fm_k (18 + k)) 2 = true) ∧ (k < 6 → Nat.beq (fm_k (34 + k)) 0 = true ∧ Nat.beq (fm_k (40 + k)) 0 = true) := by
  intro k
  have h1 : ∀ k, k < 8 → Nat.beq (fm_k (18 + k)) 2 = true := by decide
  have h2 : ∀ k, k < 6 → Nat.beq (fm_k (34 + k)) 0 = true ∧ Nat.beq (fm_k (40 + k)) 0 = true := by decide
  exact ⟨h1 k, h2 k⟩
theorem ev_k18 {k : Nat} (h : k < 8) : Nat.beq (fm_k (18 + k)) 2 = true := (ev_kk k).1 h
theorem ev_k34 {k : Nat} (h : k < 6) : Nat.beq (fm_k (34 + k)) 0 = true := ((ev_kk k).2 h).1
theorem ev_k40 {k : Nat} (h : k < 6) : Nat.beq (fm_k (40 + k)) 0 = true := ((ev_kk k).2 h).2
theorem ev_n26 {k : Nat} (h : k < 8) : fm_n (26 + k) = 160 := by
  have key : ∀ k, k < 8 → fm_n (26 + k) = 160 := by decide
  exact key k h
theorem ev_n26b {k : Nat} (h : k < 8) : fm_n (18 + k + 8) = 160 := by
  have key : ∀ k, k < 8 → fm_n (18 + k + 8) = 160 := by decide
  exact key k h
theorem ev_n46 {k : Nat} (h : k < 6) : fm_n (46 + k) = 12 := by
  have key : ∀ k, k < 6 → fm_n (46 + k) = 12 := by decide
  exact key k h
theorem ev_n46b {k : Nat} (h : k < 6) : fm_n (34 + k + 12) = 12 := by
  have key : ∀ k, k < 6 → fm_n (34 + k + 12) = 12 := by decide
  exact key k h
theorem ev_n52b {k : Nat} (h : k < 6) : fm_n (40 + k + 12) = 12 := by
  have key : ∀ k, k < 6 → fm_n (40 + k + 12) = 12 := by decide
  exact key k h
/-! memory -/
theorem ev_uq {μ : fm_I} {p k q : Nat} {v : Int32} (h : q ≠ p) : fm_u μ p k v q = μ q := fm_u_ne μ k v h
theorem ev_us {μ : fm_I} {p k : Nat} {v : Int32} : fm_u μ p k v p k = v := by rw [fm_u_self]; simp [upd]
theorem ev_uj {μ : fm_I} {p k j : Nat} {v : Int32} (h : j ≠ k) : fm_u μ p k v p j = μ p j := by rw [fm_u_self]; simp [upd, h]
theorem ev_lq {ν : fm_L} {p k q : Nat} {v : Int64} (h : q ≠ p) : fm_ul ν p k v q = ν q := fm_ul_ne ν k v h
theorem ev_ls {ν : fm_L} {p k : Nat} {v : Int64} : fm_ul ν p k v p k = v := by rw [fm_ul_self]; simp [vp_updL]
theorem ev_lj {ν : fm_L} {p k j : Nat} {v : Int64} (h : j ≠ k) : fm_ul ν p k v p j = ν p j := by rw [fm_ul_self]; simp [vp_updL, h]
theorem ev_urq {μ : fm_I} {p q : Nat} {f : Nat → Int32} (h : q ≠ p) : fm_ur μ p f q = μ q := fm_ur_ne μ f h
theorem ev_urs {μ : fm_I} {p : Nat} {f : Nat → Int32} : fm_ur μ p f p = f := fm_ur_self μ p f
theorem ev_ulq {ν : fm_L} {p q : Nat} {f : Nat → Int64} (h : q ≠ p) : fm_url ν p f q = ν q := fm_url_ne ν f h
theorem ev_uls {ν : fm_L} {p : Nat} {f : Nat → Int64} : fm_url ν p f p = f := fm_url_self ν p f
/-- a write seen from anywhere -/
theorem ev_u (μ : fm_I) (p k : Nat) (v : Int32) (q j : Nat) : fm_u μ p k v q j = if q = p ∧ j = k then v else μ q j := by
  by_cases h : q = p
  · subst h
    rw [fm_u_self]
    by_cases h2 : j = k <;> simp [upd, h2]
  · rw [fm_u_ne μ k v h]
    simp [h]
theorem ev_ul (ν : fm_L) (p k : Nat) (v : Int64) (q j : Nat) : fm_ul ν p k v q j = if q = p ∧ j = k then v else ν q j := by
  by_cases h : q = p
  · subst h
    rw [fm_ul_self]
    by_cases h2 : j = k <;> simp [vp_updL, h2]
  · rw [fm_ul_ne ν k v h]
    simp [h]
/-! shelves and bands -/
theorem sh_in {k : Nat} (hk : k < 8) (μ : fm_I) (ν : fm_L) : m_X5_isShelf (nI k) μ ν = some (nI 1) ∧ m_X6_isShelf (nI k) μ ν = some (nI 1) := by
  constructor
  · simp (disch := omega) only [m_X5_isShelf, ev_b, ev_b2, ev_g, ev_gF, ev_on, ev_os, ev_cl, ev_in, ev_in6, ev_eq0, ev_lt0, ev_0le, ev_le0, ev_0lt, ev_lt, ev_le, ev_eq, ev_m1a, ev_m1b, ev_m1c, ev_m1d, ev_m1e, ev_n1, ev_n4, ev_n8, ev_n9, ev_n10, ev_n11, ev_n12, ev_n13, ev_n14, ev_n15, ev_n16, ev_n17, ev_n59, ev_n60, ev_n61, ev_n62, ev_n63, ev_n64, ev_n65, ev_n66, ev_n67, ev_n68, ev_n69, ev_n70, ev_n71, ev_n72, ev_n73, ev_n74, ev_n75, ev_n76, ev_n77, ev_n78, ev_n79, ev_n80, ev_k18, ev_k34, ev_k40, ev_n26, ev_n26b, ev_n46, ev_n46b, ev_n52b, ev_uq, ev_us, ev_uj, ev_lq, ev_ls, ev_lj, ev_urq, ev_urs, ev_ulq, ev_uls, nI_add, pk_sub, pk_mul, if_true, if_false, ite_true, ite_false, decide_true, decide_false, eq_self_iff_true]
    rw [if_neg (by omega)]
  · simp (disch := omega) only [m_X6_isShelf, ev_b, ev_b2, ev_g, ev_gF, ev_on, ev_os, ev_cl, ev_in, ev_in6, ev_eq0, ev_lt0, ev_0le, ev_le0, ev_0lt, ev_lt, ev_le, ev_eq, ev_m1a, ev_m1b, ev_m1c, ev_m1d, ev_m1e, ev_n1, ev_n4, ev_n8, ev_n9, ev_n10, ev_n11, ev_n12, ev_n13, ev_n14, ev_n15, ev_n16, ev_n17, ev_n59, ev_n60, ev_n61, ev_n62, ev_n63, ev_n64, ev_n65, ev_n66, ev_n67, ev_n68, ev_n69, ev_n70, ev_n71, ev_n72, ev_n73, ev_n74, ev_n75, ev_n76, ev_n77, ev_n78, ev_n79, ev_n80, ev_k18, ev_k34, ev_k40, ev_n26, ev_n26b, ev_n46, ev_n46b, ev_n52b, ev_uq, ev_us, ev_uj, ev_lq, ev_ls, ev_lj, ev_urq, ev_urs, ev_ulq, ev_uls, nI_add, pk_sub, pk_mul, if_true, if_false, ite_true, ite_false, decide_true, decide_false, eq_self_iff_true]
    rw [if_neg (by omega)]
theorem sh_out {v : Int32} (h : v < 0 ∨ nI 8 ≤ v) (μ : fm_I) (ν : fm_L) : m_X5_isShelf v μ ν = some (nI 0) ∧ m_X6_isShelf v μ ν = some (nI 0) := by
  unfold m_X5_isShelf m_X6_isShelf
  by_cases h0 : v < 0
  · exact ⟨if_pos h0, if_pos h0⟩
  · rw [if_neg h0]
    have h8 : nI 8 ≤ v := h.resolve_left h0
    exact ⟨if_pos h8, if_pos h8⟩
theorem bd_in {n k : Nat} (hn : n ≤ 6) (hk : k < n) {μ : fm_I} (h : μ 0 7 = nI n) (ν : fm_L) : m_X5_isBand (nI k) μ ν = some (nI 1) := by
  simp (disch := omega) only [m_X5_isBand, h, ev_b, ev_b2, ev_g, ev_gF, ev_on, ev_os, ev_cl, ev_in, ev_in6, ev_eq0, ev_lt0, ev_0le, ev_le0, ev_0lt, ev_lt, ev_le, ev_eq, ev_m1a, ev_m1b, ev_m1c, ev_m1d, ev_m1e, ev_n1, ev_n4, ev_n8, ev_n9, ev_n10, ev_n11, ev_n12, ev_n13, ev_n14, ev_n15, ev_n16, ev_n17, ev_n59, ev_n60, ev_n61, ev_n62, ev_n63, ev_n64, ev_n65, ev_n66, ev_n67, ev_n68, ev_n69, ev_n70, ev_n71, ev_n72, ev_n73, ev_n74, ev_n75, ev_n76, ev_n77, ev_n78, ev_n79, ev_n80, ev_k18, ev_k34, ev_k40, ev_n26, ev_n26b, ev_n46, ev_n46b, ev_n52b, ev_uq, ev_us, ev_uj, ev_lq, ev_ls, ev_lj, ev_urq, ev_urs, ev_ulq, ev_uls, nI_add, pk_sub, pk_mul, if_true, if_false, ite_true, ite_false, decide_true, decide_false, eq_self_iff_true]
  rw [if_neg (by omega)]
theorem bd_inM {n k : Nat} (hn : n ≤ 6) (hk : k < n) {μ : fm_I} (h : μ 58 0 = nI n) (ν : fm_L) : m_X6_isBand (nI k) μ ν = some (nI 1) := by
  simp (disch := omega) only [m_X6_isBand, h, ev_b, ev_b2, ev_g, ev_gF, ev_on, ev_os, ev_cl, ev_in, ev_in6, ev_eq0, ev_lt0, ev_0le, ev_le0, ev_0lt, ev_lt, ev_le, ev_eq, ev_m1a, ev_m1b, ev_m1c, ev_m1d, ev_m1e, ev_n1, ev_n4, ev_n8, ev_n9, ev_n10, ev_n11, ev_n12, ev_n13, ev_n14, ev_n15, ev_n16, ev_n17, ev_n59, ev_n60, ev_n61, ev_n62, ev_n63, ev_n64, ev_n65, ev_n66, ev_n67, ev_n68, ev_n69, ev_n70, ev_n71, ev_n72, ev_n73, ev_n74, ev_n75, ev_n76, ev_n77, ev_n78, ev_n79, ev_n80, ev_k18, ev_k34, ev_k40, ev_n26, ev_n26b, ev_n46, ev_n46b, ev_n52b, ev_uq, ev_us, ev_uj, ev_lq, ev_ls, ev_lj, ev_urq, ev_urs, ev_ulq, ev_uls, nI_add, pk_sub, pk_mul, if_true, if_false, ite_true, ite_false, decide_true, decide_false, eq_self_iff_true]
  rw [if_neg (by omega)]
theorem bd_out {n : Nat} {v : Int32} (hv : v < 0 ∨ nI n ≤ v) {μ : fm_I} (h : μ 0 7 = nI n) (ν : fm_L) : m_X5_isBand v μ ν = some (nI 0) := by
  unfold m_X5_isBand
  rw [h]
  by_cases h0 : v < 0
  · exact if_pos h0
  · rw [if_neg h0]
    exact if_pos (hv.resolve_left h0)
theorem bd_outM {n : Nat} {v : Int32} (hv : v < 0 ∨ nI n ≤ v) {μ : fm_I} (h : μ 58 0 = nI n) (ν : fm_L) : m_X6_isBand v μ ν = some (nI 0) := by
  unfold m_X6_isBand
  rw [h]
  by_cases h0 : v < 0
  · exact if_pos h0
  · rw [if_neg h0]
    exact if_pos (hv.resolve_left h0)
theorem ba_in {n k : Nat} (hn : n ≤ 6) (hk : k < n) {μ : fm_I} (h : μ 0 7 = nI n) (ν : fm_L) : m_X5_bandAt (nI k) μ ν = some (some (34 + k)) := by
  unfold m_X5_bandAt
  rw [bd_in hn hk h]
  simp (disch := omega) only [ev_b, ev_b2, ev_g, ev_gF, ev_on, ev_os, ev_cl, ev_in, ev_in6, ev_eq0, ev_lt0, ev_0le, ev_le0, ev_0lt, ev_lt, ev_le, ev_eq, ev_m1a, ev_m1b, ev_m1c, ev_m1d, ev_m1e, ev_n1, ev_n4, ev_n8, ev_n9, ev_n10, ev_n11, ev_n12, ev_n13, ev_n14, ev_n15, ev_n16, ev_n17, ev_n59, ev_n60, ev_n61, ev_n62, ev_n63, ev_n64, ev_n65, ev_n66, ev_n67, ev_n68, ev_n69, ev_n70, ev_n71, ev_n72, ev_n73, ev_n74, ev_n75, ev_n76, ev_n77, ev_n78, ev_n79, ev_n80, ev_k18, ev_k34, ev_k40, ev_n26, ev_n26b, ev_n46, ev_n46b, ev_n52b, ev_uq, ev_us, ev_uj, ev_lq, ev_ls, ev_lj, ev_urq, ev_urs, ev_ulq, ev_uls, nI_add, pk_sub, pk_mul, if_true, if_false, ite_true, ite_false, decide_true, decide_false, eq_self_iff_true]
  rw [if_neg (by omega)]
theorem ba_out {n : Nat} {v : Int32} (hv : v < 0 ∨ nI n ≤ v) {μ : fm_I} (h : μ 0 7 = nI n) (ν : fm_L) : m_X5_bandAt v μ ν = some none := by
  unfold m_X5_bandAt
  rw [bd_out hv h]
  simp (disch := omega) only [ev_b, ev_b2, ev_g, ev_gF, ev_on, ev_os, ev_cl, ev_in, ev_in6, ev_eq0, ev_lt0, ev_0le, ev_le0, ev_0lt, ev_lt, ev_le, ev_eq, ev_m1a, ev_m1b, ev_m1c, ev_m1d, ev_m1e, ev_n1, ev_n4, ev_n8, ev_n9, ev_n10, ev_n11, ev_n12, ev_n13, ev_n14, ev_n15, ev_n16, ev_n17, ev_n59, ev_n60, ev_n61, ev_n62, ev_n63, ev_n64, ev_n65, ev_n66, ev_n67, ev_n68, ev_n69, ev_n70, ev_n71, ev_n72, ev_n73, ev_n74, ev_n75, ev_n76, ev_n77, ev_n78, ev_n79, ev_n80, ev_k18, ev_k34, ev_k40, ev_n26, ev_n26b, ev_n46, ev_n46b, ev_n52b, ev_uq, ev_us, ev_uj, ev_lq, ev_ls, ev_lj, ev_urq, ev_urs, ev_ulq, ev_uls, nI_add, pk_sub, pk_mul, if_true, if_false, ite_true, ite_false, decide_true, decide_false, eq_self_iff_true]
/-- a band's number, or none -/
theorem bd_cases (v : Int32) {n : Nat} (hn : n ≤ 6) : (v < 0 ∨ nI n ≤ v) ∨ ∃ k, k < n ∧ v = nI k := by
  rcases pk_ix v (n := n) (by omega) with h | h | h
  · exact Or.inl (Or.inl h)
  · exact Or.inl (Or.inr h)
  · exact Or.inr h
theorem sh_cases (v : Int32) : (v < 0 ∨ nI 8 ≤ v) ∨ ∃ k, k < 8 ∧ v = nI k := by
  rcases pk_ix v (n := 8) (by decide) with h | h | h
  · exact Or.inl (Or.inl h)
  · exact Or.inl (Or.inr h)
  · exact Or.inr h
/-! refusals -/
theorem rf_X (k : Nat) (h1 : 1 ≤ k) (h7 : k ≤ 7) (μ : fm_I) (ν : fm_L) : m_X5_refuse (nI k) μ ν = some (-(nI 0) - nI k, fm_u μ 4 k (μ 4 k + nI 1), ν) := by
  unfold m_X5_refuse m_X5_refuseOffBy
  simp (disch := omega) only [ev_b, ev_b2, ev_g, ev_gF, ev_on, ev_os, ev_cl, ev_in, ev_in6, ev_eq0, ev_lt0, ev_0le, ev_le0, ev_0lt, ev_lt, ev_le, ev_eq, ev_m1a, ev_m1b, ev_m1c, ev_m1d, ev_m1e, ev_n1, ev_n4, ev_n8, ev_n9, ev_n10, ev_n11, ev_n12, ev_n13, ev_n14, ev_n15, ev_n16, ev_n17, ev_n59, ev_n60, ev_n61, ev_n62, ev_n63, ev_n64, ev_n65, ev_n66, ev_n67, ev_n68, ev_n69, ev_n70, ev_n71, ev_n72, ev_n73, ev_n74, ev_n75, ev_n76, ev_n77, ev_n78, ev_n79, ev_n80, ev_k18, ev_k34, ev_k40, ev_n26, ev_n26b, ev_n46, ev_n46b, ev_n52b, ev_uq, ev_us, ev_uj, ev_lq, ev_ls, ev_lj, ev_urq, ev_urs, ev_ulq, ev_uls, nI_add, pk_sub, pk_mul, if_true, if_false, ite_true, ite_false, decide_true, decide_false, eq_self_iff_true]
  rw [if_neg (by omega), if_neg (by omega)]
  rfl
theorem rf_XO (a : Int32) (k : Nat) (h1 : 1 ≤ k) (h7 : k ≤ 7) (μ : fm_I) (ν : fm_L) : m_X5_refuseOffBy a (nI k) μ ν = some (-a - nI k, fm_u μ 4 k (μ 4 k + nI 1), ν) := by
  unfold m_X5_refuseOffBy
  simp (disch := omega) only [ev_b, ev_b2, ev_g, ev_gF, ev_on, ev_os, ev_cl, ev_in, ev_in6, ev_eq0, ev_lt0, ev_0le, ev_le0, ev_0lt, ev_lt, ev_le, ev_eq, ev_m1a, ev_m1b, ev_m1c, ev_m1d, ev_m1e, ev_n1, ev_n4, ev_n8, ev_n9, ev_n10, ev_n11, ev_n12, ev_n13, ev_n14, ev_n15, ev_n16, ev_n17, ev_n59, ev_n60, ev_n61, ev_n62, ev_n63, ev_n64, ev_n65, ev_n66, ev_n67, ev_n68, ev_n69, ev_n70, ev_n71, ev_n72, ev_n73, ev_n74, ev_n75, ev_n76, ev_n77, ev_n78, ev_n79, ev_n80, ev_k18, ev_k34, ev_k40, ev_n26, ev_n26b, ev_n46, ev_n46b, ev_n52b, ev_uq, ev_us, ev_uj, ev_lq, ev_ls, ev_lj, ev_urq, ev_urs, ev_ulq, ev_uls, nI_add, pk_sub, pk_mul, if_true, if_false, ite_true, ite_false, decide_true, decide_false, eq_self_iff_true]
  rw [if_neg (by omega), if_neg (by omega)]
theorem rf_neg : ∀ k, k < 8 → -(-(nI 0) - nI k) = nI k := by decide
theorem rf_M (k : Nat) (h7 : k ≤ 7) (v : Int32) (hv : -v = nI k) (μ : fm_I) (ν : fm_L) : m_X6_no v μ ν = some (v, fm_u μ 59 k (μ 59 k + nI 1), ν) ∧ m_X6_noTen v μ ν = some (v - nI 10, fm_u μ 59 k (μ 59 k + nI 1), ν) ∧ m_X6_noFar v μ ν = some (v - nI 1000000, fm_u μ 59 k (μ 59 k + nI 1), ν) := by
  unfold m_X6_no m_X6_noTen m_X6_noFar
  rw [hv]
  simp (disch := omega) only [ev_b, ev_b2, ev_g, ev_gF, ev_on, ev_os, ev_cl, ev_in, ev_in6, ev_eq0, ev_lt0, ev_0le, ev_le0, ev_0lt, ev_lt, ev_le, ev_eq, ev_m1a, ev_m1b, ev_m1c, ev_m1d, ev_m1e, ev_n1, ev_n4, ev_n8, ev_n9, ev_n10, ev_n11, ev_n12, ev_n13, ev_n14, ev_n15, ev_n16, ev_n17, ev_n59, ev_n60, ev_n61, ev_n62, ev_n63, ev_n64, ev_n65, ev_n66, ev_n67, ev_n68, ev_n69, ev_n70, ev_n71, ev_n72, ev_n73, ev_n74, ev_n75, ev_n76, ev_n77, ev_n78, ev_n79, ev_n80, ev_k18, ev_k34, ev_k40, ev_n26, ev_n26b, ev_n46, ev_n46b, ev_n52b, ev_uq, ev_us, ev_uj, ev_lq, ev_ls, ev_lj, ev_urq, ev_urs, ev_ulq, ev_uls, nI_add, pk_sub, pk_mul, if_true, if_false, ite_true, ite_false, decide_true, decide_false, eq_self_iff_true]
  exact ⟨trivial, trivial, trivial⟩
/-- both count a refusal -/
theorem inv_rf {μ : fm_I} {ν : fm_L} (h : Inv μ ν) {k : Nat} (hk : k < 8) : Inv (fm_u (fm_u μ 4 k (μ 4 k + nI 1)) 59 k ((fm_u μ 4 k (μ 4 k + nI 1)) 59 k + nI 1)) ν := by
  obtain ⟨n, F, h1, h2, h3, h4, h5, h6, h7, h8, h9⟩ := h
  have hq : ∀ q, q ≠ 4 → q ≠ 59 → (fm_u (fm_u μ 4 k (μ 4 k + nI 1)) 59 k ((fm_u μ 4 k (μ 4 k + nI 1)) 59 k + nI 1)) q = μ q := fun q a b => by
    rw [ev_uq b, ev_uq a]
  refine ⟨n, F, ?_, ?_, ?_, ?_, ?_, ?_, ?_, ?_, ?_⟩
  · rw [hq 0 (by decide) (by decide), hq 58 (by decide) (by decide)]
    exact h1
  · intro b hb
    obtain ⟨a1, a2, a3⟩ := h2 b hb
    unfold pa_X pa_M at *
    rw [hq (34 + b) (by omega) (by omega), hq (34 + b + 12) (by omega) (by omega), hq 60 (by decide) (by decide), hq 61 (by decide) (by decide), hq 62 (by decide) (by decide), hq 63 (by decide) (by decide), hq 64 (by decide) (by decide), hq 65 (by decide) (by decide)]
    exact ⟨a1, a2, a3⟩
  · intro b hb
    rw [hq (34 + b) (by omega) (by omega)]
    exact h3 b hb
  · rw [hq 0 (by decide) (by decide), hq 58 (by decide) (by decide)]
    exact h4
  · intro j hj
    by_cases e : j = k
    · subst e
      rw [ev_us, ev_uq (by decide), ev_uq (by decide), ev_us, h5 j hj]
    · rw [ev_uj e, ev_uq (by decide), ev_uq (by decide), ev_uj e, h5 j hj]
  · intro s hs
    have a := h6 s hs
    unfold pa_S at *
    rw [hq 66 (by decide) (by decide), hq 67 (by decide) (by decide), hq 68 (by decide) (by decide), hq 69 (by decide) (by decide), hq (18 + s) (by omega) (by omega)]
    exact a
  · unfold pa_T at *
    rw [hq 7 (by decide) (by decide), hq 58 (by decide) (by decide), hq 80 (by decide) (by decide), hq 8 (by decide) (by decide)]
    exact h7
  · unfold pa_I at *
    rw [hq 0 (by decide) (by decide), hq 58 (by decide) (by decide), hq 75 (by decide) (by decide)]
    rcases h8 with h8 | ⟨m, FI, a1, a2, a3, a4, a5, a6, a7⟩
    · exact Or.inl h8
    · refine Or.inr ⟨m, FI, a1, a2, a3, a4, a5, a6, fun b hb => ?_⟩
      obtain ⟨c1, c2, c3⟩ := a7 b hb
      unfold pa_X pa_K at *
      rw [hq (40 + b) (by omega) (by omega), hq (40 + b + 12) (by omega) (by omega), hq 75 (by decide) (by decide)]
      exact ⟨c1, c2, c3⟩
  · rw [hq 72 (by decide) (by decide)]
    exact h9
