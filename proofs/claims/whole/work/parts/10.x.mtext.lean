/-! the text, read by the model -/
variable {S : Hs} {n : Nat} {K : Kd} {Z : Rt} {len : Nat} {t : Nat → Nat}
theorem nI_neg1 {a : Nat} (h : a < 1000000) : (nI a = m1) = False := eq_false fun q => by
  have := not_neg h
  rw [q] at this
  exact this m1_neg
theorem neg1_nI {a : Nat} (h : a < 1000000) : (m1 = nI a) = False := eq_false fun q => by
  have e := nI_neg1 h
  rw [← q] at e
  exact e.mp rfl
def lt (len : Nat) (t : Nat → Nat) (p : Nat) : Int32 := if p < len then nI (t p) else m1
theorem letter_ok (hx : TxM S len t) {p : Nat} (hp : p < 1000) : m_X6_letter (nI p) S = some (lt len t p) := by
  obtain ⟨x1, x2, x3⟩ := hx
  unfold m_X6_letter m_X6_letter_J18 lt
  by_cases hl : p < len
  · obtain ⟨y1, y2⟩ := x3 p hl
    simp (disch := omega) only [k_0, k_1, k_2, k_3, k_4, k_5, k_6, k_7, k_8, k_9, k_10, k_14, k_16, k_28, k_30, k_48, k_49, k_57, k_100, k_110, k_127, k_128, k_196, k_255, k_1000, k_1024, k_10000, nI_add, nI_mul, nI_div, irm_nI, nle, nlt, neq, gd_t, inb_nI, cl_nI, bnd_eq, gdT, gdo, gb0, gb1, gbi, bi0, bi1, bi0r, Option.bind_some, bndE_some, ite_t, ite_f, k_m9, k_m1, k_13, k_15, k_18, k_19, k_112, k_114, k_115, k_98, k_103, k_116, k_119, k_47, k_82, k_50, k_51, k_99, k_700, k_197, ne9, ne9s, nI_ne0s, ↓reduceIte, x1, y1, if_pos hl]
  · simp (disch := omega) only [k_0, k_1, k_2, k_3, k_4, k_5, k_6, k_7, k_8, k_9, k_10, k_14, k_16, k_28, k_30, k_48, k_49, k_57, k_100, k_110, k_127, k_128, k_196, k_255, k_1000, k_1024, k_10000, nI_add, nI_mul, nI_div, irm_nI, nle, nlt, neq, gd_t, inb_nI, cl_nI, bnd_eq, gdT, gdo, gb0, gb1, gbi, bi0, bi1, bi0r, Option.bind_some, bndE_some, ite_t, ite_f, k_m9, k_m1, k_13, k_15, k_18, k_19, k_112, k_114, k_115, k_98, k_103, k_116, k_119, k_47, k_82, k_50, k_51, k_99, k_700, k_197, ne9, ne9s, nI_ne0s, ↓reduceIte, x1, if_neg hl]
theorem isDigit_ok (hx : TxM S len t) (h0 : gA S 25 0 = nI n) (hn : n ≤ 7) {p : Nat} (hp : p < 1000) : m_X6_isDigit (nI p) S = some (bi (isD len t n p)) := by
  have e : (48 : Int32) + nI n - 1 = nI (48 + n - 1) := by
    rw [show (48 : Int32) = nI 48 from rfl, nI_add, show (1 : Int32) = nI 1 from rfl, nI_sub (by omega)]
  have hin : B (∃ x, 48 ≤ x ∧ x ≤ 48 + n - 1 ∧ lt len t p = nI x) = isD len t n p := by
    cases hd : isD len t n p
    · rw [B_false]
      rintro ⟨x, q1, q2, q3⟩
      unfold lt at q3
      by_cases hl : p < len
      · rw [if_pos hl] at q3
        have hc := (hx.2.2 p hl).2
        rw [neq (by omega) (by omega)] at q3
        have : isD len t n p = true := isD_iff.mpr ⟨hl, by omega, by omega⟩
        rw [hd] at this; cases this
      · rw [if_neg hl, neg1_nI (by omega)] at q3
        exact q3
    · rw [B_iff]
      obtain ⟨q1, q2, q3⟩ := isD_iff.mp hd
      exact ⟨t p, q2, by omega, by unfold lt; rw [if_pos q1]⟩
  unfold m_X6_isDigit
  rw [letter_ok hx hp, Option.bind_some, gd_t (by decide +kernel), show (0 : Int32).toNatClampNeg = 0 from rfl, h0, e, show (48 : Int32) = nI 48 from rfl, in_ok _ (by omega) (by omega), hin, Option.bind_some]
  rw [gd_t (by cases isD len t n p <;> decide)]
theorem RepM.ins {a : Nat} (h : RepM S a 0 n K Z) {x k y : Nat} (hx : x < n) (hk : k < 4) (hy : y < n) (hne : x ≠ y) : RepM (sA S a (8 + (7 * x + y)) (gA S a (8 + (7 * x + y)) ||| (nI 1 <<< (nI k &&& 31)))) a 0 n K (upR Z x k y true) := by
  obtain ⟨hn, hw, h3, h4, h5, h6⟩ := h
  refine ⟨hn, upR_WF hw true hx hk hy hne, h3, ?_, fun j hj => ?_, fun x' hx' y' hy' j hj => ?_⟩
  · rw [gA_sA, if_pos rfl, if_neg (by omega)]
    exact h4
  · rw [gA_sA, if_pos rfl, if_neg (by omega)]
    exact h5 j hj
  · rw [gA_sA, if_pos rfl]
    have hcell := h6 x' hx' y' hy' j hj
    by_cases hc : x' = x ∧ y' = y
    · obtain ⟨rfl, rfl⟩ := hc
      rw [Nat.zero_add] at hcell
      rw [if_pos (by omega), show nI 1 = (1 : Int32) from rfl, bt_set _ (show k < 32 by omega) hj, hcell]
      unfold upR
      by_cases hjk : j = k
      · subst hjk
        simp [hk]
      · simp [hjk]
    · rw [if_neg (by omega), hcell]
      congr 1
      unfold upR
      rw [if_neg (by omega)]
theorem TxM.sA {a k : Nat} {v : Int32} (h : TxM S len t) (ha : a ≠ 19) : TxM (sA S a k v) len t := h.keep rfl fun j => by rw [gA_sA, if_neg (fun q => ha q.symm)]
theorem TxM.onA {a : Nat} {T : Hs} (h : TxM S len t) (g : OnA a S T) (ha : a ≠ 19) : TxM T len t := h.keep (g.1 _ _) fun j => g.2.1 _ _ (fun q => ha q.symm)
/-- one right of the text -/
theorem rr16_ok (h : RepM S 25 0 n K Z) (hx : TxM S len t) (h30 : cnt Z ≤ 30) {p : Nat} (hp : p < 500) : (∀ e, rst len t n p Z = .inl e → m_X6_readRights_J16 (nI p) (nI (cnt Z)) S = some (.inr (.inr (nI e, S))) ∧ e < 1000) ∧ ∀ Z', rst len t n p Z = .inr Z' → ∃ S', m_X6_readRights_J16 (nI p) (nI (cnt Z)) S = some (.inl (nI (p + 3), nI (cnt Z + 1), S')) ∧ OnA 25 S S' ∧ RepM S' 25 0 n K Z' := by
  have hn := h.1
  have h0 : gA S 25 0 = nI n := h.2.2.2.1
  have t1 := letter_ok hx (show p < 1000 by omega)
  have t2 := letter_ok hx (show p + 1 < 1000 by omega)
  have t3 := letter_ok hx (show p + 2 < 1000 by omega)
  have d1 := isDigit_ok hx h0 hn (show p < 1000 by omega)
  have d3 := isDigit_ok hx h0 hn (show p + 2 < 1000 by omega)
  unfold rst m_X6_readRights_J16 m_X6_readRights_J30 m_X6_readRights_J116
  by_cases h30' : cnt Z = 30
  · rw [if_neg (fun e => by omega)]
    refine ⟨fun e he => by cases he; exact ⟨by simp (disch := omega) only [k_0, k_1, k_2, k_3, k_4, k_5, k_6, k_7, k_8, k_9, k_10, k_14, k_16, k_28, k_30, k_48, k_49, k_57, k_100, k_110, k_127, k_128, k_196, k_255, k_1000, k_1024, k_10000, nI_add, nI_mul, nI_div, irm_nI, nle, nlt, neq, gd_t, inb_nI, cl_nI, bnd_eq, gdT, gdo, gb0, gb1, gbi, bi0, bi1, bi0r, Option.bind_some, bndE_some, ite_t, ite_f, k_m9, k_m1, k_13, k_15, k_18, k_19, k_112, k_114, k_115, k_98, k_103, k_116, k_119, k_47, k_82, k_50, k_51, k_99, k_700, k_197, ne9, ne9s, nI_ne0s, ↓reduceIte, h30'], by omega⟩, fun Z' he => by cases he⟩
  cases h1 : isD len t n p
  · rw [if_neg (fun e => absurd e.1 (by decide))]
    rw [h1] at d1
    refine ⟨fun e he => by cases he; exact ⟨by simp (disch := omega) only [k_0, k_1, k_2, k_3, k_4, k_5, k_6, k_7, k_8, k_9, k_10, k_14, k_16, k_28, k_30, k_48, k_49, k_57, k_100, k_110, k_127, k_128, k_196, k_255, k_1000, k_1024, k_10000, nI_add, nI_mul, nI_div, irm_nI, nle, nlt, neq, gd_t, inb_nI, cl_nI, bnd_eq, gdT, gdo, gb0, gb1, gbi, bi0, bi1, bi0r, Option.bind_some, bndE_some, ite_t, ite_f, k_m9, k_m1, k_13, k_15, k_18, k_19, k_112, k_114, k_115, k_98, k_103, k_116, k_119, k_47, k_82, k_50, k_51, k_99, k_700, k_197, ne9, ne9s, nI_ne0s, ↓reduceIte, d1], by omega⟩, fun Z' he => by cases he⟩
  rw [if_pos ⟨rfl, by omega⟩]
  rw [h1] at d1
  have i1 := isD_iff.mp h1
  have l1 : lt len t p = nI (t p) := by unfold lt; rw [if_pos i1.1]
  rw [l1] at t1
  by_cases h2 : ka len t (p + 1) < 4
  · have hl2 := ka_len h2
    have l2 : lt len t (p + 1) = nI (t (p + 1)) := by unfold lt; rw [if_pos hl2]
    have r2 := rightOf_ok (hx.2.2 _ hl2).2
    have hka : ka len t (p + 1) = rk (t (p + 1)) := by unfold ka; rw [if_pos hl2]
    rw [hka] at h2 ⊢
    rw [if_pos h2] at r2
    rw [l2] at t2
    rw [if_pos h2]
    cases h3 : isD len t n (p + 2)
    · rw [if_neg (fun e => absurd e.1 (by decide))]
      rw [h3] at d3
      refine ⟨fun e he => by cases he; exact ⟨by simp (disch := omega) only [k_0, k_1, k_2, k_3, k_4, k_5, k_6, k_7, k_8, k_9, k_10, k_14, k_16, k_28, k_30, k_48, k_49, k_57, k_100, k_110, k_127, k_128, k_196, k_255, k_1000, k_1024, k_10000, nI_add, nI_mul, nI_div, irm_nI, nle, nlt, neq, gd_t, inb_nI, cl_nI, bnd_eq, gdT, gdo, gb0, gb1, gbi, bi0, bi1, bi0r, Option.bind_some, bndE_some, ite_t, ite_f, k_m9, k_m1, k_13, k_15, k_18, k_19, k_112, k_114, k_115, k_98, k_103, k_116, k_119, k_47, k_82, k_50, k_51, k_99, k_700, k_197, ne9, ne9s, nI_ne0s, ↓reduceIte, d1, Bool.true_eq_false, t1, t2, r2, t3, d3], by omega⟩, fun Z' he => by cases he⟩
    · rw [h3] at d3
      have i3 := isD_iff.mp h3
      have l3 : lt len t (p + 2) = nI (t (p + 2)) := by unfold lt; rw [if_pos i3.1]
      rw [l3] at t3
      have s1 : nI (t p) - nI 48 = nI (t p - 48) := nI_sub i1.2.1
      have s3 : nI (t (p + 2)) - nI 48 = nI (t (p + 2) - 48) := nI_sub i3.2.1
      by_cases h4 : t (p + 2) = t p
      · rw [if_neg (fun e => e.2.1 h4)]
        rw [h4] at t3
        refine ⟨fun e he => by cases he; exact ⟨by simp (disch := omega) only [k_0, k_1, k_2, k_3, k_4, k_5, k_6, k_7, k_8, k_9, k_10, k_14, k_16, k_28, k_30, k_48, k_49, k_57, k_100, k_110, k_127, k_128, k_196, k_255, k_1000, k_1024, k_10000, nI_add, nI_mul, nI_div, irm_nI, nle, nlt, neq, gd_t, inb_nI, cl_nI, bnd_eq, gdT, gdo, gb0, gb1, gbi, bi0, bi1, bi0r, Option.bind_some, bndE_some, ite_t, ite_f, k_m9, k_m1, k_13, k_15, k_18, k_19, k_112, k_114, k_115, k_98, k_103, k_116, k_119, k_47, k_82, k_50, k_51, k_99, k_700, k_197, ne9, ne9s, nI_ne0s, ↓reduceIte, d1, Bool.true_eq_false, t1, t2, r2, t3, d3, s1], by omega⟩, fun Z' he => by cases he⟩
      · have hne : ¬ t p - 48 = t (p + 2) - 48 := by omega
        have hcell := h.cell (show t p - 48 < 7 by omega) (show t (p + 2) - 48 < 7 by omega) h2
        rw [Nat.zero_add] at hcell
        have hrk : rk (t (p + 1)) < 32 := by omega
        cases hz : Z (t p - 48) (rk (t (p + 1))) (t (p + 2) - 48)
        · rw [if_pos ⟨rfl, h4, rfl⟩]
          rw [hz] at hcell
          refine ⟨fun e he => (by cases he), fun Z' he => ?_⟩
          cases he
          refine ⟨_, ?_, OnA.sA _ _, h.ins (by omega) h2 (by omega) hne⟩
          simp (disch := omega) only [k_0, k_1, k_2, k_3, k_4, k_5, k_6, k_7, k_8, k_9, k_10, k_14, k_16, k_28, k_30, k_48, k_49, k_57, k_100, k_110, k_127, k_128, k_196, k_255, k_1000, k_1024, k_10000, nI_add, nI_mul, nI_div, irm_nI, nle, nlt, neq, gd_t, inb_nI, cl_nI, bnd_eq, gdT, gdo, gb0, gb1, gbi, bi0, bi1, bi0r, Option.bind_some, bndE_some, ite_t, ite_f, k_m9, k_m1, k_13, k_15, k_18, k_19, k_112, k_114, k_115, k_98, k_103, k_116, k_119, k_47, k_82, k_50, k_51, k_99, k_700, k_197, ne9, ne9s, nI_ne0s, ↓reduceIte, d1, Bool.true_eq_false, Bool.false_eq_true, t1, t2, r2, t3, d3, s1, s3, hne, at_ok, and1 _ hrk, hcell]
        · rw [if_neg (fun e => absurd e.2.2 (by decide))]
          rw [hz] at hcell
          refine ⟨fun e he => by cases he; exact ⟨by simp (disch := omega) only [k_0, k_1, k_2, k_3, k_4, k_5, k_6, k_7, k_8, k_9, k_10, k_14, k_16, k_28, k_30, k_48, k_49, k_57, k_100, k_110, k_127, k_128, k_196, k_255, k_1000, k_1024, k_10000, nI_add, nI_mul, nI_div, irm_nI, nle, nlt, neq, gd_t, inb_nI, cl_nI, bnd_eq, gdT, gdo, gb0, gb1, gbi, bi0, bi1, bi0r, Option.bind_some, bndE_some, ite_t, ite_f, k_m9, k_m1, k_13, k_15, k_18, k_19, k_112, k_114, k_115, k_98, k_103, k_116, k_119, k_47, k_82, k_50, k_51, k_99, k_700, k_197, ne9, ne9s, nI_ne0s, ↓reduceIte, d1, Bool.true_eq_false, t1, t2, r2, t3, d3, s1, s3, hne, at_ok, and1 _ hrk, hcell], by omega⟩, fun Z' he => by cases he⟩
  · rw [if_neg h2]
    have hr : ∃ v, m_X6_rightOf (lt len t (p + 1)) = some v ∧ ¬ nI 0 ≤ v := by
      have hm : ¬ nI 0 ≤ m1 := by decide
      unfold lt
      by_cases hl2 : p + 1 < len
      · rw [if_pos hl2]
        have r2 := rightOf_ok (hx.2.2 _ hl2).2
        have hka : ka len t (p + 1) = rk (t (p + 1)) := by unfold ka; rw [if_pos hl2]
        rw [hka] at h2
        rw [if_neg h2] at r2
        exact ⟨_, r2, hm⟩
      · rw [if_neg hl2]
        exact ⟨_, rightOf_m1, hm⟩
    obtain ⟨v, r1, r2⟩ := hr
    refine ⟨fun e he => by cases he; exact ⟨by simp (disch := omega) only [k_0, k_1, k_2, k_3, k_4, k_5, k_6, k_7, k_8, k_9, k_10, k_14, k_16, k_28, k_30, k_48, k_49, k_57, k_100, k_110, k_127, k_128, k_196, k_255, k_1000, k_1024, k_10000, nI_add, nI_mul, nI_div, irm_nI, nle, nlt, neq, gd_t, inb_nI, cl_nI, bnd_eq, gdT, gdo, gb0, gb1, gbi, bi0, bi1, bi0r, Option.bind_some, bndE_some, ite_t, ite_f, k_m9, k_m1, k_13, k_15, k_18, k_19, k_112, k_114, k_115, k_98, k_103, k_116, k_119, k_47, k_82, k_50, k_51, k_99, k_700, k_197, ne9, ne9s, nI_ne0s, ↓reduceIte, d1, Bool.true_eq_false, t1, t2, r1, r2], by omega⟩, fun Z' he => by cases he⟩
theorem mreadRights_ok (h : RepM S 25 0 n K noR) (hx : TxM S len t) {s : Nat} (hs : s ≤ 110) : ∃ S', m_X6_readRights (nI s) S = some ((rlp len t n 40 s noR).1, S') ∧ OnA 25 S S' ∧ ((rlp len t n 40 s noR).1 = m9 → RepM S' 25 0 n K (rlp len t n 40 s noR).2) := by
  have hn := h.1
  have hlen := hx.2.1
  unfold m_X6_readRights
  -- the loop's states: c rights read
  obtain ⟨r, e1, e2⟩ := loopO_inv (f := fun q : Int32 × Int32 × Hs => m_X6_readRights_L4 q.1 q.2.1 q.2.2) (fun c q => c ≤ 40 ∧ s + 3 * c ≤ 115 ∧ q.1 = nI (s + 3 * c) ∧ OnA 25 S q.2.2 ∧ ∃ Zc, q.2.1 = nI (cnt Zc) ∧ cnt Zc = c ∧ c ≤ 30 ∧ RepM q.2.2 25 0 n K Zc ∧ (rlp len t n 40 s noR = if c = 0 ∨ s + 3 * c < len then rlp len t n (40 - c) (s + 3 * c) Zc else (m9, Zc))) (fun r => match r with
    | .inl U => (rlp len t n 40 s noR).1 = m9 ∧ OnA 25 S U ∧ RepM U 25 0 n K (rlp len t n 40 s noR).2
    | .inr (v, U) => v = (rlp len t n 40 s noR).1 ∧ v ≠ m9 ∧ OnA 25 S U) 40 (fun c q hq => by
    obtain ⟨v, m, U⟩ := q
    obtain ⟨hc, hs2, hv, b1, Zc, b2, b3, b4, b5, b6⟩ := hq
    simp only at hv b1 b2 b5
    subst hv b2
    have hxU := hx.onA b1 (by omega)
    have hL : c = 0 ∨ s + 3 * c < len → m_X6_readRights_L4 (nI (s + 3 * c)) (nI (cnt Zc)) U = m_X6_readRights_J16 (nI (s + 3 * c)) (nI (cnt Zc)) U := fun hgo => by
      simp only [m_X6_readRights_L4]
      by_cases hc0 : cnt Zc = 0
      · simp (disch := omega) only [k_0, k_1, k_2, k_3, k_4, k_5, k_6, k_7, k_8, k_9, k_10, k_14, k_16, k_28, k_30, k_48, k_49, k_57, k_100, k_110, k_127, k_128, k_196, k_255, k_1000, k_1024, k_10000, nI_add, nI_mul, nI_div, irm_nI, nle, nlt, neq, gd_t, inb_nI, cl_nI, bnd_eq, gdT, gdo, gb0, gb1, gbi, bi0, bi1, bi0r, Option.bind_some, bndE_some, ite_t, ite_f, k_m9, k_m1, k_13, k_15, k_18, k_19, k_112, k_114, k_115, k_98, k_103, k_116, k_119, k_47, k_82, k_50, k_51, k_99, k_700, k_197, ne9, ne9s, nI_ne0s, ↓reduceIte, hc0]
      · simp (disch := omega) only [k_0, k_1, k_2, k_3, k_4, k_5, k_6, k_7, k_8, k_9, k_10, k_14, k_16, k_28, k_30, k_48, k_49, k_57, k_100, k_110, k_127, k_128, k_196, k_255, k_1000, k_1024, k_10000, nI_add, nI_mul, nI_div, irm_nI, nle, nlt, neq, gd_t, inb_nI, cl_nI, bnd_eq, gdT, gdo, gb0, gb1, gbi, bi0, bi1, bi0r, Option.bind_some, bndE_some, ite_t, ite_f, k_m9, k_m1, k_13, k_15, k_18, k_19, k_112, k_114, k_115, k_98, k_103, k_116, k_119, k_47, k_82, k_50, k_51, k_99, k_700, k_197, ne9, ne9s, nI_ne0s, ↓reduceIte, hc0, hxU.1]
    by_cases hgo : c = 0 ∨ s + 3 * c < len
    · rw [if_pos hgo] at b6
      obtain ⟨k1, k2⟩ := rr16_ok b5 hxU (by omega) (show s + 3 * c < 500 by omega)
      rw [show 40 - c = 39 - c + 1 by omega] at b6
      show (_ ∧ ∃ y, m_X6_readRights_L4 (nI (s + 3 * c)) (nI (cnt Zc)) U = _ ∧ _) ∨ ∃ r, m_X6_readRights_L4 (nI (s + 3 * c)) (nI (cnt Zc)) U = _ ∧ _
      rw [hL hgo]
      cases hr : rst len t n (s + 3 * c) Zc with
      | inl e =>
        obtain ⟨c1, c2⟩ := k1 e hr
        rw [rlp_inl hr] at b6
        exact Or.inr ⟨_, c1, by rw [b6], nI_ne9 (by omega), b1⟩
      | inr Z' =>
        obtain ⟨V, c1, c2, c3⟩ := k2 Z' hr
        rw [rlp_inr hr] at b6
        obtain ⟨d1, d2, d3, d4⟩ := rst_inr hn b5.2.1 hr
        refine Or.inl ⟨by omega, _, c1, by omega, by omega, rfl, b1.tr c2, Z', by rw [d3], by omega, by omega, c3, ?_⟩
        rw [b6, show s + 3 * (c + 1) = s + 3 * c + 3 by omega, show 40 - (c + 1) = 39 - c by omega]
        refine ite_cg ?_ _ _
        omega
    · rw [if_neg hgo] at b6
      refine Or.inr ⟨.inl U, ?_, by rw [b6], b1, by rw [b6]; exact b5⟩
      simp only [m_X6_readRights_L4]
      have hc0 : ¬ cnt Zc = 0 := by omega
      simp (disch := omega) only [k_0, k_1, k_2, k_3, k_4, k_5, k_6, k_7, k_8, k_9, k_10, k_14, k_16, k_28, k_30, k_48, k_49, k_57, k_100, k_110, k_127, k_128, k_196, k_255, k_1000, k_1024, k_10000, nI_add, nI_mul, nI_div, irm_nI, nle, nlt, neq, gd_t, inb_nI, cl_nI, bnd_eq, gdT, gdo, gb0, gb1, gbi, bi0, bi1, bi0r, Option.bind_some, bndE_some, ite_t, ite_f, k_m9, k_m1, k_13, k_15, k_18, k_19, k_112, k_114, k_115, k_98, k_103, k_116, k_119, k_47, k_82, k_50, k_51, k_99, k_700, k_197, ne9, ne9s, nI_ne0s, ↓reduceIte, hc0, hxU.1]) (x := (nI s, nI 0, S)) ⟨by omega, by omega, rfl, OnA.rf _ _, noR, by rw [noR_cnt], noR_cnt, by omega, h, by rw [if_pos (Or.inl rfl)]; rfl⟩
  simp (disch := omega) only [k_0, k_1, k_2, k_3, k_4, k_5, k_6, k_7, k_8, k_9, k_10, k_14, k_16, k_28, k_30, k_48, k_49, k_57, k_100, k_110, k_127, k_128, k_196, k_255, k_1000, k_1024, k_10000, nI_add, nI_mul, nI_div, irm_nI, nle, nlt, neq, gd_t, inb_nI, cl_nI, bnd_eq, gdT, gdo, gb0, gb1, gbi, bi0, bi1, bi0r, Option.bind_some, bndE_some, ite_t, ite_f, k_m9, k_m1, k_13, k_15, k_18, k_19, k_112, k_114, k_115, k_98, k_103, k_116, k_119, k_47, k_82, k_50, k_51, k_99, k_700, k_197, ne9, ne9s, nI_ne0s, ↓reduceIte]
  rw [e1, Option.bind_some]
  rcases r with U | ⟨v, U⟩
  · exact ⟨U, by rw [e2.1]; rfl, e2.2.1, fun _ => e2.2.2⟩
  · exact ⟨U, by rw [e2.1]; rfl, e2.2.2, fun q => absurd (e2.1.trans q) e2.2.1⟩
theorem kindOf_ok {c : Nat} (hc : c < 256) : m_X6_kindOf (nI c) = some (if isK c = true then nI (kd c) else m1) := by
  unfold m_X6_kindOf m_X6_kindOf_J31 isK kd
  simp (disch := omega) only [k_0, k_1, k_2, k_3, k_4, k_5, k_6, k_7, k_8, k_9, k_10, k_14, k_16, k_28, k_30, k_48, k_49, k_57, k_100, k_110, k_127, k_128, k_196, k_255, k_1000, k_1024, k_10000, nI_add, nI_mul, nI_div, irm_nI, nle, nlt, neq, gd_t, inb_nI, cl_nI, bnd_eq, gdT, gdo, gb0, gb1, gbi, bi0, bi1, bi0r, Option.bind_some, bndE_some, ite_t, ite_f, k_m9, k_m1, k_13, k_15, k_18, k_19, k_112, k_114, k_115, k_98, k_103, k_116, k_119, k_47, k_82, k_50, k_51, k_99, k_700, k_197, ne9, ne9s, nI_ne0s, ↓reduceIte]
  by_cases h1 : c = 112
  · simp [h1]
  by_cases h2 : c = 115
  · simp [h2]
  by_cases h3 : c = 98
  · simp [h3]
  · simp [h1, h2, h3]
theorem kindOf_m1 : m_X6_kindOf m1 = some m1 := by
  unfold m_X6_kindOf m_X6_kindOf_J31
  rw [if_neg (by decide), if_neg (by decide), if_neg (by decide)]
  rfl
theorem kd_3 (c : Nat) : kd c < 3 := by
  unfold kd
  repeat' split
  all_goals omega
theorem mclear_ok : ∃ S', loopO (fun x => m_X6_readText_L2 x.1 x.2) (nI 0, S) = some S' ∧ OnA 25 S S' ∧ RepM S' 25 0 0 (tk t) noR := by
  obtain ⟨S', h1, h2, h3⟩ := loopO_inv (f := fun x : Int32 × Hs => m_X6_readText_L2 x.1 x.2) (fun c q => c ≤ 57 ∧ q.1 = nI c ∧ OnA 25 S q.2 ∧ ∀ j, j < c → gA q.2 25 j = nI 0) (fun U => OnA 25 S U ∧ ∀ j, j < 57 → gA U 25 j = nI 0) 57 (fun c q hq => by
    obtain ⟨v, U⟩ := q
    obtain ⟨hc, hv, a1, a2⟩ := hq
    simp only at hv a1 a2
    subst hv
    by_cases hc2 : c < 57
    · refine Or.inl ⟨hc2, ?_⟩
      simp only [m_X6_readText_L2]
      simp (disch := omega) only [k_0, k_1, k_2, k_3, k_4, k_5, k_6, k_7, k_8, k_9, k_10, k_14, k_16, k_28, k_30, k_48, k_49, k_57, k_100, k_110, k_127, k_128, k_196, k_255, k_1000, k_1024, k_10000, nI_add, nI_mul, nI_div, irm_nI, nle, nlt, neq, gd_t, inb_nI, cl_nI, bnd_eq, gdT, gdo, gb0, gb1, gbi, bi0, bi1, bi0r, Option.bind_some, bndE_some, ite_t, ite_f, k_m9, k_m1, k_13, k_15, k_18, k_19, k_112, k_114, k_115, k_98, k_103, k_116, k_119, k_47, k_82, k_50, k_51, k_99, k_700, k_197, ne9, ne9s, nI_ne0s, ↓reduceIte]
      refine ⟨_, rfl, by omega, rfl, a1.tr (OnA.sA _ _), fun j hj => ?_⟩
      show gA (sA U 25 c (nI 0)) 25 j = _
      rw [gA_sA, if_pos rfl]
      by_cases hjc : j = c
      · rw [if_pos hjc]
      · rw [if_neg hjc]
        exact a2 j (by omega)
    · obtain rfl : c = 57 := by omega
      refine Or.inr ⟨U, ?_, a1, a2⟩
      simp only [m_X6_readText_L2]
      simp (disch := omega) only [k_0, k_1, k_2, k_3, k_4, k_5, k_6, k_7, k_8, k_9, k_10, k_14, k_16, k_28, k_30, k_48, k_49, k_57, k_100, k_110, k_127, k_128, k_196, k_255, k_1000, k_1024, k_10000, nI_add, nI_mul, nI_div, irm_nI, nle, nlt, neq, gd_t, inb_nI, cl_nI, bnd_eq, gdT, gdo, gb0, gb1, gbi, bi0, bi1, bi0r, Option.bind_some, bndE_some, ite_t, ite_f, k_m9, k_m1, k_13, k_15, k_18, k_19, k_112, k_114, k_115, k_98, k_103, k_116, k_119, k_47, k_82, k_50, k_51, k_99, k_700, k_197, ne9, ne9s, nI_ne0s, ↓reduceIte]) (x := (nI 0, S)) ⟨by omega, rfl, OnA.rf _ _, fun j hj => by omega⟩
  refine ⟨S', h1, h2, by omega, noR_WF 0, fun j hj => by omega, h3 0 (by omega), fun j hj => ?_, fun x hx y hy b hb => ?_⟩
  · rw [h3 _ (by omega), if_neg (by omega)]
  · rw [h3 _ (by omega), show nI 0 = (0 : Int32) from rfl, b_0]
    show false = (decide (b < 4) && false)
    rw [Bool.and_false]
/-- a thing more -/
theorem RepM.add {a k : Nat} {K' : Kd} (h : RepM S a 0 n K noR) (hn : n < 7) (hk : k < 3) (h1 : K' n = k) (h2 : ∀ j, j < n → K' j = K j) : RepM (sA (sA S a (1 + n) (nI k)) a 0 (nI (n + 1))) a 0 (n + 1) K' noR := by
  obtain ⟨-, -, b3, b4, b5, b6⟩ := h
  refine ⟨by omega, noR_WF _, fun j hj => ?_, ?_, fun j hj => ?_, fun x hx y hy b hb => ?_⟩
  · by_cases hjn : j = n
    · rw [hjn, h1]; exact hk
    · rw [h2 j (by omega)]
      exact b3 j (by omega)
  · rw [gA_sA, if_pos rfl, if_pos rfl]
  · rw [gA_sA, if_pos rfl, if_neg (by omega), gA_sA, if_pos rfl]
    by_cases hjn : j = n
    · rw [if_pos (by omega), hjn, if_pos (by omega), h1]
    · rw [if_neg (by omega), b5 j hj]
      by_cases hjl : j < n
      · rw [if_pos hjl, if_pos (by omega), h2 j hjl]
      · rw [if_neg hjl, if_neg (by omega)]
  · rw [gA_sA, if_pos rfl, if_neg (by omega), gA_sA, if_pos rfl, if_neg (by omega)]
    exact b6 x hx y hy b hb
theorem mreadThings_ok {S1 : Hs} (hx : TxM S len t) (h0 : 0 < len) (a3 : OnA 25 S S1) (a2 : RepM S1 25 0 0 (tk t) noR) : ∃ U, loopO (fun q : Int32 × Hs => m_X6_readText_L35 q.1 q.2) (nI 1, S1) = some (nI (1 + pm len t), U) ∧ OnA 25 S U ∧ RepM U 25 0 (pm len t) (tk t) noR ∧ 1 + pm len t ≤ len := by
  have hlen := hx.2.1
  obtain ⟨⟨v, U⟩, e1, e2, e3, e4, e5⟩ := loopO_inv (f := fun q : Int32 × Hs => m_X6_readText_L35 q.1 q.2) (fun c q => c ≤ 7 ∧ 1 + c ≤ len ∧ q.1 = nI (1 + c) ∧ OnA 25 S q.2 ∧ RepM q.2 25 0 c (tk t) noR ∧ ∀ j, j < c → 1 + j < len ∧ isK (t (1 + j)) = true) (fun r => r.1 = nI (1 + pm len t) ∧ OnA 25 S r.2 ∧ RepM r.2 25 0 (pm len t) (tk t) noR ∧ 1 + pm len t ≤ len) 8 (fun c q hq => by
    obtain ⟨v, U⟩ := q
    obtain ⟨hc, hcl, hv, b1, b2, b3⟩ := hq
    simp only at hv b1 b2
    subst hv
    have hxU := hx.onA b1 (by omega)
    have hU0 : gA U 25 0 = nI c := b2.2.2.2.1
    have hlt := letter_ok hxU (show 1 + c < 1000 by omega)
    simp only [m_X6_readText_L35]
    by_cases hc7 : c < 7
    · by_cases hok : 1 + c < len ∧ isK (t (1 + c)) = true
      · have l1 : lt len t (1 + c) = nI (t (1 + c)) := by unfold lt; rw [if_pos hok.1]
        have k1 := kindOf_ok (hxU.2.2 _ hok.1).2
        rw [if_pos hok.2] at k1
        rw [l1] at hlt
        have hk3 := kd_3 (t (1 + c))
        refine Or.inl ⟨by omega, (nI (1 + c + 1), sA (sA U 25 (1 + c) (nI (kd (t (1 + c))))) 25 0 (nI (c + 1))), ?_, by omega, by omega, rfl, b1.tr ((OnA.sA _ _).tr (OnA.sA _ _)), b2.add hc7 hk3 rfl (fun _ _ => rfl), fun j hj => ?_⟩
        · have g0 : gA (sA U 25 (1 + c) (nI (kd (t (1 + c))))) 25 0 = nI c := by rw [gA_sA, if_pos rfl, if_neg (by omega), hU0]
          simp (disch := omega) only [k_0, k_1, k_2, k_3, k_4, k_5, k_6, k_7, k_8, k_9, k_10, k_14, k_16, k_28, k_30, k_48, k_49, k_57, k_100, k_110, k_127, k_128, k_196, k_255, k_1000, k_1024, k_10000, nI_add, nI_mul, nI_div, irm_nI, nle, nlt, neq, gd_t, inb_nI, cl_nI, bnd_eq, gdT, gdo, gb0, gb1, gbi, bi0, bi1, bi0r, Option.bind_some, bndE_some, ite_t, ite_f, k_m9, k_m1, k_13, k_15, k_18, k_19, k_112, k_114, k_115, k_98, k_103, k_116, k_119, k_47, k_82, k_50, k_51, k_99, k_700, k_197, ne9, ne9s, nI_ne0s, ↓reduceIte, hU0, hlt, k1, g0]
        · by_cases hjc : j = c
          · rw [hjc]; exact hok
          · exact b3 j (by omega)
      · have hp : pm len t = c := pm_eq hc b3 fun _ => hok
        have hk : m_X6_kindOf (lt len t (1 + c)) = some m1 := by
          unfold lt
          by_cases hl : 1 + c < len
          · rw [if_pos hl, kindOf_ok (hxU.2.2 _ hl).2, if_neg (fun e => hok ⟨hl, e⟩)]
          · rw [if_neg hl]
            exact kindOf_m1
        have hm1 : m1 < nI 0 := m1_neg
        refine Or.inr ⟨(nI (1 + c), U), ?_, by rw [hp], b1, by rw [hp]; exact b2, by omega⟩
        simp (disch := omega) only [k_0, k_1, k_2, k_3, k_4, k_5, k_6, k_7, k_8, k_9, k_10, k_14, k_16, k_28, k_30, k_48, k_49, k_57, k_100, k_110, k_127, k_128, k_196, k_255, k_1000, k_1024, k_10000, nI_add, nI_mul, nI_div, irm_nI, nle, nlt, neq, gd_t, inb_nI, cl_nI, bnd_eq, gdT, gdo, gb0, gb1, gbi, bi0, bi1, bi0r, Option.bind_some, bndE_some, ite_t, ite_f, k_m9, k_m1, k_13, k_15, k_18, k_19, k_112, k_114, k_115, k_98, k_103, k_116, k_119, k_47, k_82, k_50, k_51, k_99, k_700, k_197, ne9, ne9s, nI_ne0s, ↓reduceIte, hU0, hlt, hk, hm1]
    · have hp : pm len t = c := pm_eq hc b3 fun q => absurd q hc7
      refine Or.inr ⟨(nI (1 + c), U), ?_, by rw [hp], b1, by rw [hp]; exact b2, by omega⟩
      simp (disch := omega) only [k_0, k_1, k_2, k_3, k_4, k_5, k_6, k_7, k_8, k_9, k_10, k_14, k_16, k_28, k_30, k_48, k_49, k_57, k_100, k_110, k_127, k_128, k_196, k_255, k_1000, k_1024, k_10000, nI_add, nI_mul, nI_div, irm_nI, nle, nlt, neq, gd_t, inb_nI, cl_nI, bnd_eq, gdT, gdo, gb0, gb1, gbi, bi0, bi1, bi0r, Option.bind_some, bndE_some, ite_t, ite_f, k_m9, k_m1, k_13, k_15, k_18, k_19, k_112, k_114, k_115, k_98, k_103, k_116, k_119, k_47, k_82, k_50, k_51, k_99, k_700, k_197, ne9, ne9s, nI_ne0s, ↓reduceIte, hU0]) (x := (nI 1, S1)) ⟨by omega, by omega, rfl, a3, a2, fun j hj => by omega⟩
  simp only at e2
  subst e2
  exact ⟨U, e1, e3, e4, e5⟩
theorem readText_ok (hx : TxM S len t) : ∃ S', m_X6_readText S = some (rdv len t, S') ∧ OnA 25 S S' ∧ (rdv len t = m9 → RepM S' 25 0 (pm len t) (tk t) (rdz len t)) := by
  have hlen := hx.2.1
  have hpm := pm_7 (len := len) (t := t)
  obtain ⟨S1, a1, a2, a3⟩ := mclear_ok (S := S) (t := t)
  have hx1 := hx.onA a2 (by omega)
  have l0 := letter_ok hx1 (show 0 < 1000 by omega)
  unfold m_X6_readText
  simp (disch := omega) only [k_0, k_1, k_2, k_3, k_4, k_5, k_6, k_7, k_8, k_9, k_10, k_14, k_16, k_28, k_30, k_48, k_49, k_57, k_100, k_110, k_127, k_128, k_196, k_255, k_1000, k_1024, k_10000, nI_add, nI_mul, nI_div, irm_nI, nle, nlt, neq, gd_t, inb_nI, cl_nI, bnd_eq, gdT, gdo, gb0, gb1, gbi, bi0, bi1, bi0r, Option.bind_some, bndE_some, ite_t, ite_f, k_m9, k_m1, k_13, k_15, k_18, k_19, k_112, k_114, k_115, k_98, k_103, k_116, k_119, k_47, k_82, k_50, k_51, k_99, k_700, k_197, ne9, ne9s, nI_ne0s, ↓reduceIte]
  rw [a1, Option.bind_some]
  by_cases h0 : len = 0
  · have e : lt len t 0 = m1 := by unfold lt; rw [if_neg (by omega)]
    rw [e] at l0
    rw [rdv_no (Or.inl h0)]
    simp (disch := omega) only [k_0, k_1, k_2, k_3, k_4, k_5, k_6, k_7, k_8, k_9, k_10, k_14, k_16, k_28, k_30, k_48, k_49, k_57, k_100, k_110, k_127, k_128, k_196, k_255, k_1000, k_1024, k_10000, nI_add, nI_mul, nI_div, irm_nI, nle, nlt, neq, gd_t, inb_nI, cl_nI, bnd_eq, gdT, gdo, gb0, gb1, gbi, bi0, bi1, bi0r, Option.bind_some, bndE_some, ite_t, ite_f, k_m9, k_m1, k_13, k_15, k_18, k_19, k_112, k_114, k_115, k_98, k_103, k_116, k_119, k_47, k_82, k_50, k_51, k_99, k_700, k_197, ne9, ne9s, nI_ne0s, ↓reduceIte, l0, neg1_nI]
    exact ⟨S1, rfl, a2, fun q => False.elim (by first | exact q | exact nI_ne9 (by omega) q)⟩
  have e : lt len t 0 = nI (t 0) := by unfold lt; rw [if_pos (by omega)]
  have hc0 := (hx1.2.2 0 (by omega)).2
  rw [e] at l0
  by_cases hR : t 0 = 82
  · obtain ⟨U, c1, c2, c3, c4⟩ := mreadThings_ok hx (by omega) a2 a3
    have hxU := hx.onA c2 (by omega)
    simp (disch := omega) only [k_0, k_1, k_2, k_3, k_4, k_5, k_6, k_7, k_8, k_9, k_10, k_14, k_16, k_28, k_30, k_48, k_49, k_57, k_100, k_110, k_127, k_128, k_196, k_255, k_1000, k_1024, k_10000, nI_add, nI_mul, nI_div, irm_nI, nle, nlt, neq, gd_t, inb_nI, cl_nI, bnd_eq, gdT, gdo, gb0, gb1, gbi, bi0, bi1, bi0r, Option.bind_some, bndE_some, ite_t, ite_f, k_m9, k_m1, k_13, k_15, k_18, k_19, k_112, k_114, k_115, k_98, k_103, k_116, k_119, k_47, k_82, k_50, k_51, k_99, k_700, k_197, ne9, ne9s, nI_ne0s, ↓reduceIte, l0, hR]
    rw [c1, Option.bind_some]
    show ∃ S', m_X6_readText_J94 (nI (1 + pm len t)) U = _ ∧ _
    have hU0 : gA U 25 0 = nI (pm len t) := c3.2.2.2.1
    have hlt := letter_ok hxU (show 1 + pm len t < 1000 by omega)
    unfold m_X6_readText_J94 m_X6_readText_J125
    by_cases hl : len ≤ 1 + pm len t
    · obtain ⟨q1, q2⟩ := rdv_all h0 hR hl
      rw [q1, q2]
      have hle : 1 + pm len t = len := by omega
      simp (disch := omega) only [k_0, k_1, k_2, k_3, k_4, k_5, k_6, k_7, k_8, k_9, k_10, k_14, k_16, k_28, k_30, k_48, k_49, k_57, k_100, k_110, k_127, k_128, k_196, k_255, k_1000, k_1024, k_10000, nI_add, nI_mul, nI_div, irm_nI, nle, nlt, neq, gd_t, inb_nI, cl_nI, bnd_eq, gdT, gdo, gb0, gb1, gbi, bi0, bi1, bi0r, Option.bind_some, bndE_some, ite_t, ite_f, k_m9, k_m1, k_13, k_15, k_18, k_19, k_112, k_114, k_115, k_98, k_103, k_116, k_119, k_47, k_82, k_50, k_51, k_99, k_700, k_197, ne9, ne9s, nI_ne0s, ↓reduceIte, hxU.1, eq_true hle]
      exact ⟨U, rfl, c2, fun _ => c3⟩
    · have e1 : lt len t (1 + pm len t) = nI (t (1 + pm len t)) := by unfold lt; rw [if_pos (by omega)]
      have hc1 := (hxU.2.2 (1 + pm len t) (by omega)).2
      rw [e1] at hlt
      have hle : ¬ 1 + pm len t = len := by omega
      by_cases hs : t (1 + pm len t) = 47
      · by_cases h2 : 2 ≤ pm len t
        · obtain ⟨q1, q2⟩ := rdv_rights h0 hR hl hs h2
          rw [q1, q2]
          obtain ⟨V, d1, d2, d3⟩ := mreadRights_ok c3 hxU (show pm len t + 2 ≤ 110 by omega)
          generalize rlp len t (pm len t) 40 (pm len t + 2) noR = rr at *
          rw [show pm len t + 2 = 1 + pm len t + 1 by omega] at d1
          rw [hs] at hlt
          simp (disch := omega) only [k_0, k_1, k_2, k_3, k_4, k_5, k_6, k_7, k_8, k_9, k_10, k_14, k_16, k_28, k_30, k_48, k_49, k_57, k_100, k_110, k_127, k_128, k_196, k_255, k_1000, k_1024, k_10000, nI_add, nI_mul, nI_div, irm_nI, nle, nlt, neq, gd_t, inb_nI, cl_nI, bnd_eq, gdT, gdo, gb0, gb1, gbi, bi0, bi1, bi0r, Option.bind_some, bndE_some, ite_t, ite_f, k_m9, k_m1, k_13, k_15, k_18, k_19, k_112, k_114, k_115, k_98, k_103, k_116, k_119, k_47, k_82, k_50, k_51, k_99, k_700, k_197, ne9, ne9s, nI_ne0s, ↓reduceIte, hxU.1, eq_false hle, hlt, hU0, d1]
          exact ⟨V, rfl, c2.tr d2, d3⟩
        · have q1 := rdv_stop h0 hR hl (fun e => h2 e.2)
          rw [q1]
          rw [hs] at hlt
          simp (disch := omega) only [k_0, k_1, k_2, k_3, k_4, k_5, k_6, k_7, k_8, k_9, k_10, k_14, k_16, k_28, k_30, k_48, k_49, k_57, k_100, k_110, k_127, k_128, k_196, k_255, k_1000, k_1024, k_10000, nI_add, nI_mul, nI_div, irm_nI, nle, nlt, neq, gd_t, inb_nI, cl_nI, bnd_eq, gdT, gdo, gb0, gb1, gbi, bi0, bi1, bi0r, Option.bind_some, bndE_some, ite_t, ite_f, k_m9, k_m1, k_13, k_15, k_18, k_19, k_112, k_114, k_115, k_98, k_103, k_116, k_119, k_47, k_82, k_50, k_51, k_99, k_700, k_197, ne9, ne9s, nI_ne0s, ↓reduceIte, hxU.1, eq_false hle, hlt, hU0]
          exact ⟨U, rfl, c2, fun q => False.elim (by first | exact q | exact nI_ne9 (by omega) q)⟩
      · have q1 := rdv_stop h0 hR hl (fun e => hs e.1)
        rw [q1]
        simp (disch := omega) only [k_0, k_1, k_2, k_3, k_4, k_5, k_6, k_7, k_8, k_9, k_10, k_14, k_16, k_28, k_30, k_48, k_49, k_57, k_100, k_110, k_127, k_128, k_196, k_255, k_1000, k_1024, k_10000, nI_add, nI_mul, nI_div, irm_nI, nle, nlt, neq, gd_t, inb_nI, cl_nI, bnd_eq, gdT, gdo, gb0, gb1, gbi, bi0, bi1, bi0r, Option.bind_some, bndE_some, ite_t, ite_f, k_m9, k_m1, k_13, k_15, k_18, k_19, k_112, k_114, k_115, k_98, k_103, k_116, k_119, k_47, k_82, k_50, k_51, k_99, k_700, k_197, ne9, ne9s, nI_ne0s, ↓reduceIte, hxU.1, eq_false hle, hlt, eq_false hs]
        exact ⟨U, rfl, c2, fun q => False.elim (by first | exact q | exact nI_ne9 (by omega) q)⟩
  · rw [rdv_no (Or.inr hR)]
    simp (disch := omega) only [k_0, k_1, k_2, k_3, k_4, k_5, k_6, k_7, k_8, k_9, k_10, k_14, k_16, k_28, k_30, k_48, k_49, k_57, k_100, k_110, k_127, k_128, k_196, k_255, k_1000, k_1024, k_10000, nI_add, nI_mul, nI_div, irm_nI, nle, nlt, neq, gd_t, inb_nI, cl_nI, bnd_eq, gdT, gdo, gb0, gb1, gbi, bi0, bi1, bi0r, Option.bind_some, bndE_some, ite_t, ite_f, k_m9, k_m1, k_13, k_15, k_18, k_19, k_112, k_114, k_115, k_98, k_103, k_116, k_119, k_47, k_82, k_50, k_51, k_99, k_700, k_197, ne9, ne9s, nI_ne0s, ↓reduceIte, l0, hR]
    exact ⟨S1, rfl, a2, fun q => False.elim (by first | exact q | exact nI_ne9 (by omega) q)⟩
