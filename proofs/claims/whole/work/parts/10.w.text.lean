/-! the text: what it is, and its reading by the class -/
/-- the text of len signs t, in the class, in the model -/
def TxC (S : Hs) (len : Nat) (t : Nat → Nat) : Prop := gI S 1 1 = nI len ∧ len ≤ 110 ∧ ∀ j, j < len → gA S 2 j = nI (t j) ∧ t j < 256
def TxM (S : Hs) (len : Nat) (t : Nat → Nat) : Prop := gI S 13 8 = nI len ∧ len ≤ 110 ∧ ∀ j, j < len → gA S 19 j = nI (t j) ∧ t j < 256
theorem TxC.kp {S T : Hs} {len : Nat} {t : Nat → Nat} (h : TxC S len t) (g : Kp S T) : TxC T len t := ⟨((g.1 _ _ (by omega)).1).trans h.1, h.2.1, fun j hj => ⟨((g.1 _ _ (by omega)).2).trans (h.2.2 j hj).1, (h.2.2 j hj).2⟩⟩
theorem TxC.sB {i : Nat} {S T : Hs} {len : Nat} {t : Nat → Nat} (h : TxC S len t) (g : SameB i S T) (hi : 29 ≤ i) : TxC T len t := ⟨(g.1 _ _ (by omega)).trans h.1, h.2.1, fun j hj => ⟨(g.2.1 _ _ (by omega)).trans (h.2.2 j hj).1, (h.2.2 j hj).2⟩⟩
theorem TxM.keep {S T : Hs} {len : Nat} {t : Nat → Nat} (h : TxM S len t) (g1 : gI T 13 8 = gI S 13 8) (g2 : ∀ j, gA T 19 j = gA S 19 j) : TxM T len t := ⟨g1.trans h.1, h.2.1, fun j hj => ⟨(g2 j).trans (h.2.2 j hj).1, (h.2.2 j hj).2⟩⟩
/-- the letters of things and of rights; digits -/
def isK (c : Nat) : Bool := decide (c = 112 ∨ c = 115 ∨ c = 98)
def kd (c : Nat) : Nat := if c = 112 then 1 else if c = 115 then 2 else 0
def tg (j : Nat) : Nat := if j = 0 then 116 else if j = 1 then 103 else if j = 2 then 114 else 119
def rk (c : Nat) : Nat := lf (fun j => decide (c = tg j)) 4
def isD (len : Nat) (t : Nat → Nat) (n p : Nat) : Bool := decide (p < len) && (decide (48 ≤ t p) && decide (t p < 48 + n))
def ka (len : Nat) (t : Nat → Nat) (p : Nat) : Nat := if p < len then rk (t p) else 4
theorem rk_4 (c : Nat) : rk c ≤ 4 := lf_le _ _
theorem ka_4 (len : Nat) (t : Nat → Nat) (p : Nat) : ka len t p ≤ 4 := by
  unfold ka
  split
  · exact rk_4 _
  · omega
theorem ka_len {len : Nat} {t : Nat → Nat} {p : Nat} (h : ka len t p < 4) : p < len := by
  unfold ka at h
  refine Classical.byContradiction fun q => ?_
  rw [if_neg q] at h
  omega
theorem tgrw_at : ∀ c, c < 256 → ∀ j, j < 4 → (tgrw.getD j (nI 0) = (nI c).toInt8.toInt32) = (c = tg j) := by decide +kernel
theorem indexOf_ok {c : Nat} (hc : c < 256) : m_J0_indexOf_0f7a4 (nI c) = some (if rk c < 4 then nI (rk c) else m1) := by
  have h4 : nI 4 >>> (nI 0 &&& 31) = nI 4 := by decide +kernel
  have hmax : imax (nI 0) (nI 0) = nI 0 := by decide +kernel
  have hmin : imin (nI 4) (nI 4) = nI 4 := by decide +kernel
  have hlp : loopO (fun x => m_J1_indexOfChar_4cfef_L7 (nI 4) (nI c).toInt8.toInt32 x) (nI 0) = some (if lf (fun j => decide (c = tg j)) 4 < 4 then .inr (nI (lf (fun j => decide (c = tg j)) 4)) else .inl ()) := by
    refine find_loop (r := nI) (fun k hk hp => ?_) (fun k hk hp => ?_) ?_
    · simp only [m_J1_indexOfChar_4cfef_L7]
      have := tgrw_at c hc k hk
      rw [decide_eq_false_iff_not] at hp
      simp (disch := omega) only [k_0, k_1, k_2, k_3, k_4, k_5, k_6, k_7, k_8, k_9, k_10, k_14, k_16, k_28, k_30, k_48, k_49, k_57, k_100, k_110, k_127, k_128, k_196, k_255, k_1000, k_1024, k_10000, nI_add, nI_mul, nI_div, irm_nI, nle, nlt, neq, gd_t, inb_nI, cl_nI, bnd_eq, gdT, gdo, gb0, gb1, gbi, bi0, bi1, bi0r, Option.bind_some, bndE_some, ite_t, ite_f, k_m9, k_m1, k_13, k_15, k_18, k_19, k_112, k_114, k_115, k_98, k_103, k_116, k_119, k_47, k_82, k_50, k_51, k_99, k_700, k_197, ne9, ne9s, nI_ne0s, ↓reduceIte]
      rw [if_neg (fun q => hp (this ▸ q))]
    · simp only [m_J1_indexOfChar_4cfef_L7]
      have := tgrw_at c hc k hk
      rw [decide_eq_true_eq] at hp
      simp (disch := omega) only [k_0, k_1, k_2, k_3, k_4, k_5, k_6, k_7, k_8, k_9, k_10, k_14, k_16, k_28, k_30, k_48, k_49, k_57, k_100, k_110, k_127, k_128, k_196, k_255, k_1000, k_1024, k_10000, nI_add, nI_mul, nI_div, irm_nI, nle, nlt, neq, gd_t, inb_nI, cl_nI, bnd_eq, gdT, gdo, gb0, gb1, gbi, bi0, bi1, bi0r, Option.bind_some, bndE_some, ite_t, ite_f, k_m9, k_m1, k_13, k_15, k_18, k_19, k_112, k_114, k_115, k_98, k_103, k_116, k_119, k_47, k_82, k_50, k_51, k_99, k_700, k_197, ne9, ne9s, nI_ne0s, ↓reduceIte]
      rw [if_pos (this ▸ hp)]
    · simp only [m_J1_indexOfChar_4cfef_L7]
      simp (disch := omega) only [k_0, k_1, k_2, k_3, k_4, k_5, k_6, k_7, k_8, k_9, k_10, k_14, k_16, k_28, k_30, k_48, k_49, k_57, k_100, k_110, k_127, k_128, k_196, k_255, k_1000, k_1024, k_10000, nI_add, nI_mul, nI_div, irm_nI, nle, nlt, neq, gd_t, inb_nI, cl_nI, bnd_eq, gdT, gdo, gb0, gb1, gbi, bi0, bi1, bi0r, Option.bind_some, bndE_some, ite_t, ite_f, k_m9, k_m1, k_13, k_15, k_18, k_19, k_112, k_114, k_115, k_98, k_103, k_116, k_119, k_47, k_82, k_50, k_51, k_99, k_700, k_197, ne9, ne9s, nI_ne0s, ↓reduceIte]
  unfold m_J0_indexOf_0f7a4 m_J0_indexOf_7cf53 m_J0_isLatin1_aae02 m_J0_isLatin1_aae02_J18 m_J0_isLatin1_aae02_J17 m_J0_length_8abf5 m_J0_coder_7d493 m_J0_coder_7d493_J14 m_J1_indexOf_4cfef m_J1_canEncode_9a6ad m_J1_canEncode_9a6ad_J15 m_J1_canEncode_9a6ad_J16 m_J1_indexOfChar_4cfef m_J0_indexOf_7cf53_J36
  simp (disch := omega) only [k_0, k_1, k_2, k_3, k_4, k_5, k_6, k_7, k_8, k_9, k_10, k_14, k_16, k_28, k_30, k_48, k_49, k_57, k_100, k_110, k_127, k_128, k_196, k_255, k_1000, k_1024, k_10000, nI_add, nI_mul, nI_div, irm_nI, nle, nlt, neq, gd_t, inb_nI, cl_nI, bnd_eq, gdT, gdo, gb0, gb1, gbi, bi0, bi1, bi0r, Option.bind_some, bndE_some, ite_t, ite_f, k_m9, k_m1, k_13, k_15, k_18, k_19, k_112, k_114, k_115, k_98, k_103, k_116, k_119, k_47, k_82, k_50, k_51, k_99, k_700, k_197, ne9, ne9s, nI_ne0s, ↓reduceIte, h4, hmax, hmin, hlp, or_true, true_or, decide_true]
  by_cases hq : lf (fun j => decide (c = tg j)) 4 < 4
  · rw [if_pos hq, if_pos (show rk c < 4 from hq)]
    rfl
  · rw [if_neg hq, if_neg (show ¬ rk c < 4 from hq)]
    rfl
theorem rightOf_ok {c : Nat} (hc : c < 256) : m_X6_rightOf (nI c) = some (if rk c < 4 then nI (rk c) else m1) := by
  unfold m_X6_rightOf m_X6_rightOf_J41
  have e : rk c = if c = 116 then 0 else if c = 103 then 1 else if c = 114 then 2 else if c = 119 then 3 else 4 := (by decide +kernel : ∀ c, c < 256 → rk c = if c = 116 then 0 else if c = 103 then 1 else if c = 114 then 2 else if c = 119 then 3 else 4) c hc
  simp (disch := omega) only [k_0, k_1, k_2, k_3, k_4, k_5, k_6, k_7, k_8, k_9, k_10, k_14, k_16, k_28, k_30, k_48, k_49, k_57, k_100, k_110, k_127, k_128, k_196, k_255, k_1000, k_1024, k_10000, nI_add, nI_mul, nI_div, irm_nI, nle, nlt, neq, gd_t, inb_nI, cl_nI, bnd_eq, gdT, gdo, gb0, gb1, gbi, bi0, bi1, bi0r, Option.bind_some, bndE_some, ite_t, ite_f, k_m9, k_m1, k_13, k_15, k_18, k_19, k_112, k_114, k_115, k_98, k_103, k_116, k_119, k_47, k_82, k_50, k_51, k_99, k_700, k_197, ne9, ne9s, nI_ne0s, ↓reduceIte]
  rw [e]
  by_cases h1 : c = 116
  · simp [h1]
  by_cases h2 : c = 103
  · simp [h1, h2]
  by_cases h3 : c = 114
  · simp [h1, h2, h3]
  by_cases h4 : c = 119
  · simp [h1, h2, h3, h4]
  · simp [h1, h2, h3, h4]
theorem rightOf_m1 : m_X6_rightOf m1 = some m1 := by
  unfold m_X6_rightOf m_X6_rightOf_J41
  rw [if_neg (by decide), if_neg (by decide), if_neg (by decide), if_neg (by decide)]
  rfl
/-! the class -/
variable {S : Hs} {i n : Nat} {K : Kd} {Z : Rt} {len : Nat} {t : Nat → Nat}
theorem digit_lo : ∀ c, c < 48 → nI c - nI 48 < nI 0 := by decide +kernel
theorem digit_isT {c n : Nat} (hc : c < 256) (hn : n ≤ 7) : isT n (nI c - nI 48) = (decide (48 ≤ c) && decide (c < 48 + n)) := by
  by_cases h : 48 ≤ c
  · rw [nI_sub h, isT_nI (by omega) (by omega), decide_eq_true h, Bool.true_and, decide_eq_decide]
    omega
  · rw [decide_eq_false h, Bool.false_and]
    refine B_false.mpr ?_
    rintro ⟨x, hx, e⟩
    have := digit_lo c (by omega)
    rw [e] at this
    exact not_neg (by omega) this
theorem isT_m9 (hn : n < 1000000) : isT n m9 = false := by
  refine B_false.mpr ?_
  rintro ⟨x, hx, e⟩
  rw [ne9s (by omega)] at e
  exact e
theorem thingAt_ok (h : RepS S i n K Z) (hx : TxC S len t) {p : Nat} (hp : p < 1000) : m_X4_thingAt (nI p) i S = some (if isD len t n p = true then nI (t p - 48) else m9) := by
  obtain ⟨x1, x2, x3⟩ := hx
  have hn := h.1
  unfold m_X4_thingAt m_X4_thingAt_J22 m_X4_thingAt_J37 isD
  by_cases hl : p < len
  · obtain ⟨y1, y2⟩ := x3 p hl
    simp (disch := omega) only [k_0, k_1, k_2, k_3, k_4, k_5, k_6, k_7, k_8, k_9, k_10, k_14, k_16, k_28, k_30, k_48, k_49, k_57, k_100, k_110, k_127, k_128, k_196, k_255, k_1000, k_1024, k_10000, nI_add, nI_mul, nI_div, irm_nI, nle, nlt, neq, gd_t, inb_nI, cl_nI, bnd_eq, gdT, gdo, gb0, gb1, gbi, bi0, bi1, bi0r, Option.bind_some, bndE_some, ite_t, ite_f, k_m9, k_m1, k_13, k_15, k_18, k_19, k_112, k_114, k_115, k_98, k_103, k_116, k_119, k_47, k_82, k_50, k_51, k_99, k_700, k_197, ne9, ne9s, nI_ne0s, ↓reduceIte, x1, y1, exists_bi h, digit_isT y2 hn]
    cases hd : (decide (48 ≤ t p) && decide (t p < 48 + n))
    · simp [hl]
    · rw [decide_eq_true hl]
      rw [Bool.and_eq_true, decide_eq_true_eq, decide_eq_true_eq] at hd
      simp only [Bool.true_and, if_true, Bool.true_eq_false, if_false, nI_sub hd.1]
  · simp (disch := omega) only [k_0, k_1, k_2, k_3, k_4, k_5, k_6, k_7, k_8, k_9, k_10, k_14, k_16, k_28, k_30, k_48, k_49, k_57, k_100, k_110, k_127, k_128, k_196, k_255, k_1000, k_1024, k_10000, nI_add, nI_mul, nI_div, irm_nI, nle, nlt, neq, gd_t, inb_nI, cl_nI, bnd_eq, gdT, gdo, gb0, gb1, gbi, bi0, bi1, bi0r, Option.bind_some, bndE_some, ite_t, ite_f, k_m9, k_m1, k_13, k_15, k_18, k_19, k_112, k_114, k_115, k_98, k_103, k_116, k_119, k_47, k_82, k_50, k_51, k_99, k_700, k_197, ne9, ne9s, nI_ne0s, ↓reduceIte, x1, exists_bi h, isT_m9, decide_eq_false hl, Bool.false_and, Bool.false_eq_true]
theorem kindAt_ok (hx : TxC S len t) {p : Nat} (hp : p < 1000) : ∃ v, m_X4_kindAt (nI p) S = some v ∧ (ka len t p < 4 → v = nI (ka len t p)) ∧ (¬ ka len t p < 4 → v < nI 0) := by
  obtain ⟨x1, x2, x3⟩ := hx
  have h4 := rk_4 (t p)
  unfold m_X4_kindAt m_X4_kindAt_J24 ka
  by_cases hl : p < len
  · obtain ⟨y1, y2⟩ := x3 p hl
    simp (disch := omega) only [k_0, k_1, k_2, k_3, k_4, k_5, k_6, k_7, k_8, k_9, k_10, k_14, k_16, k_28, k_30, k_48, k_49, k_57, k_100, k_110, k_127, k_128, k_196, k_255, k_1000, k_1024, k_10000, nI_add, nI_mul, nI_div, irm_nI, nle, nlt, neq, gd_t, inb_nI, cl_nI, bnd_eq, gdT, gdo, gb0, gb1, gbi, bi0, bi1, bi0r, Option.bind_some, bndE_some, ite_t, ite_f, k_m9, k_m1, k_13, k_15, k_18, k_19, k_112, k_114, k_115, k_98, k_103, k_116, k_119, k_47, k_82, k_50, k_51, k_99, k_700, k_197, ne9, ne9s, nI_ne0s, ↓reduceIte, x1, y1, indexOf_ok y2, hl]
    by_cases hr : rk (t p) < 4
    · exact ⟨_, rfl, fun _ => by rw [if_pos hr], fun q => absurd hr q⟩
    · exact ⟨_, rfl, fun q => absurd q hr, fun _ => by rw [if_neg hr]; exact m1_neg⟩
  · simp (disch := omega) only [k_0, k_1, k_2, k_3, k_4, k_5, k_6, k_7, k_8, k_9, k_10, k_14, k_16, k_28, k_30, k_48, k_49, k_57, k_100, k_110, k_127, k_128, k_196, k_255, k_1000, k_1024, k_10000, nI_add, nI_mul, nI_div, irm_nI, nle, nlt, neq, gd_t, inb_nI, cl_nI, bnd_eq, gdT, gdo, gb0, gb1, gbi, bi0, bi1, bi0r, Option.bind_some, bndE_some, ite_t, ite_f, k_m9, k_m1, k_13, k_15, k_18, k_19, k_112, k_114, k_115, k_98, k_103, k_116, k_119, k_47, k_82, k_50, k_51, k_99, k_700, k_197, ne9, ne9s, nI_ne0s, ↓reduceIte, x1, hl]
    exact ⟨_, rfl, fun q => by omega, fun _ => m9_neg⟩
/-- one right of the text at place p: where it is wrong, or the rights with it -/
def rst (len : Nat) (t : Nat → Nat) (n p : Nat) (Z : Rt) : Nat ⊕ Rt :=
  if isD len t n p = true ∧ cnt Z < 30 then
    (if ka len t (p + 1) < 4 then
      (if isD len t n (p + 2) = true ∧ t (p + 2) ≠ t p ∧ Z (t p - 48) (ka len t (p + 1)) (t (p + 2) - 48) = false then .inr (upR Z (t p - 48) (ka len t (p + 1)) (t (p + 2) - 48) true) else .inl (p + 2))
    else .inl (p + 1))
  else .inl p
theorem isD_iff {p : Nat} : isD len t n p = true ↔ p < len ∧ 48 ≤ t p ∧ t p < 48 + n := by
  unfold isD
  rw [Bool.and_eq_true, Bool.and_eq_true, decide_eq_true_eq, decide_eq_true_eq, decide_eq_true_eq]
theorem cnt_ins {x k y : Nat} (hx : x < 7) (hk : k < 4) (hy : y < 7) (h : Z x k y = false) : cnt (upR Z x k y true) = cnt Z + 1 := by
  have hl : ix x k y < 196 := by unfold ix; omega
  have e := fb_ct_upd (fl Z) true hl
  rw [fl_ix _ hk hy, h] at e
  simp only [Bool.false_eq_true, if_false, if_true, Nat.add_zero] at e
  unfold cnt
  rw [← e]
  refine fb_ct_cong fun j hj => ?_
  obtain ⟨e1, e2, e3, e4⟩ := ix_of hj
  by_cases hq : j = ix x k y
  · rw [if_pos hq, hq, fl_ix _ hk hy]
    unfold upR
    rw [if_pos ⟨rfl, rfl, rfl⟩]
  · rw [if_neg hq]
    unfold fl upR
    rw [if_neg]
    rintro ⟨q1, q2, q3⟩
    rw [q1, q2, q3] at e1
    exact hq e1.symm
/-- what a step of the reading leaves -/
theorem rst_inr {p : Nat} {Z' : Rt} (hn : n ≤ 7) (hw : WF n Z) (h : rst len t n p Z = .inr Z') : p + 2 < len ∧ WF n Z' ∧ cnt Z' = cnt Z + 1 ∧ cnt Z < 30 := by
  unfold rst at h
  by_cases h1 : isD len t n p = true ∧ cnt Z < 30
  · rw [if_pos h1] at h
    by_cases h2 : ka len t (p + 1) < 4
    · rw [if_pos h2] at h
      by_cases h3 : isD len t n (p + 2) = true ∧ t (p + 2) ≠ t p ∧ Z (t p - 48) (ka len t (p + 1)) (t (p + 2) - 48) = false
      · rw [if_pos h3] at h
        cases h
        have d1 := isD_iff.mp h1.1
        have d2 := isD_iff.mp h3.1
        refine ⟨d2.1, upR_WF hw true (by omega) h2 (by omega) (by omega), cnt_ins (by omega) h2 (by omega) h3.2.2, h1.2⟩
      · rw [if_neg h3] at h; cases h
    · rw [if_neg h2] at h; cases h
  · rw [if_neg h1] at h; cases h
theorem readRight_ok (h : RepS S i n K Z) (hx : TxC S len t) (hi : 29 ≤ i) {p : Nat} (hp : p < 500) : ∃ S' v, m_X4_readRight (nI p) i S = some (v, S') ∧ SameB i S S' ∧ (∀ e, rst len t n p Z = .inl e → v = nI e ∧ e < 1000) ∧ ∀ Z', rst len t n p Z = .inr Z' → v = m9 ∧ RepS S' i n K Z' := by
  have hn := h.1
  have hc := cnt_196 Z
  have t1 := thingAt_ok h hx (show p < 1000 by omega)
  have t2 := thingAt_ok h hx (show p + 2 < 1000 by omega)
  obtain ⟨v, k1, k2, k3⟩ := kindAt_ok hx (show p + 1 < 1000 by omega)
  have hm9 : m9 < nI 0 := m9_neg
  unfold rst
  unfold m_X4_readRight m_X4_readRight_J20 m_X4_readRight_J76
  by_cases h1 : isD len t n p = true
  · have d1 := isD_iff.mp h1
    rw [if_pos h1] at t1
    by_cases h30 : cnt Z < 30
    · rw [if_pos ⟨h1, h30⟩]
      by_cases h2 : ka len t (p + 1) < 4
      · rw [if_pos h2]
        have hv := k2 h2
        subst hv
        by_cases h3 : isD len t n (p + 2) = true
        · have d2 := isD_iff.mp h3
          rw [if_pos h3] at t2
          by_cases h4 : t (p + 2) = t p
          · rw [if_neg (fun e => e.2.1 h4)]
            simp (disch := omega) only [k_0, k_1, k_2, k_3, k_4, k_5, k_6, k_7, k_8, k_9, k_10, k_14, k_16, k_28, k_30, k_48, k_49, k_57, k_100, k_110, k_127, k_128, k_196, k_255, k_1000, k_1024, k_10000, nI_add, nI_mul, nI_div, irm_nI, nle, nlt, neq, gd_t, inb_nI, cl_nI, bnd_eq, gdT, gdo, gb0, gb1, gbi, bi0, bi1, bi0r, Option.bind_some, bndE_some, ite_t, ite_f, k_m9, k_m1, k_13, k_15, k_18, k_19, k_112, k_114, k_115, k_98, k_103, k_116, k_119, k_47, k_82, k_50, k_51, k_99, k_700, k_197, ne9, ne9s, nI_ne0s, ↓reduceIte, t1, countRights_ok h, k1, t2, h4]
            exact ⟨S, _, rfl, SameB.rf _ _, fun e he => by cases he; exact ⟨rfl, by omega⟩, fun Z' he => by cases he⟩
          · cases hz : Z (t p - 48) (ka len t (p + 1)) (t (p + 2) - 48)
            · rw [if_pos ⟨h3, h4, rfl⟩]
              obtain ⟨S', p1, p2, p3⟩ := put_ok h (x := t p - 48) (k := ka len t (p + 1)) (y := t (p + 2) - 48) (by omega) h2 (by omega) (by omega) (nI 1)
              rw [show decide (nI 1 ≠ 0) = true from by decide] at p2
              simp (disch := omega) only [k_0, k_1, k_2, k_3, k_4, k_5, k_6, k_7, k_8, k_9, k_10, k_14, k_16, k_28, k_30, k_48, k_49, k_57, k_100, k_110, k_127, k_128, k_196, k_255, k_1000, k_1024, k_10000, nI_add, nI_mul, nI_div, irm_nI, nle, nlt, neq, gd_t, inb_nI, cl_nI, bnd_eq, gdT, gdo, gb0, gb1, gbi, bi0, bi1, bi0r, Option.bind_some, bndE_some, ite_t, ite_f, k_m9, k_m1, k_13, k_15, k_18, k_19, k_112, k_114, k_115, k_98, k_103, k_116, k_119, k_47, k_82, k_50, k_51, k_99, k_700, k_197, ne9, ne9s, nI_ne0s, ↓reduceIte, t1, countRights_ok h, k1, t2, show ¬ t (p + 2) - 48 = t p - 48 by omega, ix_nI, has_bi h (show t p - 48 < 7 by omega) h2 (show t (p + 2) - 48 < 7 by omega), hz, p1]
              exact ⟨S', _, rfl, p3, fun e he => (by cases he), fun Z' he => by cases he; exact ⟨rfl, p2⟩⟩
            · rw [if_neg (fun e => by exact absurd e.2.2 (by decide))]
              simp (disch := omega) only [k_0, k_1, k_2, k_3, k_4, k_5, k_6, k_7, k_8, k_9, k_10, k_14, k_16, k_28, k_30, k_48, k_49, k_57, k_100, k_110, k_127, k_128, k_196, k_255, k_1000, k_1024, k_10000, nI_add, nI_mul, nI_div, irm_nI, nle, nlt, neq, gd_t, inb_nI, cl_nI, bnd_eq, gdT, gdo, gb0, gb1, gbi, bi0, bi1, bi0r, Option.bind_some, bndE_some, ite_t, ite_f, k_m9, k_m1, k_13, k_15, k_18, k_19, k_112, k_114, k_115, k_98, k_103, k_116, k_119, k_47, k_82, k_50, k_51, k_99, k_700, k_197, ne9, ne9s, nI_ne0s, ↓reduceIte, t1, countRights_ok h, k1, t2, show ¬ t (p + 2) - 48 = t p - 48 by omega, ix_nI, has_bi h (show t p - 48 < 7 by omega) h2 (show t (p + 2) - 48 < 7 by omega), hz, Bool.true_eq_false]
              exact ⟨S, _, rfl, SameB.rf _ _, fun e he => by cases he; exact ⟨rfl, by omega⟩, fun Z' he => by cases he⟩
        · rw [if_neg h3] at t2
          rw [if_neg (fun e => h3 e.1)]
          simp (disch := omega) only [k_0, k_1, k_2, k_3, k_4, k_5, k_6, k_7, k_8, k_9, k_10, k_14, k_16, k_28, k_30, k_48, k_49, k_57, k_100, k_110, k_127, k_128, k_196, k_255, k_1000, k_1024, k_10000, nI_add, nI_mul, nI_div, irm_nI, nle, nlt, neq, gd_t, inb_nI, cl_nI, bnd_eq, gdT, gdo, gb0, gb1, gbi, bi0, bi1, bi0r, Option.bind_some, bndE_some, ite_t, ite_f, k_m9, k_m1, k_13, k_15, k_18, k_19, k_112, k_114, k_115, k_98, k_103, k_116, k_119, k_47, k_82, k_50, k_51, k_99, k_700, k_197, ne9, ne9s, nI_ne0s, ↓reduceIte, t1, countRights_ok h, k1, t2, hm9]
          exact ⟨S, _, rfl, SameB.rf _ _, fun e he => by cases he; exact ⟨rfl, by omega⟩, fun Z' he => by cases he⟩
      · rw [if_neg h2]
        have hv : ¬ nI 0 ≤ v := by
          have := k3 h2
          rw [Int32.lt_iff_toInt_lt] at this
          rw [Int32.le_iff_toInt_le]
          omega
        simp (disch := omega) only [k_0, k_1, k_2, k_3, k_4, k_5, k_6, k_7, k_8, k_9, k_10, k_14, k_16, k_28, k_30, k_48, k_49, k_57, k_100, k_110, k_127, k_128, k_196, k_255, k_1000, k_1024, k_10000, nI_add, nI_mul, nI_div, irm_nI, nle, nlt, neq, gd_t, inb_nI, cl_nI, bnd_eq, gdT, gdo, gb0, gb1, gbi, bi0, bi1, bi0r, Option.bind_some, bndE_some, ite_t, ite_f, k_m9, k_m1, k_13, k_15, k_18, k_19, k_112, k_114, k_115, k_98, k_103, k_116, k_119, k_47, k_82, k_50, k_51, k_99, k_700, k_197, ne9, ne9s, nI_ne0s, ↓reduceIte, t1, countRights_ok h, k1, hv]
        exact ⟨S, _, rfl, SameB.rf _ _, fun e he => by cases he; exact ⟨rfl, by omega⟩, fun Z' he => by cases he⟩
    · rw [if_neg (fun e => h30 e.2)]
      simp (disch := omega) only [k_0, k_1, k_2, k_3, k_4, k_5, k_6, k_7, k_8, k_9, k_10, k_14, k_16, k_28, k_30, k_48, k_49, k_57, k_100, k_110, k_127, k_128, k_196, k_255, k_1000, k_1024, k_10000, nI_add, nI_mul, nI_div, irm_nI, nle, nlt, neq, gd_t, inb_nI, cl_nI, bnd_eq, gdT, gdo, gb0, gb1, gbi, bi0, bi1, bi0r, Option.bind_some, bndE_some, ite_t, ite_f, k_m9, k_m1, k_13, k_15, k_18, k_19, k_112, k_114, k_115, k_98, k_103, k_116, k_119, k_47, k_82, k_50, k_51, k_99, k_700, k_197, ne9, ne9s, nI_ne0s, ↓reduceIte, t1, countRights_ok h]
      exact ⟨S, _, rfl, SameB.rf _ _, fun e he => by cases he; exact ⟨rfl, by omega⟩, fun Z' he => by cases he⟩
  · rw [if_neg h1] at t1
    rw [if_neg (fun e => h1 e.1)]
    simp (disch := omega) only [k_0, k_1, k_2, k_3, k_4, k_5, k_6, k_7, k_8, k_9, k_10, k_14, k_16, k_28, k_30, k_48, k_49, k_57, k_100, k_110, k_127, k_128, k_196, k_255, k_1000, k_1024, k_10000, nI_add, nI_mul, nI_div, irm_nI, nle, nlt, neq, gd_t, inb_nI, cl_nI, bnd_eq, gdT, gdo, gb0, gb1, gbi, bi0, bi1, bi0r, Option.bind_some, bndE_some, ite_t, ite_f, k_m9, k_m1, k_13, k_15, k_18, k_19, k_112, k_114, k_115, k_98, k_103, k_116, k_119, k_47, k_82, k_50, k_51, k_99, k_700, k_197, ne9, ne9s, nI_ne0s, ↓reduceIte, t1, hm9]
    exact ⟨S, _, rfl, SameB.rf _ _, fun e he => by cases he; exact ⟨rfl, by omega⟩, fun Z' he => by cases he⟩
/-- all rights from place p on -/
def rlp (len : Nat) (t : Nat → Nat) (n : Nat) : Nat → Nat → Rt → Int32 × Rt
  | 0, _, Z => (m9, Z)
  | f + 1, p, Z => match rst len t n p Z with
    | .inl e => (nI e, Z)
    | .inr Z' => if p + 3 < len then rlp len t n f (p + 3) Z' else (m9, Z')
theorem rlp_inl {f p e : Nat} (h : rst len t n p Z = .inl e) : rlp len t n (f + 1) p Z = (nI e, Z) := by
  unfold rlp
  rw [h]
theorem rlp_inr {f p : Nat} {Z' : Rt} (h : rst len t n p Z = .inr Z') : rlp len t n (f + 1) p Z = if p + 3 < len then rlp len t n f (p + 3) Z' else (m9, Z') := by
  rw [rlp, h]
theorem rlp_WF (hn : n ≤ 7) (f : Nat) : ∀ (p : Nat) (Z : Rt), WF n Z → cnt Z ≤ 30 → WF n (rlp len t n f p Z).2 ∧ cnt (rlp len t n f p Z).2 ≤ 30 := by
  induction f with
  | zero =>
    intro p Z h1 h2
    exact And.intro h1 h2
  | succ f ih =>
    intro p Z h1 h2
    cases hr : rst len t n p Z with
    | inl e => rw [rlp_inl hr]; exact ⟨h1, h2⟩
    | inr Z' =>
      rw [rlp_inr hr]
      obtain ⟨a1, a2, a3, a4⟩ := rst_inr hn h1 hr
      by_cases hp : p + 3 < len
      · rw [if_pos hp]
        exact ih (p + 3) Z' a2 (by omega)
      · rw [if_neg hp]
        exact ⟨a2, by show cnt Z' ≤ 30; omega⟩
theorem readRights_ok (h : RepS S i n K Z) (hx : TxC S len t) (hi : 29 ≤ i) {s : Nat} (hs : s ≤ 110) : ∃ S', m_X4_readRights (nI s) i S = some ((rlp len t n 40 s Z).1, S') ∧ SameB i S S' ∧ ((rlp len t n 40 s Z).1 = m9 → RepS S' i n K (rlp len t n 40 s Z).2) := by
  have hn := h.1
  have hlen := hx.2.1
  unfold m_X4_readRights m_X4_readRights_J41
  obtain ⟨S1, v1, a1, a2, a3, a4⟩ := readRight_ok h hx hi (show s < 500 by omega)
  rw [a1, bndE_some]
  obtain ⟨⟨v, S'⟩, e1, e2, e3, e4⟩ := loopO_inv (f := fun q : Int32 × Int32 × Hs => m_X4_readRights_L10 i q.1 q.2.1 q.2.2) (fun c q => c ≤ 39 ∧ s + 3 * c ≤ 115 ∧ q.1 = nI (s + 3 * c) ∧ SameB i S q.2.2 ∧ ∃ Zc, WF n Zc ∧ rlp len t n 40 s Z = rlp len t n (39 - c + 1) (s + 3 * c) Zc ∧ (∀ e, rst len t n (s + 3 * c) Zc = .inl e → q.2.1 = nI e ∧ e < 1000) ∧ ∀ Z', rst len t n (s + 3 * c) Zc = .inr Z' → q.2.1 = m9 ∧ RepS q.2.2 i n K Z') (fun r => r.1 = (rlp len t n 40 s Z).1 ∧ SameB i S r.2 ∧ ((rlp len t n 40 s Z).1 = m9 → RepS r.2 i n K (rlp len t n 40 s Z).2)) 40 (fun c q hq => by
    obtain ⟨v, err, U⟩ := q
    obtain ⟨hc, hs2, hv, b1, Zc, b2, b3, b4, b5⟩ := hq
    simp only at hv b1 b4 b5
    subst hv
    have hxU := hx.sB b1 hi
    cases hr : rst len t n (s + 3 * c) Zc with
    | inl e =>
      obtain ⟨c1, c2⟩ := b4 e hr
      subst c1
      rw [rlp_inl hr] at b3
      refine Or.inr ⟨(nI e, U), ?_, by rw [b3], b1, fun q => by rw [b3] at q; exact absurd q (nI_ne9 (by omega))⟩
      simp only [m_X4_readRights_L10]
      simp (disch := omega) only [k_0, k_1, k_2, k_3, k_4, k_5, k_6, k_7, k_8, k_9, k_10, k_14, k_16, k_28, k_30, k_48, k_49, k_57, k_100, k_110, k_127, k_128, k_196, k_255, k_1000, k_1024, k_10000, nI_add, nI_mul, nI_div, irm_nI, nle, nlt, neq, gd_t, inb_nI, cl_nI, bnd_eq, gdT, gdo, gb0, gb1, gbi, bi0, bi1, bi0r, Option.bind_some, bndE_some, ite_t, ite_f, k_m9, k_m1, k_13, k_15, k_18, k_19, k_112, k_114, k_115, k_98, k_103, k_116, k_119, k_47, k_82, k_50, k_51, k_99, k_700, k_197, ne9, ne9s, nI_ne0s, ↓reduceIte]
    | inr Z' =>
      obtain ⟨c1, c2⟩ := b5 Z' hr
      subst c1
      rw [rlp_inr hr] at b3
      obtain ⟨d1, d2, d3, d4⟩ := rst_inr hn b2 hr
      by_cases hp : s + 3 * c + 3 < len
      · rw [if_pos hp] at b3
        obtain ⟨V, v2, k1, k2, k3, k4⟩ := readRight_ok c2 hxU hi (show s + 3 * (c + 1) < 500 by omega)
        rw [show s + 3 * (c + 1) = s + 3 * c + 3 by omega] at k1 k3 k4
        refine Or.inl ⟨by omega, (nI (s + 3 * c + 3), v2, V), ?_, by omega, by omega, by rw [show s + 3 * (c + 1) = s + 3 * c + 3 by omega], b1.tr k2, Z', d2, ?_, ?_, ?_⟩
        · simp only [m_X4_readRights_L10]
          simp (disch := omega) only [k_0, k_1, k_2, k_3, k_4, k_5, k_6, k_7, k_8, k_9, k_10, k_14, k_16, k_28, k_30, k_48, k_49, k_57, k_100, k_110, k_127, k_128, k_196, k_255, k_1000, k_1024, k_10000, nI_add, nI_mul, nI_div, irm_nI, nle, nlt, neq, gd_t, inb_nI, cl_nI, bnd_eq, gdT, gdo, gb0, gb1, gbi, bi0, bi1, bi0r, Option.bind_some, bndE_some, ite_t, ite_f, k_m9, k_m1, k_13, k_15, k_18, k_19, k_112, k_114, k_115, k_98, k_103, k_116, k_119, k_47, k_82, k_50, k_51, k_99, k_700, k_197, ne9, ne9s, nI_ne0s, ↓reduceIte, hxU.1, k1]
        · rw [b3, show s + 3 * (c + 1) = s + 3 * c + 3 by omega, show 39 - c = 39 - (c + 1) + 1 by omega]
        · rw [show s + 3 * (c + 1) = s + 3 * c + 3 by omega]
          exact k3
        · rw [show s + 3 * (c + 1) = s + 3 * c + 3 by omega]
          exact k4
      · rw [if_neg hp] at b3
        refine Or.inr ⟨(m9, U), ?_, by rw [b3], b1, fun _ => by rw [b3]; exact c2⟩
        simp only [m_X4_readRights_L10]
        simp (disch := omega) only [k_0, k_1, k_2, k_3, k_4, k_5, k_6, k_7, k_8, k_9, k_10, k_14, k_16, k_28, k_30, k_48, k_49, k_57, k_100, k_110, k_127, k_128, k_196, k_255, k_1000, k_1024, k_10000, nI_add, nI_mul, nI_div, irm_nI, nle, nlt, neq, gd_t, inb_nI, cl_nI, bnd_eq, gdT, gdo, gb0, gb1, gbi, bi0, bi1, bi0r, Option.bind_some, bndE_some, ite_t, ite_f, k_m9, k_m1, k_13, k_15, k_18, k_19, k_112, k_114, k_115, k_98, k_103, k_116, k_119, k_47, k_82, k_50, k_51, k_99, k_700, k_197, ne9, ne9s, nI_ne0s, ↓reduceIte, hxU.1]) (x := (nI s, v1, S1)) ⟨by omega, by omega, rfl, a2, Z, h.2.1, rfl, a3, a4⟩
  simp only at e2
  subst e2
  exact ⟨S', by rw [e1]; rfl, e3, e4⟩
/-- the things that the text tells -/
def pm (len : Nat) (t : Nat → Nat) : Nat := lf (fun j => !(decide (1 + j < len) && isK (t (1 + j)))) 7
def tk (t : Nat → Nat) : Kd := fun j => kd (t (1 + j))
def noR : Rt := fun _ _ _ => false
/-- the reading of the text: where it is wrong, or none; the rights -/
def rdv (len : Nat) (t : Nat → Nat) : Int32 := if len = 0 ∨ t 0 ≠ 82 then nI 0 else if len ≤ 1 + pm len t then m9 else if t (1 + pm len t) = 47 ∧ 2 ≤ pm len t then (rlp len t (pm len t) 40 (pm len t + 2) noR).1 else nI (1 + pm len t)
def rdz (len : Nat) (t : Nat → Nat) : Rt := if len ≤ 1 + pm len t then noR else (rlp len t (pm len t) 40 (pm len t + 2) noR).2
theorem pm_7 : pm len t ≤ 7 := lf_le _ _
theorem pm_eq {c : Nat} (hc : c ≤ 7) (h1 : ∀ j, j < c → 1 + j < len ∧ isK (t (1 + j)) = true) (h2 : c < 7 → ¬ (1 + c < len ∧ isK (t (1 + c)) = true)) : pm len t = c := lf_eq hc (fun j hj => by rw [(h1 j hj).2, decide_eq_true (h1 j hj).1]; rfl) fun q => by
  have := h2 q
  cases hk : (decide (1 + c < len) && isK (t (1 + c)))
  · rfl
  · rw [Bool.and_eq_true, decide_eq_true_eq] at hk
    exact absurd hk this
theorem noR_WF (n : Nat) : WF n noR := fun x k y q => by cases q
theorem noR_cnt : cnt noR = 0 := fb_ct_zero.mpr fun _ _ => rfl
theorem readThing_ok (h : RepS S i n K Z) {c : Nat} (hc : c < 256) (hi : 29 ≤ i) : ∃ S', m_X4_readThing (nI c) i S = some (bi (isK c && decide (n < 7)), S') ∧ SameB i S S' ∧ (isK c = true → n < 7 → RepS S' i (n + 1) (fun j => if j = n then kd c else K j) Z) := by
  have hn := h.1
  have h0 := h.2.2.1
  by_cases h7 : n < 7
  · by_cases h1 : c = 112
    · obtain ⟨S', a1, a2, a3⟩ := addOne_ok h h7 true true (fun _ => rfl)
      refine ⟨S', ?_, a3, fun _ _ => by subst h1; exact a2⟩
      rw [bi_t] at a1
      unfold m_X4_readThing m_X4_readThing_J18 m_X4_readThing_J23 m_X4_readThing_J51 m_X4_readThing_J62 m_X4_readThing_J37 isK
      simp (disch := omega) only [k_0, k_1, k_2, k_3, k_4, k_5, k_6, k_7, k_8, k_9, k_10, k_14, k_16, k_28, k_30, k_48, k_49, k_57, k_100, k_110, k_127, k_128, k_196, k_255, k_1000, k_1024, k_10000, nI_add, nI_mul, nI_div, irm_nI, nle, nlt, neq, gd_t, inb_nI, cl_nI, bnd_eq, gdT, gdo, gb0, gb1, gbi, bi0, bi1, bi0r, Option.bind_some, bndE_some, ite_t, ite_f, k_m9, k_m1, k_13, k_15, k_18, k_19, k_112, k_114, k_115, k_98, k_103, k_116, k_119, k_47, k_82, k_50, k_51, k_99, k_700, k_197, ne9, ne9s, nI_ne0s, ↓reduceIte, h1, h0, a1, decide_eq_true h7]
      simp [bi]
    · by_cases h2 : c = 115
      · obtain ⟨S', a1, a2, a3⟩ := addOne_ok h h7 true false (fun q => by cases q)
        refine ⟨S', ?_, a3, fun _ _ => by subst h2; exact a2⟩
        rw [bi_t, bi_f] at a1
        unfold m_X4_readThing m_X4_readThing_J18 m_X4_readThing_J23 m_X4_readThing_J51 m_X4_readThing_J62 m_X4_readThing_J37 isK
        simp (disch := omega) only [k_0, k_1, k_2, k_3, k_4, k_5, k_6, k_7, k_8, k_9, k_10, k_14, k_16, k_28, k_30, k_48, k_49, k_57, k_100, k_110, k_127, k_128, k_196, k_255, k_1000, k_1024, k_10000, nI_add, nI_mul, nI_div, irm_nI, nle, nlt, neq, gd_t, inb_nI, cl_nI, bnd_eq, gdT, gdo, gb0, gb1, gbi, bi0, bi1, bi0r, Option.bind_some, bndE_some, ite_t, ite_f, k_m9, k_m1, k_13, k_15, k_18, k_19, k_112, k_114, k_115, k_98, k_103, k_116, k_119, k_47, k_82, k_50, k_51, k_99, k_700, k_197, ne9, ne9s, nI_ne0s, ↓reduceIte, h2, h0, a1, decide_eq_true h7]
        simp [bi]
      · by_cases h3 : c = 98
        · obtain ⟨S', a1, a2, a3⟩ := addOne_ok h h7 false false (fun q => by cases q)
          refine ⟨S', ?_, a3, fun _ _ => by subst h3; exact a2⟩
          rw [bi_f] at a1
          unfold m_X4_readThing m_X4_readThing_J18 m_X4_readThing_J23 m_X4_readThing_J51 m_X4_readThing_J62 m_X4_readThing_J37 isK
          simp (disch := omega) only [k_0, k_1, k_2, k_3, k_4, k_5, k_6, k_7, k_8, k_9, k_10, k_14, k_16, k_28, k_30, k_48, k_49, k_57, k_100, k_110, k_127, k_128, k_196, k_255, k_1000, k_1024, k_10000, nI_add, nI_mul, nI_div, irm_nI, nle, nlt, neq, gd_t, inb_nI, cl_nI, bnd_eq, gdT, gdo, gb0, gb1, gbi, bi0, bi1, bi0r, Option.bind_some, bndE_some, ite_t, ite_f, k_m9, k_m1, k_13, k_15, k_18, k_19, k_112, k_114, k_115, k_98, k_103, k_116, k_119, k_47, k_82, k_50, k_51, k_99, k_700, k_197, ne9, ne9s, nI_ne0s, ↓reduceIte, h3, h0, a1, decide_eq_true h7]
          simp [bi]
        · have hk : isK c = false := by unfold isK; simp [h1, h2, h3]
          refine ⟨S, ?_, SameB.rf _ _, fun q => by rw [hk] at q; cases q⟩
          unfold m_X4_readThing m_X4_readThing_J18 m_X4_readThing_J23 m_X4_readThing_J37
          simp (disch := omega) only [k_0, k_1, k_2, k_3, k_4, k_5, k_6, k_7, k_8, k_9, k_10, k_14, k_16, k_28, k_30, k_48, k_49, k_57, k_100, k_110, k_127, k_128, k_196, k_255, k_1000, k_1024, k_10000, nI_add, nI_mul, nI_div, irm_nI, nle, nlt, neq, gd_t, inb_nI, cl_nI, bnd_eq, gdT, gdo, gb0, gb1, gbi, bi0, bi1, bi0r, Option.bind_some, bndE_some, ite_t, ite_f, k_m9, k_m1, k_13, k_15, k_18, k_19, k_112, k_114, k_115, k_98, k_103, k_116, k_119, k_47, k_82, k_50, k_51, k_99, k_700, k_197, ne9, ne9s, nI_ne0s, ↓reduceIte, h1, h2, h3, hk, Bool.false_and]
          rfl
  · refine ⟨S, ?_, SameB.rf _ _, fun _ q => absurd q h7⟩
    unfold m_X4_readThing m_X4_readThing_J18 m_X4_readThing_J23 m_X4_readThing_J37
    simp (disch := omega) only [k_0, k_1, k_2, k_3, k_4, k_5, k_6, k_7, k_8, k_9, k_10, k_14, k_16, k_28, k_30, k_48, k_49, k_57, k_100, k_110, k_127, k_128, k_196, k_255, k_1000, k_1024, k_10000, nI_add, nI_mul, nI_div, irm_nI, nle, nlt, neq, gd_t, inb_nI, cl_nI, bnd_eq, gdT, gdo, gb0, gb1, gbi, bi0, bi1, bi0r, Option.bind_some, bndE_some, ite_t, ite_f, k_m9, k_m1, k_13, k_15, k_18, k_19, k_112, k_114, k_115, k_98, k_103, k_116, k_119, k_47, k_82, k_50, k_51, k_99, k_700, k_197, ne9, ne9s, nI_ne0s, ↓reduceIte, h0, decide_eq_false h7, Bool.and_false]
    rw [bi_f]
    simp
theorem readThings_ok {S1 : Hs} (hx : TxC S len t) (hi : 29 ≤ i) (h0 : 0 < len) (a3 : SameB i S S1) (a2 : RepS S1 i 0 (tk t) noR) : ∃ r, loopO (fun q : Int32 × Hs => m_X4_readInto_L26 i q.1 q.2) (nI 1, S1) = some r ∧ (match r with
      | .inl (v, U) => v = nI (1 + pm len t) ∧ SameB i S U ∧ RepS U i (pm len t) (tk t) noR ∧ (1 + pm len t < len → t (1 + pm len t) = 47) ∧ 1 + pm len t ≤ len
      | .inr (v, U) => v = nI (1 + pm len t) ∧ SameB i S U ∧ 1 + pm len t < len ∧ t (1 + pm len t) ≠ 47) := by
  have hlen := hx.2.1
  exact loopO_inv (f := fun q : Int32 × Hs => m_X4_readInto_L26 i q.1 q.2) (fun c q => c ≤ 7 ∧ 1 + c ≤ len ∧ q.1 = nI (1 + c) ∧ SameB i S q.2 ∧ RepS q.2 i c (tk t) noR ∧ ∀ j, j < c → 1 + j < len ∧ isK (t (1 + j)) = true) _ 8 (fun c q hq => by
    obtain ⟨v, U⟩ := q
    obtain ⟨hc, hcl, hv, b1, b2, b3⟩ := hq
    simp only at hv b1 b2
    subst hv
    have hxU := hx.sB b1 hi
    simp only [m_X4_readInto_L26]
    by_cases hl : 1 + c < len
    · obtain ⟨z1, z2⟩ := hxU.2.2 _ hl
      by_cases hs : t (1 + c) = 47
      · have hp : pm len t = c := pm_eq hc b3 fun _ e => by rw [hs] at e; exact absurd e.2 (by decide)
        refine Or.inr ⟨.inl (nI (1 + c), U), ?_, ?_⟩
        · simp (disch := omega) only [k_0, k_1, k_2, k_3, k_4, k_5, k_6, k_7, k_8, k_9, k_10, k_14, k_16, k_28, k_30, k_48, k_49, k_57, k_100, k_110, k_127, k_128, k_196, k_255, k_1000, k_1024, k_10000, nI_add, nI_mul, nI_div, irm_nI, nle, nlt, neq, gd_t, inb_nI, cl_nI, bnd_eq, gdT, gdo, gb0, gb1, gbi, bi0, bi1, bi0r, Option.bind_some, bndE_some, ite_t, ite_f, k_m9, k_m1, k_13, k_15, k_18, k_19, k_112, k_114, k_115, k_98, k_103, k_116, k_119, k_47, k_82, k_50, k_51, k_99, k_700, k_197, ne9, ne9s, nI_ne0s, ↓reduceIte, hxU.1, z1, hs]
        · show _ ∧ _
          rw [hp]
          exact ⟨rfl, b1, b2, fun _ => hs, by omega⟩
      · obtain ⟨V, k1, k2, k3⟩ := readThing_ok b2 z2 hi
        by_cases hok : isK (t (1 + c)) = true ∧ c < 7
        · rw [hok.1, decide_eq_true hok.2] at k1
          have k4 := (k3 hok.1 hok.2).cong (K' := tk t) (Z' := noR) (fun j hj => by
            by_cases hjc : j = c
            · rw [if_pos hjc, hjc]; rfl
            · rw [if_neg hjc]) fun _ _ _ => rfl
          refine Or.inl ⟨by omega, (nI (1 + c + 1), V), ?_, by omega, by omega, rfl, b1.tr k2, k4, fun j hj => ?_⟩
          · simp (disch := omega) only [k_0, k_1, k_2, k_3, k_4, k_5, k_6, k_7, k_8, k_9, k_10, k_14, k_16, k_28, k_30, k_48, k_49, k_57, k_100, k_110, k_127, k_128, k_196, k_255, k_1000, k_1024, k_10000, nI_add, nI_mul, nI_div, irm_nI, nle, nlt, neq, gd_t, inb_nI, cl_nI, bnd_eq, gdT, gdo, gb0, gb1, gbi, bi0, bi1, bi0r, Option.bind_some, bndE_some, ite_t, ite_f, k_m9, k_m1, k_13, k_15, k_18, k_19, k_112, k_114, k_115, k_98, k_103, k_116, k_119, k_47, k_82, k_50, k_51, k_99, k_700, k_197, ne9, ne9s, nI_ne0s, ↓reduceIte, hxU.1, z1, hs, k1, Bool.and_true, Bool.true_eq_false]
          · by_cases hjc : j = c
            · rw [hjc]; exact ⟨hl, hok.1⟩
            · exact b3 j (by omega)
        · have hp : pm len t = c := pm_eq hc b3 fun q e => hok ⟨e.2, q⟩
          have hno : (isK (t (1 + c)) && decide (c < 7)) = false := by
            cases hk : (isK (t (1 + c)) && decide (c < 7))
            · rfl
            · rw [Bool.and_eq_true, decide_eq_true_eq] at hk
              exact absurd hk hok
          refine Or.inr ⟨.inr (nI (1 + c), V), ?_, ?_⟩
          · simp (disch := omega) only [k_0, k_1, k_2, k_3, k_4, k_5, k_6, k_7, k_8, k_9, k_10, k_14, k_16, k_28, k_30, k_48, k_49, k_57, k_100, k_110, k_127, k_128, k_196, k_255, k_1000, k_1024, k_10000, nI_add, nI_mul, nI_div, irm_nI, nle, nlt, neq, gd_t, inb_nI, cl_nI, bnd_eq, gdT, gdo, gb0, gb1, gbi, bi0, bi1, bi0r, Option.bind_some, bndE_some, ite_t, ite_f, k_m9, k_m1, k_13, k_15, k_18, k_19, k_112, k_114, k_115, k_98, k_103, k_116, k_119, k_47, k_82, k_50, k_51, k_99, k_700, k_197, ne9, ne9s, nI_ne0s, ↓reduceIte, hxU.1, z1, hs, k1, hno]
          · show _ ∧ _
            rw [hp]
            exact ⟨rfl, b1.tr k2, hl, hs⟩
    · have hp : pm len t = c := pm_eq hc b3 fun _ e => hl e.1
      refine Or.inr ⟨.inl (nI (1 + c), U), ?_, ?_⟩
      · simp (disch := omega) only [k_0, k_1, k_2, k_3, k_4, k_5, k_6, k_7, k_8, k_9, k_10, k_14, k_16, k_28, k_30, k_48, k_49, k_57, k_100, k_110, k_127, k_128, k_196, k_255, k_1000, k_1024, k_10000, nI_add, nI_mul, nI_div, irm_nI, nle, nlt, neq, gd_t, inb_nI, cl_nI, bnd_eq, gdT, gdo, gb0, gb1, gbi, bi0, bi1, bi0r, Option.bind_some, bndE_some, ite_t, ite_f, k_m9, k_m1, k_13, k_15, k_18, k_19, k_112, k_114, k_115, k_98, k_103, k_116, k_119, k_47, k_82, k_50, k_51, k_99, k_700, k_197, ne9, ne9s, nI_ne0s, ↓reduceIte, hxU.1]
      · show _ ∧ _
        rw [hp]
        exact ⟨rfl, b1, b2, fun q => absurd q hl, hcl⟩) (x := (nI 1, S1)) ⟨by omega, by omega, rfl, a3, a2, fun j hj => by omega⟩
theorem rdv_no (h : len = 0 ∨ t 0 ≠ 82) : rdv len t = nI 0 := by unfold rdv; rw [if_pos h]
theorem rdv_all (h0 : len ≠ 0) (hR : t 0 = 82) (hl : len ≤ 1 + pm len t) : rdv len t = m9 ∧ rdz len t = noR := by
  unfold rdv rdz
  rw [if_neg (by omega), if_pos hl, if_pos hl]
  exact ⟨rfl, rfl⟩
theorem rdv_rights (h0 : len ≠ 0) (hR : t 0 = 82) (hl : ¬ len ≤ 1 + pm len t) (hs : t (1 + pm len t) = 47) (h2 : 2 ≤ pm len t) : rdv len t = (rlp len t (pm len t) 40 (pm len t + 2) noR).1 ∧ rdz len t = (rlp len t (pm len t) 40 (pm len t + 2) noR).2 := by
  unfold rdv rdz
  rw [if_neg (by omega), if_neg hl, if_neg hl, if_pos ⟨hs, h2⟩]
  exact ⟨rfl, rfl⟩
theorem rdv_stop (h0 : len ≠ 0) (hR : t 0 = 82) (hl : ¬ len ≤ 1 + pm len t) (hs : ¬ (t (1 + pm len t) = 47 ∧ 2 ≤ pm len t)) : rdv len t = nI (1 + pm len t) := by
  unfold rdv
  rw [if_neg (by omega), if_neg hl, if_neg hs]
theorem J66_ok {U : Hs} (hx : TxC U len t) (hi : 29 ≤ i) (h0 : len ≠ 0) (hR : t 0 = 82) (b2 : RepS U i (pm len t) (tk t) noR) (b3 : 1 + pm len t < len → t (1 + pm len t) = 47) : ∃ S', m_X4_readInto_J66 i (nI (1 + pm len t)) U = some (rdv len t, S') ∧ SameB i U S' ∧ (rdv len t = m9 → RepS S' i (pm len t) (tk t) (rdz len t)) := by
  have hlen := hx.2.1
  have hpm := pm_7 (len := len) (t := t)
  unfold m_X4_readInto_J66 m_X4_readInto_J97
  by_cases hl : len ≤ 1 + pm len t
  · obtain ⟨q1, q2⟩ := rdv_all h0 hR hl
    rw [q1, q2]
    simp (disch := omega) only [k_0, k_1, k_2, k_3, k_4, k_5, k_6, k_7, k_8, k_9, k_10, k_14, k_16, k_28, k_30, k_48, k_49, k_57, k_100, k_110, k_127, k_128, k_196, k_255, k_1000, k_1024, k_10000, nI_add, nI_mul, nI_div, irm_nI, nle, nlt, neq, gd_t, inb_nI, cl_nI, bnd_eq, gdT, gdo, gb0, gb1, gbi, bi0, bi1, bi0r, Option.bind_some, bndE_some, ite_t, ite_f, k_m9, k_m1, k_13, k_15, k_18, k_19, k_112, k_114, k_115, k_98, k_103, k_116, k_119, k_47, k_82, k_50, k_51, k_99, k_700, k_197, ne9, ne9s, nI_ne0s, ↓reduceIte, hx.1]
    exact ⟨U, rfl, SameB.rf _ _, fun _ => b2⟩
  · have hs := b3 (by omega)
    by_cases h2 : 2 ≤ pm len t
    · obtain ⟨q1, q2⟩ := rdv_rights h0 hR hl hs h2
      rw [q1, q2]
      obtain ⟨V, c1, c2, c3⟩ := readRights_ok b2 hx hi (show pm len t + 2 ≤ 110 by omega)
      generalize rlp len t (pm len t) 40 (pm len t + 2) noR = rr at *
      rw [show pm len t + 2 = 1 + pm len t + 1 by omega] at c1
      simp (disch := omega) only [k_0, k_1, k_2, k_3, k_4, k_5, k_6, k_7, k_8, k_9, k_10, k_14, k_16, k_28, k_30, k_48, k_49, k_57, k_100, k_110, k_127, k_128, k_196, k_255, k_1000, k_1024, k_10000, nI_add, nI_mul, nI_div, irm_nI, nle, nlt, neq, gd_t, inb_nI, cl_nI, bnd_eq, gdT, gdo, gb0, gb1, gbi, bi0, bi1, bi0r, Option.bind_some, bndE_some, ite_t, ite_f, k_m9, k_m1, k_13, k_15, k_18, k_19, k_112, k_114, k_115, k_98, k_103, k_116, k_119, k_47, k_82, k_50, k_51, k_99, k_700, k_197, ne9, ne9s, nI_ne0s, ↓reduceIte, hx.1, b2.2.2.1, c1]
      exact ⟨V, rfl, c2, c3⟩
    · have q1 := rdv_stop h0 hR hl (fun e => h2 e.2)
      rw [q1]
      simp (disch := omega) only [k_0, k_1, k_2, k_3, k_4, k_5, k_6, k_7, k_8, k_9, k_10, k_14, k_16, k_28, k_30, k_48, k_49, k_57, k_100, k_110, k_127, k_128, k_196, k_255, k_1000, k_1024, k_10000, nI_add, nI_mul, nI_div, irm_nI, nle, nlt, neq, gd_t, inb_nI, cl_nI, bnd_eq, gdT, gdo, gb0, gb1, gbi, bi0, bi1, bi0r, Option.bind_some, bndE_some, ite_t, ite_f, k_m9, k_m1, k_13, k_15, k_18, k_19, k_112, k_114, k_115, k_98, k_103, k_116, k_119, k_47, k_82, k_50, k_51, k_99, k_700, k_197, ne9, ne9s, nI_ne0s, ↓reduceIte, hx.1, b2.2.2.1]
      exact ⟨U, rfl, SameB.rf _ _, fun q => False.elim (by first | exact q | exact nI_ne9 (by omega) q)⟩
theorem readInto_ok (hx : TxC S len t) (hi : 29 ≤ i) : ∃ S', m_X4_readInto i S = some (rdv len t, S') ∧ SameB i S S' ∧ (rdv len t = m9 → RepS S' i (pm len t) (tk t) (rdz len t)) := by
  have hlen := hx.2.1
  obtain ⟨S1, a1, a2, a3⟩ := makeEmpty_ok S i
  have hx1 := hx.sB a3 hi
  have hpm := pm_7 (len := len) (t := t)
  unfold m_X4_readInto m_X4_readInto_J22
  rw [a1, Option.bind_some]
  by_cases h0 : len = 0
  · rw [rdv_no (Or.inl h0)]
    subst h0
    rw [hx1.1, if_pos (show nI 0 = 0 from rfl)]
    exact ⟨S1, rfl, a3, fun q => False.elim (by first | exact q | exact nI_ne9 (by omega) q)⟩
  obtain ⟨y1, y2⟩ := hx1.2.2 0 (by omega)
  by_cases hR : t 0 = 82
  · obtain ⟨r, e1, e2⟩ := readThings_ok hx hi (by omega) a3 (a2.cong (K' := tk t) (Z' := noR) (fun j hj => absurd hj (Nat.not_lt_zero j)) fun _ _ _ => rfl)
    simp (disch := omega) only [k_0, k_1, k_2, k_3, k_4, k_5, k_6, k_7, k_8, k_9, k_10, k_14, k_16, k_28, k_30, k_48, k_49, k_57, k_100, k_110, k_127, k_128, k_196, k_255, k_1000, k_1024, k_10000, nI_add, nI_mul, nI_div, irm_nI, nle, nlt, neq, gd_t, inb_nI, cl_nI, bnd_eq, gdT, gdo, gb0, gb1, gbi, bi0, bi1, bi0r, Option.bind_some, bndE_some, ite_t, ite_f, k_m9, k_m1, k_13, k_15, k_18, k_19, k_112, k_114, k_115, k_98, k_103, k_116, k_119, k_47, k_82, k_50, k_51, k_99, k_700, k_197, ne9, ne9s, nI_ne0s, ↓reduceIte, hx1.1, h0, y1, hR]
    rw [e1, Option.bind_some]
    rcases r with ⟨v, U⟩ | ⟨v, U⟩
    · obtain ⟨b0, b1, b2, b3, b4⟩ := e2
      subst b0
      obtain ⟨V, c1, c2, c3⟩ := J66_ok (hx.sB b1 hi) hi h0 hR b2 b3
      exact ⟨V, c1, b1.tr c2, c3⟩
    · obtain ⟨b0, b1, b2, b3⟩ := e2
      subst b0
      rw [rdv_stop h0 hR (by omega) (fun e => b3 e.1)]
      exact ⟨U, rfl, b1, fun q => False.elim (by first | exact q | exact nI_ne9 (by omega) q)⟩
  · rw [rdv_no (Or.inr hR)]
    simp (disch := omega) only [k_0, k_1, k_2, k_3, k_4, k_5, k_6, k_7, k_8, k_9, k_10, k_14, k_16, k_28, k_30, k_48, k_49, k_57, k_100, k_110, k_127, k_128, k_196, k_255, k_1000, k_1024, k_10000, nI_add, nI_mul, nI_div, irm_nI, nle, nlt, neq, gd_t, inb_nI, cl_nI, bnd_eq, gdT, gdo, gb0, gb1, gbi, bi0, bi1, bi0r, Option.bind_some, bndE_some, ite_t, ite_f, k_m9, k_m1, k_13, k_15, k_18, k_19, k_112, k_114, k_115, k_98, k_103, k_116, k_119, k_47, k_82, k_50, k_51, k_99, k_700, k_197, ne9, ne9s, nI_ne0s, ↓reduceIte, hx1.1, h0, y1, hR]
    exact ⟨S1, rfl, a3, fun q => False.elim (by first | exact q | exact nI_ne9 (by omega) q)⟩
