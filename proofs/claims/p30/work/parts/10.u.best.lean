/-! the best of some: who is needed, whose sleep bars most, the most dangerous right -/
/-- the first number below c with q and the smallest z; N: none -/
def mb (N : Nat) (q : Nat → Bool) (z : Nat → Nat) : Nat → Nat
  | 0 => N
  | c + 1 => if q c = true ∧ (mb N q z c = N ∨ z c < z (mb N q z c)) then c else mb N q z c
theorem mb_succ (N : Nat) (q : Nat → Bool) (z : Nat → Nat) (c : Nat) : mb N q z (c + 1) = if q c = true ∧ (mb N q z c = N ∨ z c < z (mb N q z c)) then c else mb N q z c := rfl
theorem mb_lt {N : Nat} {q : Nat → Bool} {z : Nat → Nat} : ∀ {c : Nat}, mb N q z c = N ∨ mb N q z c < c ∧ q (mb N q z c) = true
  | 0 => Or.inl rfl
  | c + 1 => by
    rw [mb_succ]
    by_cases h : q c = true ∧ (mb N q z c = N ∨ z c < z (mb N q z c))
    · rw [if_pos h]
      exact Or.inr ⟨by omega, h.1⟩
    · rw [if_neg h]
      rcases mb_lt (N := N) (q := q) (z := z) (c := c) with h1 | h1
      · exact Or.inl h1
      · exact Or.inr ⟨by omega, h1.2⟩
theorem mb_none {N : Nat} {q : Nat → Bool} {z : Nat → Nat} : ∀ {c : Nat}, c ≤ N → mb N q z c = N → ∀ s, s < c → q s = false
  | 0, _, _, s, hs => absurd hs (Nat.not_lt_zero s)
  | c + 1, hN, h, s, hs => by
    rw [mb_succ] at h
    by_cases hc : q c = true ∧ (mb N q z c = N ∨ z c < z (mb N q z c))
    · rw [if_pos hc] at h
      omega
    · rw [if_neg hc] at h
      by_cases hsc : s = c
      · subst hsc
        cases hq : q s
        · rfl
        · exact absurd ⟨hq, Or.inl h⟩ hc
      · exact mb_none (by omega) h s (by omega)
theorem mb_no {N : Nat} {q : Nat → Bool} {z : Nat → Nat} : ∀ {c : Nat}, (∀ s, s < c → q s = false) → mb N q z c = N
  | 0, _ => rfl
  | c + 1, h => by
    rw [mb_succ, if_neg (fun e => by rw [h c (by omega)] at e; exact absurd e.1 (by decide))]
    exact mb_no fun s hs => h s (by omega)
variable {S : Hs} {n : Nat} {K : Kd} {Z : Rt} {A : Nat → Bool}
/-! who is needed -/
def As (s : Nat) : Nat → Bool := fun j => s.testBit j
def szs (s : Nat) : Nat := fb_ct (As s) 7
theorem As_big {s j : Nat} (hs : s < 128) (hj : 7 ≤ j) : As s j = false := Nat.testBit_lt_two_pow (Nat.lt_of_lt_of_le (show s < 2 ^ 7 from hs) (Nat.pow_le_pow_right (by decide) hj))
theorem bt_set_nI {s j : Nat} (hj : j < 32) : bt (nI s) j = As s j := bt_nI s hj
theorem szs_32 {s : Nat} (hs : s < 128) : fb_ct (bt (nI s)) 32 = szs s := by
  rw [fb_ct_cong (q := As s) fun b hb => bt_set_nI hb]
  exact ct_7 (by omega) fun b hb _ => As_big hs hb
theorem szs_8 {s : Nat} (hs : s < 128) : fb_ct (bt (nI s)) 8 = szs s := by
  rw [fb_ct_cong (q := As s) fun b hb => bt_set_nI (by omega)]
  exact ct_7 (by omega) fun b hb _ => As_big hs hb
theorem szs_7 (s : Nat) : szs s ≤ 7 := fb_ct_le _ _
/-- a set of things below 7, as a number -/
theorem set_num {v : Int32} {A : Nat → Bool} (hA : ∀ j, 7 ≤ j → A j = false) (h : ∀ j, j < 32 → bt v j = A j) : ∃ a, a < 128 ∧ v = nI a ∧ As a = A := by
  obtain ⟨h1, h2⟩ := nI_ofV v
  have hbit : ∀ j, As v.toBitVec.toNat j = A j := by
    intro j
    by_cases hj : j < 32
    · rw [← bt_set_nI hj, ← h1, h j hj]
    · rw [hA j (by omega)]
      exact Nat.testBit_lt_two_pow (Nat.lt_of_lt_of_le h2 (Nat.pow_le_pow_right (by decide) (by omega)))
  refine ⟨v.toBitVec.toNat, ?_, h1, funext hbit⟩
  exact Nat.lt_pow_two_of_testBit _ fun j hj => (hbit j).trans (hA j hj)
theorem set_eq {a b : Nat} (h : As a = As b) : a = b := Nat.eq_of_testBit_eq fun j => congrFun h j
theorem aw_big (hn : n ≤ 7) {j : Nat} (hj : 7 ≤ j) : aw n K j = false := by
  unfold aw
  rw [decide_eq_false (by omega)]
  rfl
/-- whether all of s are among those of A -/
noncomputable def sbs (A : Nat → Bool) (s : Nat) : Bool := B (∀ j, As s j = true → A j = true)
theorem sbs_iff {s : Nat} : sbs A s = true ↔ ∀ j, As s j = true → A j = true := B_iff
theorem sub_test {s : Nat} (hs : s < 128) {w : Int32} (hw : ∀ j, j < 32 → bt w j = A j) : ((nI s) &&& (w ^^^ m1) = nI 0) = (sbs A s = true) := by
  apply propext
  rw [sbs_iff]
  constructor
  · intro h j hj
    by_cases hj32 : j < 32
    · have : bt ((nI s) &&& (w ^^^ m1)) j = false := by rw [h]; exact b_0 j
      rw [b_and, b_xor, bt_m1 hj32, bt_set_nI hj32, hj, hw j hj32] at this
      cases ha : A j
      · rw [ha] at this; cases this
      · rfl
    · rw [As_big hs (by omega)] at hj; cases hj
  · intro h
    apply b_ext
    intro j hj
    rw [b_and, b_xor, bt_m1 hj, bt_set_nI hj, hw j hj]
    show _ = bt (0 : Int32) j
    rw [b_0]
    cases hq : As s j
    · rfl
    · rw [h j hq]; rfl
noncomputable def ndq (A : Nat → Bool) (Z : Rt) (gx gk gy s : Nat) : Bool := sbs A s && Clo (As s) Z gx gk gy
noncomputable def ndb (A : Nat → Bool) (Z : Rt) (gx gk gy c : Nat) : Nat := mb 128 (ndq A Z gx gk gy) szs c
noncomputable def ndv (A : Nat → Bool) (Z : Rt) (gx gk gy c : Nat) : Int32 := if ndb A Z gx gk gy c = 128 then m9 else nI (ndb A Z gx gk gy c)
theorem ndb_lt {gx gk gy c : Nat} (hc : c ≤ 128) : ndb A Z gx gk gy c ≤ 128 := by
  rcases mb_lt (N := 128) (q := ndq A Z gx gk gy) (z := szs) (c := c) with h | h
  · unfold ndb; omega
  · unfold ndb; omega
theorem comesWith_ok (h : RepS S 29 n K Z) {s gx gk gy : Nat} (hs : s < 128) (hsub : sbs (aw n K) s = true) (hx : gx < 7) (hk : gk < 4) (hy : gy < 7) : ∃ S', m_X5_comesWith (nI s) (nI (ix gx gk gy)) S = some (bi (Clo (As s) Z gx gk gy), S') ∧ SameB 65 S S' := by
  have hsub := sbs_iff.mp hsub
  obtain ⟨S1, e1, e2, e3⟩ := copyFrom_ok (i := 65) h (by omega)
  have e4 := awake_put e2 (w := nI s) (A := As s) (fun j hj => by
    rw [bt_set_nI hj]
    cases hq : As s j
    · simp
    · simp [(aw_iff.mp (hsub j hq)).1]) (fun j hj hq => by rw [(aw_iff.mp (hsub j hq)).2]; omega)
  have hA : aw n (awK K (As s)) = As s := by
    funext j
    unfold awK aw
    cases hq : As s j
    · by_cases hk : K j = 0 <;> simp [hk, hq]
    · have := aw_iff.mp (hsub j hq)
      simp [this.1, this.2, hq]
  obtain ⟨S2, g1, g2⟩ := spreadUntil_ok e4 hx hk hy
  rw [hA] at g1
  refine ⟨S2, ?_, (e3.tr (SameB.sI _ _)).tr g2⟩
  unfold m_X5_comesWith
  simp (disch := omega) only [k_0, k_1, k_2, k_3, k_4, k_5, k_6, k_7, k_8, k_9, k_10, k_14, k_16, k_28, k_30, k_48, k_49, k_57, k_100, k_110, k_127, k_128, k_196, k_255, k_1000, k_1024, k_10000, nI_add, nI_mul, nI_div, irm_nI, nle, nlt, neq, gd_t, inb_nI, cl_nI, bnd_eq, gdT, gdo, gb0, gb1, gbi, bi0, bi1, bi0r, Option.bind_some, bndE_some, ite_t, ite_f, k_m9, k_m1, k_13, k_15, k_18, k_19, k_112, k_114, k_115, k_98, k_103, k_116, k_119, k_47, k_82, k_50, k_51, k_99, k_700, k_197, ne9, ne9s, nI_ne0s, ↓reduceIte, e1, g1]
/-- the class's best set -/
theorem needed_loop (h : RepS S 29 n K Z) {gx gk gy a : Nat} (hx : gx < 7) (hk : gk < 4) (hy : gy < 7) (ha : a < 128) (haw : As a = aw n K) (hg : gI S 29 2 = nI a) (hcm : Clo (aw n K) Z gx gk gy = true) : ∃ S', loopO (fun q => m_X5_needed_L46 (nI (ix gx gk gy)) q.1 q.2.1 q.2.2) (nI a, nI 0, S) = some (ndv (aw n K) Z gx gk gy 128, S') ∧ SameB 65 S S' := by
  have hn := h.1
  have hqa : ndq (aw n K) Z gx gk gy a = true := by
    unfold ndq
    rw [sbs_iff.mpr (fun j hj => by rw [← haw]; exact hj), haw, hcm]
    rfl
  obtain ⟨⟨v, S'⟩, e1, e2, e3⟩ := loopO_inv (f := fun q : Int32 × Int32 × Hs => m_X5_needed_L46 (nI (ix gx gk gy)) q.1 q.2.1 q.2.2) (fun c q => c ≤ 128 ∧ q.2.1 = nI c ∧ q.1 = nI (if ndb (aw n K) Z gx gk gy c = 128 then a else ndb (aw n K) Z gx gk gy c) ∧ SameB 65 S q.2.2) (fun r => r.1 = ndv (aw n K) Z gx gk gy 128 ∧ SameB 65 S r.2) 128 (fun c q hq => by
    obtain ⟨b, v, U⟩ := q
    obtain ⟨hc, hv, hb, a1⟩ := hq
    simp only at hv hb a1
    subst hv
    by_cases hc2 : c < 128
    · refine Or.inl ⟨hc2, ?_⟩
      have hst : ndb (aw n K) Z gx gk gy (c + 1) = if ndq (aw n K) Z gx gk gy c = true ∧ (ndb (aw n K) Z gx gk gy c = 128 ∨ szs c < szs (ndb (aw n K) Z gx gk gy c)) then c else ndb (aw n K) Z gx gk gy c := rfl
      have hle := ndb_lt (A := aw n K) (Z := Z) (gx := gx) (gk := gk) (gy := gy) hc
      have hU : RepS U 29 n K Z := h.keep a1 (by omega) (by omega)
      have hgU : gI U 29 2 = nI a := (a1.1 _ _ (by omega)).trans hg
      have ht := sub_test (A := aw n K) hc2 (w := nI a) fun j hj => by rw [bt_set_nI hj, haw]
      generalize hbb : (if ndb (aw n K) Z gx gk gy c = 128 then a else ndb (aw n K) Z gx gk gy c) = bb at hb
      subst hb
      have hb128 : bb < 128 := by
        rw [← hbb]
        split <;> omega
      have s1 := szs_7 c
      have s2 := szs_7 bb
      have keep : ¬ (ndq (aw n K) Z gx gk gy c = true ∧ szs c < szs bb) → nI bb = nI (if ndb (aw n K) Z gx gk gy (c + 1) = 128 then a else ndb (aw n K) Z gx gk gy (c + 1)) := fun e => by
        rw [hst]
        by_cases h1 : ndq (aw n K) Z gx gk gy c = true ∧ (ndb (aw n K) Z gx gk gy c = 128 ∨ szs c < szs (ndb (aw n K) Z gx gk gy c))
        · rw [if_pos h1, if_neg (by omega)]
          have h2 : ndb (aw n K) Z gx gk gy c = 128 := by
            refine Classical.byContradiction fun h2 => e ⟨h1.1, ?_⟩
            rw [← hbb, if_neg h2]
            omega
          rw [if_pos h2] at hbb
          subst hbb
          -- c is a subset of a, and not smaller
          have hsub : ∀ j, As c j = true → As a j = true := fun j hj => by
            have := h1.1
            unfold ndq at this
            rw [Bool.and_eq_true] at this
            rw [haw]
            exact sbs_iff.mp this.1 j hj
          have : As c = As a := by
            funext j
            cases h3 : As a j
            · cases h4 : As c j
              · rfl
              · rw [hsub j h4] at h3; cases h3
            · cases h4 : As c j
              · refine absurd ⟨h1.1, ?_⟩ e
                refine fb_ct_lt (i := j) (fun k _ hk => hsub k hk) ?_ h4 h3
                refine Nat.lt_of_not_le fun q => ?_
                rw [As_big ha q] at h3; cases h3
              · rfl
          rw [set_eq this]
        · rw [if_neg h1, hbb]
      simp only [m_X5_needed_L46, m_X5_needed_J74, m_X5_needed_J109]
      cases hs : sbs (aw n K) c
      · rw [hs] at ht
        simp (disch := omega) only [k_0, k_1, k_2, k_3, k_4, k_5, k_6, k_7, k_8, k_9, k_10, k_14, k_16, k_28, k_30, k_48, k_49, k_57, k_100, k_110, k_127, k_128, k_196, k_255, k_1000, k_1024, k_10000, nI_add, nI_mul, nI_div, irm_nI, nle, nlt, neq, gd_t, inb_nI, cl_nI, bnd_eq, gdT, gdo, gb0, gb1, gbi, bi0, bi1, bi0r, Option.bind_some, bndE_some, ite_t, ite_f, k_m9, k_m1, k_13, k_15, k_18, k_19, k_112, k_114, k_115, k_98, k_103, k_116, k_119, k_47, k_82, k_50, k_51, k_99, k_700, k_197, ne9, ne9s, nI_ne0s, ↓reduceIte, hgU, ht, Bool.false_eq_true]
        exact ⟨_, rfl, by omega, rfl, keep fun e => by unfold ndq at e; rw [hs] at e; exact absurd e.1 Bool.false_ne_true, a1⟩
      · rw [hs] at ht
        by_cases hlt : szs c < szs bb
        · obtain ⟨V, k1, k2⟩ := comesWith_ok hU hc2 hs hx hk hy
          cases hcl : Clo (As c) Z gx gk gy
          · simp (disch := omega) only [k_0, k_1, k_2, k_3, k_4, k_5, k_6, k_7, k_8, k_9, k_10, k_14, k_16, k_28, k_30, k_48, k_49, k_57, k_100, k_110, k_127, k_128, k_196, k_255, k_1000, k_1024, k_10000, nI_add, nI_mul, nI_div, irm_nI, nle, nlt, neq, gd_t, inb_nI, cl_nI, bnd_eq, gdT, gdo, gb0, gb1, gbi, bi0, bi1, bi0r, Option.bind_some, bndE_some, ite_t, ite_f, k_m9, k_m1, k_13, k_15, k_18, k_19, k_112, k_114, k_115, k_98, k_103, k_116, k_119, k_47, k_82, k_50, k_51, k_99, k_700, k_197, ne9, ne9s, nI_ne0s, ↓reduceIte, hgU, ht, bitCount_ok, szs_32 hc2, szs_32 hb128, k1, hcl]
            exact ⟨_, rfl, by omega, rfl, keep fun e => by unfold ndq at e; rw [hcl, Bool.and_false] at e; exact absurd e.1 (by decide), a1.tr k2⟩
          · simp (disch := omega) only [k_0, k_1, k_2, k_3, k_4, k_5, k_6, k_7, k_8, k_9, k_10, k_14, k_16, k_28, k_30, k_48, k_49, k_57, k_100, k_110, k_127, k_128, k_196, k_255, k_1000, k_1024, k_10000, nI_add, nI_mul, nI_div, irm_nI, nle, nlt, neq, gd_t, inb_nI, cl_nI, bnd_eq, gdT, gdo, gb0, gb1, gbi, bi0, bi1, bi0r, Option.bind_some, bndE_some, ite_t, ite_f, k_m9, k_m1, k_13, k_15, k_18, k_19, k_112, k_114, k_115, k_98, k_103, k_116, k_119, k_47, k_82, k_50, k_51, k_99, k_700, k_197, ne9, ne9s, nI_ne0s, ↓reduceIte, hgU, ht, bitCount_ok, szs_32 hc2, szs_32 hb128, k1, hcl, Bool.true_eq_false]
            refine ⟨_, rfl, by omega, rfl, ?_, a1.tr k2⟩
            show nI c = _
            have : ndb (aw n K) Z gx gk gy (c + 1) = c := by
              rw [hst, if_pos]
              refine ⟨by unfold ndq; rw [hs, hcl]; rfl, ?_⟩
              by_cases h2 : ndb (aw n K) Z gx gk gy c = 128
              · exact Or.inl h2
              · rw [if_neg h2] at hbb
                rw [hbb]
                exact Or.inr hlt
            rw [this, if_neg (by omega)]
        · simp (disch := omega) only [k_0, k_1, k_2, k_3, k_4, k_5, k_6, k_7, k_8, k_9, k_10, k_14, k_16, k_28, k_30, k_48, k_49, k_57, k_100, k_110, k_127, k_128, k_196, k_255, k_1000, k_1024, k_10000, nI_add, nI_mul, nI_div, irm_nI, nle, nlt, neq, gd_t, inb_nI, cl_nI, bnd_eq, gdT, gdo, gb0, gb1, gbi, bi0, bi1, bi0r, Option.bind_some, bndE_some, ite_t, ite_f, k_m9, k_m1, k_13, k_15, k_18, k_19, k_112, k_114, k_115, k_98, k_103, k_116, k_119, k_47, k_82, k_50, k_51, k_99, k_700, k_197, ne9, ne9s, nI_ne0s, ↓reduceIte, hgU, ht, bitCount_ok, szs_32 hc2, szs_32 hb128]
          exact ⟨_, rfl, by omega, rfl, keep fun e => hlt e.2, a1⟩
    · obtain rfl : c = 128 := by omega
      refine Or.inr ⟨(b, U), ?_, ?_, a1⟩
      · simp only [m_X5_needed_L46]
        simp (disch := omega) only [k_0, k_1, k_2, k_3, k_4, k_5, k_6, k_7, k_8, k_9, k_10, k_14, k_16, k_28, k_30, k_48, k_49, k_57, k_100, k_110, k_127, k_128, k_196, k_255, k_1000, k_1024, k_10000, nI_add, nI_mul, nI_div, irm_nI, nle, nlt, neq, gd_t, inb_nI, cl_nI, bnd_eq, gdT, gdo, gb0, gb1, gbi, bi0, bi1, bi0r, Option.bind_some, bndE_some, ite_t, ite_f, k_m9, k_m1, k_13, k_15, k_18, k_19, k_112, k_114, k_115, k_98, k_103, k_116, k_119, k_47, k_82, k_50, k_51, k_99, k_700, k_197, ne9, ne9s, nI_ne0s, ↓reduceIte]
      · show b = _
        have h1 : ¬ ndb (aw n K) Z gx gk gy 128 = 128 := fun q => by
          rw [mb_none (Nat.le_refl _) q a ha] at hqa; cases hqa
        rw [hb, if_neg h1]
        unfold ndv
        rw [if_neg h1]) (x := (nI a, nI 0, S)) ⟨by omega, rfl, rfl, SameB.rf _ _⟩
  simp only at e2
  subst e2
  exact ⟨S', e1, e3⟩
theorem ndv_no {gx gk gy : Nat} (h : Clo A Z gx gk gy = false) : ndv A Z gx gk gy 128 = m9 := by
  have : ndb A Z gx gk gy 128 = 128 := mb_no fun s _ => by
    cases hq : ndq A Z gx gk gy s
    · rfl
    · unfold ndq at hq
      rw [Bool.and_eq_true] at hq
      rw [Clo_awake (sbs_iff.mp hq.1) gx gk gy hq.2] at h
      cases h
  unfold ndv
  rw [if_pos this]
