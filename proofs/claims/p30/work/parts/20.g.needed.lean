/-! with the needed persons alone a right comes; with one fewer it does not -/
def back (c : Ab) : List Ab → Ab
  | [] => c
  | d :: l => back d l
theorem mb_min {N : Nat} {q : Nat → Bool} {z : Nat → Nat} : ∀ {c : Nat}, c ≤ N → ∀ s, s < c → q s = true → mb N q z c < c ∧ q (mb N q z c) = true ∧ z (mb N q z c) ≤ z s
  | 0, _, s, hs, _ => absurd hs (Nat.not_lt_zero s)
  | c + 1, hN, s, hs, hq => by
    rw [mb_succ]
    have h1 := mb_lt (N := N) (q := q) (z := z) (c := c)
    by_cases hc : q c = true ∧ (mb N q z c = N ∨ z c < z (mb N q z c))
    · rw [if_pos hc]
      refine ⟨by omega, hc.1, ?_⟩
      by_cases e : s = c
      · subst e; exact Nat.le_refl _
      · have := mb_min (N := N) (q := q) (z := z) (c := c) (by omega) s (by omega) hq
        rcases hc.2 with q1 | q1
        · omega
        · omega
    · rw [if_neg hc]
      by_cases e : s = c
      · subst e
        rcases h1 with q1 | q1
        · exact absurd ⟨hq, Or.inl q1⟩ hc
        · refine ⟨by omega, q1.2, ?_⟩
          have : ¬ z s < z (mb N q z s) := fun q2 => hc ⟨hq, Or.inr q2⟩
          omega
      · have := mb_min (N := N) (q := q) (z := z) (c := c) (by omega) s (by omega) hq
        exact ⟨by omega, this.2⟩
section ND
variable {S : Hs} {n : Nat} {K : Kd} {Z : Rt}
/-- the states come back, one by one -/
theorem undo_loop {c c0 : Ab} {l : List Ab} (h : CP S c l) (hb : back c l = c0) (hl : l.length < 1000) : ∃ U, loopO (fun q : Int32 × Int32 × Hs => m_L_needed_L231 (nI l.length) q.1 q.2.1 q.2.2) (nI 1, 0, S) = some (nI 1, U) ∧ CP U c0 [] := by
  obtain ⟨rr, l1, U, rfl, l2⟩ := loopO_inv (f := fun q : Int32 × Int32 × Hs => m_L_needed_L231 (nI l.length) q.1 q.2.1 q.2.2)
    (fun i q => i ≤ l.length ∧ ∃ U c' l', q = (nI 1, nI i, U) ∧ CP U c' l' ∧ l'.length + i = l.length ∧ back c' l' = c0)
    (fun rr => ∃ U, rr = (nI 1, U) ∧ CP U c0 []) l.length (fun i q hq => by
      obtain ⟨hi, U, c', l', rfl, b1, b2, b3⟩ := hq
      by_cases hil : i < l.length
      · cases l' with
        | nil => simp at b2; omega
        | cons d l' =>
          obtain ⟨v, U2, c1, c2, c3⟩ := undo_c b1
          simp only [List.length_cons] at b2
          refine Or.inl ⟨hil, (nI 1, nI (i + 1), U2), ?_, by omega, U2, d, l', rfl, c3, by omega, b3⟩
          simp only [m_L_needed_L231]
          unfold m_L_needed_J255
          rw [if_neg (by rw [nle (by omega) (by omega)]; omega), if_neg (show ¬ nI 1 = (0 : Int32) by decide), c1, bndX_l, if_neg (not_neg (show v < 1000000 by omega)), show nI i + 1 = nI (i + 1) from nI_add _ _]
          rfl
      · obtain rfl : i = l.length := by omega
        obtain rfl : l' = [] := List.eq_nil_of_length_eq_zero (by omega)
        refine Or.inr ⟨(nI 1, U), ?_, U, rfl, ?_⟩
        · simp only [m_L_needed_L231]
          rw [if_pos (by rw [nle (by omega) (by omega)]; omega)]
        · have : c' = c0 := b3
          rw [← this]; exact b1) (x := (nI 1, 0, S)) ⟨Nat.zero_le _, S, c, l, rfl, h, by omega, hb⟩
  exact ⟨U, l1, l2⟩
def slK (K : Kd) (s i : Nat) : Kd := fun j => if j < i ∧ K j = 1 ∧ As s j = false then 2 else K j
theorem slK_0 (s : Nat) : slK K s 0 = K := by
  funext j
  unfold slK
  rw [if_neg (by omega)]
theorem slK_at (s i : Nat) : slK K s i i = K i := by
  unfold slK
  rw [if_neg (by omega)]
theorem slK_put {s i : Nat} (h1 : K i = 1) (h2 : As s i = false) : wkK (slK K s i) i false = slK K s (i + 1) := by
  funext j
  unfold wkK slK
  by_cases e : j = i
  · subst e
    simp [h1, h2]
  · rw [if_neg e]
    by_cases q : j < i ∧ K j = 1 ∧ As s j = false
    · rw [if_pos q, if_pos ⟨by omega, q.2⟩]
    · rw [if_neg q, if_neg (fun q2 => q ⟨by omega, q2.2⟩)]
theorem slK_no {s i : Nat} (h : ¬ (K i = 1 ∧ As s i = false)) : slK K s i = slK K s (i + 1) := by
  funext j
  unfold slK
  by_cases e : j = i
  · subst e
    rw [if_neg (by omega), if_neg (fun q => h q.2)]
  · by_cases q : j < i ∧ K j = 1 ∧ As s j = false
    · rw [if_pos q, if_pos ⟨by omega, q.2⟩]
    · rw [if_neg q, if_neg (fun q2 => q ⟨by omega, q2.2⟩)]
theorem slK_aw {s : Nat} (hs : ∀ j, As s j = true → aw n K j = true) : aw n (slK K s n) = As s := by
  funext j
  rw [Bool.eq_iff_iff, aw_iff]
  unfold slK
  constructor
  · rintro ⟨h1, h2⟩
    by_cases q : j < n ∧ K j = 1 ∧ As s j = false
    · rw [if_pos q] at h2; cases h2
    · rw [if_neg q] at h2
      cases hq : As s j
      · exact absurd ⟨h1, h2, hq⟩ q
      · rfl
  · intro h
    have := aw_iff.mp (hs j h)
    refine ⟨this.1, ?_⟩
    rw [if_neg (by rw [h]; simp)]
    exact this.2
theorem bit_s {s i : Nat} (hi : i < 32) : ((nI s) >>> (nI i &&& 31)) &&& 1 = bi (As s i) := by
  have := and1 (nI s) hi
  rw [bt_nI s hi] at this
  exact this
/-- the others go to sleep -/
theorem needed50 (h : CP S (n, K, Z) []) {s : Nat} (hs : ∀ j, As s j = true → aw n K j = true) (x k y : Int32) : ∃ U l, loopO (fun q : Int32 × Int32 × Int32 × Hs => m_L_needed_L50 (nI n) x k y (nI s) q.1 q.2.1 q.2.2.1 q.2.2.2) (nI 1, 0, 0, S) = some (nI 1, nI l.length, U) ∧ CP U (n, slK K s n, Z) l ∧ l.length ≤ n ∧ back (n, slK K s n, Z) l = (n, K, Z) := by
  have hn := h.rs.1
  obtain ⟨rr, l1, U, l, rfl, l2⟩ := loopO_inv (f := fun q : Int32 × Int32 × Int32 × Hs => m_L_needed_L50 (nI n) x k y (nI s) q.1 q.2.1 q.2.2.1 q.2.2.2)
    (fun i q => i ≤ n ∧ ∃ U l, q = (nI 1, nI l.length, nI i, U) ∧ CP U (n, slK K s i, Z) l ∧ l.length ≤ i ∧ back (n, slK K s i, Z) l = (n, K, Z))
    (fun rr => ∃ U l, rr = (nI 1, nI (List.length l), U) ∧ CP U (n, slK K s n, Z) l ∧ l.length ≤ n ∧ back (n, slK K s n, Z) l = (n, K, Z)) n (fun i q hq => by
      obtain ⟨hi, U, l, rfl, b1, b2, b3⟩ := hq
      by_cases hin : i < n
      · obtain ⟨U1, c1, c2⟩ := thing_class b1.rs hin (show 1 < 7 by omega)
        have hv : thv n (slK K s i) Z i 1 = bi (decide (K i = 1)) := by
          unfold thv
          rw [if_neg (by omega), if_pos rfl, slK_at]
        rw [hv] at c1
        have c1' : m_X5_thing (nI i) 1 U = some (.inl (bi (decide (K i = 1))), U1) := c1
        have b1' := b1.kp c2
        have e1 : ¬ nI n ≤ nI i := by rw [nle (by omega) (by omega)]; omega
        have e2 : ¬ nI 1 = (0 : Int32) := by decide
        by_cases hK : K i = 1
        · rw [decide_eq_true hK] at c1'
          cases hsi : As s i
          · obtain ⟨U2, d1, d2⟩ := wake_c b1' (by omega) hin (by rw [slK_at, hK]; decide) false
            have d1' : m_X5_wake (nI i) 0 U1 = _ := d1
            rw [slK_put hK hsi] at d2
            refine Or.inl ⟨hin, (nI 1, nI (l.length + 1), nI (i + 1), U2), ?_, by omega, U2, _ :: l, rfl, d2, by simp only [List.length_cons]; omega, b3⟩
            simp only [m_L_needed_L50]
            unfold m_L_needed_J97 m_L_needed_J134
            rw [if_neg e1, if_neg e2, c1', bndX_l, if_pos (show bi true = (1 : Int32) from rfl), bit_s (show i < 32 by omega), hsi, if_pos (show bi false = (0 : Int32) from rfl), d1', bndX_l, if_neg (not_neg (Nat.lt_of_le_of_lt (cnt_196 _) (by omega))), show nI i + 1 = nI (i + 1) from nI_add _ _, show nI l.length + 1 = nI (l.length + 1) from nI_add _ _]
            rfl
          · obtain ⟨U2, d1, d2⟩ := thing_class b1'.rs hin (show 1 < 7 by omega)
            rw [hv, decide_eq_true hK] at d1
            have d1' : m_X5_thing (nI i) 1 U1 = some (.inl (bi true), U2) := d1
            rw [slK_no (show ¬ (K i = 1 ∧ As s i = false) by rw [hsi]; simp)] at b1' b3
            refine Or.inl ⟨hin, (nI 1, nI l.length, nI (i + 1), U2), ?_, by omega, U2, l, rfl, b1'.kp d2, by omega, b3⟩
            simp only [m_L_needed_L50]
            unfold m_L_needed_J105 m_L_needed_J132 m_L_needed_J134
            rw [if_neg e1, if_neg e2, c1', bndX_l, if_pos (show bi true = (1 : Int32) from rfl), bit_s (show i < 32 by omega), hsi, if_neg (show ¬ bi true = (0 : Int32) by decide), if_pos (show bi true = (1 : Int32) from rfl), d1', bndX_l, if_pos (show bi true = (1 : Int32) from rfl), show nI i + 1 = nI (i + 1) from nI_add _ _]
            rfl
        · have hsi : As s i = false := by
            cases hq : As s i
            · rfl
            · exact absurd (aw_iff.mp (hs i hq)).2 hK
          rw [decide_eq_false hK] at c1'
          rw [slK_no (show ¬ (K i = 1 ∧ As s i = false) from fun q => hK q.1)] at b1' b3
          refine Or.inl ⟨hin, (nI 1, nI l.length, nI (i + 1), U1), ?_, by omega, U1, l, rfl, b1', by omega, b3⟩
          simp only [m_L_needed_L50]
          unfold m_L_needed_J105 m_L_needed_J132 m_L_needed_J134
          rw [if_neg e1, if_neg e2, c1', bndX_l, if_neg (show ¬ bi false = (1 : Int32) by decide), bit_s (show i < 32 by omega), hsi, if_neg (show ¬ bi false = (1 : Int32) by decide), show nI i + 1 = nI (i + 1) from nI_add _ _]
      · obtain rfl : i = n := by omega
        refine Or.inr ⟨(nI 1, nI l.length, U), ?_, U, l, rfl, b1, b2, b3⟩
        simp only [m_L_needed_L50]
        rw [if_pos (by rw [nle (by omega) (by omega)]; omega)]) (x := (nI 1, 0, 0, S)) ⟨Nat.zero_le _, S, [], rfl, by rw [slK_0]; exact h, Nat.zero_le _, by rw [slK_0]; rfl⟩
  exact ⟨U, l, l1, l2⟩
/-- with one of them asleep too, the right doesn't come -/
theorem needed166 {l : List Ab} {s : Nat} (h : CP S (n, K, Z) l) (hl : l.length ≤ 7) (v7 : Int32) (hA : aw n K = As s) {x k y : Nat} (hx : x < n) (hk : k < 4) (hy : y < n) (hne : x ≠ y) (hmin : ∀ i, As s i = true → Clo (fun j => As s j && !decide (j = i)) Z x k y = false) : ∃ U, loopO (fun q : Int32 × Int32 × Hs => m_L_needed_L166 (nI n) (nI x) (nI k) (nI y) (nI s) v7 q.1 q.2.1 q.2.2) (nI 1, 0, S) = some (nI 1, U) ∧ CP U (n, K, Z) l := by
  have hn := h.rs.1
  obtain ⟨rr, l1, U, rfl, l2⟩ := loopO_inv (f := fun q : Int32 × Int32 × Hs => m_L_needed_L166 (nI n) (nI x) (nI k) (nI y) (nI s) v7 q.1 q.2.1 q.2.2)
    (fun i q => i ≤ n ∧ ∃ U, q = (nI 1, nI i, U) ∧ CP U (n, K, Z) l)
    (fun rr => ∃ U, rr = (nI 1, U) ∧ CP U (n, K, Z) l) n (fun i q hq => by
      obtain ⟨hi, U, rfl, b1⟩ := hq
      by_cases hin : i < n
      · have e1 : ¬ nI n ≤ nI i := by rw [nle (by omega) (by omega)]; omega
        have e2 : ¬ nI 1 = (0 : Int32) := by decide
        cases hsi : As s i
        · refine Or.inl ⟨hin, (nI 1, nI (i + 1), U), ?_, by omega, U, rfl, b1⟩
          simp only [m_L_needed_L166]
          unfold m_L_needed_J215 m_L_needed_J220
          rw [if_neg e1, if_neg e2, bit_s (show i < 32 by omega), hsi, if_pos (show bi false = (0 : Int32) from rfl), show nI i + 1 = nI (i + 1) from nI_add _ _]
          rfl
        · have hKi : K i = 1 := by
            have : aw n K i = true := by rw [hA]; exact hsi
            exact (aw_iff.mp this).2
          obtain ⟨U1, c1, c2⟩ := wake_c b1 (by omega) hin (by rw [hKi]; decide) false
          have c1' : m_X5_wake (nI i) 0 U = _ := c1
          obtain ⟨U2, d1, d2⟩ := ends_c c2.rs hx hk hy hne
          have hcl : Clo (aw n (wkK K i false)) Z x k y = false := by
            rw [aw_wk, hA]
            exact hmin i hsi
          rw [hcl] at d1
          obtain ⟨v, U3, f1, f2, f3⟩ := undo_c (c2.kp d2)
          refine Or.inl ⟨hin, (nI 1, nI (i + 1), U3), ?_, by omega, U3, rfl, f3⟩
          simp only [m_L_needed_L166]
          unfold m_L_needed_J215 m_L_needed_J220
          rw [if_neg e1, if_neg e2, bit_s (show i < 32 by omega), hsi, if_neg (show ¬ bi true = (0 : Int32) by decide), c1', bndX_l, if_neg (not_neg (Nat.lt_of_le_of_lt (cnt_196 _) (by omega))), d1, bndE_some, if_pos (show bi false = (0 : Int32) from rfl), f1, bndX_l, if_neg (not_neg (show v < 1000000 by omega)), show nI i + 1 = nI (i + 1) from nI_add _ _]
          rfl
      · obtain rfl : i = n := by omega
        refine Or.inr ⟨(nI 1, U), ?_, U, rfl, b1⟩
        simp only [m_L_needed_L166]
        rw [if_pos (by rw [nle (by omega) (by omega)]; omega)]) (x := (nI 1, 0, S)) ⟨Nat.zero_le _, S, rfl, h⟩
  exact ⟨U, l1, l2⟩
theorem ndb_spec (h : RepS S 29 n K Z) {x k y : Nat} (hC : Clo (aw n K) Z x k y = true) : ∃ s, s < 128 ∧ ndv (aw n K) Z x k y 128 = nI s ∧ (∀ j, As s j = true → aw n K j = true) ∧ Clo (As s) Z x k y = true ∧ ∀ i, As s i = true → Clo (fun j => As s j && !decide (j = i)) Z x k y = false := by
  have hn := h.1
  obtain ⟨a, a1, a2, a3⟩ := set_num (v := gI S 29 2) (A := aw n K) (fun j hj => aw_big hn hj) (fun j hj => by rw [h.2.2.2.2.1 j hj]; rfl)
  have hqa : ndq (aw n K) Z x k y a = true := by
    unfold ndq
    rw [Bool.and_eq_true, sbs_iff, a3]
    exact ⟨fun _ q => q, hC⟩
  have key := fun t (ht : t < 128) (hq : ndq (aw n K) Z x k y t = true) => mb_min (N := 128) (q := ndq (aw n K) Z x k y) (z := szs) (c := 128) (Nat.le_refl _) t ht hq
  have k0 := key a a1 hqa
  refine ⟨ndb (aw n K) Z x k y 128, k0.1, ?_, ?_, ?_, fun i hi => ?_⟩
  · unfold ndv
    rw [if_neg (show ¬ ndb (aw n K) Z x k y 128 = 128 from Nat.ne_of_lt k0.1)]
  · have := k0.2.1
    unfold ndq at this
    rw [Bool.and_eq_true, sbs_iff] at this
    exact this.1
  · have := k0.2.1
    unfold ndq at this
    rw [Bool.and_eq_true] at this
    exact this.2
  · have hs : sbs (aw n K) (ndb (aw n K) Z x k y 128) = true := by
      have := k0.2.1
      unfold ndq at this
      rw [Bool.and_eq_true] at this
      exact this.1
    have hs7 : ndb (aw n K) Z x k y 128 < 128 := k0.1
    have hmin : ∀ t, t < 128 → ndq (aw n K) Z x k y t = true → szs (ndb (aw n K) Z x k y 128) ≤ szs t := fun t ht hq => (key t ht hq).2.2
    generalize ndb (aw n K) Z x k y 128 = s at *
    have hi7 : i < 7 := by
      apply Classical.byContradiction
      intro q
      have := As_big hs7 (show 7 ≤ i by omega)
      rw [hi] at this; cases this
    obtain ⟨t, t1, t2, t3⟩ := set_num (v := nI s &&& ((1 <<< (nI i &&& 31)) ^^^ (-1))) (A := fun j => As s j && !decide (j = i)) (fun j hj => by rw [As_big hs7 hj]; rfl) (fun j hj => by rw [bt_clr _ (show i < 32 by omega) hj, bt_nI s hj]; rfl)
    cases hq : Clo (fun j => As s j && !decide (j = i)) Z x k y
    · rfl
    · exfalso
      have hqt : ndq (aw n K) Z x k y t = true := by
        unfold ndq
        rw [Bool.and_eq_true, sbs_iff, t3]
        refine ⟨fun j q => ?_, hq⟩
        rw [Bool.and_eq_true] at q
        exact (sbs_iff.mp hs) j q.1
      have h1 := hmin t t1 hqt
      have h2 : szs t < szs s := by
        unfold szs
        rw [t3]
        exact fb_ct_lt (fun j _ q => by rw [Bool.and_eq_true] at q; exact q.1) hi7 (by simp) hi
      omega
theorem needed_law (h : CP S (n, K, Z) []) {x k y : Nat} (hx : x < n) (hk : k < 4) (hy : y < n) (hne : x ≠ y) : ∃ U, m_L_needed (nI n) (nI x) (nI k) (nI y) S = some (nI 1, U) ∧ CP U (n, K, Z) [] := by
  have hn := h.rs.1
  obtain ⟨S1, a1, a2⟩ := needed_c h.rs hx hk hy hne
  have h1 := h.kp a2
  obtain ⟨S2, b1, b2⟩ := ends_c h1.rs hx hk hy hne
  have h2 := h1.kp b2
  unfold m_L_needed
  cases hC : Clo (aw n K) Z x k y
  · rw [hC] at b1
    refine ⟨S2, ?_, h2⟩
    rw [a1, bndX_l, ndv_no hC, if_pos (show m9 = ((-9) : Int32) from rfl), b1, bndE_some, if_pos (show bi false = (0 : Int32) from rfl)]
    exact gd_t (by decide) _
  · rw [hC] at b1
    obtain ⟨s, s1, s2, s3, s4, s5⟩ := ndb_spec h.rs hC
    obtain ⟨U, l, c1, c2, c3, c4⟩ := needed50 h2 s3 (nI x) (nI k) (nI y)
    have hA : aw n (slK K s n) = As s := slK_aw s3
    obtain ⟨U1, d1, d2⟩ := ends_c c2.rs hx hk hy hne
    rw [hA, s4] at d1
    obtain ⟨U2, e1, e2⟩ := needed166 (c2.kp d2) (by omega) (nI l.length) hA hx hk hy hne s5
    obtain ⟨U3, f1, f2⟩ := undo_loop e2 c4 (by omega)
    refine ⟨U3, ?_, f2⟩
    rw [a1, bndX_l, s2, if_neg (nI_ne9 (show s < 1000000 by omega)), b1, bndE_some, show bi true = nI 1 from rfl, c1, Option.bind_some]
    dsimp only
    unfold m_L_needed_J140 m_L_needed_J161 m_L_needed_J228 m_L_needed_J263
    rw [if_neg (show ¬ nI 1 = (0 : Int32) by decide), d1, bndE_some, if_neg (show ¬ bi true = (0 : Int32) by decide), show (1 : Int32) = nI 1 from rfl, e1, Option.bind_some]
    dsimp only
    rw [f1, Option.bind_some]
    exact gd_t (show decide (nI 1 = (0 : Int32) ∨ nI 1 = nI 1) = true by decide) _
end ND
