/-! all rounds, ways and proofs, and the sums of the rights -/
section NR
variable {n : Nat} {A : Nat → Bool} {Z : Rt}
theorem nr_spec (hw : WF n Z) (hn : n ≤ 7) : ∃ m, nr A Z = m ∧ m < 196 ∧ (∀ j, j < m → chg A Z j = true) ∧ chg A Z m = false := by
  obtain ⟨h1, h2⟩ := lf_spec (fun i => !chg A Z i) 196
  have h3 := lf_le (fun i => !chg A Z i) 196
  generalize lf (fun i => !chg A Z i) 196 = m at *
  have h4 : ∀ j, j < m → chg A Z j = true := fun j hj => by
    have := h1 j hj
    simpa using this
  have h5 : m < 196 := chg_end hw hn h4
  have h6 : chg A Z m = false := by
    have := h2 h5
    simpa using this
  exact ⟨m, nr_eq h3 h4 h6, h5, h4, h6⟩
theorem fr_nr (hw : WF n Z) (hn : n ≤ 7) {x k y : Nat} (h : Clo A Z x k y = true) : fr A Z x k y ≤ nr A Z := by
  obtain ⟨m, e, h1, h2, h3⟩ := nr_spec (A := A) hw hn
  rw [e]
  refine (fr_le (by omega)).mpr ?_
  rw [chg_no h3]
  exact h
theorem nr_top (hw : WF n Z) (hn : n ≤ 7) {M : Nat} (h : ∀ x k y, Clo A Z x k y = true → fr A Z x k y ≤ M) : nr A Z ≤ M := by
  obtain ⟨m, e, h1, h2, h3⟩ := nr_spec (A := A) hw hn
  rw [e]
  cases m with
  | zero => exact Nat.zero_le _
  | succ m =>
    have h4 := h2 m (by omega)
    unfold chg at h4
    rw [B_iff] at h4
    have h5 : ∃ x k y, rd A Z (m + 1) x k y = true ∧ rd A Z m x k y = false := by
      apply Classical.byContradiction
      intro hc
      refine h4 fun x k y q => ?_
      cases hq : rd A Z m x k y
      · exact absurd ⟨x, k, y, q, hq⟩ hc
      · rfl
    obtain ⟨x, k, y, h6, h7⟩ := h5
    have h8 := fr_new (show m + 1 < 197 by omega) h6 h7
    have h9 := h x k y (rd_clo A Z (m + 1) x k y h6)
    omega
end NR
section SP
variable {S : Hs} {n : Nat} {K : Kd} {Z : Rt}
/-- what a maximum of rounds holds: at most all rounds, at least those of the rights told -/
theorem bi_add (a : Nat) (b : Bool) : nI a + bi b = nI (a + if b then 1 else 0) := by
  cases b
  · show nI a + nI 0 = _
    rw [nI_add]; rfl
  · show nI a + nI 1 = _
    rw [nI_add]; rfl
theorem spread37 (h : RepS S 29 n K Z) {x y k M a b c : Nat} (u v : Int32) (hx : x < n) (hy : y < n) (hk : k < 4) (hne : x ≠ y) (hM : M ≤ nr (aw n K) Z) : ∃ M' S1, m_L_spread_L37 (nI n) u v (nI x) (nI y) (nI M) (nI a) (nI b) (nI c) (nI k) S = some (.inl (nI M', nI (a + if Z x k y then 1 else 0), nI (b + if Z y k x then 1 else 0), nI (c + if Clo (aw n K) Z x k y then 1 else 0), nI (k + 1), S1)) ∧ Kp S S1 ∧ M ≤ M' ∧ M' ≤ nr (aw n K) Z ∧ (Clo (aw n K) Z x k y = true → fr (aw n K) Z x k y ≤ M') := by
  have hn := h.1
  have hw := h.2.1
  obtain ⟨m, em, hm196, -⟩ := nr_spec (A := aw n K) hw hn
  obtain ⟨S1, a1, a2⟩ := comes_c h hx hk hy hne
  have q1 := h.kp a2 (by omega) (by omega)
  obtain ⟨w1, S2, b1, b2, b3⟩ := rights_c q1 hx hy hne false
  have q2 := q1.kp b2 (by omega) (by omega)
  obtain ⟨w2, S3, c1, c2, c3⟩ := rights_c q2 hy hx (fun e => hne e.symm) false
  have q3 := q2.kp c2 (by omega) (by omega)
  obtain ⟨w3, S4, d1, d2, d3⟩ := rights_c q3 hx hy hne true
  have q4 := q3.kp d2 (by omega) (by omega)
  obtain ⟨S5, e1, e2⟩ := round_c q4 hx hk hy hne
  have q5 := q4.kp e2 (by omega) (by omega)
  obtain ⟨S6, f1, f2⟩ := round_c q5 hx hk hy hne
  have k5 := (((a2.tr b2).tr c2).tr d2).tr e2
  have g1 : (w1 >>> (nI k &&& 31)) &&& 1 = bi (Z x k y) := by
    have := and1 w1 (show k < 32 by omega)
    rw [b3 k (by omega), decide_eq_true hk, Bool.true_and] at this
    exact this
  have g2 : (w2 >>> (nI k &&& 31)) &&& 1 = bi (Z y k x) := by
    have := and1 w2 (show k < 32 by omega)
    rw [c3 k (by omega), decide_eq_true hk, Bool.true_and] at this
    exact this
  have g3 : (w3 >>> (nI k &&& 31)) &&& 1 = bi (Clo (aw n K) Z x k y) := by
    have := and1 w3 (show k < 32 by omega)
    rw [d3 k (by omega), decide_eq_true hk, Bool.true_and] at this
    exact this
  have b1' : m_X5_rights (nI x) (nI y) 0 S1 = some (.inl w1, S2) := b1
  have c1' : m_X5_rights (nI y) (nI x) 0 S2 = some (.inl w2, S3) := c1
  have d1' : m_X5_rights (nI x) (nI y) 1 S3 = some (.inl w3, S4) := d1
  have t4 : ¬ (4 : Int32) ≤ nI k := by
    show ¬ nI 4 ≤ nI k
    rw [nle (by omega) (by omega)]
    omega
  have txy : ¬ nI x = nI y := by rw [neq (by omega) (by omega)]; exact hne
  have hk1 : nI k + 1 = nI (k + 1) := nI_add _ _
  unfold m_L_spread_L37
  rw [if_neg t4, if_neg txy, a1, bndE_some, if_neg (show ¬ nI 1 = (0 : Int32) by decide), b1', bndX_l, bnd_eq, c1', bndX_l, bnd_eq, d1', bndX_l, bnd_eq, e1, bndX_l, f1, bndX_l, g1, g2, g3, bi_add, bi_add, bi_add]
  unfold m_L_spread_J152
  rw [hk1]
  cases hC : Clo (aw n K) Z x k y
  · have e9 : rndv (aw n K) Z x k y = m9 := by unfold rndv; rw [hC]; rfl
    rw [e9, if_pos (show m9 ≤ nI M from Int32.le_of_lt (Int32.lt_of_lt_of_le m9_neg (by rw [nle (by omega) (by omega)]; omega)))]
    exact ⟨M, S5, rfl, k5, Nat.le_refl _, hM, fun q => by cases q⟩
  · have e9 : rndv (aw n K) Z x k y = nI (fr (aw n K) Z x k y) := by unfold rndv; rw [hC]; rfl
    have hf := fr_nr hw hn hC
    rw [e9]
    by_cases hle : fr (aw n K) Z x k y ≤ M
    · rw [if_pos (by rw [nle (by omega) (by omega)]; exact hle)]
      exact ⟨M, S5, rfl, k5, Nat.le_refl _, hM, fun _ => hle⟩
    · rw [if_neg (by rw [nle (by omega) (by omega)]; exact hle)]
      exact ⟨fr (aw n K) Z x k y, S6, rfl, k5.tr f2, by omega, hf, fun _ => Nat.le_refl _⟩
theorem spread37_all (h : RepS S 29 n K Z) {x y M a b c : Nat} (u v : Int32) (hx : x < n) (hy : y < n) (hM : M ≤ nr (aw n K) Z) : ∃ M' S1, loopO (fun q : Int32 × Int32 × Int32 × Int32 × Int32 × Hs => m_L_spread_L37 (nI n) u v (nI x) (nI y) q.1 q.2.1 q.2.2.1 q.2.2.2.1 q.2.2.2.2.1 q.2.2.2.2.2) (nI M, nI a, nI b, nI c, 0, S) = some (.inl (nI M', nI (a + colc Z x y), nI (b + colc Z y x), nI (c + colc (Clo (aw n K) Z) x y), S1)) ∧ Kp S S1 ∧ M ≤ M' ∧ M' ≤ nr (aw n K) Z ∧ ∀ k, Clo (aw n K) Z x k y = true → fr (aw n K) Z x k y ≤ M' := by
  have hn := h.1
  have hw := h.2.1
  by_cases hne : x = y
  · subst hne
    have z0 : ∀ T : Rt, WF n T → colc T x x = 0 := fun T hT => fb_ct_zero.mpr fun k hk => by
      cases hq : T x k x
      · rfl
      · exact absurd rfl (hT _ _ _ hq).2.2.2
    refine ⟨M, S, ?_, Kp.rf S, Nat.le_refl _, hM, fun k q => absurd rfl (Clo_WF hw _ _ _ q).2.2.2⟩
    rw [loopO_eq, z0 Z hw, z0 _ (Clo_WF hw)]
    have : m_L_spread_L37 (nI n) u v (nI x) (nI x) (nI M) (nI a) (nI b) (nI c) 0 S = some (.inr (.inl (nI M, nI a, nI b, nI c, S))) := by
      unfold m_L_spread_L37
      rw [if_neg (by decide), if_pos rfl]
    simp only [this, Nat.add_zero]
  · obtain ⟨r, l1, M', U, rfl, l3⟩ := loopO_inv (f := fun q : Int32 × Int32 × Int32 × Int32 × Int32 × Hs => m_L_spread_L37 (nI n) u v (nI x) (nI y) q.1 q.2.1 q.2.2.1 q.2.2.2.1 q.2.2.2.2.1 q.2.2.2.2.2)
      (fun k q => k ≤ 4 ∧ ∃ M' U, q = (nI M', nI (a + fb_ct (fun k => Z x k y) k), nI (b + fb_ct (fun k => Z y k x) k), nI (c + fb_ct (fun k => Clo (aw n K) Z x k y) k), nI k, U) ∧ Kp S U ∧ M ≤ M' ∧ M' ≤ nr (aw n K) Z ∧ ∀ j, j < k → Clo (aw n K) Z x j y = true → fr (aw n K) Z x j y ≤ M')
      (fun r => ∃ M' U, r = .inl (nI M', nI (a + colc Z x y), nI (b + colc Z y x), nI (c + colc (Clo (aw n K) Z) x y), U) ∧ Kp S U ∧ M ≤ M' ∧ M' ≤ nr (aw n K) Z ∧ ∀ j, j < 4 → Clo (aw n K) Z x j y = true → fr (aw n K) Z x j y ≤ M') 4 (fun k q hq => by
        obtain ⟨hk, M', U, rfl, b1, b2, b3, b4⟩ := hq
        by_cases hk4 : k < 4
        · obtain ⟨M2, U2, c1, c2, c3, c4, c5⟩ := spread37 (h.kp b1 (by omega) (by omega)) (M := M') (a := a + fb_ct (fun k => Z x k y) k) (b := b + fb_ct (fun k => Z y k x) k) (c := c + fb_ct (fun k => Clo (aw n K) Z x k y) k) u v hx hy hk4 hne b3
          refine Or.inl ⟨hk4, _, c1, by omega, M2, U2, ?_, b1.tr c2, by omega, c4, fun j hj hq => ?_⟩
          · simp only [fb_ct_succ, Nat.add_assoc]
          · by_cases e : j = k
            · subst e; exact c5 hq
            · have := b4 j (by omega) hq
              omega
        · obtain rfl : k = 4 := by omega
          refine Or.inr ⟨.inl (nI M', nI (a + colc Z x y), nI (b + colc Z y x), nI (c + colc (Clo (aw n K) Z) x y), U), ?_, M', U, rfl, b1, b2, b3, b4⟩
          simp only [m_L_spread_L37]
          rw [if_pos (by decide)]
          rfl) (x := (nI M, nI a, nI b, nI c, 0, S)) ⟨by omega, M, S, rfl, Kp.rf S, Nat.le_refl _, hM, fun j hj => absurd hj (Nat.not_lt_zero j)⟩
    refine ⟨M', U, l1, l3.1, l3.2.1, l3.2.2.1, fun k q => l3.2.2.2 k (Clo_WF hw _ _ _ q).2.1 q⟩
theorem spread28_all (h : RepS S 29 n K Z) {x M : Nat} (u v : Int32) (hx : x < n) (hM : M ≤ nr (aw n K) Z) : ∃ M' S1, loopO (fun q : Int32 × Int32 × Int32 × Int32 × Int32 × Hs => m_L_spread_L28 (nI n) u v (nI x) q.1 q.2.1 q.2.2.1 q.2.2.2.1 q.2.2.2.2.1 q.2.2.2.2.2) (nI M, 0, 0, 0, 0, S) = some (.inl (nI M', nI (rowc Z x), nI (fb_sm (fun y => colc Z y x) n), nI (rowc (Clo (aw n K) Z) x), S1)) ∧ Kp S S1 ∧ M ≤ M' ∧ M' ≤ nr (aw n K) Z ∧ ∀ k y, Clo (aw n K) Z x k y = true → fr (aw n K) Z x k y ≤ M' := by
  have hn := h.1
  have hw := h.2.1
  obtain ⟨r, l1, M', U, rfl, l3⟩ := loopO_inv (f := fun q : Int32 × Int32 × Int32 × Int32 × Int32 × Hs => m_L_spread_L28 (nI n) u v (nI x) q.1 q.2.1 q.2.2.1 q.2.2.2.1 q.2.2.2.2.1 q.2.2.2.2.2)
    (fun y q => y ≤ n ∧ ∃ M' U, q = (nI M', nI (fb_sm (fun y => colc Z x y) y), nI (fb_sm (fun y => colc Z y x) y), nI (fb_sm (fun y => colc (Clo (aw n K) Z) x y) y), nI y, U) ∧ Kp S U ∧ M ≤ M' ∧ M' ≤ nr (aw n K) Z ∧ ∀ k j, j < y → Clo (aw n K) Z x k j = true → fr (aw n K) Z x k j ≤ M')
    (fun r => ∃ M' U, r = .inl (nI M', nI (fb_sm (fun y => colc Z x y) n), nI (fb_sm (fun y => colc Z y x) n), nI (fb_sm (fun y => colc (Clo (aw n K) Z) x y) n), U) ∧ Kp S U ∧ M ≤ M' ∧ M' ≤ nr (aw n K) Z ∧ ∀ k j, j < n → Clo (aw n K) Z x k j = true → fr (aw n K) Z x k j ≤ M') n (fun y q hq => by
      obtain ⟨hy, M', U, rfl, b1, b2, b3, b4⟩ := hq
      by_cases hyn : y < n
      · obtain ⟨M2, U2, c1, c2, c3, c4, c5⟩ := spread37_all (h.kp b1 (by omega) (by omega)) (M := M') (a := fb_sm (fun y => colc Z x y) y) (b := fb_sm (fun y => colc Z y x) y) (c := fb_sm (fun y => colc (Clo (aw n K) Z) x y) y) u v hx hyn b3
        refine Or.inl ⟨hyn, (nI M2, nI (fb_sm (fun y => colc Z x y) (y + 1)), nI (fb_sm (fun y => colc Z y x) (y + 1)), nI (fb_sm (fun y => colc (Clo (aw n K) Z) x y) (y + 1)), nI (y + 1), U2), ?_, by omega, M2, U2, rfl, b1.tr c2, by omega, c4, fun k j hj hq => ?_⟩
        · simp only [m_L_spread_L28]
          rw [if_neg (by rw [nle (by omega) (by omega)]; omega), c1, Option.bind_some, Sum.elim_inl]
          unfold m_L_spread_J160
          rw [show nI y + 1 = nI (y + 1) from nI_add _ _]
          rfl
        · by_cases e : j = y
          · subst e; exact c5 k hq
          · have := b4 k j (by omega) hq
            omega
      · obtain rfl : y = n := by omega
        refine Or.inr ⟨.inl (nI M', nI (fb_sm (fun j => colc Z x j) y), nI (fb_sm (fun j => colc Z j x) y), nI (fb_sm (fun j => colc (Clo (aw y K) Z) x j) y), U), ?_, M', U, rfl, b1, b2, b3, b4⟩
        simp only [m_L_spread_L28]
        rw [if_pos (by rw [nle (by omega) (by omega)]; omega)]) (x := (nI M, 0, 0, 0, 0, S)) ⟨by omega, M, S, rfl, Kp.rf S, Nat.le_refl _, hM, fun k j hj => absurd hj (Nat.not_lt_zero j)⟩
  refine ⟨M', U, ?_, l3.1, l3.2.1, l3.2.2.1, fun k y q => l3.2.2.2 k y (Clo_WF hw _ _ _ q).2.2.1 q⟩
  rw [rowc_n hw hn x, rowc_n (Clo_WF hw) hn x]
  exact l1
theorem spread10 (h : RepS S 29 n K Z) {x M a b : Nat} (hx : x < n) (hM : M ≤ nr (aw n K) Z) : ∃ M' S1, m_L_spread_L10 (nI n) (nI a) (nI b) (nI M) (nI x) S = some (.inl (nI (a + rowc Z x), nI (b + rowc (Clo (aw n K) Z) x), nI M', nI (x + 1), S1)) ∧ Kp S S1 ∧ M ≤ M' ∧ M' ≤ nr (aw n K) Z ∧ ∀ k y, Clo (aw n K) Z x k y = true → fr (aw n K) Z x k y ≤ M' := by
  have hn := h.1
  obtain ⟨M', S1, a1, a2, a3, a4, a5⟩ := spread28_all h (nI a) (nI b) hx hM
  have q1 := h.kp a2 (by omega) (by omega)
  obtain ⟨S2, b1, b2⟩ := thing_class q1 hx (show 2 < 7 by omega)
  have q2 := q1.kp b2 (by omega) (by omega)
  obtain ⟨S3, c1, c2⟩ := thing_class q2 hx (show 3 < 7 by omega)
  have q3 := q2.kp c2 (by omega) (by omega)
  obtain ⟨S4, d1, d2⟩ := thing_class q3 hx (show 6 < 7 by omega)
  have t2 : thv n K Z x 2 = nI (rowc Z x) := rfl
  have t3 : thv n K Z x 3 = nI (fb_sm (fun j => colc Z j x) n) := rfl
  have t6 : thv n K Z x 6 = nI (rowc (Clo (aw n K) Z) x) := rfl
  rw [t2] at b1
  rw [t3] at c1
  rw [t6] at d1
  have b1' : m_X5_thing (nI x) 2 S1 = some (.inl (nI (rowc Z x)), S2) := b1
  have c1' : m_X5_thing (nI x) 3 S2 = some (.inl (nI (fb_sm (fun j => colc Z j x) n)), S3) := c1
  have d1' : m_X5_thing (nI x) 6 S3 = some (.inl (nI (rowc (Clo (aw n K) Z) x)), S4) := d1
  refine ⟨M', S4, ?_, ((a2.tr b2).tr c2).tr d2, a3, a4, a5⟩
  unfold m_L_spread_L10
  rw [if_neg (by rw [nle (by omega) (by omega)]; omega), a1, Option.bind_some, Sum.elim_inl]
  dsimp only
  rw [b1', bndX_l, if_pos rfl, c1', bndX_l, if_pos rfl, d1', bndX_l, if_pos rfl, bnd_eq, bnd_eq, nI_add, nI_add, show nI x + 1 = nI (x + 1) from nI_add _ _]
theorem spread_c (h : RepS S 29 n K Z) : ∃ S1, m_L_spread (nI n) S = some (nI 1, S1) ∧ Kp S S1 := by
  have hn := h.1
  have hw := h.2.1
  obtain ⟨r, l1, M', U, rfl, l3, l4, l5⟩ := loopO_inv (f := fun q : Int32 × Int32 × Int32 × Int32 × Hs => m_L_spread_L10 (nI n) q.1 q.2.1 q.2.2.1 q.2.2.2.1 q.2.2.2.2)
    (fun x q => x ≤ n ∧ ∃ M' U, q = (nI (fb_sm (rowc Z) x), nI (fb_sm (rowc (Clo (aw n K) Z)) x), nI M', nI x, U) ∧ Kp S U ∧ M' ≤ nr (aw n K) Z ∧ ∀ i k y, i < x → Clo (aw n K) Z i k y = true → fr (aw n K) Z i k y ≤ M')
    (fun r => ∃ M' U, r = .inl (nI (cnt Z), nI (cnt (Clo (aw n K) Z)), nI M', U) ∧ Kp S U ∧ M' ≤ nr (aw n K) Z ∧ ∀ i k y, i < n → Clo (aw n K) Z i k y = true → fr (aw n K) Z i k y ≤ M') n (fun x q hq => by
      obtain ⟨hx, M', U, rfl, b1, b3, b4⟩ := hq
      by_cases hxn : x < n
      · obtain ⟨M2, U2, c1, c2, c3, c4, c5⟩ := spread10 (h.kp b1 (by omega) (by omega)) (M := M') (a := fb_sm (rowc Z) x) (b := fb_sm (rowc (Clo (aw n K) Z)) x) hxn b3
        refine Or.inl ⟨hxn, _, c1, by omega, M2, U2, rfl, b1.tr c2, c4, fun i k y hi hq => ?_⟩
        by_cases e : i = x
        · subst e; exact c5 k y hq
        · have := b4 i k y (by omega) hq
          omega
      · obtain rfl : x = n := by omega
        refine Or.inr ⟨.inl (nI (cnt Z), nI (cnt (Clo (aw x K) Z)), nI M', U), ?_, M', U, rfl, b1, b3, b4⟩
        simp only [m_L_spread_L10]
        rw [if_pos (by rw [nle (by omega) (by omega)]; omega), ← cnt_n hw hn, ← cnt_n (Clo_WF hw) hn]) (x := (0, 0, 0, 0, S)) ⟨by omega, 0, S, rfl, Kp.rf S, Nat.zero_le _, fun i k y hi => absurd hi (Nat.not_lt_zero i)⟩
  have hM : M' = nr (aw n K) Z := Nat.le_antisymm l4 (nr_top hw hn fun x k y q => l5 x k y (Clo_WF hw _ _ _ q).1 q)
  have q0 := h.kp l3 (by omega) (by omega)
  obtain ⟨S2, b1, b2⟩ := about_class q0 (show 3 < 8 by omega)
  have q2 := q0.kp b2 (by omega) (by omega)
  obtain ⟨S3, c1, c2⟩ := about_class q2 (show 4 < 8 by omega)
  have q3 := q2.kp c2 (by omega) (by omega)
  obtain ⟨S4, d1, d2⟩ := about_class q3 (show 5 < 8 by omega)
  have q4 := q3.kp d2 (by omega) (by omega)
  obtain ⟨S5, e1, e2⟩ := about_class q4 (show 0 < 8 by omega)
  have b1' : m_X5_about 3 U = some (.inl (nI (cnt Z)), S2) := b1
  have c1' : m_X5_about 4 S2 = some (.inl (nI (cnt (Clo (aw n K) Z))), S3) := c1
  have d1' : m_X5_about 5 S3 = some (.inl (nI (nr (aw n K) Z)), S4) := d1
  have e1' : m_X5_about 0 S4 = some (.inl (nI n), S5) := e1
  refine ⟨S5, ?_, (((l3.tr b2).tr c2).tr d2).tr e2⟩
  unfold m_L_spread
  rw [l1, Option.bind_some, Sum.elim_inl]
  dsimp only
  rw [b1', bndX_l, if_pos rfl, c1', bndX_l, if_pos rfl, d1', bndX_l, if_pos (by rw [hM]), e1', bndX_l, if_pos rfl]
  exact gd_t (by decide) _
end SP
