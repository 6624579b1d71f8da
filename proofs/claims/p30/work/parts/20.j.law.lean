/-! the law -/
section LW
variable {S : Hs} {n : Nat} {K : Kd} {Z : Rt} {L : Nat} {xs : Nat → Int32}
theorem bt0 (j : Nat) (hj : j < 32) : bt 0 j = false := b_0 j
theorem cp0 : CP hs0 (0, fun _ => 0, Zn) [] := by
  refine ⟨0, fun _ => (0, fun _ => 0, Zn), ⟨?_, rfl, fun j => 31 + 2 * j, fun j hj => ?_, fun i j hi hj e => ?_, fun j hj => absurd hj (Nat.not_lt_zero j)⟩, by omega, Nat.le_refl _, fun j d hj => by simp at hj⟩
  · refine ⟨Nat.zero_le _, fun x k y h => Bool.noConfusion h, rfl, fun j hj => ?_, fun j hj => ?_, fun x hx j hj => ?_⟩
    · show bt 0 j = _
      rw [bt0 j hj, decide_eq_false (Nat.not_lt_zero j), Bool.false_and]
    · show bt 0 j = _
      rw [bt0 j hj, decide_eq_false (Nat.not_lt_zero j), Bool.false_and]
    · show bt 0 j = (_ && false)
      rw [bt0 j hj, Bool.and_false]
  · exact ⟨rfl, (by omega : 31 ≤ 31 + 2 * j), (by omega : 31 + 2 * j ≤ 57), (by omega : (31 + 2 * j) % 2 = 1)⟩
  · simp only at e
    omega
theorem mod_ne {n x t : Nat} (h2 : 2 ≤ n) (h6 : n < 7) (hx : x < n) (ht : t < n - 1) : (x + 1 + t) % n < n ∧ x ≠ (x + 1 + t) % n := by
  refine ⟨Nat.mod_lt _ (by omega), ?_⟩
  obtain rfl | rfl | rfl | rfl | rfl : n = 2 ∨ n = 3 ∨ n = 4 ∨ n = 5 ∨ n = 6 := by omega
  all_goals omega
/-- one of the four rights by the cells -/
theorem law87 (hL : L ≤ 260) (h : CP S (n, K, Z) []) (h2 : 2 ≤ n) (h6 : n < 7) {e : Nat} (he : e < 4) : ∃ U, m_L_law_L87 L xs (nI n) (nI e) S = some (.inl (nI (e + 1), U)) ∧ CP U (n, K, Z) [] := by
  obtain ⟨v, v1⟩ := cell_c (S := S) (xs := xs) hL (show 20 + e < 1000 by omega)
  have v1' : m_L_cell L xs (20 + nI e) S = some v := by
    rw [show (20 : Int32) + nI e = nI (20 + e) from nI_add _ _]
    exact v1
  obtain ⟨x, x1, x2⟩ := low_c v (show n < 1000 by omega) (by omega)
  obtain ⟨t, t1, t2⟩ := low_c (v >>> ((4 : Int32) &&& 31)) (show n - 1 < 1000 by omega) (by omega)
  have t1' : m_L_low (v >>> ((4 : Int32) &&& 31)) (nI n - 1) = some (nI t) := by
    rw [show nI n - (1 : Int32) = nI (n - 1) from nI_sub (a := n) (b := 1) (by omega)]
    exact t1
  obtain ⟨k, k1, k2⟩ := low_c (v >>> ((8 : Int32) &&& 31)) (show 4 < 1000 by omega) (by omega)
  have k1' : m_L_low (v >>> ((8 : Int32) &&& 31)) 4 = some (nI k) := k1
  obtain ⟨y1, y2⟩ := mod_ne h2 h6 x2 t2
  have hy : irm (nI x + 1 + nI t) (nI n) = nI ((x + 1 + t) % n) := by
    rw [show nI x + (1 : Int32) = nI (x + 1) from nI_add _ _, nI_add, irm_nI (by omega) (by omega) (by omega)]
  obtain ⟨U, a1, a2⟩ := needed_law h x2 k2 y1 y2
  obtain ⟨U2, b1, b2⟩ := cut_law a2 x2 k2 y1 y2
  refine ⟨U2, ?_, b2⟩
  unfold m_L_law_L87
  rw [if_neg (show ¬ (4 : Int32) ≤ nI e from fun q => by
    have := (nle (a := 4) (b := e) (by omega) (by omega)).mp q
    omega), v1', Option.bind_some, x1, Option.bind_some, t1', Option.bind_some, gd_t (decide_eq_true (show ¬ nI n = (0 : Int32) by rw [show (0 : Int32) = nI 0 from rfl, neq (by omega) (by omega)]; omega)), bnd_eq, hy, k1', Option.bind_some, a1, bndE_some, if_neg (show ¬ nI 1 = (0 : Int32) by decide), b1, bndE_some, if_neg (show ¬ nI 1 = (0 : Int32) by decide), show nI e + 1 = nI (e + 1) from nI_add _ _]
/-- all rights of n things -/
theorem cnt_all (hw : WF n Z) (hn : n ≤ 7) (h : ∀ x k y, x < n → k < 4 → y < n → x ≠ y → Z x k y = true) : cnt Z = 4 * n * (n - 1) := by
  have hrow : ∀ x, x < n → rowc Z x = 4 * (n - 1) := by
    intro x hx
    rw [rowc_n hw hn x]
    have e1 : fb_sm (fun y => colc Z x y) n = fb_sm (fun y => if y = x then 0 else (fun _ => 4) y) n := fb_sm_cong fun y hy => by
      by_cases e : y = x
      · subst e
        rw [if_pos rfl]
        exact fb_ct_zero.mpr fun k hk => by
          cases hq : Z y k y
          · rfl
          · exact absurd rfl (hw _ _ _ hq).2.2.2
      · rw [if_neg e]
        exact fb_ct_all.mpr fun k hk => h x k y hx hk hy (fun q => e q.symm)
    have e2 := fb_sm_upd (fun _ => 4) 0 hx
    rw [e1]
    rw [fb_sm_const] at e2
    have : fb_sm (fun y => if y = x then 0 else (fun _ => 4) y) n + 4 = n * 4 + 0 := e2
    omega
  rw [cnt_n hw hn, fb_sm_cong (g := fun _ => 4 * (n - 1)) hrow, fb_sm_const]
  rw [Nat.mul_comm 4 n, Nat.mul_assoc]
theorem dg_cases (hw : WF n Z) (hn : n ≤ 7) (A : Nat → Bool) : (dgv n A Z 196 = m9 ∧ cnt Z = 4 * n * (n - 1)) ∨ ∃ j, j < 196 ∧ dgv n A Z 196 = nI (num j) ∧ dgq n Z j = true := by
  unfold dgv
  by_cases h : dgb n A Z 196 = 999
  · left
    rw [if_pos h]
    refine ⟨rfl, cnt_all hw hn fun x k y hx hk hy hne => ?_⟩
    have hj : ix x k y < 196 := by unfold ix; omega
    have := mb_none (N := 999) (q := dgq n Z) (z := fun j => 1000 - dgc A Z j) (c := 196) (by omega) h (ix x k y) hj
    unfold dgq at this
    obtain ⟨p1, p2, p3⟩ := ix_parts (x := x) hk (show y < 7 by omega)
    rw [p1, p3, decide_eq_true ⟨hx, hy, hne⟩, fl_ix _ hk (show y < 7 by omega), Bool.true_and] at this
    simpa using this
  · right
    rw [if_neg h]
    have := mb_lt (N := 999) (q := dgq n Z) (z := fun j => 1000 - dgc A Z j) (c := 196)
    rcases this with q | q
    · exact absurd q h
    · exact ⟨_, q.1, rfl, q.2⟩
theorem sl_cases : (slv n K Z n = m9 ∧ fb_ct (fun j => decide (K j = 1)) n = 0) ∨ (n ≤ 7 → ∃ i, i < n ∧ slv n K Z n = nI i ∧ K i = 1) := by
  unfold slv
  by_cases hn : n ≤ 7
  · by_cases h : slb n K Z n = 128
    · left
      rw [if_pos h]
      refine ⟨rfl, fb_ct_zero.mpr fun j hj => ?_⟩
      have := mb_none (N := 128) (q := aw n K) (z := slz n K Z) (c := n) (by omega) h j hj
      unfold aw at this
      rw [decide_eq_true hj, Bool.true_and] at this
      exact this
    · right
      intro _
      rw [if_neg h]
      have := mb_lt (N := 128) (q := aw n K) (z := slz n K Z) (c := n)
      rcases this with q | q
      · exact absurd q h
      · exact ⟨_, q.1, rfl, (aw_iff.mp q.2).2⟩
  · exact Or.inr fun q => absurd q hn
/-- the end: all as before, and once more all rounds, ways and proofs -/
theorem law329 (h : CP S (n, K, Z) []) : ∃ U, m_L_law_J329 L xs (nI n) (nI (cnt (Clo (aw n K) Z))) 1 S = some (1, U) := by
  obtain ⟨S1, a1, a2⟩ := about_class h.rs (show 4 < 8 by omega)
  have a1' : m_X5_about 4 S = some (.inl (nI (cnt (Clo (aw n K) Z))), S1) := a1
  obtain ⟨S2, b1, b2⟩ := spread_c (h.kp a2).rs
  refine ⟨S2, ?_⟩
  unfold m_L_law_J329 m_L_law_J358
  rw [if_neg (by decide), a1', bndX_l, if_pos rfl, b1, bndE_some, if_neg (show ¬ nI 1 = (0 : Int32) by decide)]
  exact gd_t (by decide) _
theorem law270 (h : CP S (n, K, Z) []) : ∃ U, m_L_law_J270 L xs (nI n) (nI (cnt (Clo (aw n K) Z))) (slv n K Z n) 1 S = some (1, U) := by
  have hn := h.rs.1
  have hw := h.rs.2.1
  unfold m_L_law_J270 m_L_law_J324
  rw [if_neg (by decide)]
  rcases sl_cases (n := n) (K := K) (Z := Z) with ⟨q1, q2⟩ | q
  · obtain ⟨S1, a1, a2⟩ := about_class h.rs (show 2 < 8 by omega)
    have a1' : m_X5_about 2 S = some (.inl (nI 0), S1) := by
      rw [← q2]
      exact a1
    rw [q1, if_pos (show m9 = ((-9) : Int32) from rfl), a1', bndX_l, if_pos (show nI 0 = (0 : Int32) from rfl)]
    exact law329 (h.kp a2)
  · obtain ⟨i, i1, i2, i3⟩ := q hn
    obtain ⟨S1, a1, a2⟩ := thing_class h.rs i1 (show 1 < 7 by omega)
    have hv : thv n K Z i 1 = nI 1 := by
      unfold thv
      rw [if_neg (by omega), if_pos rfl, decide_eq_true i3]
      rfl
    rw [hv] at a1
    have a1' : m_X5_thing (nI i) 1 S = some (.inl (nI 1), S1) := a1
    obtain ⟨S2, b1, b2⟩ := wake_c (h.kp a2) (by simp) i1 (by rw [i3]; decide) false
    have b1' : m_X5_wake (nI i) 0 S1 = _ := b1
    obtain ⟨v, S3, c1, c2, c3⟩ := undo_c b2
    have hle : cnt (Clo (aw n (wkK K i false)) Z) ≤ cnt (Clo (aw n K) Z) := cnt_le (Clo_awake fun j hj => by
      rw [aw_wk, Bool.and_eq_true] at hj
      exact hj.1)
    have l1 := cnt_196 (Clo (aw n (wkK K i false)) Z)
    have l2 := cnt_196 (Clo (aw n K) Z)
    obtain ⟨U, d1⟩ := law329 (L := L) (xs := xs) c3
    refine ⟨U, ?_⟩
    rw [i2, if_neg (nI_ne9 (show i < 1000000 by omega)), a1', bndX_l, if_pos (show nI 1 = (1 : Int32) from rfl), b1', bndX_l, if_neg (by rw [nlt (by omega) (by omega)]; omega), c1, bndX_l, if_neg (not_neg (show v < 1000000 by omega))]
    exact d1
theorem law_true (L : Nat) (xs : Nat → Int32) (hL : L ≤ 260) : ∃ U, m_L_law L xs hs0 = some (1, U) := by
  obtain ⟨v, v1⟩ := cell_c (S := hs0) (xs := xs) hL (show 0 < 1000 by omega)
  have v1' : m_L_cell L xs 0 hs0 = some v := v1
  obtain ⟨t, t1, t2⟩ := low_c v (show 5 < 1000 by omega) (by omega)
  have t1' : m_L_low v 5 = some (nI t) := t1
  obtain ⟨S1, a1, a2⟩ := sleeper_c cp0.rs
  have h1 := cp0.kp a2
  have s0 : slv 0 (fun _ => 0) Zn 0 = m9 := rfl
  rw [s0] at a1
  obtain ⟨S2, b1, b2⟩ := danger_c h1.rs
  have h2 := h1.kp b2
  have d0 : dgv 0 (aw 0 (fun _ => 0)) Zn 196 = m9 := by
    have hz : dgb 0 (aw 0 (fun _ => 0)) Zn 196 = 999 := mb_no (N := 999) (q := dgq 0 Zn) (c := 196) fun s _ => by
      unfold dgq
      rw [decide_eq_false (by omega)]
      rfl
    unfold dgv
    rw [if_pos hz]
  rw [d0] at b1
  have n1 : 2 ≤ 2 + t := by omega
  have n2 : 2 + t < 7 := by omega
  have e0 : (2 : Int32) + nI t = nI (2 + t) := nI_add _ _
  generalize 2 + t = n at *
  obtain ⟨S3, K, Z, c1, c2, c3⟩ := build_law (xs := xs) hL h2 (show 0 < n by omega) n2
  have hn7 : n ≤ 7 := by omega
  obtain ⟨S4, f1, f2⟩ := isClosed_c c2.rs
  have h4 := c2.kp f2
  obtain ⟨S5, g1, g2⟩ := spread_c h4.rs
  have h5 := h4.kp g2
  obtain ⟨S6, i1, i2⟩ := learning_c h5.rs false
  have h6 := h5.kp i2
  obtain ⟨S7, j1, j2⟩ := learning_c h6.rs true
  have h7 := h6.kp j2
  have i1' : m_L_learning (nI n) 0 S5 = some (nI 1, S6) := i1
  have j1' : m_L_learning (nI n) 1 S6 = some (nI 1, S7) := j1
  obtain ⟨rr, l1, S8, rfl, h8⟩ := loopO_inv (f := fun q : Int32 × Hs => m_L_law_L87 L xs (nI n) q.1 q.2)
    (fun e q => e ≤ 4 ∧ ∃ U, q = (nI e, U) ∧ CP U (n, K, Z) [])
    (fun rr => ∃ U, rr = .inl U ∧ CP U (n, K, Z) []) 4 (fun e q hq => by
      obtain ⟨he, U, rfl, b1⟩ := hq
      by_cases he4 : e < 4
      · obtain ⟨U2, c1, c2⟩ := law87 (xs := xs) hL b1 n1 n2 he4
        exact Or.inl ⟨he4, _, c1, by omega, U2, rfl, c2⟩
      · obtain rfl : e = 4 := by omega
        refine Or.inr ⟨.inl U, ?_, U, rfl, b1⟩
        simp only [m_L_law_L87]
        rw [if_pos (by decide)]) (x := (0, S7)) ⟨by omega, S7, rfl, h7⟩
  have hw := h8.rs.2.1
  obtain ⟨S9, k1, k2⟩ := about_class h8.rs (show 4 < 8 by omega)
  have k1' : m_X5_about 4 S8 = some (.inl (nI (cnt (Clo (aw n K) Z))), S9) := k1
  have h9 := h8.kp k2
  obtain ⟨S10, m1, m2⟩ := danger_c h9.rs
  have h10 := h9.kp m2
  obtain ⟨S11, o1, o2⟩ := sleeper_c h10.rs
  have h11 := h10.kp o2
  have e9 : m9 = ((-9) : Int32) := rfl
  have e10 : ¬ nI 1 = (0 : Int32) := by decide
  unfold m_L_law
  rw [v1', Option.bind_some, t1', Option.bind_some, bnd_eq, e0, a1, bndE_some, if_pos e9, b1, bndE_some, if_pos e9, c1, bndE_some, if_neg e10, f1, bndE_some, if_neg e10, g1, bndE_some, if_neg e10, i1', bndE_some, if_neg e10, j1', bndE_some, if_neg e10, l1, Option.bind_some, Sum.elim_inl, k1', bndX_l, m1, bndE_some, o1, bndE_some]
  rcases dg_cases hw hn7 (aw n K) with ⟨q1, q2⟩ | ⟨j, q1, q2, q3⟩
  · obtain ⟨S12, p1, p2⟩ := about_class h11.rs (show 3 < 8 by omega)
    have p1' : m_X5_about 3 S11 = some (.inl (nI (cnt Z)), S12) := p1
    have en : (4 : Int32) * nI n * (nI n - 1) = nI (cnt Z) := by
      rw [q2, show nI n - (1 : Int32) = nI (n - 1) from nI_sub (a := n) (b := 1) (by omega), show (4 : Int32) * nI n = nI (4 * n) from nI_mul _ _, nI_mul]
    rw [q1, if_pos e9, p1', bndX_l, en, if_pos rfl]
    exact law270 (h11.kp p2)
  · obtain ⟨⟨r1, r2, r3, r4⟩, r5⟩ := dgq_WF q3
    have hnum : num j < 1000 := by unfold num; omega
    obtain ⟨d1, d2, d3⟩ := num_digits q1
    obtain ⟨S12, p1, p2⟩ := set_c h11 (by simp) r1 r2 r3 r4 true (fun _ => Or.inr (by omega))
    rw [show Z (j / 28) (j % 28 / 7) (j % 28 % 7) = false from r5] at p1
    have p1' : m_X5_set (nI (j / 28)) (nI (j % 28 / 7)) (nI (j % 28 % 7)) 1 S11 = some (.inl (bi false), S12) := p1
    obtain ⟨S13, u1, u2⟩ := about_class p2.rs (show 4 < 8 by omega)
    have u1' : m_X5_about 4 S12 = some (.inl (nI (cnt (Clo (aw n K) (ins Z j)))), S13) := u1
    obtain ⟨w, S14, x1, x2, x3⟩ := undo_c (p2.kp u2)
    have hle : cnt (Clo (aw n K) Z) ≤ cnt (Clo (aw n K) (ins Z j)) := cnt_le (Clo_mono (ins_sub j))
    have y1 := cnt_196 (Clo (aw n K) Z)
    have y2 := cnt_196 (Clo (aw n K) (ins Z j))
    obtain ⟨U, z1⟩ := law270 (L := L) (xs := xs) x3
    refine ⟨U, ?_⟩
    rw [q2, if_neg (nI_ne9 (show num j < 1000000 by omega)), d1, d2, d3, p1', bndX_l, if_pos (show bi false = (0 : Int32) from rfl), u1', bndX_l, if_neg (by rw [nlt (by omega) (by omega)]; omega), x1, bndX_l, if_neg (not_neg (show w < 1000000 by omega))]
    exact z1
end LW
