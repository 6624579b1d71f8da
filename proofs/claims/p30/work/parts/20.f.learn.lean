/-! who hears of whom, and what follows from one to the next -/
section LE
variable {S : Hs} {n : Nat} {K : Kd} {Z : Rt}
theorem hears_c (h : RepS S 29 n K Z) {a b : Nat} (ha : a < n) (hb : b < n) (hne : a ≠ b) (e : Bool) : ∃ S1, m_L_hears (nI a) (nI b) (bi e) S = some (bi (hr K (byE e Z (Clo (aw n K) Z)) a b), S1) ∧ Kp S S1 := by
  have hn := h.1
  have tv : ∀ i, thv n K Z i 0 = bi (decide (K i ≠ 0)) := fun i => rfl
  have J25 : ∀ {U : Hs}, RepS U 29 n K Z → ∃ S1, m_L_hears_J25 (nI a) (nI b) (bi e) U = some (bi (decide (K b ≠ 0) && byE e Z (Clo (aw n K) Z) b 3 a), S1) ∧ Kp U S1 := by
    intro U hU
    obtain ⟨S1, a1, a2⟩ := thing_class hU hb (show 0 < 7 by omega)
    have q1 := hU.kp a2 (by omega) (by omega)
    have a1' : m_X5_thing (nI b) 0 U = some (.inl (bi (decide (K b ≠ 0))), S1) := a1
    unfold m_L_hears_J25 m_L_hears_J50 m_L_hears_J54 m_L_hears_J55
    by_cases hp : K b = 0
    · refine ⟨S1, ?_, a2⟩
      rw [a1', bndX_l, decide_eq_false (show ¬ K b ≠ 0 by simp [hp]), if_neg (show ¬ bi false = (1 : Int32) by decide), gd_t (by decide)]
      rfl
    · obtain ⟨w, S2, b1, b2, b3⟩ := rights_c q1 hb ha (fun q => hne q.symm) e
      have g : (w >>> ((3 : Int32) &&& 31)) &&& 1 = bi (byE e Z (Clo (aw n K) Z) b 3 a) := by
        have := and1 w (show 3 < 32 by omega)
        rw [b3 3 (by omega), decide_eq_true (show 3 < 4 by omega), Bool.true_and] at this
        exact this
      refine ⟨S2, ?_, a2.tr b2⟩
      rw [a1', bndX_l, decide_eq_true (show K b ≠ 0 from hp), if_pos (show bi true = (1 : Int32) from rfl), b1, bndX_l, g]
      cases byE e Z (Clo (aw n K) Z) b 3 a
      · rw [if_neg (show ¬ bi false = (1 : Int32) by decide), gd_t (by decide)]; rfl
      · rw [if_pos (show bi true = (1 : Int32) from rfl), gd_t (by decide)]; rfl
  obtain ⟨S1, a1, a2⟩ := thing_class h ha (show 0 < 7 by omega)
  have q1 := h.kp a2 (by omega) (by omega)
  have a1' : m_X5_thing (nI a) 0 S = some (.inl (bi (decide (K a ≠ 0))), S1) := a1
  unfold m_L_hears hr
  by_cases hp : K a = 0
  · obtain ⟨S2, b1, b2⟩ := J25 q1
    refine ⟨S2, ?_, a2.tr b2⟩
    rw [a1', bndX_l, decide_eq_false (show ¬ K a ≠ 0 by simp [hp]), if_neg (show ¬ bi false = (1 : Int32) by decide), b1]
    rfl
  · obtain ⟨w, S2, b1, b2, b3⟩ := rights_c q1 ha hb hne e
    have q2 := q1.kp b2 (by omega) (by omega)
    have g : (w >>> ((2 : Int32) &&& 31)) &&& 1 = bi (byE e Z (Clo (aw n K) Z) a 2 b) := by
      have := and1 w (show 2 < 32 by omega)
      rw [b3 2 (by omega), decide_eq_true (show 2 < 4 by omega), Bool.true_and] at this
      exact this
    rw [a1', bndX_l, decide_eq_true (show K a ≠ 0 from hp), if_pos (show bi true = (1 : Int32) from rfl), b1, bndX_l, g]
    cases byE e Z (Clo (aw n K) Z) a 2 b
    · obtain ⟨S3, c1, c2⟩ := J25 q2
      refine ⟨S3, ?_, (a2.tr b2).tr c2⟩
      rw [if_neg (show ¬ bi false = (1 : Int32) by decide), c1]
      rfl
    · refine ⟨S2, ?_, a2.tr b2⟩
      unfold m_L_hears_J50 m_L_hears_J55
      rw [if_pos (show bi true = (1 : Int32) from rfl), gd_t (by decide)]
      rfl
/-- an int's bits are the set's -/
def Bs (w : Int32) (M : Nat → Bool) : Prop := ∀ j, j < 32 → bt w j = M j
theorem Bs.or {w : Int32} {M : Nat → Bool} (h : Bs w M) {c : Nat} (hc : c < 32) : Bs (w ||| (1 <<< (nI c &&& 31))) (fun j => M j || decide (j = c)) := fun j hj => by
  rw [bt_set w hc hj, h j hj]
theorem or_0 (w : Int32) : w ||| 0 = w := b_ext fun i hi => by rw [b_or, b_0, Bool.or_false]
/-- one thing's turn: what it hears of comes in, if it is met -/
theorem learn38 (h : RepS S 29 n K Z) (e : Bool) {b c : Nat} (p r a : Int32) (hb : b < n) (hc : c < n) {w : Int32} {M : Nat → Bool} (hM : Bs w M) (hbM : M b = true) : ∃ w' S1, m_L_learning_L38 (nI n) (bi e) p a r (nI b) w (nI c) S = some (.inl (w', nI (c + 1), S1)) ∧ Kp S S1 ∧ Bs w' (fun j => M j || (decide (j = c) && hr K (byE e Z (Clo (aw n K) Z)) b c)) := by
  have hn := h.1
  have hwE : WF n (byE e Z (Clo (aw n K) Z)) := by cases e; exact h.2.1; exact Clo_WF h.2.1
  have g : (w >>> (nI b &&& 31)) &&& 1 = bi true := by
    have := and1 w (show b < 32 by omega)
    rw [hM b (by omega), hbM] at this
    exact this
  unfold m_L_learning_L38 m_L_learning_J83 m_L_learning_J84
  rw [if_neg (by rw [nle (by omega) (by omega)]; omega), g, if_pos (show bi true = (1 : Int32) from rfl), show nI c + 1 = nI (c + 1) from nI_add _ _]
  by_cases hcb : c = b
  · subst hcb
    refine ⟨w, S, ?_, Kp.rf S, fun j hj => ?_⟩
    · rw [if_pos rfl, bnd_eq, or_0]
    · have : hr K (byE e Z (Clo (aw n K) Z)) c c = false := by
        cases hq : hr K (byE e Z (Clo (aw n K) Z)) c c
        · rfl
        · unfold hr at hq
          rw [Bool.or_eq_true, Bool.and_eq_true, Bool.and_eq_true] at hq
          rcases hq with q | q <;> exact absurd rfl (hwE _ _ _ q.2).2.2.2
      rw [hM j hj]
      simp [this]
  · obtain ⟨S1, a1, a2⟩ := hears_c h hb hc (fun q => hcb q.symm) e
    rw [if_neg (by rw [neq (by omega) (by omega)]; exact hcb), a1, bndE_some]
    cases hr K (byE e Z (Clo (aw n K) Z)) b c
    · refine ⟨w, S1, ?_, a2, fun j hj => ?_⟩
      · rw [if_pos (show bi false = (0 : Int32) from rfl), bnd_eq, or_0]
      · rw [hM j hj]
        simp
    · refine ⟨w ||| (1 <<< (nI c &&& 31)), S1, ?_, a2, fun j hj => ?_⟩
      · rw [if_neg (show ¬ bi true = (0 : Int32) by decide), bnd_eq]
      · rw [hM.or (show c < 32 by omega) j hj]
        simp
theorem learn38_all (h : RepS S 29 n K Z) (e : Bool) {b : Nat} (p r a : Int32) (hb : b < n) {w : Int32} {M : Nat → Bool} (hM : Bs w M) : ∃ w' M' S1, loopO (fun q : Int32 × Int32 × Hs => m_L_learning_L38 (nI n) (bi e) p a r (nI b) q.1 q.2.1 q.2.2) (w, 0, S) = some (w', S1) ∧ Kp S S1 ∧ Bs w' M' ∧ ∀ j, M' j = true ↔ M j = true ∨ (M b = true ∧ j < n ∧ hr K (byE e Z (Clo (aw n K) Z)) b j = true) := by
  have hn := h.1
  cases hbM : M b
  · refine ⟨w, M, S, ?_, Kp.rf S, hM, fun j => by simp⟩
    rw [loopO_eq]
    have g : (w >>> (nI b &&& 31)) &&& 1 = bi false := by
      have := and1 w (show b < 32 by omega)
      rw [hM b (by omega), hbM] at this
      exact this
    have : m_L_learning_L38 (nI n) (bi e) p a r (nI b) w 0 S = some (.inr (w, S)) := by
      unfold m_L_learning_L38
      rw [g, if_neg (show ¬ bi false = (1 : Int32) by decide)]
      split <;> rfl
    simp only [this]
  · obtain ⟨rr, l1, w', U, rfl, l2, l3⟩ := loopO_inv (f := fun q : Int32 × Int32 × Hs => m_L_learning_L38 (nI n) (bi e) p a r (nI b) q.1 q.2.1 q.2.2)
      (fun c q => c ≤ n ∧ ∃ w' U, q = (w', nI c, U) ∧ Kp S U ∧ Bs w' (fun j => M j || (decide (j < c) && hr K (byE e Z (Clo (aw n K) Z)) b j)))
      (fun rr => ∃ w' U, rr = (w', U) ∧ Kp S U ∧ Bs w' (fun j => M j || (decide (j < n) && hr K (byE e Z (Clo (aw n K) Z)) b j))) n (fun c q hq => by
        obtain ⟨hc, w', U, rfl, b1, b2⟩ := hq
        by_cases hcn : c < n
        · obtain ⟨w2, U2, c1, c2, c3⟩ := learn38 (h.kp b1 (by omega) (by omega)) e p r a hb hcn b2 (by simp [hbM])
          refine Or.inl ⟨hcn, _, c1, by omega, w2, U2, rfl, b1.tr c2, fun j hj => ?_⟩
          rw [c3 j hj]
          dsimp only
          by_cases e1 : j = c
          · subst e1; simp
          · rw [decide_eq_false e1, show decide (j < c + 1) = decide (j < c) by rw [decide_eq_decide]; omega]
            simp
        · obtain rfl : c = n := by omega
          refine Or.inr ⟨(w', U), ?_, w', U, rfl, b1, b2⟩
          simp only [m_L_learning_L38]
          rw [if_pos (by rw [nle (by omega) (by omega)]; omega)]) (x := (w, 0, S)) ⟨by omega, w, S, rfl, Kp.rf S, fun j hj => by rw [hM j hj]; simp⟩
    refine ⟨w', _, U, l1, l2, l3, fun j => ?_⟩
    simp [hbM]
/-- all things' turns, once -/
theorem learn29_all (h : RepS S 29 n K Z) (e : Bool) (p r a : Int32) {w : Int32} {M : Nat → Bool} (hM : Bs w M) (R : Nat → Prop) (hR : ∀ j, M j = true → R j) (hRs : ∀ i j, R i → hr K (byE e Z (Clo (aw n K) Z)) i j = true → R j) : ∃ w' M' S1, loopO (fun q : Int32 × Int32 × Hs => m_L_learning_L29 (nI n) (bi e) p a r q.1 q.2.1 q.2.2) (w, 0, S) = some (w', S1) ∧ Kp S S1 ∧ Bs w' M' ∧ (∀ j, M' j = true → R j) ∧ (∀ j, M j = true → M' j = true) ∧ ∀ i j, i < n → j < n → M i = true → hr K (byE e Z (Clo (aw n K) Z)) i j = true → M' j = true := by
  have hn := h.1
  obtain ⟨rr, l1, w', M', U, rfl, l2⟩ := loopO_inv (f := fun q : Int32 × Int32 × Hs => m_L_learning_L29 (nI n) (bi e) p a r q.1 q.2.1 q.2.2)
    (fun b q => b ≤ n ∧ ∃ w' M' U, q = (w', nI b, U) ∧ Kp S U ∧ Bs w' M' ∧ (∀ j, M' j = true → R j) ∧ (∀ j, M j = true → M' j = true) ∧ ∀ i j, i < b → j < n → M i = true → hr K (byE e Z (Clo (aw n K) Z)) i j = true → M' j = true)
    (fun rr => ∃ w' M' U, rr = (w', U) ∧ Kp S U ∧ Bs w' M' ∧ (∀ j, M' j = true → R j) ∧ (∀ j, M j = true → M' j = true) ∧ ∀ i j, i < n → j < n → M i = true → hr K (byE e Z (Clo (aw n K) Z)) i j = true → M' j = true) n (fun b q hq => by
      obtain ⟨hb, w', M', U, rfl, b1, b2, b3, b4, b5⟩ := hq
      by_cases hbn : b < n
      · obtain ⟨w2, M2, U2, c1, c2, c3, c4⟩ := learn38_all (h.kp b1 (by omega) (by omega)) e p r a hbn b2
        refine Or.inl ⟨hbn, (w2, nI (b + 1), U2), ?_, by omega, w2, M2, U2, rfl, b1.tr c2, c3, fun j hj => ?_, fun j hj => (c4 j).mpr (Or.inl (b4 j hj)), fun i j hi hj q1 q2 => ?_⟩
        · simp only [m_L_learning_L29]
          rw [if_neg (by rw [nle (by omega) (by omega)]; omega), c1, Option.bind_some]
          unfold m_L_learning_J93
          rw [show nI b + 1 = nI (b + 1) from nI_add _ _]
        · rcases (c4 j).mp hj with q | q
          · exact b3 j q
          · exact hRs b j (b3 b q.1) q.2.2
        · by_cases e1 : i = b
          · subst e1
            exact (c4 j).mpr (Or.inr ⟨b4 i q1, hj, q2⟩)
          · exact (c4 j).mpr (Or.inl (b5 i j (by omega) hj q1 q2))
      · obtain rfl : b = n := by omega
        refine Or.inr ⟨(w', U), ?_, w', M', U, rfl, b1, b2, b3, b4, b5⟩
        simp only [m_L_learning_L29]
        rw [if_pos (by rw [nle (by omega) (by omega)]; omega)]) (x := (w, 0, S)) ⟨by omega, w, M, S, rfl, Kp.rf S, hM, hR, fun j q => q, fun i j hi => absurd hi (Nat.not_lt_zero i)⟩
  exact ⟨w', M', U, l1, l2⟩
/-- all rounds: what is met is closed then -/
theorem learn20_all (h : RepS S 29 n K Z) (e : Bool) (p a0 : Int32) {a : Nat} (ha : a < n) {w : Int32} (hM : Bs w (fun j => decide (j = a))) (R : Nat → Prop) (hR : R a) (hRs : ∀ i j, R i → hr K (byE e Z (Clo (aw n K) Z)) i j = true → R j) : ∃ w' M' S1, loopO (fun q : Int32 × Int32 × Hs => m_L_learning_L20 (nI n) (bi e) p a0 q.1 q.2.1 q.2.2) (w, 0, S) = some (w', S1) ∧ Kp S S1 ∧ Bs w' M' ∧ (∀ j, M' j = true → R j) ∧ M' a = true ∧ ∀ i j, M' i = true → hr K (byE e Z (Clo (aw n K) Z)) i j = true → M' j = true := by
  have hn := h.1
  have hwE : WF n (byE e Z (Clo (aw n K) Z)) := by cases e; exact h.2.1; exact Clo_WF h.2.1
  obtain ⟨rr, l1, w', M', U, rfl, l2⟩ := loopO_inv (f := fun q : Int32 × Int32 × Hs => m_L_learning_L20 (nI n) (bi e) p a0 q.1 q.2.1 q.2.2)
    (fun r q => r ≤ n ∧ ∃ w' M' U, q = (w', nI r, U) ∧ Kp S U ∧ Bs w' M' ∧ (∀ j, M' j = true → R j) ∧ M' a = true ∧ ((∀ i j, M' i = true → hr K (byE e Z (Clo (aw n K) Z)) i j = true → M' j = true) ∨ r + 1 ≤ fb_ct M' n))
    (fun rr => ∃ w' M' U, rr = (w', U) ∧ Kp S U ∧ Bs w' M' ∧ (∀ j, M' j = true → R j) ∧ M' a = true ∧ ∀ i j, M' i = true → hr K (byE e Z (Clo (aw n K) Z)) i j = true → M' j = true) n (fun r q hq => by
      obtain ⟨hr', w', M', U, rfl, b1, b2, b3, b4, b5⟩ := hq
      by_cases hrn : r < n
      · obtain ⟨w2, M2, U2, c1, c2, c3, c4, c5, c6⟩ := learn29_all (h.kp b1 (by omega) (by omega)) e p (nI r) a0 b2 (fun j => R j ∧ ((∀ i j, M' i = true → hr K (byE e Z (Clo (aw n K) Z)) i j = true → M' j = true) → M' j = true)) (fun j q => ⟨b3 j q, fun _ => q⟩) (fun i j q1 q2 => ⟨hRs i j q1.1 q2, fun q3 => q3 i j (q1.2 q3) q2⟩)
        refine Or.inl ⟨hrn, (w2, nI (r + 1), U2), ?_, by omega, w2, M2, U2, rfl, b1.tr c2, c3, fun j hj => (c4 j hj).1, c5 a b4, ?_⟩
        · simp only [m_L_learning_L20]
          rw [if_neg (by rw [nle (by omega) (by omega)]; omega), c1, Option.bind_some, show nI r + 1 = nI (r + 1) from nI_add _ _]
        · by_cases hcl : ∀ i j, M' i = true → hr K (byE e Z (Clo (aw n K) Z)) i j = true → M' j = true
          · exact Or.inl fun i j q1 q2 => c5 j (hcl i j ((c4 i q1).2 hcl) q2)
          · right
            have hex : ∃ i j, M' i = true ∧ hr K (byE e Z (Clo (aw n K) Z)) i j = true ∧ M' j = false := by
              apply Classical.byContradiction
              intro hc
              refine hcl fun i j q1 q2 => ?_
              cases hq : M' j
              · exact absurd ⟨i, j, q1, q2, hq⟩ hc
              · rfl
            obtain ⟨i, j, q1, q2, q3⟩ := hex
            have hb := hr_WF hwE q2
            rcases b5 with q | q
            · exact absurd q hcl
            · have := fb_ct_lt (n := n) (fun k _ q => c5 k q) hb.2 q3 (c6 i j hb.1 hb.2 q1 q2)
              omega
      · obtain rfl : r = n := by omega
        refine Or.inr ⟨(w', U), ?_, w', M', U, rfl, b1, b2, b3, b4, ?_⟩
        · simp only [m_L_learning_L20]
          rw [if_pos (by rw [nle (by omega) (by omega)]; omega)]
        · rcases b5 with q | q
          · exact q
          · have := fb_ct_le M' r
            omega) (x := (w, 0, S)) ⟨by omega, w, _, S, rfl, Kp.rf S, hM, fun j q => by rw [decide_eq_true_eq] at q; rw [q]; exact hR, by simp, Or.inr (by
          have : 0 < fb_ct (fun j => decide (j = a)) n := fb_ct_pos.mpr ⟨a, ha, by simp⟩
          omega)⟩
  exact ⟨w', M', U, l1, l2⟩
/-- how many are met -/
theorem learn119_all (u1 u2 u4 : Int32) {v3 : Nat} {w : Int32} {M : Nat → Bool} (hn : n ≤ 7) (hM : Bs w M) : loopO (fun q : Int32 × Int32 => m_L_learning_L119 (nI n) u2 u4 w S q.1 q.2) (nI v3, 0) = some (nI (v3 + fb_ct M n)) := by
  refine loopO_seq (f := fun q : Int32 × Int32 => m_L_learning_L119 (nI n) u2 u4 w S q.1 q.2) (w := fun k => (nI (v3 + fb_ct M k), nI k)) n (fun k hk => ?_) ?_
  · simp only [m_L_learning_L119]
    have g : (w >>> (nI k &&& 31)) &&& 1 = bi (M k) := by
      have := and1 w (show k < 32 by omega)
      rw [hM k (by omega)] at this
      exact this
    rw [if_neg (by rw [nle (by omega) (by omega)]; omega), bnd_eq, g, bi_add, show nI k + 1 = nI (k + 1) from nI_add _ _, fb_ct_succ, Nat.add_assoc]
  · simp only [m_L_learning_L119]
    rw [if_pos (by rw [nle (by omega) (by omega)]; omega)]
theorem learn5 (h : RepS S 29 n K Z) (e : Bool) {a v3 : Nat} (ha : a < n) : ∃ S1, m_L_learning_L5 (nI n) (bi e) (nI v3) (nI a) S = some (.inl (nI (v3 + fb_ct (lr (hr K (byE e Z (Clo (aw n K) Z))) a) n), nI (a + 1), S1)) ∧ Kp S S1 := by
  have hn := h.1
  have h1b : Bs (1 <<< (nI a &&& 31)) (fun j => decide (j = a)) := fun j hj => bt_one (show a < 32 by omega) hj
  obtain ⟨w, M, S1, a1, a2, a3, a4, a5, a6⟩ := learn20_all h e (nI v3) (nI a) ha h1b (fun j => j = a ∨ Lc (hr K (byE e Z (Clo (aw n K) Z))) a j) (Or.inl rfl) (fun i j q1 q2 => by
    rcases q1 with rfl | q1
    · exact Or.inr (Lc_base q2)
    · exact Or.inr (Lc_tr q1 (Lc_base q2)))
  have q1 := h.kp a2 (by omega) (by omega)
  have hbits : Bs (w &&& ((1 <<< (nI a &&& 31)) ^^^ (-1))) (lr (hr K (byE e Z (Clo (aw n K) Z))) a) := fun j hj => by
    have hlr : lr (hr K (byE e Z (Clo (aw n K) Z))) a j = (M j && !decide (j = a)) := by
      unfold lr
      by_cases e1 : a = j
      · subst e1; simp
      · rw [decide_eq_true e1, Bool.true_and, decide_eq_false (fun q => e1 q.symm), Bool.not_false, Bool.and_true]
        cases hMj : M j
        · rw [B_false]
          intro hL
          have := Lc_set hL (fun j => M j = true) (fun v q => a6 a v a5 q) (fun u v q1 q2 => a6 u v q1 q2)
          rw [hMj] at this; cases this
        · rw [B_iff]
          rcases a4 j hMj with q | q
          · exact absurd q.symm e1
          · exact q
    rw [bt_clr w (show a < 32 by omega) hj, a3 j hj, hlr]
  have l9 := learn119_all (S := S1) (n := n) (nI 0) (bi e) (nI a) (v3 := v3) hn hbits
  have ht : ∀ t : Nat, t = (if e then 5 else 4) → ∃ S2, m_X5_thing (nI a) (nI t) S1 = some (.inl (w &&& ((1 <<< (nI a &&& 31)) ^^^ (-1))), S2) ∧ Kp S1 S2 := by
    intro t ht
    obtain ⟨S2, b1, b2⟩ := thing_class q1 ha (show t < 7 by rw [ht]; cases e <;> simp)
    refine ⟨S2, ?_, b2⟩
    rw [b1, ofB_eq hbits, ht]
    cases e <;> rfl
  obtain ⟨S2, b1, b2⟩ := ht _ rfl
  refine ⟨S2, ?_, a2.tr b2⟩
  unfold m_L_learning_L5
  rw [if_neg (by rw [nle (by omega) (by omega)]; omega), bnd_eq, a1, Option.bind_some]
  dsimp only
  rw [bnd_eq, l9, Option.bind_some]
  unfold m_L_learning_J153
  cases e
  · have b1' : m_X5_thing (nI a) 4 S1 = some (.inl (w &&& ((1 <<< (nI a &&& 31)) ^^^ (-1))), S2) := b1
    rw [if_pos (show bi false = (0 : Int32) from rfl), b1', bndX_l, if_pos rfl, show nI a + 1 = nI (a + 1) from nI_add _ _]
  · have b1' : m_X5_thing (nI a) 5 S1 = some (.inl (w &&& ((1 <<< (nI a &&& 31)) ^^^ (-1))), S2) := b1
    rw [if_neg (show ¬ bi true = (0 : Int32) by decide), b1', bndX_l, if_pos rfl, show nI a + 1 = nI (a + 1) from nI_add _ _]
theorem learning_c (h : RepS S 29 n K Z) (e : Bool) : ∃ S1, m_L_learning (nI n) (bi e) S = some (nI 1, S1) ∧ Kp S S1 := by
  have hn := h.1
  have hwE : WF n (byE e Z (Clo (aw n K) Z)) := by cases e; exact h.2.1; exact Clo_WF h.2.1
  have hB : HB n (hr K (byE e Z (Clo (aw n K) Z))) := fun a b q => hr_WF hwE q
  have hprs : fb_sm (fun a => fb_ct (lr (hr K (byE e Z (Clo (aw n K) Z))) a) n) n = prs (hr K (byE e Z (Clo (aw n K) Z))) := by
    unfold prs
    rw [fb_sm_tail (f := fun a => fb_ct (lr (hr K (byE e Z (Clo (aw n K) Z))) a) 7) hn fun k h1 _ => fb_ct_zero.mpr fun b _ => lr_big hB (Or.inl h1)]
    refine fb_sm_cong fun a _ => ?_
    have := fb_ct_split (lr (hr K (byE e Z (Clo (aw n K) Z))) a) n (7 - n)
    rw [show n + (7 - n) = 7 by omega, fb_ct_zero.mpr (fun b _ => lr_big hB (Or.inr (Nat.le_add_right n b)))] at this
    exact this.symm
  obtain ⟨rr, l1, U, rfl, l2⟩ := loopO_inv (f := fun q : Int32 × Int32 × Hs => m_L_learning_L5 (nI n) (bi e) q.1 q.2.1 q.2.2)
    (fun a q => a ≤ n ∧ ∃ U, q = (nI (fb_sm (fun a => fb_ct (lr (hr K (byE e Z (Clo (aw n K) Z))) a) n) a), nI a, U) ∧ Kp S U)
    (fun rr => ∃ U, rr = .inl (nI (prs (hr K (byE e Z (Clo (aw n K) Z)))), U) ∧ Kp S U) n (fun a q hq => by
      obtain ⟨ha, U, rfl, b1⟩ := hq
      by_cases han : a < n
      · obtain ⟨U2, c1, c2⟩ := learn5 (h.kp b1 (by omega) (by omega)) e (v3 := fb_sm (fun a => fb_ct (lr (hr K (byE e Z (Clo (aw n K) Z))) a) n) a) han
        exact Or.inl ⟨han, _, c1, by omega, U2, rfl, b1.tr c2⟩
      · obtain rfl : a = n := by omega
        refine Or.inr ⟨.inl (nI (prs (hr K (byE e Z (Clo (aw a K) Z)))), U), ?_, U, rfl, b1⟩
        simp only [m_L_learning_L5]
        rw [if_pos (by rw [nle (by omega) (by omega)]; omega), hprs]) (x := (0, 0, S)) ⟨by omega, S, rfl, Kp.rf S⟩
  have q0 := h.kp l2 (by omega) (by omega)
  have ht : ∀ t : Nat, t = (if e then 7 else 6) → ∃ S2, m_X5_about (nI t) U = some (.inl (nI (prs (hr K (byE e Z (Clo (aw n K) Z))))), S2) ∧ Kp U S2 := by
    intro t ht
    obtain ⟨S2, b1, b2⟩ := about_class q0 (show t < 8 by rw [ht]; cases e <;> simp)
    refine ⟨S2, ?_, b2⟩
    rw [b1, ht]
    cases e <;> rfl
  obtain ⟨S2, b1, b2⟩ := ht _ rfl
  refine ⟨S2, ?_, l2.tr b2⟩
  unfold m_L_learning
  rw [l1, Option.bind_some, Sum.elim_inl]
  dsimp only
  unfold m_L_learning_J181 m_L_learning_J193
  cases e
  · have b1' : m_X5_about 6 U = some (.inl (nI (prs (hr K (byE false Z (Clo (aw n K) Z))))), S2) := b1
    rw [if_pos (show bi false = (0 : Int32) from rfl), b1', bndX_l, if_pos rfl]
    exact gd_t (by decide) _
  · have b1' : m_X5_about 7 U = some (.inl (nI (prs (hr K (byE true Z (Clo (aw n K) Z))))), S2) := b1
    rw [if_neg (show ¬ bi true = (0 : Int32) by decide), b1', bndX_l, if_pos rfl]
    exact gd_t (by decide) _
end LE
