/-! rounds, ways and proofs of one right: what the law asks of them -/
theorem ct_or (p q : Nat → Bool) : ∀ n, fb_ct (fun i => p i || q i) n ≤ fb_ct p n + fb_ct q n
  | 0 => Nat.le_refl _
  | n + 1 => by
    have := ct_or p q n
    rw [fb_ct_succ, fb_ct_succ, fb_ct_succ]
    cases p n <;> cases q n <;> simp <;> omega
theorem ct_one (c : Nat) : ∀ n, fb_ct (fun i => decide (i = c)) n ≤ if c < n then 1 else 0
  | 0 => by simp [fb_ct]
  | n + 1 => by
    have := ct_one c n
    rw [fb_ct_succ]
    by_cases h : n = c
    · subst h
      simp at this ⊢
      omega
    · have e : (if decide (n = c) = true then 1 else 0) = 0 := by simp [h]
      rw [e]
      split at this <;> split <;> omega
section CM
variable {n : Nat} {A : Nat → Bool} {Z : Rt} {x k y : Nat}
theorem come_no (hw : WF n Z) (hn : n ≤ 7) (h : Clo A Z x k y = false) : rndv A Z x k y = m9 ∧ wy n A Z x k y = m9 ∧ prfv n A Z x k y = m9 := by
  have h97 : fr A Z x k y = 197 := by
    cases Nat.decEq (fr A Z x k y) 197 with
    | isTrue e => exact e
    | isFalse e => rw [(fr_comes hw hn).mp e] at h; cases h
  refine ⟨?_, ?_, ?_⟩
  · unfold rndv; rw [h]; rfl
  · unfold wy; rw [if_pos (Or.inr h97)]; rfl
  · unfold prfv; rw [h]; rfl
theorem plen_0 (h : hwy A Z x k y = false) : plen n A Z x k y = 0 := by
  refine fb_ct_zero.mpr fun i hi => ?_
  show (pfs n A Z x k y _ _ _ && hwy A Z _ _ _) = false
  cases hq : pfs n A Z x k y (i / 28) (i % 28 / 7) (i % 28 % 7)
  · rfl
  · have := pfs_iff.mp hq (fun a b c => a = x ∧ b = k ∧ c = y) ⟨rfl, rfl, rfl⟩ (fun a b c q1 q2 => by
      obtain ⟨rfl, rfl, rfl⟩ := q1
      rw [h] at q2; cases q2)
    rw [this.1, this.2.1, this.2.2, h]
    rfl
theorem come_0 (h : Z x k y = true) : rndv A Z x k y = nI 0 ∧ wy n A Z x k y = m9 ∧ prfv n A Z x k y = nI 0 := by
  have h0 : fr A Z x k y = 0 := fr_0.mpr h
  have hc : Clo A Z x k y = true := Clo_sub A Z x k y h
  refine ⟨?_, ?_, ?_⟩
  · unfold rndv; rw [hc, h0]; rfl
  · unfold wy; rw [if_pos (Or.inl h0)]; rfl
  · unfold prfv
    rw [hc, plen_0 (by
      cases hq : hwy A Z x k y
      · rfl
      · exact absurd h0 (hwy_iff.mp hq).1)]
    rfl
theorem need_max (hw : WF n Z) (hn : n ≤ 7) (h : hwy A Z x k y = true) : fr A Z (if wg n A Z x k y then wo n A Z x k y else x) (if wg n A Z x k y then 1 else 0) (if wg n A Z x k y then x else wo n A Z x k y) + 1 = fr A Z x k y ∨ fr A Z (wo n A Z x k y) k y + 1 = fr A Z x k y := by
  obtain ⟨n1, n2⟩ := need_fr hw hn h
  obtain ⟨b1, b2, b3, b4, b5, b6, -⟩ := hwy_way hw hn h
  obtain ⟨h0, h1⟩ := hwy_iff.mp h
  have h97 := fr_197 (A := A) (Z := Z) (x := x) (k := k) (y := y)
  by_cases e1 : fr A Z (if wg n A Z x k y then wo n A Z x k y else x) (if wg n A Z x k y then 1 else 0) (if wg n A Z x k y then x else wo n A Z x k y) + 1 = fr A Z x k y
  · exact Or.inl e1
  by_cases e2 : fr A Z (wo n A Z x k y) k y + 1 = fr A Z x k y
  · exact Or.inr e2
  exfalso
  have q1 := (fr_le (A := A) (Z := Z) (show fr A Z x k y - 2 < 197 by omega)).mp (show fr A Z (if wg n A Z x k y then wo n A Z x k y else x) (if wg n A Z x k y then 1 else 0) (if wg n A Z x k y then x else wo n A Z x k y) ≤ fr A Z x k y - 2 by omega)
  have q2 := (fr_le (A := A) (Z := Z) (show fr A Z x k y - 2 < 197 by omega)).mp (show fr A Z (wo n A Z x k y) k y ≤ fr A Z x k y - 2 by omega)
  have q3 : nw A (rd A Z (fr A Z x k y - 2)) x k y := by
    refine ⟨b4, ?_⟩
    cases hg : wg n A Z x k y
    · rw [hg] at q1 b6
      exact Or.inl ⟨b6, _, q1, q2⟩
    · rw [hg] at q1 b6
      exact Or.inr ⟨_, b6, q1, q2⟩
  have q4 : rd A Z (fr A Z x k y - 2 + 1) x k y = true := stp_iff.mpr (Or.inr q3)
  have := (fr_le (A := A) (Z := Z) (show fr A Z x k y - 2 + 1 < 197 by omega)).mpr q4
  omega
theorem plen_le (h : hwy A Z x k y = true) : plen n A Z x k y ≤ plen n A Z (if wg n A Z x k y then wo n A Z x k y else x) (if wg n A Z x k y then 1 else 0) (if wg n A Z x k y then x else wo n A Z x k y) + plen n A Z (wo n A Z x k y) k y + 1 := by
  have hs : ∀ a b c, pfs n A Z x k y a b c = true → (a = x ∧ b = k ∧ c = y) ∨ pfs n A Z (if wg n A Z x k y then wo n A Z x k y else x) (if wg n A Z x k y then 1 else 0) (if wg n A Z x k y then x else wo n A Z x k y) a b c = true ∨ pfs n A Z (wo n A Z x k y) k y a b c = true := fun a b c q =>
    pfs_iff.mp q (fun a b c => (a = x ∧ b = k ∧ c = y) ∨ pfs n A Z (if wg n A Z x k y then wo n A Z x k y else x) (if wg n A Z x k y then 1 else 0) (if wg n A Z x k y then x else wo n A Z x k y) a b c = true ∨ pfs n A Z (wo n A Z x k y) k y a b c = true) (Or.inl ⟨rfl, rfl, rfl⟩) (fun a b c q1 q2 => by
      rcases q1 with ⟨rfl, rfl, rfl⟩ | q1 | q1
      · exact ⟨Or.inr (Or.inl (pfs_goal _ _ _)), Or.inr (Or.inr (pfs_goal _ _ _))⟩
      · have := pfs_PfC _ _ _ a b c q1 q2
        exact ⟨Or.inr (Or.inl this.1), Or.inr (Or.inl this.2)⟩
      · have := pfs_PfC _ _ _ a b c q1 q2
        exact ⟨Or.inr (Or.inr this.1), Or.inr (Or.inr this.2)⟩)
  have s1 : plen n A Z x k y ≤ fb_ct (fun i => decide (i = ix x k y) || (fl (fun a b c => pfs n A Z (if wg n A Z x k y then wo n A Z x k y else x) (if wg n A Z x k y then 1 else 0) (if wg n A Z x k y then x else wo n A Z x k y) a b c && hwy A Z a b c) i || fl (fun a b c => pfs n A Z (wo n A Z x k y) k y a b c && hwy A Z a b c) i)) 196 := fb_ct_sub fun i hi q => by
    have q' : (pfs n A Z x k y (i / 28) (i % 28 / 7) (i % 28 % 7) && hwy A Z (i / 28) (i % 28 / 7) (i % 28 % 7)) = true := q
    rw [Bool.and_eq_true] at q'
    rcases hs _ _ _ q'.1 with ⟨e1, e2, e3⟩ | q1 | q1
    · have : i = ix x k y := by rw [← e1, ← e2, ← e3]; exact (ix_of hi).1.symm
      rw [decide_eq_true this]; rfl
    · show (_ || ((pfs n A Z _ _ _ (i / 28) (i % 28 / 7) (i % 28 % 7) && hwy A Z (i / 28) (i % 28 / 7) (i % 28 % 7)) || _)) = true
      rw [q1, q'.2]; simp
    · show (_ || (_ || (pfs n A Z _ _ _ (i / 28) (i % 28 / 7) (i % 28 % 7) && hwy A Z (i / 28) (i % 28 / 7) (i % 28 % 7)))) = true
      rw [q1, q'.2]; simp
  have s2 := ct_or (fun i => decide (i = ix x k y)) (fun i => (fl (fun a b c => pfs n A Z (if wg n A Z x k y then wo n A Z x k y else x) (if wg n A Z x k y then 1 else 0) (if wg n A Z x k y then x else wo n A Z x k y) a b c && hwy A Z a b c) i || fl (fun a b c => pfs n A Z (wo n A Z x k y) k y a b c && hwy A Z a b c) i)) 196
  have s3 := ct_or (fl (fun a b c => pfs n A Z (if wg n A Z x k y then wo n A Z x k y else x) (if wg n A Z x k y then 1 else 0) (if wg n A Z x k y then x else wo n A Z x k y) a b c && hwy A Z a b c)) (fl (fun a b c => pfs n A Z (wo n A Z x k y) k y a b c && hwy A Z a b c)) 196
  have s4 := ct_one (ix x k y) 196
  have s5 : (if ix x k y < 196 then 1 else 0) ≤ 1 := by split <;> omega
  unfold plen cnt at *
  omega
theorem plen_ge (hw : WF n Z) (hn : n ≤ 7) : ∀ r x k y, fr A Z x k y = r → r ≠ 197 → r ≤ plen n A Z x k y := by
  intro r
  induction r with
  | zero => intro x k y _ _; exact Nat.zero_le _
  | succ r ih =>
    intro x k y hr h97
    have h97' := fr_197 (A := A) (Z := Z) (x := x) (k := k) (y := y)
    have hq : hwy A Z x k y = true := hwy_iff.mpr ⟨by omega, by omega⟩
    obtain ⟨b1, b2, b3, b4, b5, -⟩ := hwy_way hw hn hq
    have step : ∀ a b c, fr A Z a b c + 1 = fr A Z x k y → pfs n A Z x k y a b c = true → r + 1 ≤ plen n A Z x k y := by
      intro a b c hf hp
      have h1 := ih a b c (by omega) (by omega)
      have h2 : plen n A Z a b c < plen n A Z x k y := by
        refine cnt_lt (x := x) (k := k) (y := y) (fun a' b' c' q => ?_) (by omega) b2 (by omega) ?_ ?_
        · rw [Bool.and_eq_true] at q ⊢
          exact ⟨pfs_iff.mp q.1 (fun a b c => pfs n A Z x k y a b c = true) hp (pfs_PfC x k y), q.2⟩
        · cases hg : pfs n A Z a b c x k y
          · rfl
          · have := pfs_iff.mp hg (fun a' b' c' => fr A Z a' b' c' ≤ fr A Z a b c) (Nat.le_refl _) (fun a' b' c' q1 q2 => by
              have := need_fr hw hn q2
              exact ⟨by omega, by omega⟩)
            omega
        · rw [pfs_goal, hq]; rfl
      omega
    have hp := pfs_PfC (n := n) (A := A) (Z := Z) x k y x k y (pfs_goal x k y) hq
    rcases need_max hw hn hq with e | e
    · exact step _ _ _ e hp.1
    · exact step _ _ _ e hp.2
end CM
section CC
variable {S : Hs} {n : Nat} {K : Kd} {Z : Rt}
theorem rndv_at {A : Nat → Bool} (hw : WF n Z) (hn : n ≤ 7) {a b c : Nat} (h : fr A Z a b c ≠ 197) : rndv A Z a b c = nI (fr A Z a b c) ∧ prfv n A Z a b c = nI (plen n A Z a b c) := by
  have := (fr_comes hw hn).mp h
  unfold rndv prfv
  rw [this]
  exact ⟨rfl, rfl⟩
/-- behind the way: the two rights that the step needs -/
theorem come205 (h : RepS S 29 n K Z) {p f k y P r : Nat} (g : Bool) (hp : p < n) (hf : f < n) (hk : k < 4) (hy : y < n) (hpf : p ≠ f) (hoy : (if g then p else f) ≠ y)
    (hr : r < 197) (h1 : fr (aw n K) Z p (if g then 1 else 0) f < r) (h2 : fr (aw n K) Z (if g then p else f) k y < r) (hmax : fr (aw n K) Z p (if g then 1 else 0) f + 1 = r ∨ fr (aw n K) Z (if g then p else f) k y + 1 = r)
    (hP : r ≤ P) (hP2 : P ≤ plen n (aw n K) Z p (if g then 1 else 0) f + plen n (aw n K) Z (if g then p else f) k y + 1) (hP3 : P ≤ 196) : ∃ S1, m_L_comes_J205 (nI k) (nI y) (nI r) (nI P) (nI p) (nI f) (bi g) (bi g) (nI p) S = some (nI 1, S1) ∧ Kp S S1 := by
  have hn := h.1
  have hw := h.2.1
  have ho : (if g then p else f) < n := by
    cases g
    · exact hf
    · exact hp
  have hg4 : (if g then 1 else 0) < 4 := by cases g <;> simp
  have hgi : bi g = nI (if g then 1 else 0) := by cases g <;> rfl
  obtain ⟨S1, a1, a2⟩ := round_c h hp hg4 hf hpf
  have r1 := h.kp a2 (by omega) (by omega)
  obtain ⟨S2, b1, b2⟩ := round_c r1 ho hk hy hoy
  have r2 := r1.kp b2 (by omega) (by omega)
  obtain ⟨S3, c1, c2⟩ := proof_c r2 hp hg4 hf hpf
  have r3 := r2.kp c2 (by omega) (by omega)
  obtain ⟨S4, d1, d2⟩ := proof_c r3 ho hk hy hoy
  refine ⟨S4, ?_, ((a2.tr b2).tr c2).tr d2⟩
  obtain ⟨e1, e2⟩ := rndv_at (A := aw n K) hw hn (show fr (aw n K) Z p (if g then 1 else 0) f ≠ 197 by omega)
  obtain ⟨e3, e4⟩ := rndv_at (A := aw n K) hw hn (show fr (aw n K) Z (if g then p else f) k y ≠ 197 by omega)
  rw [e1] at a1
  rw [e3] at b1
  rw [e2] at c1
  rw [e4] at d1
  have l1 : plen n (aw n K) Z p (if g then 1 else 0) f ≤ 196 := cnt_196 _
  have l2 : plen n (aw n K) Z (if g then p else f) k y ≤ 196 := cnt_196 _
  generalize plen n (aw n K) Z p (if g then 1 else 0) f = P1 at *
  generalize plen n (aw n K) Z (if g then p else f) k y = P2 at *
  generalize fr (aw n K) Z p (if g then 1 else 0) f = r1' at *
  generalize fr (aw n K) Z (if g then p else f) k y = r2' at *
  have hm : nI r - nI 1 = nI (r - 1) := nI_sub (by omega)
  have g1 : (P ≤ 0) = False := eq_false (by omega)
  have g2 : (P1 + P2 + 1 < P) = False := eq_false (by omega)
  have g3 : (P < r) = False := eq_false (by omega)
  have n1 : (nI r1' < nI 0) = False := eq_false (not_neg (by omega))
  have n2 : (nI r2' < nI 0) = False := eq_false (not_neg (by omega))
  unfold m_L_comes_J205
  have hlast : ∀ m : Nat, m = r - 1 → m_L_comes_J279 (nI k) (nI y) (nI r) (nI P) (nI r1') (nI r2') (nI m) (nI (if g then p else f)) (nI P1) S3 = some (nI 1, S4) := by
    intro m hm'
    subst hm'
    unfold m_L_comes_J279 m_L_comes_J331 m_L_comes_J332
    simp (disch := omega) only [k_0, k_1, k_2, k_3, k_4, k_5, k_6, k_7, k_8, k_9, k_10, k_14, k_16, k_28, k_30, k_48, k_49, k_57, k_100, k_110, k_127, k_128, k_196, k_255, k_1000, k_1024, k_10000, nI_add, nI_mul, nI_div, irm_nI, nle, nlt, neq, gd_t, inb_nI, cl_nI, bnd_eq, gdT, gdo, gb0, gb1, gbi, bi0, bi1, bi0r, Option.bind_some, bndE_some, ite_t, ite_f, k_m9, k_m1, k_13, k_15, k_18, k_19, k_112, k_114, k_115, k_98, k_103, k_116, k_119, k_47, k_82, k_50, k_51, k_99, k_700, k_197, ne9, ne9s, nI_ne0s, ↓reduceIte, d1, bndX_l, n1, n2, hm, g1, g2, g3]
    exact gd_t (by simp) _
  have hmid : ∀ m : Nat, m = r - 1 → m_L_comes_J246 (nI k) (nI y) (nI r) (nI P) (nI p) (nI f) (bi g) (nI r1') (nI r2') (nI m) S2 = some (nI 1, S4) := by
    intro m hm'
    have := hlast m hm'
    unfold m_L_comes_J246 m_L_comes_J261
    cases g
    · simp only [Bool.false_eq_true, if_false] at this c1
      simp (disch := omega) only [k_0, k_1, k_2, k_3, k_4, k_5, k_6, k_7, k_8, k_9, k_10, k_14, k_16, k_28, k_30, k_48, k_49, k_57, k_100, k_110, k_127, k_128, k_196, k_255, k_1000, k_1024, k_10000, nI_add, nI_mul, nI_div, irm_nI, nle, nlt, neq, gd_t, inb_nI, cl_nI, bnd_eq, gdT, gdo, gb0, gb1, gbi, bi0, bi1, bi0r, Option.bind_some, bndE_some, ite_t, ite_f, k_m9, k_m1, k_13, k_15, k_18, k_19, k_112, k_114, k_115, k_98, k_103, k_116, k_119, k_47, k_82, k_50, k_51, k_99, k_700, k_197, ne9, ne9s, nI_ne0s, ↓reduceIte, bi_f, c1, bndX_l, this]
    · simp only [if_true] at this c1
      simp (disch := omega) only [k_0, k_1, k_2, k_3, k_4, k_5, k_6, k_7, k_8, k_9, k_10, k_14, k_16, k_28, k_30, k_48, k_49, k_57, k_100, k_110, k_127, k_128, k_196, k_255, k_1000, k_1024, k_10000, nI_add, nI_mul, nI_div, irm_nI, nle, nlt, neq, gd_t, inb_nI, cl_nI, bnd_eq, gdT, gdo, gb0, gb1, gbi, bi0, bi1, bi0r, Option.bind_some, bndE_some, ite_t, ite_f, k_m9, k_m1, k_13, k_15, k_18, k_19, k_112, k_114, k_115, k_98, k_103, k_116, k_119, k_47, k_82, k_50, k_51, k_99, k_700, k_197, ne9, ne9s, nI_ne0s, ↓reduceIte, bi_t, c1, bndX_l, this]
  have h225 : m_L_comes_J225 (nI k) (nI y) (nI r) (nI P) (nI p) (nI f) (bi g) (nI r1') (nI (if g then p else f)) S1 = some (nI 1, S4) := by
    unfold m_L_comes_J225
    by_cases q : r1' ≤ r2'
    · have := hmid r2' (by omega)
      simp (disch := omega) only [k_0, k_1, k_2, k_3, k_4, k_5, k_6, k_7, k_8, k_9, k_10, k_14, k_16, k_28, k_30, k_48, k_49, k_57, k_100, k_110, k_127, k_128, k_196, k_255, k_1000, k_1024, k_10000, nI_add, nI_mul, nI_div, irm_nI, nle, nlt, neq, gd_t, inb_nI, cl_nI, bnd_eq, gdT, gdo, gb0, gb1, gbi, bi0, bi1, bi0r, Option.bind_some, bndE_some, ite_t, ite_f, k_m9, k_m1, k_13, k_15, k_18, k_19, k_112, k_114, k_115, k_98, k_103, k_116, k_119, k_47, k_82, k_50, k_51, k_99, k_700, k_197, ne9, ne9s, nI_ne0s, ↓reduceIte, b1, bndX_l, q, this]
    · have := hmid r1' (by omega)
      simp (disch := omega) only [k_0, k_1, k_2, k_3, k_4, k_5, k_6, k_7, k_8, k_9, k_10, k_14, k_16, k_28, k_30, k_48, k_49, k_57, k_100, k_110, k_127, k_128, k_196, k_255, k_1000, k_1024, k_10000, nI_add, nI_mul, nI_div, irm_nI, nle, nlt, neq, gd_t, inb_nI, cl_nI, bnd_eq, gdT, gdo, gb0, gb1, gbi, bi0, bi1, bi0r, Option.bind_some, bndE_some, ite_t, ite_f, k_m9, k_m1, k_13, k_15, k_18, k_19, k_112, k_114, k_115, k_98, k_103, k_116, k_119, k_47, k_82, k_50, k_51, k_99, k_700, k_197, ne9, ne9s, nI_ne0s, ↓reduceIte, b1, bndX_l, q, this]
  rw [← hgi] at a1
  cases g
  · simp only [Bool.false_eq_true, if_false] at h225
    simp (disch := omega) only [k_0, k_1, k_2, k_3, k_4, k_5, k_6, k_7, k_8, k_9, k_10, k_14, k_16, k_28, k_30, k_48, k_49, k_57, k_100, k_110, k_127, k_128, k_196, k_255, k_1000, k_1024, k_10000, nI_add, nI_mul, nI_div, irm_nI, nle, nlt, neq, gd_t, inb_nI, cl_nI, bnd_eq, gdT, gdo, gb0, gb1, gbi, bi0, bi1, bi0r, Option.bind_some, bndE_some, ite_t, ite_f, k_m9, k_m1, k_13, k_15, k_18, k_19, k_112, k_114, k_115, k_98, k_103, k_116, k_119, k_47, k_82, k_50, k_51, k_99, k_700, k_197, ne9, ne9s, nI_ne0s, ↓reduceIte, a1, bndX_l, bi_f, h225]
    rw [bi_f] at a1 h225
    simp (disch := omega) only [k_0, k_1, k_2, k_3, k_4, k_5, k_6, k_7, k_8, k_9, k_10, k_14, k_16, k_28, k_30, k_48, k_49, k_57, k_100, k_110, k_127, k_128, k_196, k_255, k_1000, k_1024, k_10000, nI_add, nI_mul, nI_div, irm_nI, nle, nlt, neq, gd_t, inb_nI, cl_nI, bnd_eq, gdT, gdo, gb0, gb1, gbi, bi0, bi1, bi0r, Option.bind_some, bndE_some, ite_t, ite_f, k_m9, k_m1, k_13, k_15, k_18, k_19, k_112, k_114, k_115, k_98, k_103, k_116, k_119, k_47, k_82, k_50, k_51, k_99, k_700, k_197, ne9, ne9s, nI_ne0s, ↓reduceIte, a1, bndX_l, h225]
  · simp only [if_true] at h225
    rw [bi_t] at a1 h225 ⊢
    simp (disch := omega) only [k_0, k_1, k_2, k_3, k_4, k_5, k_6, k_7, k_8, k_9, k_10, k_14, k_16, k_28, k_30, k_48, k_49, k_57, k_100, k_110, k_127, k_128, k_196, k_255, k_1000, k_1024, k_10000, nI_add, nI_mul, nI_div, irm_nI, nle, nlt, neq, gd_t, inb_nI, cl_nI, bnd_eq, gdT, gdo, gb0, gb1, gbi, bi0, bi1, bi0r, Option.bind_some, bndE_some, ite_t, ite_f, k_m9, k_m1, k_13, k_15, k_18, k_19, k_112, k_114, k_115, k_98, k_103, k_116, k_119, k_47, k_82, k_50, k_51, k_99, k_700, k_197, ne9, ne9s, nI_ne0s, ↓reduceIte, a1, bndX_l, h225]
theorem wy_W {W : Nat} (hW : W < 200) : irm (nI W / 10) 10 = nI (W / 10 % 10) ∧ irm (nI W) 10 = nI (W % 10) := by
  show irm (nI W / nI 10) (nI 10) = nI (W / 10 % 10) ∧ irm (nI W) (nI 10) = nI (W % 10)
  rw [nI_div (by omega) (by omega) (by omega), irm_nI (by omega) (by omega) (by omega), irm_nI (by omega) (by omega) (by omega)]
  exact ⟨rfl, rfl⟩
/-- one right: its round, way and proof -/
theorem comes_c (h : RepS S 29 n K Z) {x k y : Nat} (hx : x < n) (hk : k < 4) (hy : y < n) (hne : x ≠ y) : ∃ S1, m_L_comes (nI x) (nI k) (nI y) S = some (nI 1, S1) ∧ Kp S S1 := by
  have hn := h.1
  have hw := h.2.1
  obtain ⟨S1, a1, a2⟩ := round_c h hx hk hy hne
  have q1 := h.kp a2 (by omega) (by omega)
  obtain ⟨S2, b1, b2⟩ := way_c q1 hx hk hy hne
  have q2 := q1.kp b2 (by omega) (by omega)
  obtain ⟨S3, c1, c2⟩ := proof_c q2 hx hk hy hne
  have q3 := q2.kp c2 (by omega) (by omega)
  obtain ⟨S4, d1, d2⟩ := ends_c q3 hx hk hy hne
  have q4 := q3.kp d2 (by omega) (by omega)
  have k4 := ((a2.tr b2).tr c2).tr d2
  unfold m_L_comes
  cases hC : Clo (aw n K) Z x k y
  · obtain ⟨e1, e2, e3⟩ := come_no hw hn hC
    rw [e1] at a1
    rw [e2] at b1
    rw [e3] at c1
    rw [hC] at d1
    refine ⟨S4, ?_, k4⟩
    unfold m_L_comes_J63
    rw [a1, bndX_l, b1, bndX_l, c1, bndX_l, d1, bndE_some, if_pos (show bi false = (0 : Int32) from rfl), if_pos (show m9 = ((-9) : Int32) from rfl), if_pos (show m9 = ((-9) : Int32) from rfl), if_pos (show m9 = ((-9) : Int32) from rfl)]
    exact gd_t (by simp) _
  · rw [hC] at d1
    obtain ⟨w, S5, f1, f2, f3⟩ := rights_c q4 hx hy hne false
    have q5 := q4.kp f2 (by omega) (by omega)
    have hb : bt w k = Z x k y := by rw [f3 k (by omega), decide_eq_true hk, Bool.true_and]; rfl
    have f1' : m_X5_rights (nI x) (nI y) 0 S4 = some (.inl w, S5) := f1
    have hbit : (w >>> (nI k &&& 31)) &&& 1 = bi (bt w k) := and1 w (by omega)
    rw [hb] at hbit
    cases hZ : Z x k y
    · rw [hZ] at hbit
      have h97 : fr (aw n K) Z x k y ≠ 197 := (fr_comes hw hn).mpr hC
      have h0 : fr (aw n K) Z x k y ≠ 0 := fun e => by
        have := fr_0.mp e
        rw [hZ] at this; cases this
      have hq : hwy (aw n K) Z x k y = true := hwy_iff.mpr ⟨h0, h97⟩
      obtain ⟨o1, o2, o3, o4, o5, o6, o7, o8, o9⟩ := hwy_way hw hn hq
      obtain ⟨m1, m2⟩ := need_fr hw hn hq
      have m3 := need_max hw hn hq
      have m4 := plen_le (n := n) hq
      have m5 := plen_ge hw hn _ x k y rfl h97
      have m6 : plen n (aw n K) Z x k y ≤ 196 := cnt_196 _
      have hfr := fr_197 (A := aw n K) (Z := Z) (x := x) (k := k) (y := y)
      obtain ⟨e1, e3⟩ := rndv_at (A := aw n K) hw hn h97
      rw [e1] at a1
      rw [e3] at c1
      rw [o9] at b1
      have w7 := rd_WF (A := aw n K) hw _ _ _ _ o7
      have w8 := rd_WF (A := aw n K) hw _ _ _ _ o8
      have n1 : (fr (aw n K) Z x k y < 1) = False := eq_false (by omega)
      generalize hg : wg n (aw n K) Z x k y = g at *
      generalize wo n (aw n K) Z x k y = o at *
      have hA : K (if g then o else x) = 1 := (aw_iff.mp o6).2
      have hA' : (if g then o else x) < n := (aw_iff.mp o6).1
      obtain ⟨S6, t1, t2⟩ := thing_class q5 hA' (show 1 < 7 by omega)
      have hv : thv n K Z (if g then o else x) 1 = nI 1 := by
        unfold thv
        rw [if_neg (by omega), if_pos rfl, decide_eq_true hA]
        rfl
      rw [hv] at t1
      have q6 := q5.kp t2 (by omega) (by omega)
      have hof : (if g then (if g then o else x) else (if g then x else o)) = o := by cases g <;> rfl
      have hff : (if g then x else o) < n := by
        cases g
        · exact o5
        · exact hx
      obtain ⟨S7, z1, z2⟩ := come205 q6 (p := if g then o else x) (f := if g then x else o) (k := k) (y := y) (P := plen n (aw n K) Z x k y) (r := fr (aw n K) Z x k y) g hA' hff hk hy w7.2.2.2 (by rw [hof]; exact w8.2.2.2) (by omega) m1 (by rw [hof]; exact m2) (by rw [hof]; exact m3) m5 (by rw [hof]; exact m4) m6
      refine ⟨S7, ?_, ((k4.tr f2).tr t2).tr z2⟩
      have x7 : x < 7 := by omega
      have o7' : o < 7 := by omega
      have neg : ∀ W : Nat, W < 200 → (nI W < nI 0) = False := fun W hW => eq_false (not_neg (by omega))
      cases g
      · simp only [Bool.false_eq_true, if_false] at b1 t1 z1 w7
        obtain ⟨v1, v2⟩ := wy_W (W := 10 * x + o) (by omega)
        rw [show (10 * x + o) / 10 % 10 = x by omega] at v1
        rw [show (10 * x + o) % 10 = o by omega] at v2
        have hlt : nI (10 * x + o) < (100 : Int32) := by
          show nI (10 * x + o) < nI 100
          rw [nlt (by omega) (by omega)]
          omega
        have d1' : (x = o) = False := eq_false w7.2.2.2
        have d2' : (x = y) = False := eq_false hne
        have d3' : (o = y) = False := eq_false w8.2.2.2
        rw [bi_f] at z1
        rw [a1, bndX_l, b1, bndX_l, c1, bndX_l, d1, bndE_some, if_neg (show ¬ bi true = (0 : Int32) by decide), f1', bndX_l, hbit, if_neg (show ¬ bi false = (1 : Int32) by decide), bnd_eq, bnd_eq, v1, v2, if_pos hlt]
        unfold m_L_comes_J131 m_L_comes_J156
        simp (disch := omega) only [k_0, k_1, k_2, k_3, k_4, k_5, k_6, k_7, k_8, k_9, k_10, k_14, k_16, k_28, k_30, k_48, k_49, k_57, k_100, k_110, k_127, k_128, k_196, k_255, k_1000, k_1024, k_10000, nI_add, nI_mul, nI_div, irm_nI, nle, nlt, neq, gd_t, inb_nI, cl_nI, bnd_eq, gdT, gdo, gb0, gb1, gbi, bi0, bi1, bi0r, Option.bind_some, bndE_some, ite_t, ite_f, k_m9, k_m1, k_13, k_15, k_18, k_19, k_112, k_114, k_115, k_98, k_103, k_116, k_119, k_47, k_82, k_50, k_51, k_99, k_700, k_197, ne9, ne9s, nI_ne0s, ↓reduceIte, n1, neg (10 * x + o) (by omega), t1, bndX_l, d1', d2', d3', z1]
      · simp only [if_true] at b1 t1 z1 w7
        obtain ⟨v1, v2⟩ := wy_W (W := 100 + 10 * o + x) (by omega)
        rw [show (100 + 10 * o + x) / 10 % 10 = o by omega] at v1
        rw [show (100 + 10 * o + x) % 10 = x by omega] at v2
        have hlt : ¬ nI (100 + 10 * o + x) < (100 : Int32) := by
          show ¬ nI (100 + 10 * o + x) < nI 100
          rw [nlt (by omega) (by omega)]
          omega
        have d1' : (o = x) = False := eq_false w7.2.2.2
        have d2' : (x = y) = False := eq_false hne
        have d3' : (o = y) = False := eq_false w8.2.2.2
        rw [bi_t] at z1
        rw [a1, bndX_l, b1, bndX_l, c1, bndX_l, d1, bndE_some, if_neg (show ¬ bi true = (0 : Int32) by decide), f1', bndX_l, hbit, if_neg (show ¬ bi false = (1 : Int32) by decide), bnd_eq, bnd_eq, v1, v2, if_neg hlt]
        unfold m_L_comes_J131 m_L_comes_J156
        simp (disch := omega) only [k_0, k_1, k_2, k_3, k_4, k_5, k_6, k_7, k_8, k_9, k_10, k_14, k_16, k_28, k_30, k_48, k_49, k_57, k_100, k_110, k_127, k_128, k_196, k_255, k_1000, k_1024, k_10000, nI_add, nI_mul, nI_div, irm_nI, nle, nlt, neq, gd_t, inb_nI, cl_nI, bnd_eq, gdT, gdo, gb0, gb1, gbi, bi0, bi1, bi0r, Option.bind_some, bndE_some, ite_t, ite_f, k_m9, k_m1, k_13, k_15, k_18, k_19, k_112, k_114, k_115, k_98, k_103, k_116, k_119, k_47, k_82, k_50, k_51, k_99, k_700, k_197, ne9, ne9s, nI_ne0s, ↓reduceIte, n1, neg (100 + 10 * o + x) (by omega), t1, bndX_l, d1', d2', d3', z1]
    · rw [hZ] at hbit
      obtain ⟨e1, e2, e3⟩ := come_0 (n := n) (A := aw n K) hZ
      rw [e1] at a1
      rw [e2] at b1
      rw [e3] at c1
      refine ⟨S5, ?_, k4.tr f2⟩
      unfold m_L_comes_J101
      rw [a1, bndX_l, b1, bndX_l, c1, bndX_l, d1, bndE_some, if_neg (show ¬ bi true = (0 : Int32) by decide), f1', bndX_l, hbit, if_pos (show bi true = (1 : Int32) from rfl), if_pos (show nI 0 = (0 : Int32) from rfl), if_pos (show m9 = ((-9) : Int32) from rfl), if_pos (show nI 0 = (0 : Int32) from rfl)]
      exact gd_t (by simp) _
end CC
