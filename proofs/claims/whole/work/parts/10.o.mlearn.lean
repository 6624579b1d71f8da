/-! learning, by the model -/
variable {S : Hs} {n : Nat} {K : Kd} {Z T : Rt} {H : Nat → Nat → Bool}
/-- which rights the model learns by -/
def byT (e : Bool) (Z T : Rt) : Rt := if e then T else Z
theorem mlearn1_ok (h : RepM S 14 0 n K Z) (e : Bool) (he : e = true → EndR S T ∧ WF n T) : ∃ S', loopO (fun x => m_X6_learn_L2 (bi e) x.1 x.2) (nI 0, S) = some S' ∧ OnA 24 S S' ∧ Rw S' 24 n (hr K (byT e Z T)) := by
  have hn := h.1
  have hw := h.2.1
  obtain ⟨S1, e1, e2, e3⟩ := loopO_inv (f := fun x : Int32 × Hs => m_X6_learn_L2 (bi e) x.1 x.2) (fun c q => c ≤ n ∧ q.1 = nI c ∧ OnA 24 S q.2 ∧ Rw q.2 24 c (hr K (byT e Z T))) (fun U => OnA 24 S U ∧ Rw U 24 n (hr K (byT e Z T))) 7 (fun c q hq => by
    obtain ⟨v, U⟩ := q
    obtain ⟨hc, hv, a1, a2⟩ := hq
    simp only at hv a1 a2
    subst hv
    have hU : RepM U 14 0 n K Z := h.keep fun j => a1.2.1 _ _ (by omega)
    by_cases hcn : c < n
    · obtain ⟨V, k1, k2, k3⟩ := loopO_inv (f := fun x : Int32 × Hs => m_X6_learn_L21 (bi e) (nI c) x.1 x.2) (fun d q => d ≤ n ∧ q.1 = nI d ∧ OnA 24 S q.2 ∧ Rw q.2 24 c (hr K (byT e Z T)) ∧ ∀ b, b < 32 → bt (gA q.2 24 c) b = (decide (b < d) && hr K (byT e Z T) c b)) (fun V => OnA 24 S V ∧ Rw V 24 (c + 1) (hr K (byT e Z T))) 7 (fun d q hq => by
        obtain ⟨v, V⟩ := q
        obtain ⟨hd, hv, b1, b2, b3⟩ := hq
        simp only at hv b1 b2 b3
        subst hv
        have hV : RepM V 14 0 n K Z := h.keep fun j => b1.2.1 _ _ (by omega)
        by_cases hdn : d < n
        · have hE : e = true → EndR V T := fun q => (he q).1.keep fun j => b1.2.1 _ _ (by omega)
          refine Or.inl ⟨by omega, ?_⟩
          have goal : m_X6_learn_L21 (bi e) (nI c) (nI d) V = some (.inl (nI (d + 1), sA V 24 c (gA V 24 c ||| (if hr K (byT e Z T) c d = true then nI 1 <<< (nI d &&& 31) else nI 0)))) := by
            unfold hr byT
            simp only [m_X6_learn_L21, m_X6_learn_J52, m_X6_learn_J75, m_X6_learn_J97, m_X6_learn_J110, m_X6_learn_J116, m_X6_learn_J117]
            cases e
            · simp (disch := omega) only [k_0, k_1, k_2, k_3, k_4, k_5, k_6, k_7, k_8, k_9, k_10, k_14, k_16, k_28, k_30, k_48, k_49, k_57, k_100, k_110, k_127, k_128, k_196, k_255, k_1000, k_1024, k_10000, nI_add, nI_mul, nI_div, irm_nI, nle, nlt, neq, gd_t, inb_nI, cl_nI, bnd_eq, gdT, gdo, gb0, gb1, gbi, bi0, bi1, bi0r, Option.bind_some, bndE_some, ite_t, ite_f, k_m9, k_m1, k_13, k_15, k_18, k_19, k_112, k_114, k_115, k_98, k_103, k_116, k_119, k_47, k_82, k_50, k_51, k_99, k_700, k_197, ne9, ne9s, nI_ne0s, ↓reduceIte, z0 hV, bi_f, mhas_ok hV (show c < 7 by omega) (show 2 < 4 by omega) (show d < 7 by omega), mhas_ok hV (show d < 7 by omega) (show 3 < 4 by omega) (show c < 7 by omega), misPerson_ok hV hcn, misPerson_ok hV hdn, if_false, Bool.false_eq_true]
              cases decide (K c ≠ 0) <;> cases decide (K d ≠ 0) <;> cases Z c 2 d <;> cases Z d 3 c <;> simp
            · simp (disch := omega) only [k_0, k_1, k_2, k_3, k_4, k_5, k_6, k_7, k_8, k_9, k_10, k_14, k_16, k_28, k_30, k_48, k_49, k_57, k_100, k_110, k_127, k_128, k_196, k_255, k_1000, k_1024, k_10000, nI_add, nI_mul, nI_div, irm_nI, nle, nlt, neq, gd_t, inb_nI, cl_nI, bnd_eq, gdT, gdo, gb0, gb1, gbi, bi0, bi1, bi0r, Option.bind_some, bndE_some, ite_t, ite_f, k_m9, k_m1, k_13, k_15, k_18, k_19, k_112, k_114, k_115, k_98, k_103, k_116, k_119, k_47, k_82, k_50, k_51, k_99, k_700, k_197, ne9, ne9s, nI_ne0s, ↓reduceIte, z0 hV, bi_t, ends_ok (hE rfl) (show c < 7 by omega) (show 2 < 4 by omega) (show d < 7 by omega), ends_ok (hE rfl) (show d < 7 by omega) (show 3 < 4 by omega) (show c < 7 by omega), misPerson_ok hV hcn, misPerson_ok hV hdn, if_true]
              cases decide (K c ≠ 0) <;> cases decide (K d ≠ 0) <;> cases T c 2 d <;> cases T d 3 c <;> simp
          refine ⟨_, goal, by omega, rfl, b1.tr (OnA.sA _ _), fun a ha b hb => ?_, fun b hb => ?_⟩
          · show bt (gA (sA V 24 c _) 24 a) b = _
            rw [gA_sA, if_pos rfl, if_neg (by omega)]
            exact b2 a ha b hb
          · show bt (gA (sA V 24 c _) 24 c) b = _
            rw [gA_sA, if_pos rfl, if_pos rfl]
            by_cases hq : hr K (byT e Z T) c d = true
            · rw [if_pos hq, show nI 1 = (1 : Int32) from rfl, bt_set _ (show d < 32 by omega) hb, b3 b hb]
              by_cases hbd : b = d
              · subst hbd
                simp [hq]
              · rw [show decide (b < d + 1) = decide (b < d) by rw [decide_eq_decide]; omega]
                simp [hbd]
            · rw [if_neg hq, b_or, show nI 0 = (0 : Int32) from rfl, b_0, b3 b hb, Bool.or_false]
              by_cases hbd : b = d
              · subst hbd
                simp [Bool.eq_false_iff.mpr hq]
              · rw [show decide (b < d + 1) = decide (b < d) by rw [decide_eq_decide]; omega]
        · obtain rfl : d = n := by omega
          refine Or.inr ⟨V, ?_, b1, fun a ha b hb => ?_⟩
          · simp only [m_X6_learn_L21]
            simp (disch := omega) only [k_0, k_1, k_2, k_3, k_4, k_5, k_6, k_7, k_8, k_9, k_10, k_14, k_16, k_28, k_30, k_48, k_49, k_57, k_100, k_110, k_127, k_128, k_196, k_255, k_1000, k_1024, k_10000, nI_add, nI_mul, nI_div, irm_nI, nle, nlt, neq, gd_t, inb_nI, cl_nI, bnd_eq, gdT, gdo, gb0, gb1, gbi, bi0, bi1, bi0r, Option.bind_some, bndE_some, ite_t, ite_f, k_m9, k_m1, k_13, k_15, k_18, k_19, k_112, k_114, k_115, k_98, k_103, k_116, k_119, k_47, k_82, k_50, k_51, k_99, k_700, k_197, ne9, ne9s, nI_ne0s, ↓reduceIte, z0 hV]
          · by_cases hac : a = c
            · subst hac
              rw [b3 b hb]
              cases hq : hr K (byT e Z T) a b
              · simp
              · have : WF d (byT e Z T) := by
                  unfold byT
                  cases e
                  · exact hw
                  · exact (he rfl).2
                simp [(hr_WF this hq).2]
            · exact b2 a (by omega) b hb) (x := (nI 0, sA U 24 c (nI 0))) ⟨by omega, rfl, a1.tr (OnA.sA _ _), fun a ha b hb => by
          show bt (gA (sA U 24 c (nI 0)) 24 a) b = _
          rw [gA_sA, if_pos rfl, if_neg (by omega)]
          exact a2 a ha b hb, fun b hb => by
          show bt (gA (sA U 24 c (nI 0)) 24 c) b = _
          rw [gA_sA, if_pos rfl, if_pos rfl, show nI 0 = (0 : Int32) from rfl, b_0]
          simp⟩
      refine Or.inl ⟨by omega, ?_⟩
      simp only [m_X6_learn_L2]
      simp (disch := omega) only [k_0, k_1, k_2, k_3, k_4, k_5, k_6, k_7, k_8, k_9, k_10, k_14, k_16, k_28, k_30, k_48, k_49, k_57, k_100, k_110, k_127, k_128, k_196, k_255, k_1000, k_1024, k_10000, nI_add, nI_mul, nI_div, irm_nI, nle, nlt, neq, gd_t, inb_nI, cl_nI, bnd_eq, gdT, gdo, gb0, gb1, gbi, bi0, bi1, bi0r, Option.bind_some, bndE_some, ite_t, ite_f, k_m9, k_m1, k_13, k_15, k_18, k_19, k_112, k_114, k_115, k_98, k_103, k_116, k_119, k_47, k_82, k_50, k_51, k_99, k_700, k_197, ne9, ne9s, nI_ne0s, ↓reduceIte, z0 hU]
      rw [k1]
      exact ⟨_, rfl, by omega, rfl, k2, k3⟩
    · obtain rfl : c = n := by omega
      refine Or.inr ⟨U, ?_, a1, a2⟩
      simp only [m_X6_learn_L2]
      simp (disch := omega) only [k_0, k_1, k_2, k_3, k_4, k_5, k_6, k_7, k_8, k_9, k_10, k_14, k_16, k_28, k_30, k_48, k_49, k_57, k_100, k_110, k_127, k_128, k_196, k_255, k_1000, k_1024, k_10000, nI_add, nI_mul, nI_div, irm_nI, nle, nlt, neq, gd_t, inb_nI, cl_nI, bnd_eq, gdT, gdo, gb0, gb1, gbi, bi0, bi1, bi0r, Option.bind_some, bndE_some, ite_t, ite_f, k_m9, k_m1, k_13, k_15, k_18, k_19, k_112, k_114, k_115, k_98, k_103, k_116, k_119, k_47, k_82, k_50, k_51, k_99, k_700, k_197, ne9, ne9s, nI_ne0s, ↓reduceIte, z0 hU]) (x := (nI 0, S)) ⟨by omega, rfl, OnA.rf _ _, fun a ha => by omega⟩
  exact ⟨S1, e1, e2, e3⟩
/-- one relaxation of a row by another one -/
theorem mrelax_ok (h : RepM S 14 0 n K Z) (hB : HB n H) {L0 : Nat → Nat → Bool} (hL0 : Rw S 24 n L0) (hs : ∀ a b, L0 a b = true → Lc H a b) (v2 : Int32) : ∃ S', loopO (fun x => m_X6_learn_L145 v2 x.1 x.2) (nI 0, S) = some S' ∧ OnA 24 S S' ∧ ∃ L1 : Nat → Nat → Bool, Rw S' 24 n L1 ∧ (∀ a b, L1 a b = true → Lc H a b) ∧ (∀ a b, a < n → L0 a b = true → L1 a b = true) ∧ ∀ a b c, a < n → L0 a b = true → L0 b c = true → L1 a c = true := by
  have hn := h.1
  -- the rows now: sound, above L0, and closed at the pairs looked at
  let I := fun (P : Nat → Nat → Prop) (U : Hs) => OnA 24 S U ∧ ∃ L : Nat → Nat → Bool, Rw U 24 n L ∧ (∀ a b, L a b = true → Lc H a b) ∧ (∀ a b, a < n → L0 a b = true → L a b = true) ∧ ∀ a b c, a < n → P a b → L0 a b = true → L0 b c = true → L a c = true
  obtain ⟨S1, e1, e2, L, e3, e4, e5, e6⟩ := loopO_inv (f := fun x : Int32 × Hs => m_X6_learn_L145 v2 x.1 x.2) (fun x q => x ≤ n ∧ q.1 = nI x ∧ I (fun a _ => a < x) q.2) (fun U => I (fun a _ => a < n) U) 7 (fun x q hq => by
    obtain ⟨v, U⟩ := q
    obtain ⟨hx, hv, hI⟩ := hq
    simp only at hv
    subst hv
    have hU : RepM U 14 0 n K Z := h.keep fun j => hI.1.2.1 _ _ (by omega)
    by_cases hxn : x < n
    · obtain ⟨V, k1, k2⟩ := loopO_inv (f := fun q : Int32 × Hs => m_X6_learn_L158 v2 (nI x) q.1 q.2) (fun y q => y ≤ n ∧ q.1 = nI y ∧ I (fun a b => a < x ∨ a = x ∧ b < y) q.2) (fun U => I (fun a _ => a < x + 1) U) 7 (fun y q hq => by
        obtain ⟨v, V⟩ := q
        obtain ⟨hy, hv, a1, L, a2, a3, a4, a5⟩ := hq
        simp only at hv a1 a2
        subst hv
        have hV : RepM V 14 0 n K Z := h.keep fun j => a1.2.1 _ _ (by omega)
        by_cases hyn : y < n
        · refine Or.inl ⟨by omega, ?_⟩
          simp only [m_X6_learn_L158, m_X6_learn_J201]
          simp (disch := omega) only [k_0, k_1, k_2, k_3, k_4, k_5, k_6, k_7, k_8, k_9, k_10, k_14, k_16, k_28, k_30, k_48, k_49, k_57, k_100, k_110, k_127, k_128, k_196, k_255, k_1000, k_1024, k_10000, nI_add, nI_mul, nI_div, irm_nI, nle, nlt, neq, gd_t, inb_nI, cl_nI, bnd_eq, gdT, gdo, gb0, gb1, gbi, bi0, bi1, bi0r, Option.bind_some, bndE_some, ite_t, ite_f, k_m9, k_m1, k_13, k_15, k_18, k_19, k_112, k_114, k_115, k_98, k_103, k_116, k_119, k_47, k_82, k_50, k_51, k_99, k_700, k_197, ne9, ne9s, nI_ne0s, ↓reduceIte, z0 hV, isIn_ok _ (show y < 32 by omega), a2 x hxn y (by omega)]
          cases hq : L x y
          · rw [if_pos rfl]
            refine ⟨_, rfl, by omega, rfl, a1.tr (OnA.sA _ _), L, fun a ha b hb => ?_, a3, a4, fun a b c ha hp q1 q2 => ?_⟩
            · show bt (gA (sA V 24 x _) 24 a) b = _
              rw [gA_sA, if_pos rfl]
              by_cases hax : a = x
              · subst hax
                rw [if_pos rfl, b_or, show nI 0 = (0 : Int32) from rfl, b_0, Bool.or_false]
                exact a2 a ha b hb
              · rw [if_neg hax]
                exact a2 a ha b hb
            · by_cases hpq : a < x ∨ a = x ∧ b < y
              · exact a5 a b c ha hpq q1 q2
              · obtain ⟨rfl, rfl⟩ : a = x ∧ b = y := by omega
                rw [a4 a b ha q1] at hq; cases hq
          · rw [if_neg (by decide)]
            refine ⟨_, rfl, by omega, rfl, a1.tr (OnA.sA _ _), fun a b => if a = x then L x b || L y b else L a b, fun a ha b hb => ?_, fun a b q => ?_, fun a b ha q => ?_, fun a b c ha hp q1 q2 => ?_⟩
            · show bt (gA (sA V 24 x _) 24 a) b = _
              rw [gA_sA, if_pos rfl]
              dsimp only
              by_cases hax : a = x
              · subst hax
                rw [if_pos rfl, if_pos rfl, b_or, a2 a ha b hb, a2 y hyn b hb]
              · rw [if_neg hax, if_neg hax]
                exact a2 a ha b hb
            · dsimp only at q
              by_cases hax : a = x
              · subst hax
                rw [if_pos rfl, Bool.or_eq_true] at q
                rcases q with q | q
                · exact a3 a b q
                · exact Lc_tr (a3 a y hq) (a3 y b q)
              · rw [if_neg hax] at q
                exact a3 a b q
            · dsimp only
              by_cases hax : a = x
              · subst hax
                rw [if_pos rfl, a4 a b ha q]
                rfl
              · rw [if_neg hax]
                exact a4 a b ha q
            · dsimp only
              by_cases hpq : a < x ∨ a = x ∧ b < y
              · have := a5 a b c ha hpq q1 q2
                by_cases hax : a = x
                · subst hax
                  rw [if_pos rfl, this]
                  rfl
                · rw [if_neg hax]
                  exact this
              · obtain ⟨rfl, rfl⟩ : a = x ∧ b = y := by omega
                rw [if_pos rfl, a4 b c hyn q2, Bool.or_true]
        · obtain rfl : y = n := by omega
          refine Or.inr ⟨V, ?_, a1, L, a2, a3, a4, fun a b c ha hp q1 q2 => ?_⟩
          · simp only [m_X6_learn_L158]
            simp (disch := omega) only [k_0, k_1, k_2, k_3, k_4, k_5, k_6, k_7, k_8, k_9, k_10, k_14, k_16, k_28, k_30, k_48, k_49, k_57, k_100, k_110, k_127, k_128, k_196, k_255, k_1000, k_1024, k_10000, nI_add, nI_mul, nI_div, irm_nI, nle, nlt, neq, gd_t, inb_nI, cl_nI, bnd_eq, gdT, gdo, gb0, gb1, gbi, bi0, bi1, bi0r, Option.bind_some, bndE_some, ite_t, ite_f, k_m9, k_m1, k_13, k_15, k_18, k_19, k_112, k_114, k_115, k_98, k_103, k_116, k_119, k_47, k_82, k_50, k_51, k_99, k_700, k_197, ne9, ne9s, nI_ne0s, ↓reduceIte, z0 hV]
          · have hb := (Lc_HB hB (hs a b q1)).2
            exact a5 a b c ha (by omega) q1 q2) (x := (nI 0, U)) ⟨by omega, rfl, hI.1, by
          obtain ⟨L, b1, b2, b3, b4⟩ := hI.2
          exact ⟨L, b1, b2, b3, fun a b c ha hp q1 q2 => b4 a b c ha (by omega) q1 q2⟩⟩
      refine Or.inl ⟨by omega, ?_⟩
      simp only [m_X6_learn_L145]
      simp (disch := omega) only [k_0, k_1, k_2, k_3, k_4, k_5, k_6, k_7, k_8, k_9, k_10, k_14, k_16, k_28, k_30, k_48, k_49, k_57, k_100, k_110, k_127, k_128, k_196, k_255, k_1000, k_1024, k_10000, nI_add, nI_mul, nI_div, irm_nI, nle, nlt, neq, gd_t, inb_nI, cl_nI, bnd_eq, gdT, gdo, gb0, gb1, gbi, bi0, bi1, bi0r, Option.bind_some, bndE_some, ite_t, ite_f, k_m9, k_m1, k_13, k_15, k_18, k_19, k_112, k_114, k_115, k_98, k_103, k_116, k_119, k_47, k_82, k_50, k_51, k_99, k_700, k_197, ne9, ne9s, nI_ne0s, ↓reduceIte, z0 hU]
      rw [k1]
      exact ⟨_, rfl, by omega, rfl, k2⟩
    · obtain rfl : x = n := by omega
      refine Or.inr ⟨U, ?_, hI⟩
      simp only [m_X6_learn_L145]
      simp (disch := omega) only [k_0, k_1, k_2, k_3, k_4, k_5, k_6, k_7, k_8, k_9, k_10, k_14, k_16, k_28, k_30, k_48, k_49, k_57, k_100, k_110, k_127, k_128, k_196, k_255, k_1000, k_1024, k_10000, nI_add, nI_mul, nI_div, irm_nI, nle, nlt, neq, gd_t, inb_nI, cl_nI, bnd_eq, gdT, gdo, gb0, gb1, gbi, bi0, bi1, bi0r, Option.bind_some, bndE_some, ite_t, ite_f, k_m9, k_m1, k_13, k_15, k_18, k_19, k_112, k_114, k_115, k_98, k_103, k_116, k_119, k_47, k_82, k_50, k_51, k_99, k_700, k_197, ne9, ne9s, nI_ne0s, ↓reduceIte, z0 hU]) (x := (nI 0, S)) ⟨by omega, rfl, OnA.rf _ _, L0, hL0, hs, fun _ _ _ q => q, fun a b c _ hp => by omega⟩
  exact ⟨S1, e1, e2, L, e3, e4, e5, fun a b c ha q1 q2 => e6 a b c ha ha q1 q2⟩
theorem mlearn_ok (h : RepM S 14 0 n K Z) (e : Bool) (he : e = true → EndR S T ∧ WF n T) : ∃ S', m_X6_learn (bi e) S = some S' ∧ OnA 24 S S' ∧ Rw S' 24 n (lr (hr K (byT e Z T))) := by
  have hn := h.1
  have hT : WF n (byT e Z T) := by
    unfold byT
    cases e
    · exact h.2.1
    · exact (he rfl).2
  have hB : HB n (hr K (byT e Z T)) := fun a b q => hr_WF hT q
  unfold m_X6_learn
  obtain ⟨S1, e1, e2, e3⟩ := mlearn1_ok h e he
  simp (disch := omega) only [k_0, k_1, k_2, k_3, k_4, k_5, k_6, k_7, k_8, k_9, k_10, k_14, k_16, k_28, k_30, k_48, k_49, k_57, k_100, k_110, k_127, k_128, k_196, k_255, k_1000, k_1024, k_10000, nI_add, nI_mul, nI_div, irm_nI, nle, nlt, neq, gd_t, inb_nI, cl_nI, bnd_eq, gdT, gdo, gb0, gb1, gbi, bi0, bi1, bi0r, Option.bind_some, bndE_some, ite_t, ite_f, k_m9, k_m1, k_13, k_15, k_18, k_19, k_112, k_114, k_115, k_98, k_103, k_116, k_119, k_47, k_82, k_50, k_51, k_99, k_700, k_197, ne9, ne9s, nI_ne0s, ↓reduceIte]
  rw [e1]
  simp (disch := omega) only [k_0, k_1, k_2, k_3, k_4, k_5, k_6, k_7, k_8, k_9, k_10, k_14, k_16, k_28, k_30, k_48, k_49, k_57, k_100, k_110, k_127, k_128, k_196, k_255, k_1000, k_1024, k_10000, nI_add, nI_mul, nI_div, irm_nI, nle, nlt, neq, gd_t, inb_nI, cl_nI, bnd_eq, gdT, gdo, gb0, gb1, gbi, bi0, bi1, bi0r, Option.bind_some, bndE_some, ite_t, ite_f, k_m9, k_m1, k_13, k_15, k_18, k_19, k_112, k_114, k_115, k_98, k_103, k_116, k_119, k_47, k_82, k_50, k_51, k_99, k_700, k_197, ne9, ne9s, nI_ne0s, ↓reduceIte]
  obtain ⟨S2, f1, f2, L, f3, f4, f5⟩ := loopO_inv (f := fun x : Int32 × Hs => m_X6_learn_L133 x.1 x.2) (fun r q => r ≤ n ∧ q.1 = nI r ∧ OnA 24 S q.2 ∧ ∃ L : Nat → Nat → Bool, Rw q.2 24 n L ∧ (∀ a b, L a b = true → Lc (hr K (byT e Z T)) a b) ∧ (∀ a b, hr K (byT e Z T) a b = true → L a b = true) ∧ ∀ a b, Qp (hr K (byT e Z T)) r a b = true → L a b = true) (fun U => OnA 24 S U ∧ ∃ L : Nat → Nat → Bool, Rw U 24 n L ∧ (∀ a b, L a b = true → Lc (hr K (byT e Z T)) a b) ∧ ∀ a b, Lc (hr K (byT e Z T)) a b → L a b = true) 7 (fun r q hq => by
    obtain ⟨v, U⟩ := q
    obtain ⟨hr1, hv, a1, L, a2, a3, a4, a5⟩ := hq
    simp only at hv a1 a2
    subst hv
    have hU : RepM U 14 0 n K Z := h.keep fun j => a1.2.1 _ _ (by omega)
    by_cases hrn : r < n
    · obtain ⟨V, k1, k2, L1, k3, k4, k5, k6⟩ := mrelax_ok hU hB a2 a3 (nI r)
      refine Or.inl ⟨by omega, ?_⟩
      simp only [m_X6_learn_L133]
      simp (disch := omega) only [k_0, k_1, k_2, k_3, k_4, k_5, k_6, k_7, k_8, k_9, k_10, k_14, k_16, k_28, k_30, k_48, k_49, k_57, k_100, k_110, k_127, k_128, k_196, k_255, k_1000, k_1024, k_10000, nI_add, nI_mul, nI_div, irm_nI, nle, nlt, neq, gd_t, inb_nI, cl_nI, bnd_eq, gdT, gdo, gb0, gb1, gbi, bi0, bi1, bi0r, Option.bind_some, bndE_some, ite_t, ite_f, k_m9, k_m1, k_13, k_15, k_18, k_19, k_112, k_114, k_115, k_98, k_103, k_116, k_119, k_47, k_82, k_50, k_51, k_99, k_700, k_197, ne9, ne9s, nI_ne0s, ↓reduceIte, z0 hU]
      rw [k1]
      refine ⟨_, rfl, by omega, rfl, a1.tr k2, L1, k3, k4, fun a b q => k5 a b (hB a b q).1 (a4 a b q), fun a b q => ?_⟩
      have ha := (Lc_HB hB (Qp_Lc q)).1
      rcases Qp_succ.mp q with q | ⟨m, q1, q2⟩
      · exact k5 a b ha (a5 a b q)
      · exact k6 a m b ha (a5 a m q1) (a4 m b q2)
    · obtain rfl : r = n := by omega
      refine Or.inr ⟨U, ?_, a1, L, a2, a3, fun a b q => a5 a b (Qp_n hB q)⟩
      simp only [m_X6_learn_L133]
      simp (disch := omega) only [k_0, k_1, k_2, k_3, k_4, k_5, k_6, k_7, k_8, k_9, k_10, k_14, k_16, k_28, k_30, k_48, k_49, k_57, k_100, k_110, k_127, k_128, k_196, k_255, k_1000, k_1024, k_10000, nI_add, nI_mul, nI_div, irm_nI, nle, nlt, neq, gd_t, inb_nI, cl_nI, bnd_eq, gdT, gdo, gb0, gb1, gbi, bi0, bi1, bi0r, Option.bind_some, bndE_some, ite_t, ite_f, k_m9, k_m1, k_13, k_15, k_18, k_19, k_112, k_114, k_115, k_98, k_103, k_116, k_119, k_47, k_82, k_50, k_51, k_99, k_700, k_197, ne9, ne9s, nI_ne0s, ↓reduceIte, z0 hU]) (x := (nI 0, S1)) ⟨by omega, rfl, e2, _, e3, fun a b q => Lc_base q, fun _ _ q => q, fun _ _ q => q⟩
  rw [f1]
  simp (disch := omega) only [k_0, k_1, k_2, k_3, k_4, k_5, k_6, k_7, k_8, k_9, k_10, k_14, k_16, k_28, k_30, k_48, k_49, k_57, k_100, k_110, k_127, k_128, k_196, k_255, k_1000, k_1024, k_10000, nI_add, nI_mul, nI_div, irm_nI, nle, nlt, neq, gd_t, inb_nI, cl_nI, bnd_eq, gdT, gdo, gb0, gb1, gbi, bi0, bi1, bi0r, Option.bind_some, bndE_some, ite_t, ite_f, k_m9, k_m1, k_13, k_15, k_18, k_19, k_112, k_114, k_115, k_98, k_103, k_116, k_119, k_47, k_82, k_50, k_51, k_99, k_700, k_197, ne9, ne9s, nI_ne0s, ↓reduceIte]
  have hL : ∀ a b, L a b = B (Lc (hr K (byT e Z T)) a b) := fun a b => by
    cases hq : L a b
    · rw [B_false.mpr]
      intro q
      rw [f5 a b q] at hq; cases hq
    · rw [B_iff.mpr (f4 a b hq)]
  obtain ⟨S3, g1, g2, g3⟩ := loopO_inv (f := fun x : Int32 × Hs => m_X6_learn_L223 x.1 x.2) (fun c q => c ≤ n ∧ q.1 = nI c ∧ OnA 24 S q.2 ∧ Rw q.2 24 n (fun a b => if a < c then lr (hr K (byT e Z T)) a b else L a b)) (fun U => OnA 24 S U ∧ Rw U 24 n (lr (hr K (byT e Z T)))) 7 (fun c q hq => by
    obtain ⟨v, U⟩ := q
    obtain ⟨hc, hv, a1, a2⟩ := hq
    simp only at hv a1 a2
    subst hv
    have hU : RepM U 14 0 n K Z := h.keep fun j => a1.2.1 _ _ (by omega)
    by_cases hcn : c < n
    · refine Or.inl ⟨by omega, ?_⟩
      simp only [m_X6_learn_L223]
      simp (disch := omega) only [k_0, k_1, k_2, k_3, k_4, k_5, k_6, k_7, k_8, k_9, k_10, k_14, k_16, k_28, k_30, k_48, k_49, k_57, k_100, k_110, k_127, k_128, k_196, k_255, k_1000, k_1024, k_10000, nI_add, nI_mul, nI_div, irm_nI, nle, nlt, neq, gd_t, inb_nI, cl_nI, bnd_eq, gdT, gdo, gb0, gb1, gbi, bi0, bi1, bi0r, Option.bind_some, bndE_some, ite_t, ite_f, k_m9, k_m1, k_13, k_15, k_18, k_19, k_112, k_114, k_115, k_98, k_103, k_116, k_119, k_47, k_82, k_50, k_51, k_99, k_700, k_197, ne9, ne9s, nI_ne0s, ↓reduceIte, z0 hU]
      refine ⟨_, rfl, by omega, rfl, a1.tr (OnA.sA _ _), fun a ha b hb => ?_⟩
      show bt (gA (sA U 24 c (gA U 24 c &&& ((nI 1 <<< (nI c &&& 31)) ^^^ m1))) 24 a) b = _
      rw [gA_sA, if_pos rfl]
      by_cases hac : a = c
      · subst hac
        rw [if_pos rfl, show nI 1 = (1 : Int32) from rfl, show m1 = (-1 : Int32) from rfl, bt_clr _ (show a < 32 by omega) hb, a2 a ha b hb]
        dsimp only
        rw [if_neg (by omega), if_pos (by omega), hL]
        unfold lr
        by_cases hab : a = b
        · simp [hab]
        · simp [hab, Ne.symm hab]
      · rw [if_neg hac, a2 a ha b hb]
        dsimp only
        by_cases hlt : a < c
        · rw [if_pos hlt, if_pos (by omega)]
        · rw [if_neg hlt, if_neg (by omega)]
    · obtain rfl : c = n := by omega
      refine Or.inr ⟨U, ?_, a1, fun a ha b hb => by rw [a2 a ha b hb]; dsimp only; rw [if_pos ha]⟩
      simp only [m_X6_learn_L223]
      simp (disch := omega) only [k_0, k_1, k_2, k_3, k_4, k_5, k_6, k_7, k_8, k_9, k_10, k_14, k_16, k_28, k_30, k_48, k_49, k_57, k_100, k_110, k_127, k_128, k_196, k_255, k_1000, k_1024, k_10000, nI_add, nI_mul, nI_div, irm_nI, nle, nlt, neq, gd_t, inb_nI, cl_nI, bnd_eq, gdT, gdo, gb0, gb1, gbi, bi0, bi1, bi0r, Option.bind_some, bndE_some, ite_t, ite_f, k_m9, k_m1, k_13, k_15, k_18, k_19, k_112, k_114, k_115, k_98, k_103, k_116, k_119, k_47, k_82, k_50, k_51, k_99, k_700, k_197, ne9, ne9s, nI_ne0s, ↓reduceIte, z0 hU]) (x := (nI 0, S2)) ⟨by omega, rfl, f2, fun a ha b hb => by dsimp only; rw [if_neg (by omega)]; exact f3 a ha b hb⟩
  exact ⟨S3, by rw [g1]; rfl, g2, g3⟩
theorem pairs_ok (h : RepM S 14 0 n K Z) (e : Bool) (he : e = true → EndR S T ∧ WF n T) : ∃ S', m_X6_pairs (bi e) S = some (nI (prs (hr K (byT e Z T))), S') ∧ OnA 24 S S' := by
  have hn := h.1
  have hT : WF n (byT e Z T) := by
    unfold byT
    cases e
    · exact h.2.1
    · exact (he rfl).2
  have hB : HB n (hr K (byT e Z T)) := fun a b q => hr_WF hT q
  obtain ⟨S1, e1, e2, e3⟩ := mlearn_ok h e he
  have hU : RepM S1 14 0 n K Z := h.keep fun j => e2.2.1 _ _ (by omega)
  unfold m_X6_pairs
  rw [e1, Option.bind_some]
  have hl := loopO_seq (f := fun x : Int32 × Int32 => m_X6_pairs_L9 S1 x.1 x.2) (w := fun k => (nI (fb_sm (fun a => fb_ct (lr (hr K (byT e Z T)) a) 7) k), nI k)) n (r := nI (prs (hr K (byT e Z T)))) (fun k hk => by
    have e : fb_ct (bt (gA S1 24 k)) 8 = fb_ct (lr (hr K (byT e Z T)) k) 7 := by
      rw [fb_ct_cong (q := lr (hr K (byT e Z T)) k) (fun b hb => e3 k hk b (by omega))]
      exact ct_7 (by omega) fun b hb _ => lr_big hB (by omega)
    simp only [m_X6_pairs_L9]
    simp (disch := omega) only [k_0, k_1, k_2, k_3, k_4, k_5, k_6, k_7, k_8, k_9, k_10, k_14, k_16, k_28, k_30, k_48, k_49, k_57, k_100, k_110, k_127, k_128, k_196, k_255, k_1000, k_1024, k_10000, nI_add, nI_mul, nI_div, irm_nI, nle, nlt, neq, gd_t, inb_nI, cl_nI, bnd_eq, gdT, gdo, gb0, gb1, gbi, bi0, bi1, bi0r, Option.bind_some, bndE_some, ite_t, ite_f, k_m9, k_m1, k_13, k_15, k_18, k_19, k_112, k_114, k_115, k_98, k_103, k_116, k_119, k_47, k_82, k_50, k_51, k_99, k_700, k_197, ne9, ne9s, nI_ne0s, ↓reduceIte, z0 hU, bits_ok, e, fb_sm_succ]) (by
    simp only [m_X6_pairs_L9]
    simp (disch := omega) only [k_0, k_1, k_2, k_3, k_4, k_5, k_6, k_7, k_8, k_9, k_10, k_14, k_16, k_28, k_30, k_48, k_49, k_57, k_100, k_110, k_127, k_128, k_196, k_255, k_1000, k_1024, k_10000, nI_add, nI_mul, nI_div, irm_nI, nle, nlt, neq, gd_t, inb_nI, cl_nI, bnd_eq, gdT, gdo, gb0, gb1, gbi, bi0, bi1, bi0r, Option.bind_some, bndE_some, ite_t, ite_f, k_m9, k_m1, k_13, k_15, k_18, k_19, k_112, k_114, k_115, k_98, k_103, k_116, k_119, k_47, k_82, k_50, k_51, k_99, k_700, k_197, ne9, ne9s, nI_ne0s, ↓reduceIte, z0 hU]
    unfold prs
    rw [fb_sm_tail hn fun k h1 _ => fb_ct_zero.mpr fun b _ => lr_big hB (Or.inl h1)])
  refine ⟨S1, ?_, e2⟩
  simp (disch := omega) only [k_0, k_1, k_2, k_3, k_4, k_5, k_6, k_7, k_8, k_9, k_10, k_14, k_16, k_28, k_30, k_48, k_49, k_57, k_100, k_110, k_127, k_128, k_196, k_255, k_1000, k_1024, k_10000, nI_add, nI_mul, nI_div, irm_nI, nle, nlt, neq, gd_t, inb_nI, cl_nI, bnd_eq, gdT, gdo, gb0, gb1, gbi, bi0, bi1, bi0r, Option.bind_some, bndE_some, ite_t, ite_f, k_m9, k_m1, k_13, k_15, k_18, k_19, k_112, k_114, k_115, k_98, k_103, k_116, k_119, k_47, k_82, k_50, k_51, k_99, k_700, k_197, ne9, ne9s, nI_ne0s, ↓reduceIte]
  exact congrArg (fun o : Option Int32 => o.bind fun y => some (y, S1)) hl
