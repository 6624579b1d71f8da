/-! the askings: cut, cutAt, rights, about, thing -/
theorem cut_op (x k y : Int32) : OpOk (m_X5_cut x k y) (m_X6_cut x k y) c12 := by
  refine ask_right (x := x) (k := k) (y := y) (fun n K Z a c d => cutv (aw n K) Z a c d) (fun S n K Z h h0 => ?_) (fun T n K Z h h0 => ?_) (fun S n K Z a c d h h0 ha hc hd hne e1 e2 e3 => ?_) (fun T n K Z a c d h h30 h0 ha hc hd hne e1 e2 e3 => ?_)
  · unfold m_X5_cut
    rw [checkRight_ok h, if_neg h0, bndP_r]
  · unfold m_X6_cut m_X6_cut_J29
    simp (disch := omega) only [k_0, k_1, k_2, k_3, k_4, k_5, k_6, k_7, k_8, k_9, k_10, k_14, k_16, k_28, k_30, k_48, k_49, k_57, k_100, k_110, k_127, k_128, k_196, k_255, k_1000, k_1024, k_10000, nI_add, nI_mul, nI_div, irm_nI, nle, nlt, neq, gd_t, inb_nI, cl_nI, bnd_eq, gdT, gdo, gb0, gb1, gbi, bi0, bi1, bi0r, Option.bind_some, bndE_some, ite_t, ite_f, k_m9, k_m1, k_13, k_15, k_18, k_19, k_112, k_114, k_115, k_98, k_103, k_116, k_119, k_47, k_82, k_50, k_51, k_99, k_700, k_197, ne9, ne9s, nI_ne0s, ↓reduceIte, whyNotRight_ok h, thr_eq, npos h0 wr_lt]
    exact ⟨_, rfl⟩
  · have hn := h.1
    obtain ⟨S1, k1, k2, -⟩ := sizeFor_ok h (show a < 7 by omega) hc (show d < 7 by omega)
    refine ⟨S1, ?_, k2⟩
    unfold m_X5_cut
    rw [checkRight_ok h, if_pos h0, bndP_l, e1, e2, e3]
    simp (disch := omega) only [k_0, k_1, k_2, k_3, k_4, k_5, k_6, k_7, k_8, k_9, k_10, k_14, k_16, k_28, k_30, k_48, k_49, k_57, k_100, k_110, k_127, k_128, k_196, k_255, k_1000, k_1024, k_10000, nI_add, nI_mul, nI_div, irm_nI, nle, nlt, neq, gd_t, inb_nI, cl_nI, bnd_eq, gdT, gdo, gb0, gb1, gbi, bi0, bi1, bi0r, Option.bind_some, bndE_some, ite_t, ite_f, k_m9, k_m1, k_13, k_15, k_18, k_19, k_112, k_114, k_115, k_98, k_103, k_116, k_119, k_47, k_82, k_50, k_51, k_99, k_700, k_197, ne9, ne9s, nI_ne0s, ↓reduceIte, ix_nI, k1]
  · have hn := h.1
    have h1 : RepM (sI T 13 0 (nI 0)) 14 0 n K Z := h.keep fun _ => rfl
    obtain ⟨U, k1, k2, k3, -⟩ := cuts_ok h1 h30 (show a < 7 by omega) hc (show d < 7 by omega)
    refine ⟨U, ?_, k3, k2, (k3.1 _ _ (by omega)).trans (thr_eq T (nI 0))⟩
    subst e1 e2 e3
    unfold m_X6_cut m_X6_cut_J29
    simp (disch := omega) only [k_0, k_1, k_2, k_3, k_4, k_5, k_6, k_7, k_8, k_9, k_10, k_14, k_16, k_28, k_30, k_48, k_49, k_57, k_100, k_110, k_127, k_128, k_196, k_255, k_1000, k_1024, k_10000, nI_add, nI_mul, nI_div, irm_nI, nle, nlt, neq, gd_t, inb_nI, cl_nI, bnd_eq, gdT, gdo, gb0, gb1, gbi, bi0, bi1, bi0r, Option.bind_some, bndE_some, ite_t, ite_f, k_m9, k_m1, k_13, k_15, k_18, k_19, k_112, k_114, k_115, k_98, k_103, k_116, k_119, k_47, k_82, k_50, k_51, k_99, k_700, k_197, ne9, ne9s, nI_ne0s, ↓reduceIte, whyNotRight_ok h, h0, thr_eq, le00, k1]
theorem cutv_cases (A : Nat → Bool) (Z : Rt) (a c d : Nat) : (cutv A Z a c d = nI 0 ∧ cut0 A Z a c d = m9 ∧ cut1 A Z a c d = m9) ∨ (cutv A Z a c d = nI 1 ∧ cut1 A Z a c d = m9) ∨ cutv A Z a c d = nI 2 ∨ (cutv A Z a c d = m9 ∧ cut0 A Z a c d = m9 ∧ cut1 A Z a c d = m9) := by
  unfold cutv cut0 cut1
  by_cases h1 : Clo A Z a c d = true
  · simp only [if_pos h1]
    by_cases h2 : lf (cq1 A Z a c d) 196 < 196
    · simp only [if_pos h2]
      exact Or.inr (Or.inl ⟨trivial, trivial⟩)
    · simp only [if_neg h2]
      by_cases h3 : cla A Z a c d < 196
      · simp only [if_pos h3]
        exact Or.inr (Or.inr (Or.inl trivial))
      · simp only [if_neg h3]
        exact Or.inr (Or.inr (Or.inr ⟨trivial, trivial, trivial⟩))
  · simp only [if_neg h1]
    exact Or.inl ⟨trivial, trivial, trivial⟩
theorem cutAt_op (x k y i : Int32) : OpOk (m_X5_cutAt x k y i) (m_X6_cutAt x k y i) c12 := by
  intro g hg
  obtain ⟨⟨n, K, Z⟩, r, mem, sv, sl, len, t⟩ := g
  have hn := hg.1.1
  by_cases h0 : wr n x k y = 0
  · obtain ⟨a, c, d, ha, hc, hd, hne, e1, e2, e3⟩ := wr_0 hg.1.1 h0
    have hin := in_T i (show 1 < 99999 by omega)
    by_cases hi : isT 2 i = true
    · rw [hi] at hin
      obtain ⟨j, hj, hij⟩ := isT_iff.mp hi
      subst hij
      refine ⟨.inl (if j = 0 then cut0 (aw n K) Z a c d else cut1 (aw n K) Z a c d), _, hg, fun S hS => ?_, fun T hT => ?_⟩
      · have h : RepS S 29 n K Z := hS.1
        obtain ⟨S1, k1, k2, k3, k4⟩ := sizeFor_ok h (show a < 7 by omega) hc (show d < 7 by omega)
        refine ⟨S1, ?_, Co.ofK k2, hS.kp k2⟩
        unfold m_X5_cutAt m_X5_cutAt_J18 m_X5_cutAt_J83
        rw [checkRight_ok h, if_pos h0, bndP_l, e1, e2, e3]
        have hm9 : ¬ nI 0 < m9 := by decide
        have hm9' : ¬ nI 1 < m9 := by decide
        rcases cutv_cases (aw n K) Z a c d with ⟨q1, q2, q3⟩ | ⟨q1, q3⟩ | q1 | ⟨q1, q2, q3⟩
        · rw [q1] at k1
          obtain rfl | rfl : j = 0 ∨ j = 1 := by omega
          · simp (disch := omega) only [k_0, k_1, k_2, k_3, k_4, k_5, k_6, k_7, k_8, k_9, k_10, k_14, k_16, k_28, k_30, k_48, k_49, k_57, k_100, k_110, k_127, k_128, k_196, k_255, k_1000, k_1024, k_10000, nI_add, nI_mul, nI_div, irm_nI, nle, nlt, neq, gd_t, inb_nI, cl_nI, bnd_eq, gdT, gdo, gb0, gb1, gbi, bi0, bi1, bi0r, Option.bind_some, bndE_some, ite_t, ite_f, k_m9, k_m1, k_13, k_15, k_18, k_19, k_112, k_114, k_115, k_98, k_103, k_116, k_119, k_47, k_82, k_50, k_51, k_99, k_700, k_197, ne9, ne9s, nI_ne0s, ↓reduceIte, ix_nI, k1, q2]
          · simp (disch := omega) only [k_0, k_1, k_2, k_3, k_4, k_5, k_6, k_7, k_8, k_9, k_10, k_14, k_16, k_28, k_30, k_48, k_49, k_57, k_100, k_110, k_127, k_128, k_196, k_255, k_1000, k_1024, k_10000, nI_add, nI_mul, nI_div, irm_nI, nle, nlt, neq, gd_t, inb_nI, cl_nI, bnd_eq, gdT, gdo, gb0, gb1, gbi, bi0, bi1, bi0r, Option.bind_some, bndE_some, ite_t, ite_f, k_m9, k_m1, k_13, k_15, k_18, k_19, k_112, k_114, k_115, k_98, k_103, k_116, k_119, k_47, k_82, k_50, k_51, k_99, k_700, k_197, ne9, ne9s, nI_ne0s, ↓reduceIte, ix_nI, k1, q3]
        · obtain ⟨u, u1, u2, u3⟩ := k3 (Or.inl q1)
          rw [q1] at k1
          obtain rfl | rfl : j = 0 ∨ j = 1 := by omega
          · simp (disch := omega) only [k_0, k_1, k_2, k_3, k_4, k_5, k_6, k_7, k_8, k_9, k_10, k_14, k_16, k_28, k_30, k_48, k_49, k_57, k_100, k_110, k_127, k_128, k_196, k_255, k_1000, k_1024, k_10000, nI_add, nI_mul, nI_div, irm_nI, nle, nlt, neq, gd_t, inb_nI, cl_nI, bnd_eq, gdT, gdo, gb0, gb1, gbi, bi0, bi1, bi0r, Option.bind_some, bndE_some, ite_t, ite_f, k_m9, k_m1, k_13, k_15, k_18, k_19, k_112, k_114, k_115, k_98, k_103, k_116, k_119, k_47, k_82, k_50, k_51, k_99, k_700, k_197, ne9, ne9s, nI_ne0s, ↓reduceIte, ix_nI, k1, u2, numberOf_ok u1, u3]
          · simp (disch := omega) only [k_0, k_1, k_2, k_3, k_4, k_5, k_6, k_7, k_8, k_9, k_10, k_14, k_16, k_28, k_30, k_48, k_49, k_57, k_100, k_110, k_127, k_128, k_196, k_255, k_1000, k_1024, k_10000, nI_add, nI_mul, nI_div, irm_nI, nle, nlt, neq, gd_t, inb_nI, cl_nI, bnd_eq, gdT, gdo, gb0, gb1, gbi, bi0, bi1, bi0r, Option.bind_some, bndE_some, ite_t, ite_f, k_m9, k_m1, k_13, k_15, k_18, k_19, k_112, k_114, k_115, k_98, k_103, k_116, k_119, k_47, k_82, k_50, k_51, k_99, k_700, k_197, ne9, ne9s, nI_ne0s, ↓reduceIte, ix_nI, k1, q3]
        · obtain ⟨u, u1, u2, u3⟩ := k3 (Or.inr q1)
          obtain ⟨v, v1, v2, v3⟩ := k4 q1
          rw [q1] at k1
          obtain rfl | rfl : j = 0 ∨ j = 1 := by omega
          · simp (disch := omega) only [k_0, k_1, k_2, k_3, k_4, k_5, k_6, k_7, k_8, k_9, k_10, k_14, k_16, k_28, k_30, k_48, k_49, k_57, k_100, k_110, k_127, k_128, k_196, k_255, k_1000, k_1024, k_10000, nI_add, nI_mul, nI_div, irm_nI, nle, nlt, neq, gd_t, inb_nI, cl_nI, bnd_eq, gdT, gdo, gb0, gb1, gbi, bi0, bi1, bi0r, Option.bind_some, bndE_some, ite_t, ite_f, k_m9, k_m1, k_13, k_15, k_18, k_19, k_112, k_114, k_115, k_98, k_103, k_116, k_119, k_47, k_82, k_50, k_51, k_99, k_700, k_197, ne9, ne9s, nI_ne0s, ↓reduceIte, ix_nI, k1, u2, numberOf_ok u1, u3]
          · simp (disch := omega) only [k_0, k_1, k_2, k_3, k_4, k_5, k_6, k_7, k_8, k_9, k_10, k_14, k_16, k_28, k_30, k_48, k_49, k_57, k_100, k_110, k_127, k_128, k_196, k_255, k_1000, k_1024, k_10000, nI_add, nI_mul, nI_div, irm_nI, nle, nlt, neq, gd_t, inb_nI, cl_nI, bnd_eq, gdT, gdo, gb0, gb1, gbi, bi0, bi1, bi0r, Option.bind_some, bndE_some, ite_t, ite_f, k_m9, k_m1, k_13, k_15, k_18, k_19, k_112, k_114, k_115, k_98, k_103, k_116, k_119, k_47, k_82, k_50, k_51, k_99, k_700, k_197, ne9, ne9s, nI_ne0s, ↓reduceIte, ix_nI, k1, v2, numberOf_ok v1, v3]
        · rw [q1] at k1
          obtain rfl | rfl : j = 0 ∨ j = 1 := by omega
          · simp (disch := omega) only [k_0, k_1, k_2, k_3, k_4, k_5, k_6, k_7, k_8, k_9, k_10, k_14, k_16, k_28, k_30, k_48, k_49, k_57, k_100, k_110, k_127, k_128, k_196, k_255, k_1000, k_1024, k_10000, nI_add, nI_mul, nI_div, irm_nI, nle, nlt, neq, gd_t, inb_nI, cl_nI, bnd_eq, gdT, gdo, gb0, gb1, gbi, bi0, bi1, bi0r, Option.bind_some, bndE_some, ite_t, ite_f, k_m9, k_m1, k_13, k_15, k_18, k_19, k_112, k_114, k_115, k_98, k_103, k_116, k_119, k_47, k_82, k_50, k_51, k_99, k_700, k_197, ne9, ne9s, nI_ne0s, ↓reduceIte, ix_nI, k1, hm9, q2]
          · simp (disch := omega) only [k_0, k_1, k_2, k_3, k_4, k_5, k_6, k_7, k_8, k_9, k_10, k_14, k_16, k_28, k_30, k_48, k_49, k_57, k_100, k_110, k_127, k_128, k_196, k_255, k_1000, k_1024, k_10000, nI_add, nI_mul, nI_div, irm_nI, nle, nlt, neq, gd_t, inb_nI, cl_nI, bnd_eq, gdT, gdo, gb0, gb1, gbi, bi0, bi1, bi0r, Option.bind_some, bndE_some, ite_t, ite_f, k_m9, k_m1, k_13, k_15, k_18, k_19, k_112, k_114, k_115, k_98, k_103, k_116, k_119, k_47, k_82, k_50, k_51, k_99, k_700, k_197, ne9, ne9s, nI_ne0s, ↓reduceIte, ix_nI, k1, hm9', q3]
      · have h : RepM T 14 0 n K Z := hT.1
        have h1 : RepM (sI (sI T 13 0 (nI 0)) 13 0 (nI 0)) 14 0 n K Z := h.keep fun _ => rfl
        obtain ⟨U, k1, k2, k3, k4, k5⟩ := cuts_ok h1 hg.1.2.2.2 (show a < 7 by omega) hc (show d < 7 by omega)
        obtain ⟨q1, q2⟩ := q_done (hT.thr (nI 0)) (nI 0) k3 k2
        refine ⟨_, U, ?_, (Mo.sI _ _).tr q1, q2, (k3.1 _ _ (by omega)).trans (thr_eq _ (nI 0)), rfl⟩
        subst e1 e2 e3
        unfold m_X6_cutAt m_X6_cutAt_J33 m_X6_cutAt_J37 m_X6_cutAt_J73
        obtain rfl | rfl : j = 0 ∨ j = 1 := by omega
        · simp (disch := omega) only [k_0, k_1, k_2, k_3, k_4, k_5, k_6, k_7, k_8, k_9, k_10, k_14, k_16, k_28, k_30, k_48, k_49, k_57, k_100, k_110, k_127, k_128, k_196, k_255, k_1000, k_1024, k_10000, nI_add, nI_mul, nI_div, irm_nI, nle, nlt, neq, gd_t, inb_nI, cl_nI, bnd_eq, gdT, gdo, gb0, gb1, gbi, bi0, bi1, bi0r, Option.bind_some, bndE_some, ite_t, ite_f, k_m9, k_m1, k_13, k_15, k_18, k_19, k_112, k_114, k_115, k_98, k_103, k_116, k_119, k_47, k_82, k_50, k_51, k_99, k_700, k_197, ne9, ne9s, nI_ne0s, ↓reduceIte, whyNotRight_ok h, h0, thr_eq, le00, hin, Bool.true_eq_false, k1, k4]
        · simp (disch := omega) only [k_0, k_1, k_2, k_3, k_4, k_5, k_6, k_7, k_8, k_9, k_10, k_14, k_16, k_28, k_30, k_48, k_49, k_57, k_100, k_110, k_127, k_128, k_196, k_255, k_1000, k_1024, k_10000, nI_add, nI_mul, nI_div, irm_nI, nle, nlt, neq, gd_t, inb_nI, cl_nI, bnd_eq, gdT, gdo, gb0, gb1, gbi, bi0, bi1, bi0r, Option.bind_some, bndE_some, ite_t, ite_f, k_m9, k_m1, k_13, k_15, k_18, k_19, k_112, k_114, k_115, k_98, k_103, k_116, k_119, k_47, k_82, k_50, k_51, k_99, k_700, k_197, ne9, ne9s, nI_ne0s, ↓reduceIte, whyNotRight_ok h, h0, thr_eq, le00, hin, Bool.true_eq_false, k1, k5]
    · have hi2 : isT 2 i = false := Bool.eq_false_iff.mpr hi
      rw [hi2] at hin
      refine ⟨.inr 1, _, hg, fun S hS => ⟨S, ?_, Co.rf S, hS⟩, fun T hT => ?_⟩
      · have h : RepS S 29 n K Z := hS.1
        unfold m_X5_cutAt m_X5_cutAt_J18
        rw [checkRight_ok h, if_pos h0, bndP_l]
        by_cases i1 : i < 0
        · rw [if_pos i1]
        · by_cases i2 : i ≤ 1
          · exfalso
            obtain ⟨j, hj, e⟩ := of_range (n := 2) i1 (fun q => by
              rw [Int32.le_iff_toInt_le] at q i2
              have e1 : (nI 2).toInt = 2 := by decide
              have e2 : (1 : Int32).toInt = 1 := by decide
              omega) (by omega)
            exact hi (isT_iff.mpr ⟨j, hj, e⟩)
          · rw [if_neg i1, if_neg i2]
      · have h : RepM T 14 0 n K Z := hT.1
        obtain ⟨q1, q2⟩ := q_thr (hT.thr (nI 0)) (nI 2)
        refine ⟨nI 0, _, ?_, (Mo.sI _ _).tr q1, q2, thr_s _ _⟩
        unfold m_X6_cutAt m_X6_cutAt_J33 m_X6_cutAt_J37
        have h20 : (nI 2 ≤ nI 0) = False := eq_false (by decide)
        simp (disch := omega) only [k_0, k_1, k_2, k_3, k_4, k_5, k_6, k_7, k_8, k_9, k_10, k_14, k_16, k_28, k_30, k_48, k_49, k_57, k_100, k_110, k_127, k_128, k_196, k_255, k_1000, k_1024, k_10000, nI_add, nI_mul, nI_div, irm_nI, nle, nlt, neq, gd_t, inb_nI, cl_nI, bnd_eq, gdT, gdo, gb0, gb1, gbi, bi0, bi1, bi0r, Option.bind_some, bndE_some, ite_t, ite_f, k_m9, k_m1, k_13, k_15, k_18, k_19, k_112, k_114, k_115, k_98, k_103, k_116, k_119, k_47, k_82, k_50, k_51, k_99, k_700, k_197, ne9, ne9s, nI_ne0s, ↓reduceIte, whyNotRight_ok h, h0, thr_eq, le00, hin, h20]
  · refine ⟨.inr (wrx n x k y), _, hg, fun S hS => ⟨S, ?_, Co.rf S, hS⟩, fun T hT => ?_⟩
    · have h : RepS S 29 n K Z := hS.1
      unfold m_X5_cutAt
      rw [checkRight_ok h, if_neg h0, bndP_r]
    · have h : RepM T 14 0 n K Z := hT.1
      obtain ⟨q1, q2⟩ := q_thr (hT.thr (nI (wr n x k y))) (nI (wr n x k y))
      refine ⟨nI 0, _, ?_, (Mo.sI _ _).tr q1, q2, by rw [thr_eq]; exact (wrx_cd h0).symm⟩
      have hne : (nI (wr n x k y) = nI 0) = False := eq_false (by rw [neq wr_lt (by omega)]; exact h0)
      unfold m_X6_cutAt m_X6_cutAt_J33 m_X6_cutAt_J37
      simp (disch := omega) only [k_0, k_1, k_2, k_3, k_4, k_5, k_6, k_7, k_8, k_9, k_10, k_14, k_16, k_28, k_30, k_48, k_49, k_57, k_100, k_110, k_127, k_128, k_196, k_255, k_1000, k_1024, k_10000, nI_add, nI_mul, nI_div, irm_nI, nle, nlt, neq, gd_t, inb_nI, cl_nI, bnd_eq, gdT, gdo, gb0, gb1, gbi, bi0, bi1, bi0r, Option.bind_some, bndE_some, ite_t, ite_f, k_m9, k_m1, k_13, k_15, k_18, k_19, k_112, k_114, k_115, k_98, k_103, k_116, k_119, k_47, k_82, k_50, k_51, k_99, k_700, k_197, ne9, ne9s, nI_ne0s, ↓reduceIte, whyNotRight_ok h, thr_eq, hne, npos h0 wr_lt]
/-- the rights of one thing over another one -/
theorem rights_loop {S : Hs} {i n : Nat} {K : Kd} {Z : Rt} (h : RepS S i n K Z) {a d : Nat} (ha : a < 7) (hd : d < 7) : ∃ w, loopO (fun x => m_X5_rights_L34 (nI a) (nI d) i S x.1 x.2) (nI 0, nI 0) = some w ∧ ∀ b, b < 32 → bt w b = (decide (b < 4) && Z a b d) := by
  refine loopO_inv (f := fun x : Int32 × Int32 => m_X5_rights_L34 (nI a) (nI d) i S x.1 x.2) (fun c q => c ≤ 4 ∧ q.2 = nI c ∧ ∀ b, b < 32 → bt q.1 b = (decide (b < c) && Z a b d)) _ 4 (fun c q hq => ?_) ⟨by omega, rfl, fun b hb => by rw [show nI 0 = (0 : Int32) from rfl, b_0]; simp⟩
  obtain ⟨w, v⟩ := q
  obtain ⟨hc, hv, hb⟩ := hq
  simp only at hv hb
  subst hv
  by_cases hc4 : c < 4
  · refine Or.inl ⟨hc4, ?_⟩
    simp only [m_X5_rights_L34, m_X5_rights_J64]
    cases hz : Z a c d
    · simp (disch := omega) only [k_0, k_1, k_2, k_3, k_4, k_5, k_6, k_7, k_8, k_9, k_10, k_14, k_16, k_28, k_30, k_48, k_49, k_57, k_100, k_110, k_127, k_128, k_196, k_255, k_1000, k_1024, k_10000, nI_add, nI_mul, nI_div, irm_nI, nle, nlt, neq, gd_t, inb_nI, cl_nI, bnd_eq, gdT, gdo, gb0, gb1, gbi, bi0, bi1, bi0r, Option.bind_some, bndE_some, ite_t, ite_f, k_m9, k_m1, k_13, k_15, k_18, k_19, k_112, k_114, k_115, k_98, k_103, k_116, k_119, k_47, k_82, k_50, k_51, k_99, k_700, k_197, ne9, ne9s, nI_ne0s, ↓reduceIte, ix_nI, has_bi h ha hc4 hd, hz]
      refine ⟨_, rfl, by omega, rfl, fun b hb32 => ?_⟩
      show bt w b = _
      rw [hb b hb32]
      by_cases hbc : b = c
      · subst hbc
        simp [hz]
      · rw [show decide (b < c + 1) = decide (b < c) by rw [decide_eq_decide]; omega]
    · simp (disch := omega) only [k_0, k_1, k_2, k_3, k_4, k_5, k_6, k_7, k_8, k_9, k_10, k_14, k_16, k_28, k_30, k_48, k_49, k_57, k_100, k_110, k_127, k_128, k_196, k_255, k_1000, k_1024, k_10000, nI_add, nI_mul, nI_div, irm_nI, nle, nlt, neq, gd_t, inb_nI, cl_nI, bnd_eq, gdT, gdo, gb0, gb1, gbi, bi0, bi1, bi0r, Option.bind_some, bndE_some, ite_t, ite_f, k_m9, k_m1, k_13, k_15, k_18, k_19, k_112, k_114, k_115, k_98, k_103, k_116, k_119, k_47, k_82, k_50, k_51, k_99, k_700, k_197, ne9, ne9s, nI_ne0s, ↓reduceIte, ix_nI, has_bi h ha hc4 hd, hz, Bool.true_eq_false]
      refine ⟨_, rfl, by omega, rfl, fun b hb32 => ?_⟩
      show bt (w ||| (nI 1 <<< (nI c &&& 31))) b = _
      rw [show nI 1 = (1 : Int32) from rfl, bt_set _ (show c < 32 by omega) hb32, hb b hb32]
      by_cases hbc : b = c
      · subst hbc
        simp [hz]
      · rw [show decide (b < c + 1) = decide (b < c) by rw [decide_eq_decide]; omega]
        simp [hbc]
  · obtain rfl : c = 4 := by omega
    refine Or.inr ⟨w, ?_, hb⟩
    simp only [m_X5_rights_L34]
    simp (disch := omega) only [k_0, k_1, k_2, k_3, k_4, k_5, k_6, k_7, k_8, k_9, k_10, k_14, k_16, k_28, k_30, k_48, k_49, k_57, k_100, k_110, k_127, k_128, k_196, k_255, k_1000, k_1024, k_10000, nI_add, nI_mul, nI_div, irm_nI, nle, nlt, neq, gd_t, inb_nI, cl_nI, bnd_eq, gdT, gdo, gb0, gb1, gbi, bi0, bi1, bi0r, Option.bind_some, bndE_some, ite_t, ite_f, k_m9, k_m1, k_13, k_15, k_18, k_19, k_112, k_114, k_115, k_98, k_103, k_116, k_119, k_47, k_82, k_50, k_51, k_99, k_700, k_197, ne9, ne9s, nI_ne0s, ↓reduceIte]
theorem isSt65 : isSt 65 = true := rfl
theorem endOf_ok {S : Hs} {i n : Nat} {K : Kd} {Z : Rt} (h : RepS S i n K Z) (hi : i ≠ 65) : ∃ S', m_X5_endOf i S = some (65, S') ∧ RepS S' 65 n K (Clo (aw n K) Z) ∧ SameB 65 S S' := by
  obtain ⟨S1, a1, a2, a3⟩ := copyFrom_ok (i := 65) h (by omega)
  obtain ⟨S2, b1, b2, b3⟩ := spreadOut_ok a2
  refine ⟨S2, ?_, b2, a3.tr b3⟩
  unfold m_X5_endOf
  rw [a1, Option.bind_some, b1, Option.bind_some]
theorem bndEN_some {α γ : Type} (a : α) (T : Hs) (f : α → Hs → Option γ) : bndE (some (a, T)) f = f a T := rfl
theorem rights_op (x y : Int32) (b : Bool) : OpOk (m_X5_rights x y (bi b)) (m_X6_rights x y (bi b)) c12 := by
  refine ask_right (x := x) (k := nI 0) (y := y) (fun n K Z a _ d => ofB fun j => decide (j < 4) && (if b then Clo (aw n K) Z else Z) a j d) (fun S n K Z h h0 => ?_) (fun T n K Z h h0 => ?_) (fun S n K Z a c d h h0 ha hc hd hne e1 e2 e3 => ?_) (fun T n K Z a c d h h30 h0 ha hc hd hne e1 e2 e3 => ?_)
  · unfold m_X5_rights
    rw [show (0 : Int32) = nI 0 from rfl, checkRight_ok h, if_neg h0, bndP_r]
  · have hw : wr n x (nI 0) y = if (isT n x && isT n y) = true then (if x ≠ y then 0 else 2) else 1 := by
      unfold wr
      rw [isT_nI (by omega) (by omega)]
      simp
    unfold m_X6_rights m_X6_rights_J17 m_X6_rights_J31
    rw [hw] at h0 ⊢
    have h1 : (nI 1 ≤ nI 0) = False := eq_false (by decide)
    have h2 : (nI 2 ≤ nI 0) = False := eq_false (by decide)
    simp (disch := omega) only [k_0, k_1, k_2, k_3, k_4, k_5, k_6, k_7, k_8, k_9, k_10, k_14, k_16, k_28, k_30, k_48, k_49, k_57, k_100, k_110, k_127, k_128, k_196, k_255, k_1000, k_1024, k_10000, nI_add, nI_mul, nI_div, irm_nI, nle, nlt, neq, gd_t, inb_nI, cl_nI, bnd_eq, gdT, gdo, gb0, gb1, gbi, bi0, bi1, bi0r, Option.bind_some, bndE_some, ite_t, ite_f, k_m9, k_m1, k_13, k_15, k_18, k_19, k_112, k_114, k_115, k_98, k_103, k_116, k_119, k_47, k_82, k_50, k_51, k_99, k_700, k_197, ne9, ne9s, nI_ne0s, ↓reduceIte, isThing_ok h, thr_eq, h1, h2]
    cases q1 : isT n x
    · exact ⟨nI 0, by simp⟩
    · cases q2 : isT n y
      · exact ⟨nI 0, by simp⟩
      · by_cases q3 : x = y
        · exact ⟨nI 0, by simp [q3]⟩
        · simp [q1, q2, q3] at h0
  · have hn := h.1
    have c0 : checkRight_ok h x (nI 0) y = checkRight_ok h x (nI 0) y := rfl
    unfold m_X5_rights m_X5_rights_J26
    rw [show (0 : Int32) = nI 0 from rfl, checkRight_ok h, if_pos h0, bndP_l, e1, e3]
    cases b
    · obtain ⟨w, w1, w2⟩ := rights_loop h (show a < 7 by omega) (show d < 7 by omega)
      refine ⟨S, ?_, Kp.rf S⟩
      rw [if_pos (show bi false = nI 0 from rfl), w1, Option.bind_some, ofB_eq w2]
      rfl
    · obtain ⟨S1, k1, k2, k3⟩ := endOf_ok h (by omega)
      obtain ⟨w, w1, w2⟩ := rights_loop k2 (show a < 7 by omega) (show d < 7 by omega)
      refine ⟨S1, ?_, Kp.ofB k3 (by omega)⟩
      rw [if_neg (show ¬ bi true = nI 0 by decide), k1, bndEN_some, gd_t isSt65, w1, Option.bind_some, ofB_eq w2]
      rfl
  · have hn := h.1
    obtain ⟨w, U, w1, w2, w3, w4, w5, w6, -⟩ := mstart h
    refine ⟨U, ?_, Mq.ofScr w3, w5, w6⟩
    have h1 : isT n x = true := by rw [e1, isT_nI (by omega) (by omega), decide_eq_true ha]
    have h2 : isT n y = true := by rw [e3, isT_nI (by omega) (by omega), decide_eq_true hd]
    have h3 : ¬ x = y := by rw [e1, e3, neq (by omega) (by omega)]; exact hne
    have hth1 := isThing_ok h x
    have hth2 := isThing_ok h y
    rw [h1] at hth1
    rw [h2] at hth2
    subst e1 e3
    unfold m_X6_rights m_X6_rights_J17 m_X6_rights_J31 m_X6_rights_J81
    cases b
    · have hv : gA U 14 (8 + (7 * a + d)) = ofB fun j => decide (j < 4) && Z a j d := ofB_eq fun j hj => by
        have := w5.2.2.2.2.2 a (by omega) d (by omega) j hj
        rwa [Nat.zero_add] at this
      simp (disch := omega) only [k_0, k_1, k_2, k_3, k_4, k_5, k_6, k_7, k_8, k_9, k_10, k_14, k_16, k_28, k_30, k_48, k_49, k_57, k_100, k_110, k_127, k_128, k_196, k_255, k_1000, k_1024, k_10000, nI_add, nI_mul, nI_div, irm_nI, nle, nlt, neq, gd_t, inb_nI, cl_nI, bnd_eq, gdT, gdo, gb0, gb1, gbi, bi0, bi1, bi0r, Option.bind_some, bndE_some, ite_t, ite_f, k_m9, k_m1, k_13, k_15, k_18, k_19, k_112, k_114, k_115, k_98, k_103, k_116, k_119, k_47, k_82, k_50, k_51, k_99, k_700, k_197, ne9, ne9s, nI_ne0s, ↓reduceIte, hth1, hth2, Bool.true_eq_false, hne, thr_eq, le00, w1, w2, at_ok, hv]
      all_goals simp
    · have hv : gA U 20 (7 * a + d) = ofB fun j => decide (j < 4) && Clo (aw n K) Z a j d := ofB_eq (w4.2.1 a (by omega) d (by omega))
      simp (disch := omega) only [k_0, k_1, k_2, k_3, k_4, k_5, k_6, k_7, k_8, k_9, k_10, k_14, k_16, k_28, k_30, k_48, k_49, k_57, k_100, k_110, k_127, k_128, k_196, k_255, k_1000, k_1024, k_10000, nI_add, nI_mul, nI_div, irm_nI, nle, nlt, neq, gd_t, inb_nI, cl_nI, bnd_eq, gdT, gdo, gb0, gb1, gbi, bi0, bi1, bi0r, Option.bind_some, bndE_some, ite_t, ite_f, k_m9, k_m1, k_13, k_15, k_18, k_19, k_112, k_114, k_115, k_98, k_103, k_116, k_119, k_47, k_82, k_50, k_51, k_99, k_700, k_197, ne9, ne9s, nI_ne0s, ↓reduceIte, hth1, hth2, Bool.true_eq_false, hne, thr_eq, le00, w1, w2, at_ok, hv]
      all_goals simp
