/-! load, append, clearText, errorPosition on both sides -/
theorem AOk.read (len : Nat) (t : Nat → Nat) : AOk (pm len t, tk t, rdz len t) := by
  have hp := pm_7 (len := len) (t := t)
  have hr := rlp_WF (len := len) (t := t) (n := pm len t) hp 40 (pm len t + 2) noR (noR_WF _) (by rw [noR_cnt]; omega)
  refine ⟨hp, ?_, fun j _ => kd_3 _, ?_⟩
  · show WF (pm len t) (rdz len t)
    unfold rdz
    split
    · exact noR_WF _
    · exact hr.1
  · show cnt (rdz len t) ≤ 30
    unfold rdz
    split
    · rw [noR_cnt]; omega
    · exact hr.2
theorem errorPosition_op : OpN m_X5_errorPosition m_X6_errorPosition := by
  intro g hg
  obtain ⟨⟨n, K, Z⟩, r, mem, sv, sl, len, t⟩ := g
  refine ⟨rdv len t, _, hg, fun S hS => ?_, fun T hT => ?_⟩
  · obtain ⟨S1, k1, k2, -⟩ := readInto_ok (i := 63) (show TxC S len t from hS.2.2.2.2) (by omega)
    refine ⟨S1, ?_, Co.ofB k2 (by omega), hS.kp (Kp.ofB k2 (by omega))⟩
    unfold m_X5_errorPosition
    rw [k1, bndE_some]
  · have h1 := hT.thr (nI 0)
    obtain ⟨U, k1, k2, -⟩ := readText_ok (show TxM (sI T 13 0 (nI 0)) len t from h1.2.2.2.2)
    refine ⟨U, ?_, (Mo.sI _ _).tr (Mo.ofA k2 (by omega)), h1.mq (Mq.ofA k2 (by omega)) (h1.1.keep fun b => k2.2.1 _ _ (by omega))⟩
    unfold m_X6_errorPosition
    simp (disch := omega) only [k_0, k_1, k_2, k_3, k_4, k_5, k_6, k_7, k_8, k_9, k_10, k_14, k_16, k_28, k_30, k_48, k_49, k_57, k_100, k_110, k_127, k_128, k_196, k_255, k_1000, k_1024, k_10000, nI_add, nI_mul, nI_div, irm_nI, nle, nlt, neq, gd_t, inb_nI, cl_nI, bnd_eq, gdT, gdo, gb0, gb1, gbi, bi0, bi1, bi0r, Option.bind_some, bndE_some, ite_t, ite_f, k_m9, k_m1, k_13, k_15, k_18, k_19, k_112, k_114, k_115, k_98, k_103, k_116, k_119, k_47, k_82, k_50, k_51, k_99, k_700, k_197, ne9, ne9s, nI_ne0s, ↓reduceIte, k1]
theorem clearText_op : OpN m_X5_clearText m_X6_clearText := by
  intro g hg
  obtain ⟨⟨n, K, Z⟩, r, mem, sv, sl, len, t⟩ := g
  refine ⟨nI len, ((n, K, Z), r, mem, sv, sl, 0, t), hg, fun S hS => ?_, fun T hT => ?_⟩
  · have h1 : gI S 1 1 = nI len := hS.2.2.2.2.1
    refine ⟨sI S 1 1 (nI 0), ?_, Co.sI _ _ (by omega), ?_⟩
    · unfold m_X5_clearText
      simp (disch := omega) only [k_0, k_1, k_2, k_3, k_4, k_5, k_6, k_7, k_8, k_9, k_10, k_14, k_16, k_28, k_30, k_48, k_49, k_57, k_100, k_110, k_127, k_128, k_196, k_255, k_1000, k_1024, k_10000, nI_add, nI_mul, nI_div, irm_nI, nle, nlt, neq, gd_t, inb_nI, cl_nI, bnd_eq, gdT, gdo, gb0, gb1, gbi, bi0, bi1, bi0r, Option.bind_some, bndE_some, ite_t, ite_f, k_m9, k_m1, k_13, k_15, k_18, k_19, k_112, k_114, k_115, k_98, k_103, k_116, k_119, k_47, k_82, k_50, k_51, k_99, k_700, k_197, ne9, ne9s, nI_ne0s, ↓reduceIte, h1]
    · obtain ⟨a1, a2, ⟨q, b1, b2, b3⟩, a4, a5⟩ := hS
      refine ⟨a1.samev (fun b => by rw [gI_sI, if_neg (by omega)]) (fun b => rfl), by rw [gI_sI, if_neg (by omega)]; exact a2, ⟨q, fun j hj => b1 j hj, b2, fun j hj hj14 => ?_⟩, fun j hj => ?_, by rw [gI_sI, if_pos rfl, if_pos rfl], Nat.zero_le _, fun j hj => absurd hj (Nat.not_lt_zero j)⟩
      · have := b1 j hj14
        exact (b3 j hj hj14).samev (fun b => by rw [gI_sI, if_neg (by omega)]) (fun b => rfl)
      · obtain ⟨c1, c2, c3⟩ := a4 j hj
        exact ⟨c1, c2, fun e => (c3 e).samev (fun b => by rw [gI_sI, if_neg (by omega)]) (fun b => rfl)⟩
  · have h1 : gI T 13 8 = nI len := hT.2.2.2.2.1
    refine ⟨sI (sI T 13 0 (nI 0)) 13 8 (nI 0), ?_, (Mo.sI _ _).tr (Mo.sI _ _), ?_⟩
    · have h2 : gI (sI T 13 0 (nI 0)) 13 8 = nI len := by rw [gI_sI, if_pos rfl, if_neg (by omega)]; exact h1
      unfold m_X6_clearText
      simp (disch := omega) only [k_0, k_1, k_2, k_3, k_4, k_5, k_6, k_7, k_8, k_9, k_10, k_14, k_16, k_28, k_30, k_48, k_49, k_57, k_100, k_110, k_127, k_128, k_196, k_255, k_1000, k_1024, k_10000, nI_add, nI_mul, nI_div, irm_nI, nle, nlt, neq, gd_t, inb_nI, cl_nI, bnd_eq, gdT, gdo, gb0, gb1, gbi, bi0, bi1, bi0r, Option.bind_some, bndE_some, ite_t, ite_f, k_m9, k_m1, k_13, k_15, k_18, k_19, k_112, k_114, k_115, k_98, k_103, k_116, k_119, k_47, k_82, k_50, k_51, k_99, k_700, k_197, ne9, ne9s, nI_ne0s, ↓reduceIte, h2]
    · obtain ⟨a1, a2, a3, a4, a5⟩ := hT.thr (nI 0)
      exact ⟨a1.keep fun _ => rfl, by rw [gI_sI, if_pos rfl, if_neg (by omega)]; exact a2, fun j hj => (a3 j hj).keep fun _ => rfl, fun j hj => ⟨(a4 j hj).1, fun e => ((a4 j hj).2 e).keep fun _ => rfl⟩, by rw [gI_sI, if_pos rfl, if_pos rfl], Nat.zero_le _, fun j hj => absurd hj (Nat.not_lt_zero j)⟩
def cid (e : Nat) : Option Int32 := if e = 1 then some (nI 1) else if e = 2 then some (nI 2) else none
theorem i2c_ok : ∀ x, x < 256 → i2c (nI x) = nI x := by decide +kernel
theorem narc_ok : ∀ x, x < 256 → vp_nar .char (nI x) = nI x := by decide +kernel
theorem append_op (v : Int32) : OpOk (m_X5_append v) (m_X6_append v) cid := by
  intro g hg
  obtain ⟨⟨n, K, Z⟩, r, mem, sv, sl, len, t⟩ := g
  by_cases hv : isT 256 v = true
  · obtain ⟨x, hx, rfl⟩ := isT_iff.mp hv
    have hin : m_X6_in (nI x) (nI 0) (nI 255) = some (bi true) := by rw [in_T _ (by omega), hv]
    by_cases hl : len < 110
    · refine ⟨.inl (nI (len + 1)), ((n, K, Z), r, mem, sv, sl, len + 1, fun j => if j = len then x else t j), hg, fun S hS => ?_, fun T hT => ?_⟩
      · obtain ⟨a1, a2, ⟨q, b1, b2, b3⟩, a4, a5⟩ := hS
        have h1 : gI S 1 1 = nI len := a5.1
        refine ⟨sI (sA S 2 len (nI x)) 1 1 (nI (len + 1)), ?_, (Co.sA _ _ (by omega)).tr (Co.sI _ _ (by omega)), ?_⟩
        · have g1 : gI (sA S 2 len (nI x)) 1 1 = nI len := h1
          have g2 : gI (sI (sA S 2 len (nI x)) 1 1 (nI (len + 1))) 1 1 = nI (len + 1) := by rw [gI_sI, if_pos rfl, if_pos rfl]
          unfold m_X5_append m_X5_append_J11 m_X4_addSign m_X4_addSign_J29
          simp (disch := omega) only [k_0, k_1, k_2, k_3, k_4, k_5, k_6, k_7, k_8, k_9, k_10, k_14, k_16, k_28, k_30, k_48, k_49, k_57, k_100, k_110, k_127, k_128, k_196, k_255, k_1000, k_1024, k_10000, nI_add, nI_mul, nI_div, irm_nI, nle, nlt, neq, gd_t, inb_nI, cl_nI, bnd_eq, gdT, gdo, gb0, gb1, gbi, bi0, bi1, bi0r, Option.bind_some, bndE_some, ite_t, ite_f, k_m9, k_m1, k_13, k_15, k_18, k_19, k_112, k_114, k_115, k_98, k_103, k_116, k_119, k_47, k_82, k_50, k_51, k_99, k_700, k_197, ne9, ne9s, nI_ne0s, ↓reduceIte, h1, i2c_ok x hx, narc_ok x hx, g1, g2]
        · have mv : ∀ i b, 29 ≤ i → gI (sI (sA S 2 len (nI x)) 1 1 (nI (len + 1))) i b = gI S i b := fun i b hi => by rw [gI_sI, if_neg (by omega), gI_sA]
          have mA : ∀ i b, i ≠ 2 → gA (sI (sA S 2 len (nI x)) 1 1 (nI (len + 1))) i b = gA S i b := fun i b hi => by rw [gA_sI, gA_sA, if_neg hi]
          refine ⟨a1.samev (fun b => mv _ _ (by omega)) (fun b => mA _ _ (by omega)), by rw [gI_sI, if_neg (by omega)]; exact a2, ⟨q, fun j hj => b1 j hj, b2, fun j hj hj14 => ?_⟩, fun j hj => ?_, by rw [gI_sI, if_pos rfl, if_pos rfl], show len + 1 ≤ 110 by omega, fun j hj => ?_⟩
          · have := b1 j hj14
            exact (b3 j hj hj14).samev (fun b => mv _ _ (by omega)) (fun b => mA _ _ (by omega))
          · obtain ⟨c1, c2, c3⟩ := a4 j hj
            rw [mA 5 _ (by omega)]
            exact ⟨c1, c2, fun e => (c3 e).samev (fun b => mv _ _ (by omega)) (fun b => mA _ _ (by omega))⟩
          · have hj' : j < len + 1 := hj
            show gA (sI (sA S 2 len (nI x)) 1 1 (nI (len + 1))) 2 j = nI (if j = len then x else t j) ∧ (if j = len then x else t j) < 256
            rw [gA_sI, gA_sA, if_pos rfl]
            by_cases hjl : j = len
            · rw [if_pos hjl, if_pos hjl]
              exact ⟨rfl, hx⟩
            · rw [if_neg hjl, if_neg hjl]
              exact a5.2.2 j (show j < len by omega)
      · obtain ⟨a1, a2, a3, a4, a5⟩ := hT
        have h1 : gI T 13 8 = nI len := a5.1
        have g0 : gI (sI T 13 0 (nI 0)) 13 8 = nI len := by rw [gI_sI, if_pos rfl, if_neg (by omega)]; exact h1
        refine ⟨nI (len + 1), sI (sA (sI T 13 0 (nI 0)) 19 len (nI x)) 13 8 (nI (len + 1)), ?_, ((Mo.sI _ _).tr (Mo.sA _ _ (by omega))).tr (Mo.sI _ _), ?_, ?_, rfl⟩
        · have g1 : gI (sA (sI T 13 0 (nI 0)) 19 len (nI x)) 13 8 = nI len := g0
          have g2 : gI (sI (sA (sI T 13 0 (nI 0)) 19 len (nI x)) 13 8 (nI (len + 1))) 13 8 = nI (len + 1) := by rw [gI_sI, if_pos rfl, if_pos rfl]
          have h110 : (len = 110) = False := eq_false (by omega)
          unfold m_X6_append m_X6_append_J30
          simp (disch := omega) only [k_0, k_1, k_2, k_3, k_4, k_5, k_6, k_7, k_8, k_9, k_10, k_14, k_16, k_28, k_30, k_48, k_49, k_57, k_100, k_110, k_127, k_128, k_196, k_255, k_1000, k_1024, k_10000, nI_add, nI_mul, nI_div, irm_nI, nle, nlt, neq, gd_t, inb_nI, cl_nI, bnd_eq, gdT, gdo, gb0, gb1, gbi, bi0, bi1, bi0r, Option.bind_some, bndE_some, ite_t, ite_f, k_m9, k_m1, k_13, k_15, k_18, k_19, k_112, k_114, k_115, k_98, k_103, k_116, k_119, k_47, k_82, k_50, k_51, k_99, k_700, k_197, ne9, ne9s, nI_ne0s, ↓reduceIte, hin, Bool.true_eq_false, h1, h110, thr_eq, le00, g0, g1, g2]
        · have mA : ∀ i b, i ≠ 19 → gA (sI (sA (sI T 13 0 (nI 0)) 19 len (nI x)) 13 8 (nI (len + 1))) i b = gA T i b := fun i b hi => by rw [gA_sI, gA_sA, if_neg hi, gA_sI]
          refine ⟨a1.keep fun b => mA _ _ (by omega), by rw [gI_sI, if_pos rfl, if_neg (by omega), gI_sA, gI_sI, if_pos rfl, if_neg (by omega)]; exact a2, fun j hj => (a3 j hj).keep fun b => mA _ _ (by omega), fun j hj => ?_, by rw [gI_sI, if_pos rfl, if_pos rfl], show len + 1 ≤ 110 by omega, fun j hj => ?_⟩
          · rw [mA 17 _ (by omega)]
            exact ⟨(a4 j hj).1, fun e => ((a4 j hj).2 e).keep fun b => mA _ _ (by omega)⟩
          · have hj' : j < len + 1 := hj
            show gA (sI (sA (sI T 13 0 (nI 0)) 19 len (nI x)) 13 8 (nI (len + 1))) 19 j = nI (if j = len then x else t j) ∧ (if j = len then x else t j) < 256
            rw [gA_sI, gA_sA, if_pos rfl]
            by_cases hjl : j = len
            · rw [if_pos hjl, if_pos hjl]
              exact ⟨rfl, hx⟩
            · rw [if_neg hjl, if_neg hjl, gA_sI]
              exact a5.2.2 j (show j < len by omega)
        · rw [gI_sI, if_pos rfl, if_neg (by omega), gI_sA]
          exact thr_eq T (nI 0)
    · refine ⟨.inr 2, _, hg, fun S hS => ⟨S, ?_, Co.rf S, hS⟩, fun T hT => ?_⟩
      · have h1 : gI S 1 1 = nI len := hS.2.2.2.2.1
        have h2 : len ≤ 110 := hS.2.2.2.2.2.1
        unfold m_X5_append m_X5_append_J11
        simp (disch := omega) only [k_0, k_1, k_2, k_3, k_4, k_5, k_6, k_7, k_8, k_9, k_10, k_14, k_16, k_28, k_30, k_48, k_49, k_57, k_100, k_110, k_127, k_128, k_196, k_255, k_1000, k_1024, k_10000, nI_add, nI_mul, nI_div, irm_nI, nle, nlt, neq, gd_t, inb_nI, cl_nI, bnd_eq, gdT, gdo, gb0, gb1, gbi, bi0, bi1, bi0r, Option.bind_some, bndE_some, ite_t, ite_f, k_m9, k_m1, k_13, k_15, k_18, k_19, k_112, k_114, k_115, k_98, k_103, k_116, k_119, k_47, k_82, k_50, k_51, k_99, k_700, k_197, ne9, ne9s, nI_ne0s, ↓reduceIte, h1]
      · obtain ⟨q1, q2⟩ := q_thr hT (nI 2)
        have h1 : gI T 13 8 = nI len := hT.2.2.2.2.1
        have h2 : len ≤ 110 := hT.2.2.2.2.2.1
        have h3 : (len = 110) = True := eq_true (by omega)
        refine ⟨nI 0, _, ?_, q1, q2, thr_s _ _⟩
        unfold m_X6_append m_X6_append_J30
        simp (disch := omega) only [k_0, k_1, k_2, k_3, k_4, k_5, k_6, k_7, k_8, k_9, k_10, k_14, k_16, k_28, k_30, k_48, k_49, k_57, k_100, k_110, k_127, k_128, k_196, k_255, k_1000, k_1024, k_10000, nI_add, nI_mul, nI_div, irm_nI, nle, nlt, neq, gd_t, inb_nI, cl_nI, bnd_eq, gdT, gdo, gb0, gb1, gbi, bi0, bi1, bi0r, Option.bind_some, bndE_some, ite_t, ite_f, k_m9, k_m1, k_13, k_15, k_18, k_19, k_112, k_114, k_115, k_98, k_103, k_116, k_119, k_47, k_82, k_50, k_51, k_99, k_700, k_197, ne9, ne9s, nI_ne0s, ↓reduceIte, hin, Bool.true_eq_false, h1, h3, thr_eq, not20]
  · have hv2 := Bool.eq_false_iff.mpr hv
    have hin : m_X6_in v (nI 0) (nI 255) = some (bi false) := by rw [in_T _ (by omega), hv2]
    refine ⟨.inr 1, _, hg, fun S hS => ⟨S, ?_, Co.rf S, hS⟩, fun T hT => ?_⟩
    · unfold m_X5_append m_X5_append_J11
      by_cases h0 : v < 0
      · rw [if_pos h0]
      · rw [if_neg h0, if_neg]
        intro h1
        obtain ⟨k, hk, e⟩ := of_range (n := 256) h0 (fun q => by
          rw [Int32.le_iff_toInt_le] at q h1
          have e1 : (nI 256).toInt = 256 := by decide
          have e2 : (255 : Int32).toInt = 255 := by decide
          omega) (by omega)
        exact hv (isT_iff.mpr ⟨k, hk, e⟩)
    · obtain ⟨q1, q2⟩ := q_thr hT (nI 1)
      refine ⟨nI 0, _, ?_, q1, q2, thr_s _ _⟩
      unfold m_X6_append m_X6_append_J30
      simp (disch := omega) only [k_0, k_1, k_2, k_3, k_4, k_5, k_6, k_7, k_8, k_9, k_10, k_14, k_16, k_28, k_30, k_48, k_49, k_57, k_100, k_110, k_127, k_128, k_196, k_255, k_1000, k_1024, k_10000, nI_add, nI_mul, nI_div, irm_nI, nle, nlt, neq, gd_t, inb_nI, cl_nI, bnd_eq, gdT, gdo, gb0, gb1, gbi, bi0, bi1, bi0r, Option.bind_some, bndE_some, ite_t, ite_f, k_m9, k_m1, k_13, k_15, k_18, k_19, k_112, k_114, k_115, k_98, k_103, k_116, k_119, k_47, k_82, k_50, k_51, k_99, k_700, k_197, ne9, ne9s, nI_ne0s, ↓reduceIte, hin, thr_eq, not10]
theorem load_op : OpOk m_X5_load m_X6_load (c1 2) := by
  intro g hg
  obtain ⟨⟨n, K, Z⟩, r, mem, sv, sl, len, t⟩ := g
  obtain ⟨ga, gr, gm, gs⟩ := hg
  by_cases hv : rdv len t = m9
  · refine ⟨.inl (nI (pm len t)), ((pm len t, tk t, rdz len t), 0, mem, fun _ => false, sl, len, t), ⟨AOk.read len t, Nat.zero_le _, fun j hj => absurd hj (Nat.not_lt_zero j), fun j _ q => (by cases q)⟩, fun S hS => ?_, fun T hT => ?_⟩
    · obtain ⟨S1, k1, k2, k3⟩ := readInto_ok (i := 63) (show TxC S len t from hS.2.2.2.2) (by omega)
      have hS1 := hS.kp (Kp.ofB k2 (by omega))
      obtain ⟨S2, l1, l2, l3⟩ := copyRS (i := 29) (show RS S1 63 (pm len t, tk t, rdz len t) from k3 hv) (by omega)
      have hR := hS1.take (r' := 0) (Or.inr rfl) l3 l2
      obtain ⟨a1, a2, ⟨q, b1, b2, b3⟩, a4, a5⟩ := hR
      generalize hS3 : sI S2 0 3 (nI 0) = S3 at *
      obtain ⟨S4, e1, e2, e3⟩ := loopO_inv (f := fun x : Int32 × Hs => m_X5_load_L44 x.1 x.2) (fun c q => c ≤ 2 ∧ q.1 = nI c ∧ OnA 5 S3 q.2 ∧ ∀ j, j < c → gA q.2 5 j = nI 0) (fun U => OnA 5 S3 U ∧ ∀ j, j < 2 → gA U 5 j = nI 0) 2 (fun c q hq => by
        obtain ⟨v, U⟩ := q
        obtain ⟨hc, hv, c1, c2⟩ := hq
        simp only at hv c1 c2
        subst hv
        have n2 : (2 : Int32) = nI 2 := rfl
        by_cases hc2 : c < 2
        · refine Or.inl ⟨hc2, ?_⟩
          simp only [m_X5_load_L44]
          simp (disch := omega) only [k_0, k_1, k_2, k_3, k_4, k_5, k_6, k_7, k_8, k_9, k_10, k_14, k_16, k_28, k_30, k_48, k_49, k_57, k_100, k_110, k_127, k_128, k_196, k_255, k_1000, k_1024, k_10000, nI_add, nI_mul, nI_div, irm_nI, nle, nlt, neq, gd_t, inb_nI, cl_nI, bnd_eq, gdT, gdo, gb0, gb1, gbi, bi0, bi1, bi0r, Option.bind_some, bndE_some, ite_t, ite_f, k_m9, k_m1, k_13, k_15, k_18, k_19, k_112, k_114, k_115, k_98, k_103, k_116, k_119, k_47, k_82, k_50, k_51, k_99, k_700, k_197, ne9, ne9s, nI_ne0s, ↓reduceIte, nar_0n]
          refine ⟨_, rfl, by omega, rfl, c1.tr (OnA.sA _ _), fun j hj => ?_⟩
          show gA (sA U 5 c (nI 0)) 5 j = _
          rw [gA_sA, if_pos rfl]
          by_cases hjc : j = c
          · rw [if_pos hjc]
          · rw [if_neg hjc]
            exact c2 j (by omega)
        · obtain rfl : c = 2 := by omega
          refine Or.inr ⟨U, ?_, c1, c2⟩
          simp only [m_X5_load_L44]
          simp (disch := omega) only [k_0, k_1, k_2, k_3, k_4, k_5, k_6, k_7, k_8, k_9, k_10, k_14, k_16, k_28, k_30, k_48, k_49, k_57, k_100, k_110, k_127, k_128, k_196, k_255, k_1000, k_1024, k_10000, nI_add, nI_mul, nI_div, irm_nI, nle, nlt, neq, gd_t, inb_nI, cl_nI, bnd_eq, gdT, gdo, gb0, gb1, gbi, bi0, bi1, bi0r, Option.bind_some, bndE_some, ite_t, ite_f, k_m9, k_m1, k_13, k_15, k_18, k_19, k_112, k_114, k_115, k_98, k_103, k_116, k_119, k_47, k_82, k_50, k_51, k_99, k_700, k_197, ne9, ne9s, nI_ne0s, ↓reduceIte]) (x := (nI 0, S3)) ⟨by omega, rfl, OnA.rf _ _, fun j hj => by omega⟩
      have r29 : RS S4 29 (pm len t, tk t, rdz len t) := a1.samev (fun b => e2.1 _ _) (fun b => e2.2.1 _ _ (by omega))
      refine ⟨S4, ?_, ((Co.ofB k2 (by omega)).tr (Co.ofB l3 (by omega))).tr ((by rw [← hS3]; exact Co.sI _ _ (by omega) : Co S2 S3).tr ⟨fun b => e2.1 _ _, fun a b q1 q2 => e2.2.1 _ _ (by omega), e2.2.2.2⟩), r29, (e2.1 _ _).trans a2, ⟨q, fun j hj => by rw [e2.2.2.1]; exact b1 j hj, b2, fun j hj => absurd hj (Nat.not_lt_zero j)⟩, fun j hj => ⟨(e2.2.2.1 _ _).trans (a4 j hj).1, e3 j hj, fun q => (by cases q)⟩, (e2.1 _ _).trans a5.1, a5.2.1, fun j hj => ⟨(e2.2.1 _ _ (by omega)).trans (a5.2.2 j hj).1, (a5.2.2 j hj).2⟩⟩
      unfold m_X5_load
      rw [k1, bndE_some, hv]
      simp (disch := omega) only [k_0, k_1, k_2, k_3, k_4, k_5, k_6, k_7, k_8, k_9, k_10, k_14, k_16, k_28, k_30, k_48, k_49, k_57, k_100, k_110, k_127, k_128, k_196, k_255, k_1000, k_1024, k_10000, nI_add, nI_mul, nI_div, irm_nI, nle, nlt, neq, gd_t, inb_nI, cl_nI, bnd_eq, gdT, gdo, gb0, gb1, gbi, bi0, bi1, bi0r, Option.bind_some, bndE_some, ite_t, ite_f, k_m9, k_m1, k_13, k_15, k_18, k_19, k_112, k_114, k_115, k_98, k_103, k_116, k_119, k_47, k_82, k_50, k_51, k_99, k_700, k_197, ne9, ne9s, nI_ne0s, ↓reduceIte, l1, hS3]
      rw [e1]
      simp (disch := omega) only [k_0, k_1, k_2, k_3, k_4, k_5, k_6, k_7, k_8, k_9, k_10, k_14, k_16, k_28, k_30, k_48, k_49, k_57, k_100, k_110, k_127, k_128, k_196, k_255, k_1000, k_1024, k_10000, nI_add, nI_mul, nI_div, irm_nI, nle, nlt, neq, gd_t, inb_nI, cl_nI, bnd_eq, gdT, gdo, gb0, gb1, gbi, bi0, bi1, bi0r, Option.bind_some, bndE_some, ite_t, ite_f, k_m9, k_m1, k_13, k_15, k_18, k_19, k_112, k_114, k_115, k_98, k_103, k_116, k_119, k_47, k_82, k_50, k_51, k_99, k_700, k_197, ne9, ne9s, nI_ne0s, ↓reduceIte, show gI S4 29 0 = nI (pm len t) from r29.2.2.1]
    · obtain ⟨T1, k1, k2, k3⟩ := readText_ok (show TxM T len t from hT.2.2.2.2)
      have hT1 : MRel T1 ((n, K, Z), r, mem, sv, sl, len, t) := hT.mq (Mq.ofA k2 (by omega)) (hT.1.keep fun b => k2.2.1 _ _ (by omega))
      have hrd := k3 hv
      obtain ⟨U, l1, l2, l3⟩ := copy_loop (f := fun x : Int32 × Hs => m_X6_load_L29 x.1 x.2) (S := sI T1 13 0 (nI 0)) (c := 14) (p := 0) (a := 25) (s := 0) (N := 57) (by omega) (Or.inl (by omega)) (fun k W hk hW => by
        simp only [m_X6_load_L29]
        simp (disch := omega) only [k_0, k_1, k_2, k_3, k_4, k_5, k_6, k_7, k_8, k_9, k_10, k_14, k_16, k_28, k_30, k_48, k_49, k_57, k_100, k_110, k_127, k_128, k_196, k_255, k_1000, k_1024, k_10000, nI_add, nI_mul, nI_div, irm_nI, nle, nlt, neq, gd_t, inb_nI, cl_nI, bnd_eq, gdT, gdo, gb0, gb1, gbi, bi0, bi1, bi0r, Option.bind_some, bndE_some, ite_t, ite_f, k_m9, k_m1, k_13, k_15, k_18, k_19, k_112, k_114, k_115, k_98, k_103, k_116, k_119, k_47, k_82, k_50, k_51, k_99, k_700, k_197, ne9, ne9s, nI_ne0s, ↓reduceIte, Nat.zero_add]) (fun W hW => by
        simp only [m_X6_load_L29]
        simp (disch := omega) only [k_0, k_1, k_2, k_3, k_4, k_5, k_6, k_7, k_8, k_9, k_10, k_14, k_16, k_28, k_30, k_48, k_49, k_57, k_100, k_110, k_127, k_128, k_196, k_255, k_1000, k_1024, k_10000, nI_add, nI_mul, nI_div, irm_nI, nle, nlt, neq, gd_t, inb_nI, cl_nI, bnd_eq, gdT, gdo, gb0, gb1, gbi, bi0, bi1, bi0r, Option.bind_some, bndE_some, ite_t, ite_f, k_m9, k_m1, k_13, k_15, k_18, k_19, k_112, k_114, k_115, k_98, k_103, k_116, k_119, k_47, k_82, k_50, k_51, k_99, k_700, k_197, ne9, ne9s, nI_ne0s, ↓reduceIte])
      have hcur : RM U 14 0 (pm len t, tk t, rdz len t) := RepM.copy hrd fun b hb => by
        rw [l3, if_pos ⟨by omega, by omega⟩, gA_sI]
        congr 1
        omega
      obtain ⟨a1, a2, a3, a4, a5⟩ := (hT1.thr (nI 0)).take (r' := 0) (Or.inr rfl) l2 hcur
      have hz : gA (sA (sA (sI U 13 3 (nI 0)) 17 0 (nI 0)) 17 1 (nI 0)) 14 0 = nI (pm len t) := by
        rw [gA_sA, if_neg (by omega), gA_sA, if_neg (by omega)]
        exact z0 a1
      refine ⟨nI (pm len t), sA (sA (sI U 13 3 (nI 0)) 17 0 (nI 0)) 17 1 (nI 0), ?_, ((Mo.ofA k2 (by omega)).tr (Mo.sI _ _)).tr (((Mo.ofA l2 (by omega)).tr (Mo.sI _ _)).tr ((Mo.sA _ _ (by omega)).tr (Mo.sA _ _ (by omega)))), ⟨a1.keep fun b => by rw [gA_sA, if_neg (by omega), gA_sA, if_neg (by omega)], a2, fun j hj => absurd hj (Nat.not_lt_zero j), fun j hj => ⟨?_, fun q => (by cases q)⟩, a5.keep rfl fun b => by rw [gA_sA, if_neg (by omega), gA_sA, if_neg (by omega)]⟩, ?_, rfl⟩
      · unfold m_X6_load m_X6_load_J15
        rw [k1, bndE_some, hv]
        have hm : ((-9 : Int32) = m9) = True := eq_true rfl
        simp (disch := omega) only [k_0, k_1, k_2, k_3, k_4, k_5, k_6, k_7, k_8, k_9, k_10, k_14, k_16, k_28, k_30, k_48, k_49, k_57, k_100, k_110, k_127, k_128, k_196, k_255, k_1000, k_1024, k_10000, nI_add, nI_mul, nI_div, irm_nI, nle, nlt, neq, gd_t, inb_nI, cl_nI, bnd_eq, gdT, gdo, gb0, gb1, gbi, bi0, bi1, bi0r, Option.bind_some, bndE_some, ite_t, ite_f, k_m9, k_m1, k_13, k_15, k_18, k_19, k_112, k_114, k_115, k_98, k_103, k_116, k_119, k_47, k_82, k_50, k_51, k_99, k_700, k_197, ne9, ne9s, nI_ne0s, ↓reduceIte, thr_eq, le00]
        rw [l1]
        simp (disch := omega) only [k_0, k_1, k_2, k_3, k_4, k_5, k_6, k_7, k_8, k_9, k_10, k_14, k_16, k_28, k_30, k_48, k_49, k_57, k_100, k_110, k_127, k_128, k_196, k_255, k_1000, k_1024, k_10000, nI_add, nI_mul, nI_div, irm_nI, nle, nlt, neq, gd_t, inb_nI, cl_nI, bnd_eq, gdT, gdo, gb0, gb1, gbi, bi0, bi1, bi0r, Option.bind_some, bndE_some, ite_t, ite_f, k_m9, k_m1, k_13, k_15, k_18, k_19, k_112, k_114, k_115, k_98, k_103, k_116, k_119, k_47, k_82, k_50, k_51, k_99, k_700, k_197, ne9, ne9s, nI_ne0s, ↓reduceIte, nar_0n, hz]
      · rw [gA_sA, if_pos rfl]
        by_cases hj1 : j = 1
        · rw [if_pos hj1]; rfl
        · rw [if_neg hj1, gA_sA, if_pos rfl, if_pos (by omega)]; rfl
      · show gI (sI U 13 3 (nI 0)) 13 0 = nI 0
        rw [gI_sI, if_pos rfl, if_neg (by omega), l2.1]
        exact thr_eq T1 (nI 0)
  · refine ⟨.inr 2, _, ⟨ga, gr, gm, gs⟩, fun S hS => ?_, fun T hT => ?_⟩
    · obtain ⟨S1, k1, k2, k3⟩ := readInto_ok (i := 63) (show TxC S len t from hS.2.2.2.2) (by omega)
      refine ⟨S1, ?_, Co.ofB k2 (by omega), hS.kp (Kp.ofB k2 (by omega))⟩
      unfold m_X5_load
      rw [k1, bndE_some, if_neg (show ¬ rdv len t = -9 from hv)]
    · obtain ⟨T1, k1, k2, k3⟩ := readText_ok (show TxM T len t from hT.2.2.2.2)
      have hT1 : MRel T1 ((n, K, Z), r, mem, sv, sl, len, t) := hT.mq (Mq.ofA k2 (by omega)) (hT.1.keep fun b => k2.2.1 _ _ (by omega))
      obtain ⟨q1, q2⟩ := q_thr hT1 (nI 1)
      refine ⟨nI 0, _, ?_, (Mo.ofA k2 (by omega)).tr q1, q2, thr_s _ _⟩
      unfold m_X6_load m_X6_load_J15
      rw [k1, bndE_some, if_neg (show ¬ rdv len t = -9 from hv)]
      simp (disch := omega) only [k_0, k_1, k_2, k_3, k_4, k_5, k_6, k_7, k_8, k_9, k_10, k_14, k_16, k_28, k_30, k_48, k_49, k_57, k_100, k_110, k_127, k_128, k_196, k_255, k_1000, k_1024, k_10000, nI_add, nI_mul, nI_div, irm_nI, nle, nlt, neq, gd_t, inb_nI, cl_nI, bnd_eq, gdT, gdo, gb0, gb1, gbi, bi0, bi1, bi0r, Option.bind_some, bndE_some, ite_t, ite_f, k_m9, k_m1, k_13, k_15, k_18, k_19, k_112, k_114, k_115, k_98, k_103, k_116, k_119, k_47, k_82, k_50, k_51, k_99, k_700, k_197, ne9, ne9s, nI_ne0s, ↓reduceIte, thr_eq, not10]
