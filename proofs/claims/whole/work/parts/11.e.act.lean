/-! the actions on both sides: addThing, wake, set, take, give, undo, save, restore -/
theorem AOk.put {n : Nat} {K : Kd} {Z : Rt} (h : AOk (n, K, Z)) {x k y : Nat} {b : Bool} (hx : x < n) (hk : k < 4) (hy : y < n) (hne : x ≠ y) (hc : b = true → Z x k y = true ∨ cnt Z < 30) : AOk (n, K, upR Z x k y b) := by
  obtain ⟨h1, h2, h3, h4⟩ := h
  have h1' : n ≤ 7 := h1
  have h4' : cnt Z ≤ 30 := h4
  refine ⟨h1, upR_WF h2 b hx hk hy hne, h3, ?_⟩
  show cnt (upR Z x k y b) ≤ 30
  cases b
  · refine Nat.le_trans (cnt_le fun a c d q => ?_) h4'
    unfold upR at q
    by_cases e : a = x ∧ c = k ∧ d = y
    · rw [if_pos e] at q; cases q
    · rw [if_neg e] at q; exact q
  · rcases hc rfl with h | h
    · have : upR Z x k y true = Z := by
        funext a c d
        unfold upR
        by_cases e : a = x ∧ c = k ∧ d = y
        · rw [if_pos e, e.1, e.2.1, e.2.2, h]
        · rw [if_neg e]
      rw [this]
      exact h4'
    · cases hz : Z x k y
      · rw [cnt_ins (by omega) hk (by omega) hz]
        omega
      · have : upR Z x k y true = Z := by
          funext a c d
          unfold upR
          by_cases e : a = x ∧ c = k ∧ d = y
          · rw [if_pos e, e.1, e.2.1, e.2.2, hz]
          · rw [if_neg e]
        rw [this]
        exact h4'
/-- the model's state replaced, all else lasts -/
theorem MRel.cur {S T : Hs} {c : Ab} {r : Nat} {mem : Nat → Ab} {sv : Nat → Bool} {sl : Nat → Ab} {len : Nat} {t : Nat → Nat} (h : MRel S (c, r, mem, sv, sl, len, t)) (k : Mq S T) {c' : Ab} (hc : RM T 14 0 c') : MRel T (c', r, mem, sv, sl, len, t) := by
  obtain ⟨a1, a2, a3, a4, a5⟩ := h
  refine ⟨hc, (k.1 _ _ (by omega)).trans a2, fun j hj => (a3 j hj).keep fun j => k.2.1 _ _ (by omega), fun j hj => ?_, a5.keep (k.1 _ _ (by omega)) fun j => k.2.1 _ _ (by omega)⟩
  obtain ⟨c1, c2⟩ := a4 j hj
  rw [k.2.1 17 _ (by omega)]
  exact ⟨c1, fun e => (c2 e).keep fun j => k.2.1 _ _ (by omega)⟩
theorem not10 : (nI 1 ≤ nI 0) = False := eq_false (by decide)
theorem not20 : (nI 2 ≤ nI 0) = False := eq_false (by decide)
theorem not30 : (nI 3 ≤ nI 0) = False := eq_false (by decide)
def adK (n : Nat) (K : Kd) (b : Bool) : Kd := fun j => if j = n then (if b then 1 else 0) else K j
theorem RepM.addK {S : Hs} {n : Nat} {K : Kd} {Z : Rt} {K' : Kd} {k : Nat} (h : RepM S 14 0 n K Z) (hn : n < 7) (hk : k < 3) (h1 : K' n = k) (h2 : ∀ j, j < n → K' j = K j) : RepM (sA (sA S 14 (1 + n) (nI k)) 14 0 (nI (n + 1))) 14 0 (n + 1) K' Z := by
  obtain ⟨-, bw, b3, b4, b5, b6⟩ := h
  refine ⟨by omega, fun x k y q => ?_, fun j hj => ?_, ?_, fun j hj => ?_, fun x hx y hy b hb => ?_⟩
  · have := bw x k y q
    exact ⟨by omega, this.2.1, by omega, this.2.2.2⟩
  · by_cases hjn : j = n
    · rw [hjn, h1]; exact hk
    · rw [h2 j (by omega)]
      exact b3 j (by omega)
  · rw [gA_sA, if_pos rfl, if_pos rfl]
  · rw [gA_sA, if_pos rfl, if_neg (by omega), gA_sA, if_pos rfl]
    by_cases hjn : j = n
    · rw [if_pos (by omega), hjn, if_pos (by omega), h1]
    · rw [if_neg (by omega), b5 j hj]
      by_cases hjl : j < n
      · rw [if_pos hjl, if_pos (by omega), h2 j hjl]
      · rw [if_neg hjl, if_neg (by omega)]
  · rw [gA_sA, if_pos rfl, if_neg (by omega), gA_sA, if_pos rfl, if_neg (by omega)]
    exact b6 x hx y hy b hb
theorem addThing_op (b : Bool) : OpOk (m_X5_addThing (bi b)) (m_X6_addThing (bi b)) (c1 2) := by
  intro g hg
  obtain ⟨⟨n, K, Z⟩, r, mem, sv, sl, len, t⟩ := g
  obtain ⟨ga, gr, gm, gs⟩ := hg
  have ga' : AOk (n, K, Z) := ga
  have hn : n ≤ 7 := ga.1
  by_cases h7 : n < 7
  · obtain ⟨m1, m2⟩ := rm_ok ga gr gm
    refine ⟨.inl (nI n), ((n + 1, adK n K b, Z), rmR r, rmM r mem (n, K, Z), sv, sl, len, t), ⟨⟨show n + 1 ≤ 7 by omega, fun x k y q => ?_, fun j hj => ?_, ga.2.2.2⟩, m1, m2, gs⟩, fun S hS => ?_, fun T hT => ?_⟩
    · have := ga.2.1 x k y q
      exact ⟨Nat.lt_succ_of_lt this.1, this.2.1, Nat.lt_succ_of_lt this.2.2.1, this.2.2.2⟩
    · show adK n K b j < 3
      unfold adK
      by_cases hjn : j = n
      · rw [if_pos hjn]; cases b <;> decide
      · rw [if_neg hjn]
        have hj' : j < n + 1 := hj
        exact ga.2.2.1 j (show j < n by omega)
    · obtain ⟨S1, k1, k2, k3⟩ := remember_ok hS gr
      obtain ⟨S2, l1, l2, l3⟩ := addOne_ok (show RepS S1 29 n K Z from k3.1) h7 b b (fun q => q)
      have l4 : RepS S2 29 (n + 1) (adK n K b) Z := l2.cong (fun j _ => by
        unfold adK
        cases b <;> by_cases hjn : j = n <;> simp [hjn]) fun _ _ _ => rfl
      have h0 : gI S 29 0 = nI n := hS.1.2.2.1
      have hm : nI (n + 1) - nI 1 = nI n := nI_sub (by omega)
      refine ⟨S2, ?_, k2.tr (Co.ofB l3 (by omega)), k3.cur l3 l4⟩
      unfold m_X5_addThing
      simp (disch := omega) only [k_0, k_1, k_2, k_3, k_4, k_5, k_6, k_7, k_8, k_9, k_10, k_14, k_16, k_28, k_30, k_48, k_49, k_57, k_100, k_110, k_127, k_128, k_196, k_255, k_1000, k_1024, k_10000, nI_add, nI_mul, nI_div, irm_nI, nle, nlt, neq, gd_t, inb_nI, cl_nI, bnd_eq, gdT, gdo, gb0, gb1, gbi, bi0, bi1, bi0r, Option.bind_some, bndE_some, ite_t, ite_f, k_m9, k_m1, k_13, k_15, k_18, k_19, k_112, k_114, k_115, k_98, k_103, k_116, k_119, k_47, k_82, k_50, k_51, k_99, k_700, k_197, ne9, ne9s, nI_ne0s, ↓reduceIte, h0, k1, l1, l4.2.2.1, hm]
    · obtain ⟨T1, k1, k2, k3, k4⟩ := mremember_ok (hT.thr (nI 0)) gr
      have hz : RepM T1 14 0 n K Z := k4.1
      have hk : (if b = true then 1 else 0) < 3 := by cases b <;> decide
      have e := hz.addK (K' := adK n K b) (k := if b = true then 1 else 0) h7 hk (by unfold adK; rw [if_pos rfl]) (fun j hj => by unfold adK; rw [if_neg (by omega)])
      have h0 : gA T 14 0 = nI n := z0 hT.1
      have q : Mq T1 (sA (sA T1 14 (1 + n) (nI (if b = true then 1 else 0))) 14 0 (nI (n + 1))) := (Mq.ofA (OnA.sA _ _) (by omega)).tr (Mq.ofA (OnA.sA _ _) (by omega))
      have hm : nI (n + 1) - nI 1 = nI n := nI_sub (by omega)
      have g1 : gA (sA T1 14 (1 + n) (nI (if b = true then 1 else 0))) 14 0 = nI n := by rw [gA_sA, if_pos rfl, if_neg (by omega)]; exact z0 hz
      have g2 : gA (sA (sA T1 14 (1 + n) (nI (if b = true then 1 else 0))) 14 0 (nI (n + 1))) 14 0 = nI (n + 1) := by rw [gA_sA, if_pos rfl, if_pos rfl]
      refine ⟨_, _, ?_, ((Mo.sI _ _).tr k2).tr (Mo.ofQ q), k4.cur q e, (q.1 _ _ (by omega)).trans (k3.trans (thr_eq _ _)), rfl⟩
      have hn7 : (n = 7) = False := eq_false (by omega)
      unfold m_X6_addThing m_X6_addThing_J17 m_X6_addThing_J54
      cases b
      · simp only [Bool.false_eq_true, if_false] at g1 g2
        simp (disch := omega) only [k_0, k_1, k_2, k_3, k_4, k_5, k_6, k_7, k_8, k_9, k_10, k_14, k_16, k_28, k_30, k_48, k_49, k_57, k_100, k_110, k_127, k_128, k_196, k_255, k_1000, k_1024, k_10000, nI_add, nI_mul, nI_div, irm_nI, nle, nlt, neq, gd_t, inb_nI, cl_nI, bnd_eq, gdT, gdo, gb0, gb1, gbi, bi0, bi1, bi0r, Option.bind_some, bndE_some, ite_t, ite_f, k_m9, k_m1, k_13, k_15, k_18, k_19, k_112, k_114, k_115, k_98, k_103, k_116, k_119, k_47, k_82, k_50, k_51, k_99, k_700, k_197, ne9, ne9s, nI_ne0s, ↓reduceIte, h0, hn7, thr_eq, le00, k1, z0 hz, g1, g2, hm, Bool.false_eq_true, if_false]
      · simp only [if_true] at g1 g2
        simp (disch := omega) only [k_0, k_1, k_2, k_3, k_4, k_5, k_6, k_7, k_8, k_9, k_10, k_14, k_16, k_28, k_30, k_48, k_49, k_57, k_100, k_110, k_127, k_128, k_196, k_255, k_1000, k_1024, k_10000, nI_add, nI_mul, nI_div, irm_nI, nle, nlt, neq, gd_t, inb_nI, cl_nI, bnd_eq, gdT, gdo, gb0, gb1, gbi, bi0, bi1, bi0r, Option.bind_some, bndE_some, ite_t, ite_f, k_m9, k_m1, k_13, k_15, k_18, k_19, k_112, k_114, k_115, k_98, k_103, k_116, k_119, k_47, k_82, k_50, k_51, k_99, k_700, k_197, ne9, ne9s, nI_ne0s, ↓reduceIte, h0, hn7, thr_eq, le00, k1, z0 hz, Bool.true_eq_false, g1, g2, hm, if_true]
  · obtain rfl : n = 7 := by omega
    refine ⟨.inr 2, _, ⟨ga, gr, gm, gs⟩, fun S hS => ⟨S, ?_, Co.rf S, hS⟩, fun T hT => ?_⟩
    · have h0 : gI S 29 0 = nI 7 := hS.1.2.2.1
      unfold m_X5_addThing
      simp (disch := omega) only [k_0, k_1, k_2, k_3, k_4, k_5, k_6, k_7, k_8, k_9, k_10, k_14, k_16, k_28, k_30, k_48, k_49, k_57, k_100, k_110, k_127, k_128, k_196, k_255, k_1000, k_1024, k_10000, nI_add, nI_mul, nI_div, irm_nI, nle, nlt, neq, gd_t, inb_nI, cl_nI, bnd_eq, gdT, gdo, gb0, gb1, gbi, bi0, bi1, bi0r, Option.bind_some, bndE_some, ite_t, ite_f, k_m9, k_m1, k_13, k_15, k_18, k_19, k_112, k_114, k_115, k_98, k_103, k_116, k_119, k_47, k_82, k_50, k_51, k_99, k_700, k_197, ne9, ne9s, nI_ne0s, ↓reduceIte, h0]
    · obtain ⟨q1, q2⟩ := q_thr hT (nI 1)
      refine ⟨nI 0, _, ?_, q1, q2, thr_s _ _⟩
      have h0 : gA T 14 0 = nI 7 := z0 hT.1
      unfold m_X6_addThing m_X6_addThing_J17
      simp (disch := omega) only [k_0, k_1, k_2, k_3, k_4, k_5, k_6, k_7, k_8, k_9, k_10, k_14, k_16, k_28, k_30, k_48, k_49, k_57, k_100, k_110, k_127, k_128, k_196, k_255, k_1000, k_1024, k_10000, nI_add, nI_mul, nI_div, irm_nI, nle, nlt, neq, gd_t, inb_nI, cl_nI, bnd_eq, gdT, gdo, gb0, gb1, gbi, bi0, bi1, bi0r, Option.bind_some, bndE_some, ite_t, ite_f, k_m9, k_m1, k_13, k_15, k_18, k_19, k_112, k_114, k_115, k_98, k_103, k_116, k_119, k_47, k_82, k_50, k_51, k_99, k_700, k_197, ne9, ne9s, nI_ne0s, ↓reduceIte, h0, thr_eq, not10]
/-- a thing's kind replaced -/
theorem RepM.setK {S : Hs} {n : Nat} {K : Kd} {Z : Rt} (h : RepM S 14 0 n K Z) {x : Nat} (hx : x < n) (b : Bool) : RepM (sA S 14 (1 + x) (nI (if b then 1 else 2))) 14 0 n (wkK K x b) Z := by
  obtain ⟨b1, bw, b3, b4, b5, b6⟩ := h
  refine ⟨b1, bw, fun j hj => ?_, ?_, fun j hj => ?_, fun x' hx' y hy c hc => ?_⟩
  · unfold wkK
    by_cases hjx : j = x
    · rw [if_pos hjx]; cases b <;> decide
    · rw [if_neg hjx]; exact b3 j hj
  · rw [gA_sA, if_pos rfl, if_neg (by omega)]
    exact b4
  · rw [gA_sA, if_pos rfl]
    unfold wkK
    by_cases hjx : j = x
    · rw [if_pos (show 0 + (1 + j) = 1 + x by omega), if_pos (show j < n by omega), if_pos hjx]
    · rw [if_neg (by omega), b5 j hj, if_neg hjx]
  · rw [gA_sA, if_pos rfl, if_neg (by omega)]
    exact b6 x' hx' y hy c hc
theorem wake_op (v : Int32) (b : Bool) : OpOk (m_X5_wake v (bi b)) (m_X6_wake v (bi b)) c32 := by
  intro g hg
  obtain ⟨⟨n, K, Z⟩, r, mem, sv, sl, len, t⟩ := g
  obtain ⟨ga, gr, gm, gs⟩ := hg
  have hn : n ≤ 7 := ga.1
  by_cases hv : isT n v = true
  · obtain ⟨x, hx, rfl⟩ := isT_iff.mp hv
    by_cases hp : K x = 0
    · refine ⟨.inr 2, _, ⟨ga, gr, gm, gs⟩, fun S hS => ⟨S, ?_, Co.rf S, hS⟩, fun T hT => ?_⟩
      · unfold m_X5_wake
        rw [checkThing_ok (show RepS S 29 n K Z from hS.1), if_pos hv, bndP_l, isPerson_bi (show RepS S 29 n K Z from hS.1) (show x < 32 by omega), decide_eq_false (by simp [hp])]
        rfl
      · obtain ⟨q1, q2⟩ := q_thr hT (nI 2)
        refine ⟨nI 0, _, ?_, q1, q2, thr_s _ _⟩
        have hz : RepM T 14 0 n K Z := hT.1
        unfold m_X6_wake m_X6_whyNotWake m_X6_whyNotWake_J25
        simp (disch := omega) only [k_0, k_1, k_2, k_3, k_4, k_5, k_6, k_7, k_8, k_9, k_10, k_14, k_16, k_28, k_30, k_48, k_49, k_57, k_100, k_110, k_127, k_128, k_196, k_255, k_1000, k_1024, k_10000, nI_add, nI_mul, nI_div, irm_nI, nle, nlt, neq, gd_t, inb_nI, cl_nI, bnd_eq, gdT, gdo, gb0, gb1, gbi, bi0, bi1, bi0r, Option.bind_some, bndE_some, ite_t, ite_f, k_m9, k_m1, k_13, k_15, k_18, k_19, k_112, k_114, k_115, k_98, k_103, k_116, k_119, k_47, k_82, k_50, k_51, k_99, k_700, k_197, ne9, ne9s, nI_ne0s, ↓reduceIte, isThing_ok hz, hv, Bool.true_eq_false, misPerson_ok hz hx, decide_eq_false (show ¬ K x ≠ 0 by simp [hp]), thr_eq, not20]
    · obtain ⟨m1, m2⟩ := rm_ok ga gr gm
      refine ⟨.inl (nI (cnt (Clo (aw n (wkK K x b)) Z))), ((n, wkK K x b, Z), rmR r, rmM r mem (n, K, Z), sv, sl, len, t), ⟨⟨hn, ga.2.1, fun j hj => ?_, ga.2.2.2⟩, m1, m2, gs⟩, fun S hS => ?_, fun T hT => ?_⟩
      · show wkK K x b j < 3
        unfold wkK
        by_cases hjx : j = x
        · rw [if_pos hjx]; cases b <;> decide
        · rw [if_neg hjx]; exact ga.2.2.1 j hj
      · obtain ⟨S1, k1, k2, k3⟩ := remember_ok hS gr
        obtain ⟨S2, l1, l2, l3⟩ := setAwake_ok (show RepS S1 29 n K Z from k3.1) hx hp b
        obtain ⟨S3, p1, p2, p3⟩ := endOf29 l2
        refine ⟨S3, ?_, (k2.tr (Co.ofB l3 (by omega))).tr (Co.ofK p3), (k3.cur l3 (c' := (n, wkK K x b, Z)) l2).kp p3⟩
        unfold m_X5_wake
        rw [checkThing_ok (show RepS S 29 n K Z from hS.1), if_pos hv, bndP_l, isPerson_bi (show RepS S 29 n K Z from hS.1) (show x < 32 by omega), decide_eq_true ⟨hx, hp⟩]
        simp (disch := omega) only [k_0, k_1, k_2, k_3, k_4, k_5, k_6, k_7, k_8, k_9, k_10, k_14, k_16, k_28, k_30, k_48, k_49, k_57, k_100, k_110, k_127, k_128, k_196, k_255, k_1000, k_1024, k_10000, nI_add, nI_mul, nI_div, irm_nI, nle, nlt, neq, gd_t, inb_nI, cl_nI, bnd_eq, gdT, gdo, gb0, gb1, gbi, bi0, bi1, bi0r, Option.bind_some, bndE_some, ite_t, ite_f, k_m9, k_m1, k_13, k_15, k_18, k_19, k_112, k_114, k_115, k_98, k_103, k_116, k_119, k_47, k_82, k_50, k_51, k_99, k_700, k_197, ne9, ne9s, nI_ne0s, ↓reduceIte, Bool.true_eq_false, k1, l1, p1, bndEN_some, isSt65, countRights_ok p2]
      · obtain ⟨T1, k1, k2, k3, k4⟩ := mremember_ok (hT.thr (nI 0)) gr
        have hz0 : RepM T 14 0 n K Z := hT.1
        have hz : RepM T1 14 0 n K Z := k4.1
        have e := hz.setK hx b
        obtain ⟨w, w1, w2⟩ := awakeSet_ok e
        obtain ⟨U, u1, u2, u3⟩ := spread_ok e w2
        have q : Mq T1 U := (Mq.ofA (OnA.sA _ _) (by omega)).tr (Mq.ofScr u2)
        refine ⟨_, U, ?_, ((Mo.sI _ _).tr k2).tr (Mo.ofQ q), k4.cur q (u2.rep e (by omega) (by omega) (by omega) (by omega)), (q.1 _ _ (by omega)).trans (k3.trans (thr_eq _ _)), rfl⟩
        unfold m_X6_wake m_X6_whyNotWake m_X6_whyNotWake_J25 m_X6_wake_J38
        cases b
        · simp only [Bool.false_eq_true, if_false] at w1 u1
          simp (disch := omega) only [k_0, k_1, k_2, k_3, k_4, k_5, k_6, k_7, k_8, k_9, k_10, k_14, k_16, k_28, k_30, k_48, k_49, k_57, k_100, k_110, k_127, k_128, k_196, k_255, k_1000, k_1024, k_10000, nI_add, nI_mul, nI_div, irm_nI, nle, nlt, neq, gd_t, inb_nI, cl_nI, bnd_eq, gdT, gdo, gb0, gb1, gbi, bi0, bi1, bi0r, Option.bind_some, bndE_some, ite_t, ite_f, k_m9, k_m1, k_13, k_15, k_18, k_19, k_112, k_114, k_115, k_98, k_103, k_116, k_119, k_47, k_82, k_50, k_51, k_99, k_700, k_197, ne9, ne9s, nI_ne0s, ↓reduceIte, isThing_ok hz0, hv, Bool.true_eq_false, misPerson_ok hz0 hx, decide_eq_true hp, thr_eq, le00, k1, w1, u1, endMany_ok u3.2.1]
        · simp only [if_true] at w1 u1
          simp (disch := omega) only [k_0, k_1, k_2, k_3, k_4, k_5, k_6, k_7, k_8, k_9, k_10, k_14, k_16, k_28, k_30, k_48, k_49, k_57, k_100, k_110, k_127, k_128, k_196, k_255, k_1000, k_1024, k_10000, nI_add, nI_mul, nI_div, irm_nI, nle, nlt, neq, gd_t, inb_nI, cl_nI, bnd_eq, gdT, gdo, gb0, gb1, gbi, bi0, bi1, bi0r, Option.bind_some, bndE_some, ite_t, ite_f, k_m9, k_m1, k_13, k_15, k_18, k_19, k_112, k_114, k_115, k_98, k_103, k_116, k_119, k_47, k_82, k_50, k_51, k_99, k_700, k_197, ne9, ne9s, nI_ne0s, ↓reduceIte, isThing_ok hz0, hv, Bool.true_eq_false, misPerson_ok hz0 hx, decide_eq_true hp, thr_eq, le00, k1, w1, u1, endMany_ok u3.2.1]
  · have hv2 := Bool.eq_false_iff.mpr hv
    refine ⟨.inr 3, _, ⟨ga, gr, gm, gs⟩, fun S hS => ⟨S, ?_, Co.rf S, hS⟩, fun T hT => ?_⟩
    · unfold m_X5_wake
      rw [checkThing_ok (show RepS S 29 n K Z from hS.1), if_neg hv, bndP_r]
    · obtain ⟨q1, q2⟩ := q_thr hT (nI 1)
      refine ⟨nI 0, _, ?_, q1, q2, thr_s _ _⟩
      unfold m_X6_wake m_X6_whyNotWake m_X6_whyNotWake_J25
      simp (disch := omega) only [k_0, k_1, k_2, k_3, k_4, k_5, k_6, k_7, k_8, k_9, k_10, k_14, k_16, k_28, k_30, k_48, k_49, k_57, k_100, k_110, k_127, k_128, k_196, k_255, k_1000, k_1024, k_10000, nI_add, nI_mul, nI_div, irm_nI, nle, nlt, neq, gd_t, inb_nI, cl_nI, bnd_eq, gdT, gdo, gb0, gb1, gbi, bi0, bi1, bi0r, Option.bind_some, bndE_some, ite_t, ite_f, k_m9, k_m1, k_13, k_15, k_18, k_19, k_112, k_114, k_115, k_98, k_103, k_116, k_119, k_47, k_82, k_50, k_51, k_99, k_700, k_197, ne9, ne9s, nI_ne0s, ↓reduceIte, isThing_ok (show RepM T 14 0 n K Z from hT.1), hv2, thr_eq, not10]
def c123 (e : Nat) : Option Int32 := if e = 3 then some (nI 1) else if e = 1 then some (nI 2) else if e = 2 then some (nI 3) else none
theorem wrx_c3 {n : Nat} {x k y : Int32} (h : wr n x k y ≠ 0) : c123 (wrx n x k y) = some (nI (wr n x k y)) := by
  unfold wrx c123
  rcases wr_2 h with e | e <;> rw [e] <;> rfl
theorem wsx_c3 {n : Nat} {p y k z : Int32} (h : ws n p y k z ≠ 0) : c123 (wsx n p y k z) = some (nI (ws n p y k z)) := by
  unfold wsx c123
  rcases ws_2 h with e | e <;> rw [e] <;> rfl
theorem whyNotSet_ok {T : Hs} {n : Nat} {K : Kd} {Z : Rt} (h : RepM T 14 0 n K Z) (h30 : cnt Z ≤ 30) {x k y : Int32} (b : Bool) : (wr n x k y ≠ 0 → m_X6_whyNotSet x k y (bi b) T = some (nI (wr n x k y))) ∧ ∀ a c d, a < n → c < 4 → d < n → wr n x k y = 0 → x = nI a → k = nI c → y = nI d → m_X6_whyNotSet x k y (bi b) T = some (if b = true ∧ Z a c d = false ∧ cnt Z = 30 then nI 3 else nI 0) := by
  have hn := h.1
  unfold m_X6_whyNotSet m_X6_whyNotSet_J47 m_X6_whyNotSet_J48
  refine ⟨fun h0 => ?_, fun a c d ha hc hd h0 e1 e2 e3 => ?_⟩
  · simp (disch := omega) only [k_0, k_1, k_2, k_3, k_4, k_5, k_6, k_7, k_8, k_9, k_10, k_14, k_16, k_28, k_30, k_48, k_49, k_57, k_100, k_110, k_127, k_128, k_196, k_255, k_1000, k_1024, k_10000, nI_add, nI_mul, nI_div, irm_nI, nle, nlt, neq, gd_t, inb_nI, cl_nI, bnd_eq, gdT, gdo, gb0, gb1, gbi, bi0, bi1, bi0r, Option.bind_some, bndE_some, ite_t, ite_f, k_m9, k_m1, k_13, k_15, k_18, k_19, k_112, k_114, k_115, k_98, k_103, k_116, k_119, k_47, k_82, k_50, k_51, k_99, k_700, k_197, ne9, ne9s, nI_ne0s, ↓reduceIte, whyNotRight_ok h, npos h0 wr_lt]
  · subst e1 e2 e3
    simp (disch := omega) only [k_0, k_1, k_2, k_3, k_4, k_5, k_6, k_7, k_8, k_9, k_10, k_14, k_16, k_28, k_30, k_48, k_49, k_57, k_100, k_110, k_127, k_128, k_196, k_255, k_1000, k_1024, k_10000, nI_add, nI_mul, nI_div, irm_nI, nle, nlt, neq, gd_t, inb_nI, cl_nI, bnd_eq, gdT, gdo, gb0, gb1, gbi, bi0, bi1, bi0r, Option.bind_some, bndE_some, ite_t, ite_f, k_m9, k_m1, k_13, k_15, k_18, k_19, k_112, k_114, k_115, k_98, k_103, k_116, k_119, k_47, k_82, k_50, k_51, k_99, k_700, k_197, ne9, ne9s, nI_ne0s, ↓reduceIte, whyNotRight_ok h, h0, le00, mhas_ok h (show a < 7 by omega) hc (show d < 7 by omega), rightsMany_ok h]
    cases b <;> cases hz : Z a c d <;> by_cases h3 : cnt Z = 30 <;> simp [h3]
theorem set_op (x k y : Int32) (b : Bool) : OpOk (m_X5_set x k y (bi b)) (m_X6_set x k y (bi b)) c123 := by
  intro g hg
  obtain ⟨⟨n, K, Z⟩, r, mem, sv, sl, len, t⟩ := g
  obtain ⟨ga, gr, gm, gs⟩ := hg
  have hn : n ≤ 7 := ga.1
  have h30 : cnt Z ≤ 30 := ga.2.2.2
  by_cases h0 : wr n x k y = 0
  · obtain ⟨a, c, d, ha, hc, hd, hne, e1, e2, e3⟩ := wr_0 hn h0
    by_cases hfull : b = true ∧ Z a c d = false ∧ cnt Z = 30
    · refine ⟨.inr 2, _, ⟨ga, gr, gm, gs⟩, fun S hS => ⟨S, ?_, Co.rf S, hS⟩, fun T hT => ?_⟩
      · have h : RepS S 29 n K Z := hS.1
        unfold m_X5_set
        rw [checkRight_ok h, if_pos h0, bndP_l, e1, e2, e3, hfull.1]
        simp (disch := omega) only [k_0, k_1, k_2, k_3, k_4, k_5, k_6, k_7, k_8, k_9, k_10, k_14, k_16, k_28, k_30, k_48, k_49, k_57, k_100, k_110, k_127, k_128, k_196, k_255, k_1000, k_1024, k_10000, nI_add, nI_mul, nI_div, irm_nI, nle, nlt, neq, gd_t, inb_nI, cl_nI, bnd_eq, gdT, gdo, gb0, gb1, gbi, bi0, bi1, bi0r, Option.bind_some, bndE_some, ite_t, ite_f, k_m9, k_m1, k_13, k_15, k_18, k_19, k_112, k_114, k_115, k_98, k_103, k_116, k_119, k_47, k_82, k_50, k_51, k_99, k_700, k_197, ne9, ne9s, nI_ne0s, ↓reduceIte, ix_nI, bi_t, hasRoomFor_bi h (show a < 7 by omega) hc (show d < 7 by omega), hfull.2.1, hfull.2.2]
        simp
      · obtain ⟨q1, q2⟩ := q_thr hT (nI 3)
        have hz : RepM T 14 0 n K Z := hT.1
        have hw := (whyNotSet_ok hz h30 (x := x) (k := k) (y := y) b).2 a c d ha hc hd h0 e1 e2 e3
        rw [if_pos hfull] at hw
        refine ⟨nI 0, _, ?_, q1, q2, thr_s _ _⟩
        unfold m_X6_set
        simp (disch := omega) only [k_0, k_1, k_2, k_3, k_4, k_5, k_6, k_7, k_8, k_9, k_10, k_14, k_16, k_28, k_30, k_48, k_49, k_57, k_100, k_110, k_127, k_128, k_196, k_255, k_1000, k_1024, k_10000, nI_add, nI_mul, nI_div, irm_nI, nle, nlt, neq, gd_t, inb_nI, cl_nI, bnd_eq, gdT, gdo, gb0, gb1, gbi, bi0, bi1, bi0r, Option.bind_some, bndE_some, ite_t, ite_f, k_m9, k_m1, k_13, k_15, k_18, k_19, k_112, k_114, k_115, k_98, k_103, k_116, k_119, k_47, k_82, k_50, k_51, k_99, k_700, k_197, ne9, ne9s, nI_ne0s, ↓reduceIte, hw, thr_eq, not30]
    · obtain ⟨m1, m2⟩ := rm_ok ga gr gm
      have hroom : b = true → Z a c d = true ∨ cnt Z < 30 := fun hb => by
        cases hz : Z a c d
        · right
          have : cnt Z ≠ 30 := fun e => hfull ⟨hb, hz, e⟩
          omega
        · exact Or.inl rfl
      refine ⟨.inl (bi (Z a c d)), ((n, K, upR Z a c d b), rmR r, rmM r mem (n, K, Z), sv, sl, len, t), ⟨AOk.put ga ha hc hd hne hroom, m1, m2, gs⟩, fun S hS => ?_, fun T hT => ?_⟩
      · have h : RepS S 29 n K Z := hS.1
        obtain ⟨S1, k1, k2, k3⟩ := remember_ok hS gr
        obtain ⟨S2, l1, l2, l3⟩ := put_ok (show RepS S1 29 n K Z from k3.1) ha hc hd hne (bi b)
        have hdec : decide (bi b ≠ 0) = b := by cases b <;> decide
        rw [hdec] at l2
        refine ⟨S2, ?_, k2.tr (Co.ofB l3 (by omega)), k3.cur l3 l2⟩
        have hhas := has_bi h (show a < 7 by omega) hc (show d < 7 by omega)
        unfold m_X5_set m_X5_set_J42
        rw [checkRight_ok h, if_pos h0, bndP_l, e1, e2, e3]
        cases b
        · simp (disch := omega) only [k_0, k_1, k_2, k_3, k_4, k_5, k_6, k_7, k_8, k_9, k_10, k_14, k_16, k_28, k_30, k_48, k_49, k_57, k_100, k_110, k_127, k_128, k_196, k_255, k_1000, k_1024, k_10000, nI_add, nI_mul, nI_div, irm_nI, nle, nlt, neq, gd_t, inb_nI, cl_nI, bnd_eq, gdT, gdo, gb0, gb1, gbi, bi0, bi1, bi0r, Option.bind_some, bndE_some, ite_t, ite_f, k_m9, k_m1, k_13, k_15, k_18, k_19, k_112, k_114, k_115, k_98, k_103, k_116, k_119, k_47, k_82, k_50, k_51, k_99, k_700, k_197, ne9, ne9s, nI_ne0s, ↓reduceIte, ix_nI, bi_f, hhas, k1, l1]
          rw [bi_f] at l1
          rw [l1]
          rfl
        · rw [bi_t] at l1
          have hr : (Z a c d || decide (cnt Z < 30)) = true := by
            rcases hroom rfl with e | e
            · rw [e]; rfl
            · rw [decide_eq_true e, Bool.or_true]
          simp (disch := omega) only [k_0, k_1, k_2, k_3, k_4, k_5, k_6, k_7, k_8, k_9, k_10, k_14, k_16, k_28, k_30, k_48, k_49, k_57, k_100, k_110, k_127, k_128, k_196, k_255, k_1000, k_1024, k_10000, nI_add, nI_mul, nI_div, irm_nI, nle, nlt, neq, gd_t, inb_nI, cl_nI, bnd_eq, gdT, gdo, gb0, gb1, gbi, bi0, bi1, bi0r, Option.bind_some, bndE_some, ite_t, ite_f, k_m9, k_m1, k_13, k_15, k_18, k_19, k_112, k_114, k_115, k_98, k_103, k_116, k_119, k_47, k_82, k_50, k_51, k_99, k_700, k_197, ne9, ne9s, nI_ne0s, ↓reduceIte, ix_nI, bi_t, hasRoomFor_bi h (show a < 7 by omega) hc (show d < 7 by omega), hr, Bool.true_eq_false, hhas, k1, l1]
      · have hz0 : RepM T 14 0 n K Z := hT.1
        have hw := (whyNotSet_ok hz0 h30 (x := x) (k := k) (y := y) b).2 a c d ha hc hd h0 e1 e2 e3
        rw [if_neg hfull] at hw
        obtain ⟨T1, k1, k2, k3, k4⟩ := mremember_ok (hT.thr (nI 0)) gr
        have hz : RepM T1 14 0 n K Z := k4.1
        obtain ⟨v, l1, l2⟩ := mput_ok hz ha hc hd hne b
        have q : Mq T1 (sA T1 14 (8 + (7 * a + d)) v) := Mq.ofA (OnA.sA _ _) (by omega)
        refine ⟨_, _, ?_, ((Mo.sI _ _).tr k2).tr (Mo.ofQ q), k4.cur q l2, (q.1 _ _ (by omega)).trans (k3.trans (thr_eq _ _)), rfl⟩
        unfold m_X6_set
        rw [hw]
        subst e1 e2 e3
        simp (disch := omega) only [k_0, k_1, k_2, k_3, k_4, k_5, k_6, k_7, k_8, k_9, k_10, k_14, k_16, k_28, k_30, k_48, k_49, k_57, k_100, k_110, k_127, k_128, k_196, k_255, k_1000, k_1024, k_10000, nI_add, nI_mul, nI_div, irm_nI, nle, nlt, neq, gd_t, inb_nI, cl_nI, bnd_eq, gdT, gdo, gb0, gb1, gbi, bi0, bi1, bi0r, Option.bind_some, bndE_some, ite_t, ite_f, k_m9, k_m1, k_13, k_15, k_18, k_19, k_112, k_114, k_115, k_98, k_103, k_116, k_119, k_47, k_82, k_50, k_51, k_99, k_700, k_197, ne9, ne9s, nI_ne0s, ↓reduceIte, thr_eq, le00, k1, mhas_ok hz (show a < 7 by omega) hc (show d < 7 by omega), l1]
  · refine ⟨.inr (wrx n x k y), _, ⟨ga, gr, gm, gs⟩, fun S hS => ⟨S, ?_, Co.rf S, hS⟩, fun T hT => ?_⟩
    · unfold m_X5_set
      rw [checkRight_ok (show RepS S 29 n K Z from hS.1), if_neg h0, bndP_r]
    · obtain ⟨q1, q2⟩ := q_thr hT (nI (wr n x k y))
      refine ⟨nI 0, _, ?_, q1, q2, by rw [thr_eq]; exact (wrx_c3 h0).symm⟩
      unfold m_X6_set
      simp (disch := omega) only [k_0, k_1, k_2, k_3, k_4, k_5, k_6, k_7, k_8, k_9, k_10, k_14, k_16, k_28, k_30, k_48, k_49, k_57, k_100, k_110, k_127, k_128, k_196, k_255, k_1000, k_1024, k_10000, nI_add, nI_mul, nI_div, irm_nI, nle, nlt, neq, gd_t, inb_nI, cl_nI, bnd_eq, gdT, gdo, gb0, gb1, gbi, bi0, bi1, bi0r, Option.bind_some, bndE_some, ite_t, ite_f, k_m9, k_m1, k_13, k_15, k_18, k_19, k_112, k_114, k_115, k_98, k_103, k_116, k_119, k_47, k_82, k_50, k_51, k_99, k_700, k_197, ne9, ne9s, nI_ne0s, ↓reduceIte, (whyNotSet_ok (show RepM T 14 0 n K Z from hT.1) h30 (x := x) (k := k) (y := y) b).1 h0, thr_eq, npos h0 wr_lt]
/-- a step's doing: both sides -/
theorem whyNotDo_ok {T : Hs} {n : Nat} {K : Kd} {Z : Rt} (h : RepM T 14 0 n K Z) (h30 : cnt Z ≤ 30) {p y k z : Int32} (g : Bool) : (ws n p y k z ≠ 0 → m_X6_whyNotDo (bi g) p y k z T = some (nI (ws n p y k z))) ∧ ∀ a b c d, a < n → b < n → c < 4 → d < n → ws n p y k z = 0 → p = nI a → y = nI b → k = nI c → z = nI d → m_X6_whyNotDo (bi g) p y k z T = some (if bars K Z g a b c d = 0 ∧ (Z (if g then b else a) c d = true ∨ cnt Z < 30) then nI 0 else nI 3) := by
  have hn := h.1
  unfold m_X6_whyNotDo m_X6_whyNotDo_J30 m_X6_whyNotDo_J67 m_X6_whyNotDo_J71 m_X6_whyNotDo_J72
  refine ⟨fun h0 => ?_, fun a b c d ha hb hc hd h0 e1 e2 e3 e4 => ?_⟩
  · simp (disch := omega) only [k_0, k_1, k_2, k_3, k_4, k_5, k_6, k_7, k_8, k_9, k_10, k_14, k_16, k_28, k_30, k_48, k_49, k_57, k_100, k_110, k_127, k_128, k_196, k_255, k_1000, k_1024, k_10000, nI_add, nI_mul, nI_div, irm_nI, nle, nlt, neq, gd_t, inb_nI, cl_nI, bnd_eq, gdT, gdo, gb0, gb1, gbi, bi0, bi1, bi0r, Option.bind_some, bndE_some, ite_t, ite_f, k_m9, k_m1, k_13, k_15, k_18, k_19, k_112, k_114, k_115, k_98, k_103, k_116, k_119, k_47, k_82, k_50, k_51, k_99, k_700, k_197, ne9, ne9s, nI_ne0s, ↓reduceIte, whyNotStep_ok h, npos h0 ws_lt]
  · subst e1 e2 e3 e4
    have hbl : bars K Z g a b c d < 5 := by
      unfold bars
      repeat' split
      all_goals omega
    have hh := hinders_ok h ha hb hc hd g
    cases g
    · rw [bi_f] at hh
      simp (disch := omega) only [k_0, k_1, k_2, k_3, k_4, k_5, k_6, k_7, k_8, k_9, k_10, k_14, k_16, k_28, k_30, k_48, k_49, k_57, k_100, k_110, k_127, k_128, k_196, k_255, k_1000, k_1024, k_10000, nI_add, nI_mul, nI_div, irm_nI, nle, nlt, neq, gd_t, inb_nI, cl_nI, bnd_eq, gdT, gdo, gb0, gb1, gbi, bi0, bi1, bi0r, Option.bind_some, bndE_some, ite_t, ite_f, k_m9, k_m1, k_13, k_15, k_18, k_19, k_112, k_114, k_115, k_98, k_103, k_116, k_119, k_47, k_82, k_50, k_51, k_99, k_700, k_197, ne9, ne9s, nI_ne0s, ↓reduceIte, whyNotStep_ok h, h0, le00, bi_f, mhas_ok h (show a < 7 by omega) hc (show d < 7 by omega), hh, rightsMany_ok h, Bool.false_eq_true, if_false]
      by_cases hb0 : bars K Z false a b c d = 0
      · cases hz : Z a c d
        · by_cases h3 : cnt Z = 30
          · simp [hb0, h3]
          · simp [hb0, h3, show cnt Z < 30 by omega]
        · simp [hb0]
      · simp [hb0, Nat.pos_of_ne_zero hb0]
    · rw [bi_t] at hh
      simp (disch := omega) only [k_0, k_1, k_2, k_3, k_4, k_5, k_6, k_7, k_8, k_9, k_10, k_14, k_16, k_28, k_30, k_48, k_49, k_57, k_100, k_110, k_127, k_128, k_196, k_255, k_1000, k_1024, k_10000, nI_add, nI_mul, nI_div, irm_nI, nle, nlt, neq, gd_t, inb_nI, cl_nI, bnd_eq, gdT, gdo, gb0, gb1, gbi, bi0, bi1, bi0r, Option.bind_some, bndE_some, ite_t, ite_f, k_m9, k_m1, k_13, k_15, k_18, k_19, k_112, k_114, k_115, k_98, k_103, k_116, k_119, k_47, k_82, k_50, k_51, k_99, k_700, k_197, ne9, ne9s, nI_ne0s, ↓reduceIte, whyNotStep_ok h, h0, le00, bi_t, mhas_ok h (show b < 7 by omega) hc (show d < 7 by omega), hh, rightsMany_ok h, if_true]
      by_cases hb0 : bars K Z true a b c d = 0
      · cases hz : Z b c d
        · by_cases h3 : cnt Z = 30
          · simp [hb0, h3]
          · simp [hb0, h3, show cnt Z < 30 by omega]
        · simp [hb0]
      · simp [hb0, Nat.pos_of_ne_zero hb0]
theorem bars_dist {K : Kd} {Z : Rt} {n : Nat} (hw : WF n Z) {g : Bool} {a b c d : Nat} (h : bars K Z g a b c d = 0) : a ≠ b ∧ (if g then a else b) ≠ d ∧ K a = 1 := by
  unfold bars at h
  by_cases h1 : K a = 0
  · rw [if_pos h1] at h; omega
  · rw [if_neg h1] at h
    by_cases h2 : K a ≠ 1
    · rw [if_pos h2] at h; omega
    · rw [if_neg h2] at h
      by_cases h3 : Z a (if g then 1 else 0) b = true
      · rw [if_pos h3] at h
        by_cases h4 : Z (if g then a else b) c d = true
        · exact ⟨(hw _ _ _ h3).2.2.2, (hw _ _ _ h4).2.2.2, by omega⟩
        · rw [if_neg h4] at h; omega
      · rw [if_neg h3] at h; omega
theorem step_op (g : Bool) (M : Hs → Option (Int32 × Hs)) (p y k z : Int32) (hM : ∀ T, M T = (m_X6_whyNotDo (bi g) p y k z T).bind fun r8 => (bnd (sI T 13 0 r8) fun S11 => (if (gI S11 13 0) ≤ 0 then ((m_X6_remember  S11).bind fun S24 => ((m_X6_put (if g then y else p) k z 1 S24).bind fun S33 => ((m_X6_rightsMany  S33).bind fun r37 => (some ((r37, S33)))))) else (some ((0, S11)))))) : OpOk (m_X5_doStep (bi g) p y k z) M c123 := by
  intro g0 hg
  obtain ⟨⟨n, K, Z⟩, r, mem, sv, sl, len, t⟩ := g0
  obtain ⟨ga, gr, gm, gs⟩ := hg
  have hn : n ≤ 7 := ga.1
  have h30 : cnt Z ≤ 30 := ga.2.2.2
  by_cases h0 : ws n p y k z = 0
  · obtain ⟨a, b, c, d, ha, hb, hc, hd, n1, n2, n3, e1, e2, e3, e4⟩ := ws_0 hn h0
    by_cases hok : bars K Z g a b c d = 0 ∧ (Z (if g then b else a) c d = true ∨ cnt Z < 30)
    · obtain ⟨m1, m2⟩ := rm_ok ga gr gm
      have hto : (if g then b else a) < n := by cases g <;> assumption
      have hne : (if g then b else a) ≠ d := by cases g <;> assumption
      have hall : (decide (bars K Z g a b c d = 0) && (Z (if g then b else a) c d || decide (cnt Z < 30))) = true := by
        rw [decide_eq_true hok.1, Bool.true_and]
        rcases hok.2 with e | e
        · rw [e]; rfl
        · rw [decide_eq_true e, Bool.or_true]
      refine ⟨.inl (nI (cnt (upR Z (if g then b else a) c d true))), ((n, K, upR Z (if g then b else a) c d true), rmR r, rmM r mem (n, K, Z), sv, sl, len, t), ⟨AOk.put ga hto hc hd hne fun _ => hok.2, m1, m2, gs⟩, fun S hS => ?_, fun T hT => ?_⟩
      · have h : RepS S 29 n K Z := hS.1
        obtain ⟨S1, k1, k2, k3⟩ := remember_ok hS gr
        obtain ⟨S2, l1, l2, l3⟩ := put_ok (show RepS S1 29 n K Z from k3.1) hto hc hd hne (nI 1)
        rw [show decide (nI 1 ≠ 0) = true from by decide] at l2
        refine ⟨S2, ?_, k2.tr (Co.ofB l3 (by omega)), k3.cur l3 (c' := (n, K, upR Z (if g then b else a) c d true)) l2⟩
        have hal := allowsStep_ok h ha hb hc hd g
        rw [hall] at hal
        unfold m_X5_doStep m_X5_doStep_J55
        rw [checkStep_ok h, if_pos h0, bndP_l, e1, e2, e3, e4, hal]
        cases g
        · simp only [Bool.false_eq_true, if_false] at l1 l2 ⊢
          simp (disch := omega) only [k_0, k_1, k_2, k_3, k_4, k_5, k_6, k_7, k_8, k_9, k_10, k_14, k_16, k_28, k_30, k_48, k_49, k_57, k_100, k_110, k_127, k_128, k_196, k_255, k_1000, k_1024, k_10000, nI_add, nI_mul, nI_div, irm_nI, nle, nlt, neq, gd_t, inb_nI, cl_nI, bnd_eq, gdT, gdo, gb0, gb1, gbi, bi0, bi1, bi0r, Option.bind_some, bndE_some, ite_t, ite_f, k_m9, k_m1, k_13, k_15, k_18, k_19, k_112, k_114, k_115, k_98, k_103, k_116, k_119, k_47, k_82, k_50, k_51, k_99, k_700, k_197, ne9, ne9s, nI_ne0s, ↓reduceIte, Bool.true_eq_false, k1, bi_f, ix_nI, l1, countRights_ok l2]
        · simp only [if_true] at l1 l2 ⊢
          simp (disch := omega) only [k_0, k_1, k_2, k_3, k_4, k_5, k_6, k_7, k_8, k_9, k_10, k_14, k_16, k_28, k_30, k_48, k_49, k_57, k_100, k_110, k_127, k_128, k_196, k_255, k_1000, k_1024, k_10000, nI_add, nI_mul, nI_div, irm_nI, nle, nlt, neq, gd_t, inb_nI, cl_nI, bnd_eq, gdT, gdo, gb0, gb1, gbi, bi0, bi1, bi0r, Option.bind_some, bndE_some, ite_t, ite_f, k_m9, k_m1, k_13, k_15, k_18, k_19, k_112, k_114, k_115, k_98, k_103, k_116, k_119, k_47, k_82, k_50, k_51, k_99, k_700, k_197, ne9, ne9s, nI_ne0s, ↓reduceIte, Bool.true_eq_false, k1, bi_t, ix_nI, l1, countRights_ok l2]
      · have hz0 : RepM T 14 0 n K Z := hT.1
        have hw := (whyNotDo_ok hz0 h30 (p := p) (y := y) (k := k) (z := z) g).2 a b c d ha hb hc hd h0 e1 e2 e3 e4
        rw [if_pos hok] at hw
        obtain ⟨T1, k1, k2, k3, k4⟩ := mremember_ok (hT.thr (nI 0)) gr
        have hz : RepM T1 14 0 n K Z := k4.1
        obtain ⟨v, l1, l2⟩ := mput_ok hz hto hc hd hne true
        rw [bi_t] at l1
        have q : Mq T1 (sA T1 14 (8 + (7 * (if g then b else a) + d)) v) := Mq.ofA (OnA.sA _ _) (by omega)
        refine ⟨_, _, ?_, ((Mo.sI _ _).tr k2).tr (Mo.ofQ q), k4.cur q (c' := (n, K, upR Z (if g then b else a) c d true)) l2, (q.1 _ _ (by omega)).trans (k3.trans (thr_eq _ _)), rfl⟩
        rw [hM, hw]
        subst e1 e2 e3 e4
        have e5 : (if g = true then nI b else nI a) = nI (if g = true then b else a) := by cases g <;> rfl
        rw [e5]
        simp (disch := omega) only [k_0, k_1, k_2, k_3, k_4, k_5, k_6, k_7, k_8, k_9, k_10, k_14, k_16, k_28, k_30, k_48, k_49, k_57, k_100, k_110, k_127, k_128, k_196, k_255, k_1000, k_1024, k_10000, nI_add, nI_mul, nI_div, irm_nI, nle, nlt, neq, gd_t, inb_nI, cl_nI, bnd_eq, gdT, gdo, gb0, gb1, gbi, bi0, bi1, bi0r, Option.bind_some, bndE_some, ite_t, ite_f, k_m9, k_m1, k_13, k_15, k_18, k_19, k_112, k_114, k_115, k_98, k_103, k_116, k_119, k_47, k_82, k_50, k_51, k_99, k_700, k_197, ne9, ne9s, nI_ne0s, ↓reduceIte, thr_eq, le00, k1, l1, rightsMany_ok l2]
    · refine ⟨.inr 2, _, ⟨ga, gr, gm, gs⟩, fun S hS => ⟨S, ?_, Co.rf S, hS⟩, fun T hT => ?_⟩
      · have h : RepS S 29 n K Z := hS.1
        have hall : (decide (bars K Z g a b c d = 0) && (Z (if g then b else a) c d || decide (cnt Z < 30))) = false := by
          cases hq : (decide (bars K Z g a b c d = 0) && (Z (if g then b else a) c d || decide (cnt Z < 30)))
          · rfl
          · rw [Bool.and_eq_true, Bool.or_eq_true, decide_eq_true_eq, decide_eq_true_eq] at hq
            exact absurd hq hok
        have hal := allowsStep_ok h ha hb hc hd g
        rw [hall] at hal
        unfold m_X5_doStep
        rw [checkStep_ok h, if_pos h0, bndP_l, e1, e2, e3, e4, hal]
        rfl
      · obtain ⟨q1, q2⟩ := q_thr hT (nI 3)
        have hw := (whyNotDo_ok (show RepM T 14 0 n K Z from hT.1) h30 (p := p) (y := y) (k := k) (z := z) g).2 a b c d ha hb hc hd h0 e1 e2 e3 e4
        rw [if_neg hok] at hw
        refine ⟨nI 0, _, ?_, q1, q2, thr_s _ _⟩
        rw [hM, hw]
        simp (disch := omega) only [k_0, k_1, k_2, k_3, k_4, k_5, k_6, k_7, k_8, k_9, k_10, k_14, k_16, k_28, k_30, k_48, k_49, k_57, k_100, k_110, k_127, k_128, k_196, k_255, k_1000, k_1024, k_10000, nI_add, nI_mul, nI_div, irm_nI, nle, nlt, neq, gd_t, inb_nI, cl_nI, bnd_eq, gdT, gdo, gb0, gb1, gbi, bi0, bi1, bi0r, Option.bind_some, bndE_some, ite_t, ite_f, k_m9, k_m1, k_13, k_15, k_18, k_19, k_112, k_114, k_115, k_98, k_103, k_116, k_119, k_47, k_82, k_50, k_51, k_99, k_700, k_197, ne9, ne9s, nI_ne0s, ↓reduceIte, thr_eq, not30]
  · refine ⟨.inr (wsx n p y k z), _, ⟨ga, gr, gm, gs⟩, fun S hS => ⟨S, ?_, Co.rf S, hS⟩, fun T hT => ?_⟩
    · unfold m_X5_doStep
      rw [checkStep_ok (show RepS S 29 n K Z from hS.1), if_neg h0, bndP_r]
    · obtain ⟨q1, q2⟩ := q_thr hT (nI (ws n p y k z))
      refine ⟨nI 0, _, ?_, q1, q2, by rw [thr_eq]; exact (wsx_c3 h0).symm⟩
      rw [hM, (whyNotDo_ok (show RepM T 14 0 n K Z from hT.1) h30 (p := p) (y := y) (k := k) (z := z) g).1 h0]
      simp (disch := omega) only [k_0, k_1, k_2, k_3, k_4, k_5, k_6, k_7, k_8, k_9, k_10, k_14, k_16, k_28, k_30, k_48, k_49, k_57, k_100, k_110, k_127, k_128, k_196, k_255, k_1000, k_1024, k_10000, nI_add, nI_mul, nI_div, irm_nI, nle, nlt, neq, gd_t, inb_nI, cl_nI, bnd_eq, gdT, gdo, gb0, gb1, gbi, bi0, bi1, bi0r, Option.bind_some, bndE_some, ite_t, ite_f, k_m9, k_m1, k_13, k_15, k_18, k_19, k_112, k_114, k_115, k_98, k_103, k_116, k_119, k_47, k_82, k_50, k_51, k_99, k_700, k_197, ne9, ne9s, nI_ne0s, ↓reduceIte, thr_eq, npos h0 ws_lt]
theorem bndX_id (X : Hs → Option ((Int32 ⊕ Nat) × Hs)) (S : Hs) {oc : Int32 ⊕ Nat} {S1 : Hs} (h : X S = some (oc, S1)) : bndX (X S) (fun r7 S7 => (some ((.inl r7, S7)))) (fun q S7 => some ((.inr q, S7))) = some (oc, S1) := by
  rw [h]
  cases oc <;> rfl
theorem OpOk.wrap {X X' : Hs → Option ((Int32 ⊕ Nat) × Hs)} {M : Hs → Option (Int32 × Hs)} {cd : Nat → Option Int32} (h : OpOk X M cd) (hX : ∀ S, X' S = bndX (X S) (fun r7 S7 => (some ((.inl r7, S7)))) (fun q S7 => some ((.inr q, S7)))) : OpOk X' M cd := by
  intro g hg
  obtain ⟨oc, g', h1, h2, h3⟩ := h g hg
  refine ⟨oc, g', h1, fun S hS => ?_, h3⟩
  obtain ⟨S1, k1, k2, k3⟩ := h2 S hS
  exact ⟨S1, by rw [hX, bndX_id X S k1], k2, k3⟩
theorem take_op (p y k z : Int32) : OpOk (m_X5_take p y k z) (m_X6_take p y k z) c123 := (step_op false (m_X6_take p y k z) p y k z fun T => rfl).wrap fun S => rfl
theorem give_op (p y k z : Int32) : OpOk (m_X5_give p y k z) (m_X6_give p y k z) c123 := (step_op true (m_X6_give p y k z) p y k z fun T => rfl).wrap fun S => rfl
