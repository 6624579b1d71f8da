/-! the askings: rounds, ways, proofs, what bars, who is needed, what to cut -/
/-- an int by its bits -/
noncomputable def ofB (p : Nat → Bool) : Int32 := Classical.epsilon fun v : Int32 => ∀ j, j < 32 → bt v j = p j
theorem ofB_eq {v : Int32} {p : Nat → Bool} (h : ∀ j, j < 32 → bt v j = p j) : v = ofB p :=
  b_ext fun j hj => (h j hj).trans ((Classical.epsilon_spec (p := fun v : Int32 => ∀ j, j < 32 → bt v j = p j) ⟨v, h⟩ j hj).symm)
theorem thr_eq (S : Hs) (v : Int32) : gI (sI S 13 0 v) 13 0 = v := by rw [gI_sI, if_pos rfl, if_pos rfl]
theorem le00 : (nI 0 ≤ nI 0) = True := eq_true (by decide)
theorem MRel.thr {T : Hs} {g : GS} (h : MRel T g) (v : Int32) : MRel (sI T 13 0 v) g := h.move (by rw [gI_sI, if_pos rfl, if_neg (by omega)]) (by rw [gI_sI, if_pos rfl, if_neg (by omega)]) fun _ _ _ => rfl
theorem q_thr {T : Hs} {g : GS} (h : MRel T g) (v : Int32) : Mo T (sI T 13 0 v) ∧ MRel (sI T 13 0 v) g := ⟨Mo.sI _ _, h.thr v⟩
theorem q_done {T U : Hs} {g : GS} (h : MRel T g) (v : Int32) (q : Mq (sI T 13 0 v) U) (hz : RM U 14 0 g.1) : Mo T U ∧ MRel U g := ⟨(Mo.sI _ _).tr (Mo.ofQ q), (h.thr v).mq q hz⟩
def c12 (e : Nat) : Option Int32 := if e = 3 then some (nI 1) else if e = 1 then some (nI 2) else none
def c32 (e : Nat) : Option Int32 := if e = 3 then some (nI 1) else if e = 2 then some (nI 2) else none
def c1 (a e : Nat) : Option Int32 := if e = a then some (nI 1) else none
theorem thr_s (S : Hs) (v : Int32) : some (gI (sI S 13 0 v) 13 0) = some v := congrArg some (thr_eq S v)
/-- both sides of a wrong right -/
theorem Scr.thr {S U : Hs} (h : Scr S U) : gI U 13 0 = gI S 13 0 := h.1 _ _ (by omega)
theorem wr_2 {n : Nat} {x k y : Int32} (h : wr n x k y ≠ 0) : wr n x k y = 1 ∨ wr n x k y = 2 := by
  unfold wr at h ⊢
  by_cases h1 : (isT n x && isT n y) = true
  · rw [if_pos h1] at h ⊢
    by_cases h2 : x ≠ y ∧ isT 4 k = true
    · rw [if_pos h2] at h
      exact absurd rfl h
    · rw [if_neg h2]
      exact Or.inr rfl
  · rw [if_neg h1]
    exact Or.inl rfl
theorem ws_2 {n : Nat} {p y k z : Int32} (h : ws n p y k z ≠ 0) : ws n p y k z = 1 ∨ ws n p y k z = 2 := by
  unfold ws at h ⊢
  by_cases h1 : (isT n p && (isT n y && isT n z)) = true
  · rw [if_pos h1] at h ⊢
    by_cases h2 : p ≠ y ∧ p ≠ z ∧ y ≠ z ∧ isT 4 k = true
    · rw [if_pos h2] at h
      exact absurd rfl h
    · rw [if_neg h2]
      exact Or.inr rfl
  · rw [if_neg h1]
    exact Or.inl rfl
theorem wrx_cd {n : Nat} {x k y : Int32} (h : wr n x k y ≠ 0) : c12 (wrx n x k y) = some (nI (wr n x k y)) := by
  unfold wrx c12
  rcases wr_2 h with e | e <;> rw [e] <;> rfl
theorem wsx_cd {n : Nat} {p y k z : Int32} (h : ws n p y k z ≠ 0) : c12 (wsx n p y k z) = some (nI (ws n p y k z)) := by
  unfold wsx c12
  rcases ws_2 h with e | e <;> rw [e] <;> rfl
theorem npos {a : Nat} (h : a ≠ 0) (hb : a < 1000000) : (nI a ≤ nI 0) = False := eq_false (by rw [nle (by omega) (by omega)]; omega)
theorem bndP_l {α β : Type} (a : α) (f : α → Option β) (g : Nat → Option β) : bndP (some (.inl a)) f g = f a := rfl
theorem bndP_r {α β : Type} (e : Nat) (f : α → Option β) (g : Nat → Option β) : bndP (some (.inr e)) f g = g e := rfl
theorem wr_lt {n : Nat} {x k y : Int32} : wr n x k y < 1000000 := by
  unfold wr
  repeat' split
  all_goals omega
theorem ws_lt {n : Nat} {p y k z : Int32} : ws n p y k z < 1000000 := by
  unfold ws
  repeat' split
  all_goals omega
/-- an asking about a right: both sides, where the right is one and where it isn't -/
theorem ask_right {X : Hs → Option ((Int32 ⊕ Nat) × Hs)} {M : Hs → Option (Int32 × Hs)} {x k y : Int32} (val : Nat → Kd → Rt → Nat → Nat → Nat → Int32)
    (hX0 : ∀ S n K Z, RepS S 29 n K Z → wr n x k y ≠ 0 → X S = some (.inr (wrx n x k y), S))
    (hM0 : ∀ T n K Z, RepM T 14 0 n K Z → wr n x k y ≠ 0 → ∃ v, M T = some (v, sI T 13 0 (nI (wr n x k y))))
    (hX : ∀ S n K Z a c d, RepS S 29 n K Z → wr n x k y = 0 → a < n → c < 4 → d < n → a ≠ d → x = nI a → k = nI c → y = nI d → ∃ S1, X S = some (.inl (val n K Z a c d), S1) ∧ Kp S S1)
    (hM : ∀ T n K Z a c d, RepM T 14 0 n K Z → cnt Z ≤ 30 → wr n x k y = 0 → a < n → c < 4 → d < n → a ≠ d → x = nI a → k = nI c → y = nI d → ∃ U, M T = some (val n K Z a c d, U) ∧ Mq (sI T 13 0 (nI 0)) U ∧ RepM U 14 0 n K Z ∧ gI U 13 0 = nI 0) : OpOk X M c12 := by
  intro g hg
  obtain ⟨⟨n, K, Z⟩, r, mem, sv, sl, len, t⟩ := g
  by_cases h0 : wr n x k y = 0
  · obtain ⟨a, c, d, ha, hc, hd, hne, e1, e2, e3⟩ := wr_0 hg.1.1 h0
    refine ⟨.inl (val n K Z a c d), _, hg, fun S hS => ?_, fun T hT => ?_⟩
    · obtain ⟨S1, k1, k2⟩ := hX S n K Z a c d hS.1 h0 ha hc hd hne e1 e2 e3
      exact ⟨S1, k1, Co.ofK k2, hS.kp k2⟩
    · obtain ⟨U, k1, k2, k3, k4⟩ := hM T n K Z a c d hT.1 hg.1.2.2.2 h0 ha hc hd hne e1 e2 e3
      obtain ⟨q1, q2⟩ := q_done hT _ k2 k3
      exact ⟨_, U, k1, q1, q2, k4, rfl⟩
  · refine ⟨.inr (wrx n x k y), _, hg, fun S hS => ⟨S, hX0 S n K Z hS.1 h0, Co.rf S, hS⟩, fun T hT => ?_⟩
    obtain ⟨v, k1⟩ := hM0 T n K Z hT.1 h0
    obtain ⟨q1, q2⟩ := q_thr hT (nI (wr n x k y))
    exact ⟨v, _, k1, q1, q2, by rw [thr_eq]; exact (wrx_cd h0).symm⟩
noncomputable def rndv (A : Nat → Bool) (Z : Rt) (a c d : Nat) : Int32 := if Clo A Z a c d = true then nI (fr A Z a c d) else m9
theorem fol_at {S : Hs} {n : Nat} {K : Kd} {Z : Rt} (h : Fol S n K Z) {a c d : Nat} (ha : a < 7) (hc : c < 4) (hd : d < 7) : gA S 7 (ix a c d) = nI (fr (aw n K) Z a c d) := by
  rw [h.2.2 _ (by unfold ix; omega), fri_ix hc hd]
/-- the spread of the present rights, with no exception told -/
theorem mstart {T : Hs} {n : Nat} {K : Kd} {Z : Rt} (h : RepM T 14 0 n K Z) : ∃ w U, m_X6_awakeSet (sI T 13 0 (nI 0)) = some w ∧ m_X6_spread w (sI T 13 0 (nI 0)) = some U ∧ Scr (sI T 13 0 (nI 0)) U ∧ Spr U n (aw n K) Z ∧ RepM U 14 0 n K Z ∧ gI U 13 0 = nI 0 ∧ (∀ j, j < 32 → bt w j = aw n K j) := by
  have h1 : RepM (sI T 13 0 (nI 0)) 14 0 n K Z := h.keep fun _ => rfl
  obtain ⟨w, w1, w2⟩ := awakeSet_ok h1
  obtain ⟨U, g1, g2, g3⟩ := spread_ok h1 w2
  exact ⟨w, U, w1, g1, g2, g3, g2.rep h1 (by omega) (by omega) (by omega) (by omega), g2.thr.trans (thr_eq T (nI 0)), w2⟩
theorem round_op (x k y : Int32) : OpOk (m_X5_round x k y) (m_X6_round x k y) c12 := by
  refine ask_right (x := x) (k := k) (y := y) (fun n K Z a c d => rndv (aw n K) Z a c d) (fun S n K Z h h0 => ?_) (fun T n K Z h h0 => ?_) (fun S n K Z a c d h h0 ha hc hd hne e1 e2 e3 => ?_) (fun T n K Z a c d h h30 h0 ha hc hd hne e1 e2 e3 => ?_)
  · unfold m_X5_round
    rw [checkRight_ok h, if_neg h0, bndP_r]
  · unfold m_X6_round
    simp (disch := omega) only [k_0, k_1, k_2, k_3, k_4, k_5, k_6, k_7, k_8, k_9, k_10, k_14, k_16, k_28, k_30, k_48, k_49, k_57, k_100, k_110, k_127, k_128, k_196, k_255, k_1000, k_1024, k_10000, nI_add, nI_mul, nI_div, irm_nI, nle, nlt, neq, gd_t, inb_nI, cl_nI, bnd_eq, gdT, gdo, gb0, gb1, gbi, bi0, bi1, bi0r, Option.bind_some, bndE_some, ite_t, ite_f, k_m9, k_m1, k_13, k_15, k_18, k_19, k_112, k_114, k_115, k_98, k_103, k_116, k_119, k_47, k_82, k_50, k_51, k_99, k_700, k_197, ne9, ne9s, nI_ne0s, ↓reduceIte, whyNotRight_ok h, thr_eq, npos h0 wr_lt]
    exact ⟨_, rfl⟩
  · have hn := h.1
    obtain ⟨S1, f1, f2, f3⟩ := follow_ok h (by omega) (by omega)
    have hix : ix a c d < 196 := by unfold ix; omega
    refine ⟨S1, ?_, f2⟩
    unfold m_X5_round m_X5_round_J53 rndv
    rw [checkRight_ok h, if_pos h0, bndP_l, e1, e2, e3]
    simp (disch := omega) only [k_0, k_1, k_2, k_3, k_4, k_5, k_6, k_7, k_8, k_9, k_10, k_14, k_16, k_28, k_30, k_48, k_49, k_57, k_100, k_110, k_127, k_128, k_196, k_255, k_1000, k_1024, k_10000, nI_add, nI_mul, nI_div, irm_nI, nle, nlt, neq, gd_t, inb_nI, cl_nI, bnd_eq, gdT, gdo, gb0, gb1, gbi, bi0, bi1, bi0r, Option.bind_some, bndE_some, ite_t, ite_f, k_m9, k_m1, k_13, k_15, k_18, k_19, k_112, k_114, k_115, k_98, k_103, k_116, k_119, k_47, k_82, k_50, k_51, k_99, k_700, k_197, ne9, ne9s, nI_ne0s, ↓reduceIte, f1, ix_nI, comes_ok f3 h.2.1 hn (show a < 7 by omega) hc (show d < 7 by omega), fol_at f3 (show a < 7 by omega) hc (show d < 7 by omega)]
    cases Clo (aw n K) Z a c d <;> simp
  · have hn := h.1
    obtain ⟨w, U, w1, w2, w3, w4, w5, w6, -⟩ := mstart h
    refine ⟨U, ?_, Mq.ofScr w3, w5, w6⟩
    have hr := (w4.2.2 a (by omega) c hc d (by omega)).1
    subst e1 e2 e3
    unfold m_X6_round m_X6_round_J57 rndv
    simp (disch := omega) only [k_0, k_1, k_2, k_3, k_4, k_5, k_6, k_7, k_8, k_9, k_10, k_14, k_16, k_28, k_30, k_48, k_49, k_57, k_100, k_110, k_127, k_128, k_196, k_255, k_1000, k_1024, k_10000, nI_add, nI_mul, nI_div, irm_nI, nle, nlt, neq, gd_t, inb_nI, cl_nI, bnd_eq, gdT, gdo, gb0, gb1, gbi, bi0, bi1, bi0r, Option.bind_some, bndE_some, ite_t, ite_f, k_m9, k_m1, k_13, k_15, k_18, k_19, k_112, k_114, k_115, k_98, k_103, k_116, k_119, k_47, k_82, k_50, k_51, k_99, k_700, k_197, ne9, ne9s, nI_ne0s, ↓reduceIte, whyNotRight_ok h, h0, thr_eq, le00, w1, w2, ends_ok w4.2.1 (show a < 7 by omega) hc (show d < 7 by omega), at_ok, hr]
    cases hq : Clo (aw n K) Z a c d
    · simp
    · have := (fr_comes h.2.1 hn).mpr hq
      unfold frm
      rw [if_neg this]
      simp
theorem way_op (x k y : Int32) : OpOk (m_X5_way x k y) (m_X6_way x k y) c12 := by
  refine ask_right (x := x) (k := k) (y := y) (fun n K Z a c d => wy n (aw n K) Z a c d) (fun S n K Z h h0 => ?_) (fun T n K Z h h0 => ?_) (fun S n K Z a c d h h0 ha hc hd hne e1 e2 e3 => ?_) (fun T n K Z a c d h h30 h0 ha hc hd hne e1 e2 e3 => ?_)
  · unfold m_X5_way
    rw [checkRight_ok h, if_neg h0, bndP_r]
  · unfold m_X6_way
    simp (disch := omega) only [k_0, k_1, k_2, k_3, k_4, k_5, k_6, k_7, k_8, k_9, k_10, k_14, k_16, k_28, k_30, k_48, k_49, k_57, k_100, k_110, k_127, k_128, k_196, k_255, k_1000, k_1024, k_10000, nI_add, nI_mul, nI_div, irm_nI, nle, nlt, neq, gd_t, inb_nI, cl_nI, bnd_eq, gdT, gdo, gb0, gb1, gbi, bi0, bi1, bi0r, Option.bind_some, bndE_some, ite_t, ite_f, k_m9, k_m1, k_13, k_15, k_18, k_19, k_112, k_114, k_115, k_98, k_103, k_116, k_119, k_47, k_82, k_50, k_51, k_99, k_700, k_197, ne9, ne9s, nI_ne0s, ↓reduceIte, whyNotRight_ok h, thr_eq, npos h0 wr_lt]
    exact ⟨_, rfl⟩
  · have hn := h.1
    obtain ⟨S1, f1, f2, f3⟩ := follow_ok h (by omega) (by omega)
    refine ⟨S1, ?_, f2⟩
    unfold m_X5_way
    rw [checkRight_ok h, if_pos h0, bndP_l, e1, e2, e3]
    simp (disch := omega) only [k_0, k_1, k_2, k_3, k_4, k_5, k_6, k_7, k_8, k_9, k_10, k_14, k_16, k_28, k_30, k_48, k_49, k_57, k_100, k_110, k_127, k_128, k_196, k_255, k_1000, k_1024, k_10000, nI_add, nI_mul, nI_div, irm_nI, nle, nlt, neq, gd_t, inb_nI, cl_nI, bnd_eq, gdT, gdo, gb0, gb1, gbi, bi0, bi1, bi0r, Option.bind_some, bndE_some, ite_t, ite_f, k_m9, k_m1, k_13, k_15, k_18, k_19, k_112, k_114, k_115, k_98, k_103, k_116, k_119, k_47, k_82, k_50, k_51, k_99, k_700, k_197, ne9, ne9s, nI_ne0s, ↓reduceIte, f1, ix_nI, wayOf_ok f3 h.2.1 hn (show a < 7 by omega) hc (show d < 7 by omega)]
  · have hn := h.1
    obtain ⟨w, U, w1, w2, w3, w4, w5, w6, -⟩ := mstart h
    refine ⟨U, ?_, Mq.ofScr w3, w5, w6⟩
    have hr := w4.way (show a < 7 by omega) hc (show d < 7 by omega)
    subst e1 e2 e3
    unfold m_X6_way
    simp (disch := omega) only [k_0, k_1, k_2, k_3, k_4, k_5, k_6, k_7, k_8, k_9, k_10, k_14, k_16, k_28, k_30, k_48, k_49, k_57, k_100, k_110, k_127, k_128, k_196, k_255, k_1000, k_1024, k_10000, nI_add, nI_mul, nI_div, irm_nI, nle, nlt, neq, gd_t, inb_nI, cl_nI, bnd_eq, gdT, gdo, gb0, gb1, gbi, bi0, bi1, bi0r, Option.bind_some, bndE_some, ite_t, ite_f, k_m9, k_m1, k_13, k_15, k_18, k_19, k_112, k_114, k_115, k_98, k_103, k_116, k_119, k_47, k_82, k_50, k_51, k_99, k_700, k_197, ne9, ne9s, nI_ne0s, ↓reduceIte, whyNotRight_ok h, h0, thr_eq, le00, w1, w2, at_ok, hr]
noncomputable def prfv (n : Nat) (A : Nat → Bool) (Z : Rt) (a c d : Nat) : Int32 := if Clo A Z a c d = true then nI (plen n A Z a c d) else m9
theorem proof_op (x k y : Int32) : OpOk (m_X5_proof x k y) (m_X6_proof x k y) c12 := by
  refine ask_right (x := x) (k := k) (y := y) (fun n K Z a c d => prfv n (aw n K) Z a c d) (fun S n K Z h h0 => ?_) (fun T n K Z h h0 => ?_) (fun S n K Z a c d h h0 ha hc hd hne e1 e2 e3 => ?_) (fun T n K Z a c d h h30 h0 ha hc hd hne e1 e2 e3 => ?_)
  · unfold m_X5_proof
    rw [checkRight_ok h, if_neg h0, bndP_r]
  · unfold m_X6_proof
    simp (disch := omega) only [k_0, k_1, k_2, k_3, k_4, k_5, k_6, k_7, k_8, k_9, k_10, k_14, k_16, k_28, k_30, k_48, k_49, k_57, k_100, k_110, k_127, k_128, k_196, k_255, k_1000, k_1024, k_10000, nI_add, nI_mul, nI_div, irm_nI, nle, nlt, neq, gd_t, inb_nI, cl_nI, bnd_eq, gdT, gdo, gb0, gb1, gbi, bi0, bi1, bi0r, Option.bind_some, bndE_some, ite_t, ite_f, k_m9, k_m1, k_13, k_15, k_18, k_19, k_112, k_114, k_115, k_98, k_103, k_116, k_119, k_47, k_82, k_50, k_51, k_99, k_700, k_197, ne9, ne9s, nI_ne0s, ↓reduceIte, whyNotRight_ok h, thr_eq, npos h0 wr_lt]
    exact ⟨_, rfl⟩
  · have hn := h.1
    obtain ⟨S1, f1, f2, f3⟩ := follow_ok h (by omega) (by omega)
    obtain ⟨S2, g1, g2, g3⟩ := prove_ok f3 h.2.1 hn (show a < 7 by omega) hc (show d < 7 by omega)
    unfold m_X5_proof m_X5_proof_J52 prfv
    rw [checkRight_ok h, if_pos h0, bndP_l, e1, e2, e3]
    cases hq : Clo (aw n K) Z a c d
    · refine ⟨S1, ?_, f2⟩
      simp (disch := omega) only [k_0, k_1, k_2, k_3, k_4, k_5, k_6, k_7, k_8, k_9, k_10, k_14, k_16, k_28, k_30, k_48, k_49, k_57, k_100, k_110, k_127, k_128, k_196, k_255, k_1000, k_1024, k_10000, nI_add, nI_mul, nI_div, irm_nI, nle, nlt, neq, gd_t, inb_nI, cl_nI, bnd_eq, gdT, gdo, gb0, gb1, gbi, bi0, bi1, bi0r, Option.bind_some, bndE_some, ite_t, ite_f, k_m9, k_m1, k_13, k_15, k_18, k_19, k_112, k_114, k_115, k_98, k_103, k_116, k_119, k_47, k_82, k_50, k_51, k_99, k_700, k_197, ne9, ne9s, nI_ne0s, ↓reduceIte, f1, ix_nI, comes_ok f3 h.2.1 hn (show a < 7 by omega) hc (show d < 7 by omega), hq]
      simp
    · refine ⟨S2, ?_, f2.tr g2.kp⟩
      simp (disch := omega) only [k_0, k_1, k_2, k_3, k_4, k_5, k_6, k_7, k_8, k_9, k_10, k_14, k_16, k_28, k_30, k_48, k_49, k_57, k_100, k_110, k_127, k_128, k_196, k_255, k_1000, k_1024, k_10000, nI_add, nI_mul, nI_div, irm_nI, nle, nlt, neq, gd_t, inb_nI, cl_nI, bnd_eq, gdT, gdo, gb0, gb1, gbi, bi0, bi1, bi0r, Option.bind_some, bndE_some, ite_t, ite_f, k_m9, k_m1, k_13, k_15, k_18, k_19, k_112, k_114, k_115, k_98, k_103, k_116, k_119, k_47, k_82, k_50, k_51, k_99, k_700, k_197, ne9, ne9s, nI_ne0s, ↓reduceIte, f1, ix_nI, comes_ok f3 h.2.1 hn (show a < 7 by omega) hc (show d < 7 by omega), hq, Bool.true_eq_false, g1]
  · have hn := h.1
    obtain ⟨w, U, w1, w2, w3, w4, w5, w6, -⟩ := mstart h
    subst e1 e2 e3
    unfold m_X6_proof prfv
    cases hq : Clo (aw n K) Z a c d
    · refine ⟨U, ?_, Mq.ofScr w3, w5, w6⟩
      simp (disch := omega) only [k_0, k_1, k_2, k_3, k_4, k_5, k_6, k_7, k_8, k_9, k_10, k_14, k_16, k_28, k_30, k_48, k_49, k_57, k_100, k_110, k_127, k_128, k_196, k_255, k_1000, k_1024, k_10000, nI_add, nI_mul, nI_div, irm_nI, nle, nlt, neq, gd_t, inb_nI, cl_nI, bnd_eq, gdT, gdo, gb0, gb1, gbi, bi0, bi1, bi0r, Option.bind_some, bndE_some, ite_t, ite_f, k_m9, k_m1, k_13, k_15, k_18, k_19, k_112, k_114, k_115, k_98, k_103, k_116, k_119, k_47, k_82, k_50, k_51, k_99, k_700, k_197, ne9, ne9s, nI_ne0s, ↓reduceIte, whyNotRight_ok h, h0, thr_eq, le00, w1, w2, ends_ok w4.2.1 (show a < 7 by omega) hc (show d < 7 by omega), hq]
      simp
    · obtain ⟨S1, S2, S3, k1, k2, k3, k4, k5, k6⟩ := mprove_ok h.2.1 hn w4 (show a < 7 by omega) hc (show d < 7 by omega)
      subst k3
      have k2' : gI (sA S1 26 (4 * (7 * a + d) + c) (nI 1)) 13 13 = nI (nr (aw n K) Z) := k2
      refine ⟨S3, ?_, (Mq.ofScr w3).tr (Mq.ofA k5 (by omega)), w5.keep fun j => k5.2.1 _ _ (by omega), (k5.1 _ _).trans w6⟩
      simp (disch := omega) only [k_0, k_1, k_2, k_3, k_4, k_5, k_6, k_7, k_8, k_9, k_10, k_14, k_16, k_28, k_30, k_48, k_49, k_57, k_100, k_110, k_127, k_128, k_196, k_255, k_1000, k_1024, k_10000, nI_add, nI_mul, nI_div, irm_nI, nle, nlt, neq, gd_t, inb_nI, cl_nI, bnd_eq, gdT, gdo, gb0, gb1, gbi, bi0, bi1, bi0r, Option.bind_some, bndE_some, ite_t, ite_f, k_m9, k_m1, k_13, k_15, k_18, k_19, k_112, k_114, k_115, k_98, k_103, k_116, k_119, k_47, k_82, k_50, k_51, k_99, k_700, k_197, ne9, ne9s, nI_ne0s, ↓reduceIte, whyNotRight_ok h, h0, thr_eq, le00, w1, w2, ends_ok w4.2.1 (show a < 7 by omega) hc (show d < 7 by omega), hq, Bool.true_eq_false]
      rw [k1]
      simp (disch := omega) only [k_0, k_1, k_2, k_3, k_4, k_5, k_6, k_7, k_8, k_9, k_10, k_14, k_16, k_28, k_30, k_48, k_49, k_57, k_100, k_110, k_127, k_128, k_196, k_255, k_1000, k_1024, k_10000, nI_add, nI_mul, nI_div, irm_nI, nle, nlt, neq, gd_t, inb_nI, cl_nI, bnd_eq, gdT, gdo, gb0, gb1, gbi, bi0, bi1, bi0r, Option.bind_some, bndE_some, ite_t, ite_f, k_m9, k_m1, k_13, k_15, k_18, k_19, k_112, k_114, k_115, k_98, k_103, k_116, k_119, k_47, k_82, k_50, k_51, k_99, k_700, k_197, ne9, ne9s, nI_ne0s, ↓reduceIte, at_ok, nar_1n, k2']
      rw [k4]
      simp (disch := omega) only [k_0, k_1, k_2, k_3, k_4, k_5, k_6, k_7, k_8, k_9, k_10, k_14, k_16, k_28, k_30, k_48, k_49, k_57, k_100, k_110, k_127, k_128, k_196, k_255, k_1000, k_1024, k_10000, nI_add, nI_mul, nI_div, irm_nI, nle, nlt, neq, gd_t, inb_nI, cl_nI, bnd_eq, gdT, gdo, gb0, gb1, gbi, bi0, bi1, bi0r, Option.bind_some, bndE_some, ite_t, ite_f, k_m9, k_m1, k_13, k_15, k_18, k_19, k_112, k_114, k_115, k_98, k_103, k_116, k_119, k_47, k_82, k_50, k_51, k_99, k_700, k_197, ne9, ne9s, nI_ne0s, ↓reduceIte]
      rw [k6]
      rfl
theorem needed_op (x k y : Int32) : OpOk (m_X5_needed x k y) (m_X6_needed x k y) c12 := by
  refine ask_right (x := x) (k := k) (y := y) (fun n K Z a c d => ndv (aw n K) Z a c d 128) (fun S n K Z h h0 => ?_) (fun T n K Z h h0 => ?_) (fun S n K Z a c d h h0 ha hc hd hne e1 e2 e3 => ?_) (fun T n K Z a c d h h30 h0 ha hc hd hne e1 e2 e3 => ?_)
  · unfold m_X5_needed
    rw [checkRight_ok h, if_neg h0, bndP_r]
  · unfold m_X6_needed
    simp (disch := omega) only [k_0, k_1, k_2, k_3, k_4, k_5, k_6, k_7, k_8, k_9, k_10, k_14, k_16, k_28, k_30, k_48, k_49, k_57, k_100, k_110, k_127, k_128, k_196, k_255, k_1000, k_1024, k_10000, nI_add, nI_mul, nI_div, irm_nI, nle, nlt, neq, gd_t, inb_nI, cl_nI, bnd_eq, gdT, gdo, gb0, gb1, gbi, bi0, bi1, bi0r, Option.bind_some, bndE_some, ite_t, ite_f, k_m9, k_m1, k_13, k_15, k_18, k_19, k_112, k_114, k_115, k_98, k_103, k_116, k_119, k_47, k_82, k_50, k_51, k_99, k_700, k_197, ne9, ne9s, nI_ne0s, ↓reduceIte, whyNotRight_ok h, thr_eq, npos h0 wr_lt]
    exact ⟨_, rfl⟩
  · have hn := h.1
    obtain ⟨s, s1, s2, s3⟩ := set_num (v := gI S 29 2) (A := aw n K) (fun j hj => aw_big hn hj) (fun j hj => by rw [h.2.2.2.2.1 j hj]; rfl)
    have hsub : sbs (aw n K) s = true := sbs_iff.mpr fun j hj => by rw [← s3]; exact hj
    obtain ⟨S1, k1, k2⟩ := comesWith_ok h s1 hsub (show a < 7 by omega) hc (show d < 7 by omega)
    rw [s3] at k1
    have g1 : gI S1 29 2 = nI s := (k2.1 _ _ (by omega)).trans s2
    unfold m_X5_needed
    rw [checkRight_ok h, if_pos h0, bndP_l, e1, e2, e3]
    cases hq : Clo (aw n K) Z a c d
    · refine ⟨S1, ?_, Kp.ofB k2 (by omega)⟩
      simp (disch := omega) only [k_0, k_1, k_2, k_3, k_4, k_5, k_6, k_7, k_8, k_9, k_10, k_14, k_16, k_28, k_30, k_48, k_49, k_57, k_100, k_110, k_127, k_128, k_196, k_255, k_1000, k_1024, k_10000, nI_add, nI_mul, nI_div, irm_nI, nle, nlt, neq, gd_t, inb_nI, cl_nI, bnd_eq, gdT, gdo, gb0, gb1, gbi, bi0, bi1, bi0r, Option.bind_some, bndE_some, ite_t, ite_f, k_m9, k_m1, k_13, k_15, k_18, k_19, k_112, k_114, k_115, k_98, k_103, k_116, k_119, k_47, k_82, k_50, k_51, k_99, k_700, k_197, ne9, ne9s, nI_ne0s, ↓reduceIte, ix_nI, s2, k1, hq]
      rw [ndv_no hq]
    · obtain ⟨S2, l1, l2⟩ := needed_loop (h.keep k2 (by omega) (by omega)) (show a < 7 by omega) hc (show d < 7 by omega) s1 s3 g1 hq
      refine ⟨S2, ?_, (Kp.ofB k2 (by omega)).tr (Kp.ofB l2 (by omega))⟩
      simp (disch := omega) only [k_0, k_1, k_2, k_3, k_4, k_5, k_6, k_7, k_8, k_9, k_10, k_14, k_16, k_28, k_30, k_48, k_49, k_57, k_100, k_110, k_127, k_128, k_196, k_255, k_1000, k_1024, k_10000, nI_add, nI_mul, nI_div, irm_nI, nle, nlt, neq, gd_t, inb_nI, cl_nI, bnd_eq, gdT, gdo, gb0, gb1, gbi, bi0, bi1, bi0r, Option.bind_some, bndE_some, ite_t, ite_f, k_m9, k_m1, k_13, k_15, k_18, k_19, k_112, k_114, k_115, k_98, k_103, k_116, k_119, k_47, k_82, k_50, k_51, k_99, k_700, k_197, ne9, ne9s, nI_ne0s, ↓reduceIte, ix_nI, s2, k1, hq, Bool.true_eq_false, g1]
      rw [l1]
      rfl
  · have hn := h.1
    have h1 : RepM (sI T 13 0 (nI 0)) 14 0 n K Z := h.keep fun _ => rfl
    obtain ⟨w, w1, w2⟩ := awakeSet_ok h1
    obtain ⟨U, k1, k2, k3⟩ := mneeded_ok h1 (show a < 7 by omega) hc (show d < 7 by omega) w2
    refine ⟨U, ?_, k3, k2, (k3.1 _ _ (by omega)).trans (thr_eq T (nI 0))⟩
    subst e1 e2 e3
    unfold m_X6_needed
    simp (disch := omega) only [k_0, k_1, k_2, k_3, k_4, k_5, k_6, k_7, k_8, k_9, k_10, k_14, k_16, k_28, k_30, k_48, k_49, k_57, k_100, k_110, k_127, k_128, k_196, k_255, k_1000, k_1024, k_10000, nI_add, nI_mul, nI_div, irm_nI, nle, nlt, neq, gd_t, inb_nI, cl_nI, bnd_eq, gdT, gdo, gb0, gb1, gbi, bi0, bi1, bi0r, Option.bind_some, bndE_some, ite_t, ite_f, k_m9, k_m1, k_13, k_15, k_18, k_19, k_112, k_114, k_115, k_98, k_103, k_116, k_119, k_47, k_82, k_50, k_51, k_99, k_700, k_197, ne9, ne9s, nI_ne0s, ↓reduceIte, whyNotRight_ok h, h0, thr_eq, le00, w1]
    rw [k1]
    rfl
theorem whyNot_op (b : Bool) (p y k z : Int32) : OpOk (fun S => (m_X5_whyNot (bi b) p y k z S).bind fun r => some (r, S)) (m_X6_whyNot (bi b) p y k z) c12 := by
  intro g hg
  obtain ⟨⟨n, K, Z⟩, r, mem, sv, sl, len, t⟩ := g
  by_cases h0 : ws n p y k z = 0
  · obtain ⟨a, e, c, d, ha, he, hc, hd, -, -, -, e1, e2, e3, e4⟩ := ws_0 hg.1.1 h0
    refine ⟨.inl (nI (bars K Z b a e c d)), _, hg, fun S hS => ⟨S, ?_, Co.rf S, hS⟩, fun T hT => ?_⟩
    · have h : RepS S 29 n K Z := hS.1
      unfold m_X5_whyNot
      dsimp only
      rw [checkStep_ok h, if_pos h0, bndP_l, e1, e2, e3, e4, whatBars_ok h ha he hc hd b]
      rfl
    · have h : RepM T 14 0 n K Z := hT.1
      have h1 : RepM (sI T 13 0 (nI 0)) 14 0 n K Z := h.keep fun _ => rfl
      obtain ⟨q1, q2⟩ := q_thr hT (nI 0)
      refine ⟨_, _, ?_, q1, q2, thr_eq _ _, rfl⟩
      unfold m_X6_whyNot m_X6_whyNot_J36
      simp (disch := omega) only [k_0, k_1, k_2, k_3, k_4, k_5, k_6, k_7, k_8, k_9, k_10, k_14, k_16, k_28, k_30, k_48, k_49, k_57, k_100, k_110, k_127, k_128, k_196, k_255, k_1000, k_1024, k_10000, nI_add, nI_mul, nI_div, irm_nI, nle, nlt, neq, gd_t, inb_nI, cl_nI, bnd_eq, gdT, gdo, gb0, gb1, gbi, bi0, bi1, bi0r, Option.bind_some, bndE_some, ite_t, ite_f, k_m9, k_m1, k_13, k_15, k_18, k_19, k_112, k_114, k_115, k_98, k_103, k_116, k_119, k_47, k_82, k_50, k_51, k_99, k_700, k_197, ne9, ne9s, nI_ne0s, ↓reduceIte, whyNotStep_ok h, h0, thr_eq, le00]
      rw [e1, e2, e3, e4, hinders_ok h1 ha he hc hd b]
      rfl
  · refine ⟨.inr (wsx n p y k z), _, hg, fun S hS => ⟨S, ?_, Co.rf S, hS⟩, fun T hT => ?_⟩
    · have h : RepS S 29 n K Z := hS.1
      unfold m_X5_whyNot
      dsimp only
      rw [checkStep_ok h, if_neg h0, bndP_r]
      rfl
    · have h : RepM T 14 0 n K Z := hT.1
      obtain ⟨q1, q2⟩ := q_thr hT (nI (ws n p y k z))
      refine ⟨nI 0, _, ?_, q1, q2, by rw [thr_eq]; exact (wsx_cd h0).symm⟩
      unfold m_X6_whyNot m_X6_whyNot_J36
      simp (disch := omega) only [k_0, k_1, k_2, k_3, k_4, k_5, k_6, k_7, k_8, k_9, k_10, k_14, k_16, k_28, k_30, k_48, k_49, k_57, k_100, k_110, k_127, k_128, k_196, k_255, k_1000, k_1024, k_10000, nI_add, nI_mul, nI_div, irm_nI, nle, nlt, neq, gd_t, inb_nI, cl_nI, bnd_eq, gdT, gdo, gb0, gb1, gbi, bi0, bi1, bi0r, Option.bind_some, bndE_some, ite_t, ite_f, k_m9, k_m1, k_13, k_15, k_18, k_19, k_112, k_114, k_115, k_98, k_103, k_116, k_119, k_47, k_82, k_50, k_51, k_99, k_700, k_197, ne9, ne9s, nI_ne0s, ↓reduceIte, whyNotStep_ok h, thr_eq, npos h0 ws_lt]
