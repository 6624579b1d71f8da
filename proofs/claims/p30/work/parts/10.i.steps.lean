/-! the class's steps: all that the rights in a State allow -/
def addR (Z : Rt) (x : Nat) (b : Nat → Nat → Bool) : Rt := fun a k y => Z a k y || (decide (a = x) && (b k y && decide (y ≠ x)))
theorem addR_iff {Z : Rt} {x : Nat} {b : Nat → Nat → Bool} {a k y : Nat} : addR Z x b a k y = true ↔ Z a k y = true ∨ (a = x ∧ b k y = true ∧ y ≠ x) := by
  unfold addR
  simp
theorem addR_sub (Z : Rt) (x : Nat) (b : Nat → Nat → Bool) : Sub Z (addR Z x b) := fun a k y h => addR_iff.mpr (Or.inl h)
theorem addRights_ok {S : Hs} {i n : Nat} {K : Kd} {Z : Rt} (h : RepS S i n K Z) {x : Nat} (hx : x < n) {w : Int32} {b : Nat → Nat → Bool} (hw : ∀ j, j < 32 → bt w j = (decide (j < 28) && b (j / 7) (j % 7))) (hb : ∀ k y, b k y = true → k < 4 ∧ y < n) : ∃ S', m_X3_addRights i (nI x) w S = some (bi (B (¬ Sub (addR Z x b) Z)), S') ∧ RepS S' i n K (addR Z x b) ∧ SameB i S S' := by
  obtain ⟨hn, hwf, h1, h2, h3, hr⟩ := h
  have hx7 : x < 7 := by omega
  have hnew : ∀ j, j < 32 → bt (gA S (i + 1) x ||| (w &&& ((2113665 : Int32) <<< (nI x &&& 31) ^^^ (-1)))) j = (decide (j < 28) && addR Z x b x (j / 7) (j % 7)) := by
    intro j hj
    rw [b_or, b_and, b_xor, b_m1 j hj, b_over x hx7 j hj, hw j hj, hr x hx7 j hj]
    unfold addR
    by_cases hj28 : j < 28
    · by_cases hjx : j % 7 = x <;> simp [hj28, hjx]
    · simp [hj28]
  have rep : RepS (sA S (i + 1) x (gA S (i + 1) x ||| (w &&& ((2113665 : Int32) <<< (nI x &&& 31) ^^^ (-1))))) i n K (addR Z x b) := by
    refine ⟨hn, fun a k y q => ?_, h1, h2, h3, fun a ha j hj => ?_⟩
    · rcases addR_iff.mp q with q | ⟨rfl, q, hne⟩
      · exact hwf a k y q
      · exact ⟨hx, (hb k y q).1, (hb k y q).2, fun e => hne e.symm⟩
    · rw [gA_sA, if_pos rfl]
      by_cases hax : a = x
      · subst hax
        rw [if_pos rfl, hnew j hj]
      · rw [if_neg hax, hr a ha j hj]
        unfold addR
        simp [hax]
  have htest : (gA S (i + 1) x ||| (w &&& ((2113665 : Int32) <<< (nI x &&& 31) ^^^ (-1)))) = gA S (i + 1) x ↔ Sub (addR Z x b) Z := by
    constructor
    · intro e a k y q
      rcases addR_iff.mp q with q | ⟨rfl, q, hne⟩
      · exact q
      · have hk := (hb k y q).1
        have hy := (hb k y q).2
        have e1 := hnew (7 * k + y) (by omega)
        have e2 := hr a hx7 (7 * k + y) (by omega)
        rw [e, e2, show (7 * k + y) / 7 = k by omega, show (7 * k + y) % 7 = y by omega, decide_eq_true (show 7 * k + y < 28 by omega), Bool.true_and, Bool.true_and] at e1
        rw [e1]
        exact addR_iff.mpr (Or.inr ⟨rfl, q, hne⟩)
    · intro hs
      apply b_ext
      intro j hj
      rw [hnew j hj, hr x hx7 j hj, congrFun (congrFun (congrFun (Sub.anti (addR_sub Z x b) hs) x) (j / 7)) (j % 7)]
  refine ⟨_, ?_, rep, SameB.sA _ _⟩
  unfold m_X3_addRights m_X3_addRights_J38
  simp only [bnd_eq, gd_t (inb_nI hx7 (by decide : 7 < 1000000)), cl_nI (show x < 1000000 by omega), gA_sA, if_pos]
  by_cases hs : Sub (addR Z x b) Z
  · rw [if_pos (htest.mpr hs), B_false.mpr (fun q => q hs)]
    rfl
  · rw [if_neg (fun q => hs (htest.mp q)), B_iff.mpr hs]
    rfl
/-- what is before the steps: it may be the State itself -/
def Bef (i o n : Nat) (K : Kd) (Z0 : Rt) (T : Hs) : Prop := o = i ∨ RepS T o n K Z0
theorem sub_ne {Z T U : Rt} (h : Sub Z T) (hm : ¬ Sub U T) : ¬ Sub U Z := fun q => hm (q.tr h)
variable {S0 : Hs} {i o n : Nat} {K K2 : Kd} {Z0 G U : Rt} {A : Nat → Bool}
/-- one call of addRights within the steps -/
theorem add_step (hUn : ∀ x k y, nw A G x k y → U x k y = true) {T : Hs} {Zc : Rt} (hT : RepS T i n K Zc) (hcU : Sub Zc U) {x : Nat} (hx : x < n) {w : Int32} {b : Nat → Nat → Bool} (hw : ∀ j, j < 32 → bt w j = (decide (j < 28) && b (j / 7) (j % 7))) (hb : ∀ k y, b k y = true → k < 4 ∧ y < n) (hG : ∀ k y, b k y = true → y ≠ x → nw A G x k y) : ∃ (T' : Hs) (Z' : Rt), m_X3_addRights i (nI x) w T = some (bi (B (¬ Sub Z' Zc)), T') ∧ RepS T' i n K Z' ∧ SameB i T T' ∧ Sub Zc Z' ∧ Sub Z' U ∧ ∀ k y, b k y = true → y ≠ x → Z' x k y = true := by
  obtain ⟨T', e1, e2, e3⟩ := addRights_ok hT hx hw hb
  refine ⟨T', _, e1, e2, e3, addR_sub _ _ _, fun a k y q => ?_, fun k y q hne => addR_iff.mpr (Or.inr ⟨rfl, q, hne⟩)⟩
  rcases addR_iff.mp q with q | ⟨rfl, q, hne⟩
  · exact hcU a k y q
  · exact hUn _ _ _ (hG k y q hne)
theorem Bef.keep {T T' : Hs} (h : Bef i o n K2 Z0 T) (hs : SameB i T T') : Bef i o n K2 Z0 T' := by
  by_cases he : o = i
  · exact Or.inl he
  · rcases h with h | h
    · exact absurd h he
    · exact Or.inr (h.keep hs he (by omega))
theorem Bef.get (hm : o = i → G = U) (h0 : Sub Z0 G) {T : Hs} (h : Bef i o n K2 Z0 T) {Zc : Rt} (hT : RepS T i n K Zc) (h0c : Sub Z0 Zc) (hcU : Sub Zc U) : ∃ (K' : Kd) (Zb : Rt), RepS T o n K' Zb ∧ Sub Z0 Zb ∧ Sub Zb G := by
  by_cases he : o = i
  · subst he
    exact ⟨K, Zc, hT, h0c, by rw [hm rfl]; exact hcU⟩
  · rcases h with h | h
    · exact absurd h he
    · exact ⟨K2, Z0, h, Sub.rf _, h0⟩
theorem doStepsOf_ok (hm : o = i → G = U) (h0 : Sub Z0 G) (hUn : ∀ x k y, nw A G x k y → U x k y = true) {T : Hs} {Zs : Rt} (hT : RepS T i n K Zs) (h0s : Sub Z0 Zs) (hsU : Sub Zs U) (hB : Bef i o n K2 Z0 T) {p : Nat} (hp : p < n) (hA : A p = true) :
    ∃ (T' : Hs) (Z' : Rt), m_X3_doStepsOf i (nI p) o T = some (bi (B (¬ Sub Z' Zs)), T') ∧ RepS T' i n K Z' ∧ SameB i T T' ∧ Sub Zs Z' ∧ Sub Z' U ∧ ∀ y k z, (Z0 p 0 y = true → Z0 y k z = true → z ≠ p → Z' p k z = true) ∧ (Z0 p 1 y = true → Z0 p k z = true → z ≠ y → Z' y k z = true) := by
  have hn := hT.1
  obtain ⟨Ko, Zo, ho, ho1, ho2⟩ := Bef.get hm h0 hB hT h0s hsU
  have hrow := ho.2.2.2.2.2 p (by omega)
  have hown : ∀ k y, Zo p k y = true → k < 4 ∧ y < n := fun k y q => ⟨(ho.2.1 _ _ _ q).2.1, (ho.2.1 _ _ _ q).2.2.1⟩
  generalize hw : gA T (o + 1) p = w at hrow
  have hbit : ∀ k y, k < 4 → y < 7 → (((w >>> (nI (7 * k + y) &&& 31)) &&& nI 1 = nI 0) ↔ Zo p k y = false) := by
    intro k y hk hy
    rw [show nI 0 = (0 : Int32) from rfl, show nI 1 = (1 : Int32) from rfl, bit_test w (show 7 * k + y < 32 by omega), hrow _ (by omega), show (7 * k + y) / 7 = k by omega, show (7 * k + y) % 7 = y by omega, decide_eq_true (show 7 * k + y < 28 by omega), Bool.true_and]
  unfold m_X3_doStepsOf
  obtain ⟨⟨f, T'⟩, h1, Z', h2, h3, h4, h5, h6, h7⟩ := loopO_inv (f := fun x : Int32 × Int32 × Hs => m_X3_doStepsOf_L13 i (nI p) o w x.1 x.2.1 x.2.2) (fun c q => c ≤ n ∧ q.2.1 = nI c ∧ ∃ Zc, q.1 = bi (B (¬ Sub Zc Zs)) ∧ RepS q.2.2 i n K Zc ∧ SameB i T q.2.2 ∧ Sub Zs Zc ∧ Sub Zc U ∧ ∀ y, y < c → ∀ k z, (Z0 p 0 y = true → Z0 y k z = true → z ≠ p → Zc p k z = true) ∧ (Z0 p 1 y = true → Z0 p k z = true → z ≠ y → Zc y k z = true)) (fun r => ∃ Zc, r.1 = bi (B (¬ Sub Zc Zs)) ∧ RepS r.2 i n K Zc ∧ SameB i T r.2 ∧ Sub Zs Zc ∧ Sub Zc U ∧ ∀ y, y < n → ∀ k z, (Z0 p 0 y = true → Z0 y k z = true → z ≠ p → Zc p k z = true) ∧ (Z0 p 1 y = true → Z0 p k z = true → z ≠ y → Zc y k z = true)) 7 (fun c q hq => by
    obtain ⟨fl1, v, R⟩ := q
    obtain ⟨hc, hv, Zc, a1, a2, a3, a4, a5, a6⟩ := hq
    simp only at hv a1 a2 a3 a4 a5 a6
    subst hv a1
    have r0 : gI R i 0 = nI n := a2.2.2.1
    by_cases hcn : c < n
    · have hc7 : c < 7 := by omega
      -- behind the first half
      have key : ∀ (R1 : Hs) (Z1 : Rt), RepS R1 i n K Z1 → SameB i R R1 → Sub Zc Z1 → Sub Z1 U → (∀ k z, Z0 p 0 c = true → Z0 c k z = true → z ≠ p → Z1 p k z = true) → ∃ y, m_X3_doStepsOf_J51 i (nI p) o w (bi (B (¬ Sub Z1 Zs))) (nI c) R1 = some (Sum.inl y) ∧ c + 1 ≤ n ∧ y.2.1 = nI (c + 1) ∧ ∃ Zc, y.1 = bi (B (¬ Sub Zc Zs)) ∧ RepS y.2.2 i n K Zc ∧ SameB i T y.2.2 ∧ Sub Zs Zc ∧ Sub Zc U ∧ ∀ y, y < c + 1 → ∀ k z, (Z0 p 0 y = true → Z0 y k z = true → z ≠ p → Zc p k z = true) ∧ (Z0 p 1 y = true → Z0 p k z = true → z ≠ y → Zc y k z = true) := by
        intro R1 Z1 b1 b2 b3 b4 b5
        have hb1 := hbit 1 c (by omega) hc7
        unfold m_X3_doStepsOf_J51 m_X3_doStepsOf_J76
        simp (disch := omega) only [k_0, k_1, k_2, k_3, k_4, k_5, k_6, k_7, k_8, k_9, k_10, k_14, k_16, k_28, k_30, k_48, k_49, k_57, k_100, k_110, k_127, k_128, k_196, k_255, k_1000, k_1024, k_10000, nI_add, nI_mul, nI_div, irm_nI, nle, nlt, neq, gd_t, inb_nI, cl_nI, bnd_eq, gdT, gdo, gb0, gb1, gbi, bi0, bi1, bi0r, Option.bind_some, bndE_some, ite_t, ite_f]
        by_cases hg : Zo p 1 c = true
        · obtain ⟨R2, Z2, c1, c2, c3, c4, c5, c6⟩ := add_step (b := fun k y => Zo p k y) hUn b1 b4 hcn hrow hown (fun k y q hne => ⟨fun e => hne e.symm, Or.inr ⟨p, hA, ho2 _ _ _ hg, ho2 _ _ _ q⟩⟩)
          rw [if_neg (fun q => by rw [hb1.mp (by simpa using q)] at hg; cases hg), c1]
          simp only [bndE_some, bi0]
          have done : ∀ y, y < c + 1 → ∀ k z, (Z0 p 0 y = true → Z0 y k z = true → z ≠ p → Z2 p k z = true) ∧ (Z0 p 1 y = true → Z0 p k z = true → z ≠ y → Z2 y k z = true) := by
            intro y hy k z
            by_cases hyc : y = c
            · subst hyc
              exact ⟨fun q1 q2 q3 => c4 _ _ _ (b5 k z q1 q2 q3), fun _ q2 q3 => c6 k z (ho1 _ _ _ q2) q3⟩
            · have := a6 y (by omega) k z
              exact ⟨fun q1 q2 q3 => c4 _ _ _ (b3 _ _ _ (this.1 q1 q2 q3)), fun q1 q2 q3 => c4 _ _ _ (b3 _ _ _ (this.2 q1 q2 q3))⟩
          by_cases hs : Sub Z2 Z1
          · rw [if_pos (B_false.mpr (fun q => q hs))]
            obtain rfl := Sub.anti c4 hs
            exact ⟨_, rfl, by omega, rfl, Z1, rfl, c2, (a3.tr b2).tr c3, a4.tr b3, c5, done⟩
          · rw [if_neg (by rw [B_iff.mpr hs]; decide)]
            have : B (¬ Sub Z2 Zs) = true := B_iff.mpr (sub_ne (a4.tr b3) hs)
            exact ⟨_, rfl, by omega, rfl, Z2, by rw [this]; rfl, c2, (a3.tr b2).tr c3, (a4.tr b3).tr c4, c5, done⟩
        · rw [if_pos (by simpa using hb1.mpr (by simpa using hg))]
          refine ⟨_, rfl, by omega, rfl, Z1, rfl, b1, a3.tr b2, a4.tr b3, b4, fun y hy k z => ?_⟩
          by_cases hyc : y = c
          · subst hyc
            exact ⟨fun q1 q2 q3 => b5 k z q1 q2 q3, fun q1 => absurd (ho1 _ _ _ q1) hg⟩
          · have := a6 y (by omega) k z
            exact ⟨fun q1 q2 q3 => b3 _ _ _ (this.1 q1 q2 q3), fun q1 q2 q3 => b3 _ _ _ (this.2 q1 q2 q3)⟩
      have hb0 := hbit 0 c (by omega) hc7
      refine Or.inl ⟨by omega, ?_⟩
      simp only [m_X3_doStepsOf_L13, r0]
      simp (disch := omega) only [k_0, k_1, k_2, k_3, k_4, k_5, k_6, k_7, k_8, k_9, k_10, k_14, k_16, k_28, k_30, k_48, k_49, k_57, k_100, k_110, k_127, k_128, k_196, k_255, k_1000, k_1024, k_10000, nI_add, nI_mul, nI_div, irm_nI, nle, nlt, neq, gd_t, inb_nI, cl_nI, bnd_eq, gdT, gdo, gb0, gb1, gbi, bi0, bi1, bi0r, Option.bind_some, bndE_some, ite_t, ite_f]
      by_cases ht : Zo p 0 c = true
      · obtain ⟨Kb, Zb, d1, d2, d3⟩ := Bef.get hm h0 (hB.keep a3) a2 (h0s.tr a4) a5
        obtain ⟨R2, Z2, c1, c2, c3, c4, c5, c6⟩ := add_step (b := fun k y => Zb c k y) hUn a2 a5 hp (d1.2.2.2.2.2 c hc7) (fun k y q => ⟨(d1.2.1 _ _ _ q).2.1, (d1.2.1 _ _ _ q).2.2.1⟩) (fun k y q hne => ⟨fun e => hne e.symm, Or.inl ⟨hA, c, ho2 _ _ _ ht, d3 _ _ _ q⟩⟩)
        rw [if_neg (fun q => by rw [hb0.mp (by simpa using q)] at ht; cases ht), c1]
        simp only [bndE_some, bi0]
        have b5 : ∀ k z, Z0 p 0 c = true → Z0 c k z = true → z ≠ p → Z2 p k z = true := fun k z _ q2 q3 => c6 k z (d2 _ _ _ q2) q3
        by_cases hs : Sub Z2 Zc
        · rw [if_pos (B_false.mpr (fun q => q hs))]
          obtain rfl := Sub.anti c4 hs
          exact key R2 Zc c2 c3 (Sub.rf _) c5 b5
        · rw [if_neg (by rw [B_iff.mpr hs]; decide)]
          have e : nI 1 = bi (B (¬ Sub Z2 Zs)) := by rw [B_iff.mpr (sub_ne a4 hs)]; rfl
          rw [e]
          exact key R2 Z2 c2 c3 c4 c5 b5
      · rw [if_pos (by simpa using hb0.mpr (by simpa using ht))]
        exact key R Zc a2 (SameB.rf _ _) (Sub.rf _) a5 (fun k z q1 => absurd (ho1 _ _ _ q1) ht)
    · obtain rfl : c = n := by omega
      refine Or.inr ⟨(bi (B (¬ Sub Zc Zs)), R), ?_, Zc, rfl, a2, a3, a4, a5, a6⟩
      simp only [m_X3_doStepsOf_L13, r0]
      simp (disch := omega) only [k_0, k_1, k_2, k_3, k_4, k_5, k_6, k_7, k_8, k_9, k_10, k_14, k_16, k_28, k_30, k_48, k_49, k_57, k_100, k_110, k_127, k_128, k_196, k_255, k_1000, k_1024, k_10000, nI_add, nI_mul, nI_div, irm_nI, nle, nlt, neq, gd_t, inb_nI, cl_nI, bnd_eq, gdT, gdo, gb0, gb1, gbi, bi0, bi1, bi0r, Option.bind_some, bndE_some, ite_t, ite_f]) (x := (nI 0, nI 0, T)) ⟨by omega, rfl, Zs, by rw [B_false.mpr (fun q => q (Sub.rf _))]; rfl, hT, SameB.rf _ _, Sub.rf _, hsU, fun y hy => by omega⟩
  simp only at h2
  subst h2
  refine ⟨T', Z', ?_, h3, h4, h5, h6, fun y k z => ?_⟩
  · simp (disch := omega) only [k_0, k_1, k_2, k_3, k_4, k_5, k_6, k_7, k_8, k_9, k_10, k_14, k_16, k_28, k_30, k_48, k_49, k_57, k_100, k_110, k_127, k_128, k_196, k_255, k_1000, k_1024, k_10000, nI_add, nI_mul, nI_div, irm_nI, nle, nlt, neq, gd_t, inb_nI, cl_nI, bnd_eq, gdT, gdo, gb0, gb1, gbi, bi0, bi1, bi0r, Option.bind_some, bndE_some, ite_t, ite_f, hw]
    rw [h1]
    simp (disch := omega) only [k_0, k_1, k_2, k_3, k_4, k_5, k_6, k_7, k_8, k_9, k_10, k_14, k_16, k_28, k_30, k_48, k_49, k_57, k_100, k_110, k_127, k_128, k_196, k_255, k_1000, k_1024, k_10000, nI_add, nI_mul, nI_div, irm_nI, nle, nlt, neq, gd_t, inb_nI, cl_nI, bnd_eq, gdT, gdo, gb0, gb1, gbi, bi0, bi1, bi0r, Option.bind_some, bndE_some, ite_t, ite_f]
  · by_cases hy : y < n
    · exact h7 y hy k z
    · exact ⟨fun q1 => absurd (ho.2.1 _ _ _ (ho1 _ _ _ q1)).2.2.1 hy, fun q1 => absurd (ho.2.1 _ _ _ (ho1 _ _ _ q1)).2.2.1 hy⟩
/-- all steps of the awake -/
theorem doSteps_ok (hm : o = i → G = U) (h0 : Sub Z0 G) (hUn : ∀ x k y, nw A G x k y → U x k y = true) (hA : ∀ p, p < n → (A p = true ↔ K p = 1)) (hA2 : ∀ p, A p = true → p < n) {T : Hs} (hT : RepS T i n K Z0) (hZU : Sub Z0 U) (hB : Bef i o n K2 Z0 T) :
    ∃ (T' : Hs) (Z' : Rt), m_X3_doSteps i o T = some (bi (B (¬ Sub Z' Z0)), T') ∧ RepS T' i n K Z' ∧ SameB i T T' ∧ Sub Z0 Z' ∧ Sub Z' U ∧ Sub (stp A Z0) Z' := by
  have hn := hT.1
  unfold m_X3_doSteps
  obtain ⟨⟨f, T'⟩, h1, Z', h2, h3, h4, h5, h6, h7⟩ := loopO_inv (f := fun x : Int32 × Int32 × Hs => m_X3_doSteps_L4 i o x.1 x.2.1 x.2.2) (fun c q => c ≤ n ∧ q.2.1 = nI c ∧ ∃ Zc, q.1 = bi (B (¬ Sub Zc Z0)) ∧ RepS q.2.2 i n K Zc ∧ SameB i T q.2.2 ∧ Sub Z0 Zc ∧ Sub Zc U ∧ ∀ p, p < c → A p = true → ∀ y k z, (Z0 p 0 y = true → Z0 y k z = true → z ≠ p → Zc p k z = true) ∧ (Z0 p 1 y = true → Z0 p k z = true → z ≠ y → Zc y k z = true)) (fun r => ∃ Zc, r.1 = bi (B (¬ Sub Zc Z0)) ∧ RepS r.2 i n K Zc ∧ SameB i T r.2 ∧ Sub Z0 Zc ∧ Sub Zc U ∧ ∀ p, p < n → A p = true → ∀ y k z, (Z0 p 0 y = true → Z0 y k z = true → z ≠ p → Zc p k z = true) ∧ (Z0 p 1 y = true → Z0 p k z = true → z ≠ y → Zc y k z = true)) 7 (fun c q hq => by
    obtain ⟨fl1, v, R⟩ := q
    obtain ⟨hc, hv, Zc, a1, a2, a3, a4, a5, a6⟩ := hq
    simp only at hv a1 a2 a3 a4 a5 a6
    subst hv a1
    have r0 : gI R i 0 = nI n := a2.2.2.1
    by_cases hcn : c < n
    · refine Or.inl ⟨by omega, ?_⟩
      simp only [m_X3_doSteps_L4, m_X3_doSteps_J31, r0]
      simp (disch := omega) only [k_0, k_1, k_2, k_3, k_4, k_5, k_6, k_7, k_8, k_9, k_10, k_14, k_16, k_28, k_30, k_48, k_49, k_57, k_100, k_110, k_127, k_128, k_196, k_255, k_1000, k_1024, k_10000, nI_add, nI_mul, nI_div, irm_nI, nle, nlt, neq, gd_t, inb_nI, cl_nI, bnd_eq, gdT, gdo, gb0, gb1, gbi, bi0, bi1, bi0r, Option.bind_some, bndE_some, ite_t, ite_f, isAwake_bi a2 (show c < 32 by omega)]
      by_cases hk : K c = 1
      · obtain ⟨R2, Z2, c1, c2, c3, c4, c5, c6⟩ := doStepsOf_ok hm h0 hUn a2 a4 a5 (hB.keep a3) hcn ((hA c hcn).mpr hk)
        rw [if_neg (by simp [hk, hcn]), c1]
        simp only [bndE_some, bi0]
        have done : ∀ p, p < c + 1 → A p = true → ∀ y k z, (Z0 p 0 y = true → Z0 y k z = true → z ≠ p → Z2 p k z = true) ∧ (Z0 p 1 y = true → Z0 p k z = true → z ≠ y → Z2 y k z = true) := by
          intro p hp hap y k z
          by_cases hpc : p = c
          · subst hpc
            exact c6 y k z
          · have := a6 p (by omega) hap y k z
            exact ⟨fun q1 q2 q3 => c4 _ _ _ (this.1 q1 q2 q3), fun q1 q2 q3 => c4 _ _ _ (this.2 q1 q2 q3)⟩
        by_cases hs : Sub Z2 Zc
        · rw [if_pos (B_false.mpr (fun q => q hs))]
          obtain rfl := Sub.anti c4 hs
          exact ⟨_, rfl, by omega, rfl, Zc, rfl, c2, a3.tr c3, a4, c5, done⟩
        · rw [if_neg (by rw [B_iff.mpr hs]; decide)]
          have : B (¬ Sub Z2 Z0) = true := B_iff.mpr (sub_ne a4 hs)
          exact ⟨_, rfl, by omega, rfl, Z2, by rw [this]; rfl, c2, a3.tr c3, a4.tr c4, c5, done⟩
      · rw [if_pos (by simp [hk])]
        refine ⟨_, rfl, by omega, rfl, Zc, rfl, a2, a3, a4, a5, fun p hp hap => ?_⟩
        by_cases hpc : p = c
        · subst hpc
          exact absurd ((hA p hcn).mp hap) hk
        · exact a6 p (by omega) hap
    · obtain rfl : c = n := by omega
      refine Or.inr ⟨(bi (B (¬ Sub Zc Z0)), R), ?_, Zc, rfl, a2, a3, a4, a5, a6⟩
      simp only [m_X3_doSteps_L4, r0]
      simp (disch := omega) only [k_0, k_1, k_2, k_3, k_4, k_5, k_6, k_7, k_8, k_9, k_10, k_14, k_16, k_28, k_30, k_48, k_49, k_57, k_100, k_110, k_127, k_128, k_196, k_255, k_1000, k_1024, k_10000, nI_add, nI_mul, nI_div, irm_nI, nle, nlt, neq, gd_t, inb_nI, cl_nI, bnd_eq, gdT, gdo, gb0, gb1, gbi, bi0, bi1, bi0r, Option.bind_some, bndE_some, ite_t, ite_f]) (x := (nI 0, nI 0, T)) ⟨by omega, rfl, Z0, by rw [B_false.mpr (fun q => q (Sub.rf _))]; rfl, hT, SameB.rf _ _, Sub.rf _, hZU, fun y hy => by omega⟩
  simp only at h2
  subst h2
  refine ⟨T', Z', ?_, h3, h4, h5, h6, fun x k y q => ?_⟩
  · simp (disch := omega) only [k_0, k_1, k_2, k_3, k_4, k_5, k_6, k_7, k_8, k_9, k_10, k_14, k_16, k_28, k_30, k_48, k_49, k_57, k_100, k_110, k_127, k_128, k_196, k_255, k_1000, k_1024, k_10000, nI_add, nI_mul, nI_div, irm_nI, nle, nlt, neq, gd_t, inb_nI, cl_nI, bnd_eq, gdT, gdo, gb0, gb1, gbi, bi0, bi1, bi0r, Option.bind_some, bndE_some, ite_t, ite_f]
    rw [h1]
    simp (disch := omega) only [k_0, k_1, k_2, k_3, k_4, k_5, k_6, k_7, k_8, k_9, k_10, k_14, k_16, k_28, k_30, k_48, k_49, k_57, k_100, k_110, k_127, k_128, k_196, k_255, k_1000, k_1024, k_10000, nI_add, nI_mul, nI_div, irm_nI, nle, nlt, neq, gd_t, inb_nI, cl_nI, bnd_eq, gdT, gdo, gb0, gb1, gbi, bi0, bi1, bi0r, Option.bind_some, bndE_some, ite_t, ite_f]
  · rcases stp_iff.mp q with q | ⟨hne, ⟨ha, g, q1, q2⟩ | ⟨p, ha, q1, q2⟩⟩
    · exact h5 _ _ _ q
    · exact (h7 x (hA2 x ha) ha g k y).1 q1 q2 (fun e => hne e.symm)
    · exact (h7 p (hA2 p ha) ha x k y).2 q1 q2 (fun e => hne e.symm)
