/-! the commands of scripts -/
/-- a command on a state: what it leaves, or that it fails -/
noncomputable def cmd (c : Ab) (o p1 p2 p3 p4 : Nat) : Option Ab :=
  if o = 1 ∨ o = 2 then (if (p1 < c.1 ∧ p2 < c.1 ∧ p3 < 4 ∧ p4 < c.1 ∧ p1 ≠ p2 ∧ p1 ≠ p4 ∧ p2 ≠ p4) ∧ bars c.2.1 c.2.2 (decide (o = 2)) p1 p2 p3 p4 = 0 ∧ (c.2.2 (if decide (o = 2) = true then p2 else p1) p3 p4 = true ∨ cnt c.2.2 < 30) then some (c.1, c.2.1, upR c.2.2 (if decide (o = 2) = true then p2 else p1) p3 p4 true) else none)
  else if o = 3 then (if p4 ≤ 1 ∧ (p1 < c.1 ∧ p2 < 4 ∧ p3 < c.1 ∧ p1 ≠ p3) ∧ ¬ (p4 = 1 ∧ c.2.2 p1 p2 p3 = false ∧ cnt c.2.2 = 30) then some (c.1, c.2.1, upR c.2.2 p1 p2 p3 (decide (p4 = 1))) else none)
  else if o = 4 then (if p2 ≤ 1 ∧ p3 = 0 ∧ p4 = 0 ∧ p1 < c.1 ∧ c.2.1 p1 ≠ 0 then some (c.1, wkK c.2.1 p1 (decide (p2 = 1)), c.2.2) else none)
  else if o = 5 then (if p2 = 0 ∧ p3 = 0 ∧ p4 = 0 ∧ p1 < c.1 then some (c.1 - 1, dK p1 c.2.1, dR p1 c.2.2) else none)
  else if o = 6 then (if p4 = 0 ∧ (p1 < c.1 ∧ p2 < 4 ∧ p3 < c.1 ∧ p1 ≠ p3) ∧ c.2.2 p1 p2 p3 = true then some c else none)
  else if o = 7 then (if p4 = 0 ∧ (p1 < c.1 ∧ p2 < 4 ∧ p3 < c.1 ∧ p1 ≠ p3) ∧ Clo (aw c.1 c.2.1) c.2.2 p1 p2 p3 = true then some c else none)
  else if o = 8 then (if p1 = 0 ∧ cnt (Clo (aw c.1 c.2.1) c.2.2) ≤ 100 * p2 + 10 * p3 + p4 then some c else none)
  else if o = 9 then (if p3 = 0 ∧ p4 = 0 ∧ p1 < c.1 ∧ p2 < c.1 ∧ p1 ≠ p2 ∧ lr (hr c.2.1 c.2.2) p1 p2 = true then some c else none)
  else none
theorem ite_some {α : Type} {p : Prop} [Decidable p] {a b : α} (h : (if p then some a else none) = some b) : p ∧ a = b := by
  by_cases hp : p
  · rw [if_pos hp] at h
    exact ⟨hp, Option.some.inj h⟩
  · rw [if_neg hp] at h
    cases h
theorem cmd_ok {c c' : Ab} (h : AOk c) {o p1 p2 p3 p4 : Nat} (hc : cmd c o p1 p2 p3 p4 = some c') : AOk c' := by
  obtain ⟨n, K, Z⟩ := c
  have hn : n ≤ 7 := h.1
  have h30 : cnt Z ≤ 30 := h.2.2.2
  unfold cmd at hc
  by_cases h12 : o = 1 ∨ o = 2
  · rw [if_pos h12] at hc
    obtain ⟨⟨⟨q1, q2, q3, q4, q5, q6, q7⟩, q8, q9⟩, rfl⟩ := ite_some hc
    by_cases ho : o = 2
    · rw [decide_eq_true ho] at q9 ⊢
      exact h.put q2 q3 q4 q7 fun _ => q9
    · rw [decide_eq_false ho] at q9 ⊢
      exact h.put q1 q3 q4 q6 fun _ => q9
  rw [if_neg h12] at hc
  by_cases h3 : o = 3
  · rw [if_pos h3] at hc
    obtain ⟨⟨q1, ⟨q2, q3, q4, q5⟩, q6⟩, rfl⟩ := ite_some hc
    refine h.put q2 q3 q4 q5 fun e => ?_
    rw [decide_eq_true_eq] at e
    cases hz : Z p1 p2 p3
    · right
      have : ¬ cnt Z = 30 := fun e2 => q6 ⟨e, hz, e2⟩
      omega
    · exact Or.inl rfl
  rw [if_neg h3] at hc
  by_cases h4 : o = 4
  · rw [if_pos h4] at hc
    obtain ⟨-, rfl⟩ := ite_some hc
    refine ⟨hn, h.2.1, fun j hj => ?_, h30⟩
    show wkK K p1 _ j < 3
    unfold wkK
    by_cases hjx : j = p1
    · rw [if_pos hjx]; split <;> omega
    · rw [if_neg hjx]; exact h.2.2.1 j hj
  rw [if_neg h4] at hc
  by_cases h5 : o = 5
  · rw [if_pos h5] at hc
    obtain ⟨hq, rfl⟩ := ite_some hc
    exact h.drop hq.2.2.2
  rw [if_neg h5] at hc
  repeat' split at hc
  all_goals first | (cases hc; exact h) | cases hc
/-- both sides of a command, given by what they answer -/
noncomputable def digs (grp : Nat) (c : Ab) : Option Ab := cmd c (grp / 10000) (grp / 1000 % 10) (grp / 100 % 10) (grp / 10 % 10) (grp % 10)
theorem isR_nI {n a k b : Nat} (hn : n ≤ 7) (ha : a < 1000) (hk : k < 1000) (hb : b < 1000) : isR n (nI a) (nI k) (nI b) = decide (a < n ∧ k < 4 ∧ b < n ∧ a ≠ b) := by
  unfold isR
  rw [isT_nI (by omega) (by omega), isT_nI (by omega) (by omega), isT_nI (by omega) (by omega)]
  have e : (nI a = nI b) = (a = b) := propext (neq (by omega) (by omega))
  simp only [e]
  by_cases h1 : a < n <;> by_cases h2 : b < n <;> by_cases h3 : a = b <;> by_cases h4 : k < 4 <;> simp [h1, h2, h3, h4]
theorem isS_nI {n a b k d : Nat} (hn : n ≤ 7) (ha : a < 1000) (hb : b < 1000) (hk : k < 1000) (hd : d < 1000) : isS n (nI a) (nI b) (nI k) (nI d) = decide (a < n ∧ b < n ∧ k < 4 ∧ d < n ∧ a ≠ b ∧ a ≠ d ∧ b ≠ d) := by
  unfold isS
  rw [isR_nI hn ha hk hb, isR_nI hn ha hk hd, isR_nI hn hb hk hd]
  by_cases h1 : a < n <;> by_cases h2 : b < n <;> by_cases h3 : d < n <;> by_cases h4 : k < 4 <;> by_cases h5 : a = b <;> by_cases h6 : a = d <;> by_cases h7 : b = d <;> simp [h1, h2, h3, h4, h5, h6, h7]
/-- a class's command's answer: whether it succeeds, and the copy behind it -/
def CmC (S : Hs) (r : Option (Int32 × Hs)) (oc : Option Ab) : Prop := ∃ S', r = some (bi oc.isSome, S') ∧ Kp S S' ∧ ∀ c', oc = some c' → RS S' 63 c'
theorem CmC.no {S : Hs} {r : Option (Int32 × Hs)} {oc : Option Ab} (h : oc = none) (S' : Hs) (hr : r = some (nI 0, S')) (k : Kp S S') : CmC S r oc := ⟨S', by rw [hr, h]; rfl, k, fun c' q => by rw [h] at q; cases q⟩
theorem CmC.yes {S : Hs} {r : Option (Int32 × Hs)} {oc : Option Ab} {c' : Ab} (h : oc = some c') (S' : Hs) (hr : r = some (nI 1, S')) (k : Kp S S') (g : RS S' 63 c') : CmC S r oc := ⟨S', by rw [hr, h]; rfl, k, fun c2 q => by rw [h] at q; cases q; exact g⟩
theorem gd01 {α : Type} (o : Bool) (k : Option α) : gd (decide (bi o = 0 ∨ bi o = 1)) k = k := gd_t (by cases o <;> decide) k
variable {S : Hs} {n : Nat} {K : Kd} {Z : Rt}
theorem commandStep_ok (h : RepS S 63 n K Z) (g : Bool) {p1 p2 p3 p4 : Nat} (h1 : p1 < 10) (h2 : p2 < 10) (h3 : p3 < 10) (h4 : p4 < 10) : CmC S (m_X5_commandStep (bi g) (nI p1) (nI p2) (nI p3) (nI p4) S) (if (p1 < n ∧ p2 < n ∧ p3 < 4 ∧ p4 < n ∧ p1 ≠ p2 ∧ p1 ≠ p4 ∧ p2 ≠ p4) ∧ bars K Z g p1 p2 p3 p4 = 0 ∧ (Z (if g = true then p2 else p1) p3 p4 = true ∨ cnt Z < 30) then some (n, K, upR Z (if g = true then p2 else p1) p3 p4 true) else none) := by
  have hn := h.1
  have hs := isStep_bi h (nI p1) (nI p2) (nI p3) (nI p4)
  rw [isS_nI hn (by omega) (by omega) (by omega) (by omega)] at hs
  by_cases hv : p1 < n ∧ p2 < n ∧ p3 < 4 ∧ p4 < n ∧ p1 ≠ p2 ∧ p1 ≠ p4 ∧ p2 ≠ p4
  · obtain ⟨q1, q2, q3, q4, q5, q6, q7⟩ := id hv
    rw [decide_eq_true hv] at hs
    have ha := allowsStep_ok h q1 q2 q3 q4 g
    by_cases hok : bars K Z g p1 p2 p3 p4 = 0 ∧ (Z (if g = true then p2 else p1) p3 p4 = true ∨ cnt Z < 30)
    · have hall : (decide (bars K Z g p1 p2 p3 p4 = 0) && (Z (if g then p2 else p1) p3 p4 || decide (cnt Z < 30))) = true := by
        rw [decide_eq_true hok.1, Bool.true_and]
        rcases hok.2 with e | e
        · rw [e]; rfl
        · rw [decide_eq_true e, Bool.or_true]
      rw [hall] at ha
      have hto : (if g then p2 else p1) < n := by cases g <;> assumption
      have hne : (if g then p2 else p1) ≠ p4 := by cases g <;> assumption
      obtain ⟨S1, l1, l2, l3⟩ := put_ok h hto q3 q4 hne (nI 1)
      rw [show decide (nI 1 ≠ 0) = true from by decide] at l2
      refine CmC.yes (if_pos ⟨hv, hok⟩) S1 ?_ (Kp.ofB l3 (by omega)) l2
      unfold m_X5_commandStep m_X5_commandStep_J48
      rw [hs, Option.bind_some, if_neg (by decide), ha, Option.bind_some, if_neg (by decide)]
      cases g
      · rw [if_pos (by rfl), ix_nI, Option.bind_some]
        have l1' : m_X3_put 63 (nI (ix p1 p3 p4)) 1 S = some S1 := l1
        rw [l1']
        rfl
      · rw [if_neg (by decide), ix_nI, Option.bind_some]
        have l1' : m_X3_put 63 (nI (ix p2 p3 p4)) 1 S = some S1 := l1
        rw [l1']
        rfl
    · have hall : (decide (bars K Z g p1 p2 p3 p4 = 0) && (Z (if g then p2 else p1) p3 p4 || decide (cnt Z < 30))) = false := by
        cases hq : (decide (bars K Z g p1 p2 p3 p4 = 0) && (Z (if g then p2 else p1) p3 p4 || decide (cnt Z < 30)))
        · rfl
        · rw [Bool.and_eq_true, Bool.or_eq_true, decide_eq_true_eq, decide_eq_true_eq] at hq
          exact absurd hq hok
      rw [hall] at ha
      refine CmC.no (if_neg fun e => hok e.2) S ?_ (Kp.rf S)
      unfold m_X5_commandStep m_X5_commandStep_J33
      rw [hs, Option.bind_some, if_neg (by decide), ha, Option.bind_some, if_pos (by rfl)]
      rfl
  · rw [decide_eq_false hv] at hs
    refine CmC.no (if_neg fun e => hv e.1) S ?_ (Kp.rf S)
    unfold m_X5_commandStep m_X5_commandStep_J33
    rw [hs, Option.bind_some, if_pos (by rfl)]
    rfl
theorem commandSet_ok (h : RepS S 63 n K Z) (h30 : cnt Z ≤ 30) {p1 p2 p3 p4 : Nat} (h1 : p1 < 10) (h2 : p2 < 10) (h3 : p3 < 10) (h4 : p4 < 10) : CmC S (m_X5_commandSet (nI p1) (nI p2) (nI p3) (nI p4) S) (if p4 ≤ 1 ∧ (p1 < n ∧ p2 < 4 ∧ p3 < n ∧ p1 ≠ p3) ∧ ¬ (p4 = 1 ∧ Z p1 p2 p3 = false ∧ cnt Z = 30) then some (n, K, upR Z p1 p2 p3 (decide (p4 = 1))) else none) := by
  have hn := h.1
  have hs := isRight_bi h (nI p1) (nI p2) (nI p3)
  rw [isR_nI hn (by omega) (by omega) (by omega)] at hs
  by_cases hp4 : p4 ≤ 1
  · by_cases hv : p1 < n ∧ p2 < 4 ∧ p3 < n ∧ p1 ≠ p3
    · obtain ⟨q1, q2, q3, q4⟩ := id hv
      rw [decide_eq_true hv] at hs
      have hr := hasRoomFor_bi h (show p1 < 7 by omega) q2 (show p3 < 7 by omega)
      by_cases hfull : p4 = 1 ∧ Z p1 p2 p3 = false ∧ cnt Z = 30
      · refine CmC.no (if_neg fun e => e.2.2 hfull) S ?_ (Kp.rf S)
        unfold m_X5_commandSet
        simp (disch := omega) only [k_0, k_1, k_2, k_3, k_4, k_5, k_6, k_7, k_8, k_9, k_10, k_14, k_16, k_28, k_30, k_48, k_49, k_57, k_100, k_110, k_127, k_128, k_196, k_255, k_1000, k_1024, k_10000, nI_add, nI_mul, nI_div, irm_nI, nle, nlt, neq, gd_t, inb_nI, cl_nI, bnd_eq, gdT, gdo, gb0, gb1, gbi, bi0, bi1, bi0r, Option.bind_some, bndE_some, ite_t, ite_f, k_m9, k_m1, k_13, k_15, k_18, k_19, k_112, k_114, k_115, k_98, k_103, k_116, k_119, k_47, k_82, k_50, k_51, k_99, k_700, k_197, ne9, ne9s, nI_ne0s, ↓reduceIte, hs, Bool.true_eq_false, hfull.1, ix_nI, hr, hfull.2.1, hfull.2.2]
        simp
      · obtain rfl | rfl : p4 = 0 ∨ p4 = 1 := by omega
        · obtain ⟨S1, l1, l2, l3⟩ := put_ok h q1 q2 q3 q4 (nI 0)
          refine CmC.yes (if_pos ⟨hp4, hv, hfull⟩) S1 ?_ (Kp.ofB l3 (by omega)) l2
          unfold m_X5_commandSet m_X5_commandSet_J49 m_X5_commandSet_J66
          simp (disch := omega) only [k_0, k_1, k_2, k_3, k_4, k_5, k_6, k_7, k_8, k_9, k_10, k_14, k_16, k_28, k_30, k_48, k_49, k_57, k_100, k_110, k_127, k_128, k_196, k_255, k_1000, k_1024, k_10000, nI_add, nI_mul, nI_div, irm_nI, nle, nlt, neq, gd_t, inb_nI, cl_nI, bnd_eq, gdT, gdo, gb0, gb1, gbi, bi0, bi1, bi0r, Option.bind_some, bndE_some, ite_t, ite_f, k_m9, k_m1, k_13, k_15, k_18, k_19, k_112, k_114, k_115, k_98, k_103, k_116, k_119, k_47, k_82, k_50, k_51, k_99, k_700, k_197, ne9, ne9s, nI_ne0s, ↓reduceIte, hs, Bool.true_eq_false, ix_nI, l1]
        · obtain ⟨S1, l1, l2, l3⟩ := put_ok h q1 q2 q3 q4 (nI 1)
          rw [show decide (nI 1 ≠ 0) = true from by decide] at l2
          have hroom : (Z p1 p2 p3 || decide (cnt Z < 30)) = true := by
            cases hz : Z p1 p2 p3
            · have : ¬ cnt Z = 30 := fun e => hfull ⟨rfl, hz, e⟩
              rw [decide_eq_true (show cnt Z < 30 by omega)]
              rfl
            · rfl
          rw [hroom] at hr
          refine CmC.yes (if_pos ⟨hp4, hv, hfull⟩) S1 ?_ (Kp.ofB l3 (by omega)) l2
          unfold m_X5_commandSet m_X5_commandSet_J49 m_X5_commandSet_J66
          simp (disch := omega) only [k_0, k_1, k_2, k_3, k_4, k_5, k_6, k_7, k_8, k_9, k_10, k_14, k_16, k_28, k_30, k_48, k_49, k_57, k_100, k_110, k_127, k_128, k_196, k_255, k_1000, k_1024, k_10000, nI_add, nI_mul, nI_div, irm_nI, nle, nlt, neq, gd_t, inb_nI, cl_nI, bnd_eq, gdT, gdo, gb0, gb1, gbi, bi0, bi1, bi0r, Option.bind_some, bndE_some, ite_t, ite_f, k_m9, k_m1, k_13, k_15, k_18, k_19, k_112, k_114, k_115, k_98, k_103, k_116, k_119, k_47, k_82, k_50, k_51, k_99, k_700, k_197, ne9, ne9s, nI_ne0s, ↓reduceIte, hs, Bool.true_eq_false, ix_nI, hr, l1]
    · rw [decide_eq_false hv] at hs
      refine CmC.no (if_neg fun e => hv e.2.1) S ?_ (Kp.rf S)
      unfold m_X5_commandSet m_X5_commandSet_J19
      simp (disch := omega) only [k_0, k_1, k_2, k_3, k_4, k_5, k_6, k_7, k_8, k_9, k_10, k_14, k_16, k_28, k_30, k_48, k_49, k_57, k_100, k_110, k_127, k_128, k_196, k_255, k_1000, k_1024, k_10000, nI_add, nI_mul, nI_div, irm_nI, nle, nlt, neq, gd_t, inb_nI, cl_nI, bnd_eq, gdT, gdo, gb0, gb1, gbi, bi0, bi1, bi0r, Option.bind_some, bndE_some, ite_t, ite_f, k_m9, k_m1, k_13, k_15, k_18, k_19, k_112, k_114, k_115, k_98, k_103, k_116, k_119, k_47, k_82, k_50, k_51, k_99, k_700, k_197, ne9, ne9s, nI_ne0s, ↓reduceIte, hs]
  · refine CmC.no (if_neg fun e => hp4 e.1) S ?_ (Kp.rf S)
    unfold m_X5_commandSet m_X5_commandSet_J19
    simp (disch := omega) only [k_0, k_1, k_2, k_3, k_4, k_5, k_6, k_7, k_8, k_9, k_10, k_14, k_16, k_28, k_30, k_48, k_49, k_57, k_100, k_110, k_127, k_128, k_196, k_255, k_1000, k_1024, k_10000, nI_add, nI_mul, nI_div, irm_nI, nle, nlt, neq, gd_t, inb_nI, cl_nI, bnd_eq, gdT, gdo, gb0, gb1, gbi, bi0, bi1, bi0r, Option.bind_some, bndE_some, ite_t, ite_f, k_m9, k_m1, k_13, k_15, k_18, k_19, k_112, k_114, k_115, k_98, k_103, k_116, k_119, k_47, k_82, k_50, k_51, k_99, k_700, k_197, ne9, ne9s, nI_ne0s, ↓reduceIte]
theorem commandWake_ok (h : RepS S 63 n K Z) {p1 p2 : Nat} (h1 : p1 < 10) (h2 : p2 < 10) : CmC S (m_X5_commandWake (nI p1) (nI p2) S) (if p2 ≤ 1 ∧ p1 < n ∧ K p1 ≠ 0 then some (n, wkK K p1 (decide (p2 = 1)), Z) else none) := by
  have hn := h.1
  have he := exists_bi h (nI p1)
  rw [isT_nI (by omega) (by omega)] at he
  by_cases hp2 : p2 ≤ 1
  · by_cases hx : p1 < n
    · rw [decide_eq_true hx] at he
      have hp := isPerson_bi h (show p1 < 32 by omega)
      by_cases hk : K p1 = 0
      · refine CmC.no (if_neg fun e => e.2.2 hk) S ?_ (Kp.rf S)
        rw [decide_eq_false (fun e => e.2 hk)] at hp
        unfold m_X5_commandWake m_X5_commandWake_J27
        simp (disch := omega) only [k_0, k_1, k_2, k_3, k_4, k_5, k_6, k_7, k_8, k_9, k_10, k_14, k_16, k_28, k_30, k_48, k_49, k_57, k_100, k_110, k_127, k_128, k_196, k_255, k_1000, k_1024, k_10000, nI_add, nI_mul, nI_div, irm_nI, nle, nlt, neq, gd_t, inb_nI, cl_nI, bnd_eq, gdT, gdo, gb0, gb1, gbi, bi0, bi1, bi0r, Option.bind_some, bndE_some, ite_t, ite_f, k_m9, k_m1, k_13, k_15, k_18, k_19, k_112, k_114, k_115, k_98, k_103, k_116, k_119, k_47, k_82, k_50, k_51, k_99, k_700, k_197, ne9, ne9s, nI_ne0s, ↓reduceIte, he, Bool.true_eq_false, hp]
      · rw [decide_eq_true ⟨hx, hk⟩] at hp
        obtain ⟨S1, l1, l2, l3⟩ := setAwake_ok h hx hk (decide (p2 = 1))
        refine CmC.yes (if_pos ⟨hp2, hx, hk⟩) S1 ?_ (Kp.ofB l3 (by omega)) l2
        unfold m_X5_commandWake m_X5_commandWake_J44
        obtain rfl | rfl : p2 = 0 ∨ p2 = 1 := by omega
        · have l1' : m_X3_setAwake 63 (nI p1) (nI 0) S = some S1 := l1
          simp (disch := omega) only [k_0, k_1, k_2, k_3, k_4, k_5, k_6, k_7, k_8, k_9, k_10, k_14, k_16, k_28, k_30, k_48, k_49, k_57, k_100, k_110, k_127, k_128, k_196, k_255, k_1000, k_1024, k_10000, nI_add, nI_mul, nI_div, irm_nI, nle, nlt, neq, gd_t, inb_nI, cl_nI, bnd_eq, gdT, gdo, gb0, gb1, gbi, bi0, bi1, bi0r, Option.bind_some, bndE_some, ite_t, ite_f, k_m9, k_m1, k_13, k_15, k_18, k_19, k_112, k_114, k_115, k_98, k_103, k_116, k_119, k_47, k_82, k_50, k_51, k_99, k_700, k_197, ne9, ne9s, nI_ne0s, ↓reduceIte, he, Bool.true_eq_false, hp, l1']
        · have l1' : m_X3_setAwake 63 (nI p1) (nI 1) S = some S1 := l1
          simp (disch := omega) only [k_0, k_1, k_2, k_3, k_4, k_5, k_6, k_7, k_8, k_9, k_10, k_14, k_16, k_28, k_30, k_48, k_49, k_57, k_100, k_110, k_127, k_128, k_196, k_255, k_1000, k_1024, k_10000, nI_add, nI_mul, nI_div, irm_nI, nle, nlt, neq, gd_t, inb_nI, cl_nI, bnd_eq, gdT, gdo, gb0, gb1, gbi, bi0, bi1, bi0r, Option.bind_some, bndE_some, ite_t, ite_f, k_m9, k_m1, k_13, k_15, k_18, k_19, k_112, k_114, k_115, k_98, k_103, k_116, k_119, k_47, k_82, k_50, k_51, k_99, k_700, k_197, ne9, ne9s, nI_ne0s, ↓reduceIte, he, Bool.true_eq_false, hp, l1']
    · rw [decide_eq_false hx] at he
      refine CmC.no (if_neg fun e => hx e.2.1) S ?_ (Kp.rf S)
      unfold m_X5_commandWake m_X5_commandWake_J27
      simp (disch := omega) only [k_0, k_1, k_2, k_3, k_4, k_5, k_6, k_7, k_8, k_9, k_10, k_14, k_16, k_28, k_30, k_48, k_49, k_57, k_100, k_110, k_127, k_128, k_196, k_255, k_1000, k_1024, k_10000, nI_add, nI_mul, nI_div, irm_nI, nle, nlt, neq, gd_t, inb_nI, cl_nI, bnd_eq, gdT, gdo, gb0, gb1, gbi, bi0, bi1, bi0r, Option.bind_some, bndE_some, ite_t, ite_f, k_m9, k_m1, k_13, k_15, k_18, k_19, k_112, k_114, k_115, k_98, k_103, k_116, k_119, k_47, k_82, k_50, k_51, k_99, k_700, k_197, ne9, ne9s, nI_ne0s, ↓reduceIte, he]
  · refine CmC.no (if_neg fun e => hp2 e.1) S ?_ (Kp.rf S)
    unfold m_X5_commandWake m_X5_commandWake_J27
    simp (disch := omega) only [k_0, k_1, k_2, k_3, k_4, k_5, k_6, k_7, k_8, k_9, k_10, k_14, k_16, k_28, k_30, k_48, k_49, k_57, k_100, k_110, k_127, k_128, k_196, k_255, k_1000, k_1024, k_10000, nI_add, nI_mul, nI_div, irm_nI, nle, nlt, neq, gd_t, inb_nI, cl_nI, bnd_eq, gdT, gdo, gb0, gb1, gbi, bi0, bi1, bi0r, Option.bind_some, bndE_some, ite_t, ite_f, k_m9, k_m1, k_13, k_15, k_18, k_19, k_112, k_114, k_115, k_98, k_103, k_116, k_119, k_47, k_82, k_50, k_51, k_99, k_700, k_197, ne9, ne9s, nI_ne0s, ↓reduceIte]
theorem commandRemove_ok (h : RepS S 63 n K Z) {p1 : Nat} (h1 : p1 < 10) : CmC S (m_X5_commandRemove (nI p1) S) (if p1 < n then some (n - 1, dK p1 K, dR p1 Z) else none) := by
  have hn := h.1
  have he := exists_bi h (nI p1)
  rw [isT_nI (by omega) (by omega)] at he
  by_cases hx : p1 < n
  · rw [decide_eq_true hx] at he
    obtain ⟨S1, l1, l2, l3⟩ := removeOne_ok h hx
    refine CmC.yes (if_pos hx) S1 ?_ (Kp.ofB l3 (by omega)) l2
    unfold m_X5_commandRemove
    simp (disch := omega) only [k_0, k_1, k_2, k_3, k_4, k_5, k_6, k_7, k_8, k_9, k_10, k_14, k_16, k_28, k_30, k_48, k_49, k_57, k_100, k_110, k_127, k_128, k_196, k_255, k_1000, k_1024, k_10000, nI_add, nI_mul, nI_div, irm_nI, nle, nlt, neq, gd_t, inb_nI, cl_nI, bnd_eq, gdT, gdo, gb0, gb1, gbi, bi0, bi1, bi0r, Option.bind_some, bndE_some, ite_t, ite_f, k_m9, k_m1, k_13, k_15, k_18, k_19, k_112, k_114, k_115, k_98, k_103, k_116, k_119, k_47, k_82, k_50, k_51, k_99, k_700, k_197, ne9, ne9s, nI_ne0s, ↓reduceIte, he, Bool.true_eq_false, l1]
  · rw [decide_eq_false hx] at he
    refine CmC.no (if_neg hx) S ?_ (Kp.rf S)
    unfold m_X5_commandRemove
    simp (disch := omega) only [k_0, k_1, k_2, k_3, k_4, k_5, k_6, k_7, k_8, k_9, k_10, k_14, k_16, k_28, k_30, k_48, k_49, k_57, k_100, k_110, k_127, k_128, k_196, k_255, k_1000, k_1024, k_10000, nI_add, nI_mul, nI_div, irm_nI, nle, nlt, neq, gd_t, inb_nI, cl_nI, bnd_eq, gdT, gdo, gb0, gb1, gbi, bi0, bi1, bi0r, Option.bind_some, bndE_some, ite_t, ite_f, k_m9, k_m1, k_13, k_15, k_18, k_19, k_112, k_114, k_115, k_98, k_103, k_116, k_119, k_47, k_82, k_50, k_51, k_99, k_700, k_197, ne9, ne9s, nI_ne0s, ↓reduceIte, he]
theorem commandLearns_ok (h : RepS S 63 n K Z) {p1 p2 : Nat} (h1 : p1 < 10) (h2 : p2 < 10) : CmC S (m_X5_commandLearns (nI p1) (nI p2) S) (if p1 < n ∧ p2 < n ∧ p1 ≠ p2 ∧ lr (hr K Z) p1 p2 = true then some (n, K, Z) else none) := by
  have hn := h.1
  have hs := isRight_bi h (nI p1) (nI 0) (nI p2)
  rw [isR_nI hn (by omega) (by omega) (by omega)] at hs
  by_cases hv : p1 < n ∧ p2 < n ∧ p1 ≠ p2
  · obtain ⟨q1, q2, q3⟩ := hv
    rw [decide_eq_true (⟨q1, by omega, q2, q3⟩ : p1 < n ∧ 0 < 4 ∧ p2 < n ∧ p1 ≠ p2)] at hs
    obtain ⟨S1, l1, l2, l3⟩ := learnFollow_ok h (by omega)
    have hb := l3 p1 (by omega) p2 (by omega)
    cases hl : lr (hr K Z) p1 p2
    · rw [hl] at hb
      refine CmC.no (if_neg fun e => absurd e.2.2.2 (by decide)) S1 ?_ (Kp.ofA l2 (by omega))
      unfold m_X5_commandLearns m_X5_commandLearns_J47
      simp (disch := omega) only [k_0, k_1, k_2, k_3, k_4, k_5, k_6, k_7, k_8, k_9, k_10, k_14, k_16, k_28, k_30, k_48, k_49, k_57, k_100, k_110, k_127, k_128, k_196, k_255, k_1000, k_1024, k_10000, nI_add, nI_mul, nI_div, irm_nI, nle, nlt, neq, gd_t, inb_nI, cl_nI, bnd_eq, gdT, gdo, gb0, gb1, gbi, bi0, bi1, bi0r, Option.bind_some, bndE_some, ite_t, ite_f, k_m9, k_m1, k_13, k_15, k_18, k_19, k_112, k_114, k_115, k_98, k_103, k_116, k_119, k_47, k_82, k_50, k_51, k_99, k_700, k_197, ne9, ne9s, nI_ne0s, ↓reduceIte, hs, Bool.true_eq_false, l1, and1 _ (show p2 < 32 by omega), hb, true_or, or_true, decide_true]
    · rw [hl] at hb
      refine CmC.yes (if_pos ⟨q1, q2, q3, rfl⟩) S1 ?_ (Kp.ofA l2 (by omega)) (l2.repS h (by omega))
      unfold m_X5_commandLearns m_X5_commandLearns_J47
      simp (disch := omega) only [k_0, k_1, k_2, k_3, k_4, k_5, k_6, k_7, k_8, k_9, k_10, k_14, k_16, k_28, k_30, k_48, k_49, k_57, k_100, k_110, k_127, k_128, k_196, k_255, k_1000, k_1024, k_10000, nI_add, nI_mul, nI_div, irm_nI, nle, nlt, neq, gd_t, inb_nI, cl_nI, bnd_eq, gdT, gdo, gb0, gb1, gbi, bi0, bi1, bi0r, Option.bind_some, bndE_some, ite_t, ite_f, k_m9, k_m1, k_13, k_15, k_18, k_19, k_112, k_114, k_115, k_98, k_103, k_116, k_119, k_47, k_82, k_50, k_51, k_99, k_700, k_197, ne9, ne9s, nI_ne0s, ↓reduceIte, hs, Bool.true_eq_false, l1, and1 _ (show p2 < 32 by omega), hb, true_or, or_true, decide_true]
  · rw [decide_eq_false (fun e => hv ⟨e.1, e.2.2.1, e.2.2.2⟩)] at hs
    refine CmC.no (if_neg fun e => hv ⟨e.1, e.2.1, e.2.2.1⟩) S ?_ (Kp.rf S)
    unfold m_X5_commandLearns
    simp (disch := omega) only [k_0, k_1, k_2, k_3, k_4, k_5, k_6, k_7, k_8, k_9, k_10, k_14, k_16, k_28, k_30, k_48, k_49, k_57, k_100, k_110, k_127, k_128, k_196, k_255, k_1000, k_1024, k_10000, nI_add, nI_mul, nI_div, irm_nI, nle, nlt, neq, gd_t, inb_nI, cl_nI, bnd_eq, gdT, gdo, gb0, gb1, gbi, bi0, bi1, bi0r, Option.bind_some, bndE_some, ite_t, ite_f, k_m9, k_m1, k_13, k_15, k_18, k_19, k_112, k_114, k_115, k_98, k_103, k_116, k_119, k_47, k_82, k_50, k_51, k_99, k_700, k_197, ne9, ne9s, nI_ne0s, ↓reduceIte, hs]
