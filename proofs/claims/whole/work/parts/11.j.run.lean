/-! a whole command: class and model -/
variable {S : Hs} {n : Nat} {K : Kd} {Z : Rt}
theorem CmC.out {r : Option (Int32 × Hs)} {oc : Option Ab} (h : CmC S r oc) : ∃ (o : Bool) (S' : Hs), oc.isSome = o ∧ r = some (bi o, S') ∧ Kp S S' ∧ ∀ c', oc = some c' → RS S' 63 c' := by
  obtain ⟨S', h1, h2, h3⟩ := h
  exact ⟨_, S', rfl, h1, h2, h3⟩
/-- an answer passed on -/
theorem CmC.pass {r r' : Option (Int32 × Hs)} {oc : Option Ab} (h : CmC S r oc) (hp : ∀ (o : Bool) (S' : Hs), r = some (bi o, S') → r' = some (bi o, S')) : CmC S r' oc := by
  obtain ⟨S', h1, h2, h3⟩ := h
  exact ⟨S', hp _ S' h1, h2, h3⟩
theorem cmd_e0 (p1 p2 p3 p4 : Nat) : cmd (n, K, Z) 0 p1 p2 p3 p4 = none := by
  unfold cmd
  rw [if_neg (by omega), if_neg (by omega), if_neg (by omega), if_neg (by omega), if_neg (by omega), if_neg (by omega), if_neg (by omega), if_neg (by omega)]
theorem cmd_e1 (p1 p2 p3 p4 : Nat) : cmd (n, K, Z) 1 p1 p2 p3 p4 = (if (p1 < n ∧ p2 < n ∧ p3 < 4 ∧ p4 < n ∧ p1 ≠ p2 ∧ p1 ≠ p4 ∧ p2 ≠ p4) ∧ bars K Z false p1 p2 p3 p4 = 0 ∧ (Z (if false = true then p2 else p1) p3 p4 = true ∨ cnt Z < 30) then some (n, K, upR Z (if false = true then p2 else p1) p3 p4 true) else none) := by
  unfold cmd
  rw [if_pos (Or.inl rfl)]
  rfl
theorem cmd_e2 (p1 p2 p3 p4 : Nat) : cmd (n, K, Z) 2 p1 p2 p3 p4 = (if (p1 < n ∧ p2 < n ∧ p3 < 4 ∧ p4 < n ∧ p1 ≠ p2 ∧ p1 ≠ p4 ∧ p2 ≠ p4) ∧ bars K Z true p1 p2 p3 p4 = 0 ∧ (Z (if true = true then p2 else p1) p3 p4 = true ∨ cnt Z < 30) then some (n, K, upR Z (if true = true then p2 else p1) p3 p4 true) else none) := by
  unfold cmd
  rw [if_pos (Or.inr rfl)]
  rfl
theorem cmd_e3 (p1 p2 p3 p4 : Nat) : cmd (n, K, Z) 3 p1 p2 p3 p4 = (if p4 ≤ 1 ∧ (p1 < n ∧ p2 < 4 ∧ p3 < n ∧ p1 ≠ p3) ∧ ¬ (p4 = 1 ∧ Z p1 p2 p3 = false ∧ cnt Z = 30) then some (n, K, upR Z p1 p2 p3 (decide (p4 = 1))) else none) := by
  unfold cmd
  rw [if_neg (by omega), if_pos rfl]
theorem cmd_e4 (p1 p2 p3 p4 : Nat) : cmd (n, K, Z) 4 p1 p2 p3 p4 = (if p2 ≤ 1 ∧ p3 = 0 ∧ p4 = 0 ∧ p1 < n ∧ K p1 ≠ 0 then some (n, wkK K p1 (decide (p2 = 1)), Z) else none) := by
  unfold cmd
  rw [if_neg (by omega), if_neg (by omega), if_pos rfl]
theorem cmd_e5 (p1 p2 p3 p4 : Nat) : cmd (n, K, Z) 5 p1 p2 p3 p4 = (if p2 = 0 ∧ p3 = 0 ∧ p4 = 0 ∧ p1 < n then some (n - 1, dK p1 K, dR p1 Z) else none) := by
  unfold cmd
  rw [if_neg (by omega), if_neg (by omega), if_neg (by omega), if_pos rfl]
theorem cmd_e6 (p1 p2 p3 p4 : Nat) : cmd (n, K, Z) 6 p1 p2 p3 p4 = (if p4 = 0 ∧ (p1 < n ∧ p2 < 4 ∧ p3 < n ∧ p1 ≠ p3) ∧ Z p1 p2 p3 = true then some (n, K, Z) else none) := by
  unfold cmd
  rw [if_neg (by omega), if_neg (by omega), if_neg (by omega), if_neg (by omega), if_pos rfl]
theorem cmd_e7 (p1 p2 p3 p4 : Nat) : cmd (n, K, Z) 7 p1 p2 p3 p4 = (if p4 = 0 ∧ (p1 < n ∧ p2 < 4 ∧ p3 < n ∧ p1 ≠ p3) ∧ Clo (aw n K) Z p1 p2 p3 = true then some (n, K, Z) else none) := by
  unfold cmd
  rw [if_neg (by omega), if_neg (by omega), if_neg (by omega), if_neg (by omega), if_neg (by omega), if_pos rfl]
theorem cmd_e8 (p1 p2 p3 p4 : Nat) : cmd (n, K, Z) 8 p1 p2 p3 p4 = (if p1 = 0 ∧ cnt (Clo (aw n K) Z) ≤ 100 * p2 + 10 * p3 + p4 then some (n, K, Z) else none) := by
  unfold cmd
  rw [if_neg (by omega), if_neg (by omega), if_neg (by omega), if_neg (by omega), if_neg (by omega), if_neg (by omega), if_pos rfl]
theorem cmd_e9 (p1 p2 p3 p4 : Nat) : cmd (n, K, Z) 9 p1 p2 p3 p4 = (if p3 = 0 ∧ p4 = 0 ∧ p1 < n ∧ p2 < n ∧ p1 ≠ p2 ∧ lr (hr K Z) p1 p2 = true then some (n, K, Z) else none) := by
  unfold cmd
  rw [if_neg (by omega), if_neg (by omega), if_neg (by omega), if_neg (by omega), if_neg (by omega), if_neg (by omega), if_neg (by omega), if_pos rfl]
theorem runCommand_ok {c : Ab} (h : RS S 63 c) (hc : AOk c) {grp : Nat} (hg : grp < 100000) : CmC S (m_X5_runCommand (nI grp) S) (digs grp c) := by
  obtain ⟨n, K, Z⟩ := c
  have h : RepS S 63 n K Z := h
  have hn : n ≤ 7 := hc.1
  have h30 : cnt Z ≤ 30 := hc.2.2.2
  unfold digs
  have g1 : grp / 1000 % 10 < 10 := by omega
  have g2 : grp / 100 % 10 < 10 := by omega
  have g3 : grp / 10 % 10 < 10 := by omega
  have g4 : grp % 10 < 10 := by omega
  have g0 : grp / 10000 < 10 := by omega
  have e1 : irm (nI grp / nI 1000) (nI 10) = nI (grp / 1000 % 10) := by rw [nI_div (by omega) (by omega) (by omega), irm_nI (by omega) (by omega) (by omega)]
  have e2 : irm (nI grp / nI 100) (nI 10) = nI (grp / 100 % 10) := by rw [nI_div (by omega) (by omega) (by omega), irm_nI (by omega) (by omega) (by omega)]
  have e3 : irm (nI grp / nI 10) (nI 10) = nI (grp / 10 % 10) := by rw [nI_div (by omega) (by omega) (by omega), irm_nI (by omega) (by omega) (by omega)]
  have e4 : irm (nI grp) (nI 10) = nI (grp % 10) := irm_nI (by omega) (by omega) (by omega)
  have e0 : nI grp / nI 10000 = nI (grp / 10000) := nI_div (by omega) (by omega) (by omega)
  unfold m_X5_runCommand
  rw [show (1000 : Int32) = nI 1000 from rfl, show (100 : Int32) = nI 100 from rfl, show (10 : Int32) = nI 10 from rfl, show (10000 : Int32) = nI 10000 from rfl, e1, e2, e3, e4, e0, bnd_eq, bnd_eq, bnd_eq, bnd_eq]
  generalize grp / 10000 = o at *
  generalize grp / 1000 % 10 = p1 at *
  generalize grp / 100 % 10 = p2 at *
  generalize grp / 10 % 10 = p3 at *
  generalize grp % 10 = p4 at *
  have eqs : ∀ j, j < 10 → (nI o = nI j) = (o = j) := fun j hj => propext (neq (by omega) (by omega))
  obtain rfl | rfl | rfl | rfl | rfl | rfl | rfl | rfl | rfl | rfl : o = 0 ∨ o = 1 ∨ o = 2 ∨ o = 3 ∨ o = 4 ∨ o = 5 ∨ o = 6 ∨ o = 7 ∨ o = 8 ∨ o = 9 := by omega
  · rw [cmd_e0]
    refine CmC.no rfl S ?_ (Kp.rf S)
    simp (disch := omega) only [k_0, k_1, k_2, k_3, k_4, k_5, k_6, k_7, k_8, k_9, k_10, k_14, k_16, k_28, k_30, k_48, k_49, k_57, k_100, k_110, k_127, k_128, k_196, k_255, k_1000, k_1024, k_10000, nI_add, nI_mul, nI_div, irm_nI, nle, nlt, neq, gd_t, inb_nI, cl_nI, bnd_eq, gdT, gdo, gb0, gb1, gbi, bi0, bi1, bi0r, Option.bind_some, bndE_some, ite_t, ite_f, k_m9, k_m1, k_13, k_15, k_18, k_19, k_112, k_114, k_115, k_98, k_103, k_116, k_119, k_47, k_82, k_50, k_51, k_99, k_700, k_197, ne9, ne9s, nI_ne0s, ↓reduceIte]
  · rw [cmd_e1]
    refine (commandStep_ok h false g1 g2 g3 g4).pass fun o S' e => ?_
    have e' : m_X5_commandStep (nI 0) (nI p1) (nI p2) (nI p3) (nI p4) S = some (bi o, S') := e
    simp (disch := omega) only [k_0, k_1, k_2, k_3, k_4, k_5, k_6, k_7, k_8, k_9, k_10, k_14, k_16, k_28, k_30, k_48, k_49, k_57, k_100, k_110, k_127, k_128, k_196, k_255, k_1000, k_1024, k_10000, nI_add, nI_mul, nI_div, irm_nI, nle, nlt, neq, gd_t, inb_nI, cl_nI, bnd_eq, gdT, gdo, gb0, gb1, gbi, bi0, bi1, bi0r, Option.bind_some, bndE_some, ite_t, ite_f, k_m9, k_m1, k_13, k_15, k_18, k_19, k_112, k_114, k_115, k_98, k_103, k_116, k_119, k_47, k_82, k_50, k_51, k_99, k_700, k_197, ne9, ne9s, nI_ne0s, ↓reduceIte, e']
  · rw [cmd_e2]
    refine (commandStep_ok h true g1 g2 g3 g4).pass fun o S' e => ?_
    have e' : m_X5_commandStep (nI 1) (nI p1) (nI p2) (nI p3) (nI p4) S = some (bi o, S') := e
    simp (disch := omega) only [k_0, k_1, k_2, k_3, k_4, k_5, k_6, k_7, k_8, k_9, k_10, k_14, k_16, k_28, k_30, k_48, k_49, k_57, k_100, k_110, k_127, k_128, k_196, k_255, k_1000, k_1024, k_10000, nI_add, nI_mul, nI_div, irm_nI, nle, nlt, neq, gd_t, inb_nI, cl_nI, bnd_eq, gdT, gdo, gb0, gb1, gbi, bi0, bi1, bi0r, Option.bind_some, bndE_some, ite_t, ite_f, k_m9, k_m1, k_13, k_15, k_18, k_19, k_112, k_114, k_115, k_98, k_103, k_116, k_119, k_47, k_82, k_50, k_51, k_99, k_700, k_197, ne9, ne9s, nI_ne0s, ↓reduceIte, e']
  · rw [cmd_e3]
    refine (commandSet_ok h h30 g1 g2 g3 g4).pass fun o S' e => ?_
    simp (disch := omega) only [k_0, k_1, k_2, k_3, k_4, k_5, k_6, k_7, k_8, k_9, k_10, k_14, k_16, k_28, k_30, k_48, k_49, k_57, k_100, k_110, k_127, k_128, k_196, k_255, k_1000, k_1024, k_10000, nI_add, nI_mul, nI_div, irm_nI, nle, nlt, neq, gd_t, inb_nI, cl_nI, bnd_eq, gdT, gdo, gb0, gb1, gbi, bi0, bi1, bi0r, Option.bind_some, bndE_some, ite_t, ite_f, k_m9, k_m1, k_13, k_15, k_18, k_19, k_112, k_114, k_115, k_98, k_103, k_116, k_119, k_47, k_82, k_50, k_51, k_99, k_700, k_197, ne9, ne9s, nI_ne0s, ↓reduceIte, e]
  · rw [cmd_e4]
    by_cases q3 : p3 = 0
    · by_cases q4 : p4 = 0
      · have hw := commandWake_ok h g1 g2
        rw [show (if p2 ≤ 1 ∧ p3 = 0 ∧ p4 = 0 ∧ p1 < n ∧ K p1 ≠ 0 then some ((n, wkK K p1 (decide (p2 = 1)), Z) : Ab) else none) = (if p2 ≤ 1 ∧ p1 < n ∧ K p1 ≠ 0 then some (n, wkK K p1 (decide (p2 = 1)), Z) else none) from ite_cg (by simp [q3, q4]) _ _]
        refine hw.pass fun o S' e => ?_
        unfold m_X5_runCommand_J146 m_X5_runCommand_J147
        cases o
        · simp (disch := omega) only [k_0, k_1, k_2, k_3, k_4, k_5, k_6, k_7, k_8, k_9, k_10, k_14, k_16, k_28, k_30, k_48, k_49, k_57, k_100, k_110, k_127, k_128, k_196, k_255, k_1000, k_1024, k_10000, nI_add, nI_mul, nI_div, irm_nI, nle, nlt, neq, gd_t, inb_nI, cl_nI, bnd_eq, gdT, gdo, gb0, gb1, gbi, bi0, bi1, bi0r, Option.bind_some, bndE_some, ite_t, ite_f, k_m9, k_m1, k_13, k_15, k_18, k_19, k_112, k_114, k_115, k_98, k_103, k_116, k_119, k_47, k_82, k_50, k_51, k_99, k_700, k_197, ne9, ne9s, nI_ne0s, ↓reduceIte, q3, q4, e, true_or, or_true, decide_true]
          rfl
        · simp (disch := omega) only [k_0, k_1, k_2, k_3, k_4, k_5, k_6, k_7, k_8, k_9, k_10, k_14, k_16, k_28, k_30, k_48, k_49, k_57, k_100, k_110, k_127, k_128, k_196, k_255, k_1000, k_1024, k_10000, nI_add, nI_mul, nI_div, irm_nI, nle, nlt, neq, gd_t, inb_nI, cl_nI, bnd_eq, gdT, gdo, gb0, gb1, gbi, bi0, bi1, bi0r, Option.bind_some, bndE_some, ite_t, ite_f, k_m9, k_m1, k_13, k_15, k_18, k_19, k_112, k_114, k_115, k_98, k_103, k_116, k_119, k_47, k_82, k_50, k_51, k_99, k_700, k_197, ne9, ne9s, nI_ne0s, ↓reduceIte, q3, q4, e, Bool.true_eq_false, true_or, or_true, decide_true]
          rfl
      · refine CmC.no (if_neg fun e => q4 e.2.2.1) S ?_ (Kp.rf S)
        unfold m_X5_runCommand_J146 m_X5_runCommand_J147
        simp (disch := omega) only [k_0, k_1, k_2, k_3, k_4, k_5, k_6, k_7, k_8, k_9, k_10, k_14, k_16, k_28, k_30, k_48, k_49, k_57, k_100, k_110, k_127, k_128, k_196, k_255, k_1000, k_1024, k_10000, nI_add, nI_mul, nI_div, irm_nI, nle, nlt, neq, gd_t, inb_nI, cl_nI, bnd_eq, gdT, gdo, gb0, gb1, gbi, bi0, bi1, bi0r, Option.bind_some, bndE_some, ite_t, ite_f, k_m9, k_m1, k_13, k_15, k_18, k_19, k_112, k_114, k_115, k_98, k_103, k_116, k_119, k_47, k_82, k_50, k_51, k_99, k_700, k_197, ne9, ne9s, nI_ne0s, ↓reduceIte, q3, q4, true_or, or_true, decide_true]
    · refine CmC.no (if_neg fun e => q3 e.2.1) S ?_ (Kp.rf S)
      unfold m_X5_runCommand_J146 m_X5_runCommand_J147
      simp (disch := omega) only [k_0, k_1, k_2, k_3, k_4, k_5, k_6, k_7, k_8, k_9, k_10, k_14, k_16, k_28, k_30, k_48, k_49, k_57, k_100, k_110, k_127, k_128, k_196, k_255, k_1000, k_1024, k_10000, nI_add, nI_mul, nI_div, irm_nI, nle, nlt, neq, gd_t, inb_nI, cl_nI, bnd_eq, gdT, gdo, gb0, gb1, gbi, bi0, bi1, bi0r, Option.bind_some, bndE_some, ite_t, ite_f, k_m9, k_m1, k_13, k_15, k_18, k_19, k_112, k_114, k_115, k_98, k_103, k_116, k_119, k_47, k_82, k_50, k_51, k_99, k_700, k_197, ne9, ne9s, nI_ne0s, ↓reduceIte, q3, true_or, or_true, decide_true]
  · rw [cmd_e5]
    by_cases q2 : p2 = 0
    · by_cases q3 : p3 = 0
      · by_cases q4 : p4 = 0
        · have hw := commandRemove_ok h g1
          rw [show (if p2 = 0 ∧ p3 = 0 ∧ p4 = 0 ∧ p1 < n then some ((n - 1, dK p1 K, dR p1 Z) : Ab) else none) = (if p1 < n then some (n - 1, dK p1 K, dR p1 Z) else none) from ite_cg (by simp [q2, q3, q4]) _ _]
          refine hw.pass fun o S' e => ?_
          unfold m_X5_runCommand_J174 m_X5_runCommand_J175
          cases o
          · simp (disch := omega) only [k_0, k_1, k_2, k_3, k_4, k_5, k_6, k_7, k_8, k_9, k_10, k_14, k_16, k_28, k_30, k_48, k_49, k_57, k_100, k_110, k_127, k_128, k_196, k_255, k_1000, k_1024, k_10000, nI_add, nI_mul, nI_div, irm_nI, nle, nlt, neq, gd_t, inb_nI, cl_nI, bnd_eq, gdT, gdo, gb0, gb1, gbi, bi0, bi1, bi0r, Option.bind_some, bndE_some, ite_t, ite_f, k_m9, k_m1, k_13, k_15, k_18, k_19, k_112, k_114, k_115, k_98, k_103, k_116, k_119, k_47, k_82, k_50, k_51, k_99, k_700, k_197, ne9, ne9s, nI_ne0s, ↓reduceIte, q2, q3, q4, e, true_or, or_true, decide_true]
            rfl
          · simp (disch := omega) only [k_0, k_1, k_2, k_3, k_4, k_5, k_6, k_7, k_8, k_9, k_10, k_14, k_16, k_28, k_30, k_48, k_49, k_57, k_100, k_110, k_127, k_128, k_196, k_255, k_1000, k_1024, k_10000, nI_add, nI_mul, nI_div, irm_nI, nle, nlt, neq, gd_t, inb_nI, cl_nI, bnd_eq, gdT, gdo, gb0, gb1, gbi, bi0, bi1, bi0r, Option.bind_some, bndE_some, ite_t, ite_f, k_m9, k_m1, k_13, k_15, k_18, k_19, k_112, k_114, k_115, k_98, k_103, k_116, k_119, k_47, k_82, k_50, k_51, k_99, k_700, k_197, ne9, ne9s, nI_ne0s, ↓reduceIte, q2, q3, q4, e, Bool.true_eq_false, true_or, or_true, decide_true]
            rfl
        · refine CmC.no (if_neg fun e => q4 e.2.2.1) S ?_ (Kp.rf S)
          unfold m_X5_runCommand_J174 m_X5_runCommand_J175
          simp (disch := omega) only [k_0, k_1, k_2, k_3, k_4, k_5, k_6, k_7, k_8, k_9, k_10, k_14, k_16, k_28, k_30, k_48, k_49, k_57, k_100, k_110, k_127, k_128, k_196, k_255, k_1000, k_1024, k_10000, nI_add, nI_mul, nI_div, irm_nI, nle, nlt, neq, gd_t, inb_nI, cl_nI, bnd_eq, gdT, gdo, gb0, gb1, gbi, bi0, bi1, bi0r, Option.bind_some, bndE_some, ite_t, ite_f, k_m9, k_m1, k_13, k_15, k_18, k_19, k_112, k_114, k_115, k_98, k_103, k_116, k_119, k_47, k_82, k_50, k_51, k_99, k_700, k_197, ne9, ne9s, nI_ne0s, ↓reduceIte, q2, q3, q4, true_or, or_true, decide_true]
      · refine CmC.no (if_neg fun e => q3 e.2.1) S ?_ (Kp.rf S)
        unfold m_X5_runCommand_J174 m_X5_runCommand_J175
        simp (disch := omega) only [k_0, k_1, k_2, k_3, k_4, k_5, k_6, k_7, k_8, k_9, k_10, k_14, k_16, k_28, k_30, k_48, k_49, k_57, k_100, k_110, k_127, k_128, k_196, k_255, k_1000, k_1024, k_10000, nI_add, nI_mul, nI_div, irm_nI, nle, nlt, neq, gd_t, inb_nI, cl_nI, bnd_eq, gdT, gdo, gb0, gb1, gbi, bi0, bi1, bi0r, Option.bind_some, bndE_some, ite_t, ite_f, k_m9, k_m1, k_13, k_15, k_18, k_19, k_112, k_114, k_115, k_98, k_103, k_116, k_119, k_47, k_82, k_50, k_51, k_99, k_700, k_197, ne9, ne9s, nI_ne0s, ↓reduceIte, q2, q3, true_or, or_true, decide_true]
    · refine CmC.no (if_neg fun e => q2 e.1) S ?_ (Kp.rf S)
      unfold m_X5_runCommand_J174 m_X5_runCommand_J175
      simp (disch := omega) only [k_0, k_1, k_2, k_3, k_4, k_5, k_6, k_7, k_8, k_9, k_10, k_14, k_16, k_28, k_30, k_48, k_49, k_57, k_100, k_110, k_127, k_128, k_196, k_255, k_1000, k_1024, k_10000, nI_add, nI_mul, nI_div, irm_nI, nle, nlt, neq, gd_t, inb_nI, cl_nI, bnd_eq, gdT, gdo, gb0, gb1, gbi, bi0, bi1, bi0r, Option.bind_some, bndE_some, ite_t, ite_f, k_m9, k_m1, k_13, k_15, k_18, k_19, k_112, k_114, k_115, k_98, k_103, k_116, k_119, k_47, k_82, k_50, k_51, k_99, k_700, k_197, ne9, ne9s, nI_ne0s, ↓reduceIte, q2, true_or, or_true, decide_true]
  · rw [cmd_e6]
    have hs := isRight_bi h (nI p1) (nI p2) (nI p3)
    rw [isR_nI hn (by omega) (by omega) (by omega)] at hs
    unfold m_X5_runCommand_J216 m_X5_runCommand_J217
    by_cases q4 : p4 = 0
    · by_cases hv : p1 < n ∧ p2 < 4 ∧ p3 < n ∧ p1 ≠ p3
      · rw [decide_eq_true hv] at hs
        cases hz : Z p1 p2 p3
        · refine CmC.no (if_neg fun e => absurd e.2.2 (by decide)) S ?_ (Kp.rf S)
          simp (disch := omega) only [k_0, k_1, k_2, k_3, k_4, k_5, k_6, k_7, k_8, k_9, k_10, k_14, k_16, k_28, k_30, k_48, k_49, k_57, k_100, k_110, k_127, k_128, k_196, k_255, k_1000, k_1024, k_10000, nI_add, nI_mul, nI_div, irm_nI, nle, nlt, neq, gd_t, inb_nI, cl_nI, bnd_eq, gdT, gdo, gb0, gb1, gbi, bi0, bi1, bi0r, Option.bind_some, bndE_some, ite_t, ite_f, k_m9, k_m1, k_13, k_15, k_18, k_19, k_112, k_114, k_115, k_98, k_103, k_116, k_119, k_47, k_82, k_50, k_51, k_99, k_700, k_197, ne9, ne9s, nI_ne0s, ↓reduceIte, q4, hs, Bool.true_eq_false, ix_nI, has_bi h (show p1 < 7 by omega) hv.2.1 (show p3 < 7 by omega), hz, true_or, or_true, decide_true]
        · refine CmC.yes (if_pos ⟨q4, hv, rfl⟩) S ?_ (Kp.rf S) h
          simp (disch := omega) only [k_0, k_1, k_2, k_3, k_4, k_5, k_6, k_7, k_8, k_9, k_10, k_14, k_16, k_28, k_30, k_48, k_49, k_57, k_100, k_110, k_127, k_128, k_196, k_255, k_1000, k_1024, k_10000, nI_add, nI_mul, nI_div, irm_nI, nle, nlt, neq, gd_t, inb_nI, cl_nI, bnd_eq, gdT, gdo, gb0, gb1, gbi, bi0, bi1, bi0r, Option.bind_some, bndE_some, ite_t, ite_f, k_m9, k_m1, k_13, k_15, k_18, k_19, k_112, k_114, k_115, k_98, k_103, k_116, k_119, k_47, k_82, k_50, k_51, k_99, k_700, k_197, ne9, ne9s, nI_ne0s, ↓reduceIte, q4, hs, Bool.true_eq_false, ix_nI, has_bi h (show p1 < 7 by omega) hv.2.1 (show p3 < 7 by omega), hz, true_or, or_true, decide_true]
      · rw [decide_eq_false hv] at hs
        refine CmC.no (if_neg fun e => hv e.2.1) S ?_ (Kp.rf S)
        simp (disch := omega) only [k_0, k_1, k_2, k_3, k_4, k_5, k_6, k_7, k_8, k_9, k_10, k_14, k_16, k_28, k_30, k_48, k_49, k_57, k_100, k_110, k_127, k_128, k_196, k_255, k_1000, k_1024, k_10000, nI_add, nI_mul, nI_div, irm_nI, nle, nlt, neq, gd_t, inb_nI, cl_nI, bnd_eq, gdT, gdo, gb0, gb1, gbi, bi0, bi1, bi0r, Option.bind_some, bndE_some, ite_t, ite_f, k_m9, k_m1, k_13, k_15, k_18, k_19, k_112, k_114, k_115, k_98, k_103, k_116, k_119, k_47, k_82, k_50, k_51, k_99, k_700, k_197, ne9, ne9s, nI_ne0s, ↓reduceIte, q4, hs, true_or, or_true, decide_true]
    · refine CmC.no (if_neg fun e => q4 e.1) S ?_ (Kp.rf S)
      simp (disch := omega) only [k_0, k_1, k_2, k_3, k_4, k_5, k_6, k_7, k_8, k_9, k_10, k_14, k_16, k_28, k_30, k_48, k_49, k_57, k_100, k_110, k_127, k_128, k_196, k_255, k_1000, k_1024, k_10000, nI_add, nI_mul, nI_div, irm_nI, nle, nlt, neq, gd_t, inb_nI, cl_nI, bnd_eq, gdT, gdo, gb0, gb1, gbi, bi0, bi1, bi0r, Option.bind_some, bndE_some, ite_t, ite_f, k_m9, k_m1, k_13, k_15, k_18, k_19, k_112, k_114, k_115, k_98, k_103, k_116, k_119, k_47, k_82, k_50, k_51, k_99, k_700, k_197, ne9, ne9s, nI_ne0s, ↓reduceIte, q4, true_or, or_true, decide_true]
  · rw [cmd_e7]
    have hs := isRight_bi h (nI p1) (nI p2) (nI p3)
    rw [isR_nI hn (by omega) (by omega) (by omega)] at hs
    unfold m_X5_runCommand_J262 m_X5_runCommand_J263
    by_cases q4 : p4 = 0
    · by_cases hv : p1 < n ∧ p2 < 4 ∧ p3 < n ∧ p1 ≠ p3
      · rw [decide_eq_true hv] at hs
        obtain ⟨S1, k1, k2, k3⟩ := endOf_ok h (by omega)
        cases hz : Clo (aw n K) Z p1 p2 p3
        · refine CmC.no (if_neg fun e => absurd e.2.2 (by decide)) S1 ?_ (Kp.ofB k3 (by omega))
          simp (disch := omega) only [k_0, k_1, k_2, k_3, k_4, k_5, k_6, k_7, k_8, k_9, k_10, k_14, k_16, k_28, k_30, k_48, k_49, k_57, k_100, k_110, k_127, k_128, k_196, k_255, k_1000, k_1024, k_10000, nI_add, nI_mul, nI_div, irm_nI, nle, nlt, neq, gd_t, inb_nI, cl_nI, bnd_eq, gdT, gdo, gb0, gb1, gbi, bi0, bi1, bi0r, Option.bind_some, bndE_some, ite_t, ite_f, k_m9, k_m1, k_13, k_15, k_18, k_19, k_112, k_114, k_115, k_98, k_103, k_116, k_119, k_47, k_82, k_50, k_51, k_99, k_700, k_197, ne9, ne9s, nI_ne0s, ↓reduceIte, q4, hs, Bool.true_eq_false, k1, bndEN_some, isSt65, ix_nI, has_bi k2 (show p1 < 7 by omega) hv.2.1 (show p3 < 7 by omega), hz, true_or, or_true, decide_true]
        · refine CmC.yes (if_pos ⟨q4, hv, rfl⟩) S1 ?_ (Kp.ofB k3 (by omega)) (h.keep k3 (by omega) (by omega))
          simp (disch := omega) only [k_0, k_1, k_2, k_3, k_4, k_5, k_6, k_7, k_8, k_9, k_10, k_14, k_16, k_28, k_30, k_48, k_49, k_57, k_100, k_110, k_127, k_128, k_196, k_255, k_1000, k_1024, k_10000, nI_add, nI_mul, nI_div, irm_nI, nle, nlt, neq, gd_t, inb_nI, cl_nI, bnd_eq, gdT, gdo, gb0, gb1, gbi, bi0, bi1, bi0r, Option.bind_some, bndE_some, ite_t, ite_f, k_m9, k_m1, k_13, k_15, k_18, k_19, k_112, k_114, k_115, k_98, k_103, k_116, k_119, k_47, k_82, k_50, k_51, k_99, k_700, k_197, ne9, ne9s, nI_ne0s, ↓reduceIte, q4, hs, Bool.true_eq_false, k1, bndEN_some, isSt65, ix_nI, has_bi k2 (show p1 < 7 by omega) hv.2.1 (show p3 < 7 by omega), hz, true_or, or_true, decide_true]
      · rw [decide_eq_false hv] at hs
        refine CmC.no (if_neg fun e => hv e.2.1) S ?_ (Kp.rf S)
        simp (disch := omega) only [k_0, k_1, k_2, k_3, k_4, k_5, k_6, k_7, k_8, k_9, k_10, k_14, k_16, k_28, k_30, k_48, k_49, k_57, k_100, k_110, k_127, k_128, k_196, k_255, k_1000, k_1024, k_10000, nI_add, nI_mul, nI_div, irm_nI, nle, nlt, neq, gd_t, inb_nI, cl_nI, bnd_eq, gdT, gdo, gb0, gb1, gbi, bi0, bi1, bi0r, Option.bind_some, bndE_some, ite_t, ite_f, k_m9, k_m1, k_13, k_15, k_18, k_19, k_112, k_114, k_115, k_98, k_103, k_116, k_119, k_47, k_82, k_50, k_51, k_99, k_700, k_197, ne9, ne9s, nI_ne0s, ↓reduceIte, q4, hs, true_or, or_true, decide_true]
    · refine CmC.no (if_neg fun e => q4 e.1) S ?_ (Kp.rf S)
      simp (disch := omega) only [k_0, k_1, k_2, k_3, k_4, k_5, k_6, k_7, k_8, k_9, k_10, k_14, k_16, k_28, k_30, k_48, k_49, k_57, k_100, k_110, k_127, k_128, k_196, k_255, k_1000, k_1024, k_10000, nI_add, nI_mul, nI_div, irm_nI, nle, nlt, neq, gd_t, inb_nI, cl_nI, bnd_eq, gdT, gdo, gb0, gb1, gbi, bi0, bi1, bi0r, Option.bind_some, bndE_some, ite_t, ite_f, k_m9, k_m1, k_13, k_15, k_18, k_19, k_112, k_114, k_115, k_98, k_103, k_116, k_119, k_47, k_82, k_50, k_51, k_99, k_700, k_197, ne9, ne9s, nI_ne0s, ↓reduceIte, q4, true_or, or_true, decide_true]
  · rw [cmd_e8]
    unfold m_X5_runCommand_J299 m_X5_runCommand_J300
    by_cases q1 : p1 = 0
    · obtain ⟨S1, k1, k2, k3⟩ := endOf_ok h (by omega)
      have hcl := cnt_196 (Clo (aw n K) Z)
      by_cases hle : cnt (Clo (aw n K) Z) ≤ 100 * p2 + 10 * p3 + p4
      · refine CmC.yes (if_pos ⟨q1, hle⟩) S1 ?_ (Kp.ofB k3 (by omega)) (h.keep k3 (by omega) (by omega))
        simp (disch := omega) only [k_0, k_1, k_2, k_3, k_4, k_5, k_6, k_7, k_8, k_9, k_10, k_14, k_16, k_28, k_30, k_48, k_49, k_57, k_100, k_110, k_127, k_128, k_196, k_255, k_1000, k_1024, k_10000, nI_add, nI_mul, nI_div, irm_nI, nle, nlt, neq, gd_t, inb_nI, cl_nI, bnd_eq, gdT, gdo, gb0, gb1, gbi, bi0, bi1, bi0r, Option.bind_some, bndE_some, ite_t, ite_f, k_m9, k_m1, k_13, k_15, k_18, k_19, k_112, k_114, k_115, k_98, k_103, k_116, k_119, k_47, k_82, k_50, k_51, k_99, k_700, k_197, ne9, ne9s, nI_ne0s, ↓reduceIte, q1, k1, bndEN_some, isSt65, countRights_ok k2, true_or, or_true, decide_true]
      · refine CmC.no (if_neg fun e => hle e.2) S1 ?_ (Kp.ofB k3 (by omega))
        simp (disch := omega) only [k_0, k_1, k_2, k_3, k_4, k_5, k_6, k_7, k_8, k_9, k_10, k_14, k_16, k_28, k_30, k_48, k_49, k_57, k_100, k_110, k_127, k_128, k_196, k_255, k_1000, k_1024, k_10000, nI_add, nI_mul, nI_div, irm_nI, nle, nlt, neq, gd_t, inb_nI, cl_nI, bnd_eq, gdT, gdo, gb0, gb1, gbi, bi0, bi1, bi0r, Option.bind_some, bndE_some, ite_t, ite_f, k_m9, k_m1, k_13, k_15, k_18, k_19, k_112, k_114, k_115, k_98, k_103, k_116, k_119, k_47, k_82, k_50, k_51, k_99, k_700, k_197, ne9, ne9s, nI_ne0s, ↓reduceIte, q1, k1, bndEN_some, isSt65, countRights_ok k2, true_or, or_true, decide_true]
    · refine CmC.no (if_neg fun e => q1 e.1) S ?_ (Kp.rf S)
      simp (disch := omega) only [k_0, k_1, k_2, k_3, k_4, k_5, k_6, k_7, k_8, k_9, k_10, k_14, k_16, k_28, k_30, k_48, k_49, k_57, k_100, k_110, k_127, k_128, k_196, k_255, k_1000, k_1024, k_10000, nI_add, nI_mul, nI_div, irm_nI, nle, nlt, neq, gd_t, inb_nI, cl_nI, bnd_eq, gdT, gdo, gb0, gb1, gbi, bi0, bi1, bi0r, Option.bind_some, bndE_some, ite_t, ite_f, k_m9, k_m1, k_13, k_15, k_18, k_19, k_112, k_114, k_115, k_98, k_103, k_116, k_119, k_47, k_82, k_50, k_51, k_99, k_700, k_197, ne9, ne9s, nI_ne0s, ↓reduceIte, q1, true_or, or_true, decide_true]
  · rw [cmd_e9]
    by_cases q3 : p3 = 0
    · by_cases q4 : p4 = 0
      · have hw := commandLearns_ok h g1 g2
        rw [show (if p3 = 0 ∧ p4 = 0 ∧ p1 < n ∧ p2 < n ∧ p1 ≠ p2 ∧ lr (hr K Z) p1 p2 = true then some ((n, K, Z) : Ab) else none) = (if p1 < n ∧ p2 < n ∧ p1 ≠ p2 ∧ lr (hr K Z) p1 p2 = true then some (n, K, Z) else none) from ite_cg (by simp [q3, q4]) _ _]
        refine hw.pass fun o S' e => ?_
        unfold m_X5_runCommand_J324 m_X5_runCommand_J325
        cases o
        · simp (disch := omega) only [k_0, k_1, k_2, k_3, k_4, k_5, k_6, k_7, k_8, k_9, k_10, k_14, k_16, k_28, k_30, k_48, k_49, k_57, k_100, k_110, k_127, k_128, k_196, k_255, k_1000, k_1024, k_10000, nI_add, nI_mul, nI_div, irm_nI, nle, nlt, neq, gd_t, inb_nI, cl_nI, bnd_eq, gdT, gdo, gb0, gb1, gbi, bi0, bi1, bi0r, Option.bind_some, bndE_some, ite_t, ite_f, k_m9, k_m1, k_13, k_15, k_18, k_19, k_112, k_114, k_115, k_98, k_103, k_116, k_119, k_47, k_82, k_50, k_51, k_99, k_700, k_197, ne9, ne9s, nI_ne0s, ↓reduceIte, q3, q4, e, true_or, or_true, decide_true]
          rfl
        · simp (disch := omega) only [k_0, k_1, k_2, k_3, k_4, k_5, k_6, k_7, k_8, k_9, k_10, k_14, k_16, k_28, k_30, k_48, k_49, k_57, k_100, k_110, k_127, k_128, k_196, k_255, k_1000, k_1024, k_10000, nI_add, nI_mul, nI_div, irm_nI, nle, nlt, neq, gd_t, inb_nI, cl_nI, bnd_eq, gdT, gdo, gb0, gb1, gbi, bi0, bi1, bi0r, Option.bind_some, bndE_some, ite_t, ite_f, k_m9, k_m1, k_13, k_15, k_18, k_19, k_112, k_114, k_115, k_98, k_103, k_116, k_119, k_47, k_82, k_50, k_51, k_99, k_700, k_197, ne9, ne9s, nI_ne0s, ↓reduceIte, q3, q4, e, Bool.true_eq_false, true_or, or_true, decide_true]
          rfl
      · refine CmC.no (if_neg fun e => q4 e.2.1) S ?_ (Kp.rf S)
        unfold m_X5_runCommand_J324 m_X5_runCommand_J325
        simp (disch := omega) only [k_0, k_1, k_2, k_3, k_4, k_5, k_6, k_7, k_8, k_9, k_10, k_14, k_16, k_28, k_30, k_48, k_49, k_57, k_100, k_110, k_127, k_128, k_196, k_255, k_1000, k_1024, k_10000, nI_add, nI_mul, nI_div, irm_nI, nle, nlt, neq, gd_t, inb_nI, cl_nI, bnd_eq, gdT, gdo, gb0, gb1, gbi, bi0, bi1, bi0r, Option.bind_some, bndE_some, ite_t, ite_f, k_m9, k_m1, k_13, k_15, k_18, k_19, k_112, k_114, k_115, k_98, k_103, k_116, k_119, k_47, k_82, k_50, k_51, k_99, k_700, k_197, ne9, ne9s, nI_ne0s, ↓reduceIte, q3, q4, true_or, or_true, decide_true]
    · refine CmC.no (if_neg fun e => q3 e.1) S ?_ (Kp.rf S)
      unfold m_X5_runCommand_J324 m_X5_runCommand_J325
      simp (disch := omega) only [k_0, k_1, k_2, k_3, k_4, k_5, k_6, k_7, k_8, k_9, k_10, k_14, k_16, k_28, k_30, k_48, k_49, k_57, k_100, k_110, k_127, k_128, k_196, k_255, k_1000, k_1024, k_10000, nI_add, nI_mul, nI_div, irm_nI, nle, nlt, neq, gd_t, inb_nI, cl_nI, bnd_eq, gdT, gdo, gb0, gb1, gbi, bi0, bi1, bi0r, Option.bind_some, bndE_some, ite_t, ite_f, k_m9, k_m1, k_13, k_15, k_18, k_19, k_112, k_114, k_115, k_98, k_103, k_116, k_119, k_47, k_82, k_50, k_51, k_99, k_700, k_197, ne9, ne9s, nI_ne0s, ↓reduceIte, q3, true_or, or_true, decide_true]
