/-! a whole command: the model -/
variable {T : Hs} {n : Nat} {K : Kd} {Z : Rt}
/-- what a command of the model leaves: but for the scratch, the spare vector too -/
def Mq8 (S T : Hs) : Prop := Mq S T ∧ ∀ b, gA T 18 b = gA S 18 b
theorem Mq8.rf (S : Hs) : Mq8 S S := ⟨Mq.rf S, fun _ => rfl⟩
theorem Mq8.tr {S T U : Hs} (h : Mq8 S T) (g : Mq8 T U) : Mq8 S U := ⟨h.1.tr g.1, fun b => (g.2 b).trans (h.2 b)⟩
theorem Mq8.ofA {c : Nat} {S T : Hs} (h : OnA c S T) (hc : c = 14 ∨ 20 ≤ c ∧ c ≤ 27) : Mq8 S T := ⟨Mq.ofA h (by omega), fun b => h.2.1 _ _ (by omega)⟩
theorem Mq8.ofScr {S T : Hs} (h : Scr S T) : Mq8 S T := ⟨Mq.ofScr h, fun b => h.2.1 _ _ (by omega) (by omega) (by omega) (by omega)⟩
def CmM (T : Hs) (r : Option (Int32 × Hs)) (oc : Option Ab) : Prop := ∃ U, r = some (bi oc.isSome, U) ∧ Mq8 T U ∧ ∀ c', oc = some c' → RM U 14 0 c'
theorem CmM.no {r : Option (Int32 × Hs)} {oc : Option Ab} (h : oc = none) (U : Hs) (hr : r = some (nI 0, U)) (k : Mq8 T U) : CmM T r oc := ⟨U, by rw [hr, h]; rfl, k, fun c' q => by rw [h] at q; cases q⟩
theorem CmM.yes {r : Option (Int32 × Hs)} {oc : Option Ab} {c' : Ab} (h : oc = some c') (U : Hs) (hr : r = some (nI 1, U)) (k : Mq8 T U) (g : RM U 14 0 c') : CmM T r oc := ⟨U, by rw [hr, h]; rfl, k, fun c2 q => by rw [h] at q; cases q; exact g⟩
theorem CmM.pass {r r' : Option (Int32 × Hs)} {oc : Option Ab} (h : CmM T r oc) (hp : ∀ (o : Bool) (U : Hs), r = some (bi o, U) → r' = some (bi o, U)) : CmM T r' oc := by
  obtain ⟨S', h1, h2, h3⟩ := h
  exact ⟨S', hp _ S' h1, h2, h3⟩
theorem wr_val (hn : n ≤ 7) {a k b : Nat} (ha : a < 1000) (hk : k < 1000) (hb : b < 1000) : wr n (nI a) (nI k) (nI b) = 0 ↔ (a < n ∧ k < 4 ∧ b < n ∧ a ≠ b) := by
  have h1 := wr_isR (n := n) (x := nI a) (k := nI k) (y := nI b)
  rw [isR_nI hn ha hk hb, decide_eq_decide] at h1
  exact h1.symm
theorem ws_val (hn : n ≤ 7) {a b k d : Nat} (ha : a < 1000) (hb : b < 1000) (hk : k < 1000) (hd : d < 1000) : ws n (nI a) (nI b) (nI k) (nI d) = 0 ↔ (a < n ∧ b < n ∧ k < 4 ∧ d < n ∧ a ≠ b ∧ a ≠ d ∧ b ≠ d) := by
  have h1 := ws_isS (n := n) (p := nI a) (y := nI b) (k := nI k) (z := nI d)
  rw [isS_nI hn ha hb hk hd, decide_eq_decide] at h1
  exact h1.symm
theorem chStep_ok (h : RepM T 14 0 n K Z) (h30 : cnt Z ≤ 30) (g : Bool) {p1 p2 p3 p4 : Nat} (h1 : p1 < 10) (h2 : p2 < 10) (h3 : p3 < 10) (h4 : p4 < 10) : CmM T (m_X6_changes_J15 (nI p1) (nI p2) (nI p3) (nI p4) (bi g) T) (if (p1 < n ∧ p2 < n ∧ p3 < 4 ∧ p4 < n ∧ p1 ≠ p2 ∧ p1 ≠ p4 ∧ p2 ≠ p4) ∧ bars K Z g p1 p2 p3 p4 = 0 ∧ (Z (if g = true then p2 else p1) p3 p4 = true ∨ cnt Z < 30) then some (n, K, upR Z (if g = true then p2 else p1) p3 p4 true) else none) := by
  have hn := h.1
  obtain ⟨w1, w2⟩ := whyNotDo_ok h h30 (p := nI p1) (y := nI p2) (k := nI p3) (z := nI p4) g
  unfold m_X6_changes_J15 m_X6_changes_J45
  by_cases hv : p1 < n ∧ p2 < n ∧ p3 < 4 ∧ p4 < n ∧ p1 ≠ p2 ∧ p1 ≠ p4 ∧ p2 ≠ p4
  · obtain ⟨q1, q2, q3, q4, q5, q6, q7⟩ := id hv
    have hw := w2 p1 p2 p3 p4 q1 q2 q3 q4 ((ws_val hn (by omega) (by omega) (by omega) (by omega)).mpr hv) rfl rfl rfl rfl
    by_cases hok : bars K Z g p1 p2 p3 p4 = 0 ∧ (Z (if g = true then p2 else p1) p3 p4 = true ∨ cnt Z < 30)
    · rw [if_pos hok] at hw
      have hto : (if g then p2 else p1) < n := by cases g <;> assumption
      have hne : (if g then p2 else p1) ≠ p4 := by cases g <;> assumption
      obtain ⟨v, l1, l2⟩ := mput_ok h hto q3 q4 hne true
      rw [bi_t] at l1
      refine CmM.yes (if_pos ⟨hv, hok⟩) _ ?_ (Mq8.ofA (OnA.sA _ _) (by omega)) l2
      rw [hw, Option.bind_some, if_pos (show nI 0 ≤ 0 by decide)]
      cases g
      · rw [if_pos (by rfl)]
        have l1' : m_X6_put (nI p1) (nI p3) (nI p4) 1 T = _ := l1
        rw [l1']
        rfl
      · rw [if_neg (by decide)]
        have l1' : m_X6_put (nI p2) (nI p3) (nI p4) 1 T = _ := l1
        rw [l1']
        rfl
    · rw [if_neg hok] at hw
      refine CmM.no (if_neg fun e => hok e.2) T ?_ (Mq8.rf T)
      rw [hw, Option.bind_some, if_neg (show ¬ nI 3 ≤ 0 by decide)]
      rfl
  · have hne : ws n (nI p1) (nI p2) (nI p3) (nI p4) ≠ 0 := fun e => hv ((ws_val hn (by omega) (by omega) (by omega) (by omega)).mp e)
    refine CmM.no (if_neg fun e => hv e.1) T ?_ (Mq8.rf T)
    have hgt : ¬ nI (ws n (nI p1) (nI p2) (nI p3) (nI p4)) ≤ 0 := by
      have := npos hne ws_lt
      exact fun e => this.mp e
    rw [w1 hne, Option.bind_some, if_neg hgt]
    rfl
theorem chSet_ok (h : RepM T 14 0 n K Z) (h30 : cnt Z ≤ 30) (b : Bool) {p1 p2 p3 : Nat} (h1 : p1 < 10) (h2 : p2 < 10) (h3 : p3 < 10) : CmM T (m_X6_changes_J82 (nI p1) (nI p2) (nI p3) (bi b) (bi b) (nI p3) (nI p2) (nI p1) T) (if (p1 < n ∧ p2 < 4 ∧ p3 < n ∧ p1 ≠ p3) ∧ ¬ (b = true ∧ Z p1 p2 p3 = false ∧ cnt Z = 30) then some (n, K, upR Z p1 p2 p3 b) else none) := by
  have hn := h.1
  obtain ⟨w1, w2⟩ := whyNotSet_ok h h30 (x := nI p1) (k := nI p2) (y := nI p3) b
  unfold m_X6_changes_J82 m_X6_changes_J88 m_X6_changes_J106
  by_cases hv : p1 < n ∧ p2 < 4 ∧ p3 < n ∧ p1 ≠ p3
  · obtain ⟨q1, q2, q3, q4⟩ := id hv
    have hw := w2 p1 p2 p3 q1 q2 q3 ((wr_val hn (by omega) (by omega) (by omega)).mpr hv) rfl rfl rfl
    by_cases hfull : b = true ∧ Z p1 p2 p3 = false ∧ cnt Z = 30
    · rw [if_pos hfull] at hw
      refine CmM.no (if_neg fun e => e.2 hfull) T ?_ (Mq8.rf T)
      rw [hw, Option.bind_some, if_neg (show ¬ nI 3 ≤ 0 by decide)]
      rfl
    · rw [if_neg hfull] at hw
      obtain ⟨v, l1, l2⟩ := mput_ok h q1 q2 q3 q4 b
      refine CmM.yes (if_pos ⟨hv, hfull⟩) _ ?_ (Mq8.ofA (OnA.sA _ _) (by omega)) l2
      rw [hw, Option.bind_some, if_pos (show nI 0 ≤ 0 by decide)]
      cases b
      · rw [if_neg (by decide)]
        have l1' : m_X6_put (nI p1) (nI p2) (nI p3) 0 T = _ := l1
        rw [l1']
        rfl
      · rw [if_pos (by rfl)]
        have l1' : m_X6_put (nI p1) (nI p2) (nI p3) 1 T = _ := l1
        rw [l1']
        rfl
  · have hne : wr n (nI p1) (nI p2) (nI p3) ≠ 0 := fun e => hv ((wr_val hn (by omega) (by omega) (by omega)).mp e)
    refine CmM.no (if_neg fun e => hv e.1) T ?_ (Mq8.rf T)
    have hgt : ¬ nI (wr n (nI p1) (nI p2) (nI p3)) ≤ 0 := by
      have := npos hne wr_lt
      exact fun e => this.mp e
    rw [w1 hne, Option.bind_some, if_neg hgt]
    rfl
theorem le0 {a : Nat} (h : a < 1000000) : (nI 0 < nI a) = (a ≠ 0) := propext (by rw [nlt (by omega) (by omega)]; omega)
theorem changes_ok (h : RepM T 14 0 n K Z) (hc : AOk (n, K, Z)) {o p1 p2 p3 p4 : Nat} (ho : 1 ≤ o) (ho2 : o < 6) (h1 : p1 < 10) (h2 : p2 < 10) (h3 : p3 < 10) (h4 : p4 < 10) : CmM T (m_X6_changes (nI o) (nI p1) (nI p2) (nI p3) (nI p4) T) (cmd (n, K, Z) o p1 p2 p3 p4) := by
  have hn := h.1
  have h30 : cnt Z ≤ 30 := hc.2.2.2
  have hth := isThing_ok h (nI p1)
  rw [isT_nI (by omega) (by omega)] at hth
  unfold m_X6_changes
  obtain rfl | rfl | rfl | rfl | rfl : o = 1 ∨ o = 2 ∨ o = 3 ∨ o = 4 ∨ o = 5 := by omega
  · rw [cmd_e1]
    refine (chStep_ok h h30 false h1 h2 h3 h4).pass fun o U e => ?_
    have e' : m_X6_changes_J15 (nI p1) (nI p2) (nI p3) (nI p4) (nI 0) T = some (bi o, U) := e
    simp (disch := omega) only [k_0, k_1, k_2, k_3, k_4, k_5, k_6, k_7, k_8, k_9, k_10, k_14, k_16, k_28, k_30, k_48, k_49, k_57, k_100, k_110, k_127, k_128, k_196, k_255, k_1000, k_1024, k_10000, nI_add, nI_mul, nI_div, irm_nI, nle, nlt, neq, gd_t, inb_nI, cl_nI, bnd_eq, gdT, gdo, gb0, gb1, gbi, bi0, bi1, bi0r, Option.bind_some, bndE_some, ite_t, ite_f, k_m9, k_m1, k_13, k_15, k_18, k_19, k_112, k_114, k_115, k_98, k_103, k_116, k_119, k_47, k_82, k_50, k_51, k_99, k_700, k_197, ne9, ne9s, nI_ne0s, ↓reduceIte, e']
  · rw [cmd_e2]
    refine (chStep_ok h h30 true h1 h2 h3 h4).pass fun o U e => ?_
    have e' : m_X6_changes_J15 (nI p1) (nI p2) (nI p3) (nI p4) (nI 1) T = some (bi o, U) := e
    simp (disch := omega) only [k_0, k_1, k_2, k_3, k_4, k_5, k_6, k_7, k_8, k_9, k_10, k_14, k_16, k_28, k_30, k_48, k_49, k_57, k_100, k_110, k_127, k_128, k_196, k_255, k_1000, k_1024, k_10000, nI_add, nI_mul, nI_div, irm_nI, nle, nlt, neq, gd_t, inb_nI, cl_nI, bnd_eq, gdT, gdo, gb0, gb1, gbi, bi0, bi1, bi0r, Option.bind_some, bndE_some, ite_t, ite_f, k_m9, k_m1, k_13, k_15, k_18, k_19, k_112, k_114, k_115, k_98, k_103, k_116, k_119, k_47, k_82, k_50, k_51, k_99, k_700, k_197, ne9, ne9s, nI_ne0s, ↓reduceIte, e']
  · rw [cmd_e3]
    by_cases q4 : p4 ≤ 1
    · have hw := chSet_ok h h30 (decide (p4 = 1)) h1 h2 h3
      rw [show (if p4 ≤ 1 ∧ (p1 < n ∧ p2 < 4 ∧ p3 < n ∧ p1 ≠ p3) ∧ ¬ (p4 = 1 ∧ Z p1 p2 p3 = false ∧ cnt Z = 30) then some ((n, K, upR Z p1 p2 p3 (decide (p4 = 1))) : Ab) else none) = (if (p1 < n ∧ p2 < 4 ∧ p3 < n ∧ p1 ≠ p3) ∧ ¬ (decide (p4 = 1) = true ∧ Z p1 p2 p3 = false ∧ cnt Z = 30) then some (n, K, upR Z p1 p2 p3 (decide (p4 = 1))) else none) from ite_cg (by simp [q4]) _ _]
      refine hw.pass fun o U e => ?_
      obtain rfl | rfl : p4 = 0 ∨ p4 = 1 := by omega
      · have e' : m_X6_changes_J82 (nI p1) (nI p2) (nI p3) (nI 0) (nI 0) (nI p3) (nI p2) (nI p1) T = some (bi o, U) := e
        simp (disch := omega) only [k_0, k_1, k_2, k_3, k_4, k_5, k_6, k_7, k_8, k_9, k_10, k_14, k_16, k_28, k_30, k_48, k_49, k_57, k_100, k_110, k_127, k_128, k_196, k_255, k_1000, k_1024, k_10000, nI_add, nI_mul, nI_div, irm_nI, nle, nlt, neq, gd_t, inb_nI, cl_nI, bnd_eq, gdT, gdo, gb0, gb1, gbi, bi0, bi1, bi0r, Option.bind_some, bndE_some, ite_t, ite_f, k_m9, k_m1, k_13, k_15, k_18, k_19, k_112, k_114, k_115, k_98, k_103, k_116, k_119, k_47, k_82, k_50, k_51, k_99, k_700, k_197, ne9, ne9s, nI_ne0s, ↓reduceIte, e']
      · have e' : m_X6_changes_J82 (nI p1) (nI p2) (nI p3) (nI 1) (nI 1) (nI p3) (nI p2) (nI p1) T = some (bi o, U) := e
        simp (disch := omega) only [k_0, k_1, k_2, k_3, k_4, k_5, k_6, k_7, k_8, k_9, k_10, k_14, k_16, k_28, k_30, k_48, k_49, k_57, k_100, k_110, k_127, k_128, k_196, k_255, k_1000, k_1024, k_10000, nI_add, nI_mul, nI_div, irm_nI, nle, nlt, neq, gd_t, inb_nI, cl_nI, bnd_eq, gdT, gdo, gb0, gb1, gbi, bi0, bi1, bi0r, Option.bind_some, bndE_some, ite_t, ite_f, k_m9, k_m1, k_13, k_15, k_18, k_19, k_112, k_114, k_115, k_98, k_103, k_116, k_119, k_47, k_82, k_50, k_51, k_99, k_700, k_197, ne9, ne9s, nI_ne0s, ↓reduceIte, e']
    · refine CmM.no (if_neg fun e => q4 e.1) T ?_ (Mq8.rf T)
      unfold m_X6_changes_J88
      simp (disch := omega) only [k_0, k_1, k_2, k_3, k_4, k_5, k_6, k_7, k_8, k_9, k_10, k_14, k_16, k_28, k_30, k_48, k_49, k_57, k_100, k_110, k_127, k_128, k_196, k_255, k_1000, k_1024, k_10000, nI_add, nI_mul, nI_div, irm_nI, nle, nlt, neq, gd_t, inb_nI, cl_nI, bnd_eq, gdT, gdo, gb0, gb1, gbi, bi0, bi1, bi0r, Option.bind_some, bndE_some, ite_t, ite_f, k_m9, k_m1, k_13, k_15, k_18, k_19, k_112, k_114, k_115, k_98, k_103, k_116, k_119, k_47, k_82, k_50, k_51, k_99, k_700, k_197, ne9, ne9s, nI_ne0s, ↓reduceIte]
  · rw [cmd_e4]
    by_cases q2 : p2 ≤ 1
    · by_cases q3 : p3 = 0
      · by_cases q4 : p4 = 0
        · by_cases hx : p1 < n
          · rw [decide_eq_true hx] at hth
            by_cases hk : K p1 = 0
            · refine CmM.no (if_neg fun e => e.2.2.2.2 hk) T ?_ (Mq8.rf T)
              unfold m_X6_changes_J139 m_X6_whyNotWake m_X6_whyNotWake_J25
              simp (disch := omega) only [k_0, k_1, k_2, k_3, k_4, k_5, k_6, k_7, k_8, k_9, k_10, k_14, k_16, k_28, k_30, k_48, k_49, k_57, k_100, k_110, k_127, k_128, k_196, k_255, k_1000, k_1024, k_10000, nI_add, nI_mul, nI_div, irm_nI, nle, nlt, neq, gd_t, inb_nI, cl_nI, bnd_eq, gdT, gdo, gb0, gb1, gbi, bi0, bi1, bi0r, Option.bind_some, bndE_some, ite_t, ite_f, k_m9, k_m1, k_13, k_15, k_18, k_19, k_112, k_114, k_115, k_98, k_103, k_116, k_119, k_47, k_82, k_50, k_51, k_99, k_700, k_197, ne9, ne9s, nI_ne0s, ↓reduceIte, le0, q3, q4, ne_eq, not_true_eq_false, hth, Bool.true_eq_false, misPerson_ok h hx, hk, decide_false, not20]
            · have e := h.setK hx (decide (p2 = 1))
              refine CmM.yes (if_pos ⟨q2, q3, q4, hx, hk⟩) _ ?_ (Mq8.ofA (OnA.sA _ _) (by omega)) e
              unfold m_X6_changes_J139 m_X6_changes_J158 m_X6_whyNotWake m_X6_whyNotWake_J25
              obtain rfl | rfl : p2 = 0 ∨ p2 = 1 := by omega
              · simp (disch := omega) only [k_0, k_1, k_2, k_3, k_4, k_5, k_6, k_7, k_8, k_9, k_10, k_14, k_16, k_28, k_30, k_48, k_49, k_57, k_100, k_110, k_127, k_128, k_196, k_255, k_1000, k_1024, k_10000, nI_add, nI_mul, nI_div, irm_nI, nle, nlt, neq, gd_t, inb_nI, cl_nI, bnd_eq, gdT, gdo, gb0, gb1, gbi, bi0, bi1, bi0r, Option.bind_some, bndE_some, ite_t, ite_f, k_m9, k_m1, k_13, k_15, k_18, k_19, k_112, k_114, k_115, k_98, k_103, k_116, k_119, k_47, k_82, k_50, k_51, k_99, k_700, k_197, ne9, ne9s, nI_ne0s, ↓reduceIte, le0, q3, q4, ne_eq, not_true_eq_false, hth, Bool.true_eq_false, misPerson_ok h hx, decide_eq_true hk, le00]
                simp [hk, nI00]
              · simp (disch := omega) only [k_0, k_1, k_2, k_3, k_4, k_5, k_6, k_7, k_8, k_9, k_10, k_14, k_16, k_28, k_30, k_48, k_49, k_57, k_100, k_110, k_127, k_128, k_196, k_255, k_1000, k_1024, k_10000, nI_add, nI_mul, nI_div, irm_nI, nle, nlt, neq, gd_t, inb_nI, cl_nI, bnd_eq, gdT, gdo, gb0, gb1, gbi, bi0, bi1, bi0r, Option.bind_some, bndE_some, ite_t, ite_f, k_m9, k_m1, k_13, k_15, k_18, k_19, k_112, k_114, k_115, k_98, k_103, k_116, k_119, k_47, k_82, k_50, k_51, k_99, k_700, k_197, ne9, ne9s, nI_ne0s, ↓reduceIte, le0, q3, q4, ne_eq, not_true_eq_false, hth, Bool.true_eq_false, misPerson_ok h hx, decide_eq_true hk, le00]
                simp [hk, nI00]
          · rw [decide_eq_false hx] at hth
            refine CmM.no (if_neg fun e => hx e.2.2.2.1) T ?_ (Mq8.rf T)
            unfold m_X6_changes_J139 m_X6_whyNotWake m_X6_whyNotWake_J25
            simp (disch := omega) only [k_0, k_1, k_2, k_3, k_4, k_5, k_6, k_7, k_8, k_9, k_10, k_14, k_16, k_28, k_30, k_48, k_49, k_57, k_100, k_110, k_127, k_128, k_196, k_255, k_1000, k_1024, k_10000, nI_add, nI_mul, nI_div, irm_nI, nle, nlt, neq, gd_t, inb_nI, cl_nI, bnd_eq, gdT, gdo, gb0, gb1, gbi, bi0, bi1, bi0r, Option.bind_some, bndE_some, ite_t, ite_f, k_m9, k_m1, k_13, k_15, k_18, k_19, k_112, k_114, k_115, k_98, k_103, k_116, k_119, k_47, k_82, k_50, k_51, k_99, k_700, k_197, ne9, ne9s, nI_ne0s, ↓reduceIte, le0, q3, q4, ne_eq, not_true_eq_false, hth, not10]
        · refine CmM.no (if_neg fun e => q4 e.2.2.1) T ?_ (Mq8.rf T)
          unfold m_X6_changes_J139
          simp (disch := omega) only [k_0, k_1, k_2, k_3, k_4, k_5, k_6, k_7, k_8, k_9, k_10, k_14, k_16, k_28, k_30, k_48, k_49, k_57, k_100, k_110, k_127, k_128, k_196, k_255, k_1000, k_1024, k_10000, nI_add, nI_mul, nI_div, irm_nI, nle, nlt, neq, gd_t, inb_nI, cl_nI, bnd_eq, gdT, gdo, gb0, gb1, gbi, bi0, bi1, bi0r, Option.bind_some, bndE_some, ite_t, ite_f, k_m9, k_m1, k_13, k_15, k_18, k_19, k_112, k_114, k_115, k_98, k_103, k_116, k_119, k_47, k_82, k_50, k_51, k_99, k_700, k_197, ne9, ne9s, nI_ne0s, ↓reduceIte, le0, q3, q4, ne_eq, not_true_eq_false, not_false_eq_true]
      · refine CmM.no (if_neg fun e => q3 e.2.1) T ?_ (Mq8.rf T)
        unfold m_X6_changes_J139
        simp (disch := omega) only [k_0, k_1, k_2, k_3, k_4, k_5, k_6, k_7, k_8, k_9, k_10, k_14, k_16, k_28, k_30, k_48, k_49, k_57, k_100, k_110, k_127, k_128, k_196, k_255, k_1000, k_1024, k_10000, nI_add, nI_mul, nI_div, irm_nI, nle, nlt, neq, gd_t, inb_nI, cl_nI, bnd_eq, gdT, gdo, gb0, gb1, gbi, bi0, bi1, bi0r, Option.bind_some, bndE_some, ite_t, ite_f, k_m9, k_m1, k_13, k_15, k_18, k_19, k_112, k_114, k_115, k_98, k_103, k_116, k_119, k_47, k_82, k_50, k_51, k_99, k_700, k_197, ne9, ne9s, nI_ne0s, ↓reduceIte, le0, q3, ne_eq, not_true_eq_false, not_false_eq_true]
    · refine CmM.no (if_neg fun e => q2 e.1) T ?_ (Mq8.rf T)
      unfold m_X6_changes_J139
      simp (disch := omega) only [k_0, k_1, k_2, k_3, k_4, k_5, k_6, k_7, k_8, k_9, k_10, k_14, k_16, k_28, k_30, k_48, k_49, k_57, k_100, k_110, k_127, k_128, k_196, k_255, k_1000, k_1024, k_10000, nI_add, nI_mul, nI_div, irm_nI, nle, nlt, neq, gd_t, inb_nI, cl_nI, bnd_eq, gdT, gdo, gb0, gb1, gbi, bi0, bi1, bi0r, Option.bind_some, bndE_some, ite_t, ite_f, k_m9, k_m1, k_13, k_15, k_18, k_19, k_112, k_114, k_115, k_98, k_103, k_116, k_119, k_47, k_82, k_50, k_51, k_99, k_700, k_197, ne9, ne9s, nI_ne0s, ↓reduceIte]
  · rw [cmd_e5]
    by_cases q2 : p2 = 0
    · by_cases q3 : p3 = 0
      · by_cases q4 : p4 = 0
        · by_cases hx : p1 < n
          · rw [decide_eq_true hx] at hth
            obtain ⟨U, l1, l2, l3⟩ := drop_ok h hx
            refine CmM.yes (if_pos ⟨q2, q3, q4, hx⟩) U ?_ (Mq8.ofA l2 (by omega)) l3
            unfold m_X6_changes_J183
            simp (disch := omega) only [k_0, k_1, k_2, k_3, k_4, k_5, k_6, k_7, k_8, k_9, k_10, k_14, k_16, k_28, k_30, k_48, k_49, k_57, k_100, k_110, k_127, k_128, k_196, k_255, k_1000, k_1024, k_10000, nI_add, nI_mul, nI_div, irm_nI, nle, nlt, neq, gd_t, inb_nI, cl_nI, bnd_eq, gdT, gdo, gb0, gb1, gbi, bi0, bi1, bi0r, Option.bind_some, bndE_some, ite_t, ite_f, k_m9, k_m1, k_13, k_15, k_18, k_19, k_112, k_114, k_115, k_98, k_103, k_116, k_119, k_47, k_82, k_50, k_51, k_99, k_700, k_197, ne9, ne9s, nI_ne0s, ↓reduceIte, le0, q2, q3, q4, ne_eq, not_true_eq_false, hth, Bool.true_eq_false, l1]
          · rw [decide_eq_false hx] at hth
            refine CmM.no (if_neg fun e => hx e.2.2.2) T ?_ (Mq8.rf T)
            unfold m_X6_changes_J183
            simp (disch := omega) only [k_0, k_1, k_2, k_3, k_4, k_5, k_6, k_7, k_8, k_9, k_10, k_14, k_16, k_28, k_30, k_48, k_49, k_57, k_100, k_110, k_127, k_128, k_196, k_255, k_1000, k_1024, k_10000, nI_add, nI_mul, nI_div, irm_nI, nle, nlt, neq, gd_t, inb_nI, cl_nI, bnd_eq, gdT, gdo, gb0, gb1, gbi, bi0, bi1, bi0r, Option.bind_some, bndE_some, ite_t, ite_f, k_m9, k_m1, k_13, k_15, k_18, k_19, k_112, k_114, k_115, k_98, k_103, k_116, k_119, k_47, k_82, k_50, k_51, k_99, k_700, k_197, ne9, ne9s, nI_ne0s, ↓reduceIte, le0, q2, q3, q4, ne_eq, not_true_eq_false, hth]
        · refine CmM.no (if_neg fun e => q4 e.2.2.1) T ?_ (Mq8.rf T)
          unfold m_X6_changes_J183
          simp (disch := omega) only [k_0, k_1, k_2, k_3, k_4, k_5, k_6, k_7, k_8, k_9, k_10, k_14, k_16, k_28, k_30, k_48, k_49, k_57, k_100, k_110, k_127, k_128, k_196, k_255, k_1000, k_1024, k_10000, nI_add, nI_mul, nI_div, irm_nI, nle, nlt, neq, gd_t, inb_nI, cl_nI, bnd_eq, gdT, gdo, gb0, gb1, gbi, bi0, bi1, bi0r, Option.bind_some, bndE_some, ite_t, ite_f, k_m9, k_m1, k_13, k_15, k_18, k_19, k_112, k_114, k_115, k_98, k_103, k_116, k_119, k_47, k_82, k_50, k_51, k_99, k_700, k_197, ne9, ne9s, nI_ne0s, ↓reduceIte, le0, q2, q3, q4, ne_eq, not_true_eq_false, not_false_eq_true]
      · refine CmM.no (if_neg fun e => q3 e.2.1) T ?_ (Mq8.rf T)
        unfold m_X6_changes_J183
        simp (disch := omega) only [k_0, k_1, k_2, k_3, k_4, k_5, k_6, k_7, k_8, k_9, k_10, k_14, k_16, k_28, k_30, k_48, k_49, k_57, k_100, k_110, k_127, k_128, k_196, k_255, k_1000, k_1024, k_10000, nI_add, nI_mul, nI_div, irm_nI, nle, nlt, neq, gd_t, inb_nI, cl_nI, bnd_eq, gdT, gdo, gb0, gb1, gbi, bi0, bi1, bi0r, Option.bind_some, bndE_some, ite_t, ite_f, k_m9, k_m1, k_13, k_15, k_18, k_19, k_112, k_114, k_115, k_98, k_103, k_116, k_119, k_47, k_82, k_50, k_51, k_99, k_700, k_197, ne9, ne9s, nI_ne0s, ↓reduceIte, le0, q2, q3, ne_eq, not_true_eq_false, not_false_eq_true]
    · refine CmM.no (if_neg fun e => q2 e.1) T ?_ (Mq8.rf T)
      unfold m_X6_changes_J183
      simp (disch := omega) only [k_0, k_1, k_2, k_3, k_4, k_5, k_6, k_7, k_8, k_9, k_10, k_14, k_16, k_28, k_30, k_48, k_49, k_57, k_100, k_110, k_127, k_128, k_196, k_255, k_1000, k_1024, k_10000, nI_add, nI_mul, nI_div, irm_nI, nle, nlt, neq, gd_t, inb_nI, cl_nI, bnd_eq, gdT, gdo, gb0, gb1, gbi, bi0, bi1, bi0r, Option.bind_some, bndE_some, ite_t, ite_f, k_m9, k_m1, k_13, k_15, k_18, k_19, k_112, k_114, k_115, k_98, k_103, k_116, k_119, k_47, k_82, k_50, k_51, k_99, k_700, k_197, ne9, ne9s, nI_ne0s, ↓reduceIte, le0, q2, ne_eq, not_true_eq_false, not_false_eq_true]
theorem asks_ok (h : RepM T 14 0 n K Z) {o p1 p2 p3 p4 : Nat} (ho : 6 ≤ o) (ho2 : o < 10) (h1 : p1 < 10) (h2 : p2 < 10) (h3 : p3 < 10) (h4 : p4 < 10) : CmM T (m_X6_asks (nI o) (nI p1) (nI p2) (nI p3) (nI p4) T) (cmd (n, K, Z) o p1 p2 p3 p4) := by
  have hn := h.1
  obtain ⟨w, w1, w2⟩ := awakeSet_ok h
  obtain ⟨U, u1, u2, u3⟩ := spread_ok h w2
  have hU := u2.rep h (by omega) (by omega) (by omega) (by omega)
  have k8 := Mq8.ofScr u2
  have hwr := whyNotRight_ok hU (nI p1) (nI p2) (nI p3)
  have hcl := cnt_196 (Clo (aw n K) Z)
  have t1 := isThing_ok hU (nI p1)
  have t2 := isThing_ok hU (nI p2)
  rw [isT_nI (by omega) (by omega)] at t1 t2
  unfold m_X6_asks
  obtain rfl | rfl | rfl | rfl : o = 6 ∨ o = 7 ∨ o = 8 ∨ o = 9 := by omega
  · rw [cmd_e6]
    unfold m_X6_asks_J115 m_X6_asks_J142
    by_cases q4 : p4 = 0
    · by_cases hv : p1 < n ∧ p2 < 4 ∧ p3 < n ∧ p1 ≠ p3
      · have hw0 := (wr_val hn (by omega) (by omega) (by omega)).mpr hv
        rw [hw0] at hwr
        cases hz : Z p1 p2 p3
        · refine CmM.no (if_neg fun e => absurd e.2.2 (by decide)) U ?_ k8
          simp (disch := omega) only [k_0, k_1, k_2, k_3, k_4, k_5, k_6, k_7, k_8, k_9, k_10, k_14, k_16, k_28, k_30, k_48, k_49, k_57, k_100, k_110, k_127, k_128, k_196, k_255, k_1000, k_1024, k_10000, nI_add, nI_mul, nI_div, irm_nI, nle, nlt, neq, gd_t, inb_nI, cl_nI, bnd_eq, gdT, gdo, gb0, gb1, gbi, bi0, bi1, bi0r, Option.bind_some, bndE_some, ite_t, ite_f, k_m9, k_m1, k_13, k_15, k_18, k_19, k_112, k_114, k_115, k_98, k_103, k_116, k_119, k_47, k_82, k_50, k_51, k_99, k_700, k_197, ne9, ne9s, nI_ne0s, ↓reduceIte, w1, u1, le0, q4, ne_eq, not_true_eq_false, hwr, le00, mhas_ok hU (show p1 < 7 by omega) hv.2.1 (show p3 < 7 by omega), hz, bi_f, true_or, or_true, decide_true]
        · refine CmM.yes (if_pos ⟨q4, hv, rfl⟩) U ?_ k8 hU
          simp (disch := omega) only [k_0, k_1, k_2, k_3, k_4, k_5, k_6, k_7, k_8, k_9, k_10, k_14, k_16, k_28, k_30, k_48, k_49, k_57, k_100, k_110, k_127, k_128, k_196, k_255, k_1000, k_1024, k_10000, nI_add, nI_mul, nI_div, irm_nI, nle, nlt, neq, gd_t, inb_nI, cl_nI, bnd_eq, gdT, gdo, gb0, gb1, gbi, bi0, bi1, bi0r, Option.bind_some, bndE_some, ite_t, ite_f, k_m9, k_m1, k_13, k_15, k_18, k_19, k_112, k_114, k_115, k_98, k_103, k_116, k_119, k_47, k_82, k_50, k_51, k_99, k_700, k_197, ne9, ne9s, nI_ne0s, ↓reduceIte, w1, u1, le0, q4, ne_eq, not_true_eq_false, hwr, le00, mhas_ok hU (show p1 < 7 by omega) hv.2.1 (show p3 < 7 by omega), hz, bi_t, true_or, or_true, decide_true]
      · have hne : wr n (nI p1) (nI p2) (nI p3) ≠ 0 := fun e => hv ((wr_val hn (by omega) (by omega) (by omega)).mp e)
        refine CmM.no (if_neg fun e => hv e.2.1) U ?_ k8
        simp (disch := omega) only [k_0, k_1, k_2, k_3, k_4, k_5, k_6, k_7, k_8, k_9, k_10, k_14, k_16, k_28, k_30, k_48, k_49, k_57, k_100, k_110, k_127, k_128, k_196, k_255, k_1000, k_1024, k_10000, nI_add, nI_mul, nI_div, irm_nI, nle, nlt, neq, gd_t, inb_nI, cl_nI, bnd_eq, gdT, gdo, gb0, gb1, gbi, bi0, bi1, bi0r, Option.bind_some, bndE_some, ite_t, ite_f, k_m9, k_m1, k_13, k_15, k_18, k_19, k_112, k_114, k_115, k_98, k_103, k_116, k_119, k_47, k_82, k_50, k_51, k_99, k_700, k_197, ne9, ne9s, nI_ne0s, ↓reduceIte, w1, u1, le0, q4, ne_eq, not_true_eq_false, hwr, npos hne wr_lt]
    · refine CmM.no (if_neg fun e => q4 e.1) U ?_ k8
      simp (disch := omega) only [k_0, k_1, k_2, k_3, k_4, k_5, k_6, k_7, k_8, k_9, k_10, k_14, k_16, k_28, k_30, k_48, k_49, k_57, k_100, k_110, k_127, k_128, k_196, k_255, k_1000, k_1024, k_10000, nI_add, nI_mul, nI_div, irm_nI, nle, nlt, neq, gd_t, inb_nI, cl_nI, bnd_eq, gdT, gdo, gb0, gb1, gbi, bi0, bi1, bi0r, Option.bind_some, bndE_some, ite_t, ite_f, k_m9, k_m1, k_13, k_15, k_18, k_19, k_112, k_114, k_115, k_98, k_103, k_116, k_119, k_47, k_82, k_50, k_51, k_99, k_700, k_197, ne9, ne9s, nI_ne0s, ↓reduceIte, w1, u1, le0, q4, ne_eq, not_true_eq_false, not_false_eq_true]
  · rw [cmd_e7]
    unfold m_X6_asks_J115 m_X6_asks_J142
    by_cases q4 : p4 = 0
    · by_cases hv : p1 < n ∧ p2 < 4 ∧ p3 < n ∧ p1 ≠ p3
      · have hw0 := (wr_val hn (by omega) (by omega) (by omega)).mpr hv
        rw [hw0] at hwr
        cases hz : Clo (aw n K) Z p1 p2 p3
        · refine CmM.no (if_neg fun e => absurd e.2.2 (by decide)) U ?_ k8
          simp (disch := omega) only [k_0, k_1, k_2, k_3, k_4, k_5, k_6, k_7, k_8, k_9, k_10, k_14, k_16, k_28, k_30, k_48, k_49, k_57, k_100, k_110, k_127, k_128, k_196, k_255, k_1000, k_1024, k_10000, nI_add, nI_mul, nI_div, irm_nI, nle, nlt, neq, gd_t, inb_nI, cl_nI, bnd_eq, gdT, gdo, gb0, gb1, gbi, bi0, bi1, bi0r, Option.bind_some, bndE_some, ite_t, ite_f, k_m9, k_m1, k_13, k_15, k_18, k_19, k_112, k_114, k_115, k_98, k_103, k_116, k_119, k_47, k_82, k_50, k_51, k_99, k_700, k_197, ne9, ne9s, nI_ne0s, ↓reduceIte, w1, u1, le0, q4, ne_eq, not_true_eq_false, hwr, le00, ends_ok u3.2.1 (show p1 < 7 by omega) hv.2.1 (show p3 < 7 by omega), hz, bi_f, true_or, or_true, decide_true]
        · refine CmM.yes (if_pos ⟨q4, hv, rfl⟩) U ?_ k8 hU
          simp (disch := omega) only [k_0, k_1, k_2, k_3, k_4, k_5, k_6, k_7, k_8, k_9, k_10, k_14, k_16, k_28, k_30, k_48, k_49, k_57, k_100, k_110, k_127, k_128, k_196, k_255, k_1000, k_1024, k_10000, nI_add, nI_mul, nI_div, irm_nI, nle, nlt, neq, gd_t, inb_nI, cl_nI, bnd_eq, gdT, gdo, gb0, gb1, gbi, bi0, bi1, bi0r, Option.bind_some, bndE_some, ite_t, ite_f, k_m9, k_m1, k_13, k_15, k_18, k_19, k_112, k_114, k_115, k_98, k_103, k_116, k_119, k_47, k_82, k_50, k_51, k_99, k_700, k_197, ne9, ne9s, nI_ne0s, ↓reduceIte, w1, u1, le0, q4, ne_eq, not_true_eq_false, hwr, le00, ends_ok u3.2.1 (show p1 < 7 by omega) hv.2.1 (show p3 < 7 by omega), hz, bi_t, true_or, or_true, decide_true]
      · have hne : wr n (nI p1) (nI p2) (nI p3) ≠ 0 := fun e => hv ((wr_val hn (by omega) (by omega) (by omega)).mp e)
        refine CmM.no (if_neg fun e => hv e.2.1) U ?_ k8
        simp (disch := omega) only [k_0, k_1, k_2, k_3, k_4, k_5, k_6, k_7, k_8, k_9, k_10, k_14, k_16, k_28, k_30, k_48, k_49, k_57, k_100, k_110, k_127, k_128, k_196, k_255, k_1000, k_1024, k_10000, nI_add, nI_mul, nI_div, irm_nI, nle, nlt, neq, gd_t, inb_nI, cl_nI, bnd_eq, gdT, gdo, gb0, gb1, gbi, bi0, bi1, bi0r, Option.bind_some, bndE_some, ite_t, ite_f, k_m9, k_m1, k_13, k_15, k_18, k_19, k_112, k_114, k_115, k_98, k_103, k_116, k_119, k_47, k_82, k_50, k_51, k_99, k_700, k_197, ne9, ne9s, nI_ne0s, ↓reduceIte, w1, u1, le0, q4, ne_eq, not_true_eq_false, hwr, npos hne wr_lt]
    · refine CmM.no (if_neg fun e => q4 e.1) U ?_ k8
      simp (disch := omega) only [k_0, k_1, k_2, k_3, k_4, k_5, k_6, k_7, k_8, k_9, k_10, k_14, k_16, k_28, k_30, k_48, k_49, k_57, k_100, k_110, k_127, k_128, k_196, k_255, k_1000, k_1024, k_10000, nI_add, nI_mul, nI_div, irm_nI, nle, nlt, neq, gd_t, inb_nI, cl_nI, bnd_eq, gdT, gdo, gb0, gb1, gbi, bi0, bi1, bi0r, Option.bind_some, bndE_some, ite_t, ite_f, k_m9, k_m1, k_13, k_15, k_18, k_19, k_112, k_114, k_115, k_98, k_103, k_116, k_119, k_47, k_82, k_50, k_51, k_99, k_700, k_197, ne9, ne9s, nI_ne0s, ↓reduceIte, w1, u1, le0, q4, ne_eq, not_true_eq_false, not_false_eq_true]
  · rw [cmd_e8]
    unfold m_X6_asks_J42 m_X6_asks_J43
    by_cases q1 : p1 = 0
    · by_cases hle : cnt (Clo (aw n K) Z) ≤ 100 * p2 + 10 * p3 + p4
      · refine CmM.yes (if_pos ⟨q1, hle⟩) U ?_ k8 hU
        simp (disch := omega) only [k_0, k_1, k_2, k_3, k_4, k_5, k_6, k_7, k_8, k_9, k_10, k_14, k_16, k_28, k_30, k_48, k_49, k_57, k_100, k_110, k_127, k_128, k_196, k_255, k_1000, k_1024, k_10000, nI_add, nI_mul, nI_div, irm_nI, nle, nlt, neq, gd_t, inb_nI, cl_nI, bnd_eq, gdT, gdo, gb0, gb1, gbi, bi0, bi1, bi0r, Option.bind_some, bndE_some, ite_t, ite_f, k_m9, k_m1, k_13, k_15, k_18, k_19, k_112, k_114, k_115, k_98, k_103, k_116, k_119, k_47, k_82, k_50, k_51, k_99, k_700, k_197, ne9, ne9s, nI_ne0s, ↓reduceIte, w1, u1, q1, endMany_ok u3.2.1, true_or, or_true, decide_true]
      · refine CmM.no (if_neg fun e => hle e.2) U ?_ k8
        simp (disch := omega) only [k_0, k_1, k_2, k_3, k_4, k_5, k_6, k_7, k_8, k_9, k_10, k_14, k_16, k_28, k_30, k_48, k_49, k_57, k_100, k_110, k_127, k_128, k_196, k_255, k_1000, k_1024, k_10000, nI_add, nI_mul, nI_div, irm_nI, nle, nlt, neq, gd_t, inb_nI, cl_nI, bnd_eq, gdT, gdo, gb0, gb1, gbi, bi0, bi1, bi0r, Option.bind_some, bndE_some, ite_t, ite_f, k_m9, k_m1, k_13, k_15, k_18, k_19, k_112, k_114, k_115, k_98, k_103, k_116, k_119, k_47, k_82, k_50, k_51, k_99, k_700, k_197, ne9, ne9s, nI_ne0s, ↓reduceIte, w1, u1, q1, endMany_ok u3.2.1, true_or, or_true, decide_true]
    · refine CmM.no (if_neg fun e => q1 e.1) U ?_ k8
      simp (disch := omega) only [k_0, k_1, k_2, k_3, k_4, k_5, k_6, k_7, k_8, k_9, k_10, k_14, k_16, k_28, k_30, k_48, k_49, k_57, k_100, k_110, k_127, k_128, k_196, k_255, k_1000, k_1024, k_10000, nI_add, nI_mul, nI_div, irm_nI, nle, nlt, neq, gd_t, inb_nI, cl_nI, bnd_eq, gdT, gdo, gb0, gb1, gbi, bi0, bi1, bi0r, Option.bind_some, bndE_some, ite_t, ite_f, k_m9, k_m1, k_13, k_15, k_18, k_19, k_112, k_114, k_115, k_98, k_103, k_116, k_119, k_47, k_82, k_50, k_51, k_99, k_700, k_197, ne9, ne9s, nI_ne0s, ↓reduceIte, w1, u1, q1, true_or, or_true, decide_true]
  · rw [cmd_e9]
    unfold m_X6_asks_J81
    by_cases q3 : p3 = 0
    · by_cases q4 : p4 = 0
      · by_cases x1 : p1 < n
        · rw [decide_eq_true x1] at t1
          by_cases x2 : p2 < n
          · rw [decide_eq_true x2] at t2
            by_cases x3 : p1 = p2
            · refine CmM.no (if_neg fun e => e.2.2.2.2.1 x3) U ?_ k8
              simp (disch := omega) only [k_0, k_1, k_2, k_3, k_4, k_5, k_6, k_7, k_8, k_9, k_10, k_14, k_16, k_28, k_30, k_48, k_49, k_57, k_100, k_110, k_127, k_128, k_196, k_255, k_1000, k_1024, k_10000, nI_add, nI_mul, nI_div, irm_nI, nle, nlt, neq, gd_t, inb_nI, cl_nI, bnd_eq, gdT, gdo, gb0, gb1, gbi, bi0, bi1, bi0r, Option.bind_some, bndE_some, ite_t, ite_f, k_m9, k_m1, k_13, k_15, k_18, k_19, k_112, k_114, k_115, k_98, k_103, k_116, k_119, k_47, k_82, k_50, k_51, k_99, k_700, k_197, ne9, ne9s, nI_ne0s, ↓reduceIte, w1, u1, le0, q3, q4, ne_eq, not_true_eq_false, t1, t2, Bool.true_eq_false, eq_true x3]
            · obtain ⟨V, l1, l2, l3⟩ := mlearn_ok hU false (T := Z) (fun q => by cases q)
              rw [bi_f] at l1
              have hb : bt (gA V 24 p1) p2 = lr (hr K Z) p1 p2 := l3 p1 x1 p2 (by omega)
              have hV := hU.keep fun j => l2.2.1 _ j (show 14 ≠ 24 by omega)
              have k9 := k8.tr (Mq8.ofA l2 (by omega))
              cases hl : lr (hr K Z) p1 p2
              · rw [hl] at hb
                refine CmM.no (if_neg fun e => absurd e.2.2.2.2.2 (by decide)) V ?_ k9
                simp (disch := omega) only [k_0, k_1, k_2, k_3, k_4, k_5, k_6, k_7, k_8, k_9, k_10, k_14, k_16, k_28, k_30, k_48, k_49, k_57, k_100, k_110, k_127, k_128, k_196, k_255, k_1000, k_1024, k_10000, nI_add, nI_mul, nI_div, irm_nI, nle, nlt, neq, gd_t, inb_nI, cl_nI, bnd_eq, gdT, gdo, gb0, gb1, gbi, bi0, bi1, bi0r, Option.bind_some, bndE_some, ite_t, ite_f, k_m9, k_m1, k_13, k_15, k_18, k_19, k_112, k_114, k_115, k_98, k_103, k_116, k_119, k_47, k_82, k_50, k_51, k_99, k_700, k_197, ne9, ne9s, nI_ne0s, ↓reduceIte, w1, u1, le0, q3, q4, ne_eq, not_true_eq_false, t1, t2, Bool.true_eq_false, eq_false x3, l1, isIn_ok _ (show p2 < 32 by omega), hb, bi_f, true_or, or_true, decide_true]
              · rw [hl] at hb
                refine CmM.yes (if_pos ⟨q3, q4, x1, x2, x3, rfl⟩) V ?_ k9 hV
                simp (disch := omega) only [k_0, k_1, k_2, k_3, k_4, k_5, k_6, k_7, k_8, k_9, k_10, k_14, k_16, k_28, k_30, k_48, k_49, k_57, k_100, k_110, k_127, k_128, k_196, k_255, k_1000, k_1024, k_10000, nI_add, nI_mul, nI_div, irm_nI, nle, nlt, neq, gd_t, inb_nI, cl_nI, bnd_eq, gdT, gdo, gb0, gb1, gbi, bi0, bi1, bi0r, Option.bind_some, bndE_some, ite_t, ite_f, k_m9, k_m1, k_13, k_15, k_18, k_19, k_112, k_114, k_115, k_98, k_103, k_116, k_119, k_47, k_82, k_50, k_51, k_99, k_700, k_197, ne9, ne9s, nI_ne0s, ↓reduceIte, w1, u1, le0, q3, q4, ne_eq, not_true_eq_false, t1, t2, Bool.true_eq_false, eq_false x3, l1, isIn_ok _ (show p2 < 32 by omega), hb, bi_t, true_or, or_true, decide_true]
          · rw [decide_eq_false x2] at t2
            refine CmM.no (if_neg fun e => x2 e.2.2.2.1) U ?_ k8
            simp (disch := omega) only [k_0, k_1, k_2, k_3, k_4, k_5, k_6, k_7, k_8, k_9, k_10, k_14, k_16, k_28, k_30, k_48, k_49, k_57, k_100, k_110, k_127, k_128, k_196, k_255, k_1000, k_1024, k_10000, nI_add, nI_mul, nI_div, irm_nI, nle, nlt, neq, gd_t, inb_nI, cl_nI, bnd_eq, gdT, gdo, gb0, gb1, gbi, bi0, bi1, bi0r, Option.bind_some, bndE_some, ite_t, ite_f, k_m9, k_m1, k_13, k_15, k_18, k_19, k_112, k_114, k_115, k_98, k_103, k_116, k_119, k_47, k_82, k_50, k_51, k_99, k_700, k_197, ne9, ne9s, nI_ne0s, ↓reduceIte, w1, u1, le0, q3, q4, ne_eq, not_true_eq_false, t1, t2, Bool.true_eq_false]
        · rw [decide_eq_false x1] at t1
          refine CmM.no (if_neg fun e => x1 e.2.2.1) U ?_ k8
          simp (disch := omega) only [k_0, k_1, k_2, k_3, k_4, k_5, k_6, k_7, k_8, k_9, k_10, k_14, k_16, k_28, k_30, k_48, k_49, k_57, k_100, k_110, k_127, k_128, k_196, k_255, k_1000, k_1024, k_10000, nI_add, nI_mul, nI_div, irm_nI, nle, nlt, neq, gd_t, inb_nI, cl_nI, bnd_eq, gdT, gdo, gb0, gb1, gbi, bi0, bi1, bi0r, Option.bind_some, bndE_some, ite_t, ite_f, k_m9, k_m1, k_13, k_15, k_18, k_19, k_112, k_114, k_115, k_98, k_103, k_116, k_119, k_47, k_82, k_50, k_51, k_99, k_700, k_197, ne9, ne9s, nI_ne0s, ↓reduceIte, w1, u1, le0, q3, q4, ne_eq, not_true_eq_false, t1]
      · refine CmM.no (if_neg fun e => q4 e.2.1) U ?_ k8
        simp (disch := omega) only [k_0, k_1, k_2, k_3, k_4, k_5, k_6, k_7, k_8, k_9, k_10, k_14, k_16, k_28, k_30, k_48, k_49, k_57, k_100, k_110, k_127, k_128, k_196, k_255, k_1000, k_1024, k_10000, nI_add, nI_mul, nI_div, irm_nI, nle, nlt, neq, gd_t, inb_nI, cl_nI, bnd_eq, gdT, gdo, gb0, gb1, gbi, bi0, bi1, bi0r, Option.bind_some, bndE_some, ite_t, ite_f, k_m9, k_m1, k_13, k_15, k_18, k_19, k_112, k_114, k_115, k_98, k_103, k_116, k_119, k_47, k_82, k_50, k_51, k_99, k_700, k_197, ne9, ne9s, nI_ne0s, ↓reduceIte, w1, u1, le0, q3, q4, ne_eq, not_true_eq_false, not_false_eq_true]
    · refine CmM.no (if_neg fun e => q3 e.1) U ?_ k8
      simp (disch := omega) only [k_0, k_1, k_2, k_3, k_4, k_5, k_6, k_7, k_8, k_9, k_10, k_14, k_16, k_28, k_30, k_48, k_49, k_57, k_100, k_110, k_127, k_128, k_196, k_255, k_1000, k_1024, k_10000, nI_add, nI_mul, nI_div, irm_nI, nle, nlt, neq, gd_t, inb_nI, cl_nI, bnd_eq, gdT, gdo, gb0, gb1, gbi, bi0, bi1, bi0r, Option.bind_some, bndE_some, ite_t, ite_f, k_m9, k_m1, k_13, k_15, k_18, k_19, k_112, k_114, k_115, k_98, k_103, k_116, k_119, k_47, k_82, k_50, k_51, k_99, k_700, k_197, ne9, ne9s, nI_ne0s, ↓reduceIte, w1, u1, le0, q3, ne_eq, not_true_eq_false, not_false_eq_true]
theorem succeeds_ok {c : Ab} (h : RM T 14 0 c) (hc : AOk c) {grp : Nat} (hg : grp < 100000) : CmM T (m_X6_succeeds (nI grp) T) (digs grp c) := by
  obtain ⟨n, K, Z⟩ := c
  have h : RepM T 14 0 n K Z := h
  unfold digs
  have g1 : grp / 1000 % 10 < 10 := by omega
  have g2 : grp / 100 % 10 < 10 := by omega
  have g3 : grp / 10 % 10 < 10 := by omega
  have g4 : grp % 10 < 10 := by omega
  have g0 : grp / 10000 < 10 := by omega
  have e1 : irm (nI grp / nI 1000) (nI 10) = nI (grp / 1000 % 10) := by rw [nI_div (by omega) (by omega) (by omega), irm_nI (by omega) (by omega) (by omega)]
  have e2 : irm (nI grp / nI 100) (nI 10) = nI (grp / 100 % 10) := by rw [nI_div (by omega) (by omega) (by omega), irm_nI (by omega) (by omega) (by omega)]
  have e3 : irm (nI grp / nI 10) (nI 10) = nI (grp / 10 % 10) := by rw [nI_div (by omega) (by omega) (by omega), irm_nI (by omega) (by omega) (by omega)]
  have e4 : irm (nI grp) (nI 10) = nI (grp % 10) := irm_nI (by omega) (by omega) (by omega)
  have e0 : nI grp / nI 10000 = nI (grp / 10000) := nI_div (by omega) (by omega) (by omega)
  unfold m_X6_succeeds m_X6_succeeds_J78
  rw [show (1000 : Int32) = nI 1000 from rfl, show (100 : Int32) = nI 100 from rfl, show (10 : Int32) = nI 10 from rfl, show (10000 : Int32) = nI 10000 from rfl, e1, e2, e3, e4, e0, bnd_eq, bnd_eq, bnd_eq, bnd_eq, bnd_eq]
  generalize grp / 10000 = o at *
  generalize grp / 1000 % 10 = p1 at *
  generalize grp / 100 % 10 = p2 at *
  generalize grp / 10 % 10 = p3 at *
  generalize grp % 10 = p4 at *
  by_cases h0 : o = 0
  · subst h0
    rw [cmd_e0]
    refine CmM.no rfl T ?_ (Mq8.rf T)
    simp (disch := omega) only [k_0, k_1, k_2, k_3, k_4, k_5, k_6, k_7, k_8, k_9, k_10, k_14, k_16, k_28, k_30, k_48, k_49, k_57, k_100, k_110, k_127, k_128, k_196, k_255, k_1000, k_1024, k_10000, nI_add, nI_mul, nI_div, irm_nI, nle, nlt, neq, gd_t, inb_nI, cl_nI, bnd_eq, gdT, gdo, gb0, gb1, gbi, bi0, bi1, bi0r, Option.bind_some, bndE_some, ite_t, ite_f, k_m9, k_m1, k_13, k_15, k_18, k_19, k_112, k_114, k_115, k_98, k_103, k_116, k_119, k_47, k_82, k_50, k_51, k_99, k_700, k_197, ne9, ne9s, nI_ne0s, ↓reduceIte]
  · by_cases h6 : 6 ≤ o
    · refine (asks_ok h h6 g0 g1 g2 g3 g4).pass fun b U e => ?_
      simp (disch := omega) only [k_0, k_1, k_2, k_3, k_4, k_5, k_6, k_7, k_8, k_9, k_10, k_14, k_16, k_28, k_30, k_48, k_49, k_57, k_100, k_110, k_127, k_128, k_196, k_255, k_1000, k_1024, k_10000, nI_add, nI_mul, nI_div, irm_nI, nle, nlt, neq, gd_t, inb_nI, cl_nI, bnd_eq, gdT, gdo, gb0, gb1, gbi, bi0, bi1, bi0r, Option.bind_some, bndE_some, ite_t, ite_f, k_m9, k_m1, k_13, k_15, k_18, k_19, k_112, k_114, k_115, k_98, k_103, k_116, k_119, k_47, k_82, k_50, k_51, k_99, k_700, k_197, ne9, ne9s, nI_ne0s, ↓reduceIte, e, eq_false h0]
    · refine (changes_ok h hc (by omega) (by omega) g1 g2 g3 g4).pass fun b U e => ?_
      simp (disch := omega) only [k_0, k_1, k_2, k_3, k_4, k_5, k_6, k_7, k_8, k_9, k_10, k_14, k_16, k_28, k_30, k_48, k_49, k_57, k_100, k_110, k_127, k_128, k_196, k_255, k_1000, k_1024, k_10000, nI_add, nI_mul, nI_div, irm_nI, nle, nlt, neq, gd_t, inb_nI, cl_nI, bnd_eq, gdT, gdo, gb0, gb1, gbi, bi0, bi1, bi0r, Option.bind_some, bndE_some, ite_t, ite_f, k_m9, k_m1, k_13, k_15, k_18, k_19, k_112, k_114, k_115, k_98, k_103, k_116, k_119, k_47, k_82, k_50, k_51, k_99, k_700, k_197, ne9, ne9s, nI_ne0s, ↓reduceIte, e, eq_false h0]
