/-! a thing goes; counts of a column, of bits -/
def up (i j : Nat) : Nat := if j < i then j else j + 1
def dR (i : Nat) (Z : Rt) : Rt := fun x k y => Z (up i x) k (up i y)
def dK (i : Nat) (K : Kd) : Kd := fun j => K (up i j)
theorem dR_WF {i n : Nat} {Z : Rt} (h : WF n Z) (hi : i < n) : WF (n - 1) (dR i Z) := by
  intro x k y q
  have := h _ _ _ q
  unfold up at this
  refine ⟨?_, this.2.1, ?_, fun e => this.2.2.2 (by rw [e])⟩
  · have := this.1
    split at this <;> omega
  · have := this.2.2.1
    split at this <;> omega
theorem msk : ∀ i, i < 7 → ∀ j, j < 32 → bt (((1 : Int32) <<< (nI i &&& 31)) - 1) j = decide (j < i) := by decide +kernel
theorem b_127 : ∀ j, j < 32 → bt (127 : Int32) j = decide (j < 7) := by decide +kernel
theorem closeGap_ok {v : Int32} {i : Nat} (hi : i < 7) (hv : ∀ j, 7 ≤ j → j < 32 → bt v j = false) : ∃ w, m_X3_closeGap v (nI i) = some w ∧ ∀ j, j < 32 → bt w j = bt v (up i j) := by
  unfold m_X3_closeGap
  refine ⟨_, rfl, fun j hj => ?_⟩
  rw [b_or, b_and, msk i hi j hj, b_shl i (by omega) _ hj]
  rw [show nI i + (1 : Int32) = nI (i + 1) from nI_add i 1, b_sshr (i + 1) (by omega) v (show j - i < 32 by omega)]
  unfold up
  by_cases hji : j < i
  · simp [hji, Nat.not_le.mpr hji]
  · rw [if_neg hji, decide_eq_false hji, decide_eq_true (show i ≤ j by omega), show i + 1 + (j - i) = j + 1 by omega]
    by_cases h31 : j + 1 < 32
    · simp [h31]
    · rw [if_neg h31, hv 31 (by omega) (by omega), b_big (show 32 ≤ j + 1 by omega)]
      simp
theorem closeGapInRow_ok {v : Int32} {i : Nat} (hi : i < 7) : ∃ w, m_X3_closeGapInRow v (nI i) = some w ∧ ∀ j, j < 32 → bt w j = (decide (j < 28) && (decide (up i (j % 7) < 7) && bt v (7 * (j / 7) + up i (j % 7)))) := by
  unfold m_X3_closeGapInRow
  obtain ⟨r, h1, h2⟩ := loopO_inv (f := fun x : Int32 × Int32 => m_X3_closeGapInRow_L4 v (nI i) x.1 x.2) (fun k p => k ≤ 4 ∧ p.2 = nI k ∧ ∀ j, j < 32 → bt p.1 j = (decide (j < 7 * k) && (decide (up i (j % 7) < 7) && bt v (7 * (j / 7) + up i (j % 7))))) (fun w => ∀ j, j < 32 → bt w j = (decide (j < 28) && (decide (up i (j % 7) < 7) && bt v (7 * (j / 7) + up i (j % 7))))) 4 (fun k p hp => by
    obtain ⟨u, c⟩ := p
    obtain ⟨hk, hc, hb⟩ := hp
    simp only at hc hb
    subst hc
    by_cases hk4 : k < 4
    · obtain ⟨w, w1, w2⟩ := closeGap_ok (v := (v >>> (nI (7 * k) &&& 31)) &&& 127) hi (fun j h1 h2 => by rw [b_and, b_127 j h2, decide_eq_false (by omega), Bool.and_false])
      refine Or.inl ⟨hk4, (u ||| (w <<< (nI (7 * k) &&& 31)), nI (k + 1)), ?_, hk4, rfl, fun j hj => ?_⟩
      · simp only [m_X3_closeGapInRow_L4]
        rw [show (7 : Int32) * nI k = nI (7 * k) from nI_mul 7 k, bnd_eq, w1, show (4 : Int32) = nI 4 from rfl, if_neg (by rw [nle (by omega) (by omega)]; omega)]
        rw [Option.bind_some, bnd_eq, show nI k + (1 : Int32) = nI (k + 1) from nI_add k 1]
      · show bt (u ||| (w <<< (nI (7 * k) &&& 31))) j = _
        rw [b_or, hb j hj, b_shl (7 * k) (by omega) _ hj]
        by_cases h7 : j < 7 * k
        · simp [h7, show j < 7 * (k + 1) by omega, Nat.not_le.mpr h7]
        · rw [decide_eq_false h7, decide_eq_true (show 7 * k ≤ j by omega), w2 _ (by omega), Bool.false_and, Bool.false_or, Bool.true_and]
          have hub : up i (j - 7 * k) ≤ j - 7 * k + 1 := by unfold up; split <;> omega
          by_cases hu : up i (j - 7 * k) < 32
          · rw [b_and, b_127 _ hu, b_sshr (7 * k) (by omega) v hu]
            by_cases h77 : j < 7 * (k + 1)
            · rw [show j % 7 = j - 7 * k by omega, show j / 7 = k by omega, decide_eq_true h77, Bool.true_and, if_pos (by omega), Bool.and_comm]
            · rw [decide_eq_false h77, decide_eq_false, Bool.and_false, Bool.false_and]
              unfold up
              split <;> omega
          · have : 32 ≤ up i (j - 7 * k) := by omega
            rw [b_big this, decide_eq_false (show ¬ j < 7 * (k + 1) by omega), Bool.false_and]
    · obtain rfl : k = 4 := by omega
      refine Or.inr ⟨u, ?_, hb⟩
      simp only [m_X3_closeGapInRow_L4]
      simp (disch := omega) only [k_0, k_1, k_2, k_3, k_4, k_5, k_6, k_7, k_8, k_9, k_10, k_14, k_16, k_28, k_30, k_48, k_49, k_57, k_100, k_110, k_127, k_128, k_196, k_255, k_1000, k_1024, k_10000, nI_add, nI_mul, nI_div, irm_nI, nle, nlt, neq, gd_t, inb_nI, cl_nI, bnd_eq, gdT, gdo, gb0, gb1, gbi, bi0, bi1, bi0r, Option.bind_some, bndE_some, ite_t, ite_f]) (x := (nI 0, nI 0)) ⟨by omega, rfl, fun j hj => by rw [show nI 0 = (0 : Int32) from rfl, b_0, decide_eq_false (by omega), Bool.false_and]⟩
  exact ⟨r, congrArg (fun o : Option Int32 => o.bind fun y => some y) h1, h2⟩
theorem removeOne_ok {S : Hs} {o n : Nat} {K : Kd} {Z : Rt} (h : RepS S o n K Z) {i : Nat} (hi : i < n) : ∃ S', m_X3_removeOne o (nI i) S = some (nI (cnt Z) - nI (cnt (dR i Z)), S') ∧ RepS S' o (n - 1) (dK i K) (dR i Z) ∧ SameB o S S' := by
  have hn := h.1
  have hw' := dR_WF h.2.1 hi
  have hin : ∀ j, up i j < n ↔ j < n - 1 := fun j => by unfold up; split <;> omega
  obtain ⟨w1, e1, b1⟩ := closeGap_ok (v := gI S o 1) (show i < 7 by omega) (fun j h1 h2 => by rw [h.2.2.2.1 j h2, decide_eq_false (by omega), Bool.false_and])
  obtain ⟨w2, e2, b2⟩ := closeGap_ok (v := gI S o 2) (show i < 7 by omega) (fun j h1 h2 => by rw [h.2.2.2.2.1 j h2, decide_eq_false (by omega), Bool.false_and])
  unfold m_X3_removeOne
  rw [countRights_ok h, Option.bind_some, e1, Option.bind_some, bnd_eq, show gI (sI S o 1 w1) o 2 = gI S o 2 by simp [gI_sI], e2, Option.bind_some, bnd_eq]
  generalize hT : sI (sI S o 1 w1) o 2 w2 = T
  have t0 : gI T o 0 = nI n := by rw [← hT]; simpa [gI_sI] using h.2.2.1
  have t1 : gI T o 1 = w1 := by rw [← hT]; simp [gI_sI]
  have t2 : gI T o 2 = w2 := by rw [← hT]; simp [gI_sI]
  have tA : ∀ x, gA T (o + 1) x = gA S (o + 1) x := by intro x; rw [← hT]; rfl
  have tB : SameB o S T := by rw [← hT]; exact (SameB.sI _ _).tr (SameB.sI _ _)
  obtain ⟨U, u1, u2, u3, u4⟩ := loopO_inv (f := fun x : Int32 × Hs => m_X3_removeOne_L31 o (nI i) (nI (cnt Z)) x.1 x.2) (fun c p => i + c ≤ 6 ∧ p.1 = nI (i + c) ∧ SameB o T p.2 ∧ (∀ a b, gI p.2 a b = gI T a b) ∧ ∀ x, x < 7 → gA p.2 (o + 1) x = if i ≤ x ∧ x < i + c then gA T (o + 1) (x + 1) else gA T (o + 1) x) (fun U => SameB o T U ∧ (∀ a b, gI U a b = gI T a b) ∧ ∀ x, x < 6 → gA U (o + 1) x = gA T (o + 1) (up i x)) 7 (fun c p hp => by
    obtain ⟨v, R⟩ := p
    obtain ⟨hc, hv, a1, a2, a3⟩ := hp
    simp only at hv a1 a2 a3
    subst hv
    by_cases hc6 : i + c < 6
    · refine Or.inl ⟨by omega, (nI (i + (c + 1)), sA R (o + 1) (i + c) (gA R (o + 1) (i + c + 1))), ?_, by omega, rfl, a1.tr (SameB.sA _ _), a2, fun x hx => ?_⟩
      · simp only [m_X3_removeOne_L31]
        simp (disch := omega) only [k_0, k_1, k_2, k_3, k_4, k_5, k_6, k_7, k_8, k_9, k_10, k_14, k_16, k_28, k_30, k_48, k_49, k_57, k_100, k_110, k_127, k_128, k_196, k_255, k_1000, k_1024, k_10000, nI_add, nI_mul, nI_div, irm_nI, nle, nlt, neq, gd_t, inb_nI, cl_nI, bnd_eq, gdT, gdo, gb0, gb1, gbi, bi0, bi1, bi0r, Option.bind_some, bndE_some, ite_t, ite_f]
        rw [Nat.add_assoc]
      · show gA (sA R (o + 1) (i + c) _) (o + 1) x = _
        rw [gA_sA, if_pos rfl]
        by_cases hxc : x = i + c
        · subst hxc
          rw [if_pos rfl, if_pos ⟨by omega, by omega⟩, a3 _ (by omega), if_neg (by omega)]
        · rw [if_neg hxc, a3 x hx]
          by_cases hq : i ≤ x ∧ x < i + c
          · rw [if_pos hq, if_pos ⟨by omega, by omega⟩]
          · rw [if_neg hq, if_neg (by omega)]
    · refine Or.inr ⟨R, ?_, a1, a2, fun x hx => ?_⟩
      · simp only [m_X3_removeOne_L31]
        simp (disch := omega) only [k_0, k_1, k_2, k_3, k_4, k_5, k_6, k_7, k_8, k_9, k_10, k_14, k_16, k_28, k_30, k_48, k_49, k_57, k_100, k_110, k_127, k_128, k_196, k_255, k_1000, k_1024, k_10000, nI_add, nI_mul, nI_div, irm_nI, nle, nlt, neq, gd_t, inb_nI, cl_nI, bnd_eq, gdT, gdo, gb0, gb1, gbi, bi0, bi1, bi0r, Option.bind_some, bndE_some, ite_t, ite_f]
      · rw [a3 x (by omega)]
        unfold up
        by_cases hxi : x < i
        · rw [if_pos hxi, if_neg (by omega)]
        · rw [if_neg hxi, if_pos ⟨by omega, by omega⟩]) (x := (nI i, T)) ⟨by omega, rfl, SameB.rf _ _, fun _ _ => rfl, fun x hx => by rw [if_neg (by omega)]⟩
  rw [u1]
  rw [Option.bind_some, gd_t (by decide +kernel), bnd_eq, bnd_eq, show (6 : Int32).toNatClampNeg = 6 from rfl]
  have v0 : gI (sA U (o + 1) 6 0) o 0 = nI n := by rw [gI_sA, u3, t0]
  rw [v0, show nI n - (1 : Int32) = nI (n - 1) from nI_sub (a := n) (b := 1) (by omega)]
  generalize hV : sI (sA U (o + 1) 6 0) o 0 (nI (n - 1)) = V
  have V0 : gI V o 0 = nI (n - 1) := by rw [← hV]; simp [gI_sI]
  have V1 : gI V o 1 = w1 := by rw [← hV, ← t1]; simp [gI_sI, gI_sA, u3]
  have V2 : gI V o 2 = w2 := by rw [← hV, ← t2]; simp [gI_sI, gI_sA, u3]
  have VA : ∀ x, x < 7 → gA V (o + 1) x = if x < 6 then gA S (o + 1) (up i x) else 0 := by
    intro x hx
    rw [← hV, gA_sI, gA_sA, if_pos rfl]
    by_cases hx6 : x = 6
    · subst hx6
      rfl
    · rw [if_neg hx6, u4 x (by omega), if_pos (by omega), tA]
  have VB : SameB o S V := by rw [← hV]; exact ((tB.tr u2).tr (SameB.sA _ _)).tr (SameB.sI _ _)
  obtain ⟨W, g1, g2, g3, g4⟩ := loopO_inv (f := fun x : Int32 × Hs => m_X3_removeOne_L77 o (nI i) (nI (cnt Z)) x.1 x.2) (fun c p => c ≤ n - 1 ∧ p.1 = nI c ∧ SameB o V p.2 ∧ (∀ a b, gI p.2 a b = gI V a b) ∧ ∀ x, x < 7 → if x < c then (∀ j, j < 32 → bt (gA p.2 (o + 1) x) j = (decide (j < 28) && (decide (up i (j % 7) < 7) && bt (gA V (o + 1) x) (7 * (j / 7) + up i (j % 7))))) else gA p.2 (o + 1) x = gA V (o + 1) x) (fun U => SameB o V U ∧ (∀ a b, gI U a b = gI V a b) ∧ ∀ x, x < 7 → if x < n - 1 then (∀ j, j < 32 → bt (gA U (o + 1) x) j = (decide (j < 28) && (decide (up i (j % 7) < 7) && bt (gA V (o + 1) x) (7 * (j / 7) + up i (j % 7))))) else gA U (o + 1) x = gA V (o + 1) x) 7 (fun c p hp => by
    obtain ⟨v, R⟩ := p
    obtain ⟨hc, hv, a1, a2, a3⟩ := hp
    simp only at hv a1 a2 a3
    subst hv
    have r0 : gI R o 0 = nI (n - 1) := by rw [a2, V0]
    by_cases hcn : c < n - 1
    · obtain ⟨w, c1, c2⟩ := closeGapInRow_ok (v := gA R (o + 1) c) (show i < 7 by omega)
      refine Or.inl ⟨by omega, (nI (c + 1), sA R (o + 1) c w), ?_, by omega, rfl, a1.tr (SameB.sA _ _), a2, fun x hx => ?_⟩
      · simp only [m_X3_removeOne_L77, r0]
        simp (disch := omega) only [k_0, k_1, k_2, k_3, k_4, k_5, k_6, k_7, k_8, k_9, k_10, k_14, k_16, k_28, k_30, k_48, k_49, k_57, k_100, k_110, k_127, k_128, k_196, k_255, k_1000, k_1024, k_10000, nI_add, nI_mul, nI_div, irm_nI, nle, nlt, neq, gd_t, inb_nI, cl_nI, bnd_eq, gdT, gdo, gb0, gb1, gbi, bi0, bi1, bi0r, Option.bind_some, bndE_some, ite_t, ite_f, c1]
      · have hRc : gA R (o + 1) c = gA V (o + 1) c := by
          have := a3 c (by omega)
          rwa [if_neg (by omega)] at this
        show if x < c + 1 then (∀ j, j < 32 → bt (gA (sA R (o + 1) c w) (o + 1) x) j = _) else gA (sA R (o + 1) c w) (o + 1) x = _
        rw [gA_sA, if_pos rfl]
        by_cases hxc : x = c
        · subst hxc
          rw [if_pos (by omega), if_pos rfl, ← hRc]
          exact c2
        · rw [if_neg hxc]
          have := a3 x hx
          by_cases hq : x < c
          · rw [if_pos hq] at this
            rw [if_pos (by omega)]
            exact this
          · rw [if_neg hq] at this
            rw [if_neg (by omega)]
            exact this
    · obtain rfl : c = n - 1 := by omega
      refine Or.inr ⟨R, ?_, a1, a2, a3⟩
      simp only [m_X3_removeOne_L77, r0]
      simp (disch := omega) only [k_0, k_1, k_2, k_3, k_4, k_5, k_6, k_7, k_8, k_9, k_10, k_14, k_16, k_28, k_30, k_48, k_49, k_57, k_100, k_110, k_127, k_128, k_196, k_255, k_1000, k_1024, k_10000, nI_add, nI_mul, nI_div, irm_nI, nle, nlt, neq, gd_t, inb_nI, cl_nI, bnd_eq, gdT, gdo, gb0, gb1, gbi, bi0, bi1, bi0r, Option.bind_some, bndE_some, ite_t, ite_f]) (x := (nI 0, V)) ⟨by omega, rfl, SameB.rf _ _, fun _ _ => rfl, fun x hx => by rw [if_neg (by omega)]⟩
  rw [show (0 : Int32) = nI 0 from rfl, g1]
  have fin : RepS W o (n - 1) (dK i K) (dR i Z) := by
    refine ⟨by omega, hw', (g3 o 0).trans V0, fun j hj => ?_, fun j hj => ?_, fun x hx j hj => ?_⟩
    · rw [g3, V1, b1 j hj]
      by_cases hu : up i j < 32
      · rw [h.2.2.2.1 _ hu, show (decide (up i j < n)) = decide (j < n - 1) from by rw [decide_eq_decide]; exact hin j]
        rfl
      · rw [b_big (by omega), decide_eq_false (fun q => hu (by have := (hin j).mpr q; omega)), Bool.false_and]
    · rw [g3, V2, b2 j hj]
      by_cases hu : up i j < 32
      · rw [h.2.2.2.2.1 _ hu, show (decide (up i j < n)) = decide (j < n - 1) from by rw [decide_eq_decide]; exact hin j]
        rfl
      · rw [b_big (by omega), decide_eq_false (fun q => hu (by have := (hin j).mpr q; omega)), Bool.false_and]
    · have hg := g4 x hx
      by_cases hxn : x < n - 1
      · rw [if_pos hxn] at hg
        have hux := (hin x).mpr hxn
        rw [hg j hj, VA x hx, if_pos (by omega)]
        by_cases hj28 : j < 28
        · rw [decide_eq_true hj28, Bool.true_and, Bool.true_and]
          unfold dR
          by_cases hu : up i (j % 7) < 7
          · rw [decide_eq_true hu, Bool.true_and, h.2.2.2.2.2 _ (by omega) _ (by omega), decide_eq_true (by omega), Bool.true_and, show (7 * (j / 7) + up i (j % 7)) / 7 = j / 7 by omega, show (7 * (j / 7) + up i (j % 7)) % 7 = up i (j % 7) by omega]
          · rw [decide_eq_false hu, Bool.false_and]
            cases hz : Z (up i x) (j / 7) (up i (j % 7))
            · rfl
            · have := (h.2.1 _ _ _ hz).2.2.1
              omega
        · rw [decide_eq_false hj28, Bool.false_and, Bool.false_and]
      · rw [if_neg hxn] at hg
        have hz : dR i Z x (j / 7) (j % 7) = false := by
          cases hz : dR i Z x (j / 7) (j % 7)
          · rfl
          · exact absurd (hw' _ _ _ hz).1 hxn
        rw [hg, VA x hx, hz, Bool.and_false]
        by_cases hx6 : x < 6
        · rw [if_pos hx6]
          have hux : up i x < 7 := by unfold up; split <;> omega
          rw [h.2.2.2.2.2 _ hux j hj]
          cases hz2 : Z (up i x) (j / 7) (j % 7)
          · rw [Bool.and_false]
          · exact absurd ((hin x).mp (h.2.1 _ _ _ hz2).1) hxn
        · rw [if_neg hx6, b_0]
  rw [Option.bind_some, countRights_ok fin, Option.bind_some]
  exact ⟨W, rfl, fin, VB.tr g2⟩
/-- the bits of the four rights over y -/
theorem b_over : ∀ y, y < 7 → ∀ j, j < 32 → bt ((2113665 : Int32) <<< (nI y &&& 31)) j = (decide (j < 28) && decide (j % 7 = y)) := by decide +kernel
def colc (Z : Rt) (x y : Nat) : Nat := fb_ct (fun k => Z x k y) 4
theorem fb_ct_one {p : Nat → Bool} {n i : Nat} (hi : i < n) (h : ∀ k, k < n → k ≠ i → p k = false) : fb_ct p n = if p i then 1 else 0 := by
  have e := fb_ct_upd (fun _ => false) (p i) hi
  have z : fb_ct (fun _ => false) n = 0 := fb_ct_zero.mpr fun _ _ => rfl
  rw [z] at e
  have c : fb_ct p n = fb_ct (fun k => if k = i then p i else false) n := fb_ct_cong fun k hk => by
    by_cases hki : k = i
    · rw [if_pos hki, hki]
    · rw [if_neg hki, h k hk hki]
  simp only [Bool.false_eq_true, if_false, Nat.add_zero, Nat.zero_add] at e
  rw [c, e]
theorem row_over {S : Hs} {i n : Nat} {K : Kd} {Z : Rt} (h : RepS S i n K Z) {x y : Nat} (hx : x < 7) (hy : y < 7) : fb_ct (bt (gA S (i + 1) x &&& ((2113665 : Int32) <<< (nI y &&& 31)))) 32 = colc Z x y := by
  have hr := h.2.2.2.2.2 x hx
  rw [show (32 : Nat) = 28 + 4 from rfl, fb_ct_split]
  have z : fb_ct (fun k => bt (gA S (i + 1) x &&& ((2113665 : Int32) <<< (nI y &&& 31))) (28 + k)) 4 = 0 := fb_ct_zero.mpr fun k hk => by rw [b_and, hr _ (by omega), decide_eq_false (by omega), Bool.false_and, Bool.false_and]
  rw [z, Nat.add_zero, show (28 : Nat) = 7 * 4 from rfl, fb_ct_blocks]
  unfold colc
  rw [fb_ct_sm]
  refine fb_sm_cong fun k hk => ?_
  have hb : ∀ m, m < 7 → bt (gA S (i + 1) x &&& ((2113665 : Int32) <<< (nI y &&& 31))) (7 * k + m) = (Z x k m && decide (m = y)) := by
    intro m hm
    rw [b_and, hr _ (by omega), b_over y hy _ (by omega), show (7 * k + m) / 7 = k by omega, show (7 * k + m) % 7 = m by omega]
    simp [show 7 * k + m < 28 by omega]
  rw [fb_ct_one hy (fun m hm hne => by rw [hb m hm, decide_eq_false hne, Bool.and_false]), hb y hy]
  simp
theorem colc_4 (Z : Rt) (x y : Nat) : colc Z x y ≤ 4 := fb_ct_le _ _
theorem countRightsOver_ok {S : Hs} {i n : Nat} {K : Kd} {Z : Rt} (h : RepS S i n K Z) {y : Nat} (hy : y < 7) : m_X3_countRightsOver i (nI y) S = some (nI (fb_sm (fun x => colc Z x y) n)) := by
  have hn := h.1
  unfold m_X3_countRightsOver
  have hl := loopO_seq (f := fun x : Int32 × Int32 => m_X3_countRightsOver_L4 i (nI y) S x.1 x.2) (w := fun k => (nI (fb_sm (fun x => colc Z x y) k), nI k)) n (r := nI (fb_sm (fun x => colc Z x y) n)) (fun k hk => by
    simp only [m_X3_countRightsOver_L4, h.2.2.1]
    simp (disch := omega) only [k_0, k_1, k_2, k_3, k_4, k_5, k_6, k_7, k_8, k_9, k_10, k_14, k_16, k_28, k_30, k_48, k_49, k_57, k_100, k_110, k_127, k_128, k_196, k_255, k_1000, k_1024, k_10000, nI_add, nI_mul, nI_div, irm_nI, nle, nlt, neq, gd_t, inb_nI, cl_nI, bnd_eq, gdT, gdo, gb0, gb1, gbi, bi0, bi1, bi0r, Option.bind_some, bndE_some, ite_t, ite_f, bitCount_ok, row_over h (show k < 7 by omega) hy]
    rfl) (by
    simp only [m_X3_countRightsOver_L4, h.2.2.1]
    simp (disch := omega) only [k_0, k_1, k_2, k_3, k_4, k_5, k_6, k_7, k_8, k_9, k_10, k_14, k_16, k_28, k_30, k_48, k_49, k_57, k_100, k_110, k_127, k_128, k_196, k_255, k_1000, k_1024, k_10000, nI_add, nI_mul, nI_div, irm_nI, nle, nlt, neq, gd_t, inb_nI, cl_nI, bnd_eq, gdT, gdo, gb0, gb1, gbi, bi0, bi1, bi0r, Option.bind_some, bndE_some, ite_t, ite_f])
  exact congrArg (fun o : Option Int32 => o.bind fun y => some y) hl
theorem persons_ct {S : Hs} {i n : Nat} {K : Kd} {Z : Rt} (h : RepS S i n K Z) : fb_ct (bt (gI S i 1)) 32 = fb_ct (fun j => decide (K j ≠ 0)) n := by
  have hn := h.1
  rw [show (32 : Nat) = n + (32 - n) by omega, fb_ct_split]
  have z : fb_ct (fun k => bt (gI S i 1) (n + k)) (32 - n) = 0 := fb_ct_zero.mpr fun k hk => by rw [h.2.2.2.1 _ (by omega), decide_eq_false (by omega), Bool.false_and]
  rw [z, Nat.add_zero]
  exact fb_ct_cong fun j hj => by rw [h.2.2.2.1 _ (by omega), decide_eq_true hj, Bool.true_and]
theorem awake_ct {S : Hs} {i n : Nat} {K : Kd} {Z : Rt} (h : RepS S i n K Z) : fb_ct (bt (gI S i 2)) 32 = fb_ct (fun j => decide (K j = 1)) n := by
  have hn := h.1
  rw [show (32 : Nat) = n + (32 - n) by omega, fb_ct_split]
  have z : fb_ct (fun k => bt (gI S i 2) (n + k)) (32 - n) = 0 := fb_ct_zero.mpr fun k hk => by rw [h.2.2.2.2.1 _ (by omega), decide_eq_false (by omega), Bool.false_and]
  rw [z, Nat.add_zero]
  exact fb_ct_cong fun j hj => by rw [h.2.2.2.2.1 _ (by omega), decide_eq_true hj, Bool.true_and]
