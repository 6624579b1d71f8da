/-! the askings: about, thing, sleeper, danger -/
theorem endOf29 {S : Hs} {n : Nat} {K : Kd} {Z : Rt} (h : RepS S 29 n K Z) : ∃ S', m_X5_endOf 29 S = some (65, S') ∧ RepS S' 65 n K (Clo (aw n K) Z) ∧ Kp S S' := by
  obtain ⟨S', a, b, c⟩ := endOf_ok h (by omega)
  exact ⟨S', a, b, Kp.ofB c (by omega)⟩
/-- the numbers that about tells -/
noncomputable def abv (n : Nat) (K : Kd) (Z : Rt) (w : Nat) : Int32 :=
  if w = 0 then nI n else if w = 1 then nI (fb_ct (fun j => decide (K j ≠ 0)) n) else if w = 2 then nI (fb_ct (fun j => decide (K j = 1)) n) else if w = 3 then nI (cnt Z) else if w = 4 then nI (cnt (Clo (aw n K) Z)) else if w = 5 then nI (nr (aw n K) Z) else if w = 6 then nI (prs (hr K Z)) else nI (prs (hr K (Clo (aw n K) Z)))
theorem about_class {S : Hs} {n : Nat} {K : Kd} {Z : Rt} (h : RepS S 29 n K Z) {w : Nat} (hw : w < 8) : ∃ S1, m_X5_about (nI w) S = some (.inl (abv n K Z w), S1) ∧ Kp S S1 := by
  have hn := h.1
  have hB : HB n (hr K Z) := fun a b q => hr_WF h.2.1 q
  have hB2 : HB n (hr K (Clo (aw n K) Z)) := fun a b q => hr_WF (Clo_WF h.2.1) q
  obtain ⟨S1, a1, a2, a3⟩ := endOf29 h
  unfold m_X5_about abv
  obtain rfl | rfl | rfl | rfl | rfl | rfl | rfl | rfl : w = 0 ∨ w = 1 ∨ w = 2 ∨ w = 3 ∨ w = 4 ∨ w = 5 ∨ w = 6 ∨ w = 7 := by omega
  · refine ⟨S, ?_, Kp.rf S⟩
    simp (disch := omega) only [k_0, k_1, k_2, k_3, k_4, k_5, k_6, k_7, k_8, k_9, k_10, k_14, k_16, k_28, k_30, k_48, k_49, k_57, k_100, k_110, k_127, k_128, k_196, k_255, k_1000, k_1024, k_10000, nI_add, nI_mul, nI_div, irm_nI, nle, nlt, neq, gd_t, inb_nI, cl_nI, bnd_eq, gdT, gdo, gb0, gb1, gbi, bi0, bi1, bi0r, Option.bind_some, bndE_some, ite_t, ite_f, k_m9, k_m1, k_13, k_15, k_18, k_19, k_112, k_114, k_115, k_98, k_103, k_116, k_119, k_47, k_82, k_50, k_51, k_99, k_700, k_197, ne9, ne9s, nI_ne0s, ↓reduceIte, h.2.2.1]
  · refine ⟨S, ?_, Kp.rf S⟩
    simp (disch := omega) only [k_0, k_1, k_2, k_3, k_4, k_5, k_6, k_7, k_8, k_9, k_10, k_14, k_16, k_28, k_30, k_48, k_49, k_57, k_100, k_110, k_127, k_128, k_196, k_255, k_1000, k_1024, k_10000, nI_add, nI_mul, nI_div, irm_nI, nle, nlt, neq, gd_t, inb_nI, cl_nI, bnd_eq, gdT, gdo, gb0, gb1, gbi, bi0, bi1, bi0r, Option.bind_some, bndE_some, ite_t, ite_f, k_m9, k_m1, k_13, k_15, k_18, k_19, k_112, k_114, k_115, k_98, k_103, k_116, k_119, k_47, k_82, k_50, k_51, k_99, k_700, k_197, ne9, ne9s, nI_ne0s, ↓reduceIte, bitCount_ok, persons_ct h]
  · refine ⟨S, ?_, Kp.rf S⟩
    simp (disch := omega) only [k_0, k_1, k_2, k_3, k_4, k_5, k_6, k_7, k_8, k_9, k_10, k_14, k_16, k_28, k_30, k_48, k_49, k_57, k_100, k_110, k_127, k_128, k_196, k_255, k_1000, k_1024, k_10000, nI_add, nI_mul, nI_div, irm_nI, nle, nlt, neq, gd_t, inb_nI, cl_nI, bnd_eq, gdT, gdo, gb0, gb1, gbi, bi0, bi1, bi0r, Option.bind_some, bndE_some, ite_t, ite_f, k_m9, k_m1, k_13, k_15, k_18, k_19, k_112, k_114, k_115, k_98, k_103, k_116, k_119, k_47, k_82, k_50, k_51, k_99, k_700, k_197, ne9, ne9s, nI_ne0s, ↓reduceIte, bitCount_ok, awake_ct h]
  · refine ⟨S, ?_, Kp.rf S⟩
    simp (disch := omega) only [k_0, k_1, k_2, k_3, k_4, k_5, k_6, k_7, k_8, k_9, k_10, k_14, k_16, k_28, k_30, k_48, k_49, k_57, k_100, k_110, k_127, k_128, k_196, k_255, k_1000, k_1024, k_10000, nI_add, nI_mul, nI_div, irm_nI, nle, nlt, neq, gd_t, inb_nI, cl_nI, bnd_eq, gdT, gdo, gb0, gb1, gbi, bi0, bi1, bi0r, Option.bind_some, bndE_some, ite_t, ite_f, k_m9, k_m1, k_13, k_15, k_18, k_19, k_112, k_114, k_115, k_98, k_103, k_116, k_119, k_47, k_82, k_50, k_51, k_99, k_700, k_197, ne9, ne9s, nI_ne0s, ↓reduceIte, countRights_ok h]
  · refine ⟨S1, ?_, a3⟩
    simp (disch := omega) only [k_0, k_1, k_2, k_3, k_4, k_5, k_6, k_7, k_8, k_9, k_10, k_14, k_16, k_28, k_30, k_48, k_49, k_57, k_100, k_110, k_127, k_128, k_196, k_255, k_1000, k_1024, k_10000, nI_add, nI_mul, nI_div, irm_nI, nle, nlt, neq, gd_t, inb_nI, cl_nI, bnd_eq, gdT, gdo, gb0, gb1, gbi, bi0, bi1, bi0r, Option.bind_some, bndE_some, ite_t, ite_f, k_m9, k_m1, k_13, k_15, k_18, k_19, k_112, k_114, k_115, k_98, k_103, k_116, k_119, k_47, k_82, k_50, k_51, k_99, k_700, k_197, ne9, ne9s, nI_ne0s, ↓reduceIte, a1, bndEN_some, isSt65, countRights_ok a2]
  · obtain ⟨S2, f1, f2, f3⟩ := follow_ok h (by omega) (by omega)
    refine ⟨S2, ?_, f2⟩
    simp (disch := omega) only [k_0, k_1, k_2, k_3, k_4, k_5, k_6, k_7, k_8, k_9, k_10, k_14, k_16, k_28, k_30, k_48, k_49, k_57, k_100, k_110, k_127, k_128, k_196, k_255, k_1000, k_1024, k_10000, nI_add, nI_mul, nI_div, irm_nI, nle, nlt, neq, gd_t, inb_nI, cl_nI, bnd_eq, gdT, gdo, gb0, gb1, gbi, bi0, bi1, bi0r, Option.bind_some, bndE_some, ite_t, ite_f, k_m9, k_m1, k_13, k_15, k_18, k_19, k_112, k_114, k_115, k_98, k_103, k_116, k_119, k_47, k_82, k_50, k_51, k_99, k_700, k_197, ne9, ne9s, nI_ne0s, ↓reduceIte, f1, f3.2.1]
  · obtain ⟨S2, f1, f2, f3⟩ := learnFollow_ok h (by omega)
    refine ⟨S2, ?_, Kp.ofA f2 (by omega)⟩
    simp (disch := omega) only [k_0, k_1, k_2, k_3, k_4, k_5, k_6, k_7, k_8, k_9, k_10, k_14, k_16, k_28, k_30, k_48, k_49, k_57, k_100, k_110, k_127, k_128, k_196, k_255, k_1000, k_1024, k_10000, nI_add, nI_mul, nI_div, irm_nI, nle, nlt, neq, gd_t, inb_nI, cl_nI, bnd_eq, gdT, gdo, gb0, gb1, gbi, bi0, bi1, bi0r, Option.bind_some, bndE_some, ite_t, ite_f, k_m9, k_m1, k_13, k_15, k_18, k_19, k_112, k_114, k_115, k_98, k_103, k_116, k_119, k_47, k_82, k_50, k_51, k_99, k_700, k_197, ne9, ne9s, nI_ne0s, ↓reduceIte, f1, countPairs_ok hn hB f3]
  · obtain ⟨S2, f1, f2, f3⟩ := learnFollow_ok a2 (by omega)
    refine ⟨S2, ?_, a3.tr (Kp.ofA f2 (by omega))⟩
    simp (disch := omega) only [k_0, k_1, k_2, k_3, k_4, k_5, k_6, k_7, k_8, k_9, k_10, k_14, k_16, k_28, k_30, k_48, k_49, k_57, k_100, k_110, k_127, k_128, k_196, k_255, k_1000, k_1024, k_10000, nI_add, nI_mul, nI_div, irm_nI, nle, nlt, neq, gd_t, inb_nI, cl_nI, bnd_eq, gdT, gdo, gb0, gb1, gbi, bi0, bi1, bi0r, Option.bind_some, bndE_some, ite_t, ite_f, k_m9, k_m1, k_13, k_15, k_18, k_19, k_112, k_114, k_115, k_98, k_103, k_116, k_119, k_47, k_82, k_50, k_51, k_99, k_700, k_197, ne9, ne9s, nI_ne0s, ↓reduceIte, a1, bndEN_some, isSt65, f1, countPairs_ok hn hB2 f3]
/-- the numbers that thing tells -/
noncomputable def thv (n : Nat) (K : Kd) (Z : Rt) (i w : Nat) : Int32 :=
  if w = 0 then bi (decide (K i ≠ 0)) else if w = 1 then bi (decide (K i = 1)) else if w = 2 then nI (rowc Z i) else if w = 3 then nI (fb_sm (fun x => colc Z x i) n) else if w = 4 then ofB (lr (hr K Z) i) else if w = 5 then ofB (lr (hr K (Clo (aw n K) Z)) i) else nI (rowc (Clo (aw n K) Z) i)
theorem thing_class {S : Hs} {n : Nat} {K : Kd} {Z : Rt} (h : RepS S 29 n K Z) {i w : Nat} (hi : i < n) (hw : w < 7) : ∃ S1, m_X5_thing (nI i) (nI w) S = some (.inl (thv n K Z i w), S1) ∧ Kp S S1 := by
  have hn := h.1
  have hi7 : i < 7 := by omega
  obtain ⟨S1, a1, a2, a3⟩ := endOf29 h
  have hct := checkThing_ok h (nI i)
  rw [isT_nI (by omega) (by omega), decide_eq_true hi, if_pos rfl] at hct
  unfold m_X5_thing m_X5_thing_J64 m_X5_thing_J81 thv
  rw [hct, bndP_l]
  obtain rfl | rfl | rfl | rfl | rfl | rfl | rfl : w = 0 ∨ w = 1 ∨ w = 2 ∨ w = 3 ∨ w = 4 ∨ w = 5 ∨ w = 6 := by omega
  · refine ⟨S, ?_, Kp.rf S⟩
    simp (disch := omega) only [k_0, k_1, k_2, k_3, k_4, k_5, k_6, k_7, k_8, k_9, k_10, k_14, k_16, k_28, k_30, k_48, k_49, k_57, k_100, k_110, k_127, k_128, k_196, k_255, k_1000, k_1024, k_10000, nI_add, nI_mul, nI_div, irm_nI, nle, nlt, neq, gd_t, inb_nI, cl_nI, bnd_eq, gdT, gdo, gb0, gb1, gbi, bi0, bi1, bi0r, Option.bind_some, bndE_some, ite_t, ite_f, k_m9, k_m1, k_13, k_15, k_18, k_19, k_112, k_114, k_115, k_98, k_103, k_116, k_119, k_47, k_82, k_50, k_51, k_99, k_700, k_197, ne9, ne9s, nI_ne0s, ↓reduceIte, isPerson_bi h (show i < 32 by omega)]
    by_cases hk : K i = 0 <;> simp [hk, hi, bi]
  · refine ⟨S, ?_, Kp.rf S⟩
    simp (disch := omega) only [k_0, k_1, k_2, k_3, k_4, k_5, k_6, k_7, k_8, k_9, k_10, k_14, k_16, k_28, k_30, k_48, k_49, k_57, k_100, k_110, k_127, k_128, k_196, k_255, k_1000, k_1024, k_10000, nI_add, nI_mul, nI_div, irm_nI, nle, nlt, neq, gd_t, inb_nI, cl_nI, bnd_eq, gdT, gdo, gb0, gb1, gbi, bi0, bi1, bi0r, Option.bind_some, bndE_some, ite_t, ite_f, k_m9, k_m1, k_13, k_15, k_18, k_19, k_112, k_114, k_115, k_98, k_103, k_116, k_119, k_47, k_82, k_50, k_51, k_99, k_700, k_197, ne9, ne9s, nI_ne0s, ↓reduceIte, isAwake_bi h (show i < 32 by omega)]
    by_cases hk : K i = 1 <;> simp [hk, hi, bi]
  · refine ⟨S, ?_, Kp.rf S⟩
    simp (disch := omega) only [k_0, k_1, k_2, k_3, k_4, k_5, k_6, k_7, k_8, k_9, k_10, k_14, k_16, k_28, k_30, k_48, k_49, k_57, k_100, k_110, k_127, k_128, k_196, k_255, k_1000, k_1024, k_10000, nI_add, nI_mul, nI_div, irm_nI, nle, nlt, neq, gd_t, inb_nI, cl_nI, bnd_eq, gdT, gdo, gb0, gb1, gbi, bi0, bi1, bi0r, Option.bind_some, bndE_some, ite_t, ite_f, k_m9, k_m1, k_13, k_15, k_18, k_19, k_112, k_114, k_115, k_98, k_103, k_116, k_119, k_47, k_82, k_50, k_51, k_99, k_700, k_197, ne9, ne9s, nI_ne0s, ↓reduceIte, bitCount_ok, row_bits h hi7]
  · refine ⟨S, ?_, Kp.rf S⟩
    simp (disch := omega) only [k_0, k_1, k_2, k_3, k_4, k_5, k_6, k_7, k_8, k_9, k_10, k_14, k_16, k_28, k_30, k_48, k_49, k_57, k_100, k_110, k_127, k_128, k_196, k_255, k_1000, k_1024, k_10000, nI_add, nI_mul, nI_div, irm_nI, nle, nlt, neq, gd_t, inb_nI, cl_nI, bnd_eq, gdT, gdo, gb0, gb1, gbi, bi0, bi1, bi0r, Option.bind_some, bndE_some, ite_t, ite_f, k_m9, k_m1, k_13, k_15, k_18, k_19, k_112, k_114, k_115, k_98, k_103, k_116, k_119, k_47, k_82, k_50, k_51, k_99, k_700, k_197, ne9, ne9s, nI_ne0s, ↓reduceIte, countRightsOver_ok h hi7]
  · obtain ⟨S2, f1, f2, f3⟩ := learnFollow_ok h (by omega)
    refine ⟨S2, ?_, Kp.ofA f2 (by omega)⟩
    simp (disch := omega) only [k_0, k_1, k_2, k_3, k_4, k_5, k_6, k_7, k_8, k_9, k_10, k_14, k_16, k_28, k_30, k_48, k_49, k_57, k_100, k_110, k_127, k_128, k_196, k_255, k_1000, k_1024, k_10000, nI_add, nI_mul, nI_div, irm_nI, nle, nlt, neq, gd_t, inb_nI, cl_nI, bnd_eq, gdT, gdo, gb0, gb1, gbi, bi0, bi1, bi0r, Option.bind_some, bndE_some, ite_t, ite_f, k_m9, k_m1, k_13, k_15, k_18, k_19, k_112, k_114, k_115, k_98, k_103, k_116, k_119, k_47, k_82, k_50, k_51, k_99, k_700, k_197, ne9, ne9s, nI_ne0s, ↓reduceIte, f1, ofB_eq (f3 i hi7)]
  · obtain ⟨S2, f1, f2, f3⟩ := learnFollow_ok a2 (by omega)
    refine ⟨S2, ?_, a3.tr (Kp.ofA f2 (by omega))⟩
    simp (disch := omega) only [k_0, k_1, k_2, k_3, k_4, k_5, k_6, k_7, k_8, k_9, k_10, k_14, k_16, k_28, k_30, k_48, k_49, k_57, k_100, k_110, k_127, k_128, k_196, k_255, k_1000, k_1024, k_10000, nI_add, nI_mul, nI_div, irm_nI, nle, nlt, neq, gd_t, inb_nI, cl_nI, bnd_eq, gdT, gdo, gb0, gb1, gbi, bi0, bi1, bi0r, Option.bind_some, bndE_some, ite_t, ite_f, k_m9, k_m1, k_13, k_15, k_18, k_19, k_112, k_114, k_115, k_98, k_103, k_116, k_119, k_47, k_82, k_50, k_51, k_99, k_700, k_197, ne9, ne9s, nI_ne0s, ↓reduceIte, a1, bndEN_some, isSt65, f1, ofB_eq (f3 i hi7)]
  · refine ⟨S1, ?_, a3⟩
    simp (disch := omega) only [k_0, k_1, k_2, k_3, k_4, k_5, k_6, k_7, k_8, k_9, k_10, k_14, k_16, k_28, k_30, k_48, k_49, k_57, k_100, k_110, k_127, k_128, k_196, k_255, k_1000, k_1024, k_10000, nI_add, nI_mul, nI_div, irm_nI, nle, nlt, neq, gd_t, inb_nI, cl_nI, bnd_eq, gdT, gdo, gb0, gb1, gbi, bi0, bi1, bi0r, Option.bind_some, bndE_some, ite_t, ite_f, k_m9, k_m1, k_13, k_15, k_18, k_19, k_112, k_114, k_115, k_98, k_103, k_116, k_119, k_47, k_82, k_50, k_51, k_99, k_700, k_197, ne9, ne9s, nI_ne0s, ↓reduceIte, a1, bndEN_some, isSt65, bitCount_ok, row_bits a2 hi7]
theorem rowc_n {n : Nat} {Z : Rt} (hw : WF n Z) (hn : n ≤ 7) (i : Nat) : rowc Z i = fb_sm (fun o => colc Z i o) n := by
  rw [rowc_cols]
  exact fb_sm_tail hn fun k h1 _ => fb_ct_zero.mpr fun c _ => by
    cases hz : Z i c k
    · rfl
    · have := (hw _ _ _ hz).2.2.1; omega
