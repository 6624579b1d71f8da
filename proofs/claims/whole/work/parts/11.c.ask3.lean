/-! the askings: about, thing, sleeper, danger -/
theorem endOf29 {S : Hs} {n : Nat} {K : Kd} {Z : Rt} (h : RepS S 29 n K Z) : ∃ S', m_X5_endOf 29 S = some (65, S') ∧ RepS S' 65 n K (Clo (aw n K) Z) ∧ Kp S S' := by
  obtain ⟨S', a, b, c⟩ := endOf_ok h (by omega)
  exact ⟨S', a, b, Kp.ofB c (by omega)⟩
theorem mpersons_ok {T : Hs} {n : Nat} {K : Kd} {Z : Rt} (h : RepM T 14 0 n K Z) : m_X6_persons T = some (nI (fb_ct (fun j => decide (K j ≠ 0)) n)) := by
  have hn := h.1
  unfold m_X6_persons
  have hl := loopO_seq (f := fun x : Int32 × Int32 => m_X6_persons_L4 T x.1 x.2) (w := fun k => (nI (fb_ct (fun j => decide (K j ≠ 0)) k), nI k)) n (r := nI (fb_ct (fun j => decide (K j ≠ 0)) n)) (fun k hk => by
    simp only [m_X6_persons_L4, m_X6_persons_J28]
    simp (disch := omega) only [k_0, k_1, k_2, k_3, k_4, k_5, k_6, k_7, k_8, k_9, k_10, k_14, k_16, k_28, k_30, k_48, k_49, k_57, k_100, k_110, k_127, k_128, k_196, k_255, k_1000, k_1024, k_10000, nI_add, nI_mul, nI_div, irm_nI, nle, nlt, neq, gd_t, inb_nI, cl_nI, bnd_eq, gdT, gdo, gb0, gb1, gbi, bi0, bi1, bi0r, Option.bind_some, bndE_some, ite_t, ite_f, k_m9, k_m1, k_13, k_15, k_18, k_19, k_112, k_114, k_115, k_98, k_103, k_116, k_119, k_47, k_82, k_50, k_51, k_99, k_700, k_197, ne9, ne9s, nI_ne0s, ↓reduceIte, z0 h, misPerson_ok h hk, fb_ct_succ]
    cases decide (K k ≠ 0) <;> simp [nI_add]) (by
    simp only [m_X6_persons_L4]
    simp (disch := omega) only [k_0, k_1, k_2, k_3, k_4, k_5, k_6, k_7, k_8, k_9, k_10, k_14, k_16, k_28, k_30, k_48, k_49, k_57, k_100, k_110, k_127, k_128, k_196, k_255, k_1000, k_1024, k_10000, nI_add, nI_mul, nI_div, irm_nI, nle, nlt, neq, gd_t, inb_nI, cl_nI, bnd_eq, gdT, gdo, gb0, gb1, gbi, bi0, bi1, bi0r, Option.bind_some, bndE_some, ite_t, ite_f, k_m9, k_m1, k_13, k_15, k_18, k_19, k_112, k_114, k_115, k_98, k_103, k_116, k_119, k_47, k_82, k_50, k_51, k_99, k_700, k_197, ne9, ne9s, nI_ne0s, ↓reduceIte, z0 h])
  exact congrArg (fun o : Option Int32 => o.bind fun y => some y) hl
theorem aw_ct {n : Nat} {K : Kd} (hn : n ≤ 7) {w : Int32} (hw : ∀ j, j < 32 → bt w j = aw n K j) : fb_ct (bt w) 8 = fb_ct (fun j => decide (K j = 1)) n := by
  rw [show (8 : Nat) = n + (8 - n) by omega, fb_ct_split]
  have z : fb_ct (fun k => bt w (n + k)) (8 - n) = 0 := fb_ct_zero.mpr fun k hk => by
    rw [hw _ (by omega)]
    unfold aw
    rw [decide_eq_false (by omega)]
    rfl
  rw [z, Nat.add_zero]
  exact fb_ct_cong fun j hj => by
    rw [hw _ (by omega)]
    unfold aw
    rw [decide_eq_true hj, Bool.true_and]
/-- the numbers that about tells -/
noncomputable def abv (n : Nat) (K : Kd) (Z : Rt) (w : Nat) : Int32 :=
  if w = 0 then nI n else if w = 1 then nI (fb_ct (fun j => decide (K j ≠ 0)) n) else if w = 2 then nI (fb_ct (fun j => decide (K j = 1)) n) else if w = 3 then nI (cnt Z) else if w = 4 then nI (cnt (Clo (aw n K) Z)) else if w = 5 then nI (nr (aw n K) Z) else if w = 6 then nI (prs (hr K Z)) else nI (prs (hr K (Clo (aw n K) Z)))
theorem about_class {S : Hs} {n : Nat} {K : Kd} {Z : Rt} (h : RepS S 29 n K Z) {w : Nat} (hw : w < 8) : ∃ S1, m_X5_about (nI w) S = some (.inl (abv n K Z w), S1) ∧ Kp S S1 := by
  have hn := h.1
  have hB : HB n (hr K Z) := fun a b q => hr_WF h.2.1 q
  have hB2 : HB n (hr K (Clo (aw n K) Z)) := fun a b q => hr_WF (Clo_WF h.2.1) q
  obtain ⟨S1, a1, a2, a3⟩ := endOf29 h
  unfold m_X5_about abv
  obtain rfl | rfl | rfl | rfl | rfl | rfl | rfl | rfl : w = 0 ∨ w = 1 ∨ w = 2 ∨ w = 3 ∨ w = 4 ∨ w = 5 ∨ w = 6 ∨ w = 7 := by omega
  · refine ⟨S, ?_, Kp.rf S⟩
    simp (disch := omega) only [k_0, k_1, k_2, k_3, k_4, k_5, k_6, k_7, k_8, k_9, k_10, k_14, k_16, k_28, k_30, k_48, k_49, k_57, k_100, k_110, k_127, k_128, k_196, k_255, k_1000, k_1024, k_10000, nI_add, nI_mul, nI_div, irm_nI, nle, nlt, neq, gd_t, inb_nI, cl_nI, bnd_eq, gdT, gdo, gb0, gb1, gbi, bi0, bi1, bi0r, Option.bind_some, bndE_some, ite_t, ite_f, k_m9, k_m1, k_13, k_15, k_18, k_19, k_112, k_114, k_115, k_98, k_103, k_116, k_119, k_47, k_82, k_50, k_51, k_99, k_700, k_197, ne9, ne9s, nI_ne0s, ↓reduceIte, h.2.2.1]
  · refine ⟨S, ?_, Kp.rf S⟩
    simp (disch := omega) only [k_0, k_1, k_2, k_3, k_4, k_5, k_6, k_7, k_8, k_9, k_10, k_14, k_16, k_28, k_30, k_48, k_49, k_57, k_100, k_110, k_127, k_128, k_196, k_255, k_1000, k_1024, k_10000, nI_add, nI_mul, nI_div, irm_nI, nle, nlt, neq, gd_t, inb_nI, cl_nI, bnd_eq, gdT, gdo, gb0, gb1, gbi, bi0, bi1, bi0r, Option.bind_some, bndE_some, ite_t, ite_f, k_m9, k_m1, k_13, k_15, k_18, k_19, k_112, k_114, k_115, k_98, k_103, k_116, k_119, k_47, k_82, k_50, k_51, k_99, k_700, k_197, ne9, ne9s, nI_ne0s, ↓reduceIte, bitCount_ok, persons_ct h]
  · refine ⟨S, ?_, Kp.rf S⟩
    simp (disch := omega) only [k_0, k_1, k_2, k_3, k_4, k_5, k_6, k_7, k_8, k_9, k_10, k_14, k_16, k_28, k_30, k_48, k_49, k_57, k_100, k_110, k_127, k_128, k_196, k_255, k_1000, k_1024, k_10000, nI_add, nI_mul, nI_div, irm_nI, nle, nlt, neq, gd_t, inb_nI, cl_nI, bnd_eq, gdT, gdo, gb0, gb1, gbi, bi0, bi1, bi0r, Option.bind_some, bndE_some, ite_t, ite_f, k_m9, k_m1, k_13, k_15, k_18, k_19, k_112, k_114, k_115, k_98, k_103, k_116, k_119, k_47, k_82, k_50, k_51, k_99, k_700, k_197, ne9, ne9s, nI_ne0s, ↓reduceIte, bitCount_ok, awake_ct h]
  · refine ⟨S, ?_, Kp.rf S⟩
    simp (disch := omega) only [k_0, k_1, k_2, k_3, k_4, k_5, k_6, k_7, k_8, k_9, k_10, k_14, k_16, k_28, k_30, k_48, k_49, k_57, k_100, k_110, k_127, k_128, k_196, k_255, k_1000, k_1024, k_10000, nI_add, nI_mul, nI_div, irm_nI, nle, nlt, neq, gd_t, inb_nI, cl_nI, bnd_eq, gdT, gdo, gb0, gb1, gbi, bi0, bi1, bi0r, Option.bind_some, bndE_some, ite_t, ite_f, k_m9, k_m1, k_13, k_15, k_18, k_19, k_112, k_114, k_115, k_98, k_103, k_116, k_119, k_47, k_82, k_50, k_51, k_99, k_700, k_197, ne9, ne9s, nI_ne0s, ↓reduceIte, countRights_ok h]
  · refine ⟨S1, ?_, a3⟩
    simp (disch := omega) only [k_0, k_1, k_2, k_3, k_4, k_5, k_6, k_7, k_8, k_9, k_10, k_14, k_16, k_28, k_30, k_48, k_49, k_57, k_100, k_110, k_127, k_128, k_196, k_255, k_1000, k_1024, k_10000, nI_add, nI_mul, nI_div, irm_nI, nle, nlt, neq, gd_t, inb_nI, cl_nI, bnd_eq, gdT, gdo, gb0, gb1, gbi, bi0, bi1, bi0r, Option.bind_some, bndE_some, ite_t, ite_f, k_m9, k_m1, k_13, k_15, k_18, k_19, k_112, k_114, k_115, k_98, k_103, k_116, k_119, k_47, k_82, k_50, k_51, k_99, k_700, k_197, ne9, ne9s, nI_ne0s, ↓reduceIte, a1, bndEN_some, isSt65, countRights_ok a2]
  · obtain ⟨S2, f1, f2, f3⟩ := follow_ok h (by omega) (by omega)
    refine ⟨S2, ?_, f2⟩
    simp (disch := omega) only [k_0, k_1, k_2, k_3, k_4, k_5, k_6, k_7, k_8, k_9, k_10, k_14, k_16, k_28, k_30, k_48, k_49, k_57, k_100, k_110, k_127, k_128, k_196, k_255, k_1000, k_1024, k_10000, nI_add, nI_mul, nI_div, irm_nI, nle, nlt, neq, gd_t, inb_nI, cl_nI, bnd_eq, gdT, gdo, gb0, gb1, gbi, bi0, bi1, bi0r, Option.bind_some, bndE_some, ite_t, ite_f, k_m9, k_m1, k_13, k_15, k_18, k_19, k_112, k_114, k_115, k_98, k_103, k_116, k_119, k_47, k_82, k_50, k_51, k_99, k_700, k_197, ne9, ne9s, nI_ne0s, ↓reduceIte, f1, f3.2.1]
  · obtain ⟨S2, f1, f2, f3⟩ := learnFollow_ok h (by omega)
    refine ⟨S2, ?_, Kp.ofA f2 (by omega)⟩
    simp (disch := omega) only [k_0, k_1, k_2, k_3, k_4, k_5, k_6, k_7, k_8, k_9, k_10, k_14, k_16, k_28, k_30, k_48, k_49, k_57, k_100, k_110, k_127, k_128, k_196, k_255, k_1000, k_1024, k_10000, nI_add, nI_mul, nI_div, irm_nI, nle, nlt, neq, gd_t, inb_nI, cl_nI, bnd_eq, gdT, gdo, gb0, gb1, gbi, bi0, bi1, bi0r, Option.bind_some, bndE_some, ite_t, ite_f, k_m9, k_m1, k_13, k_15, k_18, k_19, k_112, k_114, k_115, k_98, k_103, k_116, k_119, k_47, k_82, k_50, k_51, k_99, k_700, k_197, ne9, ne9s, nI_ne0s, ↓reduceIte, f1, countPairs_ok hn hB f3]
  · obtain ⟨S2, f1, f2, f3⟩ := learnFollow_ok a2 (by omega)
    refine ⟨S2, ?_, a3.tr (Kp.ofA f2 (by omega))⟩
    simp (disch := omega) only [k_0, k_1, k_2, k_3, k_4, k_5, k_6, k_7, k_8, k_9, k_10, k_14, k_16, k_28, k_30, k_48, k_49, k_57, k_100, k_110, k_127, k_128, k_196, k_255, k_1000, k_1024, k_10000, nI_add, nI_mul, nI_div, irm_nI, nle, nlt, neq, gd_t, inb_nI, cl_nI, bnd_eq, gdT, gdo, gb0, gb1, gbi, bi0, bi1, bi0r, Option.bind_some, bndE_some, ite_t, ite_f, k_m9, k_m1, k_13, k_15, k_18, k_19, k_112, k_114, k_115, k_98, k_103, k_116, k_119, k_47, k_82, k_50, k_51, k_99, k_700, k_197, ne9, ne9s, nI_ne0s, ↓reduceIte, a1, bndEN_some, isSt65, f1, countPairs_ok hn hB2 f3]
theorem about_model {T : Hs} {n : Nat} {K : Kd} {Z : Rt} (h : RepM T 14 0 n K Z) {w : Nat} (hw : w < 8) : ∃ U, m_X6_about (nI w) T = some (abv n K Z w, U) ∧ Mq (sI T 13 0 (nI 0)) U ∧ RepM U 14 0 n K Z ∧ gI U 13 0 = nI 0 := by
  have hn := h.1
  obtain ⟨v, U, u1, u2, u3, u4, u5, u6, u7⟩ := mstart h
  obtain ⟨v2, v3, v4⟩ := awakeSet_ok u5
  have hin : m_X6_in (nI w) (nI 0) (nI 7) = some (bi true) := by rw [in_T _ (by omega), isT_nI (by omega) (by omega), decide_eq_true hw]
  obtain ⟨P, p1, p2⟩ := pairs_ok u5 false (T := Clo (aw n K) Z) (fun q => by cases q)
  obtain ⟨Q, q1, q2⟩ := pairs_ok u5 true (T := Clo (aw n K) Z) (fun _ => ⟨u4.2.1, Clo_WF h.2.1⟩)
  have hP : byT false Z (Clo (aw n K) Z) = Z := rfl
  have hQ : byT true Z (Clo (aw n K) Z) = Clo (aw n K) Z := rfl
  rw [hP, bi_f] at p1
  rw [hQ, bi_t] at q1
  unfold m_X6_about m_X6_about_J16 m_X6_about_J123 abv
  obtain rfl | rfl | rfl | rfl | rfl | rfl | rfl | rfl : w = 0 ∨ w = 1 ∨ w = 2 ∨ w = 3 ∨ w = 4 ∨ w = 5 ∨ w = 6 ∨ w = 7 := by omega
  · refine ⟨U, ?_, Mq.ofScr u3, u5, u6⟩
    simp (disch := omega) only [k_0, k_1, k_2, k_3, k_4, k_5, k_6, k_7, k_8, k_9, k_10, k_14, k_16, k_28, k_30, k_48, k_49, k_57, k_100, k_110, k_127, k_128, k_196, k_255, k_1000, k_1024, k_10000, nI_add, nI_mul, nI_div, irm_nI, nle, nlt, neq, gd_t, inb_nI, cl_nI, bnd_eq, gdT, gdo, gb0, gb1, gbi, bi0, bi1, bi0r, Option.bind_some, bndE_some, ite_t, ite_f, k_m9, k_m1, k_13, k_15, k_18, k_19, k_112, k_114, k_115, k_98, k_103, k_116, k_119, k_47, k_82, k_50, k_51, k_99, k_700, k_197, ne9, ne9s, nI_ne0s, ↓reduceIte, hin, Bool.true_eq_false, thr_eq, le00, u1, u2, z0 u5]
  · refine ⟨U, ?_, Mq.ofScr u3, u5, u6⟩
    simp (disch := omega) only [k_0, k_1, k_2, k_3, k_4, k_5, k_6, k_7, k_8, k_9, k_10, k_14, k_16, k_28, k_30, k_48, k_49, k_57, k_100, k_110, k_127, k_128, k_196, k_255, k_1000, k_1024, k_10000, nI_add, nI_mul, nI_div, irm_nI, nle, nlt, neq, gd_t, inb_nI, cl_nI, bnd_eq, gdT, gdo, gb0, gb1, gbi, bi0, bi1, bi0r, Option.bind_some, bndE_some, ite_t, ite_f, k_m9, k_m1, k_13, k_15, k_18, k_19, k_112, k_114, k_115, k_98, k_103, k_116, k_119, k_47, k_82, k_50, k_51, k_99, k_700, k_197, ne9, ne9s, nI_ne0s, ↓reduceIte, hin, Bool.true_eq_false, thr_eq, le00, u1, u2, mpersons_ok u5]
  · refine ⟨U, ?_, Mq.ofScr u3, u5, u6⟩
    simp (disch := omega) only [k_0, k_1, k_2, k_3, k_4, k_5, k_6, k_7, k_8, k_9, k_10, k_14, k_16, k_28, k_30, k_48, k_49, k_57, k_100, k_110, k_127, k_128, k_196, k_255, k_1000, k_1024, k_10000, nI_add, nI_mul, nI_div, irm_nI, nle, nlt, neq, gd_t, inb_nI, cl_nI, bnd_eq, gdT, gdo, gb0, gb1, gbi, bi0, bi1, bi0r, Option.bind_some, bndE_some, ite_t, ite_f, k_m9, k_m1, k_13, k_15, k_18, k_19, k_112, k_114, k_115, k_98, k_103, k_116, k_119, k_47, k_82, k_50, k_51, k_99, k_700, k_197, ne9, ne9s, nI_ne0s, ↓reduceIte, hin, Bool.true_eq_false, thr_eq, le00, u1, u2, v3, bits_ok, aw_ct hn v4]
  · refine ⟨U, ?_, Mq.ofScr u3, u5, u6⟩
    simp (disch := omega) only [k_0, k_1, k_2, k_3, k_4, k_5, k_6, k_7, k_8, k_9, k_10, k_14, k_16, k_28, k_30, k_48, k_49, k_57, k_100, k_110, k_127, k_128, k_196, k_255, k_1000, k_1024, k_10000, nI_add, nI_mul, nI_div, irm_nI, nle, nlt, neq, gd_t, inb_nI, cl_nI, bnd_eq, gdT, gdo, gb0, gb1, gbi, bi0, bi1, bi0r, Option.bind_some, bndE_some, ite_t, ite_f, k_m9, k_m1, k_13, k_15, k_18, k_19, k_112, k_114, k_115, k_98, k_103, k_116, k_119, k_47, k_82, k_50, k_51, k_99, k_700, k_197, ne9, ne9s, nI_ne0s, ↓reduceIte, hin, Bool.true_eq_false, thr_eq, le00, u1, u2, rightsMany_ok u5]
  · refine ⟨U, ?_, Mq.ofScr u3, u5, u6⟩
    simp (disch := omega) only [k_0, k_1, k_2, k_3, k_4, k_5, k_6, k_7, k_8, k_9, k_10, k_14, k_16, k_28, k_30, k_48, k_49, k_57, k_100, k_110, k_127, k_128, k_196, k_255, k_1000, k_1024, k_10000, nI_add, nI_mul, nI_div, irm_nI, nle, nlt, neq, gd_t, inb_nI, cl_nI, bnd_eq, gdT, gdo, gb0, gb1, gbi, bi0, bi1, bi0r, Option.bind_some, bndE_some, ite_t, ite_f, k_m9, k_m1, k_13, k_15, k_18, k_19, k_112, k_114, k_115, k_98, k_103, k_116, k_119, k_47, k_82, k_50, k_51, k_99, k_700, k_197, ne9, ne9s, nI_ne0s, ↓reduceIte, hin, Bool.true_eq_false, thr_eq, le00, u1, u2, endMany_ok u4.2.1]
  · refine ⟨U, ?_, Mq.ofScr u3, u5, u6⟩
    simp (disch := omega) only [k_0, k_1, k_2, k_3, k_4, k_5, k_6, k_7, k_8, k_9, k_10, k_14, k_16, k_28, k_30, k_48, k_49, k_57, k_100, k_110, k_127, k_128, k_196, k_255, k_1000, k_1024, k_10000, nI_add, nI_mul, nI_div, irm_nI, nle, nlt, neq, gd_t, inb_nI, cl_nI, bnd_eq, gdT, gdo, gb0, gb1, gbi, bi0, bi1, bi0r, Option.bind_some, bndE_some, ite_t, ite_f, k_m9, k_m1, k_13, k_15, k_18, k_19, k_112, k_114, k_115, k_98, k_103, k_116, k_119, k_47, k_82, k_50, k_51, k_99, k_700, k_197, ne9, ne9s, nI_ne0s, ↓reduceIte, hin, Bool.true_eq_false, thr_eq, le00, u1, u2, u4.1]
  · refine ⟨P, ?_, (Mq.ofScr u3).tr (Mq.ofA p2 (by omega)), u5.keep fun j => p2.2.1 _ _ (by omega), (p2.1 _ _).trans u6⟩
    simp (disch := omega) only [k_0, k_1, k_2, k_3, k_4, k_5, k_6, k_7, k_8, k_9, k_10, k_14, k_16, k_28, k_30, k_48, k_49, k_57, k_100, k_110, k_127, k_128, k_196, k_255, k_1000, k_1024, k_10000, nI_add, nI_mul, nI_div, irm_nI, nle, nlt, neq, gd_t, inb_nI, cl_nI, bnd_eq, gdT, gdo, gb0, gb1, gbi, bi0, bi1, bi0r, Option.bind_some, bndE_some, ite_t, ite_f, k_m9, k_m1, k_13, k_15, k_18, k_19, k_112, k_114, k_115, k_98, k_103, k_116, k_119, k_47, k_82, k_50, k_51, k_99, k_700, k_197, ne9, ne9s, nI_ne0s, ↓reduceIte, hin, Bool.true_eq_false, thr_eq, le00, u1, u2, p1]
  · refine ⟨Q, ?_, (Mq.ofScr u3).tr (Mq.ofA q2 (by omega)), u5.keep fun j => q2.2.1 _ _ (by omega), (q2.1 _ _).trans u6⟩
    simp (disch := omega) only [k_0, k_1, k_2, k_3, k_4, k_5, k_6, k_7, k_8, k_9, k_10, k_14, k_16, k_28, k_30, k_48, k_49, k_57, k_100, k_110, k_127, k_128, k_196, k_255, k_1000, k_1024, k_10000, nI_add, nI_mul, nI_div, irm_nI, nle, nlt, neq, gd_t, inb_nI, cl_nI, bnd_eq, gdT, gdo, gb0, gb1, gbi, bi0, bi1, bi0r, Option.bind_some, bndE_some, ite_t, ite_f, k_m9, k_m1, k_13, k_15, k_18, k_19, k_112, k_114, k_115, k_98, k_103, k_116, k_119, k_47, k_82, k_50, k_51, k_99, k_700, k_197, ne9, ne9s, nI_ne0s, ↓reduceIte, hin, Bool.true_eq_false, thr_eq, le00, u1, u2, q1]
theorem about_op (v : Int32) : OpOk (m_X5_about v) (m_X6_about v) (c1 1) := by
  intro g hg
  obtain ⟨⟨n, K, Z⟩, r, mem, sv, sl, len, t⟩ := g
  by_cases hv : isT 8 v = true
  · obtain ⟨w, hw, rfl⟩ := isT_iff.mp hv
    refine ⟨.inl (abv n K Z w), _, hg, fun S hS => ?_, fun T hT => ?_⟩
    · obtain ⟨S1, k1, k2⟩ := about_class (show RepS S 29 n K Z from hS.1) hw
      exact ⟨S1, k1, Co.ofK k2, hS.kp k2⟩
    · obtain ⟨U, k1, k2, k3, k4⟩ := about_model (show RepM T 14 0 n K Z from hT.1) hw
      obtain ⟨q1, q2⟩ := q_done hT _ k2 k3
      exact ⟨_, U, k1, q1, q2, k4, rfl⟩
  · have hno : ∀ j, j < 8 → (v = nI j) = False := fun j hj => eq_false fun e => hv (isT_iff.mpr ⟨j, hj, e⟩)
    refine ⟨.inr 1, _, hg, fun S hS => ⟨S, ?_, Co.rf S, hS⟩, fun T hT => ?_⟩
    · unfold m_X5_about
      simp (disch := omega) only [k_0, k_1, k_2, k_3, k_4, k_5, k_6, k_7, k_8, k_9, k_10, k_14, k_16, k_28, k_30, k_48, k_49, k_57, k_100, k_110, k_127, k_128, k_196, k_255, k_1000, k_1024, k_10000, nI_add, nI_mul, nI_div, irm_nI, nle, nlt, neq, gd_t, inb_nI, cl_nI, bnd_eq, gdT, gdo, gb0, gb1, gbi, bi0, bi1, bi0r, Option.bind_some, bndE_some, ite_t, ite_f, k_m9, k_m1, k_13, k_15, k_18, k_19, k_112, k_114, k_115, k_98, k_103, k_116, k_119, k_47, k_82, k_50, k_51, k_99, k_700, k_197, ne9, ne9s, nI_ne0s, ↓reduceIte, hno 0 (by omega), hno 1 (by omega), hno 2 (by omega), hno 3 (by omega), hno 4 (by omega), hno 5 (by omega), hno 6 (by omega), hno 7 (by omega)]
    · obtain ⟨q1, q2⟩ := q_thr hT (nI 1)
      refine ⟨nI 0, _, ?_, q1, q2, thr_s _ _⟩
      have hin : m_X6_in v (nI 0) (nI 7) = some (bi false) := by rw [in_T _ (by omega), Bool.eq_false_iff.mpr hv]
      have h10 : (nI 1 ≤ nI 0) = False := eq_false (by decide)
      unfold m_X6_about m_X6_about_J16
      simp (disch := omega) only [k_0, k_1, k_2, k_3, k_4, k_5, k_6, k_7, k_8, k_9, k_10, k_14, k_16, k_28, k_30, k_48, k_49, k_57, k_100, k_110, k_127, k_128, k_196, k_255, k_1000, k_1024, k_10000, nI_add, nI_mul, nI_div, irm_nI, nle, nlt, neq, gd_t, inb_nI, cl_nI, bnd_eq, gdT, gdo, gb0, gb1, gbi, bi0, bi1, bi0r, Option.bind_some, bndE_some, ite_t, ite_f, k_m9, k_m1, k_13, k_15, k_18, k_19, k_112, k_114, k_115, k_98, k_103, k_116, k_119, k_47, k_82, k_50, k_51, k_99, k_700, k_197, ne9, ne9s, nI_ne0s, ↓reduceIte, hin, thr_eq, h10]
/-- the numbers that thing tells -/
noncomputable def thv (n : Nat) (K : Kd) (Z : Rt) (i w : Nat) : Int32 :=
  if w = 0 then bi (decide (K i ≠ 0)) else if w = 1 then bi (decide (K i = 1)) else if w = 2 then nI (rowc Z i) else if w = 3 then nI (fb_sm (fun x => colc Z x i) n) else if w = 4 then ofB (lr (hr K Z) i) else if w = 5 then ofB (lr (hr K (Clo (aw n K) Z)) i) else nI (rowc (Clo (aw n K) Z) i)
theorem thing_class {S : Hs} {n : Nat} {K : Kd} {Z : Rt} (h : RepS S 29 n K Z) {i w : Nat} (hi : i < n) (hw : w < 7) : ∃ S1, m_X5_thing (nI i) (nI w) S = some (.inl (thv n K Z i w), S1) ∧ Kp S S1 := by
  have hn := h.1
  have hi7 : i < 7 := by omega
  obtain ⟨S1, a1, a2, a3⟩ := endOf29 h
  have hct := checkThing_ok h (nI i)
  rw [isT_nI (by omega) (by omega), decide_eq_true hi, if_pos rfl] at hct
  unfold m_X5_thing m_X5_thing_J64 m_X5_thing_J81 thv
  rw [hct, bndP_l]
  obtain rfl | rfl | rfl | rfl | rfl | rfl | rfl : w = 0 ∨ w = 1 ∨ w = 2 ∨ w = 3 ∨ w = 4 ∨ w = 5 ∨ w = 6 := by omega
  · refine ⟨S, ?_, Kp.rf S⟩
    simp (disch := omega) only [k_0, k_1, k_2, k_3, k_4, k_5, k_6, k_7, k_8, k_9, k_10, k_14, k_16, k_28, k_30, k_48, k_49, k_57, k_100, k_110, k_127, k_128, k_196, k_255, k_1000, k_1024, k_10000, nI_add, nI_mul, nI_div, irm_nI, nle, nlt, neq, gd_t, inb_nI, cl_nI, bnd_eq, gdT, gdo, gb0, gb1, gbi, bi0, bi1, bi0r, Option.bind_some, bndE_some, ite_t, ite_f, k_m9, k_m1, k_13, k_15, k_18, k_19, k_112, k_114, k_115, k_98, k_103, k_116, k_119, k_47, k_82, k_50, k_51, k_99, k_700, k_197, ne9, ne9s, nI_ne0s, ↓reduceIte, isPerson_bi h (show i < 32 by omega)]
    by_cases hk : K i = 0 <;> simp [hk, hi, bi]
  · refine ⟨S, ?_, Kp.rf S⟩
    simp (disch := omega) only [k_0, k_1, k_2, k_3, k_4, k_5, k_6, k_7, k_8, k_9, k_10, k_14, k_16, k_28, k_30, k_48, k_49, k_57, k_100, k_110, k_127, k_128, k_196, k_255, k_1000, k_1024, k_10000, nI_add, nI_mul, nI_div, irm_nI, nle, nlt, neq, gd_t, inb_nI, cl_nI, bnd_eq, gdT, gdo, gb0, gb1, gbi, bi0, bi1, bi0r, Option.bind_some, bndE_some, ite_t, ite_f, k_m9, k_m1, k_13, k_15, k_18, k_19, k_112, k_114, k_115, k_98, k_103, k_116, k_119, k_47, k_82, k_50, k_51, k_99, k_700, k_197, ne9, ne9s, nI_ne0s, ↓reduceIte, isAwake_bi h (show i < 32 by omega)]
    by_cases hk : K i = 1 <;> simp [hk, hi, bi]
  · refine ⟨S, ?_, Kp.rf S⟩
    simp (disch := omega) only [k_0, k_1, k_2, k_3, k_4, k_5, k_6, k_7, k_8, k_9, k_10, k_14, k_16, k_28, k_30, k_48, k_49, k_57, k_100, k_110, k_127, k_128, k_196, k_255, k_1000, k_1024, k_10000, nI_add, nI_mul, nI_div, irm_nI, nle, nlt, neq, gd_t, inb_nI, cl_nI, bnd_eq, gdT, gdo, gb0, gb1, gbi, bi0, bi1, bi0r, Option.bind_some, bndE_some, ite_t, ite_f, k_m9, k_m1, k_13, k_15, k_18, k_19, k_112, k_114, k_115, k_98, k_103, k_116, k_119, k_47, k_82, k_50, k_51, k_99, k_700, k_197, ne9, ne9s, nI_ne0s, ↓reduceIte, bitCount_ok, row_bits h hi7]
  · refine ⟨S, ?_, Kp.rf S⟩
    simp (disch := omega) only [k_0, k_1, k_2, k_3, k_4, k_5, k_6, k_7, k_8, k_9, k_10, k_14, k_16, k_28, k_30, k_48, k_49, k_57, k_100, k_110, k_127, k_128, k_196, k_255, k_1000, k_1024, k_10000, nI_add, nI_mul, nI_div, irm_nI, nle, nlt, neq, gd_t, inb_nI, cl_nI, bnd_eq, gdT, gdo, gb0, gb1, gbi, bi0, bi1, bi0r, Option.bind_some, bndE_some, ite_t, ite_f, k_m9, k_m1, k_13, k_15, k_18, k_19, k_112, k_114, k_115, k_98, k_103, k_116, k_119, k_47, k_82, k_50, k_51, k_99, k_700, k_197, ne9, ne9s, nI_ne0s, ↓reduceIte, countRightsOver_ok h hi7]
  · obtain ⟨S2, f1, f2, f3⟩ := learnFollow_ok h (by omega)
    refine ⟨S2, ?_, Kp.ofA f2 (by omega)⟩
    simp (disch := omega) only [k_0, k_1, k_2, k_3, k_4, k_5, k_6, k_7, k_8, k_9, k_10, k_14, k_16, k_28, k_30, k_48, k_49, k_57, k_100, k_110, k_127, k_128, k_196, k_255, k_1000, k_1024, k_10000, nI_add, nI_mul, nI_div, irm_nI, nle, nlt, neq, gd_t, inb_nI, cl_nI, bnd_eq, gdT, gdo, gb0, gb1, gbi, bi0, bi1, bi0r, Option.bind_some, bndE_some, ite_t, ite_f, k_m9, k_m1, k_13, k_15, k_18, k_19, k_112, k_114, k_115, k_98, k_103, k_116, k_119, k_47, k_82, k_50, k_51, k_99, k_700, k_197, ne9, ne9s, nI_ne0s, ↓reduceIte, f1, ofB_eq (f3 i hi7)]
  · obtain ⟨S2, f1, f2, f3⟩ := learnFollow_ok a2 (by omega)
    refine ⟨S2, ?_, a3.tr (Kp.ofA f2 (by omega))⟩
    simp (disch := omega) only [k_0, k_1, k_2, k_3, k_4, k_5, k_6, k_7, k_8, k_9, k_10, k_14, k_16, k_28, k_30, k_48, k_49, k_57, k_100, k_110, k_127, k_128, k_196, k_255, k_1000, k_1024, k_10000, nI_add, nI_mul, nI_div, irm_nI, nle, nlt, neq, gd_t, inb_nI, cl_nI, bnd_eq, gdT, gdo, gb0, gb1, gbi, bi0, bi1, bi0r, Option.bind_some, bndE_some, ite_t, ite_f, k_m9, k_m1, k_13, k_15, k_18, k_19, k_112, k_114, k_115, k_98, k_103, k_116, k_119, k_47, k_82, k_50, k_51, k_99, k_700, k_197, ne9, ne9s, nI_ne0s, ↓reduceIte, a1, bndEN_some, isSt65, f1, ofB_eq (f3 i hi7)]
  · refine ⟨S1, ?_, a3⟩
    simp (disch := omega) only [k_0, k_1, k_2, k_3, k_4, k_5, k_6, k_7, k_8, k_9, k_10, k_14, k_16, k_28, k_30, k_48, k_49, k_57, k_100, k_110, k_127, k_128, k_196, k_255, k_1000, k_1024, k_10000, nI_add, nI_mul, nI_div, irm_nI, nle, nlt, neq, gd_t, inb_nI, cl_nI, bnd_eq, gdT, gdo, gb0, gb1, gbi, bi0, bi1, bi0r, Option.bind_some, bndE_some, ite_t, ite_f, k_m9, k_m1, k_13, k_15, k_18, k_19, k_112, k_114, k_115, k_98, k_103, k_116, k_119, k_47, k_82, k_50, k_51, k_99, k_700, k_197, ne9, ne9s, nI_ne0s, ↓reduceIte, a1, bndEN_some, isSt65, bitCount_ok, row_bits a2 hi7]
theorem rowc_n {n : Nat} {Z : Rt} (hw : WF n Z) (hn : n ≤ 7) (i : Nat) : rowc Z i = fb_sm (fun o => colc Z i o) n := by
  rw [rowc_cols]
  exact fb_sm_tail hn fun k h1 _ => fb_ct_zero.mpr fun c _ => by
    cases hz : Z i c k
    · rfl
    · have := (hw _ _ _ hz).2.2.1; omega
/-- the model's sum over the cells of a thing -/
theorem mthing_loop {U : Hs} {n : Nat} {K : Kd} {Z T : Rt} (h : RepM U 14 0 n K Z) (hE : EndR U T) {i w : Nat} (hi : i < n) (hw : w = 2 ∨ w = 3 ∨ w = 6) : loopO (fun x => m_X6_thing_L127 (nI i) (nI w) U x.1 x.2) (nI 0, nI 0) = some (nI (fb_sm (fun o => if w = 2 then colc Z i o else if w = 3 then colc Z o i else colc T i o) n)) := by
  have hn := h.1
  refine loopO_seq (f := fun x : Int32 × Int32 => m_X6_thing_L127 (nI i) (nI w) U x.1 x.2) (w := fun k => (nI (fb_sm (fun o => if w = 2 then colc Z i o else if w = 3 then colc Z o i else colc T i o) k), nI k)) n (fun k hk => ?_) ?_
  · have b1 : fb_ct (bt (gA U 14 (8 + (7 * i + k)))) 8 = colc Z i k := bits_cell fun b hb => by
      have := h.2.2.2.2.2 i (by omega) k (by omega) b hb
      rwa [Nat.zero_add] at this
    have b2 : fb_ct (bt (gA U 14 (8 + (7 * k + i)))) 8 = colc Z k i := bits_cell fun b hb => by
      have := h.2.2.2.2.2 k (by omega) i (by omega) b hb
      rwa [Nat.zero_add] at this
    have b3 : fb_ct (bt (gA U 20 (7 * i + k))) 8 = colc T i k := bits_cell (hE i (by omega) k (by omega))
    simp only [m_X6_thing_L127, m_X6_thing_J203]
    rcases hw with rfl | rfl | rfl
    · simp (disch := omega) only [k_0, k_1, k_2, k_3, k_4, k_5, k_6, k_7, k_8, k_9, k_10, k_14, k_16, k_28, k_30, k_48, k_49, k_57, k_100, k_110, k_127, k_128, k_196, k_255, k_1000, k_1024, k_10000, nI_add, nI_mul, nI_div, irm_nI, nle, nlt, neq, gd_t, inb_nI, cl_nI, bnd_eq, gdT, gdo, gb0, gb1, gbi, bi0, bi1, bi0r, Option.bind_some, bndE_some, ite_t, ite_f, k_m9, k_m1, k_13, k_15, k_18, k_19, k_112, k_114, k_115, k_98, k_103, k_116, k_119, k_47, k_82, k_50, k_51, k_99, k_700, k_197, ne9, ne9s, nI_ne0s, ↓reduceIte, z0 h, at_ok, bits_ok, b1, fb_sm_succ]
    · simp (disch := omega) only [k_0, k_1, k_2, k_3, k_4, k_5, k_6, k_7, k_8, k_9, k_10, k_14, k_16, k_28, k_30, k_48, k_49, k_57, k_100, k_110, k_127, k_128, k_196, k_255, k_1000, k_1024, k_10000, nI_add, nI_mul, nI_div, irm_nI, nle, nlt, neq, gd_t, inb_nI, cl_nI, bnd_eq, gdT, gdo, gb0, gb1, gbi, bi0, bi1, bi0r, Option.bind_some, bndE_some, ite_t, ite_f, k_m9, k_m1, k_13, k_15, k_18, k_19, k_112, k_114, k_115, k_98, k_103, k_116, k_119, k_47, k_82, k_50, k_51, k_99, k_700, k_197, ne9, ne9s, nI_ne0s, ↓reduceIte, z0 h, at_ok, bits_ok, b2, fb_sm_succ]
    · simp (disch := omega) only [k_0, k_1, k_2, k_3, k_4, k_5, k_6, k_7, k_8, k_9, k_10, k_14, k_16, k_28, k_30, k_48, k_49, k_57, k_100, k_110, k_127, k_128, k_196, k_255, k_1000, k_1024, k_10000, nI_add, nI_mul, nI_div, irm_nI, nle, nlt, neq, gd_t, inb_nI, cl_nI, bnd_eq, gdT, gdo, gb0, gb1, gbi, bi0, bi1, bi0r, Option.bind_some, bndE_some, ite_t, ite_f, k_m9, k_m1, k_13, k_15, k_18, k_19, k_112, k_114, k_115, k_98, k_103, k_116, k_119, k_47, k_82, k_50, k_51, k_99, k_700, k_197, ne9, ne9s, nI_ne0s, ↓reduceIte, z0 h, at_ok, bits_ok, b3, fb_sm_succ]
  · simp only [m_X6_thing_L127]
    simp (disch := omega) only [k_0, k_1, k_2, k_3, k_4, k_5, k_6, k_7, k_8, k_9, k_10, k_14, k_16, k_28, k_30, k_48, k_49, k_57, k_100, k_110, k_127, k_128, k_196, k_255, k_1000, k_1024, k_10000, nI_add, nI_mul, nI_div, irm_nI, nle, nlt, neq, gd_t, inb_nI, cl_nI, bnd_eq, gdT, gdo, gb0, gb1, gbi, bi0, bi1, bi0r, Option.bind_some, bndE_some, ite_t, ite_f, k_m9, k_m1, k_13, k_15, k_18, k_19, k_112, k_114, k_115, k_98, k_103, k_116, k_119, k_47, k_82, k_50, k_51, k_99, k_700, k_197, ne9, ne9s, nI_ne0s, ↓reduceIte, z0 h]
theorem thing_model {T : Hs} {n : Nat} {K : Kd} {Z : Rt} (h : RepM T 14 0 n K Z) {i w : Nat} (hi : i < n) (hw : w < 7) : ∃ U, m_X6_thing (nI i) (nI w) T = some (thv n K Z i w, U) ∧ Mq (sI T 13 0 (nI 0)) U ∧ RepM U 14 0 n K Z ∧ gI U 13 0 = nI 0 := by
  have hn := h.1
  have hk3 := h.2.2.1 i hi
  obtain ⟨v, U, u1, u2, u3, u4, u5, u6, u7⟩ := mstart h
  have h0 : RepM (sI T 13 0 (nI 0)) 14 0 n K Z := h.keep fun _ => rfl
  have hin : m_X6_in (nI w) (nI 0) (nI 6) = some (bi true) := by rw [in_T _ (by omega), isT_nI (by omega) (by omega), decide_eq_true hw]
  have hth : m_X6_isThing (nI i) T = some (bi true) := by rw [isThing_ok h, isT_nI (by omega) (by omega), decide_eq_true hi]
  unfold m_X6_thing m_X6_thing_J28 m_X6_thing_J82 m_X6_thing_J101 m_X6_thing_J112 thv
  obtain rfl | rfl | rfl | rfl | rfl | rfl | rfl : w = 0 ∨ w = 1 ∨ w = 2 ∨ w = 3 ∨ w = 4 ∨ w = 5 ∨ w = 6 := by omega
  · refine ⟨_, ?_, Mq.rf _, h0, thr_eq _ _⟩
    simp (disch := omega) only [k_0, k_1, k_2, k_3, k_4, k_5, k_6, k_7, k_8, k_9, k_10, k_14, k_16, k_28, k_30, k_48, k_49, k_57, k_100, k_110, k_127, k_128, k_196, k_255, k_1000, k_1024, k_10000, nI_add, nI_mul, nI_div, irm_nI, nle, nlt, neq, gd_t, inb_nI, cl_nI, bnd_eq, gdT, gdo, gb0, gb1, gbi, bi0, bi1, bi0r, Option.bind_some, bndE_some, ite_t, ite_f, k_m9, k_m1, k_13, k_15, k_18, k_19, k_112, k_114, k_115, k_98, k_103, k_116, k_119, k_47, k_82, k_50, k_51, k_99, k_700, k_197, ne9, ne9s, nI_ne0s, ↓reduceIte, hin, hth, Bool.true_eq_false, thr_eq, le00, misPerson_ok h0 hi]
    by_cases hk : K i = 0 <;> simp [hk, bi]
  · refine ⟨_, ?_, Mq.rf _, h0, thr_eq _ _⟩
    simp (disch := omega) only [k_0, k_1, k_2, k_3, k_4, k_5, k_6, k_7, k_8, k_9, k_10, k_14, k_16, k_28, k_30, k_48, k_49, k_57, k_100, k_110, k_127, k_128, k_196, k_255, k_1000, k_1024, k_10000, nI_add, nI_mul, nI_div, irm_nI, nle, nlt, neq, gd_t, inb_nI, cl_nI, bnd_eq, gdT, gdo, gb0, gb1, gbi, bi0, bi1, bi0r, Option.bind_some, bndE_some, ite_t, ite_f, k_m9, k_m1, k_13, k_15, k_18, k_19, k_112, k_114, k_115, k_98, k_103, k_116, k_119, k_47, k_82, k_50, k_51, k_99, k_700, k_197, ne9, ne9s, nI_ne0s, ↓reduceIte, hin, hth, Bool.true_eq_false, thr_eq, le00, z1 h0 hi]
    by_cases hk : K i = 1 <;> simp [hk, bi]
  · refine ⟨U, ?_, Mq.ofScr u3, u5, u6⟩
    simp (disch := omega) only [k_0, k_1, k_2, k_3, k_4, k_5, k_6, k_7, k_8, k_9, k_10, k_14, k_16, k_28, k_30, k_48, k_49, k_57, k_100, k_110, k_127, k_128, k_196, k_255, k_1000, k_1024, k_10000, nI_add, nI_mul, nI_div, irm_nI, nle, nlt, neq, gd_t, inb_nI, cl_nI, bnd_eq, gdT, gdo, gb0, gb1, gbi, bi0, bi1, bi0r, Option.bind_some, bndE_some, ite_t, ite_f, k_m9, k_m1, k_13, k_15, k_18, k_19, k_112, k_114, k_115, k_98, k_103, k_116, k_119, k_47, k_82, k_50, k_51, k_99, k_700, k_197, ne9, ne9s, nI_ne0s, ↓reduceIte, hin, hth, Bool.true_eq_false, thr_eq, le00, u1, u2]
    rw [mthing_loop u5 u4.2.1 hi (Or.inl rfl), rowc_n h.2.1 hn]
    rfl
  · refine ⟨U, ?_, Mq.ofScr u3, u5, u6⟩
    simp (disch := omega) only [k_0, k_1, k_2, k_3, k_4, k_5, k_6, k_7, k_8, k_9, k_10, k_14, k_16, k_28, k_30, k_48, k_49, k_57, k_100, k_110, k_127, k_128, k_196, k_255, k_1000, k_1024, k_10000, nI_add, nI_mul, nI_div, irm_nI, nle, nlt, neq, gd_t, inb_nI, cl_nI, bnd_eq, gdT, gdo, gb0, gb1, gbi, bi0, bi1, bi0r, Option.bind_some, bndE_some, ite_t, ite_f, k_m9, k_m1, k_13, k_15, k_18, k_19, k_112, k_114, k_115, k_98, k_103, k_116, k_119, k_47, k_82, k_50, k_51, k_99, k_700, k_197, ne9, ne9s, nI_ne0s, ↓reduceIte, hin, hth, Bool.true_eq_false, thr_eq, le00, u1, u2]
    rw [mthing_loop u5 u4.2.1 hi (Or.inr (Or.inl rfl))]
    rfl
  · obtain ⟨P, p1, p2, p3⟩ := mlearn_ok u5 false (T := Clo (aw n K) Z) (fun q => by cases q)
    have hP : byT false Z (Clo (aw n K) Z) = Z := rfl
    rw [bi_f] at p1
    rw [hP] at p3
    refine ⟨P, ?_, (Mq.ofScr u3).tr (Mq.ofA p2 (by omega)), u5.keep fun j => p2.2.1 _ _ (by omega), (p2.1 _ _).trans u6⟩
    simp (disch := omega) only [k_0, k_1, k_2, k_3, k_4, k_5, k_6, k_7, k_8, k_9, k_10, k_14, k_16, k_28, k_30, k_48, k_49, k_57, k_100, k_110, k_127, k_128, k_196, k_255, k_1000, k_1024, k_10000, nI_add, nI_mul, nI_div, irm_nI, nle, nlt, neq, gd_t, inb_nI, cl_nI, bnd_eq, gdT, gdo, gb0, gb1, gbi, bi0, bi1, bi0r, Option.bind_some, bndE_some, ite_t, ite_f, k_m9, k_m1, k_13, k_15, k_18, k_19, k_112, k_114, k_115, k_98, k_103, k_116, k_119, k_47, k_82, k_50, k_51, k_99, k_700, k_197, ne9, ne9s, nI_ne0s, ↓reduceIte, hin, hth, Bool.true_eq_false, thr_eq, le00, u1, u2, p1, ofB_eq (p3 i hi)]
  · obtain ⟨P, p1, p2, p3⟩ := mlearn_ok u5 true (T := Clo (aw n K) Z) (fun _ => ⟨u4.2.1, Clo_WF h.2.1⟩)
    have hP : byT true Z (Clo (aw n K) Z) = Clo (aw n K) Z := rfl
    rw [bi_t] at p1
    rw [hP] at p3
    refine ⟨P, ?_, (Mq.ofScr u3).tr (Mq.ofA p2 (by omega)), u5.keep fun j => p2.2.1 _ _ (by omega), (p2.1 _ _).trans u6⟩
    simp (disch := omega) only [k_0, k_1, k_2, k_3, k_4, k_5, k_6, k_7, k_8, k_9, k_10, k_14, k_16, k_28, k_30, k_48, k_49, k_57, k_100, k_110, k_127, k_128, k_196, k_255, k_1000, k_1024, k_10000, nI_add, nI_mul, nI_div, irm_nI, nle, nlt, neq, gd_t, inb_nI, cl_nI, bnd_eq, gdT, gdo, gb0, gb1, gbi, bi0, bi1, bi0r, Option.bind_some, bndE_some, ite_t, ite_f, k_m9, k_m1, k_13, k_15, k_18, k_19, k_112, k_114, k_115, k_98, k_103, k_116, k_119, k_47, k_82, k_50, k_51, k_99, k_700, k_197, ne9, ne9s, nI_ne0s, ↓reduceIte, hin, hth, Bool.true_eq_false, thr_eq, le00, u1, u2, p1, ofB_eq (p3 i hi)]
  · refine ⟨U, ?_, Mq.ofScr u3, u5, u6⟩
    simp (disch := omega) only [k_0, k_1, k_2, k_3, k_4, k_5, k_6, k_7, k_8, k_9, k_10, k_14, k_16, k_28, k_30, k_48, k_49, k_57, k_100, k_110, k_127, k_128, k_196, k_255, k_1000, k_1024, k_10000, nI_add, nI_mul, nI_div, irm_nI, nle, nlt, neq, gd_t, inb_nI, cl_nI, bnd_eq, gdT, gdo, gb0, gb1, gbi, bi0, bi1, bi0r, Option.bind_some, bndE_some, ite_t, ite_f, k_m9, k_m1, k_13, k_15, k_18, k_19, k_112, k_114, k_115, k_98, k_103, k_116, k_119, k_47, k_82, k_50, k_51, k_99, k_700, k_197, ne9, ne9s, nI_ne0s, ↓reduceIte, hin, hth, Bool.true_eq_false, thr_eq, le00, u1, u2]
    rw [mthing_loop u5 u4.2.1 hi (Or.inr (Or.inr rfl)), rowc_n (Clo_WF h.2.1) hn]
    rfl
theorem thing_op (x v : Int32) : OpOk (m_X5_thing x v) (m_X6_thing x v) c12 := by
  intro g hg
  obtain ⟨⟨n, K, Z⟩, r, mem, sv, sl, len, t⟩ := g
  have hn : n ≤ 7 := hg.1.1
  by_cases hx : isT n x = true
  · obtain ⟨i, hi, rfl⟩ := isT_iff.mp hx
    by_cases hv : isT 7 v = true
    · obtain ⟨w, hw, rfl⟩ := isT_iff.mp hv
      refine ⟨.inl (thv n K Z i w), _, hg, fun S hS => ?_, fun T hT => ?_⟩
      · obtain ⟨S1, k1, k2⟩ := thing_class (show RepS S 29 n K Z from hS.1) hi hw
        exact ⟨S1, k1, Co.ofK k2, hS.kp k2⟩
      · obtain ⟨U, k1, k2, k3, k4⟩ := thing_model (show RepM T 14 0 n K Z from hT.1) hi hw
        obtain ⟨q1, q2⟩ := q_done hT _ k2 k3
        exact ⟨_, U, k1, q1, q2, k4, rfl⟩
    · have hno : ∀ j, j < 7 → (v = nI j) = False := fun j hj => eq_false fun e => hv (isT_iff.mpr ⟨j, hj, e⟩)
      refine ⟨.inr 1, _, hg, fun S hS => ⟨S, ?_, Co.rf S, hS⟩, fun T hT => ?_⟩
      · unfold m_X5_thing
        rw [checkThing_ok (show RepS S 29 n K Z from hS.1), if_pos hx, bndP_l]
        simp (disch := omega) only [k_0, k_1, k_2, k_3, k_4, k_5, k_6, k_7, k_8, k_9, k_10, k_14, k_16, k_28, k_30, k_48, k_49, k_57, k_100, k_110, k_127, k_128, k_196, k_255, k_1000, k_1024, k_10000, nI_add, nI_mul, nI_div, irm_nI, nle, nlt, neq, gd_t, inb_nI, cl_nI, bnd_eq, gdT, gdo, gb0, gb1, gbi, bi0, bi1, bi0r, Option.bind_some, bndE_some, ite_t, ite_f, k_m9, k_m1, k_13, k_15, k_18, k_19, k_112, k_114, k_115, k_98, k_103, k_116, k_119, k_47, k_82, k_50, k_51, k_99, k_700, k_197, ne9, ne9s, nI_ne0s, ↓reduceIte, hno 0 (by omega), hno 1 (by omega), hno 2 (by omega), hno 3 (by omega), hno 4 (by omega), hno 5 (by omega), hno 6 (by omega)]
      · obtain ⟨q1, q2⟩ := q_thr hT (nI 2)
        refine ⟨nI 0, _, ?_, q1, q2, thr_s _ _⟩
        have hin : m_X6_in v (nI 0) (nI 6) = some (bi false) := by rw [in_T _ (by omega), Bool.eq_false_iff.mpr hv]
        have h20 : (nI 2 ≤ nI 0) = False := eq_false (by decide)
        unfold m_X6_thing m_X6_thing_J28
        simp (disch := omega) only [k_0, k_1, k_2, k_3, k_4, k_5, k_6, k_7, k_8, k_9, k_10, k_14, k_16, k_28, k_30, k_48, k_49, k_57, k_100, k_110, k_127, k_128, k_196, k_255, k_1000, k_1024, k_10000, nI_add, nI_mul, nI_div, irm_nI, nle, nlt, neq, gd_t, inb_nI, cl_nI, bnd_eq, gdT, gdo, gb0, gb1, gbi, bi0, bi1, bi0r, Option.bind_some, bndE_some, ite_t, ite_f, k_m9, k_m1, k_13, k_15, k_18, k_19, k_112, k_114, k_115, k_98, k_103, k_116, k_119, k_47, k_82, k_50, k_51, k_99, k_700, k_197, ne9, ne9s, nI_ne0s, ↓reduceIte, isThing_ok (show RepM T 14 0 n K Z from hT.1), hx, Bool.true_eq_false, hin, thr_eq, h20]
  · have hx2 := Bool.eq_false_iff.mpr hx
    refine ⟨.inr 3, _, hg, fun S hS => ⟨S, ?_, Co.rf S, hS⟩, fun T hT => ?_⟩
    · unfold m_X5_thing
      rw [checkThing_ok (show RepS S 29 n K Z from hS.1), if_neg hx, bndP_r]
    · obtain ⟨q1, q2⟩ := q_thr hT (nI 1)
      refine ⟨nI 0, _, ?_, q1, q2, thr_s _ _⟩
      have h10 : (nI 1 ≤ nI 0) = False := eq_false (by decide)
      unfold m_X6_thing m_X6_thing_J28
      simp (disch := omega) only [k_0, k_1, k_2, k_3, k_4, k_5, k_6, k_7, k_8, k_9, k_10, k_14, k_16, k_28, k_30, k_48, k_49, k_57, k_100, k_110, k_127, k_128, k_196, k_255, k_1000, k_1024, k_10000, nI_add, nI_mul, nI_div, irm_nI, nle, nlt, neq, gd_t, inb_nI, cl_nI, bnd_eq, gdT, gdo, gb0, gb1, gbi, bi0, bi1, bi0r, Option.bind_some, bndE_some, ite_t, ite_f, k_m9, k_m1, k_13, k_15, k_18, k_19, k_112, k_114, k_115, k_98, k_103, k_116, k_119, k_47, k_82, k_50, k_51, k_99, k_700, k_197, ne9, ne9s, nI_ne0s, ↓reduceIte, isThing_ok (show RepM T 14 0 n K Z from hT.1), hx2, thr_eq, h10]
/-- an operation of both sides that doesn't throw -/
def OpN (X : Hs → Option (Int32 × Hs)) (M : Hs → Option (Int32 × Hs)) : Prop :=
  ∀ g : GS, GOk g → ∃ (v : Int32) (g' : GS), GOk g' ∧ (∀ S, CRel S g → ∃ S1, X S = some (v, S1) ∧ Co S S1 ∧ CRel S1 g') ∧ ∀ T, MRel T g → ∃ S2, M T = some (v, S2) ∧ Mo T S2 ∧ MRel S2 g'
theorem sleeper_op : OpN m_X5_sleeper m_X6_sleeper := by
  intro g hg
  obtain ⟨⟨n, K, Z⟩, r, mem, sv, sl, len, t⟩ := g
  refine ⟨slv n K Z n, _, hg, fun S hS => ?_, fun T hT => ?_⟩
  · obtain ⟨S1, k1, k2⟩ := sleeper_ok (show RepS S 29 n K Z from hS.1)
    exact ⟨S1, k1, Co.ofB k2 (by omega), hS.kp (Kp.ofB k2 (by omega))⟩
  · obtain ⟨U, k1, k2, k3, k4⟩ := msleeper_ok (show RepM T 14 0 n K Z from hT.1)
    obtain ⟨q1, q2⟩ := q_done hT _ k3 k2
    exact ⟨U, k1, q1, q2⟩
theorem danger_op : OpN m_X5_danger m_X6_danger := by
  intro g hg
  obtain ⟨⟨n, K, Z⟩, r, mem, sv, sl, len, t⟩ := g
  refine ⟨dgv n (aw n K) Z 196, _, hg, fun S hS => ?_, fun T hT => ?_⟩
  · obtain ⟨S1, k1, k2⟩ := danger_ok (show RepS S 29 n K Z from hS.1)
    exact ⟨S1, k1, Co.ofK k2, hS.kp k2⟩
  · obtain ⟨U, k1, k2, k3, k4⟩ := mdanger_ok (show RepM T 14 0 n K Z from hT.1)
    obtain ⟨q1, q2⟩ := q_done hT _ k3 k2
    exact ⟨U, k1, q1, q2⟩
