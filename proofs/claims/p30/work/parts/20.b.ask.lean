/-! the calls of the law: the class's answers -/
theorem cr_ok {S : Hs} {n : Nat} {K : Kd} {Z : Rt} (h : RepS S 29 n K Z) {a k d : Nat} (ha : a < n) (hk : k < 4) (hd : d < n) (hne : a ≠ d) : m_X5_checkRight (nI a) (nI k) (nI d) S = some (.inl ()) := by
  have hn := h.1
  have h0 : wr n (nI a) (nI k) (nI d) = 0 := by
    unfold wr
    rw [isT_nI (by omega) (by omega), isT_nI (by omega) (by omega), isT_nI (by omega) (by omega), decide_eq_true ha, decide_eq_true hd, decide_eq_true hk, if_pos (by rfl), if_pos ⟨by rw [Ne, neq (by omega) (by omega)]; exact hne, rfl⟩]
  rw [checkRight_ok h, if_pos h0]
theorem ct_ok {S : Hs} {n : Nat} {K : Kd} {Z : Rt} (h : RepS S 29 n K Z) {a : Nat} (ha : a < n) : m_X5_checkThing (nI a) S = some (.inl ()) := by
  have hn := h.1
  rw [checkThing_ok h, isT_nI (by omega) (by omega), decide_eq_true ha, if_pos rfl]
def byE (b : Bool) (Z T : Rt) : Rt := if b then T else Z
theorem rights_c {S : Hs} {n : Nat} {K : Kd} {Z : Rt} (h : RepS S 29 n K Z) {a d : Nat} (ha : a < n) (hd : d < n) (hne : a ≠ d) (b : Bool) : ∃ w S1, m_X5_rights (nI a) (nI d) (bi b) S = some (.inl w, S1) ∧ Kp S S1 ∧ ∀ j, j < 32 → bt w j = (decide (j < 4) && byE b Z (Clo (aw n K) Z) a j d) := by
  have hn := h.1
  unfold m_X5_rights m_X5_rights_J26
  rw [show (0 : Int32) = nI 0 from rfl, cr_ok h ha (by omega) hd hne, bndP_l]
  cases b
  · obtain ⟨w, w1, w2⟩ := rights_loop h (show a < 7 by omega) (show d < 7 by omega)
    refine ⟨w, S, ?_, Kp.rf S, w2⟩
    rw [if_pos (show bi false = nI 0 from rfl), w1, Option.bind_some]
  · obtain ⟨S1, k1, k2, k3⟩ := endOf_ok h (by omega)
    obtain ⟨w, w1, w2⟩ := rights_loop k2 (show a < 7 by omega) (show d < 7 by omega)
    refine ⟨w, S1, ?_, Kp.ofB k3 (by omega), w2⟩
    rw [if_neg (show ¬ bi true = nI 0 by decide), k1, bndEN_some, gd_t isSt65, w1, Option.bind_some]
theorem round_c {S : Hs} {n : Nat} {K : Kd} {Z : Rt} (h : RepS S 29 n K Z) {a c d : Nat} (ha : a < n) (hc : c < 4) (hd : d < n) (hne : a ≠ d) : ∃ S1, m_X5_round (nI a) (nI c) (nI d) S = some (.inl (rndv (aw n K) Z a c d), S1) ∧ Kp S S1 := by
  have hn := h.1
  obtain ⟨S1, f1, f2, f3⟩ := follow_ok h (by omega) (by omega)
  have hix : ix a c d < 196 := by unfold ix; omega
  refine ⟨S1, ?_, f2⟩
  unfold m_X5_round m_X5_round_J53 rndv
  rw [cr_ok h ha hc hd hne, bndP_l]
  simp (disch := omega) only [k_0, k_1, k_2, k_3, k_4, k_5, k_6, k_7, k_8, k_9, k_10, k_14, k_16, k_28, k_30, k_48, k_49, k_57, k_100, k_110, k_127, k_128, k_196, k_255, k_1000, k_1024, k_10000, nI_add, nI_mul, nI_div, irm_nI, nle, nlt, neq, gd_t, inb_nI, cl_nI, bnd_eq, gdT, gdo, gb0, gb1, gbi, bi0, bi1, bi0r, Option.bind_some, bndE_some, ite_t, ite_f, k_m9, k_m1, k_13, k_15, k_18, k_19, k_112, k_114, k_115, k_98, k_103, k_116, k_119, k_47, k_82, k_50, k_51, k_99, k_700, k_197, ne9, ne9s, nI_ne0s, ↓reduceIte, f1, ix_nI, comes_ok f3 h.2.1 hn (show a < 7 by omega) hc (show d < 7 by omega), fol_at f3 (show a < 7 by omega) hc (show d < 7 by omega)]
  cases Clo (aw n K) Z a c d <;> simp
theorem way_c {S : Hs} {n : Nat} {K : Kd} {Z : Rt} (h : RepS S 29 n K Z) {a c d : Nat} (ha : a < n) (hc : c < 4) (hd : d < n) (hne : a ≠ d) : ∃ S1, m_X5_way (nI a) (nI c) (nI d) S = some (.inl (wy n (aw n K) Z a c d), S1) ∧ Kp S S1 := by
  have hn := h.1
  obtain ⟨S1, f1, f2, f3⟩ := follow_ok h (by omega) (by omega)
  refine ⟨S1, ?_, f2⟩
  unfold m_X5_way
  rw [cr_ok h ha hc hd hne, bndP_l]
  simp (disch := omega) only [k_0, k_1, k_2, k_3, k_4, k_5, k_6, k_7, k_8, k_9, k_10, k_14, k_16, k_28, k_30, k_48, k_49, k_57, k_100, k_110, k_127, k_128, k_196, k_255, k_1000, k_1024, k_10000, nI_add, nI_mul, nI_div, irm_nI, nle, nlt, neq, gd_t, inb_nI, cl_nI, bnd_eq, gdT, gdo, gb0, gb1, gbi, bi0, bi1, bi0r, Option.bind_some, bndE_some, ite_t, ite_f, k_m9, k_m1, k_13, k_15, k_18, k_19, k_112, k_114, k_115, k_98, k_103, k_116, k_119, k_47, k_82, k_50, k_51, k_99, k_700, k_197, ne9, ne9s, nI_ne0s, ↓reduceIte, f1, ix_nI, wayOf_ok f3 h.2.1 hn (show a < 7 by omega) hc (show d < 7 by omega)]
theorem proof_c {S : Hs} {n : Nat} {K : Kd} {Z : Rt} (h : RepS S 29 n K Z) {a c d : Nat} (ha : a < n) (hc : c < 4) (hd : d < n) (hne : a ≠ d) : ∃ S1, m_X5_proof (nI a) (nI c) (nI d) S = some (.inl (prfv n (aw n K) Z a c d), S1) ∧ Kp S S1 := by
  have hn := h.1
  obtain ⟨S1, f1, f2, f3⟩ := follow_ok h (by omega) (by omega)
  obtain ⟨S2, g1, g2, g3⟩ := prove_ok f3 h.2.1 hn (show a < 7 by omega) hc (show d < 7 by omega)
  unfold m_X5_proof m_X5_proof_J52 prfv
  rw [cr_ok h ha hc hd hne, bndP_l]
  cases hq : Clo (aw n K) Z a c d
  · refine ⟨S1, ?_, f2⟩
    simp (disch := omega) only [k_0, k_1, k_2, k_3, k_4, k_5, k_6, k_7, k_8, k_9, k_10, k_14, k_16, k_28, k_30, k_48, k_49, k_57, k_100, k_110, k_127, k_128, k_196, k_255, k_1000, k_1024, k_10000, nI_add, nI_mul, nI_div, irm_nI, nle, nlt, neq, gd_t, inb_nI, cl_nI, bnd_eq, gdT, gdo, gb0, gb1, gbi, bi0, bi1, bi0r, Option.bind_some, bndE_some, ite_t, ite_f, k_m9, k_m1, k_13, k_15, k_18, k_19, k_112, k_114, k_115, k_98, k_103, k_116, k_119, k_47, k_82, k_50, k_51, k_99, k_700, k_197, ne9, ne9s, nI_ne0s, ↓reduceIte, f1, ix_nI, comes_ok f3 h.2.1 hn (show a < 7 by omega) hc (show d < 7 by omega), hq]
    simp
  · refine ⟨S2, ?_, f2.tr g2.kp⟩
    simp (disch := omega) only [k_0, k_1, k_2, k_3, k_4, k_5, k_6, k_7, k_8, k_9, k_10, k_14, k_16, k_28, k_30, k_48, k_49, k_57, k_100, k_110, k_127, k_128, k_196, k_255, k_1000, k_1024, k_10000, nI_add, nI_mul, nI_div, irm_nI, nle, nlt, neq, gd_t, inb_nI, cl_nI, bnd_eq, gdT, gdo, gb0, gb1, gbi, bi0, bi1, bi0r, Option.bind_some, bndE_some, ite_t, ite_f, k_m9, k_m1, k_13, k_15, k_18, k_19, k_112, k_114, k_115, k_98, k_103, k_116, k_119, k_47, k_82, k_50, k_51, k_99, k_700, k_197, ne9, ne9s, nI_ne0s, ↓reduceIte, f1, ix_nI, comes_ok f3 h.2.1 hn (show a < 7 by omega) hc (show d < 7 by omega), hq, Bool.true_eq_false, g1]
theorem needed_c {S : Hs} {n : Nat} {K : Kd} {Z : Rt} (h : RepS S 29 n K Z) {a c d : Nat} (ha : a < n) (hc : c < 4) (hd : d < n) (hne : a ≠ d) : ∃ S1, m_X5_needed (nI a) (nI c) (nI d) S = some (.inl (ndv (aw n K) Z a c d 128), S1) ∧ Kp S S1 := by
  have hn := h.1
  obtain ⟨s, s1, s2, s3⟩ := set_num (v := gI S 29 2) (A := aw n K) (fun j hj => aw_big hn hj) (fun j hj => by rw [h.2.2.2.2.1 j hj]; rfl)
  have hsub : sbs (aw n K) s = true := sbs_iff.mpr fun j hj => by rw [← s3]; exact hj
  obtain ⟨S1, k1, k2⟩ := comesWith_ok h s1 hsub (show a < 7 by omega) hc (show d < 7 by omega)
  rw [s3] at k1
  have g1 : gI S1 29 2 = nI s := (k2.1 _ _ (by omega)).trans s2
  unfold m_X5_needed
  rw [cr_ok h ha hc hd hne, bndP_l]
  cases hq : Clo (aw n K) Z a c d
  · refine ⟨S1, ?_, Kp.ofB k2 (by omega)⟩
    simp (disch := omega) only [k_0, k_1, k_2, k_3, k_4, k_5, k_6, k_7, k_8, k_9, k_10, k_14, k_16, k_28, k_30, k_48, k_49, k_57, k_100, k_110, k_127, k_128, k_196, k_255, k_1000, k_1024, k_10000, nI_add, nI_mul, nI_div, irm_nI, nle, nlt, neq, gd_t, inb_nI, cl_nI, bnd_eq, gdT, gdo, gb0, gb1, gbi, bi0, bi1, bi0r, Option.bind_some, bndE_some, ite_t, ite_f, k_m9, k_m1, k_13, k_15, k_18, k_19, k_112, k_114, k_115, k_98, k_103, k_116, k_119, k_47, k_82, k_50, k_51, k_99, k_700, k_197, ne9, ne9s, nI_ne0s, ↓reduceIte, ix_nI, s2, k1, hq]
    rw [ndv_no hq]
  · obtain ⟨S2, l1, l2⟩ := needed_loop (h.keep k2 (by omega) (by omega)) (show a < 7 by omega) hc (show d < 7 by omega) s1 s3 g1 hq
    refine ⟨S2, ?_, (Kp.ofB k2 (by omega)).tr (Kp.ofB l2 (by omega))⟩
    simp (disch := omega) only [k_0, k_1, k_2, k_3, k_4, k_5, k_6, k_7, k_8, k_9, k_10, k_14, k_16, k_28, k_30, k_48, k_49, k_57, k_100, k_110, k_127, k_128, k_196, k_255, k_1000, k_1024, k_10000, nI_add, nI_mul, nI_div, irm_nI, nle, nlt, neq, gd_t, inb_nI, cl_nI, bnd_eq, gdT, gdo, gb0, gb1, gbi, bi0, bi1, bi0r, Option.bind_some, bndE_some, ite_t, ite_f, k_m9, k_m1, k_13, k_15, k_18, k_19, k_112, k_114, k_115, k_98, k_103, k_116, k_119, k_47, k_82, k_50, k_51, k_99, k_700, k_197, ne9, ne9s, nI_ne0s, ↓reduceIte, ix_nI, s2, k1, hq, Bool.true_eq_false, g1]
    rw [l1]
    rfl
theorem cut_c {S : Hs} {n : Nat} {K : Kd} {Z : Rt} (h : RepS S 29 n K Z) {a c d : Nat} (ha : a < n) (hc : c < 4) (hd : d < n) (hne : a ≠ d) : ∃ S1, m_X5_cut (nI a) (nI c) (nI d) S = some (.inl (cutv (aw n K) Z a c d), S1) ∧ Kp S S1 := by
  have hn := h.1
  obtain ⟨S1, k1, k2, -⟩ := sizeFor_ok h (show a < 7 by omega) hc (show d < 7 by omega)
  refine ⟨S1, ?_, k2⟩
  unfold m_X5_cut
  rw [cr_ok h ha hc hd hne, bndP_l]
  simp (disch := omega) only [k_0, k_1, k_2, k_3, k_4, k_5, k_6, k_7, k_8, k_9, k_10, k_14, k_16, k_28, k_30, k_48, k_49, k_57, k_100, k_110, k_127, k_128, k_196, k_255, k_1000, k_1024, k_10000, nI_add, nI_mul, nI_div, irm_nI, nle, nlt, neq, gd_t, inb_nI, cl_nI, bnd_eq, gdT, gdo, gb0, gb1, gbi, bi0, bi1, bi0r, Option.bind_some, bndE_some, ite_t, ite_f, k_m9, k_m1, k_13, k_15, k_18, k_19, k_112, k_114, k_115, k_98, k_103, k_116, k_119, k_47, k_82, k_50, k_51, k_99, k_700, k_197, ne9, ne9s, nI_ne0s, ↓reduceIte, ix_nI, k1]
theorem cutAt_c {S : Hs} {n : Nat} {K : Kd} {Z : Rt} (h : RepS S 29 n K Z) {a c d : Nat} (ha : a < n) (hc : c < 4) (hd : d < n) (hne : a ≠ d) {j : Nat} (hj : j < 2) : ∃ S1, m_X5_cutAt (nI a) (nI c) (nI d) (nI j) S = some (.inl (if j = 0 then cut0 (aw n K) Z a c d else cut1 (aw n K) Z a c d), S1) ∧ Kp S S1 := by
  have hn := h.1
  obtain ⟨S1, k1, k2, k3, k4⟩ := sizeFor_ok h (show a < 7 by omega) hc (show d < 7 by omega)
  refine ⟨S1, ?_, k2⟩
  unfold m_X5_cutAt m_X5_cutAt_J18 m_X5_cutAt_J83
  rw [cr_ok h ha hc hd hne, bndP_l]
  have hm9 : ¬ nI 0 < m9 := by decide
  have hm9' : ¬ nI 1 < m9 := by decide
  rcases cutv_cases (aw n K) Z a c d with ⟨q1, q2, q3⟩ | ⟨q1, q3⟩ | q1 | ⟨q1, q2, q3⟩
  · rw [q1] at k1
    obtain rfl | rfl : j = 0 ∨ j = 1 := by omega
    · simp (disch := omega) only [k_0, k_1, k_2, k_3, k_4, k_5, k_6, k_7, k_8, k_9, k_10, k_14, k_16, k_28, k_30, k_48, k_49, k_57, k_100, k_110, k_127, k_128, k_196, k_255, k_1000, k_1024, k_10000, nI_add, nI_mul, nI_div, irm_nI, nle, nlt, neq, gd_t, inb_nI, cl_nI, bnd_eq, gdT, gdo, gb0, gb1, gbi, bi0, bi1, bi0r, Option.bind_some, bndE_some, ite_t, ite_f, k_m9, k_m1, k_13, k_15, k_18, k_19, k_112, k_114, k_115, k_98, k_103, k_116, k_119, k_47, k_82, k_50, k_51, k_99, k_700, k_197, ne9, ne9s, nI_ne0s, ↓reduceIte, ix_nI, k1, q2]
    · simp (disch := omega) only [k_0, k_1, k_2, k_3, k_4, k_5, k_6, k_7, k_8, k_9, k_10, k_14, k_16, k_28, k_30, k_48, k_49, k_57, k_100, k_110, k_127, k_128, k_196, k_255, k_1000, k_1024, k_10000, nI_add, nI_mul, nI_div, irm_nI, nle, nlt, neq, gd_t, inb_nI, cl_nI, bnd_eq, gdT, gdo, gb0, gb1, gbi, bi0, bi1, bi0r, Option.bind_some, bndE_some, ite_t, ite_f, k_m9, k_m1, k_13, k_15, k_18, k_19, k_112, k_114, k_115, k_98, k_103, k_116, k_119, k_47, k_82, k_50, k_51, k_99, k_700, k_197, ne9, ne9s, nI_ne0s, ↓reduceIte, ix_nI, k1, q3]
  · obtain ⟨u, u1, u2, u3⟩ := k3 (Or.inl q1)
    rw [q1] at k1
    obtain rfl | rfl : j = 0 ∨ j = 1 := by omega
    · simp (disch := omega) only [k_0, k_1, k_2, k_3, k_4, k_5, k_6, k_7, k_8, k_9, k_10, k_14, k_16, k_28, k_30, k_48, k_49, k_57, k_100, k_110, k_127, k_128, k_196, k_255, k_1000, k_1024, k_10000, nI_add, nI_mul, nI_div, irm_nI, nle, nlt, neq, gd_t, inb_nI, cl_nI, bnd_eq, gdT, gdo, gb0, gb1, gbi, bi0, bi1, bi0r, Option.bind_some, bndE_some, ite_t, ite_f, k_m9, k_m1, k_13, k_15, k_18, k_19, k_112, k_114, k_115, k_98, k_103, k_116, k_119, k_47, k_82, k_50, k_51, k_99, k_700, k_197, ne9, ne9s, nI_ne0s, ↓reduceIte, ix_nI, k1, u2, numberOf_ok u1, u3]
    · simp (disch := omega) only [k_0, k_1, k_2, k_3, k_4, k_5, k_6, k_7, k_8, k_9, k_10, k_14, k_16, k_28, k_30, k_48, k_49, k_57, k_100, k_110, k_127, k_128, k_196, k_255, k_1000, k_1024, k_10000, nI_add, nI_mul, nI_div, irm_nI, nle, nlt, neq, gd_t, inb_nI, cl_nI, bnd_eq, gdT, gdo, gb0, gb1, gbi, bi0, bi1, bi0r, Option.bind_some, bndE_some, ite_t, ite_f, k_m9, k_m1, k_13, k_15, k_18, k_19, k_112, k_114, k_115, k_98, k_103, k_116, k_119, k_47, k_82, k_50, k_51, k_99, k_700, k_197, ne9, ne9s, nI_ne0s, ↓reduceIte, ix_nI, k1, q3]
  · obtain ⟨u, u1, u2, u3⟩ := k3 (Or.inr q1)
    obtain ⟨v, v1, v2, v3⟩ := k4 q1
    rw [q1] at k1
    obtain rfl | rfl : j = 0 ∨ j = 1 := by omega
    · simp (disch := omega) only [k_0, k_1, k_2, k_3, k_4, k_5, k_6, k_7, k_8, k_9, k_10, k_14, k_16, k_28, k_30, k_48, k_49, k_57, k_100, k_110, k_127, k_128, k_196, k_255, k_1000, k_1024, k_10000, nI_add, nI_mul, nI_div, irm_nI, nle, nlt, neq, gd_t, inb_nI, cl_nI, bnd_eq, gdT, gdo, gb0, gb1, gbi, bi0, bi1, bi0r, Option.bind_some, bndE_some, ite_t, ite_f, k_m9, k_m1, k_13, k_15, k_18, k_19, k_112, k_114, k_115, k_98, k_103, k_116, k_119, k_47, k_82, k_50, k_51, k_99, k_700, k_197, ne9, ne9s, nI_ne0s, ↓reduceIte, ix_nI, k1, u2, numberOf_ok u1, u3]
    · simp (disch := omega) only [k_0, k_1, k_2, k_3, k_4, k_5, k_6, k_7, k_8, k_9, k_10, k_14, k_16, k_28, k_30, k_48, k_49, k_57, k_100, k_110, k_127, k_128, k_196, k_255, k_1000, k_1024, k_10000, nI_add, nI_mul, nI_div, irm_nI, nle, nlt, neq, gd_t, inb_nI, cl_nI, bnd_eq, gdT, gdo, gb0, gb1, gbi, bi0, bi1, bi0r, Option.bind_some, bndE_some, ite_t, ite_f, k_m9, k_m1, k_13, k_15, k_18, k_19, k_112, k_114, k_115, k_98, k_103, k_116, k_119, k_47, k_82, k_50, k_51, k_99, k_700, k_197, ne9, ne9s, nI_ne0s, ↓reduceIte, ix_nI, k1, v2, numberOf_ok v1, v3]
  · rw [q1] at k1
    obtain rfl | rfl : j = 0 ∨ j = 1 := by omega
    · simp (disch := omega) only [k_0, k_1, k_2, k_3, k_4, k_5, k_6, k_7, k_8, k_9, k_10, k_14, k_16, k_28, k_30, k_48, k_49, k_57, k_100, k_110, k_127, k_128, k_196, k_255, k_1000, k_1024, k_10000, nI_add, nI_mul, nI_div, irm_nI, nle, nlt, neq, gd_t, inb_nI, cl_nI, bnd_eq, gdT, gdo, gb0, gb1, gbi, bi0, bi1, bi0r, Option.bind_some, bndE_some, ite_t, ite_f, k_m9, k_m1, k_13, k_15, k_18, k_19, k_112, k_114, k_115, k_98, k_103, k_116, k_119, k_47, k_82, k_50, k_51, k_99, k_700, k_197, ne9, ne9s, nI_ne0s, ↓reduceIte, ix_nI, k1, hm9, q2]
    · simp (disch := omega) only [k_0, k_1, k_2, k_3, k_4, k_5, k_6, k_7, k_8, k_9, k_10, k_14, k_16, k_28, k_30, k_48, k_49, k_57, k_100, k_110, k_127, k_128, k_196, k_255, k_1000, k_1024, k_10000, nI_add, nI_mul, nI_div, irm_nI, nle, nlt, neq, gd_t, inb_nI, cl_nI, bnd_eq, gdT, gdo, gb0, gb1, gbi, bi0, bi1, bi0r, Option.bind_some, bndE_some, ite_t, ite_f, k_m9, k_m1, k_13, k_15, k_18, k_19, k_112, k_114, k_115, k_98, k_103, k_116, k_119, k_47, k_82, k_50, k_51, k_99, k_700, k_197, ne9, ne9s, nI_ne0s, ↓reduceIte, ix_nI, k1, hm9', q3]
/-- the actions: what the call remembers comes first -/
def adK (n : Nat) (K : Kd) (b : Bool) : Kd := fun j => if j = n then (if b then 1 else 0) else K j
theorem addThing_c {S : Hs} {n : Nat} {K : Kd} {Z : Rt} {l : List Ab} (h : CP S (n, K, Z) l) (h7 : n < 7) (hl : l.length < 14) (b : Bool) : ∃ S1, m_X5_addThing (bi b) S = some (.inl (nI n), S1) ∧ CP S1 (n + 1, adK n K b, Z) ((n, K, Z) :: l) := by
  obtain ⟨S1, k1, k3⟩ := push_ok h hl
  obtain ⟨S2, l1, l2, l3⟩ := addOne_ok k3.rs h7 b b (fun q => q)
  have l4 : RepS S2 29 (n + 1) (adK n K b) Z := l2.cong (fun j _ => by
    unfold adK
    cases b <;> by_cases hjn : j = n <;> simp [hjn]) fun _ _ _ => rfl
  have h0 : gI S 29 0 = nI n := h.rs.2.2.1
  have hm : nI (n + 1) - nI 1 = nI n := nI_sub (by omega)
  refine ⟨S2, ?_, k3.cur l3 (c' := (n + 1, adK n K b, Z)) l4⟩
  unfold m_X5_addThing
  simp (disch := omega) only [k_0, k_1, k_2, k_3, k_4, k_5, k_6, k_7, k_8, k_9, k_10, k_14, k_16, k_28, k_30, k_48, k_49, k_57, k_100, k_110, k_127, k_128, k_196, k_255, k_1000, k_1024, k_10000, nI_add, nI_mul, nI_div, irm_nI, nle, nlt, neq, gd_t, inb_nI, cl_nI, bnd_eq, gdT, gdo, gb0, gb1, gbi, bi0, bi1, bi0r, Option.bind_some, bndE_some, ite_t, ite_f, k_m9, k_m1, k_13, k_15, k_18, k_19, k_112, k_114, k_115, k_98, k_103, k_116, k_119, k_47, k_82, k_50, k_51, k_99, k_700, k_197, ne9, ne9s, nI_ne0s, ↓reduceIte, h0, k1, l1, l4.2.2.1, hm]
theorem wake_c {S : Hs} {n : Nat} {K : Kd} {Z : Rt} {l : List Ab} (h : CP S (n, K, Z) l) (hl : l.length < 14) {x : Nat} (hx : x < n) (hp : K x ≠ 0) (b : Bool) : ∃ S1, m_X5_wake (nI x) (bi b) S = some (.inl (nI (cnt (Clo (aw n (wkK K x b)) Z))), S1) ∧ CP S1 (n, wkK K x b, Z) ((n, K, Z) :: l) := by
  have hn := h.rs.1
  obtain ⟨S1, k1, k3⟩ := push_ok h hl
  obtain ⟨S2, l1, l2, l3⟩ := setAwake_ok k3.rs hx hp b
  obtain ⟨S3, p1, p2, p3⟩ := endOf29 l2
  refine ⟨S3, ?_, (k3.cur l3 (c' := (n, wkK K x b, Z)) l2).kp p3⟩
  unfold m_X5_wake
  rw [ct_ok h.rs hx, bndP_l, isPerson_bi h.rs (show x < 32 by omega), decide_eq_true ⟨hx, hp⟩]
  simp (disch := omega) only [k_0, k_1, k_2, k_3, k_4, k_5, k_6, k_7, k_8, k_9, k_10, k_14, k_16, k_28, k_30, k_48, k_49, k_57, k_100, k_110, k_127, k_128, k_196, k_255, k_1000, k_1024, k_10000, nI_add, nI_mul, nI_div, irm_nI, nle, nlt, neq, gd_t, inb_nI, cl_nI, bnd_eq, gdT, gdo, gb0, gb1, gbi, bi0, bi1, bi0r, Option.bind_some, bndE_some, ite_t, ite_f, k_m9, k_m1, k_13, k_15, k_18, k_19, k_112, k_114, k_115, k_98, k_103, k_116, k_119, k_47, k_82, k_50, k_51, k_99, k_700, k_197, ne9, ne9s, nI_ne0s, ↓reduceIte, Bool.true_eq_false, k1, l1, p1, bndEN_some, isSt65, countRights_ok p2]
theorem set_c {S : Hs} {n : Nat} {K : Kd} {Z : Rt} {l : List Ab} (h : CP S (n, K, Z) l) (hl : l.length < 14) {a c d : Nat} (ha : a < n) (hc : c < 4) (hd : d < n) (hne : a ≠ d) (b : Bool) (hroom : b = true → Z a c d = true ∨ cnt Z < 30) : ∃ S1, m_X5_set (nI a) (nI c) (nI d) (bi b) S = some (.inl (bi (Z a c d)), S1) ∧ CP S1 (n, K, upR Z a c d b) ((n, K, Z) :: l) := by
  have hn := h.rs.1
  have h' : RepS S 29 n K Z := h.rs
  obtain ⟨S1, k1, k3⟩ := push_ok h hl
  obtain ⟨S2, l1, l2, l3⟩ := put_ok k3.rs ha hc hd hne (bi b)
  have hdec : decide (bi b ≠ 0) = b := by cases b <;> decide
  rw [hdec] at l2
  refine ⟨S2, ?_, k3.cur l3 (c' := (n, K, upR Z a c d b)) l2⟩
  have hhas := has_bi h' (show a < 7 by omega) hc (show d < 7 by omega)
  unfold m_X5_set m_X5_set_J42
  rw [cr_ok h' ha hc hd hne, bndP_l]
  cases b
  · simp (disch := omega) only [k_0, k_1, k_2, k_3, k_4, k_5, k_6, k_7, k_8, k_9, k_10, k_14, k_16, k_28, k_30, k_48, k_49, k_57, k_100, k_110, k_127, k_128, k_196, k_255, k_1000, k_1024, k_10000, nI_add, nI_mul, nI_div, irm_nI, nle, nlt, neq, gd_t, inb_nI, cl_nI, bnd_eq, gdT, gdo, gb0, gb1, gbi, bi0, bi1, bi0r, Option.bind_some, bndE_some, ite_t, ite_f, k_m9, k_m1, k_13, k_15, k_18, k_19, k_112, k_114, k_115, k_98, k_103, k_116, k_119, k_47, k_82, k_50, k_51, k_99, k_700, k_197, ne9, ne9s, nI_ne0s, ↓reduceIte, ix_nI, bi_f, hhas, k1, l1]
    rw [bi_f] at l1
    rw [l1]
    rfl
  · rw [bi_t] at l1
    have hr : (Z a c d || decide (cnt Z < 30)) = true := by
      rcases hroom rfl with e | e
      · rw [e]; rfl
      · rw [decide_eq_true e, Bool.or_true]
    simp (disch := omega) only [k_0, k_1, k_2, k_3, k_4, k_5, k_6, k_7, k_8, k_9, k_10, k_14, k_16, k_28, k_30, k_48, k_49, k_57, k_100, k_110, k_127, k_128, k_196, k_255, k_1000, k_1024, k_10000, nI_add, nI_mul, nI_div, irm_nI, nle, nlt, neq, gd_t, inb_nI, cl_nI, bnd_eq, gdT, gdo, gb0, gb1, gbi, bi0, bi1, bi0r, Option.bind_some, bndE_some, ite_t, ite_f, k_m9, k_m1, k_13, k_15, k_18, k_19, k_112, k_114, k_115, k_98, k_103, k_116, k_119, k_47, k_82, k_50, k_51, k_99, k_700, k_197, ne9, ne9s, nI_ne0s, ↓reduceIte, ix_nI, bi_t, hasRoomFor_bi h' (show a < 7 by omega) hc (show d < 7 by omega), hr, Bool.true_eq_false, hhas, k1, l1]
theorem sleeper_c {S : Hs} {n : Nat} {K : Kd} {Z : Rt} (h : RepS S 29 n K Z) : ∃ S1, m_X5_sleeper S = some (slv n K Z n, S1) ∧ Kp S S1 := by
  obtain ⟨S1, k1, k2⟩ := sleeper_ok h
  exact ⟨S1, k1, Kp.ofB k2 (by omega)⟩
theorem danger_c {S : Hs} {n : Nat} {K : Kd} {Z : Rt} (h : RepS S 29 n K Z) : ∃ S1, m_X5_danger S = some (dgv n (aw n K) Z 196, S1) ∧ Kp S S1 := danger_ok h
theorem bndX_l {α γ : Type} (a : α) (T : Hs) (f : α → Hs → Option γ) (g : Nat → Hs → Option γ) : bndX (some (.inl a, T)) f g = f a T := rfl
/-- a right at the end -/
theorem ends_c {S : Hs} {n : Nat} {K : Kd} {Z : Rt} (h : RepS S 29 n K Z) {a c d : Nat} (ha : a < n) (hc : c < 4) (hd : d < n) (hne : a ≠ d) : ∃ S1, m_L_ends (nI a) (nI c) (nI d) S = some (bi (Clo (aw n K) Z a c d), S1) ∧ Kp S S1 := by
  obtain ⟨w, S1, k1, k2, k3⟩ := rights_c h ha hd hne true
  rw [bi_t] at k1
  refine ⟨S1, ?_, k2⟩
  have hb : bt w c = Clo (aw n K) Z a c d := by rw [k3 c (by omega), decide_eq_true hc, Bool.true_and]; rfl
  unfold m_L_ends m_L_ends_J20
  simp (disch := omega) only [k_0, k_1, k_2, k_3, k_4, k_5, k_6, k_7, k_8, k_9, k_10, k_14, k_16, k_28, k_30, k_48, k_49, k_57, k_100, k_110, k_127, k_128, k_196, k_255, k_1000, k_1024, k_10000, nI_add, nI_mul, nI_div, irm_nI, nle, nlt, neq, gd_t, inb_nI, cl_nI, bnd_eq, gdT, gdo, gb0, gb1, gbi, bi0, bi1, bi0r, Option.bind_some, bndE_some, ite_t, ite_f, k_m9, k_m1, k_13, k_15, k_18, k_19, k_112, k_114, k_115, k_98, k_103, k_116, k_119, k_47, k_82, k_50, k_51, k_99, k_700, k_197, ne9, ne9s, nI_ne0s, ↓reduceIte, k1, bndX_l, and1 w (show c < 32 by omega), hb]
  cases Clo (aw n K) Z a c d <;> simp [bi, gd]
