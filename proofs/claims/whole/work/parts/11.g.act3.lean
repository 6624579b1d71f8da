/-! undo, save, restore, load, the text's calls -/
/-- another State object copied into the present one -/
theorem CRel.take {S T : Hs} {g : GS} {c' : Ab} {r' : Nat} (h : CRel S g) (hr : r' ≤ g.2.1 ∨ r' = 0) (hs : SameB 29 S T) (hc : RS T 29 c') : CRel (sI T 0 3 (nI r')) (c', r', g.2.2) := by
  obtain ⟨a1, a2, ⟨q, b1, b2, b3⟩, a4, a5⟩ := h
  refine ⟨hc.samev (fun b => by rw [gI_sI, if_neg (by omega)]) (fun b => rfl), by rw [gI_sI, if_pos rfl, if_pos rfl], ⟨q, fun j hj => ?_, b2, fun j hj hj14 => ?_⟩, fun j hj => ?_, ?_⟩
  · rw [gQ_sI, hs.2.2.1]
    exact b1 j hj
  · have := b1 j hj14
    have hj' : j < r' := hj
    exact ((b3 j (by omega) hj14).keep hs (by omega)).samev (fun b => by rw [gI_sI, if_neg (by omega)]) (fun b => rfl)
  · obtain ⟨c1, c2, c3⟩ := a4 j hj
    rw [gQ_sI, hs.2.2.1, gA_sI, hs.2.1 5 _ (by omega)]
    exact ⟨c1, c2, fun e => ((c3 e).keep hs (by omega)).samev (fun b => by rw [gI_sI, if_neg (by omega)]) (fun b => rfl)⟩
  · have := a5.sB hs (by omega)
    exact ⟨(by rw [gI_sI, if_neg (by omega)]; exact this.1), this.2⟩
theorem MRel.take {S T : Hs} {g : GS} {c' : Ab} {r' : Nat} (h : MRel S g) (hr : r' ≤ g.2.1 ∨ r' = 0) (hs : OnA 14 S T) (hc : RM T 14 0 c') : MRel (sI T 13 3 (nI r')) (c', r', g.2.2) := by
  obtain ⟨a1, a2, a3, a4, a5⟩ := h
  refine ⟨hc.keep fun _ => rfl, by rw [gI_sI, if_pos rfl, if_pos rfl], fun j hj => (a3 j (by have hj' : j < r' := hj; omega)).keep fun b => hs.2.1 _ _ (by omega), fun j hj => ?_, a5.keep (by rw [gI_sI, if_pos rfl, if_neg (by omega), hs.1]) fun b => hs.2.1 _ _ (by omega)⟩
  obtain ⟨c1, c2⟩ := a4 j hj
  rw [gA_sI, hs.2.1 17 _ (by omega)]
  exact ⟨c1, fun e => (c2 e).keep fun b => hs.2.1 _ _ (by omega)⟩
theorem undo_op : OpOk m_X5_undo m_X6_undo (c1 2) := by
  intro g hg
  obtain ⟨⟨n, K, Z⟩, r, mem, sv, sl, len, t⟩ := g
  obtain ⟨ga, gr, gm, gs⟩ := hg
  have gr' : r ≤ 14 := gr
  by_cases h0 : r = 0
  · subst h0
    refine ⟨.inr 2, _, ⟨ga, gr, gm, gs⟩, fun S hS => ⟨S, ?_, Co.rf S, hS⟩, fun T hT => ?_⟩
    · have a2 : gI S 0 3 = nI 0 := hS.2.1
      unfold m_X5_undo
      simp (disch := omega) only [k_0, k_1, k_2, k_3, k_4, k_5, k_6, k_7, k_8, k_9, k_10, k_14, k_16, k_28, k_30, k_48, k_49, k_57, k_100, k_110, k_127, k_128, k_196, k_255, k_1000, k_1024, k_10000, nI_add, nI_mul, nI_div, irm_nI, nle, nlt, neq, gd_t, inb_nI, cl_nI, bnd_eq, gdT, gdo, gb0, gb1, gbi, bi0, bi1, bi0r, Option.bind_some, bndE_some, ite_t, ite_f, k_m9, k_m1, k_13, k_15, k_18, k_19, k_112, k_114, k_115, k_98, k_103, k_116, k_119, k_47, k_82, k_50, k_51, k_99, k_700, k_197, ne9, ne9s, nI_ne0s, ↓reduceIte, a2]
    · obtain ⟨q1, q2⟩ := q_thr hT (nI 1)
      refine ⟨nI 0, _, ?_, q1, q2, thr_s _ _⟩
      have a2 : gI T 13 3 = nI 0 := hT.2.1
      unfold m_X6_undo m_X6_undo_J13
      simp (disch := omega) only [k_0, k_1, k_2, k_3, k_4, k_5, k_6, k_7, k_8, k_9, k_10, k_14, k_16, k_28, k_30, k_48, k_49, k_57, k_100, k_110, k_127, k_128, k_196, k_255, k_1000, k_1024, k_10000, nI_add, nI_mul, nI_div, irm_nI, nle, nlt, neq, gd_t, inb_nI, cl_nI, bnd_eq, gdT, gdo, gb0, gb1, gbi, bi0, bi1, bi0r, Option.bind_some, bndE_some, ite_t, ite_f, k_m9, k_m1, k_13, k_15, k_18, k_19, k_112, k_114, k_115, k_98, k_103, k_116, k_119, k_47, k_82, k_50, k_51, k_99, k_700, k_197, ne9, ne9s, nI_ne0s, ↓reduceIte, a2, thr_eq, not10]
  · have hm : nI r - nI 1 = nI (r - 1) := nI_sub (by omega)
    refine ⟨.inl (nI (r - 1)), (mem (r - 1), r - 1, mem, sv, sl, len, t), ⟨gm (r - 1) (show r - 1 < r by omega), show r - 1 ≤ 14 by omega, fun j hj => gm j (by have hj' : j < r - 1 := hj; show j < r; omega), gs⟩, fun S hS => ?_, fun T hT => ?_⟩
    · have a2 : gI S 0 3 = nI r := hS.2.1
      obtain ⟨q, b1, b2, b3⟩ := hS.2.2.1
      have hq := b1 (r - 1) (by omega)
      have hS1 : CRel (sI S 0 3 (nI (r - 1))) ((n, K, Z), r - 1, mem, sv, sl, len, t) := hS.take (Or.inl (show r - 1 ≤ r by omega)) (SameB.rf 29 S) hS.1
      have hmem : RS (sI S 0 3 (nI (r - 1))) (q (r - 1)) (mem (r - 1)) := (b3 (r - 1) (show r - 1 < r by omega) (by omega)).samev (fun b => by rw [gI_sI, if_neg (by omega)]) (fun b => rfl)
      obtain ⟨S2, k1, k2, k3⟩ := copyRS (i := 29) hmem (by omega)
      have g0 : gI (sI S 0 3 (nI (r - 1))) 0 3 = nI (r - 1) := by rw [gI_sI, if_pos rfl, if_pos rfl]
      have g2 : gI S2 0 3 = nI (r - 1) := (k3.1 _ _ (by omega)).trans g0
      refine ⟨S2, ?_, (Co.sI _ _ (by omega)).tr (Co.ofB k3 (by omega)), hS1.cur k3 k2⟩
      have h0' : (r = 0) = False := eq_false h0
      have hq0 : gQ (sI S 0 3 (nI (r - 1))) 3 (r - 1) = q (r - 1) := hq.1
      unfold m_X5_undo
      simp (disch := omega) only [k_0, k_1, k_2, k_3, k_4, k_5, k_6, k_7, k_8, k_9, k_10, k_14, k_16, k_28, k_30, k_48, k_49, k_57, k_100, k_110, k_127, k_128, k_196, k_255, k_1000, k_1024, k_10000, nI_add, nI_mul, nI_div, irm_nI, nle, nlt, neq, gd_t, inb_nI, cl_nI, bnd_eq, gdT, gdo, gb0, gb1, gbi, bi0, bi1, bi0r, Option.bind_some, bndE_some, ite_t, ite_f, k_m9, k_m1, k_13, k_15, k_18, k_19, k_112, k_114, k_115, k_98, k_103, k_116, k_119, k_47, k_82, k_50, k_51, k_99, k_700, k_197, ne9, ne9s, nI_ne0s, ↓reduceIte, a2, h0', hm, g0, hq0, isSt_mem hq.2.1 hq.2.2.1 hq.2.2.2, k1, g2]
    · have a2 : gI T 13 3 = nI r := hT.2.1
      have a3 := hT.2.2.1 (r - 1) (show r - 1 < r by omega)
      have g0 : gI (sI (sI T 13 0 (nI 0)) 13 3 (nI (r - 1))) 13 3 = nI (r - 1) := by rw [gI_sI, if_pos rfl, if_pos rfl]
      have g00 : gI (sI T 13 0 (nI 0)) 13 3 = nI r := by rw [gI_sI, if_pos rfl, if_neg (by omega)]; exact a2
      obtain ⟨U, k1, k2, k3⟩ := copy_loop (f := fun x : Int32 × Hs => m_X6_undo_L37 x.1 x.2) (S := sI (sI T 13 0 (nI 0)) 13 3 (nI (r - 1))) (c := 14) (p := 0) (a := 15) (s := (r - 1) * 57) (N := 57) (by omega) (Or.inl (by omega)) (fun k W hk hW => by
        simp only [m_X6_undo_L37]
        simp (disch := omega) only [k_0, k_1, k_2, k_3, k_4, k_5, k_6, k_7, k_8, k_9, k_10, k_14, k_16, k_28, k_30, k_48, k_49, k_57, k_100, k_110, k_127, k_128, k_196, k_255, k_1000, k_1024, k_10000, nI_add, nI_mul, nI_div, irm_nI, nle, nlt, neq, gd_t, inb_nI, cl_nI, bnd_eq, gdT, gdo, gb0, gb1, gbi, bi0, bi1, bi0r, Option.bind_some, bndE_some, ite_t, ite_f, k_m9, k_m1, k_13, k_15, k_18, k_19, k_112, k_114, k_115, k_98, k_103, k_116, k_119, k_47, k_82, k_50, k_51, k_99, k_700, k_197, ne9, ne9s, nI_ne0s, ↓reduceIte, hW.1 13 3, g0, Nat.zero_add]) (fun W hW => by
        simp only [m_X6_undo_L37]
        simp (disch := omega) only [k_0, k_1, k_2, k_3, k_4, k_5, k_6, k_7, k_8, k_9, k_10, k_14, k_16, k_28, k_30, k_48, k_49, k_57, k_100, k_110, k_127, k_128, k_196, k_255, k_1000, k_1024, k_10000, nI_add, nI_mul, nI_div, irm_nI, nle, nlt, neq, gd_t, inb_nI, cl_nI, bnd_eq, gdT, gdo, gb0, gb1, gbi, bi0, bi1, bi0r, Option.bind_some, bndE_some, ite_t, ite_f, k_m9, k_m1, k_13, k_15, k_18, k_19, k_112, k_114, k_115, k_98, k_103, k_116, k_119, k_47, k_82, k_50, k_51, k_99, k_700, k_197, ne9, ne9s, nI_ne0s, ↓reduceIte])
      have hcur : RM U 14 0 (mem (r - 1)) := RepM.copy a3 fun b hb => by
        rw [k3, if_pos ⟨by omega, by omega⟩, gA_sI, gA_sI]
        congr 1
        omega
      have gU : gI U 13 3 = nI (r - 1) := (k2.1 _ _).trans g0
      have hM := ((hT.thr (nI 0)).take (r' := r - 1) (c' := (n, K, Z)) (Or.inl (show r - 1 ≤ r by omega)) (OnA.rf 14 _) (hT.thr (nI 0)).1).cur (Mq.ofA k2 (by omega)) hcur
      refine ⟨nI (r - 1), U, ?_, (Mo.sI _ _).tr ((Mo.sI _ _).tr (Mo.ofA k2 (by omega))), hM, by rw [k2.1, gI_sI, if_pos rfl, if_neg (by omega)]; exact thr_eq _ _, rfl⟩
      have h0' : (r = 0) = False := eq_false h0
      unfold m_X6_undo m_X6_undo_J13
      simp (disch := omega) only [k_0, k_1, k_2, k_3, k_4, k_5, k_6, k_7, k_8, k_9, k_10, k_14, k_16, k_28, k_30, k_48, k_49, k_57, k_100, k_110, k_127, k_128, k_196, k_255, k_1000, k_1024, k_10000, nI_add, nI_mul, nI_div, irm_nI, nle, nlt, neq, gd_t, inb_nI, cl_nI, bnd_eq, gdT, gdo, gb0, gb1, gbi, bi0, bi1, bi0r, Option.bind_some, bndE_some, ite_t, ite_f, k_m9, k_m1, k_13, k_15, k_18, k_19, k_112, k_114, k_115, k_98, k_103, k_116, k_119, k_47, k_82, k_50, k_51, k_99, k_700, k_197, ne9, ne9s, nI_ne0s, ↓reduceIte, a2, h0', thr_eq, le00, g00, hm]
      rw [k1]
      simp (disch := omega) only [k_0, k_1, k_2, k_3, k_4, k_5, k_6, k_7, k_8, k_9, k_10, k_14, k_16, k_28, k_30, k_48, k_49, k_57, k_100, k_110, k_127, k_128, k_196, k_255, k_1000, k_1024, k_10000, nI_add, nI_mul, nI_div, irm_nI, nle, nlt, neq, gd_t, inb_nI, cl_nI, bnd_eq, gdT, gdo, gb0, gb1, gbi, bi0, bi1, bi0r, Option.bind_some, bndE_some, ite_t, ite_f, k_m9, k_m1, k_13, k_15, k_18, k_19, k_112, k_114, k_115, k_98, k_103, k_116, k_119, k_47, k_82, k_50, k_51, k_99, k_700, k_197, ne9, ne9s, nI_ne0s, ↓reduceIte, gU]
theorem checkSlot_ok (v : Int32) : m_X5_checkSlot v = some (if isT 2 v = true then .inl () else .inr 3) := by
  unfold m_X5_checkSlot m_X5_checkSlot_J9
  by_cases h0 : v < 0
  · rw [if_pos h0, if_neg]
    rw [isT_iff]
    rintro ⟨x, hx, rfl⟩
    exact not_neg (by omega) h0
  · rw [if_neg h0]
    by_cases h1 : v < 2
    · rw [if_pos h1, if_pos]
      obtain ⟨k, hk, e⟩ := of_range (n := 2) h0 (fun q => by
        rw [Int32.le_iff_toInt_le] at q
        rw [Int32.lt_iff_toInt_lt] at h1
        have e1 : (nI 2).toInt = 2 := by decide
        have e2 : (2 : Int32).toInt = 2 := by decide
        omega) (by omega)
      exact isT_iff.mpr ⟨k, hk, e⟩
    · rw [if_neg h1, if_neg]
      rw [isT_iff]
      rintro ⟨x, hx, rfl⟩
      refine h1 ?_
      rw [show (2 : Int32) = nI 2 from rfl, nlt (by omega) (by omega)]
      exact hx
theorem slot_isSt : ∀ j, j < 2 → isSt (59 + 2 * j) = true := by decide
theorem save_op (v : Int32) : OpOk (m_X5_save v) (m_X6_save v) (c1 3) := by
  intro g hg
  obtain ⟨⟨n, K, Z⟩, r, mem, sv, sl, len, t⟩ := g
  obtain ⟨ga, gr, gm, gs⟩ := hg
  by_cases hv : isT 2 v = true
  · obtain ⟨s, hs, rfl⟩ := isT_iff.mp hv
    refine ⟨.inl (nI (cnt Z)), ((n, K, Z), r, mem, fun j => if j = s then true else sv j, fun j => if j = s then (n, K, Z) else sl j, len, t), ⟨ga, gr, gm, fun j hj hq => ?_⟩, fun S hS => ?_, fun T hT => ?_⟩
    · show AOk (if j = s then (n, K, Z) else sl j)
      by_cases hjs : j = s
      · rw [if_pos hjs]; exact ga
      · rw [if_neg hjs]
        have hq' : (if j = s then true else sv j) = true := hq
        rw [if_neg hjs] at hq'
        exact gs j hj hq'
    · obtain ⟨a1, a2, ⟨q, b1, b2, b3⟩, a4, a5⟩ := hS
      have hsl := a4 s hs
      obtain ⟨S1, k1, k2, k3⟩ := copyRS (i := 59 + 2 * s) a1 (by omega)
      have r29 : RS (sA S1 5 s (nI 1)) 29 (n, K, Z) := (a1.keep k3 (by omega)).samev (fun b => rfl) (fun b => by rw [gA_sA, if_neg (by omega)])
      refine ⟨sA S1 5 s (nI 1), ?_, (Co.ofB k3 (by omega)).tr (Co.sA _ _ (by omega)), r29, (k3.1 _ _ (by omega)).trans a2, ⟨q, fun j hj => ?_, b2, fun j hj hj14 => ?_⟩, fun j hj => ?_, ?_⟩
      · unfold m_X5_save
        rw [checkSlot_ok, if_pos hv, bndP_l]
        simp (disch := omega) only [k_0, k_1, k_2, k_3, k_4, k_5, k_6, k_7, k_8, k_9, k_10, k_14, k_16, k_28, k_30, k_48, k_49, k_57, k_100, k_110, k_127, k_128, k_196, k_255, k_1000, k_1024, k_10000, nI_add, nI_mul, nI_div, irm_nI, nle, nlt, neq, gd_t, inb_nI, cl_nI, bnd_eq, gdT, gdo, gb0, gb1, gbi, bi0, bi1, bi0r, Option.bind_some, bndE_some, ite_t, ite_f, k_m9, k_m1, k_13, k_15, k_18, k_19, k_112, k_114, k_115, k_98, k_103, k_116, k_119, k_47, k_82, k_50, k_51, k_99, k_700, k_197, ne9, ne9s, nI_ne0s, ↓reduceIte, hsl.1, slot_isSt s hs, k1, nar_1n, countRights_ok r29]
      · rw [gQ_sA, k3.2.2.1]
        exact b1 j hj
      · have := b1 j hj14
        exact ((b3 j hj hj14).keep k3 (by omega)).samev (fun b => rfl) (fun b => by rw [gA_sA, if_neg (by omega)])
      · obtain ⟨c1, c2, c3⟩ := a4 j hj
        show gQ _ 4 j = _ ∧ gA _ 5 j = bi (if j = s then true else sv j) ∧ ((if j = s then true else sv j) = true → RS _ _ (if j = s then (n, K, Z) else sl j))
        rw [gQ_sA, k3.2.2.1, gA_sA, if_pos rfl]
        by_cases hjs : j = s
        · rw [if_pos hjs, if_pos hjs, if_pos hjs, hjs]
          refine ⟨by rw [← hjs]; exact c1, rfl, fun _ => k2.samev (fun b => rfl) (fun b => by rw [gA_sA, if_neg (by omega)])⟩
        · rw [if_neg hjs, if_neg hjs, if_neg hjs, k3.2.1 5 _ (by omega)]
          refine ⟨c1, c2, fun e => ((c3 e).keep k3 (by omega)).samev (fun b => rfl) (fun b => by rw [gA_sA, if_neg (by omega)])⟩
      · have := a5.sB k3 (by omega)
        exact ⟨this.1, this.2.1, fun j hj => ⟨by rw [gA_sA, if_neg (by omega)]; exact (this.2.2 j hj).1, (this.2.2 j hj).2⟩⟩
    · obtain ⟨a1, a2, a3, a4, a5⟩ := hT
      have hin : m_X6_in (nI s) (nI 0) (nI 1) = some (bi true) := by rw [in_T _ (by omega), hv]
      obtain ⟨U, k1, k2, k3⟩ := copy_loop (f := fun x : Int32 × Hs => m_X6_save_L36 (nI s) x.1 x.2) (S := sA (sI T 13 0 (nI 0)) 17 s (nI 1)) (c := 16) (p := s * 57) (a := 14) (s := 0) (N := 57) (by omega) (Or.inl (by omega)) (fun k W hk hW => by
        simp only [m_X6_save_L36]
        simp (disch := omega) only [k_0, k_1, k_2, k_3, k_4, k_5, k_6, k_7, k_8, k_9, k_10, k_14, k_16, k_28, k_30, k_48, k_49, k_57, k_100, k_110, k_127, k_128, k_196, k_255, k_1000, k_1024, k_10000, nI_add, nI_mul, nI_div, irm_nI, nle, nlt, neq, gd_t, inb_nI, cl_nI, bnd_eq, gdT, gdo, gb0, gb1, gbi, bi0, bi1, bi0r, Option.bind_some, bndE_some, ite_t, ite_f, k_m9, k_m1, k_13, k_15, k_18, k_19, k_112, k_114, k_115, k_98, k_103, k_116, k_119, k_47, k_82, k_50, k_51, k_99, k_700, k_197, ne9, ne9s, nI_ne0s, ↓reduceIte, Nat.zero_add]) (fun W hW => by
        simp only [m_X6_save_L36]
        simp (disch := omega) only [k_0, k_1, k_2, k_3, k_4, k_5, k_6, k_7, k_8, k_9, k_10, k_14, k_16, k_28, k_30, k_48, k_49, k_57, k_100, k_110, k_127, k_128, k_196, k_255, k_1000, k_1024, k_10000, nI_add, nI_mul, nI_div, irm_nI, nle, nlt, neq, gd_t, inb_nI, cl_nI, bnd_eq, gdT, gdo, gb0, gb1, gbi, bi0, bi1, bi0r, Option.bind_some, bndE_some, ite_t, ite_f, k_m9, k_m1, k_13, k_15, k_18, k_19, k_112, k_114, k_115, k_98, k_103, k_116, k_119, k_47, k_82, k_50, k_51, k_99, k_700, k_197, ne9, ne9s, nI_ne0s, ↓reduceIte])
      have hU : RepM U 14 0 n K Z := RepM.keep a1 fun b => by rw [k2.2.1 _ _ (by omega), gA_sA, if_neg (by omega), gA_sI]
      have hI : ∀ a b, ¬ (a = 13 ∧ b = 0) → gI U a b = gI T a b := fun a b q => by
        rw [k2.1, gI_sA, gI_sI]
        by_cases ha : a = 13
        · rw [if_pos ha, if_neg (fun e => q ⟨ha, e⟩)]
        · rw [if_neg ha]
      have hA : ∀ a b, a ≠ 16 → a ≠ 17 → gA U a b = gA T a b := fun a b q1 q2 => by rw [k2.2.1 _ _ q1, gA_sA, if_neg q2, gA_sI]
      refine ⟨nI (cnt Z), U, ?_, ((Mo.sI _ _).tr (Mo.sA _ _ (by omega))).tr (Mo.ofA k2 (by omega)), ⟨hU, (hI _ _ (by omega)).trans a2, fun j hj => (a3 j hj).keep fun b => hA _ _ (by omega) (by omega), fun j hj => ?_, a5.keep (hI _ _ (by omega)) fun b => hA _ _ (by omega) (by omega)⟩, (k2.1 _ _).trans (thr_eq T (nI 0)), rfl⟩
      · unfold m_X6_save m_X6_save_J15
        simp (disch := omega) only [k_0, k_1, k_2, k_3, k_4, k_5, k_6, k_7, k_8, k_9, k_10, k_14, k_16, k_28, k_30, k_48, k_49, k_57, k_100, k_110, k_127, k_128, k_196, k_255, k_1000, k_1024, k_10000, nI_add, nI_mul, nI_div, irm_nI, nle, nlt, neq, gd_t, inb_nI, cl_nI, bnd_eq, gdT, gdo, gb0, gb1, gbi, bi0, bi1, bi0r, Option.bind_some, bndE_some, ite_t, ite_f, k_m9, k_m1, k_13, k_15, k_18, k_19, k_112, k_114, k_115, k_98, k_103, k_116, k_119, k_47, k_82, k_50, k_51, k_99, k_700, k_197, ne9, ne9s, nI_ne0s, ↓reduceIte, hin, Bool.true_eq_false, thr_eq, le00, nar_1n]
        rw [k1]
        simp (disch := omega) only [k_0, k_1, k_2, k_3, k_4, k_5, k_6, k_7, k_8, k_9, k_10, k_14, k_16, k_28, k_30, k_48, k_49, k_57, k_100, k_110, k_127, k_128, k_196, k_255, k_1000, k_1024, k_10000, nI_add, nI_mul, nI_div, irm_nI, nle, nlt, neq, gd_t, inb_nI, cl_nI, bnd_eq, gdT, gdo, gb0, gb1, gbi, bi0, bi1, bi0r, Option.bind_some, bndE_some, ite_t, ite_f, k_m9, k_m1, k_13, k_15, k_18, k_19, k_112, k_114, k_115, k_98, k_103, k_116, k_119, k_47, k_82, k_50, k_51, k_99, k_700, k_197, ne9, ne9s, nI_ne0s, ↓reduceIte, rightsMany_ok hU]
      · obtain ⟨c1, c2⟩ := a4 j hj
        show gA U 17 j = bi (if j = s then true else sv j) ∧ ((if j = s then true else sv j) = true → RM U 16 (57 * j) (if j = s then (n, K, Z) else sl j))
        rw [k2.2.1 17 _ (by omega), gA_sA, if_pos rfl]
        by_cases hjs : j = s
        · rw [if_pos hjs, if_pos hjs, if_pos hjs, hjs]
          refine ⟨rfl, fun _ => RepM.copy a1 fun b hb => ?_⟩
          rw [k3, if_pos ⟨by omega, by omega⟩, gA_sA, if_neg (by omega), gA_sI]
          congr 1
          omega
        · rw [if_neg hjs, if_neg hjs, if_neg hjs, gA_sI]
          refine ⟨c1, fun e => RepM.copy (c2 e) fun b hb => ?_⟩
          rw [k3, if_neg (by omega), gA_sA, if_neg (by omega), gA_sI]
  · have hv2 := Bool.eq_false_iff.mpr hv
    refine ⟨.inr 3, _, ⟨ga, gr, gm, gs⟩, fun S hS => ⟨S, ?_, Co.rf S, hS⟩, fun T hT => ?_⟩
    · unfold m_X5_save
      rw [checkSlot_ok, if_neg hv, bndP_r]
    · obtain ⟨q1, q2⟩ := q_thr hT (nI 1)
      refine ⟨nI 0, _, ?_, q1, q2, thr_s _ _⟩
      have hin : m_X6_in v (nI 0) (nI 1) = some (bi false) := by rw [in_T _ (by omega), hv2]
      unfold m_X6_save m_X6_save_J15
      simp (disch := omega) only [k_0, k_1, k_2, k_3, k_4, k_5, k_6, k_7, k_8, k_9, k_10, k_14, k_16, k_28, k_30, k_48, k_49, k_57, k_100, k_110, k_127, k_128, k_196, k_255, k_1000, k_1024, k_10000, nI_add, nI_mul, nI_div, irm_nI, nle, nlt, neq, gd_t, inb_nI, cl_nI, bnd_eq, gdT, gdo, gb0, gb1, gbi, bi0, bi1, bi0r, Option.bind_some, bndE_some, ite_t, ite_f, k_m9, k_m1, k_13, k_15, k_18, k_19, k_112, k_114, k_115, k_98, k_103, k_116, k_119, k_47, k_82, k_50, k_51, k_99, k_700, k_197, ne9, ne9s, nI_ne0s, ↓reduceIte, hin, thr_eq, not10]
theorem restore_op (v : Int32) : OpOk (m_X5_restore v) (m_X6_restore v) c32 := by
  intro g hg
  obtain ⟨⟨n, K, Z⟩, r, mem, sv, sl, len, t⟩ := g
  obtain ⟨ga, gr, gm, gs⟩ := hg
  by_cases hv : isT 2 v = true
  · obtain ⟨s, hs, rfl⟩ := isT_iff.mp hv
    have hin : m_X6_in (nI s) (nI 0) (nI 1) = some (bi true) := by rw [in_T _ (by omega), hv]
    cases hsv : sv s
    · refine ⟨.inr 2, _, ⟨ga, gr, gm, gs⟩, fun S hS => ⟨S, ?_, Co.rf S, hS⟩, fun T hT => ?_⟩
      · have h5 : gA S 5 s = bi (sv s) := (hS.2.2.2.1 s hs).2.1
        rw [hsv] at h5
        unfold m_X5_restore
        rw [checkSlot_ok, if_pos hv, bndP_l]
        simp (disch := omega) only [k_0, k_1, k_2, k_3, k_4, k_5, k_6, k_7, k_8, k_9, k_10, k_14, k_16, k_28, k_30, k_48, k_49, k_57, k_100, k_110, k_127, k_128, k_196, k_255, k_1000, k_1024, k_10000, nI_add, nI_mul, nI_div, irm_nI, nle, nlt, neq, gd_t, inb_nI, cl_nI, bnd_eq, gdT, gdo, gb0, gb1, gbi, bi0, bi1, bi0r, Option.bind_some, bndE_some, ite_t, ite_f, k_m9, k_m1, k_13, k_15, k_18, k_19, k_112, k_114, k_115, k_98, k_103, k_116, k_119, k_47, k_82, k_50, k_51, k_99, k_700, k_197, ne9, ne9s, nI_ne0s, ↓reduceIte, h5]
      · obtain ⟨q1, q2⟩ := q_thr hT (nI 2)
        refine ⟨nI 0, _, ?_, q1, q2, thr_s _ _⟩
        have h17 : gA T 17 s = bi (sv s) := (hT.2.2.2.1 s hs).1
        rw [hsv] at h17
        unfold m_X6_restore m_X6_restore_J28
        simp (disch := omega) only [k_0, k_1, k_2, k_3, k_4, k_5, k_6, k_7, k_8, k_9, k_10, k_14, k_16, k_28, k_30, k_48, k_49, k_57, k_100, k_110, k_127, k_128, k_196, k_255, k_1000, k_1024, k_10000, nI_add, nI_mul, nI_div, irm_nI, nle, nlt, neq, gd_t, inb_nI, cl_nI, bnd_eq, gdT, gdo, gb0, gb1, gbi, bi0, bi1, bi0r, Option.bind_some, bndE_some, ite_t, ite_f, k_m9, k_m1, k_13, k_15, k_18, k_19, k_112, k_114, k_115, k_98, k_103, k_116, k_119, k_47, k_82, k_50, k_51, k_99, k_700, k_197, ne9, ne9s, nI_ne0s, ↓reduceIte, hin, Bool.true_eq_false, h17, thr_eq, not20]
    · have gsl : AOk (sl s) := gs s hs hsv
      refine ⟨.inl (nI (cnt (sl s).2.2)), (sl s, 0, mem, sv, sl, len, t), ⟨gsl, Nat.zero_le _, fun j hj => absurd hj (Nat.not_lt_zero j), gs⟩, fun S hS => ?_, fun T hT => ?_⟩
      · obtain ⟨c1, c2, c3⟩ := hS.2.2.2.1 s hs
        have c2' : gA S 5 s = bi (sv s) := c2
        rw [hsv] at c2'
        obtain ⟨S1, k1, k2, k3⟩ := copyRS (i := 29) (c3 hsv) (by omega)
        have hR := hS.take (r' := 0) (Or.inr rfl) k3 k2
        refine ⟨sI S1 0 3 (nI 0), ?_, (Co.ofB k3 (by omega)).tr (Co.sI _ _ (by omega)), hR⟩
        unfold m_X5_restore
        rw [checkSlot_ok, if_pos hv, bndP_l]
        simp (disch := omega) only [k_0, k_1, k_2, k_3, k_4, k_5, k_6, k_7, k_8, k_9, k_10, k_14, k_16, k_28, k_30, k_48, k_49, k_57, k_100, k_110, k_127, k_128, k_196, k_255, k_1000, k_1024, k_10000, nI_add, nI_mul, nI_div, irm_nI, nle, nlt, neq, gd_t, inb_nI, cl_nI, bnd_eq, gdT, gdo, gb0, gb1, gbi, bi0, bi1, bi0r, Option.bind_some, bndE_some, ite_t, ite_f, k_m9, k_m1, k_13, k_15, k_18, k_19, k_112, k_114, k_115, k_98, k_103, k_116, k_119, k_47, k_82, k_50, k_51, k_99, k_700, k_197, ne9, ne9s, nI_ne0s, ↓reduceIte, c2', Bool.true_eq_false, c1, slot_isSt s hs, k1, countRights_ok (show RepS (sI S1 0 3 (nI 0)) 29 (sl s).1 (sl s).2.1 (sl s).2.2 from hR.1)]
      · obtain ⟨c1, c2⟩ := hT.2.2.2.1 s hs
        have c1' : gA T 17 s = bi (sv s) := c1
        rw [hsv] at c1'
        obtain ⟨U, k1, k2, k3⟩ := copy_loop (f := fun x : Int32 × Hs => m_X6_restore_L42 (nI s) x.1 x.2) (S := sI T 13 0 (nI 0)) (c := 14) (p := 0) (a := 16) (s := s * 57) (N := 57) (by omega) (Or.inl (by omega)) (fun k W hk hW => by
          simp only [m_X6_restore_L42]
          simp (disch := omega) only [k_0, k_1, k_2, k_3, k_4, k_5, k_6, k_7, k_8, k_9, k_10, k_14, k_16, k_28, k_30, k_48, k_49, k_57, k_100, k_110, k_127, k_128, k_196, k_255, k_1000, k_1024, k_10000, nI_add, nI_mul, nI_div, irm_nI, nle, nlt, neq, gd_t, inb_nI, cl_nI, bnd_eq, gdT, gdo, gb0, gb1, gbi, bi0, bi1, bi0r, Option.bind_some, bndE_some, ite_t, ite_f, k_m9, k_m1, k_13, k_15, k_18, k_19, k_112, k_114, k_115, k_98, k_103, k_116, k_119, k_47, k_82, k_50, k_51, k_99, k_700, k_197, ne9, ne9s, nI_ne0s, ↓reduceIte, Nat.zero_add]) (fun W hW => by
          simp only [m_X6_restore_L42]
          simp (disch := omega) only [k_0, k_1, k_2, k_3, k_4, k_5, k_6, k_7, k_8, k_9, k_10, k_14, k_16, k_28, k_30, k_48, k_49, k_57, k_100, k_110, k_127, k_128, k_196, k_255, k_1000, k_1024, k_10000, nI_add, nI_mul, nI_div, irm_nI, nle, nlt, neq, gd_t, inb_nI, cl_nI, bnd_eq, gdT, gdo, gb0, gb1, gbi, bi0, bi1, bi0r, Option.bind_some, bndE_some, ite_t, ite_f, k_m9, k_m1, k_13, k_15, k_18, k_19, k_112, k_114, k_115, k_98, k_103, k_116, k_119, k_47, k_82, k_50, k_51, k_99, k_700, k_197, ne9, ne9s, nI_ne0s, ↓reduceIte])
        have hcur : RM U 14 0 (sl s) := RepM.copy (c2 hsv) fun b hb => by
          rw [k3, if_pos ⟨by omega, by omega⟩, gA_sI]
          congr 1
          omega
        have hR := (hT.thr (nI 0)).take (r' := 0) (Or.inr rfl) k2 hcur
        refine ⟨_, sI U 13 3 (nI 0), ?_, ((Mo.sI _ _).tr (Mo.ofA k2 (by omega))).tr (Mo.sI _ _), hR, by rw [gI_sI, if_pos rfl, if_neg (by omega), k2.1]; exact thr_eq T (nI 0), rfl⟩
        unfold m_X6_restore m_X6_restore_J28
        simp (disch := omega) only [k_0, k_1, k_2, k_3, k_4, k_5, k_6, k_7, k_8, k_9, k_10, k_14, k_16, k_28, k_30, k_48, k_49, k_57, k_100, k_110, k_127, k_128, k_196, k_255, k_1000, k_1024, k_10000, nI_add, nI_mul, nI_div, irm_nI, nle, nlt, neq, gd_t, inb_nI, cl_nI, bnd_eq, gdT, gdo, gb0, gb1, gbi, bi0, bi1, bi0r, Option.bind_some, bndE_some, ite_t, ite_f, k_m9, k_m1, k_13, k_15, k_18, k_19, k_112, k_114, k_115, k_98, k_103, k_116, k_119, k_47, k_82, k_50, k_51, k_99, k_700, k_197, ne9, ne9s, nI_ne0s, ↓reduceIte, hin, Bool.true_eq_false, c1', thr_eq, le00]
        rw [k1]
        simp (disch := omega) only [k_0, k_1, k_2, k_3, k_4, k_5, k_6, k_7, k_8, k_9, k_10, k_14, k_16, k_28, k_30, k_48, k_49, k_57, k_100, k_110, k_127, k_128, k_196, k_255, k_1000, k_1024, k_10000, nI_add, nI_mul, nI_div, irm_nI, nle, nlt, neq, gd_t, inb_nI, cl_nI, bnd_eq, gdT, gdo, gb0, gb1, gbi, bi0, bi1, bi0r, Option.bind_some, bndE_some, ite_t, ite_f, k_m9, k_m1, k_13, k_15, k_18, k_19, k_112, k_114, k_115, k_98, k_103, k_116, k_119, k_47, k_82, k_50, k_51, k_99, k_700, k_197, ne9, ne9s, nI_ne0s, ↓reduceIte, rightsMany_ok (show RepM (sI U 13 3 (nI 0)) 14 0 (sl s).1 (sl s).2.1 (sl s).2.2 from hR.1)]
  · have hv2 := Bool.eq_false_iff.mpr hv
    refine ⟨.inr 3, _, ⟨ga, gr, gm, gs⟩, fun S hS => ⟨S, ?_, Co.rf S, hS⟩, fun T hT => ?_⟩
    · unfold m_X5_restore
      rw [checkSlot_ok, if_neg hv, bndP_r]
    · obtain ⟨q1, q2⟩ := q_thr hT (nI 1)
      refine ⟨nI 0, _, ?_, q1, q2, thr_s _ _⟩
      have hin : m_X6_in v (nI 0) (nI 1) = some (bi false) := by rw [in_T _ (by omega), hv2]
      unfold m_X6_restore m_X6_restore_J28
      simp (disch := omega) only [k_0, k_1, k_2, k_3, k_4, k_5, k_6, k_7, k_8, k_9, k_10, k_14, k_16, k_28, k_30, k_48, k_49, k_57, k_100, k_110, k_127, k_128, k_196, k_255, k_1000, k_1024, k_10000, nI_add, nI_mul, nI_div, irm_nI, nle, nlt, neq, gd_t, inb_nI, cl_nI, bnd_eq, gdT, gdo, gb0, gb1, gbi, bi0, bi1, bi0r, Option.bind_some, bndE_some, ite_t, ite_f, k_m9, k_m1, k_13, k_15, k_18, k_19, k_112, k_114, k_115, k_98, k_103, k_116, k_119, k_47, k_82, k_50, k_51, k_99, k_700, k_197, ne9, ne9s, nI_ne0s, ↓reduceIte, hin, thr_eq, not10]
