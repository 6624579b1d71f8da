/-! what is remembered, undo, the slots, the text's calls -/
def rmR (r : Nat) : Nat := if r < 14 then r + 1 else 14
def rmM (r : Nat) (mem : Nat → Ab) (c : Ab) : Nat → Ab := if r < 14 then fun j => if j = r then c else mem j else fun j => if j = 13 then c else mem (j + 1)
theorem isSt_mem {q : Nat} (h1 : 31 ≤ q) (h2 : q ≤ 57) (h3 : q % 2 = 1) : isSt q = true := by
  unfold isSt
  rw [decide_eq_true (show 29 ≤ q by omega), decide_eq_true (show q < 73 by omega), decide_eq_true h3]
  rfl
theorem copyRS {S : Hs} {i o : Nat} {a : Ab} (h : RS S o a) (hne : i ≠ o) : ∃ S', m_X3_copyFrom i o S = some S' ∧ RS S' i a ∧ SameB i S S' := copyFrom_ok h hne
/-- but for one State object all stays, and the class's relation too -/
theorem CRel.cur {S T : Hs} {c : Ab} {r : Nat} {mem : Nat → Ab} {sv : Nat → Bool} {sl : Nat → Ab} {len : Nat} {t : Nat → Nat} (h : CRel S (c, r, mem, sv, sl, len, t)) (hs : SameB 29 S T) {c' : Ab} (hc : RS T 29 c') : CRel T (c', r, mem, sv, sl, len, t) := by
  obtain ⟨a1, a2, ⟨q, b1, b2, b3⟩, a4, a5⟩ := h
  refine ⟨hc, (hs.1 _ _ (by omega)).trans a2, ⟨q, fun j hj => ?_, b2, fun j hj hj14 => ?_⟩, fun j hj => ?_, a5.sB hs (by omega)⟩
  · rw [hs.2.2.1]
    exact b1 j hj
  · have := b1 j hj14
    exact (b3 j hj hj14).keep hs (by omega)
  · obtain ⟨c1, c2, c3⟩ := a4 j hj
    rw [hs.2.2.1, hs.2.1 5 _ (by omega)]
    exact ⟨c1, c2, fun e => (c3 e).keep hs (by omega)⟩
theorem rem13_ok {S : Hs} {c : Ab} {r : Nat} {mem : Nat → Ab} {sv : Nat → Bool} {sl : Nat → Ab} {len : Nat} {t : Nat → Nat} (h : CRel S (c, r, mem, sv, sl, len, t)) (hr : r < 14) : ∃ S', m_X5_remember_J13 S = some S' ∧ Co S S' ∧ CRel S' (c, r + 1, fun j => if j = r then c else mem j, sv, sl, len, t) := by
  obtain ⟨a1, a2, ⟨q, b1, b2, b3⟩, a4, a5⟩ := h
  have hq := b1 r hr
  have a2' : gI S 0 3 = nI r := a2
  obtain ⟨S1, k1, k2, k3⟩ := copyRS (i := q r) a1 (by omega)
  have g1 : gI S1 0 3 = nI r := (k3.1 _ _ (by omega)).trans a2'
  refine ⟨sI S1 0 3 (nI (r + 1)), ?_, (Co.ofB k3 (by omega)).tr (Co.sI _ _ (by omega)), ?_⟩
  · unfold m_X5_remember_J13
    simp (disch := omega) only [k_0, k_1, k_2, k_3, k_4, k_5, k_6, k_7, k_8, k_9, k_10, k_14, k_16, k_28, k_30, k_48, k_49, k_57, k_100, k_110, k_127, k_128, k_196, k_255, k_1000, k_1024, k_10000, nI_add, nI_mul, nI_div, irm_nI, nle, nlt, neq, gd_t, inb_nI, cl_nI, bnd_eq, gdT, gdo, gb0, gb1, gbi, bi0, bi1, bi0r, Option.bind_some, bndE_some, ite_t, ite_f, k_m9, k_m1, k_13, k_15, k_18, k_19, k_112, k_114, k_115, k_98, k_103, k_116, k_119, k_47, k_82, k_50, k_51, k_99, k_700, k_197, ne9, ne9s, nI_ne0s, ↓reduceIte, a2', hq.1, isSt_mem hq.2.1 hq.2.2.1 hq.2.2.2, k1, g1]
  · have hS : CRel S1 (c, r, mem, sv, sl, len, t) → False → False := fun _ q => q
    refine ⟨(a1.keep k3 (by omega)).samev (fun b => by rw [gI_sI, if_neg (by omega)]) (fun b => rfl), by rw [gI_sI, if_pos rfl, if_pos rfl], ⟨q, fun j hj => ?_, b2, fun j hj hj14 => ?_⟩, fun j hj => ?_, ?_⟩
    · rw [gQ_sI, k3.2.2.1]
      exact b1 j hj
    · have hj2 := b1 j hj14
      by_cases hjr : j = r
      · show RS _ (q j) (if j = r then c else mem j)
        rw [if_pos hjr, hjr]
        exact k2.samev (fun b => by rw [gI_sI, if_neg (by omega)]) (fun b => rfl)
      · show RS _ (q j) (if j = r then c else mem j)
        rw [if_neg hjr]
        have hjl : j < r := by
          have : j < r + 1 := hj
          omega
        exact ((b3 j hjl hj14).keep k3 (fun e => hjr (b2 j r hj14 hr e))).samev (fun b => by rw [gI_sI, if_neg (by omega)]) (fun b => rfl)
    · obtain ⟨c1, c2, c3⟩ := a4 j hj
      rw [gQ_sI, k3.2.2.1, gA_sI, k3.2.1 5 _ (by omega)]
      exact ⟨c1, c2, fun e => ((c3 e).keep k3 (by omega)).samev (fun b => by rw [gI_sI, if_neg (by omega)]) (fun b => rfl)⟩
    · have := a5.sB k3 (by omega)
      exact ⟨(by rw [gI_sI, if_neg (by omega)]; exact this.1), this.2⟩
theorem forget_ok {S : Hs} {c : Ab} {mem : Nat → Ab} {sv : Nat → Bool} {sl : Nat → Ab} {len : Nat} {t : Nat → Nat} (h : CRel S (c, 14, mem, sv, sl, len, t)) : ∃ S', m_X5_forgetOldest S = some S' ∧ Co S S' ∧ CRel S' (c, 13, fun j => mem (j + 1), sv, sl, len, t) := by
  obtain ⟨a1, a2, ⟨q, b1, b2, b3⟩, a4, a5⟩ := h
  have hst : ∀ j, j < 14 → isSt (q j) = true := fun j hj => isSt_mem (b1 j hj).2.1 (b1 j hj).2.2.1 (b1 j hj).2.2.2
  obtain ⟨S1, k1, k2, k3, k4, k5⟩ := loopO_inv (f := fun x : Int32 × Hs => m_X5_forgetOldest_L9 (q 0) x.1 x.2) (fun i x => i ≤ 13 ∧ x.1 = nI (1 + i) ∧ (∀ a b, gI x.2 a b = gI S a b) ∧ (∀ a b, gA x.2 a b = gA S a b) ∧ (∀ b, gO x.2 b = gO S b) ∧ ∀ a b, gQ x.2 a b = if a = 3 ∧ b < i then gQ S 3 (b + 1) else gQ S a b) (fun U => (∀ a b, gI U a b = gI S a b) ∧ (∀ a b, gA U a b = gA S a b) ∧ (∀ b, gO U b = gO S b) ∧ ∀ a b, gQ U a b = if a = 3 ∧ b < 13 then gQ S 3 (b + 1) else gQ S a b) 14 (fun i x hx => by
    obtain ⟨v, U⟩ := x
    obtain ⟨hi, hv, c1, c2, c3, c4⟩ := hx
    simp only at hv c1 c2 c3 c4
    subst hv
    by_cases hi13 : i < 13
    · have hq : gQ U 3 (1 + i) = q (1 + i) := by
        rw [c4, if_neg (by omega)]
        exact (b1 (1 + i) (by omega)).1
      have hm : nI (1 + i) - nI 1 = nI i := by
        rw [nI_sub (by omega)]
        congr 1
        omega
      refine Or.inl ⟨by omega, (nI (1 + (i + 1)), sQ U 3 i (q (1 + i))), ?_, by omega, rfl, c1, c2, c3, fun a b => ?_⟩
      · simp only [m_X5_forgetOldest_L9]
        simp (disch := omega) only [k_0, k_1, k_2, k_3, k_4, k_5, k_6, k_7, k_8, k_9, k_10, k_14, k_16, k_28, k_30, k_48, k_49, k_57, k_100, k_110, k_127, k_128, k_196, k_255, k_1000, k_1024, k_10000, nI_add, nI_mul, nI_div, irm_nI, nle, nlt, neq, gd_t, inb_nI, cl_nI, bnd_eq, gdT, gdo, gb0, gb1, gbi, bi0, bi1, bi0r, Option.bind_some, bndE_some, ite_t, ite_f, k_m9, k_m1, k_13, k_15, k_18, k_19, k_112, k_114, k_115, k_98, k_103, k_116, k_119, k_47, k_82, k_50, k_51, k_99, k_700, k_197, ne9, ne9s, nI_ne0s, ↓reduceIte, hq, hst (1 + i) (by omega), hm]
        rfl
      · show gQ (sQ U 3 i (q (1 + i))) a b = _
        rw [gQ_sQ]
        by_cases ha : a = 3
        · subst ha
          rw [if_pos rfl]
          by_cases hb : b = i
          · subst hb
            rw [if_pos rfl, if_pos ⟨rfl, by omega⟩, Nat.add_comm b 1]
            exact ((b1 (1 + b) (by omega)).1).symm
          · rw [if_neg hb, c4]
            exact ite_cg (show (3 = 3 ∧ b < i) ↔ (3 = 3 ∧ b < i + 1) by omega) _ _
        · rw [if_neg ha, c4, if_neg (by omega), if_neg (by omega)]
    · obtain rfl : i = 13 := by omega
      refine Or.inr ⟨U, ?_, c1, c2, c3, c4⟩
      simp only [m_X5_forgetOldest_L9]
      simp (disch := omega) only [k_0, k_1, k_2, k_3, k_4, k_5, k_6, k_7, k_8, k_9, k_10, k_14, k_16, k_28, k_30, k_48, k_49, k_57, k_100, k_110, k_127, k_128, k_196, k_255, k_1000, k_1024, k_10000, nI_add, nI_mul, nI_div, irm_nI, nle, nlt, neq, gd_t, inb_nI, cl_nI, bnd_eq, gdT, gdo, gb0, gb1, gbi, bi0, bi1, bi0r, Option.bind_some, bndE_some, ite_t, ite_f, k_m9, k_m1, k_13, k_15, k_18, k_19, k_112, k_114, k_115, k_98, k_103, k_116, k_119, k_47, k_82, k_50, k_51, k_99, k_700, k_197, ne9, ne9s, nI_ne0s, ↓reduceIte]) (x := (nI 1, S)) ⟨by omega, rfl, fun _ _ => rfl, fun _ _ => rfl, fun _ => rfl, fun a b => by rw [if_neg (by omega)]⟩
  have a2' : gI S 0 3 = nI 14 := a2
  have h13 : (13 : Int32).toNatClampNeg = 13 := by decide +kernel
  have g0 : gI (sQ S1 3 13 (q 0)) 0 3 = nI 14 := (k2 0 3).trans a2'
  refine ⟨sI (sQ S1 3 13 (q 0)) 0 3 (nI 13), ?_, ?_, ?_⟩
  · have hm : nI 14 - nI 1 = nI 13 := nI_sub (by omega)
    unfold m_X5_forgetOldest
    simp (disch := omega) only [k_0, k_1, k_2, k_3, k_4, k_5, k_6, k_7, k_8, k_9, k_10, k_14, k_16, k_28, k_30, k_48, k_49, k_57, k_100, k_110, k_127, k_128, k_196, k_255, k_1000, k_1024, k_10000, nI_add, nI_mul, nI_div, irm_nI, nle, nlt, neq, gd_t, inb_nI, cl_nI, bnd_eq, gdT, gdo, gb0, gb1, gbi, bi0, bi1, bi0r, Option.bind_some, bndE_some, ite_t, ite_f, k_m9, k_m1, k_13, k_15, k_18, k_19, k_112, k_114, k_115, k_98, k_103, k_116, k_119, k_47, k_82, k_50, k_51, k_99, k_700, k_197, ne9, ne9s, nI_ne0s, ↓reduceIte, (b1 0 (by omega)).1, hst 0 (by omega)]
    rw [k1]
    simp (disch := omega) only [k_0, k_1, k_2, k_3, k_4, k_5, k_6, k_7, k_8, k_9, k_10, k_14, k_16, k_28, k_30, k_48, k_49, k_57, k_100, k_110, k_127, k_128, k_196, k_255, k_1000, k_1024, k_10000, nI_add, nI_mul, nI_div, irm_nI, nle, nlt, neq, gd_t, inb_nI, cl_nI, bnd_eq, gdT, gdo, gb0, gb1, gbi, bi0, bi1, bi0r, Option.bind_some, bndE_some, ite_t, ite_f, k_m9, k_m1, k_13, k_15, k_18, k_19, k_112, k_114, k_115, k_98, k_103, k_116, k_119, k_47, k_82, k_50, k_51, k_99, k_700, k_197, ne9, ne9s, nI_ne0s, ↓reduceIte, hst 0 (by omega), g0, hm]
  · exact ⟨fun b => by rw [gI_sI, if_neg (by omega)]; exact k2 _ _, fun a b _ _ => k3 _ _, fun b => k4 b⟩
  · have hI : ∀ a b, ¬ (a = 0) → gI (sI (sQ S1 3 13 (q 0)) 0 3 (nI 13)) a b = gI S a b := fun a b ha => by
      rw [gI_sI, if_neg ha]
      exact k2 _ _
    have hA : ∀ a b, gA (sI (sQ S1 3 13 (q 0)) 0 3 (nI 13)) a b = gA S a b := fun a b => k3 a b
    have hQ : ∀ j, j < 14 → gQ (sI (sQ S1 3 13 (q 0)) 0 3 (nI 13)) 3 j = if j = 13 then q 0 else q (j + 1) := fun j hj => by
      rw [gQ_sI, gQ_sQ, if_pos rfl]
      by_cases hj13 : j = 13
      · rw [if_pos hj13, if_pos hj13]
      · rw [if_neg hj13, if_neg hj13, k5, if_pos ⟨rfl, by omega⟩]
        exact (b1 (j + 1) (by omega)).1
    refine ⟨a1.samev (fun b => hI _ _ (by omega)) (fun b => hA _ _), by rw [gI_sI, if_pos rfl, if_pos rfl], ⟨fun j => if j = 13 then q 0 else q (j + 1), fun j hj => ⟨hQ j hj, ?_⟩, fun i j hi hj e => ?_, fun j hj hj14 => ?_⟩, fun j hj => ?_, ?_⟩
    · dsimp only
      by_cases hj13 : j = 13
      · rw [if_pos hj13]; exact (b1 0 (by omega)).2
      · rw [if_neg hj13]; exact (b1 (j + 1) (by omega)).2
    · dsimp only at e
      by_cases hi13 : i = 13 <;> by_cases hj13 : j = 13
      · omega
      · rw [if_pos hi13, if_neg hj13] at e
        have := b2 _ _ (by omega) (by omega) e
        omega
      · rw [if_neg hi13, if_pos hj13] at e
        have := b2 _ _ (by omega) (by omega) e
        omega
      · rw [if_neg hi13, if_neg hj13] at e
        have := b2 _ _ (by omega) (by omega) e
        omega
    · have hj13 : ¬ j = 13 := by
        have : j < 13 := hj
        omega
      show RS _ (if j = 13 then q 0 else q (j + 1)) (mem (j + 1))
      rw [if_neg hj13]
      have := b1 (j + 1) (by omega)
      exact (b3 (j + 1) (show j + 1 < 14 by omega) (by omega)).samev (fun b => hI _ _ (by omega)) (fun b => hA _ _)
    · obtain ⟨c1, c2, c3⟩ := a4 j hj
      rw [gQ_sI, gQ_sQ, if_neg (by omega), k5, if_neg (by omega), hA]
      exact ⟨c1, c2, fun e => (c3 e).samev (fun b => hI _ _ (by omega)) (fun b => hA _ _)⟩
    · exact ⟨(hI _ _ (by omega)).trans a5.1, a5.2.1, fun j hj => ⟨(hA _ _).trans (a5.2.2 j hj).1, (a5.2.2 j hj).2⟩⟩
theorem remember_ok {S : Hs} {c : Ab} {r : Nat} {mem : Nat → Ab} {sv : Nat → Bool} {sl : Nat → Ab} {len : Nat} {t : Nat → Nat} (h : CRel S (c, r, mem, sv, sl, len, t)) (hr : r ≤ 14) : ∃ S', m_X5_remember S = some S' ∧ Co S S' ∧ CRel S' (c, rmR r, rmM r mem c, sv, sl, len, t) := by
  have a2 : gI S 0 3 = nI r := h.2.1
  unfold m_X5_remember rmR rmM
  by_cases h14 : r < 14
  · obtain ⟨S', k1, k2, k3⟩ := rem13_ok h h14
    rw [if_pos h14, if_pos h14]
    refine ⟨S', ?_, k2, k3⟩
    simp (disch := omega) only [k_0, k_1, k_2, k_3, k_4, k_5, k_6, k_7, k_8, k_9, k_10, k_14, k_16, k_28, k_30, k_48, k_49, k_57, k_100, k_110, k_127, k_128, k_196, k_255, k_1000, k_1024, k_10000, nI_add, nI_mul, nI_div, irm_nI, nle, nlt, neq, gd_t, inb_nI, cl_nI, bnd_eq, gdT, gdo, gb0, gb1, gbi, bi0, bi1, bi0r, Option.bind_some, bndE_some, ite_t, ite_f, k_m9, k_m1, k_13, k_15, k_18, k_19, k_112, k_114, k_115, k_98, k_103, k_116, k_119, k_47, k_82, k_50, k_51, k_99, k_700, k_197, ne9, ne9s, nI_ne0s, ↓reduceIte, a2, k1]
  · obtain rfl : r = 14 := by omega
    obtain ⟨S1, l1, l2, l3⟩ := forget_ok h
    obtain ⟨S', k1, k2, k3⟩ := rem13_ok l3 (by omega)
    rw [if_neg h14, if_neg h14]
    refine ⟨S', ?_, l2.tr k2, k3⟩
    simp (disch := omega) only [k_0, k_1, k_2, k_3, k_4, k_5, k_6, k_7, k_8, k_9, k_10, k_14, k_16, k_28, k_30, k_48, k_49, k_57, k_100, k_110, k_127, k_128, k_196, k_255, k_1000, k_1024, k_10000, nI_add, nI_mul, nI_div, irm_nI, nle, nlt, neq, gd_t, inb_nI, cl_nI, bnd_eq, gdT, gdo, gb0, gb1, gbi, bi0, bi1, bi0r, Option.bind_some, bndE_some, ite_t, ite_f, k_m9, k_m1, k_13, k_15, k_18, k_19, k_112, k_114, k_115, k_98, k_103, k_116, k_119, k_47, k_82, k_50, k_51, k_99, k_700, k_197, ne9, ne9s, nI_ne0s, ↓reduceIte, a2, l1, k1]
/-- the model -/
theorem mrem49_ok {S : Hs} {c : Ab} {r : Nat} {mem : Nat → Ab} {sv : Nat → Bool} {sl : Nat → Ab} {len : Nat} {t : Nat → Nat} (h : MRel S (c, r, mem, sv, sl, len, t)) (hr : r < 14) : ∃ S', m_X6_remember_J49 S = some S' ∧ Mo S S' ∧ gI S' 13 0 = gI S 13 0 ∧ MRel S' (c, r + 1, fun j => if j = r then c else mem j, sv, sl, len, t) := by
  obtain ⟨a1, a2, a3, a4, a5⟩ := h
  have a2' : gI S 13 3 = nI r := a2
  obtain ⟨T, k1, k2, k3⟩ := copy_loop (f := fun x : Int32 × Hs => m_X6_remember_L51 x.1 x.2) (S := S) (c := 15) (p := r * 57) (a := 14) (s := 0) (N := 57) (by omega) (Or.inl (by omega)) (fun k U hk hU => by
    simp only [m_X6_remember_L51]
    simp (disch := omega) only [k_0, k_1, k_2, k_3, k_4, k_5, k_6, k_7, k_8, k_9, k_10, k_14, k_16, k_28, k_30, k_48, k_49, k_57, k_100, k_110, k_127, k_128, k_196, k_255, k_1000, k_1024, k_10000, nI_add, nI_mul, nI_div, irm_nI, nle, nlt, neq, gd_t, inb_nI, cl_nI, bnd_eq, gdT, gdo, gb0, gb1, gbi, bi0, bi1, bi0r, Option.bind_some, bndE_some, ite_t, ite_f, k_m9, k_m1, k_13, k_15, k_18, k_19, k_112, k_114, k_115, k_98, k_103, k_116, k_119, k_47, k_82, k_50, k_51, k_99, k_700, k_197, ne9, ne9s, nI_ne0s, ↓reduceIte, hU.1 13 3, a2', Nat.zero_add]) (fun U hU => by
    simp only [m_X6_remember_L51]
    simp (disch := omega) only [k_0, k_1, k_2, k_3, k_4, k_5, k_6, k_7, k_8, k_9, k_10, k_14, k_16, k_28, k_30, k_48, k_49, k_57, k_100, k_110, k_127, k_128, k_196, k_255, k_1000, k_1024, k_10000, nI_add, nI_mul, nI_div, irm_nI, nle, nlt, neq, gd_t, inb_nI, cl_nI, bnd_eq, gdT, gdo, gb0, gb1, gbi, bi0, bi1, bi0r, Option.bind_some, bndE_some, ite_t, ite_f, k_m9, k_m1, k_13, k_15, k_18, k_19, k_112, k_114, k_115, k_98, k_103, k_116, k_119, k_47, k_82, k_50, k_51, k_99, k_700, k_197, ne9, ne9s, nI_ne0s, ↓reduceIte])
  have g3 : gI T 13 3 = nI r := (k2.1 _ _).trans a2'
  refine ⟨sI T 13 3 (nI (r + 1)), ?_, (Mo.ofA k2 (by omega)).tr (Mo.sI _ _), by rw [gI_sI, if_pos rfl, if_neg (by omega), k2.1], ?_⟩
  · unfold m_X6_remember_J49
    simp (disch := omega) only [k_0, k_1, k_2, k_3, k_4, k_5, k_6, k_7, k_8, k_9, k_10, k_14, k_16, k_28, k_30, k_48, k_49, k_57, k_100, k_110, k_127, k_128, k_196, k_255, k_1000, k_1024, k_10000, nI_add, nI_mul, nI_div, irm_nI, nle, nlt, neq, gd_t, inb_nI, cl_nI, bnd_eq, gdT, gdo, gb0, gb1, gbi, bi0, bi1, bi0r, Option.bind_some, bndE_some, ite_t, ite_f, k_m9, k_m1, k_13, k_15, k_18, k_19, k_112, k_114, k_115, k_98, k_103, k_116, k_119, k_47, k_82, k_50, k_51, k_99, k_700, k_197, ne9, ne9s, nI_ne0s, ↓reduceIte]
    rw [k1]
    simp (disch := omega) only [k_0, k_1, k_2, k_3, k_4, k_5, k_6, k_7, k_8, k_9, k_10, k_14, k_16, k_28, k_30, k_48, k_49, k_57, k_100, k_110, k_127, k_128, k_196, k_255, k_1000, k_1024, k_10000, nI_add, nI_mul, nI_div, irm_nI, nle, nlt, neq, gd_t, inb_nI, cl_nI, bnd_eq, gdT, gdo, gb0, gb1, gbi, bi0, bi1, bi0r, Option.bind_some, bndE_some, ite_t, ite_f, k_m9, k_m1, k_13, k_15, k_18, k_19, k_112, k_114, k_115, k_98, k_103, k_116, k_119, k_47, k_82, k_50, k_51, k_99, k_700, k_197, ne9, ne9s, nI_ne0s, ↓reduceIte, g3]
  · refine ⟨a1.keep fun j => k2.2.1 _ _ (by omega), by rw [gI_sI, if_pos rfl, if_pos rfl], fun j hj => ?_, fun j hj => ?_, a5.keep (by rw [gI_sI, if_pos rfl, if_neg (by omega), k2.1]) fun j => k2.2.1 _ _ (by omega)⟩
    · show RM _ 15 (57 * j) (if j = r then c else mem j)
      by_cases hjr : j = r
      · rw [if_pos hjr, hjr]
        refine RepM.copy a1 fun b hb => ?_
        rw [gA_sI, k3, if_pos ⟨by omega, by omega⟩]
        congr 1
        omega
      · rw [if_neg hjr]
        have hjl : j < r := by
          have : j < r + 1 := hj
          omega
        refine RepM.copy (a3 j hjl) fun b hb => ?_
        rw [gA_sI, k3, if_neg (by omega)]
    · obtain ⟨c1, c2⟩ := a4 j hj
      rw [gA_sI, k2.2.1 17 _ (by omega)]
      exact ⟨c1, fun e => (c2 e).keep fun b => k2.2.1 _ _ (by omega)⟩
theorem mforget_ok {S : Hs} {c : Ab} {mem : Nat → Ab} {sv : Nat → Bool} {sl : Nat → Ab} {len : Nat} {t : Nat → Nat} (h : MRel S (c, 14, mem, sv, sl, len, t)) : ∃ T, loopO (fun x => m_X6_remember_L11 x.1 x.2) (nI 0, S) = some T ∧ gI T 13 3 = nI 14 ∧ Mo S (sI T 13 3 (nI 13)) ∧ gI (sI T 13 3 (nI 13)) 13 0 = gI S 13 0 ∧ MRel (sI T 13 3 (nI 13)) (c, 13, fun j => mem (j + 1), sv, sl, len, t) := by
  obtain ⟨a1, a2, a3, a4, a5⟩ := h
  have a2' : gI S 13 3 = nI 14 := a2
  have h741 : (741 : Int32) = nI 741 := rfl
  obtain ⟨T, k1, k2, k3⟩ := copy_loop (f := fun x : Int32 × Hs => m_X6_remember_L11 x.1 x.2) (S := S) (c := 15) (p := 0) (a := 15) (s := 57) (N := 741) (by omega) (Or.inr (by omega)) (fun k U hk hU => by
    simp only [m_X6_remember_L11]
    simp (disch := omega) only [k_0, k_1, k_2, k_3, k_4, k_5, k_6, k_7, k_8, k_9, k_10, k_14, k_16, k_28, k_30, k_48, k_49, k_57, k_100, k_110, k_127, k_128, k_196, k_255, k_1000, k_1024, k_10000, nI_add, nI_mul, nI_div, irm_nI, nle, nlt, neq, gd_t, inb_nI, cl_nI, bnd_eq, gdT, gdo, gb0, gb1, gbi, bi0, bi1, bi0r, Option.bind_some, bndE_some, ite_t, ite_f, k_m9, k_m1, k_13, k_15, k_18, k_19, k_112, k_114, k_115, k_98, k_103, k_116, k_119, k_47, k_82, k_50, k_51, k_99, k_700, k_197, ne9, ne9s, nI_ne0s, ↓reduceIte, h741, Nat.zero_add, Nat.add_comm 57 k]) (fun U hU => by
    simp only [m_X6_remember_L11]
    simp (disch := omega) only [k_0, k_1, k_2, k_3, k_4, k_5, k_6, k_7, k_8, k_9, k_10, k_14, k_16, k_28, k_30, k_48, k_49, k_57, k_100, k_110, k_127, k_128, k_196, k_255, k_1000, k_1024, k_10000, nI_add, nI_mul, nI_div, irm_nI, nle, nlt, neq, gd_t, inb_nI, cl_nI, bnd_eq, gdT, gdo, gb0, gb1, gbi, bi0, bi1, bi0r, Option.bind_some, bndE_some, ite_t, ite_f, k_m9, k_m1, k_13, k_15, k_18, k_19, k_112, k_114, k_115, k_98, k_103, k_116, k_119, k_47, k_82, k_50, k_51, k_99, k_700, k_197, ne9, ne9s, nI_ne0s, ↓reduceIte, h741])
  refine ⟨T, k1, (k2.1 _ _).trans a2', (Mo.ofA k2 (by omega)).tr (Mo.sI _ _), by rw [gI_sI, if_pos rfl, if_neg (by omega), k2.1], ?_⟩
  refine ⟨a1.keep fun j => k2.2.1 _ _ (by omega), by rw [gI_sI, if_pos rfl, if_pos rfl], fun j hj => ?_, fun j hj => ?_, a5.keep (by rw [gI_sI, if_pos rfl, if_neg (by omega), k2.1]) fun j => k2.2.1 _ _ (by omega)⟩
  · have hj13 : j < 13 := hj
    show RM _ 15 (57 * j) (mem (j + 1))
    refine RepM.copy (a3 (j + 1) (show j + 1 < 14 by omega)) fun b hb => ?_
    rw [gA_sI, k3, if_pos ⟨by omega, by omega⟩]
    congr 1
    omega
  · obtain ⟨c1, c2⟩ := a4 j hj
    rw [gA_sI, k2.2.1 17 _ (by omega)]
    exact ⟨c1, fun e => (c2 e).keep fun b => k2.2.1 _ _ (by omega)⟩
theorem mremember_ok {S : Hs} {c : Ab} {r : Nat} {mem : Nat → Ab} {sv : Nat → Bool} {sl : Nat → Ab} {len : Nat} {t : Nat → Nat} (h : MRel S (c, r, mem, sv, sl, len, t)) (hr : r ≤ 14) : ∃ S', m_X6_remember S = some S' ∧ Mo S S' ∧ gI S' 13 0 = gI S 13 0 ∧ MRel S' (c, rmR r, rmM r mem c, sv, sl, len, t) := by
  have a2 : gI S 13 3 = nI r := h.2.1
  unfold m_X6_remember rmR rmM
  by_cases h14 : r < 14
  · obtain ⟨S', k1, k2, k3, k4⟩ := mrem49_ok h h14
    rw [if_pos h14, if_pos h14]
    refine ⟨S', ?_, k2, k3, k4⟩
    simp (disch := omega) only [k_0, k_1, k_2, k_3, k_4, k_5, k_6, k_7, k_8, k_9, k_10, k_14, k_16, k_28, k_30, k_48, k_49, k_57, k_100, k_110, k_127, k_128, k_196, k_255, k_1000, k_1024, k_10000, nI_add, nI_mul, nI_div, irm_nI, nle, nlt, neq, gd_t, inb_nI, cl_nI, bnd_eq, gdT, gdo, gb0, gb1, gbi, bi0, bi1, bi0r, Option.bind_some, bndE_some, ite_t, ite_f, k_m9, k_m1, k_13, k_15, k_18, k_19, k_112, k_114, k_115, k_98, k_103, k_116, k_119, k_47, k_82, k_50, k_51, k_99, k_700, k_197, ne9, ne9s, nI_ne0s, ↓reduceIte, a2, k1]
  · obtain rfl : r = 14 := by omega
    obtain ⟨T, l1, l2, l3, l4, l5⟩ := mforget_ok h
    obtain ⟨S', k1, k2, k3, k4⟩ := mrem49_ok l5 (by omega)
    rw [if_neg h14, if_neg h14]
    refine ⟨S', ?_, l3.tr k2, k3.trans l4, k4⟩
    have hm : nI 14 - nI 1 = nI 13 := nI_sub (by omega)
    simp (disch := omega) only [k_0, k_1, k_2, k_3, k_4, k_5, k_6, k_7, k_8, k_9, k_10, k_14, k_16, k_28, k_30, k_48, k_49, k_57, k_100, k_110, k_127, k_128, k_196, k_255, k_1000, k_1024, k_10000, nI_add, nI_mul, nI_div, irm_nI, nle, nlt, neq, gd_t, inb_nI, cl_nI, bnd_eq, gdT, gdo, gb0, gb1, gbi, bi0, bi1, bi0r, Option.bind_some, bndE_some, ite_t, ite_f, k_m9, k_m1, k_13, k_15, k_18, k_19, k_112, k_114, k_115, k_98, k_103, k_116, k_119, k_47, k_82, k_50, k_51, k_99, k_700, k_197, ne9, ne9s, nI_ne0s, ↓reduceIte, a2]
    rw [l1]
    simp (disch := omega) only [k_0, k_1, k_2, k_3, k_4, k_5, k_6, k_7, k_8, k_9, k_10, k_14, k_16, k_28, k_30, k_48, k_49, k_57, k_100, k_110, k_127, k_128, k_196, k_255, k_1000, k_1024, k_10000, nI_add, nI_mul, nI_div, irm_nI, nle, nlt, neq, gd_t, inb_nI, cl_nI, bnd_eq, gdT, gdo, gb0, gb1, gbi, bi0, bi1, bi0r, Option.bind_some, bndE_some, ite_t, ite_f, k_m9, k_m1, k_13, k_15, k_18, k_19, k_112, k_114, k_115, k_98, k_103, k_116, k_119, k_47, k_82, k_50, k_51, k_99, k_700, k_197, ne9, ne9s, nI_ne0s, ↓reduceIte, l2, hm, k1]
theorem rm_ok {c : Ab} {r : Nat} {mem : Nat → Ab} (hc : AOk c) (hr : r ≤ 14) (hm : ∀ j, j < r → AOk (mem j)) : rmR r ≤ 14 ∧ ∀ j, j < rmR r → AOk (rmM r mem c j) := by
  unfold rmR rmM
  by_cases h14 : r < 14
  · rw [if_pos h14, if_pos h14]
    refine ⟨by omega, fun j hj => ?_⟩
    by_cases hjr : j = r
    · rw [if_pos hjr]; exact hc
    · rw [if_neg hjr]; exact hm j (by omega)
  · rw [if_neg h14, if_neg h14]
    refine ⟨by omega, fun j hj => ?_⟩
    by_cases hj13 : j = 13
    · rw [if_pos hj13]; exact hc
    · rw [if_neg hj13]; exact hm (j + 1) (by omega)
