/-! the class's state and what it remembers, the latest first -/
def CR (S : Hs) (c : Ab) (r : Nat) (mem : Nat → Ab) : Prop := RS S 29 c ∧ gI S 0 3 = nI r ∧ ∃ q, Mem S r mem q
def CP (S : Hs) (c : Ab) (l : List Ab) : Prop := ∃ r mem, CR S c r mem ∧ r ≤ 14 ∧ l.length ≤ r ∧ ∀ j d, l[j]? = some d → mem (r - 1 - j) = d
theorem CR.kp {S T : Hs} {c : Ab} {r : Nat} {mem : Nat → Ab} (h : CR S c r mem) (k : Kp S T) : CR T c r mem := by
  obtain ⟨a1, a2, q, b1, b2, b3⟩ := h
  refine ⟨RepS.kp a1 k (by omega) (by omega), ((k.1 _ _ (by omega)).1).trans a2, q, fun j hj => ?_, b2, fun j hj hj14 => ?_⟩
  · rw [k.2.1]
    exact b1 j hj
  · have := b1 j hj14
    exact RepS.kp (b3 j hj hj14) k (by omega) (by omega)
theorem CP.kp {S T : Hs} {c : Ab} {l : List Ab} (h : CP S c l) (k : Kp S T) : CP T c l := by
  obtain ⟨r, mem, h1, h2⟩ := h
  exact ⟨r, mem, h1.kp k, h2⟩
theorem CR.cur {S T : Hs} {c : Ab} {r : Nat} {mem : Nat → Ab} (h : CR S c r mem) (hs : SameB 29 S T) {c' : Ab} (hc : RS T 29 c') : CR T c' r mem := by
  obtain ⟨a1, a2, q, b1, b2, b3⟩ := h
  refine ⟨hc, (hs.1 _ _ (by omega)).trans a2, q, fun j hj => ?_, b2, fun j hj hj14 => ?_⟩
  · rw [hs.2.2.1]
    exact b1 j hj
  · have := b1 j hj14
    exact (b3 j hj hj14).keep hs (by omega)
theorem CP.cur {S T : Hs} {c : Ab} {l : List Ab} (h : CP S c l) (hs : SameB 29 S T) {c' : Ab} (hc : RS T 29 c') : CP T c' l := by
  obtain ⟨r, mem, h1, h2⟩ := h
  exact ⟨r, mem, h1.cur hs hc, h2⟩
theorem CP.rs {S : Hs} {n : Nat} {K : Kd} {Z : Rt} {l : List Ab} (h : CP S (n, K, Z) l) : RepS S 29 n K Z := by
  obtain ⟨r, mem, h1, h2⟩ := h
  exact h1.1
theorem CP.tail {S : Hs} {c d : Ab} {l : List Ab} (h : CP S c (l ++ [d])) : CP S c l := by
  obtain ⟨r, mem, h1, h2, h3, h4⟩ := h
  rw [List.length_append] at h3
  refine ⟨r, mem, h1, h2, by omega, fun j e hj => h4 j e ?_⟩
  rw [List.getElem?_append_left (List.getElem?_eq_some_iff.mp hj).1]
  exact hj
theorem CP.nil {S : Hs} {c : Ab} {l : List Ab} (h : CP S c l) : CP S c [] := by
  obtain ⟨r, mem, h1, h2, h3, h4⟩ := h
  exact ⟨r, mem, h1, h2, Nat.zero_le _, fun j e hj => by simp at hj⟩
theorem rem13_ok {S : Hs} {c : Ab} {r : Nat} {mem : Nat → Ab} (h : CR S c r mem) (hr : r < 14) : ∃ S', m_X5_remember_J13 S = some S' ∧ CR S' c (r + 1) (fun j => if j = r then c else mem j) := by
  obtain ⟨a1, a2, q, b1, b2, b3⟩ := h
  have hq := b1 r hr
  have a2' : gI S 0 3 = nI r := a2
  obtain ⟨S1, k1, k2, k3⟩ := copyRS (i := q r) a1 (by omega)
  have g1 : gI S1 0 3 = nI r := (k3.1 _ _ (by omega)).trans a2'
  refine ⟨sI S1 0 3 (nI (r + 1)), ?_, ?_⟩
  · unfold m_X5_remember_J13
    simp (disch := omega) only [k_0, k_1, k_2, k_3, k_4, k_5, k_6, k_7, k_8, k_9, k_10, k_14, k_16, k_28, k_30, k_48, k_49, k_57, k_100, k_110, k_127, k_128, k_196, k_255, k_1000, k_1024, k_10000, nI_add, nI_mul, nI_div, irm_nI, nle, nlt, neq, gd_t, inb_nI, cl_nI, bnd_eq, gdT, gdo, gb0, gb1, gbi, bi0, bi1, bi0r, Option.bind_some, bndE_some, ite_t, ite_f, k_m9, k_m1, k_13, k_15, k_18, k_19, k_112, k_114, k_115, k_98, k_103, k_116, k_119, k_47, k_82, k_50, k_51, k_99, k_700, k_197, ne9, ne9s, nI_ne0s, ↓reduceIte, a2', hq.1, isSt_mem hq.2.1 hq.2.2.1 hq.2.2.2, k1, g1]
  · refine ⟨(a1.keep k3 (by omega)).samev (fun b => by rw [gI_sI, if_neg (by omega)]) (fun b => rfl), by rw [gI_sI, if_pos rfl, if_pos rfl], q, fun j hj => ?_, b2, fun j hj hj14 => ?_⟩
    · rw [gQ_sI, k3.2.2.1]
      exact b1 j hj
    · have hj2 := b1 j hj14
      by_cases hjr : j = r
      · show RS _ (q j) (if j = r then c else mem j)
        rw [if_pos hjr, hjr]
        exact k2.samev (fun b => by rw [gI_sI, if_neg (by omega)]) (fun b => rfl)
      · show RS _ (q j) (if j = r then c else mem j)
        rw [if_neg hjr]
        have hjl : j < r := by
          have : j < r + 1 := hj
          omega
        exact ((b3 j hjl hj14).keep k3 (fun e => hjr (b2 j r hj14 hr e))).samev (fun b => by rw [gI_sI, if_neg (by omega)]) (fun b => rfl)
theorem forget_ok {S : Hs} {c : Ab} {mem : Nat → Ab} (h : CR S c 14 mem) : ∃ S', m_X5_forgetOldest S = some S' ∧ CR S' c 13 (fun j => mem (j + 1)) := by
  obtain ⟨a1, a2, q, b1, b2, b3⟩ := h
  have hst : ∀ j, j < 14 → isSt (q j) = true := fun j hj => isSt_mem (b1 j hj).2.1 (b1 j hj).2.2.1 (b1 j hj).2.2.2
  obtain ⟨S1, k1, k2, k3, k4, k5⟩ := loopO_inv (f := fun x : Int32 × Hs => m_X5_forgetOldest_L9 (q 0) x.1 x.2) (fun i x => i ≤ 13 ∧ x.1 = nI (1 + i) ∧ (∀ a b, gI x.2 a b = gI S a b) ∧ (∀ a b, gA x.2 a b = gA S a b) ∧ (∀ b, gO x.2 b = gO S b) ∧ ∀ a b, gQ x.2 a b = if a = 3 ∧ b < i then gQ S 3 (b + 1) else gQ S a b) (fun U => (∀ a b, gI U a b = gI S a b) ∧ (∀ a b, gA U a b = gA S a b) ∧ (∀ b, gO U b = gO S b) ∧ ∀ a b, gQ U a b = if a = 3 ∧ b < 13 then gQ S 3 (b + 1) else gQ S a b) 14 (fun i x hx => by
    obtain ⟨v, U⟩ := x
    obtain ⟨hi, hv, c1, c2, c3, c4⟩ := hx
    simp only at hv c1 c2 c3 c4
    subst hv
    by_cases hi13 : i < 13
    · have hq : gQ U 3 (1 + i) = q (1 + i) := by
        rw [c4, if_neg (by omega)]
        exact (b1 (1 + i) (by omega)).1
      have hm : nI (1 + i) - nI 1 = nI i := by
        rw [nI_sub (by omega)]
        congr 1
        omega
      refine Or.inl ⟨by omega, (nI (1 + (i + 1)), sQ U 3 i (q (1 + i))), ?_, by omega, rfl, c1, c2, c3, fun a b => ?_⟩
      · simp only [m_X5_forgetOldest_L9]
        simp (disch := omega) only [k_0, k_1, k_2, k_3, k_4, k_5, k_6, k_7, k_8, k_9, k_10, k_14, k_16, k_28, k_30, k_48, k_49, k_57, k_100, k_110, k_127, k_128, k_196, k_255, k_1000, k_1024, k_10000, nI_add, nI_mul, nI_div, irm_nI, nle, nlt, neq, gd_t, inb_nI, cl_nI, bnd_eq, gdT, gdo, gb0, gb1, gbi, bi0, bi1, bi0r, Option.bind_some, bndE_some, ite_t, ite_f, k_m9, k_m1, k_13, k_15, k_18, k_19, k_112, k_114, k_115, k_98, k_103, k_116, k_119, k_47, k_82, k_50, k_51, k_99, k_700, k_197, ne9, ne9s, nI_ne0s, ↓reduceIte, hq, hst (1 + i) (by omega), hm]
        rfl
      · show gQ (sQ U 3 i (q (1 + i))) a b = _
        rw [gQ_sQ]
        by_cases ha : a = 3
        · subst ha
          rw [if_pos rfl]
          by_cases hb : b = i
          · subst hb
            rw [if_pos rfl, if_pos ⟨rfl, by omega⟩, Nat.add_comm b 1]
            exact ((b1 (1 + b) (by omega)).1).symm
          · rw [if_neg hb, c4]
            exact ite_cg (show (3 = 3 ∧ b < i) ↔ (3 = 3 ∧ b < i + 1) by omega) _ _
        · rw [if_neg ha, c4, if_neg (by omega), if_neg (by omega)]
    · obtain rfl : i = 13 := by omega
      refine Or.inr ⟨U, ?_, c1, c2, c3, c4⟩
      simp only [m_X5_forgetOldest_L9]
      simp (disch := omega) only [k_0, k_1, k_2, k_3, k_4, k_5, k_6, k_7, k_8, k_9, k_10, k_14, k_16, k_28, k_30, k_48, k_49, k_57, k_100, k_110, k_127, k_128, k_196, k_255, k_1000, k_1024, k_10000, nI_add, nI_mul, nI_div, irm_nI, nle, nlt, neq, gd_t, inb_nI, cl_nI, bnd_eq, gdT, gdo, gb0, gb1, gbi, bi0, bi1, bi0r, Option.bind_some, bndE_some, ite_t, ite_f, k_m9, k_m1, k_13, k_15, k_18, k_19, k_112, k_114, k_115, k_98, k_103, k_116, k_119, k_47, k_82, k_50, k_51, k_99, k_700, k_197, ne9, ne9s, nI_ne0s, ↓reduceIte]) (x := (nI 1, S)) ⟨by omega, rfl, fun _ _ => rfl, fun _ _ => rfl, fun _ => rfl, fun a b => by rw [if_neg (by omega)]⟩
  have a2' : gI S 0 3 = nI 14 := a2
  have h13 : (13 : Int32).toNatClampNeg = 13 := by decide +kernel
  have g0 : gI (sQ S1 3 13 (q 0)) 0 3 = nI 14 := (k2 0 3).trans a2'
  refine ⟨sI (sQ S1 3 13 (q 0)) 0 3 (nI 13), ?_, ?_⟩
  · have hm : nI 14 - nI 1 = nI 13 := nI_sub (by omega)
    unfold m_X5_forgetOldest
    simp (disch := omega) only [k_0, k_1, k_2, k_3, k_4, k_5, k_6, k_7, k_8, k_9, k_10, k_14, k_16, k_28, k_30, k_48, k_49, k_57, k_100, k_110, k_127, k_128, k_196, k_255, k_1000, k_1024, k_10000, nI_add, nI_mul, nI_div, irm_nI, nle, nlt, neq, gd_t, inb_nI, cl_nI, bnd_eq, gdT, gdo, gb0, gb1, gbi, bi0, bi1, bi0r, Option.bind_some, bndE_some, ite_t, ite_f, k_m9, k_m1, k_13, k_15, k_18, k_19, k_112, k_114, k_115, k_98, k_103, k_116, k_119, k_47, k_82, k_50, k_51, k_99, k_700, k_197, ne9, ne9s, nI_ne0s, ↓reduceIte, (b1 0 (by omega)).1, hst 0 (by omega)]
    rw [k1]
    simp (disch := omega) only [k_0, k_1, k_2, k_3, k_4, k_5, k_6, k_7, k_8, k_9, k_10, k_14, k_16, k_28, k_30, k_48, k_49, k_57, k_100, k_110, k_127, k_128, k_196, k_255, k_1000, k_1024, k_10000, nI_add, nI_mul, nI_div, irm_nI, nle, nlt, neq, gd_t, inb_nI, cl_nI, bnd_eq, gdT, gdo, gb0, gb1, gbi, bi0, bi1, bi0r, Option.bind_some, bndE_some, ite_t, ite_f, k_m9, k_m1, k_13, k_15, k_18, k_19, k_112, k_114, k_115, k_98, k_103, k_116, k_119, k_47, k_82, k_50, k_51, k_99, k_700, k_197, ne9, ne9s, nI_ne0s, ↓reduceIte, hst 0 (by omega), g0, hm]
  · have hI : ∀ a b, ¬ (a = 0) → gI (sI (sQ S1 3 13 (q 0)) 0 3 (nI 13)) a b = gI S a b := fun a b ha => by
      rw [gI_sI, if_neg ha]
      exact k2 _ _
    have hA : ∀ a b, gA (sI (sQ S1 3 13 (q 0)) 0 3 (nI 13)) a b = gA S a b := fun a b => k3 a b
    have hQ : ∀ j, j < 14 → gQ (sI (sQ S1 3 13 (q 0)) 0 3 (nI 13)) 3 j = if j = 13 then q 0 else q (j + 1) := fun j hj => by
      rw [gQ_sI, gQ_sQ, if_pos rfl]
      by_cases hj13 : j = 13
      · rw [if_pos hj13, if_pos hj13]
      · rw [if_neg hj13, if_neg hj13, k5, if_pos ⟨rfl, by omega⟩]
        exact (b1 (j + 1) (by omega)).1
    refine ⟨a1.samev (fun b => hI _ _ (by omega)) (fun b => hA _ _), by rw [gI_sI, if_pos rfl, if_pos rfl], fun j => if j = 13 then q 0 else q (j + 1), fun j hj => ⟨hQ j hj, ?_⟩, fun i j hi hj e => ?_, fun j hj hj14 => ?_⟩
    · dsimp only
      by_cases hj13 : j = 13
      · rw [if_pos hj13]; exact (b1 0 (by omega)).2
      · rw [if_neg hj13]; exact (b1 (j + 1) (by omega)).2
    · dsimp only at e
      by_cases hi13 : i = 13 <;> by_cases hj13 : j = 13
      · omega
      · rw [if_pos hi13, if_neg hj13] at e
        have := b2 _ _ (by omega) (by omega) e
        omega
      · rw [if_neg hi13, if_pos hj13] at e
        have := b2 _ _ (by omega) (by omega) e
        omega
      · rw [if_neg hi13, if_neg hj13] at e
        have := b2 _ _ (by omega) (by omega) e
        omega
    · have hj13 : ¬ j = 13 := by
        have : j < 13 := hj
        omega
      show RS _ (if j = 13 then q 0 else q (j + 1)) (mem (j + 1))
      rw [if_neg hj13]
      have := b1 (j + 1) (by omega)
      exact (b3 (j + 1) (show j + 1 < 14 by omega) (by omega)).samev (fun b => hI _ _ (by omega)) (fun b => hA _ _)
theorem push_ok {S : Hs} {c : Ab} {l : List Ab} (h : CP S c l) (hl : l.length < 14) : ∃ S', m_X5_remember S = some S' ∧ CP S' c (c :: l) := by
  obtain ⟨r, mem, h1, h2, h3, h4⟩ := h
  have a2 : gI S 0 3 = nI r := h1.2.1
  unfold m_X5_remember
  by_cases h14 : r < 14
  · obtain ⟨S', k1, k3⟩ := rem13_ok h1 h14
    refine ⟨S', ?_, r + 1, _, k3, by omega, by simp only [List.length_cons]; omega, fun j d hj => ?_⟩
    · simp (disch := omega) only [k_0, k_1, k_2, k_3, k_4, k_5, k_6, k_7, k_8, k_9, k_10, k_14, k_16, k_28, k_30, k_48, k_49, k_57, k_100, k_110, k_127, k_128, k_196, k_255, k_1000, k_1024, k_10000, nI_add, nI_mul, nI_div, irm_nI, nle, nlt, neq, gd_t, inb_nI, cl_nI, bnd_eq, gdT, gdo, gb0, gb1, gbi, bi0, bi1, bi0r, Option.bind_some, bndE_some, ite_t, ite_f, k_m9, k_m1, k_13, k_15, k_18, k_19, k_112, k_114, k_115, k_98, k_103, k_116, k_119, k_47, k_82, k_50, k_51, k_99, k_700, k_197, ne9, ne9s, nI_ne0s, ↓reduceIte, a2, k1]
    · cases j with
      | zero =>
        have e : c = d := by simpa using hj
        rw [if_pos (by omega), e]
      | succ j =>
        have e : l[j]? = some d := by simpa using hj
        have hjl := (List.getElem?_eq_some_iff.mp e).1
        rw [if_neg (by omega), show r + 1 - 1 - (j + 1) = r - 1 - j by omega]
        exact h4 j d e
  · obtain rfl : r = 14 := by omega
    obtain ⟨S1, l1, l3⟩ := forget_ok h1
    obtain ⟨S', k1, k3⟩ := rem13_ok l3 (by omega)
    refine ⟨S', ?_, 14, _, k3, by omega, by simp only [List.length_cons]; omega, fun j d hj => ?_⟩
    · simp (disch := omega) only [k_0, k_1, k_2, k_3, k_4, k_5, k_6, k_7, k_8, k_9, k_10, k_14, k_16, k_28, k_30, k_48, k_49, k_57, k_100, k_110, k_127, k_128, k_196, k_255, k_1000, k_1024, k_10000, nI_add, nI_mul, nI_div, irm_nI, nle, nlt, neq, gd_t, inb_nI, cl_nI, bnd_eq, gdT, gdo, gb0, gb1, gbi, bi0, bi1, bi0r, Option.bind_some, bndE_some, ite_t, ite_f, k_m9, k_m1, k_13, k_15, k_18, k_19, k_112, k_114, k_115, k_98, k_103, k_116, k_119, k_47, k_82, k_50, k_51, k_99, k_700, k_197, ne9, ne9s, nI_ne0s, ↓reduceIte, a2, l1, k1]
    · cases j with
      | zero =>
        have e : c = d := by simpa using hj
        rw [if_pos (by omega), e]
      | succ j =>
        have e : l[j]? = some d := by simpa using hj
        have hjl := (List.getElem?_eq_some_iff.mp e).1
        rw [if_neg (by omega), show 14 - 1 - (j + 1) + 1 = 14 - 1 - j by omega]
        exact h4 j d e
theorem undo_c {S : Hs} {c d : Ab} {l : List Ab} (h : CP S c (d :: l)) : ∃ v S', m_X5_undo S = some (.inl (nI v), S') ∧ v < 14 ∧ CP S' d l := by
  obtain ⟨r, mem, h1, h2, h3, h4⟩ := h
  simp only [List.length_cons] at h3
  obtain ⟨a1, a2, q, b1, b2, b3⟩ := h1
  have hm : nI r - nI 1 = nI (r - 1) := nI_sub (by omega)
  have hq := b1 (r - 1) (by omega)
  have hd : mem (r - 1) = d := by
    have := h4 0 d rfl
    rwa [Nat.sub_zero] at this
  have hmem : RS (sI S 0 3 (nI (r - 1))) (q (r - 1)) d := by
    rw [← hd]
    exact (b3 (r - 1) (show r - 1 < r by omega) (by omega)).samev (fun b => by rw [gI_sI, if_neg (by omega)]) (fun b => rfl)
  obtain ⟨S2, k1, k2, k3⟩ := copyRS (i := 29) hmem (by omega)
  have g0 : gI (sI S 0 3 (nI (r - 1))) 0 3 = nI (r - 1) := by rw [gI_sI, if_pos rfl, if_pos rfl]
  have g2 : gI S2 0 3 = nI (r - 1) := (k3.1 _ _ (by omega)).trans g0
  refine ⟨r - 1, S2, ?_, by omega, r - 1, mem, ⟨k2, g2, q, fun j hj => ?_, b2, fun j hj hj14 => ?_⟩, by omega, by omega, fun j e hj => ?_⟩
  · have h0' : (r = 0) = False := eq_false (by omega)
    have hq0 : gQ (sI S 0 3 (nI (r - 1))) 3 (r - 1) = q (r - 1) := hq.1
    unfold m_X5_undo
    simp (disch := omega) only [k_0, k_1, k_2, k_3, k_4, k_5, k_6, k_7, k_8, k_9, k_10, k_14, k_16, k_28, k_30, k_48, k_49, k_57, k_100, k_110, k_127, k_128, k_196, k_255, k_1000, k_1024, k_10000, nI_add, nI_mul, nI_div, irm_nI, nle, nlt, neq, gd_t, inb_nI, cl_nI, bnd_eq, gdT, gdo, gb0, gb1, gbi, bi0, bi1, bi0r, Option.bind_some, bndE_some, ite_t, ite_f, k_m9, k_m1, k_13, k_15, k_18, k_19, k_112, k_114, k_115, k_98, k_103, k_116, k_119, k_47, k_82, k_50, k_51, k_99, k_700, k_197, ne9, ne9s, nI_ne0s, ↓reduceIte, a2, h0', hm, g0, hq0, isSt_mem hq.2.1 hq.2.2.1 hq.2.2.2, k1, g2]
  · rw [k3.2.2.1, gQ_sI]
    exact b1 j hj
  · have hqj := b1 j hj14
    have h0 : RS (sI S 0 3 (nI (r - 1))) (q j) (mem j) := (b3 j (by omega) hj14).samev (fun b => by rw [gI_sI, if_neg (by omega)]) (fun b => rfl)
    exact h0.keep k3 (by omega)
  · have := h4 (j + 1) e (by simpa using hj)
    rw [← this]
    congr 1
    omega
