/-! the actions: removeThing; undo, save, restore, load, the text's calls -/
theorem sm_up (f : Nat → Nat) (i : Nat) : ∀ m, fb_sm (fun x => f (up i x)) m + (if m ≤ i then 0 else f i) = fb_sm f (if m ≤ i then m else m + 1)
  | 0 => by rw [if_pos (Nat.zero_le i), if_pos (Nat.zero_le i)]; rfl
  | m + 1 => by
    have ih := sm_up f i m
    rw [fb_sm_succ]
    by_cases h1 : m + 1 ≤ i
    · rw [if_pos h1, if_pos h1]
      rw [if_pos (show m ≤ i by omega), if_pos (show m ≤ i by omega)] at ih
      have : up i m = m := by unfold up; rw [if_pos (by omega)]
      rw [this, fb_sm_succ]
      omega
    · rw [if_neg h1, if_neg h1, fb_sm_succ]
      by_cases h2 : m ≤ i
      · rw [if_pos h2, if_pos h2] at ih
        have hm : m = i := by omega
        subst hm
        have : up m m = m + 1 := by unfold up; rw [if_neg (by omega)]
        rw [this, fb_sm_succ]
        omega
      · rw [if_neg h2, if_neg h2] at ih
        have : up i m = m + 1 := by unfold up; rw [if_neg (by omega)]
        rw [this]
        omega
theorem sm_up_le (f : Nat → Nat) (i m : Nat) : fb_sm (fun x => f (up i x)) m ≤ fb_sm f (m + 1) := by
  have h := sm_up f i m
  by_cases h1 : m ≤ i
  · rw [if_pos h1, if_pos h1] at h
    rw [fb_sm_succ]
    omega
  · rw [if_neg h1, if_neg h1] at h
    omega
theorem cnt_2 (Z : Rt) : cnt Z = fb_sm (fun x => fb_sm (fun y => colc Z x y) 7) 7 := by
  rw [cnt_rows]
  exact fb_sm_cong fun x _ => rowc_cols Z x
def colu (Z : Rt) (i a : Nat) : Nat := fb_sm (fun y => colc Z a (up i y)) 7
theorem cnt_dR {n : Nat} {Z : Rt} (hw : WF n Z) (hn : n ≤ 7) (i : Nat) : cnt (dR i Z) ≤ cnt Z := by
  have col0 : ∀ x y, 7 ≤ x ∨ 7 ≤ y → colc Z x y = 0 := fun x y h => fb_ct_zero.mpr fun k _ => by
    cases hz : Z x k y
    · rfl
    · have := hw _ _ _ hz; omega
  have h1 : cnt (dR i Z) = fb_sm (fun x => colu Z i (up i x)) 7 := cnt_2 (dR i Z)
  have h3 := sm_up_le (colu Z i) i 7
  have h2 : colu Z i 7 = 0 := by
    unfold colu
    rw [fb_sm_cong (g := fun _ => 0) (fun y _ => col0 7 _ (Or.inl (Nat.le_refl 7))), fb_sm_0]
  have h4 : fb_sm (colu Z i) 7 ≤ fb_sm (fun x => fb_sm (fun y => colc Z x y) 7) 7 := fb_sm_le fun x _ => by
    have h5 := sm_up_le (fun y => colc Z x y) i 7
    rw [fb_sm_succ (fun y => colc Z x y) 7, col0 x 7 (Or.inr (Nat.le_refl 7)), Nat.add_zero] at h5
    exact h5
  rw [fb_sm_succ (colu Z i) 7, h2, Nat.add_zero] at h3
  rw [h1, cnt_2 Z]
  exact Nat.le_trans h3 h4
/-- a cell behind the removal -/
def nvc (S : Hs) (n i j : Nat) : Int32 := if up i (j / 7) < n ∧ up i (j % 7) < n then gA S 14 (8 + (7 * up i (j / 7) + up i (j % 7))) else nI 0
def DrI (S : Hs) (n i c : Nat) (U : Hs) : Prop := OnA 14 S U ∧ (∀ j, j < 49 → gA U 14 (8 + j) = if j < c then nvc S n i j else gA S 14 (8 + j)) ∧ ∀ j, j < 8 → gA U 14 j = gA S 14 j
theorem up_ge (i j : Nat) : j ≤ up i j := by unfold up; split <;> omega
theorem drop25_ok {S : Hs} {n i X : Nat} {r1 : Int32} (hn : n ≤ 7) (hi : i < n) (hX : X < 7) {U : Hs} (h : DrI S n i (7 * X) U) : ∃ V, loopO (fun x => m_X6_drop_L25 (nI i) r1 (nI n) (nI X) x.1 x.2) (nI 0, U) = some V ∧ DrI S n i (7 * (X + 1)) V := by
  refine loopO_inv (f := fun x : Int32 × Hs => m_X6_drop_L25 (nI i) r1 (nI n) (nI X) x.1 x.2) (fun c q => c ≤ 7 ∧ q.1 = nI c ∧ DrI S n i (7 * X + c) q.2) _ 7 (fun c q hq => ?_) ⟨by omega, rfl, h⟩
  obtain ⟨v, V⟩ := q
  obtain ⟨hc, hv, a1, a2, a3⟩ := hq
  simp only at hv a1 a2 a3
  subst hv
  by_cases hc7 : c < 7
  · refine Or.inl ⟨hc7, ?_⟩
    have gx := up_ge i X
    have gy := up_ge i c
    have goal : m_X6_drop_L25 (nI i) r1 (nI n) (nI X) (nI c) V = some (.inl (nI (c + 1), sA V 14 (8 + (7 * X + c)) (nvc S n i (7 * X + c)))) := by
      have e1 : (if nI i ≤ nI X then nI (X + 1) else nI X) = nI (up i X) := by
        unfold up
        by_cases hx : X < i
        · rw [if_neg (by rw [nle (by omega) (by omega)]; omega), if_pos hx]
        · rw [if_pos (by rw [nle (by omega) (by omega)]; omega), if_neg hx]
      have e2 : m_X6_drop_L25 (nI i) r1 (nI n) (nI X) (nI c) V = m_X6_drop_J47 (nI i) r1 (nI n) (nI X) (nI c) (nI (up i X)) V := by
        rw [← e1]
        simp only [m_X6_drop_L25]
        by_cases hx : i ≤ X
        · simp (disch := omega) only [k_0, k_1, k_2, k_3, k_4, k_5, k_6, k_7, k_8, k_9, k_10, k_14, k_16, k_28, k_30, k_48, k_49, k_57, k_100, k_110, k_127, k_128, k_196, k_255, k_1000, k_1024, k_10000, nI_add, nI_mul, nI_div, irm_nI, nle, nlt, neq, gd_t, inb_nI, cl_nI, bnd_eq, gdT, gdo, gb0, gb1, gbi, bi0, bi1, bi0r, Option.bind_some, bndE_some, ite_t, ite_f, k_m9, k_m1, k_13, k_15, k_18, k_19, k_112, k_114, k_115, k_98, k_103, k_116, k_119, k_47, k_82, k_50, k_51, k_99, k_700, k_197, ne9, ne9s, nI_ne0s, ↓reduceIte]
        · simp (disch := omega) only [k_0, k_1, k_2, k_3, k_4, k_5, k_6, k_7, k_8, k_9, k_10, k_14, k_16, k_28, k_30, k_48, k_49, k_57, k_100, k_110, k_127, k_128, k_196, k_255, k_1000, k_1024, k_10000, nI_add, nI_mul, nI_div, irm_nI, nle, nlt, neq, gd_t, inb_nI, cl_nI, bnd_eq, gdT, gdo, gb0, gb1, gbi, bi0, bi1, bi0r, Option.bind_some, bndE_some, ite_t, ite_f, k_m9, k_m1, k_13, k_15, k_18, k_19, k_112, k_114, k_115, k_98, k_103, k_116, k_119, k_47, k_82, k_50, k_51, k_99, k_700, k_197, ne9, ne9s, nI_ne0s, ↓reduceIte]
      have e3 : m_X6_drop_J47 (nI i) r1 (nI n) (nI X) (nI c) (nI (up i X)) V = m_X6_drop_J64 (nI i) r1 (nI n) (nI X) (nI c) (nI (up i X)) (nI (up i c)) V := by
        unfold m_X6_drop_J47 up
        by_cases hx : i ≤ c
        · rw [if_neg (show ¬ c < i by omega)]
          simp (disch := omega) only [k_0, k_1, k_2, k_3, k_4, k_5, k_6, k_7, k_8, k_9, k_10, k_14, k_16, k_28, k_30, k_48, k_49, k_57, k_100, k_110, k_127, k_128, k_196, k_255, k_1000, k_1024, k_10000, nI_add, nI_mul, nI_div, irm_nI, nle, nlt, neq, gd_t, inb_nI, cl_nI, bnd_eq, gdT, gdo, gb0, gb1, gbi, bi0, bi1, bi0r, Option.bind_some, bndE_some, ite_t, ite_f, k_m9, k_m1, k_13, k_15, k_18, k_19, k_112, k_114, k_115, k_98, k_103, k_116, k_119, k_47, k_82, k_50, k_51, k_99, k_700, k_197, ne9, ne9s, nI_ne0s, ↓reduceIte]
        · rw [if_pos (show c < i by omega)]
          simp (disch := omega) only [k_0, k_1, k_2, k_3, k_4, k_5, k_6, k_7, k_8, k_9, k_10, k_14, k_16, k_28, k_30, k_48, k_49, k_57, k_100, k_110, k_127, k_128, k_196, k_255, k_1000, k_1024, k_10000, nI_add, nI_mul, nI_div, irm_nI, nle, nlt, neq, gd_t, inb_nI, cl_nI, bnd_eq, gdT, gdo, gb0, gb1, gbi, bi0, bi1, bi0r, Option.bind_some, bndE_some, ite_t, ite_f, k_m9, k_m1, k_13, k_15, k_18, k_19, k_112, k_114, k_115, k_98, k_103, k_116, k_119, k_47, k_82, k_50, k_51, k_99, k_700, k_197, ne9, ne9s, nI_ne0s, ↓reduceIte]
      rw [e2, e3]
      unfold m_X6_drop_J64 m_X6_drop_J110 m_X6_drop_J111 nvc
      rw [show (7 * X + c) / 7 = X by omega, show (7 * X + c) % 7 = c by omega]
      by_cases h1 : up i X < n
      · by_cases h2 : up i c < n
        · have hsrc := a2 (7 * up i X + up i c) (by omega)
          rw [if_neg (by omega)] at hsrc
          rw [if_pos ⟨h1, h2⟩]
          simp (disch := omega) only [k_0, k_1, k_2, k_3, k_4, k_5, k_6, k_7, k_8, k_9, k_10, k_14, k_16, k_28, k_30, k_48, k_49, k_57, k_100, k_110, k_127, k_128, k_196, k_255, k_1000, k_1024, k_10000, nI_add, nI_mul, nI_div, irm_nI, nle, nlt, neq, gd_t, inb_nI, cl_nI, bnd_eq, gdT, gdo, gb0, gb1, gbi, bi0, bi1, bi0r, Option.bind_some, bndE_some, ite_t, ite_f, k_m9, k_m1, k_13, k_15, k_18, k_19, k_112, k_114, k_115, k_98, k_103, k_116, k_119, k_47, k_82, k_50, k_51, k_99, k_700, k_197, ne9, ne9s, nI_ne0s, ↓reduceIte, at_ok, hsrc]
        · rw [if_neg (fun e => h2 e.2)]
          have hu : up i c < 1000000 := by unfold up; split <;> omega
          simp (disch := omega) only [k_0, k_1, k_2, k_3, k_4, k_5, k_6, k_7, k_8, k_9, k_10, k_14, k_16, k_28, k_30, k_48, k_49, k_57, k_100, k_110, k_127, k_128, k_196, k_255, k_1000, k_1024, k_10000, nI_add, nI_mul, nI_div, irm_nI, nle, nlt, neq, gd_t, inb_nI, cl_nI, bnd_eq, gdT, gdo, gb0, gb1, gbi, bi0, bi1, bi0r, Option.bind_some, bndE_some, ite_t, ite_f, k_m9, k_m1, k_13, k_15, k_18, k_19, k_112, k_114, k_115, k_98, k_103, k_116, k_119, k_47, k_82, k_50, k_51, k_99, k_700, k_197, ne9, ne9s, nI_ne0s, ↓reduceIte, at_ok]
      · rw [if_neg (fun e => h1 e.1)]
        have hu : up i X < 1000000 := by unfold up; split <;> omega
        simp (disch := omega) only [k_0, k_1, k_2, k_3, k_4, k_5, k_6, k_7, k_8, k_9, k_10, k_14, k_16, k_28, k_30, k_48, k_49, k_57, k_100, k_110, k_127, k_128, k_196, k_255, k_1000, k_1024, k_10000, nI_add, nI_mul, nI_div, irm_nI, nle, nlt, neq, gd_t, inb_nI, cl_nI, bnd_eq, gdT, gdo, gb0, gb1, gbi, bi0, bi1, bi0r, Option.bind_some, bndE_some, ite_t, ite_f, k_m9, k_m1, k_13, k_15, k_18, k_19, k_112, k_114, k_115, k_98, k_103, k_116, k_119, k_47, k_82, k_50, k_51, k_99, k_700, k_197, ne9, ne9s, nI_ne0s, ↓reduceIte, at_ok]
    refine ⟨_, goal, by omega, rfl, a1.tr (OnA.sA _ _), fun j hj => ?_, fun j hj => ?_⟩
    · show gA (sA V 14 (8 + (7 * X + c)) _) 14 (8 + j) = _
      rw [gA_sA, if_pos rfl]
      by_cases hjc : j = 7 * X + c
      · rw [if_pos (by omega), if_pos (by omega), hjc]
      · rw [if_neg (by omega), a2 j hj]
        exact ite_cg (by omega) _ _
    · show gA (sA V 14 (8 + (7 * X + c)) _) 14 j = _
      rw [gA_sA, if_pos rfl, if_neg (by omega)]
      exact a3 j hj
  · obtain rfl : c = 7 := by omega
    refine Or.inr ⟨V, ?_, a1, fun j hj => ?_, a3⟩
    · simp only [m_X6_drop_L25]
      simp (disch := omega) only [k_0, k_1, k_2, k_3, k_4, k_5, k_6, k_7, k_8, k_9, k_10, k_14, k_16, k_28, k_30, k_48, k_49, k_57, k_100, k_110, k_127, k_128, k_196, k_255, k_1000, k_1024, k_10000, nI_add, nI_mul, nI_div, irm_nI, nle, nlt, neq, gd_t, inb_nI, cl_nI, bnd_eq, gdT, gdo, gb0, gb1, gbi, bi0, bi1, bi0r, Option.bind_some, bndE_some, ite_t, ite_f, k_m9, k_m1, k_13, k_15, k_18, k_19, k_112, k_114, k_115, k_98, k_103, k_116, k_119, k_47, k_82, k_50, k_51, k_99, k_700, k_197, ne9, ne9s, nI_ne0s, ↓reduceIte]
    · rw [a2 j hj]
      exact ite_cg (by omega) _ _
theorem drop15_ok {S : Hs} {n i : Nat} {r1 : Int32} (hn : n ≤ 7) (hi : i < n) : ∃ V, loopO (fun x => m_X6_drop_L15 (nI i) r1 (nI n) x.1 x.2) (nI 0, S) = some V ∧ DrI S n i 49 V := by
  refine loopO_inv (f := fun x : Int32 × Hs => m_X6_drop_L15 (nI i) r1 (nI n) x.1 x.2) (fun c q => c ≤ 7 ∧ q.1 = nI c ∧ DrI S n i (7 * c) q.2) _ 7 (fun c q hq => ?_) ⟨by omega, rfl, OnA.rf _ _, fun j hj => by rw [if_neg (by omega)], fun _ _ => rfl⟩
  obtain ⟨v, V⟩ := q
  obtain ⟨hc, hv, a1⟩ := hq
  simp only at hv a1
  subst hv
  by_cases hc7 : c < 7
  · obtain ⟨W, k1, k2⟩ := drop25_ok (r1 := r1) hn hi hc7 a1
    refine Or.inl ⟨hc7, ?_⟩
    simp only [m_X6_drop_L15]
    simp (disch := omega) only [k_0, k_1, k_2, k_3, k_4, k_5, k_6, k_7, k_8, k_9, k_10, k_14, k_16, k_28, k_30, k_48, k_49, k_57, k_100, k_110, k_127, k_128, k_196, k_255, k_1000, k_1024, k_10000, nI_add, nI_mul, nI_div, irm_nI, nle, nlt, neq, gd_t, inb_nI, cl_nI, bnd_eq, gdT, gdo, gb0, gb1, gbi, bi0, bi1, bi0r, Option.bind_some, bndE_some, ite_t, ite_f, k_m9, k_m1, k_13, k_15, k_18, k_19, k_112, k_114, k_115, k_98, k_103, k_116, k_119, k_47, k_82, k_50, k_51, k_99, k_700, k_197, ne9, ne9s, nI_ne0s, ↓reduceIte]
    rw [k1]
    exact ⟨_, rfl, by omega, rfl, k2⟩
  · obtain rfl : c = 7 := by omega
    refine Or.inr ⟨V, ?_, a1⟩
    simp only [m_X6_drop_L15]
    simp (disch := omega) only [k_0, k_1, k_2, k_3, k_4, k_5, k_6, k_7, k_8, k_9, k_10, k_14, k_16, k_28, k_30, k_48, k_49, k_57, k_100, k_110, k_127, k_128, k_196, k_255, k_1000, k_1024, k_10000, nI_add, nI_mul, nI_div, irm_nI, nle, nlt, neq, gd_t, inb_nI, cl_nI, bnd_eq, gdT, gdo, gb0, gb1, gbi, bi0, bi1, bi0r, Option.bind_some, bndE_some, ite_t, ite_f, k_m9, k_m1, k_13, k_15, k_18, k_19, k_112, k_114, k_115, k_98, k_103, k_116, k_119, k_47, k_82, k_50, k_51, k_99, k_700, k_197, ne9, ne9s, nI_ne0s, ↓reduceIte]
theorem drop127_ok {S : Hs} {n i : Nat} {r1 : Int32} (hn : n ≤ 7) (hi : i < n) : ∃ V, loopO (fun x => m_X6_drop_L127 r1 (nI n) x.1 x.2) (nI i, S) = some V ∧ OnA 14 S V ∧ (∀ j, j < 7 → gA V 14 (1 + j) = if i ≤ j ∧ j < n then (if j + 1 < n then gA S 14 (1 + (j + 1)) else nI 0) else gA S 14 (1 + j)) ∧ ∀ b, b = 0 ∨ 8 ≤ b → gA V 14 b = gA S 14 b := by
  obtain ⟨V, e1, e2⟩ := loopO_inv (f := fun x : Int32 × Hs => m_X6_drop_L127 r1 (nI n) x.1 x.2) (fun c q => i + c ≤ n ∧ q.1 = nI (i + c) ∧ OnA 14 S q.2 ∧ (∀ j, j < 7 → gA q.2 14 (1 + j) = if i ≤ j ∧ j < i + c then (if j + 1 < n then gA S 14 (1 + (j + 1)) else nI 0) else gA S 14 (1 + j)) ∧ ∀ b, b = 0 ∨ 8 ≤ b → gA q.2 14 b = gA S 14 b) (fun V => OnA 14 S V ∧ (∀ j, j < 7 → gA V 14 (1 + j) = if i ≤ j ∧ j < n then (if j + 1 < n then gA S 14 (1 + (j + 1)) else nI 0) else gA S 14 (1 + j)) ∧ ∀ b, b = 0 ∨ 8 ≤ b → gA V 14 b = gA S 14 b) 8 (fun c q hq => by
    obtain ⟨v, V⟩ := q
    obtain ⟨hc, hv, a1, a2, a3⟩ := hq
    simp only at hv a1 a2 a3
    subst hv
    by_cases hcn : i + c < n
    · have goal : m_X6_drop_L127 r1 (nI n) (nI (i + c)) V = some (.inl (nI (i + c + 1), sA V 14 (1 + (i + c)) (if i + c + 1 < n then gA S 14 (1 + (i + c + 1)) else nI 0))) := by
        simp only [m_X6_drop_L127, m_X6_drop_J164]
        by_cases h1 : i + c + 1 < n
        · have hs := a2 (i + c + 1) (by omega)
          rw [if_neg (by omega)] at hs
          rw [show 1 + (i + c + 1) = 1 + (i + c) + 1 by omega] at hs ⊢
          rw [if_pos h1]
          simp (disch := omega) only [k_0, k_1, k_2, k_3, k_4, k_5, k_6, k_7, k_8, k_9, k_10, k_14, k_16, k_28, k_30, k_48, k_49, k_57, k_100, k_110, k_127, k_128, k_196, k_255, k_1000, k_1024, k_10000, nI_add, nI_mul, nI_div, irm_nI, nle, nlt, neq, gd_t, inb_nI, cl_nI, bnd_eq, gdT, gdo, gb0, gb1, gbi, bi0, bi1, bi0r, Option.bind_some, bndE_some, ite_t, ite_f, k_m9, k_m1, k_13, k_15, k_18, k_19, k_112, k_114, k_115, k_98, k_103, k_116, k_119, k_47, k_82, k_50, k_51, k_99, k_700, k_197, ne9, ne9s, nI_ne0s, ↓reduceIte, hs]
        · rw [if_neg h1]
          simp (disch := omega) only [k_0, k_1, k_2, k_3, k_4, k_5, k_6, k_7, k_8, k_9, k_10, k_14, k_16, k_28, k_30, k_48, k_49, k_57, k_100, k_110, k_127, k_128, k_196, k_255, k_1000, k_1024, k_10000, nI_add, nI_mul, nI_div, irm_nI, nle, nlt, neq, gd_t, inb_nI, cl_nI, bnd_eq, gdT, gdo, gb0, gb1, gbi, bi0, bi1, bi0r, Option.bind_some, bndE_some, ite_t, ite_f, k_m9, k_m1, k_13, k_15, k_18, k_19, k_112, k_114, k_115, k_98, k_103, k_116, k_119, k_47, k_82, k_50, k_51, k_99, k_700, k_197, ne9, ne9s, nI_ne0s, ↓reduceIte]
      refine Or.inl ⟨by omega, _, goal, by omega, rfl, a1.tr (OnA.sA _ _), fun j hj => ?_, fun b hb => ?_⟩
      · show gA (sA V 14 (1 + (i + c)) _) 14 (1 + j) = _
        rw [gA_sA, if_pos rfl]
        by_cases hjc : j = i + c
        · rw [if_pos (show 1 + j = 1 + (i + c) by omega), if_pos (show i ≤ j ∧ j < i + (c + 1) by omega), hjc]
        · rw [if_neg (by omega), a2 j hj]
          exact ite_cg (by omega) _ _
      · show gA (sA V 14 (1 + (i + c)) _) 14 b = _
        rw [gA_sA, if_pos rfl, if_neg (by omega)]
        exact a3 b hb
    · have hcn2 : i + c = n := by omega
      refine Or.inr ⟨V, ?_, a1, fun j hj => ?_, a3⟩
      · simp only [m_X6_drop_L127]
        simp (disch := omega) only [k_0, k_1, k_2, k_3, k_4, k_5, k_6, k_7, k_8, k_9, k_10, k_14, k_16, k_28, k_30, k_48, k_49, k_57, k_100, k_110, k_127, k_128, k_196, k_255, k_1000, k_1024, k_10000, nI_add, nI_mul, nI_div, irm_nI, nle, nlt, neq, gd_t, inb_nI, cl_nI, bnd_eq, gdT, gdo, gb0, gb1, gbi, bi0, bi1, bi0r, Option.bind_some, bndE_some, ite_t, ite_f, k_m9, k_m1, k_13, k_15, k_18, k_19, k_112, k_114, k_115, k_98, k_103, k_116, k_119, k_47, k_82, k_50, k_51, k_99, k_700, k_197, ne9, ne9s, nI_ne0s, ↓reduceIte]
      · rw [a2 j hj]
        exact ite_cg (by omega) _ _) (x := (nI i, S)) ⟨by omega, rfl, OnA.rf _ _, fun j hj => by rw [if_neg (by omega)], fun _ _ => rfl⟩
  exact ⟨V, e1, e2⟩
theorem drop_ok {T : Hs} {n : Nat} {K : Kd} {Z : Rt} (h : RepM T 14 0 n K Z) {i : Nat} (hi : i < n) : ∃ U, m_X6_drop (nI i) T = some (nI (cnt Z) - nI (cnt (dR i Z)), U) ∧ OnA 14 T U ∧ RepM U 14 0 (n - 1) (dK i K) (dR i Z) := by
  have hn := h.1
  have hw := h.2.1
  obtain ⟨V, a1, a2, a3, a4⟩ := drop15_ok (S := T) (r1 := nI (cnt Z)) hn hi
  obtain ⟨W, b1, b2, b3, b4⟩ := drop127_ok (S := V) (r1 := nI (cnt Z)) hn hi
  have w0 : gA W 14 0 = nI n := by rw [b4 0 (Or.inl rfl), a4 0 (by omega)]; exact z0 h
  have hfin : RepM (sA W 14 0 (nI (n - 1))) 14 0 (n - 1) (dK i K) (dR i Z) := by
    refine ⟨by omega, dR_WF hw hi, fun j hj => ?_, ?_, fun j hj => ?_, fun x hx y hy b hb => ?_⟩
    · unfold dK up
      split
      · exact h.2.2.1 j (by omega)
      · exact h.2.2.1 (j + 1) (by omega)
    · rw [gA_sA, if_pos rfl, if_pos rfl]
    · have hold : ∀ m, m < 7 → gA V 14 (1 + m) = nI (if m < n then K m else 0) := fun m hm => by
        rw [a4 _ (by omega)]
        have := h.2.2.2.2.1 m hm
        rwa [Nat.zero_add] at this
      rw [gA_sA, if_pos rfl, if_neg (by omega), Nat.zero_add, b3 j hj]
      unfold dK up
      by_cases h1 : i ≤ j ∧ j < n
      · rw [if_pos h1, if_neg (show ¬ j < i by omega)]
        by_cases h2 : j + 1 < n
        · rw [if_pos h2, hold (j + 1) (by omega), if_pos h2, if_pos (by omega)]
        · rw [if_neg h2, if_neg (by omega)]
      · rw [if_neg h1, hold j hj]
        by_cases h2 : j < n
        · rw [if_pos h2, if_pos (by omega), if_pos (by omega)]
        · rw [if_neg h2, if_neg (by omega)]
    · rw [gA_sA, if_pos rfl, if_neg (by omega), Nat.zero_add, b4 _ (by omega), a3 _ (by omega), if_pos (by omega)]
      unfold nvc dR
      rw [show (7 * x + y) / 7 = x by omega, show (7 * x + y) % 7 = y by omega]
      by_cases h1 : up i x < n ∧ up i y < n
      · rw [if_pos h1]
        have := h.2.2.2.2.2 (up i x) (by omega) (up i y) (by omega) b hb
        rwa [Nat.zero_add] at this
      · rw [if_neg h1, show nI 0 = (0 : Int32) from rfl, b_0]
        cases hz : Z (up i x) b (up i y)
        · simp
        · have := hw _ _ _ hz
          exact absurd ⟨this.1, this.2.2.1⟩ h1
  refine ⟨_, ?_, (a2.tr b2).tr (OnA.sA _ _), hfin⟩
  have hm : nI n - nI 1 = nI (n - 1) := nI_sub (by omega)
  unfold m_X6_drop
  simp (disch := omega) only [k_0, k_1, k_2, k_3, k_4, k_5, k_6, k_7, k_8, k_9, k_10, k_14, k_16, k_28, k_30, k_48, k_49, k_57, k_100, k_110, k_127, k_128, k_196, k_255, k_1000, k_1024, k_10000, nI_add, nI_mul, nI_div, irm_nI, nle, nlt, neq, gd_t, inb_nI, cl_nI, bnd_eq, gdT, gdo, gb0, gb1, gbi, bi0, bi1, bi0r, Option.bind_some, bndE_some, ite_t, ite_f, k_m9, k_m1, k_13, k_15, k_18, k_19, k_112, k_114, k_115, k_98, k_103, k_116, k_119, k_47, k_82, k_50, k_51, k_99, k_700, k_197, ne9, ne9s, nI_ne0s, ↓reduceIte, rightsMany_ok h, z0 h]
  rw [a1]
  simp (disch := omega) only [k_0, k_1, k_2, k_3, k_4, k_5, k_6, k_7, k_8, k_9, k_10, k_14, k_16, k_28, k_30, k_48, k_49, k_57, k_100, k_110, k_127, k_128, k_196, k_255, k_1000, k_1024, k_10000, nI_add, nI_mul, nI_div, irm_nI, nle, nlt, neq, gd_t, inb_nI, cl_nI, bnd_eq, gdT, gdo, gb0, gb1, gbi, bi0, bi1, bi0r, Option.bind_some, bndE_some, ite_t, ite_f, k_m9, k_m1, k_13, k_15, k_18, k_19, k_112, k_114, k_115, k_98, k_103, k_116, k_119, k_47, k_82, k_50, k_51, k_99, k_700, k_197, ne9, ne9s, nI_ne0s, ↓reduceIte]
  rw [b1]
  simp (disch := omega) only [k_0, k_1, k_2, k_3, k_4, k_5, k_6, k_7, k_8, k_9, k_10, k_14, k_16, k_28, k_30, k_48, k_49, k_57, k_100, k_110, k_127, k_128, k_196, k_255, k_1000, k_1024, k_10000, nI_add, nI_mul, nI_div, irm_nI, nle, nlt, neq, gd_t, inb_nI, cl_nI, bnd_eq, gdT, gdo, gb0, gb1, gbi, bi0, bi1, bi0r, Option.bind_some, bndE_some, ite_t, ite_f, k_m9, k_m1, k_13, k_15, k_18, k_19, k_112, k_114, k_115, k_98, k_103, k_116, k_119, k_47, k_82, k_50, k_51, k_99, k_700, k_197, ne9, ne9s, nI_ne0s, ↓reduceIte, w0, hm, rightsMany_ok hfin]
theorem AOk.drop {n : Nat} {K : Kd} {Z : Rt} (h : AOk (n, K, Z)) {i : Nat} (hi : i < n) : AOk (n - 1, dK i K, dR i Z) := by
  have hn : n ≤ 7 := h.1
  refine ⟨show n - 1 ≤ 7 by omega, dR_WF h.2.1 hi, fun j hj => ?_, Nat.le_trans (cnt_dR h.2.1 hn i) h.2.2.2⟩
  have hj' : j < n - 1 := hj
  show dK i K j < 3
  unfold dK up
  split
  · exact h.2.2.1 j (show j < n by omega)
  · exact h.2.2.1 (j + 1) (show j + 1 < n by omega)
theorem removeThing_op (v : Int32) : OpOk (m_X5_removeThing v) (m_X6_removeThing v) (c1 3) := by
  intro g hg
  obtain ⟨⟨n, K, Z⟩, r, mem, sv, sl, len, t⟩ := g
  obtain ⟨ga, gr, gm, gs⟩ := hg
  have hn : n ≤ 7 := ga.1
  by_cases hv : isT n v = true
  · obtain ⟨i, hi, rfl⟩ := isT_iff.mp hv
    obtain ⟨m1, m2⟩ := rm_ok ga gr gm
    refine ⟨.inl (nI (cnt Z) - nI (cnt (dR i Z))), ((n - 1, dK i K, dR i Z), rmR r, rmM r mem (n, K, Z), sv, sl, len, t), ⟨AOk.drop ga hi, m1, m2, gs⟩, fun S hS => ?_, fun T hT => ?_⟩
    · obtain ⟨S1, k1, k2, k3⟩ := remember_ok hS gr
      obtain ⟨S2, l1, l2, l3⟩ := removeOne_ok (show RepS S1 29 n K Z from k3.1) hi
      refine ⟨S2, ?_, k2.tr (Co.ofB l3 (by omega)), k3.cur l3 (c' := (n - 1, dK i K, dR i Z)) l2⟩
      unfold m_X5_removeThing
      rw [checkThing_ok (show RepS S 29 n K Z from hS.1), if_pos hv, bndP_l, k1, Option.bind_some, l1, bndE_some]
    · obtain ⟨T1, k1, k2, k3, k4⟩ := mremember_ok (hT.thr (nI 0)) gr
      obtain ⟨U, l1, l2, l3⟩ := drop_ok (show RepM T1 14 0 n K Z from k4.1) hi
      have q : Mq T1 U := Mq.ofA l2 (by omega)
      refine ⟨_, U, ?_, ((Mo.sI _ _).tr k2).tr (Mo.ofQ q), k4.cur q (c' := (n - 1, dK i K, dR i Z)) l3, (l2.1 _ _).trans (k3.trans (thr_eq _ _)), rfl⟩
      unfold m_X6_removeThing m_X6_removeThing_J14
      simp (disch := omega) only [k_0, k_1, k_2, k_3, k_4, k_5, k_6, k_7, k_8, k_9, k_10, k_14, k_16, k_28, k_30, k_48, k_49, k_57, k_100, k_110, k_127, k_128, k_196, k_255, k_1000, k_1024, k_10000, nI_add, nI_mul, nI_div, irm_nI, nle, nlt, neq, gd_t, inb_nI, cl_nI, bnd_eq, gdT, gdo, gb0, gb1, gbi, bi0, bi1, bi0r, Option.bind_some, bndE_some, ite_t, ite_f, k_m9, k_m1, k_13, k_15, k_18, k_19, k_112, k_114, k_115, k_98, k_103, k_116, k_119, k_47, k_82, k_50, k_51, k_99, k_700, k_197, ne9, ne9s, nI_ne0s, ↓reduceIte, isThing_ok (show RepM T 14 0 n K Z from hT.1), hv, Bool.true_eq_false, thr_eq, le00, k1, l1]
  · have hv2 := Bool.eq_false_iff.mpr hv
    refine ⟨.inr 3, _, ⟨ga, gr, gm, gs⟩, fun S hS => ⟨S, ?_, Co.rf S, hS⟩, fun T hT => ?_⟩
    · unfold m_X5_removeThing
      rw [checkThing_ok (show RepS S 29 n K Z from hS.1), if_neg hv, bndP_r]
    · obtain ⟨q1, q2⟩ := q_thr hT (nI 1)
      refine ⟨nI 0, _, ?_, q1, q2, thr_s _ _⟩
      unfold m_X6_removeThing m_X6_removeThing_J14
      simp (disch := omega) only [k_0, k_1, k_2, k_3, k_4, k_5, k_6, k_7, k_8, k_9, k_10, k_14, k_16, k_28, k_30, k_48, k_49, k_57, k_100, k_110, k_127, k_128, k_196, k_255, k_1000, k_1024, k_10000, nI_add, nI_mul, nI_div, irm_nI, nle, nlt, neq, gd_t, inb_nI, cl_nI, bnd_eq, gdT, gdo, gb0, gb1, gbi, bi0, bi1, bi0r, Option.bind_some, bndE_some, ite_t, ite_f, k_m9, k_m1, k_13, k_15, k_18, k_19, k_112, k_114, k_115, k_98, k_103, k_116, k_119, k_47, k_82, k_50, k_51, k_99, k_700, k_197, ne9, ne9s, nI_ne0s, ↓reduceIte, isThing_ok (show RepM T 14 0 n K Z from hT.1), hv2, thr_eq, not10]
