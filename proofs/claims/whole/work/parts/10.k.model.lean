/-! the model's vectors: what they hold, copying, counting, readers -/
theorem ite_cg {α : Type} {c d : Prop} [Decidable c] [Decidable d] (h : c ↔ d) (a b : α) : (if c then a else b) = if d then a else b := by
  by_cases hc : c
  · rw [if_pos hc, if_pos (h.mp hc)]
  · rw [if_neg hc, if_neg (fun q => hc (h.mpr q))]
def m9 : Int32 := -9
def m1 : Int32 := -1
theorem k_m9 : -(nI 9) = m9 := rfl
theorem k_m1 : -(nI 1) = m1 := rfl
theorem k_13 : (13 : Int32) = nI 13 := rfl
theorem k_15 : (15 : Int32) = nI 15 := rfl
theorem k_18 : (18 : Int32) = nI 18 := rfl
theorem k_19 : (19 : Int32) = nI 19 := rfl
theorem k_112 : (112 : Int32) = nI 112 := rfl
theorem k_114 : (114 : Int32) = nI 114 := rfl
theorem k_115 : (115 : Int32) = nI 115 := rfl
theorem k_98 : (98 : Int32) = nI 98 := rfl
theorem k_103 : (103 : Int32) = nI 103 := rfl
theorem k_116 : (116 : Int32) = nI 116 := rfl
theorem k_119 : (119 : Int32) = nI 119 := rfl
theorem k_47 : (47 : Int32) = nI 47 := rfl
theorem k_82 : (82 : Int32) = nI 82 := rfl
theorem k_50 : (50 : Int32) = nI 50 := rfl
theorem k_51 : (51 : Int32) = nI 51 := rfl
theorem k_99 : (99 : Int32) = nI 99 := rfl
theorem k_700 : (700 : Int32) = nI 700 := rfl
theorem k_197 : (197 : Int32) = nI 197 := rfl
theorem ne9 {a : Nat} (h : a < 1000000) : (nI a = m9) = False := eq_false (nI_ne9 h)
theorem ne9s {a : Nat} (h : a < 1000000) : (m9 = nI a) = False := eq_false fun q => nI_ne9 h q.symm
theorem nI_ne0s {a : Nat} (h : a < 1000000) : (nI a < nI 0) = False := eq_false (not_neg h)
theorem m9_neg : m9 < nI 0 := by decide
theorem m1_neg : m1 < nI 0 := by decide
theorem bt_m1 {j : Nat} (hj : j < 32) : bt m1 j = true := b_m1 j hj
theorem and1 (v : Int32) {k : Nat} (hk : k < 32) : (v >>> (nI k &&& 31)) &&& nI 1 = bi (bt v k) := by
  cases hb : bt v k
  · exact (bit_test v hk).mpr hb
  · apply b_ext
    intro i hi
    have h1 : ∀ j, j < 32 → bt (nI 1) j = decide (j = 0) := by decide +kernel
    rw [b_and, h1 i hi, b_sshr k hk v hi]
    show _ = bt (nI 1) i
    rw [h1 i hi]
    by_cases h0 : i = 0
    · subst h0
      simp [hk, hb]
    · simp [h0]
theorem isIn_ok (v : Int32) {k : Nat} (hk : k < 32) : m_X6_isIn v (nI k) = some (bi (bt v k)) := by
  unfold m_X6_isIn m_X6_isIn_J14
  simp (disch := omega) only [k_0, k_1, k_2, k_3, k_4, k_5, k_6, k_7, k_8, k_9, k_10, k_14, k_16, k_28, k_30, k_48, k_49, k_57, k_100, k_110, k_127, k_128, k_196, k_255, k_1000, k_1024, k_10000, nI_add, nI_mul, nI_div, irm_nI, nle, nlt, neq, gd_t, inb_nI, cl_nI, bnd_eq, gdT, gdo, gb0, gb1, gbi, bi0, bi1, bi0r, Option.bind_some, bndE_some, ite_t, ite_f, k_m9, k_m1, k_13, k_15, k_18, k_19, k_112, k_114, k_115, k_98, k_103, k_116, k_119, k_47, k_82, k_50, k_51, k_99, k_700, k_197, ne9, ne9s, nI_ne0s, ↓reduceIte, and1 v hk]
  cases bt v k <;> simp [bi, gd]
theorem bits_ok (v : Int32) : m_X6_bits v = some (nI (fb_ct (bt v) 8)) := by
  unfold m_X6_bits
  have hl := loopO_seq (f := fun x : Int32 × Int32 => m_X6_bits_L4 v x.1 x.2) (w := fun k => (nI (fb_ct (bt v) k), nI k)) 8 (r := nI (fb_ct (bt v) 8)) (fun k hk => by
    simp only [m_X6_bits_L4]
    simp (disch := omega) only [k_0, k_1, k_2, k_3, k_4, k_5, k_6, k_7, k_8, k_9, k_10, k_14, k_16, k_28, k_30, k_48, k_49, k_57, k_100, k_110, k_127, k_128, k_196, k_255, k_1000, k_1024, k_10000, nI_add, nI_mul, nI_div, irm_nI, nle, nlt, neq, gd_t, inb_nI, cl_nI, bnd_eq, gdT, gdo, gb0, gb1, gbi, bi0, bi1, bi0r, Option.bind_some, bndE_some, ite_t, ite_f, k_m9, k_m1, k_13, k_15, k_18, k_19, k_112, k_114, k_115, k_98, k_103, k_116, k_119, k_47, k_82, k_50, k_51, k_99, k_700, k_197, ne9, ne9s, nI_ne0s, ↓reduceIte, and1 v (show k < 32 by omega), fb_ct_succ]
    cases bt v k <;> simp [bi, nI_add]) (by
    simp only [m_X6_bits_L4]
    simp (disch := omega) only [k_0, k_1, k_2, k_3, k_4, k_5, k_6, k_7, k_8, k_9, k_10, k_14, k_16, k_28, k_30, k_48, k_49, k_57, k_100, k_110, k_127, k_128, k_196, k_255, k_1000, k_1024, k_10000, nI_add, nI_mul, nI_div, irm_nI, nle, nlt, neq, gd_t, inb_nI, cl_nI, bnd_eq, gdT, gdo, gb0, gb1, gbi, bi0, bi1, bi0r, Option.bind_some, bndE_some, ite_t, ite_f, k_m9, k_m1, k_13, k_15, k_18, k_19, k_112, k_114, k_115, k_98, k_103, k_116, k_119, k_47, k_82, k_50, k_51, k_99, k_700, k_197, ne9, ne9s, nI_ne0s, ↓reduceIte])
  exact congrArg (fun o : Option Int32 => o.bind fun y => some y) hl
theorem at_ok (x y : Nat) : m_X6_at (nI x) (nI y) = some (nI (7 * x + y)) := by
  unfold m_X6_at
  simp (disch := omega) only [k_0, k_1, k_2, k_3, k_4, k_5, k_6, k_7, k_8, k_9, k_10, k_14, k_16, k_28, k_30, k_48, k_49, k_57, k_100, k_110, k_127, k_128, k_196, k_255, k_1000, k_1024, k_10000, nI_add, nI_mul, nI_div, irm_nI, nle, nlt, neq, gd_t, inb_nI, cl_nI, bnd_eq, gdT, gdo, gb0, gb1, gbi, bi0, bi1, bi0r, Option.bind_some, bndE_some, ite_t, ite_f, k_m9, k_m1, k_13, k_15, k_18, k_19, k_112, k_114, k_115, k_98, k_103, k_116, k_119, k_47, k_82, k_50, k_51, k_99, k_700, k_197, ne9, ne9s, nI_ne0s, ↓reduceIte]
/-- a vector of 57 in the array a from o on -/
def RepM (S : Hs) (a o n : Nat) (K : Kd) (Z : Rt) : Prop :=
  n ≤ 7 ∧ WF n Z ∧ (∀ j, j < n → K j < 3) ∧ gA S a (o + 0) = nI n ∧ (∀ j, j < 7 → gA S a (o + (1 + j)) = nI (if j < n then K j else 0)) ∧
  ∀ x, x < 7 → ∀ y, y < 7 → ∀ b, b < 32 → bt (gA S a (o + (8 + (7 * x + y)))) b = (decide (b < 4) && Z x b y)
theorem RepM.cell {S : Hs} {a o n : Nat} {K : Kd} {Z : Rt} (h : RepM S a o n K Z) {x y : Nat} (hx : x < 7) (hy : y < 7) {b : Nat} (hb : b < 4) : bt (gA S a (o + (8 + (7 * x + y)))) b = Z x b y := by
  rw [h.2.2.2.2.2 x hx y hy b (by omega), decide_eq_true hb, Bool.true_and]
/-- the same 57 ints -/
theorem RepM.copy {S T : Hs} {a o c p n : Nat} {K : Kd} {Z : Rt} (h : RepM S a o n K Z) (he : ∀ j, j < 57 → gA T c (p + j) = gA S a (o + j)) : RepM T c p n K Z := by
  obtain ⟨h1, h2, h3, h4, h5, h6⟩ := h
  exact ⟨h1, h2, h3, (he 0 (by omega)).trans h4, fun j hj => (he (1 + j) (by omega)).trans (h5 j hj), fun x hx y hy b hb => by rw [he (8 + (7 * x + y)) (by omega)]; exact h6 x hx y hy b hb⟩
theorem RepM.keep {S T : Hs} {a o n : Nat} {K : Kd} {Z : Rt} (h : RepM S a o n K Z) (he : ∀ j, gA T a j = gA S a j) : RepM T a o n K Z := h.copy fun j _ => he _
/-- but for one array all is as before -/
def OnA (c : Nat) (S T : Hs) : Prop := (∀ a b, gI T a b = gI S a b) ∧ (∀ a b, a ≠ c → gA T a b = gA S a b) ∧ (∀ a b, gQ T a b = gQ S a b) ∧ ∀ b, gO T b = gO S b
theorem OnA.rf (c : Nat) (S : Hs) : OnA c S S := ⟨fun _ _ => rfl, fun _ _ _ => rfl, fun _ _ => rfl, fun _ => rfl⟩
theorem OnA.tr {c : Nat} {S T U : Hs} (h : OnA c S T) (g : OnA c T U) : OnA c S U := ⟨fun a b => (g.1 a b).trans (h.1 a b), fun a b q => (g.2.1 a b q).trans (h.2.1 a b q), fun a b => (g.2.2.1 a b).trans (h.2.2.1 a b), fun b => (g.2.2.2 b).trans (h.2.2.2 b)⟩
theorem OnA.sA {c k : Nat} (S : Hs) (v : Int32) : OnA c S (sA S c k v) := ⟨fun _ _ => rfl, fun a b q => by rw [gA_sA, if_neg q], fun _ _ => rfl, fun _ => rfl⟩
/-- a loop that copies N ints -/
theorem copy_loop {f : Int32 × Hs → Option ((Int32 × Hs) ⊕ Hs)} {S : Hs} {c p a s N : Nat} (hN : N < 1000000) (hne : c ≠ a ∨ p ≤ s) (hf : ∀ k T, k < N → OnA c S T → f (nI k, T) = some (.inl (nI (k + 1), sA T c (p + k) (gA T a (s + k))))) (hr : ∀ T, OnA c S T → f (nI N, T) = some (.inr T)) :
    ∃ T, loopO f (nI 0, S) = some T ∧ OnA c S T ∧ ∀ b, gA T c b = if p ≤ b ∧ b < p + N then gA S a (s + (b - p)) else gA S c b := by
  obtain ⟨T, h1, h2, h3⟩ := loopO_inv (f := f) (fun k q => k ≤ N ∧ q.1 = nI k ∧ OnA c S q.2 ∧ ∀ b, gA q.2 c b = if p ≤ b ∧ b < p + k then gA S a (s + (b - p)) else gA S c b) (fun T => OnA c S T ∧ ∀ b, gA T c b = if p ≤ b ∧ b < p + N then gA S a (s + (b - p)) else gA S c b) N (fun k q hq => by
    obtain ⟨v, T⟩ := q
    obtain ⟨hk, hv, a1, a2⟩ := hq
    simp only at hv a1 a2
    subst hv
    by_cases hkN : k < N
    · refine Or.inl ⟨hkN, _, hf k T hkN a1, by omega, rfl, a1.tr (OnA.sA _ _), fun b => ?_⟩
      show gA (sA T c (p + k) (gA T a (s + k))) c b = _
      rw [gA_sA, if_pos rfl]
      by_cases hb : b = p + k
      · subst hb
        rw [if_pos rfl, if_pos ⟨by omega, by omega⟩]
        have hsrc : gA T a (s + k) = gA S a (s + k) := by
          by_cases hca : a = c
          · subst hca
            rw [a2, if_neg (by omega)]
          · exact a1.2.1 _ _ hca
        rw [hsrc, show p + k - p = k by omega]
      · rw [if_neg hb, a2 b]
        by_cases hq : p ≤ b ∧ b < p + k
        · rw [if_pos hq, if_pos ⟨hq.1, by omega⟩]
        · rw [if_neg hq, if_neg (by omega)]
    · obtain rfl : k = N := by omega
      exact Or.inr ⟨T, hr T a1, a1, a2⟩) (x := (nI 0, S)) ⟨Nat.zero_le _, rfl, OnA.rf _ _, fun b => by rw [if_neg (by omega)]⟩
  exact ⟨T, h1, h2, h3⟩
/-! sums in blocks, the count of the cells -/
theorem fb_sm_blocks (p : Nat → Nat) (w : Nat) : ∀ m, fb_sm p (w * m) = fb_sm (fun k => fb_sm (fun y => p (w * k + y)) w) m
  | 0 => rfl
  | m + 1 => by rw [Nat.mul_succ, fb_sm_split, fb_sm_blocks p w m, fb_sm_succ]
theorem cnt_cells (Z : Rt) : cnt Z = fb_sm (fun j => colc Z (j / 7) (j % 7)) 49 := by
  rw [cnt_rows, show (49 : Nat) = 7 * 7 from rfl, fb_sm_blocks]
  refine fb_sm_cong fun x hx => ?_
  rw [rowc_cols]
  refine fb_sm_cong fun y hy => ?_
  rw [show (7 * x + y) / 7 = x by omega, show (7 * x + y) % 7 = y by omega]
  rfl
theorem bits_cell {v : Int32} {Z : Rt} {x y : Nat} (h : ∀ b, b < 32 → bt v b = (decide (b < 4) && Z x b y)) : fb_ct (bt v) 8 = colc Z x y := by
  rw [show (8 : Nat) = 4 + 4 from rfl, fb_ct_split]
  have z : fb_ct (fun k => bt v (4 + k)) 4 = 0 := fb_ct_zero.mpr fun k hk => by rw [h _ (by omega), decide_eq_false (by omega), Bool.false_and]
  rw [z, Nat.add_zero]
  exact fb_ct_cong fun j hj => by rw [h _ (by omega), decide_eq_true hj, Bool.true_and]
theorem cells_small (Z : Rt) (k : Nat) (hk : k ≤ 49) : fb_sm (fun j => colc Z (j / 7) (j % 7)) k ≤ 196 := by
  have h1 := fb_sm_mono (fun j => colc Z (j / 7) (j % 7)) k (49 - k)
  rw [show k + (49 - k) = 49 by omega, ← cnt_cells] at h1
  have := cnt_196 Z
  omega
variable {S : Hs} {n : Nat} {K : Kd} {Z : Rt}
theorem rightsMany_ok (h : RepM S 14 0 n K Z) : m_X6_rightsMany S = some (nI (cnt Z)) := by
  unfold m_X6_rightsMany
  have hl := loopO_seq (f := fun x : Int32 × Int32 => m_X6_rightsMany_L4 S x.1 x.2) (w := fun k => (nI (fb_sm (fun j => colc Z (j / 7) (j % 7)) k), nI k)) 49 (r := nI (cnt Z)) (fun k hk => by
    have hc := h.2.2.2.2.2 (k / 7) (by omega) (k % 7) (by omega)
    rw [show 0 + (8 + (7 * (k / 7) + k % 7)) = 8 + k by omega] at hc
    simp only [m_X6_rightsMany_L4]
    simp (disch := omega) only [k_0, k_1, k_2, k_3, k_4, k_5, k_6, k_7, k_8, k_9, k_10, k_14, k_16, k_28, k_30, k_48, k_49, k_57, k_100, k_110, k_127, k_128, k_196, k_255, k_1000, k_1024, k_10000, nI_add, nI_mul, nI_div, irm_nI, nle, nlt, neq, gd_t, inb_nI, cl_nI, bnd_eq, gdT, gdo, gb0, gb1, gbi, bi0, bi1, bi0r, Option.bind_some, bndE_some, ite_t, ite_f, k_m9, k_m1, k_13, k_15, k_18, k_19, k_112, k_114, k_115, k_98, k_103, k_116, k_119, k_47, k_82, k_50, k_51, k_99, k_700, k_197, ne9, ne9s, nI_ne0s, ↓reduceIte, bits_ok, bits_cell hc, fb_sm_succ]) (by
    simp only [m_X6_rightsMany_L4]
    simp (disch := omega) only [k_0, k_1, k_2, k_3, k_4, k_5, k_6, k_7, k_8, k_9, k_10, k_14, k_16, k_28, k_30, k_48, k_49, k_57, k_100, k_110, k_127, k_128, k_196, k_255, k_1000, k_1024, k_10000, nI_add, nI_mul, nI_div, irm_nI, nle, nlt, neq, gd_t, inb_nI, cl_nI, bnd_eq, gdT, gdo, gb0, gb1, gbi, bi0, bi1, bi0r, Option.bind_some, bndE_some, ite_t, ite_f, k_m9, k_m1, k_13, k_15, k_18, k_19, k_112, k_114, k_115, k_98, k_103, k_116, k_119, k_47, k_82, k_50, k_51, k_99, k_700, k_197, ne9, ne9s, nI_ne0s, ↓reduceIte, cnt_cells])
  exact congrArg (fun o : Option Int32 => o.bind fun y => some y) hl
theorem z0 (h : RepM S 14 0 n K Z) : gA S 14 0 = nI n := h.2.2.2.1
theorem z1 (h : RepM S 14 0 n K Z) {j : Nat} (hj : j < n) : gA S 14 (1 + j) = nI (K j) := by
  have := h.2.2.2.2.1 j (by have := h.1; omega)
  rw [if_pos hj, Nat.zero_add] at this
  exact this
theorem z8 (h : RepM S 14 0 n K Z) {x y : Nat} (hx : x < 7) (hy : y < 7) {b : Nat} (hb : b < 4) : bt (gA S 14 (8 + (7 * x + y))) b = Z x b y := by
  have := h.cell hx hy hb
  rwa [Nat.zero_add] at this
theorem isThing_ok (h : RepM S 14 0 n K Z) (v : Int32) : m_X6_isThing v S = some (bi (isT n v)) := by
  have hn := h.1
  unfold m_X6_isThing m_X6_isThing_J18 m_X6_isThing_J19
  simp (disch := omega) only [k_0, k_1, k_2, k_3, k_4, k_5, k_6, k_7, k_8, k_9, k_10, k_14, k_16, k_28, k_30, k_48, k_49, k_57, k_100, k_110, k_127, k_128, k_196, k_255, k_1000, k_1024, k_10000, nI_add, nI_mul, nI_div, irm_nI, nle, nlt, neq, gd_t, inb_nI, cl_nI, bnd_eq, gdT, gdo, gb0, gb1, gbi, bi0, bi1, bi0r, Option.bind_some, bndE_some, ite_t, ite_f, k_m9, k_m1, k_13, k_15, k_18, k_19, k_112, k_114, k_115, k_98, k_103, k_116, k_119, k_47, k_82, k_50, k_51, k_99, k_700, k_197, ne9, ne9s, nI_ne0s, ↓reduceIte, z0 h]
  rw [isT_test v _ _ (by omega)]
  cases isT n v <;> rfl
theorem mhas_ok (h : RepM S 14 0 n K Z) {x k y : Nat} (hx : x < 7) (hk : k < 4) (hy : y < 7) : m_X6_has (nI x) (nI k) (nI y) S = some (bi (Z x k y)) := by
  unfold m_X6_has m_X6_has_J26
  simp (disch := omega) only [k_0, k_1, k_2, k_3, k_4, k_5, k_6, k_7, k_8, k_9, k_10, k_14, k_16, k_28, k_30, k_48, k_49, k_57, k_100, k_110, k_127, k_128, k_196, k_255, k_1000, k_1024, k_10000, nI_add, nI_mul, nI_div, irm_nI, nle, nlt, neq, gd_t, inb_nI, cl_nI, bnd_eq, gdT, gdo, gb0, gb1, gbi, bi0, bi1, bi0r, Option.bind_some, bndE_some, ite_t, ite_f, k_m9, k_m1, k_13, k_15, k_18, k_19, k_112, k_114, k_115, k_98, k_103, k_116, k_119, k_47, k_82, k_50, k_51, k_99, k_700, k_197, ne9, ne9s, nI_ne0s, ↓reduceIte, at_ok, and1 _ (show k < 32 by omega), z8 h hx hy hk]
  cases Z x k y <;> rfl
theorem misPerson_ok (h : RepM S 14 0 n K Z) {x : Nat} (hx : x < n) : m_X6_isPerson (nI x) S = some (bi (decide (K x ≠ 0))) := by
  have hn := h.1
  have h3 := h.2.2.1 x hx
  unfold m_X6_isPerson m_X6_isPerson_J16
  simp (disch := omega) only [k_0, k_1, k_2, k_3, k_4, k_5, k_6, k_7, k_8, k_9, k_10, k_14, k_16, k_28, k_30, k_48, k_49, k_57, k_100, k_110, k_127, k_128, k_196, k_255, k_1000, k_1024, k_10000, nI_add, nI_mul, nI_div, irm_nI, nle, nlt, neq, gd_t, inb_nI, cl_nI, bnd_eq, gdT, gdo, gb0, gb1, gbi, bi0, bi1, bi0r, Option.bind_some, bndE_some, ite_t, ite_f, k_m9, k_m1, k_13, k_15, k_18, k_19, k_112, k_114, k_115, k_98, k_103, k_116, k_119, k_47, k_82, k_50, k_51, k_99, k_700, k_197, ne9, ne9s, nI_ne0s, ↓reduceIte, z1 h hx]
  by_cases hk : K x = 0
  · simp [hk, bi, gd]
  · simp [hk, bi, gd]
theorem in_ok {a b : Nat} (v : Int32) (ha : a < 1000000) (hb : b < 99999) : m_X6_in v (nI a) (nI b) = some (bi (B (∃ x, a ≤ x ∧ x ≤ b ∧ v = nI x))) := by
  unfold m_X6_in m_X6_in_J14 m_X6_in_J15
  by_cases h0 : v < nI a
  · rw [if_pos h0, B_false.mpr]
    · rfl
    · rintro ⟨x, h1, h2, rfl⟩
      rw [nlt (by omega) (by omega)] at h0
      omega
  · rw [if_neg h0]
    by_cases h1 : nI b < v
    · rw [if_pos h1, B_false.mpr]
      · rfl
      · rintro ⟨x, h2, h3, rfl⟩
        rw [nlt (by omega) (by omega)] at h1
        omega
    · rw [if_neg h1, B_iff.mpr]
      · rfl
      · have n0 : ¬ v < 0 := fun q => h0 (by
          rw [Int32.lt_iff_toInt_lt] at q ⊢
          rw [nI_toInt (by omega)]
          have hz : (0 : Int32).toInt = 0 := rfl
          omega)
        have n1 : ¬ nI (b + 1) ≤ v := fun q => h1 (by
          rw [Int32.le_iff_toInt_le, nI_toInt (by omega)] at q
          rw [Int32.lt_iff_toInt_lt, nI_toInt (by omega)]
          omega)
        obtain ⟨x, hx, rfl⟩ := of_range n0 n1 (by omega)
        rw [nlt (by omega) (by omega)] at h0
        exact ⟨x, by omega, by omega, rfl⟩
theorem in_T (v : Int32) {b : Nat} (hb : b < 99999) : m_X6_in v (nI 0) (nI b) = some (bi (isT (b + 1) v)) := by
  rw [in_ok v (by omega) hb]
  congr 2
  unfold isT
  congr 1
  apply propext
  exact ⟨fun ⟨x, _, h2, h3⟩ => ⟨x, by omega, h3⟩, fun ⟨x, h2, h3⟩ => ⟨x, by omega, by omega, h3⟩⟩
/-- the set of the awake ones -/
theorem awakeSet_ok (h : RepM S 14 0 n K Z) : ∃ w, m_X6_awakeSet S = some w ∧ ∀ j, j < 32 → bt w j = aw n K j := by
  have hn := h.1
  unfold m_X6_awakeSet
  obtain ⟨r, h1, h2⟩ := loopO_inv (f := fun x : Int32 × Int32 => m_X6_awakeSet_L4 S x.1 x.2) (fun k q => k ≤ n ∧ q.2 = nI k ∧ ∀ j, j < 32 → bt q.1 j = (decide (j < k) && decide (K j = 1))) (fun w => ∀ j, j < 32 → bt w j = aw n K j) 7 (fun k q hq => by
    obtain ⟨w, v⟩ := q
    obtain ⟨hk, hv, hb⟩ := hq
    simp only at hv hb
    subst hv
    by_cases hkn : k < n
    · have h3 := h.2.2.1 k hkn
      refine Or.inl ⟨by omega, ?_⟩
      simp only [m_X6_awakeSet_L4, m_X6_awakeSet_J34]
      simp (disch := omega) only [k_0, k_1, k_2, k_3, k_4, k_5, k_6, k_7, k_8, k_9, k_10, k_14, k_16, k_28, k_30, k_48, k_49, k_57, k_100, k_110, k_127, k_128, k_196, k_255, k_1000, k_1024, k_10000, nI_add, nI_mul, nI_div, irm_nI, nle, nlt, neq, gd_t, inb_nI, cl_nI, bnd_eq, gdT, gdo, gb0, gb1, gbi, bi0, bi1, bi0r, Option.bind_some, bndE_some, ite_t, ite_f, k_m9, k_m1, k_13, k_15, k_18, k_19, k_112, k_114, k_115, k_98, k_103, k_116, k_119, k_47, k_82, k_50, k_51, k_99, k_700, k_197, ne9, ne9s, nI_ne0s, ↓reduceIte, z0 h, z1 h hkn]
      by_cases hk1 : K k = 1
      · rw [if_pos hk1]
        refine ⟨_, rfl, by omega, rfl, fun j hj => ?_⟩
        show bt (w ||| (nI 1 <<< (nI k &&& 31))) j = _
        rw [show nI 1 = (1 : Int32) from rfl, bt_set _ (show k < 32 by omega) hj, hb j hj]
        by_cases hjk : j = k
        · subst hjk
          simp [hk1]
        · rw [show decide (j < k + 1) = decide (j < k) by rw [decide_eq_decide]; omega]
          simp [hjk]
      · rw [if_neg hk1]
        refine ⟨_, rfl, by omega, rfl, fun j hj => ?_⟩
        show bt (w ||| nI 0) j = _
        rw [b_or, show nI 0 = (0 : Int32) from rfl, b_0, hb j hj]
        by_cases hjk : j = k
        · subst hjk
          simp [hk1]
        · rw [show decide (j < k + 1) = decide (j < k) by rw [decide_eq_decide]; omega]
          simp
    · obtain rfl : k = n := by omega
      refine Or.inr ⟨w, ?_, fun j hj => by rw [hb j hj]; rfl⟩
      simp only [m_X6_awakeSet_L4]
      simp (disch := omega) only [k_0, k_1, k_2, k_3, k_4, k_5, k_6, k_7, k_8, k_9, k_10, k_14, k_16, k_28, k_30, k_48, k_49, k_57, k_100, k_110, k_127, k_128, k_196, k_255, k_1000, k_1024, k_10000, nI_add, nI_mul, nI_div, irm_nI, nle, nlt, neq, gd_t, inb_nI, cl_nI, bnd_eq, gdT, gdo, gb0, gb1, gbi, bi0, bi1, bi0r, Option.bind_some, bndE_some, ite_t, ite_f, k_m9, k_m1, k_13, k_15, k_18, k_19, k_112, k_114, k_115, k_98, k_103, k_116, k_119, k_47, k_82, k_50, k_51, k_99, k_700, k_197, ne9, ne9s, nI_ne0s, ↓reduceIte, z0 h]) (x := (nI 0, nI 0)) ⟨by omega, rfl, fun j hj => by rw [show nI 0 = (0 : Int32) from rfl, b_0]; simp⟩
  exact ⟨r, congrArg (fun o : Option Int32 => o.bind fun y => some y) h1, h2⟩
/-- a right put or removed -/
theorem mput_ok (h : RepM S 14 0 n K Z) {x k y : Nat} (hx : x < n) (hk : k < 4) (hy : y < n) (hne : x ≠ y) (b : Bool) : ∃ v, m_X6_put (nI x) (nI k) (nI y) (bi b) S = some (sA S 14 (8 + (7 * x + y)) v) ∧ RepM (sA S 14 (8 + (7 * x + y)) v) 14 0 n K (upR Z x k y b) := by
  obtain ⟨hn, hw, h3, h4, h5, h6⟩ := h
  have main : ∀ v : Int32, (∀ j, j < 32 → bt v j = if j = k then b else bt (gA S 14 (8 + (7 * x + y))) j) → RepM (sA S 14 (8 + (7 * x + y)) v) 14 0 n K (upR Z x k y b) := by
    intro v hv
    refine ⟨hn, upR_WF hw b hx hk hy hne, h3, ?_, fun j hj => ?_, fun x' hx' y' hy' j hj => ?_⟩
    · rw [gA_sA, if_pos rfl, if_neg (by omega)]
      exact h4
    · rw [gA_sA, if_pos rfl, if_neg (by omega)]
      exact h5 j hj
    · rw [gA_sA, if_pos rfl]
      have hcell := h6 x' hx' y' hy' j hj
      by_cases hc : x' = x ∧ y' = y
      · obtain ⟨rfl, rfl⟩ := hc
        rw [Nat.zero_add] at hcell
        rw [if_pos (by omega), hv j hj, hcell]
        unfold upR
        by_cases hjk : j = k
        · subst hjk
          simp [hk]
        · simp [hjk]
      · rw [if_neg (by omega), hcell]
        congr 1
        unfold upR
        rw [if_neg (by omega)]
  unfold m_X6_put m_X6_put_J49
  simp (disch := omega) only [k_0, k_1, k_2, k_3, k_4, k_5, k_6, k_7, k_8, k_9, k_10, k_14, k_16, k_28, k_30, k_48, k_49, k_57, k_100, k_110, k_127, k_128, k_196, k_255, k_1000, k_1024, k_10000, nI_add, nI_mul, nI_div, irm_nI, nle, nlt, neq, gd_t, inb_nI, cl_nI, bnd_eq, gdT, gdo, gb0, gb1, gbi, bi0, bi1, bi0r, Option.bind_some, bndE_some, ite_t, ite_f, k_m9, k_m1, k_13, k_15, k_18, k_19, k_112, k_114, k_115, k_98, k_103, k_116, k_119, k_47, k_82, k_50, k_51, k_99, k_700, k_197, ne9, ne9s, nI_ne0s, ↓reduceIte, at_ok]
  cases b
  · refine ⟨_, by rw [if_pos rfl], main _ fun j hj => ?_⟩
    rw [show nI 1 = (1 : Int32) from rfl, show m1 = (-1 : Int32) from rfl, bt_clr _ (show k < 32 by omega) hj]
    by_cases hjk : j = k <;> simp [hjk]
  · refine ⟨_, by rw [if_neg (by decide)], main _ fun j hj => ?_⟩
    rw [show nI 1 = (1 : Int32) from rfl, bt_set _ (show k < 32 by omega) hj]
    by_cases hjk : j = k <;> simp [hjk]
theorem hinders_ok (h : RepM S 14 0 n K Z) {p y k z : Nat} (hp : p < n) (hy : y < n) (hk : k < 4) (hz : z < n) (g : Bool) : m_X6_hinders (bi g) (nI p) (nI y) (nI k) (nI z) S = some (nI (bars K Z g p y k z)) := by
  have hn := h.1
  have h3 := h.2.2.1 p hp
  unfold m_X6_hinders m_X6_hinders_J35 m_X6_hinders_J54 m_X6_hinders_J69 bars
  simp (disch := omega) only [k_0, k_1, k_2, k_3, k_4, k_5, k_6, k_7, k_8, k_9, k_10, k_14, k_16, k_28, k_30, k_48, k_49, k_57, k_100, k_110, k_127, k_128, k_196, k_255, k_1000, k_1024, k_10000, nI_add, nI_mul, nI_div, irm_nI, nle, nlt, neq, gd_t, inb_nI, cl_nI, bnd_eq, gdT, gdo, gb0, gb1, gbi, bi0, bi1, bi0r, Option.bind_some, bndE_some, ite_t, ite_f, k_m9, k_m1, k_13, k_15, k_18, k_19, k_112, k_114, k_115, k_98, k_103, k_116, k_119, k_47, k_82, k_50, k_51, k_99, k_700, k_197, ne9, ne9s, nI_ne0s, ↓reduceIte, misPerson_ok h hp, z1 h hp]
  by_cases h0 : K p = 0
  · simp [h0]
  by_cases h2 : K p = 2
  · simp [h2]
  have h1 : K p = 1 := by omega
  cases g
  · simp (disch := omega) only [k_0, k_1, k_2, k_3, k_4, k_5, k_6, k_7, k_8, k_9, k_10, k_14, k_16, k_28, k_30, k_48, k_49, k_57, k_100, k_110, k_127, k_128, k_196, k_255, k_1000, k_1024, k_10000, nI_add, nI_mul, nI_div, irm_nI, nle, nlt, neq, gd_t, inb_nI, cl_nI, bnd_eq, gdT, gdo, gb0, gb1, gbi, bi0, bi1, bi0r, Option.bind_some, bndE_some, ite_t, ite_f, k_m9, k_m1, k_13, k_15, k_18, k_19, k_112, k_114, k_115, k_98, k_103, k_116, k_119, k_47, k_82, k_50, k_51, k_99, k_700, k_197, ne9, ne9s, nI_ne0s, ↓reduceIte, mhas_ok h (show p < 7 by omega) (show 0 < 4 by omega) (show y < 7 by omega), mhas_ok h (show y < 7 by omega) hk (show z < 7 by omega), h1]
    cases q1 : Z p 0 y <;> cases q2 : Z y k z <;> simp [q1, q2, bi]
  · simp (disch := omega) only [k_0, k_1, k_2, k_3, k_4, k_5, k_6, k_7, k_8, k_9, k_10, k_14, k_16, k_28, k_30, k_48, k_49, k_57, k_100, k_110, k_127, k_128, k_196, k_255, k_1000, k_1024, k_10000, nI_add, nI_mul, nI_div, irm_nI, nle, nlt, neq, gd_t, inb_nI, cl_nI, bnd_eq, gdT, gdo, gb0, gb1, gbi, bi0, bi1, bi0r, Option.bind_some, bndE_some, ite_t, ite_f, k_m9, k_m1, k_13, k_15, k_18, k_19, k_112, k_114, k_115, k_98, k_103, k_116, k_119, k_47, k_82, k_50, k_51, k_99, k_700, k_197, ne9, ne9s, nI_ne0s, ↓reduceIte, mhas_ok h (show p < 7 by omega) (show 1 < 4 by omega) (show y < 7 by omega), mhas_ok h (show p < 7 by omega) hk (show z < 7 by omega), h1]
    cases q1 : Z p 1 y <;> cases q2 : Z p k z <;> simp [q1, q2, bi]
