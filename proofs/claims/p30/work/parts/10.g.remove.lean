/-! a thing goes; counts of a column, of bits -/
/-- the bits of the four rights over y -/
theorem b_over : ∀ y, y < 7 → ∀ j, j < 32 → bt ((2113665 : Int32) <<< (nI y &&& 31)) j = (decide (j < 28) && decide (j % 7 = y)) := by decide +kernel
def colc (Z : Rt) (x y : Nat) : Nat := fb_ct (fun k => Z x k y) 4
theorem fb_ct_one {p : Nat → Bool} {n i : Nat} (hi : i < n) (h : ∀ k, k < n → k ≠ i → p k = false) : fb_ct p n = if p i then 1 else 0 := by
  have e := fb_ct_upd (fun _ => false) (p i) hi
  have z : fb_ct (fun _ => false) n = 0 := fb_ct_zero.mpr fun _ _ => rfl
  rw [z] at e
  have c : fb_ct p n = fb_ct (fun k => if k = i then p i else false) n := fb_ct_cong fun k hk => by
    by_cases hki : k = i
    · rw [if_pos hki, hki]
    · rw [if_neg hki, h k hk hki]
  simp only [Bool.false_eq_true, if_false, Nat.add_zero, Nat.zero_add] at e
  rw [c, e]
theorem row_over {S : Hs} {i n : Nat} {K : Kd} {Z : Rt} (h : RepS S i n K Z) {x y : Nat} (hx : x < 7) (hy : y < 7) : fb_ct (bt (gA S (i + 1) x &&& ((2113665 : Int32) <<< (nI y &&& 31)))) 32 = colc Z x y := by
  have hr := h.2.2.2.2.2 x hx
  rw [show (32 : Nat) = 28 + 4 from rfl, fb_ct_split]
  have z : fb_ct (fun k => bt (gA S (i + 1) x &&& ((2113665 : Int32) <<< (nI y &&& 31))) (28 + k)) 4 = 0 := fb_ct_zero.mpr fun k hk => by rw [b_and, hr _ (by omega), decide_eq_false (by omega), Bool.false_and, Bool.false_and]
  rw [z, Nat.add_zero, show (28 : Nat) = 7 * 4 from rfl, fb_ct_blocks]
  unfold colc
  rw [fb_ct_sm]
  refine fb_sm_cong fun k hk => ?_
  have hb : ∀ m, m < 7 → bt (gA S (i + 1) x &&& ((2113665 : Int32) <<< (nI y &&& 31))) (7 * k + m) = (Z x k m && decide (m = y)) := by
    intro m hm
    rw [b_and, hr _ (by omega), b_over y hy _ (by omega), show (7 * k + m) / 7 = k by omega, show (7 * k + m) % 7 = m by omega]
    simp [show 7 * k + m < 28 by omega]
  rw [fb_ct_one hy (fun m hm hne => by rw [hb m hm, decide_eq_false hne, Bool.and_false]), hb y hy]
  simp
theorem countRightsOver_ok {S : Hs} {i n : Nat} {K : Kd} {Z : Rt} (h : RepS S i n K Z) {y : Nat} (hy : y < 7) : m_X3_countRightsOver i (nI y) S = some (nI (fb_sm (fun x => colc Z x y) n)) := by
  have hn := h.1
  unfold m_X3_countRightsOver
  have hl := loopO_seq (f := fun x : Int32 × Int32 => m_X3_countRightsOver_L4 i (nI y) S x.1 x.2) (w := fun k => (nI (fb_sm (fun x => colc Z x y) k), nI k)) n (r := nI (fb_sm (fun x => colc Z x y) n)) (fun k hk => by
    simp only [m_X3_countRightsOver_L4, h.2.2.1]
    simp (disch := omega) only [k_0, k_1, k_2, k_3, k_4, k_5, k_6, k_7, k_8, k_9, k_10, k_14, k_16, k_28, k_30, k_48, k_49, k_57, k_100, k_110, k_127, k_128, k_196, k_255, k_1000, k_1024, k_10000, nI_add, nI_mul, nI_div, irm_nI, nle, nlt, neq, gd_t, inb_nI, cl_nI, bnd_eq, gdT, gdo, gb0, gb1, gbi, bi0, bi1, bi0r, Option.bind_some, bndE_some, ite_t, ite_f, bitCount_ok, row_over h (show k < 7 by omega) hy]
    rfl) (by
    simp only [m_X3_countRightsOver_L4, h.2.2.1]
    simp (disch := omega) only [k_0, k_1, k_2, k_3, k_4, k_5, k_6, k_7, k_8, k_9, k_10, k_14, k_16, k_28, k_30, k_48, k_49, k_57, k_100, k_110, k_127, k_128, k_196, k_255, k_1000, k_1024, k_10000, nI_add, nI_mul, nI_div, irm_nI, nle, nlt, neq, gd_t, inb_nI, cl_nI, bnd_eq, gdT, gdo, gb0, gb1, gbi, bi0, bi1, bi0r, Option.bind_some, bndE_some, ite_t, ite_f])
  exact congrArg (fun o : Option Int32 => o.bind fun y => some y) hl
theorem persons_ct {S : Hs} {i n : Nat} {K : Kd} {Z : Rt} (h : RepS S i n K Z) : fb_ct (bt (gI S i 1)) 32 = fb_ct (fun j => decide (K j ≠ 0)) n := by
  have hn := h.1
  rw [show (32 : Nat) = n + (32 - n) by omega, fb_ct_split]
  have z : fb_ct (fun k => bt (gI S i 1) (n + k)) (32 - n) = 0 := fb_ct_zero.mpr fun k hk => by rw [h.2.2.2.1 _ (by omega), decide_eq_false (by omega), Bool.false_and]
  rw [z, Nat.add_zero]
  exact fb_ct_cong fun j hj => by rw [h.2.2.2.1 _ (by omega), decide_eq_true hj, Bool.true_and]
theorem awake_ct {S : Hs} {i n : Nat} {K : Kd} {Z : Rt} (h : RepS S i n K Z) : fb_ct (bt (gI S i 2)) 32 = fb_ct (fun j => decide (K j = 1)) n := by
  have hn := h.1
  rw [show (32 : Nat) = n + (32 - n) by omega, fb_ct_split]
  have z : fb_ct (fun k => bt (gI S i 2) (n + k)) (32 - n) = 0 := fb_ct_zero.mpr fun k hk => by rw [h.2.2.2.2.1 _ (by omega), decide_eq_false (by omega), Bool.false_and]
  rw [z, Nat.add_zero]
  exact fb_ct_cong fun j hj => by rw [h.2.2.2.2.1 _ (by omega), decide_eq_true hj, Bool.true_and]
