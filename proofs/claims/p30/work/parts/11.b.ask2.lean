/-! the askings: cut, cutAt, rights, about, thing -/
theorem cutv_cases (A : Nat → Bool) (Z : Rt) (a c d : Nat) : (cutv A Z a c d = nI 0 ∧ cut0 A Z a c d = m9 ∧ cut1 A Z a c d = m9) ∨ (cutv A Z a c d = nI 1 ∧ cut1 A Z a c d = m9) ∨ cutv A Z a c d = nI 2 ∨ (cutv A Z a c d = m9 ∧ cut0 A Z a c d = m9 ∧ cut1 A Z a c d = m9) := by
  unfold cutv cut0 cut1
  by_cases h1 : Clo A Z a c d = true
  · simp only [if_pos h1]
    by_cases h2 : lf (cq1 A Z a c d) 196 < 196
    · simp only [if_pos h2]
      exact Or.inr (Or.inl ⟨trivial, trivial⟩)
    · simp only [if_neg h2]
      by_cases h3 : cla A Z a c d < 196
      · simp only [if_pos h3]
        exact Or.inr (Or.inr (Or.inl trivial))
      · simp only [if_neg h3]
        exact Or.inr (Or.inr (Or.inr ⟨trivial, trivial, trivial⟩))
  · simp only [if_neg h1]
    exact Or.inl ⟨trivial, trivial, trivial⟩
/-- the rights of one thing over another one -/
theorem rights_loop {S : Hs} {i n : Nat} {K : Kd} {Z : Rt} (h : RepS S i n K Z) {a d : Nat} (ha : a < 7) (hd : d < 7) : ∃ w, loopO (fun x => m_X5_rights_L34 (nI a) (nI d) i S x.1 x.2) (nI 0, nI 0) = some w ∧ ∀ b, b < 32 → bt w b = (decide (b < 4) && Z a b d) := by
  refine loopO_inv (f := fun x : Int32 × Int32 => m_X5_rights_L34 (nI a) (nI d) i S x.1 x.2) (fun c q => c ≤ 4 ∧ q.2 = nI c ∧ ∀ b, b < 32 → bt q.1 b = (decide (b < c) && Z a b d)) _ 4 (fun c q hq => ?_) ⟨by omega, rfl, fun b hb => by rw [show nI 0 = (0 : Int32) from rfl, b_0]; simp⟩
  obtain ⟨w, v⟩ := q
  obtain ⟨hc, hv, hb⟩ := hq
  simp only at hv hb
  subst hv
  by_cases hc4 : c < 4
  · refine Or.inl ⟨hc4, ?_⟩
    simp only [m_X5_rights_L34, m_X5_rights_J64]
    cases hz : Z a c d
    · simp (disch := omega) only [k_0, k_1, k_2, k_3, k_4, k_5, k_6, k_7, k_8, k_9, k_10, k_14, k_16, k_28, k_30, k_48, k_49, k_57, k_100, k_110, k_127, k_128, k_196, k_255, k_1000, k_1024, k_10000, nI_add, nI_mul, nI_div, irm_nI, nle, nlt, neq, gd_t, inb_nI, cl_nI, bnd_eq, gdT, gdo, gb0, gb1, gbi, bi0, bi1, bi0r, Option.bind_some, bndE_some, ite_t, ite_f, k_m9, k_m1, k_13, k_15, k_18, k_19, k_112, k_114, k_115, k_98, k_103, k_116, k_119, k_47, k_82, k_50, k_51, k_99, k_700, k_197, ne9, ne9s, nI_ne0s, ↓reduceIte, ix_nI, has_bi h ha hc4 hd, hz]
      refine ⟨_, rfl, by omega, rfl, fun b hb32 => ?_⟩
      show bt w b = _
      rw [hb b hb32]
      by_cases hbc : b = c
      · subst hbc
        simp [hz]
      · rw [show decide (b < c + 1) = decide (b < c) by rw [decide_eq_decide]; omega]
    · simp (disch := omega) only [k_0, k_1, k_2, k_3, k_4, k_5, k_6, k_7, k_8, k_9, k_10, k_14, k_16, k_28, k_30, k_48, k_49, k_57, k_100, k_110, k_127, k_128, k_196, k_255, k_1000, k_1024, k_10000, nI_add, nI_mul, nI_div, irm_nI, nle, nlt, neq, gd_t, inb_nI, cl_nI, bnd_eq, gdT, gdo, gb0, gb1, gbi, bi0, bi1, bi0r, Option.bind_some, bndE_some, ite_t, ite_f, k_m9, k_m1, k_13, k_15, k_18, k_19, k_112, k_114, k_115, k_98, k_103, k_116, k_119, k_47, k_82, k_50, k_51, k_99, k_700, k_197, ne9, ne9s, nI_ne0s, ↓reduceIte, ix_nI, has_bi h ha hc4 hd, hz, Bool.true_eq_false]
      refine ⟨_, rfl, by omega, rfl, fun b hb32 => ?_⟩
      show bt (w ||| (nI 1 <<< (nI c &&& 31))) b = _
      rw [show nI 1 = (1 : Int32) from rfl, bt_set _ (show c < 32 by omega) hb32, hb b hb32]
      by_cases hbc : b = c
      · subst hbc
        simp [hz]
      · rw [show decide (b < c + 1) = decide (b < c) by rw [decide_eq_decide]; omega]
        simp [hbc]
  · obtain rfl : c = 4 := by omega
    refine Or.inr ⟨w, ?_, hb⟩
    simp only [m_X5_rights_L34]
    simp (disch := omega) only [k_0, k_1, k_2, k_3, k_4, k_5, k_6, k_7, k_8, k_9, k_10, k_14, k_16, k_28, k_30, k_48, k_49, k_57, k_100, k_110, k_127, k_128, k_196, k_255, k_1000, k_1024, k_10000, nI_add, nI_mul, nI_div, irm_nI, nle, nlt, neq, gd_t, inb_nI, cl_nI, bnd_eq, gdT, gdo, gb0, gb1, gbi, bi0, bi1, bi0r, Option.bind_some, bndE_some, ite_t, ite_f, k_m9, k_m1, k_13, k_15, k_18, k_19, k_112, k_114, k_115, k_98, k_103, k_116, k_119, k_47, k_82, k_50, k_51, k_99, k_700, k_197, ne9, ne9s, nI_ne0s, ↓reduceIte]
theorem isSt65 : isSt 65 = true := rfl
theorem endOf_ok {S : Hs} {i n : Nat} {K : Kd} {Z : Rt} (h : RepS S i n K Z) (hi : i ≠ 65) : ∃ S', m_X5_endOf i S = some (65, S') ∧ RepS S' 65 n K (Clo (aw n K) Z) ∧ SameB 65 S S' := by
  obtain ⟨S1, a1, a2, a3⟩ := copyFrom_ok (i := 65) h (by omega)
  obtain ⟨S2, b1, b2, b3⟩ := spreadOut_ok a2
  refine ⟨S2, ?_, b2, a3.tr b3⟩
  unfold m_X5_endOf
  rw [a1, Option.bind_some, b1, Option.bind_some]
theorem bndEN_some {α γ : Type} (a : α) (T : Hs) (f : α → Hs → Option γ) : bndE (some (a, T)) f = f a T := rfl
