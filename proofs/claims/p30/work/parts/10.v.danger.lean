/-! whose sleep bars most, the most dangerous right -/
variable {S : Hs} {n : Nat} {K : Kd} {Z : Rt} {A : Nat → Bool}
noncomputable def slz (n : Nat) (K : Kd) (Z : Rt) (i : Nat) : Nat := cnt (Clo (aw n (wkK K i false)) Z)
noncomputable def slb (n : Nat) (K : Kd) (Z : Rt) (c : Nat) : Nat := mb 128 (aw n K) (slz n K Z) c
noncomputable def slv (n : Nat) (K : Kd) (Z : Rt) (c : Nat) : Int32 := if slb n K Z c = 128 then m9 else nI (slb n K Z c)
theorem slb_lt {c : Nat} (hc : c ≤ 128) : slb n K Z c = 128 ∨ slb n K Z c < c := by
  rcases mb_lt (N := 128) (q := aw n K) (z := slz n K Z) (c := c) with h | h
  · exact Or.inl h
  · exact Or.inr h.1
theorem slz_195 (hw : WF n Z) (i : Nat) : slz n K Z i < 196 := cnt_195 (Clo_WF hw)
theorem aw_wk {i : Nat} : aw n (wkK K i false) = fun j => aw n K j && !decide (j = i) := by
  funext j
  unfold aw wkK
  by_cases hj : j = i
  · simp [hj]
  · simp [hj]
theorem sleeper_ok (h : RepS S 29 n K Z) : ∃ S', m_X5_sleeper S = some (slv n K Z n, S') ∧ SameB 65 S S' := by
  have hn := h.1
  unfold m_X5_sleeper
  obtain ⟨⟨v, S'⟩, e1, e2, e3⟩ := loopO_inv (f := fun q : Int32 × Int32 × Int32 × Hs => m_X5_sleeper_L9 q.1 q.2.1 q.2.2.1 q.2.2.2) (fun c q => c ≤ n ∧ q.2.2.1 = nI c ∧ q.1 = slv n K Z c ∧ q.2.1 = nI (if slb n K Z c = 128 then 196 else slz n K Z (slb n K Z c)) ∧ SameB 65 S q.2.2.2) (fun r => r.1 = slv n K Z n ∧ SameB 65 S r.2) 7 (fun c q hq => by
    obtain ⟨b, f, v, U⟩ := q
    obtain ⟨hc, hv, hb, hf, a1⟩ := hq
    simp only at hv hb hf a1
    subst hv hb hf
    have hU : RepS U 29 n K Z := h.keep a1 (by omega) (by omega)
    by_cases hcn : c < n
    · refine Or.inl ⟨by omega, ?_⟩
      have hst : slb n K Z (c + 1) = if aw n K c = true ∧ (slb n K Z c = 128 ∨ slz n K Z c < slz n K Z (slb n K Z c)) then c else slb n K Z c := rfl
      have z1 := slz_195 (K := K) h.2.1 c
      have z2 := slz_195 (K := K) h.2.1 (slb n K Z c)
      have haw : decide (c < n ∧ K c = 1) = aw n K c := by unfold aw; simp
      simp only [m_X5_sleeper_L9, m_X5_sleeper_J79, hU.2.2.1]
      generalize hff : (if slb n K Z c = 128 then 196 else slz n K Z (slb n K Z c)) = ff
      have hff2 : ff ≤ 196 := by rw [← hff]; split <;> omega
      have keep : ¬ (aw n K c = true ∧ slz n K Z c < ff) → slb n K Z (c + 1) = slb n K Z c := fun e => by
        rw [hst, if_neg]
        rintro ⟨e1, e2⟩
        refine e ⟨e1, ?_⟩
        rw [← hff]
        split <;> omega
      cases ha : aw n K c
      · have kp := keep (fun e => by rw [ha] at e; exact absurd e.1 Bool.false_ne_true)
        simp (disch := omega) only [k_0, k_1, k_2, k_3, k_4, k_5, k_6, k_7, k_8, k_9, k_10, k_14, k_16, k_28, k_30, k_48, k_49, k_57, k_100, k_110, k_127, k_128, k_196, k_255, k_1000, k_1024, k_10000, nI_add, nI_mul, nI_div, irm_nI, nle, nlt, neq, gd_t, inb_nI, cl_nI, bnd_eq, gdT, gdo, gb0, gb1, gbi, bi0, bi1, bi0r, Option.bind_some, bndE_some, ite_t, ite_f, k_m9, k_m1, k_13, k_15, k_18, k_19, k_112, k_114, k_115, k_98, k_103, k_116, k_119, k_47, k_82, k_50, k_51, k_99, k_700, k_197, ne9, ne9s, nI_ne0s, ↓reduceIte, isAwake_bi hU (show c < 32 by omega), haw, ha]
        exact ⟨_, rfl, by omega, rfl, by unfold slv; rw [kp], by rw [kp, hff], a1⟩
      · obtain ⟨S1, b1, b2, b3⟩ := copyFrom_ok (i := 65) hU (by omega)
        obtain ⟨S2, c1, c2, c3⟩ := setAwake_ok b2 hcn (by rw [(aw_iff.mp ha).2]; omega) false
        obtain ⟨S3, d1, d2, d3⟩ := spreadOut_ok c2
        have hS3 := a1.tr ((b3.tr c3).tr d3)
        have hcr : m_X3_countRights 65 S3 = some (nI (slz n K Z c)) := countRights_ok d2
        rw [bi_f] at c1
        by_cases hlt : slz n K Z c < ff
        · have tk : slb n K Z (c + 1) = c := by
            rw [hst, if_pos]
            refine ⟨ha, ?_⟩
            by_cases h2 : slb n K Z c = 128
            · exact Or.inl h2
            · rw [if_neg h2] at hff
              omega
          simp (disch := omega) only [k_0, k_1, k_2, k_3, k_4, k_5, k_6, k_7, k_8, k_9, k_10, k_14, k_16, k_28, k_30, k_48, k_49, k_57, k_100, k_110, k_127, k_128, k_196, k_255, k_1000, k_1024, k_10000, nI_add, nI_mul, nI_div, irm_nI, nle, nlt, neq, gd_t, inb_nI, cl_nI, bnd_eq, gdT, gdo, gb0, gb1, gbi, bi0, bi1, bi0r, Option.bind_some, bndE_some, ite_t, ite_f, k_m9, k_m1, k_13, k_15, k_18, k_19, k_112, k_114, k_115, k_98, k_103, k_116, k_119, k_47, k_82, k_50, k_51, k_99, k_700, k_197, ne9, ne9s, nI_ne0s, ↓reduceIte, isAwake_bi hU (show c < 32 by omega), haw, ha, Bool.true_eq_false, b1, c1, d1, hcr]
          exact ⟨_, rfl, by omega, rfl, by unfold slv; rw [tk, if_neg (by omega)], by first | rw [tk, if_neg (by omega)] | rw [tk], hS3⟩
        · have kp := keep fun e => hlt e.2
          simp (disch := omega) only [k_0, k_1, k_2, k_3, k_4, k_5, k_6, k_7, k_8, k_9, k_10, k_14, k_16, k_28, k_30, k_48, k_49, k_57, k_100, k_110, k_127, k_128, k_196, k_255, k_1000, k_1024, k_10000, nI_add, nI_mul, nI_div, irm_nI, nle, nlt, neq, gd_t, inb_nI, cl_nI, bnd_eq, gdT, gdo, gb0, gb1, gbi, bi0, bi1, bi0r, Option.bind_some, bndE_some, ite_t, ite_f, k_m9, k_m1, k_13, k_15, k_18, k_19, k_112, k_114, k_115, k_98, k_103, k_116, k_119, k_47, k_82, k_50, k_51, k_99, k_700, k_197, ne9, ne9s, nI_ne0s, ↓reduceIte, isAwake_bi hU (show c < 32 by omega), haw, ha, Bool.true_eq_false, b1, c1, d1, hcr]
          exact ⟨_, rfl, by omega, rfl, by unfold slv; rw [kp], by rw [kp, hff], hS3⟩
    · obtain rfl : c = n := by omega
      refine Or.inr ⟨(slv c K Z c, U), ?_, rfl, a1⟩
      simp only [m_X5_sleeper_L9, hU.2.2.1]
      simp (disch := omega) only [k_0, k_1, k_2, k_3, k_4, k_5, k_6, k_7, k_8, k_9, k_10, k_14, k_16, k_28, k_30, k_48, k_49, k_57, k_100, k_110, k_127, k_128, k_196, k_255, k_1000, k_1024, k_10000, nI_add, nI_mul, nI_div, irm_nI, nle, nlt, neq, gd_t, inb_nI, cl_nI, bnd_eq, gdT, gdo, gb0, gb1, gbi, bi0, bi1, bi0r, Option.bind_some, bndE_some, ite_t, ite_f, k_m9, k_m1, k_13, k_15, k_18, k_19, k_112, k_114, k_115, k_98, k_103, k_116, k_119, k_47, k_82, k_50, k_51, k_99, k_700, k_197, ne9, ne9s, nI_ne0s, ↓reduceIte]) (x := (m9, nI 196, nI 0, S)) ⟨by omega, rfl, rfl, rfl, SameB.rf _ _⟩
  simp only at e2
  subst e2
  exact ⟨S', by simp (disch := omega) only [k_0, k_1, k_2, k_3, k_4, k_5, k_6, k_7, k_8, k_9, k_10, k_14, k_16, k_28, k_30, k_48, k_49, k_57, k_100, k_110, k_127, k_128, k_196, k_255, k_1000, k_1024, k_10000, nI_add, nI_mul, nI_div, irm_nI, nle, nlt, neq, gd_t, inb_nI, cl_nI, bnd_eq, gdT, gdo, gb0, gb1, gbi, bi0, bi1, bi0r, Option.bind_some, bndE_some, ite_t, ite_f, k_m9, k_m1, k_13, k_15, k_18, k_19, k_112, k_114, k_115, k_98, k_103, k_116, k_119, k_47, k_82, k_50, k_51, k_99, k_700, k_197, ne9, ne9s, nI_ne0s, ↓reduceIte]; rw [e1]; rfl, e3⟩
/-! the most dangerous right -/
def ins (Z : Rt) (j : Nat) : Rt := upR Z (j / 28) (j % 28 / 7) (j % 28 % 7) true
theorem ins_iff {j x k y : Nat} : ins Z j x k y = true ↔ (x = j / 28 ∧ k = j % 28 / 7 ∧ y = j % 28 % 7) ∨ Z x k y = true := upR_or
theorem ins_sub (j : Nat) : Sub Z (ins Z j) := fun x k y q => ins_iff.mpr (Or.inr q)
theorem Clo_ins_in {j : Nat} (h : fl (Clo A Z) j = true) : Clo A (ins Z j) = Clo A Z := by
  refine Sub.anti (Clo_min (fun x k y q => ?_) (Clo_cls A Z)) (Clo_mono (ins_sub j))
  rcases ins_iff.mp q with ⟨rfl, rfl, rfl⟩ | q
  · exact h
  · exact Clo_sub A Z x k y q
theorem Clo_ins_end (j : Nat) : Clo A (ins (Clo A Z) j) = Clo A (ins Z j) := by
  refine Sub.anti (Clo_min (fun x k y q => ?_) (Clo_cls A _)) (Clo_mono fun x k y q => ?_)
  · rcases ins_iff.mp q with q | q
    · exact Clo_sub A _ x k y (ins_iff.mpr (Or.inl q))
    · exact Clo_mono (ins_sub j) x k y q
  · rcases ins_iff.mp q with q | q
    · exact ins_iff.mpr (Or.inl q)
    · exact ins_iff.mpr (Or.inr (Clo_sub A Z x k y q))
noncomputable def dgc (A : Nat → Bool) (Z : Rt) (j : Nat) : Nat := cnt (Clo A (ins Z j))
def dgq (n : Nat) (Z : Rt) (j : Nat) : Bool := decide (j / 28 < n ∧ j % 28 % 7 < n ∧ j / 28 ≠ j % 28 % 7) && !fl Z j
noncomputable def dgb (n : Nat) (A : Nat → Bool) (Z : Rt) (c : Nat) : Nat := mb 999 (dgq n Z) (fun j => 1000 - dgc A Z j) c
noncomputable def dgv (n : Nat) (A : Nat → Bool) (Z : Rt) (c : Nat) : Int32 := if dgb n A Z c = 999 then m9 else nI (num (dgb n A Z c))
theorem dgc_196 (j : Nat) : dgc A Z j ≤ 196 := cnt_196 _
theorem dgb_succ (c : Nat) : dgb n A Z (c + 1) = if dgq n Z c = true ∧ (dgb n A Z c = 999 ∨ dgc A Z (dgb n A Z c) < dgc A Z c) then c else dgb n A Z c := by
  have h1 := dgc_196 (A := A) (Z := Z) c
  have h2 := dgc_196 (A := A) (Z := Z) (dgb n A Z c)
  unfold dgb at *
  rw [mb_succ]
  refine ite_cg ?_ _ _
  refine and_congr Iff.rfl (or_congr Iff.rfl ?_)
  omega
theorem dgb_lt {c : Nat} : dgb n A Z c = 999 ∨ dgb n A Z c < c := by
  rcases mb_lt (N := 999) (q := dgq n Z) (z := fun j => 1000 - dgc A Z j) (c := c) with h | h
  · exact Or.inl h
  · exact Or.inr h.1
theorem dgq_WF {j : Nat} (h : dgq n Z j = true) : (j / 28 < n ∧ j % 28 / 7 < 4 ∧ j % 28 % 7 < n ∧ j / 28 ≠ j % 28 % 7) ∧ fl Z j = false := by
  unfold dgq at h
  rw [Bool.and_eq_true, decide_eq_true_eq, Bool.not_eq_true'] at h
  exact ⟨⟨h.1.1, by omega, h.1.2.1, h.1.2.2⟩, h.2⟩
theorem comes_fl (h : Fol S n K Z) (hw : WF n Z) (hn : n ≤ 7) {j : Nat} (hj : j < 196) : m_X2_comes (nI j) S = some (bi (fl (Clo (aw n K) Z) j)) := by
  obtain ⟨e1, e2, e3, e4⟩ := ix_of hj
  have := comes_ok h hw hn e2 e3 e4
  rw [e1] at this
  exact this
theorem countAtEndWith_ok (h : Fol S n K Z) (hw : WF n Z) (hn : n ≤ 7) {j : Nat} (hj : j < 196) (hq : dgq n Z j = true) : ∃ S', m_X5_countAtEndWith (nI j) S = some (nI (dgc (aw n K) Z j), S') ∧ SameB 65 S S' := by
  unfold m_X5_countAtEndWith
  cases hc : fl (Clo (aw n K) Z) j
  · obtain ⟨S1, a1, a2, a3⟩ := copyFrom_ok (i := 65) h.1 (by omega)
    obtain ⟨S2, b1, b2, b3⟩ := put_ins a2 hj (dgq_WF hq).1
    obtain ⟨S3, c1, c2, c3⟩ := spreadOut_ok b2
    have hcr := countRights_ok c2
    rw [show upR (Clo (aw n K) Z) (j / 28) (j % 28 / 7) (j % 28 % 7) true = ins (Clo (aw n K) Z) j from rfl, Clo_ins_end] at hcr
    simp (disch := omega) only [k_0, k_1, k_2, k_3, k_4, k_5, k_6, k_7, k_8, k_9, k_10, k_14, k_16, k_28, k_30, k_48, k_49, k_57, k_100, k_110, k_127, k_128, k_196, k_255, k_1000, k_1024, k_10000, nI_add, nI_mul, nI_div, irm_nI, nle, nlt, neq, gd_t, inb_nI, cl_nI, bnd_eq, gdT, gdo, gb0, gb1, gbi, bi0, bi1, bi0r, Option.bind_some, bndE_some, ite_t, ite_f, k_m9, k_m1, k_13, k_15, k_18, k_19, k_112, k_114, k_115, k_98, k_103, k_116, k_119, k_47, k_82, k_50, k_51, k_99, k_700, k_197, ne9, ne9s, nI_ne0s, ↓reduceIte, comes_fl h hw hn hj, hc, a1, b1, c1, hcr]
    exact ⟨S3, rfl, (a3.tr b3).tr c3⟩
  · have hcr := countRights_ok h.1
    rw [← Clo_ins_in hc] at hcr
    simp (disch := omega) only [k_0, k_1, k_2, k_3, k_4, k_5, k_6, k_7, k_8, k_9, k_10, k_14, k_16, k_28, k_30, k_48, k_49, k_57, k_100, k_110, k_127, k_128, k_196, k_255, k_1000, k_1024, k_10000, nI_add, nI_mul, nI_div, irm_nI, nle, nlt, neq, gd_t, inb_nI, cl_nI, bnd_eq, gdT, gdo, gb0, gb1, gbi, bi0, bi1, bi0r, Option.bind_some, bndE_some, ite_t, ite_f, k_m9, k_m1, k_13, k_15, k_18, k_19, k_112, k_114, k_115, k_98, k_103, k_116, k_119, k_47, k_82, k_50, k_51, k_99, k_700, k_197, ne9, ne9s, nI_ne0s, ↓reduceIte, comes_fl h hw hn hj, hc, Bool.true_eq_false, hcr]
    exact ⟨S, rfl, SameB.rf _ _⟩
theorem nI_m1 {a : Nat} (h : a < 1000000) : (nI a ≤ m1) = False := eq_false fun q => by
  rw [Int32.le_iff_toInt_le, nI_toInt (by omega)] at q
  have : m1.toInt = -1 := by decide
  omega
theorem isRightIndex_fl {i : Nat} (h : RepS S i n K Z) {j : Nat} (hj : j < 196) : m_X3_isRightIndex i (nI j) S = some (bi (decide (j / 28 < n ∧ j % 28 % 7 < n ∧ j / 28 ≠ j % 28 % 7))) := by
  obtain ⟨e1, e2, e3, e4⟩ := ix_of hj
  have := isRightIndex_ok h e2 e3 e4
  rw [e1] at this
  exact this
theorem danger_ok (h : RepS S 29 n K Z) : ∃ S', m_X5_danger S = some (dgv n (aw n K) Z 196, S') ∧ Kp S S' := by
  have hn := h.1
  obtain ⟨S1, f1, f2, f3⟩ := follow_ok h (by omega) (by omega)
  unfold m_X5_danger
  simp (disch := omega) only [k_0, k_1, k_2, k_3, k_4, k_5, k_6, k_7, k_8, k_9, k_10, k_14, k_16, k_28, k_30, k_48, k_49, k_57, k_100, k_110, k_127, k_128, k_196, k_255, k_1000, k_1024, k_10000, nI_add, nI_mul, nI_div, irm_nI, nle, nlt, neq, gd_t, inb_nI, cl_nI, bnd_eq, gdT, gdo, gb0, gb1, gbi, bi0, bi1, bi0r, Option.bind_some, bndE_some, ite_t, ite_f, k_m9, k_m1, k_13, k_15, k_18, k_19, k_112, k_114, k_115, k_98, k_103, k_116, k_119, k_47, k_82, k_50, k_51, k_99, k_700, k_197, ne9, ne9s, nI_ne0s, ↓reduceIte, f1]
  obtain ⟨⟨v, S'⟩, e1, e2, e3⟩ := loopO_inv (f := fun q : Int32 × Int32 × Int32 × Hs => m_X5_danger_L18 q.1 q.2.1 q.2.2.1 q.2.2.2) (fun c q => c ≤ 196 ∧ q.2.2.1 = nI c ∧ q.1 = dgv n (aw n K) Z c ∧ q.2.1 = (if dgb n (aw n K) Z c = 999 then m1 else nI (dgc (aw n K) Z (dgb n (aw n K) Z c))) ∧ SameB 65 S1 q.2.2.2) (fun r => r.1 = dgv n (aw n K) Z 196 ∧ SameB 65 S1 r.2) 196 (fun c q hq => by
    obtain ⟨b, f, v, U⟩ := q
    obtain ⟨hc, hv, hb, hf, a1⟩ := hq
    simp only at hv hb hf a1
    subst hv hb hf
    have hU : RepS U 29 n K Z := (h.kp f2 (by omega) (by omega)).keep a1 (by omega) (by omega)
    have hF : Fol U n K Z := f3.keep (fun b => a1.1 _ _ (by omega)) (a1.1 _ _ (by omega)) (fun b => a1.2.1 _ _ (by omega)) (fun b => a1.2.1 _ _ (by omega))
    by_cases hc2 : c < 196
    · refine Or.inl ⟨hc2, ?_⟩
      have hst := dgb_succ (n := n) (A := aw n K) (Z := Z) c
      have z1 := dgc_196 (A := aw n K) (Z := Z) c
      have z2 := dgc_196 (A := aw n K) (Z := Z) (dgb n (aw n K) Z c)
      have keep : ¬ (dgq n Z c = true ∧ (dgb n (aw n K) Z c = 999 ∨ dgc (aw n K) Z (dgb n (aw n K) Z c) < dgc (aw n K) Z c)) → dgb n (aw n K) Z (c + 1) = dgb n (aw n K) Z c := fun e => by rw [hst, if_neg e]
      simp only [m_X5_danger_L18, m_X5_danger_J68]
      cases hr : decide (c / 28 < n ∧ c % 28 % 7 < n ∧ c / 28 ≠ c % 28 % 7)
      · have kp := keep fun e => by unfold dgq at e; rw [hr] at e; exact absurd e.1 Bool.false_ne_true
        simp (disch := omega) only [k_0, k_1, k_2, k_3, k_4, k_5, k_6, k_7, k_8, k_9, k_10, k_14, k_16, k_28, k_30, k_48, k_49, k_57, k_100, k_110, k_127, k_128, k_196, k_255, k_1000, k_1024, k_10000, nI_add, nI_mul, nI_div, irm_nI, nle, nlt, neq, gd_t, inb_nI, cl_nI, bnd_eq, gdT, gdo, gb0, gb1, gbi, bi0, bi1, bi0r, Option.bind_some, bndE_some, ite_t, ite_f, k_m9, k_m1, k_13, k_15, k_18, k_19, k_112, k_114, k_115, k_98, k_103, k_116, k_119, k_47, k_82, k_50, k_51, k_99, k_700, k_197, ne9, ne9s, nI_ne0s, ↓reduceIte, isRightIndex_fl hU hc2, hr]
        exact ⟨_, rfl, by omega, rfl, by unfold dgv; rw [kp], by rw [kp], a1⟩
      · cases hz : fl Z c
        · have hq : dgq n Z c = true := by unfold dgq; rw [hr, hz]; rfl
          obtain ⟨V, k1, k2⟩ := countAtEndWith_ok hF h.2.1 hn hc2 hq
          by_cases h0 : dgb n (aw n K) Z c = 999
          · have tk : dgb n (aw n K) Z (c + 1) = c := by rw [hst, if_pos ⟨hq, Or.inl h0⟩]
            rw [if_pos h0]
            simp (disch := omega) only [k_0, k_1, k_2, k_3, k_4, k_5, k_6, k_7, k_8, k_9, k_10, k_14, k_16, k_28, k_30, k_48, k_49, k_57, k_100, k_110, k_127, k_128, k_196, k_255, k_1000, k_1024, k_10000, nI_add, nI_mul, nI_div, irm_nI, nle, nlt, neq, gd_t, inb_nI, cl_nI, bnd_eq, gdT, gdo, gb0, gb1, gbi, bi0, bi1, bi0r, Option.bind_some, bndE_some, ite_t, ite_f, k_m9, k_m1, k_13, k_15, k_18, k_19, k_112, k_114, k_115, k_98, k_103, k_116, k_119, k_47, k_82, k_50, k_51, k_99, k_700, k_197, ne9, ne9s, nI_ne0s, ↓reduceIte, isRightIndex_fl hU hc2, hr, Bool.true_eq_false, has_fl hU hc2, hz, k1, nI_m1, numberOf_ok hc2]
            exact ⟨_, rfl, by omega, rfl, by unfold dgv; rw [tk, if_neg (by omega)], by first | rw [tk, if_neg (by omega)] | rw [tk], a1.tr k2⟩
          · rw [if_neg h0]
            by_cases hlt : dgc (aw n K) Z (dgb n (aw n K) Z c) < dgc (aw n K) Z c
            · have tk : dgb n (aw n K) Z (c + 1) = c := by rw [hst, if_pos ⟨hq, Or.inr hlt⟩]
              simp (disch := omega) only [k_0, k_1, k_2, k_3, k_4, k_5, k_6, k_7, k_8, k_9, k_10, k_14, k_16, k_28, k_30, k_48, k_49, k_57, k_100, k_110, k_127, k_128, k_196, k_255, k_1000, k_1024, k_10000, nI_add, nI_mul, nI_div, irm_nI, nle, nlt, neq, gd_t, inb_nI, cl_nI, bnd_eq, gdT, gdo, gb0, gb1, gbi, bi0, bi1, bi0r, Option.bind_some, bndE_some, ite_t, ite_f, k_m9, k_m1, k_13, k_15, k_18, k_19, k_112, k_114, k_115, k_98, k_103, k_116, k_119, k_47, k_82, k_50, k_51, k_99, k_700, k_197, ne9, ne9s, nI_ne0s, ↓reduceIte, isRightIndex_fl hU hc2, hr, Bool.true_eq_false, has_fl hU hc2, hz, k1, numberOf_ok hc2]
              exact ⟨_, rfl, by omega, rfl, by unfold dgv; rw [tk, if_neg (by omega)], by first | rw [tk, if_neg (by omega)] | rw [tk], a1.tr k2⟩
            · have kp := keep fun e => by omega
              simp (disch := omega) only [k_0, k_1, k_2, k_3, k_4, k_5, k_6, k_7, k_8, k_9, k_10, k_14, k_16, k_28, k_30, k_48, k_49, k_57, k_100, k_110, k_127, k_128, k_196, k_255, k_1000, k_1024, k_10000, nI_add, nI_mul, nI_div, irm_nI, nle, nlt, neq, gd_t, inb_nI, cl_nI, bnd_eq, gdT, gdo, gb0, gb1, gbi, bi0, bi1, bi0r, Option.bind_some, bndE_some, ite_t, ite_f, k_m9, k_m1, k_13, k_15, k_18, k_19, k_112, k_114, k_115, k_98, k_103, k_116, k_119, k_47, k_82, k_50, k_51, k_99, k_700, k_197, ne9, ne9s, nI_ne0s, ↓reduceIte, isRightIndex_fl hU hc2, hr, Bool.true_eq_false, has_fl hU hc2, hz, k1]
              exact ⟨_, rfl, by omega, rfl, by unfold dgv; rw [kp], by first | rw [kp, if_neg h0] | rw [kp], a1.tr k2⟩
        · have kp := keep fun e => by unfold dgq at e; rw [hz, Bool.not_true, Bool.and_false] at e; exact absurd e.1 Bool.false_ne_true
          simp (disch := omega) only [k_0, k_1, k_2, k_3, k_4, k_5, k_6, k_7, k_8, k_9, k_10, k_14, k_16, k_28, k_30, k_48, k_49, k_57, k_100, k_110, k_127, k_128, k_196, k_255, k_1000, k_1024, k_10000, nI_add, nI_mul, nI_div, irm_nI, nle, nlt, neq, gd_t, inb_nI, cl_nI, bnd_eq, gdT, gdo, gb0, gb1, gbi, bi0, bi1, bi0r, Option.bind_some, bndE_some, ite_t, ite_f, k_m9, k_m1, k_13, k_15, k_18, k_19, k_112, k_114, k_115, k_98, k_103, k_116, k_119, k_47, k_82, k_50, k_51, k_99, k_700, k_197, ne9, ne9s, nI_ne0s, ↓reduceIte, isRightIndex_fl hU hc2, hr, Bool.true_eq_false, has_fl hU hc2, hz]
          exact ⟨_, rfl, by omega, rfl, by unfold dgv; rw [kp], by rw [kp], a1⟩
    · obtain rfl : c = 196 := by omega
      refine Or.inr ⟨(dgv n (aw n K) Z 196, U), ?_, rfl, a1⟩
      simp only [m_X5_danger_L18]
      simp (disch := omega) only [k_0, k_1, k_2, k_3, k_4, k_5, k_6, k_7, k_8, k_9, k_10, k_14, k_16, k_28, k_30, k_48, k_49, k_57, k_100, k_110, k_127, k_128, k_196, k_255, k_1000, k_1024, k_10000, nI_add, nI_mul, nI_div, irm_nI, nle, nlt, neq, gd_t, inb_nI, cl_nI, bnd_eq, gdT, gdo, gb0, gb1, gbi, bi0, bi1, bi0r, Option.bind_some, bndE_some, ite_t, ite_f, k_m9, k_m1, k_13, k_15, k_18, k_19, k_112, k_114, k_115, k_98, k_103, k_116, k_119, k_47, k_82, k_50, k_51, k_99, k_700, k_197, ne9, ne9s, nI_ne0s, ↓reduceIte]) (x := (m9, m1, nI 0, S1)) ⟨by omega, rfl, rfl, rfl, SameB.rf _ _⟩
  simp only at e2
  subst e2
  exact ⟨S', by rw [e1]; rfl, f2.tr (Kp.ofB e3 (by omega))⟩
/-- how many places lie below a number -/
def plc (c : Nat) : Nat := if c / 10 % 10 < 4 then 28 * (c / 100) + 7 * (c / 10 % 10) + min (c % 10) 7 else 28 * (c / 100) + 28
theorem plc_at {x k y : Nat} (hk : k < 10) (hy : y < 10) : plc (100 * x + 10 * k + y) = if k < 4 then 28 * x + 7 * k + min y 7 else 28 * x + 28 := by
  unfold plc
  rw [show (100 * x + 10 * k + y) / 10 % 10 = k by omega, show (100 * x + 10 * k + y) / 100 = x by omega, show (100 * x + 10 * k + y) % 10 = y by omega]
theorem plc_succ {c : Nat} (hc : c < 700) : if c / 10 % 10 < 4 ∧ c % 10 < 7 then plc (c + 1) = plc c + 1 ∧ plc c < 196 ∧ plc c / 28 = c / 100 ∧ plc c % 28 / 7 = c / 10 % 10 ∧ plc c % 28 % 7 = c % 10 ∧ num (plc c) = c else plc (c + 1) = plc c := by
  obtain ⟨x, k, y, hk, hy, rfl⟩ : ∃ x k y, k < 10 ∧ y < 10 ∧ c = 100 * x + 10 * k + y := ⟨c / 100, c / 10 % 10, c % 10, by omega, by omega, by omega⟩
  rw [show (100 * x + 10 * k + y) / 10 % 10 = k by omega, show (100 * x + 10 * k + y) / 100 = x by omega, show (100 * x + 10 * k + y) % 10 = y by omega, plc_at hk hy]
  by_cases h9 : y < 9
  · rw [show 100 * x + 10 * k + y + 1 = 100 * x + 10 * k + (y + 1) by omega, plc_at hk (by omega)]
    by_cases hk4 : k < 4
    · rw [if_pos hk4, if_pos hk4]
      by_cases h7 : y < 7
      · rw [if_pos ⟨hk4, h7⟩, Nat.min_eq_left (show y ≤ 7 by omega), Nat.min_eq_left (show y + 1 ≤ 7 by omega)]
        unfold num
        omega
      · rw [if_neg (by omega), Nat.min_eq_right (show 7 ≤ y by omega), Nat.min_eq_right (show 7 ≤ y + 1 by omega)]
    · rw [if_neg (by omega), if_neg hk4, if_neg hk4]
  · obtain rfl : y = 9 := by omega
    rw [if_neg (by omega), Nat.min_eq_right (show 7 ≤ 9 by omega)]
    by_cases hk9 : k < 9
    · rw [show 100 * x + 10 * k + 9 + 1 = 100 * x + 10 * (k + 1) + 0 by omega, plc_at (by omega) (by omega), Nat.zero_min]
      by_cases hk4 : k < 4
      · rw [if_pos hk4]
        by_cases hk3 : k + 1 < 4
        · rw [if_pos hk3]; omega
        · rw [if_neg hk3]; omega
      · rw [if_neg hk4, if_neg (by omega)]
    · obtain rfl : k = 9 := by omega
      rw [show 100 * x + 10 * 9 + 9 + 1 = 100 * (x + 1) + 10 * 0 + 0 by omega, plc_at (by omega) (by omega), Nat.zero_min, if_pos (by omega), if_neg (by omega)]
      omega
theorem upR_back {x k y : Nat} (h : Z x k y = false) : upR (upR Z x k y true) x k y false = Z := by
  funext a c d
  unfold upR
  by_cases hq : a = x ∧ c = k ∧ d = y
  · rw [if_pos hq, hq.1, hq.2.1, hq.2.2]
    exact h.symm
  · rw [if_neg hq, if_neg hq]
theorem plc_in {c : Nat} (hk : c / 10 % 10 < 4) (hy : c % 10 < 7) : plc c = 28 * (c / 100) + 7 * (c / 10 % 10) + c % 10 := by
  unfold plc
  rw [if_pos hk, Nat.min_eq_left (by omega)]
