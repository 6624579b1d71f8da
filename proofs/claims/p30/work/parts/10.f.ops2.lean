/-! the other methods of a State object -/
variable {S : Hs} {i n : Nat} {K : Kd} {Z : Rt}
theorem RepS.cong {K' : Kd} {Z' : Rt} (h : RepS S i n K Z) (hk : ∀ j, j < n → K' j = K j) (hz : ∀ x k y, Z' x k y = Z x k y) : RepS S i n K' Z' := by
  obtain rfl : Z' = Z := funext fun x => funext fun k => funext fun y => hz x k y
  refine ⟨h.1, h.2.1, h.2.2.1, fun j hj => ?_, fun j hj => ?_, h.2.2.2.2.2⟩
  · rw [h.2.2.2.1 j hj]
    by_cases hjn : j < n
    · rw [hk j hjn]
    · rw [decide_eq_false hjn, Bool.false_and, Bool.false_and]
  · rw [h.2.2.2.2.1 j hj]
    by_cases hjn : j < n
    · rw [hk j hjn]
    · rw [decide_eq_false hjn, Bool.false_and, Bool.false_and]
theorem copyFrom_ok {o : Nat} (h : RepS S o n K Z) (hne : i ≠ o) : ∃ S', m_X3_copyFrom i o S = some S' ∧ RepS S' i n K Z ∧ SameB i S S' := by
  unfold m_X3_copyFrom
  simp (disch := omega) only [k_0, k_1, k_2, k_3, k_4, k_5, k_6, k_7, k_8, k_9, k_10, k_14, k_16, k_28, k_30, k_48, k_49, k_57, k_100, k_110, k_127, k_128, k_196, k_255, k_1000, k_1024, k_10000, nI_add, nI_mul, nI_div, irm_nI, nle, nlt, neq, gd_t, inb_nI, cl_nI, bnd_eq, gdT, gdo, gb0, gb1, gbi, bi0, bi1, bi0r, Option.bind_some, bndE_some, ite_t, ite_f]
  obtain ⟨r, h1, h2, h3, h4, h5, h6⟩ := loopO_inv (f := fun x : Int32 × Hs => m_X3_copyFrom_L26 i o x.1 x.2) (fun k p => k ≤ 7 ∧ p.1 = nI k ∧ SameB i S p.2 ∧ gI p.2 i 0 = gI S o 0 ∧ gI p.2 i 1 = gI S o 1 ∧ gI p.2 i 2 = gI S o 2 ∧ ∀ x, x < k → gA p.2 (i + 1) x = gA S (o + 1) x) (fun r => SameB i S r ∧ gI r i 0 = gI S o 0 ∧ gI r i 1 = gI S o 1 ∧ gI r i 2 = gI S o 2 ∧ ∀ x, x < 7 → gA r (i + 1) x = gA S (o + 1) x) 7 (fun k p hp => by
    obtain ⟨v, T⟩ := p
    obtain ⟨hk, hv, a1, a2, a3, a4, a5⟩ := hp
    simp only at hv a1 a2 a3 a4 a5
    subst hv
    by_cases hk7 : k < 7
    · refine Or.inl ⟨hk7, (nI (k + 1), sA T (i + 1) k (gA T (o + 1) k)), ?_, hk7, rfl, a1.tr (SameB.sA T _), a2, a3, a4, fun x hx => ?_⟩
      · simp only [m_X3_copyFrom_L26]
        simp (disch := omega) only [k_0, k_1, k_2, k_3, k_4, k_5, k_6, k_7, k_8, k_9, k_10, k_14, k_16, k_28, k_30, k_48, k_49, k_57, k_100, k_110, k_127, k_128, k_196, k_255, k_1000, k_1024, k_10000, nI_add, nI_mul, nI_div, irm_nI, nle, nlt, neq, gd_t, inb_nI, cl_nI, bnd_eq, gdT, gdo, gb0, gb1, gbi, bi0, bi1, bi0r, Option.bind_some, bndE_some, ite_t, ite_f]
      · show gA (sA T (i + 1) k (gA T (o + 1) k)) (i + 1) x = _
        rw [gA_sA, if_pos rfl]
        by_cases hxk : x = k
        · subst hxk
          rw [if_pos rfl]
          exact a1.2.1 _ _ (by omega)
        · rw [if_neg hxk]
          exact a5 x (by omega)
    · obtain rfl : k = 7 := by omega
      refine Or.inr ⟨T, ?_, a1, a2, a3, a4, a5⟩
      simp only [m_X3_copyFrom_L26]
      simp (disch := omega) only [k_0, k_1, k_2, k_3, k_4, k_5, k_6, k_7, k_8, k_9, k_10, k_14, k_16, k_28, k_30, k_48, k_49, k_57, k_100, k_110, k_127, k_128, k_196, k_255, k_1000, k_1024, k_10000, nI_add, nI_mul, nI_div, irm_nI, nle, nlt, neq, gd_t, inb_nI, cl_nI, bnd_eq, gdT, gdo, gb0, gb1, gbi, bi0, bi1, bi0r, Option.bind_some, bndE_some, ite_t, ite_f]) (x := (nI 0, sI (sI (sI S i 0 (gI S o 0)) i 1 (gI (sI S i 0 (gI S o 0)) o 1)) i 2 (gI (sI (sI S i 0 (gI S o 0)) i 1 (gI (sI S i 0 (gI S o 0)) o 1)) o 2))) (by
    have ho : ¬ o = i := fun q => hne q.symm
    refine ⟨by omega, rfl, ((SameB.sI S _).tr (SameB.sI _ _)).tr (SameB.sI _ _), ?_, ?_, ?_, fun x hx => by omega⟩ <;> simp [gI_sI, ho])
  refine ⟨r, by rw [h1]; rfl, ⟨h.1, h.2.1, h3.trans h.2.2.1, fun j hj => by rw [h4]; exact h.2.2.2.1 j hj, fun j hj => by rw [h5]; exact h.2.2.2.2.1 j hj, fun x hx j hj => by rw [h6 x hx]; exact h.2.2.2.2.2 x hx j hj⟩, h2⟩
theorem makeEmpty_ok (S : Hs) (i : Nat) : ∃ S', m_X3_makeEmpty i S = some S' ∧ RepS S' i 0 (fun _ => 0) (fun _ _ _ => false) ∧ SameB i S S' := by
  unfold m_X3_makeEmpty
  simp (disch := omega) only [k_0, k_1, k_2, k_3, k_4, k_5, k_6, k_7, k_8, k_9, k_10, k_14, k_16, k_28, k_30, k_48, k_49, k_57, k_100, k_110, k_127, k_128, k_196, k_255, k_1000, k_1024, k_10000, nI_add, nI_mul, nI_div, irm_nI, nle, nlt, neq, gd_t, inb_nI, cl_nI, bnd_eq, gdT, gdo, gb0, gb1, gbi, bi0, bi1, bi0r, Option.bind_some, bndE_some, ite_t, ite_f]
  obtain ⟨r, h1, h2, h3, h4, h5, h6⟩ := loopO_inv (f := fun x : Int32 × Hs => m_X3_makeEmpty_L17 i x.1 x.2) (fun k p => k ≤ 7 ∧ p.1 = nI k ∧ SameB i S p.2 ∧ gI p.2 i 0 = nI 0 ∧ gI p.2 i 1 = nI 0 ∧ gI p.2 i 2 = nI 0 ∧ ∀ x, x < k → gA p.2 (i + 1) x = nI 0) (fun r => SameB i S r ∧ gI r i 0 = nI 0 ∧ gI r i 1 = nI 0 ∧ gI r i 2 = nI 0 ∧ ∀ x, x < 7 → gA r (i + 1) x = nI 0) 7 (fun k p hp => by
    obtain ⟨v, T⟩ := p
    obtain ⟨hk, hv, a1, a2, a3, a4, a5⟩ := hp
    simp only at hv a1 a2 a3 a4 a5
    subst hv
    by_cases hk7 : k < 7
    · refine Or.inl ⟨hk7, (nI (k + 1), sA T (i + 1) k (nI 0)), ?_, hk7, rfl, a1.tr (SameB.sA T _), a2, a3, a4, fun x hx => ?_⟩
      · simp only [m_X3_makeEmpty_L17]
        simp (disch := omega) only [k_0, k_1, k_2, k_3, k_4, k_5, k_6, k_7, k_8, k_9, k_10, k_14, k_16, k_28, k_30, k_48, k_49, k_57, k_100, k_110, k_127, k_128, k_196, k_255, k_1000, k_1024, k_10000, nI_add, nI_mul, nI_div, irm_nI, nle, nlt, neq, gd_t, inb_nI, cl_nI, bnd_eq, gdT, gdo, gb0, gb1, gbi, bi0, bi1, bi0r, Option.bind_some, bndE_some, ite_t, ite_f]
      · show gA (sA T (i + 1) k (nI 0)) (i + 1) x = _
        rw [gA_sA, if_pos rfl]
        by_cases hxk : x = k
        · rw [if_pos hxk]
        · rw [if_neg hxk]
          exact a5 x (by omega)
    · obtain rfl : k = 7 := by omega
      refine Or.inr ⟨T, ?_, a1, a2, a3, a4, a5⟩
      simp only [m_X3_makeEmpty_L17]
      simp (disch := omega) only [k_0, k_1, k_2, k_3, k_4, k_5, k_6, k_7, k_8, k_9, k_10, k_14, k_16, k_28, k_30, k_48, k_49, k_57, k_100, k_110, k_127, k_128, k_196, k_255, k_1000, k_1024, k_10000, nI_add, nI_mul, nI_div, irm_nI, nle, nlt, neq, gd_t, inb_nI, cl_nI, bnd_eq, gdT, gdo, gb0, gb1, gbi, bi0, bi1, bi0r, Option.bind_some, bndE_some, ite_t, ite_f]) (x := (nI 0, sI (sI (sI S i 0 (nI 0)) i 1 (nI 0)) i 2 (nI 0))) (by
    refine ⟨by omega, rfl, ((SameB.sI S _).tr (SameB.sI _ _)).tr (SameB.sI _ _), ?_, ?_, ?_, fun x hx => by omega⟩ <;> simp [gI_sI])
  have z : ∀ j, bt (nI 0) j = false := b_0
  refine ⟨r, by rw [h1]; rfl, ⟨by omega, fun x k y q => (by cases q), h3, fun j hj => by rw [h4, z]; simp, fun j hj => by rw [h5, z]; simp, fun x hx j hj => by rw [h6 x hx, z]; simp⟩, h2⟩
theorem addOne_ok (h : RepS S i n K Z) (hn : n < 7) (b1 b2 : Bool) (hb : b2 = true → b1 = true) : ∃ S', m_X3_addOne i (bi b1) (bi b2) S = some S' ∧ RepS S' i (n + 1) (fun j => if j = n then (if b2 then 1 else if b1 then 2 else 0) else K j) Z ∧ SameB i S S' := by
  obtain ⟨-, hw, h1, h2, h3, h4⟩ := h
  have main : ∀ (T : Hs), SameB i S T → gI T i 0 = nI (n + 1) → (∀ j, j < 32 → bt (gI T i 1) j = (bt (gI S i 1) j || (b1 && decide (j = n)))) → (∀ j, j < 32 → bt (gI T i 2) j = (bt (gI S i 2) j || (b2 && decide (j = n)))) → (∀ x, gA T (i + 1) x = gA S (i + 1) x) → RepS T i (n + 1) (fun j => if j = n then (if b2 then 1 else if b1 then 2 else 0) else K j) Z := by
    intro T _ t0 t1 t2 t3
    refine ⟨by omega, fun x k y q => ?_, t0, fun j hj => ?_, fun j hj => ?_, fun x hx j hj => by rw [t3]; exact h4 x hx j hj⟩
    · have := hw x k y q
      exact ⟨by omega, this.2.1, by omega, this.2.2.2⟩
    · rw [t1 j hj, h2 j hj]
      by_cases hjn : j = n
      · subst hjn
        cases b1 <;> cases b2 <;> simp at hb ⊢
      · have : (j < n + 1) = (j < n) := by simp only [eq_iff_iff]; omega
        simp [hjn, this]
    · rw [t2 j hj, h3 j hj]
      by_cases hjn : j = n
      · subst hjn
        cases b1 <;> cases b2 <;> simp at hb ⊢
      · have : (j < n + 1) = (j < n) := by simp only [eq_iff_iff]; omega
        simp [hjn, this]
  unfold m_X3_addOne m_X3_addOne_J19 m_X3_addOne_J38
  simp (disch := omega) only [k_0, k_1, k_2, k_3, k_4, k_5, k_6, k_7, k_8, k_9, k_10, k_14, k_16, k_28, k_30, k_48, k_49, k_57, k_100, k_110, k_127, k_128, k_196, k_255, k_1000, k_1024, k_10000, nI_add, nI_mul, nI_div, irm_nI, nle, nlt, neq, gd_t, inb_nI, cl_nI, bnd_eq, gdT, gdo, gb0, gb1, gbi, bi0, bi1, bi0r, Option.bind_some, bndE_some, ite_t, ite_f]
  cases b1 <;> cases b2
  · exact ⟨sI S i 0 (nI (n + 1)), by simp [h1, nI_add], main _ (SameB.sI _ _) (by simp [gI_sI]) (fun j _ => by simp [gI_sI]) (fun j _ => by simp [gI_sI]) (fun x => rfl), SameB.sI _ _⟩
  · exact absurd (hb rfl) (by decide)
  · have s1 : SameB i S (sI (sI S i 1 (gI S i 1 ||| nI 1 <<< (nI n &&& 31))) i 0 (nI (n + 1))) := (SameB.sI _ _).tr (SameB.sI _ _)
    exact ⟨_, by simp [h1, nI_add, gI_sI], main _ s1 (by simp [gI_sI]) (fun j hj => by simp [gI_sI, show nI 1 = (1 : Int32) from rfl, bt_set _ (show n < 32 by omega) hj]) (fun j _ => by simp [gI_sI]) (fun x => rfl), s1⟩
  · have s1 : SameB i S (sI (sI (sI S i 1 (gI S i 1 ||| nI 1 <<< (nI n &&& 31))) i 2 (gI S i 2 ||| nI 1 <<< (nI n &&& 31))) i 0 (nI (n + 1))) := ((SameB.sI _ _).tr (SameB.sI _ _)).tr (SameB.sI _ _)
    exact ⟨_, by simp [h1, nI_add, gI_sI], main _ s1 (by simp [gI_sI]) (fun j hj => by simp [gI_sI, show nI 1 = (1 : Int32) from rfl, bt_set _ (show n < 32 by omega) hj]) (fun j hj => by simp [gI_sI, show nI 1 = (1 : Int32) from rfl, bt_set _ (show n < 32 by omega) hj]) (fun x => rfl), s1⟩
def wkK (K : Kd) (x : Nat) (b : Bool) : Kd := fun j => if j = x then (if b then 1 else 2) else K j
theorem setAwake_ok (h : RepS S i n K Z) {x : Nat} (hx : x < n) (hp : K x ≠ 0) (b : Bool) : ∃ S', m_X3_setAwake i (nI x) (bi b) S = some S' ∧ RepS S' i n (wkK K x b) Z ∧ SameB i S S' := by
  obtain ⟨hn, hw, h1, h2, h3, h4⟩ := h
  have main : ∀ w : Int32, (∀ j, j < 32 → bt w j = if j = x then b else bt (gI S i 2) j) → RepS (sI S i 2 w) i n (wkK K x b) Z := by
    intro w hwb
    refine ⟨hn, hw, by simpa [gI_sI] using h1, fun j hj => ?_, fun j hj => ?_, h4⟩
    · rw [show gI (sI S i 2 w) i 1 = gI S i 1 by simp [gI_sI], h2 j hj]
      unfold wkK
      by_cases hjx : j = x
      · subst hjx
        cases b <;> simp [hp]
      · simp [hjx]
    · rw [show gI (sI S i 2 w) i 2 = w by simp [gI_sI], hwb j hj]
      unfold wkK
      by_cases hjx : j = x
      · subst hjx
        cases b <;> simp [hx]
      · simp [hjx, h3 j hj]
  unfold m_X3_setAwake m_X3_setAwake_J26
  simp (disch := omega) only [k_0, k_1, k_2, k_3, k_4, k_5, k_6, k_7, k_8, k_9, k_10, k_14, k_16, k_28, k_30, k_48, k_49, k_57, k_100, k_110, k_127, k_128, k_196, k_255, k_1000, k_1024, k_10000, nI_add, nI_mul, nI_div, irm_nI, nle, nlt, neq, gd_t, inb_nI, cl_nI, bnd_eq, gdT, gdo, gb0, gb1, gbi, bi0, bi1, bi0r, Option.bind_some, bndE_some, ite_t, ite_f]
  cases b
  · refine ⟨_, by rw [if_pos rfl], main _ fun j hj => ?_, SameB.sI _ _⟩
    rw [show nI 1 = (1 : Int32) from rfl, bt_clr _ (show x < 32 by omega) hj]
    by_cases hjx : j = x <;> simp [hjx]
  · refine ⟨_, by rw [if_neg (by decide)], main _ fun j hj => ?_, SameB.sI _ _⟩
    rw [show nI 1 = (1 : Int32) from rfl, bt_set _ (show x < 32 by omega) hj]
    by_cases hjx : j = x <;> simp [hjx]
/-- the awake set put in place -/
def awK (K : Kd) (A : Nat → Bool) : Kd := fun j => if K j = 0 then 0 else if A j then 1 else 2
theorem awake_put (h : RepS S i n K Z) {w : Int32} {A : Nat → Bool} (hA : ∀ j, j < 32 → bt w j = (decide (j < n) && A j)) (hp : ∀ j, j < n → A j = true → K j ≠ 0) : RepS (sI S i 2 w) i n (awK K A) Z := by
  obtain ⟨hn, hw, h1, h2, h3, h4⟩ := h
  refine ⟨hn, hw, by simpa [gI_sI] using h1, fun j hj => ?_, fun j hj => ?_, h4⟩
  · rw [show gI (sI S i 2 w) i 1 = gI S i 1 by simp [gI_sI], h2 j hj]
    unfold awK
    by_cases hk : K j = 0
    · simp [hk]
    · cases hA2 : A j <;> simp [hk]
  · rw [show gI (sI S i 2 w) i 2 = w by simp [gI_sI], hA j hj]
    unfold awK
    by_cases hjn : j < n
    · have := hp j hjn
      by_cases hk : K j = 0
      · have : A j = false := by cases hA2 : A j; rfl; exact absurd hk (this hA2)
        simp [hk, this]
      · cases hA2 : A j <;> simp [hk]
    · simp [hjn]
/-- what bars a step -/
def bars (K : Kd) (Z : Rt) (g : Bool) (p y k z : Nat) : Nat := if K p = 0 then 1 else if K p ≠ 1 then 2 else if Z p (if g then 1 else 0) y = true then (if Z (if g then p else y) k z = true then 0 else 4) else 3
