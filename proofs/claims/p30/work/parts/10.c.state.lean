/-! the abstract state, and a State object that represents it -/
/-- one bit of an int -/
theorem bit_test (v : Int32) {k : Nat} (hk : k < 32) : ((v >>> (nI k &&& 31)) &&& 1 = 0) ↔ bt v k = false := by
  have key : ∀ i, i < 32 → bt ((v >>> (nI k &&& 31)) &&& 1) i = (decide (i = 0) && bt v k) := by
    intro i hi
    have h1 : bt (1 : Int32) i = decide (i = 0) := by
      have : ∀ j, j < 32 → bt (1 : Int32) j = decide (j = 0) := by decide +kernel
      exact this i hi
    rw [b_and, h1, b_sshr k hk v hi]
    by_cases h0 : i = 0
    · subst h0
      simp [hk]
    · simp [h0]
  constructor
  · intro h
    have := key 0 (by omega)
    rw [h, b_0] at this
    simpa using this.symm
  · intro h
    apply b_ext
    intro i hi
    rw [key i hi, b_0, h]
    simp
/-- things, kinds (0 a box, 1 awake, 2 asleep), rights: x, k, y -/
abbrev Kd : Type := Nat → Nat
abbrev Rt : Type := Nat → Nat → Nat → Bool
def WF (n : Nat) (Z : Rt) : Prop := ∀ x k y, Z x k y = true → x < n ∧ k < 4 ∧ y < n ∧ x ≠ y
/-- the State object i holds it -/
def RepS (S : Hs) (i n : Nat) (K : Kd) (Z : Rt) : Prop :=
  n ≤ 7 ∧ WF n Z ∧ gI S i 0 = nI n ∧ (∀ j, j < 32 → bt (gI S i 1) j = (decide (j < n) && decide (K j ≠ 0))) ∧ (∀ j, j < 32 → bt (gI S i 2) j = (decide (j < n) && decide (K j = 1))) ∧
  ∀ x, x < 7 → ∀ j, j < 32 → bt (gA S (i + 1) x) j = (decide (j < 28) && Z x (j / 7) (j % 7))
/-- all but the State object i is as before -/
def SameB (i : Nat) (S S' : Hs) : Prop := (∀ a b, a ≠ i → gI S' a b = gI S a b) ∧ (∀ a b, a ≠ i + 1 → gA S' a b = gA S a b) ∧ (∀ a b, gQ S' a b = gQ S a b) ∧ ∀ b, gO S' b = gO S b
theorem SameB.rf (i : Nat) (S : Hs) : SameB i S S := ⟨fun _ _ _ => rfl, fun _ _ _ => rfl, fun _ _ => rfl, fun _ => rfl⟩
theorem SameB.tr {i : Nat} {S T U : Hs} (h : SameB i S T) (g : SameB i T U) : SameB i S U := ⟨fun a b hn => (g.1 a b hn).trans (h.1 a b hn), fun a b hn => (g.2.1 a b hn).trans (h.2.1 a b hn), fun a b => (g.2.2.1 a b).trans (h.2.2.1 a b), fun b => (g.2.2.2 b).trans (h.2.2.2 b)⟩
theorem SameB.sI {i k : Nat} (S : Hs) (v : Int32) : SameB i S (sI S i k v) := ⟨fun a b hn => by rw [gI_sI, if_neg hn], fun a b hn => rfl, fun _ _ => rfl, fun _ => rfl⟩
theorem SameB.sA {i k : Nat} (S : Hs) (v : Int32) : SameB i S (sA S (i + 1) k v) := ⟨fun a b hn => rfl, fun a b hn => by rw [gA_sA, if_neg hn], fun _ _ => rfl, fun _ => rfl⟩
/-- another State object's contents stay -/
theorem RepS.keep {S S' : Hs} {i j n : Nat} {K : Kd} {Z : Rt} (h : RepS S j n K Z) (hs : SameB i S S') (h1 : j ≠ i) (h2 : j + 1 ≠ i + 1) : RepS S' j n K Z := by
  obtain ⟨a1, a2, a3, a4, a5, a6⟩ := h
  refine ⟨a1, a2, by rw [hs.1 _ _ h1]; exact a3, fun b hb => by rw [hs.1 _ _ h1]; exact a4 b hb, fun b hb => by rw [hs.1 _ _ h1]; exact a5 b hb, fun x hx b hb => by rw [hs.2.1 _ _ h2]; exact a6 x hx b hb⟩
theorem exists_ok {S : Hs} {i n : Nat} {K : Kd} {Z : Rt} (h : RepS S i n K Z) (v : Int32) : m_X3_exists i v S = some 1 ∧ (∃ x, x < n ∧ v = nI x) ∨ m_X3_exists i v S = some 0 ∧ ¬ ∃ x, x < n ∧ v = nI x := by
  obtain ⟨hn, -, ht, -⟩ := h
  unfold m_X3_exists m_X3_exists_J16 m_X3_exists_J17
  rw [ht]
  by_cases h0 : v < 0
  · refine Or.inr ⟨by rw [if_pos h0]; rfl, ?_⟩
    rintro ⟨x, hx, rfl⟩
    exact not_neg (by omega) h0
  · rw [if_neg h0]
    by_cases h1 : nI n ≤ v
    · refine Or.inr ⟨by rw [if_pos h1]; rfl, ?_⟩
      rintro ⟨x, hx, rfl⟩
      rw [nle (by omega) (by omega)] at h1
      omega
    · exact Or.inl ⟨by rw [if_neg h1]; rfl, of_range h0 h1 (by omega)⟩
theorem isPerson_ok {S : Hs} {i n : Nat} {K : Kd} {Z : Rt} (h : RepS S i n K Z) {x : Nat} (hx : x < 32) : m_X3_isPerson i (nI x) S = some (if x < n ∧ K x ≠ 0 then 1 else 0) := by
  obtain ⟨-, -, -, hp, -⟩ := h
  unfold m_X3_isPerson m_X3_isPerson_J16
  have hb := hp x hx
  by_cases hc : x < n ∧ K x ≠ 0
  · have hb1 : bt (gI S i 1) x = true := by rw [hb]; simp [hc.1, hc.2]
    rw [if_pos hc, if_neg (fun q => by rw [(bit_test _ hx).mp q] at hb1; cases hb1)]
    rfl
  · have hb1 : bt (gI S i 1) x = false := by
      rw [hb]
      by_cases h1 : x < n
      · have h2 : K x = 0 := Classical.byContradiction fun q => hc ⟨h1, q⟩
        simp [h2]
      · simp [h1]
    rw [if_neg hc, if_pos ((bit_test _ hx).mpr hb1)]
    rfl
theorem isAwake_ok {S : Hs} {i n : Nat} {K : Kd} {Z : Rt} (h : RepS S i n K Z) {x : Nat} (hx : x < 32) : m_X3_isAwake i (nI x) S = some (if x < n ∧ K x = 1 then 1 else 0) := by
  obtain ⟨-, -, -, -, hp, -⟩ := h
  unfold m_X3_isAwake m_X3_isAwake_J16
  have hb := hp x hx
  by_cases hc : x < n ∧ K x = 1
  · have hb1 : bt (gI S i 2) x = true := by rw [hb]; simp [hc.1, hc.2]
    rw [if_pos hc, if_neg (fun q => by rw [(bit_test _ hx).mp q] at hb1; cases hb1)]
    rfl
  · have hb1 : bt (gI S i 2) x = false := by
      rw [hb]
      by_cases h1 : x < n
      · have h2 : ¬ K x = 1 := fun q => hc ⟨h1, q⟩
        simp [h2]
      · simp [h1]
    rw [if_neg hc, if_pos ((bit_test _ hx).mpr hb1)]
    rfl
