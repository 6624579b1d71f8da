/-! the relation of both sides: an abstract state, what the class and the model hold of it -/
abbrev Ab : Type := Nat × Kd × Rt
def RS (S : Hs) (i : Nat) (a : Ab) : Prop := RepS S i a.1 a.2.1 a.2.2
def AOk (a : Ab) : Prop := a.1 ≤ 7 ∧ WF a.1 a.2.2 ∧ (∀ j, j < a.1 → a.2.1 j < 3) ∧ cnt a.2.2 ≤ 30
/-- the remembered State objects -/
def Mem (S : Hs) (r : Nat) (mem : Nat → Ab) (q : Nat → Nat) : Prop := (∀ j, j < 14 → gQ S 3 j = q j ∧ 31 ≤ q j ∧ q j ≤ 57 ∧ q j % 2 = 1) ∧ (∀ i j, i < 14 → j < 14 → q i = q j → i = j) ∧ ∀ j, j < r → j < 14 → RS S (q j) (mem j)
theorem RS.samev {S T : Hs} {i : Nat} {a : Ab} (h : RS S i a) (h1 : ∀ b, gI T i b = gI S i b) (h2 : ∀ b, gA T (i + 1) b = gA S (i + 1) b) : RS T i a := RepS.samev h h1 h2
theorem RS.keep {S T : Hs} {i j : Nat} {a : Ab} (h : RS S j a) (hs : SameB i S T) (h1 : j ≠ i) : RS T j a := RepS.keep h hs h1 (by omega)
/-! what calls have to fulfil -/
noncomputable def wr (n : Nat) (x k y : Int32) : Nat := if (isT n x && isT n y) = true then (if x ≠ y ∧ isT 4 k = true then 0 else 2) else 1
theorem wr_0 {n : Nat} (hn : n ≤ 7) {x k y : Int32} (h : wr n x k y = 0) : ∃ a c d, a < n ∧ c < 4 ∧ d < n ∧ a ≠ d ∧ x = nI a ∧ k = nI c ∧ y = nI d := by
  unfold wr at h
  by_cases h1 : (isT n x && isT n y) = true
  · rw [if_pos h1] at h
    by_cases h2 : x ≠ y ∧ isT 4 k = true
    · rw [Bool.and_eq_true] at h1
      obtain ⟨a, ha, rfl⟩ := isT_iff.mp h1.1
      obtain ⟨d, hd, rfl⟩ := isT_iff.mp h1.2
      obtain ⟨c, hc, rfl⟩ := isT_iff.mp h2.2
      exact ⟨a, c, d, ha, hc, hd, fun e => h2.1 (by rw [e]), rfl, rfl, rfl⟩
    · rw [if_neg h2] at h; cases h
  · rw [if_neg h1] at h; cases h
/-- the exception of a wrong right: 3 no such thing, 1 another one -/
noncomputable def wrx (n : Nat) (x k y : Int32) : Nat := if wr n x k y = 1 then 3 else 1
theorem nI00 : (nI 0 = (0 : Int32)) = True := eq_true rfl
theorem nI10 : (nI 1 = (0 : Int32)) = False := eq_false (by decide)
theorem checkThing_ok {S : Hs} {n : Nat} {K : Kd} {Z : Rt} (h : RepS S 29 n K Z) (v : Int32) : m_X5_checkThing v S = some (if isT n v = true then .inl () else .inr 3) := by
  unfold m_X5_checkThing
  simp (disch := omega) only [k_0, k_1, k_2, k_3, k_4, k_5, k_6, k_7, k_8, k_9, k_10, k_14, k_16, k_28, k_30, k_48, k_49, k_57, k_100, k_110, k_127, k_128, k_196, k_255, k_1000, k_1024, k_10000, nI_add, nI_mul, nI_div, irm_nI, nle, nlt, neq, gd_t, inb_nI, cl_nI, bnd_eq, gdT, gdo, gb0, gb1, gbi, bi0, bi1, bi0r, Option.bind_some, bndE_some, ite_t, ite_f, k_m9, k_m1, k_13, k_15, k_18, k_19, k_112, k_114, k_115, k_98, k_103, k_116, k_119, k_47, k_82, k_50, k_51, k_99, k_700, k_197, ne9, ne9s, nI_ne0s, ↓reduceIte, exists_bi h]
  cases isT n v <;> simp
theorem checkRight_ok {S : Hs} {n : Nat} {K : Kd} {Z : Rt} (h : RepS S 29 n K Z) (x k y : Int32) : m_X5_checkRight x k y S = some (if wr n x k y = 0 then .inl () else .inr (wrx n x k y)) := by
  unfold m_X5_checkRight
  rw [checkThing_ok h, checkThing_ok h, isRight_bi h]
  unfold wrx isR wr bndP
  cases isT n x <;> cases isT n y <;> cases isT 4 k <;> by_cases hxy : x = y <;> simp [hxy, bi, nI00, nI10]
