/-! the law from its entry to the class's object -/
theorem st_TB {s : State} {b : Nat} (hts : ∀ w ∈ lw_tbl, w.before #[Value.ref b] s = true) : TB s := by
  intro w hw
  have h0 := hts w (tblG_in w hw)
  have hok := List.all_eq_true.mp tblG_ok w hw
  rw [Bool.or_eq_true] at hok
  rcases hok with hg | hg
  · exact word_at (State.WarmedH.refl s) (good_of_word hg) h0
  · cases w <;> first | exact va_Nw.of rfl h0 | exact absurd hg (by simp [isNest])
theorem st_tys {s : State} {b : Nat} (hts : ∀ w ∈ lw_tbl, w.before #[Value.ref b] s = true) {D : va_G} (hK : ∀ (k : Nat) (q : vw_C), vwCl[k]? = some q → u_Kn s q.1 q.2.1 q.2.2 (D.1 k) (D.2 k)) : ∃ cy : Nat → ClassId, va_K D vwCl (tysY cy) s := by
  have arr : ∀ ty : FieldType, (∀ C, ty ≠ .object C) → Cond.arrayClass ty ∈ lw_tbl → ∃ cA, ArrOfT s cA ty ∧ va_RA s cA ty := by
    intro ty hne hw
    obtain ⟨cA, k, comp, h1, h2, h3⟩ := Cond.arrayClass_spec (args := #[Value.ref b]) (first := s) (s := s) (o := none) (idx := []) (hts _ hw)
    refine ⟨cA, fun n z => ⟨fun k h => (by cases h), k, h2, comp, h3⟩, ?_⟩
    cases ty with
    | object C => exact absurd rfl (hne C)
    | _ => exact h1
  obtain ⟨c0, a0, b0⟩ := arr .char (fun _ h => by cases h) (by decide +kernel)
  obtain ⟨c1, a1, b1⟩ := arr .int (fun _ h => by cases h) (by decide +kernel)
  obtain ⟨c2, a2, b2⟩ := arr .boolean (fun _ h => by cases h) (by decide +kernel)
  obtain ⟨comp, c3, k, h1, h2, h3, h4, h5⟩ := Cond.arrayOver_spec (args := #[Value.ref b]) (first := s) (s := s) (o := none) (idx := []) (n := "AccessSpread$State") (hts _ (by decide +kernel))
  refine ⟨fun i => if i = 0 then c0 else if i = 1 then c1 else if i = 2 then c2 else c3, hK, fun i q hq => ?_⟩
  match i, hq with
  | 0, hq => cases hq; exact ⟨a0, b0⟩
  | 1, hq => cases hq; exact ⟨a1, b1⟩
  | 2, hq => cases hq; exact ⟨a2, b2⟩
  | 3, hq => cases hq; exact ⟨fun n z => ⟨fun k h => (by cases h), k, h3, comp, h4⟩, k, comp, h3, h4, h1, h5⟩
  | i + 4, hq => simp [tysY] at hq
