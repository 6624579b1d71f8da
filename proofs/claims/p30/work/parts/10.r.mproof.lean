/-! the proof of a right, by the model -/
variable {S : Hs} {n : Nat} {K : Kd} {Z : Rt} {A : Nat → Bool}
theorem upR_or {Z : Rt} {x k y a c d : Nat} : upR Z x k y true a c d = true ↔ (a = x ∧ c = k ∧ d = y) ∨ Z a c d = true := by
  unfold upR
  by_cases hq : a = x ∧ c = k ∧ d = y
  · rw [if_pos hq]
    exact ⟨fun _ => Or.inl hq, fun _ => rfl⟩
  · rw [if_neg hq]
    exact ⟨fun q => Or.inr q, fun q => q.resolve_left hq⟩
