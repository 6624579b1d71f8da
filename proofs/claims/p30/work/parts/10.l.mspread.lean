/-! the model's spread: rounds, ways, the end -/
/-- a loop that looks for the first number with a property -/
theorem find_loop {α : Type} {f : Int32 → Option (Int32 ⊕ (Unit ⊕ α))} {n : Nat} {p : Nat → Bool} {r : Nat → α} (h1 : ∀ k, k < n → p k = false → f (nI k) = some (.inl (nI (k + 1)))) (h2 : ∀ k, k < n → p k = true → f (nI k) = some (.inr (.inr (r k)))) (h3 : f (nI n) = some (.inr (.inl ()))) : loopO f (nI 0) = some (if lf p n < n then .inr (r (lf p n)) else .inl ()) := by
  obtain ⟨a, b⟩ := lf_spec p n
  have hl := lf_le p n
  have hlt : ∀ k, k < lf p n → f (nI k) = some (.inl (nI (k + 1))) := fun k hk => h1 k (by omega) (a k hk)
  refine loopO_seq (w := nI) (lf p n) hlt ?_
  by_cases hc : lf p n < n
  · rw [if_pos hc]
    exact h2 _ hc (b hc)
  · rw [if_neg hc, show lf p n = n by omega]
    exact h3
variable {S : Hs} {n : Nat} {K : Kd} {Z T : Rt} {A : Nat → Bool} {w : Int32}
/-! one round -/
