/-! the askings: rounds, ways, proofs, what bars, who is needed, what to cut -/
/-- an int by its bits -/
noncomputable def ofB (p : Nat → Bool) : Int32 := Classical.epsilon fun v : Int32 => ∀ j, j < 32 → bt v j = p j
theorem ofB_eq {v : Int32} {p : Nat → Bool} (h : ∀ j, j < 32 → bt v j = p j) : v = ofB p :=
  b_ext fun j hj => (h j hj).trans ((Classical.epsilon_spec (p := fun v : Int32 => ∀ j, j < 32 → bt v j = p j) ⟨v, h⟩ j hj).symm)
theorem bndP_l {α β : Type} (a : α) (f : α → Option β) (g : Nat → Option β) : bndP (some (.inl a)) f g = f a := rfl
theorem bndP_r {α β : Type} (e : Nat) (f : α → Option β) (g : Nat → Option β) : bndP (some (.inr e)) f g = g e := rfl
noncomputable def rndv (A : Nat → Bool) (Z : Rt) (a c d : Nat) : Int32 := if Clo A Z a c d = true then nI (fr A Z a c d) else m9
theorem fol_at {S : Hs} {n : Nat} {K : Kd} {Z : Rt} (h : Fol S n K Z) {a c d : Nat} (ha : a < 7) (hc : c < 4) (hd : d < 7) : gA S 7 (ix a c d) = nI (fr (aw n K) Z a c d) := by
  rw [h.2.2 _ (by unfold ix; omega), fri_ix hc hd]
noncomputable def prfv (n : Nat) (A : Nat → Bool) (Z : Rt) (a c d : Nat) : Int32 := if Clo A Z a c d = true then nI (plen n A Z a c d) else m9
