/-! the text: what it is, and its reading by the class -/
def kd (c : Nat) : Nat := if c = 112 then 1 else if c = 115 then 2 else 0
/-! the class -/
variable {S : Hs} {i n : Nat} {K : Kd} {Z : Rt} {len : Nat} {t : Nat → Nat}
theorem cnt_ins {x k y : Nat} (hx : x < 7) (hk : k < 4) (hy : y < 7) (h : Z x k y = false) : cnt (upR Z x k y true) = cnt Z + 1 := by
  have hl : ix x k y < 196 := by unfold ix; omega
  have e := fb_ct_upd (fl Z) true hl
  rw [fl_ix _ hk hy, h] at e
  simp only [Bool.false_eq_true, if_false, if_true, Nat.add_zero] at e
  unfold cnt
  rw [← e]
  refine fb_ct_cong fun j hj => ?_
  obtain ⟨e1, e2, e3, e4⟩ := ix_of hj
  by_cases hq : j = ix x k y
  · rw [if_pos hq, hq, fl_ix _ hk hy]
    unfold upR
    rw [if_pos ⟨rfl, rfl, rfl⟩]
  · rw [if_neg hq]
    unfold fl upR
    rw [if_neg]
    rintro ⟨q1, q2, q3⟩
    rw [q1, q2, q3] at e1
    exact hq e1.symm
def tk (t : Nat → Nat) : Kd := fun j => kd (t (1 + j))
