/-! what is remembered, undo, the slots, the text's calls -/
def rmR (r : Nat) : Nat := if r < 14 then r + 1 else 14
def rmM (r : Nat) (mem : Nat → Ab) (c : Ab) : Nat → Ab := if r < 14 then fun j => if j = r then c else mem j else fun j => if j = 13 then c else mem (j + 1)
theorem isSt_mem {q : Nat} (h1 : 31 ≤ q) (h2 : q ≤ 57) (h3 : q % 2 = 1) : isSt q = true := by
  unfold isSt
  rw [decide_eq_true (show 29 ≤ q by omega), decide_eq_true (show q < 73 by omega), decide_eq_true h3]
  rfl
theorem copyRS {S : Hs} {i o : Nat} {a : Ab} (h : RS S o a) (hne : i ≠ o) : ∃ S', m_X3_copyFrom i o S = some S' ∧ RS S' i a ∧ SameB i S S' := copyFrom_ok h hne
