/-! the model's vectors: what they hold, copying, counting, readers -/
theorem ite_cg {α : Type} {c d : Prop} [Decidable c] [Decidable d] (h : c ↔ d) (a b : α) : (if c then a else b) = if d then a else b := by
  by_cases hc : c
  · rw [if_pos hc, if_pos (h.mp hc)]
  · rw [if_neg hc, if_neg (fun q => hc (h.mpr q))]
def m9 : Int32 := -9
def m1 : Int32 := -1
theorem k_m9 : -(nI 9) = m9 := rfl
theorem k_m1 : -(nI 1) = m1 := rfl
theorem k_13 : (13 : Int32) = nI 13 := rfl
theorem k_15 : (15 : Int32) = nI 15 := rfl
theorem k_18 : (18 : Int32) = nI 18 := rfl
theorem k_19 : (19 : Int32) = nI 19 := rfl
theorem k_112 : (112 : Int32) = nI 112 := rfl
theorem k_114 : (114 : Int32) = nI 114 := rfl
theorem k_115 : (115 : Int32) = nI 115 := rfl
theorem k_98 : (98 : Int32) = nI 98 := rfl
theorem k_103 : (103 : Int32) = nI 103 := rfl
theorem k_116 : (116 : Int32) = nI 116 := rfl
theorem k_119 : (119 : Int32) = nI 119 := rfl
theorem k_47 : (47 : Int32) = nI 47 := rfl
theorem k_82 : (82 : Int32) = nI 82 := rfl
theorem k_50 : (50 : Int32) = nI 50 := rfl
theorem k_51 : (51 : Int32) = nI 51 := rfl
theorem k_99 : (99 : Int32) = nI 99 := rfl
theorem k_700 : (700 : Int32) = nI 700 := rfl
theorem k_197 : (197 : Int32) = nI 197 := rfl
theorem ne9 {a : Nat} (h : a < 1000000) : (nI a = m9) = False := eq_false (nI_ne9 h)
theorem ne9s {a : Nat} (h : a < 1000000) : (m9 = nI a) = False := eq_false fun q => nI_ne9 h q.symm
theorem nI_ne0s {a : Nat} (h : a < 1000000) : (nI a < nI 0) = False := eq_false (not_neg h)
theorem m9_neg : m9 < nI 0 := by decide
theorem bt_m1 {j : Nat} (hj : j < 32) : bt m1 j = true := b_m1 j hj
theorem and1 (v : Int32) {k : Nat} (hk : k < 32) : (v >>> (nI k &&& 31)) &&& nI 1 = bi (bt v k) := by
  cases hb : bt v k
  · exact (bit_test v hk).mpr hb
  · apply b_ext
    intro i hi
    have h1 : ∀ j, j < 32 → bt (nI 1) j = decide (j = 0) := by decide +kernel
    rw [b_and, h1 i hi, b_sshr k hk v hi]
    show _ = bt (nI 1) i
    rw [h1 i hi]
    by_cases h0 : i = 0
    · subst h0
      simp [hk, hb]
    · simp [h0]
/-- but for one array all is as before -/
def OnA (c : Nat) (S T : Hs) : Prop := (∀ a b, gI T a b = gI S a b) ∧ (∀ a b, a ≠ c → gA T a b = gA S a b) ∧ (∀ a b, gQ T a b = gQ S a b) ∧ ∀ b, gO T b = gO S b
theorem OnA.rf (c : Nat) (S : Hs) : OnA c S S := ⟨fun _ _ => rfl, fun _ _ _ => rfl, fun _ _ => rfl, fun _ => rfl⟩
theorem OnA.tr {c : Nat} {S T U : Hs} (h : OnA c S T) (g : OnA c T U) : OnA c S U := ⟨fun a b => (g.1 a b).trans (h.1 a b), fun a b q => (g.2.1 a b q).trans (h.2.1 a b q), fun a b => (g.2.2.1 a b).trans (h.2.2.1 a b), fun b => (g.2.2.2 b).trans (h.2.2.2 b)⟩
theorem OnA.sA {c k : Nat} (S : Hs) (v : Int32) : OnA c S (sA S c k v) := ⟨fun _ _ => rfl, fun a b q => by rw [gA_sA, if_neg q], fun _ _ => rfl, fun _ => rfl⟩
/-! sums in blocks, the count of the cells -/
variable {S : Hs} {n : Nat} {K : Kd} {Z : Rt}
