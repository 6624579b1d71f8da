theorem nI_div {a b : Nat} (ha : a < 1000000) (hb : b < 1000000) (h0 : 0 < b) : nI a / nI b = nI (a / b) := by
  have hq : a / b ≤ a := Nat.div_le_self _ _
  apply Int32.toInt_inj.mp
  rw [Int32.toInt_div, nI_toInt (by omega), nI_toInt (by omega), nI_toInt (by omega)]
  have e : ((a : Int).tdiv (b : Int)) = ((a / b : Nat) : Int) := by
    rw [Int.tdiv_eq_ediv_of_nonneg (by omega)]
    exact (Int.natCast_ediv a b).symm
  rw [e]
  generalize a / b = z at hq
  exact Int.bmod_eq_of_le (by omega) (by omega)
theorem nI_mul (a b : Nat) : nI a * nI b = nI (a * b) := (Int32.ofNat_mul a b).symm
theorem irm_nI {a b : Nat} (ha : a < 1000000) (hb : b < 1000000) (h0 : 0 < b) : irm (nI a) (nI b) = nI (a % b) := by
  unfold irm
  have h1 : a / b * b ≤ a := Nat.div_mul_le_self a b
  rw [nI_div ha hb h0, nI_mul, nI_sub h1]
  congr 1
  have := Nat.div_add_mod' a b
  omega
/-- a right's place in the rows -/
def ix (x k y : Nat) : Nat := 28 * x + 7 * k + y
theorem ix_nI (x k y : Nat) : m_X5_rightOf (nI x) (nI k) (nI y) = some (nI (ix x k y)) := by
  unfold m_X5_rightOf ix
  rw [show (28 : Int32) = nI 28 from rfl, show (7 : Int32) = nI 7 from rfl, nI_mul, nI_mul, nI_add, nI_add]
theorem ix_div {x k y : Nat} (hk : k < 4) (hy : y < 7) : ix x k y / 28 = x ∧ ix x k y % 28 = 7 * k + y ∧ (7 * k + y) / 7 = k ∧ (7 * k + y) % 7 = y := by
  unfold ix
  omega
theorem has_ok {S : Hs} {i n : Nat} {K : Kd} {Z : Rt} (h : RepS S i n K Z) {x k y : Nat} (hx : x < 7) (hk : k < 4) (hy : y < 7) : m_X3_has i (nI (ix x k y)) S = some (if Z x k y = true then 1 else 0) := by
  obtain ⟨-, -, -, -, -, hr⟩ := h
  obtain ⟨d1, d2, d3, d4⟩ := ix_div (x := x) hk hy
  have hlt : ix x k y < 1000000 := by unfold ix; omega
  have hj : 7 * k + y < 32 := by omega
  have hb := hr x hx (7 * k + y) hj
  rw [d3, d4, decide_eq_true (show 7 * k + y < 28 by omega), Bool.true_and] at hb
  unfold m_X3_has m_X3_has_J24
  rw [show (28 : Int32) = nI 28 from rfl, nI_div hlt (by decide) (by decide), irm_nI hlt (by decide) (by decide), d1, d2, gd_t (inb_nI hx (by decide)), cl_nI (by omega)]
  by_cases hz : Z x k y = true
  · rw [if_pos hz, if_neg (fun q => by rw [(bit_test _ hj).mp q] at hb; rw [hz] at hb; cases hb)]
    rfl
  · rw [if_neg hz, if_pos ((bit_test _ hj).mpr (hb.trans (Bool.eq_false_iff.mpr hz)))]
    rfl
/-- one bit set or cleared -/
theorem bt_one {j : Nat} (hj : j < 32) {i : Nat} (hi : i < 32) : bt ((1 : Int32) <<< (nI j &&& 31)) i = decide (i = j) := by
  have h1 : ∀ i, i < 32 → bt (1 : Int32) i = decide (i = 0) := by decide +kernel
  rw [b_shl j hj 1 hi]
  by_cases hle : j ≤ i
  · rw [h1 (i - j) (by omega), decide_eq_true hle, Bool.true_and]
    by_cases h : i = j
    · simp [h]
    · rw [decide_eq_false h, decide_eq_false (by omega)]
  · rw [decide_eq_false hle, Bool.false_and, decide_eq_false (by omega)]
theorem bt_set (v : Int32) {j : Nat} (hj : j < 32) {i : Nat} (hi : i < 32) : bt (v ||| (1 : Int32) <<< (nI j &&& 31)) i = (bt v i || decide (i = j)) := by rw [b_or, bt_one hj hi]
theorem bt_clr (v : Int32) {j : Nat} (hj : j < 32) {i : Nat} (hi : i < 32) : bt (v &&& ((1 : Int32) <<< (nI j &&& 31) ^^^ (-1))) i = (bt v i && !decide (i = j)) := by
  rw [b_and, b_xor, bt_one hj hi, b_m1 i hi]
  by_cases h : i = j <;> simp [h]
def upR (Z : Rt) (x k y : Nat) (b : Bool) : Rt := fun a c d => if a = x ∧ c = k ∧ d = y then b else Z a c d
theorem upR_WF {n : Nat} {Z : Rt} (h : WF n Z) {x k y : Nat} (b : Bool) (hx : x < n) (hk : k < 4) (hy : y < n) (hne : x ≠ y) : WF n (upR Z x k y b) := by
  intro a c d h1
  unfold upR at h1
  by_cases hc : a = x ∧ c = k ∧ d = y
  · obtain ⟨rfl, rfl, rfl⟩ := hc
    exact ⟨hx, hk, hy, hne⟩
  · rw [if_neg hc] at h1
    exact h a c d h1
theorem put_ok {S : Hs} {i n : Nat} {K : Kd} {Z : Rt} (h : RepS S i n K Z) {x k y : Nat} (hx : x < n) (hk : k < 4) (hy : y < n) (hne : x ≠ y) (b : Int32) : ∃ S', m_X3_put i (nI (ix x k y)) b S = some S' ∧ RepS S' i n K (upR Z x k y (decide (b ≠ 0))) ∧ SameB i S S' := by
  obtain ⟨hn, hw, h1, h2, h3, hr⟩ := h
  have hx7 : x < 7 := by omega
  have hy7 : y < 7 := by omega
  obtain ⟨d1, d2, d3, d4⟩ := ix_div (x := x) hk hy7
  have hlt : ix x k y < 1000000 := by unfold ix; omega
  have hj : 7 * k + y < 32 := by omega
  have main : ∀ (w : Int32) (bb : Bool), (∀ j, j < 32 → bt w j = if j = 7 * k + y then bb else bt (gA S (i + 1) x) j) → RepS (sA S (i + 1) x w) i n K (upR Z x k y bb) := by
    intro w bb hwb
    refine ⟨hn, upR_WF hw bb hx hk hy hne, h1, h2, h3, fun a ha j hj2 => ?_⟩
    rw [gA_sA, if_pos rfl]
    by_cases hax : a = x
    · subst hax
      rw [if_pos rfl, hwb j hj2]
      by_cases hjj : j = 7 * k + y
      · subst hjj
        rw [if_pos rfl, d3, d4]
        unfold upR
        rw [if_pos ⟨rfl, rfl, rfl⟩, decide_eq_true (show 7 * k + y < 28 by omega), Bool.true_and]
      · rw [if_neg hjj, hr a hx7 j hj2]
        congr 1
        unfold upR
        rw [if_neg (fun q => hjj (by omega))]
    · rw [if_neg hax, hr a ha j hj2]
      congr 1
      unfold upR
      rw [if_neg (fun q => hax q.1)]
  unfold m_X3_put m_X3_put_J43
  rw [show (28 : Int32) = nI 28 from rfl, nI_div hlt (by decide) (by decide), irm_nI hlt (by decide) (by decide), d1, d2]
  simp only [bnd_eq, gd_t (inb_nI hx7 (by decide : 7 < 1000000)), cl_nI (show x < 1000000 by omega)]
  by_cases hb : b = 0
  · refine ⟨_, by rw [if_pos hb], ?_, SameB.sA S _⟩
    rw [show decide (b ≠ 0) = false from decide_eq_false (fun q => q hb)]
    refine main _ _ fun j hj2 => ?_
    rw [bt_clr _ hj hj2]
    by_cases hjj : j = 7 * k + y <;> simp [hjj]
  · refine ⟨_, by rw [if_neg hb], ?_, SameB.sA S _⟩
    rw [show decide (b ≠ 0) = true from decide_eq_true hb]
    refine main _ _ fun j hj2 => ?_
    rw [bt_set _ hj hj2]
    by_cases hjj : j = 7 * k + y <;> simp [hjj]
