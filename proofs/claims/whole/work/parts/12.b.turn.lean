/-! one turn of the law -/
theorem turn_ok {L : Nat} {xs : Nat → Int32} (hL : L ≤ 3072) (k : Nat) (S : Hs) (hS : Rel S) (hk : 6 * k + 6 ≤ L) : ∃ S', m_L_turn L xs (nI (6 * k)) S = some (.inl (nI (6 * k + 6), S')) ∧ Rel S' := by
  have i0 : inb (nI (6 * k)) L = true := inb_nI (by omega) (by omega)
  have i1 : inb (nI (6 * k) + 1) L = true := by
    rw [show (1 : Int32) = nI 1 from rfl, nI_add]
    exact inb_nI (by omega) (by omega)
  have i2 : inb (nI (6 * k) + 2) L = true := by
    rw [show (2 : Int32) = nI 2 from rfl, nI_add]
    exact inb_nI (by omega) (by omega)
  have i3 : inb (nI (6 * k) + 3) L = true := by
    rw [show (3 : Int32) = nI 3 from rfl, nI_add]
    exact inb_nI (by omega) (by omega)
  have i4 : inb (nI (6 * k) + 4) L = true := by
    rw [show (4 : Int32) = nI 4 from rfl, nI_add]
    exact inb_nI (by omega) (by omega)
  have i5 : inb (nI (6 * k) + 5) L = true := by
    rw [show (5 : Int32) = nI 5 from rfl, nI_add]
    exact inb_nI (by omega) (by omega)
  have hlt : ¬ (Int32.ofNat L - 6 < nI (6 * k)) := by
    rw [show Int32.ofNat L = nI L from rfl, show (6 : Int32) = nI 6 from rfl, nI_sub (by omega), nlt (by omega) (by omega)]
    omega
  have hJ : ∀ S, m_L_law_J2015 L xs (nI (6 * k)) S = some (.inl (nI (6 * k + 6), S)) := fun S => by
    show (some (.inl (nI (6 * k) + nI 6, S)) : TR) = _
    rw [nI_add]
  unfold m_L_turn
  rw [if_neg hlt, gd_t i0]
  generalize xs (nI (6 * k)).toNatClampNeg &&& 31 = op
  by_cases h0 : op = 0
  · rw [if_pos h0]
    simp only [i1, i2, i3, i4, i5, gdT]
    exact (append_good _).go hJ hS
  rw [if_neg h0]
  by_cases h1 : op = 1
  · rw [if_pos h1]
    exact clearText_op.go hJ hS
  rw [if_neg h1]
  by_cases h2 : op = 2
  · rw [if_pos h2]
    exact errorPosition_op.go hJ hS
  rw [if_neg h2]
  by_cases h3 : op = 3
  · rw [if_pos h3]
    exact load_good.go hJ hS
  rw [if_neg h3]
  by_cases h4 : op = 4
  · rw [if_pos h4]
    simp only [i1, i2, i3, i4, i5, gdT]
    exact (about_good _).go hJ hS
  rw [if_neg h4]
  by_cases h5 : op = 5
  · rw [if_pos h5]
    simp only [i1, i2, i3, i4, i5, gdT]
    exact (thing_good _ _).go hJ hS
  rw [if_neg h5]
  by_cases h6 : op = 6
  · rw [if_pos h6]
    simp only [i1, i2, i3, i4, i5, gdT]
    by_cases hb : xs (nI (6 * k) + 3).toNatClampNeg = 0
    · rw [if_pos hb]
      unfold m_L_law_J441 m_L_law_J474
      simp only [i1, i2, i3, i4, i5, gdT, eq_true hb, ↓reduceIte]
      exact (rights_good _ _ false).go hJ hS
    · rw [if_neg hb]
      unfold m_L_law_J441 m_L_law_J474
      simp only [i1, i2, i3, i4, i5, gdT, eq_false hb, ↓reduceIte]
      exact (rights_good _ _ true).go hJ hS
  rw [if_neg h6]
  by_cases h7 : op = 7
  · rw [if_pos h7]
    simp only [i1, i2, i3, i4, i5, gdT]
    exact (round_good _ _ _).go hJ hS
  rw [if_neg h7]
  by_cases h8 : op = 8
  · rw [if_pos h8]
    simp only [i1, i2, i3, i4, i5, gdT]
    exact (way_good _ _ _).go hJ hS
  rw [if_neg h8]
  by_cases h9 : op = 9
  · rw [if_pos h9]
    simp only [i1, i2, i3, i4, i5, gdT]
    exact (proof_good _ _ _).go hJ hS
  rw [if_neg h9]
  by_cases h10 : op = 10
  · rw [if_pos h10]
    simp only [i1, i2, i3, i4, i5, gdT]
    by_cases hb : xs (nI (6 * k) + 1).toNatClampNeg = 0
    · rw [if_pos hb]
      unfold m_L_law_J765 m_L_law_J786
      simp only [i1, i2, i3, i4, i5, gdT, eq_true hb, ↓reduceIte]
      exact (addThing_good false).go hJ hS
    · rw [if_neg hb]
      unfold m_L_law_J765 m_L_law_J786
      simp only [i1, i2, i3, i4, i5, gdT, eq_false hb, ↓reduceIte]
      exact (addThing_good true).go hJ hS
  rw [if_neg h10]
  by_cases h11 : op = 11
  · rw [if_pos h11]
    simp only [i1, i2, i3, i4, i5, gdT]
    exact (removeThing_good _).go hJ hS
  rw [if_neg h11]
  by_cases h12 : op = 12
  · rw [if_pos h12]
    simp only [i1, i2, i3, i4, i5, gdT]
    by_cases hb : xs (nI (6 * k) + 2).toNatClampNeg = 0
    · rw [if_pos hb]
      unfold m_L_law_J899 m_L_law_J926
      simp only [i1, i2, i3, i4, i5, gdT, eq_true hb, ↓reduceIte]
      exact (wake_good _ false).go hJ hS
    · rw [if_neg hb]
      unfold m_L_law_J899 m_L_law_J926
      simp only [i1, i2, i3, i4, i5, gdT, eq_false hb, ↓reduceIte]
      exact (wake_good _ true).go hJ hS
  rw [if_neg h12]
  by_cases h13 : op = 13
  · rw [if_pos h13]
    simp only [i1, i2, i3, i4, i5, gdT]
    by_cases hb : xs (nI (6 * k) + 4).toNatClampNeg = 0
    · rw [if_pos hb]
      unfold m_L_law_J995 m_L_law_J1034 m_L_law_J1068
      simp only [i1, i2, i3, i4, i5, gdT, eq_true hb, ↓reduceIte]
      exact (set_good _ _ _ false).goS hJ hS
    · rw [if_neg hb]
      unfold m_L_law_J995 m_L_law_J1034 m_L_law_J1068
      simp only [i1, i2, i3, i4, i5, gdT, eq_false hb, ↓reduceIte]
      exact (set_good _ _ _ true).goS hJ hS
  rw [if_neg h13]
  by_cases h14 : op = 14
  · rw [if_pos h14]
    simp only [i1, i2, i3, i4, i5, gdT]
    exact (take_good _ _ _ _).go hJ hS
  rw [if_neg h14]
  by_cases h15 : op = 15
  · rw [if_pos h15]
    simp only [i1, i2, i3, i4, i5, gdT]
    exact (give_good _ _ _ _).go hJ hS
  rw [if_neg h15]
  by_cases h16 : op = 16
  · rw [if_pos h16]
    exact undo_good.go hJ hS
  rw [if_neg h16]
  by_cases h17 : op = 17
  · rw [if_pos h17]
    simp only [i1, i2, i3, i4, i5, gdT]
    by_cases hb : xs (nI (6 * k) + 1).toNatClampNeg = 0
    · rw [if_pos hb]
      unfold m_L_law_J1320 m_L_law_J1365
      simp only [i1, i2, i3, i4, i5, gdT, eq_true hb, ↓reduceIte]
      exact (whyNot_good false _ _ _ _).go hJ hS
    · rw [if_neg hb]
      unfold m_L_law_J1320 m_L_law_J1365
      simp only [i1, i2, i3, i4, i5, gdT, eq_false hb, ↓reduceIte]
      exact (whyNot_good true _ _ _ _).go hJ hS
  rw [if_neg h17]
  by_cases h18 : op = 18
  · rw [if_pos h18]
    simp only [i1, i2, i3, i4, i5, gdT]
    exact (needed_good _ _ _).go hJ hS
  rw [if_neg h18]
  by_cases h19 : op = 19
  · rw [if_pos h19]
    simp only [i1, i2, i3, i4, i5, gdT]
    exact (cut_good _ _ _).go hJ hS
  rw [if_neg h19]
  by_cases h20 : op = 20
  · rw [if_pos h20]
    simp only [i1, i2, i3, i4, i5, gdT]
    exact (cutAt_good _ _ _ _).go hJ hS
  rw [if_neg h20]
  by_cases h21 : op = 21
  · rw [if_pos h21]
    exact sleeper_op.go hJ hS
  rw [if_neg h21]
  by_cases h22 : op = 22
  · rw [if_pos h22]
    exact danger_op.go hJ hS
  rw [if_neg h22]
  by_cases h23 : op = 23
  · rw [if_pos h23]
    simp only [i1, i2, i3, i4, i5, gdT]
    exact (runScript_good _ _).go hJ hS
  rw [if_neg h23]
  by_cases h24 : op = 24
  · rw [if_pos h24]
    simp only [i1, i2, i3, i4, i5, gdT]
    exact (simulate_good _ _).go hJ hS
  rw [if_neg h24]
  by_cases h25 : op = 25
  · rw [if_pos h25]
    simp only [i1, i2, i3, i4, i5, gdT]
    exact (save_good _).go hJ hS
  rw [if_neg h25]
  by_cases h26 : op = 26
  · rw [if_pos h26]
    simp only [i1, i2, i3, i4, i5, gdT]
    exact (restore_good _).go hJ hS
  rw [if_neg h26]
  exact ⟨S, hJ S, hS⟩
