/-! without the rights that are told a right does not come; with one of them left it does -/
theorem num_digits {j : Nat} (hj : j < 196) : nI (num j) / 100 = nI (j / 28) ∧ irm (nI (num j) / 10) 10 = nI (j % 28 / 7) ∧ irm (nI (num j)) 10 = nI (j % 28 % 7) := by
  have h0 : num j < 1000000 := by unfold num; omega
  show nI (num j) / nI 100 = nI (j / 28) ∧ irm (nI (num j) / nI 10) (nI 10) = nI (j % 28 / 7) ∧ irm (nI (num j)) (nI 10) = nI (j % 28 % 7)
  rw [nI_div h0 (by omega) (by omega), nI_div h0 (by omega) (by omega), irm_nI (by omega) (by omega) (by omega), irm_nI h0 (by omega) (by omega)]
  have e1 : num j / 100 = j / 28 := by unfold num; omega
  have e2 : num j / 10 % 10 = j % 28 / 7 := by unfold num; omega
  have e3 : num j % 10 = j % 28 % 7 := by unfold num; omega
  rw [e1, e2, e3]
  exact ⟨rfl, rfl, rfl⟩
theorem num_lt {i j : Nat} (h : i < j) : num i < num j := by
  unfold num
  omega
section CU
variable {S : Hs} {n : Nat} {K : Kd} {Z : Rt}
/-- a right told by its number, removed -/
theorem set_del {l : List Ab} (h : CP S (n, K, Z) l) (hl : l.length < 14) {j : Nat} (hj : j < 196) (hz : fl Z j = true) : ∃ S1, m_X5_set (nI (num j) / 100) (irm (nI (num j) / 10) 10) (irm (nI (num j)) 10) 0 S = some (.inl (bi true), S1) ∧ CP S1 (n, K, del Z j) ((n, K, Z) :: l) := by
  obtain ⟨d1, d2, d3⟩ := num_digits hj
  obtain ⟨f1, f2, f3, f4⟩ := fl_WF h.rs.2.1 hz
  obtain ⟨S1, a1, a2⟩ := set_c h hl f1 f2 f3 f4 false (fun q => by cases q)
  refine ⟨S1, ?_, a2⟩
  rw [d1, d2, d3]
  rw [show Z (j / 28) (j % 28 / 7) (j % 28 % 7) = true from hz] at a1
  exact a1
theorem cut250 {c : Rt} (h : CP S (n, K, c) [(n, K, Z)]) {x k y : Nat} (hx : x < n) (hk : k < 4) (hy : y < n) (hne : x ≠ y) (hC : Clo (aw n K) Z x k y = true) : ∃ U, m_L_cut_J250 (nI x) (nI k) (nI y) (nI 1) S = some (nI 1, U) ∧ CP U (n, K, Z) [] := by
  obtain ⟨v, S1, a1, a2, a3⟩ := undo_c h
  obtain ⟨S2, b1, b2⟩ := ends_c a3.rs hx hk hy hne
  rw [hC] at b1
  refine ⟨S2, ?_, a3.kp b2⟩
  unfold m_L_cut_J250 m_L_cut_J277
  rw [if_neg (show ¬ nI 1 = (0 : Int32) by decide), a1, bndX_l, if_neg (not_neg (show v < 1000000 by omega)), b1, bndE_some, if_neg (show ¬ bi true = (0 : Int32) by decide)]
  exact gd_t (by decide) _
theorem cut_law (h : CP S (n, K, Z) []) {x k y : Nat} (hx : x < n) (hk : k < 4) (hy : y < n) (hne : x ≠ y) : ∃ U, m_L_cut (nI x) (nI k) (nI y) S = some (nI 1, U) ∧ CP U (n, K, Z) [] := by
  have hn := h.rs.1
  have hw := h.rs.2.1
  obtain ⟨S1, a1, a2⟩ := cut_c h.rs hx hk hy hne
  have h1 := h.kp a2
  obtain ⟨S2, b1, b2⟩ := cutAt_c h1.rs hx hk hy hne (show 0 < 2 by omega)
  have h2 := h1.kp b2
  obtain ⟨S3, c1, c2⟩ := cutAt_c h2.rs hx hk hy hne (show 1 < 2 by omega)
  have h3 := h2.kp c2
  rw [if_pos rfl] at b1
  rw [if_neg (by omega)] at c1
  have b1' : m_X5_cutAt (nI x) (nI k) (nI y) 0 S1 = some (.inl (cut0 (aw n K) Z x k y), S2) := b1
  have c1' : m_X5_cutAt (nI x) (nI k) (nI y) 1 S2 = some (.inl (cut1 (aw n K) Z x k y), S3) := c1
  unfold m_L_cut
  rw [a1, bndX_l, b1', bndX_l, c1', bndX_l]
  have n9 : ∀ a : Nat, a < 1000 → ¬ nI a = ((-9) : Int32) := fun a ha => nI_ne9 (by omega)
  have m9' : m9 = ((-9) : Int32) := rfl
  cases hC : Clo (aw n K) Z x k y
  · have v0 : cutv (aw n K) Z x k y = nI 0 := by unfold cutv; rw [hC]; rfl
    have v1 : cut0 (aw n K) Z x k y = m9 := by unfold cut0; rw [hC]; rfl
    have v2 : cut1 (aw n K) Z x k y = m9 := by unfold cut1; rw [hC]; rfl
    obtain ⟨S4, d1, d2⟩ := ends_c h3.rs hx hk hy hne
    rw [hC] at d1
    refine ⟨S4, ?_, h3.kp d2⟩
    unfold m_L_cut_J41 m_L_cut_J51 m_L_cut_J66 m_L_cut_J88
    rw [v0, v1, v2, if_neg (n9 0 (by omega)), if_pos (show nI 0 = (0 : Int32) from rfl), if_pos (show nI 0 = (0 : Int32) from rfl), d1, bndE_some, if_pos (show bi false = (0 : Int32) from rfl), if_pos rfl, if_pos m9', if_pos m9']
    exact gd_t (by decide) _
  · by_cases hq1 : lf (cq1 (aw n K) Z x k y) 196 < 196
    · have v0 : cutv (aw n K) Z x k y = nI 1 := by unfold cutv; rw [if_pos hC, if_pos hq1]
      have v1 : cut0 (aw n K) Z x k y = nI (num (lf (cq1 (aw n K) Z x k y) 196)) := by unfold cut0; rw [if_pos hC, if_pos hq1]
      have v2 : cut1 (aw n K) Z x k y = m9 := by unfold cut1; rw [if_pos hC, if_pos hq1]
      have hq := (lf_spec (cq1 (aw n K) Z x k y) 196).2 hq1
      generalize lf (cq1 (aw n K) Z x k y) 196 = j at *
      unfold cq1 at hq
      rw [Bool.and_eq_true, Bool.not_eq_true'] at hq
      obtain ⟨S4, d1, d2⟩ := set_del h3 (show ([] : List Ab).length < 14 by simp) hq1 hq.1
      obtain ⟨S5, e1, e2⟩ := ends_c d2.rs hx hk hy hne
      rw [hq.2] at e1
      obtain ⟨U, f1, f2⟩ := cut250 (d2.kp e2) hx hk hy hne hC
      have hnum : num j < 1000 := by unfold num; omega
      refine ⟨U, ?_, f2⟩
      unfold m_L_cut_J100 m_L_cut_J112 m_L_cut_J135 m_L_cut_J179 m_L_cut_J187
      rw [v0, v1, v2, if_neg (n9 1 (by omega)), if_neg (show ¬ nI 1 = (0 : Int32) by decide), if_pos (show nI 1 = (1 : Int32) from rfl), if_pos m9', if_pos rfl, if_neg (not_neg (show num j < 1000000 by omega)), if_neg (show ¬ nI 1 = (2 : Int32) by decide), d1, bndX_l, if_neg (show ¬ bi true = (0 : Int32) by decide), e1, bndE_some, if_neg (show ¬ nI 1 = (2 : Int32) by decide), if_pos (show bi false = (0 : Int32) from rfl), if_neg (show ¬ (1 : Int32) = 0 by decide), if_neg (show ¬ nI 1 = (2 : Int32) by decide)]
      exact f1
    · by_cases hq2 : cla (aw n K) Z x k y < 196
      · have v0 : cutv (aw n K) Z x k y = nI 2 := by unfold cutv; rw [if_pos hC, if_neg hq1, if_pos hq2]
        have v1 : cut0 (aw n K) Z x k y = nI (num (cla (aw n K) Z x k y)) := by unfold cut0; rw [if_pos hC, if_neg hq1, if_pos hq2]
        have v2 : cut1 (aw n K) Z x k y = nI (num (clb (aw n K) Z x k y (cla (aw n K) Z x k y))) := by unfold cut1; rw [if_pos hC, if_neg hq1, if_pos hq2]
        have hla : clb (aw n K) Z x k y (cla (aw n K) Z x k y) < 196 := by
          have := (lf_spec (fun a => decide (clb (aw n K) Z x k y a < 196)) 196).2 hq2
          simpa [cla] using this
        have hlb := (lf_spec (fun b => decide (cla (aw n K) Z x k y < b) && cq2 (aw n K) Z x k y (cla (aw n K) Z x k y) b) 196).2 hla
        have hlb' : (decide (cla (aw n K) Z x k y < clb (aw n K) Z x k y (cla (aw n K) Z x k y)) && cq2 (aw n K) Z x k y (cla (aw n K) Z x k y) (clb (aw n K) Z x k y (cla (aw n K) Z x k y))) = true := hlb
        clear hlb
        generalize clb (aw n K) Z x k y (cla (aw n K) Z x k y) = j at *
        generalize cla (aw n K) Z x k y = i at *
        unfold cq2 at hlb'
        rw [Bool.and_eq_true, Bool.and_eq_true, Bool.and_eq_true, Bool.not_eq_true', decide_eq_true_eq] at hlb'
        obtain ⟨hij, hi, hj, hcl⟩ := hlb'
        have hno : Clo (aw n K) (del Z i) x k y = true := by
          have := lf_lt (p := cq1 (aw n K) Z x k y) (n := 196)
          cases hq : Clo (aw n K) (del Z i) x k y
          · exfalso
            exact hq1 (this.mpr ⟨i, hq2, by unfold cq1; rw [hi, hq]; rfl⟩)
          · rfl
        have hj2 : fl (del Z i) j = true := by
          show del Z i _ _ _ = true
          rw [del_iff]
          exact ⟨hj, fun q => by omega⟩
        obtain ⟨S4, d1, d2⟩ := set_del h3 (show ([] : List Ab).length < 14 by simp) hq2 hi
        obtain ⟨S5, e1, e2⟩ := ends_c d2.rs hx hk hy hne
        rw [hno] at e1
        obtain ⟨S6, g1, g2⟩ := set_del (d2.kp e2) (show [(n, K, Z)].length < 14 by simp) hla hj2
        obtain ⟨S7, o1, o2⟩ := ends_c g2.rs hx hk hy hne
        rw [hcl] at o1
        obtain ⟨v, S8, u1, u2, u3⟩ := undo_c (g2.kp o2)
        obtain ⟨U, f1, f2⟩ := cut250 u3 hx hk hy hne hC
        have hnum : num i < 1000 := by unfold num; omega
        have hnum2 : num j < 1000 := by unfold num; omega
        refine ⟨U, ?_, f2⟩
        unfold m_L_cut_J100 m_L_cut_J112 m_L_cut_J135 m_L_cut_J179 m_L_cut_J187 m_L_cut_J248
        rw [v0, v1, v2, if_neg (n9 2 (by omega)), if_neg (show ¬ nI 2 = (0 : Int32) by decide), if_neg (show ¬ nI 2 = (1 : Int32) by decide), if_neg (n9 _ hnum2), if_pos rfl, if_neg (not_neg (show num i < 1000000 by omega)), if_pos (show nI 2 = (2 : Int32) from rfl), if_pos (by rw [nlt (by omega) (by omega)]; exact num_lt hij), d1, bndX_l, if_neg (show ¬ bi true = (0 : Int32) by decide), e1, bndE_some, if_pos (show nI 2 = (2 : Int32) from rfl), if_pos (show bi true = (1 : Int32) from rfl), if_neg (show ¬ (1 : Int32) = 0 by decide), if_pos (show nI 2 = (2 : Int32) from rfl), g1, bndX_l, if_neg (show ¬ bi true = (0 : Int32) by decide), o1, bndE_some, if_pos (show bi false = (0 : Int32) from rfl), u1, bndX_l, if_neg (not_neg (show v < 1000000 by omega))]
        exact f1
      · have v0 : cutv (aw n K) Z x k y = m9 := by unfold cutv; rw [if_pos hC, if_neg hq1, if_neg hq2]
        have v1 : cut0 (aw n K) Z x k y = m9 := by unfold cut0; rw [if_pos hC, if_neg hq1, if_neg hq2]
        have v2 : cut1 (aw n K) Z x k y = m9 := by unfold cut1; rw [if_pos hC, if_neg hq1, if_neg hq2]
        obtain ⟨S4, d1, d2⟩ := ends_c h3.rs hx hk hy hne
        rw [hC] at d1
        refine ⟨S4, ?_, h3.kp d2⟩
        unfold m_L_cut_J41 m_L_cut_J51 m_L_cut_J66 m_L_cut_J88
        rw [v0, v1, v2, if_pos m9', if_neg (show ¬ m9 = (0 : Int32) by decide), d1, bndE_some, if_neg (show ¬ bi true = (0 : Int32) by decide), if_pos rfl, if_pos m9', if_pos m9']
        exact gd_t (by decide) _
end CU
