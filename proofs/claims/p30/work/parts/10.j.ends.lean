/-! the class's spread to its end, and until a right comes -/
variable {S S0 : Hs} {i n : Nat} {K : Kd} {Z : Rt}
/-- the awake ones -/
def aw (n : Nat) (K : Kd) : Nat → Bool := fun p => decide (p < n) && decide (K p = 1)
theorem aw_iff {n p : Nat} {K : Kd} : aw n K p = true ↔ p < n ∧ K p = 1 := by unfold aw; simp
theorem doSteps_self (h : RepS S i n K Z) : ∃ (T' : Hs) (Z' : Rt), m_X3_doSteps i i S = some (bi (B (¬ Sub Z' Z)), T') ∧ RepS T' i n K Z' ∧ SameB i S T' ∧ Sub Z Z' ∧ Sub Z' (Clo (aw n K) Z) ∧ Sub (stp (aw n K) Z) Z' :=
  doSteps_ok (o := i) (K2 := K) (G := Clo (aw n K) Z) (U := Clo (aw n K) Z) (A := aw n K) (fun _ => rfl) (Clo_sub _ _) (Clo_cls _ _) (fun p hp => by rw [aw_iff]; exact ⟨fun q => q.2, fun q => ⟨hp, q⟩⟩) (fun p hp => (aw_iff.mp hp).1) h (Clo_sub _ _) (Or.inl rfl)
theorem doSteps_bef {o : Nat} {K2 : Kd} (h : RepS S i n K Z) (hb : RepS S o n K2 Z) (hne : o ≠ i) : ∃ (T' : Hs), m_X3_doSteps i o S = some (bi (B (¬ Sub (stp (aw n K) Z) Z)), T') ∧ RepS T' i n K (stp (aw n K) Z) ∧ SameB i S T' := by
  obtain ⟨T', Z', h1, h2, h3, h4, h5, h6⟩ := doSteps_ok (o := o) (K2 := K2) (G := Z) (U := stp (aw n K) Z) (A := aw n K) (fun e => absurd e hne) (Sub.rf _) (fun x k y q => stp_iff.mpr (Or.inr q)) (fun p hp => by rw [aw_iff]; exact ⟨fun q => q.2, fun q => ⟨hp, q⟩⟩) (fun p hp => (aw_iff.mp hp).1) h (stp_sub _ _) (Or.inr hb)
  obtain rfl : stp (aw n K) Z = Z' := Sub.anti h6 h5
  exact ⟨T', h1, h2, h3⟩
/-- the invariant of both loops -/
def SpI (S0 : Hs) (i n : Nat) (K : Kd) (Z : Rt) (c : Nat) (m : Int32) (T : Hs) : Prop := c ≤ 196 ∧ SameB i S0 T ∧ ∃ Zc, RepS T i n K Zc ∧ Sub (rd (aw n K) Z c) Zc ∧ Sub Zc (Clo (aw n K) Z) ∧ (m = nI 1 ∨ m = nI 0) ∧ (m = nI 0 → Zc = Clo (aw n K) Z)
theorem SpI.start (h : RepS S0 i n K Z) : SpI S0 i n K Z 0 (nI 1) S0 := ⟨by omega, SameB.rf _ _, Z, h, Sub.rf _, Clo_sub _ _, Or.inl rfl, fun q => absurd q (by rw [neq (by omega) (by omega)]; omega)⟩
theorem SpI.step {c : Nat} {m : Int32} {T : Hs} (h : SpI S0 i n K Z c m T) (hc : c < 196) : ∃ r T', m_X3_doSteps i i T = some (r, T') ∧ SpI S0 i n K Z (c + 1) r T' := by
  obtain ⟨-, h1, Zc, h2, h3, h4, -, -⟩ := h
  obtain ⟨T', Z', e1, e2, e3, e4, e5, e6⟩ := doSteps_self h2
  have hC : Clo (aw n K) Zc = Clo (aw n K) Z := Sub.anti (by rw [← Clo_idem (aw n K) Z]; exact Clo_mono h4) (Clo_mono ((rd_mono (aw n K) Z (Nat.zero_le c)).tr h3))
  rw [hC] at e5
  refine ⟨_, T', e1, by omega, h1.tr e3, Z', e2, fun x k y q => ?_, e5, ?_, fun q => ?_⟩
  · rcases stp_iff.mp q with q | q
    · exact e4 _ _ _ (h3 _ _ _ q)
    · exact e6 _ _ _ (stp_iff.mpr (Or.inr (nw_mono h3 q)))
  · cases B (¬ Sub Z' Zc)
    · exact Or.inr rfl
    · exact Or.inl rfl
  · rw [bi0, B_false, Classical.not_not] at q
    obtain rfl := Sub.anti e4 q
    rw [← hC]
    exact Clo_eq (Sub.rf _) (Clo_sub _ _) fun x k y w => e6 _ _ _ (stp_iff.mpr (Or.inr w))
theorem SpI.last {c : Nat} {m : Int32} {T : Hs} (h : SpI S0 i n K Z c m T) (hw : WF n Z) (hn : n ≤ 7) (hc : c = 196 ∨ m = nI 0) : RepS T i n K (Clo (aw n K) Z) ∧ SameB i S0 T := by
  obtain ⟨-, h1, Zc, h2, h3, h4, -, h6⟩ := h
  rcases hc with rfl | hc
  · rw [rd_big hw hn (by omega)] at h3
    obtain rfl := Sub.anti h3 h4
    exact ⟨h2, h1⟩
  · rw [h6 hc] at h2
    exact ⟨h2, h1⟩
theorem spreadOut_ok (h : RepS S i n K Z) : ∃ S', m_X3_spreadOut i S = some S' ∧ RepS S' i n K (Clo (aw n K) Z) ∧ SameB i S S' := by
  obtain ⟨r, h1, h2⟩ := loopO_inv (f := fun x : Int32 × Int32 × Hs => m_X3_spreadOut_L4 i x.1 x.2.1 x.2.2) (fun c q => q.2.1 = nI c ∧ SpI S i n K Z c q.1 q.2.2) (fun T => RepS T i n K (Clo (aw n K) Z) ∧ SameB i S T) 196 (fun c q hq => by
    obtain ⟨m, v, T⟩ := q
    obtain ⟨hv, hI⟩ := hq
    simp only at hv hI
    subst hv
    have hc := hI.1
    by_cases hc2 : c < 196
    · rcases hI.2.2.choose_spec.2.2.2.1 with rfl | rfl
      · obtain ⟨r, T', e1, e2⟩ := hI.step hc2
        refine Or.inl ⟨hc2, (r, nI (c + 1), T'), ?_, rfl, e2⟩
        simp only [m_X3_spreadOut_L4]
        simp (disch := omega) only [k_0, k_1, k_2, k_3, k_4, k_5, k_6, k_7, k_8, k_9, k_10, k_14, k_16, k_28, k_30, k_48, k_49, k_57, k_100, k_110, k_127, k_128, k_196, k_255, k_1000, k_1024, k_10000, nI_add, nI_mul, nI_div, irm_nI, nle, nlt, neq, gd_t, inb_nI, cl_nI, bnd_eq, gdT, gdo, gb0, gb1, gbi, bi0, bi1, bi0r, Option.bind_some, bndE_some, ite_t, ite_f, ↓reduceIte, e1]
      · refine Or.inr ⟨T, ?_, hI.last h.2.1 h.1 (Or.inr rfl)⟩
        simp only [m_X3_spreadOut_L4]
        simp (disch := omega) only [k_0, k_1, k_2, k_3, k_4, k_5, k_6, k_7, k_8, k_9, k_10, k_14, k_16, k_28, k_30, k_48, k_49, k_57, k_100, k_110, k_127, k_128, k_196, k_255, k_1000, k_1024, k_10000, nI_add, nI_mul, nI_div, irm_nI, nle, nlt, neq, gd_t, inb_nI, cl_nI, bnd_eq, gdT, gdo, gb0, gb1, gbi, bi0, bi1, bi0r, Option.bind_some, bndE_some, ite_t, ite_f, ↓reduceIte]
    · obtain rfl : c = 196 := by omega
      refine Or.inr ⟨T, ?_, hI.last h.2.1 h.1 (Or.inl rfl)⟩
      simp only [m_X3_spreadOut_L4]
      simp (disch := omega) only [k_0, k_1, k_2, k_3, k_4, k_5, k_6, k_7, k_8, k_9, k_10, k_14, k_16, k_28, k_30, k_48, k_49, k_57, k_100, k_110, k_127, k_128, k_196, k_255, k_1000, k_1024, k_10000, nI_add, nI_mul, nI_div, irm_nI, nle, nlt, neq, gd_t, inb_nI, cl_nI, bnd_eq, gdT, gdo, gb0, gb1, gbi, bi0, bi1, bi0r, Option.bind_some, bndE_some, ite_t, ite_f, ↓reduceIte]) (x := (nI 1, nI 0, S)) ⟨rfl, SpI.start h⟩
  refine ⟨r, ?_, h2⟩
  unfold m_X3_spreadOut m_X3_spreadOut_J27
  simp (disch := omega) only [k_0, k_1, k_2, k_3, k_4, k_5, k_6, k_7, k_8, k_9, k_10, k_14, k_16, k_28, k_30, k_48, k_49, k_57, k_100, k_110, k_127, k_128, k_196, k_255, k_1000, k_1024, k_10000, nI_add, nI_mul, nI_div, irm_nI, nle, nlt, neq, gd_t, inb_nI, cl_nI, bnd_eq, gdT, gdo, gb0, gb1, gbi, bi0, bi1, bi0r, Option.bind_some, bndE_some, ite_t, ite_f, ↓reduceIte]
  rw [h1]
  rfl
theorem spreadUntil_ok (h : RepS S i n K Z) {x k y : Nat} (hx : x < 7) (hk : k < 4) (hy : y < 7) : ∃ S', m_X3_spreadUntil i (nI (ix x k y)) S = some (bi (Clo (aw n K) Z x k y), S') ∧ SameB i S S' := by
  obtain ⟨r, h1, h2, Zc, h3, h4⟩ := loopO_inv (f := fun q : Int32 × Int32 × Hs => m_X3_spreadUntil_L4 i (nI (ix x k y)) q.1 q.2.1 q.2.2) (fun c q => q.2.1 = nI c ∧ SpI S i n K Z c q.1 q.2.2) (fun T => SameB i S T ∧ ∃ Zc, RepS T i n K Zc ∧ Zc x k y = Clo (aw n K) Z x k y) 196 (fun c q hq => by
    obtain ⟨m, v, T⟩ := q
    obtain ⟨hv, hI⟩ := hq
    simp only at hv hI
    subst hv
    have hc := hI.1
    by_cases hc2 : c < 196
    · obtain ⟨Zc, g1, g2, g3, g4, g5⟩ := hI.2.2
      rcases g4 with rfl | rfl
      · cases hz : Zc x k y
        · obtain ⟨r, T', e1, e2⟩ := hI.step hc2
          refine Or.inl ⟨hc2, (r, nI (c + 1), T'), ?_, rfl, e2⟩
          simp only [m_X3_spreadUntil_L4]
          simp (disch := omega) only [k_0, k_1, k_2, k_3, k_4, k_5, k_6, k_7, k_8, k_9, k_10, k_14, k_16, k_28, k_30, k_48, k_49, k_57, k_100, k_110, k_127, k_128, k_196, k_255, k_1000, k_1024, k_10000, nI_add, nI_mul, nI_div, irm_nI, nle, nlt, neq, gd_t, inb_nI, cl_nI, bnd_eq, gdT, gdo, gb0, gb1, gbi, bi0, bi1, bi0r, Option.bind_some, bndE_some, ite_t, ite_f, ↓reduceIte, has_bi g1 hx hk hy, hz, e1]
        · refine Or.inr ⟨T, ?_, hI.2.1, Zc, g1, by rw [hz, g3 _ _ _ hz]⟩
          simp only [m_X3_spreadUntil_L4]
          simp (disch := omega) only [k_0, k_1, k_2, k_3, k_4, k_5, k_6, k_7, k_8, k_9, k_10, k_14, k_16, k_28, k_30, k_48, k_49, k_57, k_100, k_110, k_127, k_128, k_196, k_255, k_1000, k_1024, k_10000, nI_add, nI_mul, nI_div, irm_nI, nle, nlt, neq, gd_t, inb_nI, cl_nI, bnd_eq, gdT, gdo, gb0, gb1, gbi, bi0, bi1, bi0r, Option.bind_some, bndE_some, ite_t, ite_f, ↓reduceIte, has_bi g1 hx hk hy, hz, Bool.true_eq_false]
      · have := hI.last h.2.1 h.1 (Or.inr rfl)
        refine Or.inr ⟨T, ?_, this.2, _, this.1, rfl⟩
        simp only [m_X3_spreadUntil_L4]
        simp (disch := omega) only [k_0, k_1, k_2, k_3, k_4, k_5, k_6, k_7, k_8, k_9, k_10, k_14, k_16, k_28, k_30, k_48, k_49, k_57, k_100, k_110, k_127, k_128, k_196, k_255, k_1000, k_1024, k_10000, nI_add, nI_mul, nI_div, irm_nI, nle, nlt, neq, gd_t, inb_nI, cl_nI, bnd_eq, gdT, gdo, gb0, gb1, gbi, bi0, bi1, bi0r, Option.bind_some, bndE_some, ite_t, ite_f, ↓reduceIte]
    · obtain rfl : c = 196 := by omega
      have := hI.last h.2.1 h.1 (Or.inl rfl)
      refine Or.inr ⟨T, ?_, this.2, _, this.1, rfl⟩
      simp only [m_X3_spreadUntil_L4]
      simp (disch := omega) only [k_0, k_1, k_2, k_3, k_4, k_5, k_6, k_7, k_8, k_9, k_10, k_14, k_16, k_28, k_30, k_48, k_49, k_57, k_100, k_110, k_127, k_128, k_196, k_255, k_1000, k_1024, k_10000, nI_add, nI_mul, nI_div, irm_nI, nle, nlt, neq, gd_t, inb_nI, cl_nI, bnd_eq, gdT, gdo, gb0, gb1, gbi, bi0, bi1, bi0r, Option.bind_some, bndE_some, ite_t, ite_f, ↓reduceIte]) (x := (nI 1, nI 0, S)) ⟨rfl, SpI.start h⟩
  refine ⟨r, ?_, h2⟩
  unfold m_X3_spreadUntil m_X3_spreadUntil_J35
  simp (disch := omega) only [k_0, k_1, k_2, k_3, k_4, k_5, k_6, k_7, k_8, k_9, k_10, k_14, k_16, k_28, k_30, k_48, k_49, k_57, k_100, k_110, k_127, k_128, k_196, k_255, k_1000, k_1024, k_10000, nI_add, nI_mul, nI_div, irm_nI, nle, nlt, neq, gd_t, inb_nI, cl_nI, bnd_eq, gdT, gdo, gb0, gb1, gbi, bi0, bi1, bi0r, Option.bind_some, bndE_some, ite_t, ite_f, ↓reduceIte]
  rw [h1]
  simp (disch := omega) only [k_0, k_1, k_2, k_3, k_4, k_5, k_6, k_7, k_8, k_9, k_10, k_14, k_16, k_28, k_30, k_48, k_49, k_57, k_100, k_110, k_127, k_128, k_196, k_255, k_1000, k_1024, k_10000, nI_add, nI_mul, nI_div, irm_nI, nle, nlt, neq, gd_t, inb_nI, cl_nI, bnd_eq, gdT, gdo, gb0, gb1, gbi, bi0, bi1, bi0r, Option.bind_some, bndE_some, ite_t, ite_f, ↓reduceIte, has_bi h3 hx hk hy]
  rw [h4]
theorem isRightIndex_ok (h : RepS S i n K Z) {x k y : Nat} (hx : x < 7) (hk : k < 4) (hy : y < 7) : m_X3_isRightIndex i (nI (ix x k y)) S = some (bi (decide (x < n ∧ y < n ∧ x ≠ y))) := by
  obtain ⟨d1, d2, d3, d4⟩ := ix_div (x := x) hk hy
  have hn := h.1
  have hlt : ix x k y < 1000000 := by unfold ix; omega
  have e7 : ix x k y / 7 % 4 = k := by unfold ix; omega
  have e8 : ix x k y % 7 = y := by unfold ix; omega
  unfold m_X3_isRightIndex m_X5_ownerOf m_X5_kindOf m_X5_objectOf
  simp (disch := omega) only [k_0, k_1, k_2, k_3, k_4, k_5, k_6, k_7, k_8, k_9, k_10, k_14, k_16, k_28, k_30, k_48, k_49, k_57, k_100, k_110, k_127, k_128, k_196, k_255, k_1000, k_1024, k_10000, nI_add, nI_mul, nI_div, irm_nI, nle, nlt, neq, gd_t, inb_nI, cl_nI, bnd_eq, gdT, gdo, gb0, gb1, gbi, bi0, bi1, bi0r, Option.bind_some, bndE_some, ite_t, ite_f, ↓reduceIte, isRight_bi h, d1, e7, e8]
  congr 2
  unfold isR
  rw [isT_nI (by omega) (by omega), isT_nI (by omega) (by omega), isT_nI (by omega) (by omega)]
  simp [neq (show x < 1000000 by omega) (show y < 1000000 by omega), hk]
  rw [Bool.eq_iff_iff]
  simp
  exact ⟨fun ⟨⟨a, b⟩, c⟩ => ⟨a, b, c⟩, fun ⟨a, b, c⟩ => ⟨⟨a, b⟩, c⟩⟩
