/-! which rights would have to be removed: the class -/
variable {S : Hs} {n : Nat} {K : Kd} {Z : Rt} {A : Nat → Bool}
/-- without the right at a place -/
def del (Z : Rt) (j : Nat) : Rt := upR Z (j / 28) (j % 28 / 7) (j % 28 % 7) false
theorem del_iff {j x k y : Nat} : del Z j x k y = true ↔ Z x k y = true ∧ ¬ (x = j / 28 ∧ k = j % 28 / 7 ∧ y = j % 28 % 7) := by
  unfold del upR
  by_cases hq : x = j / 28 ∧ k = j % 28 / 7 ∧ y = j % 28 % 7
  · rw [if_pos hq]
    exact ⟨fun q => (by cases q), fun q => absurd hq q.2⟩
  · rw [if_neg hq]
    exact ⟨fun q => ⟨q, hq⟩, fun q => q.1⟩
theorem del_WF (hw : WF n Z) (j : Nat) : WF n (del Z j) := fun x k y q => hw x k y (del_iff.mp q).1
theorem del_same (j : Nat) : del (del Z j) j = del Z j := by
  refine Sub.anti (fun x k y q => (del_iff.mp q).1) fun x k y q => del_iff.mpr ⟨q, (del_iff.mp q).2⟩
theorem fl_WF (hw : WF n Z) {j : Nat} (h : fl Z j = true) : j / 28 < n ∧ j % 28 / 7 < 4 ∧ j % 28 % 7 < n ∧ j / 28 ≠ j % 28 % 7 := hw _ _ _ h
noncomputable def cq1 (A : Nat → Bool) (Z : Rt) (gx gk gy a : Nat) : Bool := fl Z a && !Clo A (del Z a) gx gk gy
noncomputable def cq2 (A : Nat → Bool) (Z : Rt) (gx gk gy a b : Nat) : Bool := fl Z a && (fl Z b && !Clo A (del (del Z a) b) gx gk gy)
noncomputable def clb (A : Nat → Bool) (Z : Rt) (gx gk gy a : Nat) : Nat := lf (fun b => decide (a < b) && cq2 A Z gx gk gy a b) 196
noncomputable def cla (A : Nat → Bool) (Z : Rt) (gx gk gy : Nat) : Nat := lf (fun a => decide (clb A Z gx gk gy a < 196)) 196
theorem cq1_used (hw : WF n Z) (hn : n ≤ 7) {gx gk gy : Nat} (hg : Clo A Z gx gk gy = true) {a : Nat} (ha : a < 196) (h : cq1 A Z gx gk gy a = true) : fl (pfs n A Z gx gk gy) a = true := by
  unfold cq1 at h
  rw [Bool.and_eq_true, Bool.not_eq_true'] at h
  refine Classical.byContradiction fun q => ?_
  have := pfs_cut (Z' := del Z a) hw hn hg fun x k y h1 h2 => del_iff.mpr ⟨h2, fun e => q (by
    obtain ⟨rfl, rfl, rfl⟩ := e
    exact h1)⟩
  rw [this] at h
  exact absurd h.2 (by decide)
theorem cq2_used (hw : WF n Z) (hn : n ≤ 7) {gx gk gy : Nat} (hg : Clo A Z gx gk gy = true) {a b : Nat} (ha : a < 196) (hb : b < 196) (h : cq2 A Z gx gk gy a b = true) : fl (pfs n A Z gx gk gy) a = true ∨ fl (pfs n A Z gx gk gy) b = true := by
  unfold cq2 at h
  rw [Bool.and_eq_true, Bool.and_eq_true, Bool.not_eq_true'] at h
  refine Classical.byContradiction fun q => ?_
  have := pfs_cut (Z' := del (del Z a) b) hw hn hg fun x k y h1 h2 => del_iff.mpr ⟨del_iff.mpr ⟨h2, fun e => q (Or.inl (by
    obtain ⟨rfl, rfl, rfl⟩ := e
    exact h1))⟩, fun e => q (Or.inr (by
    obtain ⟨rfl, rfl, rfl⟩ := e
    exact h1))⟩
  rw [this] at h
  exact absurd h.2.2 (by decide)
theorem has_fl {i : Nat} (h : RepS S i n K Z) {j : Nat} (hj : j < 196) : m_X3_has i (nI j) S = some (bi (fl Z j)) := by
  obtain ⟨e1, e2, e3, e4⟩ := ix_of hj
  have := has_bi h e2 e3 e4
  rw [e1] at this
  exact this
theorem isUsed_fl {P : Rt} (h : Prv S P) {j : Nat} (hj : j < 196) : m_X2_isUsed (nI j) S = some (bi (fl P j)) := by
  obtain ⟨e1, e2, e3, e4⟩ := ix_of hj
  have := isUsed_ok h e2 e3 e4
  rw [e1] at this
  exact this
theorem put_del {i : Nat} (h : RepS S i n K Z) {j : Nat} (hj : j < 196) (hz : j / 28 < n ∧ j % 28 / 7 < 4 ∧ j % 28 % 7 < n ∧ j / 28 ≠ j % 28 % 7) : ∃ S', m_X3_put i (nI j) (nI 0) S = some S' ∧ RepS S' i n K (del Z j) ∧ SameB i S S' := by
  obtain ⟨e1, e2, e3, e4⟩ := ix_of hj
  obtain ⟨S', h1, h2, h3⟩ := put_ok h hz.1 hz.2.1 hz.2.2.1 hz.2.2.2 (nI 0)
  rw [e1] at h1
  rw [show decide (nI 0 ≠ 0) = false from rfl] at h2
  exact ⟨S', h1, h2, h3⟩
theorem put_ins {i : Nat} (h : RepS S i n K Z) {j : Nat} (hj : j < 196) (hz : j / 28 < n ∧ j % 28 / 7 < 4 ∧ j % 28 % 7 < n ∧ j / 28 ≠ j % 28 % 7) : ∃ S', m_X3_put i (nI j) (nI 1) S = some S' ∧ RepS S' i n K (upR Z (j / 28) (j % 28 / 7) (j % 28 % 7) true) ∧ SameB i S S' := by
  obtain ⟨e1, e2, e3, e4⟩ := ix_of hj
  obtain ⟨S', h1, h2, h3⟩ := put_ok h hz.1 hz.2.1 hz.2.2.1 hz.2.2.2 (nI 1)
  rw [e1] at h1
  rw [show decide (nI 1 ≠ 0) = true from by decide] at h2
  exact ⟨S', h1, h2, h3⟩
theorem cutsBoth_ok (h : RepS S 29 n K Z) {a b gx gk gy : Nat} (ha : a < 196) (hb : b < 196) (hza : fl Z a = true) (hzb : fl Z b = true) (hx : gx < 7) (hk : gk < 4) (hy : gy < 7) : ∃ S', m_X0_cutsBoth 29 (nI a) (nI b) (nI (ix gx gk gy)) S = some (bi (!Clo (aw n K) (del (del Z a) b) gx gk gy), S') ∧ SameB 71 S S' := by
  obtain ⟨S1, e1, e2, e3⟩ := copyFrom_ok (i := 71) h (by omega)
  obtain ⟨S2, f1, f2, f3⟩ := put_del e2 ha (fl_WF h.2.1 hza)
  obtain ⟨S3, g1, g2, g3⟩ := put_del f2 hb (fl_WF h.2.1 hzb)
  obtain ⟨S4, k1, k2⟩ := spreadUntil_ok g2 hx hk hy
  refine ⟨S4, ?_, ((e3.tr f3).tr g3).tr k2⟩
  unfold m_X0_cutsBoth m_X0_cutsBoth_J43
  simp (disch := omega) only [k_0, k_1, k_2, k_3, k_4, k_5, k_6, k_7, k_8, k_9, k_10, k_14, k_16, k_28, k_30, k_48, k_49, k_57, k_100, k_110, k_127, k_128, k_196, k_255, k_1000, k_1024, k_10000, nI_add, nI_mul, nI_div, irm_nI, nle, nlt, neq, gd_t, inb_nI, cl_nI, bnd_eq, gdT, gdo, gb0, gb1, gbi, bi0, bi1, bi0r, Option.bind_some, bndE_some, ite_t, ite_f, k_m9, k_m1, k_13, k_15, k_18, k_19, k_112, k_114, k_115, k_98, k_103, k_116, k_119, k_47, k_82, k_50, k_51, k_99, k_700, k_197, ne9, ne9s, nI_ne0s, ↓reduceIte, e1, f1, g1, k1]
  cases Clo (aw n K) (del (del Z a) b) gx gk gy <;> simp [gd, bi]
/-- what the search keeps -/
def CsI (S0 S : Hs) : Prop := (∀ a b, a ≠ 71 → ¬ (a = 12 ∧ (b = 0 ∨ b = 1)) → gI S a b = gI S0 a b) ∧ (∀ a b, a ≠ 72 → gA S a b = gA S0 a b) ∧ (∀ a b, gQ S a b = gQ S0 a b) ∧ ∀ b, gO S b = gO S0 b
theorem CsI.rf (S : Hs) : CsI S S := ⟨fun _ _ _ _ => rfl, fun _ _ _ => rfl, fun _ _ => rfl, fun _ => rfl⟩
theorem CsI.tr {S T U : Hs} (h : CsI S T) (g : CsI T U) : CsI S U := ⟨fun a b q1 q2 => (g.1 a b q1 q2).trans (h.1 a b q1 q2), fun a b q => (g.2.1 a b q).trans (h.2.1 a b q), fun a b => (g.2.2.1 a b).trans (h.2.2.1 a b), fun b => (g.2.2.2 b).trans (h.2.2.2 b)⟩
theorem CsI.ofB {S T : Hs} (h : SameB 71 S T) : CsI S T := ⟨fun a b q _ => h.1 a b q, fun a b q => h.2.1 a b q, h.2.2.1, h.2.2.2⟩
theorem CsI.sI {k : Nat} (S : Hs) (v : Int32) (hk : k = 0 ∨ k = 1) : CsI S (sI S 12 k v) := ⟨fun a b q1 q2 => by
  rw [gI_sI]
  by_cases ha : a = 12
  · rw [if_pos ha, if_neg (fun e => q2 ⟨ha, by omega⟩)]
  · rw [if_neg ha], fun _ _ _ => rfl, fun _ _ => rfl, fun _ => rfl⟩
theorem CsI.kp {S T : Hs} (h : CsI S T) : Kp S T := ⟨fun a b q => ⟨h.1 a b (by omega) (by omega), h.2.1 a b (by omega)⟩, h.2.2.1, h.2.2.2⟩
theorem CsI.rep {S T : Hs} (h : CsI S T) (g : RepS S 29 n K Z) : RepS T 29 n K Z := g.kp h.kp (by omega) (by omega)
theorem CsI.prv {S T : Hs} (h : CsI S T) {P : Rt} (g : Prv S P) : Prv T P := fun j hj => (h.2.1 _ _ (by omega)).trans (g j hj)
theorem findOne_ok (h : RepS S 29 n K Z) {gx gk gy : Nat} (hx : gx < 7) (hk : gk < 4) (hy : gy < 7) (hg : Clo (aw n K) Z gx gk gy = true) (hp : Prv S (pfs n (aw n K) Z gx gk gy)) :
    ∃ S', m_X0_findOne 29 (nI (ix gx gk gy)) S = some (bi (decide (lf (cq1 (aw n K) Z gx gk gy) 196 < 196)), S') ∧ CsI S S' ∧ gI S' 12 1 = gI S 12 1 ∧ gI S' 12 0 = (if lf (cq1 (aw n K) Z gx gk gy) 196 < 196 then nI (lf (cq1 (aw n K) Z gx gk gy) 196) else gI S 12 0) := by
  unfold m_X0_findOne
  obtain ⟨r, e1, e2⟩ := loopO_inv (f := fun q : Int32 × Hs => m_X0_findOne_L3 29 (nI (ix gx gk gy)) q.1 q.2) (fun c q => c ≤ 196 ∧ q.1 = nI c ∧ CsI S q.2 ∧ gI q.2 12 1 = gI S 12 1 ∧ gI q.2 12 0 = gI S 12 0 ∧ ∀ j, j < c → cq1 (aw n K) Z gx gk gy j = false) (fun r => match r with
    | .inl U => lf (cq1 (aw n K) Z gx gk gy) 196 = 196 ∧ CsI S U ∧ gI U 12 1 = gI S 12 1 ∧ gI U 12 0 = gI S 12 0
    | .inr (v, U) => v = nI 1 ∧ lf (cq1 (aw n K) Z gx gk gy) 196 < 196 ∧ CsI S U ∧ gI U 12 1 = gI S 12 1 ∧ gI U 12 0 = nI (lf (cq1 (aw n K) Z gx gk gy) 196)) 196 (fun c q hq => by
    obtain ⟨v, U⟩ := q
    obtain ⟨hc, hv, a1, a2, a3, a4⟩ := hq
    simp only at hv a1 a2 a3
    subst hv
    by_cases hc2 : c < 196
    · have hU := a1.rep h
      have next : cq1 (aw n K) Z gx gk gy c = false → ∀ j, j < c + 1 → cq1 (aw n K) Z gx gk gy j = false := fun q j hj => by
        by_cases hjc : j = c
        · rw [hjc, q]
        · exact a4 j (by omega)
      simp only [m_X0_findOne_L3, m_X0_findOne_J50]
      cases hz : fl Z c
      · refine Or.inl ⟨hc2, ?_⟩
        simp (disch := omega) only [k_0, k_1, k_2, k_3, k_4, k_5, k_6, k_7, k_8, k_9, k_10, k_14, k_16, k_28, k_30, k_48, k_49, k_57, k_100, k_110, k_127, k_128, k_196, k_255, k_1000, k_1024, k_10000, nI_add, nI_mul, nI_div, irm_nI, nle, nlt, neq, gd_t, inb_nI, cl_nI, bnd_eq, gdT, gdo, gb0, gb1, gbi, bi0, bi1, bi0r, Option.bind_some, bndE_some, ite_t, ite_f, k_m9, k_m1, k_13, k_15, k_18, k_19, k_112, k_114, k_115, k_98, k_103, k_116, k_119, k_47, k_82, k_50, k_51, k_99, k_700, k_197, ne9, ne9s, nI_ne0s, ↓reduceIte, has_fl hU hc2, hz]
        exact ⟨_, rfl, by omega, rfl, a1, a2, a3, next (by unfold cq1; rw [hz]; rfl)⟩
      · cases hu : fl (pfs n (aw n K) Z gx gk gy) c
        · refine Or.inl ⟨hc2, ?_⟩
          simp (disch := omega) only [k_0, k_1, k_2, k_3, k_4, k_5, k_6, k_7, k_8, k_9, k_10, k_14, k_16, k_28, k_30, k_48, k_49, k_57, k_100, k_110, k_127, k_128, k_196, k_255, k_1000, k_1024, k_10000, nI_add, nI_mul, nI_div, irm_nI, nle, nlt, neq, gd_t, inb_nI, cl_nI, bnd_eq, gdT, gdo, gb0, gb1, gbi, bi0, bi1, bi0r, Option.bind_some, bndE_some, ite_t, ite_f, k_m9, k_m1, k_13, k_15, k_18, k_19, k_112, k_114, k_115, k_98, k_103, k_116, k_119, k_47, k_82, k_50, k_51, k_99, k_700, k_197, ne9, ne9s, nI_ne0s, ↓reduceIte, has_fl hU hc2, hz, isUsed_fl (a1.prv hp) hc2, hu, Bool.true_eq_false]
          exact ⟨_, rfl, by omega, rfl, a1, a2, a3, next (by
            cases hq : cq1 (aw n K) Z gx gk gy c
            · rfl
            · rw [cq1_used h.2.1 h.1 hg hc2 hq] at hu; cases hu)⟩
        · obtain ⟨V, k1, k2⟩ := cutsBoth_ok hU hc2 hc2 hz hz hx hk hy
          rw [del_same] at k1
          have hV := a1.tr (CsI.ofB k2)
          cases hcut : Clo (aw n K) (del Z c) gx gk gy
          · have hq : cq1 (aw n K) Z gx gk gy c = true := by unfold cq1; rw [hz, hcut]; rfl
            have hlf : lf (cq1 (aw n K) Z gx gk gy) 196 = c := lf_eq (by omega) a4 fun _ => hq
            refine Or.inr ⟨.inr (nI 1, sI V 12 0 (nI c)), ?_, rfl, by omega, hV.tr (CsI.sI _ _ (Or.inl rfl)), ?_, ?_⟩
            · simp (disch := omega) only [k_0, k_1, k_2, k_3, k_4, k_5, k_6, k_7, k_8, k_9, k_10, k_14, k_16, k_28, k_30, k_48, k_49, k_57, k_100, k_110, k_127, k_128, k_196, k_255, k_1000, k_1024, k_10000, nI_add, nI_mul, nI_div, irm_nI, nle, nlt, neq, gd_t, inb_nI, cl_nI, bnd_eq, gdT, gdo, gb0, gb1, gbi, bi0, bi1, bi0r, Option.bind_some, bndE_some, ite_t, ite_f, k_m9, k_m1, k_13, k_15, k_18, k_19, k_112, k_114, k_115, k_98, k_103, k_116, k_119, k_47, k_82, k_50, k_51, k_99, k_700, k_197, ne9, ne9s, nI_ne0s, ↓reduceIte, has_fl hU hc2, hz, isUsed_fl (a1.prv hp) hc2, hu, Bool.true_eq_false, k1, hcut, Bool.not_false]
            · rw [gI_sI, if_pos rfl, if_neg (by omega), k2.1 _ _ (by omega)]
              exact a2
            · rw [gI_sI, if_pos rfl, if_pos rfl, hlf]
          · refine Or.inl ⟨hc2, ?_⟩
            simp (disch := omega) only [k_0, k_1, k_2, k_3, k_4, k_5, k_6, k_7, k_8, k_9, k_10, k_14, k_16, k_28, k_30, k_48, k_49, k_57, k_100, k_110, k_127, k_128, k_196, k_255, k_1000, k_1024, k_10000, nI_add, nI_mul, nI_div, irm_nI, nle, nlt, neq, gd_t, inb_nI, cl_nI, bnd_eq, gdT, gdo, gb0, gb1, gbi, bi0, bi1, bi0r, Option.bind_some, bndE_some, ite_t, ite_f, k_m9, k_m1, k_13, k_15, k_18, k_19, k_112, k_114, k_115, k_98, k_103, k_116, k_119, k_47, k_82, k_50, k_51, k_99, k_700, k_197, ne9, ne9s, nI_ne0s, ↓reduceIte, has_fl hU hc2, hz, isUsed_fl (a1.prv hp) hc2, hu, Bool.true_eq_false, k1, hcut, Bool.not_true]
            exact ⟨_, rfl, by omega, rfl, hV, (k2.1 _ _ (by omega)).trans a2, (k2.1 _ _ (by omega)).trans a3, next (by unfold cq1; rw [hz, hcut]; rfl)⟩
    · obtain rfl : c = 196 := by omega
      refine Or.inr ⟨.inl U, ?_, lf_eq (Nat.le_refl _) a4 (fun q => absurd q (Nat.lt_irrefl _)), a1, a2, a3⟩
      simp only [m_X0_findOne_L3]
      simp (disch := omega) only [k_0, k_1, k_2, k_3, k_4, k_5, k_6, k_7, k_8, k_9, k_10, k_14, k_16, k_28, k_30, k_48, k_49, k_57, k_100, k_110, k_127, k_128, k_196, k_255, k_1000, k_1024, k_10000, nI_add, nI_mul, nI_div, irm_nI, nle, nlt, neq, gd_t, inb_nI, cl_nI, bnd_eq, gdT, gdo, gb0, gb1, gbi, bi0, bi1, bi0r, Option.bind_some, bndE_some, ite_t, ite_f, k_m9, k_m1, k_13, k_15, k_18, k_19, k_112, k_114, k_115, k_98, k_103, k_116, k_119, k_47, k_82, k_50, k_51, k_99, k_700, k_197, ne9, ne9s, nI_ne0s, ↓reduceIte]) (x := (nI 0, S)) ⟨by omega, rfl, CsI.rf S, rfl, rfl, fun j hj => by omega⟩
  simp (disch := omega) only [k_0, k_1, k_2, k_3, k_4, k_5, k_6, k_7, k_8, k_9, k_10, k_14, k_16, k_28, k_30, k_48, k_49, k_57, k_100, k_110, k_127, k_128, k_196, k_255, k_1000, k_1024, k_10000, nI_add, nI_mul, nI_div, irm_nI, nle, nlt, neq, gd_t, inb_nI, cl_nI, bnd_eq, gdT, gdo, gb0, gb1, gbi, bi0, bi1, bi0r, Option.bind_some, bndE_some, ite_t, ite_f, k_m9, k_m1, k_13, k_15, k_18, k_19, k_112, k_114, k_115, k_98, k_103, k_116, k_119, k_47, k_82, k_50, k_51, k_99, k_700, k_197, ne9, ne9s, nI_ne0s, ↓reduceIte]
  rw [e1]
  rcases r with U | ⟨v, U⟩
  · obtain ⟨h1, h2, h3, h4⟩ := e2
    refine ⟨U, ?_, h2, h3, ?_⟩
    · rw [h1]
      rfl
    · rw [h1, if_neg (Nat.lt_irrefl _)]
      exact h4
  · obtain ⟨h0, h1, h2, h3, h4⟩ := e2
    subst h0
    refine ⟨U, ?_, h2, h3, ?_⟩
    · rw [decide_eq_true h1]
      rfl
    · rw [if_pos h1]
      exact h4
theorem findTwo_ok (h : RepS S 29 n K Z) {gx gk gy : Nat} (hx : gx < 7) (hk : gk < 4) (hy : gy < 7) (hg : Clo (aw n K) Z gx gk gy = true) (hp : Prv S (pfs n (aw n K) Z gx gk gy)) :
    ∃ S', m_X0_findTwo 29 (nI (ix gx gk gy)) S = some (bi (decide (cla (aw n K) Z gx gk gy < 196)), S') ∧ CsI S S' ∧ (cla (aw n K) Z gx gk gy < 196 → gI S' 12 0 = nI (cla (aw n K) Z gx gk gy) ∧ gI S' 12 1 = nI (clb (aw n K) Z gx gk gy (cla (aw n K) Z gx gk gy)) ∧ clb (aw n K) Z gx gk gy (cla (aw n K) Z gx gk gy) < 196) := by
  unfold m_X0_findTwo
  obtain ⟨r, e1, e2⟩ := loopO_inv (f := fun q : Int32 × Hs => m_X0_findTwo_L3 29 (nI (ix gx gk gy)) q.1 q.2) (fun c q => c ≤ 196 ∧ q.1 = nI c ∧ CsI S q.2 ∧ ∀ j, j < c → clb (aw n K) Z gx gk gy j = 196) (fun r => match r with
    | .inl U => cla (aw n K) Z gx gk gy = 196 ∧ CsI S U
    | .inr (v, U) => v = nI 1 ∧ cla (aw n K) Z gx gk gy < 196 ∧ CsI S U ∧ gI U 12 0 = nI (cla (aw n K) Z gx gk gy) ∧ gI U 12 1 = nI (clb (aw n K) Z gx gk gy (cla (aw n K) Z gx gk gy)) ∧ clb (aw n K) Z gx gk gy (cla (aw n K) Z gx gk gy) < 196) 196 (fun c q hq => by
    obtain ⟨v, U⟩ := q
    obtain ⟨hc, hv, a1, a4⟩ := hq
    simp only at hv a1
    subst hv
    by_cases hc2 : c < 196
    · obtain ⟨r, k1, k2⟩ := loopO_inv (f := fun q : Int32 × Hs => m_X0_findTwo_L17 29 (nI (ix gx gk gy)) (nI c) q.1 q.2) (fun d q => q.1 = nI (c + 1 + d) ∧ c + 1 + d ≤ 196 ∧ CsI S q.2 ∧ ∀ j, j < c + 1 + d → (decide (c < j) && cq2 (aw n K) Z gx gk gy c j) = false) (fun r => match r with
        | .inl U => clb (aw n K) Z gx gk gy c = 196 ∧ CsI S U
        | .inr (v, U) => v = nI 1 ∧ CsI S U ∧ gI U 12 0 = nI c ∧ gI U 12 1 = nI (clb (aw n K) Z gx gk gy c) ∧ clb (aw n K) Z gx gk gy c < 196) 196 (fun d q hq => by
        obtain ⟨v, V⟩ := q
        obtain ⟨hv, hd, b1, b2⟩ := hq
        simp only at hv b1
        subst hv
        have hV := b1.rep h
        have hpV := b1.prv hp
        generalize hb : c + 1 + d = b at *
        by_cases hb2 : b < 196
        · have next : cq2 (aw n K) Z gx gk gy c b = false → ∀ j, j < c + 1 + (d + 1) → (decide (c < j) && cq2 (aw n K) Z gx gk gy c j) = false := fun q j hj => by
            by_cases hjc : j = b
            · rw [hjc, q, Bool.and_false]
            · exact b2 j (by omega)
          have nd : nI (b + 1) = nI (c + 1 + (d + 1)) := by rw [← hb]; rfl
          simp only [m_X0_findTwo_L17, m_X0_findTwo_J52, m_X0_findTwo_J57, m_X0_findTwo_J100]
          cases hz : fl Z c
          · refine Or.inr ⟨.inl V, ?_, ?_, b1⟩
            · simp (disch := omega) only [k_0, k_1, k_2, k_3, k_4, k_5, k_6, k_7, k_8, k_9, k_10, k_14, k_16, k_28, k_30, k_48, k_49, k_57, k_100, k_110, k_127, k_128, k_196, k_255, k_1000, k_1024, k_10000, nI_add, nI_mul, nI_div, irm_nI, nle, nlt, neq, gd_t, inb_nI, cl_nI, bnd_eq, gdT, gdo, gb0, gb1, gbi, bi0, bi1, bi0r, Option.bind_some, bndE_some, ite_t, ite_f, k_m9, k_m1, k_13, k_15, k_18, k_19, k_112, k_114, k_115, k_98, k_103, k_116, k_119, k_47, k_82, k_50, k_51, k_99, k_700, k_197, ne9, ne9s, nI_ne0s, ↓reduceIte, has_fl hV hc2, hz]
            · refine lf_eq (Nat.le_refl _) (fun j _ => ?_) fun q => absurd q (Nat.lt_irrefl _)
              unfold cq2
              rw [hz]
              simp
          · by_cases hu : fl (pfs n (aw n K) Z gx gk gy) c = false ∧ fl (pfs n (aw n K) Z gx gk gy) b = false
            · refine Or.inl ⟨by omega, ?_⟩
              simp (disch := omega) only [k_0, k_1, k_2, k_3, k_4, k_5, k_6, k_7, k_8, k_9, k_10, k_14, k_16, k_28, k_30, k_48, k_49, k_57, k_100, k_110, k_127, k_128, k_196, k_255, k_1000, k_1024, k_10000, nI_add, nI_mul, nI_div, irm_nI, nle, nlt, neq, gd_t, inb_nI, cl_nI, bnd_eq, gdT, gdo, gb0, gb1, gbi, bi0, bi1, bi0r, Option.bind_some, bndE_some, ite_t, ite_f, k_m9, k_m1, k_13, k_15, k_18, k_19, k_112, k_114, k_115, k_98, k_103, k_116, k_119, k_47, k_82, k_50, k_51, k_99, k_700, k_197, ne9, ne9s, nI_ne0s, ↓reduceIte, has_fl hV hc2, hz, isUsed_fl hpV hc2, isUsed_fl hpV hb2, hu.1, hu.2, Bool.true_eq_false]
              exact ⟨_, rfl, nd, by omega, b1, next (by
                cases hq : cq2 (aw n K) Z gx gk gy c b
                · rfl
                · have := cq2_used h.2.1 h.1 hg hc2 hb2 hq
                  rw [hu.1, hu.2] at this
                  simp at this)⟩
            · -- one of them is used
              have go : ∀ (X : Option ((Int32 × Hs) ⊕ (Hs ⊕ (Int32 × Hs)))), X = (if nI 1 = nI 0 then some (Sum.inl (nI (b + 1), V)) else (m_X3_has 29 (nI b) V).bind fun r67 => if r67 = nI 0 then some (Sum.inl (nI (b + 1), V)) else bndE (m_X0_cutsBoth 29 (nI c) (nI b) (nI (ix gx gk gy)) V) fun r80 S80 => if r80 = nI 0 then some (Sum.inl (nI (b + 1), S80)) else some (Sum.inr (Sum.inr (nI 1, sI (sI S80 12 0 (nI c)) 12 1 (nI b))))) → (d < 196 ∧ ∃ y, X = some (Sum.inl y) ∧ y.1 = nI (c + 1 + (d + 1)) ∧ c + 1 + (d + 1) ≤ 196 ∧ CsI S y.2 ∧ ∀ j, j < c + 1 + (d + 1) → (decide (c < j) && cq2 (aw n K) Z gx gk gy c j) = false) ∨ ∃ r, X = some (Sum.inr r) ∧ (match r with
                | .inl U => clb (aw n K) Z gx gk gy c = 196 ∧ CsI S U
                | .inr (v, U) => v = nI 1 ∧ CsI S U ∧ gI U 12 0 = nI c ∧ gI U 12 1 = nI (clb (aw n K) Z gx gk gy c) ∧ clb (aw n K) Z gx gk gy c < 196) := by
                intro X hX
                subst hX
                rw [if_neg (by decide), has_fl hV hb2, Option.bind_some]
                cases hzb : fl Z b
                · refine Or.inl ⟨by omega, ?_⟩
                  simp (disch := omega) only [k_0, k_1, k_2, k_3, k_4, k_5, k_6, k_7, k_8, k_9, k_10, k_14, k_16, k_28, k_30, k_48, k_49, k_57, k_100, k_110, k_127, k_128, k_196, k_255, k_1000, k_1024, k_10000, nI_add, nI_mul, nI_div, irm_nI, nle, nlt, neq, gd_t, inb_nI, cl_nI, bnd_eq, gdT, gdo, gb0, gb1, gbi, bi0, bi1, bi0r, Option.bind_some, bndE_some, ite_t, ite_f, k_m9, k_m1, k_13, k_15, k_18, k_19, k_112, k_114, k_115, k_98, k_103, k_116, k_119, k_47, k_82, k_50, k_51, k_99, k_700, k_197, ne9, ne9s, nI_ne0s, ↓reduceIte]
                  exact ⟨_, rfl, nd, by omega, b1, next (by unfold cq2; rw [hzb]; simp)⟩
                · obtain ⟨W, k1, k2⟩ := cutsBoth_ok hV hc2 hb2 hz hzb hx hk hy
                  have hW := b1.tr (CsI.ofB k2)
                  cases hcut : Clo (aw n K) (del (del Z c) b) gx gk gy
                  · have hq : cq2 (aw n K) Z gx gk gy c b = true := by unfold cq2; rw [hz, hzb, hcut]; rfl
                    have hlf : clb (aw n K) Z gx gk gy c = b := lf_eq (by omega) b2 fun _ => by rw [hq, decide_eq_true (show c < b by omega)]; rfl
                    refine Or.inr ⟨.inr (nI 1, sI (sI W 12 0 (nI c)) 12 1 (nI b)), ?_, rfl, hW.tr ((CsI.sI _ _ (Or.inl rfl)).tr (CsI.sI _ _ (Or.inr rfl))), ?_, ?_, by omega⟩
                    · simp (disch := omega) only [k_0, k_1, k_2, k_3, k_4, k_5, k_6, k_7, k_8, k_9, k_10, k_14, k_16, k_28, k_30, k_48, k_49, k_57, k_100, k_110, k_127, k_128, k_196, k_255, k_1000, k_1024, k_10000, nI_add, nI_mul, nI_div, irm_nI, nle, nlt, neq, gd_t, inb_nI, cl_nI, bnd_eq, gdT, gdo, gb0, gb1, gbi, bi0, bi1, bi0r, Option.bind_some, bndE_some, ite_t, ite_f, k_m9, k_m1, k_13, k_15, k_18, k_19, k_112, k_114, k_115, k_98, k_103, k_116, k_119, k_47, k_82, k_50, k_51, k_99, k_700, k_197, ne9, ne9s, nI_ne0s, ↓reduceIte, k1, hcut, Bool.not_false, Bool.true_eq_false]
                    · rw [gI_sI, if_pos rfl, if_neg (by omega), gI_sI, if_pos rfl, if_pos rfl]
                    · rw [gI_sI, if_pos rfl, if_pos rfl, hlf]
                  · refine Or.inl ⟨by omega, ?_⟩
                    simp (disch := omega) only [k_0, k_1, k_2, k_3, k_4, k_5, k_6, k_7, k_8, k_9, k_10, k_14, k_16, k_28, k_30, k_48, k_49, k_57, k_100, k_110, k_127, k_128, k_196, k_255, k_1000, k_1024, k_10000, nI_add, nI_mul, nI_div, irm_nI, nle, nlt, neq, gd_t, inb_nI, cl_nI, bnd_eq, gdT, gdo, gb0, gb1, gbi, bi0, bi1, bi0r, Option.bind_some, bndE_some, ite_t, ite_f, k_m9, k_m1, k_13, k_15, k_18, k_19, k_112, k_114, k_115, k_98, k_103, k_116, k_119, k_47, k_82, k_50, k_51, k_99, k_700, k_197, ne9, ne9s, nI_ne0s, ↓reduceIte, k1, hcut, Bool.not_true, Bool.true_eq_false]
                    exact ⟨_, rfl, nd, by omega, hW, next (by unfold cq2; rw [hz, hzb, hcut]; rfl)⟩
              refine go _ ?_
              cases hu1 : fl (pfs n (aw n K) Z gx gk gy) c
              · have hu2 : fl (pfs n (aw n K) Z gx gk gy) b = true := by
                  cases hq : fl (pfs n (aw n K) Z gx gk gy) b
                  · exact absurd ⟨hu1, hq⟩ hu
                  · rfl
                simp (disch := omega) only [k_0, k_1, k_2, k_3, k_4, k_5, k_6, k_7, k_8, k_9, k_10, k_14, k_16, k_28, k_30, k_48, k_49, k_57, k_100, k_110, k_127, k_128, k_196, k_255, k_1000, k_1024, k_10000, nI_add, nI_mul, nI_div, irm_nI, nle, nlt, neq, gd_t, inb_nI, cl_nI, bnd_eq, gdT, gdo, gb0, gb1, gbi, bi0, bi1, bi0r, Option.bind_some, bndE_some, ite_t, ite_f, k_m9, k_m1, k_13, k_15, k_18, k_19, k_112, k_114, k_115, k_98, k_103, k_116, k_119, k_47, k_82, k_50, k_51, k_99, k_700, k_197, ne9, ne9s, nI_ne0s, ↓reduceIte, has_fl hV hc2, hz, isUsed_fl hpV hc2, isUsed_fl hpV hb2, hu1, hu2, Bool.true_eq_false]
              · simp (disch := omega) only [k_0, k_1, k_2, k_3, k_4, k_5, k_6, k_7, k_8, k_9, k_10, k_14, k_16, k_28, k_30, k_48, k_49, k_57, k_100, k_110, k_127, k_128, k_196, k_255, k_1000, k_1024, k_10000, nI_add, nI_mul, nI_div, irm_nI, nle, nlt, neq, gd_t, inb_nI, cl_nI, bnd_eq, gdT, gdo, gb0, gb1, gbi, bi0, bi1, bi0r, Option.bind_some, bndE_some, ite_t, ite_f, k_m9, k_m1, k_13, k_15, k_18, k_19, k_112, k_114, k_115, k_98, k_103, k_116, k_119, k_47, k_82, k_50, k_51, k_99, k_700, k_197, ne9, ne9s, nI_ne0s, ↓reduceIte, has_fl hV hc2, hz, isUsed_fl hpV hc2, isUsed_fl hpV hb2, hu1, Bool.true_eq_false]
        · obtain rfl : b = 196 := by omega
          refine Or.inr ⟨.inl V, ?_, lf_eq (Nat.le_refl _) b2 (fun q => absurd q (Nat.lt_irrefl _)), b1⟩
          simp only [m_X0_findTwo_L17]
          simp (disch := omega) only [k_0, k_1, k_2, k_3, k_4, k_5, k_6, k_7, k_8, k_9, k_10, k_14, k_16, k_28, k_30, k_48, k_49, k_57, k_100, k_110, k_127, k_128, k_196, k_255, k_1000, k_1024, k_10000, nI_add, nI_mul, nI_div, irm_nI, nle, nlt, neq, gd_t, inb_nI, cl_nI, bnd_eq, gdT, gdo, gb0, gb1, gbi, bi0, bi1, bi0r, Option.bind_some, bndE_some, ite_t, ite_f, k_m9, k_m1, k_13, k_15, k_18, k_19, k_112, k_114, k_115, k_98, k_103, k_116, k_119, k_47, k_82, k_50, k_51, k_99, k_700, k_197, ne9, ne9s, nI_ne0s, ↓reduceIte]) (x := (nI (c + 1), U)) ⟨rfl, by omega, a1, fun j hj => by rw [decide_eq_false (by omega)]; rfl⟩
      simp only [m_X0_findTwo_L3, m_X0_findTwo_J106]
      rcases r with V | ⟨v, V⟩
      · obtain ⟨h1, h2⟩ := k2
        refine Or.inl ⟨hc2, (nI (c + 1), V), ?_, by omega, rfl, h2, fun j hj => ?_⟩
        · simp (disch := omega) only [k_0, k_1, k_2, k_3, k_4, k_5, k_6, k_7, k_8, k_9, k_10, k_14, k_16, k_28, k_30, k_48, k_49, k_57, k_100, k_110, k_127, k_128, k_196, k_255, k_1000, k_1024, k_10000, nI_add, nI_mul, nI_div, irm_nI, nle, nlt, neq, gd_t, inb_nI, cl_nI, bnd_eq, gdT, gdo, gb0, gb1, gbi, bi0, bi1, bi0r, Option.bind_some, bndE_some, ite_t, ite_f, k_m9, k_m1, k_13, k_15, k_18, k_19, k_112, k_114, k_115, k_98, k_103, k_116, k_119, k_47, k_82, k_50, k_51, k_99, k_700, k_197, ne9, ne9s, nI_ne0s, ↓reduceIte]
          rw [k1]
          rfl
        · by_cases hjc : j = c
          · rw [hjc, h1]
          · exact a4 j (by omega)
      · obtain ⟨h0, h1, h2, h3, h4⟩ := k2
        subst h0
        have hlf : cla (aw n K) Z gx gk gy = c := lf_eq (by omega) (fun j hj => by rw [a4 j hj]; rfl) fun _ => decide_eq_true h4
        refine Or.inr ⟨.inr (nI 1, V), ?_, rfl, by omega, h1, by rw [hlf]; exact h2, by rw [hlf]; exact h3, by rw [hlf]; exact h4⟩
        simp (disch := omega) only [k_0, k_1, k_2, k_3, k_4, k_5, k_6, k_7, k_8, k_9, k_10, k_14, k_16, k_28, k_30, k_48, k_49, k_57, k_100, k_110, k_127, k_128, k_196, k_255, k_1000, k_1024, k_10000, nI_add, nI_mul, nI_div, irm_nI, nle, nlt, neq, gd_t, inb_nI, cl_nI, bnd_eq, gdT, gdo, gb0, gb1, gbi, bi0, bi1, bi0r, Option.bind_some, bndE_some, ite_t, ite_f, k_m9, k_m1, k_13, k_15, k_18, k_19, k_112, k_114, k_115, k_98, k_103, k_116, k_119, k_47, k_82, k_50, k_51, k_99, k_700, k_197, ne9, ne9s, nI_ne0s, ↓reduceIte]
        rw [k1]
        rfl
    · obtain rfl : c = 196 := by omega
      refine Or.inr ⟨.inl U, ?_, lf_eq (Nat.le_refl _) (fun j hj => by rw [a4 j hj]; rfl) (fun q => absurd q (Nat.lt_irrefl _)), a1⟩
      simp only [m_X0_findTwo_L3]
      simp (disch := omega) only [k_0, k_1, k_2, k_3, k_4, k_5, k_6, k_7, k_8, k_9, k_10, k_14, k_16, k_28, k_30, k_48, k_49, k_57, k_100, k_110, k_127, k_128, k_196, k_255, k_1000, k_1024, k_10000, nI_add, nI_mul, nI_div, irm_nI, nle, nlt, neq, gd_t, inb_nI, cl_nI, bnd_eq, gdT, gdo, gb0, gb1, gbi, bi0, bi1, bi0r, Option.bind_some, bndE_some, ite_t, ite_f, k_m9, k_m1, k_13, k_15, k_18, k_19, k_112, k_114, k_115, k_98, k_103, k_116, k_119, k_47, k_82, k_50, k_51, k_99, k_700, k_197, ne9, ne9s, nI_ne0s, ↓reduceIte]) (x := (nI 0, S)) ⟨by omega, rfl, CsI.rf S, fun j hj => by omega⟩
  simp (disch := omega) only [k_0, k_1, k_2, k_3, k_4, k_5, k_6, k_7, k_8, k_9, k_10, k_14, k_16, k_28, k_30, k_48, k_49, k_57, k_100, k_110, k_127, k_128, k_196, k_255, k_1000, k_1024, k_10000, nI_add, nI_mul, nI_div, irm_nI, nle, nlt, neq, gd_t, inb_nI, cl_nI, bnd_eq, gdT, gdo, gb0, gb1, gbi, bi0, bi1, bi0r, Option.bind_some, bndE_some, ite_t, ite_f, k_m9, k_m1, k_13, k_15, k_18, k_19, k_112, k_114, k_115, k_98, k_103, k_116, k_119, k_47, k_82, k_50, k_51, k_99, k_700, k_197, ne9, ne9s, nI_ne0s, ↓reduceIte]
  rw [e1]
  rcases r with U | ⟨v, U⟩
  · obtain ⟨h1, h2⟩ := e2
    refine ⟨U, ?_, h2, fun q => by omega⟩
    rw [h1]
    rfl
  · obtain ⟨h0, h1, h2, h3⟩ := e2
    subst h0
    refine ⟨U, ?_, h2, fun _ => h3⟩
    rw [decide_eq_true h1]
    rfl
/-- how many rights would have to be removed, and which ones -/
def num (j : Nat) : Nat := 100 * (j / 28) + 10 * (j % 28 / 7) + j % 28 % 7
noncomputable def cutv (A : Nat → Bool) (Z : Rt) (gx gk gy : Nat) : Int32 := if Clo A Z gx gk gy = true then (if lf (cq1 A Z gx gk gy) 196 < 196 then nI 1 else if cla A Z gx gk gy < 196 then nI 2 else m9) else nI 0
noncomputable def cut0 (A : Nat → Bool) (Z : Rt) (gx gk gy : Nat) : Int32 := if Clo A Z gx gk gy = true then (if lf (cq1 A Z gx gk gy) 196 < 196 then nI (num (lf (cq1 A Z gx gk gy) 196)) else if cla A Z gx gk gy < 196 then nI (num (cla A Z gx gk gy)) else m9) else m9
noncomputable def cut1 (A : Nat → Bool) (Z : Rt) (gx gk gy : Nat) : Int32 := if Clo A Z gx gk gy = true then (if lf (cq1 A Z gx gk gy) 196 < 196 then m9 else if cla A Z gx gk gy < 196 then nI (num (clb A Z gx gk gy (cla A Z gx gk gy))) else m9) else m9
theorem numberOf_ok {j : Nat} (hj : j < 196) : m_X5_numberOf (nI j) = some (nI (num j)) := by
  unfold m_X5_numberOf m_X5_ownerOf m_X5_kindOf m_X5_objectOf num
  simp (disch := omega) only [k_0, k_1, k_2, k_3, k_4, k_5, k_6, k_7, k_8, k_9, k_10, k_14, k_16, k_28, k_30, k_48, k_49, k_57, k_100, k_110, k_127, k_128, k_196, k_255, k_1000, k_1024, k_10000, nI_add, nI_mul, nI_div, irm_nI, nle, nlt, neq, gd_t, inb_nI, cl_nI, bnd_eq, gdT, gdo, gb0, gb1, gbi, bi0, bi1, bi0r, Option.bind_some, bndE_some, ite_t, ite_f, k_m9, k_m1, k_13, k_15, k_18, k_19, k_112, k_114, k_115, k_98, k_103, k_116, k_119, k_47, k_82, k_50, k_51, k_99, k_700, k_197, ne9, ne9s, nI_ne0s, ↓reduceIte, show j / 7 % 4 = j % 28 / 7 by omega, show j % 7 = j % 28 % 7 by omega]
theorem sizeFor_ok (h : RepS S 29 n K Z) {gx gk gy : Nat} (hx : gx < 7) (hk : gk < 4) (hy : gy < 7) :
    ∃ S', m_X0_sizeFor 29 (nI (ix gx gk gy)) S = some (cutv (aw n K) Z gx gk gy, S') ∧ Kp S S' ∧ (cutv (aw n K) Z gx gk gy = nI 1 ∨ cutv (aw n K) Z gx gk gy = nI 2 → ∃ j, j < 196 ∧ gI S' 12 0 = nI j ∧ cut0 (aw n K) Z gx gk gy = nI (num j)) ∧ (cutv (aw n K) Z gx gk gy = nI 2 → ∃ j, j < 196 ∧ gI S' 12 1 = nI j ∧ cut1 (aw n K) Z gx gk gy = nI (num j)) := by
  have h0 : RepS (sI (sI S 12 0 (nI 0)) 12 1 (nI 0)) 29 n K Z := h.samev (fun b => by rw [gI_sI, if_neg (by omega), gI_sI, if_neg (by omega)]) fun b => rfl
  have k0 : Kp S (sI (sI S 12 0 (nI 0)) 12 1 (nI 0)) := (Kp.sI _ _ (by omega)).tr (Kp.sI _ _ (by omega))
  obtain ⟨S1, a1, a2, a3⟩ := follow_ok h0 (by omega) (by omega)
  have h1 := h0.kp a2 (by omega) (by omega)
  have hc := comes_ok a3 h.2.1 h.1 hx hk hy
  unfold m_X0_sizeFor m_X0_sizeFor_J59
  cases hq : Clo (aw n K) Z gx gk gy
  · have hv : cutv (aw n K) Z gx gk gy = nI 0 := by unfold cutv; rw [hq]; rfl
    simp (disch := omega) only [k_0, k_1, k_2, k_3, k_4, k_5, k_6, k_7, k_8, k_9, k_10, k_14, k_16, k_28, k_30, k_48, k_49, k_57, k_100, k_110, k_127, k_128, k_196, k_255, k_1000, k_1024, k_10000, nI_add, nI_mul, nI_div, irm_nI, nle, nlt, neq, gd_t, inb_nI, cl_nI, bnd_eq, gdT, gdo, gb0, gb1, gbi, bi0, bi1, bi0r, Option.bind_some, bndE_some, ite_t, ite_f, k_m9, k_m1, k_13, k_15, k_18, k_19, k_112, k_114, k_115, k_98, k_103, k_116, k_119, k_47, k_82, k_50, k_51, k_99, k_700, k_197, ne9, ne9s, nI_ne0s, ↓reduceIte, a1, hc, hq]
    exact ⟨S1, by rw [hv], k0.tr a2, fun q => by rw [hv, neq (by omega) (by omega), neq (by omega) (by omega)] at q; omega, fun q => by rw [hv, neq (by omega) (by omega)] at q; omega⟩
  · obtain ⟨S2, b1, b2, b3⟩ := prove_ok a3 h.2.1 h.1 hx hk hy
    have h2 := h1.kp b2.kp (by omega) (by omega)
    obtain ⟨S3, c1, c2, c3, c4⟩ := findOne_ok h2 hx hk hy hq b3
    have h3 := c2.rep h2
    have k3 : Kp S S3 := ((k0.tr a2).tr b2.kp).tr c2.kp
    by_cases hl : lf (cq1 (aw n K) Z gx gk gy) 196 < 196
    · have hv : cutv (aw n K) Z gx gk gy = nI 1 := by unfold cutv; rw [hq, if_pos rfl, if_pos hl]
      rw [decide_eq_true hl] at c1
      rw [if_pos hl] at c4
      simp (disch := omega) only [k_0, k_1, k_2, k_3, k_4, k_5, k_6, k_7, k_8, k_9, k_10, k_14, k_16, k_28, k_30, k_48, k_49, k_57, k_100, k_110, k_127, k_128, k_196, k_255, k_1000, k_1024, k_10000, nI_add, nI_mul, nI_div, irm_nI, nle, nlt, neq, gd_t, inb_nI, cl_nI, bnd_eq, gdT, gdo, gb0, gb1, gbi, bi0, bi1, bi0r, Option.bind_some, bndE_some, ite_t, ite_f, k_m9, k_m1, k_13, k_15, k_18, k_19, k_112, k_114, k_115, k_98, k_103, k_116, k_119, k_47, k_82, k_50, k_51, k_99, k_700, k_197, ne9, ne9s, nI_ne0s, ↓reduceIte, a1, hc, hq, b1, c1, Bool.true_eq_false]
      refine ⟨S3, by rw [hv], k3, fun _ => ⟨_, hl, c4, by unfold cut0; rw [hq, if_pos rfl, if_pos hl]⟩, fun q => by rw [hv, neq (by omega) (by omega)] at q; omega⟩
    · rw [decide_eq_false hl] at c1
      obtain ⟨S4, d1, d2, d3⟩ := findTwo_ok h3 hx hk hy hq (c2.prv b3)
      have k4 := k3.tr d2.kp
      by_cases hl2 : cla (aw n K) Z gx gk gy < 196
      · have hv : cutv (aw n K) Z gx gk gy = nI 2 := by unfold cutv; rw [hq, if_pos rfl, if_neg hl, if_pos hl2]
        rw [decide_eq_true hl2] at d1
        obtain ⟨f1, f2, f3⟩ := d3 hl2
        simp (disch := omega) only [k_0, k_1, k_2, k_3, k_4, k_5, k_6, k_7, k_8, k_9, k_10, k_14, k_16, k_28, k_30, k_48, k_49, k_57, k_100, k_110, k_127, k_128, k_196, k_255, k_1000, k_1024, k_10000, nI_add, nI_mul, nI_div, irm_nI, nle, nlt, neq, gd_t, inb_nI, cl_nI, bnd_eq, gdT, gdo, gb0, gb1, gbi, bi0, bi1, bi0r, Option.bind_some, bndE_some, ite_t, ite_f, k_m9, k_m1, k_13, k_15, k_18, k_19, k_112, k_114, k_115, k_98, k_103, k_116, k_119, k_47, k_82, k_50, k_51, k_99, k_700, k_197, ne9, ne9s, nI_ne0s, ↓reduceIte, a1, hc, hq, b1, c1, d1, Bool.true_eq_false]
        exact ⟨S4, by rw [hv], k4, fun _ => ⟨_, hl2, f1, by unfold cut0; rw [hq, if_pos rfl, if_neg hl, if_pos hl2]⟩, fun _ => ⟨_, f3, f2, by unfold cut1; rw [hq, if_pos rfl, if_neg hl, if_pos hl2]⟩⟩
      · have hv : cutv (aw n K) Z gx gk gy = m9 := by unfold cutv; rw [hq, if_pos rfl, if_neg hl, if_neg hl2]
        rw [decide_eq_false hl2] at d1
        simp (disch := omega) only [k_0, k_1, k_2, k_3, k_4, k_5, k_6, k_7, k_8, k_9, k_10, k_14, k_16, k_28, k_30, k_48, k_49, k_57, k_100, k_110, k_127, k_128, k_196, k_255, k_1000, k_1024, k_10000, nI_add, nI_mul, nI_div, irm_nI, nle, nlt, neq, gd_t, inb_nI, cl_nI, bnd_eq, gdT, gdo, gb0, gb1, gbi, bi0, bi1, bi0r, Option.bind_some, bndE_some, ite_t, ite_f, k_m9, k_m1, k_13, k_15, k_18, k_19, k_112, k_114, k_115, k_98, k_103, k_116, k_119, k_47, k_82, k_50, k_51, k_99, k_700, k_197, ne9, ne9s, nI_ne0s, ↓reduceIte, a1, hc, hq, b1, c1, d1, Bool.true_eq_false]
        exact ⟨S4, by rw [hv], k4, fun q => by rw [hv, ne9s (by omega), ne9s (by omega)] at q; simp at q, fun q => by rw [hv, ne9s (by omega)] at q; exact q.elim⟩
