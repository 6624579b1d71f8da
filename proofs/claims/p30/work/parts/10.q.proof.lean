/-! the proof of a right: what it uses and brings -/
variable {S : Hs} {n : Nat} {K : Kd} {Z : Rt} {A : Nat → Bool}
/-- whether a right comes in a round from 1 on -/
noncomputable def hwy (A : Nat → Bool) (Z : Rt) : Rt := fun x k y => decide (fr A Z x k y ≠ 0 ∧ fr A Z x k y ≠ 197)
/-- whether its way is a give; the other thing of its way -/
noncomputable def wg (n : Nat) (A : Nat → Bool) (Z : Rt) (x k y : Nat) : Bool := !decide (lf (tkb A (rd A Z (fr A Z x k y - 1)) x k y) n < n)
noncomputable def wo (n : Nat) (A : Nat → Bool) (Z : Rt) (x k y : Nat) : Nat := if wg n A Z x k y = true then lf (gvb A (rd A Z (fr A Z x k y - 1)) x k y) n else lf (tkb A (rd A Z (fr A Z x k y - 1)) x k y) n
theorem hwy_iff {x k y : Nat} : hwy A Z x k y = true ↔ fr A Z x k y ≠ 0 ∧ fr A Z x k y ≠ 197 := by unfold hwy; rw [decide_eq_true_eq]
theorem hwy_way {x k y : Nat} (hw : WF n Z) (hn : n ≤ 7) (h : hwy A Z x k y = true) :
    x < n ∧ k < 4 ∧ y < n ∧ x ≠ y ∧ wo n A Z x k y < n ∧ A (if wg n A Z x k y then wo n A Z x k y else x) = true ∧
    rd A Z (fr A Z x k y - 1) (if wg n A Z x k y then wo n A Z x k y else x) (if wg n A Z x k y then 1 else 0) (if wg n A Z x k y then x else wo n A Z x k y) = true ∧ rd A Z (fr A Z x k y - 1) (wo n A Z x k y) k y = true ∧
    wy n A Z x k y = nI (if wg n A Z x k y then 100 + 10 * wo n A Z x k y + x else 10 * x + wo n A Z x k y) := by
  obtain ⟨h0, h1⟩ := hwy_iff.mp h
  have h97 := fr_197 (A := A) (Z := Z) (x := x) (k := k) (y := y)
  have r1 : rd A Z (fr A Z x k y - 1 + 1) x k y = true := (fr_le (by omega)).mp (by omega)
  have r0 : rd A Z (fr A Z x k y - 1) x k y = false := by
    cases hq : rd A Z (fr A Z x k y - 1) x k y
    · rfl
    · have := (fr_le (A := A) (Z := Z) (show fr A Z x k y - 1 < 197 by omega)).mpr hq
      omega
  have hnw : nw A (rd A Z (fr A Z x k y - 1)) x k y := by
    rcases stp_iff.mp r1 with q | q
    · rw [r0] at q; cases q
    · exact q
  have hb := nw_WF (rd_WF (A := A) hw (fr A Z x k y - 1)) hnw
  have hfw := fun q => (fway_none (A := A) (rd_WF (A := A) hw (fr A Z x k y - 1)) hn (show x < 7 by omega) hb.2.2.2).mp q hnw
  refine ⟨hb.1, hb.2.1, hb.2.2.1, hb.2.2.2, ?_⟩
  have hwy' : wy n A Z x k y = fway n A (rd A Z (fr A Z x k y - 1)) x k y := by
    unfold wy
    rw [if_neg (by omega)]
  rw [hwy']
  unfold wo wg
  unfold fway at hfw ⊢
  by_cases q1 : lf (tkb A (rd A Z (fr A Z x k y - 1)) x k y) n < n
  · have hs := (lf_spec (tkb A (rd A Z (fr A Z x k y - 1)) x k y) n).2 q1
    unfold tkb at hs
    rw [Bool.and_eq_true, Bool.and_eq_true] at hs
    simp only [decide_eq_true q1, Bool.not_true, Bool.false_eq_true, if_false, if_pos q1]
    exact ⟨q1, hs.1, hs.2.1, hs.2.2, trivial⟩
  · simp only [decide_eq_false q1, Bool.not_false, if_true, if_neg q1] at hfw ⊢
    by_cases q2 : lf (gvb A (rd A Z (fr A Z x k y - 1)) x k y) n < n
    · have hs := (lf_spec (gvb A (rd A Z (fr A Z x k y - 1)) x k y) n).2 q2
      unfold gvb at hs
      rw [Bool.and_eq_true, Bool.and_eq_true] at hs
      simp only [if_pos q2]
      exact ⟨q2, hs.1, hs.2.1, hs.2.2, trivial⟩
    · rw [if_neg q2] at hfw
      exact absurd rfl hfw
theorem wy_none {x k y : Nat} (hw : WF n Z) (hn : n ≤ 7) : wy n A Z x k y = m9 ↔ hwy A Z x k y = false := by
  constructor
  · intro q
    cases hq : hwy A Z x k y
    · rfl
    · have := (hwy_way hw hn hq)
      rw [this.2.2.2.2.2.2.2.2] at q
      refine absurd q (nI_ne9 ?_)
      split <;> omega
  · intro q
    have : fr A Z x k y = 0 ∨ fr A Z x k y = 197 := Classical.byContradiction fun q2 => by
      rw [hwy_iff.mpr (by omega)] at q; cases q
    unfold wy
    rw [if_pos this]
    rfl
/-- a set of rights that holds the needs of each of its own -/
def PfC (n : Nat) (A : Nat → Bool) (Z : Rt) (T : Nat → Nat → Nat → Prop) : Prop := ∀ x k y, T x k y → hwy A Z x k y = true → T (if wg n A Z x k y then wo n A Z x k y else x) (if wg n A Z x k y then 1 else 0) (if wg n A Z x k y then x else wo n A Z x k y) ∧ T (wo n A Z x k y) k y
/-- the rights that the proof of one uses and brings -/
noncomputable def pfs (n : Nat) (A : Nat → Bool) (Z : Rt) (gx gk gy : Nat) : Rt := fun x k y => B (∀ T : Nat → Nat → Nat → Prop, T gx gk gy → PfC n A Z T → T x k y)
theorem pfs_iff {gx gk gy x k y : Nat} : pfs n A Z gx gk gy x k y = true ↔ ∀ T : Nat → Nat → Nat → Prop, T gx gk gy → PfC n A Z T → T x k y := B_iff
theorem pfs_goal (gx gk gy : Nat) : pfs n A Z gx gk gy gx gk gy = true := pfs_iff.mpr fun T h _ => h
theorem pfs_PfC (gx gk gy : Nat) : PfC n A Z (fun x k y => pfs n A Z gx gk gy x k y = true) := fun x k y h hq => ⟨pfs_iff.mpr fun T h1 h2 => (h2 x k y (pfs_iff.mp h T h1 h2) hq).1, pfs_iff.mpr fun T h1 h2 => (h2 x k y (pfs_iff.mp h T h1 h2) hq).2⟩
theorem need_fr {x k y : Nat} (hw : WF n Z) (hn : n ≤ 7) (h : hwy A Z x k y = true) : fr A Z (if wg n A Z x k y then wo n A Z x k y else x) (if wg n A Z x k y then 1 else 0) (if wg n A Z x k y then x else wo n A Z x k y) < fr A Z x k y ∧ fr A Z (wo n A Z x k y) k y < fr A Z x k y := by
  obtain ⟨h0, h1⟩ := hwy_iff.mp h
  have h97 := fr_197 (A := A) (Z := Z) (x := x) (k := k) (y := y)
  obtain ⟨-, -, -, -, -, -, a1, a2, -⟩ := hwy_way hw hn h
  have b1 := (fr_le (A := A) (Z := Z) (show fr A Z x k y - 1 < 197 by omega)).mpr a1
  have b2 := (fr_le (A := A) (Z := Z) (show fr A Z x k y - 1 < 197 by omega)).mpr a2
  omega
theorem pfs_comes {gx gk gy x k y : Nat} (hw : WF n Z) (hn : n ≤ 7) (hg : Clo A Z gx gk gy = true) (h : pfs n A Z gx gk gy x k y = true) : Clo A Z x k y = true := by
  refine pfs_iff.mp h (fun x k y => Clo A Z x k y = true) hg fun x k y _ hq => ?_
  have := need_fr hw hn hq
  have h97 := fr_197 (A := A) (Z := Z) (x := x) (k := k) (y := y)
  exact ⟨(fr_comes hw hn).mp (by omega), (fr_comes hw hn).mp (by omega)⟩
/-- what leaves the proof whole leaves the right -/
theorem pfs_cut {gx gk gy : Nat} {Z' : Rt} (hw : WF n Z) (hn : n ≤ 7) (hg : Clo A Z gx gk gy = true) (hz : ∀ x k y, pfs n A Z gx gk gy x k y = true → Z x k y = true → Z' x k y = true) : Clo A Z' gx gk gy = true := by
  have key : ∀ r x k y, fr A Z x k y ≤ r → pfs n A Z gx gk gy x k y = true → Clo A Z' x k y = true := by
    intro r
    induction r with
    | zero => exact fun x k y h1 h2 => Clo_sub A Z' x k y (hz x k y h2 ((fr_0 (A := A)).mp (Nat.le_zero.mp h1)))
    | succ r ih =>
      intro x k y h1 h2
      by_cases h3 : fr A Z x k y = 0
      · exact Clo_sub A Z' x k y (hz x k y h2 (fr_0.mp h3))
      have hq : hwy A Z x k y = true := hwy_iff.mpr ⟨h3, (fr_comes hw hn).mpr (pfs_comes hw hn hg h2)⟩
      obtain ⟨f1, f2⟩ := need_fr hw hn hq
      obtain ⟨p1, p2⟩ := pfs_PfC gx gk gy x k y h2 hq
      have c1 := ih _ _ _ (by omega) p1
      have c2 := ih _ _ _ (by omega) p2
      obtain ⟨-, -, -, hne, -, ha, -, -, -⟩ := hwy_way hw hn hq
      refine Clo_cls A Z' x k y ⟨hne, ?_⟩
      cases hg2 : wg n A Z x k y
      · rw [hg2] at c1 ha
        exact Or.inl ⟨ha, _, c1, c2⟩
      · rw [hg2] at c1 ha
        exact Or.inr ⟨_, ha, c1, c2⟩
  exact key _ gx gk gy (Nat.le_refl _) (pfs_goal gx gk gy)
/-- how many steps -/
noncomputable def plen (n : Nat) (A : Nat → Bool) (Z : Rt) (gx gk gy : Nat) : Nat := cnt (fun x k y => pfs n A Z gx gk gy x k y && hwy A Z x k y)
/-! the class's list of them -/
theorem nar_0 : vp_nar .boolean 0 = nI 0 := by decide +kernel
theorem nar_1 : vp_nar .boolean 1 = nI 1 := by decide +kernel
theorem nar_0n : vp_nar .boolean (nI 0) = nI 0 := nar_0
theorem nar_1n : vp_nar .boolean (nI 1) = nI 1 := nar_1
/-- the list l of m places, P: which are in it; q is counted -/
def PrL (S : Hs) (q P : Nat → Bool) (l : Nat → Nat) (m : Nat) : Prop :=
  (∀ j, j < 196 → gA S 9 j = bi (P j)) ∧ gI S 6 5 = nI m ∧ m = fb_ct P 196 ∧ (∀ j, j < m → gA S 8 j = nI (l j) ∧ l j < 196 ∧ P (l j) = true) ∧ (∀ j, j < 196 → P j = true → ∃ c, c < m ∧ l c = j) ∧ fb_ct (fun j => q (l j)) m = fb_ct (fun j => P j && q j) 196
/-- what the proof's listing changes -/
def OnP (S T : Hs) : Prop := (∀ a b, ¬ (a = 6 ∧ b = 5) → gI T a b = gI S a b) ∧ (∀ a b, a ≠ 8 → a ≠ 9 → gA T a b = gA S a b) ∧ (∀ a b, gQ T a b = gQ S a b) ∧ ∀ b, gO T b = gO S b
theorem OnP.rf (S : Hs) : OnP S S := ⟨fun _ _ _ => rfl, fun _ _ _ _ => rfl, fun _ _ => rfl, fun _ => rfl⟩
theorem OnP.tr {S T U : Hs} (h : OnP S T) (g : OnP T U) : OnP S U := ⟨fun a b q => (g.1 a b q).trans (h.1 a b q), fun a b q1 q2 => (g.2.1 a b q1 q2).trans (h.2.1 a b q1 q2), fun a b => (g.2.2.1 a b).trans (h.2.2.1 a b), fun b => (g.2.2.2 b).trans (h.2.2.2 b)⟩
theorem OnP.kp {S T : Hs} (h : OnP S T) : Kp S T := ⟨fun a b q => ⟨h.1 a b (by omega), h.2.1 a b (by omega) (by omega)⟩, h.2.2.1, h.2.2.2⟩
theorem OnP.fol {S T : Hs} (h : OnP S T) (g : Fol S n K Z) : Fol T n K Z := g.keep (fun b => h.1 _ _ (by omega)) (h.1 _ _ (by omega)) (fun b => h.2.1 _ _ (by omega) (by omega)) (fun b => h.2.1 _ _ (by omega) (by omega))
theorem addToProof_ok {q P : Nat → Bool} {l : Nat → Nat} {m : Nat} (h : PrL S q P l m) {j : Nat} (hj : j < 196) : ∃ S' l' m', m_X2_addToProof (nI j) S = some S' ∧ OnP S S' ∧ PrL S' q (fun c => if c = j then true else P c) l' m' ∧ m ≤ m' ∧ ∀ c, c < m → l' c = l c := by
  obtain ⟨h1, h2, h3, h4, h5, h6⟩ := h
  unfold m_X2_addToProof m_X2_addToProof_J46
  simp (disch := omega) only [k_0, k_1, k_2, k_3, k_4, k_5, k_6, k_7, k_8, k_9, k_10, k_14, k_16, k_28, k_30, k_48, k_49, k_57, k_100, k_110, k_127, k_128, k_196, k_255, k_1000, k_1024, k_10000, nI_add, nI_mul, nI_div, irm_nI, nle, nlt, neq, gd_t, inb_nI, cl_nI, bnd_eq, gdT, gdo, gb0, gb1, gbi, bi0, bi1, bi0r, Option.bind_some, bndE_some, ite_t, ite_f, k_m9, k_m1, k_13, k_15, k_18, k_19, k_112, k_114, k_115, k_98, k_103, k_116, k_119, k_47, k_82, k_50, k_51, k_99, k_700, k_197, ne9, ne9s, nI_ne0s, ↓reduceIte, h1 j hj]
  cases hp : P j
  · have hm : m < 196 := by
      have := fb_ct_lt (p := P) (q := fun _ => true) (n := 196) (fun _ _ _ => rfl) hj hp rfl
      have := fb_ct_le (fun _ => true) 196
      omega
    rw [if_pos rfl]
    simp (disch := omega) only [k_0, k_1, k_2, k_3, k_4, k_5, k_6, k_7, k_8, k_9, k_10, k_14, k_16, k_28, k_30, k_48, k_49, k_57, k_100, k_110, k_127, k_128, k_196, k_255, k_1000, k_1024, k_10000, nI_add, nI_mul, nI_div, irm_nI, nle, nlt, neq, gd_t, inb_nI, cl_nI, bnd_eq, gdT, gdo, gb0, gb1, gbi, bi0, bi1, bi0r, Option.bind_some, bndE_some, ite_t, ite_f, k_m9, k_m1, k_13, k_15, k_18, k_19, k_112, k_114, k_115, k_98, k_103, k_116, k_119, k_47, k_82, k_50, k_51, k_99, k_700, k_197, ne9, ne9s, nI_ne0s, ↓reduceIte, h2, gI_sA, nar_1n]
    refine ⟨_, fun c => if c = m then j else l c, m + 1, rfl, ⟨fun a b q => ?_, fun a b q1 q2 => ?_, fun _ _ => rfl, fun _ => rfl⟩, ⟨fun c hc => ?_, ?_, ?_, fun c hc => ?_, fun c hc q => ?_, ?_⟩, by omega, fun c hc => by dsimp only; rw [if_neg (by omega)]⟩
    · rw [gI_sI]
      by_cases ha : a = 6
      · rw [if_pos ha, if_neg (fun q2 => q ⟨ha, q2⟩)]
        rfl
      · rw [if_neg ha]
        rfl
    · rw [gA_sI, gA_sA, if_neg q1, gA_sA, if_neg q2]
    · rw [gA_sI, gA_sA, if_neg (by omega), gA_sA, if_pos rfl]
      dsimp only
      by_cases hcj : c = j
      · rw [if_pos hcj, if_pos hcj]
        rfl
      · rw [if_neg hcj, if_neg hcj]
        exact h1 c hc
    · rw [gI_sI, if_pos rfl, if_pos rfl]
    · have e := fb_ct_upd P true hj
      rw [hp] at e
      simp only [Bool.false_eq_true, if_false, if_true, Nat.add_zero] at e
      omega
    · rw [gA_sI, gA_sA, if_pos rfl]
      dsimp only
      by_cases hcm : c = m
      · rw [if_pos hcm, if_pos hcm]
        exact ⟨rfl, hj, if_pos rfl⟩
      · rw [if_neg hcm, if_neg hcm, gA_sA, if_neg (by omega)]
        obtain ⟨u1, u2, u3⟩ := h4 c (by omega)
        exact ⟨u1, u2, by split; rfl; exact u3⟩
    · dsimp only at q ⊢
      by_cases hcj : c = j
      · exact ⟨m, by omega, by rw [if_pos rfl, hcj]⟩
      · rw [if_neg hcj] at q
        obtain ⟨d, d1, d2⟩ := h5 c hc q
        exact ⟨d, by omega, by rw [if_neg (by omega)]; exact d2⟩
    · dsimp only
      rw [fb_ct_succ, if_pos rfl, fb_ct_cong (p := fun c => q (if c = m then j else l c)) (q := fun c => q (l c)) (fun c hc => by rw [if_neg (by omega)]), h6]
      have e := fb_ct_upd (fun c => P c && q c) (q j) hj
      rw [hp] at e
      simp only [Bool.false_and, Bool.false_eq_true, if_false, Nat.add_zero] at e
      rw [← e]
      refine fb_ct_cong fun c hc => ?_
      by_cases hcj : c = j
      · rw [if_pos hcj, if_pos hcj, hcj]
        rfl
      · rw [if_neg hcj, if_neg hcj]
  · rw [if_neg (by decide)]
    have e : (fun c => if c = j then true else P c) = P := by
      funext c
      by_cases hcj : c = j
      · rw [if_pos hcj, hcj, hp]
      · rw [if_neg hcj]
    exact ⟨S, l, m, rfl, OnP.rf _, by rw [e]; exact ⟨h1, h2, h3, h4, h5, h6⟩, Nat.le_refl _, fun _ _ => rfl⟩
theorem ix_of {j : Nat} (hj : j < 196) : ix (j / 28) (j % 28 / 7) (j % 28 % 7) = j ∧ j / 28 < 7 ∧ j % 28 / 7 < 4 ∧ j % 28 % 7 < 7 := by unfold ix; omega
theorem ix_parts {x k y : Nat} (hk : k < 4) (hy : y < 7) : ix x k y / 28 = x ∧ ix x k y % 28 / 7 = k ∧ ix x k y % 28 % 7 = y := by unfold ix; omega
/-- the needs, by their places -/
noncomputable def nd1 (n : Nat) (A : Nat → Bool) (Z : Rt) (x k y : Nat) : Nat := ix (if wg n A Z x k y then wo n A Z x k y else x) (if wg n A Z x k y then 1 else 0) (if wg n A Z x k y then x else wo n A Z x k y)
noncomputable def nd2 (n : Nat) (A : Nat → Bool) (Z : Rt) (x k y : Nat) : Nat := ix (wo n A Z x k y) k y
noncomputable def n1i (n : Nat) (A : Nat → Bool) (Z : Rt) (j : Nat) : Nat := nd1 n A Z (j / 28) (j % 28 / 7) (j % 28 % 7)
noncomputable def n2i (n : Nat) (A : Nat → Bool) (Z : Rt) (j : Nat) : Nat := nd2 n A Z (j / 28) (j % 28 / 7) (j % 28 % 7)
theorem pfs_needs {gx gk gy j : Nat} (hw : WF n Z) (hn : n ≤ 7) (h : fl (pfs n A Z gx gk gy) j = true) (hq : fl (hwy A Z) j = true) : fl (pfs n A Z gx gk gy) (n1i n A Z j) = true ∧ fl (pfs n A Z gx gk gy) (n2i n A Z j) = true := by
  obtain ⟨hx, hk, hy, hne, ho, -⟩ := hwy_way hw hn (show hwy A Z (j / 28) (j % 28 / 7) (j % 28 % 7) = true from hq)
  obtain ⟨p1, p2⟩ := pfs_PfC gx gk gy _ _ _ h hq
  unfold n1i n2i nd1 nd2
  rw [fl_ix _ (by split <;> omega) (by split <;> omega), fl_ix _ hk (by omega)]
  exact ⟨p1, p2⟩
theorem pfs_least {gx gk gy : Nat} {P : Nat → Bool} (hw : WF n Z) (hn : n ≤ 7) (hg : P (ix gx gk gy) = true) (hc : ∀ j, j < 196 → P j = true → fl (hwy A Z) j = true → P (n1i n A Z j) = true ∧ P (n2i n A Z j) = true) {j : Nat} (hj : j < 196) (h : fl (pfs n A Z gx gk gy) j = true) : P j = true := by
  have := pfs_iff.mp h (fun x k y => P (ix x k y) = true) hg fun x k y h1 h2 => by
    obtain ⟨hx, hk, hy, hne, ho, -⟩ := hwy_way hw hn h2
    have hl : ix x k y < 196 := by unfold ix; omega
    have := hc _ hl h1 (by rw [fl_ix _ hk (by omega)]; exact h2)
    unfold n1i n2i at this
    obtain ⟨e1, e2, e3⟩ := ix_parts (x := x) hk (show y < 7 by omega)
    rw [e1, e2, e3] at this
    exact this
  rwa [(ix_of hj).1] at this
/-- both needs of a right -/
theorem addNeeds_ok {q P : Nat → Bool} {l : Nat → Nat} {m : Nat} (h : PrL S q P l m) (hw : WF n Z) (hn : n ≤ 7) {x k y : Nat} (hq : hwy A Z x k y = true) : ∃ S' l' m', m_X2_addNeeds (nI (ix x k y)) (wy n A Z x k y) S = some S' ∧ OnP S S' ∧ PrL S' q (fun c => if c = nd2 n A Z x k y then true else if c = nd1 n A Z x k y then true else P c) l' m' ∧ m ≤ m' ∧ ∀ c, c < m → l' c = l c := by
  obtain ⟨hx, hk, hy, hne, ho, -, -, -, hwy'⟩ := hwy_way hw hn hq
  have hl : ix x k y < 1000000 := by unfold ix; omega
  obtain ⟨d1, d2, d3, d4⟩ := ix_div (x := x) hk (show y < 7 by omega)
  rw [hwy']
  unfold nd1 nd2
  generalize wo n A Z x k y = o at *
  generalize wg n A Z x k y = g at *
  have j1 : ix (if g = true then o else x) (if g = true then 1 else 0) (if g = true then x else o) < 196 := by
    unfold ix
    cases g <;> simp <;> omega
  have j2 : ix o k y < 196 := by unfold ix; omega
  obtain ⟨S1, l1, m1, a1, a2, a3, a4, a5⟩ := addToProof_ok h j1
  obtain ⟨S2, l2, m2, b1, b2, b3, b4, b5⟩ := addToProof_ok a3 j2
  refine ⟨S2, l2, m2, ?_, a2.tr b2, b3, by omega, fun c hc => (b5 c (by omega)).trans (a5 c hc)⟩
  have e28 : 28 * o + (7 * k + y) = ix o k y := by unfold ix; omega
  have e28' : o * 28 + (7 * k + y) = ix o k y := by unfold ix; omega
  unfold m_X2_addNeeds m_X2_addNeeds_J11 m_X2_addNeeds_J39 m_X2_addNeeds_J61
  cases g
  · simp only [Bool.false_eq_true, if_false] at a1 j1 ⊢
    simp (disch := omega) only [k_0, k_1, k_2, k_3, k_4, k_5, k_6, k_7, k_8, k_9, k_10, k_14, k_16, k_28, k_30, k_48, k_49, k_57, k_100, k_110, k_127, k_128, k_196, k_255, k_1000, k_1024, k_10000, nI_add, nI_mul, nI_div, irm_nI, nle, nlt, neq, gd_t, inb_nI, cl_nI, bnd_eq, gdT, gdo, gb0, gb1, gbi, bi0, bi1, bi0r, Option.bind_some, bndE_some, ite_t, ite_f, k_m9, k_m1, k_13, k_15, k_18, k_19, k_112, k_114, k_115, k_98, k_103, k_116, k_119, k_47, k_82, k_50, k_51, k_99, k_700, k_197, ne9, ne9s, nI_ne0s, ↓reduceIte, show (10 * x + o) / 10 % 10 = x by omega, show (10 * x + o) % 10 = o by omega, ix_nI, a1, d2, e28, e28', b1]
  · simp only [if_true] at a1 j1 ⊢
    simp (disch := omega) only [k_0, k_1, k_2, k_3, k_4, k_5, k_6, k_7, k_8, k_9, k_10, k_14, k_16, k_28, k_30, k_48, k_49, k_57, k_100, k_110, k_127, k_128, k_196, k_255, k_1000, k_1024, k_10000, nI_add, nI_mul, nI_div, irm_nI, nle, nlt, neq, gd_t, inb_nI, cl_nI, bnd_eq, gdT, gdo, gb0, gb1, gbi, bi0, bi1, bi0r, Option.bind_some, bndE_some, ite_t, ite_f, k_m9, k_m1, k_13, k_15, k_18, k_19, k_112, k_114, k_115, k_98, k_103, k_116, k_119, k_47, k_82, k_50, k_51, k_99, k_700, k_197, ne9, ne9s, nI_ne0s, ↓reduceIte, show (100 + 10 * o + x) / 10 % 10 = o by omega, show (100 + 10 * o + x) % 10 = x by omega, ix_nI, a1, d2, e28, e28', b1]
/-- the class's listing -/
def Prv (S : Hs) (P : Rt) : Prop := ∀ j, j < 196 → gA S 9 j = bi (fl P j)
theorem prove_ok (h : Fol S n K Z) (hw : WF n Z) (hn : n ≤ 7) {gx gk gy : Nat} (hx : gx < 7) (hk : gk < 4) (hy : gy < 7) : ∃ S', m_X2_prove (nI (ix gx gk gy)) S = some (nI (plen n (aw n K) Z gx gk gy), S') ∧ OnP S S' ∧ Prv S' (pfs n (aw n K) Z gx gk gy) := by
  have hgl : ix gx gk gy < 196 := by unfold ix; omega
  unfold m_X2_prove m_X2_prove_J91
  simp (disch := omega) only [k_0, k_1, k_2, k_3, k_4, k_5, k_6, k_7, k_8, k_9, k_10, k_14, k_16, k_28, k_30, k_48, k_49, k_57, k_100, k_110, k_127, k_128, k_196, k_255, k_1000, k_1024, k_10000, nI_add, nI_mul, nI_div, irm_nI, nle, nlt, neq, gd_t, inb_nI, cl_nI, bnd_eq, gdT, gdo, gb0, gb1, gbi, bi0, bi1, bi0r, Option.bind_some, bndE_some, ite_t, ite_f, k_m9, k_m1, k_13, k_15, k_18, k_19, k_112, k_114, k_115, k_98, k_103, k_116, k_119, k_47, k_82, k_50, k_51, k_99, k_700, k_197, ne9, ne9s, nI_ne0s, ↓reduceIte]
  obtain ⟨S1, e1, e2, e3⟩ := loopO_inv (f := fun q : Int32 × Hs => m_X2_prove_L7 (nI (ix gx gk gy)) q.1 q.2) (fun c q => c ≤ 196 ∧ q.1 = nI c ∧ OnA 9 (sI S 6 5 (nI 0)) q.2 ∧ ∀ j, j < c → gA q.2 9 j = nI 0) (fun U => OnA 9 (sI S 6 5 (nI 0)) U ∧ ∀ j, j < 196 → gA U 9 j = nI 0) 196 (fun c q hq => by
    obtain ⟨v, U⟩ := q
    obtain ⟨hc, hv, a1, a2⟩ := hq
    simp only at hv a1 a2
    subst hv
    by_cases hc2 : c < 196
    · refine Or.inl ⟨hc2, ?_⟩
      simp only [m_X2_prove_L7]
      simp (disch := omega) only [k_0, k_1, k_2, k_3, k_4, k_5, k_6, k_7, k_8, k_9, k_10, k_14, k_16, k_28, k_30, k_48, k_49, k_57, k_100, k_110, k_127, k_128, k_196, k_255, k_1000, k_1024, k_10000, nI_add, nI_mul, nI_div, irm_nI, nle, nlt, neq, gd_t, inb_nI, cl_nI, bnd_eq, gdT, gdo, gb0, gb1, gbi, bi0, bi1, bi0r, Option.bind_some, bndE_some, ite_t, ite_f, k_m9, k_m1, k_13, k_15, k_18, k_19, k_112, k_114, k_115, k_98, k_103, k_116, k_119, k_47, k_82, k_50, k_51, k_99, k_700, k_197, ne9, ne9s, nI_ne0s, ↓reduceIte, nar_0n]
      refine ⟨_, rfl, by omega, rfl, a1.tr (OnA.sA _ _), fun j hj => ?_⟩
      show gA (sA U 9 c (nI 0)) 9 j = _
      rw [gA_sA, if_pos rfl]
      by_cases hjc : j = c
      · rw [if_pos hjc]
      · rw [if_neg hjc]
        exact a2 j (by omega)
    · obtain rfl : c = 196 := by omega
      refine Or.inr ⟨U, ?_, a1, a2⟩
      simp only [m_X2_prove_L7]
      simp (disch := omega) only [k_0, k_1, k_2, k_3, k_4, k_5, k_6, k_7, k_8, k_9, k_10, k_14, k_16, k_28, k_30, k_48, k_49, k_57, k_100, k_110, k_127, k_128, k_196, k_255, k_1000, k_1024, k_10000, nI_add, nI_mul, nI_div, irm_nI, nle, nlt, neq, gd_t, inb_nI, cl_nI, bnd_eq, gdT, gdo, gb0, gb1, gbi, bi0, bi1, bi0r, Option.bind_some, bndE_some, ite_t, ite_f, k_m9, k_m1, k_13, k_15, k_18, k_19, k_112, k_114, k_115, k_98, k_103, k_116, k_119, k_47, k_82, k_50, k_51, k_99, k_700, k_197, ne9, ne9s, nI_ne0s, ↓reduceIte]) (x := (nI 0, sI S 6 5 (nI 0))) ⟨by omega, rfl, OnA.rf _ _, fun j hj => by omega⟩
  rw [e1]
  have c1 : OnP S S1 := ⟨fun a b q => by
      rw [e2.1, gI_sI]
      by_cases ha : a = 6
      · rw [if_pos ha, if_neg (fun q2 => q ⟨ha, q2⟩)]
      · rw [if_neg ha], fun a b _ q2 => (e2.2.1 a b q2).trans rfl, fun a b => e2.2.2.1 a b, fun b => e2.2.2.2 b⟩
  have hz : fb_ct (fun _ => false) 196 = 0 := fb_ct_zero.mpr fun _ _ => rfl
  have l0 : PrL S1 (fl (hwy (aw n K) Z)) (fun _ => false) (fun _ => 0) 0 := ⟨fun j hj => e3 j hj, by rw [e2.1, gI_sI, if_pos rfl, if_pos rfl], hz.symm, fun j hj => by omega, fun j _ q => (by cases q), by rw [fb_ct_cong (p := fun j => false && fl (hwy (aw n K) Z) j) (q := fun _ => false) (fun _ _ => rfl), hz]; rfl⟩
  obtain ⟨S2, l2, m2, f1, f2, f3, f4, f5⟩ := addToProof_ok l0 hgl
  simp (disch := omega) only [k_0, k_1, k_2, k_3, k_4, k_5, k_6, k_7, k_8, k_9, k_10, k_14, k_16, k_28, k_30, k_48, k_49, k_57, k_100, k_110, k_127, k_128, k_196, k_255, k_1000, k_1024, k_10000, nI_add, nI_mul, nI_div, irm_nI, nle, nlt, neq, gd_t, inb_nI, cl_nI, bnd_eq, gdT, gdo, gb0, gb1, gbi, bi0, bi1, bi0r, Option.bind_some, bndE_some, ite_t, ite_f, k_m9, k_m1, k_13, k_15, k_18, k_19, k_112, k_114, k_115, k_98, k_103, k_116, k_119, k_47, k_82, k_50, k_51, k_99, k_700, k_197, ne9, ne9s, nI_ne0s, ↓reduceIte, f1]
  obtain ⟨⟨v3, S3⟩, g1, g2, P3, g3, g4, g5⟩ := loopO_inv (f := fun q : Int32 × Int32 × Hs => m_X2_prove_L36 q.1 q.2.1 q.2.2) (fun c q => q.2.1 = nI c ∧ OnP S q.2.2 ∧ ∃ (P : Nat → Bool) (l : Nat → Nat) (m : Nat), PrL q.2.2 (fl (hwy (aw n K) Z)) P l m ∧ c ≤ m ∧ q.1 = nI (fb_ct (fun j => fl (hwy (aw n K) Z) (l j)) c) ∧ P (ix gx gk gy) = true ∧ (∀ j, P j = true → fl (pfs n (aw n K) Z gx gk gy) j = true) ∧ ∀ d, d < c → fl (hwy (aw n K) Z) (l d) = true → P (n1i n (aw n K) Z (l d)) = true ∧ P (n2i n (aw n K) Z (l d)) = true) (fun r => OnP S r.2 ∧ ∃ P : Nat → Bool, (∀ j, j < 196 → gA r.2 9 j = bi (P j)) ∧ r.1 = nI (fb_ct (fun j => P j && fl (hwy (aw n K) Z) j) 196) ∧ ∀ j, j < 196 → P j = fl (pfs n (aw n K) Z gx gk gy) j) 197 (fun c q hq => by
    obtain ⟨s, v, U⟩ := q
    obtain ⟨hv, a1, P, l, m, a2, a3, a4, a5, a6, a7⟩ := hq
    simp only at hv a1 a2 a4
    subst hv a4
    obtain ⟨b1, b2, b3, b4, b5, b6⟩ := id a2
    have hm : m ≤ 196 := by
      have := fb_ct_le P 196
      omega
    by_cases hcm : c < m
    · obtain ⟨hlc, hlt, hlp⟩ := b4 c hcm
      obtain ⟨i1, i2, i3, i4⟩ := ix_of hlt
      have hway : m_X2_wayOf (nI (l c)) U = some (wy n (aw n K) Z (l c / 28) (l c % 28 / 7) (l c % 28 % 7)) := by
        have := wayOf_ok (a1.fol h) hw hn i2 i3 i4
        rwa [i1] at this
      refine Or.inl ⟨by omega, ?_⟩
      simp only [m_X2_prove_L36, m_X2_prove_J85]
      cases hq : fl (hwy (aw n K) Z) (l c)
      · have hnone := (wy_none (A := aw n K) hw hn).mpr (show hwy (aw n K) Z (l c / 28) (l c % 28 / 7) (l c % 28 % 7) = false from hq)
        simp (disch := omega) only [k_0, k_1, k_2, k_3, k_4, k_5, k_6, k_7, k_8, k_9, k_10, k_14, k_16, k_28, k_30, k_48, k_49, k_57, k_100, k_110, k_127, k_128, k_196, k_255, k_1000, k_1024, k_10000, nI_add, nI_mul, nI_div, irm_nI, nle, nlt, neq, gd_t, inb_nI, cl_nI, bnd_eq, gdT, gdo, gb0, gb1, gbi, bi0, bi1, bi0r, Option.bind_some, bndE_some, ite_t, ite_f, k_m9, k_m1, k_13, k_15, k_18, k_19, k_112, k_114, k_115, k_98, k_103, k_116, k_119, k_47, k_82, k_50, k_51, k_99, k_700, k_197, ne9, ne9s, nI_ne0s, ↓reduceIte, b2, hlc, hway, hnone]
        refine ⟨_, rfl, rfl, a1, P, l, m, a2, by omega, ?_, a5, a6, fun d hd hd2 => ?_⟩
        · show nI _ = _
          rw [fb_ct_succ, hq]
          rfl
        · by_cases hdc : d = c
          · rw [hdc, hq] at hd2; cases hd2
          · exact a7 d (by omega) hd2
      · have hsome : ¬ wy n (aw n K) Z (l c / 28) (l c % 28 / 7) (l c % 28 % 7) = m9 := fun q => by
          have := (wy_none (A := aw n K) hw hn).mp q
          rw [show hwy (aw n K) Z (l c / 28) (l c % 28 / 7) (l c % 28 % 7) = true from hq] at this
          cases this
        obtain ⟨V, l', m', k1, k2, k3, k4, k5⟩ := addNeeds_ok a2 hw hn (show hwy (aw n K) Z (l c / 28) (l c % 28 / 7) (l c % 28 % 7) = true from hq)
        rw [i1] at k1
        simp (disch := omega) only [k_0, k_1, k_2, k_3, k_4, k_5, k_6, k_7, k_8, k_9, k_10, k_14, k_16, k_28, k_30, k_48, k_49, k_57, k_100, k_110, k_127, k_128, k_196, k_255, k_1000, k_1024, k_10000, nI_add, nI_mul, nI_div, irm_nI, nle, nlt, neq, gd_t, inb_nI, cl_nI, bnd_eq, gdT, gdo, gb0, gb1, gbi, bi0, bi1, bi0r, Option.bind_some, bndE_some, ite_t, ite_f, k_m9, k_m1, k_13, k_15, k_18, k_19, k_112, k_114, k_115, k_98, k_103, k_116, k_119, k_47, k_82, k_50, k_51, k_99, k_700, k_197, ne9, ne9s, nI_ne0s, ↓reduceIte, b2, hlc, hway, hsome, k1]
        have hnd := pfs_needs hw hn (a6 (l c) hlp) hq
        refine ⟨_, rfl, rfl, a1.tr k2, _, l', m', k3, by omega, ?_, ?_, fun j hp => ?_, fun d hd hd2 => ?_⟩
        · show nI _ = _
          rw [fb_ct_succ, k5 c hcm, hq, if_pos rfl, fb_ct_cong (p := fun j => fl (hwy (aw n K) Z) (l' j)) (q := fun j => fl (hwy (aw n K) Z) (l j)) (fun j hj => by rw [k5 j (by omega)])]
        · simp [a5]
        · by_cases h2 : j = n2i n (aw n K) Z (l c)
          · rw [h2]; exact hnd.2
          · by_cases h1 : j = n1i n (aw n K) Z (l c)
            · rw [h1]; exact hnd.1
            · unfold n2i at h2
              unfold n1i at h1
              rw [if_neg h2, if_neg h1] at hp
              exact a6 j hp
        · by_cases hdc : d = c
          · rw [hdc, k5 c hcm]
            unfold n1i n2i
            exact ⟨by split; rfl; rw [if_pos rfl], by rw [if_pos rfl]⟩
          · rw [k5 d (by omega)] at hd2 ⊢
            obtain ⟨u1, u2⟩ := a7 d (by omega) hd2
            exact ⟨by split; rfl; split; rfl; exact u1, by split; rfl; split; rfl; exact u2⟩
    · obtain rfl : c = m := by omega
      refine Or.inr ⟨(nI (fb_ct (fun j => fl (hwy (aw n K) Z) (l j)) c), U), ?_, a1, P, b1, by rw [b6], fun j hj => ?_⟩
      · simp only [m_X2_prove_L36]
        by_cases hc : c = 196
        · subst hc
          simp (disch := omega) only [k_0, k_1, k_2, k_3, k_4, k_5, k_6, k_7, k_8, k_9, k_10, k_14, k_16, k_28, k_30, k_48, k_49, k_57, k_100, k_110, k_127, k_128, k_196, k_255, k_1000, k_1024, k_10000, nI_add, nI_mul, nI_div, irm_nI, nle, nlt, neq, gd_t, inb_nI, cl_nI, bnd_eq, gdT, gdo, gb0, gb1, gbi, bi0, bi1, bi0r, Option.bind_some, bndE_some, ite_t, ite_f, k_m9, k_m1, k_13, k_15, k_18, k_19, k_112, k_114, k_115, k_98, k_103, k_116, k_119, k_47, k_82, k_50, k_51, k_99, k_700, k_197, ne9, ne9s, nI_ne0s, ↓reduceIte]
        · simp (disch := omega) only [k_0, k_1, k_2, k_3, k_4, k_5, k_6, k_7, k_8, k_9, k_10, k_14, k_16, k_28, k_30, k_48, k_49, k_57, k_100, k_110, k_127, k_128, k_196, k_255, k_1000, k_1024, k_10000, nI_add, nI_mul, nI_div, irm_nI, nle, nlt, neq, gd_t, inb_nI, cl_nI, bnd_eq, gdT, gdo, gb0, gb1, gbi, bi0, bi1, bi0r, Option.bind_some, bndE_some, ite_t, ite_f, k_m9, k_m1, k_13, k_15, k_18, k_19, k_112, k_114, k_115, k_98, k_103, k_116, k_119, k_47, k_82, k_50, k_51, k_99, k_700, k_197, ne9, ne9s, nI_ne0s, ↓reduceIte, b2]
      · cases hp : P j
        · cases hq : fl (pfs n (aw n K) Z gx gk gy) j
          · rfl
          · have := pfs_least (P := P) hw hn a5 (fun i hi h1 h2 => by
              obtain ⟨d, d1, d2⟩ := b5 i hi h1
              have := a7 d d1 (by rw [d2]; exact h2)
              rwa [d2] at this) hj hq
            rw [hp] at this; cases this
        · rw [a6 j hp]) (x := (nI 0, nI 0, S2)) ⟨rfl, c1.tr f2, _, l2, m2, f3, by omega, rfl, by simp, fun j hp => (by
      by_cases hj : j = ix gx gk gy
      · rw [hj, fl_ix _ hk hy]
        exact pfs_goal gx gk gy
      · rw [if_neg hj] at hp
        cases hp), fun d hd => by omega⟩
  simp only at g4
  rw [g1]
  simp (disch := omega) only [k_0, k_1, k_2, k_3, k_4, k_5, k_6, k_7, k_8, k_9, k_10, k_14, k_16, k_28, k_30, k_48, k_49, k_57, k_100, k_110, k_127, k_128, k_196, k_255, k_1000, k_1024, k_10000, nI_add, nI_mul, nI_div, irm_nI, nle, nlt, neq, gd_t, inb_nI, cl_nI, bnd_eq, gdT, gdo, gb0, gb1, gbi, bi0, bi1, bi0r, Option.bind_some, bndE_some, ite_t, ite_f, k_m9, k_m1, k_13, k_15, k_18, k_19, k_112, k_114, k_115, k_98, k_103, k_116, k_119, k_47, k_82, k_50, k_51, k_99, k_700, k_197, ne9, ne9s, nI_ne0s, ↓reduceIte]
  subst g4
  have hcount : fb_ct (fun j => P3 j && fl (hwy (aw n K) Z) j) 196 = plen n (aw n K) Z gx gk gy := fb_ct_cong fun j hj => by rw [g5 j hj]; rfl
  rw [hcount]
  exact ⟨S3, rfl, g2, fun j hj => by rw [g3 j hj, g5 j hj]⟩
theorem isUsed_ok {P : Rt} (h : Prv S P) {x k y : Nat} (hx : x < 7) (hk : k < 4) (hy : y < 7) : m_X2_isUsed (nI (ix x k y)) S = some (bi (P x k y)) := by
  have hl : ix x k y < 196 := by unfold ix; omega
  have h9 := h _ hl
  rw [fl_ix _ hk hy] at h9
  unfold m_X2_isUsed
  simp (disch := omega) only [k_0, k_1, k_2, k_3, k_4, k_5, k_6, k_7, k_8, k_9, k_10, k_14, k_16, k_28, k_30, k_48, k_49, k_57, k_100, k_110, k_127, k_128, k_196, k_255, k_1000, k_1024, k_10000, nI_add, nI_mul, nI_div, irm_nI, nle, nlt, neq, gd_t, inb_nI, cl_nI, bnd_eq, gdT, gdo, gb0, gb1, gbi, bi0, bi1, bi0r, Option.bind_some, bndE_some, ite_t, ite_f, k_m9, k_m1, k_13, k_15, k_18, k_19, k_112, k_114, k_115, k_98, k_103, k_116, k_119, k_47, k_82, k_50, k_51, k_99, k_700, k_197, ne9, ne9s, nI_ne0s, ↓reduceIte, h9]
