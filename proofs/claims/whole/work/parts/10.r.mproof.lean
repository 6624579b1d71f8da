/-! the proof of a right, by the model -/
variable {S : Hs} {n : Nat} {K : Kd} {Z : Rt} {A : Nat → Bool}
theorem nr_end (hw : WF n Z) (hn : n ≤ 7) : nr A Z < 196 ∧ chg A Z (nr A Z) = false := by
  have hx : ∃ j, j < 196 ∧ (!chg A Z j) = true := Classical.byContradiction fun q => by
    have := chg_end (A := A) hw hn (i := 196) fun j hj => by
      cases hc : chg A Z j
      · exact absurd ⟨j, hj, by rw [hc]; rfl⟩ q
      · rfl
    omega
  have hl := lf_lt.mpr hx
  obtain ⟨h1, h2⟩ := lf_spec (fun j => !chg A Z j) 196
  have h3 : chg A Z (lf (fun j => !chg A Z j) 196) = false := by simpa using h2 hl
  have : nr A Z = lf (fun j => !chg A Z j) 196 := nr_eq (by omega) (fun j hj => by simpa using h1 j hj) h3
  rw [this]
  exact ⟨hl, h3⟩
theorem fr_nr (hw : WF n Z) (hn : n ≤ 7) {x k y : Nat} (h : fr A Z x k y ≠ 197) : fr A Z x k y ≤ nr A Z := by
  obtain ⟨h1, h2⟩ := nr_end (A := A) hw hn
  have := (fr_comes hw hn).mp h
  rw [← chg_no h2] at this
  exact (fr_le (by omega)).mpr this
/-- a right's place in the model's arrays -/
def mx (x k y : Nat) : Nat := 4 * (7 * x + y) + k
def fm (Z : Rt) (j : Nat) : Bool := Z (j / 4 / 7) (j % 4) (j / 4 % 7)
theorem mx_lt {x k y : Nat} (hx : x < 7) (hk : k < 4) (hy : y < 7) : mx x k y < 196 := by unfold mx; omega
theorem mx_parts {x k y : Nat} (hk : k < 4) (hy : y < 7) : mx x k y / 4 / 7 = x ∧ mx x k y % 4 = k ∧ mx x k y / 4 % 7 = y := by unfold mx; omega
theorem mx_of {j : Nat} (hj : j < 196) : mx (j / 4 / 7) (j % 4) (j / 4 % 7) = j ∧ j / 4 / 7 < 7 ∧ j % 4 < 4 ∧ j / 4 % 7 < 7 := by unfold mx; omega
theorem fm_mx (Z : Rt) {x k y : Nat} (hk : k < 4) (hy : y < 7) : fm Z (mx x k y) = Z x k y := by
  obtain ⟨e1, e2, e3⟩ := mx_parts (x := x) hk hy
  unfold fm
  rw [e1, e2, e3]
theorem fm_cnt (Z : Rt) : fb_ct (fm Z) 196 = cnt Z := by
  rw [cnt_cells, show (196 : Nat) = 4 * 49 from rfl, fb_ct_blocks]
  refine fb_sm_cong fun c hc => fb_ct_cong fun k hk => ?_
  unfold fm
  rw [show (4 * c + k) / 4 = c by omega, show (4 * c + k) % 4 = k by omega]
theorem mx_inj {x k y a c d : Nat} (hk : k < 4) (hy : y < 7) (hc : c < 4) (hd : d < 7) : mx x k y = mx a c d ↔ x = a ∧ k = c ∧ y = d := by unfold mx; omega
/-- which rights are marked -/
def Mk (S : Hs) (P : Rt) : Prop := ∀ j, j < 196 → gA S 26 j = bi (fm P j)
theorem Mk.put {P : Rt} (h : Mk S P) {x k y : Nat} (hx : x < 7) (hk : k < 4) (hy : y < 7) : Mk (sA S 26 (mx x k y) (nI 1)) (upR P x k y true) := fun j hj => by
  obtain ⟨e, e1, e2, e3⟩ := mx_of hj
  rw [gA_sA, if_pos rfl]
  by_cases hq : j = mx x k y
  · rw [if_pos hq, hq, fm_mx _ hk hy]
    unfold upR
    rw [if_pos ⟨rfl, rfl, rfl⟩]
    rfl
  · rw [if_neg hq, h j hj]
    congr 1
    unfold fm upR
    rw [if_neg]
    rintro ⟨q1, q2, q3⟩
    rw [q1, q2, q3] at e
    exact hq e.symm
theorem Spr.way {S : Hs} (h : Spr S n A Z) {x k y : Nat} (hx : x < 7) (hk : k < 4) (hy : y < 7) : gA S 23 (4 * (7 * x + y) + k) = wy n A Z x k y := (h.2.2 x hx k hk y hy).2
theorem need_ok {P : Rt} (h : Mk S P) (hs : Spr S n A Z) (hw : WF n Z) (hn : n ≤ 7) {x k y : Nat} (hq : hwy A Z x k y = true) : ∃ S', m_X6_need (nI x) (nI y) (nI k) S = some S' ∧ OnA 26 S S' ∧ Mk S' (upR (upR P (if wg n A Z x k y then wo n A Z x k y else x) (if wg n A Z x k y then 1 else 0) (if wg n A Z x k y then x else wo n A Z x k y) true) (wo n A Z x k y) k y true) := by
  obtain ⟨hx, hk, hy, hne, ho, -, -, -, hwy'⟩ := hwy_way hw hn hq
  have hway := hs.way (show x < 7 by omega) hk (show y < 7 by omega)
  rw [hwy'] at hway
  generalize wo n A Z x k y = o at *
  generalize wg n A Z x k y = g at *
  unfold m_X6_need m_X6_need_J115
  cases g
  · simp only [Bool.false_eq_true, if_false] at hway ⊢
    have p1 := h.put (show x < 7 by omega) (show 0 < 4 by omega) (show o < 7 by omega)
    have p2 := p1.put (show o < 7 by omega) hk (show y < 7 by omega)
    simp (disch := omega) only [k_0, k_1, k_2, k_3, k_4, k_5, k_6, k_7, k_8, k_9, k_10, k_14, k_16, k_28, k_30, k_48, k_49, k_57, k_100, k_110, k_127, k_128, k_196, k_255, k_1000, k_1024, k_10000, nI_add, nI_mul, nI_div, irm_nI, nle, nlt, neq, gd_t, inb_nI, cl_nI, bnd_eq, gdT, gdo, gb0, gb1, gbi, bi0, bi1, bi0r, Option.bind_some, bndE_some, ite_t, ite_f, k_m9, k_m1, k_13, k_15, k_18, k_19, k_112, k_114, k_115, k_98, k_103, k_116, k_119, k_47, k_82, k_50, k_51, k_99, k_700, k_197, ne9, ne9s, nI_ne0s, ↓reduceIte, at_ok, hway, show (10 * x + o) / 10 % 10 = x by omega, show (10 * x + o) % 10 = o by omega, nar_1n]
    exact ⟨_, rfl, (OnA.sA _ _).tr (OnA.sA _ _), p2⟩
  · simp only [if_true] at hway ⊢
    have p1 := h.put (show o < 7 by omega) (show 1 < 4 by omega) (show x < 7 by omega)
    have p2 := p1.put (show o < 7 by omega) hk (show y < 7 by omega)
    simp (disch := omega) only [k_0, k_1, k_2, k_3, k_4, k_5, k_6, k_7, k_8, k_9, k_10, k_14, k_16, k_28, k_30, k_48, k_49, k_57, k_100, k_110, k_127, k_128, k_196, k_255, k_1000, k_1024, k_10000, nI_add, nI_mul, nI_div, irm_nI, nle, nlt, neq, gd_t, inb_nI, cl_nI, bnd_eq, gdT, gdo, gb0, gb1, gbi, bi0, bi1, bi0r, Option.bind_some, bndE_some, ite_t, ite_f, k_m9, k_m1, k_13, k_15, k_18, k_19, k_112, k_114, k_115, k_98, k_103, k_116, k_119, k_47, k_82, k_50, k_51, k_99, k_700, k_197, ne9, ne9s, nI_ne0s, ↓reduceIte, at_ok, hway, show (100 + 10 * o + x) / 10 % 10 = o by omega, show (100 + 10 * o + x) % 10 = x by omega, nar_1n]
    exact ⟨_, rfl, (OnA.sA _ _).tr (OnA.sA _ _), p2⟩
theorem upR_or {Z : Rt} {x k y a c d : Nat} : upR Z x k y true a c d = true ↔ (a = x ∧ c = k ∧ d = y) ∨ Z a c d = true := by
  unfold upR
  by_cases hq : a = x ∧ c = k ∧ d = y
  · rw [if_pos hq]
    exact ⟨fun _ => Or.inl hq, fun _ => rfl⟩
  · rw [if_neg hq]
    exact ⟨fun q => Or.inr q, fun q => q.resolve_left hq⟩
/-- what holds while the rounds are gone through from the last to the first: D says which rights' needs are marked -/
def MpI (n : Nat) (A : Nat → Bool) (Z : Rt) (gx gk gy : Nat) (D : Nat → Nat → Nat → Prop) (P : Rt) : Prop := P gx gk gy = true ∧ (∀ x k y, P x k y = true → pfs n A Z gx gk gy x k y = true) ∧ ∀ x k y, P x k y = true → hwy A Z x k y = true → D x k y → P (if wg n A Z x k y then wo n A Z x k y else x) (if wg n A Z x k y then 1 else 0) (if wg n A Z x k y then x else wo n A Z x k y) = true ∧ P (wo n A Z x k y) k y = true
theorem mproof_round {S0 : Hs} (hw : WF n Z) (hn : n ≤ 7) (hs : Spr S0 n A Z) {gx gk gy r : Nat} (hr1 : 0 < r) (hr2 : r < 197) {S : Hs} (hO : OnA 26 S0 S) {P : Rt} (hM : Mk S P) (hI : MpI n A Z gx gk gy (fun x k y => r < fr A Z x k y) P) : ∃ S' P', loopO (fun q => m_X6_proof_L95 (nI r) q.1 q.2) (nI 0, S) = some S' ∧ OnA 26 S0 S' ∧ Mk S' P' ∧ MpI n A Z gx gk gy (fun x k y => r ≤ fr A Z x k y) P' := by
  obtain ⟨S', e1, P', e2, e3, e4⟩ := loopO_inv (f := fun q : Int32 × Hs => m_X6_proof_L95 (nI r) q.1 q.2) (fun c q => c ≤ 196 ∧ q.1 = nI c ∧ ∃ P : Rt, OnA 26 S0 q.2 ∧ Mk q.2 P ∧ MpI n A Z gx gk gy (fun x k y => r < fr A Z x k y ∨ r = fr A Z x k y ∧ mx x k y < c) P) (fun U => ∃ P : Rt, OnA 26 S0 U ∧ Mk U P ∧ MpI n A Z gx gk gy (fun x k y => r ≤ fr A Z x k y) P) 196 (fun c q hq => by
    obtain ⟨v, U⟩ := q
    obtain ⟨hc, hv, P, a1, a2, a3, a4, a5⟩ := hq
    simp only at hv a1 a2
    subst hv
    by_cases hc2 : c < 196
    · obtain ⟨i1, i2, i3, i4⟩ := mx_of hc2
      have hsU : Spr U n A Z := hs.keep (a1.1 _ _) fun a b q => a1.2.1 _ _ (by omega)
      have h22 := (hsU.2.2 _ i2 _ i3 _ i4).1
      rw [show 4 * (7 * (c / 4 / 7) + c / 4 % 7) + c % 4 = c by omega] at h22
      have h26 := a2 c hc2
      have hf97 := fr_197 (A := A) (Z := Z) (x := c / 4 / 7) (k := c % 4) (y := c / 4 % 7)
      have hfrm : frm A Z (c / 4 / 7) (c % 4) (c / 4 % 7) < 1000000 := by unfold frm; split <;> omega
      refine Or.inl ⟨hc2, ?_⟩
      simp only [m_X6_proof_L95, m_X6_proof_J147]
      -- the next state when nothing is marked
      have skip : ¬ (fm P c = true ∧ fr A Z (c / 4 / 7) (c % 4) (c / 4 % 7) = r) → MpI n A Z gx gk gy (fun x k y => r < fr A Z x k y ∨ r = fr A Z x k y ∧ mx x k y < c + 1) P := fun hno => ⟨a3, a4, fun x k y h1 h2 h3 => by
        refine a5 x k y h1 h2 ?_
        rcases h3 with h3 | ⟨h3, h4⟩
        · exact Or.inl h3
        · refine Or.inr ⟨h3, Nat.lt_of_le_of_ne (by omega) fun h5 => hno ?_⟩
          have hb := hwy_way (n := n) hw hn h2
          obtain ⟨j1, j2, j3⟩ := mx_parts (x := x) hb.2.1 (show y < 7 by omega)
          rw [← h5, fm_mx _ hb.2.1 (show y < 7 by omega), j1, j2, j3]
          exact ⟨h1, h3.symm⟩⟩
      cases hp : fm P c
      · simp (disch := omega) only [k_0, k_1, k_2, k_3, k_4, k_5, k_6, k_7, k_8, k_9, k_10, k_14, k_16, k_28, k_30, k_48, k_49, k_57, k_100, k_110, k_127, k_128, k_196, k_255, k_1000, k_1024, k_10000, nI_add, nI_mul, nI_div, irm_nI, nle, nlt, neq, gd_t, inb_nI, cl_nI, bnd_eq, gdT, gdo, gb0, gb1, gbi, bi0, bi1, bi0r, Option.bind_some, bndE_some, ite_t, ite_f, k_m9, k_m1, k_13, k_15, k_18, k_19, k_112, k_114, k_115, k_98, k_103, k_116, k_119, k_47, k_82, k_50, k_51, k_99, k_700, k_197, ne9, ne9s, nI_ne0s, ↓reduceIte, h26, hp]
        exact ⟨_, rfl, by omega, rfl, P, a1, a2, skip fun q => by rw [hp] at q; exact absurd q.1 (by decide)⟩
      · by_cases hfr : fr A Z (c / 4 / 7) (c % 4) (c / 4 % 7) = r
        · have hfe : frm A Z (c / 4 / 7) (c % 4) (c / 4 % 7) = r := by unfold frm; rw [if_neg (by omega), hfr]
          have hq : hwy A Z (c / 4 / 7) (c % 4) (c / 4 % 7) = true := hwy_iff.mpr (by omega)
          obtain ⟨V, k1, k2, k3⟩ := need_ok a2 hsU hw hn hq
          obtain ⟨f1, f2⟩ := need_fr hw hn hq
          obtain ⟨p1, p2⟩ := pfs_PfC gx gk gy _ _ _ (a4 _ _ _ hp) hq
          simp (disch := omega) only [k_0, k_1, k_2, k_3, k_4, k_5, k_6, k_7, k_8, k_9, k_10, k_14, k_16, k_28, k_30, k_48, k_49, k_57, k_100, k_110, k_127, k_128, k_196, k_255, k_1000, k_1024, k_10000, nI_add, nI_mul, nI_div, irm_nI, nle, nlt, neq, gd_t, inb_nI, cl_nI, bnd_eq, gdT, gdo, gb0, gb1, gbi, bi0, bi1, bi0r, Option.bind_some, bndE_some, ite_t, ite_f, k_m9, k_m1, k_13, k_15, k_18, k_19, k_112, k_114, k_115, k_98, k_103, k_116, k_119, k_47, k_82, k_50, k_51, k_99, k_700, k_197, ne9, ne9s, nI_ne0s, ↓reduceIte, h26, hp, h22, hfe, k1]
          rw [if_neg (by decide)]
          refine ⟨_, rfl, by omega, rfl, _, a1.tr k2, k3, upR_or.mpr (Or.inr (upR_or.mpr (Or.inr a3))), fun x k y h1 => ?_, fun x k y h1 h2 h3 => ?_⟩
          · rcases upR_or.mp h1 with ⟨rfl, rfl, rfl⟩ | h1
            · exact p2
            · rcases upR_or.mp h1 with ⟨rfl, rfl, rfl⟩ | h1
              · exact p1
              · exact a4 x k y h1
          · by_cases hxc : mx x k y = c
            · have hb := hwy_way (n := n) hw hn h2
              obtain ⟨j1, j2, j3⟩ := mx_parts (x := x) hb.2.1 (show y < 7 by omega)
              rw [hxc] at j1 j2 j3
              subst j1 j2 j3
              exact ⟨upR_or.mpr (Or.inr (upR_or.mpr (Or.inl ⟨rfl, rfl, rfl⟩))), upR_or.mpr (Or.inl ⟨rfl, rfl, rfl⟩)⟩
            · have h4 : P x k y = true := by
                rcases upR_or.mp h1 with ⟨rfl, rfl, rfl⟩ | h1
                · omega
                · rcases upR_or.mp h1 with ⟨rfl, rfl, rfl⟩ | h1
                  · omega
                  · exact h1
              obtain ⟨u1, u2⟩ := a5 x k y h4 h2 (by omega)
              exact ⟨upR_or.mpr (Or.inr (upR_or.mpr (Or.inr u1))), upR_or.mpr (Or.inr (upR_or.mpr (Or.inr u2)))⟩
        · have hfe : ¬ frm A Z (c / 4 / 7) (c % 4) (c / 4 % 7) = r := by unfold frm; split <;> omega
          simp (disch := omega) only [k_0, k_1, k_2, k_3, k_4, k_5, k_6, k_7, k_8, k_9, k_10, k_14, k_16, k_28, k_30, k_48, k_49, k_57, k_100, k_110, k_127, k_128, k_196, k_255, k_1000, k_1024, k_10000, nI_add, nI_mul, nI_div, irm_nI, nle, nlt, neq, gd_t, inb_nI, cl_nI, bnd_eq, gdT, gdo, gb0, gb1, gbi, bi0, bi1, bi0r, Option.bind_some, bndE_some, ite_t, ite_f, k_m9, k_m1, k_13, k_15, k_18, k_19, k_112, k_114, k_115, k_98, k_103, k_116, k_119, k_47, k_82, k_50, k_51, k_99, k_700, k_197, ne9, ne9s, nI_ne0s, ↓reduceIte, h26, hp, h22, hfe]
          rw [if_neg (by decide)]
          exact ⟨_, rfl, by omega, rfl, P, a1, a2, skip fun q => hfr q.2⟩
    · obtain rfl : c = 196 := by omega
      refine Or.inr ⟨U, ?_, P, a1, a2, a3, a4, fun x k y h1 h2 h3 => a5 x k y h1 h2 ?_⟩
      · simp only [m_X6_proof_L95]
        simp (disch := omega) only [k_0, k_1, k_2, k_3, k_4, k_5, k_6, k_7, k_8, k_9, k_10, k_14, k_16, k_28, k_30, k_48, k_49, k_57, k_100, k_110, k_127, k_128, k_196, k_255, k_1000, k_1024, k_10000, nI_add, nI_mul, nI_div, irm_nI, nle, nlt, neq, gd_t, inb_nI, cl_nI, bnd_eq, gdT, gdo, gb0, gb1, gbi, bi0, bi1, bi0r, Option.bind_some, bndE_some, ite_t, ite_f, k_m9, k_m1, k_13, k_15, k_18, k_19, k_112, k_114, k_115, k_98, k_103, k_116, k_119, k_47, k_82, k_50, k_51, k_99, k_700, k_197, ne9, ne9s, nI_ne0s, ↓reduceIte]
      · have hb := hwy_way (n := n) hw hn h2
        have := mx_lt (show x < 7 by omega) hb.2.1 (show y < 7 by omega)
        omega) (x := (nI 0, S)) ⟨by omega, rfl, P, hO, hM, hI.1, hI.2.1, fun x k y h1 h2 h3 => hI.2.2 x k y h1 h2 (by omega)⟩
  exact ⟨S', P', e1, e2, e3, e4⟩
theorem mprove_ok {S0 : Hs} (hw : WF n Z) (hn : n ≤ 7) (hs : Spr S0 n A Z) {gx gk gy : Nat} (hx : gx < 7) (hk : gk < 4) (hy : gy < 7) :
    ∃ S1 S2 S3, loopO (fun x => m_X6_proof_L44 (nI gx) (nI gk) (nI gy) x.1 x.2) (nI 0, S0) = some S1 ∧ gI S1 13 13 = nI (nr A Z) ∧ S2 = sA S1 26 (4 * (7 * gx + gy) + gk) (nI 1) ∧ loopO (fun x => m_X6_proof_L87 x.1 x.2) (nI (nr A Z), S2) = some S3 ∧ OnA 26 S0 S3 ∧ loopO (fun x => m_X6_proof_L165 S3 x.1 x.2) (nI 0, nI 0) = some (nI (plen n A Z gx gk gy)) := by
  obtain ⟨S1, e1, e2, e3⟩ := loopO_inv (f := fun q : Int32 × Hs => m_X6_proof_L44 (nI gx) (nI gk) (nI gy) q.1 q.2) (fun c q => c ≤ 196 ∧ q.1 = nI c ∧ OnA 26 S0 q.2 ∧ ∀ j, j < c → gA q.2 26 j = nI 0) (fun U => OnA 26 S0 U ∧ ∀ j, j < 196 → gA U 26 j = nI 0) 196 (fun c q hq => by
    obtain ⟨v, U⟩ := q
    obtain ⟨hc, hv, a1, a2⟩ := hq
    simp only at hv a1 a2
    subst hv
    by_cases hc2 : c < 196
    · refine Or.inl ⟨hc2, ?_⟩
      simp only [m_X6_proof_L44]
      simp (disch := omega) only [k_0, k_1, k_2, k_3, k_4, k_5, k_6, k_7, k_8, k_9, k_10, k_14, k_16, k_28, k_30, k_48, k_49, k_57, k_100, k_110, k_127, k_128, k_196, k_255, k_1000, k_1024, k_10000, nI_add, nI_mul, nI_div, irm_nI, nle, nlt, neq, gd_t, inb_nI, cl_nI, bnd_eq, gdT, gdo, gb0, gb1, gbi, bi0, bi1, bi0r, Option.bind_some, bndE_some, ite_t, ite_f, k_m9, k_m1, k_13, k_15, k_18, k_19, k_112, k_114, k_115, k_98, k_103, k_116, k_119, k_47, k_82, k_50, k_51, k_99, k_700, k_197, ne9, ne9s, nI_ne0s, ↓reduceIte, nar_0n]
      refine ⟨_, rfl, by omega, rfl, a1.tr (OnA.sA _ _), fun j hj => ?_⟩
      show gA (sA U 26 c (nI 0)) 26 j = _
      rw [gA_sA, if_pos rfl]
      by_cases hjc : j = c
      · rw [if_pos hjc]
      · rw [if_neg hjc]
        exact a2 j (by omega)
    · obtain rfl : c = 196 := by omega
      refine Or.inr ⟨U, ?_, a1, a2⟩
      simp only [m_X6_proof_L44]
      simp (disch := omega) only [k_0, k_1, k_2, k_3, k_4, k_5, k_6, k_7, k_8, k_9, k_10, k_14, k_16, k_28, k_30, k_48, k_49, k_57, k_100, k_110, k_127, k_128, k_196, k_255, k_1000, k_1024, k_10000, nI_add, nI_mul, nI_div, irm_nI, nle, nlt, neq, gd_t, inb_nI, cl_nI, bnd_eq, gdT, gdo, gb0, gb1, gbi, bi0, bi1, bi0r, Option.bind_some, bndE_some, ite_t, ite_f, k_m9, k_m1, k_13, k_15, k_18, k_19, k_112, k_114, k_115, k_98, k_103, k_116, k_119, k_47, k_82, k_50, k_51, k_99, k_700, k_197, ne9, ne9s, nI_ne0s, ↓reduceIte]) (x := (nI 0, S0)) ⟨by omega, rfl, OnA.rf _ _, fun j hj => by omega⟩
  have m0 : Mk S1 (fun _ _ _ => false) := fun j hj => e3 j hj
  have mk1 := m0.put hx hk hy
  have hnr := nr_end (A := A) hw hn
  obtain ⟨S3, f1, P, f2, f3, f4⟩ := loopO_inv (f := fun q : Int32 × Hs => m_X6_proof_L87 q.1 q.2) (fun c q => c ≤ nr A Z ∧ q.1 = nI (nr A Z - c) ∧ ∃ P : Rt, OnA 26 S0 q.2 ∧ Mk q.2 P ∧ MpI n A Z gx gk gy (fun x k y => nr A Z - c < fr A Z x k y) P) (fun U => ∃ P : Rt, OnA 26 S0 U ∧ Mk U P ∧ MpI n A Z gx gk gy (fun x k y => 0 < fr A Z x k y) P) 196 (fun c q hq => by
    obtain ⟨v, U⟩ := q
    obtain ⟨hc, hv, P, a1, a2, a3⟩ := hq
    simp only at hv a1 a2
    subst hv
    by_cases hc2 : c < nr A Z
    · obtain ⟨V, P', k1, k2, k3, k4⟩ := mproof_round hw hn hs (show 0 < nr A Z - c by omega) (by omega) a1 a2 a3
      refine Or.inl ⟨by omega, ?_⟩
      simp only [m_X6_proof_L87]
      simp (disch := omega) only [k_0, k_1, k_2, k_3, k_4, k_5, k_6, k_7, k_8, k_9, k_10, k_14, k_16, k_28, k_30, k_48, k_49, k_57, k_100, k_110, k_127, k_128, k_196, k_255, k_1000, k_1024, k_10000, nI_add, nI_mul, nI_div, irm_nI, nle, nlt, neq, gd_t, inb_nI, cl_nI, bnd_eq, gdT, gdo, gb0, gb1, gbi, bi0, bi1, bi0r, Option.bind_some, bndE_some, ite_t, ite_f, k_m9, k_m1, k_13, k_15, k_18, k_19, k_112, k_114, k_115, k_98, k_103, k_116, k_119, k_47, k_82, k_50, k_51, k_99, k_700, k_197, ne9, ne9s, nI_ne0s, ↓reduceIte]
      rw [k1]
      refine ⟨_, rfl, by omega, ?_, P', k2, k3, k4.1, k4.2.1, fun x k y h1 h2 h3 => k4.2.2 x k y h1 h2 (by omega)⟩
      show nI (nr A Z - c) + m1 = nI (nr A Z - (c + 1))
      have : nI (nr A Z - c) + m1 = nI (nr A Z - c) - nI 1 := by
        show nI (nr A Z - c) + (-1) = nI (nr A Z - c) - 1
        rw [Int32.sub_eq_add_neg]
      rw [this, nI_sub (by omega)]
      congr 1
    · obtain rfl : c = nr A Z := by omega
      refine Or.inr ⟨U, ?_, P, a1, a2, a3.1, a3.2.1, fun x k y h1 h2 h3 => a3.2.2 x k y h1 h2 (by omega)⟩
      simp only [m_X6_proof_L87]
      simp (disch := omega) only [k_0, k_1, k_2, k_3, k_4, k_5, k_6, k_7, k_8, k_9, k_10, k_14, k_16, k_28, k_30, k_48, k_49, k_57, k_100, k_110, k_127, k_128, k_196, k_255, k_1000, k_1024, k_10000, nI_add, nI_mul, nI_div, irm_nI, nle, nlt, neq, gd_t, inb_nI, cl_nI, bnd_eq, gdT, gdo, gb0, gb1, gbi, bi0, bi1, bi0r, Option.bind_some, bndE_some, ite_t, ite_f, k_m9, k_m1, k_13, k_15, k_18, k_19, k_112, k_114, k_115, k_98, k_103, k_116, k_119, k_47, k_82, k_50, k_51, k_99, k_700, k_197, ne9, ne9s, nI_ne0s, ↓reduceIte]) (x := (nI (nr A Z), sA S1 26 (4 * (7 * gx + gy) + gk) (nI 1))) ⟨by omega, by simp, _, e2.tr (OnA.sA _ _), mk1, upR_or.mpr (Or.inl ⟨rfl, rfl, rfl⟩), fun x k y h1 => (by
      rcases upR_or.mp h1 with ⟨rfl, rfl, rfl⟩ | h1
      · exact pfs_goal x k y
      · cases h1), fun x k y h1 h2 h3 => by
      have := fr_nr (A := A) hw hn (hwy_iff.mp h2).2
      omega⟩
  have hP : ∀ x k y, P x k y = pfs n A Z gx gk gy x k y := fun x k y => by
    cases hq : pfs n A Z gx gk gy x k y
    · cases hp : P x k y
      · rfl
      · rw [f4.2.1 x k y hp] at hq; cases hq
    · exact pfs_iff.mp hq (fun x k y => P x k y = true) f4.1 fun x k y h1 h2 => f4.2.2 x k y h1 h2 (by have := (hwy_iff.mp h2).1; omega)
  have hs3 : Spr S3 n A Z := hs.keep (f2.1 _ _) fun a b q => f2.2.1 _ _ (by omega)
  have hl := loopO_seq (f := fun x : Int32 × Int32 => m_X6_proof_L165 S3 x.1 x.2) (w := fun k => (nI (fb_ct (fm (fun x k y => pfs n A Z gx gk gy x k y && hwy A Z x k y)) k), nI k)) 196 (r := nI (plen n A Z gx gk gy)) (fun c hc => by
    obtain ⟨i1, i2, i3, i4⟩ := mx_of hc
    have h23 := hs3.way i2 i3 i4
    rw [show 4 * (7 * (c / 4 / 7) + c / 4 % 7) + c % 4 = c by omega] at h23
    have h26 := f3 c hc
    have hf : fm P c = pfs n A Z gx gk gy (c / 4 / 7) (c % 4) (c / 4 % 7) := hP _ _ _
    simp only [m_X6_proof_L165, m_X6_proof_J201, m_X6_proof_J202]
    have hct : fb_ct (fm (fun x k y => pfs n A Z gx gk gy x k y && hwy A Z x k y)) (c + 1) = fb_ct (fm (fun x k y => pfs n A Z gx gk gy x k y && hwy A Z x k y)) c + (if (pfs n A Z gx gk gy (c / 4 / 7) (c % 4) (c / 4 % 7) && hwy A Z (c / 4 / 7) (c % 4) (c / 4 % 7)) = true then 1 else 0) := rfl
    rw [hct]
    cases hp : pfs n A Z gx gk gy (c / 4 / 7) (c % 4) (c / 4 % 7)
    · simp (disch := omega) only [k_0, k_1, k_2, k_3, k_4, k_5, k_6, k_7, k_8, k_9, k_10, k_14, k_16, k_28, k_30, k_48, k_49, k_57, k_100, k_110, k_127, k_128, k_196, k_255, k_1000, k_1024, k_10000, nI_add, nI_mul, nI_div, irm_nI, nle, nlt, neq, gd_t, inb_nI, cl_nI, bnd_eq, gdT, gdo, gb0, gb1, gbi, bi0, bi1, bi0r, Option.bind_some, bndE_some, ite_t, ite_f, k_m9, k_m1, k_13, k_15, k_18, k_19, k_112, k_114, k_115, k_98, k_103, k_116, k_119, k_47, k_82, k_50, k_51, k_99, k_700, k_197, ne9, ne9s, nI_ne0s, ↓reduceIte, h26, hf, hp]
      simp
    · cases hq : hwy A Z (c / 4 / 7) (c % 4) (c / 4 % 7)
      · simp (disch := omega) only [k_0, k_1, k_2, k_3, k_4, k_5, k_6, k_7, k_8, k_9, k_10, k_14, k_16, k_28, k_30, k_48, k_49, k_57, k_100, k_110, k_127, k_128, k_196, k_255, k_1000, k_1024, k_10000, nI_add, nI_mul, nI_div, irm_nI, nle, nlt, neq, gd_t, inb_nI, cl_nI, bnd_eq, gdT, gdo, gb0, gb1, gbi, bi0, bi1, bi0r, Option.bind_some, bndE_some, ite_t, ite_f, k_m9, k_m1, k_13, k_15, k_18, k_19, k_112, k_114, k_115, k_98, k_103, k_116, k_119, k_47, k_82, k_50, k_51, k_99, k_700, k_197, ne9, ne9s, nI_ne0s, ↓reduceIte, h26, hf, hp, h23, (wy_none hw hn).mpr hq]
        simp
      · have hne : ¬ wy n A Z (c / 4 / 7) (c % 4) (c / 4 % 7) = m9 := fun q => by rw [(wy_none hw hn).mp q] at hq; cases hq
        simp (disch := omega) only [k_0, k_1, k_2, k_3, k_4, k_5, k_6, k_7, k_8, k_9, k_10, k_14, k_16, k_28, k_30, k_48, k_49, k_57, k_100, k_110, k_127, k_128, k_196, k_255, k_1000, k_1024, k_10000, nI_add, nI_mul, nI_div, irm_nI, nle, nlt, neq, gd_t, inb_nI, cl_nI, bnd_eq, gdT, gdo, gb0, gb1, gbi, bi0, bi1, bi0r, Option.bind_some, bndE_some, ite_t, ite_f, k_m9, k_m1, k_13, k_15, k_18, k_19, k_112, k_114, k_115, k_98, k_103, k_116, k_119, k_47, k_82, k_50, k_51, k_99, k_700, k_197, ne9, ne9s, nI_ne0s, ↓reduceIte, h26, hf, hp, h23, hne]
        simp) (by
    simp only [m_X6_proof_L165]
    simp (disch := omega) only [k_0, k_1, k_2, k_3, k_4, k_5, k_6, k_7, k_8, k_9, k_10, k_14, k_16, k_28, k_30, k_48, k_49, k_57, k_100, k_110, k_127, k_128, k_196, k_255, k_1000, k_1024, k_10000, nI_add, nI_mul, nI_div, irm_nI, nle, nlt, neq, gd_t, inb_nI, cl_nI, bnd_eq, gdT, gdo, gb0, gb1, gbi, bi0, bi1, bi0r, Option.bind_some, bndE_some, ite_t, ite_f, k_m9, k_m1, k_13, k_15, k_18, k_19, k_112, k_114, k_115, k_98, k_103, k_116, k_119, k_47, k_82, k_50, k_51, k_99, k_700, k_197, ne9, ne9s, nI_ne0s, ↓reduceIte, fm_cnt]
    rfl)
  exact ⟨S1, _, S3, e1, (e2.1 _ _).trans hs.1, rfl, f1, f2, hl⟩
