/-! the class's rounds and ways -/
theorem fl_ix (Z : Rt) {x k y : Nat} (hk : k < 4) (hy : y < 7) : fl Z (ix x k y) = Z x k y := by
  unfold fl ix
  rw [show (28 * x + 7 * k + y) / 28 = x by omega, show (28 * x + 7 * k + y) % 28 / 7 = k by omega, show (28 * x + 7 * k + y) % 28 % 7 = y by omega]
/-- what lasts: all but the class's objects for working things out -/
def Kp (S T : Hs) : Prop := (∀ a b, (a ≤ 5 ∨ 13 ≤ a ∧ a ≤ 62) → gI T a b = gI S a b ∧ gA T a b = gA S a b) ∧ (∀ a b, gQ T a b = gQ S a b) ∧ ∀ b, gO T b = gO S b
theorem Kp.rf (S : Hs) : Kp S S := ⟨fun _ _ _ => ⟨rfl, rfl⟩, fun _ _ => rfl, fun _ => rfl⟩
theorem Kp.tr {S T U : Hs} (h : Kp S T) (g : Kp T U) : Kp S U := ⟨fun a b q => ⟨(g.1 a b q).1.trans (h.1 a b q).1, (g.1 a b q).2.trans (h.1 a b q).2⟩, fun a b => (g.2.1 a b).trans (h.2.1 a b), fun b => (g.2.2 b).trans (h.2.2 b)⟩
theorem Kp.ofB {i : Nat} {S T : Hs} (h : SameB i S T) (hi : 63 ≤ i) : Kp S T := ⟨fun a b q => ⟨h.1 a b (by omega), h.2.1 a b (by omega)⟩, h.2.2.1, h.2.2.2⟩
theorem Kp.ofA {c : Nat} {S T : Hs} (h : OnA c S T) (hc : 6 ≤ c ∧ c ≤ 12 ∨ 63 ≤ c) : Kp S T := ⟨fun a b q => ⟨h.1 a b, h.2.1 a b (by omega)⟩, h.2.2.1, h.2.2.2⟩
theorem Kp.sI {i k : Nat} (S : Hs) (v : Int32) (hi : 6 ≤ i ∧ i ≤ 12 ∨ 63 ≤ i) : Kp S (sI S i k v) := ⟨fun a b q => ⟨by rw [gI_sI, if_neg (by omega)], rfl⟩, fun _ _ => rfl, fun _ => rfl⟩
theorem Kp.sA {i k : Nat} (S : Hs) (v : Int32) (hi : 6 ≤ i ∧ i ≤ 12 ∨ 63 ≤ i) : Kp S (sA S i k v) := ⟨fun a b q => ⟨rfl, by rw [gA_sA, if_neg (by omega)]⟩, fun _ _ => rfl, fun _ => rfl⟩
variable {S : Hs} {i n : Nat} {K : Kd} {Z T : Rt} {A : Nat → Bool}
theorem RepS.kp {S T : Hs} (h : RepS S i n K Z) (g : Kp S T) (hi : 13 ≤ i) (hi2 : i ≤ 61) : RepS T i n K Z := by
  obtain ⟨a1, a2, a3, a4, a5, a6⟩ := h
  have e : ∀ b, gI T i b = gI S i b := fun b => (g.1 _ _ (by omega)).1
  have e2 : ∀ b, gA T (i + 1) b = gA S (i + 1) b := fun b => (g.1 _ _ (by omega)).2
  exact ⟨a1, a2, by rw [e]; exact a3, fun b hb => by rw [e]; exact a4 b hb, fun b hb => by rw [e]; exact a5 b hb, fun x hx b hb => by rw [e2]; exact a6 x hx b hb⟩
/-- nothing more behind the bit k -/
theorem shr_0 {v : Int32} {k : Nat} (hk : k < 32) (h : v >>> (nI k &&& 31) = nI 0) {j : Nat} (h1 : k ≤ j) (h2 : j < 32) : bt v j = false := by
  have e := b_sshr k hk v (show j - k < 32 by omega)
  rw [h, show nI 0 = (0 : Int32) from rfl, b_0, if_pos (by omega), show k + (j - k) = j by omega] at e
  exact e.symm
/-- the rights that come, by their places -/
def cmg (Z1 Z0 : Rt) (j : Nat) : Bool := fl Z1 j && !fl Z0 j
theorem noteRound_ok {n0 : Nat} {K0 : Kd} {Z0 : Rt} (h : RepS S 67 n K Z) (h0 : RepS S 69 n0 K0 Z0) (r : Int32) : ∃ S', m_X2_noteRound r S = some S' ∧ OnA 7 S S' ∧ ∀ j, j < 196 → gA S' 7 j = if cmg Z Z0 j then r else gA S 7 j := by
  have hn := h.1
  unfold m_X2_noteRound
  obtain ⟨S1, e1, e2, e3⟩ := loopO_inv (f := fun q : Int32 × Hs => m_X2_noteRound_L2 r q.1 q.2) (fun x q => x ≤ n ∧ q.1 = nI x ∧ OnA 7 S q.2 ∧ ∀ j, j < 196 → gA q.2 7 j = if j / 28 < x ∧ cmg Z Z0 j = true then r else gA S 7 j) (fun U => OnA 7 S U ∧ ∀ j, j < 196 → gA U 7 j = if cmg Z Z0 j then r else gA S 7 j) 7 (fun x q hq => by
    obtain ⟨v, U⟩ := q
    obtain ⟨hx, hv, a1, a2⟩ := hq
    simp only at hv a1 a2
    subst hv
    have hU := a1.repS h (by omega)
    have hU0 := a1.repS h0 (by omega)
    by_cases hxn : x < n
    · have hx7 : x < 7 := by omega
      have hc : ∀ j, j < 32 → bt (gA U 68 x &&& (gA U 70 x ^^^ m1)) j = (decide (j < 28) && cmg Z Z0 (28 * x + j)) := fun j hj => by
        rw [b_and, b_xor, bt_m1 hj, hU.2.2.2.2.2 x hx7 j hj, hU0.2.2.2.2.2 x hx7 j hj]
        unfold cmg fl
        by_cases hj28 : j < 28
        · rw [show (28 * x + j) / 28 = x by omega, show (28 * x + j) % 28 = j by omega]
          simp [hj28]
        · simp [hj28]
      generalize hw : gA U 68 x &&& (gA U 70 x ^^^ m1) = w at hc
      obtain ⟨V, k1, k2, k3⟩ := loopO_inv (f := fun q : Int32 × Hs => m_X2_noteRound_L38 r (nI x) w q.1 q.2) (fun c q => c ≤ 28 ∧ q.1 = nI c ∧ OnA 7 S q.2 ∧ ∀ j, j < 196 → gA q.2 7 j = if (j / 28 < x ∨ j / 28 = x ∧ j % 28 < c) ∧ cmg Z Z0 j = true then r else gA S 7 j) (fun V => OnA 7 S V ∧ ∀ j, j < 196 → gA V 7 j = if j / 28 < x + 1 ∧ cmg Z Z0 j = true then r else gA S 7 j) 28 (fun c q hq => by
        obtain ⟨v, V⟩ := q
        obtain ⟨hc28, hv, b1, b2⟩ := hq
        simp only at hv b1 b2
        subst hv
        have stop : (∀ j, c ≤ j → j < 28 → cmg Z Z0 (28 * x + j) = false) → ∀ j, j < 196 → gA V 7 j = if j / 28 < x + 1 ∧ cmg Z Z0 j = true then r else gA S 7 j := by
          intro hno j hj
          rw [b2 j hj]
          refine ite_cg (show ((j / 28 < x ∨ j / 28 = x ∧ j % 28 < c) ∧ cmg Z Z0 j = true) ↔ (j / 28 < x + 1 ∧ cmg Z Z0 j = true) from ?_) _ _
          · constructor
            · rintro ⟨q1, q2⟩
              exact ⟨by omega, q2⟩
            · rintro ⟨q1, q2⟩
              refine ⟨?_, q2⟩
              by_cases q3 : j / 28 < x
              · exact Or.inl q3
              · refine Or.inr ⟨by omega, ?_⟩
                refine Classical.byContradiction fun q4 => ?_
                have := hno (j % 28) (by omega) (by omega)
                rw [show 28 * x + j % 28 = j by omega, q2] at this
                cases this
        by_cases hc2 : c < 28
        · by_cases hz : w >>> (nI c &&& 31) = nI 0
          · refine Or.inr ⟨V, ?_, b1, stop fun j h1 h2 => ?_⟩
            · simp only [m_X2_noteRound_L38]
              simp (disch := omega) only [k_0, k_1, k_2, k_3, k_4, k_5, k_6, k_7, k_8, k_9, k_10, k_14, k_16, k_28, k_30, k_48, k_49, k_57, k_100, k_110, k_127, k_128, k_196, k_255, k_1000, k_1024, k_10000, nI_add, nI_mul, nI_div, irm_nI, nle, nlt, neq, gd_t, inb_nI, cl_nI, bnd_eq, gdT, gdo, gb0, gb1, gbi, bi0, bi1, bi0r, Option.bind_some, bndE_some, ite_t, ite_f, k_m9, k_m1, k_13, k_15, k_18, k_19, k_112, k_114, k_115, k_98, k_103, k_116, k_119, k_47, k_82, k_50, k_51, k_99, k_700, k_197, ne9, ne9s, nI_ne0s, ↓reduceIte, hz]
            · have e := shr_0 (show c < 32 by omega) hz h1 (by omega)
              rwa [hc j (by omega), decide_eq_true h2, Bool.true_and] at e
          · have hbit := hc c (by omega)
            rw [decide_eq_true hc2, Bool.true_and] at hbit
            refine Or.inl ⟨by omega, ?_⟩
            simp only [m_X2_noteRound_L38, m_X2_noteRound_J74]
            simp (disch := omega) only [k_0, k_1, k_2, k_3, k_4, k_5, k_6, k_7, k_8, k_9, k_10, k_14, k_16, k_28, k_30, k_48, k_49, k_57, k_100, k_110, k_127, k_128, k_196, k_255, k_1000, k_1024, k_10000, nI_add, nI_mul, nI_div, irm_nI, nle, nlt, neq, gd_t, inb_nI, cl_nI, bnd_eq, gdT, gdo, gb0, gb1, gbi, bi0, bi1, bi0r, Option.bind_some, bndE_some, ite_t, ite_f, k_m9, k_m1, k_13, k_15, k_18, k_19, k_112, k_114, k_115, k_98, k_103, k_116, k_119, k_47, k_82, k_50, k_51, k_99, k_700, k_197, ne9, ne9s, nI_ne0s, ↓reduceIte, hz, and1 w (show c < 32 by omega), hbit]
            cases hq : cmg Z Z0 (28 * x + c)
            · rw [if_pos rfl]
              refine ⟨_, rfl, by omega, rfl, b1, fun j hj => ?_⟩
              show gA V 7 j = _
              rw [b2 j hj]
              by_cases hjc : j = 28 * x + c
              · rw [hjc, hq]
                simp
              · rw [ite_cg (and_congr (show (j / 28 < x ∨ j / 28 = x ∧ j % 28 < c + 1) ↔ (j / 28 < x ∨ j / 28 = x ∧ j % 28 < c) by omega) Iff.rfl)]
            · rw [if_neg (by decide)]
              refine ⟨_, rfl, by omega, rfl, b1.tr (OnA.sA _ _), fun j hj => ?_⟩
              show gA (sA V 7 (28 * x + c) r) 7 j = _
              rw [gA_sA, if_pos rfl]
              by_cases hjc : j = 28 * x + c
              · rw [if_pos hjc, if_pos ⟨Or.inr (by omega), by rw [hjc]; exact hq⟩]
              · rw [if_neg hjc, b2 j hj]
                rw [ite_cg (and_congr (show (j / 28 < x ∨ j / 28 = x ∧ j % 28 < c + 1) ↔ (j / 28 < x ∨ j / 28 = x ∧ j % 28 < c) by omega) Iff.rfl)]
        · obtain rfl : c = 28 := by omega
          refine Or.inr ⟨V, ?_, b1, stop fun j h1 h2 => by omega⟩
          simp only [m_X2_noteRound_L38]
          simp (disch := omega) only [k_0, k_1, k_2, k_3, k_4, k_5, k_6, k_7, k_8, k_9, k_10, k_14, k_16, k_28, k_30, k_48, k_49, k_57, k_100, k_110, k_127, k_128, k_196, k_255, k_1000, k_1024, k_10000, nI_add, nI_mul, nI_div, irm_nI, nle, nlt, neq, gd_t, inb_nI, cl_nI, bnd_eq, gdT, gdo, gb0, gb1, gbi, bi0, bi1, bi0r, Option.bind_some, bndE_some, ite_t, ite_f, k_m9, k_m1, k_13, k_15, k_18, k_19, k_112, k_114, k_115, k_98, k_103, k_116, k_119, k_47, k_82, k_50, k_51, k_99, k_700, k_197, ne9, ne9s, nI_ne0s, ↓reduceIte]) (x := (nI 0, U)) ⟨by omega, rfl, a1, fun j hj => by
        show gA U 7 j = _
        rw [a2 j hj]
        rw [ite_cg (and_congr (show (j / 28 < x ∨ j / 28 = x ∧ j % 28 < 0) ↔ (j / 28 < x) by omega) Iff.rfl)]⟩
      refine Or.inl ⟨by omega, ?_⟩
      simp only [m_X2_noteRound_L2, m_X2_noteRound_J80, hU.2.2.1]
      simp (disch := omega) only [k_0, k_1, k_2, k_3, k_4, k_5, k_6, k_7, k_8, k_9, k_10, k_14, k_16, k_28, k_30, k_48, k_49, k_57, k_100, k_110, k_127, k_128, k_196, k_255, k_1000, k_1024, k_10000, nI_add, nI_mul, nI_div, irm_nI, nle, nlt, neq, gd_t, inb_nI, cl_nI, bnd_eq, gdT, gdo, gb0, gb1, gbi, bi0, bi1, bi0r, Option.bind_some, bndE_some, ite_t, ite_f, k_m9, k_m1, k_13, k_15, k_18, k_19, k_112, k_114, k_115, k_98, k_103, k_116, k_119, k_47, k_82, k_50, k_51, k_99, k_700, k_197, ne9, ne9s, nI_ne0s, ↓reduceIte, hw]
      rw [k1]
      exact ⟨_, rfl, by omega, rfl, k2, k3⟩
    · obtain rfl : x = n := by omega
      refine Or.inr ⟨U, ?_, a1, fun j hj => ?_⟩
      · simp only [m_X2_noteRound_L2, hU.2.2.1]
        simp (disch := omega) only [k_0, k_1, k_2, k_3, k_4, k_5, k_6, k_7, k_8, k_9, k_10, k_14, k_16, k_28, k_30, k_48, k_49, k_57, k_100, k_110, k_127, k_128, k_196, k_255, k_1000, k_1024, k_10000, nI_add, nI_mul, nI_div, irm_nI, nle, nlt, neq, gd_t, inb_nI, cl_nI, bnd_eq, gdT, gdo, gb0, gb1, gbi, bi0, bi1, bi0r, Option.bind_some, bndE_some, ite_t, ite_f, k_m9, k_m1, k_13, k_15, k_18, k_19, k_112, k_114, k_115, k_98, k_103, k_116, k_119, k_47, k_82, k_50, k_51, k_99, k_700, k_197, ne9, ne9s, nI_ne0s, ↓reduceIte]
      · rw [a2 j hj]
        by_cases hjx : j / 28 < x
        · simp [hjx]
        · have : cmg Z Z0 j = false := by
            unfold cmg fl
            cases hz : Z (j / 28) (j % 28 / 7) (j % 28 % 7)
            · rfl
            · exact absurd (h.2.1 _ _ _ hz).1 hjx
          simp [this]) (x := (nI 0, S)) ⟨by omega, rfl, OnA.rf _ _, fun j hj => by rw [if_neg (by omega)]⟩
  exact ⟨S1, by simp (disch := omega) only [k_0, k_1, k_2, k_3, k_4, k_5, k_6, k_7, k_8, k_9, k_10, k_14, k_16, k_28, k_30, k_48, k_49, k_57, k_100, k_110, k_127, k_128, k_196, k_255, k_1000, k_1024, k_10000, nI_add, nI_mul, nI_div, irm_nI, nle, nlt, neq, gd_t, inb_nI, cl_nI, bnd_eq, gdT, gdo, gb0, gb1, gbi, bi0, bi1, bi0r, Option.bind_some, bndE_some, ite_t, ite_f, k_m9, k_m1, k_13, k_15, k_18, k_19, k_112, k_114, k_115, k_98, k_103, k_116, k_119, k_47, k_82, k_50, k_51, k_99, k_700, k_197, ne9, ne9s, nI_ne0s, ↓reduceIte]; rw [e1]; rfl, e2, e3⟩
/-- the round of a place -/
noncomputable def fri (A : Nat → Bool) (Z : Rt) (j : Nat) : Nat := fr A Z (j / 28) (j % 28 / 7) (j % 28 % 7)
theorem fri_ix {x k y : Nat} (hk : k < 4) (hy : y < 7) : fri A Z (ix x k y) = fr A Z x k y := by
  unfold fri ix
  rw [show (28 * x + 7 * k + y) / 28 = x by omega, show (28 * x + 7 * k + y) % 28 / 7 = k by omega, show (28 * x + 7 * k + y) % 28 % 7 = y by omega]
theorem fri_197 (j : Nat) : fri A Z j ≤ 197 := fr_197
/-- the spread, as the class followed it -/
def Fol (S : Hs) (n : Nat) (K : Kd) (Z : Rt) : Prop := RepS S 67 n K (Clo (aw n K) Z) ∧ gI S 6 2 = nI (nr (aw n K) Z) ∧ ∀ j, j < 196 → gA S 7 j = nI (fri (aw n K) Z j)
theorem RepS.samev {S T : Hs} (h : RepS S i n K Z) (h1 : ∀ b, gI T i b = gI S i b) (h2 : ∀ b, gA T (i + 1) b = gA S (i + 1) b) : RepS T i n K Z := by
  obtain ⟨a1, a2, a3, a4, a5, a6⟩ := h
  exact ⟨a1, a2, by rw [h1]; exact a3, fun b hb => by rw [h1]; exact a4 b hb, fun b hb => by rw [h1]; exact a5 b hb, fun x hx b hb => by rw [h2]; exact a6 x hx b hb⟩
theorem Fol.keep {S T : Hs} (h : Fol S n K Z) (h1 : ∀ b, gI T 67 b = gI S 67 b) (h2 : gI T 6 2 = gI S 6 2) (h3 : ∀ b, gA T 68 b = gA S 68 b) (h4 : ∀ b, gA T 7 b = gA S 7 b) : Fol T n K Z := ⟨h.1.samev h1 h3, h2.trans h.2.1, fun j hj => (h4 j).trans (h.2.2 j hj)⟩
theorem follow_ok (h : RepS S i n K Z) (hi : 13 ≤ i) (hi2 : i ≤ 61) : ∃ S', m_X2_follow i S = some S' ∧ Kp S S' ∧ Fol S' n K Z := by
  have hn := h.1
  have hw := h.2.1
  unfold m_X2_follow
  simp (disch := omega) only [k_0, k_1, k_2, k_3, k_4, k_5, k_6, k_7, k_8, k_9, k_10, k_14, k_16, k_28, k_30, k_48, k_49, k_57, k_100, k_110, k_127, k_128, k_196, k_255, k_1000, k_1024, k_10000, nI_add, nI_mul, nI_div, irm_nI, nle, nlt, neq, gd_t, inb_nI, cl_nI, bnd_eq, gdT, gdo, gb0, gb1, gbi, bi0, bi1, bi0r, Option.bind_some, bndE_some, ite_t, ite_f, k_m9, k_m1, k_13, k_15, k_18, k_19, k_112, k_114, k_115, k_98, k_103, k_116, k_119, k_47, k_82, k_50, k_51, k_99, k_700, k_197, ne9, ne9s, nI_ne0s, ↓reduceIte]
  obtain ⟨S1, e1, e2, e3⟩ := loopO_inv (f := fun q : Int32 × Hs => m_X2_follow_L2 i q.1 q.2) (fun c q => c ≤ 196 ∧ q.1 = nI c ∧ OnA 7 S q.2 ∧ ∀ j, j < c → gA q.2 7 j = nI 197) (fun U => OnA 7 S U ∧ ∀ j, j < 196 → gA U 7 j = nI 197) 196 (fun c q hq => by
    obtain ⟨v, U⟩ := q
    obtain ⟨hc, hv, a1, a2⟩ := hq
    simp only at hv a1 a2
    subst hv
    by_cases hc2 : c < 196
    · refine Or.inl ⟨hc2, ?_⟩
      simp only [m_X2_follow_L2]
      simp (disch := omega) only [k_0, k_1, k_2, k_3, k_4, k_5, k_6, k_7, k_8, k_9, k_10, k_14, k_16, k_28, k_30, k_48, k_49, k_57, k_100, k_110, k_127, k_128, k_196, k_255, k_1000, k_1024, k_10000, nI_add, nI_mul, nI_div, irm_nI, nle, nlt, neq, gd_t, inb_nI, cl_nI, bnd_eq, gdT, gdo, gb0, gb1, gbi, bi0, bi1, bi0r, Option.bind_some, bndE_some, ite_t, ite_f, k_m9, k_m1, k_13, k_15, k_18, k_19, k_112, k_114, k_115, k_98, k_103, k_116, k_119, k_47, k_82, k_50, k_51, k_99, k_700, k_197, ne9, ne9s, nI_ne0s, ↓reduceIte]
      refine ⟨_, rfl, by omega, rfl, a1.tr (OnA.sA _ _), fun j hj => ?_⟩
      show gA (sA U 7 c (nI 197)) 7 j = _
      rw [gA_sA, if_pos rfl]
      by_cases hjc : j = c
      · rw [if_pos hjc]
      · rw [if_neg hjc]
        exact a2 j (by omega)
    · obtain rfl : c = 196 := by omega
      refine Or.inr ⟨U, ?_, a1, a2⟩
      simp only [m_X2_follow_L2]
      simp (disch := omega) only [k_0, k_1, k_2, k_3, k_4, k_5, k_6, k_7, k_8, k_9, k_10, k_14, k_16, k_28, k_30, k_48, k_49, k_57, k_100, k_110, k_127, k_128, k_196, k_255, k_1000, k_1024, k_10000, nI_add, nI_mul, nI_div, irm_nI, nle, nlt, neq, gd_t, inb_nI, cl_nI, bnd_eq, gdT, gdo, gb0, gb1, gbi, bi0, bi1, bi0r, Option.bind_some, bndE_some, ite_t, ite_f, k_m9, k_m1, k_13, k_15, k_18, k_19, k_112, k_114, k_115, k_98, k_103, k_116, k_119, k_47, k_82, k_50, k_51, k_99, k_700, k_197, ne9, ne9s, nI_ne0s, ↓reduceIte]) (x := (nI 0, S)) ⟨by omega, rfl, OnA.rf _ _, fun j hj => by omega⟩
  rw [e1]
  obtain ⟨S2, f1, f2, f3⟩ := makeEmpty_ok S1 69
  simp (disch := omega) only [k_0, k_1, k_2, k_3, k_4, k_5, k_6, k_7, k_8, k_9, k_10, k_14, k_16, k_28, k_30, k_48, k_49, k_57, k_100, k_110, k_127, k_128, k_196, k_255, k_1000, k_1024, k_10000, nI_add, nI_mul, nI_div, irm_nI, nle, nlt, neq, gd_t, inb_nI, cl_nI, bnd_eq, gdT, gdo, gb0, gb1, gbi, bi0, bi1, bi0r, Option.bind_some, bndE_some, ite_t, ite_f, k_m9, k_m1, k_13, k_15, k_18, k_19, k_112, k_114, k_115, k_98, k_103, k_116, k_119, k_47, k_82, k_50, k_51, k_99, k_700, k_197, ne9, ne9s, nI_ne0s, ↓reduceIte, f1]
  have h1 : RepS S1 i n K Z := e2.repS h (by omega)
  have h2 : RepS S2 i n K Z := h1.keep f3 (by omega) (by omega)
  obtain ⟨S3, g1, g2, g3⟩ := copyFrom_ok (i := 67) h2 (by omega)
  simp (disch := omega) only [k_0, k_1, k_2, k_3, k_4, k_5, k_6, k_7, k_8, k_9, k_10, k_14, k_16, k_28, k_30, k_48, k_49, k_57, k_100, k_110, k_127, k_128, k_196, k_255, k_1000, k_1024, k_10000, nI_add, nI_mul, nI_div, irm_nI, nle, nlt, neq, gd_t, inb_nI, cl_nI, bnd_eq, gdT, gdo, gb0, gb1, gbi, bi0, bi1, bi0r, Option.bind_some, bndE_some, ite_t, ite_f, k_m9, k_m1, k_13, k_15, k_18, k_19, k_112, k_114, k_115, k_98, k_103, k_116, k_119, k_47, k_82, k_50, k_51, k_99, k_700, k_197, ne9, ne9s, nI_ne0s, ↓reduceIte, g1]
  have h3 : RepS S3 69 0 (fun _ => 0) (fun _ _ _ => false) := f2.keep g3 (by omega) (by omega)
  obtain ⟨S4, k1, k2, k3⟩ := noteRound_ok g2 h3 (nI 0)
  simp (disch := omega) only [k_0, k_1, k_2, k_3, k_4, k_5, k_6, k_7, k_8, k_9, k_10, k_14, k_16, k_28, k_30, k_48, k_49, k_57, k_100, k_110, k_127, k_128, k_196, k_255, k_1000, k_1024, k_10000, nI_add, nI_mul, nI_div, irm_nI, nle, nlt, neq, gd_t, inb_nI, cl_nI, bnd_eq, gdT, gdo, gb0, gb1, gbi, bi0, bi1, bi0r, Option.bind_some, bndE_some, ite_t, ite_f, k_m9, k_m1, k_13, k_15, k_18, k_19, k_112, k_114, k_115, k_98, k_103, k_116, k_119, k_47, k_82, k_50, k_51, k_99, k_700, k_197, ne9, ne9s, nI_ne0s, ↓reduceIte, k1]
  have h4 : RepS S4 67 n K Z := k2.repS g2 (by omega)
  have h5 : RepS (sI S4 6 2 (nI 0)) 67 n K Z := h4.samev (fun b => by rw [gI_sI, if_neg (by omega)]) (fun b => rfl)
  obtain ⟨S5, l1, l2, l3⟩ := copyFrom_ok (i := 69) h5 (by omega)
  simp (disch := omega) only [k_0, k_1, k_2, k_3, k_4, k_5, k_6, k_7, k_8, k_9, k_10, k_14, k_16, k_28, k_30, k_48, k_49, k_57, k_100, k_110, k_127, k_128, k_196, k_255, k_1000, k_1024, k_10000, nI_add, nI_mul, nI_div, irm_nI, nle, nlt, neq, gd_t, inb_nI, cl_nI, bnd_eq, gdT, gdo, gb0, gb1, gbi, bi0, bi1, bi0r, Option.bind_some, bndE_some, ite_t, ite_f, k_m9, k_m1, k_13, k_15, k_18, k_19, k_112, k_114, k_115, k_98, k_103, k_116, k_119, k_47, k_82, k_50, k_51, k_99, k_700, k_197, ne9, ne9s, nI_ne0s, ↓reduceIte, l1]
  have c5 : Kp S S5 := ((((Kp.ofA e2 (by omega)).tr (Kp.ofB f3 (by omega))).tr (Kp.ofB g3 (by omega))).tr (Kp.ofA k2 (by omega))).tr ((Kp.sI S4 (nI 0) (by omega)).tr (Kp.ofB l3 (by omega)))
  have h6 : RepS S5 67 n K Z := h5.keep l3 (by omega) (by omega)
  have r5 : gI S5 6 2 = nI 0 := by rw [l3.1 _ _ (by omega), gI_sI, if_pos rfl, if_pos rfl]
  have a5 : ∀ j, j < 196 → gA S5 7 j = nI (if fri (aw n K) Z j ≤ 0 then fri (aw n K) Z j else 197) := fun j hj => by
    rw [l3.2.1 _ _ (by omega), gA_sI, k3 j hj, g3.2.1 _ _ (by omega), f3.2.1 _ _ (by omega), e3 j hj]
    unfold cmg fri
    by_cases hz : fl Z j = true
    · have : fr (aw n K) Z (j / 28) (j % 28 / 7) (j % 28 % 7) = 0 := fr_0.mpr hz
      rw [hz, this]
      rfl
    · have : ¬ fr (aw n K) Z (j / 28) (j % 28 / 7) (j % 28 % 7) ≤ 0 := fun q => hz ((fr_0 (A := aw n K)).mp (Nat.le_zero.mp q))
      rw [if_neg this, Bool.eq_false_iff.mpr hz]
      rfl
  obtain ⟨S6, m1', m2, m3⟩ := loopO_inv (f := fun q : Hs => m_X2_follow_L60 q) (fun c q => Kp S q ∧ gI q 6 2 = nI c ∧ (∀ j, j < c → chg (aw n K) Z j = true) ∧ RepS q 67 n K (rd (aw n K) Z c) ∧ RepS q 69 n K (rd (aw n K) Z c) ∧ ∀ j, j < 196 → gA q 7 j = nI (if fri (aw n K) Z j ≤ c then fri (aw n K) Z j else 197)) (fun q => Kp S q ∧ Fol q n K Z) 196 (fun c q hq => by
    obtain ⟨a1, a2, a3, a4, a5, a6⟩ := hq
    have hc := chg_end hw hn a3
    obtain ⟨U, b1, b2, b3⟩ := doSteps_bef a4 a5 (by omega)
    have hU : Kp S U := a1.tr (Kp.ofB b3 (by omega))
    cases hch : chg (aw n K) Z c
    · refine Or.inr ⟨U, ?_, hU, ?_⟩
      · simp only [m_X2_follow_L60]
        have : B (¬ Sub (stp (aw n K) (rd (aw n K) Z c)) (rd (aw n K) Z c)) = false := hch
        simp (disch := omega) only [k_0, k_1, k_2, k_3, k_4, k_5, k_6, k_7, k_8, k_9, k_10, k_14, k_16, k_28, k_30, k_48, k_49, k_57, k_100, k_110, k_127, k_128, k_196, k_255, k_1000, k_1024, k_10000, nI_add, nI_mul, nI_div, irm_nI, nle, nlt, neq, gd_t, inb_nI, cl_nI, bnd_eq, gdT, gdo, gb0, gb1, gbi, bi0, bi1, bi0r, Option.bind_some, bndE_some, ite_t, ite_f, k_m9, k_m1, k_13, k_15, k_18, k_19, k_112, k_114, k_115, k_98, k_103, k_116, k_119, k_47, k_82, k_50, k_51, k_99, k_700, k_197, ne9, ne9s, nI_ne0s, ↓reduceIte, a2, b1, this]
      · have hend := chg_no hch
        have hend1 : stp (aw n K) (rd (aw n K) Z c) = Clo (aw n K) Z := chg_no (i := c + 1) (chg_stays hch (by omega))
        refine ⟨by rw [← hend1]; exact b2, by rw [b3.1 _ _ (by omega), a2, nr_eq (by omega) a3 hch], fun j hj => ?_⟩
        rw [b3.2.1 _ _ (by omega), a6 j hj]
        by_cases hq : fri (aw n K) Z j ≤ c
        · rw [if_pos hq]
        · rw [if_neg hq]
          have : fri (aw n K) Z j = 197 := by
            refine Classical.byContradiction fun q => ?_
            have := (fr_comes hw hn).mp q
            rw [← hend] at this
            exact hq ((fr_le (by omega)).mpr this)
          rw [this]
    · refine Or.inl ⟨hc, ?_⟩
      have hch2 : B (¬ Sub (stp (aw n K) (rd (aw n K) Z c)) (rd (aw n K) Z c)) = true := hch
      have d1 : RepS (sI U 6 2 (nI (c + 1))) 67 n K (rd (aw n K) Z (c + 1)) := b2.samev (fun b => by rw [gI_sI, if_neg (by omega)]) (fun b => rfl)
      have d2 : RepS (sI U 6 2 (nI (c + 1))) 69 n K (rd (aw n K) Z c) := (a5.keep b3 (by omega) (by omega)).samev (fun b => by rw [gI_sI, if_neg (by omega)]) (fun b => rfl)
      obtain ⟨V, v1, v2, v3⟩ := noteRound_ok d1 d2 (nI (c + 1))
      have hV : RepS V 67 n K (rd (aw n K) Z (c + 1)) := v2.repS d1 (by omega)
      obtain ⟨W, w1, w2, w3⟩ := copyFrom_ok (i := 69) hV (by omega)
      simp only [m_X2_follow_L60]
      simp (disch := omega) only [k_0, k_1, k_2, k_3, k_4, k_5, k_6, k_7, k_8, k_9, k_10, k_14, k_16, k_28, k_30, k_48, k_49, k_57, k_100, k_110, k_127, k_128, k_196, k_255, k_1000, k_1024, k_10000, nI_add, nI_mul, nI_div, irm_nI, nle, nlt, neq, gd_t, inb_nI, cl_nI, bnd_eq, gdT, gdo, gb0, gb1, gbi, bi0, bi1, bi0r, Option.bind_some, bndE_some, ite_t, ite_f, k_m9, k_m1, k_13, k_15, k_18, k_19, k_112, k_114, k_115, k_98, k_103, k_116, k_119, k_47, k_82, k_50, k_51, k_99, k_700, k_197, ne9, ne9s, nI_ne0s, ↓reduceIte, a2, b1, hch2, b3.1 6 2 (show (6 : Nat) ≠ 67 by omega), gI_sI, if_true, v1, w1]
      refine ⟨_, rfl, hU.tr ((Kp.sI _ _ (by omega)).tr ((Kp.ofA v2 (by omega)).tr (Kp.ofB w3 (by omega)))), ?_, fun j hj => ?_, hV.keep w3 (by omega) (by omega), w2, fun j hj => ?_⟩
      · rw [w3.1 _ _ (by omega), v2.1, gI_sI, if_pos rfl, if_pos rfl]
      · by_cases hjc : j = c
        · rw [hjc]; exact hch
        · exact a3 j (by omega)
      · rw [w3.2.1 _ _ (by omega), v3 j hj, gA_sI, b3.2.1 _ _ (by omega), a6 j hj]
        unfold cmg
        by_cases hq : fri (aw n K) Z j = c + 1
        · have q1 : fl (rd (aw n K) Z (c + 1)) j = true := (fr_le (by omega)).mp (by unfold fri at hq; omega)
          have q2 : fl (rd (aw n K) Z c) j = false := by
            cases hz : fl (rd (aw n K) Z c) j
            · rfl
            · have := (fr_le (A := aw n K) (Z := Z) (i := c) (by omega)).mpr hz
              unfold fri at hq
              omega
          rw [q1, q2, hq, if_pos (by rfl), if_pos (by omega)]
        · have : (fl (rd (aw n K) Z (c + 1)) j && !fl (rd (aw n K) Z c) j) = false := by
            cases q1 : fl (rd (aw n K) Z (c + 1)) j
            · rfl
            · cases q2 : fl (rd (aw n K) Z c) j
              · exact absurd (fr_new (by omega) q1 q2) hq
              · rfl
          rw [this, ite_cg (show fri (aw n K) Z j ≤ c + 1 ↔ fri (aw n K) Z j ≤ c by omega)]
          rfl) (x := S5) ⟨c5, r5, fun j hj => by omega, h6, l2, a5⟩
  refine ⟨S6, ?_, m2, m3⟩
  rw [m1']
  simp only [m_X2_follow_J116]
  rfl
theorem comes_ok (h : Fol S n K Z) (hw : WF n Z) (hn : n ≤ 7) {x k y : Nat} (hx : x < 7) (hk : k < 4) (hy : y < 7) : m_X2_comes (nI (ix x k y)) S = some (bi (Clo (aw n K) Z x k y)) := by
  have hl : ix x k y < 196 := by unfold ix; omega
  have h7 := h.2.2 _ hl
  rw [fri_ix hk hy] at h7
  have h8 := fr_197 (A := aw n K) (Z := Z) (x := x) (k := k) (y := y)
  have h9 := fr_comes (A := aw n K) hw hn (x := x) (k := k) (y := y)
  unfold m_X2_comes m_X2_comes_J17
  simp (disch := omega) only [k_0, k_1, k_2, k_3, k_4, k_5, k_6, k_7, k_8, k_9, k_10, k_14, k_16, k_28, k_30, k_48, k_49, k_57, k_100, k_110, k_127, k_128, k_196, k_255, k_1000, k_1024, k_10000, nI_add, nI_mul, nI_div, irm_nI, nle, nlt, neq, gd_t, inb_nI, cl_nI, bnd_eq, gdT, gdo, gb0, gb1, gbi, bi0, bi1, bi0r, Option.bind_some, bndE_some, ite_t, ite_f, k_m9, k_m1, k_13, k_15, k_18, k_19, k_112, k_114, k_115, k_98, k_103, k_116, k_119, k_47, k_82, k_50, k_51, k_99, k_700, k_197, ne9, ne9s, nI_ne0s, ↓reduceIte, h7]
  cases hq : Clo (aw n K) Z x k y
  · have : fr (aw n K) Z x k y = 197 := Classical.byContradiction fun q => by rw [h9.mp q] at hq; cases hq
    rw [if_pos this]
    rfl
  · rw [if_neg (h9.mpr hq)]
    rfl
theorem wayOf_ok (h : Fol S n K Z) (hw : WF n Z) (hn : n ≤ 7) {x k y : Nat} (hx : x < 7) (hk : k < 4) (hy : y < 7) : m_X2_wayOf (nI (ix x k y)) S = some (wy n (aw n K) Z x k y) := by
  have hl : ix x k y < 196 := by unfold ix; omega
  obtain ⟨d1, d2, d3, d4⟩ := ix_div (x := x) hk hy
  have h7 := h.2.2 _ hl
  rw [fri_ix hk hy] at h7
  have h8 := fr_197 (A := aw n K) (Z := Z) (x := x) (k := k) (y := y)
  have hrd : ∀ a c d, a < 7 → c < 4 → d < 7 → gA S 7 (ix a c d) = nI (fr (aw n K) Z a c d) := fun a c d ha hc hd => by
    rw [h.2.2 _ (by unfold ix; omega), fri_ix hc hd]
  have h0 := h.1.2.2.1
  unfold m_X2_wayOf m_X2_wayOf_J18 m_X5_ownerOf wy
  simp (disch := omega) only [k_0, k_1, k_2, k_3, k_4, k_5, k_6, k_7, k_8, k_9, k_10, k_14, k_16, k_28, k_30, k_48, k_49, k_57, k_100, k_110, k_127, k_128, k_196, k_255, k_1000, k_1024, k_10000, nI_add, nI_mul, nI_div, irm_nI, nle, nlt, neq, gd_t, inb_nI, cl_nI, bnd_eq, gdT, gdo, gb0, gb1, gbi, bi0, bi1, bi0r, Option.bind_some, bndE_some, ite_t, ite_f, k_m9, k_m1, k_13, k_15, k_18, k_19, k_112, k_114, k_115, k_98, k_103, k_116, k_119, k_47, k_82, k_50, k_51, k_99, k_700, k_197, ne9, ne9s, nI_ne0s, ↓reduceIte, h7, d1, d2]
  by_cases q0 : fr (aw n K) Z x k y = 0
  · rw [if_pos q0, if_pos (Or.inl q0)]
  by_cases q1 : fr (aw n K) Z x k y = 197
  · rw [if_neg q0, if_pos q1, if_pos (Or.inr q1)]
  rw [if_neg q0, if_neg q1, if_neg (by omega)]
  generalize hr : fr (aw n K) Z x k y = r at *
  have hlt : ∀ a c d, (fr (aw n K) Z a c d < r) ↔ rd (aw n K) Z (r - 1) a c d = true := fun a c d => by
    rw [← fr_le (show r - 1 < 197 by omega)]
    omega
  have eix : ∀ f, f < 7 → ix x 0 f = ix x 0 f ∧ 28 * f + (7 * k + y) = ix f k y := fun f hf => ⟨rfl, by unfold ix; omega⟩
  have l1 := lf_le (tkb (aw n K) (rd (aw n K) Z (r - 1)) x k y) n
  have l2 := lf_le (gvb (aw n K) (rd (aw n K) Z (r - 1)) x k y) n
  have f1 : loopO (fun q => m_X2_wayOf_L35 (nI r) (nI x) (nI (7 * k + y)) S q) (nI 0) = some (if lf (tkb (aw n K) (rd (aw n K) Z (r - 1)) x k y) n < n then .inr (nI (10 * x + lf (tkb (aw n K) (rd (aw n K) Z (r - 1)) x k y) n)) else .inl ()) := by
    cases ha : aw n K x
    · have : lf (tkb (aw n K) (rd (aw n K) Z (r - 1)) x k y) n = n := by
        refine lf_eq (Nat.le_refl _) (fun j _ => ?_) (fun q => absurd q (Nat.lt_irrefl _))
        unfold tkb
        rw [ha]
        rfl
      rw [this, if_neg (Nat.lt_irrefl _)]
      refine loopO_seq (w := fun _ => nI 0) 0 (fun k hk => by omega) ?_
      simp only [m_X2_wayOf_L35, h0]
      have ha2 : decide (x < n ∧ K x = 1) = false := by
        unfold aw at ha
        rw [← ha]
        simp
      by_cases hn0 : n ≤ 0
      · simp (disch := omega) only [k_0, k_1, k_2, k_3, k_4, k_5, k_6, k_7, k_8, k_9, k_10, k_14, k_16, k_28, k_30, k_48, k_49, k_57, k_100, k_110, k_127, k_128, k_196, k_255, k_1000, k_1024, k_10000, nI_add, nI_mul, nI_div, irm_nI, nle, nlt, neq, gd_t, inb_nI, cl_nI, bnd_eq, gdT, gdo, gb0, gb1, gbi, bi0, bi1, bi0r, Option.bind_some, bndE_some, ite_t, ite_f, k_m9, k_m1, k_13, k_15, k_18, k_19, k_112, k_114, k_115, k_98, k_103, k_116, k_119, k_47, k_82, k_50, k_51, k_99, k_700, k_197, ne9, ne9s, nI_ne0s, ↓reduceIte]
      · simp (disch := omega) only [k_0, k_1, k_2, k_3, k_4, k_5, k_6, k_7, k_8, k_9, k_10, k_14, k_16, k_28, k_30, k_48, k_49, k_57, k_100, k_110, k_127, k_128, k_196, k_255, k_1000, k_1024, k_10000, nI_add, nI_mul, nI_div, irm_nI, nle, nlt, neq, gd_t, inb_nI, cl_nI, bnd_eq, gdT, gdo, gb0, gb1, gbi, bi0, bi1, bi0r, Option.bind_some, bndE_some, ite_t, ite_f, k_m9, k_m1, k_13, k_15, k_18, k_19, k_112, k_114, k_115, k_98, k_103, k_116, k_119, k_47, k_82, k_50, k_51, k_99, k_700, k_197, ne9, ne9s, nI_ne0s, ↓reduceIte, isAwake_bi h.1 (show x < 32 by omega), ha2]
    · have ha2 : decide (x < n ∧ K x = 1) = true := decide_eq_true (aw_iff.mp ha)
      refine find_loop (r := fun j => nI (10 * x + j)) (fun f hf hp => ?_) (fun f hf hp => ?_) ?_
      · unfold tkb at hp
        rw [ha, Bool.true_and] at hp
        have b1 := hlt x 0 f
        have b2 := hlt f k y
        have c1 := fr_197 (A := aw n K) (Z := Z) (x := x) (k := 0) (y := f)
        have c2 := fr_197 (A := aw n K) (Z := Z) (x := f) (k := k) (y := y)
        have i1 : ix x 0 f < 196 := by unfold ix; omega
        have i2 : ix f k y < 196 := by unfold ix; omega
        simp only [m_X2_wayOf_L35, m_X2_wayOf_J99, h0]
        simp (disch := omega) only [k_0, k_1, k_2, k_3, k_4, k_5, k_6, k_7, k_8, k_9, k_10, k_14, k_16, k_28, k_30, k_48, k_49, k_57, k_100, k_110, k_127, k_128, k_196, k_255, k_1000, k_1024, k_10000, nI_add, nI_mul, nI_div, irm_nI, nle, nlt, neq, gd_t, inb_nI, cl_nI, bnd_eq, gdT, gdo, gb0, gb1, gbi, bi0, bi1, bi0r, Option.bind_some, bndE_some, ite_t, ite_f, k_m9, k_m1, k_13, k_15, k_18, k_19, k_112, k_114, k_115, k_98, k_103, k_116, k_119, k_47, k_82, k_50, k_51, k_99, k_700, k_197, ne9, ne9s, nI_ne0s, ↓reduceIte, isAwake_bi h.1 (show x < 32 by omega), ha2, Bool.true_eq_false, ix_nI, (eix f (by omega)).2, hrd x 0 f hx (by omega) (by omega), hrd f k y (by omega) hk hy]
        by_cases g1 : fr (aw n K) Z x 0 f < r
        · rw [if_neg (by omega), if_pos (by
            refine Nat.not_lt.mp fun g2 => ?_
            rw [b1.mp g1, b2.mp g2] at hp
            cases hp)]
        · rw [if_pos (by omega)]
      · unfold tkb at hp
        rw [ha, Bool.true_and, Bool.and_eq_true] at hp
        have b1 := (hlt x 0 f).mpr hp.1
        have b2 := (hlt f k y).mpr hp.2
        have i1 : ix x 0 f < 196 := by unfold ix; omega
        have i2 : ix f k y < 196 := by unfold ix; omega
        simp only [m_X2_wayOf_L35, m_X2_wayOf_J99, h0]
        simp (disch := omega) only [k_0, k_1, k_2, k_3, k_4, k_5, k_6, k_7, k_8, k_9, k_10, k_14, k_16, k_28, k_30, k_48, k_49, k_57, k_100, k_110, k_127, k_128, k_196, k_255, k_1000, k_1024, k_10000, nI_add, nI_mul, nI_div, irm_nI, nle, nlt, neq, gd_t, inb_nI, cl_nI, bnd_eq, gdT, gdo, gb0, gb1, gbi, bi0, bi1, bi0r, Option.bind_some, bndE_some, ite_t, ite_f, k_m9, k_m1, k_13, k_15, k_18, k_19, k_112, k_114, k_115, k_98, k_103, k_116, k_119, k_47, k_82, k_50, k_51, k_99, k_700, k_197, ne9, ne9s, nI_ne0s, ↓reduceIte, isAwake_bi h.1 (show x < 32 by omega), ha2, Bool.true_eq_false, ix_nI, (eix f (by omega)).2, hrd x 0 f hx (by omega) (by omega), hrd f k y (by omega) hk hy]
      · simp only [m_X2_wayOf_L35, h0]
        simp (disch := omega) only [k_0, k_1, k_2, k_3, k_4, k_5, k_6, k_7, k_8, k_9, k_10, k_14, k_16, k_28, k_30, k_48, k_49, k_57, k_100, k_110, k_127, k_128, k_196, k_255, k_1000, k_1024, k_10000, nI_add, nI_mul, nI_div, irm_nI, nle, nlt, neq, gd_t, inb_nI, cl_nI, bnd_eq, gdT, gdo, gb0, gb1, gbi, bi0, bi1, bi0r, Option.bind_some, bndE_some, ite_t, ite_f, k_m9, k_m1, k_13, k_15, k_18, k_19, k_112, k_114, k_115, k_98, k_103, k_116, k_119, k_47, k_82, k_50, k_51, k_99, k_700, k_197, ne9, ne9s, nI_ne0s, ↓reduceIte]
  have f2 : loopO (fun q => m_X2_wayOf_L108 (nI r) (nI x) (nI (7 * k + y)) S q) (nI 0) = some (if lf (gvb (aw n K) (rd (aw n K) Z (r - 1)) x k y) n < n then .inr (nI (100 + 10 * lf (gvb (aw n K) (rd (aw n K) Z (r - 1)) x k y) n + x)) else .inl ()) := by
    refine find_loop (r := fun j => nI (100 + 10 * j + x)) (fun f hf hp => ?_) (fun f hf hp => ?_) ?_
    · unfold gvb at hp
      have b1 := hlt f 1 x
      have b2 := hlt f k y
      have c1 := fr_197 (A := aw n K) (Z := Z) (x := f) (k := 1) (y := x)
      have c2 := fr_197 (A := aw n K) (Z := Z) (x := f) (k := k) (y := y)
      have i1 : ix f 1 x < 196 := by unfold ix; omega
      have i2 : ix f k y < 196 := by unfold ix; omega
      have ha2 : decide (f < n ∧ K f = 1) = aw n K f := by unfold aw; simp
      simp only [m_X2_wayOf_L108, m_X2_wayOf_J176, h0]
      simp (disch := omega) only [k_0, k_1, k_2, k_3, k_4, k_5, k_6, k_7, k_8, k_9, k_10, k_14, k_16, k_28, k_30, k_48, k_49, k_57, k_100, k_110, k_127, k_128, k_196, k_255, k_1000, k_1024, k_10000, nI_add, nI_mul, nI_div, irm_nI, nle, nlt, neq, gd_t, inb_nI, cl_nI, bnd_eq, gdT, gdo, gb0, gb1, gbi, bi0, bi1, bi0r, Option.bind_some, bndE_some, ite_t, ite_f, k_m9, k_m1, k_13, k_15, k_18, k_19, k_112, k_114, k_115, k_98, k_103, k_116, k_119, k_47, k_82, k_50, k_51, k_99, k_700, k_197, ne9, ne9s, nI_ne0s, ↓reduceIte, isAwake_bi h.1 (show f < 32 by omega), ha2, ix_nI, (eix f (by omega)).2, hrd f 1 x (by omega) (by omega) hx, hrd f k y (by omega) hk hy]
      cases ha : aw n K f
      · rfl
      · rw [ha, Bool.true_and] at hp
        rw [if_neg (by decide)]
        by_cases g1 : fr (aw n K) Z f 1 x < r
        · rw [if_neg (by omega), if_pos (by
            refine Nat.not_lt.mp fun g2 => ?_
            rw [b1.mp g1, b2.mp g2] at hp
            cases hp)]
        · rw [if_pos (by omega)]
    · unfold gvb at hp
      rw [Bool.and_eq_true, Bool.and_eq_true] at hp
      have b1 := (hlt f 1 x).mpr hp.2.1
      have b2 := (hlt f k y).mpr hp.2.2
      have i1 : ix f 1 x < 196 := by unfold ix; omega
      have i2 : ix f k y < 196 := by unfold ix; omega
      have ha2 : decide (f < n ∧ K f = 1) = true := decide_eq_true (aw_iff.mp hp.1)
      simp only [m_X2_wayOf_L108, m_X2_wayOf_J176, h0]
      simp (disch := omega) only [k_0, k_1, k_2, k_3, k_4, k_5, k_6, k_7, k_8, k_9, k_10, k_14, k_16, k_28, k_30, k_48, k_49, k_57, k_100, k_110, k_127, k_128, k_196, k_255, k_1000, k_1024, k_10000, nI_add, nI_mul, nI_div, irm_nI, nle, nlt, neq, gd_t, inb_nI, cl_nI, bnd_eq, gdT, gdo, gb0, gb1, gbi, bi0, bi1, bi0r, Option.bind_some, bndE_some, ite_t, ite_f, k_m9, k_m1, k_13, k_15, k_18, k_19, k_112, k_114, k_115, k_98, k_103, k_116, k_119, k_47, k_82, k_50, k_51, k_99, k_700, k_197, ne9, ne9s, nI_ne0s, ↓reduceIte, isAwake_bi h.1 (show f < 32 by omega), ha2, ix_nI, (eix f (by omega)).2, hrd f 1 x (by omega) (by omega) hx, hrd f k y (by omega) hk hy]
      simp
    · simp only [m_X2_wayOf_L108, h0]
      simp (disch := omega) only [k_0, k_1, k_2, k_3, k_4, k_5, k_6, k_7, k_8, k_9, k_10, k_14, k_16, k_28, k_30, k_48, k_49, k_57, k_100, k_110, k_127, k_128, k_196, k_255, k_1000, k_1024, k_10000, nI_add, nI_mul, nI_div, irm_nI, nle, nlt, neq, gd_t, inb_nI, cl_nI, bnd_eq, gdT, gdo, gb0, gb1, gbi, bi0, bi1, bi0r, Option.bind_some, bndE_some, ite_t, ite_f, k_m9, k_m1, k_13, k_15, k_18, k_19, k_112, k_114, k_115, k_98, k_103, k_116, k_119, k_47, k_82, k_50, k_51, k_99, k_700, k_197, ne9, ne9s, nI_ne0s, ↓reduceIte]
  rw [f1, Option.bind_some]
  unfold fway
  by_cases h1 : lf (tkb (aw n K) (rd (aw n K) Z (r - 1)) x k y) n < n
  · rw [if_pos h1, if_pos h1]
    rfl
  · rw [if_neg h1, if_neg h1]
    show m_X2_wayOf_J105 (nI r) (nI x) (nI (7 * k + y)) S = _
    unfold m_X2_wayOf_J105
    simp (disch := omega) only [k_0, k_1, k_2, k_3, k_4, k_5, k_6, k_7, k_8, k_9, k_10, k_14, k_16, k_28, k_30, k_48, k_49, k_57, k_100, k_110, k_127, k_128, k_196, k_255, k_1000, k_1024, k_10000, nI_add, nI_mul, nI_div, irm_nI, nle, nlt, neq, gd_t, inb_nI, cl_nI, bnd_eq, gdT, gdo, gb0, gb1, gbi, bi0, bi1, bi0r, Option.bind_some, bndE_some, ite_t, ite_f, k_m9, k_m1, k_13, k_15, k_18, k_19, k_112, k_114, k_115, k_98, k_103, k_116, k_119, k_47, k_82, k_50, k_51, k_99, k_700, k_197, ne9, ne9s, nI_ne0s, ↓reduceIte]
    rw [f2, Option.bind_some]
    by_cases h2 : lf (gvb (aw n K) (rd (aw n K) Z (r - 1)) x k y) n < n
    · rw [if_pos h2, if_pos h2]
      rfl
    · rw [if_neg h2, if_neg h2]
      rfl
