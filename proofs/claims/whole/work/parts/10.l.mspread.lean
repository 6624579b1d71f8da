/-! the model's spread: rounds, ways, the end -/
def EndR (S : Hs) (T : Rt) : Prop := ∀ x, x < 7 → ∀ y, y < 7 → ∀ b, b < 32 → bt (gA S 20 (7 * x + y)) b = (decide (b < 4) && T x b y)
theorem EndR.cell {S : Hs} {T : Rt} (h : EndR S T) {x y b : Nat} (hx : x < 7) (hy : y < 7) (hb : b < 4) : bt (gA S 20 (7 * x + y)) b = T x b y := by
  rw [h x hx y hy b (by omega), decide_eq_true hb, Bool.true_and]
theorem EndR.keep {S S' : Hs} {T : Rt} (h : EndR S T) (he : ∀ j, gA S' 20 j = gA S 20 j) : EndR S' T := fun x hx y hy b hb => by rw [he]; exact h x hx y hy b hb
theorem ends_ok {S : Hs} {T : Rt} (h : EndR S T) {x k y : Nat} (hx : x < 7) (hk : k < 4) (hy : y < 7) : m_X6_ends (nI x) (nI k) (nI y) S = some (bi (T x k y)) := by
  unfold m_X6_ends m_X6_ends_J23
  simp (disch := omega) only [k_0, k_1, k_2, k_3, k_4, k_5, k_6, k_7, k_8, k_9, k_10, k_14, k_16, k_28, k_30, k_48, k_49, k_57, k_100, k_110, k_127, k_128, k_196, k_255, k_1000, k_1024, k_10000, nI_add, nI_mul, nI_div, irm_nI, nle, nlt, neq, gd_t, inb_nI, cl_nI, bnd_eq, gdT, gdo, gb0, gb1, gbi, bi0, bi1, bi0r, Option.bind_some, bndE_some, ite_t, ite_f, k_m9, k_m1, k_13, k_15, k_18, k_19, k_112, k_114, k_115, k_98, k_103, k_116, k_119, k_47, k_82, k_50, k_51, k_99, k_700, k_197, ne9, ne9s, nI_ne0s, ↓reduceIte, at_ok, and1 _ (show k < 32 by omega), h.cell hx hy hk]
  cases T x k y <;> rfl
/-- a loop that looks for the first number with a property -/
theorem find_loop {α : Type} {f : Int32 → Option (Int32 ⊕ (Unit ⊕ α))} {n : Nat} {p : Nat → Bool} {r : Nat → α} (h1 : ∀ k, k < n → p k = false → f (nI k) = some (.inl (nI (k + 1)))) (h2 : ∀ k, k < n → p k = true → f (nI k) = some (.inr (.inr (r k)))) (h3 : f (nI n) = some (.inr (.inl ()))) : loopO f (nI 0) = some (if lf p n < n then .inr (r (lf p n)) else .inl ()) := by
  obtain ⟨a, b⟩ := lf_spec p n
  have hl := lf_le p n
  have hlt : ∀ k, k < lf p n → f (nI k) = some (.inl (nI (k + 1))) := fun k hk => h1 k (by omega) (a k hk)
  refine loopO_seq (w := nI) (lf p n) hlt ?_
  by_cases hc : lf p n < n
  · rw [if_pos hc]
    exact h2 _ hc (b hc)
  · rw [if_neg hc, show lf p n = n by omega]
    exact h3
variable {S : Hs} {n : Nat} {K : Kd} {Z T : Rt} {A : Nat → Bool} {w : Int32}
theorem firstWay_ok (h : RepM S 14 0 n K Z) (he : EndR S T) (hT : WF n T) (hA : ∀ j, j < 32 → bt w j = A j) {x k y : Nat} (hx : x < n) (hk : k < 4) (hy : y < n) : m_X6_firstWay (nI x) (nI k) (nI y) w S = some (fway n A T x k y) := by
  have hn := h.1
  unfold m_X6_firstWay fway
  have l1 := lf_le (tkb A T x k y) n
  have l2 := lf_le (gvb A T x k y) n
  have f1 : loopO (fun q => m_X6_firstWay_L3 (nI x) (nI k) (nI y) w S q) (nI 0) = some (if lf (tkb A T x k y) n < n then .inr (nI (10 * x + lf (tkb A T x k y) n)) else .inl ()) := by
    refine find_loop (r := fun j => nI (10 * x + j)) (fun f hf hp => ?_) (fun f hf hp => ?_) ?_
    · simp only [m_X6_firstWay_L3, m_X6_firstWay_J65]
      unfold tkb at hp
      simp (disch := omega) only [k_0, k_1, k_2, k_3, k_4, k_5, k_6, k_7, k_8, k_9, k_10, k_14, k_16, k_28, k_30, k_48, k_49, k_57, k_100, k_110, k_127, k_128, k_196, k_255, k_1000, k_1024, k_10000, nI_add, nI_mul, nI_div, irm_nI, nle, nlt, neq, gd_t, inb_nI, cl_nI, bnd_eq, gdT, gdo, gb0, gb1, gbi, bi0, bi1, bi0r, Option.bind_some, bndE_some, ite_t, ite_f, k_m9, k_m1, k_13, k_15, k_18, k_19, k_112, k_114, k_115, k_98, k_103, k_116, k_119, k_47, k_82, k_50, k_51, k_99, k_700, k_197, ne9, ne9s, nI_ne0s, ↓reduceIte, z0 h, isIn_ok w (show x < 32 by omega), hA x (by omega), ends_ok he (show x < 7 by omega) (show 0 < 4 by omega) (show f < 7 by omega), ends_ok he (show f < 7 by omega) hk (show y < 7 by omega)]
      cases q1 : A x <;> cases q2 : T x 0 f <;> cases q3 : T f k y <;> simp [q1, q2, q3] at hp ⊢
    · simp only [m_X6_firstWay_L3, m_X6_firstWay_J65]
      unfold tkb at hp
      simp only [Bool.and_eq_true] at hp
      have n1 := (hT _ _ _ hp.2.1).2.2.2
      have n2 := (hT _ _ _ hp.2.2).2.2.2
      simp (disch := omega) only [k_0, k_1, k_2, k_3, k_4, k_5, k_6, k_7, k_8, k_9, k_10, k_14, k_16, k_28, k_30, k_48, k_49, k_57, k_100, k_110, k_127, k_128, k_196, k_255, k_1000, k_1024, k_10000, nI_add, nI_mul, nI_div, irm_nI, nle, nlt, neq, gd_t, inb_nI, cl_nI, bnd_eq, gdT, gdo, gb0, gb1, gbi, bi0, bi1, bi0r, Option.bind_some, bndE_some, ite_t, ite_f, k_m9, k_m1, k_13, k_15, k_18, k_19, k_112, k_114, k_115, k_98, k_103, k_116, k_119, k_47, k_82, k_50, k_51, k_99, k_700, k_197, ne9, ne9s, nI_ne0s, ↓reduceIte, z0 h, isIn_ok w (show x < 32 by omega), hA x (by omega), hp.1, hp.2.1, hp.2.2, ends_ok he (show x < 7 by omega) (show 0 < 4 by omega) (show f < 7 by omega), ends_ok he (show f < 7 by omega) hk (show y < 7 by omega)]
      simp [Ne.symm n1, n2]
    · simp only [m_X6_firstWay_L3]
      simp (disch := omega) only [k_0, k_1, k_2, k_3, k_4, k_5, k_6, k_7, k_8, k_9, k_10, k_14, k_16, k_28, k_30, k_48, k_49, k_57, k_100, k_110, k_127, k_128, k_196, k_255, k_1000, k_1024, k_10000, nI_add, nI_mul, nI_div, irm_nI, nle, nlt, neq, gd_t, inb_nI, cl_nI, bnd_eq, gdT, gdo, gb0, gb1, gbi, bi0, bi1, bi0r, Option.bind_some, bndE_some, ite_t, ite_f, k_m9, k_m1, k_13, k_15, k_18, k_19, k_112, k_114, k_115, k_98, k_103, k_116, k_119, k_47, k_82, k_50, k_51, k_99, k_700, k_197, ne9, ne9s, nI_ne0s, ↓reduceIte, z0 h]
  have f2 : loopO (fun q => m_X6_firstWay_L74 (nI x) (nI k) (nI y) w S q) (nI 0) = some (if lf (gvb A T x k y) n < n then .inr (nI (100 + 10 * lf (gvb A T x k y) n + x)) else .inl ()) := by
    refine find_loop (r := fun j => nI (100 + 10 * j + x)) (fun f hf hp => ?_) (fun f hf hp => ?_) ?_
    · simp only [m_X6_firstWay_L74, m_X6_firstWay_J140]
      unfold gvb at hp
      simp (disch := omega) only [k_0, k_1, k_2, k_3, k_4, k_5, k_6, k_7, k_8, k_9, k_10, k_14, k_16, k_28, k_30, k_48, k_49, k_57, k_100, k_110, k_127, k_128, k_196, k_255, k_1000, k_1024, k_10000, nI_add, nI_mul, nI_div, irm_nI, nle, nlt, neq, gd_t, inb_nI, cl_nI, bnd_eq, gdT, gdo, gb0, gb1, gbi, bi0, bi1, bi0r, Option.bind_some, bndE_some, ite_t, ite_f, k_m9, k_m1, k_13, k_15, k_18, k_19, k_112, k_114, k_115, k_98, k_103, k_116, k_119, k_47, k_82, k_50, k_51, k_99, k_700, k_197, ne9, ne9s, nI_ne0s, ↓reduceIte, z0 h, isIn_ok w (show f < 32 by omega), hA f (by omega), ends_ok he (show f < 7 by omega) (show 1 < 4 by omega) (show x < 7 by omega), ends_ok he (show f < 7 by omega) hk (show y < 7 by omega)]
      cases q1 : A f <;> cases q2 : T f 1 x <;> cases q3 : T f k y <;> simp [q1, q2, q3] at hp ⊢
    · simp only [m_X6_firstWay_L74, m_X6_firstWay_J140]
      unfold gvb at hp
      simp only [Bool.and_eq_true] at hp
      have n1 := (hT _ _ _ hp.2.1).2.2.2
      have n2 := (hT _ _ _ hp.2.2).2.2.2
      simp (disch := omega) only [k_0, k_1, k_2, k_3, k_4, k_5, k_6, k_7, k_8, k_9, k_10, k_14, k_16, k_28, k_30, k_48, k_49, k_57, k_100, k_110, k_127, k_128, k_196, k_255, k_1000, k_1024, k_10000, nI_add, nI_mul, nI_div, irm_nI, nle, nlt, neq, gd_t, inb_nI, cl_nI, bnd_eq, gdT, gdo, gb0, gb1, gbi, bi0, bi1, bi0r, Option.bind_some, bndE_some, ite_t, ite_f, k_m9, k_m1, k_13, k_15, k_18, k_19, k_112, k_114, k_115, k_98, k_103, k_116, k_119, k_47, k_82, k_50, k_51, k_99, k_700, k_197, ne9, ne9s, nI_ne0s, ↓reduceIte, z0 h, isIn_ok w (show f < 32 by omega), hA f (by omega), hp.1, hp.2.1, hp.2.2, ends_ok he (show f < 7 by omega) (show 1 < 4 by omega) (show x < 7 by omega), ends_ok he (show f < 7 by omega) hk (show y < 7 by omega)]
      simp [n1, n2]
    · simp only [m_X6_firstWay_L74]
      simp (disch := omega) only [k_0, k_1, k_2, k_3, k_4, k_5, k_6, k_7, k_8, k_9, k_10, k_14, k_16, k_28, k_30, k_48, k_49, k_57, k_100, k_110, k_127, k_128, k_196, k_255, k_1000, k_1024, k_10000, nI_add, nI_mul, nI_div, irm_nI, nle, nlt, neq, gd_t, inb_nI, cl_nI, bnd_eq, gdT, gdo, gb0, gb1, gbi, bi0, bi1, bi0r, Option.bind_some, bndE_some, ite_t, ite_f, k_m9, k_m1, k_13, k_15, k_18, k_19, k_112, k_114, k_115, k_98, k_103, k_116, k_119, k_47, k_82, k_50, k_51, k_99, k_700, k_197, ne9, ne9s, nI_ne0s, ↓reduceIte, z0 h]
  simp (disch := omega) only [k_0, k_1, k_2, k_3, k_4, k_5, k_6, k_7, k_8, k_9, k_10, k_14, k_16, k_28, k_30, k_48, k_49, k_57, k_100, k_110, k_127, k_128, k_196, k_255, k_1000, k_1024, k_10000, nI_add, nI_mul, nI_div, irm_nI, nle, nlt, neq, gd_t, inb_nI, cl_nI, bnd_eq, gdT, gdo, gb0, gb1, gbi, bi0, bi1, bi0r, Option.bind_some, bndE_some, ite_t, ite_f, k_m9, k_m1, k_13, k_15, k_18, k_19, k_112, k_114, k_115, k_98, k_103, k_116, k_119, k_47, k_82, k_50, k_51, k_99, k_700, k_197, ne9, ne9s, nI_ne0s, ↓reduceIte]
  rw [f1, Option.bind_some]
  by_cases h1 : lf (tkb A T x k y) n < n
  · rw [if_pos h1, if_pos h1]
    rfl
  · rw [if_neg h1, if_neg h1]
    show (loopO (fun q => m_X6_firstWay_L74 (nI x) (nI k) (nI y) w S q) (nI 0)).bind _ = _
    rw [f2, Option.bind_some]
    by_cases h2 : lf (gvb A T x k y) n < n
    · rw [if_pos h2, if_pos h2]
      rfl
    · rw [if_neg h2, if_neg h2]
      rfl
/-! one round -/
/-- whether a right is new in this round -/
noncomputable def nwb (A : Nat → Bool) (T : Rt) (x k y : Nat) : Bool := !T x k y && B (nw A T x k y)
theorem nwb_iff {x k y : Nat} : nwb A T x k y = true ↔ T x k y = false ∧ nw A T x k y := by
  unfold nwb
  rw [Bool.and_eq_true, B_iff, Bool.not_eq_true']
theorem stp_nwb {x k y : Nat} : stp A T x k y = (T x k y || nwb A T x k y) := by
  unfold stp nwb
  cases T x k y <;> simp
/-- the rights of the row X up to y, k, and of all rows before -/
def bef (X Y k0 x k y : Nat) : Prop := x < X ∨ x = X ∧ (y < Y ∨ y = Y ∧ k < k0)
/-- what the first half of a round has done behind S0: P says which rights were looked at -/
def GrI (S0 : Hs) (n : Nat) (A : Nat → Bool) (T : Rt) (r : Nat) (P : Nat → Nat → Nat → Prop) (f : Int32) (S : Hs) : Prop :=
  (∀ a b, gI S a b = gI S0 a b) ∧ (∀ a b, a ≠ 21 → a ≠ 22 → a ≠ 23 → gA S a b = gA S0 a b) ∧ (∀ a b, gQ S a b = gQ S0 a b) ∧ (∀ b, gO S b = gO S0 b) ∧
  f = bi (B (∃ x k y, P x k y ∧ nwb A T x k y = true)) ∧
  (∀ x, x < 7 → ∀ k, k < 4 → ∀ y, y < 7 → (P x k y ∧ nwb A T x k y = true → gA S 22 (4 * (7 * x + y) + k) = nI (r + 1) ∧ gA S 23 (4 * (7 * x + y) + k) = fway n A T x k y) ∧ (¬ (P x k y ∧ nwb A T x k y = true) → gA S 22 (4 * (7 * x + y) + k) = gA S0 22 (4 * (7 * x + y) + k) ∧ gA S 23 (4 * (7 * x + y) + k) = gA S0 23 (4 * (7 * x + y) + k)))
/-- the fresh rights of the cells before x = X, y = Y -/
def FrI (A : Nat → Bool) (n : Nat) (T : Rt) (X Y : Nat) (S : Hs) : Prop := ∀ x, x < n → ∀ y, y < n → (x < X ∨ x = X ∧ y < Y) → ∀ b, b < 32 → bt (gA S 21 (7 * x + y)) b = (decide (b < 4) && nwb A T x b y)
theorem GrI.cong {S0 S : Hs} {r : Nat} {f : Int32} {P P' : Nat → Nat → Nat → Prop} (h : GrI S0 n A T r P f S) (he : ∀ x k y, nwb A T x k y = true → (P x k y ↔ P' x k y)) : GrI S0 n A T r P' f S := by
  obtain ⟨h1, h2, h3, h4, h5, h6⟩ := h
  have e : ∀ x k y, (P' x k y ∧ nwb A T x k y = true) = (P x k y ∧ nwb A T x k y = true) := fun x k y => propext ⟨fun q => ⟨(he x k y q.2).mpr q.1, q.2⟩, fun q => ⟨(he x k y q.2).mp q.1, q.2⟩⟩
  refine ⟨h1, h2, h3, h4, ?_, ?_⟩
  · rw [h5]
    simp only [e]
  · intro x hx k hk y hy
    rw [e]
    exact h6 x hx k hk y hy
theorem nwb_WF (hT : WF n T) {x k y : Nat} (h : nwb A T x k y = true) : x < n ∧ k < 4 ∧ y < n ∧ x ≠ y := nw_WF hT (nwb_iff.mp h).2
/-- the rights of one cell -/
theorem goRound_L43_ok {S0 : Hs} (h0 : RepM S0 14 0 n K Z) (he0 : EndR S0 T) (hT : WF n T) (hA : ∀ j, j < 32 → bt w j = A j) {r : Nat} (hr : r < 100000) (hr0 : gI S0 13 13 = nI r) {X Y : Nat} (hX : X < n) (hY : Y < n) {f : Int32} {S1 : Hs} (hG : GrI S0 n A T r (bef X Y 0) f S1) (hF : FrI A n T X Y S1) (hz : ∀ b, b < 32 → bt (gA S1 21 (7 * X + Y)) b = false) :
    ∃ f' S', loopO (fun q => m_X6_goRound_L43 w (nI X) (nI Y) q.1 q.2.1 q.2.2) (f, nI 0, S1) = some (f', S') ∧ GrI S0 n A T r (bef X (Y + 1) 0) f' S' ∧ FrI A n T X (Y + 1) S' := by
  have hn := h0.1
  obtain ⟨⟨f', S'⟩, e1, e2, e3⟩ := loopO_inv (f := fun q : Int32 × Int32 × Hs => m_X6_goRound_L43 w (nI X) (nI Y) q.1 q.2.1 q.2.2) (fun c q => c ≤ 4 ∧ q.2.1 = nI c ∧ GrI S0 n A T r (bef X Y c) q.1 q.2.2 ∧ FrI A n T X Y q.2.2 ∧ ∀ b, b < 32 → bt (gA q.2.2 21 (7 * X + Y)) b = (decide (b < c) && nwb A T X b Y)) (fun p => GrI S0 n A T r (bef X (Y + 1) 0) p.1 p.2 ∧ FrI A n T X (Y + 1) p.2) 4 (fun c q hq => by
    obtain ⟨g, v, U⟩ := q
    obtain ⟨hc, hv, hG, hF, hb⟩ := hq
    simp only at hv hG hF hb
    subst hv
    -- the end
    have fin : (∀ k, c ≤ k → nwb A T X k Y = false) → GrI S0 n A T r (bef X (Y + 1) 0) g U ∧ FrI A n T X (Y + 1) U := by
      intro hno
      refine ⟨hG.cong fun x k y qn => ?_, fun x hx y hy hxy b hb32 => ?_⟩
      · unfold bef
        constructor
        · intro q; omega
        · rintro (q | ⟨rfl, q | ⟨-, q⟩⟩)
          · exact Or.inl q
          · rcases Nat.lt_or_ge y Y with h | h
            · exact Or.inr ⟨rfl, Or.inl h⟩
            · obtain rfl : y = Y := by omega
              refine Or.inr ⟨rfl, Or.inr ⟨rfl, ?_⟩⟩
              rcases Nat.lt_or_ge k c with h | h
              · exact h
              · rw [hno k h] at qn; cases qn
          · omega
      · by_cases hq : x = X ∧ y = Y
        · obtain ⟨rfl, rfl⟩ := hq
          rw [hb b hb32]
          by_cases hbc : b < c
          · rw [decide_eq_true hbc, decide_eq_true (by omega)]
          · rw [decide_eq_false hbc, hno b (by omega)]
            simp
        · exact hF x hx y hy (by omega) b hb32
    by_cases hc4 : c < 4
    · by_cases hXY : X = Y
      · refine Or.inr ⟨(g, U), ?_, fin fun k _ => ?_⟩
        · simp only [m_X6_goRound_L43]
          subst hXY
          simp (disch := omega) only [k_0, k_1, k_2, k_3, k_4, k_5, k_6, k_7, k_8, k_9, k_10, k_14, k_16, k_28, k_30, k_48, k_49, k_57, k_100, k_110, k_127, k_128, k_196, k_255, k_1000, k_1024, k_10000, nI_add, nI_mul, nI_div, irm_nI, nle, nlt, neq, gd_t, inb_nI, cl_nI, bnd_eq, gdT, gdo, gb0, gb1, gbi, bi0, bi1, bi0r, Option.bind_some, bndE_some, ite_t, ite_f, k_m9, k_m1, k_13, k_15, k_18, k_19, k_112, k_114, k_115, k_98, k_103, k_116, k_119, k_47, k_82, k_50, k_51, k_99, k_700, k_197, ne9, ne9s, nI_ne0s, ↓reduceIte]
        · cases hq : nwb A T X k Y
          · rfl
          · exact absurd hXY (nwb_WF hT hq).2.2.2
      · have hU : RepM U 14 0 n K Z := h0.keep fun j => hG.2.1 _ _ (by omega) (by omega) (by omega)
        have hE : EndR U T := he0.keep fun j => hG.2.1 _ _ (by omega) (by omega) (by omega)
        have hrU : gI U 13 13 = nI r := (hG.1 _ _).trans hr0
        -- the next state when the right isn't new
        have no : nwb A T X c Y = false → GrI S0 n A T r (bef X Y (c + 1)) g U ∧ FrI A n T X Y U ∧ ∀ b, b < 32 → bt (gA U 21 (7 * X + Y)) b = (decide (b < c + 1) && nwb A T X b Y) := by
          intro hq
          refine ⟨hG.cong fun x k y q => ?_, hF, fun b hb32 => ?_⟩
          · unfold bef
            constructor
            · intro q; omega
            · rintro (q1 | ⟨rfl, q1 | ⟨rfl, q1⟩⟩)
              · exact Or.inl q1
              · exact Or.inr ⟨rfl, Or.inl q1⟩
              · by_cases hkc : k = c
                · subst hkc
                  rw [hq] at q; cases q
                · exact Or.inr ⟨rfl, Or.inr ⟨rfl, by omega⟩⟩
          · rw [hb b hb32]
            by_cases hbc : b = c
            · subst hbc
              rw [hq]; simp
            · rw [show decide (b < c + 1) = decide (b < c) by rw [decide_eq_decide]; omega]
        refine Or.inl ⟨hc4, ?_⟩
        simp only [m_X6_goRound_L43]
        simp (disch := omega) only [k_0, k_1, k_2, k_3, k_4, k_5, k_6, k_7, k_8, k_9, k_10, k_14, k_16, k_28, k_30, k_48, k_49, k_57, k_100, k_110, k_127, k_128, k_196, k_255, k_1000, k_1024, k_10000, nI_add, nI_mul, nI_div, irm_nI, nle, nlt, neq, gd_t, inb_nI, cl_nI, bnd_eq, gdT, gdo, gb0, gb1, gbi, bi0, bi1, bi0r, Option.bind_some, bndE_some, ite_t, ite_f, k_m9, k_m1, k_13, k_15, k_18, k_19, k_112, k_114, k_115, k_98, k_103, k_116, k_119, k_47, k_82, k_50, k_51, k_99, k_700, k_197, ne9, ne9s, nI_ne0s, ↓reduceIte, ends_ok hE (show X < 7 by omega) hc4 (show Y < 7 by omega), hXY]
        cases ht : T X c Y
        · simp (disch := omega) only [k_0, k_1, k_2, k_3, k_4, k_5, k_6, k_7, k_8, k_9, k_10, k_14, k_16, k_28, k_30, k_48, k_49, k_57, k_100, k_110, k_127, k_128, k_196, k_255, k_1000, k_1024, k_10000, nI_add, nI_mul, nI_div, irm_nI, nle, nlt, neq, gd_t, inb_nI, cl_nI, bnd_eq, gdT, gdo, gb0, gb1, gbi, bi0, bi1, bi0r, Option.bind_some, bndE_some, ite_t, ite_f, k_m9, k_m1, k_13, k_15, k_18, k_19, k_112, k_114, k_115, k_98, k_103, k_116, k_119, k_47, k_82, k_50, k_51, k_99, k_700, k_197, ne9, ne9s, nI_ne0s, ↓reduceIte, firstWay_ok hU hE hT hA hX hc4 hY]
          by_cases hnw : nw A T X c Y
          · have hnew : nwb A T X c Y = true := nwb_iff.mpr ⟨ht, hnw⟩
            have hway : fway n A T X c Y ≠ m9 := fun q => (fway_none hT hn (show X < 7 by omega) hXY).mp q hnw
            simp only [m_X6_goRound_J82, m_X6_goRound_J151]
            simp (disch := omega) only [k_0, k_1, k_2, k_3, k_4, k_5, k_6, k_7, k_8, k_9, k_10, k_14, k_16, k_28, k_30, k_48, k_49, k_57, k_100, k_110, k_127, k_128, k_196, k_255, k_1000, k_1024, k_10000, nI_add, nI_mul, nI_div, irm_nI, nle, nlt, neq, gd_t, inb_nI, cl_nI, bnd_eq, gdT, gdo, gb0, gb1, gbi, bi0, bi1, bi0r, Option.bind_some, bndE_some, ite_t, ite_f, k_m9, k_m1, k_13, k_15, k_18, k_19, k_112, k_114, k_115, k_98, k_103, k_116, k_119, k_47, k_82, k_50, k_51, k_99, k_700, k_197, ne9, ne9s, nI_ne0s, ↓reduceIte, at_ok, hway]
            refine ⟨_, rfl, by omega, rfl, ?_, fun x hx y hy hxy b hb32 => ?_, fun b hb32 => ?_⟩
            · refine ⟨fun a b => hG.1 a b, fun a b q1 q2 q3 => ?_, fun a b => hG.2.2.1 a b, fun b => hG.2.2.2.1 b, ?_, fun x hx k hk y hy => ?_⟩
              · simp only [gA_sA, if_neg q1, if_neg q2, if_neg q3]
                exact hG.2.1 a b q1 q2 q3
              · show nI 1 = _
                rw [B_iff.mpr ⟨X, c, Y, Or.inr ⟨rfl, Or.inr ⟨rfl, by omega⟩⟩, hnew⟩]
                rfl
              · have h6 := hG.2.2.2.2.2 x hx k hk y hy
                by_cases hq : x = X ∧ k = c ∧ y = Y
                · obtain ⟨rfl, rfl, rfl⟩ := hq
                  refine ⟨fun _ => ⟨?_, ?_⟩, fun q => absurd ⟨Or.inr ⟨rfl, Or.inr ⟨rfl, by omega⟩⟩, hnew⟩ q⟩
                  · simp [gA_sA, gI_sA, hrU, nI_add]
                  · simp [gA_sA]
                · have ne : ¬ 4 * (7 * x + y) + k = 4 * (7 * X + Y) + c := by omega
                  have eb : bef X Y (c + 1) x k y ↔ bef X Y c x k y := by unfold bef; omega
                  simp only [gA_sA, ne, eb, if_false, if_true, show (22 : Nat) = 23 ↔ False by decide, show (22 : Nat) = 21 ↔ False by decide, show (23 : Nat) = 22 ↔ False by decide, show (23 : Nat) = 21 ↔ False by decide]
                  exact h6
            · simp only [gA_sA, show (21 : Nat) = 23 ↔ False by decide, show (21 : Nat) = 22 ↔ False by decide, if_false, if_true]
              rw [if_neg (by omega)]
              exact hF x hx y hy hxy b hb32
            · simp only [gA_sA, show (21 : Nat) = 23 ↔ False by decide, show (21 : Nat) = 22 ↔ False by decide, if_false, if_true]
              rw [show nI 1 = (1 : Int32) from rfl, bt_set _ (show c < 32 by omega) hb32, hb b hb32]
              by_cases hbc : b = c
              · subst hbc
                simp [hnew]
              · rw [show decide (b < c + 1) = decide (b < c) by rw [decide_eq_decide]; omega]
                simp [hbc]
          · have hnew : nwb A T X c Y = false := by
              cases hq : nwb A T X c Y
              · rfl
              · exact absurd (nwb_iff.mp hq).2 hnw
            have hway : fway n A T X c Y = m9 := (fway_none hT hn (show X < 7 by omega) hXY).mpr hnw
            simp only [m_X6_goRound_J82, m_X6_goRound_J151]
            simp (disch := omega) only [k_0, k_1, k_2, k_3, k_4, k_5, k_6, k_7, k_8, k_9, k_10, k_14, k_16, k_28, k_30, k_48, k_49, k_57, k_100, k_110, k_127, k_128, k_196, k_255, k_1000, k_1024, k_10000, nI_add, nI_mul, nI_div, irm_nI, nle, nlt, neq, gd_t, inb_nI, cl_nI, bnd_eq, gdT, gdo, gb0, gb1, gbi, bi0, bi1, bi0r, Option.bind_some, bndE_some, ite_t, ite_f, k_m9, k_m1, k_13, k_15, k_18, k_19, k_112, k_114, k_115, k_98, k_103, k_116, k_119, k_47, k_82, k_50, k_51, k_99, k_700, k_197, ne9, ne9s, nI_ne0s, ↓reduceIte, hway]
            obtain ⟨n1, n2, n3⟩ := no hnew
            exact ⟨_, rfl, by omega, rfl, n1, n2, n3⟩
        · have hnew : nwb A T X c Y = false := by unfold nwb; rw [ht]; rfl
          simp only [m_X6_goRound_J82, m_X6_goRound_J151]
          simp (disch := omega) only [k_0, k_1, k_2, k_3, k_4, k_5, k_6, k_7, k_8, k_9, k_10, k_14, k_16, k_28, k_30, k_48, k_49, k_57, k_100, k_110, k_127, k_128, k_196, k_255, k_1000, k_1024, k_10000, nI_add, nI_mul, nI_div, irm_nI, nle, nlt, neq, gd_t, inb_nI, cl_nI, bnd_eq, gdT, gdo, gb0, gb1, gbi, bi0, bi1, bi0r, Option.bind_some, bndE_some, ite_t, ite_f, k_m9, k_m1, k_13, k_15, k_18, k_19, k_112, k_114, k_115, k_98, k_103, k_116, k_119, k_47, k_82, k_50, k_51, k_99, k_700, k_197, ne9, ne9s, nI_ne0s, ↓reduceIte]
          obtain ⟨n1, n2, n3⟩ := no hnew
          exact ⟨_, rfl, by omega, rfl, n1, n2, n3⟩
    · obtain rfl : c = 4 := by omega
      refine Or.inr ⟨(g, U), ?_, fin fun k hk => ?_⟩
      · simp only [m_X6_goRound_L43]
        simp (disch := omega) only [k_0, k_1, k_2, k_3, k_4, k_5, k_6, k_7, k_8, k_9, k_10, k_14, k_16, k_28, k_30, k_48, k_49, k_57, k_100, k_110, k_127, k_128, k_196, k_255, k_1000, k_1024, k_10000, nI_add, nI_mul, nI_div, irm_nI, nle, nlt, neq, gd_t, inb_nI, cl_nI, bnd_eq, gdT, gdo, gb0, gb1, gbi, bi0, bi1, bi0r, Option.bind_some, bndE_some, ite_t, ite_f, k_m9, k_m1, k_13, k_15, k_18, k_19, k_112, k_114, k_115, k_98, k_103, k_116, k_119, k_47, k_82, k_50, k_51, k_99, k_700, k_197, ne9, ne9s, nI_ne0s, ↓reduceIte]
      · cases hq : nwb A T X k Y
        · rfl
        · have := (nwb_WF hT hq).2.1; omega) (x := (f, nI 0, S1)) ⟨by omega, rfl, hG, hF, fun b hb => by rw [hz b hb]; simp⟩
  exact ⟨f', S', e1, e2, e3⟩
