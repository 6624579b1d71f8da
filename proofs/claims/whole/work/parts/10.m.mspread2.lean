/-! the model's spread: a whole round, all rounds -/
variable {S : Hs} {n : Nat} {K : Kd} {Z T : Rt} {A : Nat → Bool} {w : Int32}
theorem GrI.zero {S0 S1 : Hs} {r : Nat} {f : Int32} {P : Nat → Nat → Nat → Prop} (h : GrI S0 n A T r P f S1) (k : Nat) (v : Int32) : GrI S0 n A T r P f (sA S1 21 k v) := by
  obtain ⟨h1, h2, h3, h4, h5, h6⟩ := h
  refine ⟨h1, fun a b q1 q2 q3 => ?_, h3, h4, h5, fun x hx k hk y hy => ?_⟩
  · rw [gA_sA, if_neg q1]
    exact h2 a b q1 q2 q3
  · simp only [gA_sA, show (22 : Nat) = 21 ↔ False by decide, show (23 : Nat) = 21 ↔ False by decide, if_false]
    exact h6 x hx k hk y hy
theorem goRound_L17_ok {S0 : Hs} (h0 : RepM S0 14 0 n K Z) (he0 : EndR S0 T) (hT : WF n T) (hA : ∀ j, j < 32 → bt w j = A j) {r : Nat} (hr : r < 100000) (hr0 : gI S0 13 13 = nI r) {X : Nat} (hX : X < n) {f : Int32} {S1 : Hs} (hG : GrI S0 n A T r (bef X 0 0) f S1) (hF : FrI A n T X 0 S1) :
    ∃ f' S', loopO (fun q => m_X6_goRound_L17 w (nI X) q.1 q.2.1 q.2.2) (f, nI 0, S1) = some (f', S') ∧ GrI S0 n A T r (bef (X + 1) 0 0) f' S' ∧ FrI A n T (X + 1) 0 S' := by
  have hn := h0.1
  obtain ⟨⟨f', S'⟩, e1, e2, e3⟩ := loopO_inv (f := fun q : Int32 × Int32 × Hs => m_X6_goRound_L17 w (nI X) q.1 q.2.1 q.2.2) (fun c q => c ≤ n ∧ q.2.1 = nI c ∧ GrI S0 n A T r (bef X c 0) q.1 q.2.2 ∧ FrI A n T X c q.2.2) (fun p => GrI S0 n A T r (bef (X + 1) 0 0) p.1 p.2 ∧ FrI A n T (X + 1) 0 p.2) 7 (fun c q hq => by
    obtain ⟨g, v, U⟩ := q
    obtain ⟨hc, hv, hG, hF⟩ := hq
    simp only at hv hG hF
    subst hv
    have hU : RepM U 14 0 n K Z := h0.keep fun j => hG.2.1 _ _ (by omega) (by omega) (by omega)
    by_cases hcn : c < n
    · obtain ⟨f2, S2, e1, e2, e3⟩ := goRound_L43_ok h0 he0 hT hA hr hr0 hX hcn (hG.zero (7 * X + c) (nI 0)) (fun x hx y hy hxy b hb => by
        rw [gA_sA, if_pos rfl, if_neg (by omega)]
        exact hF x hx y hy hxy b hb) (fun b hb => by rw [gA_sA, if_pos rfl, if_pos rfl, show nI 0 = (0 : Int32) from rfl, b_0])
      refine Or.inl ⟨by omega, ?_⟩
      simp only [m_X6_goRound_L17, m_X6_goRound_J157]
      simp (disch := omega) only [k_0, k_1, k_2, k_3, k_4, k_5, k_6, k_7, k_8, k_9, k_10, k_14, k_16, k_28, k_30, k_48, k_49, k_57, k_100, k_110, k_127, k_128, k_196, k_255, k_1000, k_1024, k_10000, nI_add, nI_mul, nI_div, irm_nI, nle, nlt, neq, gd_t, inb_nI, cl_nI, bnd_eq, gdT, gdo, gb0, gb1, gbi, bi0, bi1, bi0r, Option.bind_some, bndE_some, ite_t, ite_f, k_m9, k_m1, k_13, k_15, k_18, k_19, k_112, k_114, k_115, k_98, k_103, k_116, k_119, k_47, k_82, k_50, k_51, k_99, k_700, k_197, ne9, ne9s, nI_ne0s, ↓reduceIte, z0 hU, at_ok]
      rw [e1]
      exact ⟨_, rfl, by omega, rfl, e2, e3⟩
    · obtain rfl : c = n := by omega
      refine Or.inr ⟨(g, U), ?_, hG.cong fun x k y q => ?_, fun x hx y hy hxy b hb => hF x hx y hy (by omega) b hb⟩
      · simp only [m_X6_goRound_L17]
        simp (disch := omega) only [k_0, k_1, k_2, k_3, k_4, k_5, k_6, k_7, k_8, k_9, k_10, k_14, k_16, k_28, k_30, k_48, k_49, k_57, k_100, k_110, k_127, k_128, k_196, k_255, k_1000, k_1024, k_10000, nI_add, nI_mul, nI_div, irm_nI, nle, nlt, neq, gd_t, inb_nI, cl_nI, bnd_eq, gdT, gdo, gb0, gb1, gbi, bi0, bi1, bi0r, Option.bind_some, bndE_some, ite_t, ite_f, k_m9, k_m1, k_13, k_15, k_18, k_19, k_112, k_114, k_115, k_98, k_103, k_116, k_119, k_47, k_82, k_50, k_51, k_99, k_700, k_197, ne9, ne9s, nI_ne0s, ↓reduceIte, z0 hU]
      · have := nwb_WF hT q
        unfold bef
        omega) (x := (f, nI 0, S1)) ⟨by omega, rfl, hG, hF⟩
  exact ⟨f', S', e1, e2, e3⟩
/-- what a round leaves of all but the end, the rounds, the ways, the fresh ones -/
def Scr (S0 S : Hs) : Prop := (∀ a b, ¬ (a = 13 ∧ b = 13) → gI S a b = gI S0 a b) ∧ (∀ a b, a ≠ 20 → a ≠ 21 → a ≠ 22 → a ≠ 23 → gA S a b = gA S0 a b) ∧ (∀ a b, gQ S a b = gQ S0 a b) ∧ (∀ b, gO S b = gO S0 b)
theorem Scr.rf (S : Hs) : Scr S S := ⟨fun _ _ _ => rfl, fun _ _ _ _ _ _ => rfl, fun _ _ => rfl, fun _ => rfl⟩
theorem Scr.tr {S T U : Hs} (h : Scr S T) (g : Scr T U) : Scr S U := ⟨fun a b q => (g.1 a b q).trans (h.1 a b q), fun a b q1 q2 q3 q4 => (g.2.1 a b q1 q2 q3 q4).trans (h.2.1 a b q1 q2 q3 q4), fun a b => (g.2.2.1 a b).trans (h.2.2.1 a b), fun b => (g.2.2.2 b).trans (h.2.2.2 b)⟩
theorem Scr.rep {S U : Hs} (h : Scr S U) {a o : Nat} (g : RepM S a o n K Z) (h1 : a ≠ 20) (h2 : a ≠ 21) (h3 : a ≠ 22) (h4 : a ≠ 23) : RepM U a o n K Z := g.keep fun j => h.2.1 _ _ h1 h2 h3 h4
theorem goRound_ok (h : RepM S 14 0 n K Z) (he : EndR S T) (hT : WF n T) (hA : ∀ j, j < 32 → bt w j = A j) {r : Nat} (hr : r < 100000) (hr0 : gI S 13 13 = nI r) :
    ∃ S', m_X6_goRound w S = some (bi (B (¬ Sub (stp A T) T)), S') ∧ Scr S S' ∧ gI S' 13 13 = nI r ∧ EndR S' (stp A T) ∧ ∀ x, x < 7 → ∀ k, k < 4 → ∀ y, y < 7 → (nwb A T x k y = true → gA S' 22 (4 * (7 * x + y) + k) = nI (r + 1) ∧ gA S' 23 (4 * (7 * x + y) + k) = fway n A T x k y) ∧ (nwb A T x k y = false → gA S' 22 (4 * (7 * x + y) + k) = gA S 22 (4 * (7 * x + y) + k) ∧ gA S' 23 (4 * (7 * x + y) + k) = gA S 23 (4 * (7 * x + y) + k)) := by
  have hn := h.1
  unfold m_X6_goRound
  obtain ⟨⟨f1, S1⟩, e1, e2, e3⟩ := loopO_inv (f := fun q : Int32 × Int32 × Hs => m_X6_goRound_L4 w q.1 q.2.1 q.2.2) (fun c q => c ≤ n ∧ q.2.1 = nI c ∧ GrI S n A T r (bef c 0 0) q.1 q.2.2 ∧ FrI A n T c 0 q.2.2) (fun p => GrI S n A T r (bef n 0 0) p.1 p.2 ∧ FrI A n T n 0 p.2) 7 (fun c q hq => by
    obtain ⟨g, v, U⟩ := q
    obtain ⟨hc, hv, hG, hF⟩ := hq
    simp only at hv hG hF
    subst hv
    have hU : RepM U 14 0 n K Z := h.keep fun j => hG.2.1 _ _ (by omega) (by omega) (by omega)
    by_cases hcn : c < n
    · obtain ⟨f2, S2, e1, e2, e3⟩ := goRound_L17_ok h he hT hA hr hr0 hcn hG hF
      refine Or.inl ⟨by omega, ?_⟩
      simp only [m_X6_goRound_L4]
      simp (disch := omega) only [k_0, k_1, k_2, k_3, k_4, k_5, k_6, k_7, k_8, k_9, k_10, k_14, k_16, k_28, k_30, k_48, k_49, k_57, k_100, k_110, k_127, k_128, k_196, k_255, k_1000, k_1024, k_10000, nI_add, nI_mul, nI_div, irm_nI, nle, nlt, neq, gd_t, inb_nI, cl_nI, bnd_eq, gdT, gdo, gb0, gb1, gbi, bi0, bi1, bi0r, Option.bind_some, bndE_some, ite_t, ite_f, k_m9, k_m1, k_13, k_15, k_18, k_19, k_112, k_114, k_115, k_98, k_103, k_116, k_119, k_47, k_82, k_50, k_51, k_99, k_700, k_197, ne9, ne9s, nI_ne0s, ↓reduceIte, z0 hU]
      rw [e1]
      exact ⟨_, rfl, by omega, rfl, e2, e3⟩
    · obtain rfl : c = n := by omega
      refine Or.inr ⟨(g, U), ?_, hG, hF⟩
      simp only [m_X6_goRound_L4]
      simp (disch := omega) only [k_0, k_1, k_2, k_3, k_4, k_5, k_6, k_7, k_8, k_9, k_10, k_14, k_16, k_28, k_30, k_48, k_49, k_57, k_100, k_110, k_127, k_128, k_196, k_255, k_1000, k_1024, k_10000, nI_add, nI_mul, nI_div, irm_nI, nle, nlt, neq, gd_t, inb_nI, cl_nI, bnd_eq, gdT, gdo, gb0, gb1, gbi, bi0, bi1, bi0r, Option.bind_some, bndE_some, ite_t, ite_f, k_m9, k_m1, k_13, k_15, k_18, k_19, k_112, k_114, k_115, k_98, k_103, k_116, k_119, k_47, k_82, k_50, k_51, k_99, k_700, k_197, ne9, ne9s, nI_ne0s, ↓reduceIte, z0 hU]) (x := (nI 0, nI 0, S)) ⟨by omega, rfl, ⟨fun _ _ => rfl, fun _ _ _ _ _ => rfl, fun _ _ => rfl, fun _ => rfl, by rw [B_false.mpr]; rfl; rintro ⟨x, k, y, q, -⟩; unfold bef at q; omega, fun x hx k hk y hy => ⟨fun q => by have := q.1; unfold bef at this; omega, fun _ => ⟨rfl, rfl⟩⟩⟩, fun x hx y hy q => by omega⟩
  simp only at e2 e3
  have h1 : RepM S1 14 0 n K Z := h.keep fun j => e2.2.1 _ _ (by omega) (by omega) (by omega)
  have he1 : EndR S1 T := he.keep fun j => e2.2.1 _ _ (by omega) (by omega) (by omega)
  obtain ⟨S2, g1, g2, g3⟩ := loopO_inv (f := fun q : Int32 × Hs => m_X6_goRound_L171 f1 q.1 q.2) (fun c q => c ≤ n ∧ q.1 = nI c ∧ OnA 20 S1 q.2 ∧ ∀ x, x < 7 → ∀ y, y < 7 → ∀ b, b < 32 → bt (gA q.2 20 (7 * x + y)) b = (decide (b < 4) && if x < c then stp A T x b y else T x b y)) (fun U => OnA 20 S1 U ∧ EndR U (stp A T)) 7 (fun c q hq => by
    obtain ⟨v, U⟩ := q
    obtain ⟨hc, hv, hO, hb⟩ := hq
    simp only at hv hO hb
    subst hv
    have hU : RepM U 14 0 n K Z := h1.keep fun j => hO.2.1 _ _ (by omega)
    by_cases hcn : c < n
    · obtain ⟨V, k1, k2, k3⟩ := loopO_inv (f := fun q : Int32 × Hs => m_X6_goRound_L184 f1 (nI c) q.1 q.2) (fun d q => d ≤ n ∧ q.1 = nI d ∧ OnA 20 S1 q.2 ∧ ∀ x, x < 7 → ∀ y, y < 7 → ∀ b, b < 32 → bt (gA q.2 20 (7 * x + y)) b = (decide (b < 4) && if x < c ∨ x = c ∧ y < d then stp A T x b y else T x b y)) (fun U => OnA 20 S1 U ∧ ∀ x, x < 7 → ∀ y, y < 7 → ∀ b, b < 32 → bt (gA U 20 (7 * x + y)) b = (decide (b < 4) && if x < c + 1 then stp A T x b y else T x b y)) 7 (fun d q hq => by
        obtain ⟨v, V⟩ := q
        obtain ⟨hd, hv, hOV, hbV⟩ := hq
        simp only at hv hOV hbV
        subst hv
        have hV : RepM V 14 0 n K Z := h1.keep fun j => hOV.2.1 _ _ (by omega)
        by_cases hdn : d < n
        · refine Or.inl ⟨by omega, ?_⟩
          simp only [m_X6_goRound_L184]
          simp (disch := omega) only [k_0, k_1, k_2, k_3, k_4, k_5, k_6, k_7, k_8, k_9, k_10, k_14, k_16, k_28, k_30, k_48, k_49, k_57, k_100, k_110, k_127, k_128, k_196, k_255, k_1000, k_1024, k_10000, nI_add, nI_mul, nI_div, irm_nI, nle, nlt, neq, gd_t, inb_nI, cl_nI, bnd_eq, gdT, gdo, gb0, gb1, gbi, bi0, bi1, bi0r, Option.bind_some, bndE_some, ite_t, ite_f, k_m9, k_m1, k_13, k_15, k_18, k_19, k_112, k_114, k_115, k_98, k_103, k_116, k_119, k_47, k_82, k_50, k_51, k_99, k_700, k_197, ne9, ne9s, nI_ne0s, ↓reduceIte, z0 hV, at_ok]
          refine ⟨_, rfl, by omega, rfl, hOV.tr (OnA.sA _ _), fun x hx y hy b hb32 => ?_⟩
          show bt (gA (sA V 20 (7 * c + d) (gA V 20 (7 * c + d) ||| gA V 21 (7 * c + d))) 20 (7 * x + y)) b = _
          rw [gA_sA, if_pos rfl]
          by_cases hq : x = c ∧ y = d
          · obtain ⟨rfl, rfl⟩ := hq
            rw [if_pos rfl, b_or, hbV x hx y hy b hb32, if_neg (by omega), hOV.2.1 21 _ (by omega), e3 x (by omega) y (by omega) (by omega) b hb32, if_pos (by omega), stp_nwb]
            cases decide (b < 4) <;> rfl
          · rw [if_neg (by omega), hbV x hx y hy b hb32]
            rw [ite_cg (show (x < c ∨ x = c ∧ y < d + 1) ↔ (x < c ∨ x = c ∧ y < d) by omega)]
        · obtain rfl : d = n := by omega
          refine Or.inr ⟨V, ?_, hOV, fun x hx y hy b hb32 => ?_⟩
          · simp only [m_X6_goRound_L184]
            simp (disch := omega) only [k_0, k_1, k_2, k_3, k_4, k_5, k_6, k_7, k_8, k_9, k_10, k_14, k_16, k_28, k_30, k_48, k_49, k_57, k_100, k_110, k_127, k_128, k_196, k_255, k_1000, k_1024, k_10000, nI_add, nI_mul, nI_div, irm_nI, nle, nlt, neq, gd_t, inb_nI, cl_nI, bnd_eq, gdT, gdo, gb0, gb1, gbi, bi0, bi1, bi0r, Option.bind_some, bndE_some, ite_t, ite_f, k_m9, k_m1, k_13, k_15, k_18, k_19, k_112, k_114, k_115, k_98, k_103, k_116, k_119, k_47, k_82, k_50, k_51, k_99, k_700, k_197, ne9, ne9s, nI_ne0s, ↓reduceIte, z0 hV]
          · rw [hbV x hx y hy b hb32]
            congr 1
            by_cases hxc : x < c + 1
            · rw [if_pos hxc]
              by_cases hq : x < c ∨ x = c ∧ y < d
              · rw [if_pos hq]
              · rw [if_neg hq]
                cases h1 : T x b y
                · cases h2 : stp A T x b y
                  · rfl
                  · exact absurd (stp_WF hT _ _ _ h2).2.2.1 (by omega)
                · exact absurd (hT _ _ _ h1).2.2.1 (by omega)
            · rw [if_neg hxc, if_neg (by omega)]) (x := (nI 0, U)) ⟨by omega, rfl, hO, fun x hx y hy b hb32 => by
          rw [hb x hx y hy b hb32]
          by_cases hxc : x < c
          · rw [if_pos hxc, if_pos (Or.inl hxc)]
          · rw [if_neg hxc, if_neg (by omega)]⟩
      refine Or.inl ⟨by omega, ?_⟩
      simp only [m_X6_goRound_L171]
      simp (disch := omega) only [k_0, k_1, k_2, k_3, k_4, k_5, k_6, k_7, k_8, k_9, k_10, k_14, k_16, k_28, k_30, k_48, k_49, k_57, k_100, k_110, k_127, k_128, k_196, k_255, k_1000, k_1024, k_10000, nI_add, nI_mul, nI_div, irm_nI, nle, nlt, neq, gd_t, inb_nI, cl_nI, bnd_eq, gdT, gdo, gb0, gb1, gbi, bi0, bi1, bi0r, Option.bind_some, bndE_some, ite_t, ite_f, k_m9, k_m1, k_13, k_15, k_18, k_19, k_112, k_114, k_115, k_98, k_103, k_116, k_119, k_47, k_82, k_50, k_51, k_99, k_700, k_197, ne9, ne9s, nI_ne0s, ↓reduceIte, z0 hU]
      rw [k1]
      exact ⟨_, rfl, by omega, rfl, k2, k3⟩
    · obtain rfl : c = n := by omega
      refine Or.inr ⟨U, ?_, hO, fun x hx y hy b hb32 => ?_⟩
      · simp only [m_X6_goRound_L171]
        simp (disch := omega) only [k_0, k_1, k_2, k_3, k_4, k_5, k_6, k_7, k_8, k_9, k_10, k_14, k_16, k_28, k_30, k_48, k_49, k_57, k_100, k_110, k_127, k_128, k_196, k_255, k_1000, k_1024, k_10000, nI_add, nI_mul, nI_div, irm_nI, nle, nlt, neq, gd_t, inb_nI, cl_nI, bnd_eq, gdT, gdo, gb0, gb1, gbi, bi0, bi1, bi0r, Option.bind_some, bndE_some, ite_t, ite_f, k_m9, k_m1, k_13, k_15, k_18, k_19, k_112, k_114, k_115, k_98, k_103, k_116, k_119, k_47, k_82, k_50, k_51, k_99, k_700, k_197, ne9, ne9s, nI_ne0s, ↓reduceIte, z0 hU]
      · rw [hb x hx y hy b hb32]
        by_cases hxc : x < c
        · rw [if_pos hxc]
        · rw [if_neg hxc]
          cases h1 : T x b y
          · cases h2 : stp A T x b y
            · rfl
            · exact absurd (stp_WF hT _ _ _ h2).1 hxc
          · exact absurd (hT _ _ _ h1).1 hxc) (x := (nI 0, S1)) ⟨by omega, rfl, OnA.rf _ _, fun x hx y hy b hb32 => by rw [if_neg (by omega)]; exact he1 x hx y hy b hb32⟩
  refine ⟨S2, ?_, ⟨fun a b q => (g2.1 a b).trans (e2.1 a b), fun a b q1 q2 q3 q4 => (g2.2.1 a b q1).trans (e2.2.1 a b q2 q3 q4), fun a b => (g2.2.2.1 a b).trans (e2.2.2.1 a b), fun b => (g2.2.2.2 b).trans (e2.2.2.2.1 b)⟩, ((g2.1 _ _).trans (e2.1 _ _)).trans hr0, g3, fun x hx k hk y hy => ?_⟩
  · simp (disch := omega) only [k_0, k_1, k_2, k_3, k_4, k_5, k_6, k_7, k_8, k_9, k_10, k_14, k_16, k_28, k_30, k_48, k_49, k_57, k_100, k_110, k_127, k_128, k_196, k_255, k_1000, k_1024, k_10000, nI_add, nI_mul, nI_div, irm_nI, nle, nlt, neq, gd_t, inb_nI, cl_nI, bnd_eq, gdT, gdo, gb0, gb1, gbi, bi0, bi1, bi0r, Option.bind_some, bndE_some, ite_t, ite_f, k_m9, k_m1, k_13, k_15, k_18, k_19, k_112, k_114, k_115, k_98, k_103, k_116, k_119, k_47, k_82, k_50, k_51, k_99, k_700, k_197, ne9, ne9s, nI_ne0s, ↓reduceIte]
    rw [e1]
    simp (disch := omega) only [k_0, k_1, k_2, k_3, k_4, k_5, k_6, k_7, k_8, k_9, k_10, k_14, k_16, k_28, k_30, k_48, k_49, k_57, k_100, k_110, k_127, k_128, k_196, k_255, k_1000, k_1024, k_10000, nI_add, nI_mul, nI_div, irm_nI, nle, nlt, neq, gd_t, inb_nI, cl_nI, bnd_eq, gdT, gdo, gb0, gb1, gbi, bi0, bi1, bi0r, Option.bind_some, bndE_some, ite_t, ite_f, k_m9, k_m1, k_13, k_15, k_18, k_19, k_112, k_114, k_115, k_98, k_103, k_116, k_119, k_47, k_82, k_50, k_51, k_99, k_700, k_197, ne9, ne9s, nI_ne0s, ↓reduceIte]
    rw [g1]
    have hf : f1 = bi (B (¬ Sub (stp A T) T)) := by
      rw [e2.2.2.2.2.1]
      congr 2
      apply propext
      constructor
      · rintro ⟨x, k, y, -, q⟩ hs
        obtain ⟨q1, q2⟩ := nwb_iff.mp q
        rw [hs x k y (stp_iff.mpr (Or.inr q2))] at q1; cases q1
      · intro hs
        refine Classical.byContradiction fun q => hs fun x k y q1 => ?_
        cases ht : T x k y
        · rcases stp_iff.mp q1 with q2 | q2
          · rw [ht] at q2; cases q2
          · have hb := nw_WF hT q2
            exact absurd ⟨x, k, y, Or.inl hb.1, nwb_iff.mpr ⟨ht, q2⟩⟩ q
        · rfl
    rw [hf]
    simp (disch := omega) only [k_0, k_1, k_2, k_3, k_4, k_5, k_6, k_7, k_8, k_9, k_10, k_14, k_16, k_28, k_30, k_48, k_49, k_57, k_100, k_110, k_127, k_128, k_196, k_255, k_1000, k_1024, k_10000, nI_add, nI_mul, nI_div, irm_nI, nle, nlt, neq, gd_t, inb_nI, cl_nI, bnd_eq, gdT, gdo, gb0, gb1, gbi, bi0, bi1, bi0r, Option.bind_some, bndE_some, ite_t, ite_f, k_m9, k_m1, k_13, k_15, k_18, k_19, k_112, k_114, k_115, k_98, k_103, k_116, k_119, k_47, k_82, k_50, k_51, k_99, k_700, k_197, ne9, ne9s, nI_ne0s, ↓reduceIte]
  · rw [g2.2.1 22 _ (by omega), g2.2.1 23 _ (by omega)]
    have h6 := e2.2.2.2.2.2 x hx k hk y hy
    refine ⟨fun q => h6.1 ⟨Or.inl (nwb_WF hT q).1, q⟩, fun q => h6.2 fun q2 => by rw [q] at q2; exact absurd q2.2 (by decide)⟩
/-- the round told of a right: 0 where it is at first or never comes -/
noncomputable def frm (A : Nat → Bool) (Z : Rt) (x k y : Nat) : Nat := if fr A Z x k y = 197 then 0 else fr A Z x k y
/-- the spread, in the model's arrays -/
def Spr (S : Hs) (n : Nat) (A : Nat → Bool) (Z : Rt) : Prop := gI S 13 13 = nI (nr A Z) ∧ EndR S (Clo A Z) ∧ ∀ x, x < 7 → ∀ k, k < 4 → ∀ y, y < 7 → gA S 22 (4 * (7 * x + y) + k) = nI (frm A Z x k y) ∧ gA S 23 (4 * (7 * x + y) + k) = wy n A Z x k y
theorem Spr.keep {S S' : Hs} {A : Nat → Bool} {Z : Rt} (h : Spr S n A Z) (h1 : gI S' 13 13 = gI S 13 13) (h2 : ∀ a b, a = 20 ∨ a = 22 ∨ a = 23 → gA S' a b = gA S a b) : Spr S' n A Z := ⟨h1.trans h.1, h.2.1.keep fun j => h2 _ _ (Or.inl rfl), fun x hx k hk y hy => by rw [h2 22 _ (by omega), h2 23 _ (by omega)]; exact h.2.2 x hx k hk y hy⟩
theorem sp_init1 {S : Hs} {A : Nat → Bool} (h : RepM S 14 0 n K Z) : ∃ S', loopO (fun x => m_X6_spread_L7 w x.1 x.2) (nI 0, S) = some S' ∧ OnA 20 S S' ∧ EndR S' Z := by
  obtain ⟨T, h1, h2, h3⟩ := copy_loop (f := fun x : Int32 × Hs => m_X6_spread_L7 w x.1 x.2) (S := S) (c := 20) (p := 0) (a := 14) (s := 8) (N := 49) (by omega) (Or.inl (by omega)) (fun k T hk _ => by
    simp only [m_X6_spread_L7]
    simp (disch := omega) only [k_0, k_1, k_2, k_3, k_4, k_5, k_6, k_7, k_8, k_9, k_10, k_14, k_16, k_28, k_30, k_48, k_49, k_57, k_100, k_110, k_127, k_128, k_196, k_255, k_1000, k_1024, k_10000, nI_add, nI_mul, nI_div, irm_nI, nle, nlt, neq, gd_t, inb_nI, cl_nI, bnd_eq, gdT, gdo, gb0, gb1, gbi, bi0, bi1, bi0r, Option.bind_some, bndE_some, ite_t, ite_f, k_m9, k_m1, k_13, k_15, k_18, k_19, k_112, k_114, k_115, k_98, k_103, k_116, k_119, k_47, k_82, k_50, k_51, k_99, k_700, k_197, ne9, ne9s, nI_ne0s, ↓reduceIte]
    rw [Nat.zero_add]) (fun T _ => by
    simp only [m_X6_spread_L7]
    simp (disch := omega) only [k_0, k_1, k_2, k_3, k_4, k_5, k_6, k_7, k_8, k_9, k_10, k_14, k_16, k_28, k_30, k_48, k_49, k_57, k_100, k_110, k_127, k_128, k_196, k_255, k_1000, k_1024, k_10000, nI_add, nI_mul, nI_div, irm_nI, nle, nlt, neq, gd_t, inb_nI, cl_nI, bnd_eq, gdT, gdo, gb0, gb1, gbi, bi0, bi1, bi0r, Option.bind_some, bndE_some, ite_t, ite_f, k_m9, k_m1, k_13, k_15, k_18, k_19, k_112, k_114, k_115, k_98, k_103, k_116, k_119, k_47, k_82, k_50, k_51, k_99, k_700, k_197, ne9, ne9s, nI_ne0s, ↓reduceIte])
  refine ⟨T, h1, h2, fun x hx y hy b hb => ?_⟩
  rw [h3, if_pos ⟨by omega, by omega⟩, Nat.sub_zero]
  have := h.2.2.2.2.2 x hx y hy b hb
  rwa [Nat.zero_add] at this
theorem sp_init2 {S : Hs} : ∃ S', loopO (fun x => m_X6_spread_L36 w x.1 x.2) (nI 0, S) = some S' ∧ (∀ a b, gI S' a b = gI S a b) ∧ (∀ a b, a ≠ 22 → a ≠ 23 → gA S' a b = gA S a b) ∧ (∀ a b, gQ S' a b = gQ S a b) ∧ (∀ b, gO S' b = gO S b) ∧ ∀ j, j < 196 → gA S' 22 j = nI 0 ∧ gA S' 23 j = m9 := by
  obtain ⟨T, h1, h2⟩ := loopO_inv (f := fun x : Int32 × Hs => m_X6_spread_L36 w x.1 x.2) (fun c q => c ≤ 196 ∧ q.1 = nI c ∧ (∀ a b, gI q.2 a b = gI S a b) ∧ (∀ a b, a ≠ 22 → a ≠ 23 → gA q.2 a b = gA S a b) ∧ (∀ a b, gQ q.2 a b = gQ S a b) ∧ (∀ b, gO q.2 b = gO S b) ∧ ∀ j, j < c → gA q.2 22 j = nI 0 ∧ gA q.2 23 j = m9) (fun S' => (∀ a b, gI S' a b = gI S a b) ∧ (∀ a b, a ≠ 22 → a ≠ 23 → gA S' a b = gA S a b) ∧ (∀ a b, gQ S' a b = gQ S a b) ∧ (∀ b, gO S' b = gO S b) ∧ ∀ j, j < 196 → gA S' 22 j = nI 0 ∧ gA S' 23 j = m9) 196 (fun c q hq => by
    obtain ⟨v, U⟩ := q
    obtain ⟨hc, hv, a1, a2, a3, a4, a5⟩ := hq
    simp only at hv a1 a2 a3 a4 a5
    subst hv
    by_cases hc2 : c < 196
    · refine Or.inl ⟨hc2, ?_⟩
      simp only [m_X6_spread_L36]
      simp (disch := omega) only [k_0, k_1, k_2, k_3, k_4, k_5, k_6, k_7, k_8, k_9, k_10, k_14, k_16, k_28, k_30, k_48, k_49, k_57, k_100, k_110, k_127, k_128, k_196, k_255, k_1000, k_1024, k_10000, nI_add, nI_mul, nI_div, irm_nI, nle, nlt, neq, gd_t, inb_nI, cl_nI, bnd_eq, gdT, gdo, gb0, gb1, gbi, bi0, bi1, bi0r, Option.bind_some, bndE_some, ite_t, ite_f, k_m9, k_m1, k_13, k_15, k_18, k_19, k_112, k_114, k_115, k_98, k_103, k_116, k_119, k_47, k_82, k_50, k_51, k_99, k_700, k_197, ne9, ne9s, nI_ne0s, ↓reduceIte]
      refine ⟨_, rfl, by omega, rfl, a1, fun a b q1 q2 => ?_, a3, a4, fun j hj => ?_⟩
      · simp only [gA_sA, if_neg q1, if_neg q2]
        exact a2 a b q1 q2
      · simp only [gA_sA, show (22 : Nat) = 23 ↔ False by decide, if_false, if_true]
        by_cases hjc : j = c
        · simp [hjc, gA_sA]
        · rw [if_neg hjc, if_neg hjc]
          simp only [gA_sA, show (23 : Nat) = 22 ↔ False by decide, if_false]
          exact a5 j (by omega)
    · obtain rfl : c = 196 := by omega
      refine Or.inr ⟨U, ?_, a1, a2, a3, a4, a5⟩
      simp only [m_X6_spread_L36]
      simp (disch := omega) only [k_0, k_1, k_2, k_3, k_4, k_5, k_6, k_7, k_8, k_9, k_10, k_14, k_16, k_28, k_30, k_48, k_49, k_57, k_100, k_110, k_127, k_128, k_196, k_255, k_1000, k_1024, k_10000, nI_add, nI_mul, nI_div, irm_nI, nle, nlt, neq, gd_t, inb_nI, cl_nI, bnd_eq, gdT, gdo, gb0, gb1, gbi, bi0, bi1, bi0r, Option.bind_some, bndE_some, ite_t, ite_f, k_m9, k_m1, k_13, k_15, k_18, k_19, k_112, k_114, k_115, k_98, k_103, k_116, k_119, k_47, k_82, k_50, k_51, k_99, k_700, k_197, ne9, ne9s, nI_ne0s, ↓reduceIte]) (x := (nI 0, S)) ⟨by omega, rfl, fun _ _ => rfl, fun _ _ _ _ => rfl, fun _ _ => rfl, fun _ => rfl, fun j hj => by omega⟩
  exact ⟨T, h1, h2⟩
theorem spread_ok (h : RepM S 14 0 n K Z) (hA : ∀ j, j < 32 → bt w j = A j) : ∃ S', m_X6_spread w S = some S' ∧ Scr S S' ∧ Spr S' n A Z := by
  have hn := h.1
  have hw := h.2.1
  unfold m_X6_spread
  simp (disch := omega) only [k_0, k_1, k_2, k_3, k_4, k_5, k_6, k_7, k_8, k_9, k_10, k_14, k_16, k_28, k_30, k_48, k_49, k_57, k_100, k_110, k_127, k_128, k_196, k_255, k_1000, k_1024, k_10000, nI_add, nI_mul, nI_div, irm_nI, nle, nlt, neq, gd_t, inb_nI, cl_nI, bnd_eq, gdT, gdo, gb0, gb1, gbi, bi0, bi1, bi0r, Option.bind_some, bndE_some, ite_t, ite_f, k_m9, k_m1, k_13, k_15, k_18, k_19, k_112, k_114, k_115, k_98, k_103, k_116, k_119, k_47, k_82, k_50, k_51, k_99, k_700, k_197, ne9, ne9s, nI_ne0s, ↓reduceIte]
  obtain ⟨S1, e1, e2, e3⟩ := sp_init1 (w := w) (S := sI S 13 13 (nI 0)) (A := A) (h.keep fun _ => rfl)
  rw [e1]
  obtain ⟨S2, f1, f2, f3, f4, f5, f6⟩ := sp_init2 (w := w) (S := S1)
  simp (disch := omega) only [k_0, k_1, k_2, k_3, k_4, k_5, k_6, k_7, k_8, k_9, k_10, k_14, k_16, k_28, k_30, k_48, k_49, k_57, k_100, k_110, k_127, k_128, k_196, k_255, k_1000, k_1024, k_10000, nI_add, nI_mul, nI_div, irm_nI, nle, nlt, neq, gd_t, inb_nI, cl_nI, bnd_eq, gdT, gdo, gb0, gb1, gbi, bi0, bi1, bi0r, Option.bind_some, bndE_some, ite_t, ite_f, k_m9, k_m1, k_13, k_15, k_18, k_19, k_112, k_114, k_115, k_98, k_103, k_116, k_119, k_47, k_82, k_50, k_51, k_99, k_700, k_197, ne9, ne9s, nI_ne0s, ↓reduceIte]
  rw [f1]
  simp (disch := omega) only [k_0, k_1, k_2, k_3, k_4, k_5, k_6, k_7, k_8, k_9, k_10, k_14, k_16, k_28, k_30, k_48, k_49, k_57, k_100, k_110, k_127, k_128, k_196, k_255, k_1000, k_1024, k_10000, nI_add, nI_mul, nI_div, irm_nI, nle, nlt, neq, gd_t, inb_nI, cl_nI, bnd_eq, gdT, gdo, gb0, gb1, gbi, bi0, bi1, bi0r, Option.bind_some, bndE_some, ite_t, ite_f, k_m9, k_m1, k_13, k_15, k_18, k_19, k_112, k_114, k_115, k_98, k_103, k_116, k_119, k_47, k_82, k_50, k_51, k_99, k_700, k_197, ne9, ne9s, nI_ne0s, ↓reduceIte]
  have c0 : Scr S S2 := ⟨fun a b q => by
      rw [f2, e2.1, gI_sI]
      by_cases ha : a = 13
      · rw [if_pos ha, if_neg (fun q2 => q ⟨ha, q2⟩)]
      · rw [if_neg ha], fun a b q1 q2 q3 q4 => by rw [f3 a b q3 q4, e2.2.1 a b q1, gA_sI], fun a b => by rw [f4, e2.2.2.1, gQ_sI], fun b => by rw [f5, e2.2.2.2, gO_sI]⟩
  have r0 : gI S2 13 13 = nI 0 := by rw [f2, e2.1, gI_sI, if_pos rfl, if_pos rfl]
  obtain ⟨S3, g1, g2, g3, g4, g5⟩ := loopO_inv (f := fun q : Hs => m_X6_spread_L64 w q) (fun c q => Scr S q ∧ gI q 13 13 = nI c ∧ (∀ j, j < c → chg A Z j = true) ∧ EndR q (rd A Z c) ∧ ∀ x, x < 7 → ∀ k, k < 4 → ∀ y, y < 7 → gA q 22 (4 * (7 * x + y) + k) = nI (if fr A Z x k y ≤ c then fr A Z x k y else 0) ∧ gA q 23 (4 * (7 * x + y) + k) = (if 0 < fr A Z x k y ∧ fr A Z x k y ≤ c then fway n A (rd A Z (fr A Z x k y - 1)) x k y else m9)) (fun q => Scr S q ∧ Spr q n A Z) 196 (fun c q hq => by
    obtain ⟨a1, a2, a3, a4, a5⟩ := hq
    have hc := chg_end hw hn a3
    have hU := a1.rep h (by omega) (by omega) (by omega) (by omega)
    obtain ⟨U, k1, k2, k3, k4, k5⟩ := goRound_ok hU a4 (rd_WF hw c) hA (show c < 100000 by omega) a2
    have hnew : ∀ x k y, nwb A (rd A Z c) x k y = true ↔ fr A Z x k y = c + 1 := fun x k y => by
      rw [nwb_iff]
      constructor
      · rintro ⟨q1, q2⟩
        exact fr_new (by omega) (stp_iff.mpr (Or.inr q2)) q1
      · intro q
        have q1 : rd A Z (c + 1) x k y = true := (fr_le (by omega)).mp (by omega)
        have q2 : rd A Z c x k y = false := by
          cases hz : rd A Z c x k y
          · rfl
          · have := (fr_le (A := A) (Z := Z) (x := x) (k := k) (y := y) (show c < 197 by omega)).mpr hz
            omega
        refine ⟨q2, ?_⟩
        rcases stp_iff.mp q1 with q3 | q3
        · rw [q2] at q3; cases q3
        · exact q3
    have hcell : ∀ x, x < 7 → ∀ k, k < 4 → ∀ y, y < 7 → gA U 22 (4 * (7 * x + y) + k) = nI (if fr A Z x k y ≤ c + 1 then fr A Z x k y else 0) ∧ gA U 23 (4 * (7 * x + y) + k) = (if 0 < fr A Z x k y ∧ fr A Z x k y ≤ c + 1 then fway n A (rd A Z (fr A Z x k y - 1)) x k y else m9) := fun x hx k hk y hy => by
      by_cases hq : fr A Z x k y = c + 1
      · obtain ⟨b1, b2⟩ := (k5 x hx k hk y hy).1 ((hnew x k y).mpr hq)
        rw [b1, b2, hq, if_pos (by omega), if_pos ⟨by omega, by omega⟩]
        exact ⟨rfl, rfl⟩
      · have hq2 : nwb A (rd A Z c) x k y = false := by
          cases hz : nwb A (rd A Z c) x k y
          · rfl
          · exact absurd ((hnew x k y).mp hz) hq
        obtain ⟨b1, b2⟩ := (k5 x hx k hk y hy).2 hq2
        obtain ⟨b3, b4⟩ := a5 x hx k hk y hy
        rw [b1, b2, b3, b4, ite_cg (show fr A Z x k y ≤ c + 1 ↔ fr A Z x k y ≤ c by omega), ite_cg (show (0 < fr A Z x k y ∧ fr A Z x k y ≤ c + 1) ↔ (0 < fr A Z x k y ∧ fr A Z x k y ≤ c) by omega)]
        exact ⟨rfl, rfl⟩
    have hS : Scr S U := a1.tr k2
    cases hch : chg A Z c
    · refine Or.inr ⟨U, ?_, hS, ?_⟩
      · simp only [m_X6_spread_L64]
        rw [k1]
        have : B (¬ Sub (stp A (rd A Z c)) (rd A Z c)) = false := hch
        simp (disch := omega) only [k_0, k_1, k_2, k_3, k_4, k_5, k_6, k_7, k_8, k_9, k_10, k_14, k_16, k_28, k_30, k_48, k_49, k_57, k_100, k_110, k_127, k_128, k_196, k_255, k_1000, k_1024, k_10000, nI_add, nI_mul, nI_div, irm_nI, nle, nlt, neq, gd_t, inb_nI, cl_nI, bnd_eq, gdT, gdo, gb0, gb1, gbi, bi0, bi1, bi0r, Option.bind_some, bndE_some, ite_t, ite_f, k_m9, k_m1, k_13, k_15, k_18, k_19, k_112, k_114, k_115, k_98, k_103, k_116, k_119, k_47, k_82, k_50, k_51, k_99, k_700, k_197, ne9, ne9s, nI_ne0s, ↓reduceIte, this]
      · have hend := chg_no hch
        have hend1 : stp A (rd A Z c) = Clo A Z := chg_no (i := c + 1) (chg_stays hch (by omega))
        have hnr : nr A Z = c := nr_eq (by omega) a3 hch
        refine ⟨by rw [hnr]; exact k3, by rw [← hend1]; exact k4, fun x hx k hk y hy => ?_⟩
        obtain ⟨b1, b2⟩ := hcell x hx k hk y hy
        have hfr : fr A Z x k y ≤ c ∨ fr A Z x k y = 197 := by
          by_cases hq : Clo A Z x k y = true
          · rw [← hend] at hq
            exact Or.inl ((fr_le (by omega)).mpr hq)
          · right
            refine Classical.byContradiction fun q => hq ((fr_comes hw hn).mp q)
        rw [b1, b2]
        unfold frm wy
        rcases hfr with hfr | hfr
        · refine ⟨by rw [if_pos (show fr A Z x k y ≤ c + 1 by omega), if_neg (show ¬ fr A Z x k y = 197 by omega)], ?_⟩
          by_cases h0 : fr A Z x k y = 0
          · rw [if_neg (by omega), if_pos (Or.inl h0)]
            rfl
          · rw [if_pos ⟨by omega, by omega⟩, if_neg (by omega)]
        · exact ⟨by rw [if_neg (show ¬ fr A Z x k y ≤ c + 1 by omega), if_pos hfr], by rw [if_neg (show ¬ (0 < fr A Z x k y ∧ fr A Z x k y ≤ c + 1) by omega), if_pos (Or.inr hfr)]; rfl⟩
    · refine Or.inl ⟨hc, ?_⟩
      simp only [m_X6_spread_L64]
      rw [k1]
      have : B (¬ Sub (stp A (rd A Z c)) (rd A Z c)) = true := hch
      simp (disch := omega) only [k_0, k_1, k_2, k_3, k_4, k_5, k_6, k_7, k_8, k_9, k_10, k_14, k_16, k_28, k_30, k_48, k_49, k_57, k_100, k_110, k_127, k_128, k_196, k_255, k_1000, k_1024, k_10000, nI_add, nI_mul, nI_div, irm_nI, nle, nlt, neq, gd_t, inb_nI, cl_nI, bnd_eq, gdT, gdo, gb0, gb1, gbi, bi0, bi1, bi0r, Option.bind_some, bndE_some, ite_t, ite_f, k_m9, k_m1, k_13, k_15, k_18, k_19, k_112, k_114, k_115, k_98, k_103, k_116, k_119, k_47, k_82, k_50, k_51, k_99, k_700, k_197, ne9, ne9s, nI_ne0s, ↓reduceIte, this, k3]
      refine ⟨_, rfl, ⟨fun a b q => ?_, hS.2.1, hS.2.2.1, hS.2.2.2⟩, by rw [gI_sI, if_pos rfl, if_pos rfl], fun j hj => ?_, k4, hcell⟩
      · rw [gI_sI]
        by_cases ha : a = 13
        · rw [if_pos ha, if_neg (fun q2 => q ⟨ha, q2⟩)]
          exact hS.1 a b q
        · rw [if_neg ha]
          exact hS.1 a b q
      · by_cases hjc : j = c
        · rw [hjc]; exact hch
        · exact a3 j (by omega)) (x := S2) ⟨c0, r0, fun j hj => by omega, e3.keep fun j => f3 _ _ (by omega) (by omega), fun x hx k hk y hy => by
      obtain ⟨b1, b2⟩ := f6 (4 * (7 * x + y) + k) (by omega)
      rw [b1, b2]
      refine ⟨?_, by rw [if_neg (show ¬ (0 < fr A Z x k y ∧ fr A Z x k y ≤ 0) by omega)]⟩
      by_cases h0 : fr A Z x k y ≤ 0
      · rw [if_pos h0, show fr A Z x k y = 0 by omega]
      · rw [if_neg h0]⟩
  exact ⟨S3, by rw [g1]; rfl, g2, g3, g4, g5⟩
theorem endMany_ok (h : EndR S T) : m_X6_endMany S = some (nI (cnt T)) := by
  unfold m_X6_endMany
  have hl := loopO_seq (f := fun x : Int32 × Int32 => m_X6_endMany_L4 S x.1 x.2) (w := fun k => (nI (fb_sm (fun j => colc T (j / 7) (j % 7)) k), nI k)) 49 (r := nI (cnt T)) (fun k hk => by
    have hc := h (k / 7) (by omega) (k % 7) (by omega)
    rw [show 7 * (k / 7) + k % 7 = k by omega] at hc
    simp only [m_X6_endMany_L4]
    simp (disch := omega) only [k_0, k_1, k_2, k_3, k_4, k_5, k_6, k_7, k_8, k_9, k_10, k_14, k_16, k_28, k_30, k_48, k_49, k_57, k_100, k_110, k_127, k_128, k_196, k_255, k_1000, k_1024, k_10000, nI_add, nI_mul, nI_div, irm_nI, nle, nlt, neq, gd_t, inb_nI, cl_nI, bnd_eq, gdT, gdo, gb0, gb1, gbi, bi0, bi1, bi0r, Option.bind_some, bndE_some, ite_t, ite_f, k_m9, k_m1, k_13, k_15, k_18, k_19, k_112, k_114, k_115, k_98, k_103, k_116, k_119, k_47, k_82, k_50, k_51, k_99, k_700, k_197, ne9, ne9s, nI_ne0s, ↓reduceIte, bits_ok, bits_cell hc, fb_sm_succ]) (by
    simp only [m_X6_endMany_L4]
    simp (disch := omega) only [k_0, k_1, k_2, k_3, k_4, k_5, k_6, k_7, k_8, k_9, k_10, k_14, k_16, k_28, k_30, k_48, k_49, k_57, k_100, k_110, k_127, k_128, k_196, k_255, k_1000, k_1024, k_10000, nI_add, nI_mul, nI_div, irm_nI, nle, nlt, neq, gd_t, inb_nI, cl_nI, bnd_eq, gdT, gdo, gb0, gb1, gbi, bi0, bi1, bi0r, Option.bind_some, bndE_some, ite_t, ite_f, k_m9, k_m1, k_13, k_15, k_18, k_19, k_112, k_114, k_115, k_98, k_103, k_116, k_119, k_47, k_82, k_50, k_51, k_99, k_700, k_197, ne9, ne9s, nI_ne0s, ↓reduceIte, cnt_cells])
  exact congrArg (fun o : Option Int32 => o.bind fun y => some y) hl
