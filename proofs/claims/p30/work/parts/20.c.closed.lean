/-! no step brings anything more at the end -/
theorem sub_zero {w v : Int32} (h : ∀ j, j < 32 → bt w j = true → bt v j = true) : (w &&& (v ^^^ m1) = nI 0) = True := eq_true (b_ext fun i hi => by
  rw [show nI 0 = (0 : Int32) from rfl, b_0, b_and, b_xor, bt_m1 hi]
  cases hw : bt w i
  · rfl
  · rw [h i hi hw]; rfl)
theorem byE_t (Z T : Rt) : byE true Z T = T := rfl
theorem byE_f (Z T : Rt) : byE false Z T = Z := rfl
/-- a right of the end, in the ints of rights -/
theorem rights_sub {Z T : Rt} {w v : Int32} {b : Bool} {a c d : Nat} (hw : ∀ j, j < 32 → bt w j = (decide (j < 4) && byE b Z T a j d)) (hv : ∀ j, j < 32 → bt v j = (decide (j < 4) && byE b Z T c j d)) (h : ∀ k, byE b Z T a k d = true → byE b Z T c k d = true) : (w &&& (v ^^^ m1) = nI 0) = True :=
  sub_zero fun j hj q => by
    rw [hw j hj, Bool.and_eq_true] at q
    rw [hv j hj, q.1, h j q.2]
    rfl
section CL
variable {S : Hs} {n : Nat} {K : Kd} {Z : Rt}
theorem closed85 (h : RepS S 29 n K Z) {p y z : Nat} (hp : p < n) (hA : K p = 1) (hy : y < n) (hz : z < n) (hyp : y ≠ p) (hzp : z ≠ p) (hzy : z ≠ y) : ∃ S1, m_L_isClosed_J85 (nI n) (nI p) (nI y) (nI z) S = some (.inl (nI (z + 1), S1)) ∧ Kp S S1 := by
  have hn := h.1
  obtain ⟨S1, a1, a2⟩ := ends_c h hp (show 1 < 4 by omega) hy (fun e => hyp e.symm)
  have h1 := h.kp a2 (by omega) (by omega)
  unfold m_L_isClosed_J85
  cases hq : Clo (aw n K) Z p 1 y
  · refine ⟨S1, ?_, a2⟩
    simp (disch := omega) only [k_0, k_1, k_2, k_3, k_4, k_5, k_6, k_7, k_8, k_9, k_10, k_14, k_16, k_28, k_30, k_48, k_49, k_57, k_100, k_110, k_127, k_128, k_196, k_255, k_1000, k_1024, k_10000, nI_add, nI_mul, nI_div, irm_nI, nle, nlt, neq, gd_t, inb_nI, cl_nI, bnd_eq, gdT, gdo, gb0, gb1, gbi, bi0, bi1, bi0r, Option.bind_some, bndE_some, ite_t, ite_f, k_m9, k_m1, k_13, k_15, k_18, k_19, k_112, k_114, k_115, k_98, k_103, k_116, k_119, k_47, k_82, k_50, k_51, k_99, k_700, k_197, ne9, ne9s, nI_ne0s, ↓reduceIte, a1, hq, m_L_isClosed_J119]
  · obtain ⟨w, S2, b1, b2, b3⟩ := rights_c h1 hp hz (fun e => hzp e.symm) true
    have h2 := h1.kp b2 (by omega) (by omega)
    obtain ⟨v, S3, c1, c2, c3⟩ := rights_c h2 hy hz (fun e => hzy e.symm) true
    refine ⟨S3, ?_, (a2.tr b2).tr c2⟩
    rw [bi_t] at b1 c1
    have hs := rights_sub b3 c3 fun k q => Clo_cls (aw n K) Z y k z ⟨fun e => hzy e.symm, Or.inr ⟨p, aw_iff.mpr ⟨hp, hA⟩, hq, q⟩⟩
    simp (disch := omega) only [k_0, k_1, k_2, k_3, k_4, k_5, k_6, k_7, k_8, k_9, k_10, k_14, k_16, k_28, k_30, k_48, k_49, k_57, k_100, k_110, k_127, k_128, k_196, k_255, k_1000, k_1024, k_10000, nI_add, nI_mul, nI_div, irm_nI, nle, nlt, neq, gd_t, inb_nI, cl_nI, bnd_eq, gdT, gdo, gb0, gb1, gbi, bi0, bi1, bi0r, Option.bind_some, bndE_some, ite_t, ite_f, k_m9, k_m1, k_13, k_15, k_18, k_19, k_112, k_114, k_115, k_98, k_103, k_116, k_119, k_47, k_82, k_50, k_51, k_99, k_700, k_197, ne9, ne9s, nI_ne0s, ↓reduceIte, a1, hq, Bool.true_eq_false, b1, bndX_l, c1, hs, m_L_isClosed_J119]
theorem closed27 (h : RepS S 29 n K Z) {p y z : Nat} (hp : p < n) (hA : K p = 1) (hy : y < n) (hz : z < n) (hyp : y ≠ p) : ∃ S1, m_L_isClosed_L27 (nI n) (nI p) (nI y) (nI z) S = some (.inl (nI (z + 1), S1)) ∧ Kp S S1 := by
  have hn := h.1
  unfold m_L_isClosed_L27
  have e1 : (n ≤ z) = False := eq_false (by omega)
  have e2 : (y = p) = False := eq_false hyp
  by_cases hzp : z = p
  · refine ⟨S, ?_, Kp.rf S⟩
    simp (disch := omega) only [k_0, k_1, k_2, k_3, k_4, k_5, k_6, k_7, k_8, k_9, k_10, k_14, k_16, k_28, k_30, k_48, k_49, k_57, k_100, k_110, k_127, k_128, k_196, k_255, k_1000, k_1024, k_10000, nI_add, nI_mul, nI_div, irm_nI, nle, nlt, neq, gd_t, inb_nI, cl_nI, bnd_eq, gdT, gdo, gb0, gb1, gbi, bi0, bi1, bi0r, Option.bind_some, bndE_some, ite_t, ite_f, k_m9, k_m1, k_13, k_15, k_18, k_19, k_112, k_114, k_115, k_98, k_103, k_116, k_119, k_47, k_82, k_50, k_51, k_99, k_700, k_197, ne9, ne9s, nI_ne0s, ↓reduceIte, e1, e2, hzp, m_L_isClosed_J119]
  · by_cases hzy : z = y
    · refine ⟨S, ?_, Kp.rf S⟩
      subst hzy
      simp (disch := omega) only [k_0, k_1, k_2, k_3, k_4, k_5, k_6, k_7, k_8, k_9, k_10, k_14, k_16, k_28, k_30, k_48, k_49, k_57, k_100, k_110, k_127, k_128, k_196, k_255, k_1000, k_1024, k_10000, nI_add, nI_mul, nI_div, irm_nI, nle, nlt, neq, gd_t, inb_nI, cl_nI, bnd_eq, gdT, gdo, gb0, gb1, gbi, bi0, bi1, bi0r, Option.bind_some, bndE_some, ite_t, ite_f, k_m9, k_m1, k_13, k_15, k_18, k_19, k_112, k_114, k_115, k_98, k_103, k_116, k_119, k_47, k_82, k_50, k_51, k_99, k_700, k_197, ne9, ne9s, nI_ne0s, ↓reduceIte, e1, e2, m_L_isClosed_J119]
    · obtain ⟨S1, a1, a2⟩ := ends_c h hp (show 0 < 4 by omega) hy (fun e => hyp e.symm)
      have h1 := h.kp a2 (by omega) (by omega)
      cases hq : Clo (aw n K) Z p 0 y
      · obtain ⟨S2, b1, b2⟩ := closed85 h1 hp hA hy hz hyp hzp hzy
        refine ⟨S2, ?_, a2.tr b2⟩
        simp (disch := omega) only [k_0, k_1, k_2, k_3, k_4, k_5, k_6, k_7, k_8, k_9, k_10, k_14, k_16, k_28, k_30, k_48, k_49, k_57, k_100, k_110, k_127, k_128, k_196, k_255, k_1000, k_1024, k_10000, nI_add, nI_mul, nI_div, irm_nI, nle, nlt, neq, gd_t, inb_nI, cl_nI, bnd_eq, gdT, gdo, gb0, gb1, gbi, bi0, bi1, bi0r, Option.bind_some, bndE_some, ite_t, ite_f, k_m9, k_m1, k_13, k_15, k_18, k_19, k_112, k_114, k_115, k_98, k_103, k_116, k_119, k_47, k_82, k_50, k_51, k_99, k_700, k_197, ne9, ne9s, nI_ne0s, ↓reduceIte, e1, e2, hzp, hzy, a1, hq, b1]
      · obtain ⟨w, S2, b1, b2, b3⟩ := rights_c h1 hy hz (fun e => hzy e.symm) true
        have h2 := h1.kp b2 (by omega) (by omega)
        obtain ⟨v, S3, c1, c2, c3⟩ := rights_c h2 hp hz (fun e => hzp e.symm) true
        have h3 := h2.kp c2 (by omega) (by omega)
        obtain ⟨S4, d1, d2⟩ := closed85 h3 hp hA hy hz hyp hzp hzy
        refine ⟨S4, ?_, ((a2.tr b2).tr c2).tr d2⟩
        rw [bi_t] at b1 c1
        have hs := rights_sub b3 c3 fun k q => Clo_cls (aw n K) Z p k z ⟨fun e => hzp e.symm, Or.inl ⟨aw_iff.mpr ⟨hp, hA⟩, y, hq, q⟩⟩
        simp (disch := omega) only [k_0, k_1, k_2, k_3, k_4, k_5, k_6, k_7, k_8, k_9, k_10, k_14, k_16, k_28, k_30, k_48, k_49, k_57, k_100, k_110, k_127, k_128, k_196, k_255, k_1000, k_1024, k_10000, nI_add, nI_mul, nI_div, irm_nI, nle, nlt, neq, gd_t, inb_nI, cl_nI, bnd_eq, gdT, gdo, gb0, gb1, gbi, bi0, bi1, bi0r, Option.bind_some, bndE_some, ite_t, ite_f, k_m9, k_m1, k_13, k_15, k_18, k_19, k_112, k_114, k_115, k_98, k_103, k_116, k_119, k_47, k_82, k_50, k_51, k_99, k_700, k_197, ne9, ne9s, nI_ne0s, ↓reduceIte, e1, e2, hzp, hzy, a1, hq, Bool.true_eq_false, b1, bndX_l, c1, hs, d1]
/-- a loop over the things whose turns leave the state -/
theorem loop_kp {ρ : Type} {f : Int32 × Hs → Option ((Int32 × Hs) ⊕ ρ)} {N : Nat} (E : ρ → Prop) (h : RepS S 29 n K Z) (hs : ∀ k U, k < N → RepS U 29 n K Z → ∃ U', f (nI k, U) = some (.inl (nI (k + 1), U')) ∧ Kp U U') (hr : ∀ U, RepS U 29 n K Z → Kp S U → ∃ r, f (nI N, U) = some (.inr r) ∧ E r) : ∃ r, loopO f (nI 0, S) = some r ∧ E r := by
  refine loopO_inv (f := f) (fun k x => k ≤ N ∧ x.1 = nI k ∧ Kp S x.2) E N (fun k x hx => ?_) (x := (nI 0, S)) ⟨Nat.zero_le _, rfl, Kp.rf S⟩
  obtain ⟨v, U⟩ := x
  obtain ⟨hk, hv, hU⟩ := hx
  simp only at hv hU
  subst hv
  have hUr := h.kp hU (by omega) (by omega)
  by_cases hlt : k < N
  · obtain ⟨U', b1, b2⟩ := hs k U hlt hUr
    exact Or.inl ⟨hlt, _, b1, by omega, rfl, hU.tr b2⟩
  · obtain rfl : k = N := by omega
    exact Or.inr (hr U hUr hU)
theorem closed9 (h : RepS S 29 n K Z) {p y : Nat} (hp : p < n) (hA : K p = 1) (hy : y < n) : ∃ S1, m_L_isClosed_L9 (nI n) (nI p) (nI y) S = some (.inl (nI (y + 1), S1)) ∧ Kp S S1 := by
  have hn := h.1
  obtain ⟨S1, a1, a2⟩ := thing_class h hp (show 1 < 7 by omega)
  have hv : thv n K Z p 1 = nI 1 := by
    unfold thv
    rw [if_neg (by omega), if_pos rfl, decide_eq_true hA]
    rfl
  rw [hv] at a1
  have h1 := h.kp a2 (by omega) (by omega)
  have e1 : (n ≤ y) = False := eq_false (by omega)
  by_cases hyp : y = p
  · have hl : loopO (fun x : Int32 × Hs => m_L_isClosed_L27 (nI n) (nI p) (nI y) x.1 x.2) (nI 0, S1) = some (.inl S1) := by
      rw [loopO_eq]
      have : m_L_isClosed_L27 (nI n) (nI p) (nI y) (nI 0) S1 = some (.inr (.inl S1)) := by
        unfold m_L_isClosed_L27
        by_cases h0 : n ≤ 0
        · omega
        · subst hyp
          simp (disch := omega) only [k_0, k_1, k_2, k_3, k_4, k_5, k_6, k_7, k_8, k_9, k_10, k_14, k_16, k_28, k_30, k_48, k_49, k_57, k_100, k_110, k_127, k_128, k_196, k_255, k_1000, k_1024, k_10000, nI_add, nI_mul, nI_div, irm_nI, nle, nlt, neq, gd_t, inb_nI, cl_nI, bnd_eq, gdT, gdo, gb0, gb1, gbi, bi0, bi1, bi0r, Option.bind_some, bndE_some, ite_t, ite_f, k_m9, k_m1, k_13, k_15, k_18, k_19, k_112, k_114, k_115, k_98, k_103, k_116, k_119, k_47, k_82, k_50, k_51, k_99, k_700, k_197, ne9, ne9s, nI_ne0s, ↓reduceIte, h0]
      simp only [this]
    refine ⟨S1, ?_, a2⟩
    unfold m_L_isClosed_L9
    simp (disch := omega) only [k_0, k_1, k_2, k_3, k_4, k_5, k_6, k_7, k_8, k_9, k_10, k_14, k_16, k_28, k_30, k_48, k_49, k_57, k_100, k_110, k_127, k_128, k_196, k_255, k_1000, k_1024, k_10000, nI_add, nI_mul, nI_div, irm_nI, nle, nlt, neq, gd_t, inb_nI, cl_nI, bnd_eq, gdT, gdo, gb0, gb1, gbi, bi0, bi1, bi0r, Option.bind_some, bndE_some, ite_t, ite_f, k_m9, k_m1, k_13, k_15, k_18, k_19, k_112, k_114, k_115, k_98, k_103, k_116, k_119, k_47, k_82, k_50, k_51, k_99, k_700, k_197, ne9, ne9s, nI_ne0s, ↓reduceIte, e1, a1, bndX_l]
    rw [hl]
    simp only [Option.bind_some, Sum.elim_inl, m_L_isClosed_J125, m_L_isClosed_J131]
    simp (disch := omega) only [k_0, k_1, k_2, k_3, k_4, k_5, k_6, k_7, k_8, k_9, k_10, k_14, k_16, k_28, k_30, k_48, k_49, k_57, k_100, k_110, k_127, k_128, k_196, k_255, k_1000, k_1024, k_10000, nI_add, nI_mul, nI_div, irm_nI, nle, nlt, neq, gd_t, inb_nI, cl_nI, bnd_eq, gdT, gdo, gb0, gb1, gbi, bi0, bi1, bi0r, Option.bind_some, bndE_some, ite_t, ite_f, k_m9, k_m1, k_13, k_15, k_18, k_19, k_112, k_114, k_115, k_98, k_103, k_116, k_119, k_47, k_82, k_50, k_51, k_99, k_700, k_197, ne9, ne9s, nI_ne0s, ↓reduceIte]
  · obtain ⟨r, l1, l2⟩ := loop_kp (f := fun x : Int32 × Hs => m_L_isClosed_L27 (nI n) (nI p) (nI y) x.1 x.2) (N := n) (fun r => ∃ U, r = .inl U ∧ Kp S1 U) h1 (fun k U hk hU => closed27 hU hp hA hy hk hyp) (fun U _ hU => ⟨.inl U, by
      simp only [m_L_isClosed_L27]
      simp (disch := omega) only [k_0, k_1, k_2, k_3, k_4, k_5, k_6, k_7, k_8, k_9, k_10, k_14, k_16, k_28, k_30, k_48, k_49, k_57, k_100, k_110, k_127, k_128, k_196, k_255, k_1000, k_1024, k_10000, nI_add, nI_mul, nI_div, irm_nI, nle, nlt, neq, gd_t, inb_nI, cl_nI, bnd_eq, gdT, gdo, gb0, gb1, gbi, bi0, bi1, bi0r, Option.bind_some, bndE_some, ite_t, ite_f, k_m9, k_m1, k_13, k_15, k_18, k_19, k_112, k_114, k_115, k_98, k_103, k_116, k_119, k_47, k_82, k_50, k_51, k_99, k_700, k_197, ne9, ne9s, nI_ne0s, ↓reduceIte], U, rfl, hU⟩)
    obtain ⟨U, rfl, hU⟩ := l2
    refine ⟨U, ?_, a2.tr hU⟩
    unfold m_L_isClosed_L9
    simp (disch := omega) only [k_0, k_1, k_2, k_3, k_4, k_5, k_6, k_7, k_8, k_9, k_10, k_14, k_16, k_28, k_30, k_48, k_49, k_57, k_100, k_110, k_127, k_128, k_196, k_255, k_1000, k_1024, k_10000, nI_add, nI_mul, nI_div, irm_nI, nle, nlt, neq, gd_t, inb_nI, cl_nI, bnd_eq, gdT, gdo, gb0, gb1, gbi, bi0, bi1, bi0r, Option.bind_some, bndE_some, ite_t, ite_f, k_m9, k_m1, k_13, k_15, k_18, k_19, k_112, k_114, k_115, k_98, k_103, k_116, k_119, k_47, k_82, k_50, k_51, k_99, k_700, k_197, ne9, ne9s, nI_ne0s, ↓reduceIte, e1, a1, bndX_l]
    rw [l1]
    simp only [Option.bind_some, Sum.elim_inl, m_L_isClosed_J125, m_L_isClosed_J131]
    simp (disch := omega) only [k_0, k_1, k_2, k_3, k_4, k_5, k_6, k_7, k_8, k_9, k_10, k_14, k_16, k_28, k_30, k_48, k_49, k_57, k_100, k_110, k_127, k_128, k_196, k_255, k_1000, k_1024, k_10000, nI_add, nI_mul, nI_div, irm_nI, nle, nlt, neq, gd_t, inb_nI, cl_nI, bnd_eq, gdT, gdo, gb0, gb1, gbi, bi0, bi1, bi0r, Option.bind_some, bndE_some, ite_t, ite_f, k_m9, k_m1, k_13, k_15, k_18, k_19, k_112, k_114, k_115, k_98, k_103, k_116, k_119, k_47, k_82, k_50, k_51, k_99, k_700, k_197, ne9, ne9s, nI_ne0s, ↓reduceIte]
theorem closed2 (h : RepS S 29 n K Z) {p : Nat} (hp : p < n) : ∃ S1, m_L_isClosed_L2 (nI n) (nI p) S = some (.inl (nI (p + 1), S1)) ∧ Kp S S1 := by
  have hn := h.1
  have e1 : (n ≤ p) = False := eq_false (by omega)
  by_cases hA : K p = 1
  · obtain ⟨r, l1, l2⟩ := loop_kp (f := fun x : Int32 × Hs => m_L_isClosed_L9 (nI n) (nI p) x.1 x.2) (N := n) (fun r => ∃ U, r = .inl U ∧ Kp S U) h (fun k U hk hU => closed9 hU hp hA hk) (fun U _ hU => ⟨.inl U, by
      simp only [m_L_isClosed_L9]
      simp (disch := omega) only [k_0, k_1, k_2, k_3, k_4, k_5, k_6, k_7, k_8, k_9, k_10, k_14, k_16, k_28, k_30, k_48, k_49, k_57, k_100, k_110, k_127, k_128, k_196, k_255, k_1000, k_1024, k_10000, nI_add, nI_mul, nI_div, irm_nI, nle, nlt, neq, gd_t, inb_nI, cl_nI, bnd_eq, gdT, gdo, gb0, gb1, gbi, bi0, bi1, bi0r, Option.bind_some, bndE_some, ite_t, ite_f, k_m9, k_m1, k_13, k_15, k_18, k_19, k_112, k_114, k_115, k_98, k_103, k_116, k_119, k_47, k_82, k_50, k_51, k_99, k_700, k_197, ne9, ne9s, nI_ne0s, ↓reduceIte], U, rfl, hU⟩)
    obtain ⟨U, rfl, hU⟩ := l2
    refine ⟨U, ?_, hU⟩
    unfold m_L_isClosed_L2
    simp (disch := omega) only [k_0, k_1, k_2, k_3, k_4, k_5, k_6, k_7, k_8, k_9, k_10, k_14, k_16, k_28, k_30, k_48, k_49, k_57, k_100, k_110, k_127, k_128, k_196, k_255, k_1000, k_1024, k_10000, nI_add, nI_mul, nI_div, irm_nI, nle, nlt, neq, gd_t, inb_nI, cl_nI, bnd_eq, gdT, gdo, gb0, gb1, gbi, bi0, bi1, bi0r, Option.bind_some, bndE_some, ite_t, ite_f, k_m9, k_m1, k_13, k_15, k_18, k_19, k_112, k_114, k_115, k_98, k_103, k_116, k_119, k_47, k_82, k_50, k_51, k_99, k_700, k_197, ne9, ne9s, nI_ne0s, ↓reduceIte, e1]
    rw [l1]
    simp only [Option.bind_some, Sum.elim_inl, m_L_isClosed_J125, m_L_isClosed_J131]
    simp (disch := omega) only [k_0, k_1, k_2, k_3, k_4, k_5, k_6, k_7, k_8, k_9, k_10, k_14, k_16, k_28, k_30, k_48, k_49, k_57, k_100, k_110, k_127, k_128, k_196, k_255, k_1000, k_1024, k_10000, nI_add, nI_mul, nI_div, irm_nI, nle, nlt, neq, gd_t, inb_nI, cl_nI, bnd_eq, gdT, gdo, gb0, gb1, gbi, bi0, bi1, bi0r, Option.bind_some, bndE_some, ite_t, ite_f, k_m9, k_m1, k_13, k_15, k_18, k_19, k_112, k_114, k_115, k_98, k_103, k_116, k_119, k_47, k_82, k_50, k_51, k_99, k_700, k_197, ne9, ne9s, nI_ne0s, ↓reduceIte]
  · obtain ⟨S1, a1, a2⟩ := thing_class h hp (show 1 < 7 by omega)
    have hv : thv n K Z p 1 = nI 0 := by
      unfold thv
      rw [if_neg (by omega), if_pos rfl, decide_eq_false hA]
      rfl
    rw [hv] at a1
    have hl : loopO (fun x : Int32 × Hs => m_L_isClosed_L9 (nI n) (nI p) x.1 x.2) (nI 0, S) = some (.inl S1) := by
      rw [loopO_eq]
      have : m_L_isClosed_L9 (nI n) (nI p) (nI 0) S = some (.inr (.inl S1)) := by
        unfold m_L_isClosed_L9
        have h0 : (n ≤ 0) = False := eq_false (by omega)
        simp (disch := omega) only [k_0, k_1, k_2, k_3, k_4, k_5, k_6, k_7, k_8, k_9, k_10, k_14, k_16, k_28, k_30, k_48, k_49, k_57, k_100, k_110, k_127, k_128, k_196, k_255, k_1000, k_1024, k_10000, nI_add, nI_mul, nI_div, irm_nI, nle, nlt, neq, gd_t, inb_nI, cl_nI, bnd_eq, gdT, gdo, gb0, gb1, gbi, bi0, bi1, bi0r, Option.bind_some, bndE_some, ite_t, ite_f, k_m9, k_m1, k_13, k_15, k_18, k_19, k_112, k_114, k_115, k_98, k_103, k_116, k_119, k_47, k_82, k_50, k_51, k_99, k_700, k_197, ne9, ne9s, nI_ne0s, ↓reduceIte, h0, a1, bndX_l]
      simp only [this]
    refine ⟨S1, ?_, a2⟩
    unfold m_L_isClosed_L2
    simp (disch := omega) only [k_0, k_1, k_2, k_3, k_4, k_5, k_6, k_7, k_8, k_9, k_10, k_14, k_16, k_28, k_30, k_48, k_49, k_57, k_100, k_110, k_127, k_128, k_196, k_255, k_1000, k_1024, k_10000, nI_add, nI_mul, nI_div, irm_nI, nle, nlt, neq, gd_t, inb_nI, cl_nI, bnd_eq, gdT, gdo, gb0, gb1, gbi, bi0, bi1, bi0r, Option.bind_some, bndE_some, ite_t, ite_f, k_m9, k_m1, k_13, k_15, k_18, k_19, k_112, k_114, k_115, k_98, k_103, k_116, k_119, k_47, k_82, k_50, k_51, k_99, k_700, k_197, ne9, ne9s, nI_ne0s, ↓reduceIte, e1]
    rw [hl]
    simp only [Option.bind_some, Sum.elim_inl, m_L_isClosed_J125, m_L_isClosed_J131]
    simp (disch := omega) only [k_0, k_1, k_2, k_3, k_4, k_5, k_6, k_7, k_8, k_9, k_10, k_14, k_16, k_28, k_30, k_48, k_49, k_57, k_100, k_110, k_127, k_128, k_196, k_255, k_1000, k_1024, k_10000, nI_add, nI_mul, nI_div, irm_nI, nle, nlt, neq, gd_t, inb_nI, cl_nI, bnd_eq, gdT, gdo, gb0, gb1, gbi, bi0, bi1, bi0r, Option.bind_some, bndE_some, ite_t, ite_f, k_m9, k_m1, k_13, k_15, k_18, k_19, k_112, k_114, k_115, k_98, k_103, k_116, k_119, k_47, k_82, k_50, k_51, k_99, k_700, k_197, ne9, ne9s, nI_ne0s, ↓reduceIte]
theorem isClosed_c (h : RepS S 29 n K Z) : ∃ S1, m_L_isClosed (nI n) S = some (nI 1, S1) ∧ Kp S S1 := by
  have hn := h.1
  obtain ⟨r, l1, l2⟩ := loop_kp (f := fun x : Int32 × Hs => m_L_isClosed_L2 (nI n) x.1 x.2) (N := n) (fun r => ∃ U, r = .inl U ∧ Kp S U) h (fun k U hk hU => closed2 hU hk) (fun U _ hU => ⟨.inl U, by
    simp only [m_L_isClosed_L2]
    simp (disch := omega) only [k_0, k_1, k_2, k_3, k_4, k_5, k_6, k_7, k_8, k_9, k_10, k_14, k_16, k_28, k_30, k_48, k_49, k_57, k_100, k_110, k_127, k_128, k_196, k_255, k_1000, k_1024, k_10000, nI_add, nI_mul, nI_div, irm_nI, nle, nlt, neq, gd_t, inb_nI, cl_nI, bnd_eq, gdT, gdo, gb0, gb1, gbi, bi0, bi1, bi0r, Option.bind_some, bndE_some, ite_t, ite_f, k_m9, k_m1, k_13, k_15, k_18, k_19, k_112, k_114, k_115, k_98, k_103, k_116, k_119, k_47, k_82, k_50, k_51, k_99, k_700, k_197, ne9, ne9s, nI_ne0s, ↓reduceIte], U, rfl, hU⟩)
  obtain ⟨U, rfl, hU⟩ := l2
  refine ⟨U, ?_, hU⟩
  unfold m_L_isClosed
  rw [show (0 : Int32) = nI 0 from rfl, l1]
  rfl
end CL
