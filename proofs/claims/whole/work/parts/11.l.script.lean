/-! runScript on both sides -/
def lI (a : Nat) : Int64 := Int64.ofNat a
theorem lI_toInt {a : Nat} (h : a < 2 ^ 63) : (lI a).toInt = a := Int64.toInt_ofNat_of_lt h
theorem l_of {v : Int64} (h : ¬ v < 0) : ∃ s, s < 2 ^ 63 ∧ v = lI s := by
  rw [Int64.lt_iff_toInt_lt] at h
  have hz : (0 : Int64).toInt = 0 := rfl
  have hu := v.toInt_lt
  refine ⟨v.toInt.toNat, by omega, ?_⟩
  apply Int64.toInt_inj.mp
  rw [lI_toInt (by omega)]
  omega
theorem lI_eq {a b : Nat} (ha : a < 2 ^ 63) (hb : b < 2 ^ 63) : lI a = lI b ↔ a = b := by
  rw [← Int64.toInt_inj, lI_toInt ha, lI_toInt hb]
  omega
theorem lI_le {a b : Nat} (ha : a < 2 ^ 63) (hb : b < 2 ^ 63) : lI a ≤ lI b ↔ a ≤ b := by
  rw [Int64.le_iff_toInt_le, lI_toInt ha, lI_toInt hb]
  omega
theorem lI_nneg {a : Nat} (ha : a < 2 ^ 63) : ¬ lI a < 0 := by
  rw [Int64.lt_iff_toInt_lt, lI_toInt ha]
  have hz : (0 : Int64).toInt = 0 := rfl
  omega
theorem lI_div {a b : Nat} (ha : a < 2 ^ 63) (hb : b < 2 ^ 63) (h0 : 0 < b) : lI a / lI b = lI (a / b) := by
  have hq : a / b ≤ a := Nat.div_le_self _ _
  apply Int64.toInt_inj.mp
  rw [Int64.toInt_div, lI_toInt ha, lI_toInt hb, lI_toInt (by omega)]
  have e : ((a : Int).tdiv (b : Int)) = ((a / b : Nat) : Int) := by
    rw [Int.tdiv_eq_ediv_of_nonneg (by omega)]
    exact (Int.natCast_ediv a b).symm
  rw [e]
  generalize a / b = z at hq
  exact Int.bmod_eq_of_le (by omega) (by omega)
theorem lI_mul (a b : Nat) : lI a * lI b = lI (a * b) := (Int64.ofNat_mul a b).symm
theorem lI_sub {a b : Nat} (h : b ≤ a) : lI a - lI b = lI (a - b) := by
  have h1 : lI (a - b) + lI b = lI a := by
    show Int64.ofNat _ + Int64.ofNat _ = Int64.ofNat _
    rw [← Int64.ofNat_add, Nat.sub_add_cancel h]
  rw [← h1, Int64.add_sub_cancel]
theorem lrm_lI {a b : Nat} (ha : a < 2 ^ 63) (hb : b < 2 ^ 63) (h0 : 0 < b) : lrm (lI a) (lI b) = lI (a % b) := by
  unfold lrm
  have h1 : a / b * b ≤ a := Nat.div_mul_le_self a b
  rw [lI_div ha hb h0, lI_mul, lI_sub h1]
  congr 1
  have := Nat.div_add_mod' a b
  omega
theorem lI_32 {a : Nat} (h : a < 2 ^ 31) : (lI a).toInt32 = nI a := by
  apply Int32.toInt_inj.mp
  rw [Int64.toInt_toInt32, lI_toInt (by omega), nI_toInt (by omega)]
  exact Int.bmod_eq_of_le (by omega) (by omega)
theorem lq5 : (100000 : Int64) = lI 100000 := rfl
theorem lq0 : (0 : Int64) = lI 0 := rfl
theorem lcl {x y : Int64} : (lg_cmp x y < nI 0) = (x < y) := propext (lg_cmp_lt x y)
theorem lce {x y : Int64} : (lg_cmp x y = nI 0) = (x = y) := propext (lg_cmp_eq x y)
theorem lcg {x y : Int64} : (nI 0 ≤ lg_cmp x y) = (y ≤ x) := propext (lg_cmp_ge x y)
theorem wog_ok {s k : Nat} (hs : s < 2 ^ 63) (hk : k < 1000) : m_X5_withoutGroups (lI s) (nI k) = some (lI (s / 100000 ^ k)) := by
  unfold m_X5_withoutGroups
  have hl := loopO_seq (f := fun x : Int64 × Int32 => m_X5_withoutGroups_L5 (nI k) x.1 x.2) (w := fun i => (lI (s / 100000 ^ i), nI i)) k (r := lI (s / 100000 ^ k)) (fun i hi => by
    have hle : s / 100000 ^ i ≤ s := Nat.div_le_self _ _
    simp only [m_X5_withoutGroups_L5]
    simp (disch := omega) only [k_0, k_1, k_2, k_3, k_4, k_5, k_6, k_7, k_8, k_9, k_10, k_14, k_16, k_28, k_30, k_48, k_49, k_57, k_100, k_110, k_127, k_128, k_196, k_255, k_1000, k_1024, k_10000, nI_add, nI_mul, nI_div, irm_nI, nle, nlt, neq, gd_t, inb_nI, cl_nI, bnd_eq, gdT, gdo, gb0, gb1, gbi, bi0, bi1, bi0r, Option.bind_some, bndE_some, ite_t, ite_f, k_m9, k_m1, k_13, k_15, k_18, k_19, k_112, k_114, k_115, k_98, k_103, k_116, k_119, k_47, k_82, k_50, k_51, k_99, k_700, k_197, ne9, ne9s, nI_ne0s, ↓reduceIte, lq5, lI_div (show s / 100000 ^ i < 2 ^ 63 by omega) (show 100000 < 2 ^ 63 by decide) (show 0 < 100000 by decide), Nat.div_div_eq_div_mul, Nat.pow_succ]) (by
    simp only [m_X5_withoutGroups_L5]
    simp (disch := omega) only [k_0, k_1, k_2, k_3, k_4, k_5, k_6, k_7, k_8, k_9, k_10, k_14, k_16, k_28, k_30, k_48, k_49, k_57, k_100, k_110, k_127, k_128, k_196, k_255, k_1000, k_1024, k_10000, nI_add, nI_mul, nI_div, irm_nI, nle, nlt, neq, gd_t, inb_nI, cl_nI, bnd_eq, gdT, gdo, gb0, gb1, gbi, bi0, bi1, bi0r, Option.bind_some, bndE_some, ite_t, ite_f, k_m9, k_m1, k_13, k_15, k_18, k_19, k_112, k_114, k_115, k_98, k_103, k_116, k_119, k_47, k_82, k_50, k_51, k_99, k_700, k_197, ne9, ne9s, nI_ne0s, ↓reduceIte])
  simp only [Nat.pow_zero, Nat.div_one] at hl
  exact congrArg (fun o : Option Int64 => o.bind fun y => some y) hl
/-- the first command that fails -/
noncomputable def rsc (s n : Nat) : Nat → Ab → Int32
  | 0, _ => m9
  | f + 1, c => match digs (s / 100000 ^ f % 100000) c with
    | none => nI (n - (f + 1))
    | some c' => rsc s n f c'
theorem rsc_no {s n f : Nat} {c : Ab} (h : digs (s / 100000 ^ f % 100000) c = none) : rsc s n (f + 1) c = nI (n - (f + 1)) := by rw [rsc, h]
theorem rsc_yes {s n f : Nat} {c c' : Ab} (h : digs (s / 100000 ^ f % 100000) c = some c') : rsc s n (f + 1) c = rsc s n f c' := by rw [rsc, h]
theorem grp_lt {s f : Nat} : s / 100000 ^ f % 100000 < 100000 := Nat.mod_lt _ (by decide)
theorem digs_ok {g : Nat} {c c' : Ab} (h : AOk c) (q : digs g c = some c') : AOk c' := cmd_ok h q
theorem grp_ok {s f : Nat} (hs : s < 2 ^ 63) : (lrm (lI (s / 100000 ^ f)) (lI 100000)).toInt32 = nI (s / 100000 ^ f % 100000) := by
  have hle : s / 100000 ^ f ≤ s := Nat.div_le_self _ _
  have := grp_lt (s := s) (f := f)
  rw [lrm_lI (by omega) (by decide) (by decide), lI_32 (by omega)]
theorem script_loop {S : Hs} {c : Ab} (h : RS S 63 c) (hc : AOk c) {s n : Nat} (hs : s < 2 ^ 63) (hn : n < 100) : ∃ e, loopO (fun x => m_X5_runScript_L50 (nI n) (lI s) x.1 x.2) (nI 0, S) = some e ∧ (match e with
    | .inl U => rsc s n n c = m9 ∧ Kp S U
    | .inr (oc, U) => oc = .inl (rsc s n n c) ∧ Kp S U) := by
  refine loopO_inv (f := fun x : Int32 × Hs => m_X5_runScript_L50 (nI n) (lI s) x.1 x.2) (fun i q => i ≤ n ∧ q.1 = nI i ∧ Kp S q.2 ∧ ∃ ci, RS q.2 63 ci ∧ AOk ci ∧ rsc s n n c = rsc s n (n - i) ci) _ 100 (fun i q hq => ?_) ⟨by omega, rfl, Kp.rf S, c, h, hc, rfl⟩
  obtain ⟨v, U⟩ := q
  obtain ⟨hi, hv, a1, ci, a2, a3, a4⟩ := hq
  simp only at hv a1 a2
  subst hv
  simp only [m_X5_runScript_L50]
  by_cases hin : i < n
  · have hsub : nI n - nI 1 - nI i = nI (n - 1 - i) := by rw [nI_sub (by omega), nI_sub (by omega)]
    obtain ⟨o, V, k0, k1, k2, k3⟩ := (runCommand_ok a2 a3 (grp_lt (s := s) (f := n - 1 - i))).out
    have hf : n - i = n - 1 - i + 1 := by omega
    cases hd : digs (s / 100000 ^ (n - 1 - i) % 100000) ci with
    | none =>
      rw [hd] at k0
      subst k0
      rw [hf, rsc_no hd, show n - (n - 1 - i + 1) = i by omega] at a4
      refine Or.inr ⟨.inr (.inl (nI i), V), ?_, by rw [a4], a1.tr k2⟩
      simp (disch := omega) only [k_0, k_1, k_2, k_3, k_4, k_5, k_6, k_7, k_8, k_9, k_10, k_14, k_16, k_28, k_30, k_48, k_49, k_57, k_100, k_110, k_127, k_128, k_196, k_255, k_1000, k_1024, k_10000, nI_add, nI_mul, nI_div, irm_nI, nle, nlt, neq, gd_t, inb_nI, cl_nI, bnd_eq, gdT, gdo, gb0, gb1, gbi, bi0, bi1, bi0r, Option.bind_some, bndE_some, ite_t, ite_f, k_m9, k_m1, k_13, k_15, k_18, k_19, k_112, k_114, k_115, k_98, k_103, k_116, k_119, k_47, k_82, k_50, k_51, k_99, k_700, k_197, ne9, ne9s, nI_ne0s, ↓reduceIte, hsub, wog_ok hs (show n - 1 - i < 1000 by omega), lq5, grp_ok hs, k1, Option.isSome_none]
    | some c' =>
      rw [hd] at k0
      subst k0
      rw [hf, rsc_yes hd] at a4
      refine Or.inl ⟨by omega, (nI (i + 1), V), ?_, by omega, rfl, a1.tr k2, c', k3 c' hd, digs_ok a3 hd, by rw [a4, show n - (i + 1) = n - 1 - i by omega]⟩
      simp (disch := omega) only [k_0, k_1, k_2, k_3, k_4, k_5, k_6, k_7, k_8, k_9, k_10, k_14, k_16, k_28, k_30, k_48, k_49, k_57, k_100, k_110, k_127, k_128, k_196, k_255, k_1000, k_1024, k_10000, nI_add, nI_mul, nI_div, irm_nI, nle, nlt, neq, gd_t, inb_nI, cl_nI, bnd_eq, gdT, gdo, gb0, gb1, gbi, bi0, bi1, bi0r, Option.bind_some, bndE_some, ite_t, ite_f, k_m9, k_m1, k_13, k_15, k_18, k_19, k_112, k_114, k_115, k_98, k_103, k_116, k_119, k_47, k_82, k_50, k_51, k_99, k_700, k_197, ne9, ne9s, nI_ne0s, ↓reduceIte, hsub, wog_ok hs (show n - 1 - i < 1000 by omega), lq5, grp_ok hs, k1, Option.isSome_some, Bool.true_eq_false]
  · obtain rfl : i = n := by omega
    rw [Nat.sub_self] at a4
    refine Or.inr ⟨.inl U, ?_, a4, a1⟩
    simp (disch := omega) only [k_0, k_1, k_2, k_3, k_4, k_5, k_6, k_7, k_8, k_9, k_10, k_14, k_16, k_28, k_30, k_48, k_49, k_57, k_100, k_110, k_127, k_128, k_196, k_255, k_1000, k_1024, k_10000, nI_add, nI_mul, nI_div, irm_nI, nle, nlt, neq, gd_t, inb_nI, cl_nI, bnd_eq, gdT, gdo, gb0, gb1, gbi, bi0, bi1, bi0r, Option.bind_some, bndE_some, ite_t, ite_f, k_m9, k_m1, k_13, k_15, k_18, k_19, k_112, k_114, k_115, k_98, k_103, k_116, k_119, k_47, k_82, k_50, k_51, k_99, k_700, k_197, ne9, ne9s, nI_ne0s, ↓reduceIte]
/-- the model's scripts -/
theorem putAside_ok {T : Hs} : ∃ U, m_X6_putAside T = some U ∧ OnA 18 T U ∧ ∀ b, b < 57 → gA U 18 b = gA T 14 b := by
  obtain ⟨U, k1, k2, k3⟩ := copy_loop (f := fun x : Int32 × Hs => m_X6_putAside_L2 x.1 x.2) (S := T) (c := 18) (p := 0) (a := 14) (s := 0) (N := 57) (by omega) (Or.inl (by omega)) (fun k W hk hW => by
    simp only [m_X6_putAside_L2]
    simp (disch := omega) only [k_0, k_1, k_2, k_3, k_4, k_5, k_6, k_7, k_8, k_9, k_10, k_14, k_16, k_28, k_30, k_48, k_49, k_57, k_100, k_110, k_127, k_128, k_196, k_255, k_1000, k_1024, k_10000, nI_add, nI_mul, nI_div, irm_nI, nle, nlt, neq, gd_t, inb_nI, cl_nI, bnd_eq, gdT, gdo, gb0, gb1, gbi, bi0, bi1, bi0r, Option.bind_some, bndE_some, ite_t, ite_f, k_m9, k_m1, k_13, k_15, k_18, k_19, k_112, k_114, k_115, k_98, k_103, k_116, k_119, k_47, k_82, k_50, k_51, k_99, k_700, k_197, ne9, ne9s, nI_ne0s, ↓reduceIte, Nat.zero_add]) (fun W hW => by
    simp only [m_X6_putAside_L2]
    simp (disch := omega) only [k_0, k_1, k_2, k_3, k_4, k_5, k_6, k_7, k_8, k_9, k_10, k_14, k_16, k_28, k_30, k_48, k_49, k_57, k_100, k_110, k_127, k_128, k_196, k_255, k_1000, k_1024, k_10000, nI_add, nI_mul, nI_div, irm_nI, nle, nlt, neq, gd_t, inb_nI, cl_nI, bnd_eq, gdT, gdo, gb0, gb1, gbi, bi0, bi1, bi0r, Option.bind_some, bndE_some, ite_t, ite_f, k_m9, k_m1, k_13, k_15, k_18, k_19, k_112, k_114, k_115, k_98, k_103, k_116, k_119, k_47, k_82, k_50, k_51, k_99, k_700, k_197, ne9, ne9s, nI_ne0s, ↓reduceIte])
  refine ⟨U, ?_, k2, fun b hb => ?_⟩
  · unfold m_X6_putAside
    simp (disch := omega) only [k_0, k_1, k_2, k_3, k_4, k_5, k_6, k_7, k_8, k_9, k_10, k_14, k_16, k_28, k_30, k_48, k_49, k_57, k_100, k_110, k_127, k_128, k_196, k_255, k_1000, k_1024, k_10000, nI_add, nI_mul, nI_div, irm_nI, nle, nlt, neq, gd_t, inb_nI, cl_nI, bnd_eq, gdT, gdo, gb0, gb1, gbi, bi0, bi1, bi0r, Option.bind_some, bndE_some, ite_t, ite_f, k_m9, k_m1, k_13, k_15, k_18, k_19, k_112, k_114, k_115, k_98, k_103, k_116, k_119, k_47, k_82, k_50, k_51, k_99, k_700, k_197, ne9, ne9s, nI_ne0s, ↓reduceIte]
    rw [k1]
    rfl
  · rw [k3, if_pos ⟨by omega, by omega⟩]
    congr 1
    omega
theorem bringBack_ok {T : Hs} : ∃ U, m_X6_bringBack T = some U ∧ OnA 14 T U ∧ ∀ b, b < 57 → gA U 14 b = gA T 18 b := by
  obtain ⟨U, k1, k2, k3⟩ := copy_loop (f := fun x : Int32 × Hs => m_X6_bringBack_L2 x.1 x.2) (S := T) (c := 14) (p := 0) (a := 18) (s := 0) (N := 57) (by omega) (Or.inl (by omega)) (fun k W hk hW => by
    simp only [m_X6_bringBack_L2]
    simp (disch := omega) only [k_0, k_1, k_2, k_3, k_4, k_5, k_6, k_7, k_8, k_9, k_10, k_14, k_16, k_28, k_30, k_48, k_49, k_57, k_100, k_110, k_127, k_128, k_196, k_255, k_1000, k_1024, k_10000, nI_add, nI_mul, nI_div, irm_nI, nle, nlt, neq, gd_t, inb_nI, cl_nI, bnd_eq, gdT, gdo, gb0, gb1, gbi, bi0, bi1, bi0r, Option.bind_some, bndE_some, ite_t, ite_f, k_m9, k_m1, k_13, k_15, k_18, k_19, k_112, k_114, k_115, k_98, k_103, k_116, k_119, k_47, k_82, k_50, k_51, k_99, k_700, k_197, ne9, ne9s, nI_ne0s, ↓reduceIte, Nat.zero_add]) (fun W hW => by
    simp only [m_X6_bringBack_L2]
    simp (disch := omega) only [k_0, k_1, k_2, k_3, k_4, k_5, k_6, k_7, k_8, k_9, k_10, k_14, k_16, k_28, k_30, k_48, k_49, k_57, k_100, k_110, k_127, k_128, k_196, k_255, k_1000, k_1024, k_10000, nI_add, nI_mul, nI_div, irm_nI, nle, nlt, neq, gd_t, inb_nI, cl_nI, bnd_eq, gdT, gdo, gb0, gb1, gbi, bi0, bi1, bi0r, Option.bind_some, bndE_some, ite_t, ite_f, k_m9, k_m1, k_13, k_15, k_18, k_19, k_112, k_114, k_115, k_98, k_103, k_116, k_119, k_47, k_82, k_50, k_51, k_99, k_700, k_197, ne9, ne9s, nI_ne0s, ↓reduceIte])
  refine ⟨U, ?_, k2, fun b hb => ?_⟩
  · unfold m_X6_bringBack
    simp (disch := omega) only [k_0, k_1, k_2, k_3, k_4, k_5, k_6, k_7, k_8, k_9, k_10, k_14, k_16, k_28, k_30, k_48, k_49, k_57, k_100, k_110, k_127, k_128, k_196, k_255, k_1000, k_1024, k_10000, nI_add, nI_mul, nI_div, irm_nI, nle, nlt, neq, gd_t, inb_nI, cl_nI, bnd_eq, gdT, gdo, gb0, gb1, gbi, bi0, bi1, bi0r, Option.bind_some, bndE_some, ite_t, ite_f, k_m9, k_m1, k_13, k_15, k_18, k_19, k_112, k_114, k_115, k_98, k_103, k_116, k_119, k_47, k_82, k_50, k_51, k_99, k_700, k_197, ne9, ne9s, nI_ne0s, ↓reduceIte]
    rw [k1]
    rfl
  · rw [k3, if_pos ⟨by omega, by omega⟩]
    congr 1
    omega
theorem pow_lt {n : Nat} (hn : n ≤ 3) : 100000 ^ n < 2 ^ 63 := Nat.lt_of_le_of_lt (Nat.pow_le_pow_right (by decide) hn) (by decide)
theorem pow_pos5 (n : Nat) : 0 < 100000 ^ n := Nat.pow_pos (by decide)
theorem mscript_loop {T : Hs} {c : Ab} (h : RM T 14 0 c) (hc : AOk c) {s n : Nat} (hs : s < 2 ^ 63) (hn : n ≤ 3) : ∃ U, loopO (fun x => m_X6_runScript_L96 (nI n) (lI s) x.1 x.2.1 x.2.2.1 x.2.2.2) (lI (100000 ^ n), m9, nI 0, T) = some (rsc s n n c, U) ∧ Mq8 T U := by
  obtain ⟨⟨v, U⟩, e1, e2, e3⟩ := loopO_inv (f := fun x : Int64 × Int32 × Int32 × Hs => m_X6_runScript_L96 (nI n) (lI s) x.1 x.2.1 x.2.2.1 x.2.2.2) (fun i q => i ≤ n ∧ q.2.2.1 = nI i ∧ Mq8 T q.2.2.2 ∧ ((q.1 = lI (100000 ^ (n - i)) ∧ q.2.1 = m9 ∧ ∃ ci, RM q.2.2.2 14 0 ci ∧ AOk ci ∧ rsc s n n c = rsc s n (n - i) ci) ∨ (q.2.1 = rsc s n n c ∧ q.2.1 ≠ m9))) (fun r => r.1 = rsc s n n c ∧ Mq8 T r.2) 100 (fun i q hq => by
    obtain ⟨l, f, v, U⟩ := q
    obtain ⟨hi, hv, a1, a2⟩ := hq
    simp only at hv a1 a2
    subst hv
    simp only [m_X6_runScript_L96, m_X6_runScript_J144]
    by_cases hin : i < n
    · rcases a2 with ⟨b1, b2, ci, b3, b4, b5⟩ | ⟨b1, b2⟩
      · subst b1 b2
        have hp1 := pow_lt (show n - i ≤ 3 by omega)
        have hp2 := pow_lt (show n - 1 - i ≤ 3 by omega)
        have hp3 := pow_pos5 (n - 1 - i)
        have hdv : lI (100000 ^ (n - i)) / lI 100000 = lI (100000 ^ (n - 1 - i)) := by
          rw [lI_div hp1 (by decide) (by decide), show n - i = n - 1 - i + 1 by omega, Nat.pow_succ, Nat.mul_div_cancel _ (by decide)]
        have hnz : gd (decide (¬ lI (100000 ^ (n - 1 - i)) = 0)) = fun (k : Option ((Int64 × Int32 × Int32 × Hs) ⊕ (Int32 × Hs))) => k := by
          funext k
          exact gd_t (decide_eq_true (by rw [lq0, lI_eq hp2 (by decide)]; omega)) k
        have hgr : (lrm (lI s / lI (100000 ^ (n - 1 - i))) (lI 100000)).toInt32 = nI (s / 100000 ^ (n - 1 - i) % 100000) := by
          rw [lI_div hs hp2 hp3, grp_ok hs]
        obtain ⟨V, k1, k2, k3⟩ := succeeds_ok b3 b4 (grp_lt (s := s) (f := n - 1 - i))
        have hf : n - i = n - 1 - i + 1 := by omega
        cases hd : digs (s / 100000 ^ (n - 1 - i) % 100000) ci with
        | none =>
          rw [hd] at k1
          rw [hf, rsc_no hd, show n - (n - 1 - i + 1) = i by omega] at b5
          refine Or.inl ⟨by omega, (lI (100000 ^ (n - 1 - i)), nI i, nI (i + 1), V), ?_, by omega, rfl, a1.tr k2, Or.inr ⟨b5.symm, nI_ne9 (by omega)⟩⟩
          simp (disch := omega) only [k_0, k_1, k_2, k_3, k_4, k_5, k_6, k_7, k_8, k_9, k_10, k_14, k_16, k_28, k_30, k_48, k_49, k_57, k_100, k_110, k_127, k_128, k_196, k_255, k_1000, k_1024, k_10000, nI_add, nI_mul, nI_div, irm_nI, nle, nlt, neq, gd_t, inb_nI, cl_nI, bnd_eq, gdT, gdo, gb0, gb1, gbi, bi0, bi1, bi0r, Option.bind_some, bndE_some, ite_t, ite_f, k_m9, k_m1, k_13, k_15, k_18, k_19, k_112, k_114, k_115, k_98, k_103, k_116, k_119, k_47, k_82, k_50, k_51, k_99, k_700, k_197, ne9, ne9s, nI_ne0s, ↓reduceIte, lq5, hdv, hnz, hgr, k1, Option.isSome_none]
        | some c' =>
          rw [hd] at k1
          rw [hf, rsc_yes hd] at b5
          refine Or.inl ⟨by omega, (lI (100000 ^ (n - 1 - i)), m9, nI (i + 1), V), ?_, by omega, rfl, a1.tr k2, Or.inl ⟨by rw [show n - (i + 1) = n - 1 - i by omega], rfl, c', k3 c' hd, digs_ok b4 hd, by rw [b5, show n - (i + 1) = n - 1 - i by omega]⟩⟩
          simp (disch := omega) only [k_0, k_1, k_2, k_3, k_4, k_5, k_6, k_7, k_8, k_9, k_10, k_14, k_16, k_28, k_30, k_48, k_49, k_57, k_100, k_110, k_127, k_128, k_196, k_255, k_1000, k_1024, k_10000, nI_add, nI_mul, nI_div, irm_nI, nle, nlt, neq, gd_t, inb_nI, cl_nI, bnd_eq, gdT, gdo, gb0, gb1, gbi, bi0, bi1, bi0r, Option.bind_some, bndE_some, ite_t, ite_f, k_m9, k_m1, k_13, k_15, k_18, k_19, k_112, k_114, k_115, k_98, k_103, k_116, k_119, k_47, k_82, k_50, k_51, k_99, k_700, k_197, ne9, ne9s, nI_ne0s, ↓reduceIte, lq5, hdv, hnz, hgr, k1, Option.isSome_some, Bool.true_eq_false]
      · refine Or.inr ⟨(f, U), ?_, b1, a1⟩
        simp (disch := omega) only [k_0, k_1, k_2, k_3, k_4, k_5, k_6, k_7, k_8, k_9, k_10, k_14, k_16, k_28, k_30, k_48, k_49, k_57, k_100, k_110, k_127, k_128, k_196, k_255, k_1000, k_1024, k_10000, nI_add, nI_mul, nI_div, irm_nI, nle, nlt, neq, gd_t, inb_nI, cl_nI, bnd_eq, gdT, gdo, gb0, gb1, gbi, bi0, bi1, bi0r, Option.bind_some, bndE_some, ite_t, ite_f, k_m9, k_m1, k_13, k_15, k_18, k_19, k_112, k_114, k_115, k_98, k_103, k_116, k_119, k_47, k_82, k_50, k_51, k_99, k_700, k_197, ne9, ne9s, nI_ne0s, ↓reduceIte, eq_false b2]
    · obtain rfl : i = n := by omega
      refine Or.inr ⟨(f, U), ?_, ?_, a1⟩
      · simp (disch := omega) only [k_0, k_1, k_2, k_3, k_4, k_5, k_6, k_7, k_8, k_9, k_10, k_14, k_16, k_28, k_30, k_48, k_49, k_57, k_100, k_110, k_127, k_128, k_196, k_255, k_1000, k_1024, k_10000, nI_add, nI_mul, nI_div, irm_nI, nle, nlt, neq, gd_t, inb_nI, cl_nI, bnd_eq, gdT, gdo, gb0, gb1, gbi, bi0, bi1, bi0r, Option.bind_some, bndE_some, ite_t, ite_f, k_m9, k_m1, k_13, k_15, k_18, k_19, k_112, k_114, k_115, k_98, k_103, k_116, k_119, k_47, k_82, k_50, k_51, k_99, k_700, k_197, ne9, ne9s, nI_ne0s, ↓reduceIte]
      · rcases a2 with ⟨b1, b2, ci, b3, b4, b5⟩ | ⟨b1, b2⟩
        · rw [Nat.sub_self] at b5
          rw [b2, b5]
          rfl
        · exact b1) (x := (lI (100000 ^ n), m9, nI 0, T)) ⟨by omega, rfl, Mq8.rf T, Or.inl ⟨rfl, rfl, c, h, hc, rfl⟩⟩
  simp only at e2
  subst e2
  exact ⟨U, e1, e3⟩
theorem limit_ok {T : Hs} {v2 : Int64} {n : Nat} (h1 : 1 ≤ n) (hn : n ≤ 3) : loopO (fun x => m_X6_runScript_L30 (nI n) v2 (nI 1) T x.1 x.2) (lI 100000, nI 1) = some (lI (100000 ^ n)) := by
  have hl := loopO_seq (f := fun x : Int64 × Int32 => m_X6_runScript_L30 (nI n) v2 (nI 1) T x.1 x.2) (w := fun i => (lI (100000 ^ (i + 1)), nI (i + 1))) (n - 1) (r := lI (100000 ^ n)) (fun i hi => by
    simp only [m_X6_runScript_L30]
    simp (disch := omega) only [k_0, k_1, k_2, k_3, k_4, k_5, k_6, k_7, k_8, k_9, k_10, k_14, k_16, k_28, k_30, k_48, k_49, k_57, k_100, k_110, k_127, k_128, k_196, k_255, k_1000, k_1024, k_10000, nI_add, nI_mul, nI_div, irm_nI, nle, nlt, neq, gd_t, inb_nI, cl_nI, bnd_eq, gdT, gdo, gb0, gb1, gbi, bi0, bi1, bi0r, Option.bind_some, bndE_some, ite_t, ite_f, k_m9, k_m1, k_13, k_15, k_18, k_19, k_112, k_114, k_115, k_98, k_103, k_116, k_119, k_47, k_82, k_50, k_51, k_99, k_700, k_197, ne9, ne9s, nI_ne0s, ↓reduceIte, lq5, lI_mul, Nat.pow_succ]) (by
    simp only [m_X6_runScript_L30]
    rw [show n - 1 + 1 = n by omega]
    simp (disch := omega) only [k_0, k_1, k_2, k_3, k_4, k_5, k_6, k_7, k_8, k_9, k_10, k_14, k_16, k_28, k_30, k_48, k_49, k_57, k_100, k_110, k_127, k_128, k_196, k_255, k_1000, k_1024, k_10000, nI_add, nI_mul, nI_div, irm_nI, nle, nlt, neq, gd_t, inb_nI, cl_nI, bnd_eq, gdT, gdo, gb0, gb1, gbi, bi0, bi1, bi0r, Option.bind_some, bndE_some, ite_t, ite_f, k_m9, k_m1, k_13, k_15, k_18, k_19, k_112, k_114, k_115, k_98, k_103, k_116, k_119, k_47, k_82, k_50, k_51, k_99, k_700, k_197, ne9, ne9s, nI_ne0s, ↓reduceIte])
  simp only [Nat.zero_add, Nat.pow_one] at hl
  exact hl
theorem limit_bad {T : Hs} {v1 : Int32} {v2 : Int64} : ∃ l, loopO (fun x => m_X6_runScript_L30 v1 v2 (nI 0) T x.1 x.2) (lI 100000, nI 1) = some l := by
  refine ⟨lI 100000, loopO_seq (f := fun x : Int64 × Int32 => m_X6_runScript_L30 v1 v2 (nI 0) T x.1 x.2) (w := fun _ => (lI 100000, nI 1)) 0 (fun i hi => by omega) ?_⟩
  simp only [m_X6_runScript_L30]
  by_cases h : v1 ≤ nI 1
  · rw [if_pos h]
  · rw [if_neg h]
    simp (disch := omega) only [k_0, k_1, k_2, k_3, k_4, k_5, k_6, k_7, k_8, k_9, k_10, k_14, k_16, k_28, k_30, k_48, k_49, k_57, k_100, k_110, k_127, k_128, k_196, k_255, k_1000, k_1024, k_10000, nI_add, nI_mul, nI_div, irm_nI, nle, nlt, neq, gd_t, inb_nI, cl_nI, bnd_eq, gdT, gdo, gb0, gb1, gbi, bi0, bi1, bi0r, Option.bind_some, bndE_some, ite_t, ite_f, k_m9, k_m1, k_13, k_15, k_18, k_19, k_112, k_114, k_115, k_98, k_103, k_116, k_119, k_47, k_82, k_50, k_51, k_99, k_700, k_197, ne9, ne9s, nI_ne0s, ↓reduceIte]
theorem msx_bad {T : Hs} {v1 : Int32} {v2 : Int64} {l : Int64} : m_X6_runScript_J72 v1 v2 l T = some (nI 0, sI T 13 0 (nI 1)) := by
  unfold m_X6_runScript_J72 m_X6_runScript_J73
  simp (disch := omega) only [k_0, k_1, k_2, k_3, k_4, k_5, k_6, k_7, k_8, k_9, k_10, k_14, k_16, k_28, k_30, k_48, k_49, k_57, k_100, k_110, k_127, k_128, k_196, k_255, k_1000, k_1024, k_10000, nI_add, nI_mul, nI_div, irm_nI, nle, nlt, neq, gd_t, inb_nI, cl_nI, bnd_eq, gdT, gdo, gb0, gb1, gbi, bi0, bi1, bi0r, Option.bind_some, bndE_some, ite_t, ite_f, k_m9, k_m1, k_13, k_15, k_18, k_19, k_112, k_114, k_115, k_98, k_103, k_116, k_119, k_47, k_82, k_50, k_51, k_99, k_700, k_197, ne9, ne9s, nI_ne0s, ↓reduceIte, thr_eq, not10]
theorem runScript_op (v : Int32) (w : Int64) : OpOk (m_X5_runScript v w) (m_X6_runScript v w) (c1 1) := by
  intro g hg
  obtain ⟨c, r, mem, sv, sl, len, t⟩ := g
  obtain ⟨ga, gr, gm, gs⟩ := hg
  have hin := in_ok v (a := 1) (b := 3) (by omega) (by omega)
  by_cases hv : ∃ x, 1 ≤ x ∧ x ≤ 3 ∧ v = nI x
  · rw [B_iff.mpr hv] at hin
    obtain ⟨n, n1, n3, rfl⟩ := hv
    by_cases hw : w < 0
    · refine ⟨.inr 1, _, ⟨ga, gr, gm, gs⟩, fun S hS => ⟨S, ?_, Co.rf S, hS⟩, fun T hT => ?_⟩
      · unfold m_X5_runScript m_X5_runScript_J26
        simp (disch := omega) only [k_0, k_1, k_2, k_3, k_4, k_5, k_6, k_7, k_8, k_9, k_10, k_14, k_16, k_28, k_30, k_48, k_49, k_57, k_100, k_110, k_127, k_128, k_196, k_255, k_1000, k_1024, k_10000, nI_add, nI_mul, nI_div, irm_nI, nle, nlt, neq, gd_t, inb_nI, cl_nI, bnd_eq, gdT, gdo, gb0, gb1, gbi, bi0, bi1, bi0r, Option.bind_some, bndE_some, ite_t, ite_f, k_m9, k_m1, k_13, k_15, k_18, k_19, k_112, k_114, k_115, k_98, k_103, k_116, k_119, k_47, k_82, k_50, k_51, k_99, k_700, k_197, ne9, ne9s, nI_ne0s, ↓reduceIte, lcl, eq_true hw]
      · obtain ⟨q1, q2⟩ := q_thr hT (nI 1)
        obtain ⟨l, hl⟩ := limit_bad (T := T) (v1 := nI n) (v2 := w)
        refine ⟨nI 0, _, ?_, q1, q2, thr_s _ _⟩
        unfold m_X6_runScript m_X6_runScript_J19 m_X6_runScript_J20
        simp (disch := omega) only [k_0, k_1, k_2, k_3, k_4, k_5, k_6, k_7, k_8, k_9, k_10, k_14, k_16, k_28, k_30, k_48, k_49, k_57, k_100, k_110, k_127, k_128, k_196, k_255, k_1000, k_1024, k_10000, nI_add, nI_mul, nI_div, irm_nI, nle, nlt, neq, gd_t, inb_nI, cl_nI, bnd_eq, gdT, gdo, gb0, gb1, gbi, bi0, bi1, bi0r, Option.bind_some, bndE_some, ite_t, ite_f, k_m9, k_m1, k_13, k_15, k_18, k_19, k_112, k_114, k_115, k_98, k_103, k_116, k_119, k_47, k_82, k_50, k_51, k_99, k_700, k_197, ne9, ne9s, nI_ne0s, ↓reduceIte, hin, Bool.true_eq_false, lcl, eq_true hw, lq5]
        rw [hl]
        simp (disch := omega) only [k_0, k_1, k_2, k_3, k_4, k_5, k_6, k_7, k_8, k_9, k_10, k_14, k_16, k_28, k_30, k_48, k_49, k_57, k_100, k_110, k_127, k_128, k_196, k_255, k_1000, k_1024, k_10000, nI_add, nI_mul, nI_div, irm_nI, nle, nlt, neq, gd_t, inb_nI, cl_nI, bnd_eq, gdT, gdo, gb0, gb1, gbi, bi0, bi1, bi0r, Option.bind_some, bndE_some, ite_t, ite_f, k_m9, k_m1, k_13, k_15, k_18, k_19, k_112, k_114, k_115, k_98, k_103, k_116, k_119, k_47, k_82, k_50, k_51, k_99, k_700, k_197, ne9, ne9s, nI_ne0s, ↓reduceIte, m_X6_runScript_J55, msx_bad]
    · obtain ⟨s, hs, rfl⟩ := l_of hw
      have hw' : (lI s < 0) = False := eq_false hw
      have hw2 : (lI s < lI 0) = False := eq_false hw
      have hp := pow_lt n3
      have hp0 := pow_pos5 n
      have hle : s / 100000 ^ n ≤ s := Nat.div_le_self _ _
      have h3n : ¬ (3 : Int32) < nI n := by rw [show (3 : Int32) = nI 3 from rfl, nlt (by omega) (by omega)]; omega
      by_cases hb : s < 100000 ^ n
      · have hz : s / 100000 ^ n = 0 := Nat.div_eq_of_lt hb
        refine ⟨.inl (rsc s n n c), _, ⟨ga, gr, gm, gs⟩, fun S hS => ?_, fun T hT => ?_⟩
        · obtain ⟨S1, k1, k2, k3⟩ := copyRS (i := 63) hS.1 (by omega)
          obtain ⟨e, l1, l2⟩ := script_loop k2 ga hs (show n < 100 by omega)
          have k0 := Kp.ofB k3 (by omega)
          rcases e with U | ⟨oc, U⟩
          · obtain ⟨m1, m2⟩ := l2
            refine ⟨U, ?_, Co.ofK (k0.tr m2), hS.kp (k0.tr m2)⟩
            unfold m_X5_runScript m_X5_runScript_J26
            rw [if_neg h3n]
            simp (disch := omega) only [k_0, k_1, k_2, k_3, k_4, k_5, k_6, k_7, k_8, k_9, k_10, k_14, k_16, k_28, k_30, k_48, k_49, k_57, k_100, k_110, k_127, k_128, k_196, k_255, k_1000, k_1024, k_10000, nI_add, nI_mul, nI_div, irm_nI, nle, nlt, neq, gd_t, inb_nI, cl_nI, bnd_eq, gdT, gdo, gb0, gb1, gbi, bi0, bi1, bi0r, Option.bind_some, bndE_some, ite_t, ite_f, k_m9, k_m1, k_13, k_15, k_18, k_19, k_112, k_114, k_115, k_98, k_103, k_116, k_119, k_47, k_82, k_50, k_51, k_99, k_700, k_197, ne9, ne9s, nI_ne0s, ↓reduceIte, lcl, hw', wog_ok hs (show n < 1000 by omega), hz, lq0, hw2, lce, k1]
            rw [l1, m1]
            rfl
          · obtain ⟨m1, m2⟩ := l2
            refine ⟨U, ?_, Co.ofK (k0.tr m2), hS.kp (k0.tr m2)⟩
            unfold m_X5_runScript m_X5_runScript_J26
            rw [if_neg h3n]
            simp (disch := omega) only [k_0, k_1, k_2, k_3, k_4, k_5, k_6, k_7, k_8, k_9, k_10, k_14, k_16, k_28, k_30, k_48, k_49, k_57, k_100, k_110, k_127, k_128, k_196, k_255, k_1000, k_1024, k_10000, nI_add, nI_mul, nI_div, irm_nI, nle, nlt, neq, gd_t, inb_nI, cl_nI, bnd_eq, gdT, gdo, gb0, gb1, gbi, bi0, bi1, bi0r, Option.bind_some, bndE_some, ite_t, ite_f, k_m9, k_m1, k_13, k_15, k_18, k_19, k_112, k_114, k_115, k_98, k_103, k_116, k_119, k_47, k_82, k_50, k_51, k_99, k_700, k_197, ne9, ne9s, nI_ne0s, ↓reduceIte, lcl, hw', wog_ok hs (show n < 1000 by omega), hz, lq0, hw2, lce, k1]
            rw [l1, m1]
            rfl
        · obtain ⟨A1, a1, a2, a3⟩ := putAside_ok (T := sI T 13 0 (nI 0))
          have hM : RM A1 14 0 c := hT.1.keep fun b => by rw [a2.2.1 _ _ (by omega)]; rfl
          obtain ⟨U, u1, u2⟩ := mscript_loop hM ga hs n3
          obtain ⟨V, b1, b2, b3⟩ := bringBack_ok (T := U)
          have hV : RM V 14 0 c := RepM.copy hT.1 fun j hj => by
            rw [b3 _ (by omega), u2.2, Nat.zero_add, a3 _ hj]
            rfl
          have q : Mq (sI T 13 0 (nI 0)) V := ((Mq.ofA a2 (by omega)).tr u2.1).tr (Mq.ofA b2 (by omega))
          obtain ⟨q1, q2⟩ := q_done hT (nI 0) q hV
          refine ⟨_, V, ?_, q1, q2, (q.1 _ _ (by omega)).trans (thr_eq T (nI 0)), rfl⟩
          have hge : (lI (100000 ^ n) ≤ lI s) = False := eq_false (by rw [lI_le hp hs]; omega)
          unfold m_X6_runScript m_X6_runScript_J20
          simp (disch := omega) only [k_0, k_1, k_2, k_3, k_4, k_5, k_6, k_7, k_8, k_9, k_10, k_14, k_16, k_28, k_30, k_48, k_49, k_57, k_100, k_110, k_127, k_128, k_196, k_255, k_1000, k_1024, k_10000, nI_add, nI_mul, nI_div, irm_nI, nle, nlt, neq, gd_t, inb_nI, cl_nI, bnd_eq, gdT, gdo, gb0, gb1, gbi, bi0, bi1, bi0r, Option.bind_some, bndE_some, ite_t, ite_f, k_m9, k_m1, k_13, k_15, k_18, k_19, k_112, k_114, k_115, k_98, k_103, k_116, k_119, k_47, k_82, k_50, k_51, k_99, k_700, k_197, ne9, ne9s, nI_ne0s, ↓reduceIte, hin, Bool.true_eq_false, lcl, hw', lq5]
          rw [limit_ok n1 n3]
          unfold m_X6_runScript_J55 m_X6_runScript_J73 m_X6_runScript_J152
          simp (disch := omega) only [k_0, k_1, k_2, k_3, k_4, k_5, k_6, k_7, k_8, k_9, k_10, k_14, k_16, k_28, k_30, k_48, k_49, k_57, k_100, k_110, k_127, k_128, k_196, k_255, k_1000, k_1024, k_10000, nI_add, nI_mul, nI_div, irm_nI, nle, nlt, neq, gd_t, inb_nI, cl_nI, bnd_eq, gdT, gdo, gb0, gb1, gbi, bi0, bi1, bi0r, Option.bind_some, bndE_some, ite_t, ite_f, k_m9, k_m1, k_13, k_15, k_18, k_19, k_112, k_114, k_115, k_98, k_103, k_116, k_119, k_47, k_82, k_50, k_51, k_99, k_700, k_197, ne9, ne9s, nI_ne0s, ↓reduceIte, lcg, hge, thr_eq, le00, a1]
          rw [u1]
          simp (disch := omega) only [k_0, k_1, k_2, k_3, k_4, k_5, k_6, k_7, k_8, k_9, k_10, k_14, k_16, k_28, k_30, k_48, k_49, k_57, k_100, k_110, k_127, k_128, k_196, k_255, k_1000, k_1024, k_10000, nI_add, nI_mul, nI_div, irm_nI, nle, nlt, neq, gd_t, inb_nI, cl_nI, bnd_eq, gdT, gdo, gb0, gb1, gbi, bi0, bi1, bi0r, Option.bind_some, bndE_some, ite_t, ite_f, k_m9, k_m1, k_13, k_15, k_18, k_19, k_112, k_114, k_115, k_98, k_103, k_116, k_119, k_47, k_82, k_50, k_51, k_99, k_700, k_197, ne9, ne9s, nI_ne0s, ↓reduceIte, b1]
      · have hz : ¬ s / 100000 ^ n = 0 := fun e => by
          have := Nat.div_add_mod s (100000 ^ n)
          have h2 := Nat.mod_lt s hp0
          rw [e, Nat.mul_zero] at this
          omega
        refine ⟨.inr 1, _, ⟨ga, gr, gm, gs⟩, fun S hS => ⟨S, ?_, Co.rf S, hS⟩, fun T hT => ?_⟩
        · have hne : (lI (s / 100000 ^ n) = lI 0) = False := eq_false (by rw [lI_eq (by omega) (by decide)]; exact hz)
          unfold m_X5_runScript m_X5_runScript_J26
          rw [if_neg h3n]
          simp (disch := omega) only [k_0, k_1, k_2, k_3, k_4, k_5, k_6, k_7, k_8, k_9, k_10, k_14, k_16, k_28, k_30, k_48, k_49, k_57, k_100, k_110, k_127, k_128, k_196, k_255, k_1000, k_1024, k_10000, nI_add, nI_mul, nI_div, irm_nI, nle, nlt, neq, gd_t, inb_nI, cl_nI, bnd_eq, gdT, gdo, gb0, gb1, gbi, bi0, bi1, bi0r, Option.bind_some, bndE_some, ite_t, ite_f, k_m9, k_m1, k_13, k_15, k_18, k_19, k_112, k_114, k_115, k_98, k_103, k_116, k_119, k_47, k_82, k_50, k_51, k_99, k_700, k_197, ne9, ne9s, nI_ne0s, ↓reduceIte, lcl, hw', wog_ok hs (show n < 1000 by omega), lq0, hw2, lce, hne]
        · obtain ⟨q1, q2⟩ := q_thr hT (nI 1)
          refine ⟨nI 0, _, ?_, q1, q2, thr_s _ _⟩
          have hge : (lI (100000 ^ n) ≤ lI s) = True := eq_true (by rw [lI_le hp hs]; omega)
          unfold m_X6_runScript m_X6_runScript_J20
          simp (disch := omega) only [k_0, k_1, k_2, k_3, k_4, k_5, k_6, k_7, k_8, k_9, k_10, k_14, k_16, k_28, k_30, k_48, k_49, k_57, k_100, k_110, k_127, k_128, k_196, k_255, k_1000, k_1024, k_10000, nI_add, nI_mul, nI_div, irm_nI, nle, nlt, neq, gd_t, inb_nI, cl_nI, bnd_eq, gdT, gdo, gb0, gb1, gbi, bi0, bi1, bi0r, Option.bind_some, bndE_some, ite_t, ite_f, k_m9, k_m1, k_13, k_15, k_18, k_19, k_112, k_114, k_115, k_98, k_103, k_116, k_119, k_47, k_82, k_50, k_51, k_99, k_700, k_197, ne9, ne9s, nI_ne0s, ↓reduceIte, hin, Bool.true_eq_false, lcl, hw', lq5]
          rw [limit_ok n1 n3]
          unfold m_X6_runScript_J55
          simp (disch := omega) only [k_0, k_1, k_2, k_3, k_4, k_5, k_6, k_7, k_8, k_9, k_10, k_14, k_16, k_28, k_30, k_48, k_49, k_57, k_100, k_110, k_127, k_128, k_196, k_255, k_1000, k_1024, k_10000, nI_add, nI_mul, nI_div, irm_nI, nle, nlt, neq, gd_t, inb_nI, cl_nI, bnd_eq, gdT, gdo, gb0, gb1, gbi, bi0, bi1, bi0r, Option.bind_some, bndE_some, ite_t, ite_f, k_m9, k_m1, k_13, k_15, k_18, k_19, k_112, k_114, k_115, k_98, k_103, k_116, k_119, k_47, k_82, k_50, k_51, k_99, k_700, k_197, ne9, ne9s, nI_ne0s, ↓reduceIte, lcg, hge, msx_bad]
  · rw [B_false.mpr hv] at hin
    refine ⟨.inr 1, _, ⟨ga, gr, gm, gs⟩, fun S hS => ⟨S, ?_, Co.rf S, hS⟩, fun T hT => ?_⟩
    · unfold m_X5_runScript m_X5_runScript_J26
      by_cases h1 : v < 1
      · rw [if_pos h1]
      · rw [if_neg h1]
        by_cases h2 : (3 : Int32) < v
        · rw [if_pos h2]
        · exfalso
          refine hv ?_
          have t1 : (1 : Int32).toInt = 1 := by decide
          have t3 : (3 : Int32).toInt = 3 := by decide
          have t4 : (nI 4).toInt = 4 := by decide
          have t0 : (0 : Int32).toInt = 0 := rfl
          rw [Int32.lt_iff_toInt_lt] at h1 h2
          obtain ⟨k, hk, e⟩ := of_range (i := v) (n := 4) (by rw [Int32.lt_iff_toInt_lt]; omega) (by rw [Int32.le_iff_toInt_le]; omega) (by omega)
          refine ⟨k, ?_, by omega, e⟩
          rw [e, nI_toInt (by omega)] at h1
          omega
    · obtain ⟨q1, q2⟩ := q_thr hT (nI 1)
      obtain ⟨l, hl⟩ := limit_bad (T := T) (v1 := v) (v2 := w)
      refine ⟨nI 0, _, ?_, q1, q2, thr_s _ _⟩
      unfold m_X6_runScript m_X6_runScript_J19 m_X6_runScript_J20
      simp (disch := omega) only [k_0, k_1, k_2, k_3, k_4, k_5, k_6, k_7, k_8, k_9, k_10, k_14, k_16, k_28, k_30, k_48, k_49, k_57, k_100, k_110, k_127, k_128, k_196, k_255, k_1000, k_1024, k_10000, nI_add, nI_mul, nI_div, irm_nI, nle, nlt, neq, gd_t, inb_nI, cl_nI, bnd_eq, gdT, gdo, gb0, gb1, gbi, bi0, bi1, bi0r, Option.bind_some, bndE_some, ite_t, ite_f, k_m9, k_m1, k_13, k_15, k_18, k_19, k_112, k_114, k_115, k_98, k_103, k_116, k_119, k_47, k_82, k_50, k_51, k_99, k_700, k_197, ne9, ne9s, nI_ne0s, ↓reduceIte, hin, lq5]
      rw [hl]
      simp (disch := omega) only [k_0, k_1, k_2, k_3, k_4, k_5, k_6, k_7, k_8, k_9, k_10, k_14, k_16, k_28, k_30, k_48, k_49, k_57, k_100, k_110, k_127, k_128, k_196, k_255, k_1000, k_1024, k_10000, nI_add, nI_mul, nI_div, irm_nI, nle, nlt, neq, gd_t, inb_nI, cl_nI, bnd_eq, gdT, gdo, gb0, gb1, gbi, bi0, bi1, bi0r, Option.bind_some, bndE_some, ite_t, ite_f, k_m9, k_m1, k_13, k_15, k_18, k_19, k_112, k_114, k_115, k_98, k_103, k_116, k_119, k_47, k_82, k_50, k_51, k_99, k_700, k_197, ne9, ne9s, nI_ne0s, ↓reduceIte, m_X6_runScript_J55, msx_bad]
