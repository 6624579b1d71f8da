/-! learning: the hull, by the class and by the model -/
def Lc (H : Nat → Nat → Bool) (a b : Nat) : Prop := ∀ T : Nat → Nat → Prop, (∀ a b, H a b = true → T a b) → (∀ a b c, T a b → T b c → T a c) → T a b
theorem Lc_base {H : Nat → Nat → Bool} {a b : Nat} (h : H a b = true) : Lc H a b := fun T h1 _ => h1 a b h
theorem Lc_tr {H : Nat → Nat → Bool} {a b c : Nat} (h : Lc H a b) (g : Lc H b c) : Lc H a c := fun T h1 h2 => h2 a b c (h T h1 h2) (g T h1 h2)
/-- a closed set that holds all that a hears of -/
theorem Lc_set {H : Nat → Nat → Bool} {a b : Nat} (h : Lc H a b) (P : Nat → Prop) (h1 : ∀ v, H a v = true → P v) (h2 : ∀ u v, P u → H u v = true → P v) : P b := by
  have := h (fun x y => ∀ P : Nat → Prop, (∀ v, H x v = true → P v) → (∀ u v, P u → H u v = true → P v) → P y) (fun x y q P p1 _ => p1 y q) (fun x y z q1 q2 P p1 p2 => q2 P (fun v hv => p2 y v (q1 P p1 p2) hv) p2)
  exact this P h1 h2
noncomputable def lr (H : Nat → Nat → Bool) (a b : Nat) : Bool := decide (a ≠ b) && B (Lc H a b)
/-- who hears of whom -/
def hr (K : Kd) (Z : Rt) (a b : Nat) : Bool := (decide (K a ≠ 0) && Z a 2 b) || (decide (K b ≠ 0) && Z b 3 a)
theorem hr_WF {n : Nat} {K : Kd} {Z : Rt} (hw : WF n Z) {a b : Nat} (h : hr K Z a b = true) : a < n ∧ b < n := by
  unfold hr at h
  simp only [Bool.or_eq_true, Bool.and_eq_true] at h
  rcases h with h | h
  · exact ⟨(hw _ _ _ h.2).1, (hw _ _ _ h.2).2.2.1⟩
  · exact ⟨(hw _ _ _ h.2).2.2.1, (hw _ _ _ h.2).1⟩
def HB (n : Nat) (H : Nat → Nat → Bool) : Prop := ∀ a b, H a b = true → a < n ∧ b < n
theorem Lc_HB {n : Nat} {H : Nat → Nat → Bool} (h : HB n H) {a b : Nat} (q : Lc H a b) : a < n ∧ b < n := q (fun a b => a < n ∧ b < n) (fun a b r => h a b r) (fun a b c r1 r2 => ⟨r1.1, r2.2⟩)
/-- a relation that is transitive and lies between is the hull -/
theorem Lc_eq {H L : Nat → Nat → Bool} (h1 : ∀ a b, H a b = true → L a b = true) (h2 : ∀ a b, L a b = true → Lc H a b) (h3 : ∀ a b c, L a b = true → L b c = true → L a c = true) (a b : Nat) : L a b = B (Lc H a b) := by
  cases hl : L a b
  · rw [B_false.mpr]
    intro q
    have := q (fun a b => L a b = true) h1 h3
    rw [hl] at this; cases this
  · rw [B_iff.mpr (h2 a b hl)]
/-- paths by their lengths -/
noncomputable def Qp (H : Nat → Nat → Bool) : Nat → Nat → Nat → Bool
  | 0 => H
  | r + 1 => fun a b => Qp H r a b || B (∃ m, Qp H r a m = true ∧ H m b = true)
theorem Qp_succ {H : Nat → Nat → Bool} {r a b : Nat} : Qp H (r + 1) a b = true ↔ Qp H r a b = true ∨ ∃ m, Qp H r a m = true ∧ H m b = true := by
  show (Qp H r a b || B _) = true ↔ _
  rw [Bool.or_eq_true, B_iff]
theorem Qp_Lc {H : Nat → Nat → Bool} : ∀ {r a b : Nat}, Qp H r a b = true → Lc H a b
  | 0, _, _, h => Lc_base h
  | r + 1, a, b, h => by
    rcases Qp_succ.mp h with h | ⟨m, h1, h2⟩
    · exact Qp_Lc h
    · exact Lc_tr (Qp_Lc h1) (Lc_base h2)
theorem Qp_mono {H : Nat → Nat → Bool} {r a b : Nat} : ∀ {d : Nat}, Qp H r a b = true → Qp H (r + d) a b = true
  | 0, h => h
  | d + 1, h => Qp_succ.mpr (Or.inl (Qp_mono h))
/-- n steps are enough -/
theorem Qp_n {n : Nat} {H : Nat → Nat → Bool} (h : HB n H) {a b : Nat} (q : Lc H a b) : Qp H n a b = true := by
  have grow : ∀ r, (∀ j, j < r → ∃ v, Qp H (j + 1) a v = true ∧ Qp H j a v = false) → r ≤ fb_ct (Qp H r a) n := by
    intro r
    induction r with
    | zero => intro _; exact Nat.zero_le _
    | succ r ih =>
      intro hj
      have h1 := ih fun j hjr => hj j (by omega)
      obtain ⟨v, h2, h3⟩ := hj r (by omega)
      have := fb_ct_lt (p := Qp H r a) (q := Qp H (r + 1) a) (n := n) (fun k _ hk => Qp_succ.mpr (Or.inl hk)) (Lc_HB h (Qp_Lc h2)).2 h3 h2
      omega
  have : ∃ r, r ≤ n ∧ ∀ v, Qp H (r + 1) a v = true → Qp H r a v = true := by
    refine Classical.byContradiction fun hx => ?_
    have h1 := grow (n + 1) fun j hj => Classical.byContradiction fun hy => hx ⟨j, by omega, fun v hv => by
      cases hq : Qp H j a v
      · exact absurd ⟨v, hv, hq⟩ hy
      · rfl⟩
    have := fb_ct_le (Qp H (n + 1) a) n
    omega
  obtain ⟨r, hr, hs⟩ := this
  have h1 := Lc_set q (fun v => Qp H r a v = true) (fun v hv => by have := Qp_mono (d := r) (show Qp H 0 a v = true from hv); rwa [Nat.zero_add] at this) (fun u v hu hv => hs v (Qp_succ.mpr (Or.inr ⟨u, hu, hv⟩)))
  have := Qp_mono (d := n - r) h1
  rwa [show r + (n - r) = n by omega] at this
/-- the rows of an array as a relation -/
def Rw (S : Hs) (arr N : Nat) (L : Nat → Nat → Bool) : Prop := ∀ a, a < N → ∀ b, b < 32 → bt (gA S arr a) b = L a b
variable {S : Hs} {i n : Nat} {K : Kd} {Z T : Rt}
/-! the class -/
theorem heard_ok (h : RepS S i n K Z) {a : Nat} (ha : a < 7) : ∃ w, m_X1_heard i (nI a) S = some w ∧ ∀ b, b < 32 → bt w b = hr K Z a b := by
  have hn := h.1
  have hw := h.2.1
  have hpz : ∀ x k y, (decide (x < n ∧ K x ≠ 0) && Z x k y) = (decide (K x ≠ 0) && Z x k y) := fun x k y => by
    cases hz : Z x k y
    · simp
    · simp [(hw _ _ _ hz).1]
  unfold m_X1_heard
  obtain ⟨r, h1, h2⟩ := loopO_inv (f := fun x : Int32 × Int32 => m_X1_heard_L4 i (nI a) S x.1 x.2) (fun c q => c ≤ n ∧ q.2 = nI c ∧ ∀ b, b < 32 → bt q.1 b = (decide (b < c) && hr K Z a b)) (fun w => ∀ b, b < 32 → bt w b = hr K Z a b) 7 (fun c q hq => by
    obtain ⟨w, v⟩ := q
    obtain ⟨hc, hv, hb⟩ := hq
    simp only at hv hb
    subst hv
    by_cases hcn : c < n
    · refine Or.inl ⟨by omega, ?_⟩
      have goal : m_X1_heard_L4 i (nI a) S w (nI c) = some (.inl (if hr K Z a c = true then w ||| (nI 1 <<< (nI c &&& 31)) else w, nI (c + 1))) := by
        have e1 := hpz a 2 c
        have e2 := hpz c 3 a
        unfold hr
        rw [← e1, ← e2]
        simp only [m_X1_heard_L4, m_X1_heard_J37, m_X1_heard_J38, m_X1_heard_J65, m_X1_heard_J66, m_X1_heard_J78, m_X1_heard_J84, h.2.2.1]
        simp (disch := omega) only [k_0, k_1, k_2, k_3, k_4, k_5, k_6, k_7, k_8, k_9, k_10, k_14, k_16, k_28, k_30, k_48, k_49, k_57, k_100, k_110, k_127, k_128, k_196, k_255, k_1000, k_1024, k_10000, nI_add, nI_mul, nI_div, irm_nI, nle, nlt, neq, gd_t, inb_nI, cl_nI, bnd_eq, gdT, gdo, gb0, gb1, gbi, bi0, bi1, bi0r, Option.bind_some, bndE_some, ite_t, ite_f, k_m9, k_m1, k_13, k_15, k_18, k_19, k_112, k_114, k_115, k_98, k_103, k_116, k_119, k_47, k_82, k_50, k_51, k_99, k_700, k_197, ne9, ne9s, nI_ne0s, ↓reduceIte, isPerson_bi h (show a < 32 by omega), isPerson_bi h (show c < 32 by omega), ix_nI, has_bi h ha (show 2 < 4 by omega) (show c < 7 by omega), has_bi h (show c < 7 by omega) (show 3 < 4 by omega) ha]
        cases decide (a < n ∧ K a ≠ 0) <;> cases decide (c < n ∧ K c ≠ 0) <;> cases Z a 2 c <;> cases Z c 3 a <;> simp [neq (show 1 < 1000000 by omega) (show 0 < 1000000 by omega)]
      refine ⟨_, goal, by omega, rfl, fun b hb32 => ?_⟩
      show bt (if hr K Z a c = true then _ else _) b = _
      by_cases hq : hr K Z a c = true
      · rw [if_pos hq, show nI 1 = (1 : Int32) from rfl, bt_set _ (show c < 32 by omega) hb32, hb b hb32]
        by_cases hbc : b = c
        · subst hbc
          simp [hq]
        · rw [show decide (b < c + 1) = decide (b < c) by rw [decide_eq_decide]; omega]
          simp [hbc]
      · rw [if_neg hq, hb b hb32]
        by_cases hbc : b = c
        · subst hbc
          simp [Bool.eq_false_iff.mpr hq]
        · rw [show decide (b < c + 1) = decide (b < c) by rw [decide_eq_decide]; omega]
    · obtain rfl : c = n := by omega
      refine Or.inr ⟨w, ?_, fun b hb32 => ?_⟩
      · simp only [m_X1_heard_L4, h.2.2.1]
        simp (disch := omega) only [k_0, k_1, k_2, k_3, k_4, k_5, k_6, k_7, k_8, k_9, k_10, k_14, k_16, k_28, k_30, k_48, k_49, k_57, k_100, k_110, k_127, k_128, k_196, k_255, k_1000, k_1024, k_10000, nI_add, nI_mul, nI_div, irm_nI, nle, nlt, neq, gd_t, inb_nI, cl_nI, bnd_eq, gdT, gdo, gb0, gb1, gbi, bi0, bi1, bi0r, Option.bind_some, bndE_some, ite_t, ite_f, k_m9, k_m1, k_13, k_15, k_18, k_19, k_112, k_114, k_115, k_98, k_103, k_116, k_119, k_47, k_82, k_50, k_51, k_99, k_700, k_197, ne9, ne9s, nI_ne0s, ↓reduceIte]
      · rw [hb b hb32]
        cases hq : hr K Z a b
        · simp
        · simp [(hr_WF hw hq).2]) (x := (nI 0, nI 0)) ⟨by omega, rfl, fun b hb => by rw [show nI 0 = (0 : Int32) from rfl, b_0]; simp⟩
  exact ⟨r, congrArg (fun o : Option Int32 => o.bind fun y => some y) h1, h2⟩
theorem OnA.repS {c : Nat} {S T : Hs} (h : OnA c S T) (g : RepS S i n K Z) (hc : c ≠ i + 1) : RepS T i n K Z := by
  obtain ⟨a1, a2, a3, a4, a5, a6⟩ := g
  have e : ∀ x, gA T (i + 1) x = gA S (i + 1) x := fun x => h.2.1 _ _ (fun q => hc q.symm)
  exact ⟨a1, a2, by rw [h.1]; exact a3, fun b hb => by rw [h.1]; exact a4 b hb, fun b hb => by rw [h.1]; exact a5 b hb, fun x hx b hb => by rw [e]; exact a6 x hx b hb⟩
theorem learnFollow_ok (h : RepS S i n K Z) (hi : 11 ≠ i + 1) : ∃ S', m_X1_follow i S = some S' ∧ OnA 11 S S' ∧ Rw S' 11 7 (lr (hr K Z)) := by
  have hn := h.1
  have hw := h.2.1
  have hB : HB n (hr K Z) := fun a b q => hr_WF hw q
  unfold m_X1_follow
  obtain ⟨S1, e1, e2, e3⟩ := loopO_inv (f := fun x : Int32 × Hs => m_X1_follow_L2 i x.1 x.2) (fun c q => c ≤ 7 ∧ q.1 = nI c ∧ OnA 11 S q.2 ∧ Rw q.2 11 c (hr K Z)) (fun U => OnA 11 S U ∧ Rw U 11 7 (hr K Z)) 7 (fun c q hq => by
    obtain ⟨v, U⟩ := q
    obtain ⟨hc, hv, a1, a2⟩ := hq
    simp only at hv a1 a2
    subst hv
    by_cases hc7 : c < 7
    · obtain ⟨w, w1, w2⟩ := heard_ok (a1.repS h hi) hc7
      refine Or.inl ⟨hc7, ?_⟩
      simp only [m_X1_follow_L2]
      simp (disch := omega) only [k_0, k_1, k_2, k_3, k_4, k_5, k_6, k_7, k_8, k_9, k_10, k_14, k_16, k_28, k_30, k_48, k_49, k_57, k_100, k_110, k_127, k_128, k_196, k_255, k_1000, k_1024, k_10000, nI_add, nI_mul, nI_div, irm_nI, nle, nlt, neq, gd_t, inb_nI, cl_nI, bnd_eq, gdT, gdo, gb0, gb1, gbi, bi0, bi1, bi0r, Option.bind_some, bndE_some, ite_t, ite_f, k_m9, k_m1, k_13, k_15, k_18, k_19, k_112, k_114, k_115, k_98, k_103, k_116, k_119, k_47, k_82, k_50, k_51, k_99, k_700, k_197, ne9, ne9s, nI_ne0s, ↓reduceIte, w1]
      refine ⟨_, rfl, by omega, rfl, a1.tr (OnA.sA _ _), fun a ha b hb => ?_⟩
      show bt (gA (sA U 11 c w) 11 a) b = _
      rw [gA_sA, if_pos rfl]
      by_cases hac : a = c
      · subst hac
        rw [if_pos rfl, w2 b hb]
      · rw [if_neg hac]
        exact a2 a (by omega) b hb
    · obtain rfl : c = 7 := by omega
      refine Or.inr ⟨U, ?_, a1, a2⟩
      simp only [m_X1_follow_L2]
      simp (disch := omega) only [k_0, k_1, k_2, k_3, k_4, k_5, k_6, k_7, k_8, k_9, k_10, k_14, k_16, k_28, k_30, k_48, k_49, k_57, k_100, k_110, k_127, k_128, k_196, k_255, k_1000, k_1024, k_10000, nI_add, nI_mul, nI_div, irm_nI, nle, nlt, neq, gd_t, inb_nI, cl_nI, bnd_eq, gdT, gdo, gb0, gb1, gbi, bi0, bi1, bi0r, Option.bind_some, bndE_some, ite_t, ite_f, k_m9, k_m1, k_13, k_15, k_18, k_19, k_112, k_114, k_115, k_98, k_103, k_116, k_119, k_47, k_82, k_50, k_51, k_99, k_700, k_197, ne9, ne9s, nI_ne0s, ↓reduceIte]) (x := (nI 0, S)) ⟨by omega, rfl, OnA.rf _ _, fun a ha => by omega⟩
  simp (disch := omega) only [k_0, k_1, k_2, k_3, k_4, k_5, k_6, k_7, k_8, k_9, k_10, k_14, k_16, k_28, k_30, k_48, k_49, k_57, k_100, k_110, k_127, k_128, k_196, k_255, k_1000, k_1024, k_10000, nI_add, nI_mul, nI_div, irm_nI, nle, nlt, neq, gd_t, inb_nI, cl_nI, bnd_eq, gdT, gdo, gb0, gb1, gbi, bi0, bi1, bi0r, Option.bind_some, bndE_some, ite_t, ite_f, k_m9, k_m1, k_13, k_15, k_18, k_19, k_112, k_114, k_115, k_98, k_103, k_116, k_119, k_47, k_82, k_50, k_51, k_99, k_700, k_197, ne9, ne9s, nI_ne0s, ↓reduceIte]
  rw [e1]
  simp (disch := omega) only [k_0, k_1, k_2, k_3, k_4, k_5, k_6, k_7, k_8, k_9, k_10, k_14, k_16, k_28, k_30, k_48, k_49, k_57, k_100, k_110, k_127, k_128, k_196, k_255, k_1000, k_1024, k_10000, nI_add, nI_mul, nI_div, irm_nI, nle, nlt, neq, gd_t, inb_nI, cl_nI, bnd_eq, gdT, gdo, gb0, gb1, gbi, bi0, bi1, bi0r, Option.bind_some, bndE_some, ite_t, ite_f, k_m9, k_m1, k_13, k_15, k_18, k_19, k_112, k_114, k_115, k_98, k_103, k_116, k_119, k_47, k_82, k_50, k_51, k_99, k_700, k_197, ne9, ne9s, nI_ne0s, ↓reduceIte]
  obtain ⟨S2, f1, f2, L, f3, f4, f5, f6⟩ := loopO_inv (f := fun x : Int32 × Hs => m_X1_follow_L27 x.1 x.2) (fun m q => m ≤ 7 ∧ q.1 = nI m ∧ OnA 11 S q.2 ∧ ∃ L : Nat → Nat → Bool, Rw q.2 11 7 L ∧ (∀ a b, hr K Z a b = true → L a b = true) ∧ (∀ a b, L a b = true → Lc (hr K Z) a b) ∧ ∀ c, c < m → ∀ a b, L a c = true → L c b = true → L a b = true) (fun U => OnA 11 S U ∧ ∃ L : Nat → Nat → Bool, Rw U 11 7 L ∧ (∀ a b, hr K Z a b = true → L a b = true) ∧ (∀ a b, L a b = true → Lc (hr K Z) a b) ∧ ∀ c, c < 7 → ∀ a b, L a c = true → L c b = true → L a b = true) 7 (fun m q hq => by
    obtain ⟨v, U⟩ := q
    obtain ⟨hm, hv, a1, L, a2, a3, a4, a5⟩ := hq
    simp only at hv a1 a2
    subst hv
    by_cases hm7 : m < 7
    · obtain ⟨V, k1, k2, k3⟩ := loopO_inv (f := fun x : Int32 × Hs => m_X1_follow_L35 (nI m) x.1 x.2) (fun c q => c ≤ 7 ∧ q.1 = nI c ∧ OnA 11 S q.2 ∧ Rw q.2 11 7 (fun a b => L a b || (decide (a < c) && (L a m && L m b)))) (fun U => OnA 11 S U ∧ Rw U 11 7 (fun a b => L a b || (L a m && L m b))) 7 (fun c q hq => by
        obtain ⟨v, V⟩ := q
        obtain ⟨hc, hv, b1, b2⟩ := hq
        simp only at hv b1 b2
        subst hv
        by_cases hc7 : c < 7
        · have bc : ∀ b, b < 32 → bt (gA V 11 c) b = L c b := fun b hb => by rw [b2 c hc7 b hb]; simp
          have bm : ∀ b, b < 32 → bt (gA V 11 m) b = L m b := fun b hb => by
            rw [b2 m hm7 b hb]
            dsimp only
            cases L m b <;> cases L m m <;> simp
          refine Or.inl ⟨hc7, ?_⟩
          simp only [m_X1_follow_L35, m_X1_follow_J69]
          simp (disch := omega) only [k_0, k_1, k_2, k_3, k_4, k_5, k_6, k_7, k_8, k_9, k_10, k_14, k_16, k_28, k_30, k_48, k_49, k_57, k_100, k_110, k_127, k_128, k_196, k_255, k_1000, k_1024, k_10000, nI_add, nI_mul, nI_div, irm_nI, nle, nlt, neq, gd_t, inb_nI, cl_nI, bnd_eq, gdT, gdo, gb0, gb1, gbi, bi0, bi1, bi0r, Option.bind_some, bndE_some, ite_t, ite_f, k_m9, k_m1, k_13, k_15, k_18, k_19, k_112, k_114, k_115, k_98, k_103, k_116, k_119, k_47, k_82, k_50, k_51, k_99, k_700, k_197, ne9, ne9s, nI_ne0s, ↓reduceIte, and1 _ (show m < 32 by omega), bc m (by omega)]
          cases hq : L c m
          · rw [if_pos rfl]
            refine ⟨_, rfl, by omega, rfl, b1, fun a ha b hb => ?_⟩
            show bt (gA V 11 a) b = _
            rw [b2 a ha b hb]
            dsimp only
            by_cases hac : a = c
            · subst hac
              simp [hq]
            · rw [show decide (a < c + 1) = decide (a < c) by rw [decide_eq_decide]; omega]
          · rw [if_neg (by decide)]
            refine ⟨_, rfl, by omega, rfl, b1.tr (OnA.sA _ _), fun a ha b hb => ?_⟩
            show bt (gA (sA V 11 c (gA V 11 c ||| gA V 11 m)) 11 a) b = _
            rw [gA_sA, if_pos rfl]
            by_cases hac : a = c
            · subst hac
              rw [if_pos rfl, b_or, bc b hb, bm b hb]
              dsimp only
              rw [hq]
              simp
            · rw [if_neg hac, b2 a ha b hb]
              dsimp only
              rw [show decide (a < c + 1) = decide (a < c) by rw [decide_eq_decide]; omega]
        · obtain rfl : c = 7 := by omega
          refine Or.inr ⟨V, ?_, b1, fun a ha b hb => by rw [b2 a ha b hb]; dsimp only; rw [decide_eq_true ha, Bool.true_and]⟩
          simp only [m_X1_follow_L35]
          simp (disch := omega) only [k_0, k_1, k_2, k_3, k_4, k_5, k_6, k_7, k_8, k_9, k_10, k_14, k_16, k_28, k_30, k_48, k_49, k_57, k_100, k_110, k_127, k_128, k_196, k_255, k_1000, k_1024, k_10000, nI_add, nI_mul, nI_div, irm_nI, nle, nlt, neq, gd_t, inb_nI, cl_nI, bnd_eq, gdT, gdo, gb0, gb1, gbi, bi0, bi1, bi0r, Option.bind_some, bndE_some, ite_t, ite_f, k_m9, k_m1, k_13, k_15, k_18, k_19, k_112, k_114, k_115, k_98, k_103, k_116, k_119, k_47, k_82, k_50, k_51, k_99, k_700, k_197, ne9, ne9s, nI_ne0s, ↓reduceIte]) (x := (nI 0, U)) ⟨by omega, rfl, a1, fun a ha b hb => by rw [a2 a ha b hb]; simp⟩
      refine Or.inl ⟨hm7, ?_⟩
      simp only [m_X1_follow_L27]
      simp (disch := omega) only [k_0, k_1, k_2, k_3, k_4, k_5, k_6, k_7, k_8, k_9, k_10, k_14, k_16, k_28, k_30, k_48, k_49, k_57, k_100, k_110, k_127, k_128, k_196, k_255, k_1000, k_1024, k_10000, nI_add, nI_mul, nI_div, irm_nI, nle, nlt, neq, gd_t, inb_nI, cl_nI, bnd_eq, gdT, gdo, gb0, gb1, gbi, bi0, bi1, bi0r, Option.bind_some, bndE_some, ite_t, ite_f, k_m9, k_m1, k_13, k_15, k_18, k_19, k_112, k_114, k_115, k_98, k_103, k_116, k_119, k_47, k_82, k_50, k_51, k_99, k_700, k_197, ne9, ne9s, nI_ne0s, ↓reduceIte]
      rw [k1]
      refine ⟨_, rfl, by omega, rfl, k2, _, k3, fun a b q => ?_, fun a b q => ?_, fun c hc a b q1 q2 => ?_⟩
      · simp [a3 a b q]
      · simp only [Bool.or_eq_true, Bool.and_eq_true] at q
        rcases q with q | q
        · exact a4 a b q
        · exact Lc_tr (a4 _ _ q.1) (a4 _ _ q.2)
      · simp only [Bool.or_eq_true, Bool.and_eq_true] at q1 q2 ⊢
        by_cases hcm : c = m
        · subst hcm
          have q3 : L a c = true := by
            rcases q1 with q1 | q1
            · exact q1
            · exact q1.1
          have q4 : L c b = true := by
            rcases q2 with q2 | q2
            · exact q2
            · exact q2.2
          exact Or.inr ⟨q3, q4⟩
        · have hcl := a5 c (by omega)
          rcases q1 with q1 | q1 <;> rcases q2 with q2 | q2
          · exact Or.inl (hcl a b q1 q2)
          · exact Or.inr ⟨hcl a m q1 q2.1, q2.2⟩
          · exact Or.inr ⟨q1.1, hcl m b q1.2 q2⟩
          · exact Or.inr ⟨q1.1, q2.2⟩
    · obtain rfl : m = 7 := by omega
      refine Or.inr ⟨U, ?_, a1, L, a2, a3, a4, a5⟩
      simp only [m_X1_follow_L27]
      simp (disch := omega) only [k_0, k_1, k_2, k_3, k_4, k_5, k_6, k_7, k_8, k_9, k_10, k_14, k_16, k_28, k_30, k_48, k_49, k_57, k_100, k_110, k_127, k_128, k_196, k_255, k_1000, k_1024, k_10000, nI_add, nI_mul, nI_div, irm_nI, nle, nlt, neq, gd_t, inb_nI, cl_nI, bnd_eq, gdT, gdo, gb0, gb1, gbi, bi0, bi1, bi0r, Option.bind_some, bndE_some, ite_t, ite_f, k_m9, k_m1, k_13, k_15, k_18, k_19, k_112, k_114, k_115, k_98, k_103, k_116, k_119, k_47, k_82, k_50, k_51, k_99, k_700, k_197, ne9, ne9s, nI_ne0s, ↓reduceIte]) (x := (nI 0, S1)) ⟨by omega, rfl, e2, _, e3, fun _ _ q => q, fun a b q => Lc_base q, fun c hc => by omega⟩
  rw [f1]
  simp (disch := omega) only [k_0, k_1, k_2, k_3, k_4, k_5, k_6, k_7, k_8, k_9, k_10, k_14, k_16, k_28, k_30, k_48, k_49, k_57, k_100, k_110, k_127, k_128, k_196, k_255, k_1000, k_1024, k_10000, nI_add, nI_mul, nI_div, irm_nI, nle, nlt, neq, gd_t, inb_nI, cl_nI, bnd_eq, gdT, gdo, gb0, gb1, gbi, bi0, bi1, bi0r, Option.bind_some, bndE_some, ite_t, ite_f, k_m9, k_m1, k_13, k_15, k_18, k_19, k_112, k_114, k_115, k_98, k_103, k_116, k_119, k_47, k_82, k_50, k_51, k_99, k_700, k_197, ne9, ne9s, nI_ne0s, ↓reduceIte]
  have hL : ∀ a b, L a b = B (Lc (hr K Z) a b) := Lc_eq f4 f5 fun a b c q1 q2 => f6 b (by have := Lc_HB hB (f5 a b q1); omega) a c q1 q2
  obtain ⟨S3, g1, g2, g3⟩ := loopO_inv (f := fun x : Int32 × Hs => m_X1_follow_L83 x.1 x.2) (fun c q => c ≤ 7 ∧ q.1 = nI c ∧ OnA 11 S q.2 ∧ Rw q.2 11 7 (fun a b => if a < c then lr (hr K Z) a b else L a b)) (fun U => OnA 11 S U ∧ Rw U 11 7 (lr (hr K Z))) 7 (fun c q hq => by
    obtain ⟨v, U⟩ := q
    obtain ⟨hc, hv, a1, a2⟩ := hq
    simp only at hv a1 a2
    subst hv
    by_cases hc7 : c < 7
    · refine Or.inl ⟨hc7, ?_⟩
      simp only [m_X1_follow_L83]
      simp (disch := omega) only [k_0, k_1, k_2, k_3, k_4, k_5, k_6, k_7, k_8, k_9, k_10, k_14, k_16, k_28, k_30, k_48, k_49, k_57, k_100, k_110, k_127, k_128, k_196, k_255, k_1000, k_1024, k_10000, nI_add, nI_mul, nI_div, irm_nI, nle, nlt, neq, gd_t, inb_nI, cl_nI, bnd_eq, gdT, gdo, gb0, gb1, gbi, bi0, bi1, bi0r, Option.bind_some, bndE_some, ite_t, ite_f, k_m9, k_m1, k_13, k_15, k_18, k_19, k_112, k_114, k_115, k_98, k_103, k_116, k_119, k_47, k_82, k_50, k_51, k_99, k_700, k_197, ne9, ne9s, nI_ne0s, ↓reduceIte]
      refine ⟨_, rfl, by omega, rfl, a1.tr (OnA.sA _ _), fun a ha b hb => ?_⟩
      show bt (gA (sA U 11 c (gA U 11 c &&& ((nI 1 <<< (nI c &&& 31)) ^^^ m1))) 11 a) b = _
      rw [gA_sA, if_pos rfl]
      by_cases hac : a = c
      · subst hac
        rw [if_pos rfl, show nI 1 = (1 : Int32) from rfl, show m1 = (-1 : Int32) from rfl, bt_clr _ (show a < 32 by omega) hb, a2 a ha b hb]
        dsimp only
        rw [if_neg (by omega), if_pos (by omega), hL]
        unfold lr
        by_cases hab : a = b
        · simp [hab]
        · simp [hab, Ne.symm hab]
      · rw [if_neg hac, a2 a ha b hb]
        dsimp only
        by_cases hlt : a < c
        · rw [if_pos hlt, if_pos (by omega)]
        · rw [if_neg hlt, if_neg (by omega)]
    · obtain rfl : c = 7 := by omega
      refine Or.inr ⟨U, ?_, a1, fun a ha b hb => by rw [a2 a ha b hb]; dsimp only; rw [if_pos ha]⟩
      simp only [m_X1_follow_L83]
      simp (disch := omega) only [k_0, k_1, k_2, k_3, k_4, k_5, k_6, k_7, k_8, k_9, k_10, k_14, k_16, k_28, k_30, k_48, k_49, k_57, k_100, k_110, k_127, k_128, k_196, k_255, k_1000, k_1024, k_10000, nI_add, nI_mul, nI_div, irm_nI, nle, nlt, neq, gd_t, inb_nI, cl_nI, bnd_eq, gdT, gdo, gb0, gb1, gbi, bi0, bi1, bi0r, Option.bind_some, bndE_some, ite_t, ite_f, k_m9, k_m1, k_13, k_15, k_18, k_19, k_112, k_114, k_115, k_98, k_103, k_116, k_119, k_47, k_82, k_50, k_51, k_99, k_700, k_197, ne9, ne9s, nI_ne0s, ↓reduceIte]) (x := (nI 0, S2)) ⟨by omega, rfl, f2, fun a ha b hb => by dsimp only; rw [if_neg (by omega)]; exact f3 a ha b hb⟩
  exact ⟨S3, by rw [g1]; rfl, g2, g3⟩
/-- how many pairs -/
noncomputable def prs (H : Nat → Nat → Bool) : Nat := fb_sm (fun a => fb_ct (lr H a) 7) 7
theorem ct_7 {p : Nat → Bool} {m : Nat} (hm : 7 ≤ m) (h : ∀ b, 7 ≤ b → b < m → p b = false) : fb_ct p m = fb_ct p 7 := by
  have e := fb_ct_split p 7 (m - 7)
  rw [show 7 + (m - 7) = m by omega, fb_ct_zero.mpr (fun k hk => h (7 + k) (by omega) (by omega))] at e
  exact e
theorem lr_HB {n : Nat} {H : Nat → Nat → Bool} (h : HB n H) {a b : Nat} (q : lr H a b = true) : a < n ∧ b < n := by
  unfold lr at q
  simp only [Bool.and_eq_true, B_iff] at q
  exact Lc_HB h q.2
theorem lr_big {n : Nat} {H : Nat → Nat → Bool} (h : HB n H) {a b : Nat} (q : n ≤ a ∨ n ≤ b) : lr H a b = false := by
  cases hq : lr H a b
  · rfl
  · have := lr_HB h hq; omega
theorem countPairs_ok {H : Nat → Nat → Bool} (hn : n ≤ 7) (hB : HB n H) (h : Rw S 11 7 (lr H)) : m_X1_countPairs S = some (nI (prs H)) := by
  unfold m_X1_countPairs
  have hl := loopO_seq (f := fun x : Int32 × Int32 => m_X1_countPairs_L4 S x.1 x.2) (w := fun k => (nI (fb_sm (fun a => fb_ct (lr H a) 7) k), nI k)) 7 (r := nI (prs H)) (fun k hk => by
    have e : fb_ct (bt (gA S 11 k)) 32 = fb_ct (lr H k) 7 := by
      rw [fb_ct_cong (q := lr H k) (fun b hb => h k hk b hb)]
      exact ct_7 (by omega) fun b hb _ => lr_big hB (by omega)
    simp only [m_X1_countPairs_L4]
    simp (disch := omega) only [k_0, k_1, k_2, k_3, k_4, k_5, k_6, k_7, k_8, k_9, k_10, k_14, k_16, k_28, k_30, k_48, k_49, k_57, k_100, k_110, k_127, k_128, k_196, k_255, k_1000, k_1024, k_10000, nI_add, nI_mul, nI_div, irm_nI, nle, nlt, neq, gd_t, inb_nI, cl_nI, bnd_eq, gdT, gdo, gb0, gb1, gbi, bi0, bi1, bi0r, Option.bind_some, bndE_some, ite_t, ite_f, k_m9, k_m1, k_13, k_15, k_18, k_19, k_112, k_114, k_115, k_98, k_103, k_116, k_119, k_47, k_82, k_50, k_51, k_99, k_700, k_197, ne9, ne9s, nI_ne0s, ↓reduceIte, bitCount_ok, e, fb_sm_succ]) (by
    simp only [m_X1_countPairs_L4]
    simp (disch := omega) only [k_0, k_1, k_2, k_3, k_4, k_5, k_6, k_7, k_8, k_9, k_10, k_14, k_16, k_28, k_30, k_48, k_49, k_57, k_100, k_110, k_127, k_128, k_196, k_255, k_1000, k_1024, k_10000, nI_add, nI_mul, nI_div, irm_nI, nle, nlt, neq, gd_t, inb_nI, cl_nI, bnd_eq, gdT, gdo, gb0, gb1, gbi, bi0, bi1, bi0r, Option.bind_some, bndE_some, ite_t, ite_f, k_m9, k_m1, k_13, k_15, k_18, k_19, k_112, k_114, k_115, k_98, k_103, k_116, k_119, k_47, k_82, k_50, k_51, k_99, k_700, k_197, ne9, ne9s, nI_ne0s, ↓reduceIte]
    rfl)
  exact congrArg (fun o : Option Int32 => o.bind fun y => some y) hl
