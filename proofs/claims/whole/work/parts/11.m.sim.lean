/-! simulate on both sides -/
theorem nI_divL {a b : Nat} (ha : a < 2 ^ 31) (hb : b < 1000000) (h0 : 0 < b) : nI a / nI b = nI (a / b) := by
  have hq : a / b ≤ a := Nat.div_le_self _ _
  apply Int32.toInt_inj.mp
  rw [Int32.toInt_div, nI_toInt ha, nI_toInt (by omega), nI_toInt (by omega)]
  have e : ((a : Int).tdiv (b : Int)) = ((a / b : Nat) : Int) := by
    rw [Int.tdiv_eq_ediv_of_nonneg (by omega)]
    exact (Int.natCast_ediv a b).symm
  rw [e]
  generalize a / b = z at hq
  exact Int.bmod_eq_of_le (by omega) (by omega)
theorem irm_nIL {a b : Nat} (ha : a < 2 ^ 31) (hb : b < 1000000) (h0 : 0 < b) : irm (nI a) (nI b) = nI (a % b) := by
  unfold irm
  have h1 : a / b * b ≤ a := Nat.div_mul_le_self a b
  rw [nI_divL ha hb h0, nI_mul, nI_sub h1]
  congr 1
  have := Nat.div_add_mod' a b
  omega
/-- the number drawn -/
def drw (x : Int64) : Int32 := (lushr x 33).toInt32
def drn (x : Int64) : Nat := (drw x).toBitVec.toNat
theorem drw_31 (x : Int64) {j : Nat} (hj : 31 ≤ j) : (drw x).toBitVec.getLsbD j = false := by
  by_cases h32 : 32 ≤ j
  · exact BitVec.getLsbD_of_ge _ _ h32
  · obtain rfl : j = 31 := by omega
    have hs : (((33 : Int32).toInt64.toUInt64 &&& Int64.toUInt64 63).toBitVec % 64).toNat = 33 := by decide +kernel
    have e : (drw x).toBitVec = ((x.toUInt64 >>> ((33 : Int32).toInt64.toUInt64 &&& Int64.toUInt64 63)).toBitVec).signExtend 32 := rfl
    rw [e, UInt64.toBitVec_shiftRight]
    show (BitVec.signExtend 32 (x.toUInt64.toBitVec >>> (((33 : Int32).toInt64.toUInt64 &&& Int64.toUInt64 63).toBitVec % 64).toNat)).getLsbD 31 = false
    rw [hs, BitVec.getLsbD_signExtend, BitVec.getLsbD_ushiftRight, BitVec.getLsbD_of_ge _ (33 + 31) (by omega)]
    simp
theorem drn_ok (x : Int64) : (lushr x 33).toInt32 = nI (drn x) ∧ drn x < 2 ^ 31 := by
  refine ⟨(nI_ofV (drw x)).1, ?_⟩
  refine Nat.lt_pow_two_of_testBit _ fun j hj => ?_
  have := drw_31 x hj
  rw [BitVec.getLsbD] at this
  exact this
/-- the third thing of a try -/
def zb (p y q : Nat) : Nat := if (if q < min p y then q else q + 1) < max p y then (if q < min p y then q else q + 1) else (if q < min p y then q else q + 1) + 1
theorem imin_nI {a b : Nat} (ha : a < 1000000) (hb : b < 1000000) : imin (nI a) (nI b) = nI (min a b) := by
  unfold imin
  by_cases h : b < a
  · rw [if_pos ((nlt hb ha).mpr h), Nat.min_eq_right (by omega)]
  · rw [if_neg (fun e => h ((nlt hb ha).mp e)), Nat.min_eq_left (by omega)]
theorem imax_nI {a b : Nat} (ha : a < 1000000) (hb : b < 1000000) : imax (nI a) (nI b) = nI (max a b) := by
  unfold imax
  by_cases h : a < b
  · rw [if_pos ((nlt ha hb).mpr h), Nat.max_eq_right (by omega)]
  · rw [if_neg (fun e => h ((nlt ha hb).mp e)), Nat.max_eq_left (by omega)]
theorem zb_ok {n p y q : Nat} (hp : p < n) (hy : y < n) (hne : p ≠ y) (hq : q < n - 2) : zb p y q < n ∧ zb p y q ≠ p ∧ zb p y q ≠ y := by
  unfold zb
  rcases Nat.lt_or_ge p y with h | h
  · rw [Nat.min_eq_left (by omega), Nat.max_eq_right (by omega)]
    repeat' split
    all_goals omega
  · rw [Nat.min_eq_right (by omega), Nat.max_eq_left (by omega)]
    repeat' split
    all_goals omega
theorem beside_ok {p y q : Nat} (hp : p < 100) (hy : y < 100) (hq : q < 100) : m_X5_thingBeside (nI p) (nI y) (nI q) = some (nI (zb p y q)) := by
  have h1 : min p y < 100 := by omega
  have h2 : max p y < 100 := by omega
  unfold m_X5_thingBeside m_X5_thingBeside_J14 m_X5_thingBeside_J26 zb
  rw [imin_nI (by omega) (by omega), imax_nI (by omega) (by omega)]
  by_cases h3 : q < min p y
  · rw [if_pos h3, if_pos ((nlt (by omega) (by omega)).mpr h3)]
    by_cases h4 : q < max p y
    · simp (disch := omega) only [k_0, k_1, k_2, k_3, k_4, k_5, k_6, k_7, k_8, k_9, k_10, k_14, k_16, k_28, k_30, k_48, k_49, k_57, k_100, k_110, k_127, k_128, k_196, k_255, k_1000, k_1024, k_10000, nI_add, nI_mul, nI_div, irm_nI, nle, nlt, neq, gd_t, inb_nI, cl_nI, bnd_eq, gdT, gdo, gb0, gb1, gbi, bi0, bi1, bi0r, Option.bind_some, bndE_some, ite_t, ite_f, k_m9, k_m1, k_13, k_15, k_18, k_19, k_112, k_114, k_115, k_98, k_103, k_116, k_119, k_47, k_82, k_50, k_51, k_99, k_700, k_197, ne9, ne9s, nI_ne0s, ↓reduceIte]
    · simp (disch := omega) only [k_0, k_1, k_2, k_3, k_4, k_5, k_6, k_7, k_8, k_9, k_10, k_14, k_16, k_28, k_30, k_48, k_49, k_57, k_100, k_110, k_127, k_128, k_196, k_255, k_1000, k_1024, k_10000, nI_add, nI_mul, nI_div, irm_nI, nle, nlt, neq, gd_t, inb_nI, cl_nI, bnd_eq, gdT, gdo, gb0, gb1, gbi, bi0, bi1, bi0r, Option.bind_some, bndE_some, ite_t, ite_f, k_m9, k_m1, k_13, k_15, k_18, k_19, k_112, k_114, k_115, k_98, k_103, k_116, k_119, k_47, k_82, k_50, k_51, k_99, k_700, k_197, ne9, ne9s, nI_ne0s, ↓reduceIte]
  · rw [if_neg h3, if_neg (fun e => h3 ((nlt (by omega) (by omega)).mp e))]
    by_cases h4 : q + 1 < max p y
    · simp (disch := omega) only [k_0, k_1, k_2, k_3, k_4, k_5, k_6, k_7, k_8, k_9, k_10, k_14, k_16, k_28, k_30, k_48, k_49, k_57, k_100, k_110, k_127, k_128, k_196, k_255, k_1000, k_1024, k_10000, nI_add, nI_mul, nI_div, irm_nI, nle, nlt, neq, gd_t, inb_nI, cl_nI, bnd_eq, gdT, gdo, gb0, gb1, gbi, bi0, bi1, bi0r, Option.bind_some, bndE_some, ite_t, ite_f, k_m9, k_m1, k_13, k_15, k_18, k_19, k_112, k_114, k_115, k_98, k_103, k_116, k_119, k_47, k_82, k_50, k_51, k_99, k_700, k_197, ne9, ne9s, nI_ne0s, ↓reduceIte]
    · simp (disch := omega) only [k_0, k_1, k_2, k_3, k_4, k_5, k_6, k_7, k_8, k_9, k_10, k_14, k_16, k_28, k_30, k_48, k_49, k_57, k_100, k_110, k_127, k_128, k_196, k_255, k_1000, k_1024, k_10000, nI_add, nI_mul, nI_div, irm_nI, nle, nlt, neq, gd_t, inb_nI, cl_nI, bnd_eq, gdT, gdo, gb0, gb1, gbi, bi0, bi1, bi0r, Option.bind_some, bndE_some, ite_t, ite_f, k_m9, k_m1, k_13, k_15, k_18, k_19, k_112, k_114, k_115, k_98, k_103, k_116, k_119, k_47, k_82, k_50, k_51, k_99, k_700, k_197, ne9, ne9s, nI_ne0s, ↓reduceIte]
/-- how many below i are neither p nor y -/
def rkk (p y i : Nat) : Nat := i - (if p < i then 1 else 0) - (if y < i then 1 else 0)
theorem rkk_step {p y i : Nat} (hne : p ≠ y) : rkk p y (i + 1) = if i = p ∨ i = y then rkk p y i else rkk p y i + 1 := by
  unfold rkk
  by_cases h1 : i = p
  · rw [if_pos (Or.inl h1)]
    repeat' split
    all_goals omega
  · by_cases h2 : i = y
    · rw [if_pos (Or.inr h2)]
      repeat' split
      all_goals omega
    · rw [if_neg (show ¬ (i = p ∨ i = y) by omega)]
      repeat' split
      all_goals omega
theorem rkk_zb {p y q i : Nat} (hne : p ≠ y) (h1 : i ≠ p) (h2 : i ≠ y) : q = rkk p y i ↔ i = zb p y q := by
  unfold rkk zb
  rcases Nat.lt_or_ge p y with h | h
  · rw [Nat.min_eq_left (by omega), Nat.max_eq_right (by omega)]
    repeat' split
    all_goals omega
  · rw [Nat.min_eq_right (by omega), Nat.max_eq_left (by omega)]
    repeat' split
    all_goals omega
theorem sub0 {a b : Nat} (ha : a < 1000000) (hb : b < 1000000) : (nI a - nI b = nI 0) = (a = b) := propext (by
  constructor
  · intro e
    have h : nI a - nI b + nI b = nI 0 + nI b := by rw [e]
    rw [Int32.sub_add_cancel, nI_add, Nat.zero_add] at h
    exact (neq ha hb).mp h
  · rintro rfl
    rw [nI_sub (Nat.le_refl _), Nat.sub_self])
theorem beside_loop {T : Hs} {r1 : Int32} {n p y q : Nat} (hn : n < 100) (hp : p < n) (hy : y < n) (hne : p ≠ y) (hq : q < n - 2) : loopO (fun x => m_X6_tries_L54 r1 (nI n) (nI p) (nI y) T x.1 x.2.1 x.2.2) (nI q, m9, nI 0) = some (nI (zb p y q)) := by
  obtain ⟨z1, z2, z3⟩ := zb_ok hp hy hne hq
  have hl := loopO_seq (f := fun x : Int32 × Int32 × Int32 => m_X6_tries_L54 r1 (nI n) (nI p) (nI y) T x.1 x.2.1 x.2.2) (w := fun i => (nI q - nI (rkk p y i), if zb p y q < i then nI (zb p y q) else m9, nI i)) n (r := nI (zb p y q)) (fun i hi => by
    have hrk : rkk p y i ≤ i := by unfold rkk; omega
    have hst := rkk_step (p := p) (y := y) (i := i) hne
    simp only [m_X6_tries_L54, m_X6_tries_J90, m_X6_tries_J85]
    by_cases h1 : i = p
    · rw [if_pos (Or.inl h1)] at hst
      rw [hst, ite_cg (show zb p y q < i + 1 ↔ zb p y q < i by omega)]
      simp (disch := omega) only [k_0, k_1, k_2, k_3, k_4, k_5, k_6, k_7, k_8, k_9, k_10, k_14, k_16, k_28, k_30, k_48, k_49, k_57, k_100, k_110, k_127, k_128, k_196, k_255, k_1000, k_1024, k_10000, nI_add, nI_mul, nI_div, irm_nI, nle, nlt, neq, gd_t, inb_nI, cl_nI, bnd_eq, gdT, gdo, gb0, gb1, gbi, bi0, bi1, bi0r, Option.bind_some, bndE_some, ite_t, ite_f, k_m9, k_m1, k_13, k_15, k_18, k_19, k_112, k_114, k_115, k_98, k_103, k_116, k_119, k_47, k_82, k_50, k_51, k_99, k_700, k_197, ne9, ne9s, nI_ne0s, ↓reduceIte, eq_true h1]
    · by_cases h2 : i = y
      · rw [if_pos (Or.inr h2)] at hst
        rw [hst, ite_cg (show zb p y q < i + 1 ↔ zb p y q < i by omega)]
        simp (disch := omega) only [k_0, k_1, k_2, k_3, k_4, k_5, k_6, k_7, k_8, k_9, k_10, k_14, k_16, k_28, k_30, k_48, k_49, k_57, k_100, k_110, k_127, k_128, k_196, k_255, k_1000, k_1024, k_10000, nI_add, nI_mul, nI_div, irm_nI, nle, nlt, neq, gd_t, inb_nI, cl_nI, bnd_eq, gdT, gdo, gb0, gb1, gbi, bi0, bi1, bi0r, Option.bind_some, bndE_some, ite_t, ite_f, k_m9, k_m1, k_13, k_15, k_18, k_19, k_112, k_114, k_115, k_98, k_103, k_116, k_119, k_47, k_82, k_50, k_51, k_99, k_700, k_197, ne9, ne9s, nI_ne0s, ↓reduceIte, eq_false h1, eq_true h2]
      · rw [if_neg (show ¬ (i = p ∨ i = y) by omega)] at hst
        have hz := rkk_zb (q := q) hne h1 h2
        have hdec : nI q - nI (rkk p y i) + m1 = nI q - nI (rkk p y i + 1) := by
          rw [← nI_add]
          show nI q - nI (rkk p y i) + (-1) = nI q - (nI (rkk p y i) + 1)
          rw [← Int32.sub_eq_add_neg, Int32.sub_sub]
        rw [hst]
        by_cases h3 : i = zb p y q
        · have h4 : (q = rkk p y i) = True := eq_true (hz.mpr h3)
          rw [if_pos (show zb p y q < i + 1 by omega), ← h3, if_neg (Nat.lt_irrefl _)]
          simp (disch := omega) only [k_0, k_1, k_2, k_3, k_4, k_5, k_6, k_7, k_8, k_9, k_10, k_14, k_16, k_28, k_30, k_48, k_49, k_57, k_100, k_110, k_127, k_128, k_196, k_255, k_1000, k_1024, k_10000, nI_add, nI_mul, nI_div, irm_nI, nle, nlt, neq, gd_t, inb_nI, cl_nI, bnd_eq, gdT, gdo, gb0, gb1, gbi, bi0, bi1, bi0r, Option.bind_some, bndE_some, ite_t, ite_f, k_m9, k_m1, k_13, k_15, k_18, k_19, k_112, k_114, k_115, k_98, k_103, k_116, k_119, k_47, k_82, k_50, k_51, k_99, k_700, k_197, ne9, ne9s, nI_ne0s, ↓reduceIte, eq_false h1, eq_false h2, sub0, h4, hdec]
        · have h4 : (q = rkk p y i) = False := eq_false fun e => h3 (hz.mp e)
          rw [ite_cg (show zb p y q < i + 1 ↔ zb p y q < i by omega)]
          simp (disch := omega) only [k_0, k_1, k_2, k_3, k_4, k_5, k_6, k_7, k_8, k_9, k_10, k_14, k_16, k_28, k_30, k_48, k_49, k_57, k_100, k_110, k_127, k_128, k_196, k_255, k_1000, k_1024, k_10000, nI_add, nI_mul, nI_div, irm_nI, nle, nlt, neq, gd_t, inb_nI, cl_nI, bnd_eq, gdT, gdo, gb0, gb1, gbi, bi0, bi1, bi0r, Option.bind_some, bndE_some, ite_t, ite_f, k_m9, k_m1, k_13, k_15, k_18, k_19, k_112, k_114, k_115, k_98, k_103, k_116, k_119, k_47, k_82, k_50, k_51, k_99, k_700, k_197, ne9, ne9s, nI_ne0s, ↓reduceIte, eq_false h1, eq_false h2, sub0, h4, hdec]) (by
    simp only [m_X6_tries_L54]
    rw [if_pos z1]
    simp (disch := omega) only [k_0, k_1, k_2, k_3, k_4, k_5, k_6, k_7, k_8, k_9, k_10, k_14, k_16, k_28, k_30, k_48, k_49, k_57, k_100, k_110, k_127, k_128, k_196, k_255, k_1000, k_1024, k_10000, nI_add, nI_mul, nI_div, irm_nI, nle, nlt, neq, gd_t, inb_nI, cl_nI, bnd_eq, gdT, gdo, gb0, gb1, gbi, bi0, bi1, bi0r, Option.bind_some, bndE_some, ite_t, ite_f, k_m9, k_m1, k_13, k_15, k_18, k_19, k_112, k_114, k_115, k_98, k_103, k_116, k_119, k_47, k_82, k_50, k_51, k_99, k_700, k_197, ne9, ne9s, nI_ne0s, ↓reduceIte])
  have h0 : nI q - nI (rkk p y 0) = nI q := by
    have : rkk p y 0 = 0 := by unfold rkk; simp
    rw [this, nI_sub (Nat.zero_le _), Nat.sub_zero]
  rw [h0, if_neg (Nat.not_lt_zero _)] at hl
  exact hl
theorem yne {n p s : Nat} (h3 : 3 ≤ n) (h7 : n ≤ 7) (hp : p < n) (hs : s < n - 1) : (p + 1 + s) % n < n ∧ p ≠ (p + 1 + s) % n := by
  obtain rfl | rfl | rfl | rfl | rfl : n = 3 ∨ n = 4 ∨ n = 5 ∨ n = 6 ∨ n = 7 := by omega
  all_goals omega
/-- one try -/
def trc (c : Ab) (R : Nat) : Option Ab :=
  if c.1 < 3 then none else
    (fun p => (fun y => (fun z => (fun k => (fun g => if c.2.2 (if decide (g = 1) = true then y else p) k z = false ∧ bars c.2.1 c.2.2 (decide (g = 1)) p y k z = 0 ∧ cnt c.2.2 < 30 then some (c.1, c.2.1, upR c.2.2 (if decide (g = 1) = true then y else p) k z true) else none) (R % 2)) (R / 1024 % 4)) (zb p y (R / 128 % (c.1 - 2)))) ((p + 1 + R / 16 % (c.1 - 1)) % c.1)) (R / 2 % c.1)
theorem gdn {α : Type} {a : Nat} (h : a ≠ 0) (k : Option α) : gd (decide (¬ a = 0)) k = k := gd_t (decide_eq_true h) k
theorem try_vals {c : Ab} (hc : AOk c) (h3 : ¬ c.1 < 3) (R : Nat) : ∃ p y z k q g, p < c.1 ∧ y < c.1 ∧ p ≠ y ∧ z < c.1 ∧ z ≠ p ∧ z ≠ y ∧ k < 4 ∧ q < c.1 - 2 ∧ g < 2 ∧ p = R / 2 % c.1 ∧ y = (p + 1 + R / 16 % (c.1 - 1)) % c.1 ∧ q = R / 128 % (c.1 - 2) ∧ z = zb p y q ∧ k = R / 1024 % 4 ∧ g = R % 2 ∧ trc c R = if c.2.2 (if decide (g = 1) = true then y else p) k z = false ∧ bars c.2.1 c.2.2 (decide (g = 1)) p y k z = 0 ∧ cnt c.2.2 < 30 then some (c.1, c.2.1, upR c.2.2 (if decide (g = 1) = true then y else p) k z true) else none := by
  have h7 : c.1 ≤ 7 := hc.1
  have hp : R / 2 % c.1 < c.1 := Nat.mod_lt _ (by omega)
  have hs : R / 16 % (c.1 - 1) < c.1 - 1 := Nat.mod_lt _ (by omega)
  have hq : R / 128 % (c.1 - 2) < c.1 - 2 := Nat.mod_lt _ (by omega)
  obtain ⟨y1, y2⟩ := yne (show 3 ≤ c.1 by omega) h7 hp hs
  obtain ⟨z1, z2, z3⟩ := zb_ok hp y1 y2 hq
  refine ⟨R / 2 % c.1, (R / 2 % c.1 + 1 + R / 16 % (c.1 - 1)) % c.1, zb (R / 2 % c.1) ((R / 2 % c.1 + 1 + R / 16 % (c.1 - 1)) % c.1) (R / 128 % (c.1 - 2)), R / 1024 % 4, R / 128 % (c.1 - 2), R % 2, hp, y1, y2, z1, z2, z3, by omega, hq, by omega, rfl, rfl, rfl, rfl, rfl, rfl, ?_⟩
  unfold trc
  rw [if_neg h3]
theorem trc_ok {c c' : Ab} (hc : AOk c) {R : Nat} (h : trc c R = some c') : AOk c' := by
  by_cases h3 : c.1 < 3
  · unfold trc at h
    rw [if_pos h3] at h
    cases h
  · obtain ⟨p, y, z, k, q, g, h1, h2, h4, h5, h6, h7, h8, h9, h10, -, -, -, -, -, -, e⟩ := try_vals hc h3 R
    rw [e] at h
    obtain ⟨⟨q1, q2, q3⟩, rfl⟩ := ite_some h
    obtain ⟨n, K, Z⟩ := c
    by_cases hg : g = 1
    · rw [decide_eq_true hg]
      exact hc.put h2 h8 h5 (fun e => h7 e.symm) fun _ => Or.inr q3
    · rw [decide_eq_false hg]
      exact hc.put h1 h8 h5 (fun e => h6 e.symm) fun _ => Or.inr q3
def TrC (S : Hs) (r : Option (Int32 × Hs)) (c : Ab) (oc : Option Ab) : Prop := ∃ S', r = some (bi oc.isSome, S') ∧ Kp S S' ∧ RS S' 63 (oc.getD c)
theorem TrC.no {S : Hs} {r : Option (Int32 × Hs)} {c : Ab} {oc : Option Ab} (h : oc = none) (hs : RS S 63 c) (hr : r = some (nI 0, S)) : TrC S r c oc := ⟨S, by rw [hr, h]; rfl, Kp.rf S, by rw [h]; exact hs⟩
theorem TrC.yes {S : Hs} {r : Option (Int32 × Hs)} {c : Ab} {oc : Option Ab} {c' : Ab} (h : oc = some c') (S' : Hs) (hr : r = some (nI 1, S')) (k : Kp S S') (g : RS S' 63 c') : TrC S r c oc := ⟨S', by rw [hr, h]; rfl, k, by rw [h]; exact g⟩
def TrM (S : Hs) (r : Option (Int32 × Hs)) (c : Ab) (oc : Option Ab) : Prop := ∃ S', r = some (bi oc.isSome, S') ∧ Mq8 S S' ∧ RM S' 14 0 (oc.getD c)
theorem TrM.no {S : Hs} {r : Option (Int32 × Hs)} {c : Ab} {oc : Option Ab} (h : oc = none) (hs : RM S 14 0 c) (hr : r = some (nI 0, S)) : TrM S r c oc := ⟨S, by rw [hr, h]; rfl, Mq8.rf S, by rw [h]; exact hs⟩
theorem TrM.yes {S : Hs} {r : Option (Int32 × Hs)} {c : Ab} {oc : Option Ab} {c' : Ab} (h : oc = some c') (S' : Hs) (hr : r = some (nI 1, S')) (k : Mq8 S S') (g : RM S' 14 0 c') : TrM S r c oc := ⟨S', by rw [hr, h]; rfl, k, by rw [h]; exact g⟩
theorem try_start {S : Hs} {R n p y z k q g : Nat} (hR : R < 2 ^ 31) (h0 : gI S 63 0 = nI n) (h7 : n ≤ 7) (h3 : ¬ n < 3) (h1 : p < n) (h2 : y < n) (h5 : z < n) (h8 : k < 4) (h9 : q < n - 2) (h10 : g < 2) (e1 : p = R / 2 % n) (e2 : y = (p + 1 + R / 16 % (n - 1)) % n) (e3 : q = R / 128 % (n - 2)) (e4 : z = zb p y q) (e5 : k = R / 1024 % 4) (e6 : g = R % 2) : m_X5_tryByChance (nI R) S = m_X5_tryByChance_J87 (nI p) (nI y) (nI z) (nI k) (nI g) (if g = 1 then nI y else nI p) S := by
  have d2 : nI R / nI 2 = nI (R / 2) := nI_divL hR (by omega) (by omega)
  have d16 : nI R / nI 16 = nI (R / 16) := nI_divL hR (by omega) (by omega)
  have d128 : nI R / nI 128 = nI (R / 128) := nI_divL hR (by omega) (by omega)
  have d1024 : nI R / nI 1024 = nI (R / 1024) := nI_divL hR (by omega) (by omega)
  have s1 : nI n - nI 1 = nI (n - 1) := nI_sub (by omega)
  have s2 : nI n - nI 2 = nI (n - 2) := nI_sub (by omega)
  have i1 : irm (nI (R / 2)) (nI n) = nI p := by rw [e1]; exact irm_nIL (by omega) (by omega) (by omega)
  have i2 : irm (nI (R / 16)) (nI (n - 1)) = nI (R / 16 % (n - 1)) := irm_nIL (by omega) (by omega) (by omega)
  have hs : R / 16 % (n - 1) < n - 1 := Nat.mod_lt _ (by omega)
  have i3 : irm (nI (p + 1 + R / 16 % (n - 1))) (nI n) = nI y := by rw [e2]; exact irm_nIL (by omega) (by omega) (by omega)
  have i4 : irm (nI (R / 128)) (nI (n - 2)) = nI q := by rw [e3]; exact irm_nIL (by omega) (by omega) (by omega)
  have i5 : irm (nI (R / 1024)) (nI 4) = nI k := by rw [e5]; exact irm_nIL (by omega) (by omega) (by omega)
  have i6 : irm (nI R) (nI 2) = nI g := by rw [e6]; exact irm_nIL hR (by omega) (by omega)
  have hb := beside_ok (p := p) (y := y) (q := q) (by omega) (by omega) (by omega)
  rw [← e4] at hb
  have n2 : (2 : Int32) = nI 2 := rfl
  have c3 : (3 : Int32) ≤ nI n := by
    show nI 3 ≤ nI n
    rw [nle (by omega) (by omega)]
    omega
  have z0 : ¬ (nI n = (0 : Int32)) := by
    show ¬ (nI n = nI 0)
    rw [neq (by omega) (by omega)]
    omega
  have z1 : ¬ (nI n - (1 : Int32) = (0 : Int32)) := by
    show ¬ (nI n - nI 1 = nI 0)
    rw [s1, neq (by omega) (by omega)]
    omega
  have z2 : ¬ (nI n - (2 : Int32) = (0 : Int32)) := by
    show ¬ (nI n - nI 2 = nI 0)
    rw [s2, neq (by omega) (by omega)]
    omega
  have j1 : irm (nI R / (2 : Int32)) (nI n) = nI p := by rw [n2, d2, i1]
  have j2 : irm (nI p + (1 : Int32) + irm (nI R / (16 : Int32)) (nI n - (1 : Int32))) (nI n) = nI y := by
    rw [show (1 : Int32) = nI 1 from rfl, show (16 : Int32) = nI 16 from rfl, s1, d16, i2, nI_add, nI_add, i3]
  have j3 : irm (nI R / (128 : Int32)) (nI n - (2 : Int32)) = nI q := by rw [n2, show (128 : Int32) = nI 128 from rfl, s2, d128, i4]
  have j4 : irm (nI R / (1024 : Int32)) (4 : Int32) = nI k := by rw [show (1024 : Int32) = nI 1024 from rfl, show (4 : Int32) = nI 4 from rfl, d1024, i5]
  have j5 : irm (nI R) (2 : Int32) = nI g := by rw [n2, i6]
  clear d2 d16 d128 d1024 i1 i2 i3 i4 i5 i6 s1 s2
  unfold m_X5_tryByChance
  rw [h0, bnd_eq, if_pos c3, gd_t (decide_eq_true z0), j1, bnd_eq, gd_t (decide_eq_true z1), gd_t (decide_eq_true z0), j2, bnd_eq, gd_t (decide_eq_true z2), j3, hb, Option.bind_some, j4, bnd_eq, j5]
  unfold m_X5_tryByChance_J74
  obtain rfl | rfl : g = 0 ∨ g = 1 := by omega
  · rw [if_neg (show ¬ ((0 : Nat) = 1) by decide), if_pos (show nI 0 = (0 : Int32) from rfl), if_pos (show (0 : Int32) = 0 from rfl)]
    rfl
  · rw [if_pos (show (1 : Nat) = 1 from rfl), if_neg (show ¬ (nI 1 = (0 : Int32)) by decide), if_neg (show ¬ ((1 : Int32) = 0) by decide)]
    rfl
theorem try_class {S : Hs} {c : Ab} (h : RS S 63 c) (hc : AOk c) {R : Nat} (hR : R < 2 ^ 31) : TrC S (m_X5_tryByChance (nI R) S) c (trc c R) := by
  have h0 : gI S 63 0 = nI c.1 := h.2.2.1
  have h7 : c.1 ≤ 7 := hc.1
  by_cases h3 : c.1 < 3
  · refine TrC.no (by unfold trc; rw [if_pos h3]) h ?_
    unfold m_X5_tryByChance
    simp (disch := omega) only [k_0, k_1, k_2, k_3, k_4, k_5, k_6, k_7, k_8, k_9, k_10, k_14, k_16, k_28, k_30, k_48, k_49, k_57, k_100, k_110, k_127, k_128, k_196, k_255, k_1000, k_1024, k_10000, nI_add, nI_mul, nI_div, irm_nI, nle, nlt, neq, gd_t, inb_nI, cl_nI, bnd_eq, gdT, gdo, gb0, gb1, gbi, bi0, bi1, bi0r, Option.bind_some, bndE_some, ite_t, ite_f, k_m9, k_m1, k_13, k_15, k_18, k_19, k_112, k_114, k_115, k_98, k_103, k_116, k_119, k_47, k_82, k_50, k_51, k_99, k_700, k_197, ne9, ne9s, nI_ne0s, ↓reduceIte, h0]
  · obtain ⟨p, y, z, k, q, g, h1, h2, h4, h5, h6, h7', h8, h9, h10, e1, e2, e3, e4, e5, e6, e⟩ := try_vals hc h3 R
    rw [e]
    obtain ⟨n, K, Z⟩ := c
    simp only at h0 h7 h3 h1 h2 h5 h9 e1 e2 e3 ⊢
    have h : RepS S 63 n K Z := h
    have c30 : cnt Z ≤ 30 := hc.2.2.2
    have start := try_start (S := S) hR h0 h7 h3 h1 h2 h5 h8 h9 h10 e1 e2 e3 e4 e5 e6
    rw [show nI g = bi (decide (g = 1)) by obtain rfl | rfl : g = 0 ∨ g = 1 := by omega
                                           · rfl
                                           · rfl] at start
    have eto : (if g = 1 then nI y else nI p) = nI (if decide (g = 1) = true then y else p) := by
      by_cases hg : g = 1 <;> simp [hg]
    have hto : (if decide (g = 1) = true then y else p) < n := by split <;> assumption
    have hne : (if decide (g = 1) = true then y else p) ≠ z := by split <;> omega
    rw [start, eto]
    have ha := allowsStep_ok h h1 h2 h8 h5 (decide (g = 1))
    unfold m_X5_tryByChance_J87 m_X5_tryByChance_J127
    cases hz : Z (if decide (g = 1) = true then y else p) k z
    · rw [hz, Bool.false_or] at ha
      by_cases hok : bars K Z (decide (g = 1)) p y k z = 0 ∧ cnt Z < 30
      · rw [decide_eq_true hok.1, decide_eq_true hok.2] at ha
        obtain ⟨S1, l1, l2, l3⟩ := put_ok h hto h8 h5 hne (nI 1)
        rw [show decide (nI 1 ≠ 0) = true from by decide] at l2
        refine TrC.yes (if_pos ⟨rfl, hok⟩) S1 ?_ (Kp.ofB l3 (by omega)) l2
        simp (disch := omega) only [k_0, k_1, k_2, k_3, k_4, k_5, k_6, k_7, k_8, k_9, k_10, k_14, k_16, k_28, k_30, k_48, k_49, k_57, k_100, k_110, k_127, k_128, k_196, k_255, k_1000, k_1024, k_10000, nI_add, nI_mul, nI_div, irm_nI, nle, nlt, neq, gd_t, inb_nI, cl_nI, bnd_eq, gdT, gdo, gb0, gb1, gbi, bi0, bi1, bi0r, Option.bind_some, bndE_some, ite_t, ite_f, k_m9, k_m1, k_13, k_15, k_18, k_19, k_112, k_114, k_115, k_98, k_103, k_116, k_119, k_47, k_82, k_50, k_51, k_99, k_700, k_197, ne9, ne9s, nI_ne0s, ↓reduceIte, ix_nI, has_bi h (show (if decide (g = 1) = true then y else p) < 7 by omega) h8 (show z < 7 by omega), hz, ha, Bool.and_true, Bool.true_eq_false, l1]
      · have hall : (decide (bars K Z (decide (g = 1)) p y k z = 0) && decide (cnt Z < 30)) = false := by
          cases hq : (decide (bars K Z (decide (g = 1)) p y k z = 0) && decide (cnt Z < 30))
          · rfl
          · rw [Bool.and_eq_true, decide_eq_true_eq, decide_eq_true_eq] at hq
            exact absurd hq hok
        rw [hall] at ha
        refine TrC.no (if_neg fun e => hok e.2) h ?_
        simp (disch := omega) only [k_0, k_1, k_2, k_3, k_4, k_5, k_6, k_7, k_8, k_9, k_10, k_14, k_16, k_28, k_30, k_48, k_49, k_57, k_100, k_110, k_127, k_128, k_196, k_255, k_1000, k_1024, k_10000, nI_add, nI_mul, nI_div, irm_nI, nle, nlt, neq, gd_t, inb_nI, cl_nI, bnd_eq, gdT, gdo, gb0, gb1, gbi, bi0, bi1, bi0r, Option.bind_some, bndE_some, ite_t, ite_f, k_m9, k_m1, k_13, k_15, k_18, k_19, k_112, k_114, k_115, k_98, k_103, k_116, k_119, k_47, k_82, k_50, k_51, k_99, k_700, k_197, ne9, ne9s, nI_ne0s, ↓reduceIte, ix_nI, has_bi h (show (if decide (g = 1) = true then y else p) < 7 by omega) h8 (show z < 7 by omega), hz, ha]
    · refine TrC.no (if_neg fun e => absurd e.1 (by decide)) h ?_
      simp (disch := omega) only [k_0, k_1, k_2, k_3, k_4, k_5, k_6, k_7, k_8, k_9, k_10, k_14, k_16, k_28, k_30, k_48, k_49, k_57, k_100, k_110, k_127, k_128, k_196, k_255, k_1000, k_1024, k_10000, nI_add, nI_mul, nI_div, irm_nI, nle, nlt, neq, gd_t, inb_nI, cl_nI, bnd_eq, gdT, gdo, gb0, gb1, gbi, bi0, bi1, bi0r, Option.bind_some, bndE_some, ite_t, ite_f, k_m9, k_m1, k_13, k_15, k_18, k_19, k_112, k_114, k_115, k_98, k_103, k_116, k_119, k_47, k_82, k_50, k_51, k_99, k_700, k_197, ne9, ne9s, nI_ne0s, ↓reduceIte, ix_nI, has_bi h (show (if decide (g = 1) = true then y else p) < 7 by omega) h8 (show z < 7 by omega), hz, Bool.true_eq_false]
theorem try_model {T : Hs} {c : Ab} (h : RM T 14 0 c) (hc : AOk c) {R : Nat} (hR : R < 2 ^ 31) : TrM T (m_X6_tries (nI R) T) c (trc c R) := by
  have h0 : gA T 14 0 = nI c.1 := h.2.2.2.1
  have h7 : c.1 ≤ 7 := hc.1
  by_cases h3 : c.1 < 3
  · refine TrM.no (by unfold trc; rw [if_pos h3]) h ?_
    unfold m_X6_tries
    simp (disch := omega) only [k_0, k_1, k_2, k_3, k_4, k_5, k_6, k_7, k_8, k_9, k_10, k_14, k_16, k_28, k_30, k_48, k_49, k_57, k_100, k_110, k_127, k_128, k_196, k_255, k_1000, k_1024, k_10000, nI_add, nI_mul, nI_div, irm_nI, nle, nlt, neq, gd_t, inb_nI, cl_nI, bnd_eq, gdT, gdo, gb0, gb1, gbi, bi0, bi1, bi0r, Option.bind_some, bndE_some, ite_t, ite_f, k_m9, k_m1, k_13, k_15, k_18, k_19, k_112, k_114, k_115, k_98, k_103, k_116, k_119, k_47, k_82, k_50, k_51, k_99, k_700, k_197, ne9, ne9s, nI_ne0s, ↓reduceIte, h0]
  · obtain ⟨p, y, z, k, q, g, h1, h2, h4, h5, h6, h7', h8, h9, h10, e1, e2, e3, e4, e5, e6, e⟩ := try_vals hc h3 R
    rw [e]
    obtain ⟨n, K, Z⟩ := c
    simp only at h0 h7 h3 h1 h2 h5 h9 e1 e2 e3 ⊢
    have h : RepM T 14 0 n K Z := h
    have c30 : cnt Z ≤ 30 := hc.2.2.2
    have d2 : nI R / nI 2 = nI (R / 2) := nI_divL hR (by omega) (by omega)
    have d16 : nI R / nI 16 = nI (R / 16) := nI_divL hR (by omega) (by omega)
    have d128 : nI R / nI 128 = nI (R / 128) := nI_divL hR (by omega) (by omega)
    have d1024 : nI R / nI 1024 = nI (R / 1024) := nI_divL hR (by omega) (by omega)
    have s1 : nI n - nI 1 = nI (n - 1) := nI_sub (by omega)
    have s2 : nI n - nI 2 = nI (n - 2) := nI_sub (by omega)
    have i1 : irm (nI (R / 2)) (nI n) = nI p := by rw [e1]; exact irm_nIL (by omega) (by omega) (by omega)
    have i2 : irm (nI (R / 16)) (nI (n - 1)) = nI (R / 16 % (n - 1)) := irm_nIL (by omega) (by omega) (by omega)
    have hs : R / 16 % (n - 1) < n - 1 := Nat.mod_lt _ (by omega)
    have i3 : irm (nI (p + 1 + R / 16 % (n - 1))) (nI n) = nI y := by rw [e2]; exact irm_nIL (by omega) (by omega) (by omega)
    have i4 : irm (nI (R / 128)) (nI (n - 2)) = nI q := by rw [e3]; exact irm_nIL (by omega) (by omega) (by omega)
    have i5 : irm (nI (R / 1024)) (nI 4) = nI k := by rw [e5]; exact irm_nIL (by omega) (by omega) (by omega)
    have i6 : irm (nI R) (nI 2) = nI g := by rw [e6]; exact irm_nIL hR (by omega) (by omega)
    have hb := beside_loop (T := T) (r1 := nI R) (n := n) (p := p) (y := y) (q := q) (by omega) h1 h2 h4 h9
    rw [← e4] at hb
    have n2 : (2 : Int32) = nI 2 := rfl
    have start : m_X6_tries (nI R) T = m_X6_tries_J130 (nI p) (nI y) (nI z) (nI k) (bi (decide (g = 1))) (if g = 1 then nI y else nI p) T := by
      unfold m_X6_tries m_X6_tries_J117
      obtain rfl | rfl : g = 0 ∨ g = 1 := by omega
      · rw [show bi (decide ((0 : Nat) = 1)) = nI 0 from rfl, if_neg (show ¬ ((0 : Nat) = 1) by decide)]
        simp (disch := omega) only [k_0, k_1, k_2, k_3, k_4, k_5, k_6, k_7, k_8, k_9, k_10, k_14, k_16, k_28, k_30, k_48, k_49, k_57, k_100, k_110, k_127, k_128, k_196, k_255, k_1000, k_1024, k_10000, nI_add, nI_mul, nI_div, irm_nI, nle, nlt, neq, gd_t, inb_nI, cl_nI, bnd_eq, gdT, gdo, gb0, gb1, gbi, bi0, bi1, bi0r, Option.bind_some, bndE_some, ite_t, ite_f, k_m9, k_m1, k_13, k_15, k_18, k_19, k_112, k_114, k_115, k_98, k_103, k_116, k_119, k_47, k_82, k_50, k_51, k_99, k_700, k_197, ne9, ne9s, nI_ne0s, ↓reduceIte, h0, n2, d2, d16, d128, d1024, s1, s2, i1, i2, i3, i4, i5, i6, gdn]
        rw [hb]
        simp (disch := omega) only [k_0, k_1, k_2, k_3, k_4, k_5, k_6, k_7, k_8, k_9, k_10, k_14, k_16, k_28, k_30, k_48, k_49, k_57, k_100, k_110, k_127, k_128, k_196, k_255, k_1000, k_1024, k_10000, nI_add, nI_mul, nI_div, irm_nI, nle, nlt, neq, gd_t, inb_nI, cl_nI, bnd_eq, gdT, gdo, gb0, gb1, gbi, bi0, bi1, bi0r, Option.bind_some, bndE_some, ite_t, ite_f, k_m9, k_m1, k_13, k_15, k_18, k_19, k_112, k_114, k_115, k_98, k_103, k_116, k_119, k_47, k_82, k_50, k_51, k_99, k_700, k_197, ne9, ne9s, nI_ne0s, ↓reduceIte, i5]
      · rw [show bi (decide ((1 : Nat) = 1)) = nI 1 from rfl, if_pos (show (1 : Nat) = 1 from rfl)]
        simp (disch := omega) only [k_0, k_1, k_2, k_3, k_4, k_5, k_6, k_7, k_8, k_9, k_10, k_14, k_16, k_28, k_30, k_48, k_49, k_57, k_100, k_110, k_127, k_128, k_196, k_255, k_1000, k_1024, k_10000, nI_add, nI_mul, nI_div, irm_nI, nle, nlt, neq, gd_t, inb_nI, cl_nI, bnd_eq, gdT, gdo, gb0, gb1, gbi, bi0, bi1, bi0r, Option.bind_some, bndE_some, ite_t, ite_f, k_m9, k_m1, k_13, k_15, k_18, k_19, k_112, k_114, k_115, k_98, k_103, k_116, k_119, k_47, k_82, k_50, k_51, k_99, k_700, k_197, ne9, ne9s, nI_ne0s, ↓reduceIte, h0, n2, d2, d16, d128, d1024, s1, s2, i1, i2, i3, i4, i5, i6, gdn]
        rw [hb]
        simp (disch := omega) only [k_0, k_1, k_2, k_3, k_4, k_5, k_6, k_7, k_8, k_9, k_10, k_14, k_16, k_28, k_30, k_48, k_49, k_57, k_100, k_110, k_127, k_128, k_196, k_255, k_1000, k_1024, k_10000, nI_add, nI_mul, nI_div, irm_nI, nle, nlt, neq, gd_t, inb_nI, cl_nI, bnd_eq, gdT, gdo, gb0, gb1, gbi, bi0, bi1, bi0r, Option.bind_some, bndE_some, ite_t, ite_f, k_m9, k_m1, k_13, k_15, k_18, k_19, k_112, k_114, k_115, k_98, k_103, k_116, k_119, k_47, k_82, k_50, k_51, k_99, k_700, k_197, ne9, ne9s, nI_ne0s, ↓reduceIte, i5]
    have eto : (if g = 1 then nI y else nI p) = nI (if decide (g = 1) = true then y else p) := by
      by_cases hg : g = 1 <;> simp [hg]
    have hto : (if decide (g = 1) = true then y else p) < n := by split <;> assumption
    have hne : (if decide (g = 1) = true then y else p) ≠ z := by split <;> omega
    rw [start, eto]
    have hbl : bars K Z (decide (g = 1)) p y k z < 5 := by
      unfold bars
      repeat' split
      all_goals omega
    have hh := hinders_ok h h1 h2 h8 h5 (decide (g = 1))
    have hhas := mhas_ok h (show (if decide (g = 1) = true then y else p) < 7 by omega) h8 (show z < 7 by omega)
    unfold m_X6_tries_J130 m_X6_tries_J170
    by_cases hb0 : bars K Z (decide (g = 1)) p y k z = 0
    · cases hz : Z (if decide (g = 1) = true then y else p) k z
      · by_cases hcn : cnt Z < 30
        · obtain ⟨v, l1, l2⟩ := mput_ok h hto h8 h5 hne true
          rw [bi_t] at l1
          refine TrM.yes (if_pos ⟨rfl, hb0, hcn⟩) _ ?_ (Mq8.ofA (OnA.sA _ _) (by omega)) l2
          simp (disch := omega) only [k_0, k_1, k_2, k_3, k_4, k_5, k_6, k_7, k_8, k_9, k_10, k_14, k_16, k_28, k_30, k_48, k_49, k_57, k_100, k_110, k_127, k_128, k_196, k_255, k_1000, k_1024, k_10000, nI_add, nI_mul, nI_div, irm_nI, nle, nlt, neq, gd_t, inb_nI, cl_nI, bnd_eq, gdT, gdo, gb0, gb1, gbi, bi0, bi1, bi0r, Option.bind_some, bndE_some, ite_t, ite_f, k_m9, k_m1, k_13, k_15, k_18, k_19, k_112, k_114, k_115, k_98, k_103, k_116, k_119, k_47, k_82, k_50, k_51, k_99, k_700, k_197, ne9, ne9s, nI_ne0s, ↓reduceIte, hh, hb0, hhas, hz, rightsMany_ok h, eq_false (show ¬ cnt Z = 30 by omega), l1]
        · refine TrM.no (if_neg fun e => hcn e.2.2) h ?_
          simp (disch := omega) only [k_0, k_1, k_2, k_3, k_4, k_5, k_6, k_7, k_8, k_9, k_10, k_14, k_16, k_28, k_30, k_48, k_49, k_57, k_100, k_110, k_127, k_128, k_196, k_255, k_1000, k_1024, k_10000, nI_add, nI_mul, nI_div, irm_nI, nle, nlt, neq, gd_t, inb_nI, cl_nI, bnd_eq, gdT, gdo, gb0, gb1, gbi, bi0, bi1, bi0r, Option.bind_some, bndE_some, ite_t, ite_f, k_m9, k_m1, k_13, k_15, k_18, k_19, k_112, k_114, k_115, k_98, k_103, k_116, k_119, k_47, k_82, k_50, k_51, k_99, k_700, k_197, ne9, ne9s, nI_ne0s, ↓reduceIte, hh, hb0, hhas, hz, rightsMany_ok h, eq_true (show cnt Z = 30 by omega)]
      · refine TrM.no (if_neg fun e => absurd e.1 (by decide)) h ?_
        simp (disch := omega) only [k_0, k_1, k_2, k_3, k_4, k_5, k_6, k_7, k_8, k_9, k_10, k_14, k_16, k_28, k_30, k_48, k_49, k_57, k_100, k_110, k_127, k_128, k_196, k_255, k_1000, k_1024, k_10000, nI_add, nI_mul, nI_div, irm_nI, nle, nlt, neq, gd_t, inb_nI, cl_nI, bnd_eq, gdT, gdo, gb0, gb1, gbi, bi0, bi1, bi0r, Option.bind_some, bndE_some, ite_t, ite_f, k_m9, k_m1, k_13, k_15, k_18, k_19, k_112, k_114, k_115, k_98, k_103, k_116, k_119, k_47, k_82, k_50, k_51, k_99, k_700, k_197, ne9, ne9s, nI_ne0s, ↓reduceIte, hh, hb0, hhas, hz, Bool.true_eq_false]
    · refine TrM.no (if_neg fun e => hb0 e.2.1) h ?_
      simp (disch := omega) only [k_0, k_1, k_2, k_3, k_4, k_5, k_6, k_7, k_8, k_9, k_10, k_14, k_16, k_28, k_30, k_48, k_49, k_57, k_100, k_110, k_127, k_128, k_196, k_255, k_1000, k_1024, k_10000, nI_add, nI_mul, nI_div, irm_nI, nle, nlt, neq, gd_t, inb_nI, cl_nI, bnd_eq, gdT, gdo, gb0, gb1, gbi, bi0, bi1, bi0r, Option.bind_some, bndE_some, ite_t, ite_f, k_m9, k_m1, k_13, k_15, k_18, k_19, k_112, k_114, k_115, k_98, k_103, k_116, k_119, k_47, k_82, k_50, k_51, k_99, k_700, k_197, ne9, ne9s, nI_ne0s, ↓reduceIte, hh, hhas]
def nx (x : Int64) : Int64 := x * 6364136223846793005 + 1442695040888963407
/-- all tries: the state, how many came, the number -/
def sims (c : Ab) (x : Int64) : Nat → Ab × Nat × Int64
  | 0 => (c, 0, x)
  | t + 1 => ((trc (sims c x t).1 (drn (nx (sims c x t).2.2))).getD (sims c x t).1, (sims c x t).2.1 + (if (trc (sims c x t).1 (drn (nx (sims c x t).2.2))).isSome = true then 1 else 0), nx (sims c x t).2.2)
theorem sims_s (c : Ab) (x : Int64) (t : Nat) : sims c x (t + 1) = ((trc (sims c x t).1 (drn (nx (sims c x t).2.2))).getD (sims c x t).1, (sims c x t).2.1 + (if (trc (sims c x t).1 (drn (nx (sims c x t).2.2))).isSome = true then 1 else 0), nx (sims c x t).2.2) := rfl
theorem sims_ok {c : Ab} (x : Int64) (hc : AOk c) (t : Nat) : AOk (sims c x t).1 ∧ (sims c x t).2.1 ≤ t := by
  induction t with
  | zero => exact ⟨hc, Nat.le_refl _⟩
  | succ t ih =>
    obtain ⟨h1, h2⟩ := ih
    rw [sims_s]
    generalize sims c x t = q at h1 h2
    cases hd : trc q.1 (drn (nx q.2.2)) with
    | none => exact ⟨h1, by show q.2.1 + 0 ≤ t + 1; omega⟩
    | some c' => exact ⟨trc_ok h1 hd, by show q.2.1 + 1 ≤ t + 1; omega⟩
theorem sim_step {S : Hs} {c : Ab} (h : RS S 63 c) (hc : AOk c) (x : Int64) {i m a : Nat} (hi : i < m) (hm : m < 1000) (ha : a < 1000) : ∃ V, m_X5_simulate_L41 (nI m) (nI a) x (nI i) S = some (.inl (nI (a + (if (trc c (drn (nx x))).isSome = true then 1 else 0)), nx x, nI (i + 1), V)) ∧ Kp S V ∧ RS V 63 ((trc c (drn (nx x))).getD c) := by
  obtain ⟨r1, r2⟩ := drn_ok (nx x)
  obtain ⟨V, k1, k2, k3⟩ := try_class h hc r2
  refine ⟨V, ?_, k2, k3⟩
  have e : m_X5_simulate_L41 (nI m) (nI a) x (nI i) S = if nI m ≤ nI i then (some (.inr ((nI a, S)))) else (bndE (m_X5_tryByChance ((lushr (nx x) 33).toInt32) S) fun r66 S66 => (if r66 = 0 then (m_X5_simulate_J75 (nI m) (nI a) (nx x) (nI i) S66) else (m_X5_simulate_J75 (nI m) (nI a + 1) (nx x) (nI i) S66))) := rfl
  rw [e, r1, k1]
  cases (trc c (drn (nx x))) with
  | none => simp (disch := omega) only [k_0, k_1, k_2, k_3, k_4, k_5, k_6, k_7, k_8, k_9, k_10, k_14, k_16, k_28, k_30, k_48, k_49, k_57, k_100, k_110, k_127, k_128, k_196, k_255, k_1000, k_1024, k_10000, nI_add, nI_mul, nI_div, irm_nI, nle, nlt, neq, gd_t, inb_nI, cl_nI, bnd_eq, gdT, gdo, gb0, gb1, gbi, bi0, bi1, bi0r, Option.bind_some, bndE_some, ite_t, ite_f, k_m9, k_m1, k_13, k_15, k_18, k_19, k_112, k_114, k_115, k_98, k_103, k_116, k_119, k_47, k_82, k_50, k_51, k_99, k_700, k_197, ne9, ne9s, nI_ne0s, ↓reduceIte, m_X5_simulate_J75, Option.isSome_none, Bool.false_eq_true, Nat.add_zero]
  | some c' => simp (disch := omega) only [k_0, k_1, k_2, k_3, k_4, k_5, k_6, k_7, k_8, k_9, k_10, k_14, k_16, k_28, k_30, k_48, k_49, k_57, k_100, k_110, k_127, k_128, k_196, k_255, k_1000, k_1024, k_10000, nI_add, nI_mul, nI_div, irm_nI, nle, nlt, neq, gd_t, inb_nI, cl_nI, bnd_eq, gdT, gdo, gb0, gb1, gbi, bi0, bi1, bi0r, Option.bind_some, bndE_some, ite_t, ite_f, k_m9, k_m1, k_13, k_15, k_18, k_19, k_112, k_114, k_115, k_98, k_103, k_116, k_119, k_47, k_82, k_50, k_51, k_99, k_700, k_197, ne9, ne9s, nI_ne0s, ↓reduceIte, m_X5_simulate_J75, Option.isSome_some, Bool.true_eq_false]
theorem msim_step {S : Hs} {c : Ab} (h : RM S 14 0 c) (hc : AOk c) (x : Int64) {i m a : Nat} (hi : i < m) (hm : m < 1000) (ha : a < 1000) : ∃ V, m_X6_simulate_L41 (nI m) x (nI a) (nI i) S = some (.inl (nx x, nI (a + (if (trc c (drn (nx x))).isSome = true then 1 else 0)), nI (i + 1), V)) ∧ Mq8 S V ∧ RM V 14 0 ((trc c (drn (nx x))).getD c) := by
  obtain ⟨r1, r2⟩ := drn_ok (nx x)
  obtain ⟨V, k1, k2, k3⟩ := try_model h hc r2
  refine ⟨V, ?_, k2, k3⟩
  have e : m_X6_simulate_L41 (nI m) x (nI a) (nI i) S = if nI m ≤ nI i then (some (.inr ((nI a, S)))) else (bndE (m_X6_tries ((lushr (nx x) 33).toInt32) S) fun r68 S68 => (if r68 = 0 then (m_X6_simulate_J79 (nI m) (nx x) (nI i) 0 (nI a) S68) else (m_X6_simulate_J79 (nI m) (nx x) (nI i) 1 (nI a) S68))) := rfl
  rw [e, r1, k1]
  cases (trc c (drn (nx x))) with
  | none => simp (disch := omega) only [k_0, k_1, k_2, k_3, k_4, k_5, k_6, k_7, k_8, k_9, k_10, k_14, k_16, k_28, k_30, k_48, k_49, k_57, k_100, k_110, k_127, k_128, k_196, k_255, k_1000, k_1024, k_10000, nI_add, nI_mul, nI_div, irm_nI, nle, nlt, neq, gd_t, inb_nI, cl_nI, bnd_eq, gdT, gdo, gb0, gb1, gbi, bi0, bi1, bi0r, Option.bind_some, bndE_some, ite_t, ite_f, k_m9, k_m1, k_13, k_15, k_18, k_19, k_112, k_114, k_115, k_98, k_103, k_116, k_119, k_47, k_82, k_50, k_51, k_99, k_700, k_197, ne9, ne9s, nI_ne0s, ↓reduceIte, m_X6_simulate_J79, Option.isSome_none, Bool.false_eq_true, Nat.add_zero]
  | some c' => simp (disch := omega) only [k_0, k_1, k_2, k_3, k_4, k_5, k_6, k_7, k_8, k_9, k_10, k_14, k_16, k_28, k_30, k_48, k_49, k_57, k_100, k_110, k_127, k_128, k_196, k_255, k_1000, k_1024, k_10000, nI_add, nI_mul, nI_div, irm_nI, nle, nlt, neq, gd_t, inb_nI, cl_nI, bnd_eq, gdT, gdo, gb0, gb1, gbi, bi0, bi1, bi0r, Option.bind_some, bndE_some, ite_t, ite_f, k_m9, k_m1, k_13, k_15, k_18, k_19, k_112, k_114, k_115, k_98, k_103, k_116, k_119, k_47, k_82, k_50, k_51, k_99, k_700, k_197, ne9, ne9s, nI_ne0s, ↓reduceIte, m_X6_simulate_J79, Option.isSome_some, Bool.true_eq_false]
theorem sim_loop {S : Hs} {c : Ab} (h : RS S 63 c) (hc : AOk c) (x : Int64) {m : Nat} (hm : m < 1000) : ∃ U, loopO (fun q => m_X5_simulate_L41 (nI m) q.1 q.2.1 q.2.2.1 q.2.2.2) (nI 0, x, nI 0, S) = some (nI (sims c x m).2.1, U) ∧ Kp S U ∧ RS U 63 (sims c x m).1 := by
  obtain ⟨⟨v, U⟩, e1, e2, e3, e4⟩ := loopO_inv (f := fun q : Int32 × Int64 × Int32 × Hs => m_X5_simulate_L41 (nI m) q.1 q.2.1 q.2.2.1 q.2.2.2) (fun i q => i ≤ m ∧ q.1 = nI (sims c x i).2.1 ∧ q.2.1 = (sims c x i).2.2 ∧ q.2.2.1 = nI i ∧ Kp S q.2.2.2 ∧ RS q.2.2.2 63 (sims c x i).1) (fun r => r.1 = nI (sims c x m).2.1 ∧ Kp S r.2 ∧ RS r.2 63 (sims c x m).1) 1000 (fun i q hq => by
    obtain ⟨a, b, v, U⟩ := q
    obtain ⟨hi, ha, hb, hv, a1, a2⟩ := hq
    simp only at ha hb hv a1 a2
    subst ha hb hv
    obtain ⟨s1, s2⟩ := sims_ok x hc i
    by_cases him : i < m
    · obtain ⟨V, k1, k2, k3⟩ := sim_step a2 s1 (sims c x i).2.2 him hm (show (sims c x i).2.1 < 1000 by omega)
      exact Or.inl ⟨by omega, _, k1, by omega, by rw [sims_s], by rw [sims_s], rfl, a1.tr k2, by rw [sims_s]; exact k3⟩
    · obtain rfl : i = m := by omega
      refine Or.inr ⟨(nI (sims c x i).2.1, U), ?_, rfl, a1, a2⟩
      simp only [m_X5_simulate_L41]
      rw [if_pos (Int32.le_refl _)]) (x := (nI 0, x, nI 0, S)) ⟨by omega, rfl, rfl, rfl, Kp.rf S, h⟩
  simp only at e2
  subst e2
  exact ⟨U, e1, e3, e4⟩
theorem msim_loop {S : Hs} {c : Ab} (h : RM S 14 0 c) (hc : AOk c) (x : Int64) {m : Nat} (hm : m < 1000) : ∃ U, loopO (fun q => m_X6_simulate_L41 (nI m) q.1 q.2.1 q.2.2.1 q.2.2.2) (x, nI 0, nI 0, S) = some (nI (sims c x m).2.1, U) ∧ Mq8 S U ∧ RM U 14 0 (sims c x m).1 := by
  obtain ⟨⟨v, U⟩, e1, e2, e3, e4⟩ := loopO_inv (f := fun q : Int64 × Int32 × Int32 × Hs => m_X6_simulate_L41 (nI m) q.1 q.2.1 q.2.2.1 q.2.2.2) (fun i q => i ≤ m ∧ q.1 = (sims c x i).2.2 ∧ q.2.1 = nI (sims c x i).2.1 ∧ q.2.2.1 = nI i ∧ Mq8 S q.2.2.2 ∧ RM q.2.2.2 14 0 (sims c x i).1) (fun r => r.1 = nI (sims c x m).2.1 ∧ Mq8 S r.2 ∧ RM r.2 14 0 (sims c x m).1) 1000 (fun i q hq => by
    obtain ⟨a, b, v, U⟩ := q
    obtain ⟨hi, ha, hb, hv, a1, a2⟩ := hq
    simp only at ha hb hv a1 a2
    subst ha hb hv
    obtain ⟨s1, s2⟩ := sims_ok x hc i
    by_cases him : i < m
    · obtain ⟨V, k1, k2, k3⟩ := msim_step a2 s1 (sims c x i).2.2 him hm (show (sims c x i).2.1 < 1000 by omega)
      exact Or.inl ⟨by omega, _, k1, by omega, by rw [sims_s], by rw [sims_s], rfl, a1.tr k2, by rw [sims_s]; exact k3⟩
    · obtain rfl : i = m := by omega
      refine Or.inr ⟨(nI (sims c x i).2.1, U), ?_, rfl, a1, a2⟩
      simp only [m_X6_simulate_L41]
      rw [if_pos (Int32.le_refl _)]) (x := (x, nI 0, nI 0, S)) ⟨by omega, rfl, rfl, rfl, Mq8.rf S, h⟩
  simp only at e2
  subst e2
  exact ⟨U, e1, e3, e4⟩
theorem simulate_op (x : Int64) (v : Int32) : OpOk (m_X5_simulate x v) (m_X6_simulate x v) (c1 1) := by
  intro g hg
  obtain ⟨c, r, mem, sv, sl, len, t⟩ := g
  obtain ⟨ga, gr, gm, gs⟩ := hg
  have hin := in_ok v (a := 1) (b := 99) (by omega) (by omega)
  have h99 : (99 : Int32) = nI 99 := rfl
  by_cases hv : ∃ x, 1 ≤ x ∧ x ≤ 99 ∧ v = nI x
  · rw [B_iff.mpr hv] at hin
    obtain ⟨m, m1, m3, rfl⟩ := hv
    obtain ⟨s1, s2⟩ := sims_ok x ga m
    have c30 : cnt (sims c x m).1.2.2 ≤ 30 := s1.2.2.2
    refine ⟨.inl (nI (100 * (sims c x m).2.1 + cnt (sims c x m).1.2.2)), _, ⟨ga, gr, gm, gs⟩, fun S hS => ?_, fun T hT => ?_⟩
    · obtain ⟨S1, k1, k2, k3⟩ := copyRS (i := 63) hS.1 (by omega)
      obtain ⟨U, l1, l2, l3⟩ := sim_loop k2 ga x (show m < 1000 by omega)
      have k0 := Kp.ofB k3 (by omega)
      refine ⟨U, ?_, Co.ofK (k0.tr l2), hS.kp (k0.tr l2)⟩
      have hcr := countRights_ok (show RepS U 63 _ _ _ from l3)
      unfold m_X5_simulate
      rw [if_neg (show ¬ nI m < 1 by rw [show (1 : Int32) = nI 1 from rfl, nlt (by omega) (by omega)]; omega), if_pos (show nI m ≤ 99 by rw [h99, nle (by omega) (by omega)]; omega), k1, Option.bind_some]
      have l1' : loopO (fun q => m_X5_simulate_L41 (nI m) q.1 q.2.1 q.2.2.1 q.2.2.2) ((0 : Int32), x, (0 : Int32), S1) = some (nI (sims c x m).2.1, U) := l1
      rw [l1', Option.bind_some]
      show ((m_X3_countRights 63 U).bind fun r90 => (some (((.inl ((100 * nI (sims c x m).2.1) + r90), U) : (Int32 ⊕ Nat) × Hs)))) = _
      rw [hcr]
      simp (disch := omega) only [k_0, k_1, k_2, k_3, k_4, k_5, k_6, k_7, k_8, k_9, k_10, k_14, k_16, k_28, k_30, k_48, k_49, k_57, k_100, k_110, k_127, k_128, k_196, k_255, k_1000, k_1024, k_10000, nI_add, nI_mul, nI_div, irm_nI, nle, nlt, neq, gd_t, inb_nI, cl_nI, bnd_eq, gdT, gdo, gb0, gb1, gbi, bi0, bi1, bi0r, Option.bind_some, bndE_some, ite_t, ite_f, k_m9, k_m1, k_13, k_15, k_18, k_19, k_112, k_114, k_115, k_98, k_103, k_116, k_119, k_47, k_82, k_50, k_51, k_99, k_700, k_197, ne9, ne9s, nI_ne0s, ↓reduceIte]
    · obtain ⟨A1, a1, a2, a3⟩ := putAside_ok (T := sI T 13 0 (nI 0))
      have hM : RM A1 14 0 c := hT.1.keep fun b => by rw [a2.2.1 _ _ (by omega)]; rfl
      obtain ⟨U, u1, u2, u3⟩ := msim_loop hM ga x (show m < 1000 by omega)
      have hcr := rightsMany_ok (show RepM U 14 0 _ _ _ from u3)
      obtain ⟨V, b1, b2, b3⟩ := bringBack_ok (T := U)
      have hV : RM V 14 0 c := RepM.copy hT.1 fun j hj => by
        rw [b3 _ (by omega), u2.2, Nat.zero_add, a3 _ hj]
        rfl
      have q : Mq (sI T 13 0 (nI 0)) V := ((Mq.ofA a2 (by omega)).tr u2.1).tr (Mq.ofA b2 (by omega))
      obtain ⟨q1, q2⟩ := q_done hT (nI 0) q hV
      refine ⟨_, V, ?_, q1, q2, (q.1 _ _ (by omega)).trans (thr_eq T (nI 0)), rfl⟩
      unfold m_X6_simulate m_X6_simulate_J16
      have u1' : loopO (fun q => m_X6_simulate_L41 (nI m) q.1 q.2.1 q.2.2.1 q.2.2.2) (x, (0 : Int32), (0 : Int32), A1) = some (nI (sims c x m).2.1, U) := u1
      simp (disch := omega) only [k_0, k_1, k_2, k_3, k_4, k_5, k_6, k_7, k_8, k_9, k_10, k_14, k_16, k_28, k_30, k_48, k_49, k_57, k_100, k_110, k_127, k_128, k_196, k_255, k_1000, k_1024, k_10000, nI_add, nI_mul, nI_div, irm_nI, nle, nlt, neq, gd_t, inb_nI, cl_nI, bnd_eq, gdT, gdo, gb0, gb1, gbi, bi0, bi1, bi0r, Option.bind_some, bndE_some, ite_t, ite_f, k_m9, k_m1, k_13, k_15, k_18, k_19, k_112, k_114, k_115, k_98, k_103, k_116, k_119, k_47, k_82, k_50, k_51, k_99, k_700, k_197, ne9, ne9s, nI_ne0s, ↓reduceIte, hin, h99, Bool.true_eq_false, thr_eq, le00, a1]
      rw [u1]
      simp (disch := omega) only [k_0, k_1, k_2, k_3, k_4, k_5, k_6, k_7, k_8, k_9, k_10, k_14, k_16, k_28, k_30, k_48, k_49, k_57, k_100, k_110, k_127, k_128, k_196, k_255, k_1000, k_1024, k_10000, nI_add, nI_mul, nI_div, irm_nI, nle, nlt, neq, gd_t, inb_nI, cl_nI, bnd_eq, gdT, gdo, gb0, gb1, gbi, bi0, bi1, bi0r, Option.bind_some, bndE_some, ite_t, ite_f, k_m9, k_m1, k_13, k_15, k_18, k_19, k_112, k_114, k_115, k_98, k_103, k_116, k_119, k_47, k_82, k_50, k_51, k_99, k_700, k_197, ne9, ne9s, nI_ne0s, ↓reduceIte, hcr, b1]
  · rw [B_false.mpr hv] at hin
    refine ⟨.inr 1, _, ⟨ga, gr, gm, gs⟩, fun S hS => ⟨S, ?_, Co.rf S, hS⟩, fun T hT => ?_⟩
    · unfold m_X5_simulate m_X5_simulate_J11
      by_cases h1 : v < 1
      · rw [if_pos h1]
      · rw [if_neg h1]
        by_cases h2 : v ≤ 99
        · exfalso
          refine hv ?_
          have t1 : (1 : Int32).toInt = 1 := by decide
          have t3 : (99 : Int32).toInt = 99 := by decide
          have t4 : (nI 100).toInt = 100 := by decide
          have t0 : (0 : Int32).toInt = 0 := rfl
          rw [Int32.lt_iff_toInt_lt] at h1
          rw [Int32.le_iff_toInt_le] at h2
          obtain ⟨k, hk, e⟩ := of_range (i := v) (n := 100) (by rw [Int32.lt_iff_toInt_lt]; omega) (by rw [Int32.le_iff_toInt_le]; omega) (by omega)
          refine ⟨k, ?_, by omega, e⟩
          rw [e, nI_toInt (by omega)] at h1
          omega
        · rw [if_neg h2]
    · obtain ⟨q1, q2⟩ := q_thr hT (nI 1)
      refine ⟨nI 0, _, ?_, q1, q2, thr_s _ _⟩
      unfold m_X6_simulate m_X6_simulate_J16
      simp (disch := omega) only [k_0, k_1, k_2, k_3, k_4, k_5, k_6, k_7, k_8, k_9, k_10, k_14, k_16, k_28, k_30, k_48, k_49, k_57, k_100, k_110, k_127, k_128, k_196, k_255, k_1000, k_1024, k_10000, nI_add, nI_mul, nI_div, irm_nI, nle, nlt, neq, gd_t, inb_nI, cl_nI, bnd_eq, gdT, gdo, gb0, gb1, gbi, bi0, bi1, bi0r, Option.bind_some, bndE_some, ite_t, ite_f, k_m9, k_m1, k_13, k_15, k_18, k_19, k_112, k_114, k_115, k_98, k_103, k_116, k_119, k_47, k_82, k_50, k_51, k_99, k_700, k_197, ne9, ne9s, nI_ne0s, ↓reduceIte, hin, h99, thr_eq, show ¬ nI 1 ≤ nI 0 from by decide]
