/-! booleans as ints, small literals, counts -/
def bi (b : Bool) : Int32 := if b = true then nI 1 else nI 0
theorem bi0 (b : Bool) : (bi b = nI 0) = (b = false) := by cases b <;> simp [bi, neq (a := 1) (b := 0)]
theorem bi1 (b : Bool) : (bi b = nI 1) = (b = true) := by cases b <;> simp [bi, neq (a := 0) (b := 1)]
theorem bi0r (b : Bool) : (bi b = (0 : Int32)) = (b = false) := bi0 b
theorem gb0 {α : Type} (k : Option α) : gd (decide (nI 0 = nI 0 ∨ nI 0 = nI 1)) k = k := gd_t (by simp) k
theorem gb1 {α : Type} (k : Option α) : gd (decide (nI 1 = nI 0 ∨ nI 1 = nI 1)) k = k := gd_t (by simp) k
theorem gbi {α : Type} (b : Bool) (k : Option α) : gd (decide (bi b = nI 0 ∨ bi b = nI 1)) k = k := gd_t (by cases b <;> simp [bi]) k
theorem gdT {α : Type} (k : Option α) : gd true k = k := rfl
theorem gdo {α : Type} (b : Bool) [c : Decidable (b = false ∨ b = true)] (k : Option α) : gd (@decide (b = false ∨ b = true) c) k = k := gd_t (decide_eq_true (by cases b <;> simp)) k
theorem bi_t : bi true = nI 1 := rfl
theorem bi_f : bi false = nI 0 := rfl
theorem bndE_some {α γ : Type} (a : α) (T : Hs) (f : α → Hs → Option γ) : bndE (some (a, T)) f = f a T := rfl
theorem ite_t {α : Type} {c : Prop} [Decidable c] (h : c) (a b : α) : (if c then a else b) = a := if_pos h
theorem ite_f {α : Type} {c : Prop} [Decidable c] (h : ¬ c) (a b : α) : (if c then a else b) = b := if_neg h
theorem k_0 : (0 : Int32) = nI 0 := rfl
theorem k_1 : (1 : Int32) = nI 1 := rfl
theorem k_2 : (2 : Int32) = nI 2 := rfl
theorem k_3 : (3 : Int32) = nI 3 := rfl
theorem k_4 : (4 : Int32) = nI 4 := rfl
theorem k_5 : (5 : Int32) = nI 5 := rfl
theorem k_6 : (6 : Int32) = nI 6 := rfl
theorem k_7 : (7 : Int32) = nI 7 := rfl
theorem k_8 : (8 : Int32) = nI 8 := rfl
theorem k_9 : (9 : Int32) = nI 9 := rfl
theorem k_10 : (10 : Int32) = nI 10 := rfl
theorem k_14 : (14 : Int32) = nI 14 := rfl
theorem k_16 : (16 : Int32) = nI 16 := rfl
theorem k_28 : (28 : Int32) = nI 28 := rfl
theorem k_30 : (30 : Int32) = nI 30 := rfl
theorem k_48 : (48 : Int32) = nI 48 := rfl
theorem k_49 : (49 : Int32) = nI 49 := rfl
theorem k_57 : (57 : Int32) = nI 57 := rfl
theorem k_100 : (100 : Int32) = nI 100 := rfl
theorem k_110 : (110 : Int32) = nI 110 := rfl
theorem k_127 : (127 : Int32) = nI 127 := rfl
theorem k_128 : (128 : Int32) = nI 128 := rfl
theorem k_196 : (196 : Int32) = nI 196 := rfl
theorem k_255 : (255 : Int32) = nI 255 := rfl
theorem k_1000 : (1000 : Int32) = nI 1000 := rfl
theorem k_1024 : (1024 : Int32) = nI 1024 := rfl
theorem k_10000 : (10000 : Int32) = nI 10000 := rfl
noncomputable def B (p : Prop) : Bool := @decide p (Classical.propDecidable p)
theorem B_iff {p : Prop} : B p = true ↔ p := by unfold B; exact @decide_eq_true_iff p (Classical.propDecidable p)
theorem B_false {p : Prop} : B p = false ↔ ¬ p := by rw [← Bool.not_eq_true, B_iff]
theorem B_dec {p : Prop} [Decidable p] : B p = decide p := by
  by_cases h : p
  · rw [B_iff.mpr h, decide_eq_true h]
  · rw [B_false.mpr h, decide_eq_false h]
/-- counting: parts, order, strictly more -/
theorem fb_ct_sm (p : Nat → Bool) : ∀ n, fb_ct p n = fb_sm (fun i => if p i then 1 else 0) n
  | 0 => rfl
  | n + 1 => by rw [fb_ct_succ, fb_sm_succ, fb_ct_sm p n]
theorem fb_sm_0 : ∀ n, fb_sm (fun _ => 0) n = 0
  | 0 => rfl
  | n + 1 => by rw [fb_sm_succ, fb_sm_0 n]
theorem fb_sm_swap (f : Nat → Nat → Nat) (m : Nat) : ∀ n, fb_sm (fun a => fb_sm (fun b => f a b) m) n = fb_sm (fun b => fb_sm (fun a => f a b) n) m
  | 0 => by
    show 0 = fb_sm (fun b => 0) m
    rw [fb_sm_0]
  | n + 1 => by
    rw [fb_sm_succ, fb_sm_swap f m n, ← fb_sm_add]
    rfl
theorem fb_ct_blocks (p : Nat → Bool) (w : Nat) : ∀ m, fb_ct p (w * m) = fb_sm (fun k => fb_ct (fun y => p (w * k + y)) w) m
  | 0 => rfl
  | m + 1 => by rw [Nat.mul_succ, fb_ct_split, fb_ct_blocks p w m, fb_sm_succ]
theorem fb_ct_lt {p q : Nat → Bool} {n : Nat} (h : ∀ k, k < n → p k = true → q k = true) {i : Nat} (hi : i < n) (h1 : p i = false) (h2 : q i = true) : fb_ct p n < fb_ct q n := by
  have e := fb_ct_upd p true hi
  rw [h1, if_neg (by decide : ¬ (false = true)), if_pos (rfl : true = true)] at e
  have l : fb_ct (fun k => if k = i then true else p k) n ≤ fb_ct q n := fb_ct_sub fun k hk hp => by
    by_cases hki : k = i
    · subst hki
      exact h2
    · rw [if_neg hki] at hp
      exact h k hk hp
  omega
/-- the cells of a set of rights in one row; how many there are -/
def fl (Z : Rt) (i : Nat) : Bool := Z (i / 28) (i % 28 / 7) (i % 28 % 7)
def cnt (Z : Rt) : Nat := fb_ct (fl Z) 196
def rowc (Z : Rt) (x : Nat) : Nat := fb_ct (fun j => Z x (j / 7) (j % 7)) 28
theorem cnt_rows (Z : Rt) : cnt Z = fb_sm (rowc Z) 7 := by
  unfold cnt
  rw [show (196 : Nat) = 28 * 7 from rfl, fb_ct_blocks]
  refine fb_sm_cong fun x hx => fb_ct_cong fun j hj => ?_
  unfold fl
  rw [show (28 * x + j) / 28 = x by omega, show (28 * x + j) % 28 = j by omega]
theorem rowc_cols (Z : Rt) (x : Nat) : rowc Z x = fb_sm (fun y => fb_ct (fun k => Z x k y) 4) 7 := by
  unfold rowc
  rw [show (28 : Nat) = 7 * 4 from rfl, fb_ct_blocks]
  have h1 : fb_sm (fun k => fb_ct (fun y => Z x ((7 * k + y) / 7) ((7 * k + y) % 7)) 7) 4 = fb_sm (fun k => fb_sm (fun y => if Z x k y then 1 else 0) 7) 4 := fb_sm_cong fun k hk => by
    rw [fb_ct_sm]
    refine fb_sm_cong fun y hy => ?_
    rw [show (7 * k + y) / 7 = k by omega, show (7 * k + y) % 7 = y by omega]
  rw [h1, fb_sm_swap]
  exact fb_sm_cong fun y hy => (fb_ct_sm _ 4).symm
theorem cnt_le {Z Z' : Rt} (h : ∀ x k y, Z x k y = true → Z' x k y = true) : cnt Z ≤ cnt Z' := fb_ct_sub fun i _ => h _ _ _
theorem cnt_lt {Z Z' : Rt} (h : ∀ x k y, Z x k y = true → Z' x k y = true) {x k y : Nat} (hx : x < 7) (hk : k < 4) (hy : y < 7) (h1 : Z x k y = false) (h2 : Z' x k y = true) : cnt Z < cnt Z' := by
  have e : ∀ T : Rt, fl T (28 * x + 7 * k + y) = T x k y := by
    intro T
    unfold fl
    rw [show (28 * x + 7 * k + y) / 28 = x by omega, show (28 * x + 7 * k + y) % 28 = 7 * k + y by omega, show (7 * k + y) / 7 = k by omega, show (7 * k + y) % 7 = y by omega]
  exact fb_ct_lt (i := 28 * x + 7 * k + y) (fun i _ => h _ _ _) (by omega) ((e Z).trans h1) ((e Z').trans h2)
theorem cnt_196 (Z : Rt) : cnt Z ≤ 196 := fb_ct_le _ _
theorem cnt_195 {n : Nat} {Z : Rt} (h : WF n Z) : cnt Z < 196 := by
  have : cnt Z < fb_ct (fun _ => true) 196 := fb_ct_lt (i := 0) (fun _ _ _ => rfl) (by omega) (by
    unfold fl
    cases hz : Z (0 / 28) (0 % 28 / 7) (0 % 28 % 7)
    · rfl
    · exact absurd rfl (h _ _ _ hz).2.2.2) rfl
  have := fb_ct_le (fun _ => true) 196
  omega
theorem cnt_cong {Z Z' : Rt} (h : ∀ x k y, x < 7 → k < 4 → y < 7 → Z x k y = Z' x k y) : cnt Z = cnt Z' := fb_ct_cong fun i hi => h _ _ _ (by omega) (by omega) (by omega)
/-! readers of a State object -/
variable {S : Hs} {i n : Nat} {K : Kd} {Z : Rt}
theorem row_bits (h : RepS S i n K Z) {x : Nat} (hx : x < 7) : fb_ct (bt (gA S (i + 1) x)) 32 = rowc Z x := by
  have hr := h.2.2.2.2.2 x hx
  unfold rowc
  rw [show (32 : Nat) = 28 + 4 from rfl, fb_ct_split]
  have z : fb_ct (fun k => bt (gA S (i + 1) x) (28 + k)) 4 = 0 := fb_ct_zero.mpr fun k hk => by rw [hr _ (by omega), decide_eq_false (by omega), Bool.false_and]
  rw [z, Nat.add_zero]
  exact fb_ct_cong fun j hj => by rw [hr _ (by omega), decide_eq_true (by omega), Bool.true_and]
theorem rowc_out (hw : WF n Z) {x : Nat} (hx : n ≤ x) : rowc Z x = 0 := fb_ct_zero.mpr fun j _ => by
  cases hz : Z x (j / 7) (j % 7)
  · rfl
  · have := (hw _ _ _ hz).1
    omega
theorem fb_sm_tail {f : Nat → Nat} {m n : Nat} (hm : m ≤ n) (h : ∀ k, m ≤ k → k < n → f k = 0) : fb_sm f n = fb_sm f m := by
  have e := fb_sm_split f m (n - m)
  rw [show m + (n - m) = n by omega] at e
  rw [e, fb_sm_cong (g := fun _ => 0) (fun k hk => h (m + k) (by omega) (by omega)), fb_sm_0, Nat.add_zero]
theorem cnt_n (hw : WF n Z) (hn : n ≤ 7) : cnt Z = fb_sm (rowc Z) n := by
  rw [cnt_rows]
  exact fb_sm_tail hn fun k h1 _ => rowc_out hw h1
theorem sm_small {f : Nat → Nat} {n c : Nat} (h : ∀ k, k < n → f k ≤ c) (k : Nat) (hk : k ≤ n) : fb_sm f k ≤ n * c := by
  have h1 := fb_sm_bound (f := f) (c := c) (n := k) (fun j hj => h j (by omega))
  have h2 : k * c ≤ n * c := Nat.mul_le_mul_right c hk
  omega
theorem countRights_ok (h : RepS S i n K Z) : m_X3_countRights i S = some (nI (cnt Z)) := by
  have hn := h.1
  unfold m_X3_countRights
  have hl := loopO_seq (f := fun x : Int32 × Int32 => m_X3_countRights_L4 i S x.1 x.2) (w := fun k => (nI (fb_sm (rowc Z) k), nI k)) n (r := nI (cnt Z)) (fun k hk => by
    simp only [m_X3_countRights_L4, h.2.2.1]
    simp (disch := omega) only [k_0, k_1, k_2, k_3, k_4, k_5, k_6, k_7, k_8, k_9, k_10, k_14, k_16, k_28, k_30, k_48, k_49, k_57, k_100, k_110, k_127, k_128, k_196, k_255, k_1000, k_1024, k_10000, nI_add, nI_mul, nI_div, irm_nI, nle, nlt, neq, gd_t, inb_nI, cl_nI, bnd_eq, gdT, gdo, gb0, gb1, gbi, bi0, bi1, bi0r, Option.bind_some, bndE_some, ite_t, ite_f, bitCount_ok, row_bits h (show k < 7 by omega)]
    rfl) (by
    simp only [m_X3_countRights_L4, h.2.2.1]
    simp (disch := omega) only [k_0, k_1, k_2, k_3, k_4, k_5, k_6, k_7, k_8, k_9, k_10, k_14, k_16, k_28, k_30, k_48, k_49, k_57, k_100, k_110, k_127, k_128, k_196, k_255, k_1000, k_1024, k_10000, nI_add, nI_mul, nI_div, irm_nI, nle, nlt, neq, gd_t, inb_nI, cl_nI, bnd_eq, gdT, gdo, gb0, gb1, gbi, bi0, bi1, bi0r, Option.bind_some, bndE_some, ite_t, ite_f]
    rw [cnt_n h.2.1 hn])
  exact congrArg (fun o : Option Int32 => o.bind fun y => some y) hl
theorem has_bi (h : RepS S i n K Z) {x k y : Nat} (hx : x < 7) (hk : k < 4) (hy : y < 7) : m_X3_has i (nI (ix x k y)) S = some (bi (Z x k y)) := by
  rw [has_ok h hx hk hy]
  rfl
theorem isPerson_bi (h : RepS S i n K Z) {x : Nat} (hx : x < 32) : m_X3_isPerson i (nI x) S = some (bi (decide (x < n ∧ K x ≠ 0))) := by
  rw [isPerson_ok h hx]
  by_cases hc : x < n ∧ K x ≠ 0
  · rw [if_pos hc, decide_eq_true hc]; rfl
  · rw [if_neg hc, decide_eq_false hc]; rfl
theorem isAwake_bi (h : RepS S i n K Z) {x : Nat} (hx : x < 32) : m_X3_isAwake i (nI x) S = some (bi (decide (x < n ∧ K x = 1))) := by
  rw [isAwake_ok h hx]
  by_cases hc : x < n ∧ K x = 1
  · rw [if_pos hc, decide_eq_true hc]; rfl
  · rw [if_neg hc, decide_eq_false hc]; rfl
/-- an int that is a number below n -/
noncomputable def isT (n : Nat) (v : Int32) : Bool := B (∃ x, x < n ∧ v = nI x)
theorem isT_iff {v : Int32} : isT n v = true ↔ ∃ x, x < n ∧ v = nI x := B_iff
theorem isT_nI {x : Nat} (hn : n < 1000000) (hx : x < 1000000) : isT n (nI x) = decide (x < n) := by
  have : (∃ y, y < n ∧ nI x = nI y) ↔ x < n := ⟨fun ⟨y, h1, h2⟩ => by rw [neq hx (by omega)] at h2; omega, fun h => ⟨x, h, rfl⟩⟩
  unfold isT
  by_cases hc : x < n
  · rw [decide_eq_true hc, B_iff.mpr (this.mpr hc)]
  · rw [decide_eq_false hc, B_false.mpr (fun q => hc (this.mp q))]
theorem exists_bi (h : RepS S i n K Z) (v : Int32) : m_X3_exists i v S = some (bi (isT n v)) := by
  rcases exists_ok h v with ⟨h1, h2⟩ | ⟨h1, h2⟩
  · rw [h1, isT_iff.mpr h2]; rfl
  · rw [h1, B_false.mpr h2 |> (show isT n v = false from ·)]; rfl
theorem isT_test (v : Int32) {α : Type} (a b : α) (hn : n < 1000000) : (if v < nI 0 then a else if nI n ≤ v then a else b) = if isT n v = true then b else a := by
  by_cases h0 : v < nI 0
  · rw [if_pos h0, if_neg]
    rw [isT_iff]
    rintro ⟨x, hx, rfl⟩
    exact not_neg (by omega) h0
  · rw [if_neg h0]
    by_cases h1 : nI n ≤ v
    · rw [if_pos h1, if_neg]
      rw [isT_iff]
      rintro ⟨x, hx, rfl⟩
      rw [nle (by omega) (by omega)] at h1
      omega
    · rw [if_neg h1, if_pos (isT_iff.mpr (of_range h0 h1 hn))]
noncomputable def isR (n : Nat) (a k b : Int32) : Bool := isT n a && isT n b && !decide (a = b) && isT 4 k
theorem isR_iff {a k b : Int32} (hn : n ≤ 7) : isR n a k b = true ↔ ∃ x kk y, x < n ∧ kk < 4 ∧ y < n ∧ x ≠ y ∧ a = nI x ∧ k = nI kk ∧ b = nI y := by
  unfold isR
  simp only [Bool.and_eq_true, Bool.not_eq_true', decide_eq_false_iff_not, isT_iff]
  constructor
  · rintro ⟨⟨⟨⟨x, hx, rfl⟩, ⟨y, hy, rfl⟩⟩, hne⟩, ⟨kk, hk, rfl⟩⟩
    exact ⟨x, kk, y, hx, hk, hy, fun e => hne (by rw [e]), rfl, rfl, rfl⟩
  · rintro ⟨x, kk, y, hx, hk, hy, hne, rfl, rfl, rfl⟩
    exact ⟨⟨⟨⟨x, hx, rfl⟩, ⟨y, hy, rfl⟩⟩, fun e => hne ((neq (by omega) (by omega)).mp e)⟩, ⟨kk, hk, rfl⟩⟩
theorem isRight_bi (h : RepS S i n K Z) (a k b : Int32) : m_X3_isRight i a k b S = some (bi (isR n a k b)) := by
  have hn := h.1
  unfold m_X3_isRight m_X3_isRight_J34 m_X3_isRight_J35 isR
  simp (disch := omega) only [k_0, k_1, k_2, k_3, k_4, k_5, k_6, k_7, k_8, k_9, k_10, k_14, k_16, k_28, k_30, k_48, k_49, k_57, k_100, k_110, k_127, k_128, k_196, k_255, k_1000, k_1024, k_10000, nI_add, nI_mul, nI_div, irm_nI, nle, nlt, neq, gd_t, inb_nI, cl_nI, bnd_eq, gdT, gdo, gb0, gb1, gbi, bi0, bi1, bi0r, Option.bind_some, bndE_some, ite_t, ite_f, exists_bi h]
  rw [isT_test k _ _ (by decide)]
  cases isT n a <;> cases isT n b <;> cases isT 4 k <;> by_cases hab : a = b <;> simp [hab, bi, bi_t, bi_f, gdT]
noncomputable def isS (n : Nat) (p y k z : Int32) : Bool := isR n p k y && isR n p k z && isR n y k z
theorem hasRoomFor_bi (h : RepS S i n K Z) {x k y : Nat} (hx : x < 7) (hk : k < 4) (hy : y < 7) : m_X3_hasRoomFor i (nI (ix x k y)) S = some (bi (Z x k y || decide (cnt Z < 30))) := by
  have hc := cnt_196 Z
  unfold m_X3_hasRoomFor m_X3_hasRoomFor_J17 m_X3_hasRoomFor_J22
  simp (disch := omega) only [k_0, k_1, k_2, k_3, k_4, k_5, k_6, k_7, k_8, k_9, k_10, k_14, k_16, k_28, k_30, k_48, k_49, k_57, k_100, k_110, k_127, k_128, k_196, k_255, k_1000, k_1024, k_10000, nI_add, nI_mul, nI_div, irm_nI, nle, nlt, neq, gd_t, inb_nI, cl_nI, bnd_eq, gdT, gdo, gb0, gb1, gbi, bi0, bi1, bi0r, Option.bind_some, bndE_some, ite_t, ite_f, has_bi h hx hk hy, countRights_ok h]
  cases Z x k y
  · by_cases h1 : 30 ≤ cnt Z
    · simp [h1, bi_f, gdT, Nat.not_lt.mpr h1]
    · simp [h1, bi_t, gdT, Nat.not_le.mp h1]
  · simp [bi_t, gdT]
