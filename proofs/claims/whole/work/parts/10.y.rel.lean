/-! the relation of both sides: an abstract state, what the class and the model hold of it -/
abbrev Ab : Type := Nat × Kd × Rt
/-- now; how many are remembered, which; which slots are full, with what; the text -/
abbrev GS : Type := Ab × Nat × (Nat → Ab) × (Nat → Bool) × (Nat → Ab) × Nat × (Nat → Nat)
def RS (S : Hs) (i : Nat) (a : Ab) : Prop := RepS S i a.1 a.2.1 a.2.2
def RM (S : Hs) (v o : Nat) (a : Ab) : Prop := RepM S v o a.1 a.2.1 a.2.2
def AOk (a : Ab) : Prop := a.1 ≤ 7 ∧ WF a.1 a.2.2 ∧ (∀ j, j < a.1 → a.2.1 j < 3) ∧ cnt a.2.2 ≤ 30
def GOk (g : GS) : Prop := AOk g.1 ∧ g.2.1 ≤ 14 ∧ (∀ j, j < g.2.1 → AOk (g.2.2.1 j)) ∧ ∀ j, j < 2 → g.2.2.2.1 j = true → AOk (g.2.2.2.2.1 j)
/-- the remembered State objects -/
def Mem (S : Hs) (r : Nat) (mem : Nat → Ab) (q : Nat → Nat) : Prop := (∀ j, j < 14 → gQ S 3 j = q j ∧ 31 ≤ q j ∧ q j ≤ 57 ∧ q j % 2 = 1) ∧ (∀ i j, i < 14 → j < 14 → q i = q j → i = j) ∧ ∀ j, j < r → j < 14 → RS S (q j) (mem j)
def CRel (S : Hs) (g : GS) : Prop := RS S 29 g.1 ∧ gI S 0 3 = nI g.2.1 ∧ (∃ q, Mem S g.2.1 g.2.2.1 q) ∧ (∀ j, j < 2 → gQ S 4 j = 59 + 2 * j ∧ gA S 5 j = bi (g.2.2.2.1 j) ∧ (g.2.2.2.1 j = true → RS S (59 + 2 * j) (g.2.2.2.2.1 j))) ∧ TxC S g.2.2.2.2.2.1 g.2.2.2.2.2.2
def MRel (S : Hs) (g : GS) : Prop := RM S 14 0 g.1 ∧ gI S 13 3 = nI g.2.1 ∧ (∀ j, j < g.2.1 → RM S 15 (57 * j) (g.2.2.1 j)) ∧ (∀ j, j < 2 → gA S 17 j = bi (g.2.2.2.1 j) ∧ (g.2.2.2.1 j = true → RM S 16 (57 * j) (g.2.2.2.2.1 j))) ∧ TxM S g.2.2.2.2.2.1 g.2.2.2.2.2.2
/-- what a call of the class leaves, what a call of the model leaves -/
def Co (S T : Hs) : Prop := (∀ b, gI T 13 b = gI S 13 b) ∧ (∀ a b, 14 ≤ a → a ≤ 27 → gA T a b = gA S a b) ∧ ∀ b, gO T b = gO S b
def Mo (S T : Hs) : Prop := (∀ a b, a ≠ 13 → gI T a b = gI S a b) ∧ (∀ a b, ¬ (14 ≤ a ∧ a ≤ 27) → gA T a b = gA S a b) ∧ (∀ a b, gQ T a b = gQ S a b) ∧ ∀ b, gO T b = gO S b
theorem Co.rf (S : Hs) : Co S S := ⟨fun _ => rfl, fun _ _ _ _ => rfl, fun _ => rfl⟩
theorem Mo.rf (S : Hs) : Mo S S := ⟨fun _ _ _ => rfl, fun _ _ _ => rfl, fun _ _ => rfl, fun _ => rfl⟩
theorem Co.tr {S T U : Hs} (h : Co S T) (g : Co T U) : Co S U := ⟨fun b => (g.1 b).trans (h.1 b), fun a b q1 q2 => (g.2.1 a b q1 q2).trans (h.2.1 a b q1 q2), fun b => (g.2.2 b).trans (h.2.2 b)⟩
theorem Mo.tr {S T U : Hs} (h : Mo S T) (g : Mo T U) : Mo S U := ⟨fun a b q => (g.1 a b q).trans (h.1 a b q), fun a b q => (g.2.1 a b q).trans (h.2.1 a b q), fun a b => (g.2.2.1 a b).trans (h.2.2.1 a b), fun b => (g.2.2.2 b).trans (h.2.2.2 b)⟩
theorem Co.ofK {S T : Hs} (h : Kp S T) : Co S T := ⟨fun b => (h.1 _ _ (by omega)).1, fun a b q1 q2 => (h.1 _ _ (by omega)).2, h.2.2⟩
theorem Co.ofB {i : Nat} {S T : Hs} (h : SameB i S T) (hi : 29 ≤ i) : Co S T := ⟨fun b => h.1 _ _ (by omega), fun a b q1 q2 => h.2.1 _ _ (by omega), h.2.2.2⟩
theorem Co.sI {i k : Nat} (S : Hs) (v : Int32) (hi : i ≠ 13) : Co S (sI S i k v) := ⟨fun b => by rw [gI_sI, if_neg (fun q => hi q.symm)], fun _ _ _ _ => rfl, fun _ => rfl⟩
theorem Co.sA {i k : Nat} (S : Hs) (v : Int32) (hi : ¬ (14 ≤ i ∧ i ≤ 27)) : Co S (sA S i k v) := ⟨fun b => rfl, fun a b q1 q2 => by rw [gA_sA, if_neg (by omega)], fun _ => rfl⟩
theorem Co.sQ {i k v : Nat} (S : Hs) : Co S (sQ S i k v) := ⟨fun b => rfl, fun a b q1 q2 => rfl, fun _ => rfl⟩
theorem Mo.ofQ {S T : Hs} (h : Mq S T) : Mo S T := ⟨fun a b q => h.1 _ _ (by omega), fun a b q => h.2.1 _ _ (by omega), h.2.2.1, h.2.2.2⟩
theorem Mo.ofA {c : Nat} {S T : Hs} (h : OnA c S T) (hc : 14 ≤ c ∧ c ≤ 27) : Mo S T := ⟨fun a b _ => h.1 a b, fun a b q => h.2.1 _ _ (by omega), h.2.2.1, h.2.2.2⟩
theorem Mo.sI {k : Nat} (S : Hs) (v : Int32) : Mo S (sI S 13 k v) := ⟨fun a b q => by rw [gI_sI, if_neg q], fun _ _ _ => rfl, fun _ _ => rfl, fun _ => rfl⟩
theorem Mo.sA {i k : Nat} (S : Hs) (v : Int32) (hi : 14 ≤ i ∧ i ≤ 27) : Mo S (sA S i k v) := ⟨fun _ _ _ => rfl, fun a b q => by rw [gA_sA, if_neg (by omega)], fun _ _ => rfl, fun _ => rfl⟩
theorem RS.samev {S T : Hs} {i : Nat} {a : Ab} (h : RS S i a) (h1 : ∀ b, gI T i b = gI S i b) (h2 : ∀ b, gA T (i + 1) b = gA S (i + 1) b) : RS T i a := RepS.samev h h1 h2
theorem RS.keep {S T : Hs} {i j : Nat} {a : Ab} (h : RS S j a) (hs : SameB i S T) (h1 : j ≠ i) : RS T j a := RepS.keep h hs h1 (by omega)
/-- the class's persistent part moves with what it reads -/
theorem CRel.move {S T : Hs} {g : GS} (h : CRel S g) (h1 : ∀ a b, (a ≤ 1 ∨ 29 ≤ a ∧ a ≤ 62) → gI T a b = gI S a b) (h2 : ∀ a b, (a = 2 ∨ a = 5 ∨ 29 ≤ a ∧ a ≤ 62) → gA T a b = gA S a b) (h3 : ∀ a b, gQ T a b = gQ S a b) : CRel T g := by
  obtain ⟨a1, a2, ⟨q, b1, b2, b3⟩, a4, a5⟩ := h
  refine ⟨a1.samev (fun b => h1 _ _ (by omega)) (fun b => h2 _ _ (by omega)), (h1 _ _ (by omega)).trans a2, ⟨q, fun j hj => ?_, b2, fun j hj => ?_⟩, fun j hj => ?_, (h1 _ _ (by omega)).trans a5.1, a5.2.1, fun j hj => ⟨(h2 _ _ (by omega)).trans (a5.2.2 j hj).1, (a5.2.2 j hj).2⟩⟩
  · rw [h3]
    exact b1 j hj
  · intro hj14
    have := b1 j hj14
    exact (b3 j hj hj14).samev (fun b => h1 _ _ (by omega)) (fun b => h2 _ _ (by omega))
  · obtain ⟨c1, c2, c3⟩ := a4 j hj
    rw [h3, h2 5 _ (by omega)]
    exact ⟨c1, c2, fun e => (c3 e).samev (fun b => h1 _ _ (by omega)) (fun b => h2 _ _ (by omega))⟩
theorem CRel.kp {S T : Hs} {g : GS} (h : CRel S g) (k : Kp S T) : CRel T g := h.move (fun a b q => (k.1 _ _ (by omega)).1) (fun a b q => (k.1 _ _ (by omega)).2) k.2.1
theorem CRel.mo {S T : Hs} {g : GS} (h : CRel S g) (k : Mo S T) : CRel T g := h.move (fun a b q => k.1 _ _ (by omega)) (fun a b q => k.2.1 _ _ (by omega)) k.2.2.1
theorem CRel.sO {S : Hs} {g : GS} (h : CRel S g) (k : Nat) (v : Int64) : CRel (sO S k v) g := h.move (fun _ _ _ => rfl) (fun _ _ _ => rfl) fun _ _ => rfl
theorem RM.keep {S T : Hs} {v o : Nat} {a : Ab} (h : RM S v o a) (he : ∀ j, gA T v j = gA S v j) : RM T v o a := RepM.keep h he
theorem MRel.move {S T : Hs} {g : GS} (h : MRel S g) (h1 : gI T 13 3 = gI S 13 3) (h2 : gI T 13 8 = gI S 13 8) (h3 : ∀ a b, (14 ≤ a ∧ a ≤ 17 ∨ a = 19) → gA T a b = gA S a b) : MRel T g := by
  obtain ⟨a1, a2, a3, a4, a5⟩ := h
  refine ⟨a1.keep fun j => h3 _ _ (by omega), h1.trans a2, fun j hj => (a3 j hj).keep fun j => h3 _ _ (by omega), fun j hj => ?_, a5.keep h2 fun j => h3 _ _ (by omega)⟩
  obtain ⟨c1, c2⟩ := a4 j hj
  rw [h3 17 _ (by omega)]
  exact ⟨c1, fun e => (c2 e).keep fun j => h3 _ _ (by omega)⟩
theorem MRel.co {S T : Hs} {g : GS} (h : MRel S g) (k : Co S T) : MRel T g := h.move (k.1 _) (k.1 _) fun a b q => k.2.1 _ _ (by omega) (by omega)
theorem MRel.sO {S : Hs} {g : GS} (h : MRel S g) (k : Nat) (v : Int64) : MRel (sO S k v) g := h.move rfl rfl fun _ _ _ => rfl
/-- the model's state kept, all else but what lasts free -/
theorem MRel.mq {S T : Hs} {g : GS} (h : MRel S g) (k : Mq S T) (hz : RM T 14 0 g.1) : MRel T g := by
  obtain ⟨a1, a2, a3, a4, a5⟩ := h
  refine ⟨hz, (k.1 _ _ (by omega)).trans a2, fun j hj => (a3 j hj).keep fun j => k.2.1 _ _ (by omega), fun j hj => ?_, a5.keep (k.1 _ _ (by omega)) fun j => k.2.1 _ _ (by omega)⟩
  obtain ⟨c1, c2⟩ := a4 j hj
  rw [k.2.1 17 _ (by omega)]
  exact ⟨c1, fun e => (c2 e).keep fun j => k.2.1 _ _ (by omega)⟩
/-- an operation of both sides: what it answers and what it leaves, out of the abstract state -/
def OpOk (X : Hs → Option ((Int32 ⊕ Nat) × Hs)) (M : Hs → Option (Int32 × Hs)) (cd : Nat → Option Int32) : Prop :=
  ∀ g : GS, GOk g → ∃ (oc : Int32 ⊕ Nat) (g' : GS), GOk g' ∧ (∀ S, CRel S g → ∃ S1, X S = some (oc, S1) ∧ Co S S1 ∧ CRel S1 g') ∧ ∀ T, MRel T g → ∃ v S2, M T = some (v, S2) ∧ Mo T S2 ∧ MRel S2 g' ∧ (match oc with | .inl x => gI S2 13 0 = nI 0 ∧ v = x | .inr e => some (gI S2 13 0) = cd e)
/-! what calls have to fulfil -/
noncomputable def wr (n : Nat) (x k y : Int32) : Nat := if (isT n x && isT n y) = true then (if x ≠ y ∧ isT 4 k = true then 0 else 2) else 1
theorem wr_0 {n : Nat} (hn : n ≤ 7) {x k y : Int32} (h : wr n x k y = 0) : ∃ a c d, a < n ∧ c < 4 ∧ d < n ∧ a ≠ d ∧ x = nI a ∧ k = nI c ∧ y = nI d := by
  unfold wr at h
  by_cases h1 : (isT n x && isT n y) = true
  · rw [if_pos h1] at h
    by_cases h2 : x ≠ y ∧ isT 4 k = true
    · rw [Bool.and_eq_true] at h1
      obtain ⟨a, ha, rfl⟩ := isT_iff.mp h1.1
      obtain ⟨d, hd, rfl⟩ := isT_iff.mp h1.2
      obtain ⟨c, hc, rfl⟩ := isT_iff.mp h2.2
      exact ⟨a, c, d, ha, hc, hd, fun e => h2.1 (by rw [e]), rfl, rfl, rfl⟩
    · rw [if_neg h2] at h; cases h
  · rw [if_neg h1] at h; cases h
theorem wr_isR {n : Nat} {x k y : Int32} : isR n x k y = decide (wr n x k y = 0) := by
  unfold isR wr
  cases isT n x <;> cases isT n y <;> cases isT 4 k <;> by_cases h : x = y <;> simp [h]
/-- the exception of a wrong right: 3 no such thing, 1 another one -/
noncomputable def wrx (n : Nat) (x k y : Int32) : Nat := if wr n x k y = 1 then 3 else 1
theorem nI00 : (nI 0 = (0 : Int32)) = True := eq_true rfl
theorem nI10 : (nI 1 = (0 : Int32)) = False := eq_false (by decide)
theorem checkThing_ok {S : Hs} {n : Nat} {K : Kd} {Z : Rt} (h : RepS S 29 n K Z) (v : Int32) : m_X5_checkThing v S = some (if isT n v = true then .inl () else .inr 3) := by
  unfold m_X5_checkThing
  simp (disch := omega) only [k_0, k_1, k_2, k_3, k_4, k_5, k_6, k_7, k_8, k_9, k_10, k_14, k_16, k_28, k_30, k_48, k_49, k_57, k_100, k_110, k_127, k_128, k_196, k_255, k_1000, k_1024, k_10000, nI_add, nI_mul, nI_div, irm_nI, nle, nlt, neq, gd_t, inb_nI, cl_nI, bnd_eq, gdT, gdo, gb0, gb1, gbi, bi0, bi1, bi0r, Option.bind_some, bndE_some, ite_t, ite_f, k_m9, k_m1, k_13, k_15, k_18, k_19, k_112, k_114, k_115, k_98, k_103, k_116, k_119, k_47, k_82, k_50, k_51, k_99, k_700, k_197, ne9, ne9s, nI_ne0s, ↓reduceIte, exists_bi h]
  cases isT n v <;> simp
theorem checkRight_ok {S : Hs} {n : Nat} {K : Kd} {Z : Rt} (h : RepS S 29 n K Z) (x k y : Int32) : m_X5_checkRight x k y S = some (if wr n x k y = 0 then .inl () else .inr (wrx n x k y)) := by
  unfold m_X5_checkRight
  rw [checkThing_ok h, checkThing_ok h, isRight_bi h]
  unfold wrx isR wr bndP
  cases isT n x <;> cases isT n y <;> cases isT 4 k <;> by_cases hxy : x = y <;> simp [hxy, bi, nI00, nI10]
theorem whyNotRight_ok {S : Hs} {n : Nat} {K : Kd} {Z : Rt} (h : RepM S 14 0 n K Z) (x k y : Int32) : m_X6_whyNotRight x k y S = some (nI (wr n x k y)) := by
  unfold m_X6_whyNotRight m_X6_whyNotRight_J16 m_X6_whyNotRight_J34 m_X6_whyNotRight_J39 wr
  simp (disch := omega) only [k_0, k_1, k_2, k_3, k_4, k_5, k_6, k_7, k_8, k_9, k_10, k_14, k_16, k_28, k_30, k_48, k_49, k_57, k_100, k_110, k_127, k_128, k_196, k_255, k_1000, k_1024, k_10000, nI_add, nI_mul, nI_div, irm_nI, nle, nlt, neq, gd_t, inb_nI, cl_nI, bnd_eq, gdT, gdo, gb0, gb1, gbi, bi0, bi1, bi0r, Option.bind_some, bndE_some, ite_t, ite_f, k_m9, k_m1, k_13, k_15, k_18, k_19, k_112, k_114, k_115, k_98, k_103, k_116, k_119, k_47, k_82, k_50, k_51, k_99, k_700, k_197, ne9, ne9s, nI_ne0s, ↓reduceIte, isThing_ok h, in_T]
  cases isT n x <;> cases isT n y <;> cases isT 4 k <;> by_cases hxy : x = y <;> simp [hxy]
noncomputable def ws (n : Nat) (p y k z : Int32) : Nat := if (isT n p && (isT n y && isT n z)) = true then (if p ≠ y ∧ p ≠ z ∧ y ≠ z ∧ isT 4 k = true then 0 else 2) else 1
noncomputable def wsx (n : Nat) (p y k z : Int32) : Nat := if ws n p y k z = 1 then 3 else 1
theorem ws_0 {n : Nat} (hn : n ≤ 7) {p y k z : Int32} (h : ws n p y k z = 0) : ∃ a b c d, a < n ∧ b < n ∧ c < 4 ∧ d < n ∧ a ≠ b ∧ a ≠ d ∧ b ≠ d ∧ p = nI a ∧ y = nI b ∧ k = nI c ∧ z = nI d := by
  unfold ws at h
  by_cases h1 : (isT n p && (isT n y && isT n z)) = true
  · rw [if_pos h1] at h
    by_cases h2 : p ≠ y ∧ p ≠ z ∧ y ≠ z ∧ isT 4 k = true
    · rw [Bool.and_eq_true, Bool.and_eq_true] at h1
      obtain ⟨a, ha, rfl⟩ := isT_iff.mp h1.1
      obtain ⟨b, hb, rfl⟩ := isT_iff.mp h1.2.1
      obtain ⟨d, hd, rfl⟩ := isT_iff.mp h1.2.2
      obtain ⟨c, hc, rfl⟩ := isT_iff.mp h2.2.2.2
      exact ⟨a, b, c, d, ha, hb, hc, hd, fun e => h2.1 (by rw [e]), fun e => h2.2.1 (by rw [e]), fun e => h2.2.2.1 (by rw [e]), rfl, rfl, rfl, rfl⟩
    · rw [if_neg h2] at h; cases h
  · rw [if_neg h1] at h; cases h
theorem ws_isS {n : Nat} {p y k z : Int32} : isS n p y k z = decide (ws n p y k z = 0) := by
  unfold isS isR ws
  cases isT n p <;> cases isT n y <;> cases isT n z <;> cases isT 4 k <;> by_cases h1 : p = y <;> by_cases h2 : p = z <;> by_cases h3 : y = z <;> simp [h1, h2, h3]
theorem checkStep_ok {S : Hs} {n : Nat} {K : Kd} {Z : Rt} (h : RepS S 29 n K Z) (p y k z : Int32) : m_X5_checkStep p y k z S = some (if ws n p y k z = 0 then .inl () else .inr (wsx n p y k z)) := by
  unfold m_X5_checkStep
  rw [checkThing_ok h, checkThing_ok h, checkThing_ok h, isStep_bi h, ws_isS]
  unfold wsx bndP
  unfold ws
  cases isT n p <;> cases isT n y <;> cases isT n z <;> cases isT 4 k <;> by_cases h1 : p = y <;> by_cases h2 : p = z <;> by_cases h3 : y = z <;> simp [h1, h2, h3, bi, nI00, nI10]
theorem whyNotStep_ok {S : Hs} {n : Nat} {K : Kd} {Z : Rt} (h : RepM S 14 0 n K Z) (p y k z : Int32) : m_X6_whyNotStep p y k z S = some (nI (ws n p y k z)) := by
  unfold m_X6_whyNotStep m_X6_whyNotStep_J25 m_X6_whyNotStep_J53 m_X6_whyNotStep_J58 ws
  simp (disch := omega) only [k_0, k_1, k_2, k_3, k_4, k_5, k_6, k_7, k_8, k_9, k_10, k_14, k_16, k_28, k_30, k_48, k_49, k_57, k_100, k_110, k_127, k_128, k_196, k_255, k_1000, k_1024, k_10000, nI_add, nI_mul, nI_div, irm_nI, nle, nlt, neq, gd_t, inb_nI, cl_nI, bnd_eq, gdT, gdo, gb0, gb1, gbi, bi0, bi1, bi0r, Option.bind_some, bndE_some, ite_t, ite_f, k_m9, k_m1, k_13, k_15, k_18, k_19, k_112, k_114, k_115, k_98, k_103, k_116, k_119, k_47, k_82, k_50, k_51, k_99, k_700, k_197, ne9, ne9s, nI_ne0s, ↓reduceIte, isThing_ok h, in_T]
  cases isT n p <;> cases isT n y <;> cases isT n z <;> cases isT 4 k <;> by_cases h1 : p = y <;> by_cases h2 : p = z <;> by_cases h3 : y = z <;> simp [h1, h2, h3]
