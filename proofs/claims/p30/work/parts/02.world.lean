/-! the system's world: its 57 objects and arrays by numbers (13 to 28 are no numbers), what each holds; a walk's judgement over it -/
abbrev Hs : Type := (Nat → Nat → Int32) × (Nat → Nat → Int32) × (Nat → Nat → Nat) × (Nat → Int64)
/-- an object's whole number at a slot, an array's at a place, a reference array's, the long array's -/
def gI (S : Hs) (i k : Nat) : Int32 := S.1 i k
def gA (S : Hs) (i k : Nat) : Int32 := S.2.1 i k
def gQ (S : Hs) (i k : Nat) : Nat := S.2.2.1 i k
def gO (S : Hs) (k : Nat) : Int64 := S.2.2.2 k
def u2 {α : Type} (f : Nat → Nat → α) (i k : Nat) (v : α) : Nat → Nat → α := fun a b => if a = i then (if b = k then v else f a b) else f a b
def sI (S : Hs) (i k : Nat) (v : Int32) : Hs := (u2 S.1 i k v, S.2)
def sA (S : Hs) (i k : Nat) (v : Int32) : Hs := (S.1, u2 S.2.1 i k v, S.2.2)
def sQ (S : Hs) (i k : Nat) (v : Nat) : Hs := (S.1, S.2.1, u2 S.2.2.1 i k v, S.2.2.2)
def sO (S : Hs) (k : Nat) (v : Int64) : Hs := (S.1, S.2.1, S.2.2.1, fun b => if b = k then v else S.2.2.2 b)
/-- classes, addresses (100: the script's), array classes, the script -/
abbrev GG : Type := va_G × (Nat → Nat) × (Nat → ClassId) × (Nat × (Nat → Int32))
abbrev Ld : Type := (Nat × Nat) ⊕ (Nat × List (Option Nat))
/-- the layout: .inl (kind of array, length), .inr (class, its fields: a number, or a reference to an object that stays) -/
def layL : List Ld := [.inr (5, [some 1, some 29, some 3, none, some 4, some 5, some 63, some 65, some 6, some 10, some 12]), .inr (4, [some 2, none]), .inl (0, 110), .inl (3, 14), .inl (3, 2), .inl (2, 2), .inr (2, [some 67, some 7, none, some 69, some 8, none, some 9]), .inl (1, 196), .inl (1, 196), .inl (2, 196), .inr (1, [some 11]), .inl (1, 7), .inr (0, [none, none, some 71]), .inr (3, [none, none, none, some 30]), .inl (1, 7), .inr (3, [none, none, none, some 32]), .inl (1, 7), .inr (3, [none, none, none, some 34]), .inl (1, 7), .inr (3, [none, none, none, some 36]), .inl (1, 7), .inr (3, [none, none, none, some 38]), .inl (1, 7), .inr (3, [none, none, none, some 40]), .inl (1, 7), .inr (3, [none, none, none, some 42]), .inl (1, 7), .inr (3, [none, none, none, some 44]), .inl (1, 7), .inr (3, [none, none, none, some 46]), .inl (1, 7), .inr (3, [none, none, none, some 48]), .inl (1, 7), .inr (3, [none, none, none, some 50]), .inl (1, 7), .inr (3, [none, none, none, some 52]), .inl (1, 7), .inr (3, [none, none, none, some 54]), .inl (1, 7), .inr (3, [none, none, none, some 56]), .inl (1, 7), .inr (3, [none, none, none, some 58]), .inl (1, 7), .inr (3, [none, none, none, some 60]), .inl (1, 7), .inr (3, [none, none, none, some 62]), .inl (1, 7), .inr (3, [none, none, none, some 64]), .inl (1, 7), .inr (3, [none, none, none, some 66]), .inl (1, 7), .inr (3, [none, none, none, some 68]), .inl (1, 7), .inr (3, [none, none, none, some 70]), .inl (1, 7), .inr (3, [none, none, none, some 72]), .inl (1, 7)]
def lay (i : Nat) : Option Ld := if i < 13 then layL[i]? else if i < 29 then none else layL[i - 16]?
def pl (i : Nat) : Nat := if i < 13 then i else i - 16
def up (j : Nat) : Nat := if j < 13 then j else j + 16
theorem lay_0 : lay 0 = some (.inr (5, [some 1, some 29, some 3, none, some 4, some 5, some 63, some 65, some 6, some 10, some 12])) := rfl
theorem lay_1 : lay 1 = some (.inr (4, [some 2, none])) := rfl
theorem lay_2 : lay 2 = some (.inl (0, 110)) := rfl
theorem lay_3 : lay 3 = some (.inl (3, 14)) := rfl
theorem lay_4 : lay 4 = some (.inl (3, 2)) := rfl
theorem lay_5 : lay 5 = some (.inl (2, 2)) := rfl
theorem lay_6 : lay 6 = some (.inr (2, [some 67, some 7, none, some 69, some 8, none, some 9])) := rfl
theorem lay_7 : lay 7 = some (.inl (1, 196)) := rfl
theorem lay_8 : lay 8 = some (.inl (1, 196)) := rfl
theorem lay_9 : lay 9 = some (.inl (2, 196)) := rfl
theorem lay_10 : lay 10 = some (.inr (1, [some 11])) := rfl
theorem lay_11 : lay 11 = some (.inl (1, 7)) := rfl
theorem lay_12 : lay 12 = some (.inr (0, [none, none, some 71])) := rfl
def fldV (ad : Nat → Nat) (f : Nat → Int32) : Nat → List (Option Nat) → List Value
  | _, [] => []
  | k, none :: t => .int (f k) :: fldV ad f (k + 1) t
  | k, some r :: t => .ref (ad r) :: fldV ad f (k + 1) t
def arrC (ad : Nat → Nat) (S : Hs) (i t : Nat) : (Nat → Int32) ⊕ (Nat → Int64) ⊕ (Nat → UInt32) ⊕ (Nat → UInt64) ⊕ (Nat → Option Nat) :=
  if t = 3 then .inr (.inr (.inr (.inr (fun j => some (ad (S.2.2.1 i j)))))) else if t = 4 then .inr (.inl S.2.2.2) else .inl (S.2.1 i)
def celV (g : GG) (S : Hs) (i : Nat) (d : Ld) : va_E := match d with
  | .inl (t, n) => .inl (g.2.2.1 t, n, arrC g.2.1 S i t)
  | .inr (c, fs) => .inr (c, fldV g.2.1 (S.1 i) 0 fs)
def wC (g : GG) (S : Hs) : va_W := layL.mapIdx (fun j d => (g.2.1 (up j), celV g S (up j) d))
def tysC (g : GG) : List (ClassId × FieldType) := [(g.2.2.1 0, .char), (g.2.2.1 1, .int), (g.2.2.1 2, .boolean), (g.2.2.1 3, .object "AccessSpread$State")]
def Inj (g : GG) : Prop := ∀ (i j : Nat) (d d' : Ld), lay i = some d → lay j = some d' → g.2.1 i = g.2.1 j → i = j
theorem lay_len : layL.length = 57 := by decide +kernel
theorem lay_pl {i : Nat} {d : Ld} (h : lay i = some d) : layL[pl i]? = some d ∧ up (pl i) = i := by
  unfold lay at h
  unfold pl up
  by_cases h1 : i < 13
  · rw [if_pos h1] at h
    rw [if_pos h1, if_pos h1]
    exact ⟨h, rfl⟩
  · rw [if_neg h1] at h
    by_cases h2 : i < 29
    · rw [if_pos h2] at h; cases h
    · rw [if_neg h2] at h
      rw [if_neg h1, if_neg (by omega)]
      exact ⟨h, by omega⟩
theorem pl_up (j : Nat) : pl (up j) = j := by
  unfold pl up
  by_cases h : j < 13
  · rw [if_pos h, if_pos h]
  · rw [if_neg h, if_neg (by omega)]; omega
theorem lay_up (j : Nat) : lay (up j) = layL[j]? := by
  unfold lay up
  by_cases h : j < 13
  · rw [if_pos h, if_pos h]
  · rw [if_neg h, if_neg (by omega), if_neg (by omega)]
    congr 1
theorem wC_get (g : GG) (S : Hs) {i : Nat} {d : Ld} (h : lay i = some d) : (wC g S)[pl i]? = some (g.2.1 i, celV g S i d) := by
  obtain ⟨h1, h2⟩ := lay_pl h
  unfold wC
  rw [List.getElem?_mapIdx, h1, h2]
  rfl
theorem wC_at (g : GG) (S : Hs) {j : Nat} {q : Nat × va_E} (h : (wC g S)[j]? = some q) : ∃ i d, lay i = some d ∧ pl i = j ∧ q = (g.2.1 i, celV g S i d) := by
  unfold wC at h
  rw [List.getElem?_mapIdx] at h
  cases hd : layL[j]? with
  | none => rw [hd] at h; cases h
  | some d => rw [hd] at h; exact ⟨up j, d, (lay_up j).trans hd, pl_up j, (Option.some.inj h).symm⟩
theorem wC_D {g : GG} {A : Nat → Prop} (hi : Inj g) (hA : ∀ i d, lay i = some d → A (g.2.1 i)) (S : Hs) : va_D A (wC g S) := by
  refine ⟨fun i j p q hp hq he => ?_, fun k q hk => ?_⟩
  · obtain ⟨i', d, h1, e1, h2⟩ := wC_at g S hp
    obtain ⟨j', d', h3, e2, h4⟩ := wC_at g S hq
    subst h2 h4
    rw [← e1, ← e2, hi i' j' d d' h1 h3 he]
  · obtain ⟨i', d, h1, e1, h2⟩ := wC_at g S hk
    subst h2
    exact hA i' d h1
theorem fldV_get (ad : Nat → Nat) (f : Nat → Int32) : ∀ (fs : List (Option Nat)) (k0 k : Nat) (x : Option Nat), fs[k]? = some x → (fldV ad f k0 fs)[k]? = some (match x with | none => .int (f (k0 + k)) | some r => .ref (ad r))
  | [], k0, k, x, h => by simp at h
  | y :: t, k0, 0, x, h => by
    simp at h
    subst h
    cases y <;> rfl
  | y :: t, k0, k + 1, x, h => by
    have h' : t[k]? = some x := by simpa using h
    have := fldV_get ad f t (k0 + 1) k x h'
    rw [show k0 + (k + 1) = k0 + 1 + k by omega]
    cases y <;> simpa [fldV] using this
theorem fldV_set (ad : Nat → Nat) (f : Nat → Int32) (v : Int32) : ∀ (fs : List (Option Nat)) (k0 k : Nat), fs[k]? = some none → (fldV ad f k0 fs).set k (.int v) = fldV ad (fun b => if b = k0 + k then v else f b) k0 fs := by
  have far : ∀ (fs : List (Option Nat)) (k0 k : Nat), k < k0 → fldV ad f k0 fs = fldV ad (fun b => if b = k then v else f b) k0 fs := by
    intro fs
    induction fs with
    | nil => intro k0 k _; rfl
    | cons y t ih =>
      intro k0 k hk
      have := ih (k0 + 1) k (by omega)
      have hne : k0 ≠ k := by omega
      cases y <;> simp [fldV, this, hne]
  intro fs
  induction fs with
  | nil => intro k0 k h; simp at h
  | cons y t ih =>
    intro k0 k h
    cases k with
    | zero =>
      simp at h
      subst h
      have := far t (k0 + 1) k0 (by omega)
      simp [fldV, ← this]
    | succ k =>
      have h' : t[k]? = some none := by simpa using h
      have := ih (k0 + 1) k h'
      rw [show k0 + 1 + k = k0 + (k + 1) by omega] at this
      have hne : k0 ≠ k0 + (k + 1) := by omega
      cases y <;> simp [fldV, this, hne]
theorem wC_ext (g : GG) (S S' : Hs) (i : Nat) {d : Ld} (h : lay i = some d) (e : va_E) (h1 : e = celV g S' i d) (h2 : ∀ j d', j ≠ i → celV g S' j d' = celV g S j d') : (wC g S).set (pl i) (g.2.1 i, e) = wC g S' := by
  refine List.ext_getElem? fun j => ?_
  rw [List.getElem?_set]
  by_cases hj : pl i = j
  · subst hj
    have hl : pl i < (wC g S).length := (List.getElem?_eq_some_iff.mp (wC_get g S h)).1
    rw [if_pos rfl, if_pos hl, wC_get g S' h, h1]
  · rw [if_neg hj]
    have hne : up j ≠ i := fun q => hj (by rw [← q, pl_up])
    unfold wC
    rw [List.getElem?_mapIdx, List.getElem?_mapIdx]
    cases hd : layL[j]? with
    | none => rfl
    | some d' => simp [h2 (up j) d' hne]
theorem wC_sI (g : GG) (S : Hs) {i k c : Nat} {fs : List (Option Nat)} (h : lay i = some (.inr (c, fs))) (hk : fs[k]? = some none) (v : Int32) : (wC g S).set (pl i) (g.2.1 i, .inr (c, (fldV g.2.1 (S.1 i) 0 fs).set k (.int v))) = wC g (sI S i k v) := by
  refine wC_ext g S _ i h _ ?_ ?_
  · show _ = Sum.inr (c, fldV g.2.1 ((sI S i k v).1 i) 0 fs)
    have e : (sI S i k v).1 i = fun b => if b = 0 + k then v else S.1 i b := by funext b; simp [sI, u2]
    rw [fldV_set _ _ _ _ _ _ hk, e]
  · intro j d' hj
    cases d' with
    | inl x => rfl
    | inr x =>
      show Sum.inr (x.1, fldV g.2.1 ((sI S i k v).1 j) 0 x.2) = Sum.inr (x.1, fldV g.2.1 (S.1 j) 0 x.2)
      congr 3
      funext b
      simp [sI, u2, hj]
theorem wC_sA (g : GG) (S : Hs) {i k t n : Nat} (h : lay i = some (.inl (t, n))) (ht : t < 3) (v : Int32) : (wC g S).set (pl i) (g.2.1 i, .inl (g.2.2.1 t, n, .inl (upd (S.2.1 i) k v))) = wC g (sA S i k v) := by
  refine wC_ext g S _ i h _ ?_ ?_
  · show _ = Sum.inl (g.2.2.1 t, n, arrC g.2.1 (sA S i k v) i t)
    unfold arrC
    rw [if_neg (by omega), if_neg (by omega)]
    congr 4
    funext b
    simp [sA, u2, upd]
  · intro j d' hj
    cases d' with
    | inr x => rfl
    | inl x =>
      show Sum.inl (g.2.2.1 x.1, x.2, arrC g.2.1 (sA S i k v) j x.1) = Sum.inl (g.2.2.1 x.1, x.2, arrC g.2.1 S j x.1)
      have e : (sA S i k v).2.1 j = S.2.1 j := by funext b; simp [sA, u2, hj]
      unfold arrC
      rw [e]
      rfl
theorem wC_sQ (g : GG) (S : Hs) {i k n : Nat} (h : lay i = some (.inl (3, n))) (v : Nat) : (wC g S).set (pl i) (g.2.1 i, .inl (g.2.2.1 3, n, .inr (.inr (.inr (.inr (va_up (fun j => some (g.2.1 (S.2.2.1 i j))) k (some (g.2.1 v)))))))) = wC g (sQ S i k v) := by
  refine wC_ext g S _ i h _ ?_ ?_
  · show _ = Sum.inl (g.2.2.1 3, n, arrC g.2.1 (sQ S i k v) i 3)
    unfold arrC
    rw [if_pos rfl]
    congr 7
    funext b
    by_cases hb : b = k <;> simp [sQ, u2, va_up, hb]
  · intro j d' hj
    cases d' with
    | inr x => rfl
    | inl x =>
      show Sum.inl (g.2.2.1 x.1, x.2, arrC g.2.1 (sQ S i k v) j x.1) = Sum.inl (g.2.2.1 x.1, x.2, arrC g.2.1 S j x.1)
      have e : (sQ S i k v).2.2.1 j = S.2.2.1 j := by funext b; simp [sQ, u2, hj]
      unfold arrC
      rw [e]
      rfl
/-- the numbers of the State objects -/
def isSt (i : Nat) : Bool := decide (29 ≤ i) && decide (i < 73) && decide (i % 2 = 1)
theorem isSt_lay {i : Nat} (h : isSt i = true) : lay i = some (.inr (3, [none, none, none, some (i + 1)])) ∧ lay (i + 1) = some (.inl (1, 7)) := by
  have h1 : i = 29 ∨ i = 31 ∨ i = 33 ∨ i = 35 ∨ i = 37 ∨ i = 39 ∨ i = 41 ∨ i = 43 ∨ i = 45 ∨ i = 47 ∨ i = 49 ∨ i = 51 ∨ i = 53 ∨ i = 55 ∨ i = 57 ∨ i = 59 ∨ i = 61 ∨ i = 63 ∨ i = 65 ∨ i = 67 ∨ i = 69 ∨ i = 71 := by
    simp only [isSt, Bool.and_eq_true, decide_eq_true_eq] at h
    omega
  rcases h1 with rfl | rfl | rfl | rfl | rfl | rfl | rfl | rfl | rfl | rfl | rfl | rfl | rfl | rfl | rfl | rfl | rfl | rfl | rfl | rfl | rfl | rfl <;> exact ⟨rfl, rfl⟩

