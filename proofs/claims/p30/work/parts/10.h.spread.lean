/-! how rights spread: a round, the end, the first round of a right, its way -/
def Sub (Z T : Rt) : Prop := ∀ x k y, Z x k y = true → T x k y = true
def nw (A : Nat → Bool) (Z : Rt) (x k y : Nat) : Prop := x ≠ y ∧ ((A x = true ∧ ∃ f, Z x 0 f = true ∧ Z f k y = true) ∨ ∃ p, A p = true ∧ Z p 1 x = true ∧ Z p k y = true)
noncomputable def stp (A : Nat → Bool) (Z : Rt) : Rt := fun x k y => Z x k y || B (nw A Z x k y)
noncomputable def rd (A : Nat → Bool) (Z : Rt) : Nat → Rt
  | 0 => Z
  | i + 1 => stp A (rd A Z i)
def Cls (A : Nat → Bool) (T : Rt) : Prop := ∀ x k y, nw A T x k y → T x k y = true
noncomputable def Clo (A : Nat → Bool) (Z : Rt) : Rt := fun x k y => B (∀ T : Rt, Sub Z T → Cls A T → T x k y = true)
theorem Sub.rf (Z : Rt) : Sub Z Z := fun _ _ _ h => h
theorem Sub.tr {Z T U : Rt} (h : Sub Z T) (g : Sub T U) : Sub Z U := fun x k y q => g x k y (h x k y q)
theorem Sub.anti {Z T : Rt} (h : Sub Z T) (g : Sub T Z) : Z = T := by
  funext x k y
  cases hz : Z x k y
  · cases ht : T x k y
    · rfl
    · rw [g x k y ht] at hz; cases hz
  · rw [h x k y hz]
theorem nw_mono {A : Nat → Bool} {Z T : Rt} (h : Sub Z T) {x k y : Nat} (q : nw A Z x k y) : nw A T x k y := by
  obtain ⟨hne, ⟨ha, f, h1, h2⟩ | ⟨p, ha, h1, h2⟩⟩ := q
  · exact ⟨hne, Or.inl ⟨ha, f, h _ _ _ h1, h _ _ _ h2⟩⟩
  · exact ⟨hne, Or.inr ⟨p, ha, h _ _ _ h1, h _ _ _ h2⟩⟩
theorem stp_iff {A : Nat → Bool} {Z : Rt} {x k y : Nat} : stp A Z x k y = true ↔ Z x k y = true ∨ nw A Z x k y := by
  unfold stp
  rw [Bool.or_eq_true, B_iff]
theorem stp_sub (A : Nat → Bool) (Z : Rt) : Sub Z (stp A Z) := fun x k y h => stp_iff.mpr (Or.inl h)
theorem Clo_iff {A : Nat → Bool} {Z : Rt} {x k y : Nat} : Clo A Z x k y = true ↔ ∀ T : Rt, Sub Z T → Cls A T → T x k y = true := B_iff
theorem Clo_sub (A : Nat → Bool) (Z : Rt) : Sub Z (Clo A Z) := fun x k y h => Clo_iff.mpr fun T hs _ => hs x k y h
theorem Clo_min {A : Nat → Bool} {Z T : Rt} (h : Sub Z T) (hc : Cls A T) : Sub (Clo A Z) T := fun x k y q => Clo_iff.mp q T h hc
theorem Clo_cls (A : Nat → Bool) (Z : Rt) : Cls A (Clo A Z) := fun x k y q => Clo_iff.mpr fun T hs hc => hc x k y (nw_mono (Clo_min hs hc) q)
theorem Clo_mono {A : Nat → Bool} {Z T : Rt} (h : Sub Z T) : Sub (Clo A Z) (Clo A T) := Clo_min (h.tr (Clo_sub A T)) (Clo_cls A T)
theorem Clo_awake {A A' : Nat → Bool} {Z : Rt} (h : ∀ j, A j = true → A' j = true) : Sub (Clo A Z) (Clo A' Z) := Clo_min (Clo_sub A' Z) fun x k y q => Clo_cls A' Z x k y (by
  obtain ⟨hne, ⟨ha, r⟩ | ⟨p, ha, r⟩⟩ := q
  · exact ⟨hne, Or.inl ⟨h _ ha, r⟩⟩
  · exact ⟨hne, Or.inr ⟨p, h _ ha, r⟩⟩)
theorem Clo_eq {A : Nat → Bool} {Z T : Rt} (h1 : Sub Z T) (h2 : Sub T (Clo A Z)) (h3 : Cls A T) : T = Clo A Z := Sub.anti h2 (Clo_min h1 h3)
theorem Clo_idem (A : Nat → Bool) (Z : Rt) : Clo A (Clo A Z) = Clo A Z := (Clo_eq (Sub.rf _) (Clo_sub A _) (Clo_cls A Z)).symm
theorem nw_WF {n : Nat} {A : Nat → Bool} {Z : Rt} (h : WF n Z) {x k y : Nat} (q : nw A Z x k y) : x < n ∧ k < 4 ∧ y < n ∧ x ≠ y := by
  obtain ⟨hne, ⟨_, f, h1, h2⟩ | ⟨p, _, h1, h2⟩⟩ := q
  · exact ⟨(h _ _ _ h1).1, (h _ _ _ h2).2.1, (h _ _ _ h2).2.2.1, hne⟩
  · exact ⟨(h _ _ _ h1).2.2.1, (h _ _ _ h2).2.1, (h _ _ _ h2).2.2.1, hne⟩
theorem stp_WF {n : Nat} {A : Nat → Bool} {Z : Rt} (h : WF n Z) : WF n (stp A Z) := fun x k y q => by
  rcases stp_iff.mp q with q | q
  · exact h x k y q
  · exact nw_WF h q
theorem rd_WF {n : Nat} {A : Nat → Bool} {Z : Rt} (h : WF n Z) : ∀ i, WF n (rd A Z i)
  | 0 => h
  | i + 1 => stp_WF (rd_WF h i)
theorem Clo_WF {n : Nat} {A : Nat → Bool} {Z : Rt} (h : WF n Z) : WF n (Clo A Z) := fun x k y q => by
  have := Clo_min (T := fun x k y => decide (x < n ∧ k < 4 ∧ y < n ∧ x ≠ y)) (A := A) (fun x k y q => decide_eq_true (h x k y q)) (fun x k y q => decide_eq_true (nw_WF (n := n) (fun x k y q => by simpa using q) q)) x k y q
  simpa using this
theorem rd_step (A : Nat → Bool) (Z : Rt) (i : Nat) : Sub (rd A Z i) (rd A Z (i + 1)) := stp_sub A _
theorem rd_le (A : Nat → Bool) (Z : Rt) (i : Nat) : ∀ d, Sub (rd A Z i) (rd A Z (i + d))
  | 0 => Sub.rf _
  | d + 1 => (rd_le A Z i d).tr (rd_step A Z (i + d))
theorem rd_mono (A : Nat → Bool) (Z : Rt) {i j : Nat} (h : i ≤ j) : Sub (rd A Z i) (rd A Z j) := by
  have := rd_le A Z i (j - i)
  rwa [Nat.add_sub_cancel' h] at this
theorem rd_clo (A : Nat → Bool) (Z : Rt) : ∀ i, Sub (rd A Z i) (Clo A Z)
  | 0 => Clo_sub A Z
  | i + 1 => fun x k y q => by
    rcases stp_iff.mp q with q | q
    · exact rd_clo A Z i x k y q
    · exact Clo_cls A Z x k y (nw_mono (rd_clo A Z i) q)
/-- whether the round behind round i brings a right -/
noncomputable def chg (A : Nat → Bool) (Z : Rt) (i : Nat) : Bool := B (¬ Sub (rd A Z (i + 1)) (rd A Z i))
theorem chg_no {A : Nat → Bool} {Z : Rt} {i : Nat} (h : chg A Z i = false) : rd A Z i = Clo A Z := by
  have hs : Sub (rd A Z (i + 1)) (rd A Z i) := Classical.byContradiction fun q => by rw [show chg A Z i = true from B_iff.mpr q] at h; cases h
  exact Clo_eq (rd_mono A Z (Nat.zero_le i)) (rd_clo A Z i) fun x k y q => hs x k y (stp_iff.mpr (Or.inr q))
theorem chg_stays {A : Nat → Bool} {Z : Rt} {i j : Nat} (h : chg A Z i = false) (hij : i ≤ j) : chg A Z j = false := by
  unfold chg
  rw [B_false, Classical.not_not]
  have e := chg_no h
  have : Sub (Clo A Z) (rd A Z j) := by rw [← e]; exact rd_mono A Z hij
  exact (rd_clo A Z (j + 1)).tr this
theorem chg_cnt {n : Nat} {A : Nat → Bool} {Z : Rt} (hw : WF n Z) (hn : n ≤ 7) : ∀ i, (∀ j, j < i → chg A Z j = true) → i ≤ cnt (rd A Z i)
  | 0, _ => Nat.zero_le _
  | i + 1, h => by
    have ih := chg_cnt hw hn i (fun j hj => h j (by omega))
    have hc := B_iff.mp (h i (by omega))
    have : ∃ x k y, rd A Z (i + 1) x k y = true ∧ rd A Z i x k y = false := Classical.byContradiction fun q => hc fun x k y h1 => by
      cases h2 : rd A Z i x k y
      · exact absurd ⟨x, k, y, h1, h2⟩ q
      · rfl
    obtain ⟨x, k, y, h1, h2⟩ := this
    have hb := rd_WF hw (i + 1) x k y h1
    have := cnt_lt (rd_step A Z i) (show x < 7 by omega) hb.2.1 (show y < 7 by omega) h2 h1
    omega
theorem chg_end {n : Nat} {A : Nat → Bool} {Z : Rt} (hw : WF n Z) (hn : n ≤ 7) {i : Nat} (h : ∀ j, j < i → chg A Z j = true) : i < 196 := by
  have := chg_cnt hw hn i h
  have := cnt_195 (rd_WF (A := A) hw i)
  omega
/-- how many rounds bring a right -/
noncomputable def nr (A : Nat → Bool) (Z : Rt) : Nat := fb_ct (chg A Z) 196
theorem fb_ct_thr {p : Nat → Bool} {m N : Nat} (hm : m ≤ N) (h1 : ∀ j, j < m → p j = true) (h2 : ∀ j, m ≤ j → j < N → p j = false) : fb_ct p N = m := by
  have e := fb_ct_split p m (N - m)
  rw [show m + (N - m) = N by omega, fb_ct_all.mpr h1, fb_ct_zero.mpr (fun k hk => h2 (m + k) (by omega) (by omega))] at e
  exact e
theorem nr_eq {A : Nat → Bool} {Z : Rt} {m : Nat} (hm : m ≤ 196) (h1 : ∀ j, j < m → chg A Z j = true) (h2 : chg A Z m = false) : nr A Z = m := fb_ct_thr hm h1 fun j hj _ => chg_stays h2 hj
/-- the first round with a right; 197: it never comes -/
noncomputable def fr (A : Nat → Bool) (Z : Rt) (x k y : Nat) : Nat := fb_ct (fun i => !rd A Z i x k y) 197
theorem fr_le {A : Nat → Bool} {Z : Rt} {x k y i : Nat} (hi : i < 197) : fr A Z x k y ≤ i ↔ rd A Z i x k y = true := by
  constructor
  · intro h
    cases hz : rd A Z i x k y
    · have : ∀ j, j < i + 1 → (!rd A Z j x k y) = true := fun j hj => by
        cases hq : rd A Z j x k y
        · rfl
        · rw [rd_mono A Z (show j ≤ i by omega) x k y hq] at hz; cases hz
      have e := fb_ct_mono (fun i => !rd A Z i x k y) (show i + 1 ≤ 197 by omega)
      rw [fb_ct_all.mpr this] at e
      unfold fr at h
      omega
    · rfl
  · intro h
    unfold fr
    have e := fb_ct_split (fun i => !rd A Z i x k y) i (197 - i)
    rw [show i + (197 - i) = 197 by omega, fb_ct_zero (p := fun k_1 => !rd A Z (i + k_1) x k y) |>.mpr (fun d hd => by rw [rd_mono A Z (show i ≤ i + d by omega) x k y h]; rfl)] at e
    have := fb_ct_le (fun i => !rd A Z i x k y) i
    omega
theorem fr_197 {A : Nat → Bool} {Z : Rt} {x k y : Nat} : fr A Z x k y ≤ 197 := fb_ct_le _ _
theorem rd_big {n : Nat} {A : Nat → Bool} {Z : Rt} (hw : WF n Z) (hn : n ≤ 7) {i : Nat} (hi : 195 ≤ i) : rd A Z i = Clo A Z := by
  have : ∃ j, j < 196 ∧ chg A Z j = false := Classical.byContradiction fun q => by
    have := chg_end (A := A) hw hn (i := 196) fun j hj => by
      cases hc : chg A Z j
      · exact absurd ⟨j, hj, hc⟩ q
      · rfl
    omega
  obtain ⟨j, hj, hc⟩ := this
  exact chg_no (chg_stays hc (by omega))
theorem fr_comes {n : Nat} {A : Nat → Bool} {Z : Rt} (hw : WF n Z) (hn : n ≤ 7) {x k y : Nat} : fr A Z x k y ≠ 197 ↔ Clo A Z x k y = true := by
  rw [← rd_big (A := A) hw hn (i := 196) (by omega), ← fr_le (by omega)]
  have := fr_197 (A := A) (Z := Z) (x := x) (k := k) (y := y)
  omega
theorem fr_0 {A : Nat → Bool} {Z : Rt} {x k y : Nat} : fr A Z x k y = 0 ↔ Z x k y = true := by
  have := fr_le (A := A) (Z := Z) (x := x) (k := k) (y := y) (i := 0) (by omega)
  rw [Nat.le_zero] at this
  exact this
theorem fr_new {A : Nat → Bool} {Z : Rt} {x k y i : Nat} (hi : i + 1 < 197) (h1 : rd A Z (i + 1) x k y = true) (h2 : rd A Z i x k y = false) : fr A Z x k y = i + 1 := by
  have a := (fr_le (A := A) (Z := Z) (x := x) (k := k) (y := y) hi).mpr h1
  have b : ¬ fr A Z x k y ≤ i := fun q => by rw [(fr_le (by omega)).mp q] at h2; cases h2
  omega
/-- the first number below n with a property, n if there is none -/
def lf (p : Nat → Bool) : Nat → Nat
  | 0 => 0
  | n + 1 => if lf p n < n then lf p n else if p n then n else n + 1
theorem lf_le (p : Nat → Bool) : ∀ n, lf p n ≤ n
  | 0 => Nat.le_refl _
  | n + 1 => by
    have := lf_le p n
    unfold lf
    repeat' split
    all_goals omega
theorem lf_spec (p : Nat → Bool) : ∀ n, (∀ j, j < lf p n → p j = false) ∧ (lf p n < n → p (lf p n) = true)
  | 0 => ⟨fun j hj => absurd hj (Nat.not_lt_zero j), fun h => absurd h (Nat.not_lt_zero _)⟩
  | n + 1 => by
    obtain ⟨h1, h2⟩ := lf_spec p n
    have hl := lf_le p n
    unfold lf
    by_cases hc : lf p n < n
    · rw [if_pos hc]
      exact ⟨h1, fun _ => h2 hc⟩
    · rw [if_neg hc]
      have e : lf p n = n := by omega
      rw [e] at h1
      cases hp : p n
      · rw [if_neg (by decide)]
        refine ⟨fun j hj => ?_, fun q => absurd q (Nat.lt_irrefl _)⟩
        by_cases hjn : j = n
        · rw [hjn, hp]
        · exact h1 j (by omega)
      · rw [if_pos rfl]
        exact ⟨h1, fun _ => hp⟩
theorem lf_eq {p : Nat → Bool} {n m : Nat} (hm : m ≤ n) (h1 : ∀ j, j < m → p j = false) (h2 : m < n → p m = true) : lf p n = m := by
  obtain ⟨a, b⟩ := lf_spec p n
  have hl := lf_le p n
  rcases Nat.lt_trichotomy (lf p n) m with q | q | q
  · have := b (by omega)
    rw [h1 _ q] at this; cases this
  · exact q
  · have := h2 (by omega)
    rw [a _ q] at this; cases this
theorem lf_cong {p r : Nat → Bool} {n : Nat} (h : ∀ j, j < n → p j = r j) : lf p n = lf r n := by
  obtain ⟨a, b⟩ := lf_spec r n
  have hl := lf_le r n
  exact lf_eq hl (fun j hj => (h j (by omega)).trans (a j hj)) (fun q => (h _ q).trans (b q))
theorem lf_lt {p : Nat → Bool} {n : Nat} : lf p n < n ↔ ∃ j, j < n ∧ p j = true := by
  obtain ⟨a, b⟩ := lf_spec p n
  have hl := lf_le p n
  refine ⟨fun h => ⟨_, h, b h⟩, fun ⟨j, hj, hp⟩ => ?_⟩
  rcases Nat.lt_or_ge (lf p n) n with q | q
  · exact q
  · rw [a j (by omega)] at hp; cases hp
/-- the way of a right by the rights of a round -/
def tkb (A : Nat → Bool) (Z : Rt) (x k y f : Nat) : Bool := A x && (Z x 0 f && Z f k y)
def gvb (A : Nat → Bool) (Z : Rt) (x k y p : Nat) : Bool := A p && (Z p 1 x && Z p k y)
def fway (n : Nat) (A : Nat → Bool) (Z : Rt) (x k y : Nat) : Int32 := if lf (tkb A Z x k y) n < n then nI (10 * x + lf (tkb A Z x k y) n) else if lf (gvb A Z x k y) n < n then nI (100 + 10 * lf (gvb A Z x k y) n + x) else (-9)
noncomputable def wy (n : Nat) (A : Nat → Bool) (Z : Rt) (x k y : Nat) : Int32 := if fr A Z x k y = 0 ∨ fr A Z x k y = 197 then (-9) else fway n A (rd A Z (fr A Z x k y - 1)) x k y
theorem nI_ne9 {a : Nat} (h : a < 1000000) : nI a ≠ (-9) := fun q => by
  have := not_neg h
  rw [q] at this
  exact this (by decide)
theorem fway_none {n : Nat} {A : Nat → Bool} {Z : Rt} (hw : WF n Z) (hn : n ≤ 7) {x k y : Nat} (hx : x < 7) (hne : x ≠ y) : fway n A Z x k y = (-9) ↔ ¬ nw A Z x k y := by
  have l1 := lf_le (tkb A Z x k y) n
  have l2 := lf_le (gvb A Z x k y) n
  unfold fway
  by_cases h1 : lf (tkb A Z x k y) n < n
  · rw [if_pos h1]
    refine ⟨fun q => absurd q (nI_ne9 (by omega)), fun q => absurd ?_ q⟩
    have := (lf_spec (tkb A Z x k y) n).2 h1
    unfold tkb at this
    simp only [Bool.and_eq_true] at this
    exact ⟨hne, Or.inl ⟨this.1, _, this.2.1, this.2.2⟩⟩
  · rw [if_neg h1]
    by_cases h2 : lf (gvb A Z x k y) n < n
    · rw [if_pos h2]
      refine ⟨fun q => absurd q (nI_ne9 (by omega)), fun q => absurd ?_ q⟩
      have := (lf_spec (gvb A Z x k y) n).2 h2
      unfold gvb at this
      simp only [Bool.and_eq_true] at this
      exact ⟨hne, Or.inr ⟨_, this.1, this.2.1, this.2.2⟩⟩
    · rw [if_neg h2]
      refine ⟨fun _ q => ?_, fun _ => rfl⟩
      obtain ⟨-, ⟨ha, f, q1, q2⟩ | ⟨p, ha, q1, q2⟩⟩ := q
      · exact h1 (lf_lt.mpr ⟨f, (hw _ _ _ q1).2.2.1, by unfold tkb; rw [ha, q1, q2]; rfl⟩)
      · exact h2 (lf_lt.mpr ⟨p, (hw _ _ _ q1).1, by unfold gvb; rw [ha, q1, q2]; rfl⟩)
