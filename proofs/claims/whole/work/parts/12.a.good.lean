/-! from one turn to the next -/
def Rel (S : Hs) : Prop := ∃ g, GOk g ∧ CRel S g ∧ MRel S g
def ab0 : Ab := (0, fun _ => 0, fun _ _ _ => false)
def gs0 : GS := (ab0, 0, fun _ => ab0, fun _ => false, fun _ => ab0, 0, fun _ => 0)
theorem ab0_ok : AOk ab0 := ⟨Nat.zero_le _, fun x k y h => Bool.noConfusion h, fun j hj => absurd hj (Nat.not_lt_zero j), by show cnt (fun _ _ _ => false) ≤ 30; decide +kernel⟩
theorem bt0 (j : Nat) (hj : j < 32) : bt 0 j = false := by
  have h : ∀ j, j < 32 → bt 0 j = false := by decide +kernel
  exact h j hj
theorem rel0 : Rel hs0 := by
  refine ⟨gs0, ⟨ab0_ok, Nat.zero_le _, fun j hj => absurd hj (Nat.not_lt_zero j), fun j hj h => Bool.noConfusion h⟩, ⟨?_, rfl, ⟨fun j => 31 + 2 * j, fun j hj => ?_, fun i j hi hj e => ?_, fun j hj => absurd hj (Nat.not_lt_zero j)⟩, fun j hj => ⟨rfl, rfl, fun h => Bool.noConfusion h⟩, rfl, Nat.zero_le _, fun j hj => absurd hj (Nat.not_lt_zero j)⟩, ⟨?_, rfl, fun j hj => absurd hj (Nat.not_lt_zero j), fun j hj => ⟨rfl, fun h => Bool.noConfusion h⟩, rfl, Nat.zero_le _, fun j hj => absurd hj (Nat.not_lt_zero j)⟩⟩
  · refine ⟨Nat.zero_le _, fun x k y h => Bool.noConfusion h, rfl, fun j hj => ?_, fun j hj => ?_, fun x hx j hj => ?_⟩
    · show bt 0 j = _
      rw [bt0 j hj, decide_eq_false (show ¬ j < gs0.1.1 from Nat.not_lt_zero j), Bool.false_and]
    · show bt 0 j = _
      rw [bt0 j hj, decide_eq_false (show ¬ j < gs0.1.1 from Nat.not_lt_zero j), Bool.false_and]
    · show bt 0 j = (_ && false)
      rw [bt0 j hj, Bool.and_false]
  · exact ⟨rfl, (by omega : 31 ≤ 31 + 2 * j), (by omega : 31 + 2 * j ≤ 57), (by omega : (31 + 2 * j) % 2 = 1)⟩
  · simp only at e
    omega
  · refine ⟨Nat.zero_le _, fun x k y h => Bool.noConfusion h, fun j hj => absurd hj (Nat.not_lt_zero j), rfl, fun j hj => ?_, fun x hx y hy b hb => ?_⟩
    · rw [if_neg (show ¬ j < gs0.1.1 from Nat.not_lt_zero j)]
      rfl
    · show bt 0 b = (_ && false)
      rw [bt0 b hb, Bool.and_false]
def Good (F : Int32 → Int64) (W M : Hs → Option (Int32 × Hs)) : Prop := ∀ S, Rel S → ∃ r S1 v S2, W S = some (r, S1) ∧ M S1 = some (v, S2) ∧ gI S2 13 0 = r ∧ (r = 0 → gO S2 0 = F v) ∧ Rel S2
theorem OpOk.good {X W M : _} {cd : Nat → Option Int32} (h : OpOk X M cd) (F : Int32 → Int64) (h1 : ∀ (S : Hs) (x : Int32) (S1 : Hs), X S = some (.inl x, S1) → W S = some (0, sO S1 0 (F x))) (h2 : ∀ (S : Hs) (e : Nat) (S1 : Hs) (c : Int32), X S = some (.inr e, S1) → cd e = some c → W S = some (c, S1)) (h3 : ∀ e, cd e ≠ some 0) : Good F W M := by
  rintro S ⟨g, hg, hc, hm⟩
  obtain ⟨oc, g', hg', hC, hM⟩ := h g hg
  obtain ⟨S1, a1, a2, a3⟩ := hC S hc
  cases oc with
  | inl x =>
    obtain ⟨v, S2, b1, b2, b3, b4, b5⟩ := hM _ ((hm.co a2).sO 0 (F x))
    refine ⟨0, _, v, S2, h1 S x S1 a1, b1, b4, fun _ => ?_, g', hg', (a3.sO 0 _).mo b2, b3⟩
    rw [b2.2.2.2 0, b5]
    rfl
  | inr e =>
    obtain ⟨v, S2, b1, b2, b3, b4⟩ := hM _ (hm.co a2)
    exact ⟨gI S2 13 0, _, v, S2, h2 S e S1 _ a1 b4.symm, b1, rfl, fun h => absurd (by rw [← h]; exact b4.symm) (h3 e), g', hg', a3.mo b2, b3⟩
abbrev TR : Type := Option ((Int32 × Hs) ⊕ (Hs ⊕ (Int32 × Hs)))
theorem Good.go {W M : Hs → Option (Int32 × Hs)} (h : Good Int32.toInt64 W M) {J : Hs → TR} {w : Int32} (hJ : ∀ S, J S = some (.inl (w, S))) {S : Hs} (hS : Rel S) {B1 B2 : Hs → TR} : ∃ S', bndE (W S) (fun r S1 => bndE (M S1) fun v S2 => (m_X6_thrown S2).bind fun t => if t = r then (if r = 0 then gd (inb 0 1) (if lg_cmp (gO S2 (0 : Int32).toNatClampNeg) v.toInt64 = 0 then J S2 else B1 S2) else J S2) else B2 S2) = some (.inl (w, S')) ∧ Rel S' := by
  obtain ⟨r, S1, v, S2, a1, a2, a3, a4, a5⟩ := h S hS
  refine ⟨S2, ?_, a5⟩
  rw [a1, bndE_some]
  show bndE (M S1) _ = _
  rw [a2, bndE_some]
  show (if gI S2 13 0 = r then _ else _) = _
  rw [if_pos a3]
  by_cases hr : r = 0
  · rw [if_pos hr, gd_t (show inb 0 1 = true by decide), if_pos (show lg_cmp (gO S2 (0 : Int32).toNatClampNeg) v.toInt64 = 0 from (lg_cmp_eq _ _).mpr (a4 hr))]
    exact hJ S2
  · rw [if_neg hr]
    exact hJ S2
def fset (x : Int32) : Int64 := if x = 0 then 0 else 1
theorem Good.goS {W M : Hs → Option (Int32 × Hs)} (h : Good fset W M) {J : Hs → TR} {w : Int32} (hJ : ∀ S, J S = some (.inl (w, S))) {S : Hs} (hS : Rel S) {B1 B2 : Hs → TR} : ∃ S', bndE (W S) (fun r S1 => bndE (M S1) fun v S2 => (m_X6_thrown S2).bind fun t => if t = r then (if r = 0 then gd (inb 0 1) (if v = 0 then (if lg_cmp (gO S2 (0 : Int32).toNatClampNeg) 0 = 0 then J S2 else B1 S2) else (if lg_cmp (gO S2 (0 : Int32).toNatClampNeg) 1 = 0 then J S2 else B1 S2)) else J S2) else B2 S2) = some (.inl (w, S')) ∧ Rel S' := by
  obtain ⟨r, S1, v, S2, a1, a2, a3, a4, a5⟩ := h S hS
  refine ⟨S2, ?_, a5⟩
  rw [a1, bndE_some]
  show bndE (M S1) _ = _
  rw [a2, bndE_some]
  show (if gI S2 13 0 = r then _ else _) = _
  rw [if_pos a3]
  by_cases hr : r = 0
  · rw [if_pos hr, gd_t (show inb 0 1 = true by decide)]
    have a6 := a4 hr
    by_cases hv : v = 0
    · rw [show fset v = 0 from if_pos hv] at a6
      rw [if_pos hv, if_pos (show lg_cmp (gO S2 (0 : Int32).toNatClampNeg) 0 = 0 from (lg_cmp_eq _ _).mpr a6)]
      exact hJ S2
    · rw [show fset v = 1 from if_neg hv] at a6
      rw [if_neg hv, if_pos (show lg_cmp (gO S2 (0 : Int32).toNatClampNeg) 1 = 0 from (lg_cmp_eq _ _).mpr a6)]
      exact hJ S2
  · rw [if_neg hr]
    exact hJ S2
theorem OpN.go {X M : Hs → Option (Int32 × Hs)} (h : OpN X M) {J : Hs → TR} {w : Int32} (hJ : ∀ S, J S = some (.inl (w, S))) {S : Hs} (hS : Rel S) {B : Hs → TR} : ∃ S', bndE (X S) (fun r S1 => bndE (M S1) fun v S2 => if r = v then J S2 else B S2) = some (.inl (w, S')) ∧ Rel S' := by
  obtain ⟨g, hg, hc, hm⟩ := hS
  obtain ⟨v, g', hg', hC, hM⟩ := h g hg
  obtain ⟨S1, a1, a2, a3⟩ := hC S hc
  obtain ⟨S2, b1, b2, b3⟩ := hM _ (hm.co a2)
  refine ⟨S2, ?_, g', hg', a3.mo b2, b3⟩
  rw [a1, bndE_some]
  show bndE (M S1) _ = _
  rw [b1, bndE_some]
  show (if v = v then _ else _) = _
  rw [if_pos rfl]
  exact hJ S2
theorem cid_w {e : Nat} {c : Int32} {S : Hs} (q : cid e = some c) : (if e = 1 then some ((1, S)) else (if e = 2 then some ((2, S)) else none) : Option (Int32 × Hs)) = some (c, S) := by
  unfold cid at q
  by_cases h0 : e = 1
  · rw [if_pos h0] at q ⊢
    cases q
    rfl
  rw [if_neg h0] at q ⊢
  by_cases h1 : e = 2
  · rw [if_pos h1] at q ⊢
    cases q
    rfl
  rw [if_neg h1] at q ⊢
  cases q
theorem cid_0 (e : Nat) : cid e ≠ some 0 := by
  intro q
  unfold cid at q
  by_cases h0 : e = 1
  · rw [if_pos h0] at q
    exact absurd (Option.some.inj q) (by decide)
  rw [if_neg h0] at q
  by_cases h1 : e = 2
  · rw [if_pos h1] at q
    exact absurd (Option.some.inj q) (by decide)
  rw [if_neg h1] at q
  cases q
theorem c12_w {e : Nat} {c : Int32} {S : Hs} (q : c12 e = some c) : (if e = 3 then some ((1, S)) else (if e = 1 then some ((2, S)) else none) : Option (Int32 × Hs)) = some (c, S) := by
  unfold c12 at q
  by_cases h0 : e = 3
  · rw [if_pos h0] at q ⊢
    cases q
    rfl
  rw [if_neg h0] at q ⊢
  by_cases h1 : e = 1
  · rw [if_pos h1] at q ⊢
    cases q
    rfl
  rw [if_neg h1] at q ⊢
  cases q
theorem c12_0 (e : Nat) : c12 e ≠ some 0 := by
  intro q
  unfold c12 at q
  by_cases h0 : e = 3
  · rw [if_pos h0] at q
    exact absurd (Option.some.inj q) (by decide)
  rw [if_neg h0] at q
  by_cases h1 : e = 1
  · rw [if_pos h1] at q
    exact absurd (Option.some.inj q) (by decide)
  rw [if_neg h1] at q
  cases q
theorem c32_w {e : Nat} {c : Int32} {S : Hs} (q : c32 e = some c) : (if e = 3 then some ((1, S)) else (if e = 2 then some ((2, S)) else none) : Option (Int32 × Hs)) = some (c, S) := by
  unfold c32 at q
  by_cases h0 : e = 3
  · rw [if_pos h0] at q ⊢
    cases q
    rfl
  rw [if_neg h0] at q ⊢
  by_cases h1 : e = 2
  · rw [if_pos h1] at q ⊢
    cases q
    rfl
  rw [if_neg h1] at q ⊢
  cases q
theorem c32_0 (e : Nat) : c32 e ≠ some 0 := by
  intro q
  unfold c32 at q
  by_cases h0 : e = 3
  · rw [if_pos h0] at q
    exact absurd (Option.some.inj q) (by decide)
  rw [if_neg h0] at q
  by_cases h1 : e = 2
  · rw [if_pos h1] at q
    exact absurd (Option.some.inj q) (by decide)
  rw [if_neg h1] at q
  cases q
theorem c123_w {e : Nat} {c : Int32} {S : Hs} (q : c123 e = some c) : (if e = 3 then some ((1, S)) else (if e = 1 then some ((2, S)) else (if e = 2 then some ((3, S)) else none)) : Option (Int32 × Hs)) = some (c, S) := by
  unfold c123 at q
  by_cases h0 : e = 3
  · rw [if_pos h0] at q ⊢
    cases q
    rfl
  rw [if_neg h0] at q ⊢
  by_cases h1 : e = 1
  · rw [if_pos h1] at q ⊢
    cases q
    rfl
  rw [if_neg h1] at q ⊢
  by_cases h2 : e = 2
  · rw [if_pos h2] at q ⊢
    cases q
    rfl
  rw [if_neg h2] at q ⊢
  cases q
theorem c123_0 (e : Nat) : c123 e ≠ some 0 := by
  intro q
  unfold c123 at q
  by_cases h0 : e = 3
  · rw [if_pos h0] at q
    exact absurd (Option.some.inj q) (by decide)
  rw [if_neg h0] at q
  by_cases h1 : e = 1
  · rw [if_pos h1] at q
    exact absurd (Option.some.inj q) (by decide)
  rw [if_neg h1] at q
  by_cases h2 : e = 2
  · rw [if_pos h2] at q
    exact absurd (Option.some.inj q) (by decide)
  rw [if_neg h2] at q
  cases q
theorem c1_w {a e : Nat} {c : Int32} {S : Hs} (q : c1 a e = some c) : (if e = a then some ((1, S)) else none : Option (Int32 × Hs)) = some (c, S) := by
  unfold c1 at q
  by_cases h : e = a
  · rw [if_pos h] at q ⊢
    cases q
    rfl
  · rw [if_neg h] at q
    cases q
theorem c1_0 (a e : Nat) : c1 a e ≠ some 0 := by
  intro q
  unfold c1 at q
  by_cases h : e = a
  · rw [if_pos h] at q
    exact absurd (Option.some.inj q) (by decide)
  · rw [if_neg h] at q
    cases q
theorem append_good (v : Int32) : Good Int32.toInt64 (m_L_append v) (m_X6_append v) := (append_op v).good _ (fun S x S1 e => by
  unfold m_L_append
  rw [e]
  rfl) (fun S e S1 c h q => by
  unfold m_L_append
  rw [h]
  exact cid_w q) cid_0
theorem load_good : Good Int32.toInt64 (m_L_load) (m_X6_load) := (load_op).good _ (fun S x S1 e => by
  unfold m_L_load
  rw [e]
  rfl) (fun S e S1 c h q => by
  unfold m_L_load
  rw [h]
  exact c1_w q) (c1_0 _)
theorem about_good (v : Int32) : Good Int32.toInt64 (m_L_about v) (m_X6_about v) := (about_op v).good _ (fun S x S1 e => by
  unfold m_L_about
  rw [e]
  rfl) (fun S e S1 c h q => by
  unfold m_L_about
  rw [h]
  exact c1_w q) (c1_0 _)
theorem thing_good (x v : Int32) : Good Int32.toInt64 (m_L_thing x v) (m_X6_thing x v) := (thing_op x v).good _ (fun S x S1 e => by
  unfold m_L_thing
  rw [e]
  rfl) (fun S e S1 c h q => by
  unfold m_L_thing
  rw [h]
  exact c12_w q) c12_0
theorem rights_good (x y : Int32) (b : Bool) : Good Int32.toInt64 (m_L_rights x y (bi b)) (m_X6_rights x y (bi b)) := (rights_op x y b).good _ (fun S x S1 e => by
  unfold m_L_rights
  rw [e]
  rfl) (fun S e S1 c h q => by
  unfold m_L_rights
  rw [h]
  exact c12_w q) c12_0
theorem round_good (x k y : Int32) : Good Int32.toInt64 (m_L_round x k y) (m_X6_round x k y) := (round_op x k y).good _ (fun S x S1 e => by
  unfold m_L_round
  rw [e]
  rfl) (fun S e S1 c h q => by
  unfold m_L_round
  rw [h]
  exact c12_w q) c12_0
theorem way_good (x k y : Int32) : Good Int32.toInt64 (m_L_way x k y) (m_X6_way x k y) := (way_op x k y).good _ (fun S x S1 e => by
  unfold m_L_way
  rw [e]
  rfl) (fun S e S1 c h q => by
  unfold m_L_way
  rw [h]
  exact c12_w q) c12_0
theorem proof_good (x k y : Int32) : Good Int32.toInt64 (m_L_proof x k y) (m_X6_proof x k y) := (proof_op x k y).good _ (fun S x S1 e => by
  unfold m_L_proof
  rw [e]
  rfl) (fun S e S1 c h q => by
  unfold m_L_proof
  rw [h]
  exact c12_w q) c12_0
theorem needed_good (x k y : Int32) : Good Int32.toInt64 (m_L_needed x k y) (m_X6_needed x k y) := (needed_op x k y).good _ (fun S x S1 e => by
  unfold m_L_needed
  rw [e]
  rfl) (fun S e S1 c h q => by
  unfold m_L_needed
  rw [h]
  exact c12_w q) c12_0
theorem cut_good (x k y : Int32) : Good Int32.toInt64 (m_L_cut x k y) (m_X6_cut x k y) := (cut_op x k y).good _ (fun S x S1 e => by
  unfold m_L_cut
  rw [e]
  rfl) (fun S e S1 c h q => by
  unfold m_L_cut
  rw [h]
  exact c12_w q) c12_0
theorem cutAt_good (x k y i : Int32) : Good Int32.toInt64 (m_L_cutAt x k y i) (m_X6_cutAt x k y i) := (cutAt_op x k y i).good _ (fun S x S1 e => by
  unfold m_L_cutAt
  rw [e]
  rfl) (fun S e S1 c h q => by
  unfold m_L_cutAt
  rw [h]
  exact c12_w q) c12_0
theorem addThing_good (b : Bool) : Good Int32.toInt64 (m_L_addThing (bi b)) (m_X6_addThing (bi b)) := (addThing_op b).good _ (fun S x S1 e => by
  unfold m_L_addThing
  rw [e]
  rfl) (fun S e S1 c h q => by
  unfold m_L_addThing
  rw [h]
  exact c1_w q) (c1_0 _)
theorem removeThing_good (v : Int32) : Good Int32.toInt64 (m_L_removeThing v) (m_X6_removeThing v) := (removeThing_op v).good _ (fun S x S1 e => by
  unfold m_L_removeThing
  rw [e]
  rfl) (fun S e S1 c h q => by
  unfold m_L_removeThing
  rw [h]
  exact c1_w q) (c1_0 _)
theorem wake_good (v : Int32) (b : Bool) : Good Int32.toInt64 (m_L_wake v (bi b)) (m_X6_wake v (bi b)) := (wake_op v b).good _ (fun S x S1 e => by
  unfold m_L_wake
  rw [e]
  rfl) (fun S e S1 c h q => by
  unfold m_L_wake
  rw [h]
  exact c32_w q) c32_0
theorem take_good (p y k z : Int32) : Good Int32.toInt64 (m_L_take p y k z) (m_X6_take p y k z) := (take_op p y k z).good _ (fun S x S1 e => by
  unfold m_L_take
  rw [e]
  rfl) (fun S e S1 c h q => by
  unfold m_L_take
  rw [h]
  exact c123_w q) c123_0
theorem give_good (p y k z : Int32) : Good Int32.toInt64 (m_L_give p y k z) (m_X6_give p y k z) := (give_op p y k z).good _ (fun S x S1 e => by
  unfold m_L_give
  rw [e]
  rfl) (fun S e S1 c h q => by
  unfold m_L_give
  rw [h]
  exact c123_w q) c123_0
theorem undo_good : Good Int32.toInt64 (m_L_undo) (m_X6_undo) := (undo_op).good _ (fun S x S1 e => by
  unfold m_L_undo
  rw [e]
  rfl) (fun S e S1 c h q => by
  unfold m_L_undo
  rw [h]
  exact c1_w q) (c1_0 _)
theorem runScript_good (v : Int32) (u : Int64) : Good Int32.toInt64 (m_L_runScript v u) (m_X6_runScript v u) := (runScript_op v u).good _ (fun S x S1 e => by
  unfold m_L_runScript
  rw [e]
  rfl) (fun S e S1 c h q => by
  unfold m_L_runScript
  rw [h]
  exact c1_w q) (c1_0 _)
theorem simulate_good (x : Int64) (v : Int32) : Good Int32.toInt64 (m_L_simulate x v) (m_X6_simulate x v) := (simulate_op x v).good _ (fun S x S1 e => by
  unfold m_L_simulate
  rw [e]
  rfl) (fun S e S1 c h q => by
  unfold m_L_simulate
  rw [h]
  exact c1_w q) (c1_0 _)
theorem save_good (v : Int32) : Good Int32.toInt64 (m_L_save v) (m_X6_save v) := (save_op v).good _ (fun S x S1 e => by
  unfold m_L_save
  rw [e]
  rfl) (fun S e S1 c h q => by
  unfold m_L_save
  rw [h]
  exact c1_w q) (c1_0 _)
theorem restore_good (v : Int32) : Good Int32.toInt64 (m_L_restore v) (m_X6_restore v) := (restore_op v).good _ (fun S x S1 e => by
  unfold m_L_restore
  rw [e]
  rfl) (fun S e S1 c h q => by
  unfold m_L_restore
  rw [h]
  exact c32_w q) c32_0
theorem set_good (x k y : Int32) (b : Bool) : Good fset (m_L_set x k y (bi b)) (m_X6_set x k y (bi b)) := (set_op x k y b).good _ (fun S v S1 e => by
  unfold m_L_set
  rw [e]
  show (if v = 0 then m_L_set_J20 0 0 S1 else m_L_set_J20 1 0 S1) = _
  unfold fset
  by_cases hv : v = 0
  · rw [if_pos hv, if_pos hv]
    rfl
  · rw [if_neg hv, if_neg hv]
    rfl) (fun S e S1 c h q => by
  unfold m_L_set
  rw [h]
  exact c123_w q) c123_0
theorem whyNot_good (b : Bool) (p y k z : Int32) : Good Int32.toInt64 (m_L_whyNot (bi b) p y k z) (m_X6_whyNot (bi b) p y k z) := (whyNot_op b p y k z).good _ (fun S x S1 e => by
  unfold m_L_whyNot
  cases hq : m_X5_whyNot (bi b) p y k z S with
  | none =>
    rw [hq] at e
    cases e
  | some r =>
    rw [hq] at e
    cases e
    rfl) (fun S e S1 c h q => by
  unfold m_L_whyNot
  cases hq : m_X5_whyNot (bi b) p y k z S with
  | none =>
    rw [hq] at h
    cases h
  | some r =>
    rw [hq] at h
    cases h
    exact c12_w q) c12_0
