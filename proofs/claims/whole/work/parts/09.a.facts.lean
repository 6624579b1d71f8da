/-! the law from its entry to its loop, and the loop -/
theorem st_TB {s : State} {b : Nat} (hts : ∀ w ∈ lw_tbl, w.before #[Value.ref b] s = true) : TB s := by
  intro w hw
  have h0 := hts w (tblG_in w hw)
  have hok := List.all_eq_true.mp tblG_ok w hw
  rw [Bool.or_eq_true] at hok
  rcases hok with hg | hg
  · exact word_at (State.WarmedH.refl s) (good_of_word hg) h0
  · cases w <;> first | exact va_Nw.of rfl h0 | exact absurd hg (by simp [isNest])
theorem st_tys {s : State} {b : Nat} (hts : ∀ w ∈ lw_tbl, w.before #[Value.ref b] s = true) {D : va_G} (hK : ∀ (k : Nat) (q : vw_C), vwCl[k]? = some q → u_Kn s q.1 q.2.1 q.2.2 (D.1 k) (D.2 k)) : ∃ cy : Nat → ClassId, va_K D vwCl (tysY cy) s := by
  have arr : ∀ ty : FieldType, (∀ C, ty ≠ .object C) → Cond.arrayClass ty ∈ lw_tbl → ∃ cA, ArrOfT s cA ty ∧ va_RA s cA ty := by
    intro ty hne hw
    obtain ⟨cA, k, comp, h1, h2, h3⟩ := Cond.arrayClass_spec (args := #[Value.ref b]) (first := s) (s := s) (o := none) (idx := []) (hts _ hw)
    refine ⟨cA, fun n z => ⟨fun k h => (by cases h), k, h2, comp, h3⟩, ?_⟩
    cases ty with
    | object C => exact absurd rfl (hne C)
    | _ => exact h1
  obtain ⟨c0, a0, b0⟩ := arr .char (fun _ h => by cases h) (by decide +kernel)
  obtain ⟨c1, a1, b1⟩ := arr .int (fun _ h => by cases h) (by decide +kernel)
  obtain ⟨c2, a2, b2⟩ := arr .boolean (fun _ h => by cases h) (by decide +kernel)
  obtain ⟨c4, a4, b4⟩ := arr .long (fun _ h => by cases h) (by decide +kernel)
  obtain ⟨comp, c3, k, h1, h2, h3, h4, h5⟩ := Cond.arrayOver_spec (args := #[Value.ref b]) (first := s) (s := s) (o := none) (idx := []) (n := "AccessSpread$State") (hts _ (by decide +kernel))
  refine ⟨fun i => if i = 0 then c0 else if i = 1 then c1 else if i = 2 then c2 else if i = 3 then c3 else c4, hK, fun i q hq => ?_⟩
  match i, hq with
  | 0, hq => cases hq; exact ⟨a0, b0⟩
  | 1, hq => cases hq; exact ⟨a1, b1⟩
  | 2, hq => cases hq; exact ⟨a2, b2⟩
  | 3, hq => cases hq; exact ⟨fun n z => ⟨fun k h => (by cases h), k, h3, comp, h4⟩, k, comp, h3, h4, h1, h5⟩
  | 4, hq => cases hq; exact ⟨a4, b4⟩
  | i + 5, hq => simp [tysY] at hq
theorem st_NC {s : State} {b : Nat} (hgv : (Jvm.Cond.and given_1 narrow_1).before #[Value.ref b] s = true) : NC s := by
  have hs := flat_of_before _ hgv
  intro a c ha hc hne
  simp only [List.mem_cons, List.not_mem_nil, or_false] at ha hc
  rcases ha with rfl | rfl | rfl <;> rcases hc with rfl | rfl | rfl <;> first | exact absurd rfl hne | exact va_Nc.of (hs _ (by decide +kernel))
theorem st_SF {s : State} {b : Nat} (hts : ∀ w ∈ lw_tbl, w.before #[Value.ref b] s = true) (hgv : (Jvm.Cond.and given_1 narrow_1).before #[Value.ref b] s = true) : ∃ sa sv : Nat, ∀ g : GG, g.2.1 100 = sa → g.2.1 101 = sv → SF g (fun q => s.heap.size ≤ q) s := by
  have hs := flat_of_before _ hgv
  have hA : ∀ a : Nat, a < s.heap.size → ¬ (fun q : Nat => s.heap.size ≤ q) a := fun a h => Nat.not_le.mpr h
  obtain ⟨adK, adV, hS, hev⟩ := vk_Sof (args := #[Value.ref b]) (s := s) (N := 1) (tm := fun _ => .string "AccessSpread$StateText" 68) (len := [4]) (byt := [tgrw]) (A := fun q => s.heap.size ≤ q)
    (fun i hi => by obtain rfl : i = 0 := by omega
                    decide) (fun i hi => hs _ (by decide +kernel)) (fun i hi => hs _ (by decide +kernel)) (fun i hi => hs _ (by decide +kernel))
    (fun i hi => by obtain rfl : i = 0 := by omega
                    exact hs _ (by decide +kernel))
    (fun i hi j hj => by
      obtain rfl : i = 0 := by omega
      have hj4 : j < 4 := hj
      rcases (show j = 0 ∨ j = 1 ∨ j = 2 ∨ j = 3 by omega) with rfl | rfl | rfl | rfl <;> exact hs _ (by decide +kernel))
    (fun i j hi hj hne => by omega) hA
  obtain ⟨hS1, hS2, hS3, hS4⟩ := hS.1 0 (by omega)
  have sx : ∀ (k : Nat) (tx : String), Cond.stringRef "AccessSpread" k tx ∈ lw_tbl → Cond.exactly (.string "AccessSpread" k) "java/lang/String" ∈ flatC (Jvm.Cond.and given_1 narrow_1) → ∃ sa, vk_R RX5 k tx sa s := by
    intro k tx h1 h2
    obtain ⟨a, c, cA, kA, q1, -⟩ := Cond.exactly_spec (args := #[Value.ref b]) (first := s) (o := none) (s := s) (idx := []) (t := .string "AccessSpread" k) (cls := "java/lang/String") (hs _ h2)
    exact ⟨a, vk_R.of (hts _ h1) q1⟩
  refine ⟨adK 0, adV 0, fun g h100 h101 => ?_⟩
  unfold SF
  rw [h100, h101]
  refine ⟨vx_Zqof (hts _ (by decide +kernel)) (hts _ (by decide +kernel)) (hs _ (by decide +kernel)) hA, vx_Zqof (hts _ (by decide +kernel)) (hts _ (by decide +kernel)) (hs _ (by decide +kernel)) hA, ?_, vk_R.of (hts _ (by decide +kernel)) (hev 0 (by omega)), hS1, hS2, hS3, hS4, va_Zof (hts _ (by decide +kernel)) (hts _ (by decide +kernel)) (va_eqt (hs _ (by decide +kernel))) hA⟩
  have hall : ∀ q ∈ strs, ∃ sa, vk_R RX5 q.1 q.2 sa s := (List.forall_mem_cons.mpr ⟨sx 63 "no character code" (by decide +kernel) (by decide +kernel), (List.forall_mem_cons.mpr ⟨sx 74 "the text is full" (by decide +kernel) (by decide +kernel), (List.forall_mem_cons.mpr ⟨sx 85 "the text is not a state" (by decide +kernel) (by decide +kernel), (List.forall_mem_cons.mpr ⟨sx 127 "no such number" (by decide +kernel) (by decide +kernel), (List.forall_mem_cons.mpr ⟨sx 173 "there are 7 things" (by decide +kernel) (by decide +kernel), (List.forall_mem_cons.mpr ⟨sx 185 "a box cannot be awake" (by decide +kernel) (by decide +kernel), (List.forall_mem_cons.mpr ⟨sx 194 "there are 30 rights" (by decide +kernel) (by decide +kernel), (List.forall_mem_cons.mpr ⟨sx 203 "no state is remembered" (by decide +kernel) (by decide +kernel), (List.forall_mem_cons.mpr ⟨sx 220 "a set has the rights 0 and 1 at most" (by decide +kernel) (by decide +kernel), (List.forall_mem_cons.mpr ⟨sx 244 "no script of so many commands" (by decide +kernel) (by decide +kernel), (List.forall_mem_cons.mpr ⟨sx 251 "1 to 99 tries" (by decide +kernel) (by decide +kernel), (List.forall_mem_cons.mpr ⟨sx 263 "nothing has been saved there" (by decide +kernel) (by decide +kernel), (List.forall_mem_cons.mpr ⟨sx 279 "no such thing" (by decide +kernel) (by decide +kernel), (List.forall_mem_cons.mpr ⟨sx 286 "no right over another thing" (by decide +kernel) (by decide +kernel), (List.forall_mem_cons.mpr ⟨sx 292 "no step with three things" (by decide +kernel) (by decide +kernel), (List.forall_mem_cons.mpr ⟨sx 294 "no such save slot" (by decide +kernel) (by decide +kernel), (List.forall_mem_cons.mpr ⟨sx 303 "the step cannot be done" (by decide +kernel) (by decide +kernel), List.forall_mem_nil _⟩)⟩)⟩)⟩)⟩)⟩)⟩)⟩)⟩)⟩)⟩)⟩)⟩)⟩)⟩)⟩)⟩)
  exact hall
