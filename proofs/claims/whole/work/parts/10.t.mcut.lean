/-! which rights would have to be removed: the model -/
/-- what lasts in a call of the model that changes no state -/
def Mq (S T : Hs) : Prop := (∀ a b, ¬ (a = 13 ∧ (b = 13 ∨ b = 18 ∨ b = 19)) → gI T a b = gI S a b) ∧ (∀ a b, ¬ (a = 14 ∨ a = 18 ∨ 20 ≤ a ∧ a ≤ 27) → gA T a b = gA S a b) ∧ (∀ a b, gQ T a b = gQ S a b) ∧ ∀ b, gO T b = gO S b
theorem Mq.rf (S : Hs) : Mq S S := ⟨fun _ _ _ => rfl, fun _ _ _ => rfl, fun _ _ => rfl, fun _ => rfl⟩
theorem Mq.tr {S T U : Hs} (h : Mq S T) (g : Mq T U) : Mq S U := ⟨fun a b q => (g.1 a b q).trans (h.1 a b q), fun a b q => (g.2.1 a b q).trans (h.2.1 a b q), fun a b => (g.2.2.1 a b).trans (h.2.2.1 a b), fun b => (g.2.2.2 b).trans (h.2.2.2 b)⟩
theorem Mq.ofScr {S T : Hs} (h : Scr S T) : Mq S T := ⟨fun a b q => h.1 a b (by omega), fun a b q => h.2.1 a b (by omega) (by omega) (by omega) (by omega), h.2.2.1, h.2.2.2⟩
theorem Mq.ofA {c : Nat} {S T : Hs} (h : OnA c S T) (hc : c = 14 ∨ c = 18 ∨ 20 ≤ c ∧ c ≤ 27) : Mq S T := ⟨fun a b _ => h.1 a b, fun a b q => h.2.1 a b (by omega), h.2.2.1, h.2.2.2⟩
theorem Mq.sI {k : Nat} (S : Hs) (v : Int32) (hk : k = 13 ∨ k = 18 ∨ k = 19) : Mq S (sI S 13 k v) := ⟨fun a b q => by
  rw [gI_sI]
  by_cases ha : a = 13
  · rw [if_pos ha, if_neg (fun e => q ⟨ha, by omega⟩)]
  · rw [if_neg ha], fun _ _ _ => rfl, fun _ _ => rfl, fun _ => rfl⟩
variable {S : Hs} {n : Nat} {K : Kd} {Z : Rt} {A : Nat → Bool}
theorem num_parts {j : Nat} (hj : j < 196) : num j / 100 = j / 28 ∧ num j / 10 % 10 = j % 28 / 7 ∧ num j % 10 = j % 28 % 7 ∧ num j < 700 := by unfold num; omega
/-- the list of the rights that there are, as far as place c -/
def LiI (Z : Rt) (c : Nat) (S : Hs) : Prop := ∀ j, j < c → fl Z j = true → gA S 27 (fb_ct (fl Z) j) = nI (num j)
theorem ct_skip {Z : Rt} {c d : Nat} (hcd : c ≤ d) (h : ∀ j, c ≤ j → j < d → fl Z j = false) : fb_ct (fl Z) d = fb_ct (fl Z) c := by
  have e := fb_ct_split (fl Z) c (d - c)
  rw [show c + (d - c) = d by omega, fb_ct_zero (p := fun k => fl Z (c + k)) |>.mpr (fun k hk => h (c + k) (by omega) (by omega))] at e
  exact e
theorem LiI.skip {Z : Rt} {c d : Nat} (hd : LiI Z c S) (h : ∀ j, c ≤ j → j < d → fl Z j = false) : LiI Z d S := fun j hj hz => hd j (Nat.lt_of_not_le fun q => by rw [h j q hj] at hz; cases hz) hz
theorem rank_lt {p : Nat → Bool} {i j : Nat} (h : i < j) (hp : p i = true) : fb_ct p i < fb_ct p j := by
  have := fb_ct_mono p (show i + 1 ≤ j from h)
  rw [fb_ct_succ, hp, if_pos rfl] at this
  omega
theorem fl_no {Z : Rt} (hw : WF n Z) {j : Nat} (h : n ≤ j / 28 ∨ n ≤ j % 28 % 7) : fl Z j = false := by
  cases hz : fl Z j
  · rfl
  · have := fl_WF hw hz
    omega
theorem listRights_ok (h : RepM S 14 0 n K Z) (h30 : cnt Z ≤ 30) : ∃ S', m_X6_listRights S = some (nI (cnt Z), S') ∧ OnA 27 S S' ∧ LiI Z 196 S' := by
  have hn := h.1
  have hw := h.2.1
  unfold m_X6_listRights
  have hmono : ∀ c, c ≤ 196 → fb_ct (fl Z) c ≤ 30 := fun c hc => Nat.le_trans (fb_ct_mono (fl Z) hc) h30
  obtain ⟨⟨v, S'⟩, e1, e2, e3, e4⟩ := loopO_inv (f := fun q : Int32 × Int32 × Hs => m_X6_listRights_L4 q.1 q.2.1 q.2.2) (fun x q => x ≤ n ∧ q.2.1 = nI x ∧ q.1 = nI (fb_ct (fl Z) (28 * x)) ∧ OnA 27 S q.2.2 ∧ LiI Z (28 * x) q.2.2) (fun r => r.1 = nI (cnt Z) ∧ OnA 27 S r.2 ∧ LiI Z 196 r.2) 7 (fun x q hq => by
    obtain ⟨m, v, U⟩ := q
    obtain ⟨hx, hv, hm, a1, a2⟩ := hq
    simp only at hv hm a1 a2
    subst hv hm
    have hU : RepM U 14 0 n K Z := h.keep fun j => a1.2.1 _ _ (by omega)
    by_cases hxn : x < n
    · obtain ⟨⟨v2, V⟩, k1, k2, k3, k4⟩ := loopO_inv (f := fun q : Int32 × Int32 × Hs => m_X6_listRights_L16 (nI x) q.1 q.2.1 q.2.2) (fun k q => k ≤ 4 ∧ q.2.1 = nI k ∧ q.1 = nI (fb_ct (fl Z) (28 * x + 7 * k)) ∧ OnA 27 S q.2.2 ∧ LiI Z (28 * x + 7 * k) q.2.2) (fun r => r.1 = nI (fb_ct (fl Z) (28 * (x + 1))) ∧ OnA 27 S r.2 ∧ LiI Z (28 * (x + 1)) r.2) 4 (fun k q hq => by
        obtain ⟨m, v, V⟩ := q
        obtain ⟨hk, hv, hm, b1, b2⟩ := hq
        simp only at hv hm b1 b2
        subst hv hm
        by_cases hk4 : k < 4
        · obtain ⟨⟨v3, W⟩, l1, l2, l3, l4⟩ := loopO_inv (f := fun q : Int32 × Int32 × Hs => m_X6_listRights_L24 (nI x) (nI k) q.1 q.2.1 q.2.2) (fun y q => y ≤ n ∧ q.2.1 = nI y ∧ q.1 = nI (fb_ct (fl Z) (28 * x + 7 * k + y)) ∧ OnA 27 S q.2.2 ∧ LiI Z (28 * x + 7 * k + y) q.2.2) (fun r => r.1 = nI (fb_ct (fl Z) (28 * x + 7 * (k + 1))) ∧ OnA 27 S r.2 ∧ LiI Z (28 * x + 7 * (k + 1)) r.2) 7 (fun y q hq => by
            obtain ⟨m, v, W⟩ := q
            obtain ⟨hy, hv, hm, c1, c2⟩ := hq
            simp only at hv hm c1 c2
            subst hv hm
            have hW : RepM W 14 0 n K Z := h.keep fun j => c1.2.1 _ _ (by omega)
            by_cases hyn : y < n
            · have hfl : fl Z (28 * x + 7 * k + y) = Z x k y := fl_ix Z hk4 (show y < 7 by omega)
              have hct := fb_ct_succ (fl Z) (28 * x + 7 * k + y)
              rw [hfl] at hct
              have hle := hmono (28 * x + 7 * k + y + 1) (by omega)
              refine Or.inl ⟨by omega, ?_⟩
              simp only [m_X6_listRights_L24, m_X6_listRights_J67]
              cases hz : Z x k y
              · simp (disch := omega) only [k_0, k_1, k_2, k_3, k_4, k_5, k_6, k_7, k_8, k_9, k_10, k_14, k_16, k_28, k_30, k_48, k_49, k_57, k_100, k_110, k_127, k_128, k_196, k_255, k_1000, k_1024, k_10000, nI_add, nI_mul, nI_div, irm_nI, nle, nlt, neq, gd_t, inb_nI, cl_nI, bnd_eq, gdT, gdo, gb0, gb1, gbi, bi0, bi1, bi0r, Option.bind_some, bndE_some, ite_t, ite_f, k_m9, k_m1, k_13, k_15, k_18, k_19, k_112, k_114, k_115, k_98, k_103, k_116, k_119, k_47, k_82, k_50, k_51, k_99, k_700, k_197, ne9, ne9s, nI_ne0s, ↓reduceIte, z0 hW, mhas_ok hW (show x < 7 by omega) hk4 (show y < 7 by omega), hz]
                rw [hz] at hct
                refine ⟨_, rfl, by omega, rfl, ?_, c1, c2.skip fun j h1 h2 => ?_⟩
                · show nI _ = nI (fb_ct (fl Z) (28 * x + 7 * k + y + 1))
                  rw [hct]
                  rfl
                · obtain rfl : j = 28 * x + 7 * k + y := by omega
                  rw [hfl, hz]
              · rw [hz, if_pos rfl] at hct
                rw [hct] at hle
                simp (disch := omega) only [k_0, k_1, k_2, k_3, k_4, k_5, k_6, k_7, k_8, k_9, k_10, k_14, k_16, k_28, k_30, k_48, k_49, k_57, k_100, k_110, k_127, k_128, k_196, k_255, k_1000, k_1024, k_10000, nI_add, nI_mul, nI_div, irm_nI, nle, nlt, neq, gd_t, inb_nI, cl_nI, bnd_eq, gdT, gdo, gb0, gb1, gbi, bi0, bi1, bi0r, Option.bind_some, bndE_some, ite_t, ite_f, k_m9, k_m1, k_13, k_15, k_18, k_19, k_112, k_114, k_115, k_98, k_103, k_116, k_119, k_47, k_82, k_50, k_51, k_99, k_700, k_197, ne9, ne9s, nI_ne0s, ↓reduceIte, z0 hW, mhas_ok hW (show x < 7 by omega) hk4 (show y < 7 by omega), hz, Bool.true_eq_false]
                refine ⟨_, rfl, by omega, rfl, ?_, c1.tr (OnA.sA _ _), fun j hj hzj => ?_⟩
                · show nI _ = nI (fb_ct (fl Z) (28 * x + 7 * k + y + 1))
                  rw [hct]
                · show gA (sA W 27 _ _) 27 _ = _
                  rw [gA_sA, if_pos rfl]
                  by_cases hjj : j = 28 * x + 7 * k + y
                  · rw [if_pos (by rw [hjj]), hjj]
                    congr 1
                    unfold num
                    omega
                  · have hlt := rank_lt (p := fl Z) (show j < 28 * x + 7 * k + y by omega) hzj
                    rw [if_neg (by omega)]
                    exact c2 j (by omega) hzj
            · obtain rfl : y = n := by omega
              have hno : ∀ j, 28 * x + 7 * k + y ≤ j → j < 28 * x + 7 * (k + 1) → fl Z j = false := fun j h1 h2 => fl_no hw (Or.inr (by omega))
              refine Or.inr ⟨(nI (fb_ct (fl Z) (28 * x + 7 * k + y)), W), ?_, ?_, c1, c2.skip hno⟩
              · simp only [m_X6_listRights_L24]
                simp (disch := omega) only [k_0, k_1, k_2, k_3, k_4, k_5, k_6, k_7, k_8, k_9, k_10, k_14, k_16, k_28, k_30, k_48, k_49, k_57, k_100, k_110, k_127, k_128, k_196, k_255, k_1000, k_1024, k_10000, nI_add, nI_mul, nI_div, irm_nI, nle, nlt, neq, gd_t, inb_nI, cl_nI, bnd_eq, gdT, gdo, gb0, gb1, gbi, bi0, bi1, bi0r, Option.bind_some, bndE_some, ite_t, ite_f, k_m9, k_m1, k_13, k_15, k_18, k_19, k_112, k_114, k_115, k_98, k_103, k_116, k_119, k_47, k_82, k_50, k_51, k_99, k_700, k_197, ne9, ne9s, nI_ne0s, ↓reduceIte, z0 hW]
              · show nI _ = nI _
                rw [ct_skip (by omega) hno]) (x := (nI (fb_ct (fl Z) (28 * x + 7 * k)), nI 0, V)) ⟨by omega, rfl, rfl, b1, b2⟩
          simp only at l2
          subst l2
          refine Or.inl ⟨hk4, ?_⟩
          simp only [m_X6_listRights_L16]
          simp (disch := omega) only [k_0, k_1, k_2, k_3, k_4, k_5, k_6, k_7, k_8, k_9, k_10, k_14, k_16, k_28, k_30, k_48, k_49, k_57, k_100, k_110, k_127, k_128, k_196, k_255, k_1000, k_1024, k_10000, nI_add, nI_mul, nI_div, irm_nI, nle, nlt, neq, gd_t, inb_nI, cl_nI, bnd_eq, gdT, gdo, gb0, gb1, gbi, bi0, bi1, bi0r, Option.bind_some, bndE_some, ite_t, ite_f, k_m9, k_m1, k_13, k_15, k_18, k_19, k_112, k_114, k_115, k_98, k_103, k_116, k_119, k_47, k_82, k_50, k_51, k_99, k_700, k_197, ne9, ne9s, nI_ne0s, ↓reduceIte]
          rw [l1]
          exact ⟨_, rfl, by omega, rfl, rfl, l3, l4⟩
        · obtain rfl : k = 4 := by omega
          refine Or.inr ⟨(nI (fb_ct (fl Z) (28 * x + 7 * 4)), V), ?_, ?_, b1, by have := b2; rwa [show 28 * x + 7 * 4 = 28 * (x + 1) by omega] at this⟩
          · simp only [m_X6_listRights_L16]
            simp (disch := omega) only [k_0, k_1, k_2, k_3, k_4, k_5, k_6, k_7, k_8, k_9, k_10, k_14, k_16, k_28, k_30, k_48, k_49, k_57, k_100, k_110, k_127, k_128, k_196, k_255, k_1000, k_1024, k_10000, nI_add, nI_mul, nI_div, irm_nI, nle, nlt, neq, gd_t, inb_nI, cl_nI, bnd_eq, gdT, gdo, gb0, gb1, gbi, bi0, bi1, bi0r, Option.bind_some, bndE_some, ite_t, ite_f, k_m9, k_m1, k_13, k_15, k_18, k_19, k_112, k_114, k_115, k_98, k_103, k_116, k_119, k_47, k_82, k_50, k_51, k_99, k_700, k_197, ne9, ne9s, nI_ne0s, ↓reduceIte]
          · show nI _ = nI _
            rw [show 28 * (x + 1) = 28 * x + 7 * 4 by omega]) (x := (nI (fb_ct (fl Z) (28 * x)), nI 0, U)) ⟨by omega, rfl, rfl, a1, a2⟩
      simp only at k2
      subst k2
      refine Or.inl ⟨by omega, ?_⟩
      simp only [m_X6_listRights_L4]
      simp (disch := omega) only [k_0, k_1, k_2, k_3, k_4, k_5, k_6, k_7, k_8, k_9, k_10, k_14, k_16, k_28, k_30, k_48, k_49, k_57, k_100, k_110, k_127, k_128, k_196, k_255, k_1000, k_1024, k_10000, nI_add, nI_mul, nI_div, irm_nI, nle, nlt, neq, gd_t, inb_nI, cl_nI, bnd_eq, gdT, gdo, gb0, gb1, gbi, bi0, bi1, bi0r, Option.bind_some, bndE_some, ite_t, ite_f, k_m9, k_m1, k_13, k_15, k_18, k_19, k_112, k_114, k_115, k_98, k_103, k_116, k_119, k_47, k_82, k_50, k_51, k_99, k_700, k_197, ne9, ne9s, nI_ne0s, ↓reduceIte, z0 hU]
      rw [k1]
      exact ⟨_, rfl, by omega, rfl, rfl, k3, k4⟩
    · obtain rfl : x = n := by omega
      have hno : ∀ j, 28 * x ≤ j → j < 196 → fl Z j = false := fun j h1 h2 => fl_no hw (Or.inl (by omega))
      refine Or.inr ⟨(nI (fb_ct (fl Z) (28 * x)), U), ?_, ?_, a1, a2.skip hno⟩
      · simp only [m_X6_listRights_L4]
        simp (disch := omega) only [k_0, k_1, k_2, k_3, k_4, k_5, k_6, k_7, k_8, k_9, k_10, k_14, k_16, k_28, k_30, k_48, k_49, k_57, k_100, k_110, k_127, k_128, k_196, k_255, k_1000, k_1024, k_10000, nI_add, nI_mul, nI_div, irm_nI, nle, nlt, neq, gd_t, inb_nI, cl_nI, bnd_eq, gdT, gdo, gb0, gb1, gbi, bi0, bi1, bi0r, Option.bind_some, bndE_some, ite_t, ite_f, k_m9, k_m1, k_13, k_15, k_18, k_19, k_112, k_114, k_115, k_98, k_103, k_116, k_119, k_47, k_82, k_50, k_51, k_99, k_700, k_197, ne9, ne9s, nI_ne0s, ↓reduceIte, z0 hU]
      · show nI _ = nI _
        unfold cnt
        rw [ct_skip (by omega) hno]) (x := (nI 0, nI 0, S)) ⟨by omega, rfl, rfl, OnA.rf _ _, fun j hj => by omega⟩
  simp only at e2
  subst e2
  exact ⟨S', by simp (disch := omega) only [k_0, k_1, k_2, k_3, k_4, k_5, k_6, k_7, k_8, k_9, k_10, k_14, k_16, k_28, k_30, k_48, k_49, k_57, k_100, k_110, k_127, k_128, k_196, k_255, k_1000, k_1024, k_10000, nI_add, nI_mul, nI_div, irm_nI, nle, nlt, neq, gd_t, inb_nI, cl_nI, bnd_eq, gdT, gdo, gb0, gb1, gbi, bi0, bi1, bi0r, Option.bind_some, bndE_some, ite_t, ite_f, k_m9, k_m1, k_13, k_15, k_18, k_19, k_112, k_114, k_115, k_98, k_103, k_116, k_119, k_47, k_82, k_50, k_51, k_99, k_700, k_197, ne9, ne9s, nI_ne0s, ↓reduceIte]; rw [e1]; rfl, e3, e4⟩
theorem putNumber_ok (h : RepM S 14 0 n K Z) {j : Nat} (hj : j < 196) (hz : j / 28 < n ∧ j % 28 / 7 < 4 ∧ j % 28 % 7 < n ∧ j / 28 ≠ j % 28 % 7) (b : Bool) : ∃ S', m_X6_putNumber (nI (num j)) (bi b) S = some S' ∧ RepM S' 14 0 n K (upR Z (j / 28) (j % 28 / 7) (j % 28 % 7) b) ∧ OnA 14 S S' := by
  obtain ⟨p1, p2, p3, p4⟩ := num_parts hj
  obtain ⟨v, h1, h2⟩ := mput_ok h hz.1 hz.2.1 hz.2.2.1 hz.2.2.2 b
  refine ⟨_, ?_, h2, OnA.sA _ _⟩
  unfold m_X6_putNumber
  simp (disch := omega) only [k_0, k_1, k_2, k_3, k_4, k_5, k_6, k_7, k_8, k_9, k_10, k_14, k_16, k_28, k_30, k_48, k_49, k_57, k_100, k_110, k_127, k_128, k_196, k_255, k_1000, k_1024, k_10000, nI_add, nI_mul, nI_div, irm_nI, nle, nlt, neq, gd_t, inb_nI, cl_nI, bnd_eq, gdT, gdo, gb0, gb1, gbi, bi0, bi1, bi0r, Option.bind_some, bndE_some, ite_t, ite_f, k_m9, k_m1, k_13, k_15, k_18, k_19, k_112, k_114, k_115, k_98, k_103, k_116, k_119, k_47, k_82, k_50, k_51, k_99, k_700, k_197, ne9, ne9s, nI_ne0s, ↓reduceIte, p1, p2, p3, h1]
/-- back again -/
theorem del_ins {j : Nat} (hz : fl Z j = true) : upR (del Z j) (j / 28) (j % 28 / 7) (j % 28 % 7) true = Z := by
  funext x k y
  unfold del upR
  by_cases hq : x = j / 28 ∧ k = j % 28 / 7 ∧ y = j % 28 % 7
  · rw [if_pos hq, hq.1, hq.2.1, hq.2.2]
    exact hz.symm
  · rw [if_neg hq, if_neg hq]
theorem ins_comm {Z : Rt} {i j : Nat} (hij : i ≠ j) (hi : i < 196) (hj : j < 196) : upR (del (del Z i) j) (i / 28) (i % 28 / 7) (i % 28 % 7) true = del (upR (del Z i) (i / 28) (i % 28 / 7) (i % 28 % 7) true) j := by
  funext x k y
  unfold del upR
  by_cases h1 : x = i / 28 ∧ k = i % 28 / 7 ∧ y = i % 28 % 7
  · rw [if_pos h1, if_pos h1, if_neg (by omega)]
  · rw [if_neg h1]
    by_cases h2 : x = j / 28 ∧ k = j % 28 / 7 ∧ y = j % 28 % 7
    · rw [if_pos h2, if_pos h2]
    · rw [if_neg h2, if_neg h2, if_neg h1, if_neg h1]
/-- the search's own cells stay -/
def Kl (S T : Hs) : Prop := (∀ b, gA T 27 b = gA S 27 b) ∧ gI T 13 18 = gI S 13 18 ∧ gI T 13 19 = gI S 13 19
theorem Kl.tr {S T U : Hs} (h : Kl S T) (g : Kl T U) : Kl S U := ⟨fun b => (g.1 b).trans (h.1 b), g.2.1.trans h.2.1, g.2.2.trans h.2.2⟩
theorem Kl.ofA {c : Nat} {S T : Hs} (h : OnA c S T) (hc : c ≠ 27) : Kl S T := ⟨fun b => h.2.1 _ _ (fun q => hc q.symm), h.1 _ _, h.1 _ _⟩
theorem Kl.ofScr {S T : Hs} (h : Scr S T) : Kl S T := ⟨fun b => h.2.1 _ _ (by omega) (by omega) (by omega) (by omega), h.1 _ _ (by omega), h.1 _ _ (by omega)⟩
/-- the spread of some rights, and whether it brings one -/
theorem mspread_ends (h : RepM S 14 0 n K Z) {gx gk gy : Nat} (hx : gx < 7) (hk : gk < 4) (hy : gy < 7) : ∃ w S', m_X6_awakeSet S = some w ∧ m_X6_spread w S = some S' ∧ m_X6_ends (nI gx) (nI gk) (nI gy) S' = some (bi (Clo (aw n K) Z gx gk gy)) ∧ RepM S' 14 0 n K Z ∧ Mq S S' ∧ Kl S S' := by
  obtain ⟨w, h1, h2⟩ := awakeSet_ok h
  obtain ⟨S', g1, g2, g3⟩ := spread_ok h h2
  exact ⟨w, S', h1, g1, ends_ok g3.2.1 hx hk hy, g2.rep h (by omega) (by omega) (by omega) (by omega), Mq.ofScr g2, Kl.ofScr g2⟩
theorem ew0_ok (h : RepM S 14 0 n K Z) {gx gk gy : Nat} (hx : gx < 7) (hk : gk < 4) (hy : gy < 7) : ∃ S', m_X6_endsWithout (nI gx) (nI gk) (nI gy) m9 m9 S = some (bi (Clo (aw n K) Z gx gk gy), S') ∧ RepM S' 14 0 n K Z ∧ Mq S S' := by
  obtain ⟨w, S', h1, h2, h3, h4, h5, -⟩ := mspread_ends h hx hk hy
  refine ⟨S', ?_, h4, h5⟩
  unfold m_X6_endsWithout m_X6_endsWithout_J14 m_X6_endsWithout_J28 m_X6_endsWithout_J59 m_X6_endsWithout_J73
  simp (disch := omega) only [k_0, k_1, k_2, k_3, k_4, k_5, k_6, k_7, k_8, k_9, k_10, k_14, k_16, k_28, k_30, k_48, k_49, k_57, k_100, k_110, k_127, k_128, k_196, k_255, k_1000, k_1024, k_10000, nI_add, nI_mul, nI_div, irm_nI, nle, nlt, neq, gd_t, inb_nI, cl_nI, bnd_eq, gdT, gdo, gb0, gb1, gbi, bi0, bi1, bi0r, Option.bind_some, bndE_some, ite_t, ite_f, k_m9, k_m1, k_13, k_15, k_18, k_19, k_112, k_114, k_115, k_98, k_103, k_116, k_119, k_47, k_82, k_50, k_51, k_99, k_700, k_197, ne9, ne9s, nI_ne0s, ↓reduceIte, h1, h2, h3]
theorem ew1_ok (h : RepM S 14 0 n K Z) {gx gk gy a : Nat} (hx : gx < 7) (hk : gk < 4) (hy : gy < 7) (ha : a < 196) (hz : fl Z a = true) : ∃ S', m_X6_endsWithout (nI gx) (nI gk) (nI gy) (nI (num a)) m9 S = some (bi (Clo (aw n K) (del Z a) gx gk gy), S') ∧ RepM S' 14 0 n K Z ∧ Mq S S' ∧ Kl S S' := by
  have hb := fl_WF h.2.1 hz
  have hna := (num_parts ha).2.2.2
  obtain ⟨S1, a1, a2, a3⟩ := putNumber_ok h ha hb false
  obtain ⟨w, S2, h1, h2, h3, h4, h5, h6⟩ := mspread_ends a2 hx hk hy
  obtain ⟨S3, b1, b2, b3⟩ := putNumber_ok h4 ha hb true
  rw [show upR (upR Z (a / 28) (a % 28 / 7) (a % 28 % 7) false) (a / 28) (a % 28 / 7) (a % 28 % 7) true = Z from del_ins hz] at b2
  refine ⟨S3, ?_, b2, ((Mq.ofA a3 (by omega)).tr h5).tr (Mq.ofA b3 (by omega)), ((Kl.ofA a3 (by omega)).tr h6).tr (Kl.ofA b3 (by omega))⟩
  rw [bi_f] at a1
  rw [bi_t] at b1
  unfold m_X6_endsWithout m_X6_endsWithout_J14 m_X6_endsWithout_J28 m_X6_endsWithout_J59 m_X6_endsWithout_J73
  simp (disch := omega) only [k_0, k_1, k_2, k_3, k_4, k_5, k_6, k_7, k_8, k_9, k_10, k_14, k_16, k_28, k_30, k_48, k_49, k_57, k_100, k_110, k_127, k_128, k_196, k_255, k_1000, k_1024, k_10000, nI_add, nI_mul, nI_div, irm_nI, nle, nlt, neq, gd_t, inb_nI, cl_nI, bnd_eq, gdT, gdo, gb0, gb1, gbi, bi0, bi1, bi0r, Option.bind_some, bndE_some, ite_t, ite_f, k_m9, k_m1, k_13, k_15, k_18, k_19, k_112, k_114, k_115, k_98, k_103, k_116, k_119, k_47, k_82, k_50, k_51, k_99, k_700, k_197, ne9, ne9s, nI_ne0s, ↓reduceIte, a1, h1, h2, h3, b1]
  rfl
theorem ew2_ok (h : RepM S 14 0 n K Z) {gx gk gy a b : Nat} (hx : gx < 7) (hk : gk < 4) (hy : gy < 7) (ha : a < 196) (hz : fl Z a = true) (hb : b < 196) (hzb : fl Z b = true) (hab : a ≠ b) : ∃ S', m_X6_endsWithout (nI gx) (nI gk) (nI gy) (nI (num a)) (nI (num b)) S = some (bi (Clo (aw n K) (del (del Z a) b) gx gk gy), S') ∧ RepM S' 14 0 n K Z ∧ Mq S S' ∧ Kl S S' := by
  have wa := fl_WF h.2.1 hz
  have wb := fl_WF h.2.1 hzb
  have hna := (num_parts ha).2.2.2
  have hnb := (num_parts hb).2.2.2
  obtain ⟨S1, a1, a2, a3⟩ := putNumber_ok h ha wa false
  obtain ⟨S2, c1, c2, c3⟩ := putNumber_ok a2 hb wb false
  obtain ⟨w, S3, h1, h2, h3, h4, h5, h6⟩ := mspread_ends c2 hx hk hy
  obtain ⟨S4, d1, d2, d3⟩ := putNumber_ok h4 ha wa true
  obtain ⟨S5, f1, f2, f3⟩ := putNumber_ok d2 hb wb true
  have e1 : upR (upR (upR (upR Z (a / 28) (a % 28 / 7) (a % 28 % 7) false) (b / 28) (b % 28 / 7) (b % 28 % 7) false) (a / 28) (a % 28 / 7) (a % 28 % 7) true) (b / 28) (b % 28 / 7) (b % 28 % 7) true = Z := by
    have := ins_comm (Z := Z) hab ha hb
    unfold del at this
    rw [this]
    rw [show upR (upR Z (a / 28) (a % 28 / 7) (a % 28 % 7) false) (a / 28) (a % 28 / 7) (a % 28 % 7) true = Z from del_ins hz]
    exact del_ins hzb
  rw [e1] at f2
  refine ⟨S5, ?_, f2, (((Mq.ofA a3 (by omega)).tr (Mq.ofA c3 (by omega))).tr h5).tr ((Mq.ofA d3 (by omega)).tr (Mq.ofA f3 (by omega))), (((Kl.ofA a3 (by omega)).tr (Kl.ofA c3 (by omega))).tr h6).tr ((Kl.ofA d3 (by omega)).tr (Kl.ofA f3 (by omega)))⟩
  rw [bi_f] at a1 c1
  rw [bi_t] at d1 f1
  unfold m_X6_endsWithout m_X6_endsWithout_J14 m_X6_endsWithout_J28 m_X6_endsWithout_J59 m_X6_endsWithout_J73
  simp (disch := omega) only [k_0, k_1, k_2, k_3, k_4, k_5, k_6, k_7, k_8, k_9, k_10, k_14, k_16, k_28, k_30, k_48, k_49, k_57, k_100, k_110, k_127, k_128, k_196, k_255, k_1000, k_1024, k_10000, nI_add, nI_mul, nI_div, irm_nI, nle, nlt, neq, gd_t, inb_nI, cl_nI, bnd_eq, gdT, gdo, gb0, gb1, gbi, bi0, bi1, bi0r, Option.bind_some, bndE_some, ite_t, ite_f, k_m9, k_m1, k_13, k_15, k_18, k_19, k_112, k_114, k_115, k_98, k_103, k_116, k_119, k_47, k_82, k_50, k_51, k_99, k_700, k_197, ne9, ne9s, nI_ne0s, ↓reduceIte, a1, c1, h1, h2, h3, d1, f1]
  rfl
/-- the search's own list stays -/
theorem LiI.keep {S T : Hs} {c : Nat} (h : LiI Z c S) (g : Kl S T) : LiI Z c T := fun j hj hz => (g.1 _).trans (h j hj hz)
theorem kth {Z : Rt} {c : Nat} (hc : c < cnt Z) : ∃ j, j < 196 ∧ fl Z j = true ∧ fb_ct (fl Z) j = c := fb_ct_kth hc
theorem rank_inv {p : Nat → Bool} {i j : Nat} (hj : p j = true) (h : fb_ct p i < fb_ct p j) : i < j := by
  refine Nat.lt_of_not_le fun q => ?_
  have := fb_ct_mono p q
  omega
theorem rank_eq {p : Nat → Bool} {i j : Nat} (hi : p i = true) (hj : p j = true) (h : fb_ct p i = fb_ct p j) : i = j := fb_ct_kth_one hi hj h
theorem rank_top {Z : Rt} {j : Nat} (hj : j < 196) (hz : fl Z j = true) : fb_ct (fl Z) j < cnt Z := rank_lt hj hz
/-- one right out -/
theorem cuts1_ok (h : RepM S 14 0 n K Z) (h30 : cnt Z ≤ 30) (hL : LiI Z 196 S) {gx gk gy : Nat} (hx : gx < 7) (hk : gk < 4) (hy : gy < 7) : ∃ r, loopO (fun q => m_X6_cuts_L37 (nI gx) (nI gk) (nI gy) (nI (cnt Z)) q.1 q.2) (nI 0, S) = some r ∧ (match r with
    | .inl U => lf (cq1 (aw n K) Z gx gk gy) 196 = 196 ∧ RepM U 14 0 n K Z ∧ Mq S U ∧ LiI Z 196 U ∧ gI U 13 18 = gI S 13 18 ∧ gI U 13 19 = gI S 13 19
    | .inr (v, U) => v = nI 1 ∧ lf (cq1 (aw n K) Z gx gk gy) 196 < 196 ∧ RepM U 14 0 n K Z ∧ Mq S U ∧ gI U 13 18 = nI (num (lf (cq1 (aw n K) Z gx gk gy) 196)) ∧ gI U 13 19 = gI S 13 19) := by
  refine loopO_inv (f := fun q : Int32 × Hs => m_X6_cuts_L37 (nI gx) (nI gk) (nI gy) (nI (cnt Z)) q.1 q.2) (fun c q => c ≤ cnt Z ∧ q.1 = nI c ∧ RepM q.2 14 0 n K Z ∧ Mq S q.2 ∧ LiI Z 196 q.2 ∧ gI q.2 13 18 = gI S 13 18 ∧ gI q.2 13 19 = gI S 13 19 ∧ ∀ j, j < 196 → fl Z j = true → fb_ct (fl Z) j < c → cq1 (aw n K) Z gx gk gy j = false) _ 30 (fun c q hq => ?_) ⟨by omega, rfl, h, Mq.rf S, hL, rfl, rfl, fun j _ _ q => by omega⟩
  obtain ⟨v, U⟩ := q
  obtain ⟨hc, hv, a1, a2, a3, a4, a5, a6⟩ := hq
  simp only at hv a1 a2 a3 a4 a5
  subst hv
  by_cases hc2 : c < cnt Z
  · obtain ⟨j, j1, j2, j3⟩ := kth hc2
    have hli := a3 j j1 j2
    rw [j3] at hli
    obtain ⟨V, k1, k2, k3, k4⟩ := ew1_ok a1 hx hk hy j1 j2
    simp only [m_X6_cuts_L37]
    cases hcut : Clo (aw n K) (del Z j) gx gk gy
    · have hq : cq1 (aw n K) Z gx gk gy j = true := by unfold cq1; rw [j2, hcut]; rfl
      have hlf : lf (cq1 (aw n K) Z gx gk gy) 196 = j := lf_eq (by omega) (fun i hi => by
        cases hzi : fl Z i
        · unfold cq1; rw [hzi]; rfl
        · exact a6 i (by omega) hzi (by rw [← j3]; exact rank_lt hi hzi)) fun _ => hq
      refine Or.inr ⟨.inr (nI 1, sI V 13 18 (nI (num j))), ?_, rfl, by omega, k2, (a2.tr k3).tr (Mq.sI _ _ (by omega)), ?_, ?_⟩
      · simp (disch := omega) only [k_0, k_1, k_2, k_3, k_4, k_5, k_6, k_7, k_8, k_9, k_10, k_14, k_16, k_28, k_30, k_48, k_49, k_57, k_100, k_110, k_127, k_128, k_196, k_255, k_1000, k_1024, k_10000, nI_add, nI_mul, nI_div, irm_nI, nle, nlt, neq, gd_t, inb_nI, cl_nI, bnd_eq, gdT, gdo, gb0, gb1, gbi, bi0, bi1, bi0r, Option.bind_some, bndE_some, ite_t, ite_f, k_m9, k_m1, k_13, k_15, k_18, k_19, k_112, k_114, k_115, k_98, k_103, k_116, k_119, k_47, k_82, k_50, k_51, k_99, k_700, k_197, ne9, ne9s, nI_ne0s, ↓reduceIte, hli, k1, hcut, k4.1]
      · rw [gI_sI, if_pos rfl, if_pos rfl, hlf]
      · rw [gI_sI, if_pos rfl, if_neg (by omega), k4.2.2, a5]
    · refine Or.inl ⟨by omega, ?_⟩
      simp (disch := omega) only [k_0, k_1, k_2, k_3, k_4, k_5, k_6, k_7, k_8, k_9, k_10, k_14, k_16, k_28, k_30, k_48, k_49, k_57, k_100, k_110, k_127, k_128, k_196, k_255, k_1000, k_1024, k_10000, nI_add, nI_mul, nI_div, irm_nI, nle, nlt, neq, gd_t, inb_nI, cl_nI, bnd_eq, gdT, gdo, gb0, gb1, gbi, bi0, bi1, bi0r, Option.bind_some, bndE_some, ite_t, ite_f, k_m9, k_m1, k_13, k_15, k_18, k_19, k_112, k_114, k_115, k_98, k_103, k_116, k_119, k_47, k_82, k_50, k_51, k_99, k_700, k_197, ne9, ne9s, nI_ne0s, ↓reduceIte, hli, k1, hcut, Bool.true_eq_false]
      refine ⟨_, rfl, by omega, rfl, k2, a2.tr k3, a3.keep k4, k4.2.1.trans a4, k4.2.2.trans a5, fun i hi hzi hr => ?_⟩
      · by_cases hic : fb_ct (fl Z) i = c
        · obtain rfl := rank_eq hzi j2 (hic.trans j3.symm)
          unfold cq1
          rw [hcut, Bool.not_true, Bool.and_false]
        · exact a6 i hi hzi (by omega)
  · obtain rfl : c = cnt Z := by omega
    refine Or.inr ⟨.inl U, ?_, lf_eq (Nat.le_refl _) (fun i hi => ?_) (fun q => absurd q (Nat.lt_irrefl _)), a1, a2, a3, a4, a5⟩
    · simp only [m_X6_cuts_L37]
      simp (disch := omega) only [k_0, k_1, k_2, k_3, k_4, k_5, k_6, k_7, k_8, k_9, k_10, k_14, k_16, k_28, k_30, k_48, k_49, k_57, k_100, k_110, k_127, k_128, k_196, k_255, k_1000, k_1024, k_10000, nI_add, nI_mul, nI_div, irm_nI, nle, nlt, neq, gd_t, inb_nI, cl_nI, bnd_eq, gdT, gdo, gb0, gb1, gbi, bi0, bi1, bi0r, Option.bind_some, bndE_some, ite_t, ite_f, k_m9, k_m1, k_13, k_15, k_18, k_19, k_112, k_114, k_115, k_98, k_103, k_116, k_119, k_47, k_82, k_50, k_51, k_99, k_700, k_197, ne9, ne9s, nI_ne0s, ↓reduceIte]
    · cases hzi : fl Z i
      · unfold cq1; rw [hzi]; rfl
      · exact a6 i hi hzi (rank_top hi hzi)
/-- two rights out -/
theorem cq2_same {gx gk gy a b : Nat} (h : fl Z a = false ∨ fl Z b = false) : cq2 A Z gx gk gy a b = false := by
  unfold cq2
  rcases h with h | h
  · rw [h]; rfl
  · rw [h]; simp
theorem cuts2_ok (h : RepM S 14 0 n K Z) (h30 : cnt Z ≤ 30) (hL : LiI Z 196 S) {gx gk gy : Nat} (hx : gx < 7) (hk : gk < 4) (hy : gy < 7) : ∃ r, loopO (fun q => m_X6_cuts_L85 (nI gx) (nI gk) (nI gy) (nI (cnt Z)) q.1 q.2) (nI 0, S) = some r ∧ (match r with
    | .inl U => cla (aw n K) Z gx gk gy = 196 ∧ RepM U 14 0 n K Z ∧ Mq S U ∧ gI U 13 18 = gI S 13 18 ∧ gI U 13 19 = gI S 13 19
    | .inr (v, U) => v = nI 2 ∧ cla (aw n K) Z gx gk gy < 196 ∧ RepM U 14 0 n K Z ∧ Mq S U ∧ gI U 13 18 = nI (num (cla (aw n K) Z gx gk gy)) ∧ gI U 13 19 = nI (num (clb (aw n K) Z gx gk gy (cla (aw n K) Z gx gk gy)))) := by
  refine loopO_inv (f := fun q : Int32 × Hs => m_X6_cuts_L85 (nI gx) (nI gk) (nI gy) (nI (cnt Z)) q.1 q.2) (fun c q => c ≤ cnt Z ∧ q.1 = nI c ∧ RepM q.2 14 0 n K Z ∧ Mq S q.2 ∧ LiI Z 196 q.2 ∧ gI q.2 13 18 = gI S 13 18 ∧ gI q.2 13 19 = gI S 13 19 ∧ ∀ j, j < 196 → fl Z j = true → fb_ct (fl Z) j < c → clb (aw n K) Z gx gk gy j = 196) _ 30 (fun c q hq => ?_) ⟨by omega, rfl, h, Mq.rf S, hL, rfl, rfl, fun j _ _ q => by omega⟩
  obtain ⟨v, U⟩ := q
  obtain ⟨hc, hv, a1, a2, a3, a4, a5, a6⟩ := hq
  simp only at hv a1 a2 a3 a4 a5
  subst hv
  have hno : ∀ i, fl Z i = false → clb (aw n K) Z gx gk gy i = 196 := fun i hi => lf_eq (Nat.le_refl _) (fun b _ => by rw [cq2_same (Or.inl hi), Bool.and_false]) fun q => absurd q (Nat.lt_irrefl _)
  by_cases hc2 : c < cnt Z
  · obtain ⟨j, j1, j2, j3⟩ := kth hc2
    have hlj := a3 j j1 j2
    rw [j3] at hlj
    obtain ⟨r, k1, k2⟩ := loopO_inv (f := fun q : Int32 × Hs => m_X6_cuts_L98 (nI gx) (nI gk) (nI gy) (nI (cnt Z)) (nI c) q.1 q.2) (fun d q => c + 1 + d ≤ cnt Z ∧ q.1 = nI (c + 1 + d) ∧ RepM q.2 14 0 n K Z ∧ Mq S q.2 ∧ LiI Z 196 q.2 ∧ gI q.2 13 18 = gI S 13 18 ∧ gI q.2 13 19 = gI S 13 19 ∧ ∀ i, i < 196 → fl Z i = true → c < fb_ct (fl Z) i → fb_ct (fl Z) i < c + 1 + d → cq2 (aw n K) Z gx gk gy j i = false) (fun r => match r with
      | .inl U => clb (aw n K) Z gx gk gy j = 196 ∧ RepM U 14 0 n K Z ∧ Mq S U ∧ LiI Z 196 U ∧ gI U 13 18 = gI S 13 18 ∧ gI U 13 19 = gI S 13 19
      | .inr (v, U) => v = nI 2 ∧ clb (aw n K) Z gx gk gy j < 196 ∧ RepM U 14 0 n K Z ∧ Mq S U ∧ gI U 13 18 = nI (num j) ∧ gI U 13 19 = nI (num (clb (aw n K) Z gx gk gy j))) 30 (fun d q hq => by
      obtain ⟨v, V⟩ := q
      obtain ⟨hd, hv, b1, b2, b3, b4, b5, b6⟩ := hq
      simp only at hv b1 b2 b3 b4 b5
      subst hv
      by_cases hd2 : c + 1 + d < cnt Z
      · obtain ⟨i, i1, i2, i3⟩ := kth hd2
        have hlj := b3 j j1 j2
        have hli := b3 i i1 i2
        rw [j3] at hlj
        rw [i3] at hli
        have hji : j < i := rank_inv i2 (by omega)
        obtain ⟨W, k1, k2, k3, k4⟩ := ew2_ok b1 hx hk hy j1 j2 i1 i2 (by omega)
        simp only [m_X6_cuts_L98]
        cases hcut : Clo (aw n K) (del (del Z j) i) gx gk gy
        · have hq : cq2 (aw n K) Z gx gk gy j i = true := by unfold cq2; rw [j2, i2, hcut]; rfl
          have hlf : clb (aw n K) Z gx gk gy j = i := lf_eq (by omega) (fun a ha => by
            by_cases haj : j < a
            · cases hza : fl Z a
              · rw [cq2_same (Or.inr hza), Bool.and_false]
              · have r1 := rank_lt haj j2
                have r2 := rank_lt ha hza
                rw [b6 a (by omega) hza (by omega) (by omega), Bool.and_false]
            · rw [decide_eq_false haj]; rfl) fun _ => by rw [hq, decide_eq_true hji]; rfl
          refine Or.inr ⟨.inr (nI 2, sI (sI W 13 18 (nI (num j))) 13 19 (nI (num i))), ?_, rfl, by omega, k2, (b2.tr k3).tr ((Mq.sI _ _ (by omega)).tr (Mq.sI _ _ (by omega))), ?_, ?_⟩
          · have g27 : ∀ b, gA (sI W 13 18 (nI (num j))) 27 b = gA V 27 b := fun b => k4.1 b
            simp (disch := omega) only [k_0, k_1, k_2, k_3, k_4, k_5, k_6, k_7, k_8, k_9, k_10, k_14, k_16, k_28, k_30, k_48, k_49, k_57, k_100, k_110, k_127, k_128, k_196, k_255, k_1000, k_1024, k_10000, nI_add, nI_mul, nI_div, irm_nI, nle, nlt, neq, gd_t, inb_nI, cl_nI, bnd_eq, gdT, gdo, gb0, gb1, gbi, bi0, bi1, bi0r, Option.bind_some, bndE_some, ite_t, ite_f, k_m9, k_m1, k_13, k_15, k_18, k_19, k_112, k_114, k_115, k_98, k_103, k_116, k_119, k_47, k_82, k_50, k_51, k_99, k_700, k_197, ne9, ne9s, nI_ne0s, ↓reduceIte, hlj, hli, k1, hcut, k4.1, g27]
          · rw [gI_sI, if_pos rfl, if_neg (by omega), gI_sI, if_pos rfl, if_pos rfl]
          · rw [gI_sI, if_pos rfl, if_pos rfl, hlf]
        · refine Or.inl ⟨by omega, ?_⟩
          simp (disch := omega) only [k_0, k_1, k_2, k_3, k_4, k_5, k_6, k_7, k_8, k_9, k_10, k_14, k_16, k_28, k_30, k_48, k_49, k_57, k_100, k_110, k_127, k_128, k_196, k_255, k_1000, k_1024, k_10000, nI_add, nI_mul, nI_div, irm_nI, nle, nlt, neq, gd_t, inb_nI, cl_nI, bnd_eq, gdT, gdo, gb0, gb1, gbi, bi0, bi1, bi0r, Option.bind_some, bndE_some, ite_t, ite_f, k_m9, k_m1, k_13, k_15, k_18, k_19, k_112, k_114, k_115, k_98, k_103, k_116, k_119, k_47, k_82, k_50, k_51, k_99, k_700, k_197, ne9, ne9s, nI_ne0s, ↓reduceIte, hlj, hli, k1, hcut, Bool.true_eq_false]
          refine ⟨_, rfl, by omega, rfl, k2, b2.tr k3, b3.keep k4, k4.2.1.trans b4, k4.2.2.trans b5, fun a ha hza h1 h2 => ?_⟩
          by_cases hac : fb_ct (fl Z) a = c + 1 + d
          · obtain rfl := rank_eq hza i2 (hac.trans i3.symm)
            unfold cq2
            rw [hcut, Bool.not_true, Bool.and_false, Bool.and_false]
          · exact b6 a ha hza h1 (by omega)
      · have hde : c + 1 + d = cnt Z := by omega
        refine Or.inr ⟨.inl V, ?_, lf_eq (Nat.le_refl _) (fun a ha => ?_) (fun q => absurd q (Nat.lt_irrefl _)), b1, b2, b3, b4, b5⟩
        · simp only [m_X6_cuts_L98]
          rw [hde]
          simp (disch := omega) only [k_0, k_1, k_2, k_3, k_4, k_5, k_6, k_7, k_8, k_9, k_10, k_14, k_16, k_28, k_30, k_48, k_49, k_57, k_100, k_110, k_127, k_128, k_196, k_255, k_1000, k_1024, k_10000, nI_add, nI_mul, nI_div, irm_nI, nle, nlt, neq, gd_t, inb_nI, cl_nI, bnd_eq, gdT, gdo, gb0, gb1, gbi, bi0, bi1, bi0r, Option.bind_some, bndE_some, ite_t, ite_f, k_m9, k_m1, k_13, k_15, k_18, k_19, k_112, k_114, k_115, k_98, k_103, k_116, k_119, k_47, k_82, k_50, k_51, k_99, k_700, k_197, ne9, ne9s, nI_ne0s, ↓reduceIte]
        · by_cases haj : j < a
          · cases hza : fl Z a
            · rw [cq2_same (Or.inr hza), Bool.and_false]
            · have r1 := rank_lt haj j2
              have r2 := rank_top ha hza
              rw [b6 a ha hza (by omega) (by omega), Bool.and_false]
          · rw [decide_eq_false haj]; rfl) (x := (nI (c + 1), U)) ⟨by omega, rfl, a1, a2, a3, a4, a5, fun i _ _ _ _ => by omega⟩
    simp only [m_X6_cuts_L85]
    rcases r with V | ⟨v, V⟩
    · obtain ⟨b0, b1, b2, b3, b4, b5⟩ := k2
      refine Or.inl ⟨by omega, (nI (c + 1), V), ?_, by omega, rfl, b1, b2, b3, b4, b5, fun i hi hzi hr => ?_⟩
      · simp (disch := omega) only [k_0, k_1, k_2, k_3, k_4, k_5, k_6, k_7, k_8, k_9, k_10, k_14, k_16, k_28, k_30, k_48, k_49, k_57, k_100, k_110, k_127, k_128, k_196, k_255, k_1000, k_1024, k_10000, nI_add, nI_mul, nI_div, irm_nI, nle, nlt, neq, gd_t, inb_nI, cl_nI, bnd_eq, gdT, gdo, gb0, gb1, gbi, bi0, bi1, bi0r, Option.bind_some, bndE_some, ite_t, ite_f, k_m9, k_m1, k_13, k_15, k_18, k_19, k_112, k_114, k_115, k_98, k_103, k_116, k_119, k_47, k_82, k_50, k_51, k_99, k_700, k_197, ne9, ne9s, nI_ne0s, ↓reduceIte]
        rw [k1]
        rfl
      · by_cases hic : fb_ct (fl Z) i = c
        · obtain rfl := rank_eq hzi j2 (hic.trans j3.symm)
          exact b0
        · exact a6 i hi hzi (by omega)
    · obtain ⟨b0, b1, b2, b3, b4, b5⟩ := k2
      subst b0
      have hlf : cla (aw n K) Z gx gk gy = j := lf_eq (by omega) (fun a ha => by
        cases hza : fl Z a
        · rw [hno a hza]; rfl
        · rw [a6 a (by omega) hza (by rw [← j3]; exact rank_lt ha hza)]; rfl) fun _ => decide_eq_true b1
      refine Or.inr ⟨.inr (nI 2, V), ?_, rfl, by omega, b2, b3, by rw [hlf]; exact b4, by rw [hlf]; exact b5⟩
      simp (disch := omega) only [k_0, k_1, k_2, k_3, k_4, k_5, k_6, k_7, k_8, k_9, k_10, k_14, k_16, k_28, k_30, k_48, k_49, k_57, k_100, k_110, k_127, k_128, k_196, k_255, k_1000, k_1024, k_10000, nI_add, nI_mul, nI_div, irm_nI, nle, nlt, neq, gd_t, inb_nI, cl_nI, bnd_eq, gdT, gdo, gb0, gb1, gbi, bi0, bi1, bi0r, Option.bind_some, bndE_some, ite_t, ite_f, k_m9, k_m1, k_13, k_15, k_18, k_19, k_112, k_114, k_115, k_98, k_103, k_116, k_119, k_47, k_82, k_50, k_51, k_99, k_700, k_197, ne9, ne9s, nI_ne0s, ↓reduceIte]
      rw [k1]
      rfl
  · obtain rfl : c = cnt Z := by omega
    refine Or.inr ⟨.inl U, ?_, lf_eq (Nat.le_refl _) (fun i hi => ?_) (fun q => absurd q (Nat.lt_irrefl _)), a1, a2, a4, a5⟩
    · simp only [m_X6_cuts_L85]
      simp (disch := omega) only [k_0, k_1, k_2, k_3, k_4, k_5, k_6, k_7, k_8, k_9, k_10, k_14, k_16, k_28, k_30, k_48, k_49, k_57, k_100, k_110, k_127, k_128, k_196, k_255, k_1000, k_1024, k_10000, nI_add, nI_mul, nI_div, irm_nI, nle, nlt, neq, gd_t, inb_nI, cl_nI, bnd_eq, gdT, gdo, gb0, gb1, gbi, bi0, bi1, bi0r, Option.bind_some, bndE_some, ite_t, ite_f, k_m9, k_m1, k_13, k_15, k_18, k_19, k_112, k_114, k_115, k_98, k_103, k_116, k_119, k_47, k_82, k_50, k_51, k_99, k_700, k_197, ne9, ne9s, nI_ne0s, ↓reduceIte]
    · cases hzi : fl Z i
      · rw [hno i hzi]; rfl
      · rw [a6 i hi hzi (rank_top hi hzi)]; rfl
theorem cuts_ok (h : RepM S 14 0 n K Z) (h30 : cnt Z ≤ 30) {gx gk gy : Nat} (hx : gx < 7) (hk : gk < 4) (hy : gy < 7) : ∃ S', m_X6_cuts (nI gx) (nI gk) (nI gy) S = some (cutv (aw n K) Z gx gk gy, S') ∧ RepM S' 14 0 n K Z ∧ Mq S S' ∧ gI S' 13 18 = cut0 (aw n K) Z gx gk gy ∧ gI S' 13 19 = cut1 (aw n K) Z gx gk gy := by
  have h0 : RepM (sI (sI S 13 18 m9) 13 19 m9) 14 0 n K Z := h.keep fun _ => rfl
  have q0 : Mq S (sI (sI S 13 18 m9) 13 19 m9) := (Mq.sI _ _ (by omega)).tr (Mq.sI _ _ (by omega))
  have e18 : gI (sI (sI S 13 18 m9) 13 19 m9) 13 18 = m9 := by rw [gI_sI, if_pos rfl, if_neg (by omega), gI_sI, if_pos rfl, if_pos rfl]
  have e19 : gI (sI (sI S 13 18 m9) 13 19 m9) 13 19 = m9 := by rw [gI_sI, if_pos rfl, if_pos rfl]
  generalize hS0 : sI (sI S 13 18 m9) 13 19 m9 = S0 at *
  obtain ⟨w, S1, h1, h2, h3, h4, h5, h6⟩ := mspread_ends h0 hx hk hy
  have a1 : m_X6_endsWithout (nI gx) (nI gk) (nI gy) m9 m9 S0 = some (bi (Clo (aw n K) Z gx gk gy), S1) := by
    unfold m_X6_endsWithout m_X6_endsWithout_J14 m_X6_endsWithout_J28 m_X6_endsWithout_J59 m_X6_endsWithout_J73
    simp (disch := omega) only [k_0, k_1, k_2, k_3, k_4, k_5, k_6, k_7, k_8, k_9, k_10, k_14, k_16, k_28, k_30, k_48, k_49, k_57, k_100, k_110, k_127, k_128, k_196, k_255, k_1000, k_1024, k_10000, nI_add, nI_mul, nI_div, irm_nI, nle, nlt, neq, gd_t, inb_nI, cl_nI, bnd_eq, gdT, gdo, gb0, gb1, gbi, bi0, bi1, bi0r, Option.bind_some, bndE_some, ite_t, ite_f, k_m9, k_m1, k_13, k_15, k_18, k_19, k_112, k_114, k_115, k_98, k_103, k_116, k_119, k_47, k_82, k_50, k_51, k_99, k_700, k_197, ne9, ne9s, nI_ne0s, ↓reduceIte, h1, h2, h3]
  have hstart : m_X6_cuts (nI gx) (nI gk) (nI gy) S = bndE (m_X6_endsWithout (nI gx) (nI gk) (nI gy) m9 m9 S0) fun r20 S20 => (if r20 = nI 0 then (some ((nI 0, S20))) else (bndE (m_X6_listRights  S20) fun r29 S29 => ((loopO (fun x => m_X6_cuts_L37 (nI gx) (nI gk) (nI gy) r29 x.1 x.2) ((nI 0, S29))).bind fun e37 => Sum.elim (fun y37 => (loopO (fun x => m_X6_cuts_L85 (nI gx) (nI gk) (nI gy) r29 x.1 x.2) ((nI 0, y37))).bind fun e85 => Sum.elim (fun y85 => some ((m9, y85))) (fun q => some q) e85) (fun q => some q) e37))) := by
    subst hS0
    rfl
  rw [hstart, a1, bndE_some]
  unfold cutv cut0 cut1
  cases hq : Clo (aw n K) Z gx gk gy
  · exact ⟨S1, by rw [if_pos (show bi false = nI 0 from rfl)]; rfl, h4, q0.tr h5, by rw [h6.2.1, e18]; rfl, by rw [h6.2.2, e19]; rfl⟩
  · rw [if_neg (by decide), if_pos rfl, if_pos rfl, if_pos rfl]
    obtain ⟨S2, b1, b2, b3⟩ := listRights_ok h4 h30
    have hM2 : RepM S2 14 0 n K Z := h4.keep fun j => b2.2.1 _ _ (by omega)
    have q2 := (q0.tr h5).tr (Mq.ofA b2 (by omega))
    have f18 : gI S2 13 18 = m9 := by rw [b2.1, h6.2.1, e18]
    have f19 : gI S2 13 19 = m9 := by rw [b2.1, h6.2.2, e19]
    obtain ⟨r, c1, c2⟩ := cuts1_ok hM2 h30 b3 hx hk hy
    rw [b1, bndE_some, c1, Option.bind_some]
    rcases r with U | ⟨v, U⟩
    · obtain ⟨d1, d2, d3, d4, d5, d6⟩ := c2
      rw [d1, if_neg (Nat.lt_irrefl _), if_neg (Nat.lt_irrefl _), if_neg (Nat.lt_irrefl _)]
      obtain ⟨r2, g1, g2⟩ := cuts2_ok d2 h30 d4 hx hk hy
      show ∃ S', (loopO (fun x => m_X6_cuts_L85 (nI gx) (nI gk) (nI gy) (nI (cnt Z)) x.1 x.2) (nI 0, U)).bind (fun e85 => Sum.elim (fun y85 => some (m9, y85)) (fun q => some q) e85) = _ ∧ _
      rw [g1, Option.bind_some]
      rcases r2 with V | ⟨v2, V⟩
      · obtain ⟨k1, k2, k3, k4, k5⟩ := g2
        rw [k1, if_neg (Nat.lt_irrefl _), if_neg (Nat.lt_irrefl _), if_neg (Nat.lt_irrefl _)]
        exact ⟨V, rfl, k2, (q2.tr d3).tr k3, by rw [k4, d5, f18], by rw [k5, d6, f19]⟩
      · obtain ⟨k0, k1, k2, k3, k4, k5⟩ := g2
        subst k0
        rw [if_pos k1, if_pos k1, if_pos k1]
        exact ⟨V, rfl, k2, (q2.tr d3).tr k3, k4, k5⟩
    · obtain ⟨d0, d1, d2, d3, d4, d5⟩ := c2
      subst d0
      rw [if_pos d1, if_pos d1, if_pos d1]
      exact ⟨U, rfl, d2, q2.tr d3, d4, by rw [d5, f19]⟩
