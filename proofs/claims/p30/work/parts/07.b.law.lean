def m_L_law_J47 (L : Nat) (xs : Nat → Int32) (S : Hs) : Option (Int32 × Hs) := some ((0, S))
def m_L_law_J83 (L : Nat) (xs : Nat → Int32) (S : Hs) : Option (Int32 × Hs) := some ((0, S))
def m_L_law_J167 (L : Nat) (xs : Nat → Int32) (S : Hs) : Option ((Int32 × Hs) ⊕ (Hs ⊕ (Int32 × Hs))) := some (.inr (.inr ((0, S))))
noncomputable def m_L_law_L87 (L : Nat) (xs : Nat → Int32) (v2 : Int32) (v3 : Int32) (S : Hs) : Option ((Int32 × Hs) ⊕ (Hs ⊕ (Int32 × Hs))) := if 4 ≤ v3 then (some (.inr (.inl S))) else ((m_L_cell L xs (20 + v3) S).bind fun r97 => ((m_L_low r97 v2).bind fun r105 => ((m_L_low (r97 >>> (4 &&& 31)) (v2 - 1)).bind fun r121 => (gd (decide (¬ v2 = 0)) (bnd (irm ((r105 + 1) + r121) v2) fun v6_127 => ((m_L_low (r97 >>> (8 &&& 31)) 4).bind fun r135 => (bndE (m_L_needed v2 r105 r135 v6_127 S) fun r148 S148 => (if r148 = 0 then (m_L_law_J167 L xs S148) else (bndE (m_L_cut r105 r135 v6_127 S148) fun r161 S161 => (if r161 = 0 then (m_L_law_J167 L xs S161) else (some (.inl ((v3 + 1, S161))))))))))))))
def m_L_law_J358 (L : Nat) (xs : Nat → Int32) (w0 : Int32) (S : Hs) : Option (Int32 × Hs) := gd (decide (w0 = 0 ∨ w0 = 1)) (some ((w0, S)))
def m_L_law_J357 (L : Nat) (xs : Nat → Int32) (S : Hs) : Option (Int32 × Hs) := m_L_law_J358 L xs 0 S
noncomputable def m_L_law_J329 (L : Nat) (xs : Nat → Int32) (v2 : Int32) (v3 : Int32) (w0 : Int32) (S : Hs) : Option (Int32 × Hs) := if w0 = 0 then (m_L_law_J357 L xs S) else (bndX (m_X5_about 4 S) (fun r338 S338 => (if r338 = v3 then (bndE (m_L_spread v2 S338) fun r347 S347 => (if r347 = 0 then (m_L_law_J357 L xs S347) else (m_L_law_J358 L xs 1 S347))) else (m_L_law_J357 L xs S338))) (fun q S338 => none))
noncomputable def m_L_law_J328 (L : Nat) (xs : Nat → Int32) (v2 : Int32) (v3 : Int32) (S : Hs) : Option (Int32 × Hs) := m_L_law_J329 L xs v2 v3 0 S
noncomputable def m_L_law_J324 (L : Nat) (xs : Nat → Int32) (v2 : Int32) (v3 : Int32) (S : Hs) : Option (Int32 × Hs) := m_L_law_J329 L xs v2 v3 1 S
noncomputable def m_L_law_J270 (L : Nat) (xs : Nat → Int32) (v2 : Int32) (v3 : Int32) (v5 : Int32) (w0 : Int32) (S : Hs) : Option (Int32 × Hs) := if w0 = 0 then (m_L_law_J328 L xs v2 v3 S) else (if v5 = ((-9)) then (bndX (m_X5_about 2 S) (fun r286 S286 => (if r286 = 0 then (m_L_law_J324 L xs v2 v3 S286) else (m_L_law_J328 L xs v2 v3 S286))) (fun q S286 => none)) else (bndX (m_X5_thing v5 1 S) (fun r299 S299 => (if r299 = 1 then (bndX (m_X5_wake v5 0 S299) (fun r310 S310 => (if v3 < r310 then (m_L_law_J328 L xs v2 v3 S310) else (bndX (m_X5_undo  S310) (fun r318 S318 => (if r318 < 0 then (m_L_law_J328 L xs v2 v3 S318) else (m_L_law_J324 L xs v2 v3 S318))) (fun q S318 => none)))) (fun q S310 => none)) else (m_L_law_J328 L xs v2 v3 S299))) (fun q S299 => none)))
noncomputable def m_L_law_J269 (L : Nat) (xs : Nat → Int32) (v2 : Int32) (v3 : Int32) (v5 : Int32) (S : Hs) : Option (Int32 × Hs) := m_L_law_J270 L xs v2 v3 v5 0 S
noncomputable def m_L_law (L : Nat) (xs : Nat → Int32) (S : Hs) : Option (Int32 × Hs) := (m_L_cell L xs 0 S).bind fun r11 => ((m_L_low r11 5).bind fun r15 => (bnd (2 + r15) fun v2_19 => (bndE (m_X5_sleeper  S) fun r21 S21 => (if r21 = ((-9)) then (bndE (m_X5_danger  S21) fun r30 S30 => (if r30 = ((-9)) then (bndE (m_L_build L xs v2_19 S30) fun r41 S41 => (if r41 = 0 then (m_L_law_J47 L xs S41) else (bndE (m_L_isClosed v2_19 S41) fun r51 S51 => (if r51 = 0 then (m_L_law_J83 L xs S51) else (bndE (m_L_spread v2_19 S51) fun r59 S59 => (if r59 = 0 then (m_L_law_J83 L xs S59) else (bndE (m_L_learning v2_19 0 S59) fun r68 S68 => (if r68 = 0 then (m_L_law_J83 L xs S68) else (bndE (m_L_learning v2_19 1 S68) fun r77 S77 => (if r77 = 0 then (m_L_law_J83 L xs S77) else ((loopO (fun x => m_L_law_L87 L xs v2_19 x.1 x.2) ((0, S77))).bind fun e87 => Sum.elim (fun y87 => bndX (m_X5_about 4 y87) (fun r177 S177 => (bndE (m_X5_danger  S177) fun r182 S182 => (bndE (m_X5_sleeper  S182) fun r188 S188 => (if r182 = ((-9)) then (bndX (m_X5_about 3 S188) (fun r202 S202 => (if r202 = ((4 * v2_19) * (v2_19 - 1)) then (m_L_law_J270 L xs v2_19 r177 r188 1 S202) else (m_L_law_J270 L xs v2_19 r177 r188 0 S202))) (fun q S202 => none)) else (bndX (m_X5_set (r182 / 100) (irm (r182 / 10) 10) (irm r182 10) 1 S188) (fun r243 S243 => (if r243 = 0 then (bndX (m_X5_about 4 S243) (fun r251 S251 => (if r251 < r177 then (m_L_law_J269 L xs v2_19 r177 r188 S251) else (bndX (m_X5_undo  S251) (fun r259 S259 => (if r259 < 0 then (m_L_law_J269 L xs v2_19 r177 r188 S259) else (m_L_law_J270 L xs v2_19 r177 r188 1 S259))) (fun q S259 => none)))) (fun q S251 => none)) else (m_L_law_J269 L xs v2_19 r177 r188 S243))) (fun q S243 => none)))))) (fun q S177 => none)) (fun q => some q) e87))))))))))) else (m_L_law_J47 L xs S30))) else (m_L_law_J47 L xs S21)))))
set_option maxRecDepth 100000 in
set_option maxHeartbeats 40000000 in
theorem law_body {p : Program} {l : Launch} {e : Env} {s : State} {m : MethodId} {args : Array Value} {below : List Frame} {meth : Method} {c : Code} {g : GG} {A : Nat → Prop} {Q : State → Prop} {cc0 ss0 : Nat} {ret0 : Option FieldType} (hg : Inj g) (F : Fx p s m meth c cL_law RL 8 ret0 g A) (L : Nat) (xs : Nat → Int32) (hLx : g.2.2.2 = (L, xs)) (hcc : cc0 ≤ room_1.cells ∧ ss0 ≤ room_1.slots) (hret : ∀ (pc : Nat) (lv : List (Nat × Value)) (S : Hs), decode cL_law pc = .ok (.ireturn, 1) → J p l e room_1 s m args below meth c g A 8 Q cc0 ss0 pc lv [.int 1] S) (S S' : Hs) (hm : m_L_law L xs S = some (1, S')) : J p l e room_1 s m args below meth c g A 8 Q cc0 ss0 8 [(0, .ref (g.2.1 100)), (1, .ref (g.2.1 0))] [] S := by
  unfold m_L_law at hm
  have hj47 : ∀ (S : Hs), m_L_law_J47 L xs S = some ((1, S')) → J p l e room_1 s m args below meth c g A 8 Q cc0 ss0 47 [] [] S := by
    intro S hm
    unfold m_L_law_J47 at hm
    refine j_iconst F (v := 0) dL_law_47 (by decide) ?_
    have hv : (0 : Int32) = (1 : Int32) := congrArg Prod.fst (Option.some.inj hm)
    exact absurd hv (by decide)
  have hj83 : ∀ (S : Hs), m_L_law_J83 L xs S = some ((1, S')) → J p l e room_1 s m args below meth c g A 8 Q cc0 ss0 83 [] [] S := by
    intro S hm
    unfold m_L_law_J83 at hm
    refine j_iconst F (v := 0) dL_law_83 (by decide) ?_
    have hv : (0 : Int32) = (1 : Int32) := congrArg Prod.fst (Option.some.inj hm)
    exact absurd hv (by decide)
  have hj358 : ∀ (w0 : Int32) (S : Hs), m_L_law_J358 L xs w0 S = some ((1, S')) → J p l e room_1 s m args below meth c g A 8 Q cc0 ss0 358 [] [.int w0] S := by
    intro w0 S hm
    unfold m_L_law_J358 at hm
    obtain ⟨hb, hm⟩ := gd_ok hm
    have hv : w0 = (1 : Int32) := congrArg Prod.fst (Option.some.inj hm)
    subst hv
    exact hret _ _ _ dL_law_358
  have hj357 : ∀ (S : Hs), m_L_law_J357 L xs S = some ((1, S')) → J p l e room_1 s m args below meth c g A 8 Q cc0 ss0 357 [] [] S := by
    intro S hm
    unfold m_L_law_J357 at hm
    refine j_iconst F (v := 0) dL_law_357 (by decide) ?_
    refine j_sub [] rfl ?_
    exact hj358 0 S  hm
  have hj329 : ∀ (v2 : Int32) (v3 : Int32) (w0 : Int32) (S : Hs), m_L_law_J329 L xs v2 v3 w0 S = some ((1, S')) → J p l e room_1 s m args below meth c g A 8 Q cc0 ss0 329 [(1, .ref (g.2.1 0)), (2, .int v2), (3, .int v3)] [.int w0] S := by
    intro v2 v3 w0 S hm
    unfold m_L_law_J329 at hm
    refine j_istore F (lv' := [(6, .int w0), (1, .ref (g.2.1 0)), (2, .int v2), (3, .int v3)]) dL_law_329 (by decide) rfl ?_
    refine j_iload F 0 dL_law_331 rfl ?_
    refine j_if_eq F (tgt := 357) dL_law_333 (by decide) hm (fun _ hm => ?_) (fun _ hm => ?_)
    · refine j_sub [] rfl ?_
      exact hj357 S  hm
    · refine j_aload_n F 1 dL_law_336 rfl ?_
      refine j_iconst F (v := 4) dL_law_337 (by decide) ?_
      refine bndX_ok hm (fun r338 S338 hc338 hm => ?_) (fun q S338 hc338 hm => ?_)
      · refine j_callV F (n := 1) (As := [.int 4]) (rest := []) (c_X5_about l g hg 4 S r338 S338 hc338) gw_L_58 (by decide +kernel) ⟨Nat.le_of_ble_eq_true rfl, Nat.le_of_ble_eq_true rfl⟩ ⟨hcc.1, hcc.2⟩ lay_0 rfl rfl rfl (Nat.le_of_ble_eq_true rfl) dL_law_338 ?_
        show J p l e room_1 s m args below meth c g A 8 Q cc0 ss0 341 [(6, .int w0), (1, .ref (g.2.1 0)), (2, .int v2), (3, .int v3)] [.int r338] S338
        refine j_iload_n F 3 dL_law_341 rfl ?_
        refine j_icmp_ne F (tgt := 357) dL_law_342 (by decide) hm (fun _ hm => ?_) (fun _ hm => ?_)
        · refine j_sub [] rfl ?_
          exact hj357 S338  hm
        · refine j_aload_n F 1 dL_law_345 rfl ?_
          refine j_iload_n F 2 dL_law_346 rfl ?_
          obtain ⟨r347, S347, hc347, hm⟩ := bndE_ok hm
          refine j_callS F (n := 2) (As := [.ref (g.2.1 0), .int v2]) (rest := []) (c_L_spread l g hg v2 S338 r347 S347 hc347) gw_L_95 (by decide +kernel) ⟨Nat.le_of_ble_eq_true rfl, Nat.le_of_ble_eq_true rfl⟩ ⟨hcc.1, hcc.2⟩ rfl rfl (Nat.le_of_ble_eq_true rfl) dL_law_347 ?_
          show J p l e room_1 s m args below meth c g A 8 Q cc0 ss0 350 [(6, .int w0), (1, .ref (g.2.1 0)), (2, .int v2), (3, .int v3)] [.int r347] S347
          refine j_if_eq F (tgt := 357) dL_law_350 (by decide) hm (fun _ hm => ?_) (fun _ hm => ?_)
          · refine j_sub [] rfl ?_
            exact hj357 S347  hm
          · refine j_iconst F (v := 1) dL_law_353 (by decide) ?_
            refine j_goto F (tgt := 358) dL_law_354 (by decide) ?_
            refine j_sub [] rfl ?_
            exact hj358 1 S347  hm
      · cases hm
  have hj328 : ∀ (v2 : Int32) (v3 : Int32) (S : Hs), m_L_law_J328 L xs v2 v3 S = some ((1, S')) → J p l e room_1 s m args below meth c g A 8 Q cc0 ss0 328 [(1, .ref (g.2.1 0)), (2, .int v2), (3, .int v3)] [] S := by
    intro v2 v3 S hm
    unfold m_L_law_J328 at hm
    refine j_iconst F (v := 0) dL_law_328 (by decide) ?_
    refine j_sub [0, 1, 2] rfl ?_
    exact hj329 v2 v3 0 S  hm
  have hj324 : ∀ (v2 : Int32) (v3 : Int32) (S : Hs), m_L_law_J324 L xs v2 v3 S = some ((1, S')) → J p l e room_1 s m args below meth c g A 8 Q cc0 ss0 324 [(1, .ref (g.2.1 0)), (2, .int v2), (3, .int v3)] [] S := by
    intro v2 v3 S hm
    unfold m_L_law_J324 at hm
    refine j_iconst F (v := 1) dL_law_324 (by decide) ?_
    refine j_goto F (tgt := 329) dL_law_325 (by decide) ?_
    refine j_sub [0, 1, 2] rfl ?_
    exact hj329 v2 v3 1 S  hm
  have hj270 : ∀ (v2 : Int32) (v3 : Int32) (v5 : Int32) (w0 : Int32) (S : Hs), m_L_law_J270 L xs v2 v3 v5 w0 S = some ((1, S')) → J p l e room_1 s m args below meth c g A 8 Q cc0 ss0 270 [(1, .ref (g.2.1 0)), (2, .int v2), (3, .int v3), (5, .int v5)] [.int w0] S := by
    intro v2 v3 v5 w0 S hm
    unfold m_L_law_J270 at hm
    refine j_istore F (lv' := [(6, .int w0), (1, .ref (g.2.1 0)), (2, .int v2), (3, .int v3), (5, .int v5)]) dL_law_270 (by decide) rfl ?_
    refine j_iload F 0 dL_law_272 rfl ?_
    refine j_if_eq F (tgt := 328) dL_law_274 (by decide) hm (fun _ hm => ?_) (fun _ hm => ?_)
    · refine j_sub [1, 2, 3] rfl ?_
      exact hj328 v2 v3 S  hm
    · refine j_iload F 4 dL_law_277 rfl ?_
      refine j_bipush F (v := -9) dL_law_279 (by decide) ?_
      refine j_icmp_ne F (tgt := 295) dL_law_281 (by decide) hm (fun _ hm => ?_) (fun _ hm => ?_)
      · refine j_aload_n F 1 dL_law_295 rfl ?_
        refine j_iload F 4 dL_law_296 rfl ?_
        refine j_iconst F (v := 1) dL_law_298 (by decide) ?_
        refine bndX_ok hm (fun r299 S299 hc299 hm => ?_) (fun q S299 hc299 hm => ?_)
        · refine j_callV F (n := 2) (As := [.int v5, .int 1]) (rest := []) (c_X5_thing l g hg v5 1 S r299 S299 hc299) gw_L_26 (by decide +kernel) ⟨Nat.le_of_ble_eq_true rfl, Nat.le_of_ble_eq_true rfl⟩ ⟨hcc.1, hcc.2⟩ lay_0 rfl rfl rfl (Nat.le_of_ble_eq_true rfl) dL_law_299 ?_
          show J p l e room_1 s m args below meth c g A 8 Q cc0 ss0 302 [(6, .int w0), (1, .ref (g.2.1 0)), (2, .int v2), (3, .int v3), (5, .int v5)] [.int r299] S299
          refine j_iconst F (v := 1) dL_law_302 (by decide) ?_
          refine j_icmp_ne F (tgt := 328) dL_law_303 (by decide) hm (fun _ hm => ?_) (fun _ hm => ?_)
          · refine j_sub [1, 2, 3] rfl ?_
            exact hj328 v2 v3 S299  hm
          · refine j_aload_n F 1 dL_law_306 rfl ?_
            refine j_iload F 4 dL_law_307 rfl ?_
            refine j_iconst F (v := 0) dL_law_309 (by decide) ?_
            refine bndX_ok hm (fun r310 S310 hc310 hm => ?_) (fun q S310 hc310 hm => ?_)
            · refine j_callV F (n := 2) (As := [.int v5, .int 0]) (rest := []) (c_X5_wake l g hg v5 0 S299 r310 S310 hc310) gw_L_29 (by decide +kernel) ⟨Nat.le_of_ble_eq_true rfl, Nat.le_of_ble_eq_true rfl⟩ ⟨hcc.1, hcc.2⟩ lay_0 rfl rfl rfl (Nat.le_of_ble_eq_true rfl) dL_law_310 ?_
              show J p l e room_1 s m args below meth c g A 8 Q cc0 ss0 313 [(6, .int w0), (1, .ref (g.2.1 0)), (2, .int v2), (3, .int v3), (5, .int v5)] [.int r310] S310
              refine j_iload_n F 3 dL_law_313 rfl ?_
              refine j_icmp_gt F (tgt := 328) dL_law_314 (by decide) hm (fun _ hm => ?_) (fun _ hm => ?_)
              · refine j_sub [1, 2, 3] rfl ?_
                exact hj328 v2 v3 S310  hm
              · refine j_aload_n F 1 dL_law_317 rfl ?_
                refine bndX_ok hm (fun r318 S318 hc318 hm => ?_) (fun q S318 hc318 hm => ?_)
                · refine j_callV F (n := 0) (As := []) (rest := []) (c_X5_undo l g hg S310 r318 S318 hc318) gw_L_69 (by decide +kernel) ⟨Nat.le_of_ble_eq_true rfl, Nat.le_of_ble_eq_true rfl⟩ ⟨hcc.1, hcc.2⟩ lay_0 rfl rfl rfl (Nat.le_of_ble_eq_true rfl) dL_law_318 ?_
                  show J p l e room_1 s m args below meth c g A 8 Q cc0 ss0 321 [(6, .int w0), (1, .ref (g.2.1 0)), (2, .int v2), (3, .int v3), (5, .int v5)] [.int r318] S318
                  refine j_if_lt F (tgt := 328) dL_law_321 (by decide) hm (fun _ hm => ?_) (fun _ hm => ?_)
                  · refine j_sub [1, 2, 3] rfl ?_
                    exact hj328 v2 v3 S318  hm
                  · refine j_sub [1, 2, 3] rfl ?_
                    exact hj324 v2 v3 S318  hm
                · cases hm
            · cases hm
        · cases hm
      · refine j_aload_n F 1 dL_law_284 rfl ?_
        refine j_iconst F (v := 2) dL_law_285 (by decide) ?_
        refine bndX_ok hm (fun r286 S286 hc286 hm => ?_) (fun q S286 hc286 hm => ?_)
        · refine j_callV F (n := 1) (As := [.int 2]) (rest := []) (c_X5_about l g hg 2 S r286 S286 hc286) gw_L_58 (by decide +kernel) ⟨Nat.le_of_ble_eq_true rfl, Nat.le_of_ble_eq_true rfl⟩ ⟨hcc.1, hcc.2⟩ lay_0 rfl rfl rfl (Nat.le_of_ble_eq_true rfl) dL_law_286 ?_
          show J p l e room_1 s m args below meth c g A 8 Q cc0 ss0 289 [(6, .int w0), (1, .ref (g.2.1 0)), (2, .int v2), (3, .int v3), (5, .int v5)] [.int r286] S286
          refine j_if_ne F (tgt := 328) dL_law_289 (by decide) hm (fun _ hm => ?_) (fun _ hm => ?_)
          · refine j_sub [1, 2, 3] rfl ?_
            exact hj328 v2 v3 S286  hm
          · refine j_goto F (tgt := 324) dL_law_292 (by decide) ?_
            refine j_sub [1, 2, 3] rfl ?_
            exact hj324 v2 v3 S286  hm
        · cases hm
  have hj269 : ∀ (v2 : Int32) (v3 : Int32) (v5 : Int32) (S : Hs), m_L_law_J269 L xs v2 v3 v5 S = some ((1, S')) → J p l e room_1 s m args below meth c g A 8 Q cc0 ss0 269 [(1, .ref (g.2.1 0)), (2, .int v2), (3, .int v3), (5, .int v5)] [] S := by
    intro v2 v3 v5 S hm
    unfold m_L_law_J269 at hm
    refine j_iconst F (v := 0) dL_law_269 (by decide) ?_
    refine j_sub [0, 1, 2, 3] rfl ?_
    exact hj270 v2 v3 v5 0 S  hm
  refine j_iconst F (v := 2) dL_law_8 (by decide) ?_
  refine j_aload_n F 0 dL_law_9 rfl ?_
  refine j_iconst F (v := 0) dL_law_10 (by decide) ?_
  obtain ⟨r11, hc11, hm⟩ := Option.bind_eq_some_iff.mp hm
  refine j_callS F (n := 2) (As := [.ref (g.2.1 100), .int 0]) (rest := [.int 2]) (c_L_cell l g hg L xs hLx 0 S r11 hc11) gw_L_10 (by decide +kernel) ⟨Nat.le_of_ble_eq_true rfl, Nat.le_of_ble_eq_true rfl⟩ ⟨hcc.1, hcc.2⟩ rfl rfl (Nat.le_of_ble_eq_true rfl) dL_law_11 ?_
  show J p l e room_1 s m args below meth c g A 8 Q cc0 ss0 14 [(0, .ref (g.2.1 100)), (1, .ref (g.2.1 0))] [.int r11, .int 2] S
  refine j_iconst F (v := 5) dL_law_14 (by decide) ?_
  obtain ⟨r15, hc15, hm⟩ := Option.bind_eq_some_iff.mp hm
  refine j_callS F (n := 2) (As := [.int r11, .int 5]) (rest := [.int 2]) (c_L_low l g hg r11 5 S r15 hc15) gw_L_16 (by decide +kernel) ⟨Nat.le_of_ble_eq_true rfl, Nat.le_of_ble_eq_true rfl⟩ ⟨hcc.1, hcc.2⟩ rfl rfl (Nat.le_of_ble_eq_true rfl) dL_law_15 ?_
  show J p l e room_1 s m args below meth c g A 8 Q cc0 ss0 18 [(0, .ref (g.2.1 100)), (1, .ref (g.2.1 0))] [.int r15, .int 2] S
  refine j_iadd F dL_law_18 ?_
  refine j_bnd hm (fun v2_19 hm => ?_)
  refine j_istore_n F (lv' := [(2, .int v2_19), (0, .ref (g.2.1 100)), (1, .ref (g.2.1 0))]) dL_law_19 (by decide) rfl ?_
  refine j_aload_n F 2 dL_law_20 rfl ?_
  obtain ⟨r21, S21, hc21, hm⟩ := bndE_ok hm
  refine j_callV F (n := 0) (As := []) (rest := []) (c_X5_sleeper l g hg S r21 S21 hc21) gw_L_81 (by decide +kernel) ⟨Nat.le_of_ble_eq_true rfl, Nat.le_of_ble_eq_true rfl⟩ ⟨hcc.1, hcc.2⟩ lay_0 rfl rfl rfl (Nat.le_of_ble_eq_true rfl) dL_law_21 ?_
  show J p l e room_1 s m args below meth c g A 8 Q cc0 ss0 24 [(2, .int v2_19), (0, .ref (g.2.1 100)), (1, .ref (g.2.1 0))] [.int r21] S21
  refine j_bipush F (v := -9) dL_law_24 (by decide) ?_
  refine j_icmp_ne F (tgt := 47) dL_law_26 (by decide) hm (fun _ hm => ?_) (fun _ hm => ?_)
  · refine j_sub [] rfl ?_
    exact hj47 S21  hm
  · refine j_aload_n F 2 dL_law_29 rfl ?_
    obtain ⟨r30, S30, hc30, hm⟩ := bndE_ok hm
    refine j_callV F (n := 0) (As := []) (rest := []) (c_X5_danger l g hg S21 r30 S30 hc30) gw_L_84 (by decide +kernel) ⟨Nat.le_of_ble_eq_true rfl, Nat.le_of_ble_eq_true rfl⟩ ⟨hcc.1, hcc.2⟩ lay_0 rfl rfl rfl (Nat.le_of_ble_eq_true rfl) dL_law_30 ?_
    show J p l e room_1 s m args below meth c g A 8 Q cc0 ss0 33 [(2, .int v2_19), (0, .ref (g.2.1 100)), (1, .ref (g.2.1 0))] [.int r30] S30
    refine j_bipush F (v := -9) dL_law_33 (by decide) ?_
    refine j_icmp_ne F (tgt := 47) dL_law_35 (by decide) hm (fun _ hm => ?_) (fun _ hm => ?_)
    · refine j_sub [] rfl ?_
      exact hj47 S30  hm
    · refine j_aload_n F 2 dL_law_38 rfl ?_
      refine j_aload_n F 1 dL_law_39 rfl ?_
      refine j_iload_n F 0 dL_law_40 rfl ?_
      obtain ⟨r41, S41, hc41, hm⟩ := bndE_ok hm
      refine j_callS F (n := 3) (As := [.ref (g.2.1 0), .ref (g.2.1 100), .int v2_19]) (rest := []) (c_L_build l g hg L xs hLx v2_19 S30 r41 S41 hc41) gw_L_87 (by decide +kernel) ⟨Nat.le_of_ble_eq_true rfl, Nat.le_of_ble_eq_true rfl⟩ ⟨hcc.1, hcc.2⟩ rfl rfl (Nat.le_of_ble_eq_true rfl) dL_law_41 ?_
      show J p l e room_1 s m args below meth c g A 8 Q cc0 ss0 44 [(2, .int v2_19), (0, .ref (g.2.1 100)), (1, .ref (g.2.1 0))] [.int r41] S41
      refine j_if_ne F (tgt := 49) dL_law_44 (by decide) hm (fun _ hm => ?_) (fun _ hm => ?_)
      · refine j_aload_n F 2 dL_law_49 rfl ?_
        refine j_iload_n F 0 dL_law_50 rfl ?_
        obtain ⟨r51, S51, hc51, hm⟩ := bndE_ok hm
        refine j_callS F (n := 2) (As := [.ref (g.2.1 0), .int v2_19]) (rest := []) (c_L_isClosed l g hg v2_19 S41 r51 S51 hc51) gw_L_91 (by decide +kernel) ⟨Nat.le_of_ble_eq_true rfl, Nat.le_of_ble_eq_true rfl⟩ ⟨hcc.1, hcc.2⟩ rfl rfl (Nat.le_of_ble_eq_true rfl) dL_law_51 ?_
        show J p l e room_1 s m args below meth c g A 8 Q cc0 ss0 54 [(2, .int v2_19), (0, .ref (g.2.1 100)), (1, .ref (g.2.1 0))] [.int r51] S51
        refine j_if_eq F (tgt := 83) dL_law_54 (by decide) hm (fun _ hm => ?_) (fun _ hm => ?_)
        · refine j_sub [] rfl ?_
          exact hj83 S51  hm
        · refine j_aload_n F 2 dL_law_57 rfl ?_
          refine j_iload_n F 0 dL_law_58 rfl ?_
          obtain ⟨r59, S59, hc59, hm⟩ := bndE_ok hm
          refine j_callS F (n := 2) (As := [.ref (g.2.1 0), .int v2_19]) (rest := []) (c_L_spread l g hg v2_19 S51 r59 S59 hc59) gw_L_95 (by decide +kernel) ⟨Nat.le_of_ble_eq_true rfl, Nat.le_of_ble_eq_true rfl⟩ ⟨hcc.1, hcc.2⟩ rfl rfl (Nat.le_of_ble_eq_true rfl) dL_law_59 ?_
          show J p l e room_1 s m args below meth c g A 8 Q cc0 ss0 62 [(2, .int v2_19), (0, .ref (g.2.1 100)), (1, .ref (g.2.1 0))] [.int r59] S59
          refine j_if_eq F (tgt := 83) dL_law_62 (by decide) hm (fun _ hm => ?_) (fun _ hm => ?_)
          · refine j_sub [] rfl ?_
            exact hj83 S59  hm
          · refine j_aload_n F 2 dL_law_65 rfl ?_
            refine j_iload_n F 0 dL_law_66 rfl ?_
            refine j_iconst F (v := 0) dL_law_67 (by decide) ?_
            obtain ⟨r68, S68, hc68, hm⟩ := bndE_ok hm
            refine j_callS F (n := 3) (As := [.ref (g.2.1 0), .int v2_19, .int 0]) (rest := []) (c_L_learning l g hg v2_19 0 S59 r68 S68 hc68) gw_L_98 (by decide +kernel) ⟨Nat.le_of_ble_eq_true rfl, Nat.le_of_ble_eq_true rfl⟩ ⟨hcc.1, hcc.2⟩ rfl rfl (Nat.le_of_ble_eq_true rfl) dL_law_68 ?_
            show J p l e room_1 s m args below meth c g A 8 Q cc0 ss0 71 [(2, .int v2_19), (0, .ref (g.2.1 100)), (1, .ref (g.2.1 0))] [.int r68] S68
            refine j_if_eq F (tgt := 83) dL_law_71 (by decide) hm (fun _ hm => ?_) (fun _ hm => ?_)
            · refine j_sub [] rfl ?_
              exact hj83 S68  hm
            · refine j_aload_n F 2 dL_law_74 rfl ?_
              refine j_iload_n F 0 dL_law_75 rfl ?_
              refine j_iconst F (v := 1) dL_law_76 (by decide) ?_
              obtain ⟨r77, S77, hc77, hm⟩ := bndE_ok hm
              refine j_callS F (n := 3) (As := [.ref (g.2.1 0), .int v2_19, .int 1]) (rest := []) (c_L_learning l g hg v2_19 1 S68 r77 S77 hc77) gw_L_98 (by decide +kernel) ⟨Nat.le_of_ble_eq_true rfl, Nat.le_of_ble_eq_true rfl⟩ ⟨hcc.1, hcc.2⟩ rfl rfl (Nat.le_of_ble_eq_true rfl) dL_law_77 ?_
              show J p l e room_1 s m args below meth c g A 8 Q cc0 ss0 80 [(2, .int v2_19), (0, .ref (g.2.1 100)), (1, .ref (g.2.1 0))] [.int r77] S77
              refine j_if_ne F (tgt := 85) dL_law_80 (by decide) hm (fun _ hm => ?_) (fun _ hm => ?_)
              · refine j_iconst F (v := 0) dL_law_85 (by decide) ?_
                refine j_istore_n F (lv' := [(3, .int 0), (2, .int v2_19), (0, .ref (g.2.1 100)), (1, .ref (g.2.1 0))]) dL_law_86 (by decide) rfl ?_
                refine j_sub [2, 3, 1, 0] rfl ?_
                obtain ⟨e87, hlp87, hm⟩ := Option.bind_eq_some_iff.mp hm
                refine loopO_walk (fun x => m_L_law_L87 L xs v2_19 x.1 x.2) (fun x => J p l e room_1 s m args below meth c g A 8 Q cc0 ss0 87 [(0, .ref (g.2.1 100)), (1, .ref (g.2.1 0)), (2, .int v2_19), (3, .int x.1)] [] x.2) (fun z => match z with | .inl x => J p l e room_1 s m args below meth c g A 8 Q cc0 ss0 175 [(1, .ref (g.2.1 0)), (2, .int v2_19)] [] x | .inr x => some x = some ((1, S'))) (fun x o1 hm hk1 => ?_) hlp87 ?_
                · obtain ⟨v3, S⟩ := x
                  replace hm : m_L_law_L87 L xs v2_19 v3 S = some o1 := hm
                  show J p l e room_1 s m args below meth c g A 8 Q cc0 ss0 87 [(0, .ref (g.2.1 100)), (1, .ref (g.2.1 0)), (2, .int v2_19), (3, .int v3)] [] S
                  unfold m_L_law_L87 at hm
                  have hj167 : ∀ (S : Hs), m_L_law_J167 L xs S = some o1 → J p l e room_1 s m args below meth c g A 8 Q cc0 ss0 167 [] [] S := by
                    intro S hm
                    unfold m_L_law_J167 at hm
                    refine j_iconst F (v := 0) dL_law_167 (by decide) ?_
                    cases hm
                    have hr1 : some _ = some ((1, S') : Int32 × Hs) := hk1
                    have hv : (0 : Int32) = (1 : Int32) := congrArg Prod.fst (Option.some.inj hr1)
                    exact absurd hv (by decide)
                  refine j_iload_n F 3 dL_law_87 rfl ?_
                  refine j_iconst F (v := 4) dL_law_88 (by decide) ?_
                  refine j_icmp_ge F (tgt := 175) dL_law_89 (by decide) hm (fun _ hm => ?_) (fun _ hm => ?_)
                  · cases hm
                    refine j_sub [1, 2] rfl ?_
                    exact hk1
                  · refine j_aload_n F 0 dL_law_92 rfl ?_
                    refine j_bipush F (v := 20) dL_law_93 (by decide) ?_
                    refine j_iload_n F 3 dL_law_95 rfl ?_
                    refine j_iadd F dL_law_96 ?_
                    obtain ⟨r97, hc97, hm⟩ := Option.bind_eq_some_iff.mp hm
                    refine j_callS F (n := 2) (As := [.ref (g.2.1 100), .int (20 + v3)]) (rest := []) (c_L_cell l g hg L xs hLx (20 + v3) S r97 hc97) gw_L_10 (by decide +kernel) ⟨Nat.le_of_ble_eq_true rfl, Nat.le_of_ble_eq_true rfl⟩ ⟨hcc.1, hcc.2⟩ rfl rfl (Nat.le_of_ble_eq_true rfl) dL_law_97 ?_
                    show J p l e room_1 s m args below meth c g A 8 Q cc0 ss0 100 [(0, .ref (g.2.1 100)), (1, .ref (g.2.1 0)), (2, .int v2_19), (3, .int v3)] [.int r97] S
                    refine j_istore F (lv' := [(4, .int r97), (0, .ref (g.2.1 100)), (1, .ref (g.2.1 0)), (2, .int v2_19), (3, .int v3)]) dL_law_100 (by decide) rfl ?_
                    refine j_iload F 0 dL_law_102 rfl ?_
                    refine j_iload_n F 3 dL_law_104 rfl ?_
                    obtain ⟨r105, hc105, hm⟩ := Option.bind_eq_some_iff.mp hm
                    refine j_callS F (n := 2) (As := [.int r97, .int v2_19]) (rest := []) (c_L_low l g hg r97 v2_19 S r105 hc105) gw_L_16 (by decide +kernel) ⟨Nat.le_of_ble_eq_true rfl, Nat.le_of_ble_eq_true rfl⟩ ⟨hcc.1, hcc.2⟩ rfl rfl (Nat.le_of_ble_eq_true rfl) dL_law_105 ?_
                    show J p l e room_1 s m args below meth c g A 8 Q cc0 ss0 108 [(4, .int r97), (0, .ref (g.2.1 100)), (1, .ref (g.2.1 0)), (2, .int v2_19), (3, .int v3)] [.int r105] S
                    refine j_istore F (lv' := [(5, .int r105), (4, .int r97), (0, .ref (g.2.1 100)), (1, .ref (g.2.1 0)), (2, .int v2_19), (3, .int v3)]) dL_law_108 (by decide) rfl ?_
                    refine j_iload F 0 dL_law_110 rfl ?_
                    refine j_iconst F (v := 1) dL_law_112 (by decide) ?_
                    refine j_iadd F dL_law_113 ?_
                    refine j_iload F 1 dL_law_114 rfl ?_
                    refine j_iconst F (v := 4) dL_law_116 (by decide) ?_
                    refine j_ishr F dL_law_117 ?_
                    refine j_iload_n F 4 dL_law_118 rfl ?_
                    refine j_iconst F (v := 1) dL_law_119 (by decide) ?_
                    refine j_isub F dL_law_120 ?_
                    obtain ⟨r121, hc121, hm⟩ := Option.bind_eq_some_iff.mp hm
                    refine j_callS F (n := 2) (As := [.int (r97 >>> (4 &&& 31)), .int (v2_19 - 1)]) (rest := [.int (r105 + 1)]) (c_L_low l g hg (r97 >>> (4 &&& 31)) (v2_19 - 1) S r121 hc121) gw_L_16 (by decide +kernel) ⟨Nat.le_of_ble_eq_true rfl, Nat.le_of_ble_eq_true rfl⟩ ⟨hcc.1, hcc.2⟩ rfl rfl (Nat.le_of_ble_eq_true rfl) dL_law_121 ?_
                    show J p l e room_1 s m args below meth c g A 8 Q cc0 ss0 124 [(5, .int r105), (4, .int r97), (0, .ref (g.2.1 100)), (1, .ref (g.2.1 0)), (2, .int v2_19), (3, .int v3)] [.int r121, .int (r105 + 1)] S
                    refine j_iadd F dL_law_124 ?_
                    refine j_iload_n F 4 dL_law_125 rfl ?_
                    obtain ⟨hz126, hm⟩ := gd_ok hm
                    refine j_irem F dL_law_126 (of_decide_eq_true hz126) ?_
                    refine j_bnd hm (fun v6_127 hm => ?_)
                    refine j_istore F (lv' := [(6, .int v6_127), (5, .int r105), (4, .int r97), (0, .ref (g.2.1 100)), (1, .ref (g.2.1 0)), (2, .int v2_19), (3, .int v3)]) dL_law_127 (by decide) rfl ?_
                    refine j_iload F 2 dL_law_129 rfl ?_
                    refine j_bipush F (v := 8) dL_law_131 (by decide) ?_
                    refine j_ishr F dL_law_133 ?_
                    refine j_iconst F (v := 4) dL_law_134 (by decide) ?_
                    obtain ⟨r135, hc135, hm⟩ := Option.bind_eq_some_iff.mp hm
                    refine j_callS F (n := 2) (As := [.int (r97 >>> (8 &&& 31)), .int 4]) (rest := []) (c_L_low l g hg (r97 >>> (8 &&& 31)) 4 S r135 hc135) gw_L_16 (by decide +kernel) ⟨Nat.le_of_ble_eq_true rfl, Nat.le_of_ble_eq_true rfl⟩ ⟨hcc.1, hcc.2⟩ rfl rfl (Nat.le_of_ble_eq_true rfl) dL_law_135 ?_
                    show J p l e room_1 s m args below meth c g A 8 Q cc0 ss0 138 [(6, .int v6_127), (5, .int r105), (4, .int r97), (0, .ref (g.2.1 100)), (1, .ref (g.2.1 0)), (2, .int v2_19), (3, .int v3)] [.int r135] S
                    refine j_istore F (lv' := [(7, .int r135), (6, .int v6_127), (5, .int r105), (4, .int r97), (0, .ref (g.2.1 100)), (1, .ref (g.2.1 0)), (2, .int v2_19), (3, .int v3)]) dL_law_138 (by decide) rfl ?_
                    refine j_aload_n F 5 dL_law_140 rfl ?_
                    refine j_iload_n F 6 dL_law_141 rfl ?_
                    refine j_iload F 2 dL_law_142 rfl ?_
                    refine j_iload F 0 dL_law_144 rfl ?_
                    refine j_iload F 1 dL_law_146 rfl ?_
                    obtain ⟨r148, S148, hc148, hm⟩ := bndE_ok hm
                    refine j_callS F (n := 5) (As := [.ref (g.2.1 0), .int v2_19, .int r105, .int r135, .int v6_127]) (rest := []) (c_L_needed l g hg v2_19 r105 r135 v6_127 S r148 S148 hc148) gw_L_102 (by decide +kernel) ⟨Nat.le_of_ble_eq_true rfl, Nat.le_of_ble_eq_true rfl⟩ ⟨hcc.1, hcc.2⟩ rfl rfl (Nat.le_of_ble_eq_true rfl) dL_law_148 ?_
                    show J p l e room_1 s m args below meth c g A 8 Q cc0 ss0 151 [(7, .int r135), (6, .int v6_127), (5, .int r105), (4, .int r97), (0, .ref (g.2.1 100)), (1, .ref (g.2.1 0)), (2, .int v2_19), (3, .int v3)] [.int r148] S148
                    refine j_if_eq F (tgt := 167) dL_law_151 (by decide) hm (fun _ hm => ?_) (fun _ hm => ?_)
                    · refine j_sub [] rfl ?_
                      exact hj167 S148  hm
                    · refine j_aload_n F 5 dL_law_154 rfl ?_
                      refine j_iload F 2 dL_law_155 rfl ?_
                      refine j_iload F 0 dL_law_157 rfl ?_
                      refine j_iload F 1 dL_law_159 rfl ?_
                      obtain ⟨r161, S161, hc161, hm⟩ := bndE_ok hm
                      refine j_callS F (n := 4) (As := [.ref (g.2.1 0), .int r105, .int r135, .int v6_127]) (rest := []) (c_L_cut l g hg r105 r135 v6_127 S148 r161 S161 hc161) gw_L_105 (by decide +kernel) ⟨Nat.le_of_ble_eq_true rfl, Nat.le_of_ble_eq_true rfl⟩ ⟨hcc.1, hcc.2⟩ rfl rfl (Nat.le_of_ble_eq_true rfl) dL_law_161 ?_
                      show J p l e room_1 s m args below meth c g A 8 Q cc0 ss0 164 [(7, .int r135), (6, .int v6_127), (5, .int r105), (4, .int r97), (0, .ref (g.2.1 100)), (1, .ref (g.2.1 0)), (2, .int v2_19), (3, .int v3)] [.int r161] S161
                      refine j_if_ne F (tgt := 169) dL_law_164 (by decide) hm (fun _ hm => ?_) (fun _ hm => ?_)
                      · refine j_iinc F (v := v3 + 1) (lv' := [(3, .int (v3 + 1)), (7, .int r135), (6, .int v6_127), (5, .int r105), (4, .int r97), (0, .ref (g.2.1 100)), (1, .ref (g.2.1 0)), (2, .int v2_19)]) 7 dL_law_169 rfl rfl (by decide) rfl ?_
                        refine j_goto F (tgt := 87) dL_law_172 (by decide) ?_
                        cases hm
                        refine j_sub [5, 6, 7, 0] rfl ?_
                        exact hk1
                      · refine j_sub [] rfl ?_
                        exact hj167 S161  hm
                · cases e87 with
                  | inl y87 =>
                    dsimp only [Sum.elim_inl] at hm
                    show J p l e room_1 s m args below meth c g A 8 Q cc0 ss0 175 [(1, .ref (g.2.1 0)), (2, .int v2_19)] [] y87
                    refine j_aload_n F 0 dL_law_175 rfl ?_
                    refine j_iconst F (v := 4) dL_law_176 (by decide) ?_
                    refine bndX_ok hm (fun r177 S177 hc177 hm => ?_) (fun q S177 hc177 hm => ?_)
                    · refine j_callV F (n := 1) (As := [.int 4]) (rest := []) (c_X5_about l g hg 4 y87 r177 S177 hc177) gw_L_58 (by decide +kernel) ⟨Nat.le_of_ble_eq_true rfl, Nat.le_of_ble_eq_true rfl⟩ ⟨hcc.1, hcc.2⟩ lay_0 rfl rfl rfl (Nat.le_of_ble_eq_true rfl) dL_law_177 ?_
                      show J p l e room_1 s m args below meth c g A 8 Q cc0 ss0 180 [(1, .ref (g.2.1 0)), (2, .int v2_19)] [.int r177] S177
                      refine j_istore_n F (lv' := [(3, .int r177), (1, .ref (g.2.1 0)), (2, .int v2_19)]) dL_law_180 (by decide) rfl ?_
                      refine j_aload_n F 1 dL_law_181 rfl ?_
                      obtain ⟨r182, S182, hc182, hm⟩ := bndE_ok hm
                      refine j_callV F (n := 0) (As := []) (rest := []) (c_X5_danger l g hg S177 r182 S182 hc182) gw_L_84 (by decide +kernel) ⟨Nat.le_of_ble_eq_true rfl, Nat.le_of_ble_eq_true rfl⟩ ⟨hcc.1, hcc.2⟩ lay_0 rfl rfl rfl (Nat.le_of_ble_eq_true rfl) dL_law_182 ?_
                      show J p l e room_1 s m args below meth c g A 8 Q cc0 ss0 185 [(3, .int r177), (1, .ref (g.2.1 0)), (2, .int v2_19)] [.int r182] S182
                      refine j_istore F (lv' := [(4, .int r182), (3, .int r177), (1, .ref (g.2.1 0)), (2, .int v2_19)]) dL_law_185 (by decide) rfl ?_
                      refine j_aload_n F 2 dL_law_187 rfl ?_
                      obtain ⟨r188, S188, hc188, hm⟩ := bndE_ok hm
                      refine j_callV F (n := 0) (As := []) (rest := []) (c_X5_sleeper l g hg S182 r188 S188 hc188) gw_L_81 (by decide +kernel) ⟨Nat.le_of_ble_eq_true rfl, Nat.le_of_ble_eq_true rfl⟩ ⟨hcc.1, hcc.2⟩ lay_0 rfl rfl rfl (Nat.le_of_ble_eq_true rfl) dL_law_188 ?_
                      show J p l e room_1 s m args below meth c g A 8 Q cc0 ss0 191 [(4, .int r182), (3, .int r177), (1, .ref (g.2.1 0)), (2, .int v2_19)] [.int r188] S188
                      refine j_istore F (lv' := [(5, .int r188), (4, .int r182), (3, .int r177), (1, .ref (g.2.1 0)), (2, .int v2_19)]) dL_law_191 (by decide) rfl ?_
                      refine j_iload F 1 dL_law_193 rfl ?_
                      refine j_bipush F (v := -9) dL_law_195 (by decide) ?_
                      refine j_icmp_ne F (tgt := 223) dL_law_197 (by decide) hm (fun _ hm => ?_) (fun _ hm => ?_)
                      · refine j_aload_n F 3 dL_law_223 rfl ?_
                        refine j_iload F 1 dL_law_224 rfl ?_
                        refine j_bipush F (v := 100) dL_law_226 (by decide) ?_
                        refine j_idiv F dL_law_228 (by decide) ?_
                        refine j_iload F 1 dL_law_229 rfl ?_
                        refine j_bipush F (v := 10) dL_law_231 (by decide) ?_
                        refine j_idiv F dL_law_233 (by decide) ?_
                        refine j_bipush F (v := 10) dL_law_234 (by decide) ?_
                        refine j_irem F dL_law_236 (by decide) ?_
                        refine j_iload F 1 dL_law_237 rfl ?_
                        refine j_bipush F (v := 10) dL_law_239 (by decide) ?_
                        refine j_irem F dL_law_241 (by decide) ?_
                        refine j_iconst F (v := 1) dL_law_242 (by decide) ?_
                        refine bndX_ok hm (fun r243 S243 hc243 hm => ?_) (fun q S243 hc243 hm => ?_)
                        · refine j_callV F (n := 4) (As := [.int (r182 / 100), .int (irm (r182 / 10) 10), .int (irm r182 10), .int 1]) (rest := []) (c_X5_set l g hg (r182 / 100) (irm (r182 / 10) 10) (irm r182 10) 1 S188 r243 S243 hc243) gw_L_37 (by decide +kernel) ⟨Nat.le_of_ble_eq_true rfl, Nat.le_of_ble_eq_true rfl⟩ ⟨hcc.1, hcc.2⟩ lay_0 rfl rfl rfl (Nat.le_of_ble_eq_true rfl) dL_law_243 ?_
                          show J p l e room_1 s m args below meth c g A 8 Q cc0 ss0 246 [(5, .int r188), (4, .int r182), (3, .int r177), (1, .ref (g.2.1 0)), (2, .int v2_19)] [.int r243] S243
                          refine j_if_ne F (tgt := 269) dL_law_246 (by decide) hm (fun _ hm => ?_) (fun _ hm => ?_)
                          · refine j_sub [3, 4, 2, 0] rfl ?_
                            exact hj269 v2_19 r177 r188 S243  hm
                          · refine j_aload_n F 3 dL_law_249 rfl ?_
                            refine j_iconst F (v := 4) dL_law_250 (by decide) ?_
                            refine bndX_ok hm (fun r251 S251 hc251 hm => ?_) (fun q S251 hc251 hm => ?_)
                            · refine j_callV F (n := 1) (As := [.int 4]) (rest := []) (c_X5_about l g hg 4 S243 r251 S251 hc251) gw_L_58 (by decide +kernel) ⟨Nat.le_of_ble_eq_true rfl, Nat.le_of_ble_eq_true rfl⟩ ⟨hcc.1, hcc.2⟩ lay_0 rfl rfl rfl (Nat.le_of_ble_eq_true rfl) dL_law_251 ?_
                              show J p l e room_1 s m args below meth c g A 8 Q cc0 ss0 254 [(5, .int r188), (4, .int r182), (3, .int r177), (1, .ref (g.2.1 0)), (2, .int v2_19)] [.int r251] S251
                              refine j_iload_n F 2 dL_law_254 rfl ?_
                              refine j_icmp_lt F (tgt := 269) dL_law_255 (by decide) hm (fun _ hm => ?_) (fun _ hm => ?_)
                              · refine j_sub [3, 4, 2, 0] rfl ?_
                                exact hj269 v2_19 r177 r188 S251  hm
                              · refine j_aload_n F 3 dL_law_258 rfl ?_
                                refine bndX_ok hm (fun r259 S259 hc259 hm => ?_) (fun q S259 hc259 hm => ?_)
                                · refine j_callV F (n := 0) (As := []) (rest := []) (c_X5_undo l g hg S251 r259 S259 hc259) gw_L_69 (by decide +kernel) ⟨Nat.le_of_ble_eq_true rfl, Nat.le_of_ble_eq_true rfl⟩ ⟨hcc.1, hcc.2⟩ lay_0 rfl rfl rfl (Nat.le_of_ble_eq_true rfl) dL_law_259 ?_
                                  show J p l e room_1 s m args below meth c g A 8 Q cc0 ss0 262 [(5, .int r188), (4, .int r182), (3, .int r177), (1, .ref (g.2.1 0)), (2, .int v2_19)] [.int r259] S259
                                  refine j_if_lt F (tgt := 269) dL_law_262 (by decide) hm (fun _ hm => ?_) (fun _ hm => ?_)
                                  · refine j_sub [3, 4, 2, 0] rfl ?_
                                    exact hj269 v2_19 r177 r188 S259  hm
                                  · refine j_iconst F (v := 1) dL_law_265 (by decide) ?_
                                    refine j_goto F (tgt := 270) dL_law_266 (by decide) ?_
                                    refine j_sub [3, 4, 2, 0] rfl ?_
                                    exact hj270 v2_19 r177 r188 1 S259  hm
                                · cases hm
                            · cases hm
                        · cases hm
                      · refine j_aload_n F 3 dL_law_200 rfl ?_
                        refine j_iconst F (v := 3) dL_law_201 (by decide) ?_
                        refine bndX_ok hm (fun r202 S202 hc202 hm => ?_) (fun q S202 hc202 hm => ?_)
                        · refine j_callV F (n := 1) (As := [.int 3]) (rest := []) (c_X5_about l g hg 3 S188 r202 S202 hc202) gw_L_58 (by decide +kernel) ⟨Nat.le_of_ble_eq_true rfl, Nat.le_of_ble_eq_true rfl⟩ ⟨hcc.1, hcc.2⟩ lay_0 rfl rfl rfl (Nat.le_of_ble_eq_true rfl) dL_law_202 ?_
                          show J p l e room_1 s m args below meth c g A 8 Q cc0 ss0 205 [(5, .int r188), (4, .int r182), (3, .int r177), (1, .ref (g.2.1 0)), (2, .int v2_19)] [.int r202] S202
                          refine j_iconst F (v := 4) dL_law_205 (by decide) ?_
                          refine j_iload_n F 4 dL_law_206 rfl ?_
                          refine j_imul F dL_law_207 ?_
                          refine j_iload_n F 4 dL_law_208 rfl ?_
                          refine j_iconst F (v := 1) dL_law_209 (by decide) ?_
                          refine j_isub F dL_law_210 ?_
                          refine j_imul F dL_law_211 ?_
                          refine j_icmp_ne F (tgt := 219) dL_law_212 (by decide) hm (fun _ hm => ?_) (fun _ hm => ?_)
                          · refine j_iconst F (v := 0) dL_law_219 (by decide) ?_
                            refine j_goto F (tgt := 270) dL_law_220 (by decide) ?_
                            refine j_sub [3, 4, 2, 0] rfl ?_
                            exact hj270 v2_19 r177 r188 0 S202  hm
                          · refine j_iconst F (v := 1) dL_law_215 (by decide) ?_
                            refine j_goto F (tgt := 270) dL_law_216 (by decide) ?_
                            refine j_sub [3, 4, 2, 0] rfl ?_
                            exact hj270 v2_19 r177 r188 1 S202  hm
                        · cases hm
                    · cases hm
                  | inr q =>
                    exact hm
              · refine j_sub [] rfl ?_
                exact hj83 S77  hm
      · refine j_sub [] rfl ?_
        exact hj47 S41  hm
