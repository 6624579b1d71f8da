noncomputable def m_X5_endOf (v1 : Nat) (S : Hs) : Option (Nat × Hs) := (m_X3_copyFrom 65 v1 S).bind fun S5 => ((m_X3_spreadOut 65 S5).bind fun S12 => (some ((65, S12))))
set_option maxRecDepth 100000 in
set_option maxHeartbeats 4000000 in
theorem c_X5_endOf (l : Launch) (g : GG) (hg : Inj g) (v1 : Nat) (hv1 : isSt v1 = true) (S : Hs) (r : Nat) (S' : Hs) (hm : m_X5_endOf v1 S = some ((r, S'))) : CM l yX5_endOf [.code yX5_endOf cX5_endOf 2 (some (.object "AccessSpread$State"))] rmX5_endOf [.ref (g.2.1 0), .ref (g.2.1 v1)] g S (some (.ref (g.2.1 r))) S' := by
  unfold m_X5_endOf at hm
  refine CM.of (cc := cX5_endOf) (nL := 2) (ret := (some (.object "AccessSpread$State"))) (lv := [(0, .ref (g.2.1 0)), (1, .ref (g.2.1 v1))]) (by decide +kernel) hg (Nat.le_of_ble_eq_true rfl) rfl (fun p e s m args below meth c A F => ?_)
  replace F : Fx p s m meth c cX5_endOf RX5 2 (some (.object "AccessSpread$State")) g A := F
  show J p l e rmX5_endOf s m args below meth c g A 2 (MQ below (QC g A (some (.ref (g.2.1 r))) S') args s 0 0 A) 0 0 0 [(0, .ref (g.2.1 0)), (1, .ref (g.2.1 v1))] [] S
  refine j_aload_n F 0 dX5_endOf_0 rfl ?_
  refine j_getR F (k0 := 7) (C := RX5) (T := TX5) (N := 11) lay_0 rfl rfl inF5 (by decide) tw184 dX5_endOf_1 ?_
  refine j_aload_n F 1 dX5_endOf_4 rfl ?_
  obtain ⟨S5, hc5, hm⟩ := Option.bind_eq_some_iff.mp hm
  refine j_callV F (n := 1) (As := [.ref (g.2.1 v1)]) (rest := []) (c_X3_copyFrom l g hg 65 v1 (by decide) hv1 S S5 hc5) gw_X5_87 (by decide +kernel) ⟨Nat.le_of_ble_eq_true rfl, Nat.le_of_ble_eq_true rfl⟩ ⟨Nat.le_of_ble_eq_true rfl, Nat.le_of_ble_eq_true rfl⟩ (isSt_lay (i := 65) (by decide)).1 rfl rfl rfl (Nat.le_of_ble_eq_true rfl) dX5_endOf_5 ?_
  show J p l e rmX5_endOf s m args below meth c g A 2 (MQ below (QC g A (some (.ref (g.2.1 r))) S') args s 0 0 A) 0 0 8 [(0, .ref (g.2.1 0)), (1, .ref (g.2.1 v1))] [] S5
  refine j_aload_n F 0 dX5_endOf_8 rfl ?_
  refine j_getR F (k0 := 7) (C := RX5) (T := TX5) (N := 11) lay_0 rfl rfl inF5 (by decide) tw184 dX5_endOf_9 ?_
  obtain ⟨S12, hc12, hm⟩ := Option.bind_eq_some_iff.mp hm
  refine j_callV F (n := 0) (As := []) (rest := []) (c_X3_spreadOut l g hg 65 (by decide) S5 S12 hc12) gw_X5_231 (by decide +kernel) ⟨Nat.le_of_ble_eq_true rfl, Nat.le_of_ble_eq_true rfl⟩ ⟨Nat.le_of_ble_eq_true rfl, Nat.le_of_ble_eq_true rfl⟩ (isSt_lay (i := 65) (by decide)).1 rfl rfl rfl (Nat.le_of_ble_eq_true rfl) dX5_endOf_12 ?_
  show J p l e rmX5_endOf s m args below meth c g A 2 (MQ below (QC g A (some (.ref (g.2.1 r))) S') args s 0 0 A) 0 0 15 [(0, .ref (g.2.1 0)), (1, .ref (g.2.1 v1))] [] S12
  refine j_aload_n F 0 dX5_endOf_15 rfl ?_
  refine j_getR F (k0 := 7) (C := RX5) (T := TX5) (N := 11) lay_0 rfl rfl inF5 (by decide) tw184 dX5_endOf_16 ?_
  exact j_aret_e F rfl dX5_endOf_19 hm
def m_X5_forgetOldest_L9 (v1 : Nat) (v2 : Int32) (S : Hs) : Option ((Int32 × Hs) ⊕ Hs) := if 14 ≤ v2 then (some (.inr S)) else (gd (inb v2 14) (bnd (gQ S 3 v2.toNatClampNeg) fun q27 => gd (isSt q27) (gd (inb (v2 - 1) 14) (bnd (sQ S 3 (v2 - 1).toNatClampNeg q27) fun S28 => (some (.inl ((v2 + 1, S28))))))))
noncomputable def m_X5_forgetOldest (S : Hs) : Option (Hs) := gd (inb 0 14) (bnd (gQ S 3 (0 : Int32).toNatClampNeg) fun q5 => gd (isSt q5) ((loopO (fun x => m_X5_forgetOldest_L9 q5 x.1 x.2) ((1, S))).bind fun y9 => gd (inb 13 14) (bnd (sQ y9 3 (13 : Int32).toNatClampNeg q5) fun S42 => (bnd (sI S42 0 3 ((gI S42 0 3) - 1)) fun S50 => (some S50)))))
set_option maxRecDepth 100000 in
set_option maxHeartbeats 4000000 in
theorem c_X5_forgetOldest (l : Launch) (g : GG) (hg : Inj g)   (S : Hs) (S' : Hs) (hm : m_X5_forgetOldest S = some S') : CM l yX5_forgetOldest [.code yX5_forgetOldest cX5_forgetOldest 3 none] rmX5_forgetOldest [.ref (g.2.1 0)] g S none S' := by
  unfold m_X5_forgetOldest at hm
  refine CM.of (cc := cX5_forgetOldest) (nL := 3) (ret := none) (lv := [(0, .ref (g.2.1 0))]) (by decide +kernel) hg (Nat.le_of_ble_eq_true rfl) rfl (fun p e s m args below meth c A F => ?_)
  replace F : Fx p s m meth c cX5_forgetOldest RX5 3 none g A := F
  show J p l e rmX5_forgetOldest s m args below meth c g A 3 (MQ below (QC g A none S') args s 0 0 A) 0 0 0 [(0, .ref (g.2.1 0))] [] S
  refine j_aload_n F 0 dX5_forgetOldest_0 rfl ?_
  refine j_getR F (k0 := 2) (C := RX5) (T := TX5) (N := 11) lay_0 rfl rfl inF5 (by decide) tw180 dX5_forgetOldest_1 ?_
  refine j_iconst F (v := 0) dX5_forgetOldest_4 (by decide) ?_
  refine j_aald F lay_3 dX5_forgetOldest_5 hm (fun hm => ?_)
  refine j_bndr hm (fun q5 hm => ?_)
  obtain ⟨hs_q5, hm⟩ := gd_ok hm
  refine j_astore_n F (lv' := [(1, .ref (g.2.1 q5)), (0, .ref (g.2.1 0))]) dX5_forgetOldest_6 (by decide) rfl ?_
  refine j_iconst F (v := 1) dX5_forgetOldest_7 (by decide) ?_
  refine j_istore_n F (lv' := [(2, .int 1), (1, .ref (g.2.1 q5)), (0, .ref (g.2.1 0))]) dX5_forgetOldest_8 (by decide) rfl ?_
  refine j_sub [2, 1, 0] rfl ?_
  obtain ⟨y9, hlp9, hm⟩ := Option.bind_eq_some_iff.mp hm
  refine loopO_walk (fun x => m_X5_forgetOldest_L9 q5 x.1 x.2) (fun x => J p l e rmX5_forgetOldest s m args below meth c g A 3 (MQ below (QC g A none S') args s 0 0 A) 0 0 9 [(0, .ref (g.2.1 0)), (1, .ref (g.2.1 q5)), (2, .int x.1)] [] x.2) (fun x => J p l e rmX5_forgetOldest s m args below meth c g A 3 (MQ below (QC g A none S') args s 0 0 A) 0 0 35 [(0, .ref (g.2.1 0)), (1, .ref (g.2.1 q5))] [] x) (fun x o1 hm hk1 => ?_) hlp9 ?_
  · obtain ⟨v2, S⟩ := x
    replace hm : m_X5_forgetOldest_L9 q5 v2 S = some o1 := hm
    show J p l e rmX5_forgetOldest s m args below meth c g A 3 (MQ below (QC g A none S') args s 0 0 A) 0 0 9 [(0, .ref (g.2.1 0)), (1, .ref (g.2.1 q5)), (2, .int v2)] [] S
    unfold m_X5_forgetOldest_L9 at hm
    refine j_iload_n F 2 dX5_forgetOldest_9 rfl ?_
    refine j_bipush F (v := 14) dX5_forgetOldest_10 (by decide) ?_
    refine j_icmp_ge F (tgt := 35) dX5_forgetOldest_12 (by decide) hm (fun _ hm => ?_) (fun _ hm => ?_)
    · cases hm
      refine j_sub [0, 1] rfl ?_
      exact hk1
    · refine j_aload_n F 0 dX5_forgetOldest_15 rfl ?_
      refine j_getR F (k0 := 2) (C := RX5) (T := TX5) (N := 11) lay_0 rfl rfl inF5 (by decide) tw180 dX5_forgetOldest_16 ?_
      refine j_iload_n F 2 dX5_forgetOldest_19 rfl ?_
      refine j_iconst F (v := 1) dX5_forgetOldest_20 (by decide) ?_
      refine j_isub F dX5_forgetOldest_21 ?_
      refine j_aload_n F 0 dX5_forgetOldest_22 rfl ?_
      refine j_getR F (k0 := 2) (C := RX5) (T := TX5) (N := 11) lay_0 rfl rfl inF5 (by decide) tw180 dX5_forgetOldest_23 ?_
      refine j_iload_n F 2 dX5_forgetOldest_26 rfl ?_
      refine j_aald F lay_3 dX5_forgetOldest_27 hm (fun hm => ?_)
      refine j_bndr hm (fun q27 hm => ?_)
      obtain ⟨hs_q27, hm⟩ := gd_ok hm
      refine j_aast F lay_3 hs_q27 dX5_forgetOldest_28 hm (fun hm => ?_)
      refine j_bndS hm (fun S28 hm => ?_)
      refine j_iinc F (v := v2 + 1) (lv' := [(2, .int (v2 + 1)), (0, .ref (g.2.1 0)), (1, .ref (g.2.1 q5))]) 2 dX5_forgetOldest_29 rfl rfl (by decide) rfl ?_
      refine j_goto F (tgt := 9) dX5_forgetOldest_32 (by decide) ?_
      cases hm
      refine j_sub [1, 2, 0] rfl ?_
      exact hk1
  · show J p l e rmX5_forgetOldest s m args below meth c g A 3 (MQ below (QC g A none S') args s 0 0 A) 0 0 35 [(0, .ref (g.2.1 0)), (1, .ref (g.2.1 q5))] [] y9
    refine j_aload_n F 0 dX5_forgetOldest_35 rfl ?_
    refine j_getR F (k0 := 2) (C := RX5) (T := TX5) (N := 11) lay_0 rfl rfl inF5 (by decide) tw180 dX5_forgetOldest_36 ?_
    refine j_bipush F (v := 13) dX5_forgetOldest_39 (by decide) ?_
    refine j_aload_n F 1 dX5_forgetOldest_41 rfl ?_
    refine j_aast F lay_3 hs_q5 dX5_forgetOldest_42 hm (fun hm => ?_)
    refine j_bndS hm (fun S42 hm => ?_)
    refine j_aload_n F 0 dX5_forgetOldest_43 rfl ?_
    refine j_dup F dX5_forgetOldest_44 rfl ?_
    refine j_getI F (k0 := 3) (C := RX5) (T := TX5) (N := 11) lay_0 rfl rfl inF5 (by decide) tw253 dX5_forgetOldest_45 ?_
    refine j_iconst F (v := 1) dX5_forgetOldest_48 (by decide) ?_
    refine j_isub F dX5_forgetOldest_49 ?_
    refine j_putI F (k0 := 3) (C := RX5) (T := TX5) (N := 11) tyX5 tyX5_ok nmX5 lay_0 rfl rfl inF5 (by decide) tw253 rfl (by decide +kernel) dX5_forgetOldest_50 ?_
    refine j_bndS hm (fun S50 hm => ?_)
    exact j_vret_e F rfl dX5_forgetOldest_53 hm
noncomputable def m_X5_remember_J13 (S : Hs) : Option (Hs) := gd (inb (gI S 0 3) 14) (bnd (gQ S 3 (gI S 0 3).toNatClampNeg) fun q21 => gd (isSt q21) ((m_X3_copyFrom q21 29 S).bind fun S26 => (bnd (sI S26 0 3 ((gI S26 0 3) + 1)) fun S36 => (some S36))))
noncomputable def m_X5_remember (S : Hs) : Option (Hs) := if (gI S 0 3) < 14 then (m_X5_remember_J13 S) else ((m_X5_forgetOldest  S).bind fun S10 => (m_X5_remember_J13 S10))
set_option maxRecDepth 100000 in
set_option maxHeartbeats 4000000 in
theorem c_X5_remember (l : Launch) (g : GG) (hg : Inj g)   (S : Hs) (S' : Hs) (hm : m_X5_remember S = some S') : CM l yX5_remember [.code yX5_remember cX5_remember 1 none] rmX5_remember [.ref (g.2.1 0)] g S none S' := by
  unfold m_X5_remember at hm
  refine CM.of (cc := cX5_remember) (nL := 1) (ret := none) (lv := [(0, .ref (g.2.1 0))]) (by decide +kernel) hg (Nat.le_of_ble_eq_true rfl) rfl (fun p e s m args below meth c A F => ?_)
  replace F : Fx p s m meth c cX5_remember RX5 1 none g A := F
  show J p l e rmX5_remember s m args below meth c g A 1 (MQ below (QC g A none S') args s 0 0 A) 0 0 0 [(0, .ref (g.2.1 0))] [] S
  have hj13 : ∀ (S : Hs), m_X5_remember_J13 S = some S' → J p l e rmX5_remember s m args below meth c g A 1 (MQ below (QC g A none S') args s 0 0 A) 0 0 13 [(0, .ref (g.2.1 0))] [] S := by
    intro S hm
    unfold m_X5_remember_J13 at hm
    refine j_aload_n F 0 dX5_remember_13 rfl ?_
    refine j_getR F (k0 := 2) (C := RX5) (T := TX5) (N := 11) lay_0 rfl rfl inF5 (by decide) tw180 dX5_remember_14 ?_
    refine j_aload_n F 0 dX5_remember_17 rfl ?_
    refine j_getI F (k0 := 3) (C := RX5) (T := TX5) (N := 11) lay_0 rfl rfl inF5 (by decide) tw253 dX5_remember_18 ?_
    refine j_aald F lay_3 dX5_remember_21 hm (fun hm => ?_)
    refine j_bndr hm (fun q21 hm => ?_)
    obtain ⟨hs_q21, hm⟩ := gd_ok hm
    refine j_aload_n F 0 dX5_remember_22 rfl ?_
    refine j_getR F (k0 := 1) (C := RX5) (T := TX5) (N := 11) lay_0 rfl rfl inF5 (by decide) tw179 dX5_remember_23 ?_
    obtain ⟨S26, hc26, hm⟩ := Option.bind_eq_some_iff.mp hm
    refine j_callV F (n := 1) (As := [.ref (g.2.1 29)]) (rest := []) (c_X3_copyFrom l g hg q21 29 hs_q21 (by decide) S S26 hc26) gw_X5_87 (by decide +kernel) ⟨Nat.le_of_ble_eq_true rfl, Nat.le_of_ble_eq_true rfl⟩ ⟨Nat.le_of_ble_eq_true rfl, Nat.le_of_ble_eq_true rfl⟩ (isSt_lay hs_q21).1 rfl rfl rfl (Nat.le_of_ble_eq_true rfl) dX5_remember_26 ?_
    show J p l e rmX5_remember s m args below meth c g A 1 (MQ below (QC g A none S') args s 0 0 A) 0 0 29 [(0, .ref (g.2.1 0))] [] S26
    refine j_aload_n F 0 dX5_remember_29 rfl ?_
    refine j_dup F dX5_remember_30 rfl ?_
    refine j_getI F (k0 := 3) (C := RX5) (T := TX5) (N := 11) lay_0 rfl rfl inF5 (by decide) tw253 dX5_remember_31 ?_
    refine j_iconst F (v := 1) dX5_remember_34 (by decide) ?_
    refine j_iadd F dX5_remember_35 ?_
    refine j_putI F (k0 := 3) (C := RX5) (T := TX5) (N := 11) tyX5 tyX5_ok nmX5 lay_0 rfl rfl inF5 (by decide) tw253 rfl (by decide +kernel) dX5_remember_36 ?_
    refine j_bndS hm (fun S36 hm => ?_)
    exact j_vret_e F rfl dX5_remember_39 hm
  refine j_aload_n F 0 dX5_remember_0 rfl ?_
  refine j_getI F (k0 := 3) (C := RX5) (T := TX5) (N := 11) lay_0 rfl rfl inF5 (by decide) tw253 dX5_remember_1 ?_
  refine j_bipush F (v := 14) dX5_remember_4 (by decide) ?_
  refine j_icmp_lt F (tgt := 13) dX5_remember_6 (by decide) hm (fun _ hm => ?_) (fun _ hm => ?_)
  · refine j_sub [0] rfl ?_
    exact hj13 S  hm
  · refine j_aload_n F 0 dX5_remember_9 rfl ?_
    obtain ⟨S10, hc10, hm⟩ := Option.bind_eq_some_iff.mp hm
    refine j_callV F (n := 0) (As := []) (rest := []) (c_X5_forgetOldest l g hg S S10 hc10) gw_X5_296 (by decide +kernel) ⟨Nat.le_of_ble_eq_true rfl, Nat.le_of_ble_eq_true rfl⟩ ⟨Nat.le_of_ble_eq_true rfl, Nat.le_of_ble_eq_true rfl⟩ lay_0 rfl rfl rfl (Nat.le_of_ble_eq_true rfl) dX5_remember_10 ?_
    show J p l e rmX5_remember s m args below meth c g A 1 (MQ below (QC g A none S') args s 0 0 A) 0 0 13 [(0, .ref (g.2.1 0))] [] S10
    refine j_sub [0] rfl ?_
    exact hj13 S10  hm
noncomputable def m_X5_comesWith (v1 : Int32) (v2 : Int32) (S : Hs) : Option (Int32 × Hs) := (m_X3_copyFrom 65 29 S).bind fun S8 => (bnd (sI S8 65 2 v1) fun S16 => (bndE (m_X3_spreadUntil 65 v2 S16) fun r24 S24 => (gd (decide (r24 = 0 ∨ r24 = 1)) (some ((r24, S24))))))
set_option maxRecDepth 100000 in
set_option maxHeartbeats 4000000 in
theorem c_X5_comesWith (l : Launch) (g : GG) (hg : Inj g) (v1 : Int32) (v2 : Int32)  (S : Hs) (r : Int32) (S' : Hs) (hm : m_X5_comesWith v1 v2 S = some ((r, S'))) : CM l yX5_comesWith [.code yX5_comesWith cX5_comesWith 3 (some .boolean)] rmX5_comesWith [.ref (g.2.1 0), .int v1, .int v2] g S (some (.int r)) S' := by
  unfold m_X5_comesWith at hm
  refine CM.of (cc := cX5_comesWith) (nL := 3) (ret := (some .boolean)) (lv := [(0, .ref (g.2.1 0)), (1, .int v1), (2, .int v2)]) (by decide +kernel) hg (Nat.le_of_ble_eq_true rfl) rfl (fun p e s m args below meth c A F => ?_)
  replace F : Fx p s m meth c cX5_comesWith RX5 3 (some .boolean) g A := F
  show J p l e rmX5_comesWith s m args below meth c g A 3 (MQ below (QC g A (some (.int r)) S') args s 0 0 A) 0 0 0 [(0, .ref (g.2.1 0)), (1, .int v1), (2, .int v2)] [] S
  refine j_aload_n F 0 dX5_comesWith_0 rfl ?_
  refine j_getR F (k0 := 7) (C := RX5) (T := TX5) (N := 11) lay_0 rfl rfl inF5 (by decide) tw184 dX5_comesWith_1 ?_
  refine j_aload_n F 0 dX5_comesWith_4 rfl ?_
  refine j_getR F (k0 := 1) (C := RX5) (T := TX5) (N := 11) lay_0 rfl rfl inF5 (by decide) tw179 dX5_comesWith_5 ?_
  obtain ⟨S8, hc8, hm⟩ := Option.bind_eq_some_iff.mp hm
  refine j_callV F (n := 1) (As := [.ref (g.2.1 29)]) (rest := []) (c_X3_copyFrom l g hg 65 29 (by decide) (by decide) S S8 hc8) gw_X5_87 (by decide +kernel) ⟨Nat.le_of_ble_eq_true rfl, Nat.le_of_ble_eq_true rfl⟩ ⟨Nat.le_of_ble_eq_true rfl, Nat.le_of_ble_eq_true rfl⟩ (isSt_lay (i := 65) (by decide)).1 rfl rfl rfl (Nat.le_of_ble_eq_true rfl) dX5_comesWith_8 ?_
  show J p l e rmX5_comesWith s m args below meth c g A 3 (MQ below (QC g A (some (.int r)) S') args s 0 0 A) 0 0 11 [(0, .ref (g.2.1 0)), (1, .int v1), (2, .int v2)] [] S8
  refine j_aload_n F 0 dX5_comesWith_11 rfl ?_
  refine j_getR F (k0 := 7) (C := RX5) (T := TX5) (N := 11) lay_0 rfl rfl inF5 (by decide) tw184 dX5_comesWith_12 ?_
  refine j_iload_n F 1 dX5_comesWith_15 rfl ?_
  refine j_putI F (k0 := 2) (C := RX3) (T := TX3) (N := 4) tyX3 tyX3_ok nmX3 (isSt_lay (i := 65) (by decide)).1 rfl rfl inF3 (by decide) tw208 rfl (by decide +kernel) dX5_comesWith_16 ?_
  refine j_bndS hm (fun S16 hm => ?_)
  refine j_aload_n F 0 dX5_comesWith_19 rfl ?_
  refine j_getR F (k0 := 7) (C := RX5) (T := TX5) (N := 11) lay_0 rfl rfl inF5 (by decide) tw184 dX5_comesWith_20 ?_
  refine j_iload_n F 2 dX5_comesWith_23 rfl ?_
  obtain ⟨r24, S24, hc24, hm⟩ := bndE_ok hm
  refine j_callV F (n := 1) (As := [.int v2]) (rest := []) (c_X3_spreadUntil l g hg 65 v2 (by decide) S16 r24 S24 hc24) gw_X5_305 (by decide +kernel) ⟨Nat.le_of_ble_eq_true rfl, Nat.le_of_ble_eq_true rfl⟩ ⟨Nat.le_of_ble_eq_true rfl, Nat.le_of_ble_eq_true rfl⟩ (isSt_lay (i := 65) (by decide)).1 rfl rfl rfl (Nat.le_of_ble_eq_true rfl) dX5_comesWith_24 ?_
  show J p l e rmX5_comesWith s m args below meth c g A 3 (MQ below (QC g A (some (.int r)) S') args s 0 0 A) 0 0 27 [(0, .ref (g.2.1 0)), (1, .int v1), (2, .int v2)] [.int r24] S24
  obtain ⟨hb, hm⟩ := gd_ok hm
  exact j_zret_e F rfl (z_nar hb) dX5_comesWith_27 hm
def m_X5_numberOf (v0 : Int32) : Option (Int32) := (m_X5_ownerOf v0).bind fun r3 => ((m_X5_kindOf v0).bind fun r10 => ((m_X5_objectOf v0).bind fun r16 => (some (((100 * r3) + (10 * r10)) + r16))))
set_option maxRecDepth 100000 in
set_option maxHeartbeats 4000000 in
theorem c_X5_numberOf (l : Launch) (g : GG) (hg : Inj g) (v0 : Int32)  (S : Hs) (r : Int32) (hm : m_X5_numberOf v0 = some r) : CM l yX5_numberOf [.code yX5_numberOf cX5_numberOf 1 (some .int)] rmX5_numberOf [.int v0] g S (some (.int r)) S := by
  unfold m_X5_numberOf at hm
  refine CM.of (cc := cX5_numberOf) (nL := 1) (ret := (some .int)) (lv := [(0, .int v0)]) (by decide +kernel) hg (Nat.le_of_ble_eq_true rfl) rfl (fun p e s m args below meth c A F => ?_)
  replace F : Fx p s m meth c cX5_numberOf RX5 1 (some .int) g A := F
  show J p l e rmX5_numberOf s m args below meth c g A 1 (MQ below (QC g A (some (.int r)) S) args s 0 0 A) 0 0 0 [(0, .int v0)] [] S
  refine j_bipush F (v := 100) dX5_numberOf_0 (by decide) ?_
  refine j_iload_n F 0 dX5_numberOf_2 rfl ?_
  obtain ⟨r3, hc3, hm⟩ := Option.bind_eq_some_iff.mp hm
  refine j_callS F (n := 1) (As := [.int v0]) (rest := [.int 100]) (c_X5_ownerOf l g hg v0 S r3 hc3) gw_X5_265 (by decide +kernel) ⟨Nat.le_of_ble_eq_true rfl, Nat.le_of_ble_eq_true rfl⟩ ⟨Nat.le_of_ble_eq_true rfl, Nat.le_of_ble_eq_true rfl⟩ rfl rfl (Nat.le_of_ble_eq_true rfl) dX5_numberOf_3 ?_
  show J p l e rmX5_numberOf s m args below meth c g A 1 (MQ below (QC g A (some (.int r)) S) args s 0 0 A) 0 0 6 [(0, .int v0)] [.int r3, .int 100] S
  refine j_imul F dX5_numberOf_6 ?_
  refine j_bipush F (v := 10) dX5_numberOf_7 (by decide) ?_
  refine j_iload_n F 0 dX5_numberOf_9 rfl ?_
  obtain ⟨r10, hc10, hm⟩ := Option.bind_eq_some_iff.mp hm
  refine j_callS F (n := 1) (As := [.int v0]) (rest := [.int 10, .int (100 * r3)]) (c_X5_kindOf l g hg v0 S r10 hc10) gw_X5_268 (by decide +kernel) ⟨Nat.le_of_ble_eq_true rfl, Nat.le_of_ble_eq_true rfl⟩ ⟨Nat.le_of_ble_eq_true rfl, Nat.le_of_ble_eq_true rfl⟩ rfl rfl (Nat.le_of_ble_eq_true rfl) dX5_numberOf_10 ?_
  show J p l e rmX5_numberOf s m args below meth c g A 1 (MQ below (QC g A (some (.int r)) S) args s 0 0 A) 0 0 13 [(0, .int v0)] [.int r10, .int 10, .int (100 * r3)] S
  refine j_imul F dX5_numberOf_13 ?_
  refine j_iadd F dX5_numberOf_14 ?_
  refine j_iload_n F 0 dX5_numberOf_15 rfl ?_
  obtain ⟨r16, hc16, hm⟩ := Option.bind_eq_some_iff.mp hm
  refine j_callS F (n := 1) (As := [.int v0]) (rest := [.int ((100 * r3) + (10 * r10))]) (c_X5_objectOf l g hg v0 S r16 hc16) gw_X5_271 (by decide +kernel) ⟨Nat.le_of_ble_eq_true rfl, Nat.le_of_ble_eq_true rfl⟩ ⟨Nat.le_of_ble_eq_true rfl, Nat.le_of_ble_eq_true rfl⟩ rfl rfl (Nat.le_of_ble_eq_true rfl) dX5_numberOf_16 ?_
  show J p l e rmX5_numberOf s m args below meth c g A 1 (MQ below (QC g A (some (.int r)) S) args s 0 0 A) 0 0 19 [(0, .int v0)] [.int r16, .int ((100 * r3) + (10 * r10))] S
  refine j_iadd F dX5_numberOf_19 ?_
  exact j_iret_p F rfl dX5_numberOf_20 hm
def m_X5_sleeper_J79 (v1 : Int32) (v2 : Int32) (v3 : Int32) (S : Hs) : Option ((Int32 × Int32 × Int32 × Hs) ⊕ (Int32 × Hs)) := some (.inl ((v1, v2, v3 + 1, S)))
noncomputable def m_X5_sleeper_L9 (v1 : Int32) (v2 : Int32) (v3 : Int32) (S : Hs) : Option ((Int32 × Int32 × Int32 × Hs) ⊕ (Int32 × Hs)) := if (gI S 29 0) ≤ v3 then (some (.inr ((v1, S)))) else ((m_X3_isAwake 29 v3 S).bind fun r25 => (if r25 = 0 then (m_X5_sleeper_J79 v1 v2 v3 S) else ((m_X3_copyFrom 65 29 S).bind fun S39 => ((m_X3_setAwake 65 v3 0 S39).bind fun S48 => ((m_X3_spreadOut 65 S48).bind fun S55 => ((m_X3_countRights 65 S55).bind fun r62 => (if v2 ≤ r62 then (m_X5_sleeper_J79 v1 v2 v3 S55) else ((m_X3_countRights 65 S55).bind fun r73 => (m_X5_sleeper_J79 v3 r73 v3 S55)))))))))
noncomputable def m_X5_sleeper (S : Hs) : Option (Int32 × Hs) := (loopO (fun x => m_X5_sleeper_L9 x.1 x.2.1 x.2.2.1 x.2.2.2) (((-9), 196, 0, S))).bind fun y9 => some ((y9.1, y9.2))
set_option maxRecDepth 100000 in
set_option maxHeartbeats 4000000 in
theorem c_X5_sleeper (l : Launch) (g : GG) (hg : Inj g)   (S : Hs) (r : Int32) (S' : Hs) (hm : m_X5_sleeper S = some ((r, S'))) : CM l yX5_sleeper [.code yX5_sleeper cX5_sleeper 4 (some .int)] rmX5_sleeper [.ref (g.2.1 0)] g S (some (.int r)) S' := by
  unfold m_X5_sleeper at hm
  refine CM.of (cc := cX5_sleeper) (nL := 4) (ret := (some .int)) (lv := [(0, .ref (g.2.1 0))]) (by decide +kernel) hg (Nat.le_of_ble_eq_true rfl) rfl (fun p e s m args below meth c A F => ?_)
  replace F : Fx p s m meth c cX5_sleeper RX5 4 (some .int) g A := F
  show J p l e rmX5_sleeper s m args below meth c g A 4 (MQ below (QC g A (some (.int r)) S') args s 0 0 A) 0 0 0 [(0, .ref (g.2.1 0))] [] S
  refine j_bipush F (v := -9) dX5_sleeper_0 (by decide) ?_
  refine j_istore_n F (lv' := [(1, .int ((-9))), (0, .ref (g.2.1 0))]) dX5_sleeper_2 (by decide) rfl ?_
  refine j_sipush F (v := 196) dX5_sleeper_3 (by decide) ?_
  refine j_istore_n F (lv' := [(2, .int 196), (1, .int ((-9))), (0, .ref (g.2.1 0))]) dX5_sleeper_6 (by decide) rfl ?_
  refine j_iconst F (v := 0) dX5_sleeper_7 (by decide) ?_
  refine j_istore_n F (lv' := [(3, .int 0), (2, .int 196), (1, .int ((-9))), (0, .ref (g.2.1 0))]) dX5_sleeper_8 (by decide) rfl ?_
  refine j_sub [3, 2, 1, 0] rfl ?_
  obtain ⟨y9, hlp9, hm⟩ := Option.bind_eq_some_iff.mp hm
  refine loopO_walk (fun x => m_X5_sleeper_L9 x.1 x.2.1 x.2.2.1 x.2.2.2) (fun x => J p l e rmX5_sleeper s m args below meth c g A 4 (MQ below (QC g A (some (.int r)) S') args s 0 0 A) 0 0 9 [(0, .ref (g.2.1 0)), (1, .int x.1), (2, .int x.2.1), (3, .int x.2.2.1)] [] x.2.2.2) (fun x => J p l e rmX5_sleeper s m args below meth c g A 4 (MQ below (QC g A (some (.int r)) S') args s 0 0 A) 0 0 85 [(1, .int x.1)] [] x.2) (fun x o1 hm hk1 => ?_) hlp9 ?_
  · obtain ⟨v1, v2, v3, S⟩ := x
    replace hm : m_X5_sleeper_L9 v1 v2 v3 S = some o1 := hm
    show J p l e rmX5_sleeper s m args below meth c g A 4 (MQ below (QC g A (some (.int r)) S') args s 0 0 A) 0 0 9 [(0, .ref (g.2.1 0)), (1, .int v1), (2, .int v2), (3, .int v3)] [] S
    unfold m_X5_sleeper_L9 at hm
    have hj79 : ∀ (v1 : Int32) (v2 : Int32) (v3 : Int32) (S : Hs), m_X5_sleeper_J79 v1 v2 v3 S = some o1 → J p l e rmX5_sleeper s m args below meth c g A 4 (MQ below (QC g A (some (.int r)) S') args s 0 0 A) 0 0 79 [(0, .ref (g.2.1 0)), (1, .int v1), (2, .int v2), (3, .int v3)] [] S := by
      intro v1 v2 v3 S hm
      unfold m_X5_sleeper_J79 at hm
      refine j_iinc F (v := v3 + 1) (lv' := [(3, .int (v3 + 1)), (0, .ref (g.2.1 0)), (1, .int v1), (2, .int v2)]) 3 dX5_sleeper_79 rfl rfl (by decide) rfl ?_
      refine j_goto F (tgt := 9) dX5_sleeper_82 (by decide) ?_
      cases hm
      refine j_sub [1, 2, 3, 0] rfl ?_
      exact hk1
    refine j_iload_n F 3 dX5_sleeper_9 rfl ?_
    refine j_aload_n F 0 dX5_sleeper_10 rfl ?_
    refine j_getR F (k0 := 1) (C := RX5) (T := TX5) (N := 11) lay_0 rfl rfl inF5 (by decide) tw179 dX5_sleeper_11 ?_
    refine j_getI F (k0 := 0) (C := RX3) (T := TX3) (N := 4) (isSt_lay (i := 29) (by decide)).1 rfl rfl inF3 (by decide) tw206 dX5_sleeper_14 ?_
    refine j_icmp_ge F (tgt := 85) dX5_sleeper_17 (by decide) hm (fun _ hm => ?_) (fun _ hm => ?_)
    · cases hm
      refine j_sub [1] rfl ?_
      exact hk1
    · refine j_aload_n F 0 dX5_sleeper_20 rfl ?_
      refine j_getR F (k0 := 1) (C := RX5) (T := TX5) (N := 11) lay_0 rfl rfl inF5 (by decide) tw179 dX5_sleeper_21 ?_
      refine j_iload_n F 3 dX5_sleeper_24 rfl ?_
      obtain ⟨r25, hc25, hm⟩ := Option.bind_eq_some_iff.mp hm
      refine j_callV F (n := 1) (As := [.int v3]) (rest := []) (c_X3_isAwake l g hg 29 v3 (by decide) S r25 hc25) gw_X5_137 (by decide +kernel) ⟨Nat.le_of_ble_eq_true rfl, Nat.le_of_ble_eq_true rfl⟩ ⟨Nat.le_of_ble_eq_true rfl, Nat.le_of_ble_eq_true rfl⟩ (isSt_lay (i := 29) (by decide)).1 rfl rfl rfl (Nat.le_of_ble_eq_true rfl) dX5_sleeper_25 ?_
      show J p l e rmX5_sleeper s m args below meth c g A 4 (MQ below (QC g A (some (.int r)) S') args s 0 0 A) 0 0 28 [(0, .ref (g.2.1 0)), (1, .int v1), (2, .int v2), (3, .int v3)] [.int r25] S
      refine j_if_eq F (tgt := 79) dX5_sleeper_28 (by decide) hm (fun _ hm => ?_) (fun _ hm => ?_)
      · refine j_sub [0, 1, 2, 3] rfl ?_
        exact hj79 v1 v2 v3 S  hm
      · refine j_aload_n F 0 dX5_sleeper_31 rfl ?_
        refine j_getR F (k0 := 7) (C := RX5) (T := TX5) (N := 11) lay_0 rfl rfl inF5 (by decide) tw184 dX5_sleeper_32 ?_
        refine j_aload_n F 0 dX5_sleeper_35 rfl ?_
        refine j_getR F (k0 := 1) (C := RX5) (T := TX5) (N := 11) lay_0 rfl rfl inF5 (by decide) tw179 dX5_sleeper_36 ?_
        obtain ⟨S39, hc39, hm⟩ := Option.bind_eq_some_iff.mp hm
        refine j_callV F (n := 1) (As := [.ref (g.2.1 29)]) (rest := []) (c_X3_copyFrom l g hg 65 29 (by decide) (by decide) S S39 hc39) gw_X5_87 (by decide +kernel) ⟨Nat.le_of_ble_eq_true rfl, Nat.le_of_ble_eq_true rfl⟩ ⟨Nat.le_of_ble_eq_true rfl, Nat.le_of_ble_eq_true rfl⟩ (isSt_lay (i := 65) (by decide)).1 rfl rfl rfl (Nat.le_of_ble_eq_true rfl) dX5_sleeper_39 ?_
        show J p l e rmX5_sleeper s m args below meth c g A 4 (MQ below (QC g A (some (.int r)) S') args s 0 0 A) 0 0 42 [(0, .ref (g.2.1 0)), (1, .int v1), (2, .int v2), (3, .int v3)] [] S39
        refine j_aload_n F 0 dX5_sleeper_42 rfl ?_
        refine j_getR F (k0 := 7) (C := RX5) (T := TX5) (N := 11) lay_0 rfl rfl inF5 (by decide) tw184 dX5_sleeper_43 ?_
        refine j_iload_n F 3 dX5_sleeper_46 rfl ?_
        refine j_iconst F (v := 0) dX5_sleeper_47 (by decide) ?_
        obtain ⟨S48, hc48, hm⟩ := Option.bind_eq_some_iff.mp hm
        refine j_callV F (n := 2) (As := [.int v3, .int 0]) (rest := []) (c_X3_setAwake l g hg 65 v3 0 (by decide) S39 S48 hc48) gw_X5_187 (by decide +kernel) ⟨Nat.le_of_ble_eq_true rfl, Nat.le_of_ble_eq_true rfl⟩ ⟨Nat.le_of_ble_eq_true rfl, Nat.le_of_ble_eq_true rfl⟩ (isSt_lay (i := 65) (by decide)).1 rfl rfl rfl (Nat.le_of_ble_eq_true rfl) dX5_sleeper_48 ?_
        show J p l e rmX5_sleeper s m args below meth c g A 4 (MQ below (QC g A (some (.int r)) S') args s 0 0 A) 0 0 51 [(0, .ref (g.2.1 0)), (1, .int v1), (2, .int v2), (3, .int v3)] [] S48
        refine j_aload_n F 0 dX5_sleeper_51 rfl ?_
        refine j_getR F (k0 := 7) (C := RX5) (T := TX5) (N := 11) lay_0 rfl rfl inF5 (by decide) tw184 dX5_sleeper_52 ?_
        obtain ⟨S55, hc55, hm⟩ := Option.bind_eq_some_iff.mp hm
        refine j_callV F (n := 0) (As := []) (rest := []) (c_X3_spreadOut l g hg 65 (by decide) S48 S55 hc55) gw_X5_231 (by decide +kernel) ⟨Nat.le_of_ble_eq_true rfl, Nat.le_of_ble_eq_true rfl⟩ ⟨Nat.le_of_ble_eq_true rfl, Nat.le_of_ble_eq_true rfl⟩ (isSt_lay (i := 65) (by decide)).1 rfl rfl rfl (Nat.le_of_ble_eq_true rfl) dX5_sleeper_55 ?_
        show J p l e rmX5_sleeper s m args below meth c g A 4 (MQ below (QC g A (some (.int r)) S') args s 0 0 A) 0 0 58 [(0, .ref (g.2.1 0)), (1, .int v1), (2, .int v2), (3, .int v3)] [] S55
        refine j_aload_n F 0 dX5_sleeper_58 rfl ?_
        refine j_getR F (k0 := 7) (C := RX5) (T := TX5) (N := 11) lay_0 rfl rfl inF5 (by decide) tw184 dX5_sleeper_59 ?_
        obtain ⟨r62, hc62, hm⟩ := Option.bind_eq_some_iff.mp hm
        refine j_callV F (n := 0) (As := []) (rest := []) (c_X3_countRights l g hg 65 (by decide) S55 r62 hc62) gw_X5_109 (by decide +kernel) ⟨Nat.le_of_ble_eq_true rfl, Nat.le_of_ble_eq_true rfl⟩ ⟨Nat.le_of_ble_eq_true rfl, Nat.le_of_ble_eq_true rfl⟩ (isSt_lay (i := 65) (by decide)).1 rfl rfl rfl (Nat.le_of_ble_eq_true rfl) dX5_sleeper_62 ?_
        show J p l e rmX5_sleeper s m args below meth c g A 4 (MQ below (QC g A (some (.int r)) S') args s 0 0 A) 0 0 65 [(0, .ref (g.2.1 0)), (1, .int v1), (2, .int v2), (3, .int v3)] [.int r62] S55
        refine j_iload_n F 2 dX5_sleeper_65 rfl ?_
        refine j_icmp_ge F (tgt := 79) dX5_sleeper_66 (by decide) hm (fun _ hm => ?_) (fun _ hm => ?_)
        · refine j_sub [0, 1, 2, 3] rfl ?_
          exact hj79 v1 v2 v3 S55  hm
        · refine j_aload_n F 0 dX5_sleeper_69 rfl ?_
          refine j_getR F (k0 := 7) (C := RX5) (T := TX5) (N := 11) lay_0 rfl rfl inF5 (by decide) tw184 dX5_sleeper_70 ?_
          obtain ⟨r73, hc73, hm⟩ := Option.bind_eq_some_iff.mp hm
          refine j_callV F (n := 0) (As := []) (rest := []) (c_X3_countRights l g hg 65 (by decide) S55 r73 hc73) gw_X5_109 (by decide +kernel) ⟨Nat.le_of_ble_eq_true rfl, Nat.le_of_ble_eq_true rfl⟩ ⟨Nat.le_of_ble_eq_true rfl, Nat.le_of_ble_eq_true rfl⟩ (isSt_lay (i := 65) (by decide)).1 rfl rfl rfl (Nat.le_of_ble_eq_true rfl) dX5_sleeper_73 ?_
          show J p l e rmX5_sleeper s m args below meth c g A 4 (MQ below (QC g A (some (.int r)) S') args s 0 0 A) 0 0 76 [(0, .ref (g.2.1 0)), (1, .int v1), (2, .int v2), (3, .int v3)] [.int r73] S55
          refine j_istore_n F (lv' := [(2, .int r73), (0, .ref (g.2.1 0)), (1, .int v1), (3, .int v3)]) dX5_sleeper_76 (by decide) rfl ?_
          refine j_iload_n F 3 dX5_sleeper_77 rfl ?_
          refine j_istore_n F (lv' := [(1, .int v3), (2, .int r73), (0, .ref (g.2.1 0)), (3, .int v3)]) dX5_sleeper_78 (by decide) rfl ?_
          refine j_sub [2, 0, 1, 3] rfl ?_
          exact hj79 v3 r73 v3 S55  hm
  · show J p l e rmX5_sleeper s m args below meth c g A 4 (MQ below (QC g A (some (.int r)) S') args s 0 0 A) 0 0 85 [(1, .int y9.1)] [] y9.2
    refine j_iload_n F 0 dX5_sleeper_85 rfl ?_
    exact j_iret_e F rfl dX5_sleeper_86 hm
noncomputable def m_X5_countAtEndWith (v1 : Int32) (S : Hs) : Option (Int32 × Hs) := (m_X2_comes v1 S).bind fun r5 => (if r5 = 0 then ((m_X3_copyFrom 65 67 S).bind fun S33 => ((m_X3_put 65 v1 1 S33).bind fun S42 => ((m_X3_spreadOut 65 S42).bind fun S49 => ((m_X3_countRights 65 S49).bind fun r56 => (some ((r56, S49))))))) else ((m_X3_countRights 67 S).bind fun r18 => (some ((r18, S)))))
set_option maxRecDepth 100000 in
set_option maxHeartbeats 4000000 in
theorem c_X5_countAtEndWith (l : Launch) (g : GG) (hg : Inj g) (v1 : Int32)  (S : Hs) (r : Int32) (S' : Hs) (hm : m_X5_countAtEndWith v1 S = some ((r, S'))) : CM l yX5_countAtEndWith [.code yX5_countAtEndWith cX5_countAtEndWith 2 (some .int)] rmX5_countAtEndWith [.ref (g.2.1 0), .int v1] g S (some (.int r)) S' := by
  unfold m_X5_countAtEndWith at hm
  refine CM.of (cc := cX5_countAtEndWith) (nL := 2) (ret := (some .int)) (lv := [(0, .ref (g.2.1 0)), (1, .int v1)]) (by decide +kernel) hg (Nat.le_of_ble_eq_true rfl) rfl (fun p e s m args below meth c A F => ?_)
  replace F : Fx p s m meth c cX5_countAtEndWith RX5 2 (some .int) g A := F
  show J p l e rmX5_countAtEndWith s m args below meth c g A 2 (MQ below (QC g A (some (.int r)) S') args s 0 0 A) 0 0 0 [(0, .ref (g.2.1 0)), (1, .int v1)] [] S
  refine j_aload_n F 0 dX5_countAtEndWith_0 rfl ?_
  refine j_getR F (k0 := 8) (C := RX5) (T := TX5) (N := 11) lay_0 rfl rfl inF5 (by decide) tw187 dX5_countAtEndWith_1 ?_
  refine j_iload_n F 1 dX5_countAtEndWith_4 rfl ?_
  obtain ⟨r5, hc5, hm⟩ := Option.bind_eq_some_iff.mp hm
  refine j_callV F (n := 1) (As := [.int v1]) (rest := []) (c_X2_comes l g hg v1 S r5 hc5) gw_X5_161 (by decide +kernel) ⟨Nat.le_of_ble_eq_true rfl, Nat.le_of_ble_eq_true rfl⟩ ⟨Nat.le_of_ble_eq_true rfl, Nat.le_of_ble_eq_true rfl⟩ lay_6 rfl rfl rfl (Nat.le_of_ble_eq_true rfl) dX5_countAtEndWith_5 ?_
  show J p l e rmX5_countAtEndWith s m args below meth c g A 2 (MQ below (QC g A (some (.int r)) S') args s 0 0 A) 0 0 8 [(0, .ref (g.2.1 0)), (1, .int v1)] [.int r5] S
  refine j_if_eq F (tgt := 22) dX5_countAtEndWith_8 (by decide) hm (fun _ hm => ?_) (fun _ hm => ?_)
  · refine j_aload_n F 0 dX5_countAtEndWith_22 rfl ?_
    refine j_getR F (k0 := 7) (C := RX5) (T := TX5) (N := 11) lay_0 rfl rfl inF5 (by decide) tw184 dX5_countAtEndWith_23 ?_
    refine j_aload_n F 0 dX5_countAtEndWith_26 rfl ?_
    refine j_getR F (k0 := 8) (C := RX5) (T := TX5) (N := 11) lay_0 rfl rfl inF5 (by decide) tw187 dX5_countAtEndWith_27 ?_
    refine j_getR F (k0 := 0) (C := RX2) (T := TX2) (N := 7) lay_6 rfl rfl inF2 (by decide) tw298 dX5_countAtEndWith_30 ?_
    obtain ⟨S33, hc33, hm⟩ := Option.bind_eq_some_iff.mp hm
    refine j_callV F (n := 1) (As := [.ref (g.2.1 67)]) (rest := []) (c_X3_copyFrom l g hg 65 67 (by decide) (by decide) S S33 hc33) gw_X5_87 (by decide +kernel) ⟨Nat.le_of_ble_eq_true rfl, Nat.le_of_ble_eq_true rfl⟩ ⟨Nat.le_of_ble_eq_true rfl, Nat.le_of_ble_eq_true rfl⟩ (isSt_lay (i := 65) (by decide)).1 rfl rfl rfl (Nat.le_of_ble_eq_true rfl) dX5_countAtEndWith_33 ?_
    show J p l e rmX5_countAtEndWith s m args below meth c g A 2 (MQ below (QC g A (some (.int r)) S') args s 0 0 A) 0 0 36 [(0, .ref (g.2.1 0)), (1, .int v1)] [] S33
    refine j_aload_n F 0 dX5_countAtEndWith_36 rfl ?_
    refine j_getR F (k0 := 7) (C := RX5) (T := TX5) (N := 11) lay_0 rfl rfl inF5 (by decide) tw184 dX5_countAtEndWith_37 ?_
    refine j_iload_n F 1 dX5_countAtEndWith_40 rfl ?_
    refine j_iconst F (v := 1) dX5_countAtEndWith_41 (by decide) ?_
    obtain ⟨S42, hc42, hm⟩ := Option.bind_eq_some_iff.mp hm
    refine j_callV F (n := 2) (As := [.int v1, .int 1]) (rest := []) (c_X3_put l g hg 65 v1 1 (by decide) S33 S42 hc42) gw_X5_196 (by decide +kernel) ⟨Nat.le_of_ble_eq_true rfl, Nat.le_of_ble_eq_true rfl⟩ ⟨Nat.le_of_ble_eq_true rfl, Nat.le_of_ble_eq_true rfl⟩ (isSt_lay (i := 65) (by decide)).1 rfl rfl rfl (Nat.le_of_ble_eq_true rfl) dX5_countAtEndWith_42 ?_
    show J p l e rmX5_countAtEndWith s m args below meth c g A 2 (MQ below (QC g A (some (.int r)) S') args s 0 0 A) 0 0 45 [(0, .ref (g.2.1 0)), (1, .int v1)] [] S42
    refine j_aload_n F 0 dX5_countAtEndWith_45 rfl ?_
    refine j_getR F (k0 := 7) (C := RX5) (T := TX5) (N := 11) lay_0 rfl rfl inF5 (by decide) tw184 dX5_countAtEndWith_46 ?_
    obtain ⟨S49, hc49, hm⟩ := Option.bind_eq_some_iff.mp hm
    refine j_callV F (n := 0) (As := []) (rest := []) (c_X3_spreadOut l g hg 65 (by decide) S42 S49 hc49) gw_X5_231 (by decide +kernel) ⟨Nat.le_of_ble_eq_true rfl, Nat.le_of_ble_eq_true rfl⟩ ⟨Nat.le_of_ble_eq_true rfl, Nat.le_of_ble_eq_true rfl⟩ (isSt_lay (i := 65) (by decide)).1 rfl rfl rfl (Nat.le_of_ble_eq_true rfl) dX5_countAtEndWith_49 ?_
    show J p l e rmX5_countAtEndWith s m args below meth c g A 2 (MQ below (QC g A (some (.int r)) S') args s 0 0 A) 0 0 52 [(0, .ref (g.2.1 0)), (1, .int v1)] [] S49
    refine j_aload_n F 0 dX5_countAtEndWith_52 rfl ?_
    refine j_getR F (k0 := 7) (C := RX5) (T := TX5) (N := 11) lay_0 rfl rfl inF5 (by decide) tw184 dX5_countAtEndWith_53 ?_
    obtain ⟨r56, hc56, hm⟩ := Option.bind_eq_some_iff.mp hm
    refine j_callV F (n := 0) (As := []) (rest := []) (c_X3_countRights l g hg 65 (by decide) S49 r56 hc56) gw_X5_109 (by decide +kernel) ⟨Nat.le_of_ble_eq_true rfl, Nat.le_of_ble_eq_true rfl⟩ ⟨Nat.le_of_ble_eq_true rfl, Nat.le_of_ble_eq_true rfl⟩ (isSt_lay (i := 65) (by decide)).1 rfl rfl rfl (Nat.le_of_ble_eq_true rfl) dX5_countAtEndWith_56 ?_
    show J p l e rmX5_countAtEndWith s m args below meth c g A 2 (MQ below (QC g A (some (.int r)) S') args s 0 0 A) 0 0 59 [(0, .ref (g.2.1 0)), (1, .int v1)] [.int r56] S49
    exact j_iret_e F rfl dX5_countAtEndWith_59 hm
  · refine j_aload_n F 0 dX5_countAtEndWith_11 rfl ?_
    refine j_getR F (k0 := 8) (C := RX5) (T := TX5) (N := 11) lay_0 rfl rfl inF5 (by decide) tw187 dX5_countAtEndWith_12 ?_
    refine j_getR F (k0 := 0) (C := RX2) (T := TX2) (N := 7) lay_6 rfl rfl inF2 (by decide) tw298 dX5_countAtEndWith_15 ?_
    obtain ⟨r18, hc18, hm⟩ := Option.bind_eq_some_iff.mp hm
    refine j_callV F (n := 0) (As := []) (rest := []) (c_X3_countRights l g hg 67 (by decide) S r18 hc18) gw_X5_109 (by decide +kernel) ⟨Nat.le_of_ble_eq_true rfl, Nat.le_of_ble_eq_true rfl⟩ ⟨Nat.le_of_ble_eq_true rfl, Nat.le_of_ble_eq_true rfl⟩ (isSt_lay (i := 67) (by decide)).1 rfl rfl rfl (Nat.le_of_ble_eq_true rfl) dX5_countAtEndWith_18 ?_
    show J p l e rmX5_countAtEndWith s m args below meth c g A 2 (MQ below (QC g A (some (.int r)) S') args s 0 0 A) 0 0 21 [(0, .ref (g.2.1 0)), (1, .int v1)] [.int r18] S
    exact j_iret_e F rfl dX5_countAtEndWith_21 hm
def m_X5_danger_J68 (v1 : Int32) (v2 : Int32) (v3 : Int32) (S : Hs) : Option ((Int32 × Int32 × Int32 × Hs) ⊕ (Int32 × Hs)) := some (.inl ((v1, v2, v3 + 1, S)))
noncomputable def m_X5_danger_L18 (v1 : Int32) (v2 : Int32) (v3 : Int32) (S : Hs) : Option ((Int32 × Int32 × Int32 × Hs) ⊕ (Int32 × Hs)) := if 196 ≤ v3 then (some (.inr ((v1, S)))) else ((m_X3_isRightIndex 29 v3 S).bind fun r30 => (if r30 = 0 then (m_X5_danger_J68 v1 v2 v3 S) else ((m_X3_has 29 v3 S).bind fun r41 => (if r41 = 0 then (bndE (m_X5_countAtEndWith v3 S) fun r49 S49 => (if r49 ≤ v2 then (m_X5_danger_J68 v1 v2 v3 S49) else ((m_X5_numberOf v3).bind fun r64 => (m_X5_danger_J68 r64 r49 v3 S49)))) else (m_X5_danger_J68 v1 v2 v3 S)))))
noncomputable def m_X5_danger (S : Hs) : Option (Int32 × Hs) := (m_X2_follow 29 S).bind fun S8 => ((loopO (fun x => m_X5_danger_L18 x.1 x.2.1 x.2.2.1 x.2.2.2) (((-9), (-1), 0, S8))).bind fun y18 => some ((y18.1, y18.2)))
set_option maxRecDepth 100000 in
set_option maxHeartbeats 4000000 in
theorem c_X5_danger (l : Launch) (g : GG) (hg : Inj g)   (S : Hs) (r : Int32) (S' : Hs) (hm : m_X5_danger S = some ((r, S'))) : CM l yX5_danger [.code yX5_danger cX5_danger 5 (some .int)] rmX5_danger [.ref (g.2.1 0)] g S (some (.int r)) S' := by
  unfold m_X5_danger at hm
  refine CM.of (cc := cX5_danger) (nL := 5) (ret := (some .int)) (lv := [(0, .ref (g.2.1 0))]) (by decide +kernel) hg (Nat.le_of_ble_eq_true rfl) rfl (fun p e s m args below meth c A F => ?_)
  replace F : Fx p s m meth c cX5_danger RX5 5 (some .int) g A := F
  show J p l e rmX5_danger s m args below meth c g A 5 (MQ below (QC g A (some (.int r)) S') args s 0 0 A) 0 0 0 [(0, .ref (g.2.1 0))] [] S
  refine j_aload_n F 0 dX5_danger_0 rfl ?_
  refine j_getR F (k0 := 8) (C := RX5) (T := TX5) (N := 11) lay_0 rfl rfl inF5 (by decide) tw187 dX5_danger_1 ?_
  refine j_aload_n F 0 dX5_danger_4 rfl ?_
  refine j_getR F (k0 := 1) (C := RX5) (T := TX5) (N := 11) lay_0 rfl rfl inF5 (by decide) tw179 dX5_danger_5 ?_
  obtain ⟨S8, hc8, hm⟩ := Option.bind_eq_some_iff.mp hm
  refine j_callV F (n := 1) (As := [.ref (g.2.1 29)]) (rest := []) (c_X2_follow l g hg 29 (by decide) S S8 hc8) gw_X5_117 (by decide +kernel) ⟨Nat.le_of_ble_eq_true rfl, Nat.le_of_ble_eq_true rfl⟩ ⟨Nat.le_of_ble_eq_true rfl, Nat.le_of_ble_eq_true rfl⟩ lay_6 rfl rfl rfl (Nat.le_of_ble_eq_true rfl) dX5_danger_8 ?_
  show J p l e rmX5_danger s m args below meth c g A 5 (MQ below (QC g A (some (.int r)) S') args s 0 0 A) 0 0 11 [(0, .ref (g.2.1 0))] [] S8
  refine j_bipush F (v := -9) dX5_danger_11 (by decide) ?_
  refine j_istore_n F (lv' := [(1, .int ((-9))), (0, .ref (g.2.1 0))]) dX5_danger_13 (by decide) rfl ?_
  refine j_iconst F (v := -1) dX5_danger_14 (by decide) ?_
  refine j_istore_n F (lv' := [(2, .int ((-1))), (1, .int ((-9))), (0, .ref (g.2.1 0))]) dX5_danger_15 (by decide) rfl ?_
  refine j_iconst F (v := 0) dX5_danger_16 (by decide) ?_
  refine j_istore_n F (lv' := [(3, .int 0), (2, .int ((-1))), (1, .int ((-9))), (0, .ref (g.2.1 0))]) dX5_danger_17 (by decide) rfl ?_
  refine j_sub [3, 2, 1, 0] rfl ?_
  obtain ⟨y18, hlp18, hm⟩ := Option.bind_eq_some_iff.mp hm
  refine loopO_walk (fun x => m_X5_danger_L18 x.1 x.2.1 x.2.2.1 x.2.2.2) (fun x => J p l e rmX5_danger s m args below meth c g A 5 (MQ below (QC g A (some (.int r)) S') args s 0 0 A) 0 0 18 [(0, .ref (g.2.1 0)), (1, .int x.1), (2, .int x.2.1), (3, .int x.2.2.1)] [] x.2.2.2) (fun x => J p l e rmX5_danger s m args below meth c g A 5 (MQ below (QC g A (some (.int r)) S') args s 0 0 A) 0 0 74 [(1, .int x.1)] [] x.2) (fun x o1 hm hk1 => ?_) hlp18 ?_
  · obtain ⟨v1, v2, v3, S⟩ := x
    replace hm : m_X5_danger_L18 v1 v2 v3 S = some o1 := hm
    show J p l e rmX5_danger s m args below meth c g A 5 (MQ below (QC g A (some (.int r)) S') args s 0 0 A) 0 0 18 [(0, .ref (g.2.1 0)), (1, .int v1), (2, .int v2), (3, .int v3)] [] S
    unfold m_X5_danger_L18 at hm
    have hj68 : ∀ (v1 : Int32) (v2 : Int32) (v3 : Int32) (S : Hs), m_X5_danger_J68 v1 v2 v3 S = some o1 → J p l e rmX5_danger s m args below meth c g A 5 (MQ below (QC g A (some (.int r)) S') args s 0 0 A) 0 0 68 [(0, .ref (g.2.1 0)), (1, .int v1), (2, .int v2), (3, .int v3)] [] S := by
      intro v1 v2 v3 S hm
      unfold m_X5_danger_J68 at hm
      refine j_iinc F (v := v3 + 1) (lv' := [(3, .int (v3 + 1)), (0, .ref (g.2.1 0)), (1, .int v1), (2, .int v2)]) 3 dX5_danger_68 rfl rfl (by decide) rfl ?_
      refine j_goto F (tgt := 18) dX5_danger_71 (by decide) ?_
      cases hm
      refine j_sub [1, 2, 3, 0] rfl ?_
      exact hk1
    refine j_iload_n F 3 dX5_danger_18 rfl ?_
    refine j_sipush F (v := 196) dX5_danger_19 (by decide) ?_
    refine j_icmp_ge F (tgt := 74) dX5_danger_22 (by decide) hm (fun _ hm => ?_) (fun _ hm => ?_)
    · cases hm
      refine j_sub [1] rfl ?_
      exact hk1
    · refine j_aload_n F 0 dX5_danger_25 rfl ?_
      refine j_getR F (k0 := 1) (C := RX5) (T := TX5) (N := 11) lay_0 rfl rfl inF5 (by decide) tw179 dX5_danger_26 ?_
      refine j_iload_n F 3 dX5_danger_29 rfl ?_
      obtain ⟨r30, hc30, hm⟩ := Option.bind_eq_some_iff.mp hm
      refine j_callV F (n := 1) (As := [.int v3]) (rest := []) (c_X3_isRightIndex l g hg 29 v3 (by decide) S r30 hc30) gw_X5_234 (by decide +kernel) ⟨Nat.le_of_ble_eq_true rfl, Nat.le_of_ble_eq_true rfl⟩ ⟨Nat.le_of_ble_eq_true rfl, Nat.le_of_ble_eq_true rfl⟩ (isSt_lay (i := 29) (by decide)).1 rfl rfl rfl (Nat.le_of_ble_eq_true rfl) dX5_danger_30 ?_
      show J p l e rmX5_danger s m args below meth c g A 5 (MQ below (QC g A (some (.int r)) S') args s 0 0 A) 0 0 33 [(0, .ref (g.2.1 0)), (1, .int v1), (2, .int v2), (3, .int v3)] [.int r30] S
      refine j_if_eq F (tgt := 68) dX5_danger_33 (by decide) hm (fun _ hm => ?_) (fun _ hm => ?_)
      · refine j_sub [0, 1, 2, 3] rfl ?_
        exact hj68 v1 v2 v3 S  hm
      · refine j_aload_n F 0 dX5_danger_36 rfl ?_
        refine j_getR F (k0 := 1) (C := RX5) (T := TX5) (N := 11) lay_0 rfl rfl inF5 (by decide) tw179 dX5_danger_37 ?_
        refine j_iload_n F 3 dX5_danger_40 rfl ?_
        obtain ⟨r41, hc41, hm⟩ := Option.bind_eq_some_iff.mp hm
        refine j_callV F (n := 1) (As := [.int v3]) (rest := []) (c_X3_has l g hg 29 v3 (by decide) S r41 hc41) gw_X5_158 (by decide +kernel) ⟨Nat.le_of_ble_eq_true rfl, Nat.le_of_ble_eq_true rfl⟩ ⟨Nat.le_of_ble_eq_true rfl, Nat.le_of_ble_eq_true rfl⟩ (isSt_lay (i := 29) (by decide)).1 rfl rfl rfl (Nat.le_of_ble_eq_true rfl) dX5_danger_41 ?_
        show J p l e rmX5_danger s m args below meth c g A 5 (MQ below (QC g A (some (.int r)) S') args s 0 0 A) 0 0 44 [(0, .ref (g.2.1 0)), (1, .int v1), (2, .int v2), (3, .int v3)] [.int r41] S
        refine j_if_ne F (tgt := 68) dX5_danger_44 (by decide) hm (fun _ hm => ?_) (fun _ hm => ?_)
        · refine j_sub [0, 1, 2, 3] rfl ?_
          exact hj68 v1 v2 v3 S  hm
        · refine j_aload_n F 0 dX5_danger_47 rfl ?_
          refine j_iload_n F 3 dX5_danger_48 rfl ?_
          obtain ⟨r49, S49, hc49, hm⟩ := bndE_ok hm
          refine j_callV F (n := 1) (As := [.int v3]) (rest := []) (c_X5_countAtEndWith l g hg v3 S r49 S49 hc49) gw_X5_237 (by decide +kernel) ⟨Nat.le_of_ble_eq_true rfl, Nat.le_of_ble_eq_true rfl⟩ ⟨Nat.le_of_ble_eq_true rfl, Nat.le_of_ble_eq_true rfl⟩ lay_0 rfl rfl rfl (Nat.le_of_ble_eq_true rfl) dX5_danger_49 ?_
          show J p l e rmX5_danger s m args below meth c g A 5 (MQ below (QC g A (some (.int r)) S') args s 0 0 A) 0 0 52 [(0, .ref (g.2.1 0)), (1, .int v1), (2, .int v2), (3, .int v3)] [.int r49] S49
          refine j_istore F (lv' := [(4, .int r49), (0, .ref (g.2.1 0)), (1, .int v1), (2, .int v2), (3, .int v3)]) dX5_danger_52 (by decide) rfl ?_
          refine j_iload F 0 dX5_danger_54 rfl ?_
          refine j_iload_n F 3 dX5_danger_56 rfl ?_
          refine j_icmp_le F (tgt := 68) dX5_danger_57 (by decide) hm (fun _ hm => ?_) (fun _ hm => ?_)
          · refine j_sub [1, 2, 3, 4] rfl ?_
            exact hj68 v1 v2 v3 S49  hm
          · refine j_iload F 0 dX5_danger_60 rfl ?_
            refine j_istore_n F (lv' := [(2, .int r49), (4, .int r49), (0, .ref (g.2.1 0)), (1, .int v1), (3, .int v3)]) dX5_danger_62 (by decide) rfl ?_
            refine j_iload_n F 4 dX5_danger_63 rfl ?_
            obtain ⟨r64, hc64, hm⟩ := Option.bind_eq_some_iff.mp hm
            refine j_callS F (n := 1) (As := [.int v3]) (rest := []) (c_X5_numberOf l g hg v3 S49 r64 hc64) gw_X5_228 (by decide +kernel) ⟨Nat.le_of_ble_eq_true rfl, Nat.le_of_ble_eq_true rfl⟩ ⟨Nat.le_of_ble_eq_true rfl, Nat.le_of_ble_eq_true rfl⟩ rfl rfl (Nat.le_of_ble_eq_true rfl) dX5_danger_64 ?_
            show J p l e rmX5_danger s m args below meth c g A 5 (MQ below (QC g A (some (.int r)) S') args s 0 0 A) 0 0 67 [(2, .int r49), (4, .int r49), (0, .ref (g.2.1 0)), (1, .int v1), (3, .int v3)] [.int r64] S49
            refine j_istore_n F (lv' := [(1, .int r64), (2, .int r49), (4, .int r49), (0, .ref (g.2.1 0)), (3, .int v3)]) dX5_danger_67 (by decide) rfl ?_
            refine j_sub [3, 0, 1, 4] rfl ?_
            exact hj68 r64 r49 v3 S49  hm
  · show J p l e rmX5_danger s m args below meth c g A 5 (MQ below (QC g A (some (.int r)) S') args s 0 0 A) 0 0 74 [(1, .int y18.1)] [] y18.2
    refine j_iload_n F 0 dX5_danger_74 rfl ?_
    exact j_iret_e F rfl dX5_danger_75 hm
