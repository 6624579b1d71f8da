def m_X5_clearText (S : Hs) : Option (Int32 × Hs) := bnd (gI S 1 1) fun v1_7 => (bnd (sI S 1 1 0) fun S13 => (some ((v1_7, S13))))
set_option maxRecDepth 100000 in
set_option maxHeartbeats 4000000 in
theorem c_X5_clearText (l : Launch) (g : GG) (hg : Inj g)   (S : Hs) (r : Int32) (S' : Hs) (hm : m_X5_clearText S = some ((r, S'))) : CM l yX5_clearText [.code yX5_clearText cX5_clearText 2 (some .int)] rmX5_clearText [.ref (g.2.1 0)] g S (some (.int r)) S' := by
  unfold m_X5_clearText at hm
  refine CM.of (cc := cX5_clearText) (nL := 2) (ret := (some .int)) (lv := [(0, .ref (g.2.1 0))]) (by decide +kernel) hg (Nat.le_of_ble_eq_true rfl) rfl (fun p e s m args below meth c A F => ?_)
  replace F : Fx p s m meth c cX5_clearText RX5 2 (some .int) g A := F
  show J p l e rmX5_clearText s m args below meth c g A 2 (MQ below (QC g A (some (.int r)) S') args s 0 0 A) 0 0 0 [(0, .ref (g.2.1 0))] [] S
  refine j_aload_n F 0 dX5_clearText_0 rfl ?_
  refine j_getR F (k0 := 0) (C := RX5) (T := TX5) (N := 11) rfl rfl rfl inF5 (by decide) tw314 dX5_clearText_1 ?_
  refine j_getI F (k0 := 1) (C := RX4) (T := TX4) (N := 2) rfl rfl rfl inF4 (by decide) tw340 dX5_clearText_4 ?_
  refine j_bnd hm (fun v1_7 hm => ?_)
  refine j_istore_n F (lv' := [(1, .int v1_7), (0, .ref (g.2.1 0))]) dX5_clearText_7 (by decide) rfl ?_
  refine j_aload_n F 1 dX5_clearText_8 rfl ?_
  refine j_getR F (k0 := 0) (C := RX5) (T := TX5) (N := 11) rfl rfl rfl inF5 (by decide) tw314 dX5_clearText_9 ?_
  refine j_iconst F (v := 0) dX5_clearText_12 (by decide) ?_
  refine j_putI F (k0 := 1) (C := RX4) (T := TX4) (N := 2) tyX4 tyX4_ok nmX4 rfl rfl rfl inF4 (by decide) tw340 rfl (by decide +kernel) dX5_clearText_13 ?_
  refine j_bndS hm (fun S13 hm => ?_)
  refine j_iload_n F 0 dX5_clearText_16 rfl ?_
  exact j_iret_e F rfl dX5_clearText_17 hm
noncomputable def m_X5_errorPosition (S : Hs) : Option (Int32 × Hs) := bndE (m_X4_readInto 63 S) fun r8 S8 => (some ((r8, S8)))
set_option maxRecDepth 100000 in
set_option maxHeartbeats 4000000 in
theorem c_X5_errorPosition (l : Launch) (g : GG) (hg : Inj g)   (S : Hs) (r : Int32) (S' : Hs) (hm : m_X5_errorPosition S = some ((r, S'))) : CM l yX5_errorPosition [.code yX5_errorPosition cX5_errorPosition 1 (some .int)] rmX5_errorPosition [.ref (g.2.1 0)] g S (some (.int r)) S' := by
  unfold m_X5_errorPosition at hm
  refine CM.of (cc := cX5_errorPosition) (nL := 1) (ret := (some .int)) (lv := [(0, .ref (g.2.1 0))]) (by decide +kernel) hg (Nat.le_of_ble_eq_true rfl) rfl (fun p e s m args below meth c A F => ?_)
  replace F : Fx p s m meth c cX5_errorPosition RX5 1 (some .int) g A := F
  show J p l e rmX5_errorPosition s m args below meth c g A 1 (MQ below (QC g A (some (.int r)) S') args s 0 0 A) 0 0 0 [(0, .ref (g.2.1 0))] [] S
  refine j_aload_n F 0 dX5_errorPosition_0 rfl ?_
  refine j_getR F (k0 := 0) (C := RX5) (T := TX5) (N := 11) rfl rfl rfl inF5 (by decide) tw314 dX5_errorPosition_1 ?_
  refine j_aload_n F 0 dX5_errorPosition_4 rfl ?_
  refine j_getR F (k0 := 6) (C := RX5) (T := TX5) (N := 11) rfl rfl rfl inF5 (by decide) tw320 dX5_errorPosition_5 ?_
  obtain ⟨r8, S8, hc8, hm⟩ := bndE_ok hm
  refine j_callV F (n := 1) (As := [.ref (g.2.1 63)]) (rest := []) (c_X4_readInto l g hg 63 (by decide) S r8 S8 hc8) gw_X5_81 (by decide +kernel) ⟨Nat.le_of_ble_eq_true rfl, Nat.le_of_ble_eq_true rfl⟩ ⟨Nat.le_of_ble_eq_true rfl, Nat.le_of_ble_eq_true rfl⟩ rfl rfl rfl rfl (Nat.le_of_ble_eq_true rfl) dX5_errorPosition_8 ?_
  show J p l e rmX5_errorPosition s m args below meth c g A 1 (MQ below (QC g A (some (.int r)) S') args s 0 0 A) 0 0 11 [(0, .ref (g.2.1 0))] [.int r8] S8
  exact j_iret_e F rfl dX5_errorPosition_11 hm
noncomputable def m_X5_endOf (v1 : Nat) (S : Hs) : Option (Nat × Hs) := (m_X3_copyFrom 65 v1 S).bind fun S5 => ((m_X3_spreadOut 65 S5).bind fun S12 => (some ((65, S12))))
set_option maxRecDepth 100000 in
set_option maxHeartbeats 4000000 in
theorem c_X5_endOf (l : Launch) (g : GG) (hg : Inj g) (v1 : Nat) (hv1 : isSt v1 = true) (S : Hs) (r : Nat) (S' : Hs) (hm : m_X5_endOf v1 S = some ((r, S'))) : CM l yX5_endOf [.code yX5_endOf cX5_endOf 2 (some (.object "AccessSpread$State"))] rmX5_endOf [.ref (g.2.1 0), .ref (g.2.1 v1)] g S (some (.ref (g.2.1 r))) S' := by
  unfold m_X5_endOf at hm
  refine CM.of (cc := cX5_endOf) (nL := 2) (ret := (some (.object "AccessSpread$State"))) (lv := [(0, .ref (g.2.1 0)), (1, .ref (g.2.1 v1))]) (by decide +kernel) hg (Nat.le_of_ble_eq_true rfl) rfl (fun p e s m args below meth c A F => ?_)
  replace F : Fx p s m meth c cX5_endOf RX5 2 (some (.object "AccessSpread$State")) g A := F
  show J p l e rmX5_endOf s m args below meth c g A 2 (MQ below (QC g A (some (.ref (g.2.1 r))) S') args s 0 0 A) 0 0 0 [(0, .ref (g.2.1 0)), (1, .ref (g.2.1 v1))] [] S
  refine j_aload_n F 0 dX5_endOf_0 rfl ?_
  refine j_getR F (k0 := 7) (C := RX5) (T := TX5) (N := 11) rfl rfl rfl inF5 (by decide) tw321 dX5_endOf_1 ?_
  refine j_aload_n F 1 dX5_endOf_4 rfl ?_
  obtain ⟨S5, hc5, hm⟩ := Option.bind_eq_some_iff.mp hm
  refine j_callV F (n := 1) (As := [.ref (g.2.1 v1)]) (rest := []) (c_X3_copyFrom l g hg 65 v1 (by decide) hv1 S S5 hc5) gw_X5_87 (by decide +kernel) ⟨Nat.le_of_ble_eq_true rfl, Nat.le_of_ble_eq_true rfl⟩ ⟨Nat.le_of_ble_eq_true rfl, Nat.le_of_ble_eq_true rfl⟩ (isSt_lay (i := 65) (by decide)).1 rfl rfl rfl (Nat.le_of_ble_eq_true rfl) dX5_endOf_5 ?_
  show J p l e rmX5_endOf s m args below meth c g A 2 (MQ below (QC g A (some (.ref (g.2.1 r))) S') args s 0 0 A) 0 0 8 [(0, .ref (g.2.1 0)), (1, .ref (g.2.1 v1))] [] S5
  refine j_aload_n F 0 dX5_endOf_8 rfl ?_
  refine j_getR F (k0 := 7) (C := RX5) (T := TX5) (N := 11) rfl rfl rfl inF5 (by decide) tw321 dX5_endOf_9 ?_
  obtain ⟨S12, hc12, hm⟩ := Option.bind_eq_some_iff.mp hm
  refine j_callV F (n := 0) (As := []) (rest := []) (c_X3_spreadOut l g hg 65 (by decide) S5 S12 hc12) gw_X5_231 (by decide +kernel) ⟨Nat.le_of_ble_eq_true rfl, Nat.le_of_ble_eq_true rfl⟩ ⟨Nat.le_of_ble_eq_true rfl, Nat.le_of_ble_eq_true rfl⟩ (isSt_lay (i := 65) (by decide)).1 rfl rfl rfl (Nat.le_of_ble_eq_true rfl) dX5_endOf_12 ?_
  show J p l e rmX5_endOf s m args below meth c g A 2 (MQ below (QC g A (some (.ref (g.2.1 r))) S') args s 0 0 A) 0 0 15 [(0, .ref (g.2.1 0)), (1, .ref (g.2.1 v1))] [] S12
  refine j_aload_n F 0 dX5_endOf_15 rfl ?_
  refine j_getR F (k0 := 7) (C := RX5) (T := TX5) (N := 11) rfl rfl rfl inF5 (by decide) tw321 dX5_endOf_16 ?_
  exact j_aret_e F rfl dX5_endOf_19 hm
def m_X5_forgetOldest_L9 (v1 : Nat) (v2 : Int32) (S : Hs) : Option ((Int32 × Hs) ⊕ Hs) := if 14 ≤ v2 then (some (.inr S)) else (gd (inb v2 14) (bnd (gQ S 3 v2.toNatClampNeg) fun q27 => gd (isSt q27) (gd (inb (v2 - 1) 14) (bnd (sQ S 3 (v2 - 1).toNatClampNeg q27) fun S28 => (some (.inl ((v2 + 1, S28))))))))
noncomputable def m_X5_forgetOldest (S : Hs) : Option (Hs) := gd (inb 0 14) (bnd (gQ S 3 (0 : Int32).toNatClampNeg) fun q5 => gd (isSt q5) ((loopO (fun x => m_X5_forgetOldest_L9 q5 x.1 x.2) ((1, S))).bind fun y9 => gd (inb 13 14) (bnd (sQ y9 3 (13 : Int32).toNatClampNeg q5) fun S42 => (bnd (sI S42 0 3 ((gI S42 0 3) - 1)) fun S50 => (some S50)))))
set_option maxRecDepth 100000 in
set_option maxHeartbeats 4000000 in
theorem c_X5_forgetOldest (l : Launch) (g : GG) (hg : Inj g)   (S : Hs) (S' : Hs) (hm : m_X5_forgetOldest S = some S') : CM l yX5_forgetOldest [.code yX5_forgetOldest cX5_forgetOldest 3 none] rmX5_forgetOldest [.ref (g.2.1 0)] g S none S' := by
  unfold m_X5_forgetOldest at hm
  refine CM.of (cc := cX5_forgetOldest) (nL := 3) (ret := none) (lv := [(0, .ref (g.2.1 0))]) (by decide +kernel) hg (Nat.le_of_ble_eq_true rfl) rfl (fun p e s m args below meth c A F => ?_)
  replace F : Fx p s m meth c cX5_forgetOldest RX5 3 none g A := F
  show J p l e rmX5_forgetOldest s m args below meth c g A 3 (MQ below (QC g A none S') args s 0 0 A) 0 0 0 [(0, .ref (g.2.1 0))] [] S
  refine j_aload_n F 0 dX5_forgetOldest_0 rfl ?_
  refine j_getR F (k0 := 2) (C := RX5) (T := TX5) (N := 11) rfl rfl rfl inF5 (by decide) tw317 dX5_forgetOldest_1 ?_
  refine j_iconst F (v := 0) dX5_forgetOldest_4 (by decide) ?_
  refine j_aald F rfl dX5_forgetOldest_5 hm (fun hm => ?_)
  refine j_bndr hm (fun q5 hm => ?_)
  obtain ⟨hs_q5, hm⟩ := gd_ok hm
  refine j_astore_n F (lv' := [(1, .ref (g.2.1 q5)), (0, .ref (g.2.1 0))]) dX5_forgetOldest_6 (by decide) rfl ?_
  refine j_iconst F (v := 1) dX5_forgetOldest_7 (by decide) ?_
  refine j_istore_n F (lv' := [(2, .int 1), (1, .ref (g.2.1 q5)), (0, .ref (g.2.1 0))]) dX5_forgetOldest_8 (by decide) rfl ?_
  refine j_sub [2, 1, 0] rfl ?_
  obtain ⟨y9, hlp9, hm⟩ := Option.bind_eq_some_iff.mp hm
  refine loopO_walk (fun x => m_X5_forgetOldest_L9 q5 x.1 x.2) (fun x => J p l e rmX5_forgetOldest s m args below meth c g A 3 (MQ below (QC g A none S') args s 0 0 A) 0 0 9 [(0, .ref (g.2.1 0)), (1, .ref (g.2.1 q5)), (2, .int x.1)] [] x.2) (fun x => J p l e rmX5_forgetOldest s m args below meth c g A 3 (MQ below (QC g A none S') args s 0 0 A) 0 0 35 [(0, .ref (g.2.1 0)), (1, .ref (g.2.1 q5))] [] x) (fun x o1 hm hk1 => ?_) hlp9 ?_
  · obtain ⟨v2, S⟩ := x
    replace hm : m_X5_forgetOldest_L9 q5 v2 S = some o1 := hm
    show J p l e rmX5_forgetOldest s m args below meth c g A 3 (MQ below (QC g A none S') args s 0 0 A) 0 0 9 [(0, .ref (g.2.1 0)), (1, .ref (g.2.1 q5)), (2, .int v2)] [] S
    unfold m_X5_forgetOldest_L9 at hm
    refine j_iload_n F 2 dX5_forgetOldest_9 rfl ?_
    refine j_bipush F (v := 14) dX5_forgetOldest_10 (by decide) ?_
    refine j_icmp_ge F (tgt := 35) dX5_forgetOldest_12 (by decide) hm (fun _ hm => ?_) (fun _ hm => ?_)
    · cases hm
      refine j_sub [0, 1] rfl ?_
      exact hk1
    · refine j_aload_n F 0 dX5_forgetOldest_15 rfl ?_
      refine j_getR F (k0 := 2) (C := RX5) (T := TX5) (N := 11) rfl rfl rfl inF5 (by decide) tw317 dX5_forgetOldest_16 ?_
      refine j_iload_n F 2 dX5_forgetOldest_19 rfl ?_
      refine j_iconst F (v := 1) dX5_forgetOldest_20 (by decide) ?_
      refine j_isub F dX5_forgetOldest_21 ?_
      refine j_aload_n F 0 dX5_forgetOldest_22 rfl ?_
      refine j_getR F (k0 := 2) (C := RX5) (T := TX5) (N := 11) rfl rfl rfl inF5 (by decide) tw317 dX5_forgetOldest_23 ?_
      refine j_iload_n F 2 dX5_forgetOldest_26 rfl ?_
      refine j_aald F rfl dX5_forgetOldest_27 hm (fun hm => ?_)
      refine j_bndr hm (fun q27 hm => ?_)
      obtain ⟨hs_q27, hm⟩ := gd_ok hm
      refine j_aast F rfl hs_q27 dX5_forgetOldest_28 hm (fun hm => ?_)
      refine j_bndS hm (fun S28 hm => ?_)
      refine j_iinc F (v := v2 + 1) (lv' := [(2, .int (v2 + 1)), (0, .ref (g.2.1 0)), (1, .ref (g.2.1 q5))]) 2 dX5_forgetOldest_29 rfl rfl (by decide) rfl ?_
      refine j_goto F (tgt := 9) dX5_forgetOldest_32 (by decide) ?_
      cases hm
      refine j_sub [1, 2, 0] rfl ?_
      exact hk1
  · show J p l e rmX5_forgetOldest s m args below meth c g A 3 (MQ below (QC g A none S') args s 0 0 A) 0 0 35 [(0, .ref (g.2.1 0)), (1, .ref (g.2.1 q5))] [] y9
    refine j_aload_n F 0 dX5_forgetOldest_35 rfl ?_
    refine j_getR F (k0 := 2) (C := RX5) (T := TX5) (N := 11) rfl rfl rfl inF5 (by decide) tw317 dX5_forgetOldest_36 ?_
    refine j_bipush F (v := 13) dX5_forgetOldest_39 (by decide) ?_
    refine j_aload_n F 1 dX5_forgetOldest_41 rfl ?_
    refine j_aast F rfl hs_q5 dX5_forgetOldest_42 hm (fun hm => ?_)
    refine j_bndS hm (fun S42 hm => ?_)
    refine j_aload_n F 0 dX5_forgetOldest_43 rfl ?_
    refine j_dup F dX5_forgetOldest_44 rfl ?_
    refine j_getI F (k0 := 3) (C := RX5) (T := TX5) (N := 11) rfl rfl rfl inF5 (by decide) tw350 dX5_forgetOldest_45 ?_
    refine j_iconst F (v := 1) dX5_forgetOldest_48 (by decide) ?_
    refine j_isub F dX5_forgetOldest_49 ?_
    refine j_putI F (k0 := 3) (C := RX5) (T := TX5) (N := 11) tyX5 tyX5_ok nmX5 rfl rfl rfl inF5 (by decide) tw350 rfl (by decide +kernel) dX5_forgetOldest_50 ?_
    refine j_bndS hm (fun S50 hm => ?_)
    exact j_vret_e F rfl dX5_forgetOldest_53 hm
noncomputable def m_X5_remember_J13 (S : Hs) : Option (Hs) := gd (inb (gI S 0 3) 14) (bnd (gQ S 3 (gI S 0 3).toNatClampNeg) fun q21 => gd (isSt q21) ((m_X3_copyFrom q21 29 S).bind fun S26 => (bnd (sI S26 0 3 ((gI S26 0 3) + 1)) fun S36 => (some S36))))
noncomputable def m_X5_remember (S : Hs) : Option (Hs) := if (gI S 0 3) < 14 then (m_X5_remember_J13 S) else ((m_X5_forgetOldest  S).bind fun S10 => (m_X5_remember_J13 S10))
set_option maxRecDepth 100000 in
set_option maxHeartbeats 4000000 in
theorem c_X5_remember (l : Launch) (g : GG) (hg : Inj g)   (S : Hs) (S' : Hs) (hm : m_X5_remember S = some S') : CM l yX5_remember [.code yX5_remember cX5_remember 1 none] rmX5_remember [.ref (g.2.1 0)] g S none S' := by
  unfold m_X5_remember at hm
  refine CM.of (cc := cX5_remember) (nL := 1) (ret := none) (lv := [(0, .ref (g.2.1 0))]) (by decide +kernel) hg (Nat.le_of_ble_eq_true rfl) rfl (fun p e s m args below meth c A F => ?_)
  replace F : Fx p s m meth c cX5_remember RX5 1 none g A := F
  show J p l e rmX5_remember s m args below meth c g A 1 (MQ below (QC g A none S') args s 0 0 A) 0 0 0 [(0, .ref (g.2.1 0))] [] S
  have hj13 : ∀ (S : Hs), m_X5_remember_J13 S = some S' → J p l e rmX5_remember s m args below meth c g A 1 (MQ below (QC g A none S') args s 0 0 A) 0 0 13 [(0, .ref (g.2.1 0))] [] S := by
    intro S hm
    unfold m_X5_remember_J13 at hm
    refine j_aload_n F 0 dX5_remember_13 rfl ?_
    refine j_getR F (k0 := 2) (C := RX5) (T := TX5) (N := 11) rfl rfl rfl inF5 (by decide) tw317 dX5_remember_14 ?_
    refine j_aload_n F 0 dX5_remember_17 rfl ?_
    refine j_getI F (k0 := 3) (C := RX5) (T := TX5) (N := 11) rfl rfl rfl inF5 (by decide) tw350 dX5_remember_18 ?_
    refine j_aald F rfl dX5_remember_21 hm (fun hm => ?_)
    refine j_bndr hm (fun q21 hm => ?_)
    obtain ⟨hs_q21, hm⟩ := gd_ok hm
    refine j_aload_n F 0 dX5_remember_22 rfl ?_
    refine j_getR F (k0 := 1) (C := RX5) (T := TX5) (N := 11) rfl rfl rfl inF5 (by decide) tw316 dX5_remember_23 ?_
    obtain ⟨S26, hc26, hm⟩ := Option.bind_eq_some_iff.mp hm
    refine j_callV F (n := 1) (As := [.ref (g.2.1 29)]) (rest := []) (c_X3_copyFrom l g hg q21 29 hs_q21 (by decide) S S26 hc26) gw_X5_87 (by decide +kernel) ⟨Nat.le_of_ble_eq_true rfl, Nat.le_of_ble_eq_true rfl⟩ ⟨Nat.le_of_ble_eq_true rfl, Nat.le_of_ble_eq_true rfl⟩ (isSt_lay hs_q21).1 rfl rfl rfl (Nat.le_of_ble_eq_true rfl) dX5_remember_26 ?_
    show J p l e rmX5_remember s m args below meth c g A 1 (MQ below (QC g A none S') args s 0 0 A) 0 0 29 [(0, .ref (g.2.1 0))] [] S26
    refine j_aload_n F 0 dX5_remember_29 rfl ?_
    refine j_dup F dX5_remember_30 rfl ?_
    refine j_getI F (k0 := 3) (C := RX5) (T := TX5) (N := 11) rfl rfl rfl inF5 (by decide) tw350 dX5_remember_31 ?_
    refine j_iconst F (v := 1) dX5_remember_34 (by decide) ?_
    refine j_iadd F dX5_remember_35 ?_
    refine j_putI F (k0 := 3) (C := RX5) (T := TX5) (N := 11) tyX5 tyX5_ok nmX5 rfl rfl rfl inF5 (by decide) tw350 rfl (by decide +kernel) dX5_remember_36 ?_
    refine j_bndS hm (fun S36 hm => ?_)
    exact j_vret_e F rfl dX5_remember_39 hm
  refine j_aload_n F 0 dX5_remember_0 rfl ?_
  refine j_getI F (k0 := 3) (C := RX5) (T := TX5) (N := 11) rfl rfl rfl inF5 (by decide) tw350 dX5_remember_1 ?_
  refine j_bipush F (v := 14) dX5_remember_4 (by decide) ?_
  refine j_icmp_lt F (tgt := 13) dX5_remember_6 (by decide) hm (fun _ hm => ?_) (fun _ hm => ?_)
  · refine j_sub [0] rfl ?_
    exact hj13 S  hm
  · refine j_aload_n F 0 dX5_remember_9 rfl ?_
    obtain ⟨S10, hc10, hm⟩ := Option.bind_eq_some_iff.mp hm
    refine j_callV F (n := 0) (As := []) (rest := []) (c_X5_forgetOldest l g hg S S10 hc10) gw_X5_296 (by decide +kernel) ⟨Nat.le_of_ble_eq_true rfl, Nat.le_of_ble_eq_true rfl⟩ ⟨Nat.le_of_ble_eq_true rfl, Nat.le_of_ble_eq_true rfl⟩ rfl rfl rfl rfl (Nat.le_of_ble_eq_true rfl) dX5_remember_10 ?_
    show J p l e rmX5_remember s m args below meth c g A 1 (MQ below (QC g A none S') args s 0 0 A) 0 0 13 [(0, .ref (g.2.1 0))] [] S10
    refine j_sub [0] rfl ?_
    exact hj13 S10  hm
noncomputable def m_X5_comesWith (v1 : Int32) (v2 : Int32) (S : Hs) : Option (Int32 × Hs) := (m_X3_copyFrom 65 29 S).bind fun S8 => (bnd (sI S8 65 2 v1) fun S16 => (bndE (m_X3_spreadUntil 65 v2 S16) fun r24 S24 => (gd (decide (r24 = 0 ∨ r24 = 1)) (some ((r24, S24))))))
set_option maxRecDepth 100000 in
set_option maxHeartbeats 4000000 in
theorem c_X5_comesWith (l : Launch) (g : GG) (hg : Inj g) (v1 : Int32) (v2 : Int32)  (S : Hs) (r : Int32) (S' : Hs) (hm : m_X5_comesWith v1 v2 S = some ((r, S'))) : CM l yX5_comesWith [.code yX5_comesWith cX5_comesWith 3 (some .boolean)] rmX5_comesWith [.ref (g.2.1 0), .int v1, .int v2] g S (some (.int r)) S' := by
  unfold m_X5_comesWith at hm
  refine CM.of (cc := cX5_comesWith) (nL := 3) (ret := (some .boolean)) (lv := [(0, .ref (g.2.1 0)), (1, .int v1), (2, .int v2)]) (by decide +kernel) hg (Nat.le_of_ble_eq_true rfl) rfl (fun p e s m args below meth c A F => ?_)
  replace F : Fx p s m meth c cX5_comesWith RX5 3 (some .boolean) g A := F
  show J p l e rmX5_comesWith s m args below meth c g A 3 (MQ below (QC g A (some (.int r)) S') args s 0 0 A) 0 0 0 [(0, .ref (g.2.1 0)), (1, .int v1), (2, .int v2)] [] S
  refine j_aload_n F 0 dX5_comesWith_0 rfl ?_
  refine j_getR F (k0 := 7) (C := RX5) (T := TX5) (N := 11) rfl rfl rfl inF5 (by decide) tw321 dX5_comesWith_1 ?_
  refine j_aload_n F 0 dX5_comesWith_4 rfl ?_
  refine j_getR F (k0 := 1) (C := RX5) (T := TX5) (N := 11) rfl rfl rfl inF5 (by decide) tw316 dX5_comesWith_5 ?_
  obtain ⟨S8, hc8, hm⟩ := Option.bind_eq_some_iff.mp hm
  refine j_callV F (n := 1) (As := [.ref (g.2.1 29)]) (rest := []) (c_X3_copyFrom l g hg 65 29 (by decide) (by decide) S S8 hc8) gw_X5_87 (by decide +kernel) ⟨Nat.le_of_ble_eq_true rfl, Nat.le_of_ble_eq_true rfl⟩ ⟨Nat.le_of_ble_eq_true rfl, Nat.le_of_ble_eq_true rfl⟩ (isSt_lay (i := 65) (by decide)).1 rfl rfl rfl (Nat.le_of_ble_eq_true rfl) dX5_comesWith_8 ?_
  show J p l e rmX5_comesWith s m args below meth c g A 3 (MQ below (QC g A (some (.int r)) S') args s 0 0 A) 0 0 11 [(0, .ref (g.2.1 0)), (1, .int v1), (2, .int v2)] [] S8
  refine j_aload_n F 0 dX5_comesWith_11 rfl ?_
  refine j_getR F (k0 := 7) (C := RX5) (T := TX5) (N := 11) rfl rfl rfl inF5 (by decide) tw321 dX5_comesWith_12 ?_
  refine j_iload_n F 1 dX5_comesWith_15 rfl ?_
  refine j_putI F (k0 := 2) (C := RX3) (T := TX3) (N := 4) tyX3 tyX3_ok nmX3 (isSt_lay (i := 65) (by decide)).1 rfl rfl inF3 (by decide) tw359 rfl (by decide +kernel) dX5_comesWith_16 ?_
  refine j_bndS hm (fun S16 hm => ?_)
  refine j_aload_n F 0 dX5_comesWith_19 rfl ?_
  refine j_getR F (k0 := 7) (C := RX5) (T := TX5) (N := 11) rfl rfl rfl inF5 (by decide) tw321 dX5_comesWith_20 ?_
  refine j_iload_n F 2 dX5_comesWith_23 rfl ?_
  obtain ⟨r24, S24, hc24, hm⟩ := bndE_ok hm
  refine j_callV F (n := 1) (As := [.int v2]) (rest := []) (c_X3_spreadUntil l g hg 65 v2 (by decide) S16 r24 S24 hc24) gw_X5_305 (by decide +kernel) ⟨Nat.le_of_ble_eq_true rfl, Nat.le_of_ble_eq_true rfl⟩ ⟨Nat.le_of_ble_eq_true rfl, Nat.le_of_ble_eq_true rfl⟩ (isSt_lay (i := 65) (by decide)).1 rfl rfl rfl (Nat.le_of_ble_eq_true rfl) dX5_comesWith_24 ?_
  show J p l e rmX5_comesWith s m args below meth c g A 3 (MQ below (QC g A (some (.int r)) S') args s 0 0 A) 0 0 27 [(0, .ref (g.2.1 0)), (1, .int v1), (2, .int v2)] [.int r24] S24
  obtain ⟨hb, hm⟩ := gd_ok hm
  exact j_zret_e F rfl (z_nar hb) dX5_comesWith_27 hm
def m_X5_numberOf (v0 : Int32) : Option (Int32) := (m_X5_ownerOf v0).bind fun r3 => ((m_X5_kindOf v0).bind fun r10 => ((m_X5_objectOf v0).bind fun r16 => (some (((100 * r3) + (10 * r10)) + r16))))
set_option maxRecDepth 100000 in
set_option maxHeartbeats 4000000 in
theorem c_X5_numberOf (l : Launch) (g : GG) (hg : Inj g) (v0 : Int32)  (S : Hs) (r : Int32) (hm : m_X5_numberOf v0 = some r) : CM l yX5_numberOf [.code yX5_numberOf cX5_numberOf 1 (some .int)] rmX5_numberOf [.int v0] g S (some (.int r)) S := by
  unfold m_X5_numberOf at hm
  refine CM.of (cc := cX5_numberOf) (nL := 1) (ret := (some .int)) (lv := [(0, .int v0)]) (by decide +kernel) hg (Nat.le_of_ble_eq_true rfl) rfl (fun p e s m args below meth c A F => ?_)
  replace F : Fx p s m meth c cX5_numberOf RX5 1 (some .int) g A := F
  show J p l e rmX5_numberOf s m args below meth c g A 1 (MQ below (QC g A (some (.int r)) S) args s 0 0 A) 0 0 0 [(0, .int v0)] [] S
  refine j_bipush F (v := 100) dX5_numberOf_0 (by decide) ?_
  refine j_iload_n F 0 dX5_numberOf_2 rfl ?_
  obtain ⟨r3, hc3, hm⟩ := Option.bind_eq_some_iff.mp hm
  refine j_callS F (n := 1) (As := [.int v0]) (rest := [.int 100]) (c_X5_ownerOf l g hg v0 S r3 hc3) gw_X5_265 (by decide +kernel) ⟨Nat.le_of_ble_eq_true rfl, Nat.le_of_ble_eq_true rfl⟩ ⟨Nat.le_of_ble_eq_true rfl, Nat.le_of_ble_eq_true rfl⟩ rfl rfl (Nat.le_of_ble_eq_true rfl) dX5_numberOf_3 ?_
  show J p l e rmX5_numberOf s m args below meth c g A 1 (MQ below (QC g A (some (.int r)) S) args s 0 0 A) 0 0 6 [(0, .int v0)] [.int r3, .int 100] S
  refine j_imul F dX5_numberOf_6 ?_
  refine j_bipush F (v := 10) dX5_numberOf_7 (by decide) ?_
  refine j_iload_n F 0 dX5_numberOf_9 rfl ?_
  obtain ⟨r10, hc10, hm⟩ := Option.bind_eq_some_iff.mp hm
  refine j_callS F (n := 1) (As := [.int v0]) (rest := [.int 10, .int (100 * r3)]) (c_X5_kindOf l g hg v0 S r10 hc10) gw_X5_268 (by decide +kernel) ⟨Nat.le_of_ble_eq_true rfl, Nat.le_of_ble_eq_true rfl⟩ ⟨Nat.le_of_ble_eq_true rfl, Nat.le_of_ble_eq_true rfl⟩ rfl rfl (Nat.le_of_ble_eq_true rfl) dX5_numberOf_10 ?_
  show J p l e rmX5_numberOf s m args below meth c g A 1 (MQ below (QC g A (some (.int r)) S) args s 0 0 A) 0 0 13 [(0, .int v0)] [.int r10, .int 10, .int (100 * r3)] S
  refine j_imul F dX5_numberOf_13 ?_
  refine j_iadd F dX5_numberOf_14 ?_
  refine j_iload_n F 0 dX5_numberOf_15 rfl ?_
  obtain ⟨r16, hc16, hm⟩ := Option.bind_eq_some_iff.mp hm
  refine j_callS F (n := 1) (As := [.int v0]) (rest := [.int ((100 * r3) + (10 * r10))]) (c_X5_objectOf l g hg v0 S r16 hc16) gw_X5_271 (by decide +kernel) ⟨Nat.le_of_ble_eq_true rfl, Nat.le_of_ble_eq_true rfl⟩ ⟨Nat.le_of_ble_eq_true rfl, Nat.le_of_ble_eq_true rfl⟩ rfl rfl (Nat.le_of_ble_eq_true rfl) dX5_numberOf_16 ?_
  show J p l e rmX5_numberOf s m args below meth c g A 1 (MQ below (QC g A (some (.int r)) S) args s 0 0 A) 0 0 19 [(0, .int v0)] [.int r16, .int ((100 * r3) + (10 * r10))] S
  refine j_iadd F dX5_numberOf_19 ?_
  exact j_iret_p F rfl dX5_numberOf_20 hm
def m_X5_sleeper_J79 (v1 : Int32) (v2 : Int32) (v3 : Int32) (S : Hs) : Option ((Int32 × Int32 × Int32 × Hs) ⊕ (Int32 × Hs)) := some (.inl ((v1, v2, v3 + 1, S)))
noncomputable def m_X5_sleeper_L9 (v1 : Int32) (v2 : Int32) (v3 : Int32) (S : Hs) : Option ((Int32 × Int32 × Int32 × Hs) ⊕ (Int32 × Hs)) := if (gI S 29 0) ≤ v3 then (some (.inr ((v1, S)))) else ((m_X3_isAwake 29 v3 S).bind fun r25 => (if r25 = 0 then (m_X5_sleeper_J79 v1 v2 v3 S) else ((m_X3_copyFrom 65 29 S).bind fun S39 => ((m_X3_setAwake 65 v3 0 S39).bind fun S48 => ((m_X3_spreadOut 65 S48).bind fun S55 => ((m_X3_countRights 65 S55).bind fun r62 => (if v2 ≤ r62 then (m_X5_sleeper_J79 v1 v2 v3 S55) else ((m_X3_countRights 65 S55).bind fun r73 => (m_X5_sleeper_J79 v3 r73 v3 S55)))))))))
noncomputable def m_X5_sleeper (S : Hs) : Option (Int32 × Hs) := (loopO (fun x => m_X5_sleeper_L9 x.1 x.2.1 x.2.2.1 x.2.2.2) (((-9), 196, 0, S))).bind fun y9 => some ((y9.1, y9.2))
set_option maxRecDepth 100000 in
set_option maxHeartbeats 4000000 in
theorem c_X5_sleeper (l : Launch) (g : GG) (hg : Inj g)   (S : Hs) (r : Int32) (S' : Hs) (hm : m_X5_sleeper S = some ((r, S'))) : CM l yX5_sleeper [.code yX5_sleeper cX5_sleeper 4 (some .int)] rmX5_sleeper [.ref (g.2.1 0)] g S (some (.int r)) S' := by
  unfold m_X5_sleeper at hm
  refine CM.of (cc := cX5_sleeper) (nL := 4) (ret := (some .int)) (lv := [(0, .ref (g.2.1 0))]) (by decide +kernel) hg (Nat.le_of_ble_eq_true rfl) rfl (fun p e s m args below meth c A F => ?_)
  replace F : Fx p s m meth c cX5_sleeper RX5 4 (some .int) g A := F
  show J p l e rmX5_sleeper s m args below meth c g A 4 (MQ below (QC g A (some (.int r)) S') args s 0 0 A) 0 0 0 [(0, .ref (g.2.1 0))] [] S
  refine j_bipush F (v := -9) dX5_sleeper_0 (by decide) ?_
  refine j_istore_n F (lv' := [(1, .int ((-9))), (0, .ref (g.2.1 0))]) dX5_sleeper_2 (by decide) rfl ?_
  refine j_sipush F (v := 196) dX5_sleeper_3 (by decide) ?_
  refine j_istore_n F (lv' := [(2, .int 196), (1, .int ((-9))), (0, .ref (g.2.1 0))]) dX5_sleeper_6 (by decide) rfl ?_
  refine j_iconst F (v := 0) dX5_sleeper_7 (by decide) ?_
  refine j_istore_n F (lv' := [(3, .int 0), (2, .int 196), (1, .int ((-9))), (0, .ref (g.2.1 0))]) dX5_sleeper_8 (by decide) rfl ?_
  refine j_sub [3, 2, 1, 0] rfl ?_
  obtain ⟨y9, hlp9, hm⟩ := Option.bind_eq_some_iff.mp hm
  refine loopO_walk (fun x => m_X5_sleeper_L9 x.1 x.2.1 x.2.2.1 x.2.2.2) (fun x => J p l e rmX5_sleeper s m args below meth c g A 4 (MQ below (QC g A (some (.int r)) S') args s 0 0 A) 0 0 9 [(0, .ref (g.2.1 0)), (1, .int x.1), (2, .int x.2.1), (3, .int x.2.2.1)] [] x.2.2.2) (fun x => J p l e rmX5_sleeper s m args below meth c g A 4 (MQ below (QC g A (some (.int r)) S') args s 0 0 A) 0 0 85 [(1, .int x.1)] [] x.2) (fun x o1 hm hk1 => ?_) hlp9 ?_
  · obtain ⟨v1, v2, v3, S⟩ := x
    replace hm : m_X5_sleeper_L9 v1 v2 v3 S = some o1 := hm
    show J p l e rmX5_sleeper s m args below meth c g A 4 (MQ below (QC g A (some (.int r)) S') args s 0 0 A) 0 0 9 [(0, .ref (g.2.1 0)), (1, .int v1), (2, .int v2), (3, .int v3)] [] S
    unfold m_X5_sleeper_L9 at hm
    have hj79 : ∀ (v1 : Int32) (v2 : Int32) (v3 : Int32) (S : Hs), m_X5_sleeper_J79 v1 v2 v3 S = some o1 → J p l e rmX5_sleeper s m args below meth c g A 4 (MQ below (QC g A (some (.int r)) S') args s 0 0 A) 0 0 79 [(0, .ref (g.2.1 0)), (1, .int v1), (2, .int v2), (3, .int v3)] [] S := by
      intro v1 v2 v3 S hm
      unfold m_X5_sleeper_J79 at hm
      refine j_iinc F (v := v3 + 1) (lv' := [(3, .int (v3 + 1)), (0, .ref (g.2.1 0)), (1, .int v1), (2, .int v2)]) 3 dX5_sleeper_79 rfl rfl (by decide) rfl ?_
      refine j_goto F (tgt := 9) dX5_sleeper_82 (by decide) ?_
      cases hm
      refine j_sub [1, 2, 3, 0] rfl ?_
      exact hk1
    refine j_iload_n F 3 dX5_sleeper_9 rfl ?_
    refine j_aload_n F 0 dX5_sleeper_10 rfl ?_
    refine j_getR F (k0 := 1) (C := RX5) (T := TX5) (N := 11) rfl rfl rfl inF5 (by decide) tw316 dX5_sleeper_11 ?_
    refine j_getI F (k0 := 0) (C := RX3) (T := TX3) (N := 4) (isSt_lay (i := 29) (by decide)).1 rfl rfl inF3 (by decide) tw351 dX5_sleeper_14 ?_
    refine j_icmp_ge F (tgt := 85) dX5_sleeper_17 (by decide) hm (fun _ hm => ?_) (fun _ hm => ?_)
    · cases hm
      refine j_sub [1] rfl ?_
      exact hk1
    · refine j_aload_n F 0 dX5_sleeper_20 rfl ?_
      refine j_getR F (k0 := 1) (C := RX5) (T := TX5) (N := 11) rfl rfl rfl inF5 (by decide) tw316 dX5_sleeper_21 ?_
      refine j_iload_n F 3 dX5_sleeper_24 rfl ?_
      obtain ⟨r25, hc25, hm⟩ := Option.bind_eq_some_iff.mp hm
      refine j_callV F (n := 1) (As := [.int v3]) (rest := []) (c_X3_isAwake l g hg 29 v3 (by decide) S r25 hc25) gw_X5_137 (by decide +kernel) ⟨Nat.le_of_ble_eq_true rfl, Nat.le_of_ble_eq_true rfl⟩ ⟨Nat.le_of_ble_eq_true rfl, Nat.le_of_ble_eq_true rfl⟩ (isSt_lay (i := 29) (by decide)).1 rfl rfl rfl (Nat.le_of_ble_eq_true rfl) dX5_sleeper_25 ?_
      show J p l e rmX5_sleeper s m args below meth c g A 4 (MQ below (QC g A (some (.int r)) S') args s 0 0 A) 0 0 28 [(0, .ref (g.2.1 0)), (1, .int v1), (2, .int v2), (3, .int v3)] [.int r25] S
      refine j_if_eq F (tgt := 79) dX5_sleeper_28 (by decide) hm (fun _ hm => ?_) (fun _ hm => ?_)
      · refine j_sub [0, 1, 2, 3] rfl ?_
        exact hj79 v1 v2 v3 S  hm
      · refine j_aload_n F 0 dX5_sleeper_31 rfl ?_
        refine j_getR F (k0 := 7) (C := RX5) (T := TX5) (N := 11) rfl rfl rfl inF5 (by decide) tw321 dX5_sleeper_32 ?_
        refine j_aload_n F 0 dX5_sleeper_35 rfl ?_
        refine j_getR F (k0 := 1) (C := RX5) (T := TX5) (N := 11) rfl rfl rfl inF5 (by decide) tw316 dX5_sleeper_36 ?_
        obtain ⟨S39, hc39, hm⟩ := Option.bind_eq_some_iff.mp hm
        refine j_callV F (n := 1) (As := [.ref (g.2.1 29)]) (rest := []) (c_X3_copyFrom l g hg 65 29 (by decide) (by decide) S S39 hc39) gw_X5_87 (by decide +kernel) ⟨Nat.le_of_ble_eq_true rfl, Nat.le_of_ble_eq_true rfl⟩ ⟨Nat.le_of_ble_eq_true rfl, Nat.le_of_ble_eq_true rfl⟩ (isSt_lay (i := 65) (by decide)).1 rfl rfl rfl (Nat.le_of_ble_eq_true rfl) dX5_sleeper_39 ?_
        show J p l e rmX5_sleeper s m args below meth c g A 4 (MQ below (QC g A (some (.int r)) S') args s 0 0 A) 0 0 42 [(0, .ref (g.2.1 0)), (1, .int v1), (2, .int v2), (3, .int v3)] [] S39
        refine j_aload_n F 0 dX5_sleeper_42 rfl ?_
        refine j_getR F (k0 := 7) (C := RX5) (T := TX5) (N := 11) rfl rfl rfl inF5 (by decide) tw321 dX5_sleeper_43 ?_
        refine j_iload_n F 3 dX5_sleeper_46 rfl ?_
        refine j_iconst F (v := 0) dX5_sleeper_47 (by decide) ?_
        obtain ⟨S48, hc48, hm⟩ := Option.bind_eq_some_iff.mp hm
        refine j_callV F (n := 2) (As := [.int v3, .int 0]) (rest := []) (c_X3_setAwake l g hg 65 v3 0 (by decide) S39 S48 hc48) gw_X5_187 (by decide +kernel) ⟨Nat.le_of_ble_eq_true rfl, Nat.le_of_ble_eq_true rfl⟩ ⟨Nat.le_of_ble_eq_true rfl, Nat.le_of_ble_eq_true rfl⟩ (isSt_lay (i := 65) (by decide)).1 rfl rfl rfl (Nat.le_of_ble_eq_true rfl) dX5_sleeper_48 ?_
        show J p l e rmX5_sleeper s m args below meth c g A 4 (MQ below (QC g A (some (.int r)) S') args s 0 0 A) 0 0 51 [(0, .ref (g.2.1 0)), (1, .int v1), (2, .int v2), (3, .int v3)] [] S48
        refine j_aload_n F 0 dX5_sleeper_51 rfl ?_
        refine j_getR F (k0 := 7) (C := RX5) (T := TX5) (N := 11) rfl rfl rfl inF5 (by decide) tw321 dX5_sleeper_52 ?_
        obtain ⟨S55, hc55, hm⟩ := Option.bind_eq_some_iff.mp hm
        refine j_callV F (n := 0) (As := []) (rest := []) (c_X3_spreadOut l g hg 65 (by decide) S48 S55 hc55) gw_X5_231 (by decide +kernel) ⟨Nat.le_of_ble_eq_true rfl, Nat.le_of_ble_eq_true rfl⟩ ⟨Nat.le_of_ble_eq_true rfl, Nat.le_of_ble_eq_true rfl⟩ (isSt_lay (i := 65) (by decide)).1 rfl rfl rfl (Nat.le_of_ble_eq_true rfl) dX5_sleeper_55 ?_
        show J p l e rmX5_sleeper s m args below meth c g A 4 (MQ below (QC g A (some (.int r)) S') args s 0 0 A) 0 0 58 [(0, .ref (g.2.1 0)), (1, .int v1), (2, .int v2), (3, .int v3)] [] S55
        refine j_aload_n F 0 dX5_sleeper_58 rfl ?_
        refine j_getR F (k0 := 7) (C := RX5) (T := TX5) (N := 11) rfl rfl rfl inF5 (by decide) tw321 dX5_sleeper_59 ?_
        obtain ⟨r62, hc62, hm⟩ := Option.bind_eq_some_iff.mp hm
        refine j_callV F (n := 0) (As := []) (rest := []) (c_X3_countRights l g hg 65 (by decide) S55 r62 hc62) gw_X5_109 (by decide +kernel) ⟨Nat.le_of_ble_eq_true rfl, Nat.le_of_ble_eq_true rfl⟩ ⟨Nat.le_of_ble_eq_true rfl, Nat.le_of_ble_eq_true rfl⟩ (isSt_lay (i := 65) (by decide)).1 rfl rfl rfl (Nat.le_of_ble_eq_true rfl) dX5_sleeper_62 ?_
        show J p l e rmX5_sleeper s m args below meth c g A 4 (MQ below (QC g A (some (.int r)) S') args s 0 0 A) 0 0 65 [(0, .ref (g.2.1 0)), (1, .int v1), (2, .int v2), (3, .int v3)] [.int r62] S55
        refine j_iload_n F 2 dX5_sleeper_65 rfl ?_
        refine j_icmp_ge F (tgt := 79) dX5_sleeper_66 (by decide) hm (fun _ hm => ?_) (fun _ hm => ?_)
        · refine j_sub [0, 1, 2, 3] rfl ?_
          exact hj79 v1 v2 v3 S55  hm
        · refine j_aload_n F 0 dX5_sleeper_69 rfl ?_
          refine j_getR F (k0 := 7) (C := RX5) (T := TX5) (N := 11) rfl rfl rfl inF5 (by decide) tw321 dX5_sleeper_70 ?_
          obtain ⟨r73, hc73, hm⟩ := Option.bind_eq_some_iff.mp hm
          refine j_callV F (n := 0) (As := []) (rest := []) (c_X3_countRights l g hg 65 (by decide) S55 r73 hc73) gw_X5_109 (by decide +kernel) ⟨Nat.le_of_ble_eq_true rfl, Nat.le_of_ble_eq_true rfl⟩ ⟨Nat.le_of_ble_eq_true rfl, Nat.le_of_ble_eq_true rfl⟩ (isSt_lay (i := 65) (by decide)).1 rfl rfl rfl (Nat.le_of_ble_eq_true rfl) dX5_sleeper_73 ?_
          show J p l e rmX5_sleeper s m args below meth c g A 4 (MQ below (QC g A (some (.int r)) S') args s 0 0 A) 0 0 76 [(0, .ref (g.2.1 0)), (1, .int v1), (2, .int v2), (3, .int v3)] [.int r73] S55
          refine j_istore_n F (lv' := [(2, .int r73), (0, .ref (g.2.1 0)), (1, .int v1), (3, .int v3)]) dX5_sleeper_76 (by decide) rfl ?_
          refine j_iload_n F 3 dX5_sleeper_77 rfl ?_
          refine j_istore_n F (lv' := [(1, .int v3), (2, .int r73), (0, .ref (g.2.1 0)), (3, .int v3)]) dX5_sleeper_78 (by decide) rfl ?_
          refine j_sub [2, 0, 1, 3] rfl ?_
          exact hj79 v3 r73 v3 S55  hm
  · show J p l e rmX5_sleeper s m args below meth c g A 4 (MQ below (QC g A (some (.int r)) S') args s 0 0 A) 0 0 85 [(1, .int y9.1)] [] y9.2
    refine j_iload_n F 0 dX5_sleeper_85 rfl ?_
    exact j_iret_e F rfl dX5_sleeper_86 hm
noncomputable def m_X5_countAtEndWith (v1 : Int32) (S : Hs) : Option (Int32 × Hs) := (m_X2_comes v1 S).bind fun r5 => (if r5 = 0 then ((m_X3_copyFrom 65 67 S).bind fun S33 => ((m_X3_put 65 v1 1 S33).bind fun S42 => ((m_X3_spreadOut 65 S42).bind fun S49 => ((m_X3_countRights 65 S49).bind fun r56 => (some ((r56, S49))))))) else ((m_X3_countRights 67 S).bind fun r18 => (some ((r18, S)))))
set_option maxRecDepth 100000 in
set_option maxHeartbeats 4000000 in
theorem c_X5_countAtEndWith (l : Launch) (g : GG) (hg : Inj g) (v1 : Int32)  (S : Hs) (r : Int32) (S' : Hs) (hm : m_X5_countAtEndWith v1 S = some ((r, S'))) : CM l yX5_countAtEndWith [.code yX5_countAtEndWith cX5_countAtEndWith 2 (some .int)] rmX5_countAtEndWith [.ref (g.2.1 0), .int v1] g S (some (.int r)) S' := by
  unfold m_X5_countAtEndWith at hm
  refine CM.of (cc := cX5_countAtEndWith) (nL := 2) (ret := (some .int)) (lv := [(0, .ref (g.2.1 0)), (1, .int v1)]) (by decide +kernel) hg (Nat.le_of_ble_eq_true rfl) rfl (fun p e s m args below meth c A F => ?_)
  replace F : Fx p s m meth c cX5_countAtEndWith RX5 2 (some .int) g A := F
  show J p l e rmX5_countAtEndWith s m args below meth c g A 2 (MQ below (QC g A (some (.int r)) S') args s 0 0 A) 0 0 0 [(0, .ref (g.2.1 0)), (1, .int v1)] [] S
  refine j_aload_n F 0 dX5_countAtEndWith_0 rfl ?_
  refine j_getR F (k0 := 8) (C := RX5) (T := TX5) (N := 11) rfl rfl rfl inF5 (by decide) tw324 dX5_countAtEndWith_1 ?_
  refine j_iload_n F 1 dX5_countAtEndWith_4 rfl ?_
  obtain ⟨r5, hc5, hm⟩ := Option.bind_eq_some_iff.mp hm
  refine j_callV F (n := 1) (As := [.int v1]) (rest := []) (c_X2_comes l g hg v1 S r5 hc5) gw_X5_161 (by decide +kernel) ⟨Nat.le_of_ble_eq_true rfl, Nat.le_of_ble_eq_true rfl⟩ ⟨Nat.le_of_ble_eq_true rfl, Nat.le_of_ble_eq_true rfl⟩ rfl rfl rfl rfl (Nat.le_of_ble_eq_true rfl) dX5_countAtEndWith_5 ?_
  show J p l e rmX5_countAtEndWith s m args below meth c g A 2 (MQ below (QC g A (some (.int r)) S') args s 0 0 A) 0 0 8 [(0, .ref (g.2.1 0)), (1, .int v1)] [.int r5] S
  refine j_if_eq F (tgt := 22) dX5_countAtEndWith_8 (by decide) hm (fun _ hm => ?_) (fun _ hm => ?_)
  · refine j_aload_n F 0 dX5_countAtEndWith_22 rfl ?_
    refine j_getR F (k0 := 7) (C := RX5) (T := TX5) (N := 11) rfl rfl rfl inF5 (by decide) tw321 dX5_countAtEndWith_23 ?_
    refine j_aload_n F 0 dX5_countAtEndWith_26 rfl ?_
    refine j_getR F (k0 := 8) (C := RX5) (T := TX5) (N := 11) rfl rfl rfl inF5 (by decide) tw324 dX5_countAtEndWith_27 ?_
    refine j_getR F (k0 := 0) (C := RX2) (T := TX2) (N := 7) rfl rfl rfl inF2 (by decide) tw464 dX5_countAtEndWith_30 ?_
    obtain ⟨S33, hc33, hm⟩ := Option.bind_eq_some_iff.mp hm
    refine j_callV F (n := 1) (As := [.ref (g.2.1 67)]) (rest := []) (c_X3_copyFrom l g hg 65 67 (by decide) (by decide) S S33 hc33) gw_X5_87 (by decide +kernel) ⟨Nat.le_of_ble_eq_true rfl, Nat.le_of_ble_eq_true rfl⟩ ⟨Nat.le_of_ble_eq_true rfl, Nat.le_of_ble_eq_true rfl⟩ (isSt_lay (i := 65) (by decide)).1 rfl rfl rfl (Nat.le_of_ble_eq_true rfl) dX5_countAtEndWith_33 ?_
    show J p l e rmX5_countAtEndWith s m args below meth c g A 2 (MQ below (QC g A (some (.int r)) S') args s 0 0 A) 0 0 36 [(0, .ref (g.2.1 0)), (1, .int v1)] [] S33
    refine j_aload_n F 0 dX5_countAtEndWith_36 rfl ?_
    refine j_getR F (k0 := 7) (C := RX5) (T := TX5) (N := 11) rfl rfl rfl inF5 (by decide) tw321 dX5_countAtEndWith_37 ?_
    refine j_iload_n F 1 dX5_countAtEndWith_40 rfl ?_
    refine j_iconst F (v := 1) dX5_countAtEndWith_41 (by decide) ?_
    obtain ⟨S42, hc42, hm⟩ := Option.bind_eq_some_iff.mp hm
    refine j_callV F (n := 2) (As := [.int v1, .int 1]) (rest := []) (c_X3_put l g hg 65 v1 1 (by decide) S33 S42 hc42) gw_X5_196 (by decide +kernel) ⟨Nat.le_of_ble_eq_true rfl, Nat.le_of_ble_eq_true rfl⟩ ⟨Nat.le_of_ble_eq_true rfl, Nat.le_of_ble_eq_true rfl⟩ (isSt_lay (i := 65) (by decide)).1 rfl rfl rfl (Nat.le_of_ble_eq_true rfl) dX5_countAtEndWith_42 ?_
    show J p l e rmX5_countAtEndWith s m args below meth c g A 2 (MQ below (QC g A (some (.int r)) S') args s 0 0 A) 0 0 45 [(0, .ref (g.2.1 0)), (1, .int v1)] [] S42
    refine j_aload_n F 0 dX5_countAtEndWith_45 rfl ?_
    refine j_getR F (k0 := 7) (C := RX5) (T := TX5) (N := 11) rfl rfl rfl inF5 (by decide) tw321 dX5_countAtEndWith_46 ?_
    obtain ⟨S49, hc49, hm⟩ := Option.bind_eq_some_iff.mp hm
    refine j_callV F (n := 0) (As := []) (rest := []) (c_X3_spreadOut l g hg 65 (by decide) S42 S49 hc49) gw_X5_231 (by decide +kernel) ⟨Nat.le_of_ble_eq_true rfl, Nat.le_of_ble_eq_true rfl⟩ ⟨Nat.le_of_ble_eq_true rfl, Nat.le_of_ble_eq_true rfl⟩ (isSt_lay (i := 65) (by decide)).1 rfl rfl rfl (Nat.le_of_ble_eq_true rfl) dX5_countAtEndWith_49 ?_
    show J p l e rmX5_countAtEndWith s m args below meth c g A 2 (MQ below (QC g A (some (.int r)) S') args s 0 0 A) 0 0 52 [(0, .ref (g.2.1 0)), (1, .int v1)] [] S49
    refine j_aload_n F 0 dX5_countAtEndWith_52 rfl ?_
    refine j_getR F (k0 := 7) (C := RX5) (T := TX5) (N := 11) rfl rfl rfl inF5 (by decide) tw321 dX5_countAtEndWith_53 ?_
    obtain ⟨r56, hc56, hm⟩ := Option.bind_eq_some_iff.mp hm
    refine j_callV F (n := 0) (As := []) (rest := []) (c_X3_countRights l g hg 65 (by decide) S49 r56 hc56) gw_X5_109 (by decide +kernel) ⟨Nat.le_of_ble_eq_true rfl, Nat.le_of_ble_eq_true rfl⟩ ⟨Nat.le_of_ble_eq_true rfl, Nat.le_of_ble_eq_true rfl⟩ (isSt_lay (i := 65) (by decide)).1 rfl rfl rfl (Nat.le_of_ble_eq_true rfl) dX5_countAtEndWith_56 ?_
    show J p l e rmX5_countAtEndWith s m args below meth c g A 2 (MQ below (QC g A (some (.int r)) S') args s 0 0 A) 0 0 59 [(0, .ref (g.2.1 0)), (1, .int v1)] [.int r56] S49
    exact j_iret_e F rfl dX5_countAtEndWith_59 hm
  · refine j_aload_n F 0 dX5_countAtEndWith_11 rfl ?_
    refine j_getR F (k0 := 8) (C := RX5) (T := TX5) (N := 11) rfl rfl rfl inF5 (by decide) tw324 dX5_countAtEndWith_12 ?_
    refine j_getR F (k0 := 0) (C := RX2) (T := TX2) (N := 7) rfl rfl rfl inF2 (by decide) tw464 dX5_countAtEndWith_15 ?_
    obtain ⟨r18, hc18, hm⟩ := Option.bind_eq_some_iff.mp hm
    refine j_callV F (n := 0) (As := []) (rest := []) (c_X3_countRights l g hg 67 (by decide) S r18 hc18) gw_X5_109 (by decide +kernel) ⟨Nat.le_of_ble_eq_true rfl, Nat.le_of_ble_eq_true rfl⟩ ⟨Nat.le_of_ble_eq_true rfl, Nat.le_of_ble_eq_true rfl⟩ (isSt_lay (i := 67) (by decide)).1 rfl rfl rfl (Nat.le_of_ble_eq_true rfl) dX5_countAtEndWith_18 ?_
    show J p l e rmX5_countAtEndWith s m args below meth c g A 2 (MQ below (QC g A (some (.int r)) S') args s 0 0 A) 0 0 21 [(0, .ref (g.2.1 0)), (1, .int v1)] [.int r18] S
    exact j_iret_e F rfl dX5_countAtEndWith_21 hm
def m_X5_danger_J68 (v1 : Int32) (v2 : Int32) (v3 : Int32) (S : Hs) : Option ((Int32 × Int32 × Int32 × Hs) ⊕ (Int32 × Hs)) := some (.inl ((v1, v2, v3 + 1, S)))
noncomputable def m_X5_danger_L18 (v1 : Int32) (v2 : Int32) (v3 : Int32) (S : Hs) : Option ((Int32 × Int32 × Int32 × Hs) ⊕ (Int32 × Hs)) := if 196 ≤ v3 then (some (.inr ((v1, S)))) else ((m_X3_isRightIndex 29 v3 S).bind fun r30 => (if r30 = 0 then (m_X5_danger_J68 v1 v2 v3 S) else ((m_X3_has 29 v3 S).bind fun r41 => (if r41 = 0 then (bndE (m_X5_countAtEndWith v3 S) fun r49 S49 => (if r49 ≤ v2 then (m_X5_danger_J68 v1 v2 v3 S49) else ((m_X5_numberOf v3).bind fun r64 => (m_X5_danger_J68 r64 r49 v3 S49)))) else (m_X5_danger_J68 v1 v2 v3 S)))))
noncomputable def m_X5_danger (S : Hs) : Option (Int32 × Hs) := (m_X2_follow 29 S).bind fun S8 => ((loopO (fun x => m_X5_danger_L18 x.1 x.2.1 x.2.2.1 x.2.2.2) (((-9), (-1), 0, S8))).bind fun y18 => some ((y18.1, y18.2)))
set_option maxRecDepth 100000 in
set_option maxHeartbeats 4000000 in
theorem c_X5_danger (l : Launch) (g : GG) (hg : Inj g)   (S : Hs) (r : Int32) (S' : Hs) (hm : m_X5_danger S = some ((r, S'))) : CM l yX5_danger [.code yX5_danger cX5_danger 5 (some .int)] rmX5_danger [.ref (g.2.1 0)] g S (some (.int r)) S' := by
  unfold m_X5_danger at hm
  refine CM.of (cc := cX5_danger) (nL := 5) (ret := (some .int)) (lv := [(0, .ref (g.2.1 0))]) (by decide +kernel) hg (Nat.le_of_ble_eq_true rfl) rfl (fun p e s m args below meth c A F => ?_)
  replace F : Fx p s m meth c cX5_danger RX5 5 (some .int) g A := F
  show J p l e rmX5_danger s m args below meth c g A 5 (MQ below (QC g A (some (.int r)) S') args s 0 0 A) 0 0 0 [(0, .ref (g.2.1 0))] [] S
  refine j_aload_n F 0 dX5_danger_0 rfl ?_
  refine j_getR F (k0 := 8) (C := RX5) (T := TX5) (N := 11) rfl rfl rfl inF5 (by decide) tw324 dX5_danger_1 ?_
  refine j_aload_n F 0 dX5_danger_4 rfl ?_
  refine j_getR F (k0 := 1) (C := RX5) (T := TX5) (N := 11) rfl rfl rfl inF5 (by decide) tw316 dX5_danger_5 ?_
  obtain ⟨S8, hc8, hm⟩ := Option.bind_eq_some_iff.mp hm
  refine j_callV F (n := 1) (As := [.ref (g.2.1 29)]) (rest := []) (c_X2_follow l g hg 29 (by decide) S S8 hc8) gw_X5_117 (by decide +kernel) ⟨Nat.le_of_ble_eq_true rfl, Nat.le_of_ble_eq_true rfl⟩ ⟨Nat.le_of_ble_eq_true rfl, Nat.le_of_ble_eq_true rfl⟩ rfl rfl rfl rfl (Nat.le_of_ble_eq_true rfl) dX5_danger_8 ?_
  show J p l e rmX5_danger s m args below meth c g A 5 (MQ below (QC g A (some (.int r)) S') args s 0 0 A) 0 0 11 [(0, .ref (g.2.1 0))] [] S8
  refine j_bipush F (v := -9) dX5_danger_11 (by decide) ?_
  refine j_istore_n F (lv' := [(1, .int ((-9))), (0, .ref (g.2.1 0))]) dX5_danger_13 (by decide) rfl ?_
  refine j_iconst F (v := -1) dX5_danger_14 (by decide) ?_
  refine j_istore_n F (lv' := [(2, .int ((-1))), (1, .int ((-9))), (0, .ref (g.2.1 0))]) dX5_danger_15 (by decide) rfl ?_
  refine j_iconst F (v := 0) dX5_danger_16 (by decide) ?_
  refine j_istore_n F (lv' := [(3, .int 0), (2, .int ((-1))), (1, .int ((-9))), (0, .ref (g.2.1 0))]) dX5_danger_17 (by decide) rfl ?_
  refine j_sub [3, 2, 1, 0] rfl ?_
  obtain ⟨y18, hlp18, hm⟩ := Option.bind_eq_some_iff.mp hm
  refine loopO_walk (fun x => m_X5_danger_L18 x.1 x.2.1 x.2.2.1 x.2.2.2) (fun x => J p l e rmX5_danger s m args below meth c g A 5 (MQ below (QC g A (some (.int r)) S') args s 0 0 A) 0 0 18 [(0, .ref (g.2.1 0)), (1, .int x.1), (2, .int x.2.1), (3, .int x.2.2.1)] [] x.2.2.2) (fun x => J p l e rmX5_danger s m args below meth c g A 5 (MQ below (QC g A (some (.int r)) S') args s 0 0 A) 0 0 74 [(1, .int x.1)] [] x.2) (fun x o1 hm hk1 => ?_) hlp18 ?_
  · obtain ⟨v1, v2, v3, S⟩ := x
    replace hm : m_X5_danger_L18 v1 v2 v3 S = some o1 := hm
    show J p l e rmX5_danger s m args below meth c g A 5 (MQ below (QC g A (some (.int r)) S') args s 0 0 A) 0 0 18 [(0, .ref (g.2.1 0)), (1, .int v1), (2, .int v2), (3, .int v3)] [] S
    unfold m_X5_danger_L18 at hm
    have hj68 : ∀ (v1 : Int32) (v2 : Int32) (v3 : Int32) (S : Hs), m_X5_danger_J68 v1 v2 v3 S = some o1 → J p l e rmX5_danger s m args below meth c g A 5 (MQ below (QC g A (some (.int r)) S') args s 0 0 A) 0 0 68 [(0, .ref (g.2.1 0)), (1, .int v1), (2, .int v2), (3, .int v3)] [] S := by
      intro v1 v2 v3 S hm
      unfold m_X5_danger_J68 at hm
      refine j_iinc F (v := v3 + 1) (lv' := [(3, .int (v3 + 1)), (0, .ref (g.2.1 0)), (1, .int v1), (2, .int v2)]) 3 dX5_danger_68 rfl rfl (by decide) rfl ?_
      refine j_goto F (tgt := 18) dX5_danger_71 (by decide) ?_
      cases hm
      refine j_sub [1, 2, 3, 0] rfl ?_
      exact hk1
    refine j_iload_n F 3 dX5_danger_18 rfl ?_
    refine j_sipush F (v := 196) dX5_danger_19 (by decide) ?_
    refine j_icmp_ge F (tgt := 74) dX5_danger_22 (by decide) hm (fun _ hm => ?_) (fun _ hm => ?_)
    · cases hm
      refine j_sub [1] rfl ?_
      exact hk1
    · refine j_aload_n F 0 dX5_danger_25 rfl ?_
      refine j_getR F (k0 := 1) (C := RX5) (T := TX5) (N := 11) rfl rfl rfl inF5 (by decide) tw316 dX5_danger_26 ?_
      refine j_iload_n F 3 dX5_danger_29 rfl ?_
      obtain ⟨r30, hc30, hm⟩ := Option.bind_eq_some_iff.mp hm
      refine j_callV F (n := 1) (As := [.int v3]) (rest := []) (c_X3_isRightIndex l g hg 29 v3 (by decide) S r30 hc30) gw_X5_234 (by decide +kernel) ⟨Nat.le_of_ble_eq_true rfl, Nat.le_of_ble_eq_true rfl⟩ ⟨Nat.le_of_ble_eq_true rfl, Nat.le_of_ble_eq_true rfl⟩ (isSt_lay (i := 29) (by decide)).1 rfl rfl rfl (Nat.le_of_ble_eq_true rfl) dX5_danger_30 ?_
      show J p l e rmX5_danger s m args below meth c g A 5 (MQ below (QC g A (some (.int r)) S') args s 0 0 A) 0 0 33 [(0, .ref (g.2.1 0)), (1, .int v1), (2, .int v2), (3, .int v3)] [.int r30] S
      refine j_if_eq F (tgt := 68) dX5_danger_33 (by decide) hm (fun _ hm => ?_) (fun _ hm => ?_)
      · refine j_sub [0, 1, 2, 3] rfl ?_
        exact hj68 v1 v2 v3 S  hm
      · refine j_aload_n F 0 dX5_danger_36 rfl ?_
        refine j_getR F (k0 := 1) (C := RX5) (T := TX5) (N := 11) rfl rfl rfl inF5 (by decide) tw316 dX5_danger_37 ?_
        refine j_iload_n F 3 dX5_danger_40 rfl ?_
        obtain ⟨r41, hc41, hm⟩ := Option.bind_eq_some_iff.mp hm
        refine j_callV F (n := 1) (As := [.int v3]) (rest := []) (c_X3_has l g hg 29 v3 (by decide) S r41 hc41) gw_X5_158 (by decide +kernel) ⟨Nat.le_of_ble_eq_true rfl, Nat.le_of_ble_eq_true rfl⟩ ⟨Nat.le_of_ble_eq_true rfl, Nat.le_of_ble_eq_true rfl⟩ (isSt_lay (i := 29) (by decide)).1 rfl rfl rfl (Nat.le_of_ble_eq_true rfl) dX5_danger_41 ?_
        show J p l e rmX5_danger s m args below meth c g A 5 (MQ below (QC g A (some (.int r)) S') args s 0 0 A) 0 0 44 [(0, .ref (g.2.1 0)), (1, .int v1), (2, .int v2), (3, .int v3)] [.int r41] S
        refine j_if_ne F (tgt := 68) dX5_danger_44 (by decide) hm (fun _ hm => ?_) (fun _ hm => ?_)
        · refine j_sub [0, 1, 2, 3] rfl ?_
          exact hj68 v1 v2 v3 S  hm
        · refine j_aload_n F 0 dX5_danger_47 rfl ?_
          refine j_iload_n F 3 dX5_danger_48 rfl ?_
          obtain ⟨r49, S49, hc49, hm⟩ := bndE_ok hm
          refine j_callV F (n := 1) (As := [.int v3]) (rest := []) (c_X5_countAtEndWith l g hg v3 S r49 S49 hc49) gw_X5_237 (by decide +kernel) ⟨Nat.le_of_ble_eq_true rfl, Nat.le_of_ble_eq_true rfl⟩ ⟨Nat.le_of_ble_eq_true rfl, Nat.le_of_ble_eq_true rfl⟩ rfl rfl rfl rfl (Nat.le_of_ble_eq_true rfl) dX5_danger_49 ?_
          show J p l e rmX5_danger s m args below meth c g A 5 (MQ below (QC g A (some (.int r)) S') args s 0 0 A) 0 0 52 [(0, .ref (g.2.1 0)), (1, .int v1), (2, .int v2), (3, .int v3)] [.int r49] S49
          refine j_istore F (lv' := [(4, .int r49), (0, .ref (g.2.1 0)), (1, .int v1), (2, .int v2), (3, .int v3)]) dX5_danger_52 (by decide) rfl ?_
          refine j_iload F 0 dX5_danger_54 rfl ?_
          refine j_iload_n F 3 dX5_danger_56 rfl ?_
          refine j_icmp_le F (tgt := 68) dX5_danger_57 (by decide) hm (fun _ hm => ?_) (fun _ hm => ?_)
          · refine j_sub [1, 2, 3, 4] rfl ?_
            exact hj68 v1 v2 v3 S49  hm
          · refine j_iload F 0 dX5_danger_60 rfl ?_
            refine j_istore_n F (lv' := [(2, .int r49), (4, .int r49), (0, .ref (g.2.1 0)), (1, .int v1), (3, .int v3)]) dX5_danger_62 (by decide) rfl ?_
            refine j_iload_n F 4 dX5_danger_63 rfl ?_
            obtain ⟨r64, hc64, hm⟩ := Option.bind_eq_some_iff.mp hm
            refine j_callS F (n := 1) (As := [.int v3]) (rest := []) (c_X5_numberOf l g hg v3 S49 r64 hc64) gw_X5_228 (by decide +kernel) ⟨Nat.le_of_ble_eq_true rfl, Nat.le_of_ble_eq_true rfl⟩ ⟨Nat.le_of_ble_eq_true rfl, Nat.le_of_ble_eq_true rfl⟩ rfl rfl (Nat.le_of_ble_eq_true rfl) dX5_danger_64 ?_
            show J p l e rmX5_danger s m args below meth c g A 5 (MQ below (QC g A (some (.int r)) S') args s 0 0 A) 0 0 67 [(2, .int r49), (4, .int r49), (0, .ref (g.2.1 0)), (1, .int v1), (3, .int v3)] [.int r64] S49
            refine j_istore_n F (lv' := [(1, .int r64), (2, .int r49), (4, .int r49), (0, .ref (g.2.1 0)), (3, .int v3)]) dX5_danger_67 (by decide) rfl ?_
            refine j_sub [3, 0, 1, 4] rfl ?_
            exact hj68 r64 r49 v3 S49  hm
  · show J p l e rmX5_danger s m args below meth c g A 5 (MQ below (QC g A (some (.int r)) S') args s 0 0 A) 0 0 74 [(1, .int y18.1)] [] y18.2
    refine j_iload_n F 0 dX5_danger_74 rfl ?_
    exact j_iret_e F rfl dX5_danger_75 hm
def m_X5_withoutGroups_L5 (v2 : Int32) (v3 : Int64) (v5 : Int32) : Option ((Int64 × Int32) ⊕ Int64) := if v2 ≤ v5 then (some (.inr v3)) else (bnd (v3 / 100000) fun v3_16 => (some (.inl ((v3_16, v5 + 1)))))
noncomputable def m_X5_withoutGroups (v0 : Int64) (v2 : Int32) : Option (Int64) := (loopO (fun x => m_X5_withoutGroups_L5 v2 x.1 x.2) ((v0, 0))).bind fun y5 => some y5
set_option maxRecDepth 100000 in
set_option maxHeartbeats 4000000 in
theorem c_X5_withoutGroups (l : Launch) (g : GG) (hg : Inj g) (v0 : Int64) (v2 : Int32)  (S : Hs) (r : Int64) (hm : m_X5_withoutGroups v0 v2 = some r) : CM l yX5_withoutGroups [.code yX5_withoutGroups cX5_withoutGroups 6 (some .long)] rmX5_withoutGroups [.long v0, .int v2] g S (some (.long r)) S := by
  unfold m_X5_withoutGroups at hm
  refine CM.of (cc := cX5_withoutGroups) (nL := 6) (ret := (some .long)) (lv := [(0, .long v0), (2, .int v2)]) (by decide +kernel) hg (Nat.le_of_ble_eq_true rfl) rfl (fun p e s m args below meth c A F => ?_)
  replace F : Fx p s m meth c cX5_withoutGroups RX5 6 (some .long) g A := F
  show J p l e rmX5_withoutGroups s m args below meth c g A 6 (MQ below (QC g A (some (.long r)) S) args s 0 0 A) 0 0 0 [(0, .long v0), (2, .int v2)] [] S
  refine j_lload_n F 0 dX5_withoutGroups_0 rfl ?_
  refine j_lstore_n F (lv' := [(3, .long v0), (0, .long v0), (2, .int v2)]) dX5_withoutGroups_1 (by decide) rfl ?_
  refine j_iconst F (v := 0) dX5_withoutGroups_2 (by decide) ?_
  refine j_istore F (lv' := [(5, .int 0), (3, .long v0), (0, .long v0), (2, .int v2)]) dX5_withoutGroups_3 (by decide) rfl ?_
  refine j_sub [3, 1, 0] rfl ?_
  obtain ⟨y5, hlp5, hm⟩ := Option.bind_eq_some_iff.mp hm
  refine loopO_walk (fun x => m_X5_withoutGroups_L5 v2 x.1 x.2) (fun x => J p l e rmX5_withoutGroups s m args below meth c g A 6 (MQ below (QC g A (some (.long r)) S) args s 0 0 A) 0 0 5 [(2, .int v2), (3, .long x.1), (5, .int x.2)] [] S) (fun x => J p l e rmX5_withoutGroups s m args below meth c g A 6 (MQ below (QC g A (some (.long r)) S) args s 0 0 A) 0 0 23 [(3, .long x)] [] S) (fun x o1 hm hk1 => ?_) hlp5 ?_
  · obtain ⟨v3, v5⟩ := x
    replace hm : m_X5_withoutGroups_L5 v2 v3 v5 = some o1 := hm
    show J p l e rmX5_withoutGroups s m args below meth c g A 6 (MQ below (QC g A (some (.long r)) S) args s 0 0 A) 0 0 5 [(2, .int v2), (3, .long v3), (5, .int v5)] [] S
    unfold m_X5_withoutGroups_L5 at hm
    refine j_iload F 2 dX5_withoutGroups_5 rfl ?_
    refine j_iload_n F 0 dX5_withoutGroups_7 rfl ?_
    refine j_icmp_ge F (tgt := 23) dX5_withoutGroups_8 (by decide) hm (fun _ hm => ?_) (fun _ hm => ?_)
    · cases hm
      refine j_sub [1] rfl ?_
      exact hk1
    · refine j_lload_n F 1 dX5_withoutGroups_11 rfl ?_
      refine j_ldc2 F (v := 100000) dX5_withoutGroups_12 tw473 ?_
      refine j_ldiv F dX5_withoutGroups_15 (by decide) ?_
      refine j_bndl hm (fun v3_16 hm => ?_)
      refine j_lstore_n F (lv' := [(3, .long v3_16), (2, .int v2), (5, .int v5)]) dX5_withoutGroups_16 (by decide) rfl ?_
      refine j_iinc F (v := v5 + 1) (lv' := [(5, .int (v5 + 1)), (3, .long v3_16), (2, .int v2)]) 2 dX5_withoutGroups_17 rfl rfl (by decide) rfl ?_
      refine j_goto F (tgt := 5) dX5_withoutGroups_20 (by decide) ?_
      cases hm
      refine j_sub [2, 1, 0] rfl ?_
      exact hk1
  · show J p l e rmX5_withoutGroups s m args below meth c g A 6 (MQ below (QC g A (some (.long r)) S) args s 0 0 A) 0 0 23 [(3, .long y5)] [] S
    refine j_lload_n F 0 dX5_withoutGroups_23 rfl ?_
    exact j_lret_p F rfl dX5_withoutGroups_24 hm
def m_X5_commandStep_J33 (S : Hs) : Option (Int32 × Hs) := some ((0, S))
def m_X5_commandStep_J48 (v4 : Int32) (v5 : Int32) (w0 : Int32) (w1 : Nat) (S : Hs) : Option (Int32 × Hs) := (m_X5_rightOf w0 v4 v5).bind fun r52 => ((m_X3_put w1 r52 1 S).bind fun S56 => (some ((1, S56))))
noncomputable def m_X5_commandStep (v1 : Int32) (v2 : Int32) (v3 : Int32) (v4 : Int32) (v5 : Int32) (S : Hs) : Option (Int32 × Hs) := (m_X3_isStep 63 v2 v3 v4 v5 S).bind fun r10 => (if r10 = 0 then (m_X5_commandStep_J33 S) else ((m_X3_allowsStep 63 v1 v2 v3 v4 v5 S).bind fun r27 => (if r27 = 0 then (m_X5_commandStep_J33 S) else (if v1 = 0 then (m_X5_commandStep_J48 v4 v5 v2 63 S) else (m_X5_commandStep_J48 v4 v5 v3 63 S)))))
set_option maxRecDepth 100000 in
set_option maxHeartbeats 4000000 in
theorem c_X5_commandStep (l : Launch) (g : GG) (hg : Inj g) (v1 : Int32) (v2 : Int32) (v3 : Int32) (v4 : Int32) (v5 : Int32)  (S : Hs) (r : Int32) (S' : Hs) (hm : m_X5_commandStep v1 v2 v3 v4 v5 S = some ((r, S'))) : CM l yX5_commandStep [.code yX5_commandStep cX5_commandStep 6 (some .boolean)] rmX5_commandStep [.ref (g.2.1 0), .int v1, .int v2, .int v3, .int v4, .int v5] g S (some (.int r)) S' := by
  unfold m_X5_commandStep at hm
  refine CM.of (cc := cX5_commandStep) (nL := 6) (ret := (some .boolean)) (lv := [(0, .ref (g.2.1 0)), (1, .int v1), (2, .int v2), (3, .int v3), (4, .int v4), (5, .int v5)]) (by decide +kernel) hg (Nat.le_of_ble_eq_true rfl) rfl (fun p e s m args below meth c A F => ?_)
  replace F : Fx p s m meth c cX5_commandStep RX5 6 (some .boolean) g A := F
  show J p l e rmX5_commandStep s m args below meth c g A 6 (MQ below (QC g A (some (.int r)) S') args s 0 0 A) 0 0 0 [(0, .ref (g.2.1 0)), (1, .int v1), (2, .int v2), (3, .int v3), (4, .int v4), (5, .int v5)] [] S
  have hj33 : ∀ (S : Hs), m_X5_commandStep_J33 S = some ((r, S')) → J p l e rmX5_commandStep s m args below meth c g A 6 (MQ below (QC g A (some (.int r)) S') args s 0 0 A) 0 0 33 [] [] S := by
    intro S hm
    unfold m_X5_commandStep_J33 at hm
    refine j_iconst F (v := 0) dX5_commandStep_33 (by decide) ?_
    exact j_zret_e F rfl rfl dX5_commandStep_34 hm
  have hj48 : ∀ (v4 : Int32) (v5 : Int32) (w0 : Int32) (w1 : Nat) (S : Hs), isSt w1 = true → m_X5_commandStep_J48 v4 v5 w0 w1 S = some ((r, S')) → J p l e rmX5_commandStep s m args below meth c g A 6 (MQ below (QC g A (some (.int r)) S') args s 0 0 A) 0 0 48 [(4, .int v4), (5, .int v5)] [.int w0, .ref (g.2.1 w1)] S := by
    intro v4 v5 w0 w1 S hw1 hm
    unfold m_X5_commandStep_J48 at hm
    refine j_iload F 0 dX5_commandStep_48 rfl ?_
    refine j_iload F 1 dX5_commandStep_50 rfl ?_
    obtain ⟨r52, hc52, hm⟩ := Option.bind_eq_some_iff.mp hm
    refine j_callS F (n := 3) (As := [.int w0, .int v4, .int v5]) (rest := [.ref (g.2.1 w1)]) (c_X5_rightOf l g hg w0 v4 v5 S r52 hc52) gw_X5_154 (by decide +kernel) ⟨Nat.le_of_ble_eq_true rfl, Nat.le_of_ble_eq_true rfl⟩ ⟨Nat.le_of_ble_eq_true rfl, Nat.le_of_ble_eq_true rfl⟩ rfl rfl (Nat.le_of_ble_eq_true rfl) dX5_commandStep_52 ?_
    show J p l e rmX5_commandStep s m args below meth c g A 6 (MQ below (QC g A (some (.int r)) S') args s 0 0 A) 0 0 55 [(4, .int v4), (5, .int v5)] [.int r52, .ref (g.2.1 w1)] S
    refine j_iconst F (v := 1) dX5_commandStep_55 (by decide) ?_
    obtain ⟨S56, hc56, hm⟩ := Option.bind_eq_some_iff.mp hm
    refine j_callV F (n := 2) (As := [.int r52, .int 1]) (rest := []) (c_X3_put l g hg w1 r52 1 hw1 S S56 hc56) gw_X5_196 (by decide +kernel) ⟨Nat.le_of_ble_eq_true rfl, Nat.le_of_ble_eq_true rfl⟩ ⟨Nat.le_of_ble_eq_true rfl, Nat.le_of_ble_eq_true rfl⟩ (isSt_lay hw1).1 rfl rfl rfl (Nat.le_of_ble_eq_true rfl) dX5_commandStep_56 ?_
    show J p l e rmX5_commandStep s m args below meth c g A 6 (MQ below (QC g A (some (.int r)) S') args s 0 0 A) 0 0 59 [(4, .int v4), (5, .int v5)] [] S56
    refine j_iconst F (v := 1) dX5_commandStep_59 (by decide) ?_
    exact j_zret_e F rfl rfl dX5_commandStep_60 hm
  refine j_aload_n F 0 dX5_commandStep_0 rfl ?_
  refine j_getR F (k0 := 6) (C := RX5) (T := TX5) (N := 11) rfl rfl rfl inF5 (by decide) tw320 dX5_commandStep_1 ?_
  refine j_iload_n F 2 dX5_commandStep_4 rfl ?_
  refine j_iload_n F 3 dX5_commandStep_5 rfl ?_
  refine j_iload F 4 dX5_commandStep_6 rfl ?_
  refine j_iload F 5 dX5_commandStep_8 rfl ?_
  obtain ⟨r10, hc10, hm⟩ := Option.bind_eq_some_iff.mp hm
  refine j_callV F (n := 4) (As := [.int v2, .int v3, .int v4, .int v5]) (rest := []) (c_X3_isStep l g hg 63 v2 v3 v4 v5 (by decide) S r10 hc10) gw_X5_288 (by decide +kernel) ⟨Nat.le_of_ble_eq_true rfl, Nat.le_of_ble_eq_true rfl⟩ ⟨Nat.le_of_ble_eq_true rfl, Nat.le_of_ble_eq_true rfl⟩ (isSt_lay (i := 63) (by decide)).1 rfl rfl rfl (Nat.le_of_ble_eq_true rfl) dX5_commandStep_10 ?_
  show J p l e rmX5_commandStep s m args below meth c g A 6 (MQ below (QC g A (some (.int r)) S') args s 0 0 A) 0 0 13 [(0, .ref (g.2.1 0)), (1, .int v1), (2, .int v2), (3, .int v3), (4, .int v4), (5, .int v5)] [.int r10] S
  refine j_if_eq F (tgt := 33) dX5_commandStep_13 (by decide) hm (fun _ hm => ?_) (fun _ hm => ?_)
  · refine j_sub [] rfl ?_
    exact hj33 S  hm
  · refine j_aload_n F 0 dX5_commandStep_16 rfl ?_
    refine j_getR F (k0 := 6) (C := RX5) (T := TX5) (N := 11) rfl rfl rfl inF5 (by decide) tw320 dX5_commandStep_17 ?_
    refine j_iload_n F 1 dX5_commandStep_20 rfl ?_
    refine j_iload_n F 2 dX5_commandStep_21 rfl ?_
    refine j_iload_n F 3 dX5_commandStep_22 rfl ?_
    refine j_iload F 4 dX5_commandStep_23 rfl ?_
    refine j_iload F 5 dX5_commandStep_25 rfl ?_
    obtain ⟨r27, hc27, hm⟩ := Option.bind_eq_some_iff.mp hm
    refine j_callV F (n := 5) (As := [.int v1, .int v2, .int v3, .int v4, .int v5]) (rest := []) (c_X3_allowsStep l g hg 63 v1 v2 v3 v4 v5 (by decide) S r27 hc27) gw_X5_299 (by decide +kernel) ⟨Nat.le_of_ble_eq_true rfl, Nat.le_of_ble_eq_true rfl⟩ ⟨Nat.le_of_ble_eq_true rfl, Nat.le_of_ble_eq_true rfl⟩ (isSt_lay (i := 63) (by decide)).1 rfl rfl rfl (Nat.le_of_ble_eq_true rfl) dX5_commandStep_27 ?_
    show J p l e rmX5_commandStep s m args below meth c g A 6 (MQ below (QC g A (some (.int r)) S') args s 0 0 A) 0 0 30 [(0, .ref (g.2.1 0)), (1, .int v1), (2, .int v2), (3, .int v3), (4, .int v4), (5, .int v5)] [.int r27] S
    refine j_if_ne F (tgt := 35) dX5_commandStep_30 (by decide) hm (fun _ hm => ?_) (fun _ hm => ?_)
    · refine j_aload_n F 0 dX5_commandStep_35 rfl ?_
      refine j_getR F (k0 := 6) (C := RX5) (T := TX5) (N := 11) rfl rfl rfl inF5 (by decide) tw320 dX5_commandStep_36 ?_
      refine j_iload_n F 1 dX5_commandStep_39 rfl ?_
      refine j_if_eq F (tgt := 47) dX5_commandStep_40 (by decide) hm (fun _ hm => ?_) (fun _ hm => ?_)
      · refine j_iload_n F 2 dX5_commandStep_47 rfl ?_
        refine j_sub [4, 5] rfl ?_
        exact hj48 v4 v5 v2 63 S (by decide) hm
      · refine j_iload_n F 3 dX5_commandStep_43 rfl ?_
        refine j_goto F (tgt := 48) dX5_commandStep_44 (by decide) ?_
        refine j_sub [4, 5] rfl ?_
        exact hj48 v4 v5 v3 63 S (by decide) hm
    · refine j_sub [] rfl ?_
      exact hj33 S  hm
def m_X5_commandSet_J19 (S : Hs) : Option (Int32 × Hs) := some ((0, S))
def m_X5_commandSet_J66 (w0 : Int32) (w1 : Int32) (w2 : Nat) (S : Hs) : Option (Int32 × Hs) := (m_X3_put w2 w1 w0 S).bind fun S66 => (some ((1, S66)))
def m_X5_commandSet_J49 (v4 : Int32) (v5 : Int32) (S : Hs) : Option (Int32 × Hs) := if v4 = 1 then (m_X5_commandSet_J66 1 v5 63 S) else (m_X5_commandSet_J66 0 v5 63 S)
noncomputable def m_X5_commandSet (v1 : Int32) (v2 : Int32) (v3 : Int32) (v4 : Int32) (S : Hs) : Option (Int32 × Hs) := if 1 < v4 then (m_X5_commandSet_J19 S) else ((m_X3_isRight 63 v1 v2 v3 S).bind fun r13 => (if r13 = 0 then (m_X5_commandSet_J19 S) else ((m_X5_rightOf v1 v2 v3).bind fun r24 => (if v4 = 1 then ((m_X3_hasRoomFor 63 r24 S).bind fun r41 => (if r41 = 0 then (some ((0, S))) else (m_X5_commandSet_J49 v4 r24 S))) else (m_X5_commandSet_J49 v4 r24 S)))))
set_option maxRecDepth 100000 in
set_option maxHeartbeats 4000000 in
theorem c_X5_commandSet (l : Launch) (g : GG) (hg : Inj g) (v1 : Int32) (v2 : Int32) (v3 : Int32) (v4 : Int32)  (S : Hs) (r : Int32) (S' : Hs) (hm : m_X5_commandSet v1 v2 v3 v4 S = some ((r, S'))) : CM l yX5_commandSet [.code yX5_commandSet cX5_commandSet 6 (some .boolean)] rmX5_commandSet [.ref (g.2.1 0), .int v1, .int v2, .int v3, .int v4] g S (some (.int r)) S' := by
  unfold m_X5_commandSet at hm
  refine CM.of (cc := cX5_commandSet) (nL := 6) (ret := (some .boolean)) (lv := [(0, .ref (g.2.1 0)), (1, .int v1), (2, .int v2), (3, .int v3), (4, .int v4)]) (by decide +kernel) hg (Nat.le_of_ble_eq_true rfl) rfl (fun p e s m args below meth c A F => ?_)
  replace F : Fx p s m meth c cX5_commandSet RX5 6 (some .boolean) g A := F
  show J p l e rmX5_commandSet s m args below meth c g A 6 (MQ below (QC g A (some (.int r)) S') args s 0 0 A) 0 0 0 [(0, .ref (g.2.1 0)), (1, .int v1), (2, .int v2), (3, .int v3), (4, .int v4)] [] S
  have hj19 : ∀ (S : Hs), m_X5_commandSet_J19 S = some ((r, S')) → J p l e rmX5_commandSet s m args below meth c g A 6 (MQ below (QC g A (some (.int r)) S') args s 0 0 A) 0 0 19 [] [] S := by
    intro S hm
    unfold m_X5_commandSet_J19 at hm
    refine j_iconst F (v := 0) dX5_commandSet_19 (by decide) ?_
    exact j_zret_e F rfl rfl dX5_commandSet_20 hm
  have hj66 : ∀ (w0 : Int32) (w1 : Int32) (w2 : Nat) (S : Hs), isSt w2 = true → m_X5_commandSet_J66 w0 w1 w2 S = some ((r, S')) → J p l e rmX5_commandSet s m args below meth c g A 6 (MQ below (QC g A (some (.int r)) S') args s 0 0 A) 0 0 66 [] [.int w0, .int w1, .ref (g.2.1 w2)] S := by
    intro w0 w1 w2 S hw2 hm
    unfold m_X5_commandSet_J66 at hm
    obtain ⟨S66, hc66, hm⟩ := Option.bind_eq_some_iff.mp hm
    refine j_callV F (n := 2) (As := [.int w1, .int w0]) (rest := []) (c_X3_put l g hg w2 w1 w0 hw2 S S66 hc66) gw_X5_196 (by decide +kernel) ⟨Nat.le_of_ble_eq_true rfl, Nat.le_of_ble_eq_true rfl⟩ ⟨Nat.le_of_ble_eq_true rfl, Nat.le_of_ble_eq_true rfl⟩ (isSt_lay hw2).1 rfl rfl rfl (Nat.le_of_ble_eq_true rfl) dX5_commandSet_66 ?_
    show J p l e rmX5_commandSet s m args below meth c g A 6 (MQ below (QC g A (some (.int r)) S') args s 0 0 A) 0 0 69 [] [] S66
    refine j_iconst F (v := 1) dX5_commandSet_69 (by decide) ?_
    exact j_zret_e F rfl rfl dX5_commandSet_70 hm
  have hj49 : ∀ (v4 : Int32) (v5 : Int32) (S : Hs), m_X5_commandSet_J49 v4 v5 S = some ((r, S')) → J p l e rmX5_commandSet s m args below meth c g A 6 (MQ below (QC g A (some (.int r)) S') args s 0 0 A) 0 0 49 [(0, .ref (g.2.1 0)), (4, .int v4), (5, .int v5)] [] S := by
    intro v4 v5 S hm
    unfold m_X5_commandSet_J49 at hm
    refine j_aload_n F 0 dX5_commandSet_49 rfl ?_
    refine j_getR F (k0 := 6) (C := RX5) (T := TX5) (N := 11) rfl rfl rfl inF5 (by decide) tw320 dX5_commandSet_50 ?_
    refine j_iload F 2 dX5_commandSet_53 rfl ?_
    refine j_iload F 1 dX5_commandSet_55 rfl ?_
    refine j_iconst F (v := 1) dX5_commandSet_57 (by decide) ?_
    refine j_icmp_ne F (tgt := 65) dX5_commandSet_58 (by decide) hm (fun _ hm => ?_) (fun _ hm => ?_)
    · refine j_iconst F (v := 0) dX5_commandSet_65 (by decide) ?_
      refine j_sub [] rfl ?_
      exact hj66 0 v5 63 S (by decide) hm
    · refine j_iconst F (v := 1) dX5_commandSet_61 (by decide) ?_
      refine j_goto F (tgt := 66) dX5_commandSet_62 (by decide) ?_
      refine j_sub [] rfl ?_
      exact hj66 1 v5 63 S (by decide) hm
  refine j_iload F 4 dX5_commandSet_0 rfl ?_
  refine j_iconst F (v := 1) dX5_commandSet_2 (by decide) ?_
  refine j_icmp_gt F (tgt := 19) dX5_commandSet_3 (by decide) hm (fun _ hm => ?_) (fun _ hm => ?_)
  · refine j_sub [] rfl ?_
    exact hj19 S  hm
  · refine j_aload_n F 0 dX5_commandSet_6 rfl ?_
    refine j_getR F (k0 := 6) (C := RX5) (T := TX5) (N := 11) rfl rfl rfl inF5 (by decide) tw320 dX5_commandSet_7 ?_
    refine j_iload_n F 1 dX5_commandSet_10 rfl ?_
    refine j_iload_n F 2 dX5_commandSet_11 rfl ?_
    refine j_iload_n F 3 dX5_commandSet_12 rfl ?_
    obtain ⟨r13, hc13, hm⟩ := Option.bind_eq_some_iff.mp hm
    refine j_callV F (n := 3) (As := [.int v1, .int v2, .int v3]) (rest := []) (c_X3_isRight l g hg 63 v1 v2 v3 (by decide) S r13 hc13) gw_X5_282 (by decide +kernel) ⟨Nat.le_of_ble_eq_true rfl, Nat.le_of_ble_eq_true rfl⟩ ⟨Nat.le_of_ble_eq_true rfl, Nat.le_of_ble_eq_true rfl⟩ (isSt_lay (i := 63) (by decide)).1 rfl rfl rfl (Nat.le_of_ble_eq_true rfl) dX5_commandSet_13 ?_
    show J p l e rmX5_commandSet s m args below meth c g A 6 (MQ below (QC g A (some (.int r)) S') args s 0 0 A) 0 0 16 [(0, .ref (g.2.1 0)), (1, .int v1), (2, .int v2), (3, .int v3), (4, .int v4)] [.int r13] S
    refine j_if_ne F (tgt := 21) dX5_commandSet_16 (by decide) hm (fun _ hm => ?_) (fun _ hm => ?_)
    · refine j_iload_n F 1 dX5_commandSet_21 rfl ?_
      refine j_iload_n F 2 dX5_commandSet_22 rfl ?_
      refine j_iload_n F 3 dX5_commandSet_23 rfl ?_
      obtain ⟨r24, hc24, hm⟩ := Option.bind_eq_some_iff.mp hm
      refine j_callS F (n := 3) (As := [.int v1, .int v2, .int v3]) (rest := []) (c_X5_rightOf l g hg v1 v2 v3 S r24 hc24) gw_X5_154 (by decide +kernel) ⟨Nat.le_of_ble_eq_true rfl, Nat.le_of_ble_eq_true rfl⟩ ⟨Nat.le_of_ble_eq_true rfl, Nat.le_of_ble_eq_true rfl⟩ rfl rfl (Nat.le_of_ble_eq_true rfl) dX5_commandSet_24 ?_
      show J p l e rmX5_commandSet s m args below meth c g A 6 (MQ below (QC g A (some (.int r)) S') args s 0 0 A) 0 0 27 [(0, .ref (g.2.1 0)), (1, .int v1), (2, .int v2), (3, .int v3), (4, .int v4)] [.int r24] S
      refine j_istore F (lv' := [(5, .int r24), (0, .ref (g.2.1 0)), (1, .int v1), (2, .int v2), (3, .int v3), (4, .int v4)]) dX5_commandSet_27 (by decide) rfl ?_
      refine j_iload F 5 dX5_commandSet_29 rfl ?_
      refine j_iconst F (v := 1) dX5_commandSet_31 (by decide) ?_
      refine j_icmp_ne F (tgt := 49) dX5_commandSet_32 (by decide) hm (fun _ hm => ?_) (fun _ hm => ?_)
      · refine j_sub [1, 5, 0] rfl ?_
        exact hj49 v4 r24 S  hm
      · refine j_aload_n F 1 dX5_commandSet_35 rfl ?_
        refine j_getR F (k0 := 6) (C := RX5) (T := TX5) (N := 11) rfl rfl rfl inF5 (by decide) tw320 dX5_commandSet_36 ?_
        refine j_iload F 0 dX5_commandSet_39 rfl ?_
        obtain ⟨r41, hc41, hm⟩ := Option.bind_eq_some_iff.mp hm
        refine j_callV F (n := 1) (As := [.int r24]) (rest := []) (c_X3_hasRoomFor l g hg 63 r24 (by decide) S r41 hc41) gw_X5_191 (by decide +kernel) ⟨Nat.le_of_ble_eq_true rfl, Nat.le_of_ble_eq_true rfl⟩ ⟨Nat.le_of_ble_eq_true rfl, Nat.le_of_ble_eq_true rfl⟩ (isSt_lay (i := 63) (by decide)).1 rfl rfl rfl (Nat.le_of_ble_eq_true rfl) dX5_commandSet_41 ?_
        show J p l e rmX5_commandSet s m args below meth c g A 6 (MQ below (QC g A (some (.int r)) S') args s 0 0 A) 0 0 44 [(5, .int r24), (0, .ref (g.2.1 0)), (1, .int v1), (2, .int v2), (3, .int v3), (4, .int v4)] [.int r41] S
        refine j_if_ne F (tgt := 49) dX5_commandSet_44 (by decide) hm (fun _ hm => ?_) (fun _ hm => ?_)
        · refine j_sub [1, 5, 0] rfl ?_
          exact hj49 v4 r24 S  hm
        · refine j_iconst F (v := 0) dX5_commandSet_47 (by decide) ?_
          exact j_zret_e F rfl rfl dX5_commandSet_48 hm
    · refine j_sub [] rfl ?_
      exact hj19 S  hm
def m_X5_commandWake_J27 (S : Hs) : Option (Int32 × Hs) := some ((0, S))
def m_X5_commandWake_J44 (w0 : Int32) (w1 : Int32) (w2 : Nat) (S : Hs) : Option (Int32 × Hs) := (m_X3_setAwake w2 w1 w0 S).bind fun S44 => (some ((1, S44)))
def m_X5_commandWake (v1 : Int32) (v2 : Int32) (S : Hs) : Option (Int32 × Hs) := if 1 < v2 then (m_X5_commandWake_J27 S) else ((m_X3_exists 63 v1 S).bind fun r10 => (if r10 = 0 then (m_X5_commandWake_J27 S) else ((m_X3_isPerson 63 v1 S).bind fun r21 => (if r21 = 0 then (m_X5_commandWake_J27 S) else (if v2 = 1 then (m_X5_commandWake_J44 1 v1 63 S) else (m_X5_commandWake_J44 0 v1 63 S))))))
set_option maxRecDepth 100000 in
set_option maxHeartbeats 4000000 in
theorem c_X5_commandWake (l : Launch) (g : GG) (hg : Inj g) (v1 : Int32) (v2 : Int32)  (S : Hs) (r : Int32) (S' : Hs) (hm : m_X5_commandWake v1 v2 S = some ((r, S'))) : CM l yX5_commandWake [.code yX5_commandWake cX5_commandWake 3 (some .boolean)] rmX5_commandWake [.ref (g.2.1 0), .int v1, .int v2] g S (some (.int r)) S' := by
  unfold m_X5_commandWake at hm
  refine CM.of (cc := cX5_commandWake) (nL := 3) (ret := (some .boolean)) (lv := [(0, .ref (g.2.1 0)), (1, .int v1), (2, .int v2)]) (by decide +kernel) hg (Nat.le_of_ble_eq_true rfl) rfl (fun p e s m args below meth c A F => ?_)
  replace F : Fx p s m meth c cX5_commandWake RX5 3 (some .boolean) g A := F
  show J p l e rmX5_commandWake s m args below meth c g A 3 (MQ below (QC g A (some (.int r)) S') args s 0 0 A) 0 0 0 [(0, .ref (g.2.1 0)), (1, .int v1), (2, .int v2)] [] S
  have hj27 : ∀ (S : Hs), m_X5_commandWake_J27 S = some ((r, S')) → J p l e rmX5_commandWake s m args below meth c g A 3 (MQ below (QC g A (some (.int r)) S') args s 0 0 A) 0 0 27 [] [] S := by
    intro S hm
    unfold m_X5_commandWake_J27 at hm
    refine j_iconst F (v := 0) dX5_commandWake_27 (by decide) ?_
    exact j_zret_e F rfl rfl dX5_commandWake_28 hm
  have hj44 : ∀ (w0 : Int32) (w1 : Int32) (w2 : Nat) (S : Hs), isSt w2 = true → m_X5_commandWake_J44 w0 w1 w2 S = some ((r, S')) → J p l e rmX5_commandWake s m args below meth c g A 3 (MQ below (QC g A (some (.int r)) S') args s 0 0 A) 0 0 44 [] [.int w0, .int w1, .ref (g.2.1 w2)] S := by
    intro w0 w1 w2 S hw2 hm
    unfold m_X5_commandWake_J44 at hm
    obtain ⟨S44, hc44, hm⟩ := Option.bind_eq_some_iff.mp hm
    refine j_callV F (n := 2) (As := [.int w1, .int w0]) (rest := []) (c_X3_setAwake l g hg w2 w1 w0 hw2 S S44 hc44) gw_X5_187 (by decide +kernel) ⟨Nat.le_of_ble_eq_true rfl, Nat.le_of_ble_eq_true rfl⟩ ⟨Nat.le_of_ble_eq_true rfl, Nat.le_of_ble_eq_true rfl⟩ (isSt_lay hw2).1 rfl rfl rfl (Nat.le_of_ble_eq_true rfl) dX5_commandWake_44 ?_
    show J p l e rmX5_commandWake s m args below meth c g A 3 (MQ below (QC g A (some (.int r)) S') args s 0 0 A) 0 0 47 [] [] S44
    refine j_iconst F (v := 1) dX5_commandWake_47 (by decide) ?_
    exact j_zret_e F rfl rfl dX5_commandWake_48 hm
  refine j_iload_n F 2 dX5_commandWake_0 rfl ?_
  refine j_iconst F (v := 1) dX5_commandWake_1 (by decide) ?_
  refine j_icmp_gt F (tgt := 27) dX5_commandWake_2 (by decide) hm (fun _ hm => ?_) (fun _ hm => ?_)
  · refine j_sub [] rfl ?_
    exact hj27 S  hm
  · refine j_aload_n F 0 dX5_commandWake_5 rfl ?_
    refine j_getR F (k0 := 6) (C := RX5) (T := TX5) (N := 11) rfl rfl rfl inF5 (by decide) tw320 dX5_commandWake_6 ?_
    refine j_iload_n F 1 dX5_commandWake_9 rfl ?_
    obtain ⟨r10, hc10, hm⟩ := Option.bind_eq_some_iff.mp hm
    refine j_callV F (n := 1) (As := [.int v1]) (rest := []) (c_X3_exists l g hg 63 v1 (by decide) S r10 hc10) gw_X5_274 (by decide +kernel) ⟨Nat.le_of_ble_eq_true rfl, Nat.le_of_ble_eq_true rfl⟩ ⟨Nat.le_of_ble_eq_true rfl, Nat.le_of_ble_eq_true rfl⟩ (isSt_lay (i := 63) (by decide)).1 rfl rfl rfl (Nat.le_of_ble_eq_true rfl) dX5_commandWake_10 ?_
    show J p l e rmX5_commandWake s m args below meth c g A 3 (MQ below (QC g A (some (.int r)) S') args s 0 0 A) 0 0 13 [(0, .ref (g.2.1 0)), (1, .int v1), (2, .int v2)] [.int r10] S
    refine j_if_eq F (tgt := 27) dX5_commandWake_13 (by decide) hm (fun _ hm => ?_) (fun _ hm => ?_)
    · refine j_sub [] rfl ?_
      exact hj27 S  hm
    · refine j_aload_n F 0 dX5_commandWake_16 rfl ?_
      refine j_getR F (k0 := 6) (C := RX5) (T := TX5) (N := 11) rfl rfl rfl inF5 (by decide) tw320 dX5_commandWake_17 ?_
      refine j_iload_n F 1 dX5_commandWake_20 rfl ?_
      obtain ⟨r21, hc21, hm⟩ := Option.bind_eq_some_iff.mp hm
      refine j_callV F (n := 1) (As := [.int v1]) (rest := []) (c_X3_isPerson l g hg 63 v1 (by decide) S r21 hc21) gw_X5_133 (by decide +kernel) ⟨Nat.le_of_ble_eq_true rfl, Nat.le_of_ble_eq_true rfl⟩ ⟨Nat.le_of_ble_eq_true rfl, Nat.le_of_ble_eq_true rfl⟩ (isSt_lay (i := 63) (by decide)).1 rfl rfl rfl (Nat.le_of_ble_eq_true rfl) dX5_commandWake_21 ?_
      show J p l e rmX5_commandWake s m args below meth c g A 3 (MQ below (QC g A (some (.int r)) S') args s 0 0 A) 0 0 24 [(0, .ref (g.2.1 0)), (1, .int v1), (2, .int v2)] [.int r21] S
      refine j_if_ne F (tgt := 29) dX5_commandWake_24 (by decide) hm (fun _ hm => ?_) (fun _ hm => ?_)
      · refine j_aload_n F 0 dX5_commandWake_29 rfl ?_
        refine j_getR F (k0 := 6) (C := RX5) (T := TX5) (N := 11) rfl rfl rfl inF5 (by decide) tw320 dX5_commandWake_30 ?_
        refine j_iload_n F 1 dX5_commandWake_33 rfl ?_
        refine j_iload_n F 2 dX5_commandWake_34 rfl ?_
        refine j_iconst F (v := 1) dX5_commandWake_35 (by decide) ?_
        refine j_icmp_ne F (tgt := 43) dX5_commandWake_36 (by decide) hm (fun _ hm => ?_) (fun _ hm => ?_)
        · refine j_iconst F (v := 0) dX5_commandWake_43 (by decide) ?_
          refine j_sub [] rfl ?_
          exact hj44 0 v1 63 S (by decide) hm
        · refine j_iconst F (v := 1) dX5_commandWake_39 (by decide) ?_
          refine j_goto F (tgt := 44) dX5_commandWake_40 (by decide) ?_
          refine j_sub [] rfl ?_
          exact hj44 1 v1 63 S (by decide) hm
      · refine j_sub [] rfl ?_
        exact hj27 S  hm
noncomputable def m_X5_commandRemove (v1 : Int32) (S : Hs) : Option (Int32 × Hs) := (m_X3_exists 63 v1 S).bind fun r5 => (if r5 = 0 then (some ((0, S))) else (bndE (m_X3_removeOne 63 v1 S) fun r18 S18 => (some ((1, S18)))))
set_option maxRecDepth 100000 in
set_option maxHeartbeats 4000000 in
theorem c_X5_commandRemove (l : Launch) (g : GG) (hg : Inj g) (v1 : Int32)  (S : Hs) (r : Int32) (S' : Hs) (hm : m_X5_commandRemove v1 S = some ((r, S'))) : CM l yX5_commandRemove [.code yX5_commandRemove cX5_commandRemove 2 (some .boolean)] rmX5_commandRemove [.ref (g.2.1 0), .int v1] g S (some (.int r)) S' := by
  unfold m_X5_commandRemove at hm
  refine CM.of (cc := cX5_commandRemove) (nL := 2) (ret := (some .boolean)) (lv := [(0, .ref (g.2.1 0)), (1, .int v1)]) (by decide +kernel) hg (Nat.le_of_ble_eq_true rfl) rfl (fun p e s m args below meth c A F => ?_)
  replace F : Fx p s m meth c cX5_commandRemove RX5 2 (some .boolean) g A := F
  show J p l e rmX5_commandRemove s m args below meth c g A 2 (MQ below (QC g A (some (.int r)) S') args s 0 0 A) 0 0 0 [(0, .ref (g.2.1 0)), (1, .int v1)] [] S
  refine j_aload_n F 0 dX5_commandRemove_0 rfl ?_
  refine j_getR F (k0 := 6) (C := RX5) (T := TX5) (N := 11) rfl rfl rfl inF5 (by decide) tw320 dX5_commandRemove_1 ?_
  refine j_iload_n F 1 dX5_commandRemove_4 rfl ?_
  obtain ⟨r5, hc5, hm⟩ := Option.bind_eq_some_iff.mp hm
  refine j_callV F (n := 1) (As := [.int v1]) (rest := []) (c_X3_exists l g hg 63 v1 (by decide) S r5 hc5) gw_X5_274 (by decide +kernel) ⟨Nat.le_of_ble_eq_true rfl, Nat.le_of_ble_eq_true rfl⟩ ⟨Nat.le_of_ble_eq_true rfl, Nat.le_of_ble_eq_true rfl⟩ (isSt_lay (i := 63) (by decide)).1 rfl rfl rfl (Nat.le_of_ble_eq_true rfl) dX5_commandRemove_5 ?_
  show J p l e rmX5_commandRemove s m args below meth c g A 2 (MQ below (QC g A (some (.int r)) S') args s 0 0 A) 0 0 8 [(0, .ref (g.2.1 0)), (1, .int v1)] [.int r5] S
  refine j_if_ne F (tgt := 13) dX5_commandRemove_8 (by decide) hm (fun _ hm => ?_) (fun _ hm => ?_)
  · refine j_aload_n F 0 dX5_commandRemove_13 rfl ?_
    refine j_getR F (k0 := 6) (C := RX5) (T := TX5) (N := 11) rfl rfl rfl inF5 (by decide) tw320 dX5_commandRemove_14 ?_
    refine j_iload_n F 1 dX5_commandRemove_17 rfl ?_
    obtain ⟨r18, S18, hc18, hm⟩ := bndE_ok hm
    refine j_callV F (n := 1) (As := [.int v1]) (rest := []) (c_X3_removeOne l g hg 63 v1 (by decide) S r18 S18 hc18) gw_X5_182 (by decide +kernel) ⟨Nat.le_of_ble_eq_true rfl, Nat.le_of_ble_eq_true rfl⟩ ⟨Nat.le_of_ble_eq_true rfl, Nat.le_of_ble_eq_true rfl⟩ (isSt_lay (i := 63) (by decide)).1 rfl rfl rfl (Nat.le_of_ble_eq_true rfl) dX5_commandRemove_18 ?_
    show J p l e rmX5_commandRemove s m args below meth c g A 2 (MQ below (QC g A (some (.int r)) S') args s 0 0 A) 0 0 21 [(0, .ref (g.2.1 0)), (1, .int v1)] [.int r18] S18
    refine j_pop F dX5_commandRemove_21 rfl ?_
    refine j_iconst F (v := 1) dX5_commandRemove_22 (by decide) ?_
    exact j_zret_e F rfl rfl dX5_commandRemove_23 hm
  · refine j_iconst F (v := 0) dX5_commandRemove_11 (by decide) ?_
    exact j_zret_e F rfl rfl dX5_commandRemove_12 hm
def m_X5_commandLearns_J47 (w0 : Int32) (S : Hs) : Option (Int32 × Hs) := gd (decide (w0 = 0 ∨ w0 = 1)) (some ((w0, S)))
noncomputable def m_X5_commandLearns (v1 : Int32) (v2 : Int32) (S : Hs) : Option (Int32 × Hs) := (m_X3_isRight 63 v1 0 v2 S).bind fun r7 => (if r7 = 0 then (some ((0, S))) else ((m_X1_follow 63 S).bind fun S23 => (gd (inb v1 7) (if (((gA S23 11 v1.toNatClampNeg) >>> (v2 &&& 31)) &&& 1) = 0 then (m_X5_commandLearns_J47 0 S23) else (m_X5_commandLearns_J47 1 S23)))))
set_option maxRecDepth 100000 in
set_option maxHeartbeats 4000000 in
theorem c_X5_commandLearns (l : Launch) (g : GG) (hg : Inj g) (v1 : Int32) (v2 : Int32)  (S : Hs) (r : Int32) (S' : Hs) (hm : m_X5_commandLearns v1 v2 S = some ((r, S'))) : CM l yX5_commandLearns [.code yX5_commandLearns cX5_commandLearns 3 (some .boolean)] rmX5_commandLearns [.ref (g.2.1 0), .int v1, .int v2] g S (some (.int r)) S' := by
  unfold m_X5_commandLearns at hm
  refine CM.of (cc := cX5_commandLearns) (nL := 3) (ret := (some .boolean)) (lv := [(0, .ref (g.2.1 0)), (1, .int v1), (2, .int v2)]) (by decide +kernel) hg (Nat.le_of_ble_eq_true rfl) rfl (fun p e s m args below meth c A F => ?_)
  replace F : Fx p s m meth c cX5_commandLearns RX5 3 (some .boolean) g A := F
  show J p l e rmX5_commandLearns s m args below meth c g A 3 (MQ below (QC g A (some (.int r)) S') args s 0 0 A) 0 0 0 [(0, .ref (g.2.1 0)), (1, .int v1), (2, .int v2)] [] S
  have hj47 : ∀ (w0 : Int32) (S : Hs), m_X5_commandLearns_J47 w0 S = some ((r, S')) → J p l e rmX5_commandLearns s m args below meth c g A 3 (MQ below (QC g A (some (.int r)) S') args s 0 0 A) 0 0 47 [] [.int w0] S := by
    intro w0 S hm
    unfold m_X5_commandLearns_J47 at hm
    obtain ⟨hb, hm⟩ := gd_ok hm
    exact j_zret_e F rfl (z_nar hb) dX5_commandLearns_47 hm
  refine j_aload_n F 0 dX5_commandLearns_0 rfl ?_
  refine j_getR F (k0 := 6) (C := RX5) (T := TX5) (N := 11) rfl rfl rfl inF5 (by decide) tw320 dX5_commandLearns_1 ?_
  refine j_iload_n F 1 dX5_commandLearns_4 rfl ?_
  refine j_iconst F (v := 0) dX5_commandLearns_5 (by decide) ?_
  refine j_iload_n F 2 dX5_commandLearns_6 rfl ?_
  obtain ⟨r7, hc7, hm⟩ := Option.bind_eq_some_iff.mp hm
  refine j_callV F (n := 3) (As := [.int v1, .int 0, .int v2]) (rest := []) (c_X3_isRight l g hg 63 v1 0 v2 (by decide) S r7 hc7) gw_X5_282 (by decide +kernel) ⟨Nat.le_of_ble_eq_true rfl, Nat.le_of_ble_eq_true rfl⟩ ⟨Nat.le_of_ble_eq_true rfl, Nat.le_of_ble_eq_true rfl⟩ (isSt_lay (i := 63) (by decide)).1 rfl rfl rfl (Nat.le_of_ble_eq_true rfl) dX5_commandLearns_7 ?_
  show J p l e rmX5_commandLearns s m args below meth c g A 3 (MQ below (QC g A (some (.int r)) S') args s 0 0 A) 0 0 10 [(0, .ref (g.2.1 0)), (1, .int v1), (2, .int v2)] [.int r7] S
  refine j_if_ne F (tgt := 15) dX5_commandLearns_10 (by decide) hm (fun _ hm => ?_) (fun _ hm => ?_)
  · refine j_aload_n F 0 dX5_commandLearns_15 rfl ?_
    refine j_getR F (k0 := 9) (C := RX5) (T := TX5) (N := 11) rfl rfl rfl inF5 (by decide) tw327 dX5_commandLearns_16 ?_
    refine j_aload_n F 0 dX5_commandLearns_19 rfl ?_
    refine j_getR F (k0 := 6) (C := RX5) (T := TX5) (N := 11) rfl rfl rfl inF5 (by decide) tw320 dX5_commandLearns_20 ?_
    obtain ⟨S23, hc23, hm⟩ := Option.bind_eq_some_iff.mp hm
    refine j_callV F (n := 1) (As := [.ref (g.2.1 63)]) (rest := []) (c_X1_follow l g hg 63 (by decide) S S23 hc23) gw_X5_123 (by decide +kernel) ⟨Nat.le_of_ble_eq_true rfl, Nat.le_of_ble_eq_true rfl⟩ ⟨Nat.le_of_ble_eq_true rfl, Nat.le_of_ble_eq_true rfl⟩ rfl rfl rfl rfl (Nat.le_of_ble_eq_true rfl) dX5_commandLearns_23 ?_
    show J p l e rmX5_commandLearns s m args below meth c g A 3 (MQ below (QC g A (some (.int r)) S') args s 0 0 A) 0 0 26 [(0, .ref (g.2.1 0)), (1, .int v1), (2, .int v2)] [] S23
    refine j_aload_n F 0 dX5_commandLearns_26 rfl ?_
    refine j_getR F (k0 := 9) (C := RX5) (T := TX5) (N := 11) rfl rfl rfl inF5 (by decide) tw327 dX5_commandLearns_27 ?_
    refine j_getR F (k0 := 0) (C := RX1) (T := TX1) (N := 1) rfl rfl rfl inF1 (by decide) tw379 dX5_commandLearns_30 ?_
    refine j_iload_n F 1 dX5_commandLearns_33 rfl ?_
    refine j_iald F rfl dX5_commandLearns_34 hm (fun hm => ?_)
    refine j_iload_n F 2 dX5_commandLearns_35 rfl ?_
    refine j_ishr F dX5_commandLearns_36 ?_
    refine j_iconst F (v := 1) dX5_commandLearns_37 (by decide) ?_
    refine j_iand F dX5_commandLearns_38 ?_
    refine j_if_eq F (tgt := 46) dX5_commandLearns_39 (by decide) hm (fun _ hm => ?_) (fun _ hm => ?_)
    · refine j_iconst F (v := 0) dX5_commandLearns_46 (by decide) ?_
      refine j_sub [] rfl ?_
      exact hj47 0 S23  hm
    · refine j_iconst F (v := 1) dX5_commandLearns_42 (by decide) ?_
      refine j_goto F (tgt := 47) dX5_commandLearns_43 (by decide) ?_
      refine j_sub [] rfl ?_
      exact hj47 1 S23  hm
  · refine j_iconst F (v := 0) dX5_commandLearns_13 (by decide) ?_
    exact j_zret_e F rfl rfl dX5_commandLearns_14 hm
def m_X5_runCommand_J147 (w0 : Int32) (S : Hs) : Option (Int32 × Hs) := gd (decide (w0 = 0 ∨ w0 = 1)) (some ((w0, S)))
def m_X5_runCommand_J146 (S : Hs) : Option (Int32 × Hs) := m_X5_runCommand_J147 0 S
def m_X5_runCommand_J175 (w0 : Int32) (S : Hs) : Option (Int32 × Hs) := gd (decide (w0 = 0 ∨ w0 = 1)) (some ((w0, S)))
def m_X5_runCommand_J174 (S : Hs) : Option (Int32 × Hs) := m_X5_runCommand_J175 0 S
def m_X5_runCommand_J217 (w0 : Int32) (S : Hs) : Option (Int32 × Hs) := gd (decide (w0 = 0 ∨ w0 = 1)) (some ((w0, S)))
def m_X5_runCommand_J216 (S : Hs) : Option (Int32 × Hs) := m_X5_runCommand_J217 0 S
def m_X5_runCommand_J263 (w0 : Int32) (S : Hs) : Option (Int32 × Hs) := gd (decide (w0 = 0 ∨ w0 = 1)) (some ((w0, S)))
def m_X5_runCommand_J262 (S : Hs) : Option (Int32 × Hs) := m_X5_runCommand_J263 0 S
def m_X5_runCommand_J300 (w0 : Int32) (S : Hs) : Option (Int32 × Hs) := gd (decide (w0 = 0 ∨ w0 = 1)) (some ((w0, S)))
def m_X5_runCommand_J299 (S : Hs) : Option (Int32 × Hs) := m_X5_runCommand_J300 0 S
def m_X5_runCommand_J325 (w0 : Int32) (S : Hs) : Option (Int32 × Hs) := gd (decide (w0 = 0 ∨ w0 = 1)) (some ((w0, S)))
def m_X5_runCommand_J324 (S : Hs) : Option (Int32 × Hs) := m_X5_runCommand_J325 0 S
noncomputable def m_X5_runCommand (v1 : Int32) (S : Hs) : Option (Int32 × Hs) := bnd (irm (v1 / 1000) 10) fun v2_8 => (bnd (irm (v1 / 100) 10) fun v3_16 => (bnd (irm (v1 / 10) 10) fun v4_24 => (bnd (irm v1 10) fun v5_30 => (if (v1 / 10000) = 1 then (bndE (m_X5_commandStep 0 v2_8 v3_16 v4_24 v5_30 S) fun r96 S96 => (gd (decide (r96 = 0 ∨ r96 = 1)) (some ((r96, S96))))) else (if (v1 / 10000) = 2 then (bndE (m_X5_commandStep 1 v2_8 v3_16 v4_24 v5_30 S) fun r108 S108 => (gd (decide (r108 = 0 ∨ r108 = 1)) (some ((r108, S108))))) else (if (v1 / 10000) = 3 then (bndE (m_X5_commandSet v2_8 v3_16 v4_24 v5_30 S) fun r119 S119 => (gd (decide (r119 = 0 ∨ r119 = 1)) (some ((r119, S119))))) else (if (v1 / 10000) = 4 then (if v4_24 = 0 then (if v5_30 = 0 then (bndE (m_X5_commandWake v2_8 v3_16 S) fun r136 S136 => (if r136 = 0 then (m_X5_runCommand_J146 S136) else (m_X5_runCommand_J147 1 S136))) else (m_X5_runCommand_J146 S)) else (m_X5_runCommand_J146 S)) else (if (v1 / 10000) = 5 then (if v3_16 = 0 then (if v4_24 = 0 then (if v5_30 = 0 then (bndE (m_X5_commandRemove v2_8 S) fun r164 S164 => (if r164 = 0 then (m_X5_runCommand_J174 S164) else (m_X5_runCommand_J175 1 S164))) else (m_X5_runCommand_J174 S)) else (m_X5_runCommand_J174 S)) else (m_X5_runCommand_J174 S)) else (if (v1 / 10000) = 6 then (if v5_30 = 0 then ((m_X3_isRight 63 v2_8 v3_16 v4_24 S).bind fun r189 => (if r189 = 0 then (m_X5_runCommand_J216 S) else ((m_X5_rightOf v2_8 v3_16 v4_24).bind fun r203 => ((m_X3_has 63 r203 S).bind fun r206 => (if r206 = 0 then (m_X5_runCommand_J216 S) else (m_X5_runCommand_J217 1 S)))))) else (m_X5_runCommand_J216 S)) else (if (v1 / 10000) = 7 then (if v5_30 = 0 then ((m_X3_isRight 63 v2_8 v3_16 v4_24 S).bind fun r231 => (if r231 = 0 then (m_X5_runCommand_J262 S) else (bndE (m_X5_endOf 63 S) fun r242 S242 => (gd (isSt r242) ((m_X5_rightOf v2_8 v3_16 v4_24).bind fun r249 => ((m_X3_has r242 r249 S242).bind fun r252 => (if r252 = 0 then (m_X5_runCommand_J262 S242) else (m_X5_runCommand_J263 1 S242)))))))) else (m_X5_runCommand_J262 S)) else (if (v1 / 10000) = 8 then (if v2_8 = 0 then (bndE (m_X5_endOf 63 S) fun r273 S273 => (gd (isSt r273) ((m_X3_countRights r273 S273).bind fun r276 => (if (((100 * v3_16) + (10 * v4_24)) + v5_30) < r276 then (m_X5_runCommand_J299 S273) else (m_X5_runCommand_J300 1 S273))))) else (m_X5_runCommand_J299 S)) else (if (v1 / 10000) = 9 then (if v4_24 = 0 then (if v5_30 = 0 then (bndE (m_X5_commandLearns v2_8 v3_16 S) fun r314 S314 => (if r314 = 0 then (m_X5_runCommand_J324 S314) else (m_X5_runCommand_J325 1 S314))) else (m_X5_runCommand_J324 S)) else (m_X5_runCommand_J324 S)) else (some ((0, S)))))))))))))))
set_option maxRecDepth 100000 in
set_option maxHeartbeats 4000000 in
theorem c_X5_runCommand (l : Launch) (g : GG) (hg : Inj g) (v1 : Int32)  (S : Hs) (r : Int32) (S' : Hs) (hm : m_X5_runCommand v1 S = some ((r, S'))) : CM l yX5_runCommand [.code yX5_runCommand cX5_runCommand 6 (some .boolean)] rmX5_runCommand [.ref (g.2.1 0), .int v1] g S (some (.int r)) S' := by
  unfold m_X5_runCommand at hm
  refine CM.of (cc := cX5_runCommand) (nL := 6) (ret := (some .boolean)) (lv := [(0, .ref (g.2.1 0)), (1, .int v1)]) (by decide +kernel) hg (Nat.le_of_ble_eq_true rfl) rfl (fun p e s m args below meth c A F => ?_)
  replace F : Fx p s m meth c cX5_runCommand RX5 6 (some .boolean) g A := F
  show J p l e rmX5_runCommand s m args below meth c g A 6 (MQ below (QC g A (some (.int r)) S') args s 0 0 A) 0 0 0 [(0, .ref (g.2.1 0)), (1, .int v1)] [] S
  have hj147 : ∀ (w0 : Int32) (S : Hs), m_X5_runCommand_J147 w0 S = some ((r, S')) → J p l e rmX5_runCommand s m args below meth c g A 6 (MQ below (QC g A (some (.int r)) S') args s 0 0 A) 0 0 147 [] [.int w0] S := by
    intro w0 S hm
    unfold m_X5_runCommand_J147 at hm
    obtain ⟨hb, hm⟩ := gd_ok hm
    exact j_zret_e F rfl (z_nar hb) dX5_runCommand_147 hm
  have hj146 : ∀ (S : Hs), m_X5_runCommand_J146 S = some ((r, S')) → J p l e rmX5_runCommand s m args below meth c g A 6 (MQ below (QC g A (some (.int r)) S') args s 0 0 A) 0 0 146 [] [] S := by
    intro S hm
    unfold m_X5_runCommand_J146 at hm
    refine j_iconst F (v := 0) dX5_runCommand_146 (by decide) ?_
    refine j_sub [] rfl ?_
    exact hj147 0 S  hm
  have hj175 : ∀ (w0 : Int32) (S : Hs), m_X5_runCommand_J175 w0 S = some ((r, S')) → J p l e rmX5_runCommand s m args below meth c g A 6 (MQ below (QC g A (some (.int r)) S') args s 0 0 A) 0 0 175 [] [.int w0] S := by
    intro w0 S hm
    unfold m_X5_runCommand_J175 at hm
    obtain ⟨hb, hm⟩ := gd_ok hm
    exact j_zret_e F rfl (z_nar hb) dX5_runCommand_175 hm
  have hj174 : ∀ (S : Hs), m_X5_runCommand_J174 S = some ((r, S')) → J p l e rmX5_runCommand s m args below meth c g A 6 (MQ below (QC g A (some (.int r)) S') args s 0 0 A) 0 0 174 [] [] S := by
    intro S hm
    unfold m_X5_runCommand_J174 at hm
    refine j_iconst F (v := 0) dX5_runCommand_174 (by decide) ?_
    refine j_sub [] rfl ?_
    exact hj175 0 S  hm
  have hj217 : ∀ (w0 : Int32) (S : Hs), m_X5_runCommand_J217 w0 S = some ((r, S')) → J p l e rmX5_runCommand s m args below meth c g A 6 (MQ below (QC g A (some (.int r)) S') args s 0 0 A) 0 0 217 [] [.int w0] S := by
    intro w0 S hm
    unfold m_X5_runCommand_J217 at hm
    obtain ⟨hb, hm⟩ := gd_ok hm
    exact j_zret_e F rfl (z_nar hb) dX5_runCommand_217 hm
  have hj216 : ∀ (S : Hs), m_X5_runCommand_J216 S = some ((r, S')) → J p l e rmX5_runCommand s m args below meth c g A 6 (MQ below (QC g A (some (.int r)) S') args s 0 0 A) 0 0 216 [] [] S := by
    intro S hm
    unfold m_X5_runCommand_J216 at hm
    refine j_iconst F (v := 0) dX5_runCommand_216 (by decide) ?_
    refine j_sub [] rfl ?_
    exact hj217 0 S  hm
  have hj263 : ∀ (w0 : Int32) (S : Hs), m_X5_runCommand_J263 w0 S = some ((r, S')) → J p l e rmX5_runCommand s m args below meth c g A 6 (MQ below (QC g A (some (.int r)) S') args s 0 0 A) 0 0 263 [] [.int w0] S := by
    intro w0 S hm
    unfold m_X5_runCommand_J263 at hm
    obtain ⟨hb, hm⟩ := gd_ok hm
    exact j_zret_e F rfl (z_nar hb) dX5_runCommand_263 hm
  have hj262 : ∀ (S : Hs), m_X5_runCommand_J262 S = some ((r, S')) → J p l e rmX5_runCommand s m args below meth c g A 6 (MQ below (QC g A (some (.int r)) S') args s 0 0 A) 0 0 262 [] [] S := by
    intro S hm
    unfold m_X5_runCommand_J262 at hm
    refine j_iconst F (v := 0) dX5_runCommand_262 (by decide) ?_
    refine j_sub [] rfl ?_
    exact hj263 0 S  hm
  have hj300 : ∀ (w0 : Int32) (S : Hs), m_X5_runCommand_J300 w0 S = some ((r, S')) → J p l e rmX5_runCommand s m args below meth c g A 6 (MQ below (QC g A (some (.int r)) S') args s 0 0 A) 0 0 300 [] [.int w0] S := by
    intro w0 S hm
    unfold m_X5_runCommand_J300 at hm
    obtain ⟨hb, hm⟩ := gd_ok hm
    exact j_zret_e F rfl (z_nar hb) dX5_runCommand_300 hm
  have hj299 : ∀ (S : Hs), m_X5_runCommand_J299 S = some ((r, S')) → J p l e rmX5_runCommand s m args below meth c g A 6 (MQ below (QC g A (some (.int r)) S') args s 0 0 A) 0 0 299 [] [] S := by
    intro S hm
    unfold m_X5_runCommand_J299 at hm
    refine j_iconst F (v := 0) dX5_runCommand_299 (by decide) ?_
    refine j_sub [] rfl ?_
    exact hj300 0 S  hm
  have hj325 : ∀ (w0 : Int32) (S : Hs), m_X5_runCommand_J325 w0 S = some ((r, S')) → J p l e rmX5_runCommand s m args below meth c g A 6 (MQ below (QC g A (some (.int r)) S') args s 0 0 A) 0 0 325 [] [.int w0] S := by
    intro w0 S hm
    unfold m_X5_runCommand_J325 at hm
    obtain ⟨hb, hm⟩ := gd_ok hm
    exact j_zret_e F rfl (z_nar hb) dX5_runCommand_325 hm
  have hj324 : ∀ (S : Hs), m_X5_runCommand_J324 S = some ((r, S')) → J p l e rmX5_runCommand s m args below meth c g A 6 (MQ below (QC g A (some (.int r)) S') args s 0 0 A) 0 0 324 [] [] S := by
    intro S hm
    unfold m_X5_runCommand_J324 at hm
    refine j_iconst F (v := 0) dX5_runCommand_324 (by decide) ?_
    refine j_sub [] rfl ?_
    exact hj325 0 S  hm
  refine j_iload_n F 1 dX5_runCommand_0 rfl ?_
  refine j_sipush F (v := 1000) dX5_runCommand_1 (by decide) ?_
  refine j_idiv F dX5_runCommand_4 (by decide) ?_
  refine j_bipush F (v := 10) dX5_runCommand_5 (by decide) ?_
  refine j_irem F dX5_runCommand_7 (by decide) ?_
  refine j_bnd hm (fun v2_8 hm => ?_)
  refine j_istore_n F (lv' := [(2, .int v2_8), (0, .ref (g.2.1 0)), (1, .int v1)]) dX5_runCommand_8 (by decide) rfl ?_
  refine j_iload_n F 2 dX5_runCommand_9 rfl ?_
  refine j_bipush F (v := 100) dX5_runCommand_10 (by decide) ?_
  refine j_idiv F dX5_runCommand_12 (by decide) ?_
  refine j_bipush F (v := 10) dX5_runCommand_13 (by decide) ?_
  refine j_irem F dX5_runCommand_15 (by decide) ?_
  refine j_bnd hm (fun v3_16 hm => ?_)
  refine j_istore_n F (lv' := [(3, .int v3_16), (2, .int v2_8), (0, .ref (g.2.1 0)), (1, .int v1)]) dX5_runCommand_16 (by decide) rfl ?_
  refine j_iload_n F 3 dX5_runCommand_17 rfl ?_
  refine j_bipush F (v := 10) dX5_runCommand_18 (by decide) ?_
  refine j_idiv F dX5_runCommand_20 (by decide) ?_
  refine j_bipush F (v := 10) dX5_runCommand_21 (by decide) ?_
  refine j_irem F dX5_runCommand_23 (by decide) ?_
  refine j_bnd hm (fun v4_24 hm => ?_)
  refine j_istore F (lv' := [(4, .int v4_24), (3, .int v3_16), (2, .int v2_8), (0, .ref (g.2.1 0)), (1, .int v1)]) dX5_runCommand_24 (by decide) rfl ?_
  refine j_iload_n F 4 dX5_runCommand_26 rfl ?_
  refine j_bipush F (v := 10) dX5_runCommand_27 (by decide) ?_
  refine j_irem F dX5_runCommand_29 (by decide) ?_
  refine j_bnd hm (fun v5_30 hm => ?_)
  refine j_istore F (lv' := [(5, .int v5_30), (4, .int v4_24), (3, .int v3_16), (2, .int v2_8), (0, .ref (g.2.1 0)), (1, .int v1)]) dX5_runCommand_30 (by decide) rfl ?_
  refine j_iload_n F 5 dX5_runCommand_32 rfl ?_
  refine j_sipush F (v := 10000) dX5_runCommand_33 (by decide) ?_
  refine j_idiv F dX5_runCommand_36 (by decide) ?_
  refine sw_if hm (fun esw hm => ?_) (fun n1 hm => ?_)
  · refine j_swIn F (tgt := 88) dX5_runCommand_37 esw (by decide +kernel) (by decide +kernel) (off := 51) (by decide +kernel) (by decide) ?_
    refine j_aload_n F 4 dX5_runCommand_88 rfl ?_
    refine j_iconst F (v := 0) dX5_runCommand_89 (by decide) ?_
    refine j_iload_n F 3 dX5_runCommand_90 rfl ?_
    refine j_iload_n F 2 dX5_runCommand_91 rfl ?_
    refine j_iload F 1 dX5_runCommand_92 rfl ?_
    refine j_iload F 0 dX5_runCommand_94 rfl ?_
    obtain ⟨r96, S96, hc96, hm⟩ := bndE_ok hm
    refine j_callV F (n := 5) (As := [.int 0, .int v2_8, .int v3_16, .int v4_24, .int v5_30]) (rest := []) (c_X5_commandStep l g hg 0 v2_8 v3_16 v4_24 v5_30 S r96 S96 hc96) gw_X5_311 (by decide +kernel) ⟨Nat.le_of_ble_eq_true rfl, Nat.le_of_ble_eq_true rfl⟩ ⟨Nat.le_of_ble_eq_true rfl, Nat.le_of_ble_eq_true rfl⟩ rfl rfl rfl rfl (Nat.le_of_ble_eq_true rfl) dX5_runCommand_96 ?_
    show J p l e rmX5_runCommand s m args below meth c g A 6 (MQ below (QC g A (some (.int r)) S') args s 0 0 A) 0 0 99 [(5, .int v5_30), (4, .int v4_24), (3, .int v3_16), (2, .int v2_8), (0, .ref (g.2.1 0)), (1, .int v1)] [.int r96] S96
    obtain ⟨hb, hm⟩ := gd_ok hm
    exact j_zret_e F rfl (z_nar hb) dX5_runCommand_99 hm
  · refine sw_if hm (fun esw hm => ?_) (fun n2 hm => ?_)
    · refine j_swIn F (tgt := 100) dX5_runCommand_37 esw (by decide +kernel) (by decide +kernel) (off := 63) (by decide +kernel) (by decide) ?_
      refine j_aload_n F 4 dX5_runCommand_100 rfl ?_
      refine j_iconst F (v := 1) dX5_runCommand_101 (by decide) ?_
      refine j_iload_n F 3 dX5_runCommand_102 rfl ?_
      refine j_iload_n F 2 dX5_runCommand_103 rfl ?_
      refine j_iload F 1 dX5_runCommand_104 rfl ?_
      refine j_iload F 0 dX5_runCommand_106 rfl ?_
      obtain ⟨r108, S108, hc108, hm⟩ := bndE_ok hm
      refine j_callV F (n := 5) (As := [.int 1, .int v2_8, .int v3_16, .int v4_24, .int v5_30]) (rest := []) (c_X5_commandStep l g hg 1 v2_8 v3_16 v4_24 v5_30 S r108 S108 hc108) gw_X5_311 (by decide +kernel) ⟨Nat.le_of_ble_eq_true rfl, Nat.le_of_ble_eq_true rfl⟩ ⟨Nat.le_of_ble_eq_true rfl, Nat.le_of_ble_eq_true rfl⟩ rfl rfl rfl rfl (Nat.le_of_ble_eq_true rfl) dX5_runCommand_108 ?_
      show J p l e rmX5_runCommand s m args below meth c g A 6 (MQ below (QC g A (some (.int r)) S') args s 0 0 A) 0 0 111 [(5, .int v5_30), (4, .int v4_24), (3, .int v3_16), (2, .int v2_8), (0, .ref (g.2.1 0)), (1, .int v1)] [.int r108] S108
      obtain ⟨hb, hm⟩ := gd_ok hm
      exact j_zret_e F rfl (z_nar hb) dX5_runCommand_111 hm
    · refine sw_if hm (fun esw hm => ?_) (fun n3 hm => ?_)
      · refine j_swIn F (tgt := 112) dX5_runCommand_37 esw (by decide +kernel) (by decide +kernel) (off := 75) (by decide +kernel) (by decide) ?_
        refine j_aload_n F 4 dX5_runCommand_112 rfl ?_
        refine j_iload_n F 3 dX5_runCommand_113 rfl ?_
        refine j_iload_n F 2 dX5_runCommand_114 rfl ?_
        refine j_iload F 1 dX5_runCommand_115 rfl ?_
        refine j_iload F 0 dX5_runCommand_117 rfl ?_
        obtain ⟨r119, S119, hc119, hm⟩ := bndE_ok hm
        refine j_callV F (n := 4) (As := [.int v2_8, .int v3_16, .int v4_24, .int v5_30]) (rest := []) (c_X5_commandSet l g hg v2_8 v3_16 v4_24 v5_30 S r119 S119 hc119) gw_X5_314 (by decide +kernel) ⟨Nat.le_of_ble_eq_true rfl, Nat.le_of_ble_eq_true rfl⟩ ⟨Nat.le_of_ble_eq_true rfl, Nat.le_of_ble_eq_true rfl⟩ rfl rfl rfl rfl (Nat.le_of_ble_eq_true rfl) dX5_runCommand_119 ?_
        show J p l e rmX5_runCommand s m args below meth c g A 6 (MQ below (QC g A (some (.int r)) S') args s 0 0 A) 0 0 122 [(5, .int v5_30), (4, .int v4_24), (3, .int v3_16), (2, .int v2_8), (0, .ref (g.2.1 0)), (1, .int v1)] [.int r119] S119
        obtain ⟨hb, hm⟩ := gd_ok hm
        exact j_zret_e F rfl (z_nar hb) dX5_runCommand_122 hm
      · refine sw_if hm (fun esw hm => ?_) (fun n4 hm => ?_)
        · refine j_swIn F (tgt := 123) dX5_runCommand_37 esw (by decide +kernel) (by decide +kernel) (off := 86) (by decide +kernel) (by decide) ?_
          refine j_iload F 1 dX5_runCommand_123 rfl ?_
          refine j_if_ne F (tgt := 146) dX5_runCommand_125 (by decide) hm (fun _ hm => ?_) (fun _ hm => ?_)
          · refine j_sub [] rfl ?_
            exact hj146 S  hm
          · refine j_iload F 0 dX5_runCommand_128 rfl ?_
            refine j_if_ne F (tgt := 146) dX5_runCommand_130 (by decide) hm (fun _ hm => ?_) (fun _ hm => ?_)
            · refine j_sub [] rfl ?_
              exact hj146 S  hm
            · refine j_aload_n F 4 dX5_runCommand_133 rfl ?_
              refine j_iload_n F 3 dX5_runCommand_134 rfl ?_
              refine j_iload_n F 2 dX5_runCommand_135 rfl ?_
              obtain ⟨r136, S136, hc136, hm⟩ := bndE_ok hm
              refine j_callV F (n := 2) (As := [.int v2_8, .int v3_16]) (rest := []) (c_X5_commandWake l g hg v2_8 v3_16 S r136 S136 hc136) gw_X5_317 (by decide +kernel) ⟨Nat.le_of_ble_eq_true rfl, Nat.le_of_ble_eq_true rfl⟩ ⟨Nat.le_of_ble_eq_true rfl, Nat.le_of_ble_eq_true rfl⟩ rfl rfl rfl rfl (Nat.le_of_ble_eq_true rfl) dX5_runCommand_136 ?_
              show J p l e rmX5_runCommand s m args below meth c g A 6 (MQ below (QC g A (some (.int r)) S') args s 0 0 A) 0 0 139 [(5, .int v5_30), (4, .int v4_24), (3, .int v3_16), (2, .int v2_8), (0, .ref (g.2.1 0)), (1, .int v1)] [.int r136] S136
              refine j_if_eq F (tgt := 146) dX5_runCommand_139 (by decide) hm (fun _ hm => ?_) (fun _ hm => ?_)
              · refine j_sub [] rfl ?_
                exact hj146 S136  hm
              · refine j_iconst F (v := 1) dX5_runCommand_142 (by decide) ?_
                refine j_goto F (tgt := 147) dX5_runCommand_143 (by decide) ?_
                refine j_sub [] rfl ?_
                exact hj147 1 S136  hm
        · refine sw_if hm (fun esw hm => ?_) (fun n5 hm => ?_)
          · refine j_swIn F (tgt := 148) dX5_runCommand_37 esw (by decide +kernel) (by decide +kernel) (off := 111) (by decide +kernel) (by decide) ?_
            refine j_iload_n F 2 dX5_runCommand_148 rfl ?_
            refine j_if_ne F (tgt := 174) dX5_runCommand_149 (by decide) hm (fun _ hm => ?_) (fun _ hm => ?_)
            · refine j_sub [] rfl ?_
              exact hj174 S  hm
            · refine j_iload F 1 dX5_runCommand_152 rfl ?_
              refine j_if_ne F (tgt := 174) dX5_runCommand_154 (by decide) hm (fun _ hm => ?_) (fun _ hm => ?_)
              · refine j_sub [] rfl ?_
                exact hj174 S  hm
              · refine j_iload F 0 dX5_runCommand_157 rfl ?_
                refine j_if_ne F (tgt := 174) dX5_runCommand_159 (by decide) hm (fun _ hm => ?_) (fun _ hm => ?_)
                · refine j_sub [] rfl ?_
                  exact hj174 S  hm
                · refine j_aload_n F 4 dX5_runCommand_162 rfl ?_
                  refine j_iload_n F 3 dX5_runCommand_163 rfl ?_
                  obtain ⟨r164, S164, hc164, hm⟩ := bndE_ok hm
                  refine j_callV F (n := 1) (As := [.int v2_8]) (rest := []) (c_X5_commandRemove l g hg v2_8 S r164 S164 hc164) gw_X5_320 (by decide +kernel) ⟨Nat.le_of_ble_eq_true rfl, Nat.le_of_ble_eq_true rfl⟩ ⟨Nat.le_of_ble_eq_true rfl, Nat.le_of_ble_eq_true rfl⟩ rfl rfl rfl rfl (Nat.le_of_ble_eq_true rfl) dX5_runCommand_164 ?_
                  show J p l e rmX5_runCommand s m args below meth c g A 6 (MQ below (QC g A (some (.int r)) S') args s 0 0 A) 0 0 167 [(5, .int v5_30), (4, .int v4_24), (3, .int v3_16), (2, .int v2_8), (0, .ref (g.2.1 0)), (1, .int v1)] [.int r164] S164
                  refine j_if_eq F (tgt := 174) dX5_runCommand_167 (by decide) hm (fun _ hm => ?_) (fun _ hm => ?_)
                  · refine j_sub [] rfl ?_
                    exact hj174 S164  hm
                  · refine j_iconst F (v := 1) dX5_runCommand_170 (by decide) ?_
                    refine j_goto F (tgt := 175) dX5_runCommand_171 (by decide) ?_
                    refine j_sub [] rfl ?_
                    exact hj175 1 S164  hm
          · refine sw_if hm (fun esw hm => ?_) (fun n6 hm => ?_)
            · refine j_swIn F (tgt := 176) dX5_runCommand_37 esw (by decide +kernel) (by decide +kernel) (off := 139) (by decide +kernel) (by decide) ?_
              refine j_iload F 0 dX5_runCommand_176 rfl ?_
              refine j_if_ne F (tgt := 216) dX5_runCommand_178 (by decide) hm (fun _ hm => ?_) (fun _ hm => ?_)
              · refine j_sub [] rfl ?_
                exact hj216 S  hm
              · refine j_aload_n F 4 dX5_runCommand_181 rfl ?_
                refine j_getR F (k0 := 6) (C := RX5) (T := TX5) (N := 11) rfl rfl rfl inF5 (by decide) tw320 dX5_runCommand_182 ?_
                refine j_iload_n F 3 dX5_runCommand_185 rfl ?_
                refine j_iload_n F 2 dX5_runCommand_186 rfl ?_
                refine j_iload F 1 dX5_runCommand_187 rfl ?_
                obtain ⟨r189, hc189, hm⟩ := Option.bind_eq_some_iff.mp hm
                refine j_callV F (n := 3) (As := [.int v2_8, .int v3_16, .int v4_24]) (rest := []) (c_X3_isRight l g hg 63 v2_8 v3_16 v4_24 (by decide) S r189 hc189) gw_X5_282 (by decide +kernel) ⟨Nat.le_of_ble_eq_true rfl, Nat.le_of_ble_eq_true rfl⟩ ⟨Nat.le_of_ble_eq_true rfl, Nat.le_of_ble_eq_true rfl⟩ (isSt_lay (i := 63) (by decide)).1 rfl rfl rfl (Nat.le_of_ble_eq_true rfl) dX5_runCommand_189 ?_
                show J p l e rmX5_runCommand s m args below meth c g A 6 (MQ below (QC g A (some (.int r)) S') args s 0 0 A) 0 0 192 [(5, .int v5_30), (4, .int v4_24), (3, .int v3_16), (2, .int v2_8), (0, .ref (g.2.1 0)), (1, .int v1)] [.int r189] S
                refine j_if_eq F (tgt := 216) dX5_runCommand_192 (by decide) hm (fun _ hm => ?_) (fun _ hm => ?_)
                · refine j_sub [] rfl ?_
                  exact hj216 S  hm
                · refine j_aload_n F 4 dX5_runCommand_195 rfl ?_
                  refine j_getR F (k0 := 6) (C := RX5) (T := TX5) (N := 11) rfl rfl rfl inF5 (by decide) tw320 dX5_runCommand_196 ?_
                  refine j_iload_n F 3 dX5_runCommand_199 rfl ?_
                  refine j_iload_n F 2 dX5_runCommand_200 rfl ?_
                  refine j_iload F 1 dX5_runCommand_201 rfl ?_
                  obtain ⟨r203, hc203, hm⟩ := Option.bind_eq_some_iff.mp hm
                  refine j_callS F (n := 3) (As := [.int v2_8, .int v3_16, .int v4_24]) (rest := [.ref (g.2.1 63)]) (c_X5_rightOf l g hg v2_8 v3_16 v4_24 S r203 hc203) gw_X5_154 (by decide +kernel) ⟨Nat.le_of_ble_eq_true rfl, Nat.le_of_ble_eq_true rfl⟩ ⟨Nat.le_of_ble_eq_true rfl, Nat.le_of_ble_eq_true rfl⟩ rfl rfl (Nat.le_of_ble_eq_true rfl) dX5_runCommand_203 ?_
                  show J p l e rmX5_runCommand s m args below meth c g A 6 (MQ below (QC g A (some (.int r)) S') args s 0 0 A) 0 0 206 [(5, .int v5_30), (4, .int v4_24), (3, .int v3_16), (2, .int v2_8), (0, .ref (g.2.1 0)), (1, .int v1)] [.int r203, .ref (g.2.1 63)] S
                  obtain ⟨r206, hc206, hm⟩ := Option.bind_eq_some_iff.mp hm
                  refine j_callV F (n := 1) (As := [.int r203]) (rest := []) (c_X3_has l g hg 63 r203 (by decide) S r206 hc206) gw_X5_158 (by decide +kernel) ⟨Nat.le_of_ble_eq_true rfl, Nat.le_of_ble_eq_true rfl⟩ ⟨Nat.le_of_ble_eq_true rfl, Nat.le_of_ble_eq_true rfl⟩ (isSt_lay (i := 63) (by decide)).1 rfl rfl rfl (Nat.le_of_ble_eq_true rfl) dX5_runCommand_206 ?_
                  show J p l e rmX5_runCommand s m args below meth c g A 6 (MQ below (QC g A (some (.int r)) S') args s 0 0 A) 0 0 209 [(5, .int v5_30), (4, .int v4_24), (3, .int v3_16), (2, .int v2_8), (0, .ref (g.2.1 0)), (1, .int v1)] [.int r206] S
                  refine j_if_eq F (tgt := 216) dX5_runCommand_209 (by decide) hm (fun _ hm => ?_) (fun _ hm => ?_)
                  · refine j_sub [] rfl ?_
                    exact hj216 S  hm
                  · refine j_iconst F (v := 1) dX5_runCommand_212 (by decide) ?_
                    refine j_goto F (tgt := 217) dX5_runCommand_213 (by decide) ?_
                    refine j_sub [] rfl ?_
                    exact hj217 1 S  hm
            · refine sw_if hm (fun esw hm => ?_) (fun n7 hm => ?_)
              · refine j_swIn F (tgt := 218) dX5_runCommand_37 esw (by decide +kernel) (by decide +kernel) (off := 181) (by decide +kernel) (by decide) ?_
                refine j_iload F 0 dX5_runCommand_218 rfl ?_
                refine j_if_ne F (tgt := 262) dX5_runCommand_220 (by decide) hm (fun _ hm => ?_) (fun _ hm => ?_)
                · refine j_sub [] rfl ?_
                  exact hj262 S  hm
                · refine j_aload_n F 4 dX5_runCommand_223 rfl ?_
                  refine j_getR F (k0 := 6) (C := RX5) (T := TX5) (N := 11) rfl rfl rfl inF5 (by decide) tw320 dX5_runCommand_224 ?_
                  refine j_iload_n F 3 dX5_runCommand_227 rfl ?_
                  refine j_iload_n F 2 dX5_runCommand_228 rfl ?_
                  refine j_iload F 1 dX5_runCommand_229 rfl ?_
                  obtain ⟨r231, hc231, hm⟩ := Option.bind_eq_some_iff.mp hm
                  refine j_callV F (n := 3) (As := [.int v2_8, .int v3_16, .int v4_24]) (rest := []) (c_X3_isRight l g hg 63 v2_8 v3_16 v4_24 (by decide) S r231 hc231) gw_X5_282 (by decide +kernel) ⟨Nat.le_of_ble_eq_true rfl, Nat.le_of_ble_eq_true rfl⟩ ⟨Nat.le_of_ble_eq_true rfl, Nat.le_of_ble_eq_true rfl⟩ (isSt_lay (i := 63) (by decide)).1 rfl rfl rfl (Nat.le_of_ble_eq_true rfl) dX5_runCommand_231 ?_
                  show J p l e rmX5_runCommand s m args below meth c g A 6 (MQ below (QC g A (some (.int r)) S') args s 0 0 A) 0 0 234 [(5, .int v5_30), (4, .int v4_24), (3, .int v3_16), (2, .int v2_8), (0, .ref (g.2.1 0)), (1, .int v1)] [.int r231] S
                  refine j_if_eq F (tgt := 262) dX5_runCommand_234 (by decide) hm (fun _ hm => ?_) (fun _ hm => ?_)
                  · refine j_sub [] rfl ?_
                    exact hj262 S  hm
                  · refine j_aload_n F 4 dX5_runCommand_237 rfl ?_
                    refine j_aload_n F 4 dX5_runCommand_238 rfl ?_
                    refine j_getR F (k0 := 6) (C := RX5) (T := TX5) (N := 11) rfl rfl rfl inF5 (by decide) tw320 dX5_runCommand_239 ?_
                    obtain ⟨r242, S242, hc242, hm⟩ := bndE_ok hm
                    refine j_callV F (n := 1) (As := [.ref (g.2.1 63)]) (rest := []) (c_X5_endOf l g hg 63 (by decide) S r242 S242 hc242) gw_X5_113 (by decide +kernel) ⟨Nat.le_of_ble_eq_true rfl, Nat.le_of_ble_eq_true rfl⟩ ⟨Nat.le_of_ble_eq_true rfl, Nat.le_of_ble_eq_true rfl⟩ rfl rfl rfl rfl (Nat.le_of_ble_eq_true rfl) dX5_runCommand_242 ?_
                    obtain ⟨hs_r242, hm⟩ := gd_ok hm
                    show J p l e rmX5_runCommand s m args below meth c g A 6 (MQ below (QC g A (some (.int r)) S') args s 0 0 A) 0 0 245 [(5, .int v5_30), (4, .int v4_24), (3, .int v3_16), (2, .int v2_8), (0, .ref (g.2.1 0)), (1, .int v1)] [.ref (g.2.1 r242)] S242
                    refine j_iload_n F 3 dX5_runCommand_245 rfl ?_
                    refine j_iload_n F 2 dX5_runCommand_246 rfl ?_
                    refine j_iload F 1 dX5_runCommand_247 rfl ?_
                    obtain ⟨r249, hc249, hm⟩ := Option.bind_eq_some_iff.mp hm
                    refine j_callS F (n := 3) (As := [.int v2_8, .int v3_16, .int v4_24]) (rest := [.ref (g.2.1 r242)]) (c_X5_rightOf l g hg v2_8 v3_16 v4_24 S242 r249 hc249) gw_X5_154 (by decide +kernel) ⟨Nat.le_of_ble_eq_true rfl, Nat.le_of_ble_eq_true rfl⟩ ⟨Nat.le_of_ble_eq_true rfl, Nat.le_of_ble_eq_true rfl⟩ rfl rfl (Nat.le_of_ble_eq_true rfl) dX5_runCommand_249 ?_
                    show J p l e rmX5_runCommand s m args below meth c g A 6 (MQ below (QC g A (some (.int r)) S') args s 0 0 A) 0 0 252 [(5, .int v5_30), (4, .int v4_24), (3, .int v3_16), (2, .int v2_8), (0, .ref (g.2.1 0)), (1, .int v1)] [.int r249, .ref (g.2.1 r242)] S242
                    obtain ⟨r252, hc252, hm⟩ := Option.bind_eq_some_iff.mp hm
                    refine j_callV F (n := 1) (As := [.int r249]) (rest := []) (c_X3_has l g hg r242 r249 hs_r242 S242 r252 hc252) gw_X5_158 (by decide +kernel) ⟨Nat.le_of_ble_eq_true rfl, Nat.le_of_ble_eq_true rfl⟩ ⟨Nat.le_of_ble_eq_true rfl, Nat.le_of_ble_eq_true rfl⟩ (isSt_lay hs_r242).1 rfl rfl rfl (Nat.le_of_ble_eq_true rfl) dX5_runCommand_252 ?_
                    show J p l e rmX5_runCommand s m args below meth c g A 6 (MQ below (QC g A (some (.int r)) S') args s 0 0 A) 0 0 255 [(5, .int v5_30), (4, .int v4_24), (3, .int v3_16), (2, .int v2_8), (0, .ref (g.2.1 0)), (1, .int v1)] [.int r252] S242
                    refine j_if_eq F (tgt := 262) dX5_runCommand_255 (by decide) hm (fun _ hm => ?_) (fun _ hm => ?_)
                    · refine j_sub [] rfl ?_
                      exact hj262 S242  hm
                    · refine j_iconst F (v := 1) dX5_runCommand_258 (by decide) ?_
                      refine j_goto F (tgt := 263) dX5_runCommand_259 (by decide) ?_
                      refine j_sub [] rfl ?_
                      exact hj263 1 S242  hm
              · refine sw_if hm (fun esw hm => ?_) (fun n8 hm => ?_)
                · refine j_swIn F (tgt := 264) dX5_runCommand_37 esw (by decide +kernel) (by decide +kernel) (off := 227) (by decide +kernel) (by decide) ?_
                  refine j_iload_n F 3 dX5_runCommand_264 rfl ?_
                  refine j_if_ne F (tgt := 299) dX5_runCommand_265 (by decide) hm (fun _ hm => ?_) (fun _ hm => ?_)
                  · refine j_sub [] rfl ?_
                    exact hj299 S  hm
                  · refine j_aload_n F 4 dX5_runCommand_268 rfl ?_
                    refine j_aload_n F 4 dX5_runCommand_269 rfl ?_
                    refine j_getR F (k0 := 6) (C := RX5) (T := TX5) (N := 11) rfl rfl rfl inF5 (by decide) tw320 dX5_runCommand_270 ?_
                    obtain ⟨r273, S273, hc273, hm⟩ := bndE_ok hm
                    refine j_callV F (n := 1) (As := [.ref (g.2.1 63)]) (rest := []) (c_X5_endOf l g hg 63 (by decide) S r273 S273 hc273) gw_X5_113 (by decide +kernel) ⟨Nat.le_of_ble_eq_true rfl, Nat.le_of_ble_eq_true rfl⟩ ⟨Nat.le_of_ble_eq_true rfl, Nat.le_of_ble_eq_true rfl⟩ rfl rfl rfl rfl (Nat.le_of_ble_eq_true rfl) dX5_runCommand_273 ?_
                    obtain ⟨hs_r273, hm⟩ := gd_ok hm
                    show J p l e rmX5_runCommand s m args below meth c g A 6 (MQ below (QC g A (some (.int r)) S') args s 0 0 A) 0 0 276 [(5, .int v5_30), (4, .int v4_24), (3, .int v3_16), (2, .int v2_8), (0, .ref (g.2.1 0)), (1, .int v1)] [.ref (g.2.1 r273)] S273
                    obtain ⟨r276, hc276, hm⟩ := Option.bind_eq_some_iff.mp hm
                    refine j_callV F (n := 0) (As := []) (rest := []) (c_X3_countRights l g hg r273 hs_r273 S273 r276 hc276) gw_X5_109 (by decide +kernel) ⟨Nat.le_of_ble_eq_true rfl, Nat.le_of_ble_eq_true rfl⟩ ⟨Nat.le_of_ble_eq_true rfl, Nat.le_of_ble_eq_true rfl⟩ (isSt_lay hs_r273).1 rfl rfl rfl (Nat.le_of_ble_eq_true rfl) dX5_runCommand_276 ?_
                    show J p l e rmX5_runCommand s m args below meth c g A 6 (MQ below (QC g A (some (.int r)) S') args s 0 0 A) 0 0 279 [(5, .int v5_30), (4, .int v4_24), (3, .int v3_16), (2, .int v2_8), (0, .ref (g.2.1 0)), (1, .int v1)] [.int r276] S273
                    refine j_bipush F (v := 100) dX5_runCommand_279 (by decide) ?_
                    refine j_iload_n F 2 dX5_runCommand_281 rfl ?_
                    refine j_imul F dX5_runCommand_282 ?_
                    refine j_bipush F (v := 10) dX5_runCommand_283 (by decide) ?_
                    refine j_iload F 1 dX5_runCommand_285 rfl ?_
                    refine j_imul F dX5_runCommand_287 ?_
                    refine j_iadd F dX5_runCommand_288 ?_
                    refine j_iload F 0 dX5_runCommand_289 rfl ?_
                    refine j_iadd F dX5_runCommand_291 ?_
                    refine j_icmp_gt F (tgt := 299) dX5_runCommand_292 (by decide) hm (fun _ hm => ?_) (fun _ hm => ?_)
                    · refine j_sub [] rfl ?_
                      exact hj299 S273  hm
                    · refine j_iconst F (v := 1) dX5_runCommand_295 (by decide) ?_
                      refine j_goto F (tgt := 300) dX5_runCommand_296 (by decide) ?_
                      refine j_sub [] rfl ?_
                      exact hj300 1 S273  hm
                · refine sw_if hm (fun esw hm => ?_) (fun n9 hm => ?_)
                  · refine j_swIn F (tgt := 301) dX5_runCommand_37 esw (by decide +kernel) (by decide +kernel) (off := 264) (by decide +kernel) (by decide) ?_
                    refine j_iload F 1 dX5_runCommand_301 rfl ?_
                    refine j_if_ne F (tgt := 324) dX5_runCommand_303 (by decide) hm (fun _ hm => ?_) (fun _ hm => ?_)
                    · refine j_sub [] rfl ?_
                      exact hj324 S  hm
                    · refine j_iload F 0 dX5_runCommand_306 rfl ?_
                      refine j_if_ne F (tgt := 324) dX5_runCommand_308 (by decide) hm (fun _ hm => ?_) (fun _ hm => ?_)
                      · refine j_sub [] rfl ?_
                        exact hj324 S  hm
                      · refine j_aload_n F 4 dX5_runCommand_311 rfl ?_
                        refine j_iload_n F 3 dX5_runCommand_312 rfl ?_
                        refine j_iload_n F 2 dX5_runCommand_313 rfl ?_
                        obtain ⟨r314, S314, hc314, hm⟩ := bndE_ok hm
                        refine j_callV F (n := 2) (As := [.int v2_8, .int v3_16]) (rest := []) (c_X5_commandLearns l g hg v2_8 v3_16 S r314 S314 hc314) gw_X5_323 (by decide +kernel) ⟨Nat.le_of_ble_eq_true rfl, Nat.le_of_ble_eq_true rfl⟩ ⟨Nat.le_of_ble_eq_true rfl, Nat.le_of_ble_eq_true rfl⟩ rfl rfl rfl rfl (Nat.le_of_ble_eq_true rfl) dX5_runCommand_314 ?_
                        show J p l e rmX5_runCommand s m args below meth c g A 6 (MQ below (QC g A (some (.int r)) S') args s 0 0 A) 0 0 317 [(5, .int v5_30), (4, .int v4_24), (3, .int v3_16), (2, .int v2_8), (0, .ref (g.2.1 0)), (1, .int v1)] [.int r314] S314
                        refine j_if_eq F (tgt := 324) dX5_runCommand_317 (by decide) hm (fun _ hm => ?_) (fun _ hm => ?_)
                        · refine j_sub [] rfl ?_
                          exact hj324 S314  hm
                        · refine j_iconst F (v := 1) dX5_runCommand_320 (by decide) ?_
                          refine j_goto F (tgt := 325) dX5_runCommand_321 (by decide) ?_
                          refine j_sub [] rfl ?_
                          exact hj325 1 S314  hm
                  · refine j_swOut F (tgt := 326) dX5_runCommand_37 (by have a1 := ne_z (z := 1) n1 (by decide +kernel); have a2 := ne_z (z := 2) n2 (by decide +kernel); have a3 := ne_z (z := 3) n3 (by decide +kernel); have a4 := ne_z (z := 4) n4 (by decide +kernel); have a5 := ne_z (z := 5) n5 (by decide +kernel); have a6 := ne_z (z := 6) n6 (by decide +kernel); have a7 := ne_z (z := 7) n7 (by decide +kernel); have a8 := ne_z (z := 8) n8 (by decide +kernel); have a9 := ne_z (z := 9) n9 (by decide +kernel); omega) (by decide) ?_
                    refine j_iconst F (v := 0) dX5_runCommand_326 (by decide) ?_
                    exact j_zret_e F rfl rfl dX5_runCommand_327 hm
def m_X5_thingBeside_J26 (v3 : Int32) : Option (Int32) := some v3
def m_X5_thingBeside_J14 (v0 : Int32) (v1 : Int32) (v3 : Int32) : Option (Int32) := if v3 < (imax v0 v1) then (m_X5_thingBeside_J26 v3) else (m_X5_thingBeside_J26 (v3 + 1))
def m_X5_thingBeside (v0 : Int32) (v1 : Int32) (v2 : Int32) : Option (Int32) := if v2 < (imin v0 v1) then (m_X5_thingBeside_J14 v0 v1 v2) else (m_X5_thingBeside_J14 v0 v1 (v2 + 1))
set_option maxRecDepth 100000 in
set_option maxHeartbeats 4000000 in
theorem c_X5_thingBeside (l : Launch) (g : GG) (hg : Inj g) (v0 : Int32) (v1 : Int32) (v2 : Int32)  (S : Hs) (r : Int32) (hm : m_X5_thingBeside v0 v1 v2 = some r) : CM l yX5_thingBeside [.code yX5_thingBeside cX5_thingBeside 4 (some .int)] rmX5_thingBeside [.int v0, .int v1, .int v2] g S (some (.int r)) S := by
  unfold m_X5_thingBeside at hm
  refine CM.of (cc := cX5_thingBeside) (nL := 4) (ret := (some .int)) (lv := [(0, .int v0), (1, .int v1), (2, .int v2)]) (by decide +kernel) hg (Nat.le_of_ble_eq_true rfl) rfl (fun p e s m args below meth c A F => ?_)
  replace F : Fx p s m meth c cX5_thingBeside RX5 4 (some .int) g A := F
  show J p l e rmX5_thingBeside s m args below meth c g A 4 (MQ below (QC g A (some (.int r)) S) args s 0 0 A) 0 0 0 [(0, .int v0), (1, .int v1), (2, .int v2)] [] S
  have hj26 : ∀ (v3 : Int32), m_X5_thingBeside_J26 v3 = some r → J p l e rmX5_thingBeside s m args below meth c g A 4 (MQ below (QC g A (some (.int r)) S) args s 0 0 A) 0 0 26 [(3, .int v3)] [] S := by
    intro v3 hm
    unfold m_X5_thingBeside_J26 at hm
    refine j_iload_n F 0 dX5_thingBeside_26 rfl ?_
    exact j_iret_p F rfl dX5_thingBeside_27 hm
  have hj14 : ∀ (v0 : Int32) (v1 : Int32) (v3 : Int32), m_X5_thingBeside_J14 v0 v1 v3 = some r → J p l e rmX5_thingBeside s m args below meth c g A 4 (MQ below (QC g A (some (.int r)) S) args s 0 0 A) 0 0 14 [(0, .int v0), (1, .int v1), (3, .int v3)] [] S := by
    intro v0 v1 v3 hm
    unfold m_X5_thingBeside_J14 at hm
    refine j_iload_n F 2 dX5_thingBeside_14 rfl ?_
    refine j_iload_n F 0 dX5_thingBeside_15 rfl ?_
    refine j_iload_n F 1 dX5_thingBeside_16 rfl ?_
    refine j_mmax F tw503 tw212 tw213 tw214 ⟨Nat.le_of_ble_eq_true rfl, Nat.le_of_ble_eq_true rfl⟩ ⟨Nat.le_of_ble_eq_true rfl, Nat.le_of_ble_eq_true rfl⟩ dX5_thingBeside_17 ?_
    refine j_icmp_lt F (tgt := 26) dX5_thingBeside_20 (by decide) hm (fun _ hm => ?_) (fun _ hm => ?_)
    · refine j_sub [2] rfl ?_
      exact hj26 v3  hm
    · refine j_iinc F (v := v3 + 1) (lv' := [(3, .int (v3 + 1)), (0, .int v0), (1, .int v1)]) 2 dX5_thingBeside_23 rfl rfl (by decide) rfl ?_
      refine j_sub [0] rfl ?_
      exact hj26 (v3 + 1)  hm
  refine j_iload_n F 2 dX5_thingBeside_0 rfl ?_
  refine j_istore_n F (lv' := [(3, .int v2), (0, .int v0), (1, .int v1), (2, .int v2)]) dX5_thingBeside_1 (by decide) rfl ?_
  refine j_iload_n F 0 dX5_thingBeside_2 rfl ?_
  refine j_iload_n F 1 dX5_thingBeside_3 rfl ?_
  refine j_iload_n F 2 dX5_thingBeside_4 rfl ?_
  refine j_mmin F tw502 tw216 tw213 tw217 ⟨Nat.le_of_ble_eq_true rfl, Nat.le_of_ble_eq_true rfl⟩ ⟨Nat.le_of_ble_eq_true rfl, Nat.le_of_ble_eq_true rfl⟩ dX5_thingBeside_5 ?_
  refine j_icmp_lt F (tgt := 14) dX5_thingBeside_8 (by decide) hm (fun _ hm => ?_) (fun _ hm => ?_)
  · refine j_sub [1, 2, 0] rfl ?_
    exact hj14 v0 v1 v2  hm
  · refine j_iinc F (v := v2 + 1) (lv' := [(3, .int (v2 + 1)), (0, .int v0), (1, .int v1), (2, .int v2)]) 0 dX5_thingBeside_11 rfl rfl (by decide) rfl ?_
    refine j_sub [1, 2, 0] rfl ?_
    exact hj14 v0 v1 (v2 + 1)  hm
def m_X5_tryByChance_J127 (S : Hs) : Option (Int32 × Hs) := some ((0, S))
noncomputable def m_X5_tryByChance_J87 (v3 : Int32) (v4 : Int32) (v5 : Int32) (v6 : Int32) (v7 : Int32) (w0 : Int32) (S : Hs) : Option (Int32 × Hs) := (m_X5_rightOf w0 v6 v5).bind fun r91 => ((m_X3_has 63 r91 S).bind fun r102 => (if r102 = 0 then ((m_X3_allowsStep 63 v7 v3 v4 v6 v5 S).bind fun r121 => (if r121 = 0 then (m_X5_tryByChance_J127 S) else ((m_X3_put 63 r91 1 S).bind fun S136 => (some ((1, S136)))))) else (m_X5_tryByChance_J127 S)))
noncomputable def m_X5_tryByChance_J74 (v3 : Int32) (v4 : Int32) (v5 : Int32) (v6 : Int32) (w0 : Int32) (S : Hs) : Option (Int32 × Hs) := if w0 = 0 then (m_X5_tryByChance_J87 v3 v4 v5 v6 w0 v3 S) else (m_X5_tryByChance_J87 v3 v4 v5 v6 w0 v4 S)
noncomputable def m_X5_tryByChance (v1 : Int32) (S : Hs) : Option (Int32 × Hs) := bnd (gI S 63 0) fun v2_7 => (if 3 ≤ v2_7 then (gd (decide (¬ v2_7 = 0)) (bnd (irm (v1 / 2) v2_7) fun v3_20 => (gd (decide (¬ (v2_7 - 1) = 0)) (gd (decide (¬ v2_7 = 0)) (bnd (irm ((v3_20 + 1) + (irm (v1 / 16) (v2_7 - 1))) v2_7) fun v4_35 => (gd (decide (¬ (v2_7 - 2) = 0)) ((m_X5_thingBeside v3_20 v4_35 (irm (v1 / 128) (v2_7 - 2))).bind fun r49 => (bnd (irm (v1 / 1024) 4) fun v6_61 => (if (irm v1 2) = 0 then (m_X5_tryByChance_J74 v3_20 v4_35 r49 v6_61 0 S) else (m_X5_tryByChance_J74 v3_20 v4_35 r49 v6_61 1 S)))))))))) else (some ((0, S))))
set_option maxRecDepth 100000 in
set_option maxHeartbeats 4000000 in
theorem c_X5_tryByChance (l : Launch) (g : GG) (hg : Inj g) (v1 : Int32)  (S : Hs) (r : Int32) (S' : Hs) (hm : m_X5_tryByChance v1 S = some ((r, S'))) : CM l yX5_tryByChance [.code yX5_tryByChance cX5_tryByChance 9 (some .boolean)] rmX5_tryByChance [.ref (g.2.1 0), .int v1] g S (some (.int r)) S' := by
  unfold m_X5_tryByChance at hm
  refine CM.of (cc := cX5_tryByChance) (nL := 9) (ret := (some .boolean)) (lv := [(0, .ref (g.2.1 0)), (1, .int v1)]) (by decide +kernel) hg (Nat.le_of_ble_eq_true rfl) rfl (fun p e s m args below meth c A F => ?_)
  replace F : Fx p s m meth c cX5_tryByChance RX5 9 (some .boolean) g A := F
  show J p l e rmX5_tryByChance s m args below meth c g A 9 (MQ below (QC g A (some (.int r)) S') args s 0 0 A) 0 0 0 [(0, .ref (g.2.1 0)), (1, .int v1)] [] S
  have hj127 : ∀ (S : Hs), m_X5_tryByChance_J127 S = some ((r, S')) → J p l e rmX5_tryByChance s m args below meth c g A 9 (MQ below (QC g A (some (.int r)) S') args s 0 0 A) 0 0 127 [] [] S := by
    intro S hm
    unfold m_X5_tryByChance_J127 at hm
    refine j_iconst F (v := 0) dX5_tryByChance_127 (by decide) ?_
    exact j_zret_e F rfl rfl dX5_tryByChance_128 hm
  have hj87 : ∀ (v3 : Int32) (v4 : Int32) (v5 : Int32) (v6 : Int32) (v7 : Int32) (w0 : Int32) (S : Hs), m_X5_tryByChance_J87 v3 v4 v5 v6 v7 w0 S = some ((r, S')) → J p l e rmX5_tryByChance s m args below meth c g A 9 (MQ below (QC g A (some (.int r)) S') args s 0 0 A) 0 0 87 [(0, .ref (g.2.1 0)), (3, .int v3), (4, .int v4), (5, .int v5), (6, .int v6), (7, .int v7)] [.int w0] S := by
    intro v3 v4 v5 v6 v7 w0 S hm
    unfold m_X5_tryByChance_J87 at hm
    refine j_iload F 4 dX5_tryByChance_87 rfl ?_
    refine j_iload F 3 dX5_tryByChance_89 rfl ?_
    obtain ⟨r91, hc91, hm⟩ := Option.bind_eq_some_iff.mp hm
    refine j_callS F (n := 3) (As := [.int w0, .int v6, .int v5]) (rest := []) (c_X5_rightOf l g hg w0 v6 v5 S r91 hc91) gw_X5_154 (by decide +kernel) ⟨Nat.le_of_ble_eq_true rfl, Nat.le_of_ble_eq_true rfl⟩ ⟨Nat.le_of_ble_eq_true rfl, Nat.le_of_ble_eq_true rfl⟩ rfl rfl (Nat.le_of_ble_eq_true rfl) dX5_tryByChance_91 ?_
    show J p l e rmX5_tryByChance s m args below meth c g A 9 (MQ below (QC g A (some (.int r)) S') args s 0 0 A) 0 0 94 [(0, .ref (g.2.1 0)), (3, .int v3), (4, .int v4), (5, .int v5), (6, .int v6), (7, .int v7)] [.int r91] S
    refine j_istore F (lv' := [(8, .int r91), (0, .ref (g.2.1 0)), (3, .int v3), (4, .int v4), (5, .int v5), (6, .int v6), (7, .int v7)]) dX5_tryByChance_94 (by decide) rfl ?_
    refine j_aload_n F 1 dX5_tryByChance_96 rfl ?_
    refine j_getR F (k0 := 6) (C := RX5) (T := TX5) (N := 11) rfl rfl rfl inF5 (by decide) tw320 dX5_tryByChance_97 ?_
    refine j_iload F 0 dX5_tryByChance_100 rfl ?_
    obtain ⟨r102, hc102, hm⟩ := Option.bind_eq_some_iff.mp hm
    refine j_callV F (n := 1) (As := [.int r91]) (rest := []) (c_X3_has l g hg 63 r91 (by decide) S r102 hc102) gw_X5_158 (by decide +kernel) ⟨Nat.le_of_ble_eq_true rfl, Nat.le_of_ble_eq_true rfl⟩ ⟨Nat.le_of_ble_eq_true rfl, Nat.le_of_ble_eq_true rfl⟩ (isSt_lay (i := 63) (by decide)).1 rfl rfl rfl (Nat.le_of_ble_eq_true rfl) dX5_tryByChance_102 ?_
    show J p l e rmX5_tryByChance s m args below meth c g A 9 (MQ below (QC g A (some (.int r)) S') args s 0 0 A) 0 0 105 [(8, .int r91), (0, .ref (g.2.1 0)), (3, .int v3), (4, .int v4), (5, .int v5), (6, .int v6), (7, .int v7)] [.int r102] S
    refine j_if_ne F (tgt := 127) dX5_tryByChance_105 (by decide) hm (fun _ hm => ?_) (fun _ hm => ?_)
    · refine j_sub [] rfl ?_
      exact hj127 S  hm
    · refine j_aload_n F 1 dX5_tryByChance_108 rfl ?_
      refine j_getR F (k0 := 6) (C := RX5) (T := TX5) (N := 11) rfl rfl rfl inF5 (by decide) tw320 dX5_tryByChance_109 ?_
      refine j_iload F 6 dX5_tryByChance_112 rfl ?_
      refine j_iload_n F 2 dX5_tryByChance_114 rfl ?_
      refine j_iload F 3 dX5_tryByChance_115 rfl ?_
      refine j_iload F 5 dX5_tryByChance_117 rfl ?_
      refine j_iload F 4 dX5_tryByChance_119 rfl ?_
      obtain ⟨r121, hc121, hm⟩ := Option.bind_eq_some_iff.mp hm
      refine j_callV F (n := 5) (As := [.int v7, .int v3, .int v4, .int v6, .int v5]) (rest := []) (c_X3_allowsStep l g hg 63 v7 v3 v4 v6 v5 (by decide) S r121 hc121) gw_X5_299 (by decide +kernel) ⟨Nat.le_of_ble_eq_true rfl, Nat.le_of_ble_eq_true rfl⟩ ⟨Nat.le_of_ble_eq_true rfl, Nat.le_of_ble_eq_true rfl⟩ (isSt_lay (i := 63) (by decide)).1 rfl rfl rfl (Nat.le_of_ble_eq_true rfl) dX5_tryByChance_121 ?_
      show J p l e rmX5_tryByChance s m args below meth c g A 9 (MQ below (QC g A (some (.int r)) S') args s 0 0 A) 0 0 124 [(8, .int r91), (0, .ref (g.2.1 0)), (3, .int v3), (4, .int v4), (5, .int v5), (6, .int v6), (7, .int v7)] [.int r121] S
      refine j_if_ne F (tgt := 129) dX5_tryByChance_124 (by decide) hm (fun _ hm => ?_) (fun _ hm => ?_)
      · refine j_aload_n F 1 dX5_tryByChance_129 rfl ?_
        refine j_getR F (k0 := 6) (C := RX5) (T := TX5) (N := 11) rfl rfl rfl inF5 (by decide) tw320 dX5_tryByChance_130 ?_
        refine j_iload F 0 dX5_tryByChance_133 rfl ?_
        refine j_iconst F (v := 1) dX5_tryByChance_135 (by decide) ?_
        obtain ⟨S136, hc136, hm⟩ := Option.bind_eq_some_iff.mp hm
        refine j_callV F (n := 2) (As := [.int r91, .int 1]) (rest := []) (c_X3_put l g hg 63 r91 1 (by decide) S S136 hc136) gw_X5_196 (by decide +kernel) ⟨Nat.le_of_ble_eq_true rfl, Nat.le_of_ble_eq_true rfl⟩ ⟨Nat.le_of_ble_eq_true rfl, Nat.le_of_ble_eq_true rfl⟩ (isSt_lay (i := 63) (by decide)).1 rfl rfl rfl (Nat.le_of_ble_eq_true rfl) dX5_tryByChance_136 ?_
        show J p l e rmX5_tryByChance s m args below meth c g A 9 (MQ below (QC g A (some (.int r)) S') args s 0 0 A) 0 0 139 [(8, .int r91), (0, .ref (g.2.1 0)), (3, .int v3), (4, .int v4), (5, .int v5), (6, .int v6), (7, .int v7)] [] S136
        refine j_iconst F (v := 1) dX5_tryByChance_139 (by decide) ?_
        exact j_zret_e F rfl rfl dX5_tryByChance_140 hm
      · refine j_sub [] rfl ?_
        exact hj127 S  hm
  have hj74 : ∀ (v3 : Int32) (v4 : Int32) (v5 : Int32) (v6 : Int32) (w0 : Int32) (S : Hs), m_X5_tryByChance_J74 v3 v4 v5 v6 w0 S = some ((r, S')) → J p l e rmX5_tryByChance s m args below meth c g A 9 (MQ below (QC g A (some (.int r)) S') args s 0 0 A) 0 0 74 [(0, .ref (g.2.1 0)), (3, .int v3), (4, .int v4), (5, .int v5), (6, .int v6)] [.int w0] S := by
    intro v3 v4 v5 v6 w0 S hm
    unfold m_X5_tryByChance_J74 at hm
    refine j_istore F (lv' := [(7, .int w0), (0, .ref (g.2.1 0)), (3, .int v3), (4, .int v4), (5, .int v5), (6, .int v6)]) dX5_tryByChance_74 (by decide) rfl ?_
    refine j_iload F 0 dX5_tryByChance_76 rfl ?_
    refine j_if_eq F (tgt := 86) dX5_tryByChance_78 (by decide) hm (fun _ hm => ?_) (fun _ hm => ?_)
    · refine j_iload_n F 2 dX5_tryByChance_86 rfl ?_
      refine j_sub [1, 2, 3, 4, 5, 0] rfl ?_
      exact hj87 v3 v4 v5 v6 w0 v3 S  hm
    · refine j_iload F 3 dX5_tryByChance_81 rfl ?_
      refine j_goto F (tgt := 87) dX5_tryByChance_83 (by decide) ?_
      refine j_sub [1, 2, 3, 4, 5, 0] rfl ?_
      exact hj87 v3 v4 v5 v6 w0 v4 S  hm
  refine j_aload_n F 0 dX5_tryByChance_0 rfl ?_
  refine j_getR F (k0 := 6) (C := RX5) (T := TX5) (N := 11) rfl rfl rfl inF5 (by decide) tw320 dX5_tryByChance_1 ?_
  refine j_getI F (k0 := 0) (C := RX3) (T := TX3) (N := 4) (isSt_lay (i := 63) (by decide)).1 rfl rfl inF3 (by decide) tw351 dX5_tryByChance_4 ?_
  refine j_bnd hm (fun v2_7 hm => ?_)
  refine j_istore_n F (lv' := [(2, .int v2_7), (0, .ref (g.2.1 0)), (1, .int v1)]) dX5_tryByChance_7 (by decide) rfl ?_
  refine j_iload_n F 0 dX5_tryByChance_8 rfl ?_
  refine j_iconst F (v := 3) dX5_tryByChance_9 (by decide) ?_
  refine j_icmp_ge F (tgt := 15) dX5_tryByChance_10 (by decide) hm (fun _ hm => ?_) (fun _ hm => ?_)
  · refine j_iload_n F 2 dX5_tryByChance_15 rfl ?_
    refine j_iconst F (v := 2) dX5_tryByChance_16 (by decide) ?_
    refine j_idiv F dX5_tryByChance_17 (by decide) ?_
    refine j_iload_n F 0 dX5_tryByChance_18 rfl ?_
    obtain ⟨hz19, hm⟩ := gd_ok hm
    refine j_irem F dX5_tryByChance_19 (of_decide_eq_true hz19) ?_
    refine j_bnd hm (fun v3_20 hm => ?_)
    refine j_istore_n F (lv' := [(3, .int v3_20), (2, .int v2_7), (0, .ref (g.2.1 0)), (1, .int v1)]) dX5_tryByChance_20 (by decide) rfl ?_
    refine j_iload_n F 0 dX5_tryByChance_21 rfl ?_
    refine j_iconst F (v := 1) dX5_tryByChance_22 (by decide) ?_
    refine j_iadd F dX5_tryByChance_23 ?_
    refine j_iload_n F 3 dX5_tryByChance_24 rfl ?_
    refine j_bipush F (v := 16) dX5_tryByChance_25 (by decide) ?_
    refine j_idiv F dX5_tryByChance_27 (by decide) ?_
    refine j_iload_n F 1 dX5_tryByChance_28 rfl ?_
    refine j_iconst F (v := 1) dX5_tryByChance_29 (by decide) ?_
    refine j_isub F dX5_tryByChance_30 ?_
    obtain ⟨hz31, hm⟩ := gd_ok hm
    refine j_irem F dX5_tryByChance_31 (of_decide_eq_true hz31) ?_
    refine j_iadd F dX5_tryByChance_32 ?_
    refine j_iload_n F 1 dX5_tryByChance_33 rfl ?_
    obtain ⟨hz34, hm⟩ := gd_ok hm
    refine j_irem F dX5_tryByChance_34 (of_decide_eq_true hz34) ?_
    refine j_bnd hm (fun v4_35 hm => ?_)
    refine j_istore F (lv' := [(4, .int v4_35), (3, .int v3_20), (2, .int v2_7), (0, .ref (g.2.1 0)), (1, .int v1)]) dX5_tryByChance_35 (by decide) rfl ?_
    refine j_iload_n F 1 dX5_tryByChance_37 rfl ?_
    refine j_iload F 0 dX5_tryByChance_38 rfl ?_
    refine j_iload_n F 4 dX5_tryByChance_40 rfl ?_
    refine j_sipush F (v := 128) dX5_tryByChance_41 (by decide) ?_
    refine j_idiv F dX5_tryByChance_44 (by decide) ?_
    refine j_iload_n F 2 dX5_tryByChance_45 rfl ?_
    refine j_iconst F (v := 2) dX5_tryByChance_46 (by decide) ?_
    refine j_isub F dX5_tryByChance_47 ?_
    obtain ⟨hz48, hm⟩ := gd_ok hm
    refine j_irem F dX5_tryByChance_48 (of_decide_eq_true hz48) ?_
    obtain ⟨r49, hc49, hm⟩ := Option.bind_eq_some_iff.mp hm
    refine j_callS F (n := 3) (As := [.int v3_20, .int v4_35, .int (irm (v1 / 128) (v2_7 - 2))]) (rest := []) (c_X5_thingBeside l g hg v3_20 v4_35 (irm (v1 / 128) (v2_7 - 2)) S r49 hc49) gw_X5_326 (by decide +kernel) ⟨Nat.le_of_ble_eq_true rfl, Nat.le_of_ble_eq_true rfl⟩ ⟨Nat.le_of_ble_eq_true rfl, Nat.le_of_ble_eq_true rfl⟩ rfl rfl (Nat.le_of_ble_eq_true rfl) dX5_tryByChance_49 ?_
    show J p l e rmX5_tryByChance s m args below meth c g A 9 (MQ below (QC g A (some (.int r)) S') args s 0 0 A) 0 0 52 [(4, .int v4_35), (3, .int v3_20), (2, .int v2_7), (0, .ref (g.2.1 0)), (1, .int v1)] [.int r49] S
    refine j_istore F (lv' := [(5, .int r49), (4, .int v4_35), (3, .int v3_20), (2, .int v2_7), (0, .ref (g.2.1 0)), (1, .int v1)]) dX5_tryByChance_52 (by decide) rfl ?_
    refine j_iload_n F 5 dX5_tryByChance_54 rfl ?_
    refine j_sipush F (v := 1024) dX5_tryByChance_55 (by decide) ?_
    refine j_idiv F dX5_tryByChance_58 (by decide) ?_
    refine j_iconst F (v := 4) dX5_tryByChance_59 (by decide) ?_
    refine j_irem F dX5_tryByChance_60 (by decide) ?_
    refine j_bnd hm (fun v6_61 hm => ?_)
    refine j_istore F (lv' := [(6, .int v6_61), (5, .int r49), (4, .int v4_35), (3, .int v3_20), (2, .int v2_7), (0, .ref (g.2.1 0)), (1, .int v1)]) dX5_tryByChance_61 (by decide) rfl ?_
    refine j_iload_n F 6 dX5_tryByChance_63 rfl ?_
    refine j_iconst F (v := 2) dX5_tryByChance_64 (by decide) ?_
    refine j_irem F dX5_tryByChance_65 (by decide) ?_
    refine j_if_eq F (tgt := 73) dX5_tryByChance_66 (by decide) hm (fun _ hm => ?_) (fun _ hm => ?_)
    · refine j_iconst F (v := 0) dX5_tryByChance_73 (by decide) ?_
      refine j_sub [5, 3, 2, 1, 0] rfl ?_
      exact hj74 v3_20 v4_35 r49 v6_61 0 S  hm
    · refine j_iconst F (v := 1) dX5_tryByChance_69 (by decide) ?_
      refine j_goto F (tgt := 74) dX5_tryByChance_70 (by decide) ?_
      refine j_sub [5, 3, 2, 1, 0] rfl ?_
      exact hj74 v3_20 v4_35 r49 v6_61 1 S  hm
  · refine j_iconst F (v := 0) dX5_tryByChance_13 (by decide) ?_
    exact j_zret_e F rfl rfl dX5_tryByChance_14 hm
