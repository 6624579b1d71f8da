def m_X5_append_J11 (S : Hs) : Option ((Int32 ⊕ Nat) × Hs) := some ((.inr 1, S))
def m_X5_append (v1 : Int32) (S : Hs) : Option ((Int32 ⊕ Nat) × Hs) := if v1 < 0 then (m_X5_append_J11 S) else (if v1 ≤ 255 then (if (gI S 1 1) < 110 then ((m_X4_addSign (i2c v1) S).bind fun S49 => (some ((.inl (gI S49 1 1), S49)))) else (some ((.inr 2, S)))) else (m_X5_append_J11 S))
set_option maxRecDepth 100000 in
set_option maxHeartbeats 4000000 in
theorem c_X5_append (l : Launch) (g : GG) (hg : Inj g) (v1 : Int32)  (S : Hs) (r : Int32) (S' : Hs) (hm : m_X5_append v1 S = some ((.inl r, S'))) : CM l yX5_append [.code yX5_append cX5_append 2 (some .int)] rmX5_append [.ref (g.2.1 0), .int v1] g S (some (.int r)) S' := by
  unfold m_X5_append at hm
  refine CM.of (cc := cX5_append) (nL := 2) (ret := (some .int)) (lv := [(0, .ref (g.2.1 0)), (1, .int v1)]) (by decide +kernel) hg (Nat.le_of_ble_eq_true rfl) rfl (fun p e s m args below meth c A F => ?_)
  replace F : Fx p s m meth c cX5_append RX5 2 (some .int) g A := F
  show J p l e rmX5_append s m args below meth c g A 2 (MQ below (QC g A (some (.int r)) S') args s 0 0 A) 0 0 0 [(0, .ref (g.2.1 0)), (1, .int v1)] [] S
  have hj11 : ∀ (S : Hs), m_X5_append_J11 S = some ((.inl r, S')) → J p l e rmX5_append s m args below meth c g A 2 (MQ below (QC g A (some (.int r)) S') args s 0 0 A) 0 0 11 [] [] S := by
    intro S hm
    unfold m_X5_append_J11 at hm
    cases hm
  refine j_iload_n F 1 dX5_append_0 rfl ?_
  refine j_if_lt F (tgt := 11) dX5_append_1 (by decide) hm (fun _ hm => ?_) (fun _ hm => ?_)
  · refine j_sub [] rfl ?_
    exact hj11 S  hm
  · refine j_iload_n F 1 dX5_append_4 rfl ?_
    refine j_sipush F (v := 255) dX5_append_5 (by decide) ?_
    refine j_icmp_le F (tgt := 21) dX5_append_8 (by decide) hm (fun _ hm => ?_) (fun _ hm => ?_)
    · refine j_aload_n F 0 dX5_append_21 rfl ?_
      refine j_getR F (k0 := 0) (C := RX5) (T := TX5) (N := 11) rfl rfl rfl inF5 (by decide) tw314 dX5_append_22 ?_
      refine j_getI F (k0 := 1) (C := RX4) (T := TX4) (N := 2) rfl rfl rfl inF4 (by decide) tw340 dX5_append_25 ?_
      refine j_bipush F (v := 110) dX5_append_28 (by decide) ?_
      refine j_icmp_lt F (tgt := 43) dX5_append_30 (by decide) hm (fun _ hm => ?_) (fun _ hm => ?_)
      · refine j_aload_n F 0 dX5_append_43 rfl ?_
        refine j_getR F (k0 := 0) (C := RX5) (T := TX5) (N := 11) rfl rfl rfl inF5 (by decide) tw314 dX5_append_44 ?_
        refine j_iload_n F 1 dX5_append_47 rfl ?_
        refine j_i2c F dX5_append_48 ?_
        obtain ⟨S49, hc49, hm⟩ := Option.bind_eq_some_iff.mp hm
        refine j_callV F (n := 1) (As := [.int (i2c v1)]) (rest := []) (c_X4_addSign l g hg (i2c v1) S S49 hc49) gw_X5_77 (by decide +kernel) ⟨Nat.le_of_ble_eq_true rfl, Nat.le_of_ble_eq_true rfl⟩ ⟨Nat.le_of_ble_eq_true rfl, Nat.le_of_ble_eq_true rfl⟩ rfl rfl rfl rfl (Nat.le_of_ble_eq_true rfl) dX5_append_49 ?_
        show J p l e rmX5_append s m args below meth c g A 2 (MQ below (QC g A (some (.int r)) S') args s 0 0 A) 0 0 52 [(0, .ref (g.2.1 0)), (1, .int v1)] [] S49
        refine j_aload_n F 0 dX5_append_52 rfl ?_
        refine j_getR F (k0 := 0) (C := RX5) (T := TX5) (N := 11) rfl rfl rfl inF5 (by decide) tw314 dX5_append_53 ?_
        refine j_getI F (k0 := 1) (C := RX4) (T := TX4) (N := 2) rfl rfl rfl inF4 (by decide) tw340 dX5_append_56 ?_
        exact j_iret_e F rfl dX5_append_59 (inl_e hm)
      · cases hm
    · refine j_sub [] rfl ?_
      exact hj11 S  hm
set_option maxRecDepth 100000 in
set_option maxHeartbeats 4000000 in
theorem x_X5_append (l : Launch) (hst : l.stackTraces = false) (g : GG) (hg : Inj g) (v1 : Int32)  (S : Hs) (n : Nat) (S' : Hs) (hm : m_X5_append v1 S = some ((.inr n, S'))) : CX l yX5_append [.code yX5_append cX5_append 2 (some .int)] rxX5_append [.ref (g.2.1 0), .int v1] g S n S' := by
  unfold m_X5_append at hm
  refine CX.of (cc := cX5_append) (nL := 2) (ret := (some .int)) (lv := [(0, .ref (g.2.1 0)), (1, .int v1)]) (by decide +kernel) hg (Nat.le_of_ble_eq_true rfl) rfl rfl rfl hst (fun p e s m args below meth c A F FS => ?_)
  replace F : Fx p s m meth c cX5_append RX5 2 (some .int) g A := F
  replace FS : FX9 l s c A := FS
  show J p l e rxX5_append s m args below meth c g A 2 (vx_MQ below QF (XQ g A n S') args s 1 6 A) 0 0 0 [(0, .ref (g.2.1 0)), (1, .int v1)] [] S
  have hj11 : ∀ (S : Hs), m_X5_append_J11 S = some ((.inr n, S')) → J p l e rxX5_append s m args below meth c g A 2 (vx_MQ below QF (XQ g A n S') args s 1 6 A) 0 0 11 [] [] S := by
    intro S hm
    unfold m_X5_append_J11 at hm
    cases hm
    exact j_throw F FS 0 ex1 rfl rfl dX5_append_11 dX5_append_14 dX5_append_15 dX5_append_17 dX5_append_20 ⟨Nat.le_of_ble_eq_true rfl, Nat.le_of_ble_eq_true rfl⟩ ⟨Nat.le_of_ble_eq_true rfl, Nat.le_of_ble_eq_true rfl⟩
  refine j_iload_n F 1 dX5_append_0 rfl ?_
  refine j_if_lt F (tgt := 11) dX5_append_1 (by decide) hm (fun _ hm => ?_) (fun _ hm => ?_)
  · refine j_sub [] rfl ?_
    exact hj11 S  hm
  · refine j_iload_n F 1 dX5_append_4 rfl ?_
    refine j_sipush F (v := 255) dX5_append_5 (by decide) ?_
    refine j_icmp_le F (tgt := 21) dX5_append_8 (by decide) hm (fun _ hm => ?_) (fun _ hm => ?_)
    · refine j_aload_n F 0 dX5_append_21 rfl ?_
      refine j_getR F (k0 := 0) (C := RX5) (T := TX5) (N := 11) rfl rfl rfl inF5 (by decide) tw314 dX5_append_22 ?_
      refine j_getI F (k0 := 1) (C := RX4) (T := TX4) (N := 2) rfl rfl rfl inF4 (by decide) tw340 dX5_append_25 ?_
      refine j_bipush F (v := 110) dX5_append_28 (by decide) ?_
      refine j_icmp_lt F (tgt := 43) dX5_append_30 (by decide) hm (fun _ hm => ?_) (fun _ hm => ?_)
      · refine j_aload_n F 0 dX5_append_43 rfl ?_
        refine j_getR F (k0 := 0) (C := RX5) (T := TX5) (N := 11) rfl rfl rfl inF5 (by decide) tw314 dX5_append_44 ?_
        refine j_iload_n F 1 dX5_append_47 rfl ?_
        refine j_i2c F dX5_append_48 ?_
        obtain ⟨S49, hc49, hm⟩ := Option.bind_eq_some_iff.mp hm
        refine j_callV F (n := 1) (As := [.int (i2c v1)]) (rest := []) (c_X4_addSign l g hg (i2c v1) S S49 hc49) gw_X5_77 (by decide +kernel) ⟨Nat.le_of_ble_eq_true rfl, Nat.le_of_ble_eq_true rfl⟩ ⟨Nat.le_of_ble_eq_true rfl, Nat.le_of_ble_eq_true rfl⟩ rfl rfl rfl rfl (Nat.le_of_ble_eq_true rfl) dX5_append_49 ?_
        show J p l e rxX5_append s m args below meth c g A 2 (vx_MQ below QF (XQ g A n S') args s 1 6 A) 0 0 52 [(0, .ref (g.2.1 0)), (1, .int v1)] [] S49
        refine j_aload_n F 0 dX5_append_52 rfl ?_
        refine j_getR F (k0 := 0) (C := RX5) (T := TX5) (N := 11) rfl rfl rfl inF5 (by decide) tw314 dX5_append_53 ?_
        refine j_getI F (k0 := 1) (C := RX4) (T := TX4) (N := 2) rfl rfl rfl inF4 (by decide) tw340 dX5_append_56 ?_
        cases hm
      · cases hm
        exact j_throw F FS 1 ex2 rfl rfl dX5_append_33 dX5_append_36 dX5_append_37 dX5_append_39 dX5_append_42 ⟨Nat.le_of_ble_eq_true rfl, Nat.le_of_ble_eq_true rfl⟩ ⟨Nat.le_of_ble_eq_true rfl, Nat.le_of_ble_eq_true rfl⟩
    · refine j_sub [] rfl ?_
      exact hj11 S  hm
def m_X5_load_L44 (v1 : Int32) (S : Hs) : Option ((Int32 × Hs) ⊕ Hs) := if 2 ≤ v1 then (some (.inr S)) else (gd (inb v1 2) (bnd (sA S 5 v1.toNatClampNeg (vp_nar .boolean 0)) fun S55 => (some (.inl ((v1 + 1, S55))))))
noncomputable def m_X5_load (S : Hs) : Option ((Int32 ⊕ Nat) × Hs) := bndE (m_X4_readInto 63 S) fun r8 S8 => (if r8 = ((-9)) then ((m_X3_copyFrom 29 63 S8).bind fun S34 => (bnd (sI S34 0 3 0) fun S39 => ((loopO (fun x => m_X5_load_L44 x.1 x.2) ((0, S39))).bind fun y44 => some ((.inl (gI y44 29 0), y44))))) else (some ((.inr 2, S8))))
set_option maxRecDepth 100000 in
set_option maxHeartbeats 4000000 in
theorem c_X5_load (l : Launch) (g : GG) (hg : Inj g)   (S : Hs) (r : Int32) (S' : Hs) (hm : m_X5_load S = some ((.inl r, S'))) : CM l yX5_load [.code yX5_load cX5_load 2 (some .int)] rmX5_load [.ref (g.2.1 0)] g S (some (.int r)) S' := by
  unfold m_X5_load at hm
  refine CM.of (cc := cX5_load) (nL := 2) (ret := (some .int)) (lv := [(0, .ref (g.2.1 0))]) (by decide +kernel) hg (Nat.le_of_ble_eq_true rfl) rfl (fun p e s m args below meth c A F => ?_)
  replace F : Fx p s m meth c cX5_load RX5 2 (some .int) g A := F
  show J p l e rmX5_load s m args below meth c g A 2 (MQ below (QC g A (some (.int r)) S') args s 0 0 A) 0 0 0 [(0, .ref (g.2.1 0))] [] S
  refine j_aload_n F 0 dX5_load_0 rfl ?_
  refine j_getR F (k0 := 0) (C := RX5) (T := TX5) (N := 11) rfl rfl rfl inF5 (by decide) tw314 dX5_load_1 ?_
  refine j_aload_n F 0 dX5_load_4 rfl ?_
  refine j_getR F (k0 := 6) (C := RX5) (T := TX5) (N := 11) rfl rfl rfl inF5 (by decide) tw320 dX5_load_5 ?_
  obtain ⟨r8, S8, hc8, hm⟩ := bndE_ok hm
  refine j_callV F (n := 1) (As := [.ref (g.2.1 63)]) (rest := []) (c_X4_readInto l g hg 63 (by decide) S r8 S8 hc8) gw_X5_81 (by decide +kernel) ⟨Nat.le_of_ble_eq_true rfl, Nat.le_of_ble_eq_true rfl⟩ ⟨Nat.le_of_ble_eq_true rfl, Nat.le_of_ble_eq_true rfl⟩ rfl rfl rfl rfl (Nat.le_of_ble_eq_true rfl) dX5_load_8 ?_
  show J p l e rmX5_load s m args below meth c g A 2 (MQ below (QC g A (some (.int r)) S') args s 0 0 A) 0 0 11 [(0, .ref (g.2.1 0))] [.int r8] S8
  refine j_bipush F (v := -9) dX5_load_11 (by decide) ?_
  refine j_icmp_eq F (tgt := 26) dX5_load_13 (by decide) hm (fun _ hm => ?_) (fun _ hm => ?_)
  · refine j_aload_n F 0 dX5_load_26 rfl ?_
    refine j_getR F (k0 := 1) (C := RX5) (T := TX5) (N := 11) rfl rfl rfl inF5 (by decide) tw316 dX5_load_27 ?_
    refine j_aload_n F 0 dX5_load_30 rfl ?_
    refine j_getR F (k0 := 6) (C := RX5) (T := TX5) (N := 11) rfl rfl rfl inF5 (by decide) tw320 dX5_load_31 ?_
    obtain ⟨S34, hc34, hm⟩ := Option.bind_eq_some_iff.mp hm
    refine j_callV F (n := 1) (As := [.ref (g.2.1 63)]) (rest := []) (c_X3_copyFrom l g hg 29 63 (by decide) (by decide) S8 S34 hc34) gw_X5_87 (by decide +kernel) ⟨Nat.le_of_ble_eq_true rfl, Nat.le_of_ble_eq_true rfl⟩ ⟨Nat.le_of_ble_eq_true rfl, Nat.le_of_ble_eq_true rfl⟩ (isSt_lay (i := 29) (by decide)).1 rfl rfl rfl (Nat.le_of_ble_eq_true rfl) dX5_load_34 ?_
    show J p l e rmX5_load s m args below meth c g A 2 (MQ below (QC g A (some (.int r)) S') args s 0 0 A) 0 0 37 [(0, .ref (g.2.1 0))] [] S34
    refine j_aload_n F 0 dX5_load_37 rfl ?_
    refine j_iconst F (v := 0) dX5_load_38 (by decide) ?_
    refine j_putI F (k0 := 3) (C := RX5) (T := TX5) (N := 11) tyX5 tyX5_ok nmX5 rfl rfl rfl inF5 (by decide) tw350 rfl (by decide +kernel) dX5_load_39 ?_
    refine j_bndS hm (fun S39 hm => ?_)
    refine j_iconst F (v := 0) dX5_load_42 (by decide) ?_
    refine j_istore_n F (lv' := [(1, .int 0), (0, .ref (g.2.1 0))]) dX5_load_43 (by decide) rfl ?_
    refine j_sub [1, 0] rfl ?_
    obtain ⟨y44, hlp44, hm⟩ := Option.bind_eq_some_iff.mp hm
    refine loopO_walk (fun x => m_X5_load_L44 x.1 x.2) (fun x => J p l e rmX5_load s m args below meth c g A 2 (MQ below (QC g A (some (.int r)) S') args s 0 0 A) 0 0 44 [(0, .ref (g.2.1 0)), (1, .int x.1)] [] x.2) (fun x => J p l e rmX5_load s m args below meth c g A 2 (MQ below (QC g A (some (.int r)) S') args s 0 0 A) 0 0 62 [(0, .ref (g.2.1 0))] [] x) (fun x o1 hm hk1 => ?_) hlp44 ?_
    · obtain ⟨v1, S⟩ := x
      replace hm : m_X5_load_L44 v1 S = some o1 := hm
      show J p l e rmX5_load s m args below meth c g A 2 (MQ below (QC g A (some (.int r)) S') args s 0 0 A) 0 0 44 [(0, .ref (g.2.1 0)), (1, .int v1)] [] S
      unfold m_X5_load_L44 at hm
      refine j_iload_n F 1 dX5_load_44 rfl ?_
      refine j_iconst F (v := 2) dX5_load_45 (by decide) ?_
      refine j_icmp_ge F (tgt := 62) dX5_load_46 (by decide) hm (fun _ hm => ?_) (fun _ hm => ?_)
      · cases hm
        refine j_sub [0] rfl ?_
        exact hk1
      · refine j_aload_n F 0 dX5_load_49 rfl ?_
        refine j_getR F (k0 := 5) (C := RX5) (T := TX5) (N := 11) rfl rfl rfl inF5 (by decide) tw319 dX5_load_50 ?_
        refine j_iload_n F 1 dX5_load_53 rfl ?_
        refine j_iconst F (v := 0) dX5_load_54 (by decide) ?_
        refine j_zast F rfl dX5_load_55 hm (fun hm => ?_)
        refine j_bndS hm (fun S55 hm => ?_)
        refine j_iinc F (v := v1 + 1) (lv' := [(1, .int (v1 + 1)), (0, .ref (g.2.1 0))]) 1 dX5_load_56 rfl rfl (by decide) rfl ?_
        refine j_goto F (tgt := 44) dX5_load_59 (by decide) ?_
        cases hm
        refine j_sub [1, 0] rfl ?_
        exact hk1
    · show J p l e rmX5_load s m args below meth c g A 2 (MQ below (QC g A (some (.int r)) S') args s 0 0 A) 0 0 62 [(0, .ref (g.2.1 0))] [] y44
      refine j_aload_n F 0 dX5_load_62 rfl ?_
      refine j_getR F (k0 := 1) (C := RX5) (T := TX5) (N := 11) rfl rfl rfl inF5 (by decide) tw316 dX5_load_63 ?_
      refine j_getI F (k0 := 0) (C := RX3) (T := TX3) (N := 4) (isSt_lay (i := 29) (by decide)).1 rfl rfl inF3 (by decide) tw351 dX5_load_66 ?_
      exact j_iret_e F rfl dX5_load_69 (inl_e hm)
  · cases hm
set_option maxRecDepth 100000 in
set_option maxHeartbeats 4000000 in
theorem x_X5_load (l : Launch) (hst : l.stackTraces = false) (g : GG) (hg : Inj g)   (S : Hs) (n : Nat) (S' : Hs) (hm : m_X5_load S = some ((.inr n, S'))) : CX l yX5_load [.code yX5_load cX5_load 2 (some .int)] rxX5_load [.ref (g.2.1 0)] g S n S' := by
  unfold m_X5_load at hm
  refine CX.of (cc := cX5_load) (nL := 2) (ret := (some .int)) (lv := [(0, .ref (g.2.1 0))]) (by decide +kernel) hg (Nat.le_of_ble_eq_true rfl) rfl rfl rfl hst (fun p e s m args below meth c A F FS => ?_)
  replace F : Fx p s m meth c cX5_load RX5 2 (some .int) g A := F
  replace FS : FX9 l s c A := FS
  show J p l e rxX5_load s m args below meth c g A 2 (vx_MQ below QF (XQ g A n S') args s 1 6 A) 0 0 0 [(0, .ref (g.2.1 0))] [] S
  refine j_aload_n F 0 dX5_load_0 rfl ?_
  refine j_getR F (k0 := 0) (C := RX5) (T := TX5) (N := 11) rfl rfl rfl inF5 (by decide) tw314 dX5_load_1 ?_
  refine j_aload_n F 0 dX5_load_4 rfl ?_
  refine j_getR F (k0 := 6) (C := RX5) (T := TX5) (N := 11) rfl rfl rfl inF5 (by decide) tw320 dX5_load_5 ?_
  obtain ⟨r8, S8, hc8, hm⟩ := bndE_ok hm
  refine j_callV F (n := 1) (As := [.ref (g.2.1 63)]) (rest := []) (c_X4_readInto l g hg 63 (by decide) S r8 S8 hc8) gw_X5_81 (by decide +kernel) ⟨Nat.le_of_ble_eq_true rfl, Nat.le_of_ble_eq_true rfl⟩ ⟨Nat.le_of_ble_eq_true rfl, Nat.le_of_ble_eq_true rfl⟩ rfl rfl rfl rfl (Nat.le_of_ble_eq_true rfl) dX5_load_8 ?_
  show J p l e rxX5_load s m args below meth c g A 2 (vx_MQ below QF (XQ g A n S') args s 1 6 A) 0 0 11 [(0, .ref (g.2.1 0))] [.int r8] S8
  refine j_bipush F (v := -9) dX5_load_11 (by decide) ?_
  refine j_icmp_eq F (tgt := 26) dX5_load_13 (by decide) hm (fun _ hm => ?_) (fun _ hm => ?_)
  · refine j_aload_n F 0 dX5_load_26 rfl ?_
    refine j_getR F (k0 := 1) (C := RX5) (T := TX5) (N := 11) rfl rfl rfl inF5 (by decide) tw316 dX5_load_27 ?_
    refine j_aload_n F 0 dX5_load_30 rfl ?_
    refine j_getR F (k0 := 6) (C := RX5) (T := TX5) (N := 11) rfl rfl rfl inF5 (by decide) tw320 dX5_load_31 ?_
    obtain ⟨S34, hc34, hm⟩ := Option.bind_eq_some_iff.mp hm
    refine j_callV F (n := 1) (As := [.ref (g.2.1 63)]) (rest := []) (c_X3_copyFrom l g hg 29 63 (by decide) (by decide) S8 S34 hc34) gw_X5_87 (by decide +kernel) ⟨Nat.le_of_ble_eq_true rfl, Nat.le_of_ble_eq_true rfl⟩ ⟨Nat.le_of_ble_eq_true rfl, Nat.le_of_ble_eq_true rfl⟩ (isSt_lay (i := 29) (by decide)).1 rfl rfl rfl (Nat.le_of_ble_eq_true rfl) dX5_load_34 ?_
    show J p l e rxX5_load s m args below meth c g A 2 (vx_MQ below QF (XQ g A n S') args s 1 6 A) 0 0 37 [(0, .ref (g.2.1 0))] [] S34
    refine j_aload_n F 0 dX5_load_37 rfl ?_
    refine j_iconst F (v := 0) dX5_load_38 (by decide) ?_
    refine j_putI F (k0 := 3) (C := RX5) (T := TX5) (N := 11) tyX5 tyX5_ok nmX5 rfl rfl rfl inF5 (by decide) tw350 rfl (by decide +kernel) dX5_load_39 ?_
    refine j_bndS hm (fun S39 hm => ?_)
    refine j_iconst F (v := 0) dX5_load_42 (by decide) ?_
    refine j_istore_n F (lv' := [(1, .int 0), (0, .ref (g.2.1 0))]) dX5_load_43 (by decide) rfl ?_
    refine j_sub [1, 0] rfl ?_
    obtain ⟨y44, hlp44, hm⟩ := Option.bind_eq_some_iff.mp hm
    refine loopO_walk (fun x => m_X5_load_L44 x.1 x.2) (fun x => J p l e rxX5_load s m args below meth c g A 2 (vx_MQ below QF (XQ g A n S') args s 1 6 A) 0 0 44 [(0, .ref (g.2.1 0)), (1, .int x.1)] [] x.2) (fun x => J p l e rxX5_load s m args below meth c g A 2 (vx_MQ below QF (XQ g A n S') args s 1 6 A) 0 0 62 [(0, .ref (g.2.1 0))] [] x) (fun x o1 hm hk1 => ?_) hlp44 ?_
    · obtain ⟨v1, S⟩ := x
      replace hm : m_X5_load_L44 v1 S = some o1 := hm
      show J p l e rxX5_load s m args below meth c g A 2 (vx_MQ below QF (XQ g A n S') args s 1 6 A) 0 0 44 [(0, .ref (g.2.1 0)), (1, .int v1)] [] S
      unfold m_X5_load_L44 at hm
      refine j_iload_n F 1 dX5_load_44 rfl ?_
      refine j_iconst F (v := 2) dX5_load_45 (by decide) ?_
      refine j_icmp_ge F (tgt := 62) dX5_load_46 (by decide) hm (fun _ hm => ?_) (fun _ hm => ?_)
      · cases hm
        refine j_sub [0] rfl ?_
        exact hk1
      · refine j_aload_n F 0 dX5_load_49 rfl ?_
        refine j_getR F (k0 := 5) (C := RX5) (T := TX5) (N := 11) rfl rfl rfl inF5 (by decide) tw319 dX5_load_50 ?_
        refine j_iload_n F 1 dX5_load_53 rfl ?_
        refine j_iconst F (v := 0) dX5_load_54 (by decide) ?_
        refine j_zast F rfl dX5_load_55 hm (fun hm => ?_)
        refine j_bndS hm (fun S55 hm => ?_)
        refine j_iinc F (v := v1 + 1) (lv' := [(1, .int (v1 + 1)), (0, .ref (g.2.1 0))]) 1 dX5_load_56 rfl rfl (by decide) rfl ?_
        refine j_goto F (tgt := 44) dX5_load_59 (by decide) ?_
        cases hm
        refine j_sub [1, 0] rfl ?_
        exact hk1
    · show J p l e rxX5_load s m args below meth c g A 2 (vx_MQ below QF (XQ g A n S') args s 1 6 A) 0 0 62 [(0, .ref (g.2.1 0))] [] y44
      refine j_aload_n F 0 dX5_load_62 rfl ?_
      refine j_getR F (k0 := 1) (C := RX5) (T := TX5) (N := 11) rfl rfl rfl inF5 (by decide) tw316 dX5_load_63 ?_
      refine j_getI F (k0 := 0) (C := RX3) (T := TX3) (N := 4) (isSt_lay (i := 29) (by decide)).1 rfl rfl inF3 (by decide) tw351 dX5_load_66 ?_
      cases hm
  · cases hm
    exact j_throw F FS 2 ex2 rfl rfl dX5_load_16 dX5_load_19 dX5_load_20 dX5_load_22 dX5_load_25 ⟨Nat.le_of_ble_eq_true rfl, Nat.le_of_ble_eq_true rfl⟩ ⟨Nat.le_of_ble_eq_true rfl, Nat.le_of_ble_eq_true rfl⟩
noncomputable def m_X5_about (v1 : Int32) (S : Hs) : Option ((Int32 ⊕ Nat) × Hs) := if v1 = 0 then (some ((.inl (gI S 29 0), S))) else (if v1 = 1 then ((m_J6_bitCount_0f7a4 (gI S 29 1)).bind fun r63 => (some ((.inl r63, S)))) else (if v1 = 2 then ((m_J6_bitCount_0f7a4 (gI S 29 2)).bind fun r74 => (some ((.inl r74, S)))) else (if v1 = 3 then ((m_X3_countRights 29 S).bind fun r82 => (some ((.inl r82, S)))) else (if v1 = 4 then (bndE (m_X5_endOf 29 S) fun r91 S91 => (gd (isSt r91) ((m_X3_countRights r91 S91).bind fun r94 => (some ((.inl r94, S91)))))) else (if v1 = 5 then ((m_X2_follow 29 S).bind fun S106 => (some ((.inl (gI S106 6 2), S106)))) else (if v1 = 6 then ((m_X1_follow 29 S).bind fun S125 => ((m_X1_countPairs  S125).bind fun r132 => (some ((.inl r132, S125))))) else (if v1 = 7 then (bndE (m_X5_endOf 29 S) fun r145 S145 => (gd (isSt r145) ((m_X1_follow r145 S145).bind fun S148 => ((m_X1_countPairs  S148).bind fun r155 => (some ((.inl r155, S148))))))) else (some ((.inr 1, S))))))))))
set_option maxRecDepth 100000 in
set_option maxHeartbeats 4000000 in
theorem c_X5_about (l : Launch) (g : GG) (hg : Inj g) (v1 : Int32)  (S : Hs) (r : Int32) (S' : Hs) (hm : m_X5_about v1 S = some ((.inl r, S'))) : CM l yX5_about [.code yX5_about cX5_about 2 (some .int)] rmX5_about [.ref (g.2.1 0), .int v1] g S (some (.int r)) S' := by
  unfold m_X5_about at hm
  refine CM.of (cc := cX5_about) (nL := 2) (ret := (some .int)) (lv := [(0, .ref (g.2.1 0)), (1, .int v1)]) (by decide +kernel) hg (Nat.le_of_ble_eq_true rfl) rfl (fun p e s m args below meth c A F => ?_)
  replace F : Fx p s m meth c cX5_about RX5 2 (some .int) g A := F
  show J p l e rmX5_about s m args below meth c g A 2 (MQ below (QC g A (some (.int r)) S') args s 0 0 A) 0 0 0 [(0, .ref (g.2.1 0)), (1, .int v1)] [] S
  refine j_iload_n F 1 dX5_about_0 rfl ?_
  refine sw_if hm (fun esw hm => ?_) (fun n0 hm => ?_)
  · refine j_swIn F (tgt := 48) dX5_about_1 esw (by decide +kernel) (by decide +kernel) (off := 47) (by decide +kernel) (by decide) ?_
    refine j_aload_n F 0 dX5_about_48 rfl ?_
    refine j_getR F (k0 := 1) (C := RX5) (T := TX5) (N := 11) rfl rfl rfl inF5 (by decide) tw316 dX5_about_49 ?_
    refine j_getI F (k0 := 0) (C := RX3) (T := TX3) (N := 4) (isSt_lay (i := 29) (by decide)).1 rfl rfl inF3 (by decide) tw351 dX5_about_52 ?_
    exact j_iret_e F rfl dX5_about_55 (inl_e hm)
  · refine sw_if hm (fun esw hm => ?_) (fun n1 hm => ?_)
    · refine j_swIn F (tgt := 56) dX5_about_1 esw (by decide +kernel) (by decide +kernel) (off := 55) (by decide +kernel) (by decide) ?_
      refine j_aload_n F 0 dX5_about_56 rfl ?_
      refine j_getR F (k0 := 1) (C := RX5) (T := TX5) (N := 11) rfl rfl rfl inF5 (by decide) tw316 dX5_about_57 ?_
      refine j_getI F (k0 := 1) (C := RX3) (T := TX3) (N := 4) (isSt_lay (i := 29) (by decide)).1 rfl rfl inF3 (by decide) tw358 dX5_about_60 ?_
      obtain ⟨r63, hc63, hm⟩ := Option.bind_eq_some_iff.mp hm
      refine j_callS F (n := 1) (As := [.int (gI S 29 1)]) (rest := []) (c_J6_bitCount_0f7a4 l g hg (gI S 29 1) S r63 hc63) gw_X5_100 (by decide +kernel) ⟨Nat.le_of_ble_eq_true rfl, Nat.le_of_ble_eq_true rfl⟩ ⟨Nat.le_of_ble_eq_true rfl, Nat.le_of_ble_eq_true rfl⟩ rfl rfl (Nat.le_of_ble_eq_true rfl) dX5_about_63 ?_
      show J p l e rmX5_about s m args below meth c g A 2 (MQ below (QC g A (some (.int r)) S') args s 0 0 A) 0 0 66 [(0, .ref (g.2.1 0)), (1, .int v1)] [.int r63] S
      exact j_iret_e F rfl dX5_about_66 (inl_e hm)
    · refine sw_if hm (fun esw hm => ?_) (fun n2 hm => ?_)
      · refine j_swIn F (tgt := 67) dX5_about_1 esw (by decide +kernel) (by decide +kernel) (off := 66) (by decide +kernel) (by decide) ?_
        refine j_aload_n F 0 dX5_about_67 rfl ?_
        refine j_getR F (k0 := 1) (C := RX5) (T := TX5) (N := 11) rfl rfl rfl inF5 (by decide) tw316 dX5_about_68 ?_
        refine j_getI F (k0 := 2) (C := RX3) (T := TX3) (N := 4) (isSt_lay (i := 29) (by decide)).1 rfl rfl inF3 (by decide) tw359 dX5_about_71 ?_
        obtain ⟨r74, hc74, hm⟩ := Option.bind_eq_some_iff.mp hm
        refine j_callS F (n := 1) (As := [.int (gI S 29 2)]) (rest := []) (c_J6_bitCount_0f7a4 l g hg (gI S 29 2) S r74 hc74) gw_X5_100 (by decide +kernel) ⟨Nat.le_of_ble_eq_true rfl, Nat.le_of_ble_eq_true rfl⟩ ⟨Nat.le_of_ble_eq_true rfl, Nat.le_of_ble_eq_true rfl⟩ rfl rfl (Nat.le_of_ble_eq_true rfl) dX5_about_74 ?_
        show J p l e rmX5_about s m args below meth c g A 2 (MQ below (QC g A (some (.int r)) S') args s 0 0 A) 0 0 77 [(0, .ref (g.2.1 0)), (1, .int v1)] [.int r74] S
        exact j_iret_e F rfl dX5_about_77 (inl_e hm)
      · refine sw_if hm (fun esw hm => ?_) (fun n3 hm => ?_)
        · refine j_swIn F (tgt := 78) dX5_about_1 esw (by decide +kernel) (by decide +kernel) (off := 77) (by decide +kernel) (by decide) ?_
          refine j_aload_n F 0 dX5_about_78 rfl ?_
          refine j_getR F (k0 := 1) (C := RX5) (T := TX5) (N := 11) rfl rfl rfl inF5 (by decide) tw316 dX5_about_79 ?_
          obtain ⟨r82, hc82, hm⟩ := Option.bind_eq_some_iff.mp hm
          refine j_callV F (n := 0) (As := []) (rest := []) (c_X3_countRights l g hg 29 (by decide) S r82 hc82) gw_X5_109 (by decide +kernel) ⟨Nat.le_of_ble_eq_true rfl, Nat.le_of_ble_eq_true rfl⟩ ⟨Nat.le_of_ble_eq_true rfl, Nat.le_of_ble_eq_true rfl⟩ (isSt_lay (i := 29) (by decide)).1 rfl rfl rfl (Nat.le_of_ble_eq_true rfl) dX5_about_82 ?_
          show J p l e rmX5_about s m args below meth c g A 2 (MQ below (QC g A (some (.int r)) S') args s 0 0 A) 0 0 85 [(0, .ref (g.2.1 0)), (1, .int v1)] [.int r82] S
          exact j_iret_e F rfl dX5_about_85 (inl_e hm)
        · refine sw_if hm (fun esw hm => ?_) (fun n4 hm => ?_)
          · refine j_swIn F (tgt := 86) dX5_about_1 esw (by decide +kernel) (by decide +kernel) (off := 85) (by decide +kernel) (by decide) ?_
            refine j_aload_n F 0 dX5_about_86 rfl ?_
            refine j_aload_n F 0 dX5_about_87 rfl ?_
            refine j_getR F (k0 := 1) (C := RX5) (T := TX5) (N := 11) rfl rfl rfl inF5 (by decide) tw316 dX5_about_88 ?_
            obtain ⟨r91, S91, hc91, hm⟩ := bndE_ok hm
            refine j_callV F (n := 1) (As := [.ref (g.2.1 29)]) (rest := []) (c_X5_endOf l g hg 29 (by decide) S r91 S91 hc91) gw_X5_113 (by decide +kernel) ⟨Nat.le_of_ble_eq_true rfl, Nat.le_of_ble_eq_true rfl⟩ ⟨Nat.le_of_ble_eq_true rfl, Nat.le_of_ble_eq_true rfl⟩ rfl rfl rfl rfl (Nat.le_of_ble_eq_true rfl) dX5_about_91 ?_
            obtain ⟨hs_r91, hm⟩ := gd_ok hm
            show J p l e rmX5_about s m args below meth c g A 2 (MQ below (QC g A (some (.int r)) S') args s 0 0 A) 0 0 94 [(0, .ref (g.2.1 0)), (1, .int v1)] [.ref (g.2.1 r91)] S91
            obtain ⟨r94, hc94, hm⟩ := Option.bind_eq_some_iff.mp hm
            refine j_callV F (n := 0) (As := []) (rest := []) (c_X3_countRights l g hg r91 hs_r91 S91 r94 hc94) gw_X5_109 (by decide +kernel) ⟨Nat.le_of_ble_eq_true rfl, Nat.le_of_ble_eq_true rfl⟩ ⟨Nat.le_of_ble_eq_true rfl, Nat.le_of_ble_eq_true rfl⟩ (isSt_lay hs_r91).1 rfl rfl rfl (Nat.le_of_ble_eq_true rfl) dX5_about_94 ?_
            show J p l e rmX5_about s m args below meth c g A 2 (MQ below (QC g A (some (.int r)) S') args s 0 0 A) 0 0 97 [(0, .ref (g.2.1 0)), (1, .int v1)] [.int r94] S91
            exact j_iret_e F rfl dX5_about_97 (inl_e hm)
          · refine sw_if hm (fun esw hm => ?_) (fun n5 hm => ?_)
            · refine j_swIn F (tgt := 98) dX5_about_1 esw (by decide +kernel) (by decide +kernel) (off := 97) (by decide +kernel) (by decide) ?_
              refine j_aload_n F 0 dX5_about_98 rfl ?_
              refine j_getR F (k0 := 8) (C := RX5) (T := TX5) (N := 11) rfl rfl rfl inF5 (by decide) tw324 dX5_about_99 ?_
              refine j_aload_n F 0 dX5_about_102 rfl ?_
              refine j_getR F (k0 := 1) (C := RX5) (T := TX5) (N := 11) rfl rfl rfl inF5 (by decide) tw316 dX5_about_103 ?_
              obtain ⟨S106, hc106, hm⟩ := Option.bind_eq_some_iff.mp hm
              refine j_callV F (n := 1) (As := [.ref (g.2.1 29)]) (rest := []) (c_X2_follow l g hg 29 (by decide) S S106 hc106) gw_X5_117 (by decide +kernel) ⟨Nat.le_of_ble_eq_true rfl, Nat.le_of_ble_eq_true rfl⟩ ⟨Nat.le_of_ble_eq_true rfl, Nat.le_of_ble_eq_true rfl⟩ rfl rfl rfl rfl (Nat.le_of_ble_eq_true rfl) dX5_about_106 ?_
              show J p l e rmX5_about s m args below meth c g A 2 (MQ below (QC g A (some (.int r)) S') args s 0 0 A) 0 0 109 [(0, .ref (g.2.1 0)), (1, .int v1)] [] S106
              refine j_aload_n F 0 dX5_about_109 rfl ?_
              refine j_getR F (k0 := 8) (C := RX5) (T := TX5) (N := 11) rfl rfl rfl inF5 (by decide) tw324 dX5_about_110 ?_
              refine j_getI F (k0 := 2) (C := RX2) (T := TX2) (N := 7) rfl rfl rfl inF2 (by decide) tw360 dX5_about_113 ?_
              exact j_iret_e F rfl dX5_about_116 (inl_e hm)
            · refine sw_if hm (fun esw hm => ?_) (fun n6 hm => ?_)
              · refine j_swIn F (tgt := 117) dX5_about_1 esw (by decide +kernel) (by decide +kernel) (off := 116) (by decide +kernel) (by decide) ?_
                refine j_aload_n F 0 dX5_about_117 rfl ?_
                refine j_getR F (k0 := 9) (C := RX5) (T := TX5) (N := 11) rfl rfl rfl inF5 (by decide) tw327 dX5_about_118 ?_
                refine j_aload_n F 0 dX5_about_121 rfl ?_
                refine j_getR F (k0 := 1) (C := RX5) (T := TX5) (N := 11) rfl rfl rfl inF5 (by decide) tw316 dX5_about_122 ?_
                obtain ⟨S125, hc125, hm⟩ := Option.bind_eq_some_iff.mp hm
                refine j_callV F (n := 1) (As := [.ref (g.2.1 29)]) (rest := []) (c_X1_follow l g hg 29 (by decide) S S125 hc125) gw_X5_123 (by decide +kernel) ⟨Nat.le_of_ble_eq_true rfl, Nat.le_of_ble_eq_true rfl⟩ ⟨Nat.le_of_ble_eq_true rfl, Nat.le_of_ble_eq_true rfl⟩ rfl rfl rfl rfl (Nat.le_of_ble_eq_true rfl) dX5_about_125 ?_
                show J p l e rmX5_about s m args below meth c g A 2 (MQ below (QC g A (some (.int r)) S') args s 0 0 A) 0 0 128 [(0, .ref (g.2.1 0)), (1, .int v1)] [] S125
                refine j_aload_n F 0 dX5_about_128 rfl ?_
                refine j_getR F (k0 := 9) (C := RX5) (T := TX5) (N := 11) rfl rfl rfl inF5 (by decide) tw327 dX5_about_129 ?_
                obtain ⟨r132, hc132, hm⟩ := Option.bind_eq_some_iff.mp hm
                refine j_callV F (n := 0) (As := []) (rest := []) (c_X1_countPairs l g hg S125 r132 hc132) gw_X5_124 (by decide +kernel) ⟨Nat.le_of_ble_eq_true rfl, Nat.le_of_ble_eq_true rfl⟩ ⟨Nat.le_of_ble_eq_true rfl, Nat.le_of_ble_eq_true rfl⟩ rfl rfl rfl rfl (Nat.le_of_ble_eq_true rfl) dX5_about_132 ?_
                show J p l e rmX5_about s m args below meth c g A 2 (MQ below (QC g A (some (.int r)) S') args s 0 0 A) 0 0 135 [(0, .ref (g.2.1 0)), (1, .int v1)] [.int r132] S125
                exact j_iret_e F rfl dX5_about_135 (inl_e hm)
              · refine sw_if hm (fun esw hm => ?_) (fun n7 hm => ?_)
                · refine j_swIn F (tgt := 136) dX5_about_1 esw (by decide +kernel) (by decide +kernel) (off := 135) (by decide +kernel) (by decide) ?_
                  refine j_aload_n F 0 dX5_about_136 rfl ?_
                  refine j_getR F (k0 := 9) (C := RX5) (T := TX5) (N := 11) rfl rfl rfl inF5 (by decide) tw327 dX5_about_137 ?_
                  refine j_aload_n F 0 dX5_about_140 rfl ?_
                  refine j_aload_n F 0 dX5_about_141 rfl ?_
                  refine j_getR F (k0 := 1) (C := RX5) (T := TX5) (N := 11) rfl rfl rfl inF5 (by decide) tw316 dX5_about_142 ?_
                  obtain ⟨r145, S145, hc145, hm⟩ := bndE_ok hm
                  refine j_callV F (n := 1) (As := [.ref (g.2.1 29)]) (rest := [.ref (g.2.1 10)]) (c_X5_endOf l g hg 29 (by decide) S r145 S145 hc145) gw_X5_113 (by decide +kernel) ⟨Nat.le_of_ble_eq_true rfl, Nat.le_of_ble_eq_true rfl⟩ ⟨Nat.le_of_ble_eq_true rfl, Nat.le_of_ble_eq_true rfl⟩ rfl rfl rfl rfl (Nat.le_of_ble_eq_true rfl) dX5_about_145 ?_
                  obtain ⟨hs_r145, hm⟩ := gd_ok hm
                  show J p l e rmX5_about s m args below meth c g A 2 (MQ below (QC g A (some (.int r)) S') args s 0 0 A) 0 0 148 [(0, .ref (g.2.1 0)), (1, .int v1)] [.ref (g.2.1 r145), .ref (g.2.1 10)] S145
                  obtain ⟨S148, hc148, hm⟩ := Option.bind_eq_some_iff.mp hm
                  refine j_callV F (n := 1) (As := [.ref (g.2.1 r145)]) (rest := []) (c_X1_follow l g hg r145 hs_r145 S145 S148 hc148) gw_X5_123 (by decide +kernel) ⟨Nat.le_of_ble_eq_true rfl, Nat.le_of_ble_eq_true rfl⟩ ⟨Nat.le_of_ble_eq_true rfl, Nat.le_of_ble_eq_true rfl⟩ rfl rfl rfl rfl (Nat.le_of_ble_eq_true rfl) dX5_about_148 ?_
                  show J p l e rmX5_about s m args below meth c g A 2 (MQ below (QC g A (some (.int r)) S') args s 0 0 A) 0 0 151 [(0, .ref (g.2.1 0)), (1, .int v1)] [] S148
                  refine j_aload_n F 0 dX5_about_151 rfl ?_
                  refine j_getR F (k0 := 9) (C := RX5) (T := TX5) (N := 11) rfl rfl rfl inF5 (by decide) tw327 dX5_about_152 ?_
                  obtain ⟨r155, hc155, hm⟩ := Option.bind_eq_some_iff.mp hm
                  refine j_callV F (n := 0) (As := []) (rest := []) (c_X1_countPairs l g hg S148 r155 hc155) gw_X5_124 (by decide +kernel) ⟨Nat.le_of_ble_eq_true rfl, Nat.le_of_ble_eq_true rfl⟩ ⟨Nat.le_of_ble_eq_true rfl, Nat.le_of_ble_eq_true rfl⟩ rfl rfl rfl rfl (Nat.le_of_ble_eq_true rfl) dX5_about_155 ?_
                  show J p l e rmX5_about s m args below meth c g A 2 (MQ below (QC g A (some (.int r)) S') args s 0 0 A) 0 0 158 [(0, .ref (g.2.1 0)), (1, .int v1)] [.int r155] S148
                  exact j_iret_e F rfl dX5_about_158 (inl_e hm)
                · refine j_swOut F (tgt := 159) dX5_about_1 (by have a0 := ne_z (z := 0) n0 (by decide +kernel); have a1 := ne_z (z := 1) n1 (by decide +kernel); have a2 := ne_z (z := 2) n2 (by decide +kernel); have a3 := ne_z (z := 3) n3 (by decide +kernel); have a4 := ne_z (z := 4) n4 (by decide +kernel); have a5 := ne_z (z := 5) n5 (by decide +kernel); have a6 := ne_z (z := 6) n6 (by decide +kernel); have a7 := ne_z (z := 7) n7 (by decide +kernel); omega) (by decide) ?_
                  cases hm
set_option maxRecDepth 100000 in
set_option maxHeartbeats 4000000 in
theorem x_X5_about (l : Launch) (hst : l.stackTraces = false) (g : GG) (hg : Inj g) (v1 : Int32)  (S : Hs) (n : Nat) (S' : Hs) (hm : m_X5_about v1 S = some ((.inr n, S'))) : CX l yX5_about [.code yX5_about cX5_about 2 (some .int)] rxX5_about [.ref (g.2.1 0), .int v1] g S n S' := by
  unfold m_X5_about at hm
  refine CX.of (cc := cX5_about) (nL := 2) (ret := (some .int)) (lv := [(0, .ref (g.2.1 0)), (1, .int v1)]) (by decide +kernel) hg (Nat.le_of_ble_eq_true rfl) rfl rfl rfl hst (fun p e s m args below meth c A F FS => ?_)
  replace F : Fx p s m meth c cX5_about RX5 2 (some .int) g A := F
  replace FS : FX9 l s c A := FS
  show J p l e rxX5_about s m args below meth c g A 2 (vx_MQ below QF (XQ g A n S') args s 1 6 A) 0 0 0 [(0, .ref (g.2.1 0)), (1, .int v1)] [] S
  refine j_iload_n F 1 dX5_about_0 rfl ?_
  refine sw_if hm (fun esw hm => ?_) (fun n0 hm => ?_)
  · refine j_swIn F (tgt := 48) dX5_about_1 esw (by decide +kernel) (by decide +kernel) (off := 47) (by decide +kernel) (by decide) ?_
    refine j_aload_n F 0 dX5_about_48 rfl ?_
    refine j_getR F (k0 := 1) (C := RX5) (T := TX5) (N := 11) rfl rfl rfl inF5 (by decide) tw316 dX5_about_49 ?_
    refine j_getI F (k0 := 0) (C := RX3) (T := TX3) (N := 4) (isSt_lay (i := 29) (by decide)).1 rfl rfl inF3 (by decide) tw351 dX5_about_52 ?_
    cases hm
  · refine sw_if hm (fun esw hm => ?_) (fun n1 hm => ?_)
    · refine j_swIn F (tgt := 56) dX5_about_1 esw (by decide +kernel) (by decide +kernel) (off := 55) (by decide +kernel) (by decide) ?_
      refine j_aload_n F 0 dX5_about_56 rfl ?_
      refine j_getR F (k0 := 1) (C := RX5) (T := TX5) (N := 11) rfl rfl rfl inF5 (by decide) tw316 dX5_about_57 ?_
      refine j_getI F (k0 := 1) (C := RX3) (T := TX3) (N := 4) (isSt_lay (i := 29) (by decide)).1 rfl rfl inF3 (by decide) tw358 dX5_about_60 ?_
      obtain ⟨r63, hc63, hm⟩ := Option.bind_eq_some_iff.mp hm
      refine j_callS F (n := 1) (As := [.int (gI S 29 1)]) (rest := []) (c_J6_bitCount_0f7a4 l g hg (gI S 29 1) S r63 hc63) gw_X5_100 (by decide +kernel) ⟨Nat.le_of_ble_eq_true rfl, Nat.le_of_ble_eq_true rfl⟩ ⟨Nat.le_of_ble_eq_true rfl, Nat.le_of_ble_eq_true rfl⟩ rfl rfl (Nat.le_of_ble_eq_true rfl) dX5_about_63 ?_
      show J p l e rxX5_about s m args below meth c g A 2 (vx_MQ below QF (XQ g A n S') args s 1 6 A) 0 0 66 [(0, .ref (g.2.1 0)), (1, .int v1)] [.int r63] S
      cases hm
    · refine sw_if hm (fun esw hm => ?_) (fun n2 hm => ?_)
      · refine j_swIn F (tgt := 67) dX5_about_1 esw (by decide +kernel) (by decide +kernel) (off := 66) (by decide +kernel) (by decide) ?_
        refine j_aload_n F 0 dX5_about_67 rfl ?_
        refine j_getR F (k0 := 1) (C := RX5) (T := TX5) (N := 11) rfl rfl rfl inF5 (by decide) tw316 dX5_about_68 ?_
        refine j_getI F (k0 := 2) (C := RX3) (T := TX3) (N := 4) (isSt_lay (i := 29) (by decide)).1 rfl rfl inF3 (by decide) tw359 dX5_about_71 ?_
        obtain ⟨r74, hc74, hm⟩ := Option.bind_eq_some_iff.mp hm
        refine j_callS F (n := 1) (As := [.int (gI S 29 2)]) (rest := []) (c_J6_bitCount_0f7a4 l g hg (gI S 29 2) S r74 hc74) gw_X5_100 (by decide +kernel) ⟨Nat.le_of_ble_eq_true rfl, Nat.le_of_ble_eq_true rfl⟩ ⟨Nat.le_of_ble_eq_true rfl, Nat.le_of_ble_eq_true rfl⟩ rfl rfl (Nat.le_of_ble_eq_true rfl) dX5_about_74 ?_
        show J p l e rxX5_about s m args below meth c g A 2 (vx_MQ below QF (XQ g A n S') args s 1 6 A) 0 0 77 [(0, .ref (g.2.1 0)), (1, .int v1)] [.int r74] S
        cases hm
      · refine sw_if hm (fun esw hm => ?_) (fun n3 hm => ?_)
        · refine j_swIn F (tgt := 78) dX5_about_1 esw (by decide +kernel) (by decide +kernel) (off := 77) (by decide +kernel) (by decide) ?_
          refine j_aload_n F 0 dX5_about_78 rfl ?_
          refine j_getR F (k0 := 1) (C := RX5) (T := TX5) (N := 11) rfl rfl rfl inF5 (by decide) tw316 dX5_about_79 ?_
          obtain ⟨r82, hc82, hm⟩ := Option.bind_eq_some_iff.mp hm
          refine j_callV F (n := 0) (As := []) (rest := []) (c_X3_countRights l g hg 29 (by decide) S r82 hc82) gw_X5_109 (by decide +kernel) ⟨Nat.le_of_ble_eq_true rfl, Nat.le_of_ble_eq_true rfl⟩ ⟨Nat.le_of_ble_eq_true rfl, Nat.le_of_ble_eq_true rfl⟩ (isSt_lay (i := 29) (by decide)).1 rfl rfl rfl (Nat.le_of_ble_eq_true rfl) dX5_about_82 ?_
          show J p l e rxX5_about s m args below meth c g A 2 (vx_MQ below QF (XQ g A n S') args s 1 6 A) 0 0 85 [(0, .ref (g.2.1 0)), (1, .int v1)] [.int r82] S
          cases hm
        · refine sw_if hm (fun esw hm => ?_) (fun n4 hm => ?_)
          · refine j_swIn F (tgt := 86) dX5_about_1 esw (by decide +kernel) (by decide +kernel) (off := 85) (by decide +kernel) (by decide) ?_
            refine j_aload_n F 0 dX5_about_86 rfl ?_
            refine j_aload_n F 0 dX5_about_87 rfl ?_
            refine j_getR F (k0 := 1) (C := RX5) (T := TX5) (N := 11) rfl rfl rfl inF5 (by decide) tw316 dX5_about_88 ?_
            obtain ⟨r91, S91, hc91, hm⟩ := bndE_ok hm
            refine j_callV F (n := 1) (As := [.ref (g.2.1 29)]) (rest := []) (c_X5_endOf l g hg 29 (by decide) S r91 S91 hc91) gw_X5_113 (by decide +kernel) ⟨Nat.le_of_ble_eq_true rfl, Nat.le_of_ble_eq_true rfl⟩ ⟨Nat.le_of_ble_eq_true rfl, Nat.le_of_ble_eq_true rfl⟩ rfl rfl rfl rfl (Nat.le_of_ble_eq_true rfl) dX5_about_91 ?_
            obtain ⟨hs_r91, hm⟩ := gd_ok hm
            show J p l e rxX5_about s m args below meth c g A 2 (vx_MQ below QF (XQ g A n S') args s 1 6 A) 0 0 94 [(0, .ref (g.2.1 0)), (1, .int v1)] [.ref (g.2.1 r91)] S91
            obtain ⟨r94, hc94, hm⟩ := Option.bind_eq_some_iff.mp hm
            refine j_callV F (n := 0) (As := []) (rest := []) (c_X3_countRights l g hg r91 hs_r91 S91 r94 hc94) gw_X5_109 (by decide +kernel) ⟨Nat.le_of_ble_eq_true rfl, Nat.le_of_ble_eq_true rfl⟩ ⟨Nat.le_of_ble_eq_true rfl, Nat.le_of_ble_eq_true rfl⟩ (isSt_lay hs_r91).1 rfl rfl rfl (Nat.le_of_ble_eq_true rfl) dX5_about_94 ?_
            show J p l e rxX5_about s m args below meth c g A 2 (vx_MQ below QF (XQ g A n S') args s 1 6 A) 0 0 97 [(0, .ref (g.2.1 0)), (1, .int v1)] [.int r94] S91
            cases hm
          · refine sw_if hm (fun esw hm => ?_) (fun n5 hm => ?_)
            · refine j_swIn F (tgt := 98) dX5_about_1 esw (by decide +kernel) (by decide +kernel) (off := 97) (by decide +kernel) (by decide) ?_
              refine j_aload_n F 0 dX5_about_98 rfl ?_
              refine j_getR F (k0 := 8) (C := RX5) (T := TX5) (N := 11) rfl rfl rfl inF5 (by decide) tw324 dX5_about_99 ?_
              refine j_aload_n F 0 dX5_about_102 rfl ?_
              refine j_getR F (k0 := 1) (C := RX5) (T := TX5) (N := 11) rfl rfl rfl inF5 (by decide) tw316 dX5_about_103 ?_
              obtain ⟨S106, hc106, hm⟩ := Option.bind_eq_some_iff.mp hm
              refine j_callV F (n := 1) (As := [.ref (g.2.1 29)]) (rest := []) (c_X2_follow l g hg 29 (by decide) S S106 hc106) gw_X5_117 (by decide +kernel) ⟨Nat.le_of_ble_eq_true rfl, Nat.le_of_ble_eq_true rfl⟩ ⟨Nat.le_of_ble_eq_true rfl, Nat.le_of_ble_eq_true rfl⟩ rfl rfl rfl rfl (Nat.le_of_ble_eq_true rfl) dX5_about_106 ?_
              show J p l e rxX5_about s m args below meth c g A 2 (vx_MQ below QF (XQ g A n S') args s 1 6 A) 0 0 109 [(0, .ref (g.2.1 0)), (1, .int v1)] [] S106
              refine j_aload_n F 0 dX5_about_109 rfl ?_
              refine j_getR F (k0 := 8) (C := RX5) (T := TX5) (N := 11) rfl rfl rfl inF5 (by decide) tw324 dX5_about_110 ?_
              refine j_getI F (k0 := 2) (C := RX2) (T := TX2) (N := 7) rfl rfl rfl inF2 (by decide) tw360 dX5_about_113 ?_
              cases hm
            · refine sw_if hm (fun esw hm => ?_) (fun n6 hm => ?_)
              · refine j_swIn F (tgt := 117) dX5_about_1 esw (by decide +kernel) (by decide +kernel) (off := 116) (by decide +kernel) (by decide) ?_
                refine j_aload_n F 0 dX5_about_117 rfl ?_
                refine j_getR F (k0 := 9) (C := RX5) (T := TX5) (N := 11) rfl rfl rfl inF5 (by decide) tw327 dX5_about_118 ?_
                refine j_aload_n F 0 dX5_about_121 rfl ?_
                refine j_getR F (k0 := 1) (C := RX5) (T := TX5) (N := 11) rfl rfl rfl inF5 (by decide) tw316 dX5_about_122 ?_
                obtain ⟨S125, hc125, hm⟩ := Option.bind_eq_some_iff.mp hm
                refine j_callV F (n := 1) (As := [.ref (g.2.1 29)]) (rest := []) (c_X1_follow l g hg 29 (by decide) S S125 hc125) gw_X5_123 (by decide +kernel) ⟨Nat.le_of_ble_eq_true rfl, Nat.le_of_ble_eq_true rfl⟩ ⟨Nat.le_of_ble_eq_true rfl, Nat.le_of_ble_eq_true rfl⟩ rfl rfl rfl rfl (Nat.le_of_ble_eq_true rfl) dX5_about_125 ?_
                show J p l e rxX5_about s m args below meth c g A 2 (vx_MQ below QF (XQ g A n S') args s 1 6 A) 0 0 128 [(0, .ref (g.2.1 0)), (1, .int v1)] [] S125
                refine j_aload_n F 0 dX5_about_128 rfl ?_
                refine j_getR F (k0 := 9) (C := RX5) (T := TX5) (N := 11) rfl rfl rfl inF5 (by decide) tw327 dX5_about_129 ?_
                obtain ⟨r132, hc132, hm⟩ := Option.bind_eq_some_iff.mp hm
                refine j_callV F (n := 0) (As := []) (rest := []) (c_X1_countPairs l g hg S125 r132 hc132) gw_X5_124 (by decide +kernel) ⟨Nat.le_of_ble_eq_true rfl, Nat.le_of_ble_eq_true rfl⟩ ⟨Nat.le_of_ble_eq_true rfl, Nat.le_of_ble_eq_true rfl⟩ rfl rfl rfl rfl (Nat.le_of_ble_eq_true rfl) dX5_about_132 ?_
                show J p l e rxX5_about s m args below meth c g A 2 (vx_MQ below QF (XQ g A n S') args s 1 6 A) 0 0 135 [(0, .ref (g.2.1 0)), (1, .int v1)] [.int r132] S125
                cases hm
              · refine sw_if hm (fun esw hm => ?_) (fun n7 hm => ?_)
                · refine j_swIn F (tgt := 136) dX5_about_1 esw (by decide +kernel) (by decide +kernel) (off := 135) (by decide +kernel) (by decide) ?_
                  refine j_aload_n F 0 dX5_about_136 rfl ?_
                  refine j_getR F (k0 := 9) (C := RX5) (T := TX5) (N := 11) rfl rfl rfl inF5 (by decide) tw327 dX5_about_137 ?_
                  refine j_aload_n F 0 dX5_about_140 rfl ?_
                  refine j_aload_n F 0 dX5_about_141 rfl ?_
                  refine j_getR F (k0 := 1) (C := RX5) (T := TX5) (N := 11) rfl rfl rfl inF5 (by decide) tw316 dX5_about_142 ?_
                  obtain ⟨r145, S145, hc145, hm⟩ := bndE_ok hm
                  refine j_callV F (n := 1) (As := [.ref (g.2.1 29)]) (rest := [.ref (g.2.1 10)]) (c_X5_endOf l g hg 29 (by decide) S r145 S145 hc145) gw_X5_113 (by decide +kernel) ⟨Nat.le_of_ble_eq_true rfl, Nat.le_of_ble_eq_true rfl⟩ ⟨Nat.le_of_ble_eq_true rfl, Nat.le_of_ble_eq_true rfl⟩ rfl rfl rfl rfl (Nat.le_of_ble_eq_true rfl) dX5_about_145 ?_
                  obtain ⟨hs_r145, hm⟩ := gd_ok hm
                  show J p l e rxX5_about s m args below meth c g A 2 (vx_MQ below QF (XQ g A n S') args s 1 6 A) 0 0 148 [(0, .ref (g.2.1 0)), (1, .int v1)] [.ref (g.2.1 r145), .ref (g.2.1 10)] S145
                  obtain ⟨S148, hc148, hm⟩ := Option.bind_eq_some_iff.mp hm
                  refine j_callV F (n := 1) (As := [.ref (g.2.1 r145)]) (rest := []) (c_X1_follow l g hg r145 hs_r145 S145 S148 hc148) gw_X5_123 (by decide +kernel) ⟨Nat.le_of_ble_eq_true rfl, Nat.le_of_ble_eq_true rfl⟩ ⟨Nat.le_of_ble_eq_true rfl, Nat.le_of_ble_eq_true rfl⟩ rfl rfl rfl rfl (Nat.le_of_ble_eq_true rfl) dX5_about_148 ?_
                  show J p l e rxX5_about s m args below meth c g A 2 (vx_MQ below QF (XQ g A n S') args s 1 6 A) 0 0 151 [(0, .ref (g.2.1 0)), (1, .int v1)] [] S148
                  refine j_aload_n F 0 dX5_about_151 rfl ?_
                  refine j_getR F (k0 := 9) (C := RX5) (T := TX5) (N := 11) rfl rfl rfl inF5 (by decide) tw327 dX5_about_152 ?_
                  obtain ⟨r155, hc155, hm⟩ := Option.bind_eq_some_iff.mp hm
                  refine j_callV F (n := 0) (As := []) (rest := []) (c_X1_countPairs l g hg S148 r155 hc155) gw_X5_124 (by decide +kernel) ⟨Nat.le_of_ble_eq_true rfl, Nat.le_of_ble_eq_true rfl⟩ ⟨Nat.le_of_ble_eq_true rfl, Nat.le_of_ble_eq_true rfl⟩ rfl rfl rfl rfl (Nat.le_of_ble_eq_true rfl) dX5_about_155 ?_
                  show J p l e rxX5_about s m args below meth c g A 2 (vx_MQ below QF (XQ g A n S') args s 1 6 A) 0 0 158 [(0, .ref (g.2.1 0)), (1, .int v1)] [.int r155] S148
                  cases hm
                · refine j_swOut F (tgt := 159) dX5_about_1 (by have a0 := ne_z (z := 0) n0 (by decide +kernel); have a1 := ne_z (z := 1) n1 (by decide +kernel); have a2 := ne_z (z := 2) n2 (by decide +kernel); have a3 := ne_z (z := 3) n3 (by decide +kernel); have a4 := ne_z (z := 4) n4 (by decide +kernel); have a5 := ne_z (z := 5) n5 (by decide +kernel); have a6 := ne_z (z := 6) n6 (by decide +kernel); have a7 := ne_z (z := 7) n7 (by decide +kernel); omega) (by decide) ?_
                  cases hm
                  exact j_throw F FS 3 ex1 rfl rfl dX5_about_159 dX5_about_162 dX5_about_163 dX5_about_165 dX5_about_168 ⟨Nat.le_of_ble_eq_true rfl, Nat.le_of_ble_eq_true rfl⟩ ⟨Nat.le_of_ble_eq_true rfl, Nat.le_of_ble_eq_true rfl⟩
def m_X5_checkThing (v1 : Int32) (S : Hs) : Option (Unit ⊕ Nat) := (m_X3_exists 29 v1 S).bind fun r5 => (if r5 = 0 then (some (.inr 3)) else (some (.inl ())))
set_option maxRecDepth 100000 in
set_option maxHeartbeats 4000000 in
theorem c_X5_checkThing (l : Launch) (g : GG) (hg : Inj g) (v1 : Int32)  (S : Hs)  (hm : m_X5_checkThing v1 S = some (.inl ())) : CM l yX5_checkThing [.code yX5_checkThing cX5_checkThing 2 none] rmX5_checkThing [.ref (g.2.1 0), .int v1] g S none S := by
  unfold m_X5_checkThing at hm
  refine CM.of (cc := cX5_checkThing) (nL := 2) (ret := none) (lv := [(0, .ref (g.2.1 0)), (1, .int v1)]) (by decide +kernel) hg (Nat.le_of_ble_eq_true rfl) rfl (fun p e s m args below meth c A F => ?_)
  replace F : Fx p s m meth c cX5_checkThing RX5 2 none g A := F
  show J p l e rmX5_checkThing s m args below meth c g A 2 (MQ below (QC g A none S) args s 0 0 A) 0 0 0 [(0, .ref (g.2.1 0)), (1, .int v1)] [] S
  refine j_aload_n F 0 dX5_checkThing_0 rfl ?_
  refine j_getR F (k0 := 1) (C := RX5) (T := TX5) (N := 11) rfl rfl rfl inF5 (by decide) tw316 dX5_checkThing_1 ?_
  refine j_iload_n F 1 dX5_checkThing_4 rfl ?_
  obtain ⟨r5, hc5, hm⟩ := Option.bind_eq_some_iff.mp hm
  refine j_callV F (n := 1) (As := [.int v1]) (rest := []) (c_X3_exists l g hg 29 v1 (by decide) S r5 hc5) gw_X5_274 (by decide +kernel) ⟨Nat.le_of_ble_eq_true rfl, Nat.le_of_ble_eq_true rfl⟩ ⟨Nat.le_of_ble_eq_true rfl, Nat.le_of_ble_eq_true rfl⟩ (isSt_lay (i := 29) (by decide)).1 rfl rfl rfl (Nat.le_of_ble_eq_true rfl) dX5_checkThing_5 ?_
  show J p l e rmX5_checkThing s m args below meth c g A 2 (MQ below (QC g A none S) args s 0 0 A) 0 0 8 [(0, .ref (g.2.1 0)), (1, .int v1)] [.int r5] S
  refine j_if_ne F (tgt := 22) dX5_checkThing_8 (by decide) hm (fun _ hm => ?_) (fun _ hm => ?_)
  · exact j_vret_e F rfl dX5_checkThing_22 rfl
  · cases hm
set_option maxRecDepth 100000 in
set_option maxHeartbeats 4000000 in
theorem x_X5_checkThing (l : Launch) (hst : l.stackTraces = false) (g : GG) (hg : Inj g) (v1 : Int32)  (S : Hs) (n : Nat) (hm : m_X5_checkThing v1 S = some (.inr n)) : CX l yX5_checkThing [.code yX5_checkThing cX5_checkThing 2 none] rxX5_checkThing [.ref (g.2.1 0), .int v1] g S n S := by
  unfold m_X5_checkThing at hm
  refine CX.of (cc := cX5_checkThing) (nL := 2) (ret := none) (lv := [(0, .ref (g.2.1 0)), (1, .int v1)]) (by decide +kernel) hg (Nat.le_of_ble_eq_true rfl) rfl rfl rfl hst (fun p e s m args below meth c A F FS => ?_)
  replace F : Fx p s m meth c cX5_checkThing RX5 2 none g A := F
  replace FS : FX9 l s c A := FS
  show J p l e rxX5_checkThing s m args below meth c g A 2 (vx_MQ below QF (XQ g A n S) args s 1 6 A) 0 0 0 [(0, .ref (g.2.1 0)), (1, .int v1)] [] S
  refine j_aload_n F 0 dX5_checkThing_0 rfl ?_
  refine j_getR F (k0 := 1) (C := RX5) (T := TX5) (N := 11) rfl rfl rfl inF5 (by decide) tw316 dX5_checkThing_1 ?_
  refine j_iload_n F 1 dX5_checkThing_4 rfl ?_
  obtain ⟨r5, hc5, hm⟩ := Option.bind_eq_some_iff.mp hm
  refine j_callV F (n := 1) (As := [.int v1]) (rest := []) (c_X3_exists l g hg 29 v1 (by decide) S r5 hc5) gw_X5_274 (by decide +kernel) ⟨Nat.le_of_ble_eq_true rfl, Nat.le_of_ble_eq_true rfl⟩ ⟨Nat.le_of_ble_eq_true rfl, Nat.le_of_ble_eq_true rfl⟩ (isSt_lay (i := 29) (by decide)).1 rfl rfl rfl (Nat.le_of_ble_eq_true rfl) dX5_checkThing_5 ?_
  show J p l e rxX5_checkThing s m args below meth c g A 2 (vx_MQ below QF (XQ g A n S) args s 1 6 A) 0 0 8 [(0, .ref (g.2.1 0)), (1, .int v1)] [.int r5] S
  refine j_if_ne F (tgt := 22) dX5_checkThing_8 (by decide) hm (fun _ hm => ?_) (fun _ hm => ?_)
  · cases hm
  · cases hm
    exact j_throwW F FS 12 ex3 rfl rfl dX5_checkThing_11 dX5_checkThing_14 dX5_checkThing_15 dX5_checkThing_18 dX5_checkThing_21 ⟨Nat.le_of_ble_eq_true rfl, Nat.le_of_ble_eq_true rfl⟩ ⟨Nat.le_of_ble_eq_true rfl, Nat.le_of_ble_eq_true rfl⟩
def m_X5_thing_J64 (w0 : Int32) (S : Hs) : Option ((Int32 ⊕ Nat) × Hs) := some ((.inl w0, S))
def m_X5_thing_J81 (w0 : Int32) (S : Hs) : Option ((Int32 ⊕ Nat) × Hs) := some ((.inl w0, S))
noncomputable def m_X5_thing (v1 : Int32) (v2 : Int32) (S : Hs) : Option ((Int32 ⊕ Nat) × Hs) := bndP (m_X5_checkThing v1 S) (fun r2 => (if v2 = 0 then ((m_X3_isPerson 29 v1 S).bind fun r53 => (if r53 = 0 then (m_X5_thing_J64 0 S) else (m_X5_thing_J64 1 S))) else (if v2 = 1 then ((m_X3_isAwake 29 v1 S).bind fun r70 => (if r70 = 0 then (m_X5_thing_J81 0 S) else (m_X5_thing_J81 1 S))) else (if v2 = 2 then (gd (inb v1 7) ((m_J6_bitCount_0f7a4 (gA S 30 v1.toNatClampNeg)).bind fun r91 => (some ((.inl r91, S))))) else (if v2 = 3 then ((m_X3_countRightsOver 29 v1 S).bind fun r100 => (some ((.inl r100, S)))) else (if v2 = 4 then ((m_X1_follow 29 S).bind fun S112 => (gd (inb v1 7) (some ((.inl (gA S112 11 v1.toNatClampNeg), S112))))) else (if v2 = 5 then (bndE (m_X5_endOf 29 S) fun r134 S134 => (gd (isSt r134) ((m_X1_follow r134 S134).bind fun S137 => (gd (inb v1 7) (some ((.inl (gA S137 11 v1.toNatClampNeg), S137))))))) else (if v2 = 6 then (bndE (m_X5_endOf 29 S) fun r155 S155 => (gd (isSt r155) (gd (inb v1 7) ((m_J6_bitCount_0f7a4 (gA S155 (r155 + 1) v1.toNatClampNeg)).bind fun r163 => (some ((.inl r163, S155))))))) else (some ((.inr 1, S))))))))))) (fun q => some ((.inr q, S)))
set_option maxRecDepth 100000 in
set_option maxHeartbeats 4000000 in
theorem c_X5_thing (l : Launch) (g : GG) (hg : Inj g) (v1 : Int32) (v2 : Int32)  (S : Hs) (r : Int32) (S' : Hs) (hm : m_X5_thing v1 v2 S = some ((.inl r, S'))) : CM l yX5_thing [.code yX5_thing cX5_thing 3 (some .int)] rmX5_thing [.ref (g.2.1 0), .int v1, .int v2] g S (some (.int r)) S' := by
  unfold m_X5_thing at hm
  refine CM.of (cc := cX5_thing) (nL := 3) (ret := (some .int)) (lv := [(0, .ref (g.2.1 0)), (1, .int v1), (2, .int v2)]) (by decide +kernel) hg (Nat.le_of_ble_eq_true rfl) rfl (fun p e s m args below meth c A F => ?_)
  replace F : Fx p s m meth c cX5_thing RX5 3 (some .int) g A := F
  show J p l e rmX5_thing s m args below meth c g A 3 (MQ below (QC g A (some (.int r)) S') args s 0 0 A) 0 0 0 [(0, .ref (g.2.1 0)), (1, .int v1), (2, .int v2)] [] S
  have hj64 : ∀ (w0 : Int32) (S : Hs), m_X5_thing_J64 w0 S = some ((.inl r, S')) → J p l e rmX5_thing s m args below meth c g A 3 (MQ below (QC g A (some (.int r)) S') args s 0 0 A) 0 0 64 [] [.int w0] S := by
    intro w0 S hm
    unfold m_X5_thing_J64 at hm
    exact j_iret_e F rfl dX5_thing_64 (inl_e hm)
  have hj81 : ∀ (w0 : Int32) (S : Hs), m_X5_thing_J81 w0 S = some ((.inl r, S')) → J p l e rmX5_thing s m args below meth c g A 3 (MQ below (QC g A (some (.int r)) S') args s 0 0 A) 0 0 81 [] [.int w0] S := by
    intro w0 S hm
    unfold m_X5_thing_J81 at hm
    exact j_iret_e F rfl dX5_thing_81 (inl_e hm)
  refine j_aload_n F 0 dX5_thing_0 rfl ?_
  refine j_iload_n F 1 dX5_thing_1 rfl ?_
  refine bndP_ok hm (fun r2 hc2 hm => ?_) (fun q hc2 hm => ?_)
  · refine j_callV F (n := 1) (As := [.int v1]) (rest := []) (c_X5_checkThing l g hg v1 S hc2) gw_X5_129 (by decide +kernel) ⟨Nat.le_of_ble_eq_true rfl, Nat.le_of_ble_eq_true rfl⟩ ⟨Nat.le_of_ble_eq_true rfl, Nat.le_of_ble_eq_true rfl⟩ rfl rfl rfl rfl (Nat.le_of_ble_eq_true rfl) dX5_thing_2 ?_
    show J p l e rmX5_thing s m args below meth c g A 3 (MQ below (QC g A (some (.int r)) S') args s 0 0 A) 0 0 5 [(0, .ref (g.2.1 0)), (1, .int v1), (2, .int v2)] [] S
    refine j_iload_n F 2 dX5_thing_5 rfl ?_
    refine sw_if hm (fun esw hm => ?_) (fun n0 hm => ?_)
    · refine j_swIn F (tgt := 48) dX5_thing_6 esw (by decide +kernel) (by decide +kernel) (off := 42) (by decide +kernel) (by decide) ?_
      refine j_aload_n F 0 dX5_thing_48 rfl ?_
      refine j_getR F (k0 := 1) (C := RX5) (T := TX5) (N := 11) rfl rfl rfl inF5 (by decide) tw316 dX5_thing_49 ?_
      refine j_iload_n F 1 dX5_thing_52 rfl ?_
      obtain ⟨r53, hc53, hm⟩ := Option.bind_eq_some_iff.mp hm
      refine j_callV F (n := 1) (As := [.int v1]) (rest := []) (c_X3_isPerson l g hg 29 v1 (by decide) S r53 hc53) gw_X5_133 (by decide +kernel) ⟨Nat.le_of_ble_eq_true rfl, Nat.le_of_ble_eq_true rfl⟩ ⟨Nat.le_of_ble_eq_true rfl, Nat.le_of_ble_eq_true rfl⟩ (isSt_lay (i := 29) (by decide)).1 rfl rfl rfl (Nat.le_of_ble_eq_true rfl) dX5_thing_53 ?_
      show J p l e rmX5_thing s m args below meth c g A 3 (MQ below (QC g A (some (.int r)) S') args s 0 0 A) 0 0 56 [(0, .ref (g.2.1 0)), (1, .int v1), (2, .int v2)] [.int r53] S
      refine j_if_eq F (tgt := 63) dX5_thing_56 (by decide) hm (fun _ hm => ?_) (fun _ hm => ?_)
      · refine j_iconst F (v := 0) dX5_thing_63 (by decide) ?_
        refine j_sub [] rfl ?_
        exact hj64 0 S  hm
      · refine j_iconst F (v := 1) dX5_thing_59 (by decide) ?_
        refine j_goto F (tgt := 64) dX5_thing_60 (by decide) ?_
        refine j_sub [] rfl ?_
        exact hj64 1 S  hm
    · refine sw_if hm (fun esw hm => ?_) (fun n1 hm => ?_)
      · refine j_swIn F (tgt := 65) dX5_thing_6 esw (by decide +kernel) (by decide +kernel) (off := 59) (by decide +kernel) (by decide) ?_
        refine j_aload_n F 0 dX5_thing_65 rfl ?_
        refine j_getR F (k0 := 1) (C := RX5) (T := TX5) (N := 11) rfl rfl rfl inF5 (by decide) tw316 dX5_thing_66 ?_
        refine j_iload_n F 1 dX5_thing_69 rfl ?_
        obtain ⟨r70, hc70, hm⟩ := Option.bind_eq_some_iff.mp hm
        refine j_callV F (n := 1) (As := [.int v1]) (rest := []) (c_X3_isAwake l g hg 29 v1 (by decide) S r70 hc70) gw_X5_137 (by decide +kernel) ⟨Nat.le_of_ble_eq_true rfl, Nat.le_of_ble_eq_true rfl⟩ ⟨Nat.le_of_ble_eq_true rfl, Nat.le_of_ble_eq_true rfl⟩ (isSt_lay (i := 29) (by decide)).1 rfl rfl rfl (Nat.le_of_ble_eq_true rfl) dX5_thing_70 ?_
        show J p l e rmX5_thing s m args below meth c g A 3 (MQ below (QC g A (some (.int r)) S') args s 0 0 A) 0 0 73 [(0, .ref (g.2.1 0)), (1, .int v1), (2, .int v2)] [.int r70] S
        refine j_if_eq F (tgt := 80) dX5_thing_73 (by decide) hm (fun _ hm => ?_) (fun _ hm => ?_)
        · refine j_iconst F (v := 0) dX5_thing_80 (by decide) ?_
          refine j_sub [] rfl ?_
          exact hj81 0 S  hm
        · refine j_iconst F (v := 1) dX5_thing_76 (by decide) ?_
          refine j_goto F (tgt := 81) dX5_thing_77 (by decide) ?_
          refine j_sub [] rfl ?_
          exact hj81 1 S  hm
      · refine sw_if hm (fun esw hm => ?_) (fun n2 hm => ?_)
        · refine j_swIn F (tgt := 82) dX5_thing_6 esw (by decide +kernel) (by decide +kernel) (off := 76) (by decide +kernel) (by decide) ?_
          refine j_aload_n F 0 dX5_thing_82 rfl ?_
          refine j_getR F (k0 := 1) (C := RX5) (T := TX5) (N := 11) rfl rfl rfl inF5 (by decide) tw316 dX5_thing_83 ?_
          refine j_getR F (k0 := 3) (C := RX3) (T := TX3) (N := 4) (isSt_lay (i := 29) (by decide)).1 rfl rfl inF3 (by decide) tw378 dX5_thing_86 ?_
          refine j_iload_n F 1 dX5_thing_89 rfl ?_
          refine j_iald F rfl dX5_thing_90 hm (fun hm => ?_)
          obtain ⟨r91, hc91, hm⟩ := Option.bind_eq_some_iff.mp hm
          refine j_callS F (n := 1) (As := [.int (gA S 30 v1.toNatClampNeg)]) (rest := []) (c_J6_bitCount_0f7a4 l g hg (gA S 30 v1.toNatClampNeg) S r91 hc91) gw_X5_100 (by decide +kernel) ⟨Nat.le_of_ble_eq_true rfl, Nat.le_of_ble_eq_true rfl⟩ ⟨Nat.le_of_ble_eq_true rfl, Nat.le_of_ble_eq_true rfl⟩ rfl rfl (Nat.le_of_ble_eq_true rfl) dX5_thing_91 ?_
          show J p l e rmX5_thing s m args below meth c g A 3 (MQ below (QC g A (some (.int r)) S') args s 0 0 A) 0 0 94 [(0, .ref (g.2.1 0)), (1, .int v1), (2, .int v2)] [.int r91] S
          exact j_iret_e F rfl dX5_thing_94 (inl_e hm)
        · refine sw_if hm (fun esw hm => ?_) (fun n3 hm => ?_)
          · refine j_swIn F (tgt := 95) dX5_thing_6 esw (by decide +kernel) (by decide +kernel) (off := 89) (by decide +kernel) (by decide) ?_
            refine j_aload_n F 0 dX5_thing_95 rfl ?_
            refine j_getR F (k0 := 1) (C := RX5) (T := TX5) (N := 11) rfl rfl rfl inF5 (by decide) tw316 dX5_thing_96 ?_
            refine j_iload_n F 1 dX5_thing_99 rfl ?_
            obtain ⟨r100, hc100, hm⟩ := Option.bind_eq_some_iff.mp hm
            refine j_callV F (n := 1) (As := [.int v1]) (rest := []) (c_X3_countRightsOver l g hg 29 v1 (by decide) S r100 hc100) gw_X5_144 (by decide +kernel) ⟨Nat.le_of_ble_eq_true rfl, Nat.le_of_ble_eq_true rfl⟩ ⟨Nat.le_of_ble_eq_true rfl, Nat.le_of_ble_eq_true rfl⟩ (isSt_lay (i := 29) (by decide)).1 rfl rfl rfl (Nat.le_of_ble_eq_true rfl) dX5_thing_100 ?_
            show J p l e rmX5_thing s m args below meth c g A 3 (MQ below (QC g A (some (.int r)) S') args s 0 0 A) 0 0 103 [(0, .ref (g.2.1 0)), (1, .int v1), (2, .int v2)] [.int r100] S
            exact j_iret_e F rfl dX5_thing_103 (inl_e hm)
          · refine sw_if hm (fun esw hm => ?_) (fun n4 hm => ?_)
            · refine j_swIn F (tgt := 104) dX5_thing_6 esw (by decide +kernel) (by decide +kernel) (off := 98) (by decide +kernel) (by decide) ?_
              refine j_aload_n F 0 dX5_thing_104 rfl ?_
              refine j_getR F (k0 := 9) (C := RX5) (T := TX5) (N := 11) rfl rfl rfl inF5 (by decide) tw327 dX5_thing_105 ?_
              refine j_aload_n F 0 dX5_thing_108 rfl ?_
              refine j_getR F (k0 := 1) (C := RX5) (T := TX5) (N := 11) rfl rfl rfl inF5 (by decide) tw316 dX5_thing_109 ?_
              obtain ⟨S112, hc112, hm⟩ := Option.bind_eq_some_iff.mp hm
              refine j_callV F (n := 1) (As := [.ref (g.2.1 29)]) (rest := []) (c_X1_follow l g hg 29 (by decide) S S112 hc112) gw_X5_123 (by decide +kernel) ⟨Nat.le_of_ble_eq_true rfl, Nat.le_of_ble_eq_true rfl⟩ ⟨Nat.le_of_ble_eq_true rfl, Nat.le_of_ble_eq_true rfl⟩ rfl rfl rfl rfl (Nat.le_of_ble_eq_true rfl) dX5_thing_112 ?_
              show J p l e rmX5_thing s m args below meth c g A 3 (MQ below (QC g A (some (.int r)) S') args s 0 0 A) 0 0 115 [(0, .ref (g.2.1 0)), (1, .int v1), (2, .int v2)] [] S112
              refine j_aload_n F 0 dX5_thing_115 rfl ?_
              refine j_getR F (k0 := 9) (C := RX5) (T := TX5) (N := 11) rfl rfl rfl inF5 (by decide) tw327 dX5_thing_116 ?_
              refine j_getR F (k0 := 0) (C := RX1) (T := TX1) (N := 1) rfl rfl rfl inF1 (by decide) tw379 dX5_thing_119 ?_
              refine j_iload_n F 1 dX5_thing_122 rfl ?_
              refine j_iald F rfl dX5_thing_123 hm (fun hm => ?_)
              exact j_iret_e F rfl dX5_thing_124 (inl_e hm)
            · refine sw_if hm (fun esw hm => ?_) (fun n5 hm => ?_)
              · refine j_swIn F (tgt := 125) dX5_thing_6 esw (by decide +kernel) (by decide +kernel) (off := 119) (by decide +kernel) (by decide) ?_
                refine j_aload_n F 0 dX5_thing_125 rfl ?_
                refine j_getR F (k0 := 9) (C := RX5) (T := TX5) (N := 11) rfl rfl rfl inF5 (by decide) tw327 dX5_thing_126 ?_
                refine j_aload_n F 0 dX5_thing_129 rfl ?_
                refine j_aload_n F 0 dX5_thing_130 rfl ?_
                refine j_getR F (k0 := 1) (C := RX5) (T := TX5) (N := 11) rfl rfl rfl inF5 (by decide) tw316 dX5_thing_131 ?_
                obtain ⟨r134, S134, hc134, hm⟩ := bndE_ok hm
                refine j_callV F (n := 1) (As := [.ref (g.2.1 29)]) (rest := [.ref (g.2.1 10)]) (c_X5_endOf l g hg 29 (by decide) S r134 S134 hc134) gw_X5_113 (by decide +kernel) ⟨Nat.le_of_ble_eq_true rfl, Nat.le_of_ble_eq_true rfl⟩ ⟨Nat.le_of_ble_eq_true rfl, Nat.le_of_ble_eq_true rfl⟩ rfl rfl rfl rfl (Nat.le_of_ble_eq_true rfl) dX5_thing_134 ?_
                obtain ⟨hs_r134, hm⟩ := gd_ok hm
                show J p l e rmX5_thing s m args below meth c g A 3 (MQ below (QC g A (some (.int r)) S') args s 0 0 A) 0 0 137 [(0, .ref (g.2.1 0)), (1, .int v1), (2, .int v2)] [.ref (g.2.1 r134), .ref (g.2.1 10)] S134
                obtain ⟨S137, hc137, hm⟩ := Option.bind_eq_some_iff.mp hm
                refine j_callV F (n := 1) (As := [.ref (g.2.1 r134)]) (rest := []) (c_X1_follow l g hg r134 hs_r134 S134 S137 hc137) gw_X5_123 (by decide +kernel) ⟨Nat.le_of_ble_eq_true rfl, Nat.le_of_ble_eq_true rfl⟩ ⟨Nat.le_of_ble_eq_true rfl, Nat.le_of_ble_eq_true rfl⟩ rfl rfl rfl rfl (Nat.le_of_ble_eq_true rfl) dX5_thing_137 ?_
                show J p l e rmX5_thing s m args below meth c g A 3 (MQ below (QC g A (some (.int r)) S') args s 0 0 A) 0 0 140 [(0, .ref (g.2.1 0)), (1, .int v1), (2, .int v2)] [] S137
                refine j_aload_n F 0 dX5_thing_140 rfl ?_
                refine j_getR F (k0 := 9) (C := RX5) (T := TX5) (N := 11) rfl rfl rfl inF5 (by decide) tw327 dX5_thing_141 ?_
                refine j_getR F (k0 := 0) (C := RX1) (T := TX1) (N := 1) rfl rfl rfl inF1 (by decide) tw379 dX5_thing_144 ?_
                refine j_iload_n F 1 dX5_thing_147 rfl ?_
                refine j_iald F rfl dX5_thing_148 hm (fun hm => ?_)
                exact j_iret_e F rfl dX5_thing_149 (inl_e hm)
              · refine sw_if hm (fun esw hm => ?_) (fun n6 hm => ?_)
                · refine j_swIn F (tgt := 150) dX5_thing_6 esw (by decide +kernel) (by decide +kernel) (off := 144) (by decide +kernel) (by decide) ?_
                  refine j_aload_n F 0 dX5_thing_150 rfl ?_
                  refine j_aload_n F 0 dX5_thing_151 rfl ?_
                  refine j_getR F (k0 := 1) (C := RX5) (T := TX5) (N := 11) rfl rfl rfl inF5 (by decide) tw316 dX5_thing_152 ?_
                  obtain ⟨r155, S155, hc155, hm⟩ := bndE_ok hm
                  refine j_callV F (n := 1) (As := [.ref (g.2.1 29)]) (rest := []) (c_X5_endOf l g hg 29 (by decide) S r155 S155 hc155) gw_X5_113 (by decide +kernel) ⟨Nat.le_of_ble_eq_true rfl, Nat.le_of_ble_eq_true rfl⟩ ⟨Nat.le_of_ble_eq_true rfl, Nat.le_of_ble_eq_true rfl⟩ rfl rfl rfl rfl (Nat.le_of_ble_eq_true rfl) dX5_thing_155 ?_
                  obtain ⟨hs_r155, hm⟩ := gd_ok hm
                  show J p l e rmX5_thing s m args below meth c g A 3 (MQ below (QC g A (some (.int r)) S') args s 0 0 A) 0 0 158 [(0, .ref (g.2.1 0)), (1, .int v1), (2, .int v2)] [.ref (g.2.1 r155)] S155
                  refine j_getR F (k0 := 3) (C := RX3) (T := TX3) (N := 4) (isSt_lay hs_r155).1 rfl rfl inF3 (by decide) tw378 dX5_thing_158 ?_
                  refine j_iload_n F 1 dX5_thing_161 rfl ?_
                  refine j_iald F (isSt_lay hs_r155).2 dX5_thing_162 hm (fun hm => ?_)
                  obtain ⟨r163, hc163, hm⟩ := Option.bind_eq_some_iff.mp hm
                  refine j_callS F (n := 1) (As := [.int (gA S155 (r155 + 1) v1.toNatClampNeg)]) (rest := []) (c_J6_bitCount_0f7a4 l g hg (gA S155 (r155 + 1) v1.toNatClampNeg) S155 r163 hc163) gw_X5_100 (by decide +kernel) ⟨Nat.le_of_ble_eq_true rfl, Nat.le_of_ble_eq_true rfl⟩ ⟨Nat.le_of_ble_eq_true rfl, Nat.le_of_ble_eq_true rfl⟩ rfl rfl (Nat.le_of_ble_eq_true rfl) dX5_thing_163 ?_
                  show J p l e rmX5_thing s m args below meth c g A 3 (MQ below (QC g A (some (.int r)) S') args s 0 0 A) 0 0 166 [(0, .ref (g.2.1 0)), (1, .int v1), (2, .int v2)] [.int r163] S155
                  exact j_iret_e F rfl dX5_thing_166 (inl_e hm)
                · refine j_swOut F (tgt := 167) dX5_thing_6 (by have a0 := ne_z (z := 0) n0 (by decide +kernel); have a1 := ne_z (z := 1) n1 (by decide +kernel); have a2 := ne_z (z := 2) n2 (by decide +kernel); have a3 := ne_z (z := 3) n3 (by decide +kernel); have a4 := ne_z (z := 4) n4 (by decide +kernel); have a5 := ne_z (z := 5) n5 (by decide +kernel); have a6 := ne_z (z := 6) n6 (by decide +kernel); omega) (by decide) ?_
                  cases hm
  · cases hm
set_option maxRecDepth 100000 in
set_option maxHeartbeats 4000000 in
theorem x_X5_thing (l : Launch) (hst : l.stackTraces = false) (g : GG) (hg : Inj g) (v1 : Int32) (v2 : Int32)  (S : Hs) (n : Nat) (S' : Hs) (hm : m_X5_thing v1 v2 S = some ((.inr n, S'))) : CX l yX5_thing [.code yX5_thing cX5_thing 3 (some .int)] rxX5_thing [.ref (g.2.1 0), .int v1, .int v2] g S n S' := by
  unfold m_X5_thing at hm
  refine CX.of (cc := cX5_thing) (nL := 3) (ret := (some .int)) (lv := [(0, .ref (g.2.1 0)), (1, .int v1), (2, .int v2)]) (by decide +kernel) hg (Nat.le_of_ble_eq_true rfl) rfl rfl rfl hst (fun p e s m args below meth c A F FS => ?_)
  replace F : Fx p s m meth c cX5_thing RX5 3 (some .int) g A := F
  replace FS : FX9 l s c A := FS
  show J p l e rxX5_thing s m args below meth c g A 3 (vx_MQ below QF (XQ g A n S') args s 1 6 A) 0 0 0 [(0, .ref (g.2.1 0)), (1, .int v1), (2, .int v2)] [] S
  have hj64 : ∀ (w0 : Int32) (S : Hs), m_X5_thing_J64 w0 S = some ((.inr n, S')) → J p l e rxX5_thing s m args below meth c g A 3 (vx_MQ below QF (XQ g A n S') args s 1 6 A) 0 0 64 [] [.int w0] S := by
    intro w0 S hm
    unfold m_X5_thing_J64 at hm
    cases hm
  have hj81 : ∀ (w0 : Int32) (S : Hs), m_X5_thing_J81 w0 S = some ((.inr n, S')) → J p l e rxX5_thing s m args below meth c g A 3 (vx_MQ below QF (XQ g A n S') args s 1 6 A) 0 0 81 [] [.int w0] S := by
    intro w0 S hm
    unfold m_X5_thing_J81 at hm
    cases hm
  refine j_aload_n F 0 dX5_thing_0 rfl ?_
  refine j_iload_n F 1 dX5_thing_1 rfl ?_
  refine bndP_ok hm (fun r2 hc2 hm => ?_) (fun q hc2 hm => ?_)
  · refine j_callV F (n := 1) (As := [.int v1]) (rest := []) (c_X5_checkThing l g hg v1 S hc2) gw_X5_129 (by decide +kernel) ⟨Nat.le_of_ble_eq_true rfl, Nat.le_of_ble_eq_true rfl⟩ ⟨Nat.le_of_ble_eq_true rfl, Nat.le_of_ble_eq_true rfl⟩ rfl rfl rfl rfl (Nat.le_of_ble_eq_true rfl) dX5_thing_2 ?_
    show J p l e rxX5_thing s m args below meth c g A 3 (vx_MQ below QF (XQ g A n S') args s 1 6 A) 0 0 5 [(0, .ref (g.2.1 0)), (1, .int v1), (2, .int v2)] [] S
    refine j_iload_n F 2 dX5_thing_5 rfl ?_
    refine sw_if hm (fun esw hm => ?_) (fun n0 hm => ?_)
    · refine j_swIn F (tgt := 48) dX5_thing_6 esw (by decide +kernel) (by decide +kernel) (off := 42) (by decide +kernel) (by decide) ?_
      refine j_aload_n F 0 dX5_thing_48 rfl ?_
      refine j_getR F (k0 := 1) (C := RX5) (T := TX5) (N := 11) rfl rfl rfl inF5 (by decide) tw316 dX5_thing_49 ?_
      refine j_iload_n F 1 dX5_thing_52 rfl ?_
      obtain ⟨r53, hc53, hm⟩ := Option.bind_eq_some_iff.mp hm
      refine j_callV F (n := 1) (As := [.int v1]) (rest := []) (c_X3_isPerson l g hg 29 v1 (by decide) S r53 hc53) gw_X5_133 (by decide +kernel) ⟨Nat.le_of_ble_eq_true rfl, Nat.le_of_ble_eq_true rfl⟩ ⟨Nat.le_of_ble_eq_true rfl, Nat.le_of_ble_eq_true rfl⟩ (isSt_lay (i := 29) (by decide)).1 rfl rfl rfl (Nat.le_of_ble_eq_true rfl) dX5_thing_53 ?_
      show J p l e rxX5_thing s m args below meth c g A 3 (vx_MQ below QF (XQ g A n S') args s 1 6 A) 0 0 56 [(0, .ref (g.2.1 0)), (1, .int v1), (2, .int v2)] [.int r53] S
      refine j_if_eq F (tgt := 63) dX5_thing_56 (by decide) hm (fun _ hm => ?_) (fun _ hm => ?_)
      · refine j_iconst F (v := 0) dX5_thing_63 (by decide) ?_
        refine j_sub [] rfl ?_
        exact hj64 0 S  hm
      · refine j_iconst F (v := 1) dX5_thing_59 (by decide) ?_
        refine j_goto F (tgt := 64) dX5_thing_60 (by decide) ?_
        refine j_sub [] rfl ?_
        exact hj64 1 S  hm
    · refine sw_if hm (fun esw hm => ?_) (fun n1 hm => ?_)
      · refine j_swIn F (tgt := 65) dX5_thing_6 esw (by decide +kernel) (by decide +kernel) (off := 59) (by decide +kernel) (by decide) ?_
        refine j_aload_n F 0 dX5_thing_65 rfl ?_
        refine j_getR F (k0 := 1) (C := RX5) (T := TX5) (N := 11) rfl rfl rfl inF5 (by decide) tw316 dX5_thing_66 ?_
        refine j_iload_n F 1 dX5_thing_69 rfl ?_
        obtain ⟨r70, hc70, hm⟩ := Option.bind_eq_some_iff.mp hm
        refine j_callV F (n := 1) (As := [.int v1]) (rest := []) (c_X3_isAwake l g hg 29 v1 (by decide) S r70 hc70) gw_X5_137 (by decide +kernel) ⟨Nat.le_of_ble_eq_true rfl, Nat.le_of_ble_eq_true rfl⟩ ⟨Nat.le_of_ble_eq_true rfl, Nat.le_of_ble_eq_true rfl⟩ (isSt_lay (i := 29) (by decide)).1 rfl rfl rfl (Nat.le_of_ble_eq_true rfl) dX5_thing_70 ?_
        show J p l e rxX5_thing s m args below meth c g A 3 (vx_MQ below QF (XQ g A n S') args s 1 6 A) 0 0 73 [(0, .ref (g.2.1 0)), (1, .int v1), (2, .int v2)] [.int r70] S
        refine j_if_eq F (tgt := 80) dX5_thing_73 (by decide) hm (fun _ hm => ?_) (fun _ hm => ?_)
        · refine j_iconst F (v := 0) dX5_thing_80 (by decide) ?_
          refine j_sub [] rfl ?_
          exact hj81 0 S  hm
        · refine j_iconst F (v := 1) dX5_thing_76 (by decide) ?_
          refine j_goto F (tgt := 81) dX5_thing_77 (by decide) ?_
          refine j_sub [] rfl ?_
          exact hj81 1 S  hm
      · refine sw_if hm (fun esw hm => ?_) (fun n2 hm => ?_)
        · refine j_swIn F (tgt := 82) dX5_thing_6 esw (by decide +kernel) (by decide +kernel) (off := 76) (by decide +kernel) (by decide) ?_
          refine j_aload_n F 0 dX5_thing_82 rfl ?_
          refine j_getR F (k0 := 1) (C := RX5) (T := TX5) (N := 11) rfl rfl rfl inF5 (by decide) tw316 dX5_thing_83 ?_
          refine j_getR F (k0 := 3) (C := RX3) (T := TX3) (N := 4) (isSt_lay (i := 29) (by decide)).1 rfl rfl inF3 (by decide) tw378 dX5_thing_86 ?_
          refine j_iload_n F 1 dX5_thing_89 rfl ?_
          refine j_iald F rfl dX5_thing_90 hm (fun hm => ?_)
          obtain ⟨r91, hc91, hm⟩ := Option.bind_eq_some_iff.mp hm
          refine j_callS F (n := 1) (As := [.int (gA S 30 v1.toNatClampNeg)]) (rest := []) (c_J6_bitCount_0f7a4 l g hg (gA S 30 v1.toNatClampNeg) S r91 hc91) gw_X5_100 (by decide +kernel) ⟨Nat.le_of_ble_eq_true rfl, Nat.le_of_ble_eq_true rfl⟩ ⟨Nat.le_of_ble_eq_true rfl, Nat.le_of_ble_eq_true rfl⟩ rfl rfl (Nat.le_of_ble_eq_true rfl) dX5_thing_91 ?_
          show J p l e rxX5_thing s m args below meth c g A 3 (vx_MQ below QF (XQ g A n S') args s 1 6 A) 0 0 94 [(0, .ref (g.2.1 0)), (1, .int v1), (2, .int v2)] [.int r91] S
          cases hm
        · refine sw_if hm (fun esw hm => ?_) (fun n3 hm => ?_)
          · refine j_swIn F (tgt := 95) dX5_thing_6 esw (by decide +kernel) (by decide +kernel) (off := 89) (by decide +kernel) (by decide) ?_
            refine j_aload_n F 0 dX5_thing_95 rfl ?_
            refine j_getR F (k0 := 1) (C := RX5) (T := TX5) (N := 11) rfl rfl rfl inF5 (by decide) tw316 dX5_thing_96 ?_
            refine j_iload_n F 1 dX5_thing_99 rfl ?_
            obtain ⟨r100, hc100, hm⟩ := Option.bind_eq_some_iff.mp hm
            refine j_callV F (n := 1) (As := [.int v1]) (rest := []) (c_X3_countRightsOver l g hg 29 v1 (by decide) S r100 hc100) gw_X5_144 (by decide +kernel) ⟨Nat.le_of_ble_eq_true rfl, Nat.le_of_ble_eq_true rfl⟩ ⟨Nat.le_of_ble_eq_true rfl, Nat.le_of_ble_eq_true rfl⟩ (isSt_lay (i := 29) (by decide)).1 rfl rfl rfl (Nat.le_of_ble_eq_true rfl) dX5_thing_100 ?_
            show J p l e rxX5_thing s m args below meth c g A 3 (vx_MQ below QF (XQ g A n S') args s 1 6 A) 0 0 103 [(0, .ref (g.2.1 0)), (1, .int v1), (2, .int v2)] [.int r100] S
            cases hm
          · refine sw_if hm (fun esw hm => ?_) (fun n4 hm => ?_)
            · refine j_swIn F (tgt := 104) dX5_thing_6 esw (by decide +kernel) (by decide +kernel) (off := 98) (by decide +kernel) (by decide) ?_
              refine j_aload_n F 0 dX5_thing_104 rfl ?_
              refine j_getR F (k0 := 9) (C := RX5) (T := TX5) (N := 11) rfl rfl rfl inF5 (by decide) tw327 dX5_thing_105 ?_
              refine j_aload_n F 0 dX5_thing_108 rfl ?_
              refine j_getR F (k0 := 1) (C := RX5) (T := TX5) (N := 11) rfl rfl rfl inF5 (by decide) tw316 dX5_thing_109 ?_
              obtain ⟨S112, hc112, hm⟩ := Option.bind_eq_some_iff.mp hm
              refine j_callV F (n := 1) (As := [.ref (g.2.1 29)]) (rest := []) (c_X1_follow l g hg 29 (by decide) S S112 hc112) gw_X5_123 (by decide +kernel) ⟨Nat.le_of_ble_eq_true rfl, Nat.le_of_ble_eq_true rfl⟩ ⟨Nat.le_of_ble_eq_true rfl, Nat.le_of_ble_eq_true rfl⟩ rfl rfl rfl rfl (Nat.le_of_ble_eq_true rfl) dX5_thing_112 ?_
              show J p l e rxX5_thing s m args below meth c g A 3 (vx_MQ below QF (XQ g A n S') args s 1 6 A) 0 0 115 [(0, .ref (g.2.1 0)), (1, .int v1), (2, .int v2)] [] S112
              refine j_aload_n F 0 dX5_thing_115 rfl ?_
              refine j_getR F (k0 := 9) (C := RX5) (T := TX5) (N := 11) rfl rfl rfl inF5 (by decide) tw327 dX5_thing_116 ?_
              refine j_getR F (k0 := 0) (C := RX1) (T := TX1) (N := 1) rfl rfl rfl inF1 (by decide) tw379 dX5_thing_119 ?_
              refine j_iload_n F 1 dX5_thing_122 rfl ?_
              refine j_iald F rfl dX5_thing_123 hm (fun hm => ?_)
              cases hm
            · refine sw_if hm (fun esw hm => ?_) (fun n5 hm => ?_)
              · refine j_swIn F (tgt := 125) dX5_thing_6 esw (by decide +kernel) (by decide +kernel) (off := 119) (by decide +kernel) (by decide) ?_
                refine j_aload_n F 0 dX5_thing_125 rfl ?_
                refine j_getR F (k0 := 9) (C := RX5) (T := TX5) (N := 11) rfl rfl rfl inF5 (by decide) tw327 dX5_thing_126 ?_
                refine j_aload_n F 0 dX5_thing_129 rfl ?_
                refine j_aload_n F 0 dX5_thing_130 rfl ?_
                refine j_getR F (k0 := 1) (C := RX5) (T := TX5) (N := 11) rfl rfl rfl inF5 (by decide) tw316 dX5_thing_131 ?_
                obtain ⟨r134, S134, hc134, hm⟩ := bndE_ok hm
                refine j_callV F (n := 1) (As := [.ref (g.2.1 29)]) (rest := [.ref (g.2.1 10)]) (c_X5_endOf l g hg 29 (by decide) S r134 S134 hc134) gw_X5_113 (by decide +kernel) ⟨Nat.le_of_ble_eq_true rfl, Nat.le_of_ble_eq_true rfl⟩ ⟨Nat.le_of_ble_eq_true rfl, Nat.le_of_ble_eq_true rfl⟩ rfl rfl rfl rfl (Nat.le_of_ble_eq_true rfl) dX5_thing_134 ?_
                obtain ⟨hs_r134, hm⟩ := gd_ok hm
                show J p l e rxX5_thing s m args below meth c g A 3 (vx_MQ below QF (XQ g A n S') args s 1 6 A) 0 0 137 [(0, .ref (g.2.1 0)), (1, .int v1), (2, .int v2)] [.ref (g.2.1 r134), .ref (g.2.1 10)] S134
                obtain ⟨S137, hc137, hm⟩ := Option.bind_eq_some_iff.mp hm
                refine j_callV F (n := 1) (As := [.ref (g.2.1 r134)]) (rest := []) (c_X1_follow l g hg r134 hs_r134 S134 S137 hc137) gw_X5_123 (by decide +kernel) ⟨Nat.le_of_ble_eq_true rfl, Nat.le_of_ble_eq_true rfl⟩ ⟨Nat.le_of_ble_eq_true rfl, Nat.le_of_ble_eq_true rfl⟩ rfl rfl rfl rfl (Nat.le_of_ble_eq_true rfl) dX5_thing_137 ?_
                show J p l e rxX5_thing s m args below meth c g A 3 (vx_MQ below QF (XQ g A n S') args s 1 6 A) 0 0 140 [(0, .ref (g.2.1 0)), (1, .int v1), (2, .int v2)] [] S137
                refine j_aload_n F 0 dX5_thing_140 rfl ?_
                refine j_getR F (k0 := 9) (C := RX5) (T := TX5) (N := 11) rfl rfl rfl inF5 (by decide) tw327 dX5_thing_141 ?_
                refine j_getR F (k0 := 0) (C := RX1) (T := TX1) (N := 1) rfl rfl rfl inF1 (by decide) tw379 dX5_thing_144 ?_
                refine j_iload_n F 1 dX5_thing_147 rfl ?_
                refine j_iald F rfl dX5_thing_148 hm (fun hm => ?_)
                cases hm
              · refine sw_if hm (fun esw hm => ?_) (fun n6 hm => ?_)
                · refine j_swIn F (tgt := 150) dX5_thing_6 esw (by decide +kernel) (by decide +kernel) (off := 144) (by decide +kernel) (by decide) ?_
                  refine j_aload_n F 0 dX5_thing_150 rfl ?_
                  refine j_aload_n F 0 dX5_thing_151 rfl ?_
                  refine j_getR F (k0 := 1) (C := RX5) (T := TX5) (N := 11) rfl rfl rfl inF5 (by decide) tw316 dX5_thing_152 ?_
                  obtain ⟨r155, S155, hc155, hm⟩ := bndE_ok hm
                  refine j_callV F (n := 1) (As := [.ref (g.2.1 29)]) (rest := []) (c_X5_endOf l g hg 29 (by decide) S r155 S155 hc155) gw_X5_113 (by decide +kernel) ⟨Nat.le_of_ble_eq_true rfl, Nat.le_of_ble_eq_true rfl⟩ ⟨Nat.le_of_ble_eq_true rfl, Nat.le_of_ble_eq_true rfl⟩ rfl rfl rfl rfl (Nat.le_of_ble_eq_true rfl) dX5_thing_155 ?_
                  obtain ⟨hs_r155, hm⟩ := gd_ok hm
                  show J p l e rxX5_thing s m args below meth c g A 3 (vx_MQ below QF (XQ g A n S') args s 1 6 A) 0 0 158 [(0, .ref (g.2.1 0)), (1, .int v1), (2, .int v2)] [.ref (g.2.1 r155)] S155
                  refine j_getR F (k0 := 3) (C := RX3) (T := TX3) (N := 4) (isSt_lay hs_r155).1 rfl rfl inF3 (by decide) tw378 dX5_thing_158 ?_
                  refine j_iload_n F 1 dX5_thing_161 rfl ?_
                  refine j_iald F (isSt_lay hs_r155).2 dX5_thing_162 hm (fun hm => ?_)
                  obtain ⟨r163, hc163, hm⟩ := Option.bind_eq_some_iff.mp hm
                  refine j_callS F (n := 1) (As := [.int (gA S155 (r155 + 1) v1.toNatClampNeg)]) (rest := []) (c_J6_bitCount_0f7a4 l g hg (gA S155 (r155 + 1) v1.toNatClampNeg) S155 r163 hc163) gw_X5_100 (by decide +kernel) ⟨Nat.le_of_ble_eq_true rfl, Nat.le_of_ble_eq_true rfl⟩ ⟨Nat.le_of_ble_eq_true rfl, Nat.le_of_ble_eq_true rfl⟩ rfl rfl (Nat.le_of_ble_eq_true rfl) dX5_thing_163 ?_
                  show J p l e rxX5_thing s m args below meth c g A 3 (vx_MQ below QF (XQ g A n S') args s 1 6 A) 0 0 166 [(0, .ref (g.2.1 0)), (1, .int v1), (2, .int v2)] [.int r163] S155
                  cases hm
                · refine j_swOut F (tgt := 167) dX5_thing_6 (by have a0 := ne_z (z := 0) n0 (by decide +kernel); have a1 := ne_z (z := 1) n1 (by decide +kernel); have a2 := ne_z (z := 2) n2 (by decide +kernel); have a3 := ne_z (z := 3) n3 (by decide +kernel); have a4 := ne_z (z := 4) n4 (by decide +kernel); have a5 := ne_z (z := 5) n5 (by decide +kernel); have a6 := ne_z (z := 6) n6 (by decide +kernel); omega) (by decide) ?_
                  cases hm
                  exact j_throw F FS 3 ex1 rfl rfl dX5_thing_167 dX5_thing_170 dX5_thing_171 dX5_thing_173 dX5_thing_176 ⟨Nat.le_of_ble_eq_true rfl, Nat.le_of_ble_eq_true rfl⟩ ⟨Nat.le_of_ble_eq_true rfl, Nat.le_of_ble_eq_true rfl⟩
  · cases hm
    exact j_callXV F FS (k := 1) (As := [.int v1]) (rest := []) (x_X5_checkThing l hst g hg v1 S _ hc2) gw_X5_129 (by decide +kernel) ⟨Nat.le_of_ble_eq_true rfl, Nat.le_of_ble_eq_true rfl⟩ ⟨Nat.le_of_ble_eq_true rfl, Nat.le_of_ble_eq_true rfl⟩ rfl rfl rfl rfl (Nat.le_of_ble_eq_true rfl) dX5_thing_2 (Nat.le_refl _) (Nat.le_refl _)
def m_X5_checkRight (v1 : Int32) (v2 : Int32) (v3 : Int32) (S : Hs) : Option (Unit ⊕ Nat) := bndP (m_X5_checkThing v1 S) (fun r2 => (bndP (m_X5_checkThing v3 S) (fun r7 => ((m_X3_isRight 29 v1 v2 v3 S).bind fun r17 => (if r17 = 0 then (some (.inr 1)) else (some (.inl ()))))) (fun q => some (.inr q)))) (fun q => some (.inr q))
set_option maxRecDepth 100000 in
set_option maxHeartbeats 4000000 in
theorem c_X5_checkRight (l : Launch) (g : GG) (hg : Inj g) (v1 : Int32) (v2 : Int32) (v3 : Int32)  (S : Hs)  (hm : m_X5_checkRight v1 v2 v3 S = some (.inl ())) : CM l yX5_checkRight [.code yX5_checkRight cX5_checkRight 4 none] rmX5_checkRight [.ref (g.2.1 0), .int v1, .int v2, .int v3] g S none S := by
  unfold m_X5_checkRight at hm
  refine CM.of (cc := cX5_checkRight) (nL := 4) (ret := none) (lv := [(0, .ref (g.2.1 0)), (1, .int v1), (2, .int v2), (3, .int v3)]) (by decide +kernel) hg (Nat.le_of_ble_eq_true rfl) rfl (fun p e s m args below meth c A F => ?_)
  replace F : Fx p s m meth c cX5_checkRight RX5 4 none g A := F
  show J p l e rmX5_checkRight s m args below meth c g A 4 (MQ below (QC g A none S) args s 0 0 A) 0 0 0 [(0, .ref (g.2.1 0)), (1, .int v1), (2, .int v2), (3, .int v3)] [] S
  refine j_aload_n F 0 dX5_checkRight_0 rfl ?_
  refine j_iload_n F 1 dX5_checkRight_1 rfl ?_
  refine bndP_ok hm (fun r2 hc2 hm => ?_) (fun q hc2 hm => ?_)
  · refine j_callV F (n := 1) (As := [.int v1]) (rest := []) (c_X5_checkThing l g hg v1 S hc2) gw_X5_129 (by decide +kernel) ⟨Nat.le_of_ble_eq_true rfl, Nat.le_of_ble_eq_true rfl⟩ ⟨Nat.le_of_ble_eq_true rfl, Nat.le_of_ble_eq_true rfl⟩ rfl rfl rfl rfl (Nat.le_of_ble_eq_true rfl) dX5_checkRight_2 ?_
    show J p l e rmX5_checkRight s m args below meth c g A 4 (MQ below (QC g A none S) args s 0 0 A) 0 0 5 [(0, .ref (g.2.1 0)), (1, .int v1), (2, .int v2), (3, .int v3)] [] S
    refine j_aload_n F 0 dX5_checkRight_5 rfl ?_
    refine j_iload_n F 3 dX5_checkRight_6 rfl ?_
    refine bndP_ok hm (fun r7 hc7 hm => ?_) (fun q hc7 hm => ?_)
    · refine j_callV F (n := 1) (As := [.int v3]) (rest := []) (c_X5_checkThing l g hg v3 S hc7) gw_X5_129 (by decide +kernel) ⟨Nat.le_of_ble_eq_true rfl, Nat.le_of_ble_eq_true rfl⟩ ⟨Nat.le_of_ble_eq_true rfl, Nat.le_of_ble_eq_true rfl⟩ rfl rfl rfl rfl (Nat.le_of_ble_eq_true rfl) dX5_checkRight_7 ?_
      show J p l e rmX5_checkRight s m args below meth c g A 4 (MQ below (QC g A none S) args s 0 0 A) 0 0 10 [(0, .ref (g.2.1 0)), (1, .int v1), (2, .int v2), (3, .int v3)] [] S
      refine j_aload_n F 0 dX5_checkRight_10 rfl ?_
      refine j_getR F (k0 := 1) (C := RX5) (T := TX5) (N := 11) rfl rfl rfl inF5 (by decide) tw316 dX5_checkRight_11 ?_
      refine j_iload_n F 1 dX5_checkRight_14 rfl ?_
      refine j_iload_n F 2 dX5_checkRight_15 rfl ?_
      refine j_iload_n F 3 dX5_checkRight_16 rfl ?_
      obtain ⟨r17, hc17, hm⟩ := Option.bind_eq_some_iff.mp hm
      refine j_callV F (n := 3) (As := [.int v1, .int v2, .int v3]) (rest := []) (c_X3_isRight l g hg 29 v1 v2 v3 (by decide) S r17 hc17) gw_X5_282 (by decide +kernel) ⟨Nat.le_of_ble_eq_true rfl, Nat.le_of_ble_eq_true rfl⟩ ⟨Nat.le_of_ble_eq_true rfl, Nat.le_of_ble_eq_true rfl⟩ (isSt_lay (i := 29) (by decide)).1 rfl rfl rfl (Nat.le_of_ble_eq_true rfl) dX5_checkRight_17 ?_
      show J p l e rmX5_checkRight s m args below meth c g A 4 (MQ below (QC g A none S) args s 0 0 A) 0 0 20 [(0, .ref (g.2.1 0)), (1, .int v1), (2, .int v2), (3, .int v3)] [.int r17] S
      refine j_if_ne F (tgt := 34) dX5_checkRight_20 (by decide) hm (fun _ hm => ?_) (fun _ hm => ?_)
      · exact j_vret_e F rfl dX5_checkRight_34 rfl
      · cases hm
    · cases hm
  · cases hm
set_option maxRecDepth 100000 in
set_option maxHeartbeats 4000000 in
theorem x_X5_checkRight (l : Launch) (hst : l.stackTraces = false) (g : GG) (hg : Inj g) (v1 : Int32) (v2 : Int32) (v3 : Int32)  (S : Hs) (n : Nat) (hm : m_X5_checkRight v1 v2 v3 S = some (.inr n)) : CX l yX5_checkRight [.code yX5_checkRight cX5_checkRight 4 none] rxX5_checkRight [.ref (g.2.1 0), .int v1, .int v2, .int v3] g S n S := by
  unfold m_X5_checkRight at hm
  refine CX.of (cc := cX5_checkRight) (nL := 4) (ret := none) (lv := [(0, .ref (g.2.1 0)), (1, .int v1), (2, .int v2), (3, .int v3)]) (by decide +kernel) hg (Nat.le_of_ble_eq_true rfl) rfl rfl rfl hst (fun p e s m args below meth c A F FS => ?_)
  replace F : Fx p s m meth c cX5_checkRight RX5 4 none g A := F
  replace FS : FX9 l s c A := FS
  show J p l e rxX5_checkRight s m args below meth c g A 4 (vx_MQ below QF (XQ g A n S) args s 1 6 A) 0 0 0 [(0, .ref (g.2.1 0)), (1, .int v1), (2, .int v2), (3, .int v3)] [] S
  refine j_aload_n F 0 dX5_checkRight_0 rfl ?_
  refine j_iload_n F 1 dX5_checkRight_1 rfl ?_
  refine bndP_ok hm (fun r2 hc2 hm => ?_) (fun q hc2 hm => ?_)
  · refine j_callV F (n := 1) (As := [.int v1]) (rest := []) (c_X5_checkThing l g hg v1 S hc2) gw_X5_129 (by decide +kernel) ⟨Nat.le_of_ble_eq_true rfl, Nat.le_of_ble_eq_true rfl⟩ ⟨Nat.le_of_ble_eq_true rfl, Nat.le_of_ble_eq_true rfl⟩ rfl rfl rfl rfl (Nat.le_of_ble_eq_true rfl) dX5_checkRight_2 ?_
    show J p l e rxX5_checkRight s m args below meth c g A 4 (vx_MQ below QF (XQ g A n S) args s 1 6 A) 0 0 5 [(0, .ref (g.2.1 0)), (1, .int v1), (2, .int v2), (3, .int v3)] [] S
    refine j_aload_n F 0 dX5_checkRight_5 rfl ?_
    refine j_iload_n F 3 dX5_checkRight_6 rfl ?_
    refine bndP_ok hm (fun r7 hc7 hm => ?_) (fun q hc7 hm => ?_)
    · refine j_callV F (n := 1) (As := [.int v3]) (rest := []) (c_X5_checkThing l g hg v3 S hc7) gw_X5_129 (by decide +kernel) ⟨Nat.le_of_ble_eq_true rfl, Nat.le_of_ble_eq_true rfl⟩ ⟨Nat.le_of_ble_eq_true rfl, Nat.le_of_ble_eq_true rfl⟩ rfl rfl rfl rfl (Nat.le_of_ble_eq_true rfl) dX5_checkRight_7 ?_
      show J p l e rxX5_checkRight s m args below meth c g A 4 (vx_MQ below QF (XQ g A n S) args s 1 6 A) 0 0 10 [(0, .ref (g.2.1 0)), (1, .int v1), (2, .int v2), (3, .int v3)] [] S
      refine j_aload_n F 0 dX5_checkRight_10 rfl ?_
      refine j_getR F (k0 := 1) (C := RX5) (T := TX5) (N := 11) rfl rfl rfl inF5 (by decide) tw316 dX5_checkRight_11 ?_
      refine j_iload_n F 1 dX5_checkRight_14 rfl ?_
      refine j_iload_n F 2 dX5_checkRight_15 rfl ?_
      refine j_iload_n F 3 dX5_checkRight_16 rfl ?_
      obtain ⟨r17, hc17, hm⟩ := Option.bind_eq_some_iff.mp hm
      refine j_callV F (n := 3) (As := [.int v1, .int v2, .int v3]) (rest := []) (c_X3_isRight l g hg 29 v1 v2 v3 (by decide) S r17 hc17) gw_X5_282 (by decide +kernel) ⟨Nat.le_of_ble_eq_true rfl, Nat.le_of_ble_eq_true rfl⟩ ⟨Nat.le_of_ble_eq_true rfl, Nat.le_of_ble_eq_true rfl⟩ (isSt_lay (i := 29) (by decide)).1 rfl rfl rfl (Nat.le_of_ble_eq_true rfl) dX5_checkRight_17 ?_
      show J p l e rxX5_checkRight s m args below meth c g A 4 (vx_MQ below QF (XQ g A n S) args s 1 6 A) 0 0 20 [(0, .ref (g.2.1 0)), (1, .int v1), (2, .int v2), (3, .int v3)] [.int r17] S
      refine j_if_ne F (tgt := 34) dX5_checkRight_20 (by decide) hm (fun _ hm => ?_) (fun _ hm => ?_)
      · cases hm
      · cases hm
        exact j_throwW F FS 13 ex1 rfl rfl dX5_checkRight_23 dX5_checkRight_26 dX5_checkRight_27 dX5_checkRight_30 dX5_checkRight_33 ⟨Nat.le_of_ble_eq_true rfl, Nat.le_of_ble_eq_true rfl⟩ ⟨Nat.le_of_ble_eq_true rfl, Nat.le_of_ble_eq_true rfl⟩
    · cases hm
      exact j_callXV F FS (k := 1) (As := [.int v3]) (rest := []) (x_X5_checkThing l hst g hg v3 S _ hc7) gw_X5_129 (by decide +kernel) ⟨Nat.le_of_ble_eq_true rfl, Nat.le_of_ble_eq_true rfl⟩ ⟨Nat.le_of_ble_eq_true rfl, Nat.le_of_ble_eq_true rfl⟩ rfl rfl rfl rfl (Nat.le_of_ble_eq_true rfl) dX5_checkRight_7 (Nat.le_refl _) (Nat.le_refl _)
  · cases hm
    exact j_callXV F FS (k := 1) (As := [.int v1]) (rest := []) (x_X5_checkThing l hst g hg v1 S _ hc2) gw_X5_129 (by decide +kernel) ⟨Nat.le_of_ble_eq_true rfl, Nat.le_of_ble_eq_true rfl⟩ ⟨Nat.le_of_ble_eq_true rfl, Nat.le_of_ble_eq_true rfl⟩ rfl rfl rfl rfl (Nat.le_of_ble_eq_true rfl) dX5_checkRight_2 (Nat.le_refl _) (Nat.le_refl _)
def m_X5_rights_J64 (v1 : Int32) (v2 : Int32) (v4 : Nat) (v5 : Int32) (v6 : Int32) (S : Hs) : Option ((Int32 × Int32) ⊕ Int32) := some (.inl ((v5, v6 + 1)))
def m_X5_rights_L34 (v1 : Int32) (v2 : Int32) (v4 : Nat) (S : Hs) (v5 : Int32) (v6 : Int32) : Option ((Int32 × Int32) ⊕ Int32) := if 4 ≤ v6 then (some (.inr v5)) else ((m_X5_rightOf v1 v6 v2).bind fun r46 => ((m_X3_has v4 r46 S).bind fun r49 => (if r49 = 0 then (m_X5_rights_J64 v1 v2 v4 v5 v6 S) else (bnd (v5 ||| (1 <<< (v6 &&& 31))) fun v5_62 => (m_X5_rights_J64 v1 v2 v4 v5_62 v6 S)))))
noncomputable def m_X5_rights_J26 (v1 : Int32) (v2 : Int32) (w0 : Nat) (S : Hs) : Option ((Int32 ⊕ Nat) × Hs) := (loopO (fun x => m_X5_rights_L34 v1 v2 w0 S x.1 x.2) ((0, 0))).bind fun y34 => some ((.inl y34, S))
noncomputable def m_X5_rights (v1 : Int32) (v2 : Int32) (v3 : Int32) (S : Hs) : Option ((Int32 ⊕ Nat) × Hs) := bndP (m_X5_checkRight v1 0 v2 S) (fun r4 => (if v3 = 0 then (m_X5_rights_J26 v1 v2 29 S) else (bndE (m_X5_endOf 29 S) fun r16 S16 => (gd (isSt r16) (m_X5_rights_J26 v1 v2 r16 S16))))) (fun q => some ((.inr q, S)))
set_option maxRecDepth 100000 in
set_option maxHeartbeats 4000000 in
theorem c_X5_rights (l : Launch) (g : GG) (hg : Inj g) (v1 : Int32) (v2 : Int32) (v3 : Int32)  (S : Hs) (r : Int32) (S' : Hs) (hm : m_X5_rights v1 v2 v3 S = some ((.inl r, S'))) : CM l yX5_rights [.code yX5_rights cX5_rights 7 (some .int)] rmX5_rights [.ref (g.2.1 0), .int v1, .int v2, .int v3] g S (some (.int r)) S' := by
  unfold m_X5_rights at hm
  refine CM.of (cc := cX5_rights) (nL := 7) (ret := (some .int)) (lv := [(0, .ref (g.2.1 0)), (1, .int v1), (2, .int v2), (3, .int v3)]) (by decide +kernel) hg (Nat.le_of_ble_eq_true rfl) rfl (fun p e s m args below meth c A F => ?_)
  replace F : Fx p s m meth c cX5_rights RX5 7 (some .int) g A := F
  show J p l e rmX5_rights s m args below meth c g A 7 (MQ below (QC g A (some (.int r)) S') args s 0 0 A) 0 0 0 [(0, .ref (g.2.1 0)), (1, .int v1), (2, .int v2), (3, .int v3)] [] S
  have hj26 : ∀ (v1 : Int32) (v2 : Int32) (w0 : Nat) (S : Hs), isSt w0 = true → m_X5_rights_J26 v1 v2 w0 S = some ((.inl r, S')) → J p l e rmX5_rights s m args below meth c g A 7 (MQ below (QC g A (some (.int r)) S') args s 0 0 A) 0 0 26 [(1, .int v1), (2, .int v2)] [.ref (g.2.1 w0)] S := by
    intro v1 v2 w0 S hw0 hm
    unfold m_X5_rights_J26 at hm
    refine j_astore F (lv' := [(4, .ref (g.2.1 w0)), (1, .int v1), (2, .int v2)]) dX5_rights_26 (by decide) rfl ?_
    refine j_iconst F (v := 0) dX5_rights_28 (by decide) ?_
    refine j_istore F (lv' := [(5, .int 0), (4, .ref (g.2.1 w0)), (1, .int v1), (2, .int v2)]) dX5_rights_29 (by decide) rfl ?_
    refine j_iconst F (v := 0) dX5_rights_31 (by decide) ?_
    refine j_istore F (lv' := [(6, .int 0), (5, .int 0), (4, .ref (g.2.1 w0)), (1, .int v1), (2, .int v2)]) dX5_rights_32 (by decide) rfl ?_
    refine j_sub [3, 4, 2, 1, 0] rfl ?_
    obtain ⟨y34, hlp34, hm⟩ := Option.bind_eq_some_iff.mp hm
    refine loopO_walk (fun x => m_X5_rights_L34 v1 v2 w0 S x.1 x.2) (fun x => J p l e rmX5_rights s m args below meth c g A 7 (MQ below (QC g A (some (.int r)) S') args s 0 0 A) 0 0 34 [(1, .int v1), (2, .int v2), (4, .ref (g.2.1 w0)), (5, .int x.1), (6, .int x.2)] [] S) (fun x => J p l e rmX5_rights s m args below meth c g A 7 (MQ below (QC g A (some (.int r)) S') args s 0 0 A) 0 0 70 [(5, .int x)] [] S) (fun x o1 hm hk1 => ?_) hlp34 ?_
    · obtain ⟨v5, v6⟩ := x
      replace hm : m_X5_rights_L34 v1 v2 w0 S v5 v6 = some o1 := hm
      show J p l e rmX5_rights s m args below meth c g A 7 (MQ below (QC g A (some (.int r)) S') args s 0 0 A) 0 0 34 [(1, .int v1), (2, .int v2), (4, .ref (g.2.1 w0)), (5, .int v5), (6, .int v6)] [] S
      unfold m_X5_rights_L34 at hm
      have hj64 : ∀ (v5 : Int32) (v6 : Int32), m_X5_rights_J64 v1 v2 w0 v5 v6 S = some o1 → J p l e rmX5_rights s m args below meth c g A 7 (MQ below (QC g A (some (.int r)) S') args s 0 0 A) 0 0 64 [(1, .int v1), (2, .int v2), (4, .ref (g.2.1 w0)), (5, .int v5), (6, .int v6)] [] S := by
        intro v5 v6 hm
        unfold m_X5_rights_J64 at hm
        refine j_iinc F (v := v6 + 1) (lv' := [(6, .int (v6 + 1)), (1, .int v1), (2, .int v2), (4, .ref (g.2.1 w0)), (5, .int v5)]) 4 dX5_rights_64 rfl rfl (by decide) rfl ?_
        refine j_goto F (tgt := 34) dX5_rights_67 (by decide) ?_
        cases hm
        refine j_sub [1, 2, 3, 4, 0] rfl ?_
        exact hk1
      refine j_iload F 4 dX5_rights_34 rfl ?_
      refine j_iconst F (v := 4) dX5_rights_36 (by decide) ?_
      refine j_icmp_ge F (tgt := 70) dX5_rights_37 (by decide) hm (fun _ hm => ?_) (fun _ hm => ?_)
      · cases hm
        refine j_sub [3] rfl ?_
        exact hk1
      · refine j_aload F 2 dX5_rights_40 rfl ?_
        refine j_iload_n F 0 dX5_rights_42 rfl ?_
        refine j_iload F 4 dX5_rights_43 rfl ?_
        refine j_iload_n F 1 dX5_rights_45 rfl ?_
        obtain ⟨r46, hc46, hm⟩ := Option.bind_eq_some_iff.mp hm
        refine j_callS F (n := 3) (As := [.int v1, .int v6, .int v2]) (rest := [.ref (g.2.1 w0)]) (c_X5_rightOf l g hg v1 v6 v2 S r46 hc46) gw_X5_154 (by decide +kernel) ⟨Nat.le_of_ble_eq_true rfl, Nat.le_of_ble_eq_true rfl⟩ ⟨Nat.le_of_ble_eq_true rfl, Nat.le_of_ble_eq_true rfl⟩ rfl rfl (Nat.le_of_ble_eq_true rfl) dX5_rights_46 ?_
        show J p l e rmX5_rights s m args below meth c g A 7 (MQ below (QC g A (some (.int r)) S') args s 0 0 A) 0 0 49 [(1, .int v1), (2, .int v2), (4, .ref (g.2.1 w0)), (5, .int v5), (6, .int v6)] [.int r46, .ref (g.2.1 w0)] S
        obtain ⟨r49, hc49, hm⟩ := Option.bind_eq_some_iff.mp hm
        refine j_callV F (n := 1) (As := [.int r46]) (rest := []) (c_X3_has l g hg w0 r46 hw0 S r49 hc49) gw_X5_158 (by decide +kernel) ⟨Nat.le_of_ble_eq_true rfl, Nat.le_of_ble_eq_true rfl⟩ ⟨Nat.le_of_ble_eq_true rfl, Nat.le_of_ble_eq_true rfl⟩ (isSt_lay hw0).1 rfl rfl rfl (Nat.le_of_ble_eq_true rfl) dX5_rights_49 ?_
        show J p l e rmX5_rights s m args below meth c g A 7 (MQ below (QC g A (some (.int r)) S') args s 0 0 A) 0 0 52 [(1, .int v1), (2, .int v2), (4, .ref (g.2.1 w0)), (5, .int v5), (6, .int v6)] [.int r49] S
        refine j_if_eq F (tgt := 64) dX5_rights_52 (by decide) hm (fun _ hm => ?_) (fun _ hm => ?_)
        · refine j_sub [0, 1, 2, 3, 4] rfl ?_
          exact hj64 v5 v6  hm
        · refine j_iload F 3 dX5_rights_55 rfl ?_
          refine j_iconst F (v := 1) dX5_rights_57 (by decide) ?_
          refine j_iload F 4 dX5_rights_58 rfl ?_
          refine j_ishl F dX5_rights_60 ?_
          refine j_ior F dX5_rights_61 ?_
          refine j_bnd hm (fun v5_62 hm => ?_)
          refine j_istore F (lv' := [(5, .int v5_62), (1, .int v1), (2, .int v2), (4, .ref (g.2.1 w0)), (6, .int v6)]) dX5_rights_62 (by decide) rfl ?_
          refine j_sub [1, 2, 3, 0, 4] rfl ?_
          exact hj64 v5_62 v6  hm
    · show J p l e rmX5_rights s m args below meth c g A 7 (MQ below (QC g A (some (.int r)) S') args s 0 0 A) 0 0 70 [(5, .int y34)] [] S
      refine j_iload F 0 dX5_rights_70 rfl ?_
      exact j_iret_e F rfl dX5_rights_72 (inl_e hm)
  refine j_aload_n F 0 dX5_rights_0 rfl ?_
  refine j_iload_n F 1 dX5_rights_1 rfl ?_
  refine j_iconst F (v := 0) dX5_rights_2 (by decide) ?_
  refine j_iload_n F 2 dX5_rights_3 rfl ?_
  refine bndP_ok hm (fun r4 hc4 hm => ?_) (fun q hc4 hm => ?_)
  · refine j_callV F (n := 3) (As := [.int v1, .int 0, .int v2]) (rest := []) (c_X5_checkRight l g hg v1 0 v2 S hc4) gw_X5_150 (by decide +kernel) ⟨Nat.le_of_ble_eq_true rfl, Nat.le_of_ble_eq_true rfl⟩ ⟨Nat.le_of_ble_eq_true rfl, Nat.le_of_ble_eq_true rfl⟩ rfl rfl rfl rfl (Nat.le_of_ble_eq_true rfl) dX5_rights_4 ?_
    show J p l e rmX5_rights s m args below meth c g A 7 (MQ below (QC g A (some (.int r)) S') args s 0 0 A) 0 0 7 [(0, .ref (g.2.1 0)), (1, .int v1), (2, .int v2), (3, .int v3)] [] S
    refine j_iload_n F 3 dX5_rights_7 rfl ?_
    refine j_if_eq F (tgt := 22) dX5_rights_8 (by decide) hm (fun _ hm => ?_) (fun _ hm => ?_)
    · refine j_aload_n F 0 dX5_rights_22 rfl ?_
      refine j_getR F (k0 := 1) (C := RX5) (T := TX5) (N := 11) rfl rfl rfl inF5 (by decide) tw316 dX5_rights_23 ?_
      refine j_sub [1, 2] rfl ?_
      exact hj26 v1 v2 29 S (by decide) hm
    · refine j_aload_n F 0 dX5_rights_11 rfl ?_
      refine j_aload_n F 0 dX5_rights_12 rfl ?_
      refine j_getR F (k0 := 1) (C := RX5) (T := TX5) (N := 11) rfl rfl rfl inF5 (by decide) tw316 dX5_rights_13 ?_
      obtain ⟨r16, S16, hc16, hm⟩ := bndE_ok hm
      refine j_callV F (n := 1) (As := [.ref (g.2.1 29)]) (rest := []) (c_X5_endOf l g hg 29 (by decide) S r16 S16 hc16) gw_X5_113 (by decide +kernel) ⟨Nat.le_of_ble_eq_true rfl, Nat.le_of_ble_eq_true rfl⟩ ⟨Nat.le_of_ble_eq_true rfl, Nat.le_of_ble_eq_true rfl⟩ rfl rfl rfl rfl (Nat.le_of_ble_eq_true rfl) dX5_rights_16 ?_
      obtain ⟨hs_r16, hm⟩ := gd_ok hm
      show J p l e rmX5_rights s m args below meth c g A 7 (MQ below (QC g A (some (.int r)) S') args s 0 0 A) 0 0 19 [(0, .ref (g.2.1 0)), (1, .int v1), (2, .int v2), (3, .int v3)] [.ref (g.2.1 r16)] S16
      refine j_goto F (tgt := 26) dX5_rights_19 (by decide) ?_
      refine j_sub [1, 2] rfl ?_
      exact hj26 v1 v2 r16 S16 hs_r16 hm
  · cases hm
set_option maxRecDepth 100000 in
set_option maxHeartbeats 4000000 in
theorem x_X5_rights (l : Launch) (hst : l.stackTraces = false) (g : GG) (hg : Inj g) (v1 : Int32) (v2 : Int32) (v3 : Int32)  (S : Hs) (n : Nat) (S' : Hs) (hm : m_X5_rights v1 v2 v3 S = some ((.inr n, S'))) : CX l yX5_rights [.code yX5_rights cX5_rights 7 (some .int)] rxX5_rights [.ref (g.2.1 0), .int v1, .int v2, .int v3] g S n S' := by
  unfold m_X5_rights at hm
  refine CX.of (cc := cX5_rights) (nL := 7) (ret := (some .int)) (lv := [(0, .ref (g.2.1 0)), (1, .int v1), (2, .int v2), (3, .int v3)]) (by decide +kernel) hg (Nat.le_of_ble_eq_true rfl) rfl rfl rfl hst (fun p e s m args below meth c A F FS => ?_)
  replace F : Fx p s m meth c cX5_rights RX5 7 (some .int) g A := F
  replace FS : FX9 l s c A := FS
  show J p l e rxX5_rights s m args below meth c g A 7 (vx_MQ below QF (XQ g A n S') args s 1 6 A) 0 0 0 [(0, .ref (g.2.1 0)), (1, .int v1), (2, .int v2), (3, .int v3)] [] S
  have hj26 : ∀ (v1 : Int32) (v2 : Int32) (w0 : Nat) (S : Hs), isSt w0 = true → m_X5_rights_J26 v1 v2 w0 S = some ((.inr n, S')) → J p l e rxX5_rights s m args below meth c g A 7 (vx_MQ below QF (XQ g A n S') args s 1 6 A) 0 0 26 [(1, .int v1), (2, .int v2)] [.ref (g.2.1 w0)] S := by
    intro v1 v2 w0 S hw0 hm
    unfold m_X5_rights_J26 at hm
    refine j_astore F (lv' := [(4, .ref (g.2.1 w0)), (1, .int v1), (2, .int v2)]) dX5_rights_26 (by decide) rfl ?_
    refine j_iconst F (v := 0) dX5_rights_28 (by decide) ?_
    refine j_istore F (lv' := [(5, .int 0), (4, .ref (g.2.1 w0)), (1, .int v1), (2, .int v2)]) dX5_rights_29 (by decide) rfl ?_
    refine j_iconst F (v := 0) dX5_rights_31 (by decide) ?_
    refine j_istore F (lv' := [(6, .int 0), (5, .int 0), (4, .ref (g.2.1 w0)), (1, .int v1), (2, .int v2)]) dX5_rights_32 (by decide) rfl ?_
    refine j_sub [3, 4, 2, 1, 0] rfl ?_
    obtain ⟨y34, hlp34, hm⟩ := Option.bind_eq_some_iff.mp hm
    refine loopO_walk (fun x => m_X5_rights_L34 v1 v2 w0 S x.1 x.2) (fun x => J p l e rxX5_rights s m args below meth c g A 7 (vx_MQ below QF (XQ g A n S') args s 1 6 A) 0 0 34 [(1, .int v1), (2, .int v2), (4, .ref (g.2.1 w0)), (5, .int x.1), (6, .int x.2)] [] S) (fun x => J p l e rxX5_rights s m args below meth c g A 7 (vx_MQ below QF (XQ g A n S') args s 1 6 A) 0 0 70 [(5, .int x)] [] S) (fun x o1 hm hk1 => ?_) hlp34 ?_
    · obtain ⟨v5, v6⟩ := x
      replace hm : m_X5_rights_L34 v1 v2 w0 S v5 v6 = some o1 := hm
      show J p l e rxX5_rights s m args below meth c g A 7 (vx_MQ below QF (XQ g A n S') args s 1 6 A) 0 0 34 [(1, .int v1), (2, .int v2), (4, .ref (g.2.1 w0)), (5, .int v5), (6, .int v6)] [] S
      unfold m_X5_rights_L34 at hm
      have hj64 : ∀ (v5 : Int32) (v6 : Int32), m_X5_rights_J64 v1 v2 w0 v5 v6 S = some o1 → J p l e rxX5_rights s m args below meth c g A 7 (vx_MQ below QF (XQ g A n S') args s 1 6 A) 0 0 64 [(1, .int v1), (2, .int v2), (4, .ref (g.2.1 w0)), (5, .int v5), (6, .int v6)] [] S := by
        intro v5 v6 hm
        unfold m_X5_rights_J64 at hm
        refine j_iinc F (v := v6 + 1) (lv' := [(6, .int (v6 + 1)), (1, .int v1), (2, .int v2), (4, .ref (g.2.1 w0)), (5, .int v5)]) 4 dX5_rights_64 rfl rfl (by decide) rfl ?_
        refine j_goto F (tgt := 34) dX5_rights_67 (by decide) ?_
        cases hm
        refine j_sub [1, 2, 3, 4, 0] rfl ?_
        exact hk1
      refine j_iload F 4 dX5_rights_34 rfl ?_
      refine j_iconst F (v := 4) dX5_rights_36 (by decide) ?_
      refine j_icmp_ge F (tgt := 70) dX5_rights_37 (by decide) hm (fun _ hm => ?_) (fun _ hm => ?_)
      · cases hm
        refine j_sub [3] rfl ?_
        exact hk1
      · refine j_aload F 2 dX5_rights_40 rfl ?_
        refine j_iload_n F 0 dX5_rights_42 rfl ?_
        refine j_iload F 4 dX5_rights_43 rfl ?_
        refine j_iload_n F 1 dX5_rights_45 rfl ?_
        obtain ⟨r46, hc46, hm⟩ := Option.bind_eq_some_iff.mp hm
        refine j_callS F (n := 3) (As := [.int v1, .int v6, .int v2]) (rest := [.ref (g.2.1 w0)]) (c_X5_rightOf l g hg v1 v6 v2 S r46 hc46) gw_X5_154 (by decide +kernel) ⟨Nat.le_of_ble_eq_true rfl, Nat.le_of_ble_eq_true rfl⟩ ⟨Nat.le_of_ble_eq_true rfl, Nat.le_of_ble_eq_true rfl⟩ rfl rfl (Nat.le_of_ble_eq_true rfl) dX5_rights_46 ?_
        show J p l e rxX5_rights s m args below meth c g A 7 (vx_MQ below QF (XQ g A n S') args s 1 6 A) 0 0 49 [(1, .int v1), (2, .int v2), (4, .ref (g.2.1 w0)), (5, .int v5), (6, .int v6)] [.int r46, .ref (g.2.1 w0)] S
        obtain ⟨r49, hc49, hm⟩ := Option.bind_eq_some_iff.mp hm
        refine j_callV F (n := 1) (As := [.int r46]) (rest := []) (c_X3_has l g hg w0 r46 hw0 S r49 hc49) gw_X5_158 (by decide +kernel) ⟨Nat.le_of_ble_eq_true rfl, Nat.le_of_ble_eq_true rfl⟩ ⟨Nat.le_of_ble_eq_true rfl, Nat.le_of_ble_eq_true rfl⟩ (isSt_lay hw0).1 rfl rfl rfl (Nat.le_of_ble_eq_true rfl) dX5_rights_49 ?_
        show J p l e rxX5_rights s m args below meth c g A 7 (vx_MQ below QF (XQ g A n S') args s 1 6 A) 0 0 52 [(1, .int v1), (2, .int v2), (4, .ref (g.2.1 w0)), (5, .int v5), (6, .int v6)] [.int r49] S
        refine j_if_eq F (tgt := 64) dX5_rights_52 (by decide) hm (fun _ hm => ?_) (fun _ hm => ?_)
        · refine j_sub [0, 1, 2, 3, 4] rfl ?_
          exact hj64 v5 v6  hm
        · refine j_iload F 3 dX5_rights_55 rfl ?_
          refine j_iconst F (v := 1) dX5_rights_57 (by decide) ?_
          refine j_iload F 4 dX5_rights_58 rfl ?_
          refine j_ishl F dX5_rights_60 ?_
          refine j_ior F dX5_rights_61 ?_
          refine j_bnd hm (fun v5_62 hm => ?_)
          refine j_istore F (lv' := [(5, .int v5_62), (1, .int v1), (2, .int v2), (4, .ref (g.2.1 w0)), (6, .int v6)]) dX5_rights_62 (by decide) rfl ?_
          refine j_sub [1, 2, 3, 0, 4] rfl ?_
          exact hj64 v5_62 v6  hm
    · show J p l e rxX5_rights s m args below meth c g A 7 (vx_MQ below QF (XQ g A n S') args s 1 6 A) 0 0 70 [(5, .int y34)] [] S
      refine j_iload F 0 dX5_rights_70 rfl ?_
      cases hm
  refine j_aload_n F 0 dX5_rights_0 rfl ?_
  refine j_iload_n F 1 dX5_rights_1 rfl ?_
  refine j_iconst F (v := 0) dX5_rights_2 (by decide) ?_
  refine j_iload_n F 2 dX5_rights_3 rfl ?_
  refine bndP_ok hm (fun r4 hc4 hm => ?_) (fun q hc4 hm => ?_)
  · refine j_callV F (n := 3) (As := [.int v1, .int 0, .int v2]) (rest := []) (c_X5_checkRight l g hg v1 0 v2 S hc4) gw_X5_150 (by decide +kernel) ⟨Nat.le_of_ble_eq_true rfl, Nat.le_of_ble_eq_true rfl⟩ ⟨Nat.le_of_ble_eq_true rfl, Nat.le_of_ble_eq_true rfl⟩ rfl rfl rfl rfl (Nat.le_of_ble_eq_true rfl) dX5_rights_4 ?_
    show J p l e rxX5_rights s m args below meth c g A 7 (vx_MQ below QF (XQ g A n S') args s 1 6 A) 0 0 7 [(0, .ref (g.2.1 0)), (1, .int v1), (2, .int v2), (3, .int v3)] [] S
    refine j_iload_n F 3 dX5_rights_7 rfl ?_
    refine j_if_eq F (tgt := 22) dX5_rights_8 (by decide) hm (fun _ hm => ?_) (fun _ hm => ?_)
    · refine j_aload_n F 0 dX5_rights_22 rfl ?_
      refine j_getR F (k0 := 1) (C := RX5) (T := TX5) (N := 11) rfl rfl rfl inF5 (by decide) tw316 dX5_rights_23 ?_
      refine j_sub [1, 2] rfl ?_
      exact hj26 v1 v2 29 S (by decide) hm
    · refine j_aload_n F 0 dX5_rights_11 rfl ?_
      refine j_aload_n F 0 dX5_rights_12 rfl ?_
      refine j_getR F (k0 := 1) (C := RX5) (T := TX5) (N := 11) rfl rfl rfl inF5 (by decide) tw316 dX5_rights_13 ?_
      obtain ⟨r16, S16, hc16, hm⟩ := bndE_ok hm
      refine j_callV F (n := 1) (As := [.ref (g.2.1 29)]) (rest := []) (c_X5_endOf l g hg 29 (by decide) S r16 S16 hc16) gw_X5_113 (by decide +kernel) ⟨Nat.le_of_ble_eq_true rfl, Nat.le_of_ble_eq_true rfl⟩ ⟨Nat.le_of_ble_eq_true rfl, Nat.le_of_ble_eq_true rfl⟩ rfl rfl rfl rfl (Nat.le_of_ble_eq_true rfl) dX5_rights_16 ?_
      obtain ⟨hs_r16, hm⟩ := gd_ok hm
      show J p l e rxX5_rights s m args below meth c g A 7 (vx_MQ below QF (XQ g A n S') args s 1 6 A) 0 0 19 [(0, .ref (g.2.1 0)), (1, .int v1), (2, .int v2), (3, .int v3)] [.ref (g.2.1 r16)] S16
      refine j_goto F (tgt := 26) dX5_rights_19 (by decide) ?_
      refine j_sub [1, 2] rfl ?_
      exact hj26 v1 v2 r16 S16 hs_r16 hm
  · cases hm
    exact j_callXV F FS (k := 3) (As := [.int v1, .int 0, .int v2]) (rest := []) (x_X5_checkRight l hst g hg v1 0 v2 S _ hc4) gw_X5_150 (by decide +kernel) ⟨Nat.le_of_ble_eq_true rfl, Nat.le_of_ble_eq_true rfl⟩ ⟨Nat.le_of_ble_eq_true rfl, Nat.le_of_ble_eq_true rfl⟩ rfl rfl rfl rfl (Nat.le_of_ble_eq_true rfl) dX5_rights_4 (Nat.le_refl _) (Nat.le_refl _)
def m_X5_round_J53 (w0 : Int32) (S : Hs) : Option ((Int32 ⊕ Nat) × Hs) := some ((.inl w0, S))
noncomputable def m_X5_round (v1 : Int32) (v2 : Int32) (v3 : Int32) (S : Hs) : Option ((Int32 ⊕ Nat) × Hs) := bndP (m_X5_checkRight v1 v2 v3 S) (fun r4 => ((m_X2_follow 29 S).bind fun S15 => ((m_X5_rightOf v1 v2 v3).bind fun r21 => ((m_X2_comes r21 S15).bind fun r32 => (if r32 = 0 then (m_X5_round_J53 ((-9)) S15) else (gd (inb r21 196) (m_X5_round_J53 (gA S15 7 r21.toNatClampNeg) S15))))))) (fun q => some ((.inr q, S)))
set_option maxRecDepth 100000 in
set_option maxHeartbeats 4000000 in
theorem c_X5_round (l : Launch) (g : GG) (hg : Inj g) (v1 : Int32) (v2 : Int32) (v3 : Int32)  (S : Hs) (r : Int32) (S' : Hs) (hm : m_X5_round v1 v2 v3 S = some ((.inl r, S'))) : CM l yX5_round [.code yX5_round cX5_round 5 (some .int)] rmX5_round [.ref (g.2.1 0), .int v1, .int v2, .int v3] g S (some (.int r)) S' := by
  unfold m_X5_round at hm
  refine CM.of (cc := cX5_round) (nL := 5) (ret := (some .int)) (lv := [(0, .ref (g.2.1 0)), (1, .int v1), (2, .int v2), (3, .int v3)]) (by decide +kernel) hg (Nat.le_of_ble_eq_true rfl) rfl (fun p e s m args below meth c A F => ?_)
  replace F : Fx p s m meth c cX5_round RX5 5 (some .int) g A := F
  show J p l e rmX5_round s m args below meth c g A 5 (MQ below (QC g A (some (.int r)) S') args s 0 0 A) 0 0 0 [(0, .ref (g.2.1 0)), (1, .int v1), (2, .int v2), (3, .int v3)] [] S
  have hj53 : ∀ (w0 : Int32) (S : Hs), m_X5_round_J53 w0 S = some ((.inl r, S')) → J p l e rmX5_round s m args below meth c g A 5 (MQ below (QC g A (some (.int r)) S') args s 0 0 A) 0 0 53 [] [.int w0] S := by
    intro w0 S hm
    unfold m_X5_round_J53 at hm
    exact j_iret_e F rfl dX5_round_53 (inl_e hm)
  refine j_aload_n F 0 dX5_round_0 rfl ?_
  refine j_iload_n F 1 dX5_round_1 rfl ?_
  refine j_iload_n F 2 dX5_round_2 rfl ?_
  refine j_iload_n F 3 dX5_round_3 rfl ?_
  refine bndP_ok hm (fun r4 hc4 hm => ?_) (fun q hc4 hm => ?_)
  · refine j_callV F (n := 3) (As := [.int v1, .int v2, .int v3]) (rest := []) (c_X5_checkRight l g hg v1 v2 v3 S hc4) gw_X5_150 (by decide +kernel) ⟨Nat.le_of_ble_eq_true rfl, Nat.le_of_ble_eq_true rfl⟩ ⟨Nat.le_of_ble_eq_true rfl, Nat.le_of_ble_eq_true rfl⟩ rfl rfl rfl rfl (Nat.le_of_ble_eq_true rfl) dX5_round_4 ?_
    show J p l e rmX5_round s m args below meth c g A 5 (MQ below (QC g A (some (.int r)) S') args s 0 0 A) 0 0 7 [(0, .ref (g.2.1 0)), (1, .int v1), (2, .int v2), (3, .int v3)] [] S
    refine j_aload_n F 0 dX5_round_7 rfl ?_
    refine j_getR F (k0 := 8) (C := RX5) (T := TX5) (N := 11) rfl rfl rfl inF5 (by decide) tw324 dX5_round_8 ?_
    refine j_aload_n F 0 dX5_round_11 rfl ?_
    refine j_getR F (k0 := 1) (C := RX5) (T := TX5) (N := 11) rfl rfl rfl inF5 (by decide) tw316 dX5_round_12 ?_
    obtain ⟨S15, hc15, hm⟩ := Option.bind_eq_some_iff.mp hm
    refine j_callV F (n := 1) (As := [.ref (g.2.1 29)]) (rest := []) (c_X2_follow l g hg 29 (by decide) S S15 hc15) gw_X5_117 (by decide +kernel) ⟨Nat.le_of_ble_eq_true rfl, Nat.le_of_ble_eq_true rfl⟩ ⟨Nat.le_of_ble_eq_true rfl, Nat.le_of_ble_eq_true rfl⟩ rfl rfl rfl rfl (Nat.le_of_ble_eq_true rfl) dX5_round_15 ?_
    show J p l e rmX5_round s m args below meth c g A 5 (MQ below (QC g A (some (.int r)) S') args s 0 0 A) 0 0 18 [(0, .ref (g.2.1 0)), (1, .int v1), (2, .int v2), (3, .int v3)] [] S15
    refine j_iload_n F 1 dX5_round_18 rfl ?_
    refine j_iload_n F 2 dX5_round_19 rfl ?_
    refine j_iload_n F 3 dX5_round_20 rfl ?_
    obtain ⟨r21, hc21, hm⟩ := Option.bind_eq_some_iff.mp hm
    refine j_callS F (n := 3) (As := [.int v1, .int v2, .int v3]) (rest := []) (c_X5_rightOf l g hg v1 v2 v3 S15 r21 hc21) gw_X5_154 (by decide +kernel) ⟨Nat.le_of_ble_eq_true rfl, Nat.le_of_ble_eq_true rfl⟩ ⟨Nat.le_of_ble_eq_true rfl, Nat.le_of_ble_eq_true rfl⟩ rfl rfl (Nat.le_of_ble_eq_true rfl) dX5_round_21 ?_
    show J p l e rmX5_round s m args below meth c g A 5 (MQ below (QC g A (some (.int r)) S') args s 0 0 A) 0 0 24 [(0, .ref (g.2.1 0)), (1, .int v1), (2, .int v2), (3, .int v3)] [.int r21] S15
    refine j_istore F (lv' := [(4, .int r21), (0, .ref (g.2.1 0)), (1, .int v1), (2, .int v2), (3, .int v3)]) dX5_round_24 (by decide) rfl ?_
    refine j_aload_n F 1 dX5_round_26 rfl ?_
    refine j_getR F (k0 := 8) (C := RX5) (T := TX5) (N := 11) rfl rfl rfl inF5 (by decide) tw324 dX5_round_27 ?_
    refine j_iload F 0 dX5_round_30 rfl ?_
    obtain ⟨r32, hc32, hm⟩ := Option.bind_eq_some_iff.mp hm
    refine j_callV F (n := 1) (As := [.int r21]) (rest := []) (c_X2_comes l g hg r21 S15 r32 hc32) gw_X5_161 (by decide +kernel) ⟨Nat.le_of_ble_eq_true rfl, Nat.le_of_ble_eq_true rfl⟩ ⟨Nat.le_of_ble_eq_true rfl, Nat.le_of_ble_eq_true rfl⟩ rfl rfl rfl rfl (Nat.le_of_ble_eq_true rfl) dX5_round_32 ?_
    show J p l e rmX5_round s m args below meth c g A 5 (MQ below (QC g A (some (.int r)) S') args s 0 0 A) 0 0 35 [(4, .int r21), (0, .ref (g.2.1 0)), (1, .int v1), (2, .int v2), (3, .int v3)] [.int r32] S15
    refine j_if_eq F (tgt := 51) dX5_round_35 (by decide) hm (fun _ hm => ?_) (fun _ hm => ?_)
    · refine j_bipush F (v := -9) dX5_round_51 (by decide) ?_
      refine j_sub [] rfl ?_
      exact hj53 ((-9)) S15  hm
    · refine j_aload_n F 1 dX5_round_38 rfl ?_
      refine j_getR F (k0 := 8) (C := RX5) (T := TX5) (N := 11) rfl rfl rfl inF5 (by decide) tw324 dX5_round_39 ?_
      refine j_getR F (k0 := 1) (C := RX2) (T := TX2) (N := 7) rfl rfl rfl inF2 (by decide) tw397 dX5_round_42 ?_
      refine j_iload F 0 dX5_round_45 rfl ?_
      refine j_iald F rfl dX5_round_47 hm (fun hm => ?_)
      refine j_goto F (tgt := 53) dX5_round_48 (by decide) ?_
      refine j_sub [] rfl ?_
      exact hj53 (gA S15 7 r21.toNatClampNeg) S15  hm
  · cases hm
set_option maxRecDepth 100000 in
set_option maxHeartbeats 4000000 in
theorem x_X5_round (l : Launch) (hst : l.stackTraces = false) (g : GG) (hg : Inj g) (v1 : Int32) (v2 : Int32) (v3 : Int32)  (S : Hs) (n : Nat) (S' : Hs) (hm : m_X5_round v1 v2 v3 S = some ((.inr n, S'))) : CX l yX5_round [.code yX5_round cX5_round 5 (some .int)] rxX5_round [.ref (g.2.1 0), .int v1, .int v2, .int v3] g S n S' := by
  unfold m_X5_round at hm
  refine CX.of (cc := cX5_round) (nL := 5) (ret := (some .int)) (lv := [(0, .ref (g.2.1 0)), (1, .int v1), (2, .int v2), (3, .int v3)]) (by decide +kernel) hg (Nat.le_of_ble_eq_true rfl) rfl rfl rfl hst (fun p e s m args below meth c A F FS => ?_)
  replace F : Fx p s m meth c cX5_round RX5 5 (some .int) g A := F
  replace FS : FX9 l s c A := FS
  show J p l e rxX5_round s m args below meth c g A 5 (vx_MQ below QF (XQ g A n S') args s 1 6 A) 0 0 0 [(0, .ref (g.2.1 0)), (1, .int v1), (2, .int v2), (3, .int v3)] [] S
  have hj53 : ∀ (w0 : Int32) (S : Hs), m_X5_round_J53 w0 S = some ((.inr n, S')) → J p l e rxX5_round s m args below meth c g A 5 (vx_MQ below QF (XQ g A n S') args s 1 6 A) 0 0 53 [] [.int w0] S := by
    intro w0 S hm
    unfold m_X5_round_J53 at hm
    cases hm
  refine j_aload_n F 0 dX5_round_0 rfl ?_
  refine j_iload_n F 1 dX5_round_1 rfl ?_
  refine j_iload_n F 2 dX5_round_2 rfl ?_
  refine j_iload_n F 3 dX5_round_3 rfl ?_
  refine bndP_ok hm (fun r4 hc4 hm => ?_) (fun q hc4 hm => ?_)
  · refine j_callV F (n := 3) (As := [.int v1, .int v2, .int v3]) (rest := []) (c_X5_checkRight l g hg v1 v2 v3 S hc4) gw_X5_150 (by decide +kernel) ⟨Nat.le_of_ble_eq_true rfl, Nat.le_of_ble_eq_true rfl⟩ ⟨Nat.le_of_ble_eq_true rfl, Nat.le_of_ble_eq_true rfl⟩ rfl rfl rfl rfl (Nat.le_of_ble_eq_true rfl) dX5_round_4 ?_
    show J p l e rxX5_round s m args below meth c g A 5 (vx_MQ below QF (XQ g A n S') args s 1 6 A) 0 0 7 [(0, .ref (g.2.1 0)), (1, .int v1), (2, .int v2), (3, .int v3)] [] S
    refine j_aload_n F 0 dX5_round_7 rfl ?_
    refine j_getR F (k0 := 8) (C := RX5) (T := TX5) (N := 11) rfl rfl rfl inF5 (by decide) tw324 dX5_round_8 ?_
    refine j_aload_n F 0 dX5_round_11 rfl ?_
    refine j_getR F (k0 := 1) (C := RX5) (T := TX5) (N := 11) rfl rfl rfl inF5 (by decide) tw316 dX5_round_12 ?_
    obtain ⟨S15, hc15, hm⟩ := Option.bind_eq_some_iff.mp hm
    refine j_callV F (n := 1) (As := [.ref (g.2.1 29)]) (rest := []) (c_X2_follow l g hg 29 (by decide) S S15 hc15) gw_X5_117 (by decide +kernel) ⟨Nat.le_of_ble_eq_true rfl, Nat.le_of_ble_eq_true rfl⟩ ⟨Nat.le_of_ble_eq_true rfl, Nat.le_of_ble_eq_true rfl⟩ rfl rfl rfl rfl (Nat.le_of_ble_eq_true rfl) dX5_round_15 ?_
    show J p l e rxX5_round s m args below meth c g A 5 (vx_MQ below QF (XQ g A n S') args s 1 6 A) 0 0 18 [(0, .ref (g.2.1 0)), (1, .int v1), (2, .int v2), (3, .int v3)] [] S15
    refine j_iload_n F 1 dX5_round_18 rfl ?_
    refine j_iload_n F 2 dX5_round_19 rfl ?_
    refine j_iload_n F 3 dX5_round_20 rfl ?_
    obtain ⟨r21, hc21, hm⟩ := Option.bind_eq_some_iff.mp hm
    refine j_callS F (n := 3) (As := [.int v1, .int v2, .int v3]) (rest := []) (c_X5_rightOf l g hg v1 v2 v3 S15 r21 hc21) gw_X5_154 (by decide +kernel) ⟨Nat.le_of_ble_eq_true rfl, Nat.le_of_ble_eq_true rfl⟩ ⟨Nat.le_of_ble_eq_true rfl, Nat.le_of_ble_eq_true rfl⟩ rfl rfl (Nat.le_of_ble_eq_true rfl) dX5_round_21 ?_
    show J p l e rxX5_round s m args below meth c g A 5 (vx_MQ below QF (XQ g A n S') args s 1 6 A) 0 0 24 [(0, .ref (g.2.1 0)), (1, .int v1), (2, .int v2), (3, .int v3)] [.int r21] S15
    refine j_istore F (lv' := [(4, .int r21), (0, .ref (g.2.1 0)), (1, .int v1), (2, .int v2), (3, .int v3)]) dX5_round_24 (by decide) rfl ?_
    refine j_aload_n F 1 dX5_round_26 rfl ?_
    refine j_getR F (k0 := 8) (C := RX5) (T := TX5) (N := 11) rfl rfl rfl inF5 (by decide) tw324 dX5_round_27 ?_
    refine j_iload F 0 dX5_round_30 rfl ?_
    obtain ⟨r32, hc32, hm⟩ := Option.bind_eq_some_iff.mp hm
    refine j_callV F (n := 1) (As := [.int r21]) (rest := []) (c_X2_comes l g hg r21 S15 r32 hc32) gw_X5_161 (by decide +kernel) ⟨Nat.le_of_ble_eq_true rfl, Nat.le_of_ble_eq_true rfl⟩ ⟨Nat.le_of_ble_eq_true rfl, Nat.le_of_ble_eq_true rfl⟩ rfl rfl rfl rfl (Nat.le_of_ble_eq_true rfl) dX5_round_32 ?_
    show J p l e rxX5_round s m args below meth c g A 5 (vx_MQ below QF (XQ g A n S') args s 1 6 A) 0 0 35 [(4, .int r21), (0, .ref (g.2.1 0)), (1, .int v1), (2, .int v2), (3, .int v3)] [.int r32] S15
    refine j_if_eq F (tgt := 51) dX5_round_35 (by decide) hm (fun _ hm => ?_) (fun _ hm => ?_)
    · refine j_bipush F (v := -9) dX5_round_51 (by decide) ?_
      refine j_sub [] rfl ?_
      exact hj53 ((-9)) S15  hm
    · refine j_aload_n F 1 dX5_round_38 rfl ?_
      refine j_getR F (k0 := 8) (C := RX5) (T := TX5) (N := 11) rfl rfl rfl inF5 (by decide) tw324 dX5_round_39 ?_
      refine j_getR F (k0 := 1) (C := RX2) (T := TX2) (N := 7) rfl rfl rfl inF2 (by decide) tw397 dX5_round_42 ?_
      refine j_iload F 0 dX5_round_45 rfl ?_
      refine j_iald F rfl dX5_round_47 hm (fun hm => ?_)
      refine j_goto F (tgt := 53) dX5_round_48 (by decide) ?_
      refine j_sub [] rfl ?_
      exact hj53 (gA S15 7 r21.toNatClampNeg) S15  hm
  · cases hm
    exact j_callXV F FS (k := 3) (As := [.int v1, .int v2, .int v3]) (rest := []) (x_X5_checkRight l hst g hg v1 v2 v3 S _ hc4) gw_X5_150 (by decide +kernel) ⟨Nat.le_of_ble_eq_true rfl, Nat.le_of_ble_eq_true rfl⟩ ⟨Nat.le_of_ble_eq_true rfl, Nat.le_of_ble_eq_true rfl⟩ rfl rfl rfl rfl (Nat.le_of_ble_eq_true rfl) dX5_round_4 (Nat.le_refl _) (Nat.le_refl _)
noncomputable def m_X5_way (v1 : Int32) (v2 : Int32) (v3 : Int32) (S : Hs) : Option ((Int32 ⊕ Nat) × Hs) := bndP (m_X5_checkRight v1 v2 v3 S) (fun r4 => ((m_X2_follow 29 S).bind fun S15 => ((m_X5_rightOf v1 v2 v3).bind fun r25 => ((m_X2_wayOf r25 S15).bind fun r28 => (some ((.inl r28, S15))))))) (fun q => some ((.inr q, S)))
set_option maxRecDepth 100000 in
set_option maxHeartbeats 4000000 in
theorem c_X5_way (l : Launch) (g : GG) (hg : Inj g) (v1 : Int32) (v2 : Int32) (v3 : Int32)  (S : Hs) (r : Int32) (S' : Hs) (hm : m_X5_way v1 v2 v3 S = some ((.inl r, S'))) : CM l yX5_way [.code yX5_way cX5_way 4 (some .int)] rmX5_way [.ref (g.2.1 0), .int v1, .int v2, .int v3] g S (some (.int r)) S' := by
  unfold m_X5_way at hm
  refine CM.of (cc := cX5_way) (nL := 4) (ret := (some .int)) (lv := [(0, .ref (g.2.1 0)), (1, .int v1), (2, .int v2), (3, .int v3)]) (by decide +kernel) hg (Nat.le_of_ble_eq_true rfl) rfl (fun p e s m args below meth c A F => ?_)
  replace F : Fx p s m meth c cX5_way RX5 4 (some .int) g A := F
  show J p l e rmX5_way s m args below meth c g A 4 (MQ below (QC g A (some (.int r)) S') args s 0 0 A) 0 0 0 [(0, .ref (g.2.1 0)), (1, .int v1), (2, .int v2), (3, .int v3)] [] S
  refine j_aload_n F 0 dX5_way_0 rfl ?_
  refine j_iload_n F 1 dX5_way_1 rfl ?_
  refine j_iload_n F 2 dX5_way_2 rfl ?_
  refine j_iload_n F 3 dX5_way_3 rfl ?_
  refine bndP_ok hm (fun r4 hc4 hm => ?_) (fun q hc4 hm => ?_)
  · refine j_callV F (n := 3) (As := [.int v1, .int v2, .int v3]) (rest := []) (c_X5_checkRight l g hg v1 v2 v3 S hc4) gw_X5_150 (by decide +kernel) ⟨Nat.le_of_ble_eq_true rfl, Nat.le_of_ble_eq_true rfl⟩ ⟨Nat.le_of_ble_eq_true rfl, Nat.le_of_ble_eq_true rfl⟩ rfl rfl rfl rfl (Nat.le_of_ble_eq_true rfl) dX5_way_4 ?_
    show J p l e rmX5_way s m args below meth c g A 4 (MQ below (QC g A (some (.int r)) S') args s 0 0 A) 0 0 7 [(0, .ref (g.2.1 0)), (1, .int v1), (2, .int v2), (3, .int v3)] [] S
    refine j_aload_n F 0 dX5_way_7 rfl ?_
    refine j_getR F (k0 := 8) (C := RX5) (T := TX5) (N := 11) rfl rfl rfl inF5 (by decide) tw324 dX5_way_8 ?_
    refine j_aload_n F 0 dX5_way_11 rfl ?_
    refine j_getR F (k0 := 1) (C := RX5) (T := TX5) (N := 11) rfl rfl rfl inF5 (by decide) tw316 dX5_way_12 ?_
    obtain ⟨S15, hc15, hm⟩ := Option.bind_eq_some_iff.mp hm
    refine j_callV F (n := 1) (As := [.ref (g.2.1 29)]) (rest := []) (c_X2_follow l g hg 29 (by decide) S S15 hc15) gw_X5_117 (by decide +kernel) ⟨Nat.le_of_ble_eq_true rfl, Nat.le_of_ble_eq_true rfl⟩ ⟨Nat.le_of_ble_eq_true rfl, Nat.le_of_ble_eq_true rfl⟩ rfl rfl rfl rfl (Nat.le_of_ble_eq_true rfl) dX5_way_15 ?_
    show J p l e rmX5_way s m args below meth c g A 4 (MQ below (QC g A (some (.int r)) S') args s 0 0 A) 0 0 18 [(0, .ref (g.2.1 0)), (1, .int v1), (2, .int v2), (3, .int v3)] [] S15
    refine j_aload_n F 0 dX5_way_18 rfl ?_
    refine j_getR F (k0 := 8) (C := RX5) (T := TX5) (N := 11) rfl rfl rfl inF5 (by decide) tw324 dX5_way_19 ?_
    refine j_iload_n F 1 dX5_way_22 rfl ?_
    refine j_iload_n F 2 dX5_way_23 rfl ?_
    refine j_iload_n F 3 dX5_way_24 rfl ?_
    obtain ⟨r25, hc25, hm⟩ := Option.bind_eq_some_iff.mp hm
    refine j_callS F (n := 3) (As := [.int v1, .int v2, .int v3]) (rest := [.ref (g.2.1 6)]) (c_X5_rightOf l g hg v1 v2 v3 S15 r25 hc25) gw_X5_154 (by decide +kernel) ⟨Nat.le_of_ble_eq_true rfl, Nat.le_of_ble_eq_true rfl⟩ ⟨Nat.le_of_ble_eq_true rfl, Nat.le_of_ble_eq_true rfl⟩ rfl rfl (Nat.le_of_ble_eq_true rfl) dX5_way_25 ?_
    show J p l e rmX5_way s m args below meth c g A 4 (MQ below (QC g A (some (.int r)) S') args s 0 0 A) 0 0 28 [(0, .ref (g.2.1 0)), (1, .int v1), (2, .int v2), (3, .int v3)] [.int r25, .ref (g.2.1 6)] S15
    obtain ⟨r28, hc28, hm⟩ := Option.bind_eq_some_iff.mp hm
    refine j_callV F (n := 1) (As := [.int r25]) (rest := []) (c_X2_wayOf l g hg r25 S15 r28 hc28) gw_X5_167 (by decide +kernel) ⟨Nat.le_of_ble_eq_true rfl, Nat.le_of_ble_eq_true rfl⟩ ⟨Nat.le_of_ble_eq_true rfl, Nat.le_of_ble_eq_true rfl⟩ rfl rfl rfl rfl (Nat.le_of_ble_eq_true rfl) dX5_way_28 ?_
    show J p l e rmX5_way s m args below meth c g A 4 (MQ below (QC g A (some (.int r)) S') args s 0 0 A) 0 0 31 [(0, .ref (g.2.1 0)), (1, .int v1), (2, .int v2), (3, .int v3)] [.int r28] S15
    exact j_iret_e F rfl dX5_way_31 (inl_e hm)
  · cases hm
set_option maxRecDepth 100000 in
set_option maxHeartbeats 4000000 in
theorem x_X5_way (l : Launch) (hst : l.stackTraces = false) (g : GG) (hg : Inj g) (v1 : Int32) (v2 : Int32) (v3 : Int32)  (S : Hs) (n : Nat) (S' : Hs) (hm : m_X5_way v1 v2 v3 S = some ((.inr n, S'))) : CX l yX5_way [.code yX5_way cX5_way 4 (some .int)] rxX5_way [.ref (g.2.1 0), .int v1, .int v2, .int v3] g S n S' := by
  unfold m_X5_way at hm
  refine CX.of (cc := cX5_way) (nL := 4) (ret := (some .int)) (lv := [(0, .ref (g.2.1 0)), (1, .int v1), (2, .int v2), (3, .int v3)]) (by decide +kernel) hg (Nat.le_of_ble_eq_true rfl) rfl rfl rfl hst (fun p e s m args below meth c A F FS => ?_)
  replace F : Fx p s m meth c cX5_way RX5 4 (some .int) g A := F
  replace FS : FX9 l s c A := FS
  show J p l e rxX5_way s m args below meth c g A 4 (vx_MQ below QF (XQ g A n S') args s 1 6 A) 0 0 0 [(0, .ref (g.2.1 0)), (1, .int v1), (2, .int v2), (3, .int v3)] [] S
  refine j_aload_n F 0 dX5_way_0 rfl ?_
  refine j_iload_n F 1 dX5_way_1 rfl ?_
  refine j_iload_n F 2 dX5_way_2 rfl ?_
  refine j_iload_n F 3 dX5_way_3 rfl ?_
  refine bndP_ok hm (fun r4 hc4 hm => ?_) (fun q hc4 hm => ?_)
  · refine j_callV F (n := 3) (As := [.int v1, .int v2, .int v3]) (rest := []) (c_X5_checkRight l g hg v1 v2 v3 S hc4) gw_X5_150 (by decide +kernel) ⟨Nat.le_of_ble_eq_true rfl, Nat.le_of_ble_eq_true rfl⟩ ⟨Nat.le_of_ble_eq_true rfl, Nat.le_of_ble_eq_true rfl⟩ rfl rfl rfl rfl (Nat.le_of_ble_eq_true rfl) dX5_way_4 ?_
    show J p l e rxX5_way s m args below meth c g A 4 (vx_MQ below QF (XQ g A n S') args s 1 6 A) 0 0 7 [(0, .ref (g.2.1 0)), (1, .int v1), (2, .int v2), (3, .int v3)] [] S
    refine j_aload_n F 0 dX5_way_7 rfl ?_
    refine j_getR F (k0 := 8) (C := RX5) (T := TX5) (N := 11) rfl rfl rfl inF5 (by decide) tw324 dX5_way_8 ?_
    refine j_aload_n F 0 dX5_way_11 rfl ?_
    refine j_getR F (k0 := 1) (C := RX5) (T := TX5) (N := 11) rfl rfl rfl inF5 (by decide) tw316 dX5_way_12 ?_
    obtain ⟨S15, hc15, hm⟩ := Option.bind_eq_some_iff.mp hm
    refine j_callV F (n := 1) (As := [.ref (g.2.1 29)]) (rest := []) (c_X2_follow l g hg 29 (by decide) S S15 hc15) gw_X5_117 (by decide +kernel) ⟨Nat.le_of_ble_eq_true rfl, Nat.le_of_ble_eq_true rfl⟩ ⟨Nat.le_of_ble_eq_true rfl, Nat.le_of_ble_eq_true rfl⟩ rfl rfl rfl rfl (Nat.le_of_ble_eq_true rfl) dX5_way_15 ?_
    show J p l e rxX5_way s m args below meth c g A 4 (vx_MQ below QF (XQ g A n S') args s 1 6 A) 0 0 18 [(0, .ref (g.2.1 0)), (1, .int v1), (2, .int v2), (3, .int v3)] [] S15
    refine j_aload_n F 0 dX5_way_18 rfl ?_
    refine j_getR F (k0 := 8) (C := RX5) (T := TX5) (N := 11) rfl rfl rfl inF5 (by decide) tw324 dX5_way_19 ?_
    refine j_iload_n F 1 dX5_way_22 rfl ?_
    refine j_iload_n F 2 dX5_way_23 rfl ?_
    refine j_iload_n F 3 dX5_way_24 rfl ?_
    obtain ⟨r25, hc25, hm⟩ := Option.bind_eq_some_iff.mp hm
    refine j_callS F (n := 3) (As := [.int v1, .int v2, .int v3]) (rest := [.ref (g.2.1 6)]) (c_X5_rightOf l g hg v1 v2 v3 S15 r25 hc25) gw_X5_154 (by decide +kernel) ⟨Nat.le_of_ble_eq_true rfl, Nat.le_of_ble_eq_true rfl⟩ ⟨Nat.le_of_ble_eq_true rfl, Nat.le_of_ble_eq_true rfl⟩ rfl rfl (Nat.le_of_ble_eq_true rfl) dX5_way_25 ?_
    show J p l e rxX5_way s m args below meth c g A 4 (vx_MQ below QF (XQ g A n S') args s 1 6 A) 0 0 28 [(0, .ref (g.2.1 0)), (1, .int v1), (2, .int v2), (3, .int v3)] [.int r25, .ref (g.2.1 6)] S15
    obtain ⟨r28, hc28, hm⟩ := Option.bind_eq_some_iff.mp hm
    refine j_callV F (n := 1) (As := [.int r25]) (rest := []) (c_X2_wayOf l g hg r25 S15 r28 hc28) gw_X5_167 (by decide +kernel) ⟨Nat.le_of_ble_eq_true rfl, Nat.le_of_ble_eq_true rfl⟩ ⟨Nat.le_of_ble_eq_true rfl, Nat.le_of_ble_eq_true rfl⟩ rfl rfl rfl rfl (Nat.le_of_ble_eq_true rfl) dX5_way_28 ?_
    show J p l e rxX5_way s m args below meth c g A 4 (vx_MQ below QF (XQ g A n S') args s 1 6 A) 0 0 31 [(0, .ref (g.2.1 0)), (1, .int v1), (2, .int v2), (3, .int v3)] [.int r28] S15
    cases hm
  · cases hm
    exact j_callXV F FS (k := 3) (As := [.int v1, .int v2, .int v3]) (rest := []) (x_X5_checkRight l hst g hg v1 v2 v3 S _ hc4) gw_X5_150 (by decide +kernel) ⟨Nat.le_of_ble_eq_true rfl, Nat.le_of_ble_eq_true rfl⟩ ⟨Nat.le_of_ble_eq_true rfl, Nat.le_of_ble_eq_true rfl⟩ rfl rfl rfl rfl (Nat.le_of_ble_eq_true rfl) dX5_way_4 (Nat.le_refl _) (Nat.le_refl _)
def m_X5_proof_J52 (w0 : Int32) (S : Hs) : Option ((Int32 ⊕ Nat) × Hs) := some ((.inl w0, S))
noncomputable def m_X5_proof (v1 : Int32) (v2 : Int32) (v3 : Int32) (S : Hs) : Option ((Int32 ⊕ Nat) × Hs) := bndP (m_X5_checkRight v1 v2 v3 S) (fun r4 => ((m_X2_follow 29 S).bind fun S15 => ((m_X5_rightOf v1 v2 v3).bind fun r21 => ((m_X2_comes r21 S15).bind fun r32 => (if r32 = 0 then (m_X5_proof_J52 ((-9)) S15) else (bndE (m_X2_prove r21 S15) fun r44 S44 => (m_X5_proof_J52 r44 S44))))))) (fun q => some ((.inr q, S)))
set_option maxRecDepth 100000 in
set_option maxHeartbeats 4000000 in
theorem c_X5_proof (l : Launch) (g : GG) (hg : Inj g) (v1 : Int32) (v2 : Int32) (v3 : Int32)  (S : Hs) (r : Int32) (S' : Hs) (hm : m_X5_proof v1 v2 v3 S = some ((.inl r, S'))) : CM l yX5_proof [.code yX5_proof cX5_proof 5 (some .int)] rmX5_proof [.ref (g.2.1 0), .int v1, .int v2, .int v3] g S (some (.int r)) S' := by
  unfold m_X5_proof at hm
  refine CM.of (cc := cX5_proof) (nL := 5) (ret := (some .int)) (lv := [(0, .ref (g.2.1 0)), (1, .int v1), (2, .int v2), (3, .int v3)]) (by decide +kernel) hg (Nat.le_of_ble_eq_true rfl) rfl (fun p e s m args below meth c A F => ?_)
  replace F : Fx p s m meth c cX5_proof RX5 5 (some .int) g A := F
  show J p l e rmX5_proof s m args below meth c g A 5 (MQ below (QC g A (some (.int r)) S') args s 0 0 A) 0 0 0 [(0, .ref (g.2.1 0)), (1, .int v1), (2, .int v2), (3, .int v3)] [] S
  have hj52 : ∀ (w0 : Int32) (S : Hs), m_X5_proof_J52 w0 S = some ((.inl r, S')) → J p l e rmX5_proof s m args below meth c g A 5 (MQ below (QC g A (some (.int r)) S') args s 0 0 A) 0 0 52 [] [.int w0] S := by
    intro w0 S hm
    unfold m_X5_proof_J52 at hm
    exact j_iret_e F rfl dX5_proof_52 (inl_e hm)
  refine j_aload_n F 0 dX5_proof_0 rfl ?_
  refine j_iload_n F 1 dX5_proof_1 rfl ?_
  refine j_iload_n F 2 dX5_proof_2 rfl ?_
  refine j_iload_n F 3 dX5_proof_3 rfl ?_
  refine bndP_ok hm (fun r4 hc4 hm => ?_) (fun q hc4 hm => ?_)
  · refine j_callV F (n := 3) (As := [.int v1, .int v2, .int v3]) (rest := []) (c_X5_checkRight l g hg v1 v2 v3 S hc4) gw_X5_150 (by decide +kernel) ⟨Nat.le_of_ble_eq_true rfl, Nat.le_of_ble_eq_true rfl⟩ ⟨Nat.le_of_ble_eq_true rfl, Nat.le_of_ble_eq_true rfl⟩ rfl rfl rfl rfl (Nat.le_of_ble_eq_true rfl) dX5_proof_4 ?_
    show J p l e rmX5_proof s m args below meth c g A 5 (MQ below (QC g A (some (.int r)) S') args s 0 0 A) 0 0 7 [(0, .ref (g.2.1 0)), (1, .int v1), (2, .int v2), (3, .int v3)] [] S
    refine j_aload_n F 0 dX5_proof_7 rfl ?_
    refine j_getR F (k0 := 8) (C := RX5) (T := TX5) (N := 11) rfl rfl rfl inF5 (by decide) tw324 dX5_proof_8 ?_
    refine j_aload_n F 0 dX5_proof_11 rfl ?_
    refine j_getR F (k0 := 1) (C := RX5) (T := TX5) (N := 11) rfl rfl rfl inF5 (by decide) tw316 dX5_proof_12 ?_
    obtain ⟨S15, hc15, hm⟩ := Option.bind_eq_some_iff.mp hm
    refine j_callV F (n := 1) (As := [.ref (g.2.1 29)]) (rest := []) (c_X2_follow l g hg 29 (by decide) S S15 hc15) gw_X5_117 (by decide +kernel) ⟨Nat.le_of_ble_eq_true rfl, Nat.le_of_ble_eq_true rfl⟩ ⟨Nat.le_of_ble_eq_true rfl, Nat.le_of_ble_eq_true rfl⟩ rfl rfl rfl rfl (Nat.le_of_ble_eq_true rfl) dX5_proof_15 ?_
    show J p l e rmX5_proof s m args below meth c g A 5 (MQ below (QC g A (some (.int r)) S') args s 0 0 A) 0 0 18 [(0, .ref (g.2.1 0)), (1, .int v1), (2, .int v2), (3, .int v3)] [] S15
    refine j_iload_n F 1 dX5_proof_18 rfl ?_
    refine j_iload_n F 2 dX5_proof_19 rfl ?_
    refine j_iload_n F 3 dX5_proof_20 rfl ?_
    obtain ⟨r21, hc21, hm⟩ := Option.bind_eq_some_iff.mp hm
    refine j_callS F (n := 3) (As := [.int v1, .int v2, .int v3]) (rest := []) (c_X5_rightOf l g hg v1 v2 v3 S15 r21 hc21) gw_X5_154 (by decide +kernel) ⟨Nat.le_of_ble_eq_true rfl, Nat.le_of_ble_eq_true rfl⟩ ⟨Nat.le_of_ble_eq_true rfl, Nat.le_of_ble_eq_true rfl⟩ rfl rfl (Nat.le_of_ble_eq_true rfl) dX5_proof_21 ?_
    show J p l e rmX5_proof s m args below meth c g A 5 (MQ below (QC g A (some (.int r)) S') args s 0 0 A) 0 0 24 [(0, .ref (g.2.1 0)), (1, .int v1), (2, .int v2), (3, .int v3)] [.int r21] S15
    refine j_istore F (lv' := [(4, .int r21), (0, .ref (g.2.1 0)), (1, .int v1), (2, .int v2), (3, .int v3)]) dX5_proof_24 (by decide) rfl ?_
    refine j_aload_n F 1 dX5_proof_26 rfl ?_
    refine j_getR F (k0 := 8) (C := RX5) (T := TX5) (N := 11) rfl rfl rfl inF5 (by decide) tw324 dX5_proof_27 ?_
    refine j_iload F 0 dX5_proof_30 rfl ?_
    obtain ⟨r32, hc32, hm⟩ := Option.bind_eq_some_iff.mp hm
    refine j_callV F (n := 1) (As := [.int r21]) (rest := []) (c_X2_comes l g hg r21 S15 r32 hc32) gw_X5_161 (by decide +kernel) ⟨Nat.le_of_ble_eq_true rfl, Nat.le_of_ble_eq_true rfl⟩ ⟨Nat.le_of_ble_eq_true rfl, Nat.le_of_ble_eq_true rfl⟩ rfl rfl rfl rfl (Nat.le_of_ble_eq_true rfl) dX5_proof_32 ?_
    show J p l e rmX5_proof s m args below meth c g A 5 (MQ below (QC g A (some (.int r)) S') args s 0 0 A) 0 0 35 [(4, .int r21), (0, .ref (g.2.1 0)), (1, .int v1), (2, .int v2), (3, .int v3)] [.int r32] S15
    refine j_if_eq F (tgt := 50) dX5_proof_35 (by decide) hm (fun _ hm => ?_) (fun _ hm => ?_)
    · refine j_bipush F (v := -9) dX5_proof_50 (by decide) ?_
      refine j_sub [] rfl ?_
      exact hj52 ((-9)) S15  hm
    · refine j_aload_n F 1 dX5_proof_38 rfl ?_
      refine j_getR F (k0 := 8) (C := RX5) (T := TX5) (N := 11) rfl rfl rfl inF5 (by decide) tw324 dX5_proof_39 ?_
      refine j_iload F 0 dX5_proof_42 rfl ?_
      obtain ⟨r44, S44, hc44, hm⟩ := bndE_ok hm
      refine j_callV F (n := 1) (As := [.int r21]) (rest := []) (c_X2_prove l g hg r21 S15 r44 S44 hc44) gw_X5_170 (by decide +kernel) ⟨Nat.le_of_ble_eq_true rfl, Nat.le_of_ble_eq_true rfl⟩ ⟨Nat.le_of_ble_eq_true rfl, Nat.le_of_ble_eq_true rfl⟩ rfl rfl rfl rfl (Nat.le_of_ble_eq_true rfl) dX5_proof_44 ?_
      show J p l e rmX5_proof s m args below meth c g A 5 (MQ below (QC g A (some (.int r)) S') args s 0 0 A) 0 0 47 [(4, .int r21), (0, .ref (g.2.1 0)), (1, .int v1), (2, .int v2), (3, .int v3)] [.int r44] S44
      refine j_goto F (tgt := 52) dX5_proof_47 (by decide) ?_
      refine j_sub [] rfl ?_
      exact hj52 r44 S44  hm
  · cases hm
set_option maxRecDepth 100000 in
set_option maxHeartbeats 4000000 in
theorem x_X5_proof (l : Launch) (hst : l.stackTraces = false) (g : GG) (hg : Inj g) (v1 : Int32) (v2 : Int32) (v3 : Int32)  (S : Hs) (n : Nat) (S' : Hs) (hm : m_X5_proof v1 v2 v3 S = some ((.inr n, S'))) : CX l yX5_proof [.code yX5_proof cX5_proof 5 (some .int)] rxX5_proof [.ref (g.2.1 0), .int v1, .int v2, .int v3] g S n S' := by
  unfold m_X5_proof at hm
  refine CX.of (cc := cX5_proof) (nL := 5) (ret := (some .int)) (lv := [(0, .ref (g.2.1 0)), (1, .int v1), (2, .int v2), (3, .int v3)]) (by decide +kernel) hg (Nat.le_of_ble_eq_true rfl) rfl rfl rfl hst (fun p e s m args below meth c A F FS => ?_)
  replace F : Fx p s m meth c cX5_proof RX5 5 (some .int) g A := F
  replace FS : FX9 l s c A := FS
  show J p l e rxX5_proof s m args below meth c g A 5 (vx_MQ below QF (XQ g A n S') args s 1 6 A) 0 0 0 [(0, .ref (g.2.1 0)), (1, .int v1), (2, .int v2), (3, .int v3)] [] S
  have hj52 : ∀ (w0 : Int32) (S : Hs), m_X5_proof_J52 w0 S = some ((.inr n, S')) → J p l e rxX5_proof s m args below meth c g A 5 (vx_MQ below QF (XQ g A n S') args s 1 6 A) 0 0 52 [] [.int w0] S := by
    intro w0 S hm
    unfold m_X5_proof_J52 at hm
    cases hm
  refine j_aload_n F 0 dX5_proof_0 rfl ?_
  refine j_iload_n F 1 dX5_proof_1 rfl ?_
  refine j_iload_n F 2 dX5_proof_2 rfl ?_
  refine j_iload_n F 3 dX5_proof_3 rfl ?_
  refine bndP_ok hm (fun r4 hc4 hm => ?_) (fun q hc4 hm => ?_)
  · refine j_callV F (n := 3) (As := [.int v1, .int v2, .int v3]) (rest := []) (c_X5_checkRight l g hg v1 v2 v3 S hc4) gw_X5_150 (by decide +kernel) ⟨Nat.le_of_ble_eq_true rfl, Nat.le_of_ble_eq_true rfl⟩ ⟨Nat.le_of_ble_eq_true rfl, Nat.le_of_ble_eq_true rfl⟩ rfl rfl rfl rfl (Nat.le_of_ble_eq_true rfl) dX5_proof_4 ?_
    show J p l e rxX5_proof s m args below meth c g A 5 (vx_MQ below QF (XQ g A n S') args s 1 6 A) 0 0 7 [(0, .ref (g.2.1 0)), (1, .int v1), (2, .int v2), (3, .int v3)] [] S
    refine j_aload_n F 0 dX5_proof_7 rfl ?_
    refine j_getR F (k0 := 8) (C := RX5) (T := TX5) (N := 11) rfl rfl rfl inF5 (by decide) tw324 dX5_proof_8 ?_
    refine j_aload_n F 0 dX5_proof_11 rfl ?_
    refine j_getR F (k0 := 1) (C := RX5) (T := TX5) (N := 11) rfl rfl rfl inF5 (by decide) tw316 dX5_proof_12 ?_
    obtain ⟨S15, hc15, hm⟩ := Option.bind_eq_some_iff.mp hm
    refine j_callV F (n := 1) (As := [.ref (g.2.1 29)]) (rest := []) (c_X2_follow l g hg 29 (by decide) S S15 hc15) gw_X5_117 (by decide +kernel) ⟨Nat.le_of_ble_eq_true rfl, Nat.le_of_ble_eq_true rfl⟩ ⟨Nat.le_of_ble_eq_true rfl, Nat.le_of_ble_eq_true rfl⟩ rfl rfl rfl rfl (Nat.le_of_ble_eq_true rfl) dX5_proof_15 ?_
    show J p l e rxX5_proof s m args below meth c g A 5 (vx_MQ below QF (XQ g A n S') args s 1 6 A) 0 0 18 [(0, .ref (g.2.1 0)), (1, .int v1), (2, .int v2), (3, .int v3)] [] S15
    refine j_iload_n F 1 dX5_proof_18 rfl ?_
    refine j_iload_n F 2 dX5_proof_19 rfl ?_
    refine j_iload_n F 3 dX5_proof_20 rfl ?_
    obtain ⟨r21, hc21, hm⟩ := Option.bind_eq_some_iff.mp hm
    refine j_callS F (n := 3) (As := [.int v1, .int v2, .int v3]) (rest := []) (c_X5_rightOf l g hg v1 v2 v3 S15 r21 hc21) gw_X5_154 (by decide +kernel) ⟨Nat.le_of_ble_eq_true rfl, Nat.le_of_ble_eq_true rfl⟩ ⟨Nat.le_of_ble_eq_true rfl, Nat.le_of_ble_eq_true rfl⟩ rfl rfl (Nat.le_of_ble_eq_true rfl) dX5_proof_21 ?_
    show J p l e rxX5_proof s m args below meth c g A 5 (vx_MQ below QF (XQ g A n S') args s 1 6 A) 0 0 24 [(0, .ref (g.2.1 0)), (1, .int v1), (2, .int v2), (3, .int v3)] [.int r21] S15
    refine j_istore F (lv' := [(4, .int r21), (0, .ref (g.2.1 0)), (1, .int v1), (2, .int v2), (3, .int v3)]) dX5_proof_24 (by decide) rfl ?_
    refine j_aload_n F 1 dX5_proof_26 rfl ?_
    refine j_getR F (k0 := 8) (C := RX5) (T := TX5) (N := 11) rfl rfl rfl inF5 (by decide) tw324 dX5_proof_27 ?_
    refine j_iload F 0 dX5_proof_30 rfl ?_
    obtain ⟨r32, hc32, hm⟩ := Option.bind_eq_some_iff.mp hm
    refine j_callV F (n := 1) (As := [.int r21]) (rest := []) (c_X2_comes l g hg r21 S15 r32 hc32) gw_X5_161 (by decide +kernel) ⟨Nat.le_of_ble_eq_true rfl, Nat.le_of_ble_eq_true rfl⟩ ⟨Nat.le_of_ble_eq_true rfl, Nat.le_of_ble_eq_true rfl⟩ rfl rfl rfl rfl (Nat.le_of_ble_eq_true rfl) dX5_proof_32 ?_
    show J p l e rxX5_proof s m args below meth c g A 5 (vx_MQ below QF (XQ g A n S') args s 1 6 A) 0 0 35 [(4, .int r21), (0, .ref (g.2.1 0)), (1, .int v1), (2, .int v2), (3, .int v3)] [.int r32] S15
    refine j_if_eq F (tgt := 50) dX5_proof_35 (by decide) hm (fun _ hm => ?_) (fun _ hm => ?_)
    · refine j_bipush F (v := -9) dX5_proof_50 (by decide) ?_
      refine j_sub [] rfl ?_
      exact hj52 ((-9)) S15  hm
    · refine j_aload_n F 1 dX5_proof_38 rfl ?_
      refine j_getR F (k0 := 8) (C := RX5) (T := TX5) (N := 11) rfl rfl rfl inF5 (by decide) tw324 dX5_proof_39 ?_
      refine j_iload F 0 dX5_proof_42 rfl ?_
      obtain ⟨r44, S44, hc44, hm⟩ := bndE_ok hm
      refine j_callV F (n := 1) (As := [.int r21]) (rest := []) (c_X2_prove l g hg r21 S15 r44 S44 hc44) gw_X5_170 (by decide +kernel) ⟨Nat.le_of_ble_eq_true rfl, Nat.le_of_ble_eq_true rfl⟩ ⟨Nat.le_of_ble_eq_true rfl, Nat.le_of_ble_eq_true rfl⟩ rfl rfl rfl rfl (Nat.le_of_ble_eq_true rfl) dX5_proof_44 ?_
      show J p l e rxX5_proof s m args below meth c g A 5 (vx_MQ below QF (XQ g A n S') args s 1 6 A) 0 0 47 [(4, .int r21), (0, .ref (g.2.1 0)), (1, .int v1), (2, .int v2), (3, .int v3)] [.int r44] S44
      refine j_goto F (tgt := 52) dX5_proof_47 (by decide) ?_
      refine j_sub [] rfl ?_
      exact hj52 r44 S44  hm
  · cases hm
    exact j_callXV F FS (k := 3) (As := [.int v1, .int v2, .int v3]) (rest := []) (x_X5_checkRight l hst g hg v1 v2 v3 S _ hc4) gw_X5_150 (by decide +kernel) ⟨Nat.le_of_ble_eq_true rfl, Nat.le_of_ble_eq_true rfl⟩ ⟨Nat.le_of_ble_eq_true rfl, Nat.le_of_ble_eq_true rfl⟩ rfl rfl rfl rfl (Nat.le_of_ble_eq_true rfl) dX5_proof_4 (Nat.le_refl _) (Nat.le_refl _)
noncomputable def m_X5_addThing (v1 : Int32) (S : Hs) : Option ((Int32 ⊕ Nat) × Hs) := if (gI S 29 0) < 7 then ((m_X5_remember  S).bind fun S23 => ((m_X3_addOne 29 v1 v1 S23).bind fun S32 => (some ((.inl ((gI S32 29 0) - 1), S32))))) else (some ((.inr 2, S)))
set_option maxRecDepth 100000 in
set_option maxHeartbeats 4000000 in
theorem c_X5_addThing (l : Launch) (g : GG) (hg : Inj g) (v1 : Int32)  (S : Hs) (r : Int32) (S' : Hs) (hm : m_X5_addThing v1 S = some ((.inl r, S'))) : CM l yX5_addThing [.code yX5_addThing cX5_addThing 2 (some .int)] rmX5_addThing [.ref (g.2.1 0), .int v1] g S (some (.int r)) S' := by
  unfold m_X5_addThing at hm
  refine CM.of (cc := cX5_addThing) (nL := 2) (ret := (some .int)) (lv := [(0, .ref (g.2.1 0)), (1, .int v1)]) (by decide +kernel) hg (Nat.le_of_ble_eq_true rfl) rfl (fun p e s m args below meth c A F => ?_)
  replace F : Fx p s m meth c cX5_addThing RX5 2 (some .int) g A := F
  show J p l e rmX5_addThing s m args below meth c g A 2 (MQ below (QC g A (some (.int r)) S') args s 0 0 A) 0 0 0 [(0, .ref (g.2.1 0)), (1, .int v1)] [] S
  refine j_aload_n F 0 dX5_addThing_0 rfl ?_
  refine j_getR F (k0 := 1) (C := RX5) (T := TX5) (N := 11) rfl rfl rfl inF5 (by decide) tw316 dX5_addThing_1 ?_
  refine j_getI F (k0 := 0) (C := RX3) (T := TX3) (N := 4) (isSt_lay (i := 29) (by decide)).1 rfl rfl inF3 (by decide) tw351 dX5_addThing_4 ?_
  refine j_bipush F (v := 7) dX5_addThing_7 (by decide) ?_
  refine j_icmp_lt F (tgt := 22) dX5_addThing_9 (by decide) hm (fun _ hm => ?_) (fun _ hm => ?_)
  · refine j_aload_n F 0 dX5_addThing_22 rfl ?_
    obtain ⟨S23, hc23, hm⟩ := Option.bind_eq_some_iff.mp hm
    refine j_callV F (n := 0) (As := []) (rest := []) (c_X5_remember l g hg S S23 hc23) gw_X5_175 (by decide +kernel) ⟨Nat.le_of_ble_eq_true rfl, Nat.le_of_ble_eq_true rfl⟩ ⟨Nat.le_of_ble_eq_true rfl, Nat.le_of_ble_eq_true rfl⟩ rfl rfl rfl rfl (Nat.le_of_ble_eq_true rfl) dX5_addThing_23 ?_
    show J p l e rmX5_addThing s m args below meth c g A 2 (MQ below (QC g A (some (.int r)) S') args s 0 0 A) 0 0 26 [(0, .ref (g.2.1 0)), (1, .int v1)] [] S23
    refine j_aload_n F 0 dX5_addThing_26 rfl ?_
    refine j_getR F (k0 := 1) (C := RX5) (T := TX5) (N := 11) rfl rfl rfl inF5 (by decide) tw316 dX5_addThing_27 ?_
    refine j_iload_n F 1 dX5_addThing_30 rfl ?_
    refine j_iload_n F 1 dX5_addThing_31 rfl ?_
    obtain ⟨S32, hc32, hm⟩ := Option.bind_eq_some_iff.mp hm
    refine j_callV F (n := 2) (As := [.int v1, .int v1]) (rest := []) (c_X3_addOne l g hg 29 v1 v1 (by decide) S23 S32 hc32) gw_X5_178 (by decide +kernel) ⟨Nat.le_of_ble_eq_true rfl, Nat.le_of_ble_eq_true rfl⟩ ⟨Nat.le_of_ble_eq_true rfl, Nat.le_of_ble_eq_true rfl⟩ (isSt_lay (i := 29) (by decide)).1 rfl rfl rfl (Nat.le_of_ble_eq_true rfl) dX5_addThing_32 ?_
    show J p l e rmX5_addThing s m args below meth c g A 2 (MQ below (QC g A (some (.int r)) S') args s 0 0 A) 0 0 35 [(0, .ref (g.2.1 0)), (1, .int v1)] [] S32
    refine j_aload_n F 0 dX5_addThing_35 rfl ?_
    refine j_getR F (k0 := 1) (C := RX5) (T := TX5) (N := 11) rfl rfl rfl inF5 (by decide) tw316 dX5_addThing_36 ?_
    refine j_getI F (k0 := 0) (C := RX3) (T := TX3) (N := 4) (isSt_lay (i := 29) (by decide)).1 rfl rfl inF3 (by decide) tw351 dX5_addThing_39 ?_
    refine j_iconst F (v := 1) dX5_addThing_42 (by decide) ?_
    refine j_isub F dX5_addThing_43 ?_
    exact j_iret_e F rfl dX5_addThing_44 (inl_e hm)
  · cases hm
set_option maxRecDepth 100000 in
set_option maxHeartbeats 4000000 in
theorem x_X5_addThing (l : Launch) (hst : l.stackTraces = false) (g : GG) (hg : Inj g) (v1 : Int32)  (S : Hs) (n : Nat) (S' : Hs) (hm : m_X5_addThing v1 S = some ((.inr n, S'))) : CX l yX5_addThing [.code yX5_addThing cX5_addThing 2 (some .int)] rxX5_addThing [.ref (g.2.1 0), .int v1] g S n S' := by
  unfold m_X5_addThing at hm
  refine CX.of (cc := cX5_addThing) (nL := 2) (ret := (some .int)) (lv := [(0, .ref (g.2.1 0)), (1, .int v1)]) (by decide +kernel) hg (Nat.le_of_ble_eq_true rfl) rfl rfl rfl hst (fun p e s m args below meth c A F FS => ?_)
  replace F : Fx p s m meth c cX5_addThing RX5 2 (some .int) g A := F
  replace FS : FX9 l s c A := FS
  show J p l e rxX5_addThing s m args below meth c g A 2 (vx_MQ below QF (XQ g A n S') args s 1 6 A) 0 0 0 [(0, .ref (g.2.1 0)), (1, .int v1)] [] S
  refine j_aload_n F 0 dX5_addThing_0 rfl ?_
  refine j_getR F (k0 := 1) (C := RX5) (T := TX5) (N := 11) rfl rfl rfl inF5 (by decide) tw316 dX5_addThing_1 ?_
  refine j_getI F (k0 := 0) (C := RX3) (T := TX3) (N := 4) (isSt_lay (i := 29) (by decide)).1 rfl rfl inF3 (by decide) tw351 dX5_addThing_4 ?_
  refine j_bipush F (v := 7) dX5_addThing_7 (by decide) ?_
  refine j_icmp_lt F (tgt := 22) dX5_addThing_9 (by decide) hm (fun _ hm => ?_) (fun _ hm => ?_)
  · refine j_aload_n F 0 dX5_addThing_22 rfl ?_
    obtain ⟨S23, hc23, hm⟩ := Option.bind_eq_some_iff.mp hm
    refine j_callV F (n := 0) (As := []) (rest := []) (c_X5_remember l g hg S S23 hc23) gw_X5_175 (by decide +kernel) ⟨Nat.le_of_ble_eq_true rfl, Nat.le_of_ble_eq_true rfl⟩ ⟨Nat.le_of_ble_eq_true rfl, Nat.le_of_ble_eq_true rfl⟩ rfl rfl rfl rfl (Nat.le_of_ble_eq_true rfl) dX5_addThing_23 ?_
    show J p l e rxX5_addThing s m args below meth c g A 2 (vx_MQ below QF (XQ g A n S') args s 1 6 A) 0 0 26 [(0, .ref (g.2.1 0)), (1, .int v1)] [] S23
    refine j_aload_n F 0 dX5_addThing_26 rfl ?_
    refine j_getR F (k0 := 1) (C := RX5) (T := TX5) (N := 11) rfl rfl rfl inF5 (by decide) tw316 dX5_addThing_27 ?_
    refine j_iload_n F 1 dX5_addThing_30 rfl ?_
    refine j_iload_n F 1 dX5_addThing_31 rfl ?_
    obtain ⟨S32, hc32, hm⟩ := Option.bind_eq_some_iff.mp hm
    refine j_callV F (n := 2) (As := [.int v1, .int v1]) (rest := []) (c_X3_addOne l g hg 29 v1 v1 (by decide) S23 S32 hc32) gw_X5_178 (by decide +kernel) ⟨Nat.le_of_ble_eq_true rfl, Nat.le_of_ble_eq_true rfl⟩ ⟨Nat.le_of_ble_eq_true rfl, Nat.le_of_ble_eq_true rfl⟩ (isSt_lay (i := 29) (by decide)).1 rfl rfl rfl (Nat.le_of_ble_eq_true rfl) dX5_addThing_32 ?_
    show J p l e rxX5_addThing s m args below meth c g A 2 (vx_MQ below QF (XQ g A n S') args s 1 6 A) 0 0 35 [(0, .ref (g.2.1 0)), (1, .int v1)] [] S32
    refine j_aload_n F 0 dX5_addThing_35 rfl ?_
    refine j_getR F (k0 := 1) (C := RX5) (T := TX5) (N := 11) rfl rfl rfl inF5 (by decide) tw316 dX5_addThing_36 ?_
    refine j_getI F (k0 := 0) (C := RX3) (T := TX3) (N := 4) (isSt_lay (i := 29) (by decide)).1 rfl rfl inF3 (by decide) tw351 dX5_addThing_39 ?_
    refine j_iconst F (v := 1) dX5_addThing_42 (by decide) ?_
    refine j_isub F dX5_addThing_43 ?_
    cases hm
  · cases hm
    exact j_throw F FS 4 ex2 rfl rfl dX5_addThing_12 dX5_addThing_15 dX5_addThing_16 dX5_addThing_18 dX5_addThing_21 ⟨Nat.le_of_ble_eq_true rfl, Nat.le_of_ble_eq_true rfl⟩ ⟨Nat.le_of_ble_eq_true rfl, Nat.le_of_ble_eq_true rfl⟩
noncomputable def m_X5_removeThing (v1 : Int32) (S : Hs) : Option ((Int32 ⊕ Nat) × Hs) := bndP (m_X5_checkThing v1 S) (fun r2 => ((m_X5_remember  S).bind fun S6 => (bndE (m_X3_removeOne 29 v1 S6) fun r14 S14 => (some ((.inl r14, S14)))))) (fun q => some ((.inr q, S)))
set_option maxRecDepth 100000 in
set_option maxHeartbeats 4000000 in
theorem c_X5_removeThing (l : Launch) (g : GG) (hg : Inj g) (v1 : Int32)  (S : Hs) (r : Int32) (S' : Hs) (hm : m_X5_removeThing v1 S = some ((.inl r, S'))) : CM l yX5_removeThing [.code yX5_removeThing cX5_removeThing 2 (some .int)] rmX5_removeThing [.ref (g.2.1 0), .int v1] g S (some (.int r)) S' := by
  unfold m_X5_removeThing at hm
  refine CM.of (cc := cX5_removeThing) (nL := 2) (ret := (some .int)) (lv := [(0, .ref (g.2.1 0)), (1, .int v1)]) (by decide +kernel) hg (Nat.le_of_ble_eq_true rfl) rfl (fun p e s m args below meth c A F => ?_)
  replace F : Fx p s m meth c cX5_removeThing RX5 2 (some .int) g A := F
  show J p l e rmX5_removeThing s m args below meth c g A 2 (MQ below (QC g A (some (.int r)) S') args s 0 0 A) 0 0 0 [(0, .ref (g.2.1 0)), (1, .int v1)] [] S
  refine j_aload_n F 0 dX5_removeThing_0 rfl ?_
  refine j_iload_n F 1 dX5_removeThing_1 rfl ?_
  refine bndP_ok hm (fun r2 hc2 hm => ?_) (fun q hc2 hm => ?_)
  · refine j_callV F (n := 1) (As := [.int v1]) (rest := []) (c_X5_checkThing l g hg v1 S hc2) gw_X5_129 (by decide +kernel) ⟨Nat.le_of_ble_eq_true rfl, Nat.le_of_ble_eq_true rfl⟩ ⟨Nat.le_of_ble_eq_true rfl, Nat.le_of_ble_eq_true rfl⟩ rfl rfl rfl rfl (Nat.le_of_ble_eq_true rfl) dX5_removeThing_2 ?_
    show J p l e rmX5_removeThing s m args below meth c g A 2 (MQ below (QC g A (some (.int r)) S') args s 0 0 A) 0 0 5 [(0, .ref (g.2.1 0)), (1, .int v1)] [] S
    refine j_aload_n F 0 dX5_removeThing_5 rfl ?_
    obtain ⟨S6, hc6, hm⟩ := Option.bind_eq_some_iff.mp hm
    refine j_callV F (n := 0) (As := []) (rest := []) (c_X5_remember l g hg S S6 hc6) gw_X5_175 (by decide +kernel) ⟨Nat.le_of_ble_eq_true rfl, Nat.le_of_ble_eq_true rfl⟩ ⟨Nat.le_of_ble_eq_true rfl, Nat.le_of_ble_eq_true rfl⟩ rfl rfl rfl rfl (Nat.le_of_ble_eq_true rfl) dX5_removeThing_6 ?_
    show J p l e rmX5_removeThing s m args below meth c g A 2 (MQ below (QC g A (some (.int r)) S') args s 0 0 A) 0 0 9 [(0, .ref (g.2.1 0)), (1, .int v1)] [] S6
    refine j_aload_n F 0 dX5_removeThing_9 rfl ?_
    refine j_getR F (k0 := 1) (C := RX5) (T := TX5) (N := 11) rfl rfl rfl inF5 (by decide) tw316 dX5_removeThing_10 ?_
    refine j_iload_n F 1 dX5_removeThing_13 rfl ?_
    obtain ⟨r14, S14, hc14, hm⟩ := bndE_ok hm
    refine j_callV F (n := 1) (As := [.int v1]) (rest := []) (c_X3_removeOne l g hg 29 v1 (by decide) S6 r14 S14 hc14) gw_X5_182 (by decide +kernel) ⟨Nat.le_of_ble_eq_true rfl, Nat.le_of_ble_eq_true rfl⟩ ⟨Nat.le_of_ble_eq_true rfl, Nat.le_of_ble_eq_true rfl⟩ (isSt_lay (i := 29) (by decide)).1 rfl rfl rfl (Nat.le_of_ble_eq_true rfl) dX5_removeThing_14 ?_
    show J p l e rmX5_removeThing s m args below meth c g A 2 (MQ below (QC g A (some (.int r)) S') args s 0 0 A) 0 0 17 [(0, .ref (g.2.1 0)), (1, .int v1)] [.int r14] S14
    exact j_iret_e F rfl dX5_removeThing_17 (inl_e hm)
  · cases hm
set_option maxRecDepth 100000 in
set_option maxHeartbeats 4000000 in
theorem x_X5_removeThing (l : Launch) (hst : l.stackTraces = false) (g : GG) (hg : Inj g) (v1 : Int32)  (S : Hs) (n : Nat) (S' : Hs) (hm : m_X5_removeThing v1 S = some ((.inr n, S'))) : CX l yX5_removeThing [.code yX5_removeThing cX5_removeThing 2 (some .int)] rxX5_removeThing [.ref (g.2.1 0), .int v1] g S n S' := by
  unfold m_X5_removeThing at hm
  refine CX.of (cc := cX5_removeThing) (nL := 2) (ret := (some .int)) (lv := [(0, .ref (g.2.1 0)), (1, .int v1)]) (by decide +kernel) hg (Nat.le_of_ble_eq_true rfl) rfl rfl rfl hst (fun p e s m args below meth c A F FS => ?_)
  replace F : Fx p s m meth c cX5_removeThing RX5 2 (some .int) g A := F
  replace FS : FX9 l s c A := FS
  show J p l e rxX5_removeThing s m args below meth c g A 2 (vx_MQ below QF (XQ g A n S') args s 1 6 A) 0 0 0 [(0, .ref (g.2.1 0)), (1, .int v1)] [] S
  refine j_aload_n F 0 dX5_removeThing_0 rfl ?_
  refine j_iload_n F 1 dX5_removeThing_1 rfl ?_
  refine bndP_ok hm (fun r2 hc2 hm => ?_) (fun q hc2 hm => ?_)
  · refine j_callV F (n := 1) (As := [.int v1]) (rest := []) (c_X5_checkThing l g hg v1 S hc2) gw_X5_129 (by decide +kernel) ⟨Nat.le_of_ble_eq_true rfl, Nat.le_of_ble_eq_true rfl⟩ ⟨Nat.le_of_ble_eq_true rfl, Nat.le_of_ble_eq_true rfl⟩ rfl rfl rfl rfl (Nat.le_of_ble_eq_true rfl) dX5_removeThing_2 ?_
    show J p l e rxX5_removeThing s m args below meth c g A 2 (vx_MQ below QF (XQ g A n S') args s 1 6 A) 0 0 5 [(0, .ref (g.2.1 0)), (1, .int v1)] [] S
    refine j_aload_n F 0 dX5_removeThing_5 rfl ?_
    obtain ⟨S6, hc6, hm⟩ := Option.bind_eq_some_iff.mp hm
    refine j_callV F (n := 0) (As := []) (rest := []) (c_X5_remember l g hg S S6 hc6) gw_X5_175 (by decide +kernel) ⟨Nat.le_of_ble_eq_true rfl, Nat.le_of_ble_eq_true rfl⟩ ⟨Nat.le_of_ble_eq_true rfl, Nat.le_of_ble_eq_true rfl⟩ rfl rfl rfl rfl (Nat.le_of_ble_eq_true rfl) dX5_removeThing_6 ?_
    show J p l e rxX5_removeThing s m args below meth c g A 2 (vx_MQ below QF (XQ g A n S') args s 1 6 A) 0 0 9 [(0, .ref (g.2.1 0)), (1, .int v1)] [] S6
    refine j_aload_n F 0 dX5_removeThing_9 rfl ?_
    refine j_getR F (k0 := 1) (C := RX5) (T := TX5) (N := 11) rfl rfl rfl inF5 (by decide) tw316 dX5_removeThing_10 ?_
    refine j_iload_n F 1 dX5_removeThing_13 rfl ?_
    obtain ⟨r14, S14, hc14, hm⟩ := bndE_ok hm
    refine j_callV F (n := 1) (As := [.int v1]) (rest := []) (c_X3_removeOne l g hg 29 v1 (by decide) S6 r14 S14 hc14) gw_X5_182 (by decide +kernel) ⟨Nat.le_of_ble_eq_true rfl, Nat.le_of_ble_eq_true rfl⟩ ⟨Nat.le_of_ble_eq_true rfl, Nat.le_of_ble_eq_true rfl⟩ (isSt_lay (i := 29) (by decide)).1 rfl rfl rfl (Nat.le_of_ble_eq_true rfl) dX5_removeThing_14 ?_
    show J p l e rxX5_removeThing s m args below meth c g A 2 (vx_MQ below QF (XQ g A n S') args s 1 6 A) 0 0 17 [(0, .ref (g.2.1 0)), (1, .int v1)] [.int r14] S14
    cases hm
  · cases hm
    exact j_callXV F FS (k := 1) (As := [.int v1]) (rest := []) (x_X5_checkThing l hst g hg v1 S _ hc2) gw_X5_129 (by decide +kernel) ⟨Nat.le_of_ble_eq_true rfl, Nat.le_of_ble_eq_true rfl⟩ ⟨Nat.le_of_ble_eq_true rfl, Nat.le_of_ble_eq_true rfl⟩ rfl rfl rfl rfl (Nat.le_of_ble_eq_true rfl) dX5_removeThing_2 (Nat.le_refl _) (Nat.le_refl _)
noncomputable def m_X5_wake (v1 : Int32) (v2 : Int32) (S : Hs) : Option ((Int32 ⊕ Nat) × Hs) := bndP (m_X5_checkThing v1 S) (fun r2 => ((m_X3_isPerson 29 v1 S).bind fun r10 => (if r10 = 0 then (some ((.inr 2, S))) else ((m_X5_remember  S).bind fun S27 => ((m_X3_setAwake 29 v1 v2 S27).bind fun S36 => (bndE (m_X5_endOf 29 S36) fun r44 S44 => (gd (isSt r44) ((m_X3_countRights r44 S44).bind fun r47 => (some ((.inl r47, S44))))))))))) (fun q => some ((.inr q, S)))
set_option maxRecDepth 100000 in
set_option maxHeartbeats 4000000 in
theorem c_X5_wake (l : Launch) (g : GG) (hg : Inj g) (v1 : Int32) (v2 : Int32)  (S : Hs) (r : Int32) (S' : Hs) (hm : m_X5_wake v1 v2 S = some ((.inl r, S'))) : CM l yX5_wake [.code yX5_wake cX5_wake 3 (some .int)] rmX5_wake [.ref (g.2.1 0), .int v1, .int v2] g S (some (.int r)) S' := by
  unfold m_X5_wake at hm
  refine CM.of (cc := cX5_wake) (nL := 3) (ret := (some .int)) (lv := [(0, .ref (g.2.1 0)), (1, .int v1), (2, .int v2)]) (by decide +kernel) hg (Nat.le_of_ble_eq_true rfl) rfl (fun p e s m args below meth c A F => ?_)
  replace F : Fx p s m meth c cX5_wake RX5 3 (some .int) g A := F
  show J p l e rmX5_wake s m args below meth c g A 3 (MQ below (QC g A (some (.int r)) S') args s 0 0 A) 0 0 0 [(0, .ref (g.2.1 0)), (1, .int v1), (2, .int v2)] [] S
  refine j_aload_n F 0 dX5_wake_0 rfl ?_
  refine j_iload_n F 1 dX5_wake_1 rfl ?_
  refine bndP_ok hm (fun r2 hc2 hm => ?_) (fun q hc2 hm => ?_)
  · refine j_callV F (n := 1) (As := [.int v1]) (rest := []) (c_X5_checkThing l g hg v1 S hc2) gw_X5_129 (by decide +kernel) ⟨Nat.le_of_ble_eq_true rfl, Nat.le_of_ble_eq_true rfl⟩ ⟨Nat.le_of_ble_eq_true rfl, Nat.le_of_ble_eq_true rfl⟩ rfl rfl rfl rfl (Nat.le_of_ble_eq_true rfl) dX5_wake_2 ?_
    show J p l e rmX5_wake s m args below meth c g A 3 (MQ below (QC g A (some (.int r)) S') args s 0 0 A) 0 0 5 [(0, .ref (g.2.1 0)), (1, .int v1), (2, .int v2)] [] S
    refine j_aload_n F 0 dX5_wake_5 rfl ?_
    refine j_getR F (k0 := 1) (C := RX5) (T := TX5) (N := 11) rfl rfl rfl inF5 (by decide) tw316 dX5_wake_6 ?_
    refine j_iload_n F 1 dX5_wake_9 rfl ?_
    obtain ⟨r10, hc10, hm⟩ := Option.bind_eq_some_iff.mp hm
    refine j_callV F (n := 1) (As := [.int v1]) (rest := []) (c_X3_isPerson l g hg 29 v1 (by decide) S r10 hc10) gw_X5_133 (by decide +kernel) ⟨Nat.le_of_ble_eq_true rfl, Nat.le_of_ble_eq_true rfl⟩ ⟨Nat.le_of_ble_eq_true rfl, Nat.le_of_ble_eq_true rfl⟩ (isSt_lay (i := 29) (by decide)).1 rfl rfl rfl (Nat.le_of_ble_eq_true rfl) dX5_wake_10 ?_
    show J p l e rmX5_wake s m args below meth c g A 3 (MQ below (QC g A (some (.int r)) S') args s 0 0 A) 0 0 13 [(0, .ref (g.2.1 0)), (1, .int v1), (2, .int v2)] [.int r10] S
    refine j_if_ne F (tgt := 26) dX5_wake_13 (by decide) hm (fun _ hm => ?_) (fun _ hm => ?_)
    · refine j_aload_n F 0 dX5_wake_26 rfl ?_
      obtain ⟨S27, hc27, hm⟩ := Option.bind_eq_some_iff.mp hm
      refine j_callV F (n := 0) (As := []) (rest := []) (c_X5_remember l g hg S S27 hc27) gw_X5_175 (by decide +kernel) ⟨Nat.le_of_ble_eq_true rfl, Nat.le_of_ble_eq_true rfl⟩ ⟨Nat.le_of_ble_eq_true rfl, Nat.le_of_ble_eq_true rfl⟩ rfl rfl rfl rfl (Nat.le_of_ble_eq_true rfl) dX5_wake_27 ?_
      show J p l e rmX5_wake s m args below meth c g A 3 (MQ below (QC g A (some (.int r)) S') args s 0 0 A) 0 0 30 [(0, .ref (g.2.1 0)), (1, .int v1), (2, .int v2)] [] S27
      refine j_aload_n F 0 dX5_wake_30 rfl ?_
      refine j_getR F (k0 := 1) (C := RX5) (T := TX5) (N := 11) rfl rfl rfl inF5 (by decide) tw316 dX5_wake_31 ?_
      refine j_iload_n F 1 dX5_wake_34 rfl ?_
      refine j_iload_n F 2 dX5_wake_35 rfl ?_
      obtain ⟨S36, hc36, hm⟩ := Option.bind_eq_some_iff.mp hm
      refine j_callV F (n := 2) (As := [.int v1, .int v2]) (rest := []) (c_X3_setAwake l g hg 29 v1 v2 (by decide) S27 S36 hc36) gw_X5_187 (by decide +kernel) ⟨Nat.le_of_ble_eq_true rfl, Nat.le_of_ble_eq_true rfl⟩ ⟨Nat.le_of_ble_eq_true rfl, Nat.le_of_ble_eq_true rfl⟩ (isSt_lay (i := 29) (by decide)).1 rfl rfl rfl (Nat.le_of_ble_eq_true rfl) dX5_wake_36 ?_
      show J p l e rmX5_wake s m args below meth c g A 3 (MQ below (QC g A (some (.int r)) S') args s 0 0 A) 0 0 39 [(0, .ref (g.2.1 0)), (1, .int v1), (2, .int v2)] [] S36
      refine j_aload_n F 0 dX5_wake_39 rfl ?_
      refine j_aload_n F 0 dX5_wake_40 rfl ?_
      refine j_getR F (k0 := 1) (C := RX5) (T := TX5) (N := 11) rfl rfl rfl inF5 (by decide) tw316 dX5_wake_41 ?_
      obtain ⟨r44, S44, hc44, hm⟩ := bndE_ok hm
      refine j_callV F (n := 1) (As := [.ref (g.2.1 29)]) (rest := []) (c_X5_endOf l g hg 29 (by decide) S36 r44 S44 hc44) gw_X5_113 (by decide +kernel) ⟨Nat.le_of_ble_eq_true rfl, Nat.le_of_ble_eq_true rfl⟩ ⟨Nat.le_of_ble_eq_true rfl, Nat.le_of_ble_eq_true rfl⟩ rfl rfl rfl rfl (Nat.le_of_ble_eq_true rfl) dX5_wake_44 ?_
      obtain ⟨hs_r44, hm⟩ := gd_ok hm
      show J p l e rmX5_wake s m args below meth c g A 3 (MQ below (QC g A (some (.int r)) S') args s 0 0 A) 0 0 47 [(0, .ref (g.2.1 0)), (1, .int v1), (2, .int v2)] [.ref (g.2.1 r44)] S44
      obtain ⟨r47, hc47, hm⟩ := Option.bind_eq_some_iff.mp hm
      refine j_callV F (n := 0) (As := []) (rest := []) (c_X3_countRights l g hg r44 hs_r44 S44 r47 hc47) gw_X5_109 (by decide +kernel) ⟨Nat.le_of_ble_eq_true rfl, Nat.le_of_ble_eq_true rfl⟩ ⟨Nat.le_of_ble_eq_true rfl, Nat.le_of_ble_eq_true rfl⟩ (isSt_lay hs_r44).1 rfl rfl rfl (Nat.le_of_ble_eq_true rfl) dX5_wake_47 ?_
      show J p l e rmX5_wake s m args below meth c g A 3 (MQ below (QC g A (some (.int r)) S') args s 0 0 A) 0 0 50 [(0, .ref (g.2.1 0)), (1, .int v1), (2, .int v2)] [.int r47] S44
      exact j_iret_e F rfl dX5_wake_50 (inl_e hm)
    · cases hm
  · cases hm
set_option maxRecDepth 100000 in
set_option maxHeartbeats 4000000 in
theorem x_X5_wake (l : Launch) (hst : l.stackTraces = false) (g : GG) (hg : Inj g) (v1 : Int32) (v2 : Int32)  (S : Hs) (n : Nat) (S' : Hs) (hm : m_X5_wake v1 v2 S = some ((.inr n, S'))) : CX l yX5_wake [.code yX5_wake cX5_wake 3 (some .int)] rxX5_wake [.ref (g.2.1 0), .int v1, .int v2] g S n S' := by
  unfold m_X5_wake at hm
  refine CX.of (cc := cX5_wake) (nL := 3) (ret := (some .int)) (lv := [(0, .ref (g.2.1 0)), (1, .int v1), (2, .int v2)]) (by decide +kernel) hg (Nat.le_of_ble_eq_true rfl) rfl rfl rfl hst (fun p e s m args below meth c A F FS => ?_)
  replace F : Fx p s m meth c cX5_wake RX5 3 (some .int) g A := F
  replace FS : FX9 l s c A := FS
  show J p l e rxX5_wake s m args below meth c g A 3 (vx_MQ below QF (XQ g A n S') args s 1 6 A) 0 0 0 [(0, .ref (g.2.1 0)), (1, .int v1), (2, .int v2)] [] S
  refine j_aload_n F 0 dX5_wake_0 rfl ?_
  refine j_iload_n F 1 dX5_wake_1 rfl ?_
  refine bndP_ok hm (fun r2 hc2 hm => ?_) (fun q hc2 hm => ?_)
  · refine j_callV F (n := 1) (As := [.int v1]) (rest := []) (c_X5_checkThing l g hg v1 S hc2) gw_X5_129 (by decide +kernel) ⟨Nat.le_of_ble_eq_true rfl, Nat.le_of_ble_eq_true rfl⟩ ⟨Nat.le_of_ble_eq_true rfl, Nat.le_of_ble_eq_true rfl⟩ rfl rfl rfl rfl (Nat.le_of_ble_eq_true rfl) dX5_wake_2 ?_
    show J p l e rxX5_wake s m args below meth c g A 3 (vx_MQ below QF (XQ g A n S') args s 1 6 A) 0 0 5 [(0, .ref (g.2.1 0)), (1, .int v1), (2, .int v2)] [] S
    refine j_aload_n F 0 dX5_wake_5 rfl ?_
    refine j_getR F (k0 := 1) (C := RX5) (T := TX5) (N := 11) rfl rfl rfl inF5 (by decide) tw316 dX5_wake_6 ?_
    refine j_iload_n F 1 dX5_wake_9 rfl ?_
    obtain ⟨r10, hc10, hm⟩ := Option.bind_eq_some_iff.mp hm
    refine j_callV F (n := 1) (As := [.int v1]) (rest := []) (c_X3_isPerson l g hg 29 v1 (by decide) S r10 hc10) gw_X5_133 (by decide +kernel) ⟨Nat.le_of_ble_eq_true rfl, Nat.le_of_ble_eq_true rfl⟩ ⟨Nat.le_of_ble_eq_true rfl, Nat.le_of_ble_eq_true rfl⟩ (isSt_lay (i := 29) (by decide)).1 rfl rfl rfl (Nat.le_of_ble_eq_true rfl) dX5_wake_10 ?_
    show J p l e rxX5_wake s m args below meth c g A 3 (vx_MQ below QF (XQ g A n S') args s 1 6 A) 0 0 13 [(0, .ref (g.2.1 0)), (1, .int v1), (2, .int v2)] [.int r10] S
    refine j_if_ne F (tgt := 26) dX5_wake_13 (by decide) hm (fun _ hm => ?_) (fun _ hm => ?_)
    · refine j_aload_n F 0 dX5_wake_26 rfl ?_
      obtain ⟨S27, hc27, hm⟩ := Option.bind_eq_some_iff.mp hm
      refine j_callV F (n := 0) (As := []) (rest := []) (c_X5_remember l g hg S S27 hc27) gw_X5_175 (by decide +kernel) ⟨Nat.le_of_ble_eq_true rfl, Nat.le_of_ble_eq_true rfl⟩ ⟨Nat.le_of_ble_eq_true rfl, Nat.le_of_ble_eq_true rfl⟩ rfl rfl rfl rfl (Nat.le_of_ble_eq_true rfl) dX5_wake_27 ?_
      show J p l e rxX5_wake s m args below meth c g A 3 (vx_MQ below QF (XQ g A n S') args s 1 6 A) 0 0 30 [(0, .ref (g.2.1 0)), (1, .int v1), (2, .int v2)] [] S27
      refine j_aload_n F 0 dX5_wake_30 rfl ?_
      refine j_getR F (k0 := 1) (C := RX5) (T := TX5) (N := 11) rfl rfl rfl inF5 (by decide) tw316 dX5_wake_31 ?_
      refine j_iload_n F 1 dX5_wake_34 rfl ?_
      refine j_iload_n F 2 dX5_wake_35 rfl ?_
      obtain ⟨S36, hc36, hm⟩ := Option.bind_eq_some_iff.mp hm
      refine j_callV F (n := 2) (As := [.int v1, .int v2]) (rest := []) (c_X3_setAwake l g hg 29 v1 v2 (by decide) S27 S36 hc36) gw_X5_187 (by decide +kernel) ⟨Nat.le_of_ble_eq_true rfl, Nat.le_of_ble_eq_true rfl⟩ ⟨Nat.le_of_ble_eq_true rfl, Nat.le_of_ble_eq_true rfl⟩ (isSt_lay (i := 29) (by decide)).1 rfl rfl rfl (Nat.le_of_ble_eq_true rfl) dX5_wake_36 ?_
      show J p l e rxX5_wake s m args below meth c g A 3 (vx_MQ below QF (XQ g A n S') args s 1 6 A) 0 0 39 [(0, .ref (g.2.1 0)), (1, .int v1), (2, .int v2)] [] S36
      refine j_aload_n F 0 dX5_wake_39 rfl ?_
      refine j_aload_n F 0 dX5_wake_40 rfl ?_
      refine j_getR F (k0 := 1) (C := RX5) (T := TX5) (N := 11) rfl rfl rfl inF5 (by decide) tw316 dX5_wake_41 ?_
      obtain ⟨r44, S44, hc44, hm⟩ := bndE_ok hm
      refine j_callV F (n := 1) (As := [.ref (g.2.1 29)]) (rest := []) (c_X5_endOf l g hg 29 (by decide) S36 r44 S44 hc44) gw_X5_113 (by decide +kernel) ⟨Nat.le_of_ble_eq_true rfl, Nat.le_of_ble_eq_true rfl⟩ ⟨Nat.le_of_ble_eq_true rfl, Nat.le_of_ble_eq_true rfl⟩ rfl rfl rfl rfl (Nat.le_of_ble_eq_true rfl) dX5_wake_44 ?_
      obtain ⟨hs_r44, hm⟩ := gd_ok hm
      show J p l e rxX5_wake s m args below meth c g A 3 (vx_MQ below QF (XQ g A n S') args s 1 6 A) 0 0 47 [(0, .ref (g.2.1 0)), (1, .int v1), (2, .int v2)] [.ref (g.2.1 r44)] S44
      obtain ⟨r47, hc47, hm⟩ := Option.bind_eq_some_iff.mp hm
      refine j_callV F (n := 0) (As := []) (rest := []) (c_X3_countRights l g hg r44 hs_r44 S44 r47 hc47) gw_X5_109 (by decide +kernel) ⟨Nat.le_of_ble_eq_true rfl, Nat.le_of_ble_eq_true rfl⟩ ⟨Nat.le_of_ble_eq_true rfl, Nat.le_of_ble_eq_true rfl⟩ (isSt_lay hs_r44).1 rfl rfl rfl (Nat.le_of_ble_eq_true rfl) dX5_wake_47 ?_
      show J p l e rxX5_wake s m args below meth c g A 3 (vx_MQ below QF (XQ g A n S') args s 1 6 A) 0 0 50 [(0, .ref (g.2.1 0)), (1, .int v1), (2, .int v2)] [.int r47] S44
      cases hm
    · cases hm
      exact j_throw F FS 5 ex2 rfl rfl dX5_wake_16 dX5_wake_19 dX5_wake_20 dX5_wake_22 dX5_wake_25 ⟨Nat.le_of_ble_eq_true rfl, Nat.le_of_ble_eq_true rfl⟩ ⟨Nat.le_of_ble_eq_true rfl, Nat.le_of_ble_eq_true rfl⟩
  · cases hm
    exact j_callXV F FS (k := 1) (As := [.int v1]) (rest := []) (x_X5_checkThing l hst g hg v1 S _ hc2) gw_X5_129 (by decide +kernel) ⟨Nat.le_of_ble_eq_true rfl, Nat.le_of_ble_eq_true rfl⟩ ⟨Nat.le_of_ble_eq_true rfl, Nat.le_of_ble_eq_true rfl⟩ rfl rfl rfl rfl (Nat.le_of_ble_eq_true rfl) dX5_wake_2 (Nat.le_refl _) (Nat.le_refl _)
noncomputable def m_X5_set_J42 (v4 : Int32) (v5 : Int32) (S : Hs) : Option ((Int32 ⊕ Nat) × Hs) := (m_X3_has 29 v5 S).bind fun r48 => ((m_X5_remember  S).bind fun S54 => ((m_X3_put 29 v5 v4 S54).bind fun S65 => (gd (decide (r48 = 0 ∨ r48 = 1)) (some ((.inl r48, S65))))))
noncomputable def m_X5_set (v1 : Int32) (v2 : Int32) (v3 : Int32) (v4 : Int32) (S : Hs) : Option ((Int32 ⊕ Nat) × Hs) := bndP (m_X5_checkRight v1 v2 v3 S) (fun r4 => ((m_X5_rightOf v1 v2 v3).bind fun r10 => (if v4 = 0 then (m_X5_set_J42 v4 r10 S) else ((m_X3_hasRoomFor 29 r10 S).bind fun r26 => (if r26 = 0 then (some ((.inr 2, S))) else (m_X5_set_J42 v4 r10 S)))))) (fun q => some ((.inr q, S)))
set_option maxRecDepth 100000 in
set_option maxHeartbeats 4000000 in
theorem c_X5_set (l : Launch) (g : GG) (hg : Inj g) (v1 : Int32) (v2 : Int32) (v3 : Int32) (v4 : Int32)  (S : Hs) (r : Int32) (S' : Hs) (hm : m_X5_set v1 v2 v3 v4 S = some ((.inl r, S'))) : CM l yX5_set [.code yX5_set cX5_set 7 (some .boolean)] rmX5_set [.ref (g.2.1 0), .int v1, .int v2, .int v3, .int v4] g S (some (.int r)) S' := by
  unfold m_X5_set at hm
  refine CM.of (cc := cX5_set) (nL := 7) (ret := (some .boolean)) (lv := [(0, .ref (g.2.1 0)), (1, .int v1), (2, .int v2), (3, .int v3), (4, .int v4)]) (by decide +kernel) hg (Nat.le_of_ble_eq_true rfl) rfl (fun p e s m args below meth c A F => ?_)
  replace F : Fx p s m meth c cX5_set RX5 7 (some .boolean) g A := F
  show J p l e rmX5_set s m args below meth c g A 7 (MQ below (QC g A (some (.int r)) S') args s 0 0 A) 0 0 0 [(0, .ref (g.2.1 0)), (1, .int v1), (2, .int v2), (3, .int v3), (4, .int v4)] [] S
  have hj42 : ∀ (v4 : Int32) (v5 : Int32) (S : Hs), m_X5_set_J42 v4 v5 S = some ((.inl r, S')) → J p l e rmX5_set s m args below meth c g A 7 (MQ below (QC g A (some (.int r)) S') args s 0 0 A) 0 0 42 [(0, .ref (g.2.1 0)), (4, .int v4), (5, .int v5)] [] S := by
    intro v4 v5 S hm
    unfold m_X5_set_J42 at hm
    refine j_aload_n F 0 dX5_set_42 rfl ?_
    refine j_getR F (k0 := 1) (C := RX5) (T := TX5) (N := 11) rfl rfl rfl inF5 (by decide) tw316 dX5_set_43 ?_
    refine j_iload F 2 dX5_set_46 rfl ?_
    obtain ⟨r48, hc48, hm⟩ := Option.bind_eq_some_iff.mp hm
    refine j_callV F (n := 1) (As := [.int v5]) (rest := []) (c_X3_has l g hg 29 v5 (by decide) S r48 hc48) gw_X5_158 (by decide +kernel) ⟨Nat.le_of_ble_eq_true rfl, Nat.le_of_ble_eq_true rfl⟩ ⟨Nat.le_of_ble_eq_true rfl, Nat.le_of_ble_eq_true rfl⟩ (isSt_lay (i := 29) (by decide)).1 rfl rfl rfl (Nat.le_of_ble_eq_true rfl) dX5_set_48 ?_
    show J p l e rmX5_set s m args below meth c g A 7 (MQ below (QC g A (some (.int r)) S') args s 0 0 A) 0 0 51 [(0, .ref (g.2.1 0)), (4, .int v4), (5, .int v5)] [.int r48] S
    refine j_istore F (lv' := [(6, .int r48), (0, .ref (g.2.1 0)), (4, .int v4), (5, .int v5)]) dX5_set_51 (by decide) rfl ?_
    refine j_aload_n F 1 dX5_set_53 rfl ?_
    obtain ⟨S54, hc54, hm⟩ := Option.bind_eq_some_iff.mp hm
    refine j_callV F (n := 0) (As := []) (rest := []) (c_X5_remember l g hg S S54 hc54) gw_X5_175 (by decide +kernel) ⟨Nat.le_of_ble_eq_true rfl, Nat.le_of_ble_eq_true rfl⟩ ⟨Nat.le_of_ble_eq_true rfl, Nat.le_of_ble_eq_true rfl⟩ rfl rfl rfl rfl (Nat.le_of_ble_eq_true rfl) dX5_set_54 ?_
    show J p l e rmX5_set s m args below meth c g A 7 (MQ below (QC g A (some (.int r)) S') args s 0 0 A) 0 0 57 [(6, .int r48), (0, .ref (g.2.1 0)), (4, .int v4), (5, .int v5)] [] S54
    refine j_aload_n F 1 dX5_set_57 rfl ?_
    refine j_getR F (k0 := 1) (C := RX5) (T := TX5) (N := 11) rfl rfl rfl inF5 (by decide) tw316 dX5_set_58 ?_
    refine j_iload F 3 dX5_set_61 rfl ?_
    refine j_iload F 2 dX5_set_63 rfl ?_
    obtain ⟨S65, hc65, hm⟩ := Option.bind_eq_some_iff.mp hm
    refine j_callV F (n := 2) (As := [.int v5, .int v4]) (rest := []) (c_X3_put l g hg 29 v5 v4 (by decide) S54 S65 hc65) gw_X5_196 (by decide +kernel) ⟨Nat.le_of_ble_eq_true rfl, Nat.le_of_ble_eq_true rfl⟩ ⟨Nat.le_of_ble_eq_true rfl, Nat.le_of_ble_eq_true rfl⟩ (isSt_lay (i := 29) (by decide)).1 rfl rfl rfl (Nat.le_of_ble_eq_true rfl) dX5_set_65 ?_
    show J p l e rmX5_set s m args below meth c g A 7 (MQ below (QC g A (some (.int r)) S') args s 0 0 A) 0 0 68 [(6, .int r48), (0, .ref (g.2.1 0)), (4, .int v4), (5, .int v5)] [] S65
    refine j_iload F 0 dX5_set_68 rfl ?_
    obtain ⟨hb, hm⟩ := gd_ok hm
    exact j_zret_e F rfl (z_nar hb) dX5_set_70 (inl_e hm)
  refine j_aload_n F 0 dX5_set_0 rfl ?_
  refine j_iload_n F 1 dX5_set_1 rfl ?_
  refine j_iload_n F 2 dX5_set_2 rfl ?_
  refine j_iload_n F 3 dX5_set_3 rfl ?_
  refine bndP_ok hm (fun r4 hc4 hm => ?_) (fun q hc4 hm => ?_)
  · refine j_callV F (n := 3) (As := [.int v1, .int v2, .int v3]) (rest := []) (c_X5_checkRight l g hg v1 v2 v3 S hc4) gw_X5_150 (by decide +kernel) ⟨Nat.le_of_ble_eq_true rfl, Nat.le_of_ble_eq_true rfl⟩ ⟨Nat.le_of_ble_eq_true rfl, Nat.le_of_ble_eq_true rfl⟩ rfl rfl rfl rfl (Nat.le_of_ble_eq_true rfl) dX5_set_4 ?_
    show J p l e rmX5_set s m args below meth c g A 7 (MQ below (QC g A (some (.int r)) S') args s 0 0 A) 0 0 7 [(0, .ref (g.2.1 0)), (1, .int v1), (2, .int v2), (3, .int v3), (4, .int v4)] [] S
    refine j_iload_n F 1 dX5_set_7 rfl ?_
    refine j_iload_n F 2 dX5_set_8 rfl ?_
    refine j_iload_n F 3 dX5_set_9 rfl ?_
    obtain ⟨r10, hc10, hm⟩ := Option.bind_eq_some_iff.mp hm
    refine j_callS F (n := 3) (As := [.int v1, .int v2, .int v3]) (rest := []) (c_X5_rightOf l g hg v1 v2 v3 S r10 hc10) gw_X5_154 (by decide +kernel) ⟨Nat.le_of_ble_eq_true rfl, Nat.le_of_ble_eq_true rfl⟩ ⟨Nat.le_of_ble_eq_true rfl, Nat.le_of_ble_eq_true rfl⟩ rfl rfl (Nat.le_of_ble_eq_true rfl) dX5_set_10 ?_
    show J p l e rmX5_set s m args below meth c g A 7 (MQ below (QC g A (some (.int r)) S') args s 0 0 A) 0 0 13 [(0, .ref (g.2.1 0)), (1, .int v1), (2, .int v2), (3, .int v3), (4, .int v4)] [.int r10] S
    refine j_istore F (lv' := [(5, .int r10), (0, .ref (g.2.1 0)), (1, .int v1), (2, .int v2), (3, .int v3), (4, .int v4)]) dX5_set_13 (by decide) rfl ?_
    refine j_iload F 5 dX5_set_15 rfl ?_
    refine j_if_eq F (tgt := 42) dX5_set_17 (by decide) hm (fun _ hm => ?_) (fun _ hm => ?_)
    · refine j_sub [1, 5, 0] rfl ?_
      exact hj42 v4 r10 S  hm
    · refine j_aload_n F 1 dX5_set_20 rfl ?_
      refine j_getR F (k0 := 1) (C := RX5) (T := TX5) (N := 11) rfl rfl rfl inF5 (by decide) tw316 dX5_set_21 ?_
      refine j_iload F 0 dX5_set_24 rfl ?_
      obtain ⟨r26, hc26, hm⟩ := Option.bind_eq_some_iff.mp hm
      refine j_callV F (n := 1) (As := [.int r10]) (rest := []) (c_X3_hasRoomFor l g hg 29 r10 (by decide) S r26 hc26) gw_X5_191 (by decide +kernel) ⟨Nat.le_of_ble_eq_true rfl, Nat.le_of_ble_eq_true rfl⟩ ⟨Nat.le_of_ble_eq_true rfl, Nat.le_of_ble_eq_true rfl⟩ (isSt_lay (i := 29) (by decide)).1 rfl rfl rfl (Nat.le_of_ble_eq_true rfl) dX5_set_26 ?_
      show J p l e rmX5_set s m args below meth c g A 7 (MQ below (QC g A (some (.int r)) S') args s 0 0 A) 0 0 29 [(5, .int r10), (0, .ref (g.2.1 0)), (1, .int v1), (2, .int v2), (3, .int v3), (4, .int v4)] [.int r26] S
      refine j_if_ne F (tgt := 42) dX5_set_29 (by decide) hm (fun _ hm => ?_) (fun _ hm => ?_)
      · refine j_sub [1, 5, 0] rfl ?_
        exact hj42 v4 r10 S  hm
      · cases hm
  · cases hm
set_option maxRecDepth 100000 in
set_option maxHeartbeats 4000000 in
theorem x_X5_set (l : Launch) (hst : l.stackTraces = false) (g : GG) (hg : Inj g) (v1 : Int32) (v2 : Int32) (v3 : Int32) (v4 : Int32)  (S : Hs) (n : Nat) (S' : Hs) (hm : m_X5_set v1 v2 v3 v4 S = some ((.inr n, S'))) : CX l yX5_set [.code yX5_set cX5_set 7 (some .boolean)] rxX5_set [.ref (g.2.1 0), .int v1, .int v2, .int v3, .int v4] g S n S' := by
  unfold m_X5_set at hm
  refine CX.of (cc := cX5_set) (nL := 7) (ret := (some .boolean)) (lv := [(0, .ref (g.2.1 0)), (1, .int v1), (2, .int v2), (3, .int v3), (4, .int v4)]) (by decide +kernel) hg (Nat.le_of_ble_eq_true rfl) rfl rfl rfl hst (fun p e s m args below meth c A F FS => ?_)
  replace F : Fx p s m meth c cX5_set RX5 7 (some .boolean) g A := F
  replace FS : FX9 l s c A := FS
  show J p l e rxX5_set s m args below meth c g A 7 (vx_MQ below QF (XQ g A n S') args s 1 6 A) 0 0 0 [(0, .ref (g.2.1 0)), (1, .int v1), (2, .int v2), (3, .int v3), (4, .int v4)] [] S
  have hj42 : ∀ (v4 : Int32) (v5 : Int32) (S : Hs), m_X5_set_J42 v4 v5 S = some ((.inr n, S')) → J p l e rxX5_set s m args below meth c g A 7 (vx_MQ below QF (XQ g A n S') args s 1 6 A) 0 0 42 [(0, .ref (g.2.1 0)), (4, .int v4), (5, .int v5)] [] S := by
    intro v4 v5 S hm
    unfold m_X5_set_J42 at hm
    refine j_aload_n F 0 dX5_set_42 rfl ?_
    refine j_getR F (k0 := 1) (C := RX5) (T := TX5) (N := 11) rfl rfl rfl inF5 (by decide) tw316 dX5_set_43 ?_
    refine j_iload F 2 dX5_set_46 rfl ?_
    obtain ⟨r48, hc48, hm⟩ := Option.bind_eq_some_iff.mp hm
    refine j_callV F (n := 1) (As := [.int v5]) (rest := []) (c_X3_has l g hg 29 v5 (by decide) S r48 hc48) gw_X5_158 (by decide +kernel) ⟨Nat.le_of_ble_eq_true rfl, Nat.le_of_ble_eq_true rfl⟩ ⟨Nat.le_of_ble_eq_true rfl, Nat.le_of_ble_eq_true rfl⟩ (isSt_lay (i := 29) (by decide)).1 rfl rfl rfl (Nat.le_of_ble_eq_true rfl) dX5_set_48 ?_
    show J p l e rxX5_set s m args below meth c g A 7 (vx_MQ below QF (XQ g A n S') args s 1 6 A) 0 0 51 [(0, .ref (g.2.1 0)), (4, .int v4), (5, .int v5)] [.int r48] S
    refine j_istore F (lv' := [(6, .int r48), (0, .ref (g.2.1 0)), (4, .int v4), (5, .int v5)]) dX5_set_51 (by decide) rfl ?_
    refine j_aload_n F 1 dX5_set_53 rfl ?_
    obtain ⟨S54, hc54, hm⟩ := Option.bind_eq_some_iff.mp hm
    refine j_callV F (n := 0) (As := []) (rest := []) (c_X5_remember l g hg S S54 hc54) gw_X5_175 (by decide +kernel) ⟨Nat.le_of_ble_eq_true rfl, Nat.le_of_ble_eq_true rfl⟩ ⟨Nat.le_of_ble_eq_true rfl, Nat.le_of_ble_eq_true rfl⟩ rfl rfl rfl rfl (Nat.le_of_ble_eq_true rfl) dX5_set_54 ?_
    show J p l e rxX5_set s m args below meth c g A 7 (vx_MQ below QF (XQ g A n S') args s 1 6 A) 0 0 57 [(6, .int r48), (0, .ref (g.2.1 0)), (4, .int v4), (5, .int v5)] [] S54
    refine j_aload_n F 1 dX5_set_57 rfl ?_
    refine j_getR F (k0 := 1) (C := RX5) (T := TX5) (N := 11) rfl rfl rfl inF5 (by decide) tw316 dX5_set_58 ?_
    refine j_iload F 3 dX5_set_61 rfl ?_
    refine j_iload F 2 dX5_set_63 rfl ?_
    obtain ⟨S65, hc65, hm⟩ := Option.bind_eq_some_iff.mp hm
    refine j_callV F (n := 2) (As := [.int v5, .int v4]) (rest := []) (c_X3_put l g hg 29 v5 v4 (by decide) S54 S65 hc65) gw_X5_196 (by decide +kernel) ⟨Nat.le_of_ble_eq_true rfl, Nat.le_of_ble_eq_true rfl⟩ ⟨Nat.le_of_ble_eq_true rfl, Nat.le_of_ble_eq_true rfl⟩ (isSt_lay (i := 29) (by decide)).1 rfl rfl rfl (Nat.le_of_ble_eq_true rfl) dX5_set_65 ?_
    show J p l e rxX5_set s m args below meth c g A 7 (vx_MQ below QF (XQ g A n S') args s 1 6 A) 0 0 68 [(6, .int r48), (0, .ref (g.2.1 0)), (4, .int v4), (5, .int v5)] [] S65
    refine j_iload F 0 dX5_set_68 rfl ?_
    obtain ⟨hb, hm⟩ := gd_ok hm
    cases hm
  refine j_aload_n F 0 dX5_set_0 rfl ?_
  refine j_iload_n F 1 dX5_set_1 rfl ?_
  refine j_iload_n F 2 dX5_set_2 rfl ?_
  refine j_iload_n F 3 dX5_set_3 rfl ?_
  refine bndP_ok hm (fun r4 hc4 hm => ?_) (fun q hc4 hm => ?_)
  · refine j_callV F (n := 3) (As := [.int v1, .int v2, .int v3]) (rest := []) (c_X5_checkRight l g hg v1 v2 v3 S hc4) gw_X5_150 (by decide +kernel) ⟨Nat.le_of_ble_eq_true rfl, Nat.le_of_ble_eq_true rfl⟩ ⟨Nat.le_of_ble_eq_true rfl, Nat.le_of_ble_eq_true rfl⟩ rfl rfl rfl rfl (Nat.le_of_ble_eq_true rfl) dX5_set_4 ?_
    show J p l e rxX5_set s m args below meth c g A 7 (vx_MQ below QF (XQ g A n S') args s 1 6 A) 0 0 7 [(0, .ref (g.2.1 0)), (1, .int v1), (2, .int v2), (3, .int v3), (4, .int v4)] [] S
    refine j_iload_n F 1 dX5_set_7 rfl ?_
    refine j_iload_n F 2 dX5_set_8 rfl ?_
    refine j_iload_n F 3 dX5_set_9 rfl ?_
    obtain ⟨r10, hc10, hm⟩ := Option.bind_eq_some_iff.mp hm
    refine j_callS F (n := 3) (As := [.int v1, .int v2, .int v3]) (rest := []) (c_X5_rightOf l g hg v1 v2 v3 S r10 hc10) gw_X5_154 (by decide +kernel) ⟨Nat.le_of_ble_eq_true rfl, Nat.le_of_ble_eq_true rfl⟩ ⟨Nat.le_of_ble_eq_true rfl, Nat.le_of_ble_eq_true rfl⟩ rfl rfl (Nat.le_of_ble_eq_true rfl) dX5_set_10 ?_
    show J p l e rxX5_set s m args below meth c g A 7 (vx_MQ below QF (XQ g A n S') args s 1 6 A) 0 0 13 [(0, .ref (g.2.1 0)), (1, .int v1), (2, .int v2), (3, .int v3), (4, .int v4)] [.int r10] S
    refine j_istore F (lv' := [(5, .int r10), (0, .ref (g.2.1 0)), (1, .int v1), (2, .int v2), (3, .int v3), (4, .int v4)]) dX5_set_13 (by decide) rfl ?_
    refine j_iload F 5 dX5_set_15 rfl ?_
    refine j_if_eq F (tgt := 42) dX5_set_17 (by decide) hm (fun _ hm => ?_) (fun _ hm => ?_)
    · refine j_sub [1, 5, 0] rfl ?_
      exact hj42 v4 r10 S  hm
    · refine j_aload_n F 1 dX5_set_20 rfl ?_
      refine j_getR F (k0 := 1) (C := RX5) (T := TX5) (N := 11) rfl rfl rfl inF5 (by decide) tw316 dX5_set_21 ?_
      refine j_iload F 0 dX5_set_24 rfl ?_
      obtain ⟨r26, hc26, hm⟩ := Option.bind_eq_some_iff.mp hm
      refine j_callV F (n := 1) (As := [.int r10]) (rest := []) (c_X3_hasRoomFor l g hg 29 r10 (by decide) S r26 hc26) gw_X5_191 (by decide +kernel) ⟨Nat.le_of_ble_eq_true rfl, Nat.le_of_ble_eq_true rfl⟩ ⟨Nat.le_of_ble_eq_true rfl, Nat.le_of_ble_eq_true rfl⟩ (isSt_lay (i := 29) (by decide)).1 rfl rfl rfl (Nat.le_of_ble_eq_true rfl) dX5_set_26 ?_
      show J p l e rxX5_set s m args below meth c g A 7 (vx_MQ below QF (XQ g A n S') args s 1 6 A) 0 0 29 [(5, .int r10), (0, .ref (g.2.1 0)), (1, .int v1), (2, .int v2), (3, .int v3), (4, .int v4)] [.int r26] S
      refine j_if_ne F (tgt := 42) dX5_set_29 (by decide) hm (fun _ hm => ?_) (fun _ hm => ?_)
      · refine j_sub [1, 5, 0] rfl ?_
        exact hj42 v4 r10 S  hm
      · cases hm
        exact j_throw F FS 6 ex2 rfl rfl dX5_set_32 dX5_set_35 dX5_set_36 dX5_set_38 dX5_set_41 ⟨Nat.le_of_ble_eq_true rfl, Nat.le_of_ble_eq_true rfl⟩ ⟨Nat.le_of_ble_eq_true rfl, Nat.le_of_ble_eq_true rfl⟩
  · cases hm
    exact j_callXV F FS (k := 3) (As := [.int v1, .int v2, .int v3]) (rest := []) (x_X5_checkRight l hst g hg v1 v2 v3 S _ hc4) gw_X5_150 (by decide +kernel) ⟨Nat.le_of_ble_eq_true rfl, Nat.le_of_ble_eq_true rfl⟩ ⟨Nat.le_of_ble_eq_true rfl, Nat.le_of_ble_eq_true rfl⟩ rfl rfl rfl rfl (Nat.le_of_ble_eq_true rfl) dX5_set_4 (Nat.le_refl _) (Nat.le_refl _)
def m_X5_checkStep (v1 : Int32) (v2 : Int32) (v3 : Int32) (v4 : Int32) (S : Hs) : Option (Unit ⊕ Nat) := bndP (m_X5_checkThing v1 S) (fun r2 => (bndP (m_X5_checkThing v2 S) (fun r7 => (bndP (m_X5_checkThing v4 S) (fun r13 => ((m_X3_isStep 29 v1 v2 v3 v4 S).bind fun r25 => (if r25 = 0 then (some (.inr 1)) else (some (.inl ()))))) (fun q => some (.inr q)))) (fun q => some (.inr q)))) (fun q => some (.inr q))
set_option maxRecDepth 100000 in
set_option maxHeartbeats 4000000 in
theorem c_X5_checkStep (l : Launch) (g : GG) (hg : Inj g) (v1 : Int32) (v2 : Int32) (v3 : Int32) (v4 : Int32)  (S : Hs)  (hm : m_X5_checkStep v1 v2 v3 v4 S = some (.inl ())) : CM l yX5_checkStep [.code yX5_checkStep cX5_checkStep 5 none] rmX5_checkStep [.ref (g.2.1 0), .int v1, .int v2, .int v3, .int v4] g S none S := by
  unfold m_X5_checkStep at hm
  refine CM.of (cc := cX5_checkStep) (nL := 5) (ret := none) (lv := [(0, .ref (g.2.1 0)), (1, .int v1), (2, .int v2), (3, .int v3), (4, .int v4)]) (by decide +kernel) hg (Nat.le_of_ble_eq_true rfl) rfl (fun p e s m args below meth c A F => ?_)
  replace F : Fx p s m meth c cX5_checkStep RX5 5 none g A := F
  show J p l e rmX5_checkStep s m args below meth c g A 5 (MQ below (QC g A none S) args s 0 0 A) 0 0 0 [(0, .ref (g.2.1 0)), (1, .int v1), (2, .int v2), (3, .int v3), (4, .int v4)] [] S
  refine j_aload_n F 0 dX5_checkStep_0 rfl ?_
  refine j_iload_n F 1 dX5_checkStep_1 rfl ?_
  refine bndP_ok hm (fun r2 hc2 hm => ?_) (fun q hc2 hm => ?_)
  · refine j_callV F (n := 1) (As := [.int v1]) (rest := []) (c_X5_checkThing l g hg v1 S hc2) gw_X5_129 (by decide +kernel) ⟨Nat.le_of_ble_eq_true rfl, Nat.le_of_ble_eq_true rfl⟩ ⟨Nat.le_of_ble_eq_true rfl, Nat.le_of_ble_eq_true rfl⟩ rfl rfl rfl rfl (Nat.le_of_ble_eq_true rfl) dX5_checkStep_2 ?_
    show J p l e rmX5_checkStep s m args below meth c g A 5 (MQ below (QC g A none S) args s 0 0 A) 0 0 5 [(0, .ref (g.2.1 0)), (1, .int v1), (2, .int v2), (3, .int v3), (4, .int v4)] [] S
    refine j_aload_n F 0 dX5_checkStep_5 rfl ?_
    refine j_iload_n F 2 dX5_checkStep_6 rfl ?_
    refine bndP_ok hm (fun r7 hc7 hm => ?_) (fun q hc7 hm => ?_)
    · refine j_callV F (n := 1) (As := [.int v2]) (rest := []) (c_X5_checkThing l g hg v2 S hc7) gw_X5_129 (by decide +kernel) ⟨Nat.le_of_ble_eq_true rfl, Nat.le_of_ble_eq_true rfl⟩ ⟨Nat.le_of_ble_eq_true rfl, Nat.le_of_ble_eq_true rfl⟩ rfl rfl rfl rfl (Nat.le_of_ble_eq_true rfl) dX5_checkStep_7 ?_
      show J p l e rmX5_checkStep s m args below meth c g A 5 (MQ below (QC g A none S) args s 0 0 A) 0 0 10 [(0, .ref (g.2.1 0)), (1, .int v1), (2, .int v2), (3, .int v3), (4, .int v4)] [] S
      refine j_aload_n F 0 dX5_checkStep_10 rfl ?_
      refine j_iload F 4 dX5_checkStep_11 rfl ?_
      refine bndP_ok hm (fun r13 hc13 hm => ?_) (fun q hc13 hm => ?_)
      · refine j_callV F (n := 1) (As := [.int v4]) (rest := []) (c_X5_checkThing l g hg v4 S hc13) gw_X5_129 (by decide +kernel) ⟨Nat.le_of_ble_eq_true rfl, Nat.le_of_ble_eq_true rfl⟩ ⟨Nat.le_of_ble_eq_true rfl, Nat.le_of_ble_eq_true rfl⟩ rfl rfl rfl rfl (Nat.le_of_ble_eq_true rfl) dX5_checkStep_13 ?_
        show J p l e rmX5_checkStep s m args below meth c g A 5 (MQ below (QC g A none S) args s 0 0 A) 0 0 16 [(0, .ref (g.2.1 0)), (1, .int v1), (2, .int v2), (3, .int v3), (4, .int v4)] [] S
        refine j_aload_n F 0 dX5_checkStep_16 rfl ?_
        refine j_getR F (k0 := 1) (C := RX5) (T := TX5) (N := 11) rfl rfl rfl inF5 (by decide) tw316 dX5_checkStep_17 ?_
        refine j_iload_n F 1 dX5_checkStep_20 rfl ?_
        refine j_iload_n F 2 dX5_checkStep_21 rfl ?_
        refine j_iload_n F 3 dX5_checkStep_22 rfl ?_
        refine j_iload F 4 dX5_checkStep_23 rfl ?_
        obtain ⟨r25, hc25, hm⟩ := Option.bind_eq_some_iff.mp hm
        refine j_callV F (n := 4) (As := [.int v1, .int v2, .int v3, .int v4]) (rest := []) (c_X3_isStep l g hg 29 v1 v2 v3 v4 (by decide) S r25 hc25) gw_X5_288 (by decide +kernel) ⟨Nat.le_of_ble_eq_true rfl, Nat.le_of_ble_eq_true rfl⟩ ⟨Nat.le_of_ble_eq_true rfl, Nat.le_of_ble_eq_true rfl⟩ (isSt_lay (i := 29) (by decide)).1 rfl rfl rfl (Nat.le_of_ble_eq_true rfl) dX5_checkStep_25 ?_
        show J p l e rmX5_checkStep s m args below meth c g A 5 (MQ below (QC g A none S) args s 0 0 A) 0 0 28 [(0, .ref (g.2.1 0)), (1, .int v1), (2, .int v2), (3, .int v3), (4, .int v4)] [.int r25] S
        refine j_if_ne F (tgt := 42) dX5_checkStep_28 (by decide) hm (fun _ hm => ?_) (fun _ hm => ?_)
        · exact j_vret_e F rfl dX5_checkStep_42 rfl
        · cases hm
      · cases hm
    · cases hm
  · cases hm
set_option maxRecDepth 100000 in
set_option maxHeartbeats 4000000 in
theorem x_X5_checkStep (l : Launch) (hst : l.stackTraces = false) (g : GG) (hg : Inj g) (v1 : Int32) (v2 : Int32) (v3 : Int32) (v4 : Int32)  (S : Hs) (n : Nat) (hm : m_X5_checkStep v1 v2 v3 v4 S = some (.inr n)) : CX l yX5_checkStep [.code yX5_checkStep cX5_checkStep 5 none] rxX5_checkStep [.ref (g.2.1 0), .int v1, .int v2, .int v3, .int v4] g S n S := by
  unfold m_X5_checkStep at hm
  refine CX.of (cc := cX5_checkStep) (nL := 5) (ret := none) (lv := [(0, .ref (g.2.1 0)), (1, .int v1), (2, .int v2), (3, .int v3), (4, .int v4)]) (by decide +kernel) hg (Nat.le_of_ble_eq_true rfl) rfl rfl rfl hst (fun p e s m args below meth c A F FS => ?_)
  replace F : Fx p s m meth c cX5_checkStep RX5 5 none g A := F
  replace FS : FX9 l s c A := FS
  show J p l e rxX5_checkStep s m args below meth c g A 5 (vx_MQ below QF (XQ g A n S) args s 1 6 A) 0 0 0 [(0, .ref (g.2.1 0)), (1, .int v1), (2, .int v2), (3, .int v3), (4, .int v4)] [] S
  refine j_aload_n F 0 dX5_checkStep_0 rfl ?_
  refine j_iload_n F 1 dX5_checkStep_1 rfl ?_
  refine bndP_ok hm (fun r2 hc2 hm => ?_) (fun q hc2 hm => ?_)
  · refine j_callV F (n := 1) (As := [.int v1]) (rest := []) (c_X5_checkThing l g hg v1 S hc2) gw_X5_129 (by decide +kernel) ⟨Nat.le_of_ble_eq_true rfl, Nat.le_of_ble_eq_true rfl⟩ ⟨Nat.le_of_ble_eq_true rfl, Nat.le_of_ble_eq_true rfl⟩ rfl rfl rfl rfl (Nat.le_of_ble_eq_true rfl) dX5_checkStep_2 ?_
    show J p l e rxX5_checkStep s m args below meth c g A 5 (vx_MQ below QF (XQ g A n S) args s 1 6 A) 0 0 5 [(0, .ref (g.2.1 0)), (1, .int v1), (2, .int v2), (3, .int v3), (4, .int v4)] [] S
    refine j_aload_n F 0 dX5_checkStep_5 rfl ?_
    refine j_iload_n F 2 dX5_checkStep_6 rfl ?_
    refine bndP_ok hm (fun r7 hc7 hm => ?_) (fun q hc7 hm => ?_)
    · refine j_callV F (n := 1) (As := [.int v2]) (rest := []) (c_X5_checkThing l g hg v2 S hc7) gw_X5_129 (by decide +kernel) ⟨Nat.le_of_ble_eq_true rfl, Nat.le_of_ble_eq_true rfl⟩ ⟨Nat.le_of_ble_eq_true rfl, Nat.le_of_ble_eq_true rfl⟩ rfl rfl rfl rfl (Nat.le_of_ble_eq_true rfl) dX5_checkStep_7 ?_
      show J p l e rxX5_checkStep s m args below meth c g A 5 (vx_MQ below QF (XQ g A n S) args s 1 6 A) 0 0 10 [(0, .ref (g.2.1 0)), (1, .int v1), (2, .int v2), (3, .int v3), (4, .int v4)] [] S
      refine j_aload_n F 0 dX5_checkStep_10 rfl ?_
      refine j_iload F 4 dX5_checkStep_11 rfl ?_
      refine bndP_ok hm (fun r13 hc13 hm => ?_) (fun q hc13 hm => ?_)
      · refine j_callV F (n := 1) (As := [.int v4]) (rest := []) (c_X5_checkThing l g hg v4 S hc13) gw_X5_129 (by decide +kernel) ⟨Nat.le_of_ble_eq_true rfl, Nat.le_of_ble_eq_true rfl⟩ ⟨Nat.le_of_ble_eq_true rfl, Nat.le_of_ble_eq_true rfl⟩ rfl rfl rfl rfl (Nat.le_of_ble_eq_true rfl) dX5_checkStep_13 ?_
        show J p l e rxX5_checkStep s m args below meth c g A 5 (vx_MQ below QF (XQ g A n S) args s 1 6 A) 0 0 16 [(0, .ref (g.2.1 0)), (1, .int v1), (2, .int v2), (3, .int v3), (4, .int v4)] [] S
        refine j_aload_n F 0 dX5_checkStep_16 rfl ?_
        refine j_getR F (k0 := 1) (C := RX5) (T := TX5) (N := 11) rfl rfl rfl inF5 (by decide) tw316 dX5_checkStep_17 ?_
        refine j_iload_n F 1 dX5_checkStep_20 rfl ?_
        refine j_iload_n F 2 dX5_checkStep_21 rfl ?_
        refine j_iload_n F 3 dX5_checkStep_22 rfl ?_
        refine j_iload F 4 dX5_checkStep_23 rfl ?_
        obtain ⟨r25, hc25, hm⟩ := Option.bind_eq_some_iff.mp hm
        refine j_callV F (n := 4) (As := [.int v1, .int v2, .int v3, .int v4]) (rest := []) (c_X3_isStep l g hg 29 v1 v2 v3 v4 (by decide) S r25 hc25) gw_X5_288 (by decide +kernel) ⟨Nat.le_of_ble_eq_true rfl, Nat.le_of_ble_eq_true rfl⟩ ⟨Nat.le_of_ble_eq_true rfl, Nat.le_of_ble_eq_true rfl⟩ (isSt_lay (i := 29) (by decide)).1 rfl rfl rfl (Nat.le_of_ble_eq_true rfl) dX5_checkStep_25 ?_
        show J p l e rxX5_checkStep s m args below meth c g A 5 (vx_MQ below QF (XQ g A n S) args s 1 6 A) 0 0 28 [(0, .ref (g.2.1 0)), (1, .int v1), (2, .int v2), (3, .int v3), (4, .int v4)] [.int r25] S
        refine j_if_ne F (tgt := 42) dX5_checkStep_28 (by decide) hm (fun _ hm => ?_) (fun _ hm => ?_)
        · cases hm
        · cases hm
          exact j_throwW F FS 14 ex1 rfl rfl dX5_checkStep_31 dX5_checkStep_34 dX5_checkStep_35 dX5_checkStep_38 dX5_checkStep_41 ⟨Nat.le_of_ble_eq_true rfl, Nat.le_of_ble_eq_true rfl⟩ ⟨Nat.le_of_ble_eq_true rfl, Nat.le_of_ble_eq_true rfl⟩
      · cases hm
        exact j_callXV F FS (k := 1) (As := [.int v4]) (rest := []) (x_X5_checkThing l hst g hg v4 S _ hc13) gw_X5_129 (by decide +kernel) ⟨Nat.le_of_ble_eq_true rfl, Nat.le_of_ble_eq_true rfl⟩ ⟨Nat.le_of_ble_eq_true rfl, Nat.le_of_ble_eq_true rfl⟩ rfl rfl rfl rfl (Nat.le_of_ble_eq_true rfl) dX5_checkStep_13 (Nat.le_refl _) (Nat.le_refl _)
    · cases hm
      exact j_callXV F FS (k := 1) (As := [.int v2]) (rest := []) (x_X5_checkThing l hst g hg v2 S _ hc7) gw_X5_129 (by decide +kernel) ⟨Nat.le_of_ble_eq_true rfl, Nat.le_of_ble_eq_true rfl⟩ ⟨Nat.le_of_ble_eq_true rfl, Nat.le_of_ble_eq_true rfl⟩ rfl rfl rfl rfl (Nat.le_of_ble_eq_true rfl) dX5_checkStep_7 (Nat.le_refl _) (Nat.le_refl _)
  · cases hm
    exact j_callXV F FS (k := 1) (As := [.int v1]) (rest := []) (x_X5_checkThing l hst g hg v1 S _ hc2) gw_X5_129 (by decide +kernel) ⟨Nat.le_of_ble_eq_true rfl, Nat.le_of_ble_eq_true rfl⟩ ⟨Nat.le_of_ble_eq_true rfl, Nat.le_of_ble_eq_true rfl⟩ rfl rfl rfl rfl (Nat.le_of_ble_eq_true rfl) dX5_checkStep_2 (Nat.le_refl _) (Nat.le_refl _)
noncomputable def m_X5_doStep_J55 (v4 : Int32) (v5 : Int32) (w0 : Int32) (w1 : Nat) (S : Hs) : Option ((Int32 ⊕ Nat) × Hs) := (m_X5_rightOf w0 v4 v5).bind fun r59 => ((m_X3_put w1 r59 1 S).bind fun S63 => ((m_X3_countRights 29 S63).bind fun r70 => (some ((.inl r70, S63)))))
noncomputable def m_X5_doStep (v1 : Int32) (v2 : Int32) (v3 : Int32) (v4 : Int32) (v5 : Int32) (S : Hs) : Option ((Int32 ⊕ Nat) × Hs) := bndP (m_X5_checkStep v2 v3 v4 v5 S) (fun r7 => ((m_X3_allowsStep 29 v1 v2 v3 v4 v5 S).bind fun r21 => (if r21 = 0 then (some ((.inr 2, S))) else ((m_X5_remember  S).bind fun S39 => (if v1 = 0 then (m_X5_doStep_J55 v4 v5 v2 29 S39) else (m_X5_doStep_J55 v4 v5 v3 29 S39)))))) (fun q => some ((.inr q, S)))
set_option maxRecDepth 100000 in
set_option maxHeartbeats 4000000 in
theorem c_X5_doStep (l : Launch) (g : GG) (hg : Inj g) (v1 : Int32) (v2 : Int32) (v3 : Int32) (v4 : Int32) (v5 : Int32)  (S : Hs) (r : Int32) (S' : Hs) (hm : m_X5_doStep v1 v2 v3 v4 v5 S = some ((.inl r, S'))) : CM l yX5_doStep [.code yX5_doStep cX5_doStep 6 (some .int)] rmX5_doStep [.ref (g.2.1 0), .int v1, .int v2, .int v3, .int v4, .int v5] g S (some (.int r)) S' := by
  unfold m_X5_doStep at hm
  refine CM.of (cc := cX5_doStep) (nL := 6) (ret := (some .int)) (lv := [(0, .ref (g.2.1 0)), (1, .int v1), (2, .int v2), (3, .int v3), (4, .int v4), (5, .int v5)]) (by decide +kernel) hg (Nat.le_of_ble_eq_true rfl) rfl (fun p e s m args below meth c A F => ?_)
  replace F : Fx p s m meth c cX5_doStep RX5 6 (some .int) g A := F
  show J p l e rmX5_doStep s m args below meth c g A 6 (MQ below (QC g A (some (.int r)) S') args s 0 0 A) 0 0 0 [(0, .ref (g.2.1 0)), (1, .int v1), (2, .int v2), (3, .int v3), (4, .int v4), (5, .int v5)] [] S
  have hj55 : ∀ (v4 : Int32) (v5 : Int32) (w0 : Int32) (w1 : Nat) (S : Hs), isSt w1 = true → m_X5_doStep_J55 v4 v5 w0 w1 S = some ((.inl r, S')) → J p l e rmX5_doStep s m args below meth c g A 6 (MQ below (QC g A (some (.int r)) S') args s 0 0 A) 0 0 55 [(0, .ref (g.2.1 0)), (4, .int v4), (5, .int v5)] [.int w0, .ref (g.2.1 w1)] S := by
    intro v4 v5 w0 w1 S hw1 hm
    unfold m_X5_doStep_J55 at hm
    refine j_iload F 1 dX5_doStep_55 rfl ?_
    refine j_iload F 2 dX5_doStep_57 rfl ?_
    obtain ⟨r59, hc59, hm⟩ := Option.bind_eq_some_iff.mp hm
    refine j_callS F (n := 3) (As := [.int w0, .int v4, .int v5]) (rest := [.ref (g.2.1 w1)]) (c_X5_rightOf l g hg w0 v4 v5 S r59 hc59) gw_X5_154 (by decide +kernel) ⟨Nat.le_of_ble_eq_true rfl, Nat.le_of_ble_eq_true rfl⟩ ⟨Nat.le_of_ble_eq_true rfl, Nat.le_of_ble_eq_true rfl⟩ rfl rfl (Nat.le_of_ble_eq_true rfl) dX5_doStep_59 ?_
    show J p l e rmX5_doStep s m args below meth c g A 6 (MQ below (QC g A (some (.int r)) S') args s 0 0 A) 0 0 62 [(0, .ref (g.2.1 0)), (4, .int v4), (5, .int v5)] [.int r59, .ref (g.2.1 w1)] S
    refine j_iconst F (v := 1) dX5_doStep_62 (by decide) ?_
    obtain ⟨S63, hc63, hm⟩ := Option.bind_eq_some_iff.mp hm
    refine j_callV F (n := 2) (As := [.int r59, .int 1]) (rest := []) (c_X3_put l g hg w1 r59 1 hw1 S S63 hc63) gw_X5_196 (by decide +kernel) ⟨Nat.le_of_ble_eq_true rfl, Nat.le_of_ble_eq_true rfl⟩ ⟨Nat.le_of_ble_eq_true rfl, Nat.le_of_ble_eq_true rfl⟩ (isSt_lay hw1).1 rfl rfl rfl (Nat.le_of_ble_eq_true rfl) dX5_doStep_63 ?_
    show J p l e rmX5_doStep s m args below meth c g A 6 (MQ below (QC g A (some (.int r)) S') args s 0 0 A) 0 0 66 [(0, .ref (g.2.1 0)), (4, .int v4), (5, .int v5)] [] S63
    refine j_aload_n F 0 dX5_doStep_66 rfl ?_
    refine j_getR F (k0 := 1) (C := RX5) (T := TX5) (N := 11) rfl rfl rfl inF5 (by decide) tw316 dX5_doStep_67 ?_
    obtain ⟨r70, hc70, hm⟩ := Option.bind_eq_some_iff.mp hm
    refine j_callV F (n := 0) (As := []) (rest := []) (c_X3_countRights l g hg 29 (by decide) S63 r70 hc70) gw_X5_109 (by decide +kernel) ⟨Nat.le_of_ble_eq_true rfl, Nat.le_of_ble_eq_true rfl⟩ ⟨Nat.le_of_ble_eq_true rfl, Nat.le_of_ble_eq_true rfl⟩ (isSt_lay (i := 29) (by decide)).1 rfl rfl rfl (Nat.le_of_ble_eq_true rfl) dX5_doStep_70 ?_
    show J p l e rmX5_doStep s m args below meth c g A 6 (MQ below (QC g A (some (.int r)) S') args s 0 0 A) 0 0 73 [(0, .ref (g.2.1 0)), (4, .int v4), (5, .int v5)] [.int r70] S63
    exact j_iret_e F rfl dX5_doStep_73 (inl_e hm)
  refine j_aload_n F 0 dX5_doStep_0 rfl ?_
  refine j_iload_n F 2 dX5_doStep_1 rfl ?_
  refine j_iload_n F 3 dX5_doStep_2 rfl ?_
  refine j_iload F 4 dX5_doStep_3 rfl ?_
  refine j_iload F 5 dX5_doStep_5 rfl ?_
  refine bndP_ok hm (fun r7 hc7 hm => ?_) (fun q hc7 hm => ?_)
  · refine j_callV F (n := 4) (As := [.int v2, .int v3, .int v4, .int v5]) (rest := []) (c_X5_checkStep l g hg v2 v3 v4 v5 S hc7) gw_X5_205 (by decide +kernel) ⟨Nat.le_of_ble_eq_true rfl, Nat.le_of_ble_eq_true rfl⟩ ⟨Nat.le_of_ble_eq_true rfl, Nat.le_of_ble_eq_true rfl⟩ rfl rfl rfl rfl (Nat.le_of_ble_eq_true rfl) dX5_doStep_7 ?_
    show J p l e rmX5_doStep s m args below meth c g A 6 (MQ below (QC g A (some (.int r)) S') args s 0 0 A) 0 0 10 [(0, .ref (g.2.1 0)), (1, .int v1), (2, .int v2), (3, .int v3), (4, .int v4), (5, .int v5)] [] S
    refine j_aload_n F 0 dX5_doStep_10 rfl ?_
    refine j_getR F (k0 := 1) (C := RX5) (T := TX5) (N := 11) rfl rfl rfl inF5 (by decide) tw316 dX5_doStep_11 ?_
    refine j_iload_n F 1 dX5_doStep_14 rfl ?_
    refine j_iload_n F 2 dX5_doStep_15 rfl ?_
    refine j_iload_n F 3 dX5_doStep_16 rfl ?_
    refine j_iload F 4 dX5_doStep_17 rfl ?_
    refine j_iload F 5 dX5_doStep_19 rfl ?_
    obtain ⟨r21, hc21, hm⟩ := Option.bind_eq_some_iff.mp hm
    refine j_callV F (n := 5) (As := [.int v1, .int v2, .int v3, .int v4, .int v5]) (rest := []) (c_X3_allowsStep l g hg 29 v1 v2 v3 v4 v5 (by decide) S r21 hc21) gw_X5_299 (by decide +kernel) ⟨Nat.le_of_ble_eq_true rfl, Nat.le_of_ble_eq_true rfl⟩ ⟨Nat.le_of_ble_eq_true rfl, Nat.le_of_ble_eq_true rfl⟩ (isSt_lay (i := 29) (by decide)).1 rfl rfl rfl (Nat.le_of_ble_eq_true rfl) dX5_doStep_21 ?_
    show J p l e rmX5_doStep s m args below meth c g A 6 (MQ below (QC g A (some (.int r)) S') args s 0 0 A) 0 0 24 [(0, .ref (g.2.1 0)), (1, .int v1), (2, .int v2), (3, .int v3), (4, .int v4), (5, .int v5)] [.int r21] S
    refine j_if_ne F (tgt := 38) dX5_doStep_24 (by decide) hm (fun _ hm => ?_) (fun _ hm => ?_)
    · refine j_aload_n F 0 dX5_doStep_38 rfl ?_
      obtain ⟨S39, hc39, hm⟩ := Option.bind_eq_some_iff.mp hm
      refine j_callV F (n := 0) (As := []) (rest := []) (c_X5_remember l g hg S S39 hc39) gw_X5_175 (by decide +kernel) ⟨Nat.le_of_ble_eq_true rfl, Nat.le_of_ble_eq_true rfl⟩ ⟨Nat.le_of_ble_eq_true rfl, Nat.le_of_ble_eq_true rfl⟩ rfl rfl rfl rfl (Nat.le_of_ble_eq_true rfl) dX5_doStep_39 ?_
      show J p l e rmX5_doStep s m args below meth c g A 6 (MQ below (QC g A (some (.int r)) S') args s 0 0 A) 0 0 42 [(0, .ref (g.2.1 0)), (1, .int v1), (2, .int v2), (3, .int v3), (4, .int v4), (5, .int v5)] [] S39
      refine j_aload_n F 0 dX5_doStep_42 rfl ?_
      refine j_getR F (k0 := 1) (C := RX5) (T := TX5) (N := 11) rfl rfl rfl inF5 (by decide) tw316 dX5_doStep_43 ?_
      refine j_iload_n F 1 dX5_doStep_46 rfl ?_
      refine j_if_eq F (tgt := 54) dX5_doStep_47 (by decide) hm (fun _ hm => ?_) (fun _ hm => ?_)
      · refine j_iload_n F 2 dX5_doStep_54 rfl ?_
        refine j_sub [0, 4, 5] rfl ?_
        exact hj55 v4 v5 v2 29 S39 (by decide) hm
      · refine j_iload_n F 3 dX5_doStep_50 rfl ?_
        refine j_goto F (tgt := 55) dX5_doStep_51 (by decide) ?_
        refine j_sub [0, 4, 5] rfl ?_
        exact hj55 v4 v5 v3 29 S39 (by decide) hm
    · cases hm
  · cases hm
set_option maxRecDepth 100000 in
set_option maxHeartbeats 4000000 in
theorem x_X5_doStep (l : Launch) (hst : l.stackTraces = false) (g : GG) (hg : Inj g) (v1 : Int32) (v2 : Int32) (v3 : Int32) (v4 : Int32) (v5 : Int32)  (S : Hs) (n : Nat) (S' : Hs) (hm : m_X5_doStep v1 v2 v3 v4 v5 S = some ((.inr n, S'))) : CX l yX5_doStep [.code yX5_doStep cX5_doStep 6 (some .int)] rxX5_doStep [.ref (g.2.1 0), .int v1, .int v2, .int v3, .int v4, .int v5] g S n S' := by
  unfold m_X5_doStep at hm
  refine CX.of (cc := cX5_doStep) (nL := 6) (ret := (some .int)) (lv := [(0, .ref (g.2.1 0)), (1, .int v1), (2, .int v2), (3, .int v3), (4, .int v4), (5, .int v5)]) (by decide +kernel) hg (Nat.le_of_ble_eq_true rfl) rfl rfl rfl hst (fun p e s m args below meth c A F FS => ?_)
  replace F : Fx p s m meth c cX5_doStep RX5 6 (some .int) g A := F
  replace FS : FX9 l s c A := FS
  show J p l e rxX5_doStep s m args below meth c g A 6 (vx_MQ below QF (XQ g A n S') args s 1 6 A) 0 0 0 [(0, .ref (g.2.1 0)), (1, .int v1), (2, .int v2), (3, .int v3), (4, .int v4), (5, .int v5)] [] S
  have hj55 : ∀ (v4 : Int32) (v5 : Int32) (w0 : Int32) (w1 : Nat) (S : Hs), isSt w1 = true → m_X5_doStep_J55 v4 v5 w0 w1 S = some ((.inr n, S')) → J p l e rxX5_doStep s m args below meth c g A 6 (vx_MQ below QF (XQ g A n S') args s 1 6 A) 0 0 55 [(0, .ref (g.2.1 0)), (4, .int v4), (5, .int v5)] [.int w0, .ref (g.2.1 w1)] S := by
    intro v4 v5 w0 w1 S hw1 hm
    unfold m_X5_doStep_J55 at hm
    refine j_iload F 1 dX5_doStep_55 rfl ?_
    refine j_iload F 2 dX5_doStep_57 rfl ?_
    obtain ⟨r59, hc59, hm⟩ := Option.bind_eq_some_iff.mp hm
    refine j_callS F (n := 3) (As := [.int w0, .int v4, .int v5]) (rest := [.ref (g.2.1 w1)]) (c_X5_rightOf l g hg w0 v4 v5 S r59 hc59) gw_X5_154 (by decide +kernel) ⟨Nat.le_of_ble_eq_true rfl, Nat.le_of_ble_eq_true rfl⟩ ⟨Nat.le_of_ble_eq_true rfl, Nat.le_of_ble_eq_true rfl⟩ rfl rfl (Nat.le_of_ble_eq_true rfl) dX5_doStep_59 ?_
    show J p l e rxX5_doStep s m args below meth c g A 6 (vx_MQ below QF (XQ g A n S') args s 1 6 A) 0 0 62 [(0, .ref (g.2.1 0)), (4, .int v4), (5, .int v5)] [.int r59, .ref (g.2.1 w1)] S
    refine j_iconst F (v := 1) dX5_doStep_62 (by decide) ?_
    obtain ⟨S63, hc63, hm⟩ := Option.bind_eq_some_iff.mp hm
    refine j_callV F (n := 2) (As := [.int r59, .int 1]) (rest := []) (c_X3_put l g hg w1 r59 1 hw1 S S63 hc63) gw_X5_196 (by decide +kernel) ⟨Nat.le_of_ble_eq_true rfl, Nat.le_of_ble_eq_true rfl⟩ ⟨Nat.le_of_ble_eq_true rfl, Nat.le_of_ble_eq_true rfl⟩ (isSt_lay hw1).1 rfl rfl rfl (Nat.le_of_ble_eq_true rfl) dX5_doStep_63 ?_
    show J p l e rxX5_doStep s m args below meth c g A 6 (vx_MQ below QF (XQ g A n S') args s 1 6 A) 0 0 66 [(0, .ref (g.2.1 0)), (4, .int v4), (5, .int v5)] [] S63
    refine j_aload_n F 0 dX5_doStep_66 rfl ?_
    refine j_getR F (k0 := 1) (C := RX5) (T := TX5) (N := 11) rfl rfl rfl inF5 (by decide) tw316 dX5_doStep_67 ?_
    obtain ⟨r70, hc70, hm⟩ := Option.bind_eq_some_iff.mp hm
    refine j_callV F (n := 0) (As := []) (rest := []) (c_X3_countRights l g hg 29 (by decide) S63 r70 hc70) gw_X5_109 (by decide +kernel) ⟨Nat.le_of_ble_eq_true rfl, Nat.le_of_ble_eq_true rfl⟩ ⟨Nat.le_of_ble_eq_true rfl, Nat.le_of_ble_eq_true rfl⟩ (isSt_lay (i := 29) (by decide)).1 rfl rfl rfl (Nat.le_of_ble_eq_true rfl) dX5_doStep_70 ?_
    show J p l e rxX5_doStep s m args below meth c g A 6 (vx_MQ below QF (XQ g A n S') args s 1 6 A) 0 0 73 [(0, .ref (g.2.1 0)), (4, .int v4), (5, .int v5)] [.int r70] S63
    cases hm
  refine j_aload_n F 0 dX5_doStep_0 rfl ?_
  refine j_iload_n F 2 dX5_doStep_1 rfl ?_
  refine j_iload_n F 3 dX5_doStep_2 rfl ?_
  refine j_iload F 4 dX5_doStep_3 rfl ?_
  refine j_iload F 5 dX5_doStep_5 rfl ?_
  refine bndP_ok hm (fun r7 hc7 hm => ?_) (fun q hc7 hm => ?_)
  · refine j_callV F (n := 4) (As := [.int v2, .int v3, .int v4, .int v5]) (rest := []) (c_X5_checkStep l g hg v2 v3 v4 v5 S hc7) gw_X5_205 (by decide +kernel) ⟨Nat.le_of_ble_eq_true rfl, Nat.le_of_ble_eq_true rfl⟩ ⟨Nat.le_of_ble_eq_true rfl, Nat.le_of_ble_eq_true rfl⟩ rfl rfl rfl rfl (Nat.le_of_ble_eq_true rfl) dX5_doStep_7 ?_
    show J p l e rxX5_doStep s m args below meth c g A 6 (vx_MQ below QF (XQ g A n S') args s 1 6 A) 0 0 10 [(0, .ref (g.2.1 0)), (1, .int v1), (2, .int v2), (3, .int v3), (4, .int v4), (5, .int v5)] [] S
    refine j_aload_n F 0 dX5_doStep_10 rfl ?_
    refine j_getR F (k0 := 1) (C := RX5) (T := TX5) (N := 11) rfl rfl rfl inF5 (by decide) tw316 dX5_doStep_11 ?_
    refine j_iload_n F 1 dX5_doStep_14 rfl ?_
    refine j_iload_n F 2 dX5_doStep_15 rfl ?_
    refine j_iload_n F 3 dX5_doStep_16 rfl ?_
    refine j_iload F 4 dX5_doStep_17 rfl ?_
    refine j_iload F 5 dX5_doStep_19 rfl ?_
    obtain ⟨r21, hc21, hm⟩ := Option.bind_eq_some_iff.mp hm
    refine j_callV F (n := 5) (As := [.int v1, .int v2, .int v3, .int v4, .int v5]) (rest := []) (c_X3_allowsStep l g hg 29 v1 v2 v3 v4 v5 (by decide) S r21 hc21) gw_X5_299 (by decide +kernel) ⟨Nat.le_of_ble_eq_true rfl, Nat.le_of_ble_eq_true rfl⟩ ⟨Nat.le_of_ble_eq_true rfl, Nat.le_of_ble_eq_true rfl⟩ (isSt_lay (i := 29) (by decide)).1 rfl rfl rfl (Nat.le_of_ble_eq_true rfl) dX5_doStep_21 ?_
    show J p l e rxX5_doStep s m args below meth c g A 6 (vx_MQ below QF (XQ g A n S') args s 1 6 A) 0 0 24 [(0, .ref (g.2.1 0)), (1, .int v1), (2, .int v2), (3, .int v3), (4, .int v4), (5, .int v5)] [.int r21] S
    refine j_if_ne F (tgt := 38) dX5_doStep_24 (by decide) hm (fun _ hm => ?_) (fun _ hm => ?_)
    · refine j_aload_n F 0 dX5_doStep_38 rfl ?_
      obtain ⟨S39, hc39, hm⟩ := Option.bind_eq_some_iff.mp hm
      refine j_callV F (n := 0) (As := []) (rest := []) (c_X5_remember l g hg S S39 hc39) gw_X5_175 (by decide +kernel) ⟨Nat.le_of_ble_eq_true rfl, Nat.le_of_ble_eq_true rfl⟩ ⟨Nat.le_of_ble_eq_true rfl, Nat.le_of_ble_eq_true rfl⟩ rfl rfl rfl rfl (Nat.le_of_ble_eq_true rfl) dX5_doStep_39 ?_
      show J p l e rxX5_doStep s m args below meth c g A 6 (vx_MQ below QF (XQ g A n S') args s 1 6 A) 0 0 42 [(0, .ref (g.2.1 0)), (1, .int v1), (2, .int v2), (3, .int v3), (4, .int v4), (5, .int v5)] [] S39
      refine j_aload_n F 0 dX5_doStep_42 rfl ?_
      refine j_getR F (k0 := 1) (C := RX5) (T := TX5) (N := 11) rfl rfl rfl inF5 (by decide) tw316 dX5_doStep_43 ?_
      refine j_iload_n F 1 dX5_doStep_46 rfl ?_
      refine j_if_eq F (tgt := 54) dX5_doStep_47 (by decide) hm (fun _ hm => ?_) (fun _ hm => ?_)
      · refine j_iload_n F 2 dX5_doStep_54 rfl ?_
        refine j_sub [0, 4, 5] rfl ?_
        exact hj55 v4 v5 v2 29 S39 (by decide) hm
      · refine j_iload_n F 3 dX5_doStep_50 rfl ?_
        refine j_goto F (tgt := 55) dX5_doStep_51 (by decide) ?_
        refine j_sub [0, 4, 5] rfl ?_
        exact hj55 v4 v5 v3 29 S39 (by decide) hm
    · cases hm
      exact j_throwW F FS 16 ex2 rfl rfl dX5_doStep_27 dX5_doStep_30 dX5_doStep_31 dX5_doStep_34 dX5_doStep_37 ⟨Nat.le_of_ble_eq_true rfl, Nat.le_of_ble_eq_true rfl⟩ ⟨Nat.le_of_ble_eq_true rfl, Nat.le_of_ble_eq_true rfl⟩
  · cases hm
    exact j_callXV F FS (k := 4) (As := [.int v2, .int v3, .int v4, .int v5]) (rest := []) (x_X5_checkStep l hst g hg v2 v3 v4 v5 S _ hc7) gw_X5_205 (by decide +kernel) ⟨Nat.le_of_ble_eq_true rfl, Nat.le_of_ble_eq_true rfl⟩ ⟨Nat.le_of_ble_eq_true rfl, Nat.le_of_ble_eq_true rfl⟩ rfl rfl rfl rfl (Nat.le_of_ble_eq_true rfl) dX5_doStep_7 (Nat.le_refl _) (Nat.le_refl _)
noncomputable def m_X5_take (v1 : Int32) (v2 : Int32) (v3 : Int32) (v4 : Int32) (S : Hs) : Option ((Int32 ⊕ Nat) × Hs) := bndX (m_X5_doStep 0 v1 v2 v3 v4 S) (fun r7 S7 => (some ((.inl r7, S7)))) (fun q S7 => some ((.inr q, S7)))
set_option maxRecDepth 100000 in
set_option maxHeartbeats 4000000 in
theorem c_X5_take (l : Launch) (g : GG) (hg : Inj g) (v1 : Int32) (v2 : Int32) (v3 : Int32) (v4 : Int32)  (S : Hs) (r : Int32) (S' : Hs) (hm : m_X5_take v1 v2 v3 v4 S = some ((.inl r, S'))) : CM l yX5_take [.code yX5_take cX5_take 5 (some .int)] rmX5_take [.ref (g.2.1 0), .int v1, .int v2, .int v3, .int v4] g S (some (.int r)) S' := by
  unfold m_X5_take at hm
  refine CM.of (cc := cX5_take) (nL := 5) (ret := (some .int)) (lv := [(0, .ref (g.2.1 0)), (1, .int v1), (2, .int v2), (3, .int v3), (4, .int v4)]) (by decide +kernel) hg (Nat.le_of_ble_eq_true rfl) rfl (fun p e s m args below meth c A F => ?_)
  replace F : Fx p s m meth c cX5_take RX5 5 (some .int) g A := F
  show J p l e rmX5_take s m args below meth c g A 5 (MQ below (QC g A (some (.int r)) S') args s 0 0 A) 0 0 0 [(0, .ref (g.2.1 0)), (1, .int v1), (2, .int v2), (3, .int v3), (4, .int v4)] [] S
  refine j_aload_n F 0 dX5_take_0 rfl ?_
  refine j_iconst F (v := 0) dX5_take_1 (by decide) ?_
  refine j_iload_n F 1 dX5_take_2 rfl ?_
  refine j_iload_n F 2 dX5_take_3 rfl ?_
  refine j_iload_n F 3 dX5_take_4 rfl ?_
  refine j_iload F 4 dX5_take_5 rfl ?_
  refine bndX_ok hm (fun r7 S7 hc7 hm => ?_) (fun q S7 hc7 hm => ?_)
  · refine j_callV F (n := 5) (As := [.int 0, .int v1, .int v2, .int v3, .int v4]) (rest := []) (c_X5_doStep l g hg 0 v1 v2 v3 v4 S r7 S7 hc7) gw_X5_199 (by decide +kernel) ⟨Nat.le_of_ble_eq_true rfl, Nat.le_of_ble_eq_true rfl⟩ ⟨Nat.le_of_ble_eq_true rfl, Nat.le_of_ble_eq_true rfl⟩ rfl rfl rfl rfl (Nat.le_of_ble_eq_true rfl) dX5_take_7 ?_
    show J p l e rmX5_take s m args below meth c g A 5 (MQ below (QC g A (some (.int r)) S') args s 0 0 A) 0 0 10 [(0, .ref (g.2.1 0)), (1, .int v1), (2, .int v2), (3, .int v3), (4, .int v4)] [.int r7] S7
    exact j_iret_e F rfl dX5_take_10 (inl_e hm)
  · cases hm
set_option maxRecDepth 100000 in
set_option maxHeartbeats 4000000 in
theorem x_X5_take (l : Launch) (hst : l.stackTraces = false) (g : GG) (hg : Inj g) (v1 : Int32) (v2 : Int32) (v3 : Int32) (v4 : Int32)  (S : Hs) (n : Nat) (S' : Hs) (hm : m_X5_take v1 v2 v3 v4 S = some ((.inr n, S'))) : CX l yX5_take [.code yX5_take cX5_take 5 (some .int)] rxX5_take [.ref (g.2.1 0), .int v1, .int v2, .int v3, .int v4] g S n S' := by
  unfold m_X5_take at hm
  refine CX.of (cc := cX5_take) (nL := 5) (ret := (some .int)) (lv := [(0, .ref (g.2.1 0)), (1, .int v1), (2, .int v2), (3, .int v3), (4, .int v4)]) (by decide +kernel) hg (Nat.le_of_ble_eq_true rfl) rfl rfl rfl hst (fun p e s m args below meth c A F FS => ?_)
  replace F : Fx p s m meth c cX5_take RX5 5 (some .int) g A := F
  replace FS : FX9 l s c A := FS
  show J p l e rxX5_take s m args below meth c g A 5 (vx_MQ below QF (XQ g A n S') args s 1 6 A) 0 0 0 [(0, .ref (g.2.1 0)), (1, .int v1), (2, .int v2), (3, .int v3), (4, .int v4)] [] S
  refine j_aload_n F 0 dX5_take_0 rfl ?_
  refine j_iconst F (v := 0) dX5_take_1 (by decide) ?_
  refine j_iload_n F 1 dX5_take_2 rfl ?_
  refine j_iload_n F 2 dX5_take_3 rfl ?_
  refine j_iload_n F 3 dX5_take_4 rfl ?_
  refine j_iload F 4 dX5_take_5 rfl ?_
  refine bndX_ok hm (fun r7 S7 hc7 hm => ?_) (fun q S7 hc7 hm => ?_)
  · refine j_callV F (n := 5) (As := [.int 0, .int v1, .int v2, .int v3, .int v4]) (rest := []) (c_X5_doStep l g hg 0 v1 v2 v3 v4 S r7 S7 hc7) gw_X5_199 (by decide +kernel) ⟨Nat.le_of_ble_eq_true rfl, Nat.le_of_ble_eq_true rfl⟩ ⟨Nat.le_of_ble_eq_true rfl, Nat.le_of_ble_eq_true rfl⟩ rfl rfl rfl rfl (Nat.le_of_ble_eq_true rfl) dX5_take_7 ?_
    show J p l e rxX5_take s m args below meth c g A 5 (vx_MQ below QF (XQ g A n S') args s 1 6 A) 0 0 10 [(0, .ref (g.2.1 0)), (1, .int v1), (2, .int v2), (3, .int v3), (4, .int v4)] [.int r7] S7
    cases hm
  · cases hm
    exact j_callXV F FS (k := 5) (As := [.int 0, .int v1, .int v2, .int v3, .int v4]) (rest := []) (x_X5_doStep l hst g hg 0 v1 v2 v3 v4 S _ _ hc7) gw_X5_199 (by decide +kernel) ⟨Nat.le_of_ble_eq_true rfl, Nat.le_of_ble_eq_true rfl⟩ ⟨Nat.le_of_ble_eq_true rfl, Nat.le_of_ble_eq_true rfl⟩ rfl rfl rfl rfl (Nat.le_of_ble_eq_true rfl) dX5_take_7 (Nat.le_refl _) (Nat.le_refl _)
noncomputable def m_X5_give (v1 : Int32) (v2 : Int32) (v3 : Int32) (v4 : Int32) (S : Hs) : Option ((Int32 ⊕ Nat) × Hs) := bndX (m_X5_doStep 1 v1 v2 v3 v4 S) (fun r7 S7 => (some ((.inl r7, S7)))) (fun q S7 => some ((.inr q, S7)))
set_option maxRecDepth 100000 in
set_option maxHeartbeats 4000000 in
theorem c_X5_give (l : Launch) (g : GG) (hg : Inj g) (v1 : Int32) (v2 : Int32) (v3 : Int32) (v4 : Int32)  (S : Hs) (r : Int32) (S' : Hs) (hm : m_X5_give v1 v2 v3 v4 S = some ((.inl r, S'))) : CM l yX5_give [.code yX5_give cX5_give 5 (some .int)] rmX5_give [.ref (g.2.1 0), .int v1, .int v2, .int v3, .int v4] g S (some (.int r)) S' := by
  unfold m_X5_give at hm
  refine CM.of (cc := cX5_give) (nL := 5) (ret := (some .int)) (lv := [(0, .ref (g.2.1 0)), (1, .int v1), (2, .int v2), (3, .int v3), (4, .int v4)]) (by decide +kernel) hg (Nat.le_of_ble_eq_true rfl) rfl (fun p e s m args below meth c A F => ?_)
  replace F : Fx p s m meth c cX5_give RX5 5 (some .int) g A := F
  show J p l e rmX5_give s m args below meth c g A 5 (MQ below (QC g A (some (.int r)) S') args s 0 0 A) 0 0 0 [(0, .ref (g.2.1 0)), (1, .int v1), (2, .int v2), (3, .int v3), (4, .int v4)] [] S
  refine j_aload_n F 0 dX5_give_0 rfl ?_
  refine j_iconst F (v := 1) dX5_give_1 (by decide) ?_
  refine j_iload_n F 1 dX5_give_2 rfl ?_
  refine j_iload_n F 2 dX5_give_3 rfl ?_
  refine j_iload_n F 3 dX5_give_4 rfl ?_
  refine j_iload F 4 dX5_give_5 rfl ?_
  refine bndX_ok hm (fun r7 S7 hc7 hm => ?_) (fun q S7 hc7 hm => ?_)
  · refine j_callV F (n := 5) (As := [.int 1, .int v1, .int v2, .int v3, .int v4]) (rest := []) (c_X5_doStep l g hg 1 v1 v2 v3 v4 S r7 S7 hc7) gw_X5_199 (by decide +kernel) ⟨Nat.le_of_ble_eq_true rfl, Nat.le_of_ble_eq_true rfl⟩ ⟨Nat.le_of_ble_eq_true rfl, Nat.le_of_ble_eq_true rfl⟩ rfl rfl rfl rfl (Nat.le_of_ble_eq_true rfl) dX5_give_7 ?_
    show J p l e rmX5_give s m args below meth c g A 5 (MQ below (QC g A (some (.int r)) S') args s 0 0 A) 0 0 10 [(0, .ref (g.2.1 0)), (1, .int v1), (2, .int v2), (3, .int v3), (4, .int v4)] [.int r7] S7
    exact j_iret_e F rfl dX5_give_10 (inl_e hm)
  · cases hm
set_option maxRecDepth 100000 in
set_option maxHeartbeats 4000000 in
theorem x_X5_give (l : Launch) (hst : l.stackTraces = false) (g : GG) (hg : Inj g) (v1 : Int32) (v2 : Int32) (v3 : Int32) (v4 : Int32)  (S : Hs) (n : Nat) (S' : Hs) (hm : m_X5_give v1 v2 v3 v4 S = some ((.inr n, S'))) : CX l yX5_give [.code yX5_give cX5_give 5 (some .int)] rxX5_give [.ref (g.2.1 0), .int v1, .int v2, .int v3, .int v4] g S n S' := by
  unfold m_X5_give at hm
  refine CX.of (cc := cX5_give) (nL := 5) (ret := (some .int)) (lv := [(0, .ref (g.2.1 0)), (1, .int v1), (2, .int v2), (3, .int v3), (4, .int v4)]) (by decide +kernel) hg (Nat.le_of_ble_eq_true rfl) rfl rfl rfl hst (fun p e s m args below meth c A F FS => ?_)
  replace F : Fx p s m meth c cX5_give RX5 5 (some .int) g A := F
  replace FS : FX9 l s c A := FS
  show J p l e rxX5_give s m args below meth c g A 5 (vx_MQ below QF (XQ g A n S') args s 1 6 A) 0 0 0 [(0, .ref (g.2.1 0)), (1, .int v1), (2, .int v2), (3, .int v3), (4, .int v4)] [] S
  refine j_aload_n F 0 dX5_give_0 rfl ?_
  refine j_iconst F (v := 1) dX5_give_1 (by decide) ?_
  refine j_iload_n F 1 dX5_give_2 rfl ?_
  refine j_iload_n F 2 dX5_give_3 rfl ?_
  refine j_iload_n F 3 dX5_give_4 rfl ?_
  refine j_iload F 4 dX5_give_5 rfl ?_
  refine bndX_ok hm (fun r7 S7 hc7 hm => ?_) (fun q S7 hc7 hm => ?_)
  · refine j_callV F (n := 5) (As := [.int 1, .int v1, .int v2, .int v3, .int v4]) (rest := []) (c_X5_doStep l g hg 1 v1 v2 v3 v4 S r7 S7 hc7) gw_X5_199 (by decide +kernel) ⟨Nat.le_of_ble_eq_true rfl, Nat.le_of_ble_eq_true rfl⟩ ⟨Nat.le_of_ble_eq_true rfl, Nat.le_of_ble_eq_true rfl⟩ rfl rfl rfl rfl (Nat.le_of_ble_eq_true rfl) dX5_give_7 ?_
    show J p l e rxX5_give s m args below meth c g A 5 (vx_MQ below QF (XQ g A n S') args s 1 6 A) 0 0 10 [(0, .ref (g.2.1 0)), (1, .int v1), (2, .int v2), (3, .int v3), (4, .int v4)] [.int r7] S7
    cases hm
  · cases hm
    exact j_callXV F FS (k := 5) (As := [.int 1, .int v1, .int v2, .int v3, .int v4]) (rest := []) (x_X5_doStep l hst g hg 1 v1 v2 v3 v4 S _ _ hc7) gw_X5_199 (by decide +kernel) ⟨Nat.le_of_ble_eq_true rfl, Nat.le_of_ble_eq_true rfl⟩ ⟨Nat.le_of_ble_eq_true rfl, Nat.le_of_ble_eq_true rfl⟩ rfl rfl rfl rfl (Nat.le_of_ble_eq_true rfl) dX5_give_7 (Nat.le_refl _) (Nat.le_refl _)
noncomputable def m_X5_undo (S : Hs) : Option ((Int32 ⊕ Nat) × Hs) := if (gI S 0 3) = 0 then (some ((.inr 2, S))) else (bnd (sI S 0 3 ((gI S 0 3) - 1)) fun S24 => (gd (inb (gI S24 0 3) 14) (bnd (gQ S24 3 (gI S24 0 3).toNatClampNeg) fun q39 => gd (isSt q39) ((m_X3_copyFrom 29 q39 S24).bind fun S40 => (some ((.inl (gI S40 0 3), S40)))))))
set_option maxRecDepth 100000 in
set_option maxHeartbeats 4000000 in
theorem c_X5_undo (l : Launch) (g : GG) (hg : Inj g)   (S : Hs) (r : Int32) (S' : Hs) (hm : m_X5_undo S = some ((.inl r, S'))) : CM l yX5_undo [.code yX5_undo cX5_undo 1 (some .int)] rmX5_undo [.ref (g.2.1 0)] g S (some (.int r)) S' := by
  unfold m_X5_undo at hm
  refine CM.of (cc := cX5_undo) (nL := 1) (ret := (some .int)) (lv := [(0, .ref (g.2.1 0))]) (by decide +kernel) hg (Nat.le_of_ble_eq_true rfl) rfl (fun p e s m args below meth c A F => ?_)
  replace F : Fx p s m meth c cX5_undo RX5 1 (some .int) g A := F
  show J p l e rmX5_undo s m args below meth c g A 1 (MQ below (QC g A (some (.int r)) S') args s 0 0 A) 0 0 0 [(0, .ref (g.2.1 0))] [] S
  refine j_aload_n F 0 dX5_undo_0 rfl ?_
  refine j_getI F (k0 := 3) (C := RX5) (T := TX5) (N := 11) rfl rfl rfl inF5 (by decide) tw350 dX5_undo_1 ?_
  refine j_if_ne F (tgt := 17) dX5_undo_4 (by decide) hm (fun _ hm => ?_) (fun _ hm => ?_)
  · refine j_aload_n F 0 dX5_undo_17 rfl ?_
    refine j_dup F dX5_undo_18 rfl ?_
    refine j_getI F (k0 := 3) (C := RX5) (T := TX5) (N := 11) rfl rfl rfl inF5 (by decide) tw350 dX5_undo_19 ?_
    refine j_iconst F (v := 1) dX5_undo_22 (by decide) ?_
    refine j_isub F dX5_undo_23 ?_
    refine j_putI F (k0 := 3) (C := RX5) (T := TX5) (N := 11) tyX5 tyX5_ok nmX5 rfl rfl rfl inF5 (by decide) tw350 rfl (by decide +kernel) dX5_undo_24 ?_
    refine j_bndS hm (fun S24 hm => ?_)
    refine j_aload_n F 0 dX5_undo_27 rfl ?_
    refine j_getR F (k0 := 1) (C := RX5) (T := TX5) (N := 11) rfl rfl rfl inF5 (by decide) tw316 dX5_undo_28 ?_
    refine j_aload_n F 0 dX5_undo_31 rfl ?_
    refine j_getR F (k0 := 2) (C := RX5) (T := TX5) (N := 11) rfl rfl rfl inF5 (by decide) tw317 dX5_undo_32 ?_
    refine j_aload_n F 0 dX5_undo_35 rfl ?_
    refine j_getI F (k0 := 3) (C := RX5) (T := TX5) (N := 11) rfl rfl rfl inF5 (by decide) tw350 dX5_undo_36 ?_
    refine j_aald F rfl dX5_undo_39 hm (fun hm => ?_)
    refine j_bndr hm (fun q39 hm => ?_)
    obtain ⟨hs_q39, hm⟩ := gd_ok hm
    obtain ⟨S40, hc40, hm⟩ := Option.bind_eq_some_iff.mp hm
    refine j_callV F (n := 1) (As := [.ref (g.2.1 q39)]) (rest := []) (c_X3_copyFrom l g hg 29 q39 (by decide) hs_q39 S24 S40 hc40) gw_X5_87 (by decide +kernel) ⟨Nat.le_of_ble_eq_true rfl, Nat.le_of_ble_eq_true rfl⟩ ⟨Nat.le_of_ble_eq_true rfl, Nat.le_of_ble_eq_true rfl⟩ (isSt_lay (i := 29) (by decide)).1 rfl rfl rfl (Nat.le_of_ble_eq_true rfl) dX5_undo_40 ?_
    show J p l e rmX5_undo s m args below meth c g A 1 (MQ below (QC g A (some (.int r)) S') args s 0 0 A) 0 0 43 [(0, .ref (g.2.1 0))] [] S40
    refine j_aload_n F 0 dX5_undo_43 rfl ?_
    refine j_getI F (k0 := 3) (C := RX5) (T := TX5) (N := 11) rfl rfl rfl inF5 (by decide) tw350 dX5_undo_44 ?_
    exact j_iret_e F rfl dX5_undo_47 (inl_e hm)
  · cases hm
set_option maxRecDepth 100000 in
set_option maxHeartbeats 4000000 in
theorem x_X5_undo (l : Launch) (hst : l.stackTraces = false) (g : GG) (hg : Inj g)   (S : Hs) (n : Nat) (S' : Hs) (hm : m_X5_undo S = some ((.inr n, S'))) : CX l yX5_undo [.code yX5_undo cX5_undo 1 (some .int)] rxX5_undo [.ref (g.2.1 0)] g S n S' := by
  unfold m_X5_undo at hm
  refine CX.of (cc := cX5_undo) (nL := 1) (ret := (some .int)) (lv := [(0, .ref (g.2.1 0))]) (by decide +kernel) hg (Nat.le_of_ble_eq_true rfl) rfl rfl rfl hst (fun p e s m args below meth c A F FS => ?_)
  replace F : Fx p s m meth c cX5_undo RX5 1 (some .int) g A := F
  replace FS : FX9 l s c A := FS
  show J p l e rxX5_undo s m args below meth c g A 1 (vx_MQ below QF (XQ g A n S') args s 1 6 A) 0 0 0 [(0, .ref (g.2.1 0))] [] S
  refine j_aload_n F 0 dX5_undo_0 rfl ?_
  refine j_getI F (k0 := 3) (C := RX5) (T := TX5) (N := 11) rfl rfl rfl inF5 (by decide) tw350 dX5_undo_1 ?_
  refine j_if_ne F (tgt := 17) dX5_undo_4 (by decide) hm (fun _ hm => ?_) (fun _ hm => ?_)
  · refine j_aload_n F 0 dX5_undo_17 rfl ?_
    refine j_dup F dX5_undo_18 rfl ?_
    refine j_getI F (k0 := 3) (C := RX5) (T := TX5) (N := 11) rfl rfl rfl inF5 (by decide) tw350 dX5_undo_19 ?_
    refine j_iconst F (v := 1) dX5_undo_22 (by decide) ?_
    refine j_isub F dX5_undo_23 ?_
    refine j_putI F (k0 := 3) (C := RX5) (T := TX5) (N := 11) tyX5 tyX5_ok nmX5 rfl rfl rfl inF5 (by decide) tw350 rfl (by decide +kernel) dX5_undo_24 ?_
    refine j_bndS hm (fun S24 hm => ?_)
    refine j_aload_n F 0 dX5_undo_27 rfl ?_
    refine j_getR F (k0 := 1) (C := RX5) (T := TX5) (N := 11) rfl rfl rfl inF5 (by decide) tw316 dX5_undo_28 ?_
    refine j_aload_n F 0 dX5_undo_31 rfl ?_
    refine j_getR F (k0 := 2) (C := RX5) (T := TX5) (N := 11) rfl rfl rfl inF5 (by decide) tw317 dX5_undo_32 ?_
    refine j_aload_n F 0 dX5_undo_35 rfl ?_
    refine j_getI F (k0 := 3) (C := RX5) (T := TX5) (N := 11) rfl rfl rfl inF5 (by decide) tw350 dX5_undo_36 ?_
    refine j_aald F rfl dX5_undo_39 hm (fun hm => ?_)
    refine j_bndr hm (fun q39 hm => ?_)
    obtain ⟨hs_q39, hm⟩ := gd_ok hm
    obtain ⟨S40, hc40, hm⟩ := Option.bind_eq_some_iff.mp hm
    refine j_callV F (n := 1) (As := [.ref (g.2.1 q39)]) (rest := []) (c_X3_copyFrom l g hg 29 q39 (by decide) hs_q39 S24 S40 hc40) gw_X5_87 (by decide +kernel) ⟨Nat.le_of_ble_eq_true rfl, Nat.le_of_ble_eq_true rfl⟩ ⟨Nat.le_of_ble_eq_true rfl, Nat.le_of_ble_eq_true rfl⟩ (isSt_lay (i := 29) (by decide)).1 rfl rfl rfl (Nat.le_of_ble_eq_true rfl) dX5_undo_40 ?_
    show J p l e rxX5_undo s m args below meth c g A 1 (vx_MQ below QF (XQ g A n S') args s 1 6 A) 0 0 43 [(0, .ref (g.2.1 0))] [] S40
    refine j_aload_n F 0 dX5_undo_43 rfl ?_
    refine j_getI F (k0 := 3) (C := RX5) (T := TX5) (N := 11) rfl rfl rfl inF5 (by decide) tw350 dX5_undo_44 ?_
    cases hm
  · cases hm
    exact j_throw F FS 7 ex2 rfl rfl dX5_undo_7 dX5_undo_10 dX5_undo_11 dX5_undo_13 dX5_undo_16 ⟨Nat.le_of_ble_eq_true rfl, Nat.le_of_ble_eq_true rfl⟩ ⟨Nat.le_of_ble_eq_true rfl, Nat.le_of_ble_eq_true rfl⟩
def m_X5_whyNot (v1 : Int32) (v2 : Int32) (v3 : Int32) (v4 : Int32) (v5 : Int32) (S : Hs) : Option (Int32 ⊕ Nat) := bndP (m_X5_checkStep v2 v3 v4 v5 S) (fun r7 => ((m_X3_whatBars 29 v1 v2 v3 v4 v5 S).bind fun r21 => (some (.inl r21)))) (fun q => some (.inr q))
set_option maxRecDepth 100000 in
set_option maxHeartbeats 4000000 in
theorem c_X5_whyNot (l : Launch) (g : GG) (hg : Inj g) (v1 : Int32) (v2 : Int32) (v3 : Int32) (v4 : Int32) (v5 : Int32)  (S : Hs) (r : Int32) (hm : m_X5_whyNot v1 v2 v3 v4 v5 S = some (.inl r)) : CM l yX5_whyNot [.code yX5_whyNot cX5_whyNot 6 (some .int)] rmX5_whyNot [.ref (g.2.1 0), .int v1, .int v2, .int v3, .int v4, .int v5] g S (some (.int r)) S := by
  unfold m_X5_whyNot at hm
  refine CM.of (cc := cX5_whyNot) (nL := 6) (ret := (some .int)) (lv := [(0, .ref (g.2.1 0)), (1, .int v1), (2, .int v2), (3, .int v3), (4, .int v4), (5, .int v5)]) (by decide +kernel) hg (Nat.le_of_ble_eq_true rfl) rfl (fun p e s m args below meth c A F => ?_)
  replace F : Fx p s m meth c cX5_whyNot RX5 6 (some .int) g A := F
  show J p l e rmX5_whyNot s m args below meth c g A 6 (MQ below (QC g A (some (.int r)) S) args s 0 0 A) 0 0 0 [(0, .ref (g.2.1 0)), (1, .int v1), (2, .int v2), (3, .int v3), (4, .int v4), (5, .int v5)] [] S
  refine j_aload_n F 0 dX5_whyNot_0 rfl ?_
  refine j_iload_n F 2 dX5_whyNot_1 rfl ?_
  refine j_iload_n F 3 dX5_whyNot_2 rfl ?_
  refine j_iload F 4 dX5_whyNot_3 rfl ?_
  refine j_iload F 5 dX5_whyNot_5 rfl ?_
  refine bndP_ok hm (fun r7 hc7 hm => ?_) (fun q hc7 hm => ?_)
  · refine j_callV F (n := 4) (As := [.int v2, .int v3, .int v4, .int v5]) (rest := []) (c_X5_checkStep l g hg v2 v3 v4 v5 S hc7) gw_X5_205 (by decide +kernel) ⟨Nat.le_of_ble_eq_true rfl, Nat.le_of_ble_eq_true rfl⟩ ⟨Nat.le_of_ble_eq_true rfl, Nat.le_of_ble_eq_true rfl⟩ rfl rfl rfl rfl (Nat.le_of_ble_eq_true rfl) dX5_whyNot_7 ?_
    show J p l e rmX5_whyNot s m args below meth c g A 6 (MQ below (QC g A (some (.int r)) S) args s 0 0 A) 0 0 10 [(0, .ref (g.2.1 0)), (1, .int v1), (2, .int v2), (3, .int v3), (4, .int v4), (5, .int v5)] [] S
    refine j_aload_n F 0 dX5_whyNot_10 rfl ?_
    refine j_getR F (k0 := 1) (C := RX5) (T := TX5) (N := 11) rfl rfl rfl inF5 (by decide) tw316 dX5_whyNot_11 ?_
    refine j_iload_n F 1 dX5_whyNot_14 rfl ?_
    refine j_iload_n F 2 dX5_whyNot_15 rfl ?_
    refine j_iload_n F 3 dX5_whyNot_16 rfl ?_
    refine j_iload F 4 dX5_whyNot_17 rfl ?_
    refine j_iload F 5 dX5_whyNot_19 rfl ?_
    obtain ⟨r21, hc21, hm⟩ := Option.bind_eq_some_iff.mp hm
    refine j_callV F (n := 5) (As := [.int v1, .int v2, .int v3, .int v4, .int v5]) (rest := []) (c_X3_whatBars l g hg 29 v1 v2 v3 v4 v5 (by decide) S r21 hc21) gw_X5_209 (by decide +kernel) ⟨Nat.le_of_ble_eq_true rfl, Nat.le_of_ble_eq_true rfl⟩ ⟨Nat.le_of_ble_eq_true rfl, Nat.le_of_ble_eq_true rfl⟩ (isSt_lay (i := 29) (by decide)).1 rfl rfl rfl (Nat.le_of_ble_eq_true rfl) dX5_whyNot_21 ?_
    show J p l e rmX5_whyNot s m args below meth c g A 6 (MQ below (QC g A (some (.int r)) S) args s 0 0 A) 0 0 24 [(0, .ref (g.2.1 0)), (1, .int v1), (2, .int v2), (3, .int v3), (4, .int v4), (5, .int v5)] [.int r21] S
    exact j_iret_p F rfl dX5_whyNot_24 (inl_p hm)
  · cases hm
set_option maxRecDepth 100000 in
set_option maxHeartbeats 4000000 in
theorem x_X5_whyNot (l : Launch) (hst : l.stackTraces = false) (g : GG) (hg : Inj g) (v1 : Int32) (v2 : Int32) (v3 : Int32) (v4 : Int32) (v5 : Int32)  (S : Hs) (n : Nat) (hm : m_X5_whyNot v1 v2 v3 v4 v5 S = some (.inr n)) : CX l yX5_whyNot [.code yX5_whyNot cX5_whyNot 6 (some .int)] rxX5_whyNot [.ref (g.2.1 0), .int v1, .int v2, .int v3, .int v4, .int v5] g S n S := by
  unfold m_X5_whyNot at hm
  refine CX.of (cc := cX5_whyNot) (nL := 6) (ret := (some .int)) (lv := [(0, .ref (g.2.1 0)), (1, .int v1), (2, .int v2), (3, .int v3), (4, .int v4), (5, .int v5)]) (by decide +kernel) hg (Nat.le_of_ble_eq_true rfl) rfl rfl rfl hst (fun p e s m args below meth c A F FS => ?_)
  replace F : Fx p s m meth c cX5_whyNot RX5 6 (some .int) g A := F
  replace FS : FX9 l s c A := FS
  show J p l e rxX5_whyNot s m args below meth c g A 6 (vx_MQ below QF (XQ g A n S) args s 1 6 A) 0 0 0 [(0, .ref (g.2.1 0)), (1, .int v1), (2, .int v2), (3, .int v3), (4, .int v4), (5, .int v5)] [] S
  refine j_aload_n F 0 dX5_whyNot_0 rfl ?_
  refine j_iload_n F 2 dX5_whyNot_1 rfl ?_
  refine j_iload_n F 3 dX5_whyNot_2 rfl ?_
  refine j_iload F 4 dX5_whyNot_3 rfl ?_
  refine j_iload F 5 dX5_whyNot_5 rfl ?_
  refine bndP_ok hm (fun r7 hc7 hm => ?_) (fun q hc7 hm => ?_)
  · refine j_callV F (n := 4) (As := [.int v2, .int v3, .int v4, .int v5]) (rest := []) (c_X5_checkStep l g hg v2 v3 v4 v5 S hc7) gw_X5_205 (by decide +kernel) ⟨Nat.le_of_ble_eq_true rfl, Nat.le_of_ble_eq_true rfl⟩ ⟨Nat.le_of_ble_eq_true rfl, Nat.le_of_ble_eq_true rfl⟩ rfl rfl rfl rfl (Nat.le_of_ble_eq_true rfl) dX5_whyNot_7 ?_
    show J p l e rxX5_whyNot s m args below meth c g A 6 (vx_MQ below QF (XQ g A n S) args s 1 6 A) 0 0 10 [(0, .ref (g.2.1 0)), (1, .int v1), (2, .int v2), (3, .int v3), (4, .int v4), (5, .int v5)] [] S
    refine j_aload_n F 0 dX5_whyNot_10 rfl ?_
    refine j_getR F (k0 := 1) (C := RX5) (T := TX5) (N := 11) rfl rfl rfl inF5 (by decide) tw316 dX5_whyNot_11 ?_
    refine j_iload_n F 1 dX5_whyNot_14 rfl ?_
    refine j_iload_n F 2 dX5_whyNot_15 rfl ?_
    refine j_iload_n F 3 dX5_whyNot_16 rfl ?_
    refine j_iload F 4 dX5_whyNot_17 rfl ?_
    refine j_iload F 5 dX5_whyNot_19 rfl ?_
    obtain ⟨r21, hc21, hm⟩ := Option.bind_eq_some_iff.mp hm
    refine j_callV F (n := 5) (As := [.int v1, .int v2, .int v3, .int v4, .int v5]) (rest := []) (c_X3_whatBars l g hg 29 v1 v2 v3 v4 v5 (by decide) S r21 hc21) gw_X5_209 (by decide +kernel) ⟨Nat.le_of_ble_eq_true rfl, Nat.le_of_ble_eq_true rfl⟩ ⟨Nat.le_of_ble_eq_true rfl, Nat.le_of_ble_eq_true rfl⟩ (isSt_lay (i := 29) (by decide)).1 rfl rfl rfl (Nat.le_of_ble_eq_true rfl) dX5_whyNot_21 ?_
    show J p l e rxX5_whyNot s m args below meth c g A 6 (vx_MQ below QF (XQ g A n S) args s 1 6 A) 0 0 24 [(0, .ref (g.2.1 0)), (1, .int v1), (2, .int v2), (3, .int v3), (4, .int v4), (5, .int v5)] [.int r21] S
    cases hm
  · cases hm
    exact j_callXV F FS (k := 4) (As := [.int v2, .int v3, .int v4, .int v5]) (rest := []) (x_X5_checkStep l hst g hg v2 v3 v4 v5 S _ hc7) gw_X5_205 (by decide +kernel) ⟨Nat.le_of_ble_eq_true rfl, Nat.le_of_ble_eq_true rfl⟩ ⟨Nat.le_of_ble_eq_true rfl, Nat.le_of_ble_eq_true rfl⟩ rfl rfl rfl rfl (Nat.le_of_ble_eq_true rfl) dX5_whyNot_7 (Nat.le_refl _) (Nat.le_refl _)
def m_X5_needed_J109 (v4 : Int32) (v5 : Int32) (v6 : Int32) (S : Hs) : Option ((Int32 × Int32 × Hs) ⊕ (Int32 × Hs)) := some (.inl ((v5, v6 + 1, S)))
noncomputable def m_X5_needed_J74 (v4 : Int32) (v5 : Int32) (v6 : Int32) (w0 : Int32) (S : Hs) : Option ((Int32 × Int32 × Hs) ⊕ (Int32 × Hs)) := if w0 = 0 then (m_X5_needed_J109 v4 v5 v6 S) else ((m_J6_bitCount_0f7a4 v6).bind fun r83 => ((m_J6_bitCount_0f7a4 v5).bind fun r88 => (if r88 ≤ r83 then (m_X5_needed_J109 v4 v5 v6 S) else (bndE (m_X5_comesWith v6 v4 S) fun r99 S99 => (if r99 = 0 then (m_X5_needed_J109 v4 v5 v6 S99) else (m_X5_needed_J109 v4 v6 v6 S99))))))
noncomputable def m_X5_needed_L46 (v4 : Int32) (v5 : Int32) (v6 : Int32) (S : Hs) : Option ((Int32 × Int32 × Hs) ⊕ (Int32 × Hs)) := if 128 ≤ v6 then (some (.inr ((v5, S)))) else (if (v6 &&& ((gI S 29 2) ^^^ ((-1)))) = 0 then (m_X5_needed_J74 v4 v5 v6 1 S) else (m_X5_needed_J74 v4 v5 v6 0 S))
noncomputable def m_X5_needed (v1 : Int32) (v2 : Int32) (v3 : Int32) (S : Hs) : Option ((Int32 ⊕ Nat) × Hs) := bndP (m_X5_checkRight v1 v2 v3 S) (fun r4 => ((m_X5_rightOf v1 v2 v3).bind fun r10 => (bndE (m_X5_comesWith (gI S 29 2) r10 S) fun r25 S25 => (if r25 = 0 then (some ((.inl ((-9)), S25))) else (bnd (gI S25 29 2) fun v5_41 => ((loopO (fun x => m_X5_needed_L46 r10 x.1 x.2.1 x.2.2) ((v5_41, 0, S25))).bind fun y46 => some ((.inl y46.1, y46.2)))))))) (fun q => some ((.inr q, S)))
set_option maxRecDepth 100000 in
set_option maxHeartbeats 4000000 in
theorem c_X5_needed (l : Launch) (g : GG) (hg : Inj g) (v1 : Int32) (v2 : Int32) (v3 : Int32)  (S : Hs) (r : Int32) (S' : Hs) (hm : m_X5_needed v1 v2 v3 S = some ((.inl r, S'))) : CM l yX5_needed [.code yX5_needed cX5_needed 8 (some .int)] rmX5_needed [.ref (g.2.1 0), .int v1, .int v2, .int v3] g S (some (.int r)) S' := by
  unfold m_X5_needed at hm
  refine CM.of (cc := cX5_needed) (nL := 8) (ret := (some .int)) (lv := [(0, .ref (g.2.1 0)), (1, .int v1), (2, .int v2), (3, .int v3)]) (by decide +kernel) hg (Nat.le_of_ble_eq_true rfl) rfl (fun p e s m args below meth c A F => ?_)
  replace F : Fx p s m meth c cX5_needed RX5 8 (some .int) g A := F
  show J p l e rmX5_needed s m args below meth c g A 8 (MQ below (QC g A (some (.int r)) S') args s 0 0 A) 0 0 0 [(0, .ref (g.2.1 0)), (1, .int v1), (2, .int v2), (3, .int v3)] [] S
  refine j_aload_n F 0 dX5_needed_0 rfl ?_
  refine j_iload_n F 1 dX5_needed_1 rfl ?_
  refine j_iload_n F 2 dX5_needed_2 rfl ?_
  refine j_iload_n F 3 dX5_needed_3 rfl ?_
  refine bndP_ok hm (fun r4 hc4 hm => ?_) (fun q hc4 hm => ?_)
  · refine j_callV F (n := 3) (As := [.int v1, .int v2, .int v3]) (rest := []) (c_X5_checkRight l g hg v1 v2 v3 S hc4) gw_X5_150 (by decide +kernel) ⟨Nat.le_of_ble_eq_true rfl, Nat.le_of_ble_eq_true rfl⟩ ⟨Nat.le_of_ble_eq_true rfl, Nat.le_of_ble_eq_true rfl⟩ rfl rfl rfl rfl (Nat.le_of_ble_eq_true rfl) dX5_needed_4 ?_
    show J p l e rmX5_needed s m args below meth c g A 8 (MQ below (QC g A (some (.int r)) S') args s 0 0 A) 0 0 7 [(0, .ref (g.2.1 0)), (1, .int v1), (2, .int v2), (3, .int v3)] [] S
    refine j_iload_n F 1 dX5_needed_7 rfl ?_
    refine j_iload_n F 2 dX5_needed_8 rfl ?_
    refine j_iload_n F 3 dX5_needed_9 rfl ?_
    obtain ⟨r10, hc10, hm⟩ := Option.bind_eq_some_iff.mp hm
    refine j_callS F (n := 3) (As := [.int v1, .int v2, .int v3]) (rest := []) (c_X5_rightOf l g hg v1 v2 v3 S r10 hc10) gw_X5_154 (by decide +kernel) ⟨Nat.le_of_ble_eq_true rfl, Nat.le_of_ble_eq_true rfl⟩ ⟨Nat.le_of_ble_eq_true rfl, Nat.le_of_ble_eq_true rfl⟩ rfl rfl (Nat.le_of_ble_eq_true rfl) dX5_needed_10 ?_
    show J p l e rmX5_needed s m args below meth c g A 8 (MQ below (QC g A (some (.int r)) S') args s 0 0 A) 0 0 13 [(0, .ref (g.2.1 0)), (1, .int v1), (2, .int v2), (3, .int v3)] [.int r10] S
    refine j_istore F (lv' := [(4, .int r10), (0, .ref (g.2.1 0)), (1, .int v1), (2, .int v2), (3, .int v3)]) dX5_needed_13 (by decide) rfl ?_
    refine j_aload_n F 1 dX5_needed_15 rfl ?_
    refine j_aload_n F 1 dX5_needed_16 rfl ?_
    refine j_getR F (k0 := 1) (C := RX5) (T := TX5) (N := 11) rfl rfl rfl inF5 (by decide) tw316 dX5_needed_17 ?_
    refine j_getI F (k0 := 2) (C := RX3) (T := TX3) (N := 4) (isSt_lay (i := 29) (by decide)).1 rfl rfl inF3 (by decide) tw359 dX5_needed_20 ?_
    refine j_iload F 0 dX5_needed_23 rfl ?_
    obtain ⟨r25, S25, hc25, hm⟩ := bndE_ok hm
    refine j_callV F (n := 2) (As := [.int (gI S 29 2), .int r10]) (rest := []) (c_X5_comesWith l g hg (gI S 29 2) r10 S r25 S25 hc25) gw_X5_212 (by decide +kernel) ⟨Nat.le_of_ble_eq_true rfl, Nat.le_of_ble_eq_true rfl⟩ ⟨Nat.le_of_ble_eq_true rfl, Nat.le_of_ble_eq_true rfl⟩ rfl rfl rfl rfl (Nat.le_of_ble_eq_true rfl) dX5_needed_25 ?_
    show J p l e rmX5_needed s m args below meth c g A 8 (MQ below (QC g A (some (.int r)) S') args s 0 0 A) 0 0 28 [(4, .int r10), (0, .ref (g.2.1 0)), (1, .int v1), (2, .int v2), (3, .int v3)] [.int r25] S25
    refine j_if_ne F (tgt := 34) dX5_needed_28 (by decide) hm (fun _ hm => ?_) (fun _ hm => ?_)
    · refine j_aload_n F 1 dX5_needed_34 rfl ?_
      refine j_getR F (k0 := 1) (C := RX5) (T := TX5) (N := 11) rfl rfl rfl inF5 (by decide) tw316 dX5_needed_35 ?_
      refine j_getI F (k0 := 2) (C := RX3) (T := TX3) (N := 4) (isSt_lay (i := 29) (by decide)).1 rfl rfl inF3 (by decide) tw359 dX5_needed_38 ?_
      refine j_bnd hm (fun v5_41 hm => ?_)
      refine j_istore F (lv' := [(5, .int v5_41), (4, .int r10), (0, .ref (g.2.1 0)), (1, .int v1), (2, .int v2), (3, .int v3)]) dX5_needed_41 (by decide) rfl ?_
      refine j_iconst F (v := 0) dX5_needed_43 (by decide) ?_
      refine j_istore F (lv' := [(6, .int 0), (5, .int v5_41), (4, .int r10), (0, .ref (g.2.1 0)), (1, .int v1), (2, .int v2), (3, .int v3)]) dX5_needed_44 (by decide) rfl ?_
      refine j_sub [3, 2, 1, 0] rfl ?_
      obtain ⟨y46, hlp46, hm⟩ := Option.bind_eq_some_iff.mp hm
      refine loopO_walk (fun x => m_X5_needed_L46 r10 x.1 x.2.1 x.2.2) (fun x => J p l e rmX5_needed s m args below meth c g A 8 (MQ below (QC g A (some (.int r)) S') args s 0 0 A) 0 0 46 [(0, .ref (g.2.1 0)), (4, .int r10), (5, .int x.1), (6, .int x.2.1)] [] x.2.2) (fun x => J p l e rmX5_needed s m args below meth c g A 8 (MQ below (QC g A (some (.int r)) S') args s 0 0 A) 0 0 115 [(5, .int x.1)] [] x.2) (fun x o1 hm hk1 => ?_) hlp46 ?_
      · obtain ⟨v5, v6, S⟩ := x
        replace hm : m_X5_needed_L46 r10 v5 v6 S = some o1 := hm
        show J p l e rmX5_needed s m args below meth c g A 8 (MQ below (QC g A (some (.int r)) S') args s 0 0 A) 0 0 46 [(0, .ref (g.2.1 0)), (4, .int r10), (5, .int v5), (6, .int v6)] [] S
        unfold m_X5_needed_L46 at hm
        have hj109 : ∀ (v5 : Int32) (v6 : Int32) (S : Hs), m_X5_needed_J109 r10 v5 v6 S = some o1 → J p l e rmX5_needed s m args below meth c g A 8 (MQ below (QC g A (some (.int r)) S') args s 0 0 A) 0 0 109 [(0, .ref (g.2.1 0)), (4, .int r10), (5, .int v5), (6, .int v6)] [] S := by
          intro v5 v6 S hm
          unfold m_X5_needed_J109 at hm
          refine j_iinc F (v := v6 + 1) (lv' := [(6, .int (v6 + 1)), (0, .ref (g.2.1 0)), (4, .int r10), (5, .int v5)]) 3 dX5_needed_109 rfl rfl (by decide) rfl ?_
          refine j_goto F (tgt := 46) dX5_needed_112 (by decide) ?_
          cases hm
          refine j_sub [1, 2, 3, 0] rfl ?_
          exact hk1
        have hj74 : ∀ (v5 : Int32) (v6 : Int32) (w0 : Int32) (S : Hs), m_X5_needed_J74 r10 v5 v6 w0 S = some o1 → J p l e rmX5_needed s m args below meth c g A 8 (MQ below (QC g A (some (.int r)) S') args s 0 0 A) 0 0 74 [(0, .ref (g.2.1 0)), (4, .int r10), (5, .int v5), (6, .int v6)] [.int w0] S := by
          intro v5 v6 w0 S hm
          unfold m_X5_needed_J74 at hm
          refine j_istore F (lv' := [(7, .int w0), (0, .ref (g.2.1 0)), (4, .int r10), (5, .int v5), (6, .int v6)]) dX5_needed_74 (by decide) rfl ?_
          refine j_iload F 0 dX5_needed_76 rfl ?_
          refine j_if_eq F (tgt := 109) dX5_needed_78 (by decide) hm (fun _ hm => ?_) (fun _ hm => ?_)
          · refine j_sub [1, 2, 3, 4] rfl ?_
            exact hj109 v5 v6 S  hm
          · refine j_iload F 4 dX5_needed_81 rfl ?_
            obtain ⟨r83, hc83, hm⟩ := Option.bind_eq_some_iff.mp hm
            refine j_callS F (n := 1) (As := [.int v6]) (rest := []) (c_J6_bitCount_0f7a4 l g hg v6 S r83 hc83) gw_X5_100 (by decide +kernel) ⟨Nat.le_of_ble_eq_true rfl, Nat.le_of_ble_eq_true rfl⟩ ⟨Nat.le_of_ble_eq_true rfl, Nat.le_of_ble_eq_true rfl⟩ rfl rfl (Nat.le_of_ble_eq_true rfl) dX5_needed_83 ?_
            show J p l e rmX5_needed s m args below meth c g A 8 (MQ below (QC g A (some (.int r)) S') args s 0 0 A) 0 0 86 [(7, .int w0), (0, .ref (g.2.1 0)), (4, .int r10), (5, .int v5), (6, .int v6)] [.int r83] S
            refine j_iload F 3 dX5_needed_86 rfl ?_
            obtain ⟨r88, hc88, hm⟩ := Option.bind_eq_some_iff.mp hm
            refine j_callS F (n := 1) (As := [.int v5]) (rest := [.int r83]) (c_J6_bitCount_0f7a4 l g hg v5 S r88 hc88) gw_X5_100 (by decide +kernel) ⟨Nat.le_of_ble_eq_true rfl, Nat.le_of_ble_eq_true rfl⟩ ⟨Nat.le_of_ble_eq_true rfl, Nat.le_of_ble_eq_true rfl⟩ rfl rfl (Nat.le_of_ble_eq_true rfl) dX5_needed_88 ?_
            show J p l e rmX5_needed s m args below meth c g A 8 (MQ below (QC g A (some (.int r)) S') args s 0 0 A) 0 0 91 [(7, .int w0), (0, .ref (g.2.1 0)), (4, .int r10), (5, .int v5), (6, .int v6)] [.int r88, .int r83] S
            refine j_icmp_ge F (tgt := 109) dX5_needed_91 (by decide) hm (fun _ hm => ?_) (fun _ hm => ?_)
            · refine j_sub [1, 2, 3, 4] rfl ?_
              exact hj109 v5 v6 S  hm
            · refine j_aload_n F 1 dX5_needed_94 rfl ?_
              refine j_iload F 4 dX5_needed_95 rfl ?_
              refine j_iload F 2 dX5_needed_97 rfl ?_
              obtain ⟨r99, S99, hc99, hm⟩ := bndE_ok hm
              refine j_callV F (n := 2) (As := [.int v6, .int r10]) (rest := []) (c_X5_comesWith l g hg v6 r10 S r99 S99 hc99) gw_X5_212 (by decide +kernel) ⟨Nat.le_of_ble_eq_true rfl, Nat.le_of_ble_eq_true rfl⟩ ⟨Nat.le_of_ble_eq_true rfl, Nat.le_of_ble_eq_true rfl⟩ rfl rfl rfl rfl (Nat.le_of_ble_eq_true rfl) dX5_needed_99 ?_
              show J p l e rmX5_needed s m args below meth c g A 8 (MQ below (QC g A (some (.int r)) S') args s 0 0 A) 0 0 102 [(7, .int w0), (0, .ref (g.2.1 0)), (4, .int r10), (5, .int v5), (6, .int v6)] [.int r99] S99
              refine j_if_eq F (tgt := 109) dX5_needed_102 (by decide) hm (fun _ hm => ?_) (fun _ hm => ?_)
              · refine j_sub [1, 2, 3, 4] rfl ?_
                exact hj109 v5 v6 S99  hm
              · refine j_iload F 4 dX5_needed_105 rfl ?_
                refine j_istore F (lv' := [(5, .int v6), (7, .int w0), (0, .ref (g.2.1 0)), (4, .int r10), (6, .int v6)]) dX5_needed_107 (by decide) rfl ?_
                refine j_sub [2, 3, 0, 4] rfl ?_
                exact hj109 v6 v6 S99  hm
        refine j_iload F 3 dX5_needed_46 rfl ?_
        refine j_sipush F (v := 128) dX5_needed_48 (by decide) ?_
        refine j_icmp_ge F (tgt := 115) dX5_needed_51 (by decide) hm (fun _ hm => ?_) (fun _ hm => ?_)
        · cases hm
          refine j_sub [2] rfl ?_
          exact hk1
        · refine j_iload F 3 dX5_needed_54 rfl ?_
          refine j_aload_n F 0 dX5_needed_56 rfl ?_
          refine j_getR F (k0 := 1) (C := RX5) (T := TX5) (N := 11) rfl rfl rfl inF5 (by decide) tw316 dX5_needed_57 ?_
          refine j_getI F (k0 := 2) (C := RX3) (T := TX3) (N := 4) (isSt_lay (i := 29) (by decide)).1 rfl rfl inF3 (by decide) tw359 dX5_needed_60 ?_
          refine j_iconst F (v := -1) dX5_needed_63 (by decide) ?_
          refine j_ixor F dX5_needed_64 ?_
          refine j_iand F dX5_needed_65 ?_
          refine j_if_ne F (tgt := 73) dX5_needed_66 (by decide) hm (fun _ hm => ?_) (fun _ hm => ?_)
          · refine j_iconst F (v := 0) dX5_needed_73 (by decide) ?_
            refine j_sub [0, 1, 2, 3] rfl ?_
            exact hj74 v5 v6 0 S  hm
          · refine j_iconst F (v := 1) dX5_needed_69 (by decide) ?_
            refine j_goto F (tgt := 74) dX5_needed_70 (by decide) ?_
            refine j_sub [0, 1, 2, 3] rfl ?_
            exact hj74 v5 v6 1 S  hm
      · show J p l e rmX5_needed s m args below meth c g A 8 (MQ below (QC g A (some (.int r)) S') args s 0 0 A) 0 0 115 [(5, .int y46.1)] [] y46.2
        refine j_iload F 0 dX5_needed_115 rfl ?_
        exact j_iret_e F rfl dX5_needed_117 (inl_e hm)
    · refine j_bipush F (v := -9) dX5_needed_31 (by decide) ?_
      exact j_iret_e F rfl dX5_needed_33 (inl_e hm)
  · cases hm
set_option maxRecDepth 100000 in
set_option maxHeartbeats 4000000 in
theorem x_X5_needed (l : Launch) (hst : l.stackTraces = false) (g : GG) (hg : Inj g) (v1 : Int32) (v2 : Int32) (v3 : Int32)  (S : Hs) (n : Nat) (S' : Hs) (hm : m_X5_needed v1 v2 v3 S = some ((.inr n, S'))) : CX l yX5_needed [.code yX5_needed cX5_needed 8 (some .int)] rxX5_needed [.ref (g.2.1 0), .int v1, .int v2, .int v3] g S n S' := by
  unfold m_X5_needed at hm
  refine CX.of (cc := cX5_needed) (nL := 8) (ret := (some .int)) (lv := [(0, .ref (g.2.1 0)), (1, .int v1), (2, .int v2), (3, .int v3)]) (by decide +kernel) hg (Nat.le_of_ble_eq_true rfl) rfl rfl rfl hst (fun p e s m args below meth c A F FS => ?_)
  replace F : Fx p s m meth c cX5_needed RX5 8 (some .int) g A := F
  replace FS : FX9 l s c A := FS
  show J p l e rxX5_needed s m args below meth c g A 8 (vx_MQ below QF (XQ g A n S') args s 1 6 A) 0 0 0 [(0, .ref (g.2.1 0)), (1, .int v1), (2, .int v2), (3, .int v3)] [] S
  refine j_aload_n F 0 dX5_needed_0 rfl ?_
  refine j_iload_n F 1 dX5_needed_1 rfl ?_
  refine j_iload_n F 2 dX5_needed_2 rfl ?_
  refine j_iload_n F 3 dX5_needed_3 rfl ?_
  refine bndP_ok hm (fun r4 hc4 hm => ?_) (fun q hc4 hm => ?_)
  · refine j_callV F (n := 3) (As := [.int v1, .int v2, .int v3]) (rest := []) (c_X5_checkRight l g hg v1 v2 v3 S hc4) gw_X5_150 (by decide +kernel) ⟨Nat.le_of_ble_eq_true rfl, Nat.le_of_ble_eq_true rfl⟩ ⟨Nat.le_of_ble_eq_true rfl, Nat.le_of_ble_eq_true rfl⟩ rfl rfl rfl rfl (Nat.le_of_ble_eq_true rfl) dX5_needed_4 ?_
    show J p l e rxX5_needed s m args below meth c g A 8 (vx_MQ below QF (XQ g A n S') args s 1 6 A) 0 0 7 [(0, .ref (g.2.1 0)), (1, .int v1), (2, .int v2), (3, .int v3)] [] S
    refine j_iload_n F 1 dX5_needed_7 rfl ?_
    refine j_iload_n F 2 dX5_needed_8 rfl ?_
    refine j_iload_n F 3 dX5_needed_9 rfl ?_
    obtain ⟨r10, hc10, hm⟩ := Option.bind_eq_some_iff.mp hm
    refine j_callS F (n := 3) (As := [.int v1, .int v2, .int v3]) (rest := []) (c_X5_rightOf l g hg v1 v2 v3 S r10 hc10) gw_X5_154 (by decide +kernel) ⟨Nat.le_of_ble_eq_true rfl, Nat.le_of_ble_eq_true rfl⟩ ⟨Nat.le_of_ble_eq_true rfl, Nat.le_of_ble_eq_true rfl⟩ rfl rfl (Nat.le_of_ble_eq_true rfl) dX5_needed_10 ?_
    show J p l e rxX5_needed s m args below meth c g A 8 (vx_MQ below QF (XQ g A n S') args s 1 6 A) 0 0 13 [(0, .ref (g.2.1 0)), (1, .int v1), (2, .int v2), (3, .int v3)] [.int r10] S
    refine j_istore F (lv' := [(4, .int r10), (0, .ref (g.2.1 0)), (1, .int v1), (2, .int v2), (3, .int v3)]) dX5_needed_13 (by decide) rfl ?_
    refine j_aload_n F 1 dX5_needed_15 rfl ?_
    refine j_aload_n F 1 dX5_needed_16 rfl ?_
    refine j_getR F (k0 := 1) (C := RX5) (T := TX5) (N := 11) rfl rfl rfl inF5 (by decide) tw316 dX5_needed_17 ?_
    refine j_getI F (k0 := 2) (C := RX3) (T := TX3) (N := 4) (isSt_lay (i := 29) (by decide)).1 rfl rfl inF3 (by decide) tw359 dX5_needed_20 ?_
    refine j_iload F 0 dX5_needed_23 rfl ?_
    obtain ⟨r25, S25, hc25, hm⟩ := bndE_ok hm
    refine j_callV F (n := 2) (As := [.int (gI S 29 2), .int r10]) (rest := []) (c_X5_comesWith l g hg (gI S 29 2) r10 S r25 S25 hc25) gw_X5_212 (by decide +kernel) ⟨Nat.le_of_ble_eq_true rfl, Nat.le_of_ble_eq_true rfl⟩ ⟨Nat.le_of_ble_eq_true rfl, Nat.le_of_ble_eq_true rfl⟩ rfl rfl rfl rfl (Nat.le_of_ble_eq_true rfl) dX5_needed_25 ?_
    show J p l e rxX5_needed s m args below meth c g A 8 (vx_MQ below QF (XQ g A n S') args s 1 6 A) 0 0 28 [(4, .int r10), (0, .ref (g.2.1 0)), (1, .int v1), (2, .int v2), (3, .int v3)] [.int r25] S25
    refine j_if_ne F (tgt := 34) dX5_needed_28 (by decide) hm (fun _ hm => ?_) (fun _ hm => ?_)
    · refine j_aload_n F 1 dX5_needed_34 rfl ?_
      refine j_getR F (k0 := 1) (C := RX5) (T := TX5) (N := 11) rfl rfl rfl inF5 (by decide) tw316 dX5_needed_35 ?_
      refine j_getI F (k0 := 2) (C := RX3) (T := TX3) (N := 4) (isSt_lay (i := 29) (by decide)).1 rfl rfl inF3 (by decide) tw359 dX5_needed_38 ?_
      refine j_bnd hm (fun v5_41 hm => ?_)
      refine j_istore F (lv' := [(5, .int v5_41), (4, .int r10), (0, .ref (g.2.1 0)), (1, .int v1), (2, .int v2), (3, .int v3)]) dX5_needed_41 (by decide) rfl ?_
      refine j_iconst F (v := 0) dX5_needed_43 (by decide) ?_
      refine j_istore F (lv' := [(6, .int 0), (5, .int v5_41), (4, .int r10), (0, .ref (g.2.1 0)), (1, .int v1), (2, .int v2), (3, .int v3)]) dX5_needed_44 (by decide) rfl ?_
      refine j_sub [3, 2, 1, 0] rfl ?_
      obtain ⟨y46, hlp46, hm⟩ := Option.bind_eq_some_iff.mp hm
      refine loopO_walk (fun x => m_X5_needed_L46 r10 x.1 x.2.1 x.2.2) (fun x => J p l e rxX5_needed s m args below meth c g A 8 (vx_MQ below QF (XQ g A n S') args s 1 6 A) 0 0 46 [(0, .ref (g.2.1 0)), (4, .int r10), (5, .int x.1), (6, .int x.2.1)] [] x.2.2) (fun x => J p l e rxX5_needed s m args below meth c g A 8 (vx_MQ below QF (XQ g A n S') args s 1 6 A) 0 0 115 [(5, .int x.1)] [] x.2) (fun x o1 hm hk1 => ?_) hlp46 ?_
      · obtain ⟨v5, v6, S⟩ := x
        replace hm : m_X5_needed_L46 r10 v5 v6 S = some o1 := hm
        show J p l e rxX5_needed s m args below meth c g A 8 (vx_MQ below QF (XQ g A n S') args s 1 6 A) 0 0 46 [(0, .ref (g.2.1 0)), (4, .int r10), (5, .int v5), (6, .int v6)] [] S
        unfold m_X5_needed_L46 at hm
        have hj109 : ∀ (v5 : Int32) (v6 : Int32) (S : Hs), m_X5_needed_J109 r10 v5 v6 S = some o1 → J p l e rxX5_needed s m args below meth c g A 8 (vx_MQ below QF (XQ g A n S') args s 1 6 A) 0 0 109 [(0, .ref (g.2.1 0)), (4, .int r10), (5, .int v5), (6, .int v6)] [] S := by
          intro v5 v6 S hm
          unfold m_X5_needed_J109 at hm
          refine j_iinc F (v := v6 + 1) (lv' := [(6, .int (v6 + 1)), (0, .ref (g.2.1 0)), (4, .int r10), (5, .int v5)]) 3 dX5_needed_109 rfl rfl (by decide) rfl ?_
          refine j_goto F (tgt := 46) dX5_needed_112 (by decide) ?_
          cases hm
          refine j_sub [1, 2, 3, 0] rfl ?_
          exact hk1
        have hj74 : ∀ (v5 : Int32) (v6 : Int32) (w0 : Int32) (S : Hs), m_X5_needed_J74 r10 v5 v6 w0 S = some o1 → J p l e rxX5_needed s m args below meth c g A 8 (vx_MQ below QF (XQ g A n S') args s 1 6 A) 0 0 74 [(0, .ref (g.2.1 0)), (4, .int r10), (5, .int v5), (6, .int v6)] [.int w0] S := by
          intro v5 v6 w0 S hm
          unfold m_X5_needed_J74 at hm
          refine j_istore F (lv' := [(7, .int w0), (0, .ref (g.2.1 0)), (4, .int r10), (5, .int v5), (6, .int v6)]) dX5_needed_74 (by decide) rfl ?_
          refine j_iload F 0 dX5_needed_76 rfl ?_
          refine j_if_eq F (tgt := 109) dX5_needed_78 (by decide) hm (fun _ hm => ?_) (fun _ hm => ?_)
          · refine j_sub [1, 2, 3, 4] rfl ?_
            exact hj109 v5 v6 S  hm
          · refine j_iload F 4 dX5_needed_81 rfl ?_
            obtain ⟨r83, hc83, hm⟩ := Option.bind_eq_some_iff.mp hm
            refine j_callS F (n := 1) (As := [.int v6]) (rest := []) (c_J6_bitCount_0f7a4 l g hg v6 S r83 hc83) gw_X5_100 (by decide +kernel) ⟨Nat.le_of_ble_eq_true rfl, Nat.le_of_ble_eq_true rfl⟩ ⟨Nat.le_of_ble_eq_true rfl, Nat.le_of_ble_eq_true rfl⟩ rfl rfl (Nat.le_of_ble_eq_true rfl) dX5_needed_83 ?_
            show J p l e rxX5_needed s m args below meth c g A 8 (vx_MQ below QF (XQ g A n S') args s 1 6 A) 0 0 86 [(7, .int w0), (0, .ref (g.2.1 0)), (4, .int r10), (5, .int v5), (6, .int v6)] [.int r83] S
            refine j_iload F 3 dX5_needed_86 rfl ?_
            obtain ⟨r88, hc88, hm⟩ := Option.bind_eq_some_iff.mp hm
            refine j_callS F (n := 1) (As := [.int v5]) (rest := [.int r83]) (c_J6_bitCount_0f7a4 l g hg v5 S r88 hc88) gw_X5_100 (by decide +kernel) ⟨Nat.le_of_ble_eq_true rfl, Nat.le_of_ble_eq_true rfl⟩ ⟨Nat.le_of_ble_eq_true rfl, Nat.le_of_ble_eq_true rfl⟩ rfl rfl (Nat.le_of_ble_eq_true rfl) dX5_needed_88 ?_
            show J p l e rxX5_needed s m args below meth c g A 8 (vx_MQ below QF (XQ g A n S') args s 1 6 A) 0 0 91 [(7, .int w0), (0, .ref (g.2.1 0)), (4, .int r10), (5, .int v5), (6, .int v6)] [.int r88, .int r83] S
            refine j_icmp_ge F (tgt := 109) dX5_needed_91 (by decide) hm (fun _ hm => ?_) (fun _ hm => ?_)
            · refine j_sub [1, 2, 3, 4] rfl ?_
              exact hj109 v5 v6 S  hm
            · refine j_aload_n F 1 dX5_needed_94 rfl ?_
              refine j_iload F 4 dX5_needed_95 rfl ?_
              refine j_iload F 2 dX5_needed_97 rfl ?_
              obtain ⟨r99, S99, hc99, hm⟩ := bndE_ok hm
              refine j_callV F (n := 2) (As := [.int v6, .int r10]) (rest := []) (c_X5_comesWith l g hg v6 r10 S r99 S99 hc99) gw_X5_212 (by decide +kernel) ⟨Nat.le_of_ble_eq_true rfl, Nat.le_of_ble_eq_true rfl⟩ ⟨Nat.le_of_ble_eq_true rfl, Nat.le_of_ble_eq_true rfl⟩ rfl rfl rfl rfl (Nat.le_of_ble_eq_true rfl) dX5_needed_99 ?_
              show J p l e rxX5_needed s m args below meth c g A 8 (vx_MQ below QF (XQ g A n S') args s 1 6 A) 0 0 102 [(7, .int w0), (0, .ref (g.2.1 0)), (4, .int r10), (5, .int v5), (6, .int v6)] [.int r99] S99
              refine j_if_eq F (tgt := 109) dX5_needed_102 (by decide) hm (fun _ hm => ?_) (fun _ hm => ?_)
              · refine j_sub [1, 2, 3, 4] rfl ?_
                exact hj109 v5 v6 S99  hm
              · refine j_iload F 4 dX5_needed_105 rfl ?_
                refine j_istore F (lv' := [(5, .int v6), (7, .int w0), (0, .ref (g.2.1 0)), (4, .int r10), (6, .int v6)]) dX5_needed_107 (by decide) rfl ?_
                refine j_sub [2, 3, 0, 4] rfl ?_
                exact hj109 v6 v6 S99  hm
        refine j_iload F 3 dX5_needed_46 rfl ?_
        refine j_sipush F (v := 128) dX5_needed_48 (by decide) ?_
        refine j_icmp_ge F (tgt := 115) dX5_needed_51 (by decide) hm (fun _ hm => ?_) (fun _ hm => ?_)
        · cases hm
          refine j_sub [2] rfl ?_
          exact hk1
        · refine j_iload F 3 dX5_needed_54 rfl ?_
          refine j_aload_n F 0 dX5_needed_56 rfl ?_
          refine j_getR F (k0 := 1) (C := RX5) (T := TX5) (N := 11) rfl rfl rfl inF5 (by decide) tw316 dX5_needed_57 ?_
          refine j_getI F (k0 := 2) (C := RX3) (T := TX3) (N := 4) (isSt_lay (i := 29) (by decide)).1 rfl rfl inF3 (by decide) tw359 dX5_needed_60 ?_
          refine j_iconst F (v := -1) dX5_needed_63 (by decide) ?_
          refine j_ixor F dX5_needed_64 ?_
          refine j_iand F dX5_needed_65 ?_
          refine j_if_ne F (tgt := 73) dX5_needed_66 (by decide) hm (fun _ hm => ?_) (fun _ hm => ?_)
          · refine j_iconst F (v := 0) dX5_needed_73 (by decide) ?_
            refine j_sub [0, 1, 2, 3] rfl ?_
            exact hj74 v5 v6 0 S  hm
          · refine j_iconst F (v := 1) dX5_needed_69 (by decide) ?_
            refine j_goto F (tgt := 74) dX5_needed_70 (by decide) ?_
            refine j_sub [0, 1, 2, 3] rfl ?_
            exact hj74 v5 v6 1 S  hm
      · show J p l e rxX5_needed s m args below meth c g A 8 (vx_MQ below QF (XQ g A n S') args s 1 6 A) 0 0 115 [(5, .int y46.1)] [] y46.2
        refine j_iload F 0 dX5_needed_115 rfl ?_
        cases hm
    · refine j_bipush F (v := -9) dX5_needed_31 (by decide) ?_
      cases hm
  · cases hm
    exact j_callXV F FS (k := 3) (As := [.int v1, .int v2, .int v3]) (rest := []) (x_X5_checkRight l hst g hg v1 v2 v3 S _ hc4) gw_X5_150 (by decide +kernel) ⟨Nat.le_of_ble_eq_true rfl, Nat.le_of_ble_eq_true rfl⟩ ⟨Nat.le_of_ble_eq_true rfl, Nat.le_of_ble_eq_true rfl⟩ rfl rfl rfl rfl (Nat.le_of_ble_eq_true rfl) dX5_needed_4 (Nat.le_refl _) (Nat.le_refl _)
noncomputable def m_X5_cut (v1 : Int32) (v2 : Int32) (v3 : Int32) (S : Hs) : Option ((Int32 ⊕ Nat) × Hs) := bndP (m_X5_checkRight v1 v2 v3 S) (fun r4 => ((m_X5_rightOf v1 v2 v3).bind fun r22 => (bndE (m_X0_sizeFor 29 r22 S) fun r25 S25 => (some ((.inl r25, S25)))))) (fun q => some ((.inr q, S)))
set_option maxRecDepth 100000 in
set_option maxHeartbeats 4000000 in
theorem c_X5_cut (l : Launch) (g : GG) (hg : Inj g) (v1 : Int32) (v2 : Int32) (v3 : Int32)  (S : Hs) (r : Int32) (S' : Hs) (hm : m_X5_cut v1 v2 v3 S = some ((.inl r, S'))) : CM l yX5_cut [.code yX5_cut cX5_cut 4 (some .int)] rmX5_cut [.ref (g.2.1 0), .int v1, .int v2, .int v3] g S (some (.int r)) S' := by
  unfold m_X5_cut at hm
  refine CM.of (cc := cX5_cut) (nL := 4) (ret := (some .int)) (lv := [(0, .ref (g.2.1 0)), (1, .int v1), (2, .int v2), (3, .int v3)]) (by decide +kernel) hg (Nat.le_of_ble_eq_true rfl) rfl (fun p e s m args below meth c A F => ?_)
  replace F : Fx p s m meth c cX5_cut RX5 4 (some .int) g A := F
  show J p l e rmX5_cut s m args below meth c g A 4 (MQ below (QC g A (some (.int r)) S') args s 0 0 A) 0 0 0 [(0, .ref (g.2.1 0)), (1, .int v1), (2, .int v2), (3, .int v3)] [] S
  refine j_aload_n F 0 dX5_cut_0 rfl ?_
  refine j_iload_n F 1 dX5_cut_1 rfl ?_
  refine j_iload_n F 2 dX5_cut_2 rfl ?_
  refine j_iload_n F 3 dX5_cut_3 rfl ?_
  refine bndP_ok hm (fun r4 hc4 hm => ?_) (fun q hc4 hm => ?_)
  · refine j_callV F (n := 3) (As := [.int v1, .int v2, .int v3]) (rest := []) (c_X5_checkRight l g hg v1 v2 v3 S hc4) gw_X5_150 (by decide +kernel) ⟨Nat.le_of_ble_eq_true rfl, Nat.le_of_ble_eq_true rfl⟩ ⟨Nat.le_of_ble_eq_true rfl, Nat.le_of_ble_eq_true rfl⟩ rfl rfl rfl rfl (Nat.le_of_ble_eq_true rfl) dX5_cut_4 ?_
    show J p l e rmX5_cut s m args below meth c g A 4 (MQ below (QC g A (some (.int r)) S') args s 0 0 A) 0 0 7 [(0, .ref (g.2.1 0)), (1, .int v1), (2, .int v2), (3, .int v3)] [] S
    refine j_aload_n F 0 dX5_cut_7 rfl ?_
    refine j_getR F (k0 := 10) (C := RX5) (T := TX5) (N := 11) rfl rfl rfl inF5 (by decide) tw330 dX5_cut_8 ?_
    refine j_aload_n F 0 dX5_cut_11 rfl ?_
    refine j_getR F (k0 := 1) (C := RX5) (T := TX5) (N := 11) rfl rfl rfl inF5 (by decide) tw316 dX5_cut_12 ?_
    refine j_aload_n F 0 dX5_cut_15 rfl ?_
    refine j_getR F (k0 := 8) (C := RX5) (T := TX5) (N := 11) rfl rfl rfl inF5 (by decide) tw324 dX5_cut_16 ?_
    refine j_iload_n F 1 dX5_cut_19 rfl ?_
    refine j_iload_n F 2 dX5_cut_20 rfl ?_
    refine j_iload_n F 3 dX5_cut_21 rfl ?_
    obtain ⟨r22, hc22, hm⟩ := Option.bind_eq_some_iff.mp hm
    refine j_callS F (n := 3) (As := [.int v1, .int v2, .int v3]) (rest := [.ref (g.2.1 6), .ref (g.2.1 29), .ref (g.2.1 12)]) (c_X5_rightOf l g hg v1 v2 v3 S r22 hc22) gw_X5_154 (by decide +kernel) ⟨Nat.le_of_ble_eq_true rfl, Nat.le_of_ble_eq_true rfl⟩ ⟨Nat.le_of_ble_eq_true rfl, Nat.le_of_ble_eq_true rfl⟩ rfl rfl (Nat.le_of_ble_eq_true rfl) dX5_cut_22 ?_
    show J p l e rmX5_cut s m args below meth c g A 4 (MQ below (QC g A (some (.int r)) S') args s 0 0 A) 0 0 25 [(0, .ref (g.2.1 0)), (1, .int v1), (2, .int v2), (3, .int v3)] [.int r22, .ref (g.2.1 6), .ref (g.2.1 29), .ref (g.2.1 12)] S
    obtain ⟨r25, S25, hc25, hm⟩ := bndE_ok hm
    refine j_callV F (n := 3) (As := [.ref (g.2.1 29), .ref (g.2.1 6), .int r22]) (rest := []) (c_X0_sizeFor l g hg 29 r22 (by decide) S r25 S25 hc25) gw_X5_216 (by decide +kernel) ⟨Nat.le_of_ble_eq_true rfl, Nat.le_of_ble_eq_true rfl⟩ ⟨Nat.le_of_ble_eq_true rfl, Nat.le_of_ble_eq_true rfl⟩ rfl rfl rfl rfl (Nat.le_of_ble_eq_true rfl) dX5_cut_25 ?_
    show J p l e rmX5_cut s m args below meth c g A 4 (MQ below (QC g A (some (.int r)) S') args s 0 0 A) 0 0 28 [(0, .ref (g.2.1 0)), (1, .int v1), (2, .int v2), (3, .int v3)] [.int r25] S25
    exact j_iret_e F rfl dX5_cut_28 (inl_e hm)
  · cases hm
set_option maxRecDepth 100000 in
set_option maxHeartbeats 4000000 in
theorem x_X5_cut (l : Launch) (hst : l.stackTraces = false) (g : GG) (hg : Inj g) (v1 : Int32) (v2 : Int32) (v3 : Int32)  (S : Hs) (n : Nat) (S' : Hs) (hm : m_X5_cut v1 v2 v3 S = some ((.inr n, S'))) : CX l yX5_cut [.code yX5_cut cX5_cut 4 (some .int)] rxX5_cut [.ref (g.2.1 0), .int v1, .int v2, .int v3] g S n S' := by
  unfold m_X5_cut at hm
  refine CX.of (cc := cX5_cut) (nL := 4) (ret := (some .int)) (lv := [(0, .ref (g.2.1 0)), (1, .int v1), (2, .int v2), (3, .int v3)]) (by decide +kernel) hg (Nat.le_of_ble_eq_true rfl) rfl rfl rfl hst (fun p e s m args below meth c A F FS => ?_)
  replace F : Fx p s m meth c cX5_cut RX5 4 (some .int) g A := F
  replace FS : FX9 l s c A := FS
  show J p l e rxX5_cut s m args below meth c g A 4 (vx_MQ below QF (XQ g A n S') args s 1 6 A) 0 0 0 [(0, .ref (g.2.1 0)), (1, .int v1), (2, .int v2), (3, .int v3)] [] S
  refine j_aload_n F 0 dX5_cut_0 rfl ?_
  refine j_iload_n F 1 dX5_cut_1 rfl ?_
  refine j_iload_n F 2 dX5_cut_2 rfl ?_
  refine j_iload_n F 3 dX5_cut_3 rfl ?_
  refine bndP_ok hm (fun r4 hc4 hm => ?_) (fun q hc4 hm => ?_)
  · refine j_callV F (n := 3) (As := [.int v1, .int v2, .int v3]) (rest := []) (c_X5_checkRight l g hg v1 v2 v3 S hc4) gw_X5_150 (by decide +kernel) ⟨Nat.le_of_ble_eq_true rfl, Nat.le_of_ble_eq_true rfl⟩ ⟨Nat.le_of_ble_eq_true rfl, Nat.le_of_ble_eq_true rfl⟩ rfl rfl rfl rfl (Nat.le_of_ble_eq_true rfl) dX5_cut_4 ?_
    show J p l e rxX5_cut s m args below meth c g A 4 (vx_MQ below QF (XQ g A n S') args s 1 6 A) 0 0 7 [(0, .ref (g.2.1 0)), (1, .int v1), (2, .int v2), (3, .int v3)] [] S
    refine j_aload_n F 0 dX5_cut_7 rfl ?_
    refine j_getR F (k0 := 10) (C := RX5) (T := TX5) (N := 11) rfl rfl rfl inF5 (by decide) tw330 dX5_cut_8 ?_
    refine j_aload_n F 0 dX5_cut_11 rfl ?_
    refine j_getR F (k0 := 1) (C := RX5) (T := TX5) (N := 11) rfl rfl rfl inF5 (by decide) tw316 dX5_cut_12 ?_
    refine j_aload_n F 0 dX5_cut_15 rfl ?_
    refine j_getR F (k0 := 8) (C := RX5) (T := TX5) (N := 11) rfl rfl rfl inF5 (by decide) tw324 dX5_cut_16 ?_
    refine j_iload_n F 1 dX5_cut_19 rfl ?_
    refine j_iload_n F 2 dX5_cut_20 rfl ?_
    refine j_iload_n F 3 dX5_cut_21 rfl ?_
    obtain ⟨r22, hc22, hm⟩ := Option.bind_eq_some_iff.mp hm
    refine j_callS F (n := 3) (As := [.int v1, .int v2, .int v3]) (rest := [.ref (g.2.1 6), .ref (g.2.1 29), .ref (g.2.1 12)]) (c_X5_rightOf l g hg v1 v2 v3 S r22 hc22) gw_X5_154 (by decide +kernel) ⟨Nat.le_of_ble_eq_true rfl, Nat.le_of_ble_eq_true rfl⟩ ⟨Nat.le_of_ble_eq_true rfl, Nat.le_of_ble_eq_true rfl⟩ rfl rfl (Nat.le_of_ble_eq_true rfl) dX5_cut_22 ?_
    show J p l e rxX5_cut s m args below meth c g A 4 (vx_MQ below QF (XQ g A n S') args s 1 6 A) 0 0 25 [(0, .ref (g.2.1 0)), (1, .int v1), (2, .int v2), (3, .int v3)] [.int r22, .ref (g.2.1 6), .ref (g.2.1 29), .ref (g.2.1 12)] S
    obtain ⟨r25, S25, hc25, hm⟩ := bndE_ok hm
    refine j_callV F (n := 3) (As := [.ref (g.2.1 29), .ref (g.2.1 6), .int r22]) (rest := []) (c_X0_sizeFor l g hg 29 r22 (by decide) S r25 S25 hc25) gw_X5_216 (by decide +kernel) ⟨Nat.le_of_ble_eq_true rfl, Nat.le_of_ble_eq_true rfl⟩ ⟨Nat.le_of_ble_eq_true rfl, Nat.le_of_ble_eq_true rfl⟩ rfl rfl rfl rfl (Nat.le_of_ble_eq_true rfl) dX5_cut_25 ?_
    show J p l e rxX5_cut s m args below meth c g A 4 (vx_MQ below QF (XQ g A n S') args s 1 6 A) 0 0 28 [(0, .ref (g.2.1 0)), (1, .int v1), (2, .int v2), (3, .int v3)] [.int r25] S25
    cases hm
  · cases hm
    exact j_callXV F FS (k := 3) (As := [.int v1, .int v2, .int v3]) (rest := []) (x_X5_checkRight l hst g hg v1 v2 v3 S _ hc4) gw_X5_150 (by decide +kernel) ⟨Nat.le_of_ble_eq_true rfl, Nat.le_of_ble_eq_true rfl⟩ ⟨Nat.le_of_ble_eq_true rfl, Nat.le_of_ble_eq_true rfl⟩ rfl rfl rfl rfl (Nat.le_of_ble_eq_true rfl) dX5_cut_4 (Nat.le_refl _) (Nat.le_refl _)
def m_X5_cutAt_J18 (S : Hs) : Option ((Int32 ⊕ Nat) × Hs) := some ((.inr 1, S))
def m_X5_cutAt_J83 (w0 : Int32) (S : Hs) : Option ((Int32 ⊕ Nat) × Hs) := (m_X5_numberOf w0).bind fun r83 => (some ((.inl r83, S)))
noncomputable def m_X5_cutAt (v1 : Int32) (v2 : Int32) (v3 : Int32) (v4 : Int32) (S : Hs) : Option ((Int32 ⊕ Nat) × Hs) := bndP (m_X5_checkRight v1 v2 v3 S) (fun r4 => (if v4 < 0 then (m_X5_cutAt_J18 S) else (if v4 ≤ 1 then ((m_X5_rightOf v1 v2 v3).bind fun r43 => (bndE (m_X0_sizeFor 29 r43 S) fun r46 S46 => (if v4 < r46 then (if v4 = 0 then (m_X5_cutAt_J83 (gI S46 12 0) S46) else (m_X5_cutAt_J83 (gI S46 12 1) S46)) else (some ((.inl ((-9)), S46)))))) else (m_X5_cutAt_J18 S)))) (fun q => some ((.inr q, S)))
set_option maxRecDepth 100000 in
set_option maxHeartbeats 4000000 in
theorem c_X5_cutAt (l : Launch) (g : GG) (hg : Inj g) (v1 : Int32) (v2 : Int32) (v3 : Int32) (v4 : Int32)  (S : Hs) (r : Int32) (S' : Hs) (hm : m_X5_cutAt v1 v2 v3 v4 S = some ((.inl r, S'))) : CM l yX5_cutAt [.code yX5_cutAt cX5_cutAt 6 (some .int)] rmX5_cutAt [.ref (g.2.1 0), .int v1, .int v2, .int v3, .int v4] g S (some (.int r)) S' := by
  unfold m_X5_cutAt at hm
  refine CM.of (cc := cX5_cutAt) (nL := 6) (ret := (some .int)) (lv := [(0, .ref (g.2.1 0)), (1, .int v1), (2, .int v2), (3, .int v3), (4, .int v4)]) (by decide +kernel) hg (Nat.le_of_ble_eq_true rfl) rfl (fun p e s m args below meth c A F => ?_)
  replace F : Fx p s m meth c cX5_cutAt RX5 6 (some .int) g A := F
  show J p l e rmX5_cutAt s m args below meth c g A 6 (MQ below (QC g A (some (.int r)) S') args s 0 0 A) 0 0 0 [(0, .ref (g.2.1 0)), (1, .int v1), (2, .int v2), (3, .int v3), (4, .int v4)] [] S
  have hj18 : ∀ (S : Hs), m_X5_cutAt_J18 S = some ((.inl r, S')) → J p l e rmX5_cutAt s m args below meth c g A 6 (MQ below (QC g A (some (.int r)) S') args s 0 0 A) 0 0 18 [] [] S := by
    intro S hm
    unfold m_X5_cutAt_J18 at hm
    cases hm
  have hj83 : ∀ (w0 : Int32) (S : Hs), m_X5_cutAt_J83 w0 S = some ((.inl r, S')) → J p l e rmX5_cutAt s m args below meth c g A 6 (MQ below (QC g A (some (.int r)) S') args s 0 0 A) 0 0 83 [] [.int w0] S := by
    intro w0 S hm
    unfold m_X5_cutAt_J83 at hm
    obtain ⟨r83, hc83, hm⟩ := Option.bind_eq_some_iff.mp hm
    refine j_callS F (n := 1) (As := [.int w0]) (rest := []) (c_X5_numberOf l g hg w0 S r83 hc83) gw_X5_228 (by decide +kernel) ⟨Nat.le_of_ble_eq_true rfl, Nat.le_of_ble_eq_true rfl⟩ ⟨Nat.le_of_ble_eq_true rfl, Nat.le_of_ble_eq_true rfl⟩ rfl rfl (Nat.le_of_ble_eq_true rfl) dX5_cutAt_83 ?_
    show J p l e rmX5_cutAt s m args below meth c g A 6 (MQ below (QC g A (some (.int r)) S') args s 0 0 A) 0 0 86 [] [.int r83] S
    exact j_iret_e F rfl dX5_cutAt_86 (inl_e hm)
  refine j_aload_n F 0 dX5_cutAt_0 rfl ?_
  refine j_iload_n F 1 dX5_cutAt_1 rfl ?_
  refine j_iload_n F 2 dX5_cutAt_2 rfl ?_
  refine j_iload_n F 3 dX5_cutAt_3 rfl ?_
  refine bndP_ok hm (fun r4 hc4 hm => ?_) (fun q hc4 hm => ?_)
  · refine j_callV F (n := 3) (As := [.int v1, .int v2, .int v3]) (rest := []) (c_X5_checkRight l g hg v1 v2 v3 S hc4) gw_X5_150 (by decide +kernel) ⟨Nat.le_of_ble_eq_true rfl, Nat.le_of_ble_eq_true rfl⟩ ⟨Nat.le_of_ble_eq_true rfl, Nat.le_of_ble_eq_true rfl⟩ rfl rfl rfl rfl (Nat.le_of_ble_eq_true rfl) dX5_cutAt_4 ?_
    show J p l e rmX5_cutAt s m args below meth c g A 6 (MQ below (QC g A (some (.int r)) S') args s 0 0 A) 0 0 7 [(0, .ref (g.2.1 0)), (1, .int v1), (2, .int v2), (3, .int v3), (4, .int v4)] [] S
    refine j_iload F 4 dX5_cutAt_7 rfl ?_
    refine j_if_lt F (tgt := 18) dX5_cutAt_9 (by decide) hm (fun _ hm => ?_) (fun _ hm => ?_)
    · refine j_sub [] rfl ?_
      exact hj18 S  hm
    · refine j_iload F 4 dX5_cutAt_12 rfl ?_
      refine j_iconst F (v := 1) dX5_cutAt_14 (by decide) ?_
      refine j_icmp_le F (tgt := 28) dX5_cutAt_15 (by decide) hm (fun _ hm => ?_) (fun _ hm => ?_)
      · refine j_aload_n F 0 dX5_cutAt_28 rfl ?_
        refine j_getR F (k0 := 10) (C := RX5) (T := TX5) (N := 11) rfl rfl rfl inF5 (by decide) tw330 dX5_cutAt_29 ?_
        refine j_aload_n F 0 dX5_cutAt_32 rfl ?_
        refine j_getR F (k0 := 1) (C := RX5) (T := TX5) (N := 11) rfl rfl rfl inF5 (by decide) tw316 dX5_cutAt_33 ?_
        refine j_aload_n F 0 dX5_cutAt_36 rfl ?_
        refine j_getR F (k0 := 8) (C := RX5) (T := TX5) (N := 11) rfl rfl rfl inF5 (by decide) tw324 dX5_cutAt_37 ?_
        refine j_iload_n F 1 dX5_cutAt_40 rfl ?_
        refine j_iload_n F 2 dX5_cutAt_41 rfl ?_
        refine j_iload_n F 3 dX5_cutAt_42 rfl ?_
        obtain ⟨r43, hc43, hm⟩ := Option.bind_eq_some_iff.mp hm
        refine j_callS F (n := 3) (As := [.int v1, .int v2, .int v3]) (rest := [.ref (g.2.1 6), .ref (g.2.1 29), .ref (g.2.1 12)]) (c_X5_rightOf l g hg v1 v2 v3 S r43 hc43) gw_X5_154 (by decide +kernel) ⟨Nat.le_of_ble_eq_true rfl, Nat.le_of_ble_eq_true rfl⟩ ⟨Nat.le_of_ble_eq_true rfl, Nat.le_of_ble_eq_true rfl⟩ rfl rfl (Nat.le_of_ble_eq_true rfl) dX5_cutAt_43 ?_
        show J p l e rmX5_cutAt s m args below meth c g A 6 (MQ below (QC g A (some (.int r)) S') args s 0 0 A) 0 0 46 [(0, .ref (g.2.1 0)), (1, .int v1), (2, .int v2), (3, .int v3), (4, .int v4)] [.int r43, .ref (g.2.1 6), .ref (g.2.1 29), .ref (g.2.1 12)] S
        obtain ⟨r46, S46, hc46, hm⟩ := bndE_ok hm
        refine j_callV F (n := 3) (As := [.ref (g.2.1 29), .ref (g.2.1 6), .int r43]) (rest := []) (c_X0_sizeFor l g hg 29 r43 (by decide) S r46 S46 hc46) gw_X5_216 (by decide +kernel) ⟨Nat.le_of_ble_eq_true rfl, Nat.le_of_ble_eq_true rfl⟩ ⟨Nat.le_of_ble_eq_true rfl, Nat.le_of_ble_eq_true rfl⟩ rfl rfl rfl rfl (Nat.le_of_ble_eq_true rfl) dX5_cutAt_46 ?_
        show J p l e rmX5_cutAt s m args below meth c g A 6 (MQ below (QC g A (some (.int r)) S') args s 0 0 A) 0 0 49 [(0, .ref (g.2.1 0)), (1, .int v1), (2, .int v2), (3, .int v3), (4, .int v4)] [.int r46] S46
        refine j_istore F (lv' := [(5, .int r46), (0, .ref (g.2.1 0)), (1, .int v1), (2, .int v2), (3, .int v3), (4, .int v4)]) dX5_cutAt_49 (by decide) rfl ?_
        refine j_iload F 5 dX5_cutAt_51 rfl ?_
        refine j_iload F 0 dX5_cutAt_53 rfl ?_
        refine j_icmp_lt F (tgt := 61) dX5_cutAt_55 (by decide) hm (fun _ hm => ?_) (fun _ hm => ?_)
        · refine j_iload F 5 dX5_cutAt_61 rfl ?_
          refine j_if_ne F (tgt := 76) dX5_cutAt_63 (by decide) hm (fun _ hm => ?_) (fun _ hm => ?_)
          · refine j_aload_n F 1 dX5_cutAt_76 rfl ?_
            refine j_getR F (k0 := 10) (C := RX5) (T := TX5) (N := 11) rfl rfl rfl inF5 (by decide) tw330 dX5_cutAt_77 ?_
            refine j_getI F (k0 := 1) (C := RX0) (T := TX0) (N := 3) rfl rfl rfl inF0 (by decide) tw459 dX5_cutAt_80 ?_
            refine j_sub [] rfl ?_
            exact hj83 (gI S46 12 1) S46  hm
          · refine j_aload_n F 1 dX5_cutAt_66 rfl ?_
            refine j_getR F (k0 := 10) (C := RX5) (T := TX5) (N := 11) rfl rfl rfl inF5 (by decide) tw330 dX5_cutAt_67 ?_
            refine j_getI F (k0 := 0) (C := RX0) (T := TX0) (N := 3) rfl rfl rfl inF0 (by decide) tw458 dX5_cutAt_70 ?_
            refine j_goto F (tgt := 83) dX5_cutAt_73 (by decide) ?_
            refine j_sub [] rfl ?_
            exact hj83 (gI S46 12 0) S46  hm
        · refine j_bipush F (v := -9) dX5_cutAt_58 (by decide) ?_
          exact j_iret_e F rfl dX5_cutAt_60 (inl_e hm)
      · refine j_sub [] rfl ?_
        exact hj18 S  hm
  · cases hm
set_option maxRecDepth 100000 in
set_option maxHeartbeats 4000000 in
theorem x_X5_cutAt (l : Launch) (hst : l.stackTraces = false) (g : GG) (hg : Inj g) (v1 : Int32) (v2 : Int32) (v3 : Int32) (v4 : Int32)  (S : Hs) (n : Nat) (S' : Hs) (hm : m_X5_cutAt v1 v2 v3 v4 S = some ((.inr n, S'))) : CX l yX5_cutAt [.code yX5_cutAt cX5_cutAt 6 (some .int)] rxX5_cutAt [.ref (g.2.1 0), .int v1, .int v2, .int v3, .int v4] g S n S' := by
  unfold m_X5_cutAt at hm
  refine CX.of (cc := cX5_cutAt) (nL := 6) (ret := (some .int)) (lv := [(0, .ref (g.2.1 0)), (1, .int v1), (2, .int v2), (3, .int v3), (4, .int v4)]) (by decide +kernel) hg (Nat.le_of_ble_eq_true rfl) rfl rfl rfl hst (fun p e s m args below meth c A F FS => ?_)
  replace F : Fx p s m meth c cX5_cutAt RX5 6 (some .int) g A := F
  replace FS : FX9 l s c A := FS
  show J p l e rxX5_cutAt s m args below meth c g A 6 (vx_MQ below QF (XQ g A n S') args s 1 6 A) 0 0 0 [(0, .ref (g.2.1 0)), (1, .int v1), (2, .int v2), (3, .int v3), (4, .int v4)] [] S
  have hj18 : ∀ (S : Hs), m_X5_cutAt_J18 S = some ((.inr n, S')) → J p l e rxX5_cutAt s m args below meth c g A 6 (vx_MQ below QF (XQ g A n S') args s 1 6 A) 0 0 18 [] [] S := by
    intro S hm
    unfold m_X5_cutAt_J18 at hm
    cases hm
    exact j_throw F FS 8 ex1 rfl rfl dX5_cutAt_18 dX5_cutAt_21 dX5_cutAt_22 dX5_cutAt_24 dX5_cutAt_27 ⟨Nat.le_of_ble_eq_true rfl, Nat.le_of_ble_eq_true rfl⟩ ⟨Nat.le_of_ble_eq_true rfl, Nat.le_of_ble_eq_true rfl⟩
  have hj83 : ∀ (w0 : Int32) (S : Hs), m_X5_cutAt_J83 w0 S = some ((.inr n, S')) → J p l e rxX5_cutAt s m args below meth c g A 6 (vx_MQ below QF (XQ g A n S') args s 1 6 A) 0 0 83 [] [.int w0] S := by
    intro w0 S hm
    unfold m_X5_cutAt_J83 at hm
    obtain ⟨r83, hc83, hm⟩ := Option.bind_eq_some_iff.mp hm
    refine j_callS F (n := 1) (As := [.int w0]) (rest := []) (c_X5_numberOf l g hg w0 S r83 hc83) gw_X5_228 (by decide +kernel) ⟨Nat.le_of_ble_eq_true rfl, Nat.le_of_ble_eq_true rfl⟩ ⟨Nat.le_of_ble_eq_true rfl, Nat.le_of_ble_eq_true rfl⟩ rfl rfl (Nat.le_of_ble_eq_true rfl) dX5_cutAt_83 ?_
    show J p l e rxX5_cutAt s m args below meth c g A 6 (vx_MQ below QF (XQ g A n S') args s 1 6 A) 0 0 86 [] [.int r83] S
    cases hm
  refine j_aload_n F 0 dX5_cutAt_0 rfl ?_
  refine j_iload_n F 1 dX5_cutAt_1 rfl ?_
  refine j_iload_n F 2 dX5_cutAt_2 rfl ?_
  refine j_iload_n F 3 dX5_cutAt_3 rfl ?_
  refine bndP_ok hm (fun r4 hc4 hm => ?_) (fun q hc4 hm => ?_)
  · refine j_callV F (n := 3) (As := [.int v1, .int v2, .int v3]) (rest := []) (c_X5_checkRight l g hg v1 v2 v3 S hc4) gw_X5_150 (by decide +kernel) ⟨Nat.le_of_ble_eq_true rfl, Nat.le_of_ble_eq_true rfl⟩ ⟨Nat.le_of_ble_eq_true rfl, Nat.le_of_ble_eq_true rfl⟩ rfl rfl rfl rfl (Nat.le_of_ble_eq_true rfl) dX5_cutAt_4 ?_
    show J p l e rxX5_cutAt s m args below meth c g A 6 (vx_MQ below QF (XQ g A n S') args s 1 6 A) 0 0 7 [(0, .ref (g.2.1 0)), (1, .int v1), (2, .int v2), (3, .int v3), (4, .int v4)] [] S
    refine j_iload F 4 dX5_cutAt_7 rfl ?_
    refine j_if_lt F (tgt := 18) dX5_cutAt_9 (by decide) hm (fun _ hm => ?_) (fun _ hm => ?_)
    · refine j_sub [] rfl ?_
      exact hj18 S  hm
    · refine j_iload F 4 dX5_cutAt_12 rfl ?_
      refine j_iconst F (v := 1) dX5_cutAt_14 (by decide) ?_
      refine j_icmp_le F (tgt := 28) dX5_cutAt_15 (by decide) hm (fun _ hm => ?_) (fun _ hm => ?_)
      · refine j_aload_n F 0 dX5_cutAt_28 rfl ?_
        refine j_getR F (k0 := 10) (C := RX5) (T := TX5) (N := 11) rfl rfl rfl inF5 (by decide) tw330 dX5_cutAt_29 ?_
        refine j_aload_n F 0 dX5_cutAt_32 rfl ?_
        refine j_getR F (k0 := 1) (C := RX5) (T := TX5) (N := 11) rfl rfl rfl inF5 (by decide) tw316 dX5_cutAt_33 ?_
        refine j_aload_n F 0 dX5_cutAt_36 rfl ?_
        refine j_getR F (k0 := 8) (C := RX5) (T := TX5) (N := 11) rfl rfl rfl inF5 (by decide) tw324 dX5_cutAt_37 ?_
        refine j_iload_n F 1 dX5_cutAt_40 rfl ?_
        refine j_iload_n F 2 dX5_cutAt_41 rfl ?_
        refine j_iload_n F 3 dX5_cutAt_42 rfl ?_
        obtain ⟨r43, hc43, hm⟩ := Option.bind_eq_some_iff.mp hm
        refine j_callS F (n := 3) (As := [.int v1, .int v2, .int v3]) (rest := [.ref (g.2.1 6), .ref (g.2.1 29), .ref (g.2.1 12)]) (c_X5_rightOf l g hg v1 v2 v3 S r43 hc43) gw_X5_154 (by decide +kernel) ⟨Nat.le_of_ble_eq_true rfl, Nat.le_of_ble_eq_true rfl⟩ ⟨Nat.le_of_ble_eq_true rfl, Nat.le_of_ble_eq_true rfl⟩ rfl rfl (Nat.le_of_ble_eq_true rfl) dX5_cutAt_43 ?_
        show J p l e rxX5_cutAt s m args below meth c g A 6 (vx_MQ below QF (XQ g A n S') args s 1 6 A) 0 0 46 [(0, .ref (g.2.1 0)), (1, .int v1), (2, .int v2), (3, .int v3), (4, .int v4)] [.int r43, .ref (g.2.1 6), .ref (g.2.1 29), .ref (g.2.1 12)] S
        obtain ⟨r46, S46, hc46, hm⟩ := bndE_ok hm
        refine j_callV F (n := 3) (As := [.ref (g.2.1 29), .ref (g.2.1 6), .int r43]) (rest := []) (c_X0_sizeFor l g hg 29 r43 (by decide) S r46 S46 hc46) gw_X5_216 (by decide +kernel) ⟨Nat.le_of_ble_eq_true rfl, Nat.le_of_ble_eq_true rfl⟩ ⟨Nat.le_of_ble_eq_true rfl, Nat.le_of_ble_eq_true rfl⟩ rfl rfl rfl rfl (Nat.le_of_ble_eq_true rfl) dX5_cutAt_46 ?_
        show J p l e rxX5_cutAt s m args below meth c g A 6 (vx_MQ below QF (XQ g A n S') args s 1 6 A) 0 0 49 [(0, .ref (g.2.1 0)), (1, .int v1), (2, .int v2), (3, .int v3), (4, .int v4)] [.int r46] S46
        refine j_istore F (lv' := [(5, .int r46), (0, .ref (g.2.1 0)), (1, .int v1), (2, .int v2), (3, .int v3), (4, .int v4)]) dX5_cutAt_49 (by decide) rfl ?_
        refine j_iload F 5 dX5_cutAt_51 rfl ?_
        refine j_iload F 0 dX5_cutAt_53 rfl ?_
        refine j_icmp_lt F (tgt := 61) dX5_cutAt_55 (by decide) hm (fun _ hm => ?_) (fun _ hm => ?_)
        · refine j_iload F 5 dX5_cutAt_61 rfl ?_
          refine j_if_ne F (tgt := 76) dX5_cutAt_63 (by decide) hm (fun _ hm => ?_) (fun _ hm => ?_)
          · refine j_aload_n F 1 dX5_cutAt_76 rfl ?_
            refine j_getR F (k0 := 10) (C := RX5) (T := TX5) (N := 11) rfl rfl rfl inF5 (by decide) tw330 dX5_cutAt_77 ?_
            refine j_getI F (k0 := 1) (C := RX0) (T := TX0) (N := 3) rfl rfl rfl inF0 (by decide) tw459 dX5_cutAt_80 ?_
            refine j_sub [] rfl ?_
            exact hj83 (gI S46 12 1) S46  hm
          · refine j_aload_n F 1 dX5_cutAt_66 rfl ?_
            refine j_getR F (k0 := 10) (C := RX5) (T := TX5) (N := 11) rfl rfl rfl inF5 (by decide) tw330 dX5_cutAt_67 ?_
            refine j_getI F (k0 := 0) (C := RX0) (T := TX0) (N := 3) rfl rfl rfl inF0 (by decide) tw458 dX5_cutAt_70 ?_
            refine j_goto F (tgt := 83) dX5_cutAt_73 (by decide) ?_
            refine j_sub [] rfl ?_
            exact hj83 (gI S46 12 0) S46  hm
        · refine j_bipush F (v := -9) dX5_cutAt_58 (by decide) ?_
          cases hm
      · refine j_sub [] rfl ?_
        exact hj18 S  hm
  · cases hm
    exact j_callXV F FS (k := 3) (As := [.int v1, .int v2, .int v3]) (rest := []) (x_X5_checkRight l hst g hg v1 v2 v3 S _ hc4) gw_X5_150 (by decide +kernel) ⟨Nat.le_of_ble_eq_true rfl, Nat.le_of_ble_eq_true rfl⟩ ⟨Nat.le_of_ble_eq_true rfl, Nat.le_of_ble_eq_true rfl⟩ rfl rfl rfl rfl (Nat.le_of_ble_eq_true rfl) dX5_cutAt_4 (Nat.le_refl _) (Nat.le_refl _)
def m_X5_runScript_J26 (S : Hs) : Option ((Int32 ⊕ Nat) × Hs) := some ((.inr 1, S))
noncomputable def m_X5_runScript_L50 (v1 : Int32) (v2 : Int64) (v4 : Int32) (S : Hs) : Option ((Int32 × Hs) ⊕ (Hs ⊕ ((Int32 ⊕ Nat) × Hs))) := if v1 ≤ v4 then (some (.inr (.inl S))) else ((m_X5_withoutGroups v2 ((v1 - 1) - v4)).bind fun r63 => (bnd ((lrm r63 100000).toInt32) fun v5_71 => (bndE (m_X5_runCommand v5_71 S) fun r76 S76 => (if r76 = 0 then (some (.inr (.inr ((.inl v4, S76))))) else (some (.inl ((v4 + 1, S76))))))))
noncomputable def m_X5_runScript (v1 : Int32) (v2 : Int64) (S : Hs) : Option ((Int32 ⊕ Nat) × Hs) := if v1 < 1 then (m_X5_runScript_J26 S) else (if 3 < v1 then (m_X5_runScript_J26 S) else (if (lg_cmp v2 0) < 0 then (m_X5_runScript_J26 S) else ((m_X5_withoutGroups v2 v1).bind fun r18 => (if (lg_cmp r18 0) = 0 then ((m_X3_copyFrom 63 29 S).bind fun S44 => ((loopO (fun x => m_X5_runScript_L50 v1 v2 x.1 x.2) ((0, S44))).bind fun e50 => Sum.elim (fun y50 => some ((.inl ((-9)), y50))) (fun q => some q) e50)) else (m_X5_runScript_J26 S)))))
set_option maxRecDepth 100000 in
set_option maxHeartbeats 4000000 in
theorem c_X5_runScript (l : Launch) (g : GG) (hg : Inj g) (v1 : Int32) (v2 : Int64)  (S : Hs) (r : Int32) (S' : Hs) (hm : m_X5_runScript v1 v2 S = some ((.inl r, S'))) : CM l yX5_runScript [.code yX5_runScript cX5_runScript 6 (some .int)] rmX5_runScript [.ref (g.2.1 0), .int v1, .long v2] g S (some (.int r)) S' := by
  unfold m_X5_runScript at hm
  refine CM.of (cc := cX5_runScript) (nL := 6) (ret := (some .int)) (lv := [(0, .ref (g.2.1 0)), (1, .int v1), (2, .long v2)]) (by decide +kernel) hg (Nat.le_of_ble_eq_true rfl) rfl (fun p e s m args below meth c A F => ?_)
  replace F : Fx p s m meth c cX5_runScript RX5 6 (some .int) g A := F
  show J p l e rmX5_runScript s m args below meth c g A 6 (MQ below (QC g A (some (.int r)) S') args s 0 0 A) 0 0 0 [(0, .ref (g.2.1 0)), (1, .int v1), (2, .long v2)] [] S
  have hj26 : ∀ (S : Hs), m_X5_runScript_J26 S = some ((.inl r, S')) → J p l e rmX5_runScript s m args below meth c g A 6 (MQ below (QC g A (some (.int r)) S') args s 0 0 A) 0 0 26 [] [] S := by
    intro S hm
    unfold m_X5_runScript_J26 at hm
    cases hm
  refine j_iload_n F 1 dX5_runScript_0 rfl ?_
  refine j_iconst F (v := 1) dX5_runScript_1 (by decide) ?_
  refine j_icmp_lt F (tgt := 26) dX5_runScript_2 (by decide) hm (fun _ hm => ?_) (fun _ hm => ?_)
  · refine j_sub [] rfl ?_
    exact hj26 S  hm
  · refine j_iload_n F 1 dX5_runScript_5 rfl ?_
    refine j_iconst F (v := 3) dX5_runScript_6 (by decide) ?_
    refine j_icmp_gt F (tgt := 26) dX5_runScript_7 (by decide) hm (fun _ hm => ?_) (fun _ hm => ?_)
    · refine j_sub [] rfl ?_
      exact hj26 S  hm
    · refine j_lload_n F 2 dX5_runScript_10 rfl ?_
      refine j_lconst F (v := 0) dX5_runScript_11 (by decide) ?_
      refine j_lcmp F dX5_runScript_12 ?_
      refine j_if_lt F (tgt := 26) dX5_runScript_13 (by decide) hm (fun _ hm => ?_) (fun _ hm => ?_)
      · refine j_sub [] rfl ?_
        exact hj26 S  hm
      · refine j_lload_n F 2 dX5_runScript_16 rfl ?_
        refine j_iload_n F 1 dX5_runScript_17 rfl ?_
        obtain ⟨r18, hc18, hm⟩ := Option.bind_eq_some_iff.mp hm
        refine j_callS F (n := 2) (As := [.long v2, .int v1]) (rest := []) (c_X5_withoutGroups l g hg v2 v1 S r18 hc18) gw_X5_240 (by decide +kernel) ⟨Nat.le_of_ble_eq_true rfl, Nat.le_of_ble_eq_true rfl⟩ ⟨Nat.le_of_ble_eq_true rfl, Nat.le_of_ble_eq_true rfl⟩ rfl rfl (Nat.le_of_ble_eq_true rfl) dX5_runScript_18 ?_
        show J p l e rmX5_runScript s m args below meth c g A 6 (MQ below (QC g A (some (.int r)) S') args s 0 0 A) 0 0 21 [(0, .ref (g.2.1 0)), (1, .int v1), (2, .long v2)] [.long r18] S
        refine j_lconst F (v := 0) dX5_runScript_21 (by decide) ?_
        refine j_lcmp F dX5_runScript_22 ?_
        refine j_if_eq F (tgt := 36) dX5_runScript_23 (by decide) hm (fun _ hm => ?_) (fun _ hm => ?_)
        · refine j_aload_n F 0 dX5_runScript_36 rfl ?_
          refine j_getR F (k0 := 6) (C := RX5) (T := TX5) (N := 11) rfl rfl rfl inF5 (by decide) tw320 dX5_runScript_37 ?_
          refine j_aload_n F 0 dX5_runScript_40 rfl ?_
          refine j_getR F (k0 := 1) (C := RX5) (T := TX5) (N := 11) rfl rfl rfl inF5 (by decide) tw316 dX5_runScript_41 ?_
          obtain ⟨S44, hc44, hm⟩ := Option.bind_eq_some_iff.mp hm
          refine j_callV F (n := 1) (As := [.ref (g.2.1 29)]) (rest := []) (c_X3_copyFrom l g hg 63 29 (by decide) (by decide) S S44 hc44) gw_X5_87 (by decide +kernel) ⟨Nat.le_of_ble_eq_true rfl, Nat.le_of_ble_eq_true rfl⟩ ⟨Nat.le_of_ble_eq_true rfl, Nat.le_of_ble_eq_true rfl⟩ (isSt_lay (i := 63) (by decide)).1 rfl rfl rfl (Nat.le_of_ble_eq_true rfl) dX5_runScript_44 ?_
          show J p l e rmX5_runScript s m args below meth c g A 6 (MQ below (QC g A (some (.int r)) S') args s 0 0 A) 0 0 47 [(0, .ref (g.2.1 0)), (1, .int v1), (2, .long v2)] [] S44
          refine j_iconst F (v := 0) dX5_runScript_47 (by decide) ?_
          refine j_istore F (lv' := [(4, .int 0), (0, .ref (g.2.1 0)), (1, .int v1), (2, .long v2)]) dX5_runScript_48 (by decide) rfl ?_
          refine j_sub [1, 2, 3, 0] rfl ?_
          obtain ⟨e50, hlp50, hm⟩ := Option.bind_eq_some_iff.mp hm
          refine loopO_walk (fun x => m_X5_runScript_L50 v1 v2 x.1 x.2) (fun x => J p l e rmX5_runScript s m args below meth c g A 6 (MQ below (QC g A (some (.int r)) S') args s 0 0 A) 0 0 50 [(0, .ref (g.2.1 0)), (1, .int v1), (2, .long v2), (4, .int x.1)] [] x.2) (fun z => match z with | .inl x => J p l e rmX5_runScript s m args below meth c g A 6 (MQ below (QC g A (some (.int r)) S') args s 0 0 A) 0 0 91 [] [] x | .inr x => some x = some ((.inl r, S'))) (fun x o1 hm hk1 => ?_) hlp50 ?_
          · obtain ⟨v4, S⟩ := x
            replace hm : m_X5_runScript_L50 v1 v2 v4 S = some o1 := hm
            show J p l e rmX5_runScript s m args below meth c g A 6 (MQ below (QC g A (some (.int r)) S') args s 0 0 A) 0 0 50 [(0, .ref (g.2.1 0)), (1, .int v1), (2, .long v2), (4, .int v4)] [] S
            unfold m_X5_runScript_L50 at hm
            refine j_iload F 3 dX5_runScript_50 rfl ?_
            refine j_iload_n F 1 dX5_runScript_52 rfl ?_
            refine j_icmp_ge F (tgt := 91) dX5_runScript_53 (by decide) hm (fun _ hm => ?_) (fun _ hm => ?_)
            · cases hm
              refine j_sub [] rfl ?_
              exact hk1
            · refine j_lload_n F 2 dX5_runScript_56 rfl ?_
              refine j_iload_n F 1 dX5_runScript_57 rfl ?_
              refine j_iconst F (v := 1) dX5_runScript_58 (by decide) ?_
              refine j_isub F dX5_runScript_59 ?_
              refine j_iload F 3 dX5_runScript_60 rfl ?_
              refine j_isub F dX5_runScript_62 ?_
              obtain ⟨r63, hc63, hm⟩ := Option.bind_eq_some_iff.mp hm
              refine j_callS F (n := 2) (As := [.long v2, .int ((v1 - 1) - v4)]) (rest := []) (c_X5_withoutGroups l g hg v2 ((v1 - 1) - v4) S r63 hc63) gw_X5_240 (by decide +kernel) ⟨Nat.le_of_ble_eq_true rfl, Nat.le_of_ble_eq_true rfl⟩ ⟨Nat.le_of_ble_eq_true rfl, Nat.le_of_ble_eq_true rfl⟩ rfl rfl (Nat.le_of_ble_eq_true rfl) dX5_runScript_63 ?_
              show J p l e rmX5_runScript s m args below meth c g A 6 (MQ below (QC g A (some (.int r)) S') args s 0 0 A) 0 0 66 [(0, .ref (g.2.1 0)), (1, .int v1), (2, .long v2), (4, .int v4)] [.long r63] S
              refine j_ldc2 F (v := 100000) dX5_runScript_66 tw473 ?_
              refine j_lrem F dX5_runScript_69 (by decide) ?_
              refine j_l2i F dX5_runScript_70 ?_
              refine j_bnd hm (fun v5_71 hm => ?_)
              refine j_istore F (lv' := [(5, .int v5_71), (0, .ref (g.2.1 0)), (1, .int v1), (2, .long v2), (4, .int v4)]) dX5_runScript_71 (by decide) rfl ?_
              refine j_aload_n F 1 dX5_runScript_73 rfl ?_
              refine j_iload F 0 dX5_runScript_74 rfl ?_
              obtain ⟨r76, S76, hc76, hm⟩ := bndE_ok hm
              refine j_callV F (n := 1) (As := [.int v5_71]) (rest := []) (c_X5_runCommand l g hg v5_71 S r76 S76 hc76) gw_X5_248 (by decide +kernel) ⟨Nat.le_of_ble_eq_true rfl, Nat.le_of_ble_eq_true rfl⟩ ⟨Nat.le_of_ble_eq_true rfl, Nat.le_of_ble_eq_true rfl⟩ rfl rfl rfl rfl (Nat.le_of_ble_eq_true rfl) dX5_runScript_76 ?_
              show J p l e rmX5_runScript s m args below meth c g A 6 (MQ below (QC g A (some (.int r)) S') args s 0 0 A) 0 0 79 [(5, .int v5_71), (0, .ref (g.2.1 0)), (1, .int v1), (2, .long v2), (4, .int v4)] [.int r76] S76
              refine j_if_ne F (tgt := 85) dX5_runScript_79 (by decide) hm (fun _ hm => ?_) (fun _ hm => ?_)
              · refine j_iinc F (v := v4 + 1) (lv' := [(4, .int (v4 + 1)), (5, .int v5_71), (0, .ref (g.2.1 0)), (1, .int v1), (2, .long v2)]) 4 dX5_runScript_85 rfl rfl (by decide) rfl ?_
                refine j_goto F (tgt := 50) dX5_runScript_88 (by decide) ?_
                cases hm
                refine j_sub [2, 3, 4, 0] rfl ?_
                exact hk1
              · refine j_iload F 4 dX5_runScript_82 rfl ?_
                cases hm
                have hr1 : some _ = some ((.inl r, S') : (Int32 ⊕ Nat) × Hs) := hk1
                exact j_iret_e F rfl dX5_runScript_84 (inl_e hr1)
          · cases e50 with
            | inl y50 =>
              dsimp only [Sum.elim_inl] at hm
              show J p l e rmX5_runScript s m args below meth c g A 6 (MQ below (QC g A (some (.int r)) S') args s 0 0 A) 0 0 91 [] [] y50
              refine j_bipush F (v := -9) dX5_runScript_91 (by decide) ?_
              exact j_iret_e F rfl dX5_runScript_93 (inl_e hm)
            | inr q =>
              exact hm
        · refine j_sub [] rfl ?_
          exact hj26 S  hm
set_option maxRecDepth 100000 in
set_option maxHeartbeats 4000000 in
theorem x_X5_runScript (l : Launch) (hst : l.stackTraces = false) (g : GG) (hg : Inj g) (v1 : Int32) (v2 : Int64)  (S : Hs) (n : Nat) (S' : Hs) (hm : m_X5_runScript v1 v2 S = some ((.inr n, S'))) : CX l yX5_runScript [.code yX5_runScript cX5_runScript 6 (some .int)] rxX5_runScript [.ref (g.2.1 0), .int v1, .long v2] g S n S' := by
  unfold m_X5_runScript at hm
  refine CX.of (cc := cX5_runScript) (nL := 6) (ret := (some .int)) (lv := [(0, .ref (g.2.1 0)), (1, .int v1), (2, .long v2)]) (by decide +kernel) hg (Nat.le_of_ble_eq_true rfl) rfl rfl rfl hst (fun p e s m args below meth c A F FS => ?_)
  replace F : Fx p s m meth c cX5_runScript RX5 6 (some .int) g A := F
  replace FS : FX9 l s c A := FS
  show J p l e rxX5_runScript s m args below meth c g A 6 (vx_MQ below QF (XQ g A n S') args s 1 6 A) 0 0 0 [(0, .ref (g.2.1 0)), (1, .int v1), (2, .long v2)] [] S
  have hj26 : ∀ (S : Hs), m_X5_runScript_J26 S = some ((.inr n, S')) → J p l e rxX5_runScript s m args below meth c g A 6 (vx_MQ below QF (XQ g A n S') args s 1 6 A) 0 0 26 [] [] S := by
    intro S hm
    unfold m_X5_runScript_J26 at hm
    cases hm
    exact j_throw F FS 9 ex1 rfl rfl dX5_runScript_26 dX5_runScript_29 dX5_runScript_30 dX5_runScript_32 dX5_runScript_35 ⟨Nat.le_of_ble_eq_true rfl, Nat.le_of_ble_eq_true rfl⟩ ⟨Nat.le_of_ble_eq_true rfl, Nat.le_of_ble_eq_true rfl⟩
  refine j_iload_n F 1 dX5_runScript_0 rfl ?_
  refine j_iconst F (v := 1) dX5_runScript_1 (by decide) ?_
  refine j_icmp_lt F (tgt := 26) dX5_runScript_2 (by decide) hm (fun _ hm => ?_) (fun _ hm => ?_)
  · refine j_sub [] rfl ?_
    exact hj26 S  hm
  · refine j_iload_n F 1 dX5_runScript_5 rfl ?_
    refine j_iconst F (v := 3) dX5_runScript_6 (by decide) ?_
    refine j_icmp_gt F (tgt := 26) dX5_runScript_7 (by decide) hm (fun _ hm => ?_) (fun _ hm => ?_)
    · refine j_sub [] rfl ?_
      exact hj26 S  hm
    · refine j_lload_n F 2 dX5_runScript_10 rfl ?_
      refine j_lconst F (v := 0) dX5_runScript_11 (by decide) ?_
      refine j_lcmp F dX5_runScript_12 ?_
      refine j_if_lt F (tgt := 26) dX5_runScript_13 (by decide) hm (fun _ hm => ?_) (fun _ hm => ?_)
      · refine j_sub [] rfl ?_
        exact hj26 S  hm
      · refine j_lload_n F 2 dX5_runScript_16 rfl ?_
        refine j_iload_n F 1 dX5_runScript_17 rfl ?_
        obtain ⟨r18, hc18, hm⟩ := Option.bind_eq_some_iff.mp hm
        refine j_callS F (n := 2) (As := [.long v2, .int v1]) (rest := []) (c_X5_withoutGroups l g hg v2 v1 S r18 hc18) gw_X5_240 (by decide +kernel) ⟨Nat.le_of_ble_eq_true rfl, Nat.le_of_ble_eq_true rfl⟩ ⟨Nat.le_of_ble_eq_true rfl, Nat.le_of_ble_eq_true rfl⟩ rfl rfl (Nat.le_of_ble_eq_true rfl) dX5_runScript_18 ?_
        show J p l e rxX5_runScript s m args below meth c g A 6 (vx_MQ below QF (XQ g A n S') args s 1 6 A) 0 0 21 [(0, .ref (g.2.1 0)), (1, .int v1), (2, .long v2)] [.long r18] S
        refine j_lconst F (v := 0) dX5_runScript_21 (by decide) ?_
        refine j_lcmp F dX5_runScript_22 ?_
        refine j_if_eq F (tgt := 36) dX5_runScript_23 (by decide) hm (fun _ hm => ?_) (fun _ hm => ?_)
        · refine j_aload_n F 0 dX5_runScript_36 rfl ?_
          refine j_getR F (k0 := 6) (C := RX5) (T := TX5) (N := 11) rfl rfl rfl inF5 (by decide) tw320 dX5_runScript_37 ?_
          refine j_aload_n F 0 dX5_runScript_40 rfl ?_
          refine j_getR F (k0 := 1) (C := RX5) (T := TX5) (N := 11) rfl rfl rfl inF5 (by decide) tw316 dX5_runScript_41 ?_
          obtain ⟨S44, hc44, hm⟩ := Option.bind_eq_some_iff.mp hm
          refine j_callV F (n := 1) (As := [.ref (g.2.1 29)]) (rest := []) (c_X3_copyFrom l g hg 63 29 (by decide) (by decide) S S44 hc44) gw_X5_87 (by decide +kernel) ⟨Nat.le_of_ble_eq_true rfl, Nat.le_of_ble_eq_true rfl⟩ ⟨Nat.le_of_ble_eq_true rfl, Nat.le_of_ble_eq_true rfl⟩ (isSt_lay (i := 63) (by decide)).1 rfl rfl rfl (Nat.le_of_ble_eq_true rfl) dX5_runScript_44 ?_
          show J p l e rxX5_runScript s m args below meth c g A 6 (vx_MQ below QF (XQ g A n S') args s 1 6 A) 0 0 47 [(0, .ref (g.2.1 0)), (1, .int v1), (2, .long v2)] [] S44
          refine j_iconst F (v := 0) dX5_runScript_47 (by decide) ?_
          refine j_istore F (lv' := [(4, .int 0), (0, .ref (g.2.1 0)), (1, .int v1), (2, .long v2)]) dX5_runScript_48 (by decide) rfl ?_
          refine j_sub [1, 2, 3, 0] rfl ?_
          obtain ⟨e50, hlp50, hm⟩ := Option.bind_eq_some_iff.mp hm
          refine loopO_walk (fun x => m_X5_runScript_L50 v1 v2 x.1 x.2) (fun x => J p l e rxX5_runScript s m args below meth c g A 6 (vx_MQ below QF (XQ g A n S') args s 1 6 A) 0 0 50 [(0, .ref (g.2.1 0)), (1, .int v1), (2, .long v2), (4, .int x.1)] [] x.2) (fun z => match z with | .inl x => J p l e rxX5_runScript s m args below meth c g A 6 (vx_MQ below QF (XQ g A n S') args s 1 6 A) 0 0 91 [] [] x | .inr x => some x = some ((.inr n, S'))) (fun x o1 hm hk1 => ?_) hlp50 ?_
          · obtain ⟨v4, S⟩ := x
            replace hm : m_X5_runScript_L50 v1 v2 v4 S = some o1 := hm
            show J p l e rxX5_runScript s m args below meth c g A 6 (vx_MQ below QF (XQ g A n S') args s 1 6 A) 0 0 50 [(0, .ref (g.2.1 0)), (1, .int v1), (2, .long v2), (4, .int v4)] [] S
            unfold m_X5_runScript_L50 at hm
            refine j_iload F 3 dX5_runScript_50 rfl ?_
            refine j_iload_n F 1 dX5_runScript_52 rfl ?_
            refine j_icmp_ge F (tgt := 91) dX5_runScript_53 (by decide) hm (fun _ hm => ?_) (fun _ hm => ?_)
            · cases hm
              refine j_sub [] rfl ?_
              exact hk1
            · refine j_lload_n F 2 dX5_runScript_56 rfl ?_
              refine j_iload_n F 1 dX5_runScript_57 rfl ?_
              refine j_iconst F (v := 1) dX5_runScript_58 (by decide) ?_
              refine j_isub F dX5_runScript_59 ?_
              refine j_iload F 3 dX5_runScript_60 rfl ?_
              refine j_isub F dX5_runScript_62 ?_
              obtain ⟨r63, hc63, hm⟩ := Option.bind_eq_some_iff.mp hm
              refine j_callS F (n := 2) (As := [.long v2, .int ((v1 - 1) - v4)]) (rest := []) (c_X5_withoutGroups l g hg v2 ((v1 - 1) - v4) S r63 hc63) gw_X5_240 (by decide +kernel) ⟨Nat.le_of_ble_eq_true rfl, Nat.le_of_ble_eq_true rfl⟩ ⟨Nat.le_of_ble_eq_true rfl, Nat.le_of_ble_eq_true rfl⟩ rfl rfl (Nat.le_of_ble_eq_true rfl) dX5_runScript_63 ?_
              show J p l e rxX5_runScript s m args below meth c g A 6 (vx_MQ below QF (XQ g A n S') args s 1 6 A) 0 0 66 [(0, .ref (g.2.1 0)), (1, .int v1), (2, .long v2), (4, .int v4)] [.long r63] S
              refine j_ldc2 F (v := 100000) dX5_runScript_66 tw473 ?_
              refine j_lrem F dX5_runScript_69 (by decide) ?_
              refine j_l2i F dX5_runScript_70 ?_
              refine j_bnd hm (fun v5_71 hm => ?_)
              refine j_istore F (lv' := [(5, .int v5_71), (0, .ref (g.2.1 0)), (1, .int v1), (2, .long v2), (4, .int v4)]) dX5_runScript_71 (by decide) rfl ?_
              refine j_aload_n F 1 dX5_runScript_73 rfl ?_
              refine j_iload F 0 dX5_runScript_74 rfl ?_
              obtain ⟨r76, S76, hc76, hm⟩ := bndE_ok hm
              refine j_callV F (n := 1) (As := [.int v5_71]) (rest := []) (c_X5_runCommand l g hg v5_71 S r76 S76 hc76) gw_X5_248 (by decide +kernel) ⟨Nat.le_of_ble_eq_true rfl, Nat.le_of_ble_eq_true rfl⟩ ⟨Nat.le_of_ble_eq_true rfl, Nat.le_of_ble_eq_true rfl⟩ rfl rfl rfl rfl (Nat.le_of_ble_eq_true rfl) dX5_runScript_76 ?_
              show J p l e rxX5_runScript s m args below meth c g A 6 (vx_MQ below QF (XQ g A n S') args s 1 6 A) 0 0 79 [(5, .int v5_71), (0, .ref (g.2.1 0)), (1, .int v1), (2, .long v2), (4, .int v4)] [.int r76] S76
              refine j_if_ne F (tgt := 85) dX5_runScript_79 (by decide) hm (fun _ hm => ?_) (fun _ hm => ?_)
              · refine j_iinc F (v := v4 + 1) (lv' := [(4, .int (v4 + 1)), (5, .int v5_71), (0, .ref (g.2.1 0)), (1, .int v1), (2, .long v2)]) 4 dX5_runScript_85 rfl rfl (by decide) rfl ?_
                refine j_goto F (tgt := 50) dX5_runScript_88 (by decide) ?_
                cases hm
                refine j_sub [2, 3, 4, 0] rfl ?_
                exact hk1
              · refine j_iload F 4 dX5_runScript_82 rfl ?_
                cases hm
                have hr1 : some _ = some ((.inr n, S') : (Int32 ⊕ Nat) × Hs) := hk1
                cases hr1
          · cases e50 with
            | inl y50 =>
              dsimp only [Sum.elim_inl] at hm
              show J p l e rxX5_runScript s m args below meth c g A 6 (vx_MQ below QF (XQ g A n S') args s 1 6 A) 0 0 91 [] [] y50
              refine j_bipush F (v := -9) dX5_runScript_91 (by decide) ?_
              cases hm
            | inr q =>
              exact hm
        · refine j_sub [] rfl ?_
          exact hj26 S  hm
def m_X5_simulate_J11 (S : Hs) : Option ((Int32 ⊕ Nat) × Hs) := some ((.inr 1, S))
def m_X5_simulate_J75 (v3 : Int32) (v4 : Int32) (v5 : Int64) (v7 : Int32) (S : Hs) : Option ((Int32 × Int64 × Int32 × Hs) ⊕ (Int32 × Hs)) := some (.inl ((v4, v5, v7 + 1, S)))
noncomputable def m_X5_simulate_L41 (v3 : Int32) (v4 : Int32) (v5 : Int64) (v7 : Int32) (S : Hs) : Option ((Int32 × Int64 × Int32 × Hs) ⊕ (Int32 × Hs)) := if v3 ≤ v7 then (some (.inr ((v4, S)))) else (bnd ((v5 * 6364136223846793005) + 1442695040888963407) fun v5_57 => (bndE (m_X5_tryByChance ((lushr v5_57 33).toInt32) S) fun r66 S66 => (if r66 = 0 then (m_X5_simulate_J75 v3 v4 v5_57 v7 S66) else (m_X5_simulate_J75 v3 (v4 + 1) v5_57 v7 S66))))
noncomputable def m_X5_simulate (v1 : Int64) (v3 : Int32) (S : Hs) : Option ((Int32 ⊕ Nat) × Hs) := if v3 < 1 then (m_X5_simulate_J11 S) else (if v3 ≤ 99 then ((m_X3_copyFrom 63 29 S).bind fun S29 => ((loopO (fun x => m_X5_simulate_L41 v3 x.1 x.2.1 x.2.2.1 x.2.2.2) ((0, v1, 0, S29))).bind fun y41 => (m_X3_countRights 63 y41.2).bind fun r90 => (some ((.inl ((100 * y41.1) + r90), y41.2))))) else (m_X5_simulate_J11 S))
set_option maxRecDepth 100000 in
set_option maxHeartbeats 4000000 in
theorem c_X5_simulate (l : Launch) (g : GG) (hg : Inj g) (v1 : Int64) (v3 : Int32)  (S : Hs) (r : Int32) (S' : Hs) (hm : m_X5_simulate v1 v3 S = some ((.inl r, S'))) : CM l yX5_simulate [.code yX5_simulate cX5_simulate 8 (some .int)] rmX5_simulate [.ref (g.2.1 0), .long v1, .int v3] g S (some (.int r)) S' := by
  unfold m_X5_simulate at hm
  refine CM.of (cc := cX5_simulate) (nL := 8) (ret := (some .int)) (lv := [(0, .ref (g.2.1 0)), (1, .long v1), (3, .int v3)]) (by decide +kernel) hg (Nat.le_of_ble_eq_true rfl) rfl (fun p e s m args below meth c A F => ?_)
  replace F : Fx p s m meth c cX5_simulate RX5 8 (some .int) g A := F
  show J p l e rmX5_simulate s m args below meth c g A 8 (MQ below (QC g A (some (.int r)) S') args s 0 0 A) 0 0 0 [(0, .ref (g.2.1 0)), (1, .long v1), (3, .int v3)] [] S
  have hj11 : ∀ (S : Hs), m_X5_simulate_J11 S = some ((.inl r, S')) → J p l e rmX5_simulate s m args below meth c g A 8 (MQ below (QC g A (some (.int r)) S') args s 0 0 A) 0 0 11 [] [] S := by
    intro S hm
    unfold m_X5_simulate_J11 at hm
    cases hm
  refine j_iload_n F 2 dX5_simulate_0 rfl ?_
  refine j_iconst F (v := 1) dX5_simulate_1 (by decide) ?_
  refine j_icmp_lt F (tgt := 11) dX5_simulate_2 (by decide) hm (fun _ hm => ?_) (fun _ hm => ?_)
  · refine j_sub [] rfl ?_
    exact hj11 S  hm
  · refine j_iload_n F 2 dX5_simulate_5 rfl ?_
    refine j_bipush F (v := 99) dX5_simulate_6 (by decide) ?_
    refine j_icmp_le F (tgt := 21) dX5_simulate_8 (by decide) hm (fun _ hm => ?_) (fun _ hm => ?_)
    · refine j_aload_n F 0 dX5_simulate_21 rfl ?_
      refine j_getR F (k0 := 6) (C := RX5) (T := TX5) (N := 11) rfl rfl rfl inF5 (by decide) tw320 dX5_simulate_22 ?_
      refine j_aload_n F 0 dX5_simulate_25 rfl ?_
      refine j_getR F (k0 := 1) (C := RX5) (T := TX5) (N := 11) rfl rfl rfl inF5 (by decide) tw316 dX5_simulate_26 ?_
      obtain ⟨S29, hc29, hm⟩ := Option.bind_eq_some_iff.mp hm
      refine j_callV F (n := 1) (As := [.ref (g.2.1 29)]) (rest := []) (c_X3_copyFrom l g hg 63 29 (by decide) (by decide) S S29 hc29) gw_X5_87 (by decide +kernel) ⟨Nat.le_of_ble_eq_true rfl, Nat.le_of_ble_eq_true rfl⟩ ⟨Nat.le_of_ble_eq_true rfl, Nat.le_of_ble_eq_true rfl⟩ (isSt_lay (i := 63) (by decide)).1 rfl rfl rfl (Nat.le_of_ble_eq_true rfl) dX5_simulate_29 ?_
      show J p l e rmX5_simulate s m args below meth c g A 8 (MQ below (QC g A (some (.int r)) S') args s 0 0 A) 0 0 32 [(0, .ref (g.2.1 0)), (1, .long v1), (3, .int v3)] [] S29
      refine j_iconst F (v := 0) dX5_simulate_32 (by decide) ?_
      refine j_istore F (lv' := [(4, .int 0), (0, .ref (g.2.1 0)), (1, .long v1), (3, .int v3)]) dX5_simulate_33 (by decide) rfl ?_
      refine j_lload_n F 2 dX5_simulate_35 rfl ?_
      refine j_lstore F (lv' := [(5, .long v1), (4, .int 0), (0, .ref (g.2.1 0)), (1, .long v1), (3, .int v3)]) dX5_simulate_36 (by decide) rfl ?_
      refine j_iconst F (v := 0) dX5_simulate_38 (by decide) ?_
      refine j_istore F (lv' := [(7, .int 0), (5, .long v1), (4, .int 0), (0, .ref (g.2.1 0)), (1, .long v1), (3, .int v3)]) dX5_simulate_39 (by decide) rfl ?_
      refine j_sub [3, 5, 2, 1, 0] rfl ?_
      obtain ⟨y41, hlp41, hm⟩ := Option.bind_eq_some_iff.mp hm
      refine loopO_walk (fun x => m_X5_simulate_L41 v3 x.1 x.2.1 x.2.2.1 x.2.2.2) (fun x => J p l e rmX5_simulate s m args below meth c g A 8 (MQ below (QC g A (some (.int r)) S') args s 0 0 A) 0 0 41 [(0, .ref (g.2.1 0)), (3, .int v3), (4, .int x.1), (5, .long x.2.1), (7, .int x.2.2.1)] [] x.2.2.2) (fun x => J p l e rmX5_simulate s m args below meth c g A 8 (MQ below (QC g A (some (.int r)) S') args s 0 0 A) 0 0 81 [(0, .ref (g.2.1 0)), (4, .int x.1)] [] x.2) (fun x o1 hm hk1 => ?_) hlp41 ?_
      · obtain ⟨v4, v5, v7, S⟩ := x
        replace hm : m_X5_simulate_L41 v3 v4 v5 v7 S = some o1 := hm
        show J p l e rmX5_simulate s m args below meth c g A 8 (MQ below (QC g A (some (.int r)) S') args s 0 0 A) 0 0 41 [(0, .ref (g.2.1 0)), (3, .int v3), (4, .int v4), (5, .long v5), (7, .int v7)] [] S
        unfold m_X5_simulate_L41 at hm
        have hj75 : ∀ (v4 : Int32) (v5 : Int64) (v7 : Int32) (S : Hs), m_X5_simulate_J75 v3 v4 v5 v7 S = some o1 → J p l e rmX5_simulate s m args below meth c g A 8 (MQ below (QC g A (some (.int r)) S') args s 0 0 A) 0 0 75 [(0, .ref (g.2.1 0)), (3, .int v3), (4, .int v4), (5, .long v5), (7, .int v7)] [] S := by
          intro v4 v5 v7 S hm
          unfold m_X5_simulate_J75 at hm
          refine j_iinc F (v := v7 + 1) (lv' := [(7, .int (v7 + 1)), (0, .ref (g.2.1 0)), (3, .int v3), (4, .int v4), (5, .long v5)]) 4 dX5_simulate_75 rfl rfl (by decide) rfl ?_
          refine j_goto F (tgt := 41) dX5_simulate_78 (by decide) ?_
          cases hm
          refine j_sub [1, 2, 3, 4, 0] rfl ?_
          exact hk1
        refine j_iload F 4 dX5_simulate_41 rfl ?_
        refine j_iload_n F 1 dX5_simulate_43 rfl ?_
        refine j_icmp_ge F (tgt := 81) dX5_simulate_44 (by decide) hm (fun _ hm => ?_) (fun _ hm => ?_)
        · cases hm
          refine j_sub [0, 2] rfl ?_
          exact hk1
        · refine j_lload F 3 dX5_simulate_47 rfl ?_
          refine j_ldc2 F (v := 6364136223846793005) dX5_simulate_49 tw508 ?_
          refine j_lmul F dX5_simulate_52 ?_
          refine j_ldc2 F (v := 1442695040888963407) dX5_simulate_53 tw509 ?_
          refine j_ladd F dX5_simulate_56 ?_
          refine j_bndl hm (fun v5_57 hm => ?_)
          refine j_lstore F (lv' := [(5, .long v5_57), (0, .ref (g.2.1 0)), (3, .int v3), (4, .int v4), (7, .int v7)]) dX5_simulate_57 (by decide) rfl ?_
          refine j_aload_n F 1 dX5_simulate_59 rfl ?_
          refine j_lload F 0 dX5_simulate_60 rfl ?_
          refine j_bipush F (v := 33) dX5_simulate_62 (by decide) ?_
          refine j_lushr F dX5_simulate_64 ?_
          refine j_l2i F dX5_simulate_65 ?_
          obtain ⟨r66, S66, hc66, hm⟩ := bndE_ok hm
          refine j_callV F (n := 1) (As := [.int ((lushr v5_57 33).toInt32)]) (rest := []) (c_X5_tryByChance l g hg ((lushr v5_57 33).toInt32) S r66 S66 hc66) gw_X5_257 (by decide +kernel) ⟨Nat.le_of_ble_eq_true rfl, Nat.le_of_ble_eq_true rfl⟩ ⟨Nat.le_of_ble_eq_true rfl, Nat.le_of_ble_eq_true rfl⟩ rfl rfl rfl rfl (Nat.le_of_ble_eq_true rfl) dX5_simulate_66 ?_
          show J p l e rmX5_simulate s m args below meth c g A 8 (MQ below (QC g A (some (.int r)) S') args s 0 0 A) 0 0 69 [(5, .long v5_57), (0, .ref (g.2.1 0)), (3, .int v3), (4, .int v4), (7, .int v7)] [.int r66] S66
          refine j_if_eq F (tgt := 75) dX5_simulate_69 (by decide) hm (fun _ hm => ?_) (fun _ hm => ?_)
          · refine j_sub [1, 2, 3, 0, 4] rfl ?_
            exact hj75 v4 v5_57 v7 S66  hm
          · refine j_iinc F (v := v4 + 1) (lv' := [(4, .int (v4 + 1)), (5, .long v5_57), (0, .ref (g.2.1 0)), (3, .int v3), (7, .int v7)]) 3 dX5_simulate_72 rfl rfl (by decide) rfl ?_
            refine j_sub [2, 3, 0, 1, 4] rfl ?_
            exact hj75 (v4 + 1) v5_57 v7 S66  hm
      · show J p l e rmX5_simulate s m args below meth c g A 8 (MQ below (QC g A (some (.int r)) S') args s 0 0 A) 0 0 81 [(0, .ref (g.2.1 0)), (4, .int y41.1)] [] y41.2
        refine j_bipush F (v := 100) dX5_simulate_81 (by decide) ?_
        refine j_iload F 1 dX5_simulate_83 rfl ?_
        refine j_imul F dX5_simulate_85 ?_
        refine j_aload_n F 0 dX5_simulate_86 rfl ?_
        refine j_getR F (k0 := 6) (C := RX5) (T := TX5) (N := 11) rfl rfl rfl inF5 (by decide) tw320 dX5_simulate_87 ?_
        obtain ⟨r90, hc90, hm⟩ := Option.bind_eq_some_iff.mp hm
        refine j_callV F (n := 0) (As := []) (rest := [.int (100 * y41.1)]) (c_X3_countRights l g hg 63 (by decide) y41.2 r90 hc90) gw_X5_109 (by decide +kernel) ⟨Nat.le_of_ble_eq_true rfl, Nat.le_of_ble_eq_true rfl⟩ ⟨Nat.le_of_ble_eq_true rfl, Nat.le_of_ble_eq_true rfl⟩ (isSt_lay (i := 63) (by decide)).1 rfl rfl rfl (Nat.le_of_ble_eq_true rfl) dX5_simulate_90 ?_
        show J p l e rmX5_simulate s m args below meth c g A 8 (MQ below (QC g A (some (.int r)) S') args s 0 0 A) 0 0 93 [(0, .ref (g.2.1 0)), (4, .int y41.1)] [.int r90, .int (100 * y41.1)] y41.2
        refine j_iadd F dX5_simulate_93 ?_
        exact j_iret_e F rfl dX5_simulate_94 (inl_e hm)
    · refine j_sub [] rfl ?_
      exact hj11 S  hm
set_option maxRecDepth 100000 in
set_option maxHeartbeats 4000000 in
theorem x_X5_simulate (l : Launch) (hst : l.stackTraces = false) (g : GG) (hg : Inj g) (v1 : Int64) (v3 : Int32)  (S : Hs) (n : Nat) (S' : Hs) (hm : m_X5_simulate v1 v3 S = some ((.inr n, S'))) : CX l yX5_simulate [.code yX5_simulate cX5_simulate 8 (some .int)] rxX5_simulate [.ref (g.2.1 0), .long v1, .int v3] g S n S' := by
  unfold m_X5_simulate at hm
  refine CX.of (cc := cX5_simulate) (nL := 8) (ret := (some .int)) (lv := [(0, .ref (g.2.1 0)), (1, .long v1), (3, .int v3)]) (by decide +kernel) hg (Nat.le_of_ble_eq_true rfl) rfl rfl rfl hst (fun p e s m args below meth c A F FS => ?_)
  replace F : Fx p s m meth c cX5_simulate RX5 8 (some .int) g A := F
  replace FS : FX9 l s c A := FS
  show J p l e rxX5_simulate s m args below meth c g A 8 (vx_MQ below QF (XQ g A n S') args s 1 6 A) 0 0 0 [(0, .ref (g.2.1 0)), (1, .long v1), (3, .int v3)] [] S
  have hj11 : ∀ (S : Hs), m_X5_simulate_J11 S = some ((.inr n, S')) → J p l e rxX5_simulate s m args below meth c g A 8 (vx_MQ below QF (XQ g A n S') args s 1 6 A) 0 0 11 [] [] S := by
    intro S hm
    unfold m_X5_simulate_J11 at hm
    cases hm
    exact j_throw F FS 10 ex1 rfl rfl dX5_simulate_11 dX5_simulate_14 dX5_simulate_15 dX5_simulate_17 dX5_simulate_20 ⟨Nat.le_of_ble_eq_true rfl, Nat.le_of_ble_eq_true rfl⟩ ⟨Nat.le_of_ble_eq_true rfl, Nat.le_of_ble_eq_true rfl⟩
  refine j_iload_n F 2 dX5_simulate_0 rfl ?_
  refine j_iconst F (v := 1) dX5_simulate_1 (by decide) ?_
  refine j_icmp_lt F (tgt := 11) dX5_simulate_2 (by decide) hm (fun _ hm => ?_) (fun _ hm => ?_)
  · refine j_sub [] rfl ?_
    exact hj11 S  hm
  · refine j_iload_n F 2 dX5_simulate_5 rfl ?_
    refine j_bipush F (v := 99) dX5_simulate_6 (by decide) ?_
    refine j_icmp_le F (tgt := 21) dX5_simulate_8 (by decide) hm (fun _ hm => ?_) (fun _ hm => ?_)
    · refine j_aload_n F 0 dX5_simulate_21 rfl ?_
      refine j_getR F (k0 := 6) (C := RX5) (T := TX5) (N := 11) rfl rfl rfl inF5 (by decide) tw320 dX5_simulate_22 ?_
      refine j_aload_n F 0 dX5_simulate_25 rfl ?_
      refine j_getR F (k0 := 1) (C := RX5) (T := TX5) (N := 11) rfl rfl rfl inF5 (by decide) tw316 dX5_simulate_26 ?_
      obtain ⟨S29, hc29, hm⟩ := Option.bind_eq_some_iff.mp hm
      refine j_callV F (n := 1) (As := [.ref (g.2.1 29)]) (rest := []) (c_X3_copyFrom l g hg 63 29 (by decide) (by decide) S S29 hc29) gw_X5_87 (by decide +kernel) ⟨Nat.le_of_ble_eq_true rfl, Nat.le_of_ble_eq_true rfl⟩ ⟨Nat.le_of_ble_eq_true rfl, Nat.le_of_ble_eq_true rfl⟩ (isSt_lay (i := 63) (by decide)).1 rfl rfl rfl (Nat.le_of_ble_eq_true rfl) dX5_simulate_29 ?_
      show J p l e rxX5_simulate s m args below meth c g A 8 (vx_MQ below QF (XQ g A n S') args s 1 6 A) 0 0 32 [(0, .ref (g.2.1 0)), (1, .long v1), (3, .int v3)] [] S29
      refine j_iconst F (v := 0) dX5_simulate_32 (by decide) ?_
      refine j_istore F (lv' := [(4, .int 0), (0, .ref (g.2.1 0)), (1, .long v1), (3, .int v3)]) dX5_simulate_33 (by decide) rfl ?_
      refine j_lload_n F 2 dX5_simulate_35 rfl ?_
      refine j_lstore F (lv' := [(5, .long v1), (4, .int 0), (0, .ref (g.2.1 0)), (1, .long v1), (3, .int v3)]) dX5_simulate_36 (by decide) rfl ?_
      refine j_iconst F (v := 0) dX5_simulate_38 (by decide) ?_
      refine j_istore F (lv' := [(7, .int 0), (5, .long v1), (4, .int 0), (0, .ref (g.2.1 0)), (1, .long v1), (3, .int v3)]) dX5_simulate_39 (by decide) rfl ?_
      refine j_sub [3, 5, 2, 1, 0] rfl ?_
      obtain ⟨y41, hlp41, hm⟩ := Option.bind_eq_some_iff.mp hm
      refine loopO_walk (fun x => m_X5_simulate_L41 v3 x.1 x.2.1 x.2.2.1 x.2.2.2) (fun x => J p l e rxX5_simulate s m args below meth c g A 8 (vx_MQ below QF (XQ g A n S') args s 1 6 A) 0 0 41 [(0, .ref (g.2.1 0)), (3, .int v3), (4, .int x.1), (5, .long x.2.1), (7, .int x.2.2.1)] [] x.2.2.2) (fun x => J p l e rxX5_simulate s m args below meth c g A 8 (vx_MQ below QF (XQ g A n S') args s 1 6 A) 0 0 81 [(0, .ref (g.2.1 0)), (4, .int x.1)] [] x.2) (fun x o1 hm hk1 => ?_) hlp41 ?_
      · obtain ⟨v4, v5, v7, S⟩ := x
        replace hm : m_X5_simulate_L41 v3 v4 v5 v7 S = some o1 := hm
        show J p l e rxX5_simulate s m args below meth c g A 8 (vx_MQ below QF (XQ g A n S') args s 1 6 A) 0 0 41 [(0, .ref (g.2.1 0)), (3, .int v3), (4, .int v4), (5, .long v5), (7, .int v7)] [] S
        unfold m_X5_simulate_L41 at hm
        have hj75 : ∀ (v4 : Int32) (v5 : Int64) (v7 : Int32) (S : Hs), m_X5_simulate_J75 v3 v4 v5 v7 S = some o1 → J p l e rxX5_simulate s m args below meth c g A 8 (vx_MQ below QF (XQ g A n S') args s 1 6 A) 0 0 75 [(0, .ref (g.2.1 0)), (3, .int v3), (4, .int v4), (5, .long v5), (7, .int v7)] [] S := by
          intro v4 v5 v7 S hm
          unfold m_X5_simulate_J75 at hm
          refine j_iinc F (v := v7 + 1) (lv' := [(7, .int (v7 + 1)), (0, .ref (g.2.1 0)), (3, .int v3), (4, .int v4), (5, .long v5)]) 4 dX5_simulate_75 rfl rfl (by decide) rfl ?_
          refine j_goto F (tgt := 41) dX5_simulate_78 (by decide) ?_
          cases hm
          refine j_sub [1, 2, 3, 4, 0] rfl ?_
          exact hk1
        refine j_iload F 4 dX5_simulate_41 rfl ?_
        refine j_iload_n F 1 dX5_simulate_43 rfl ?_
        refine j_icmp_ge F (tgt := 81) dX5_simulate_44 (by decide) hm (fun _ hm => ?_) (fun _ hm => ?_)
        · cases hm
          refine j_sub [0, 2] rfl ?_
          exact hk1
        · refine j_lload F 3 dX5_simulate_47 rfl ?_
          refine j_ldc2 F (v := 6364136223846793005) dX5_simulate_49 tw508 ?_
          refine j_lmul F dX5_simulate_52 ?_
          refine j_ldc2 F (v := 1442695040888963407) dX5_simulate_53 tw509 ?_
          refine j_ladd F dX5_simulate_56 ?_
          refine j_bndl hm (fun v5_57 hm => ?_)
          refine j_lstore F (lv' := [(5, .long v5_57), (0, .ref (g.2.1 0)), (3, .int v3), (4, .int v4), (7, .int v7)]) dX5_simulate_57 (by decide) rfl ?_
          refine j_aload_n F 1 dX5_simulate_59 rfl ?_
          refine j_lload F 0 dX5_simulate_60 rfl ?_
          refine j_bipush F (v := 33) dX5_simulate_62 (by decide) ?_
          refine j_lushr F dX5_simulate_64 ?_
          refine j_l2i F dX5_simulate_65 ?_
          obtain ⟨r66, S66, hc66, hm⟩ := bndE_ok hm
          refine j_callV F (n := 1) (As := [.int ((lushr v5_57 33).toInt32)]) (rest := []) (c_X5_tryByChance l g hg ((lushr v5_57 33).toInt32) S r66 S66 hc66) gw_X5_257 (by decide +kernel) ⟨Nat.le_of_ble_eq_true rfl, Nat.le_of_ble_eq_true rfl⟩ ⟨Nat.le_of_ble_eq_true rfl, Nat.le_of_ble_eq_true rfl⟩ rfl rfl rfl rfl (Nat.le_of_ble_eq_true rfl) dX5_simulate_66 ?_
          show J p l e rxX5_simulate s m args below meth c g A 8 (vx_MQ below QF (XQ g A n S') args s 1 6 A) 0 0 69 [(5, .long v5_57), (0, .ref (g.2.1 0)), (3, .int v3), (4, .int v4), (7, .int v7)] [.int r66] S66
          refine j_if_eq F (tgt := 75) dX5_simulate_69 (by decide) hm (fun _ hm => ?_) (fun _ hm => ?_)
          · refine j_sub [1, 2, 3, 0, 4] rfl ?_
            exact hj75 v4 v5_57 v7 S66  hm
          · refine j_iinc F (v := v4 + 1) (lv' := [(4, .int (v4 + 1)), (5, .long v5_57), (0, .ref (g.2.1 0)), (3, .int v3), (7, .int v7)]) 3 dX5_simulate_72 rfl rfl (by decide) rfl ?_
            refine j_sub [2, 3, 0, 1, 4] rfl ?_
            exact hj75 (v4 + 1) v5_57 v7 S66  hm
      · show J p l e rxX5_simulate s m args below meth c g A 8 (vx_MQ below QF (XQ g A n S') args s 1 6 A) 0 0 81 [(0, .ref (g.2.1 0)), (4, .int y41.1)] [] y41.2
        refine j_bipush F (v := 100) dX5_simulate_81 (by decide) ?_
        refine j_iload F 1 dX5_simulate_83 rfl ?_
        refine j_imul F dX5_simulate_85 ?_
        refine j_aload_n F 0 dX5_simulate_86 rfl ?_
        refine j_getR F (k0 := 6) (C := RX5) (T := TX5) (N := 11) rfl rfl rfl inF5 (by decide) tw320 dX5_simulate_87 ?_
        obtain ⟨r90, hc90, hm⟩ := Option.bind_eq_some_iff.mp hm
        refine j_callV F (n := 0) (As := []) (rest := [.int (100 * y41.1)]) (c_X3_countRights l g hg 63 (by decide) y41.2 r90 hc90) gw_X5_109 (by decide +kernel) ⟨Nat.le_of_ble_eq_true rfl, Nat.le_of_ble_eq_true rfl⟩ ⟨Nat.le_of_ble_eq_true rfl, Nat.le_of_ble_eq_true rfl⟩ (isSt_lay (i := 63) (by decide)).1 rfl rfl rfl (Nat.le_of_ble_eq_true rfl) dX5_simulate_90 ?_
        show J p l e rxX5_simulate s m args below meth c g A 8 (vx_MQ below QF (XQ g A n S') args s 1 6 A) 0 0 93 [(0, .ref (g.2.1 0)), (4, .int y41.1)] [.int r90, .int (100 * y41.1)] y41.2
        refine j_iadd F dX5_simulate_93 ?_
        cases hm
    · refine j_sub [] rfl ?_
      exact hj11 S  hm
def m_X5_checkSlot_J9  : Option (Unit ⊕ Nat) := some (.inr 3)
def m_X5_checkSlot (v0 : Int32) : Option (Unit ⊕ Nat) := if v0 < 0 then (m_X5_checkSlot_J9) else (if v0 < 2 then (some (.inl ())) else (m_X5_checkSlot_J9))
set_option maxRecDepth 100000 in
set_option maxHeartbeats 4000000 in
theorem c_X5_checkSlot (l : Launch) (g : GG) (hg : Inj g) (v0 : Int32)  (S : Hs)  (hm : m_X5_checkSlot v0 = some (.inl ())) : CM l yX5_checkSlot [.code yX5_checkSlot cX5_checkSlot 1 none] rmX5_checkSlot [.int v0] g S none S := by
  unfold m_X5_checkSlot at hm
  refine CM.of (cc := cX5_checkSlot) (nL := 1) (ret := none) (lv := [(0, .int v0)]) (by decide +kernel) hg (Nat.le_of_ble_eq_true rfl) rfl (fun p e s m args below meth c A F => ?_)
  replace F : Fx p s m meth c cX5_checkSlot RX5 1 none g A := F
  show J p l e rmX5_checkSlot s m args below meth c g A 1 (MQ below (QC g A none S) args s 0 0 A) 0 0 0 [(0, .int v0)] [] S
  have hj9 : m_X5_checkSlot_J9 = some (.inl ()) → J p l e rmX5_checkSlot s m args below meth c g A 1 (MQ below (QC g A none S) args s 0 0 A) 0 0 9 [] [] S := by
    intro  hm
    unfold m_X5_checkSlot_J9 at hm
    cases hm
  refine j_iload_n F 0 dX5_checkSlot_0 rfl ?_
  refine j_if_lt F (tgt := 9) dX5_checkSlot_1 (by decide) hm (fun _ hm => ?_) (fun _ hm => ?_)
  · refine j_sub [] rfl ?_
    exact hj9   hm
  · refine j_iload_n F 0 dX5_checkSlot_4 rfl ?_
    refine j_iconst F (v := 2) dX5_checkSlot_5 (by decide) ?_
    refine j_icmp_lt F (tgt := 20) dX5_checkSlot_6 (by decide) hm (fun _ hm => ?_) (fun _ hm => ?_)
    · exact j_vret_e F rfl dX5_checkSlot_20 rfl
    · refine j_sub [] rfl ?_
      exact hj9   hm
set_option maxRecDepth 100000 in
set_option maxHeartbeats 4000000 in
theorem x_X5_checkSlot (l : Launch) (hst : l.stackTraces = false) (g : GG) (hg : Inj g) (v0 : Int32)  (S : Hs) (n : Nat) (hm : m_X5_checkSlot v0 = some (.inr n)) : CX l yX5_checkSlot [.code yX5_checkSlot cX5_checkSlot 1 none] rxX5_checkSlot [.int v0] g S n S := by
  unfold m_X5_checkSlot at hm
  refine CX.of (cc := cX5_checkSlot) (nL := 1) (ret := none) (lv := [(0, .int v0)]) (by decide +kernel) hg (Nat.le_of_ble_eq_true rfl) rfl rfl rfl hst (fun p e s m args below meth c A F FS => ?_)
  replace F : Fx p s m meth c cX5_checkSlot RX5 1 none g A := F
  replace FS : FX9 l s c A := FS
  show J p l e rxX5_checkSlot s m args below meth c g A 1 (vx_MQ below QF (XQ g A n S) args s 1 6 A) 0 0 0 [(0, .int v0)] [] S
  have hj9 : m_X5_checkSlot_J9 = some (.inr n) → J p l e rxX5_checkSlot s m args below meth c g A 1 (vx_MQ below QF (XQ g A n S) args s 1 6 A) 0 0 9 [] [] S := by
    intro  hm
    unfold m_X5_checkSlot_J9 at hm
    cases hm
    exact j_throwW F FS 15 ex3 rfl rfl dX5_checkSlot_9 dX5_checkSlot_12 dX5_checkSlot_13 dX5_checkSlot_16 dX5_checkSlot_19 ⟨Nat.le_of_ble_eq_true rfl, Nat.le_of_ble_eq_true rfl⟩ ⟨Nat.le_of_ble_eq_true rfl, Nat.le_of_ble_eq_true rfl⟩
  refine j_iload_n F 0 dX5_checkSlot_0 rfl ?_
  refine j_if_lt F (tgt := 9) dX5_checkSlot_1 (by decide) hm (fun _ hm => ?_) (fun _ hm => ?_)
  · refine j_sub [] rfl ?_
    exact hj9   hm
  · refine j_iload_n F 0 dX5_checkSlot_4 rfl ?_
    refine j_iconst F (v := 2) dX5_checkSlot_5 (by decide) ?_
    refine j_icmp_lt F (tgt := 20) dX5_checkSlot_6 (by decide) hm (fun _ hm => ?_) (fun _ hm => ?_)
    · cases hm
    · refine j_sub [] rfl ?_
      exact hj9   hm
noncomputable def m_X5_save (v1 : Int32) (S : Hs) : Option ((Int32 ⊕ Nat) × Hs) := bndP (m_X5_checkSlot v1) (fun r1 => (gd (inb v1 2) (bnd (gQ S 4 v1.toNatClampNeg) fun q9 => gd (isSt q9) ((m_X3_copyFrom q9 29 S).bind fun S14 => (gd (inb v1 2) (bnd (sA S14 5 v1.toNatClampNeg (vp_nar .boolean 1)) fun S23 => ((m_X3_countRights 29 S23).bind fun r28 => (some ((.inl r28, S23)))))))))) (fun q => some ((.inr q, S)))
set_option maxRecDepth 100000 in
set_option maxHeartbeats 4000000 in
theorem c_X5_save (l : Launch) (g : GG) (hg : Inj g) (v1 : Int32)  (S : Hs) (r : Int32) (S' : Hs) (hm : m_X5_save v1 S = some ((.inl r, S'))) : CM l yX5_save [.code yX5_save cX5_save 2 (some .int)] rmX5_save [.ref (g.2.1 0), .int v1] g S (some (.int r)) S' := by
  unfold m_X5_save at hm
  refine CM.of (cc := cX5_save) (nL := 2) (ret := (some .int)) (lv := [(0, .ref (g.2.1 0)), (1, .int v1)]) (by decide +kernel) hg (Nat.le_of_ble_eq_true rfl) rfl (fun p e s m args below meth c A F => ?_)
  replace F : Fx p s m meth c cX5_save RX5 2 (some .int) g A := F
  show J p l e rmX5_save s m args below meth c g A 2 (MQ below (QC g A (some (.int r)) S') args s 0 0 A) 0 0 0 [(0, .ref (g.2.1 0)), (1, .int v1)] [] S
  refine j_iload_n F 1 dX5_save_0 rfl ?_
  refine bndP_ok hm (fun r1 hc1 hm => ?_) (fun q hc1 hm => ?_)
  · refine j_callS F (n := 1) (As := [.int v1]) (rest := []) (c_X5_checkSlot l g hg v1 S hc1) gw_X5_260 (by decide +kernel) ⟨Nat.le_of_ble_eq_true rfl, Nat.le_of_ble_eq_true rfl⟩ ⟨Nat.le_of_ble_eq_true rfl, Nat.le_of_ble_eq_true rfl⟩ rfl rfl (Nat.le_of_ble_eq_true rfl) dX5_save_1 ?_
    show J p l e rmX5_save s m args below meth c g A 2 (MQ below (QC g A (some (.int r)) S') args s 0 0 A) 0 0 4 [(0, .ref (g.2.1 0)), (1, .int v1)] [] S
    refine j_aload_n F 0 dX5_save_4 rfl ?_
    refine j_getR F (k0 := 4) (C := RX5) (T := TX5) (N := 11) rfl rfl rfl inF5 (by decide) tw318 dX5_save_5 ?_
    refine j_iload_n F 1 dX5_save_8 rfl ?_
    refine j_aald F rfl dX5_save_9 hm (fun hm => ?_)
    refine j_bndr hm (fun q9 hm => ?_)
    obtain ⟨hs_q9, hm⟩ := gd_ok hm
    refine j_aload_n F 0 dX5_save_10 rfl ?_
    refine j_getR F (k0 := 1) (C := RX5) (T := TX5) (N := 11) rfl rfl rfl inF5 (by decide) tw316 dX5_save_11 ?_
    obtain ⟨S14, hc14, hm⟩ := Option.bind_eq_some_iff.mp hm
    refine j_callV F (n := 1) (As := [.ref (g.2.1 29)]) (rest := []) (c_X3_copyFrom l g hg q9 29 hs_q9 (by decide) S S14 hc14) gw_X5_87 (by decide +kernel) ⟨Nat.le_of_ble_eq_true rfl, Nat.le_of_ble_eq_true rfl⟩ ⟨Nat.le_of_ble_eq_true rfl, Nat.le_of_ble_eq_true rfl⟩ (isSt_lay hs_q9).1 rfl rfl rfl (Nat.le_of_ble_eq_true rfl) dX5_save_14 ?_
    show J p l e rmX5_save s m args below meth c g A 2 (MQ below (QC g A (some (.int r)) S') args s 0 0 A) 0 0 17 [(0, .ref (g.2.1 0)), (1, .int v1)] [] S14
    refine j_aload_n F 0 dX5_save_17 rfl ?_
    refine j_getR F (k0 := 5) (C := RX5) (T := TX5) (N := 11) rfl rfl rfl inF5 (by decide) tw319 dX5_save_18 ?_
    refine j_iload_n F 1 dX5_save_21 rfl ?_
    refine j_iconst F (v := 1) dX5_save_22 (by decide) ?_
    refine j_zast F rfl dX5_save_23 hm (fun hm => ?_)
    refine j_bndS hm (fun S23 hm => ?_)
    refine j_aload_n F 0 dX5_save_24 rfl ?_
    refine j_getR F (k0 := 1) (C := RX5) (T := TX5) (N := 11) rfl rfl rfl inF5 (by decide) tw316 dX5_save_25 ?_
    obtain ⟨r28, hc28, hm⟩ := Option.bind_eq_some_iff.mp hm
    refine j_callV F (n := 0) (As := []) (rest := []) (c_X3_countRights l g hg 29 (by decide) S23 r28 hc28) gw_X5_109 (by decide +kernel) ⟨Nat.le_of_ble_eq_true rfl, Nat.le_of_ble_eq_true rfl⟩ ⟨Nat.le_of_ble_eq_true rfl, Nat.le_of_ble_eq_true rfl⟩ (isSt_lay (i := 29) (by decide)).1 rfl rfl rfl (Nat.le_of_ble_eq_true rfl) dX5_save_28 ?_
    show J p l e rmX5_save s m args below meth c g A 2 (MQ below (QC g A (some (.int r)) S') args s 0 0 A) 0 0 31 [(0, .ref (g.2.1 0)), (1, .int v1)] [.int r28] S23
    exact j_iret_e F rfl dX5_save_31 (inl_e hm)
  · cases hm
set_option maxRecDepth 100000 in
set_option maxHeartbeats 4000000 in
theorem x_X5_save (l : Launch) (hst : l.stackTraces = false) (g : GG) (hg : Inj g) (v1 : Int32)  (S : Hs) (n : Nat) (S' : Hs) (hm : m_X5_save v1 S = some ((.inr n, S'))) : CX l yX5_save [.code yX5_save cX5_save 2 (some .int)] rxX5_save [.ref (g.2.1 0), .int v1] g S n S' := by
  unfold m_X5_save at hm
  refine CX.of (cc := cX5_save) (nL := 2) (ret := (some .int)) (lv := [(0, .ref (g.2.1 0)), (1, .int v1)]) (by decide +kernel) hg (Nat.le_of_ble_eq_true rfl) rfl rfl rfl hst (fun p e s m args below meth c A F FS => ?_)
  replace F : Fx p s m meth c cX5_save RX5 2 (some .int) g A := F
  replace FS : FX9 l s c A := FS
  show J p l e rxX5_save s m args below meth c g A 2 (vx_MQ below QF (XQ g A n S') args s 1 6 A) 0 0 0 [(0, .ref (g.2.1 0)), (1, .int v1)] [] S
  refine j_iload_n F 1 dX5_save_0 rfl ?_
  refine bndP_ok hm (fun r1 hc1 hm => ?_) (fun q hc1 hm => ?_)
  · refine j_callS F (n := 1) (As := [.int v1]) (rest := []) (c_X5_checkSlot l g hg v1 S hc1) gw_X5_260 (by decide +kernel) ⟨Nat.le_of_ble_eq_true rfl, Nat.le_of_ble_eq_true rfl⟩ ⟨Nat.le_of_ble_eq_true rfl, Nat.le_of_ble_eq_true rfl⟩ rfl rfl (Nat.le_of_ble_eq_true rfl) dX5_save_1 ?_
    show J p l e rxX5_save s m args below meth c g A 2 (vx_MQ below QF (XQ g A n S') args s 1 6 A) 0 0 4 [(0, .ref (g.2.1 0)), (1, .int v1)] [] S
    refine j_aload_n F 0 dX5_save_4 rfl ?_
    refine j_getR F (k0 := 4) (C := RX5) (T := TX5) (N := 11) rfl rfl rfl inF5 (by decide) tw318 dX5_save_5 ?_
    refine j_iload_n F 1 dX5_save_8 rfl ?_
    refine j_aald F rfl dX5_save_9 hm (fun hm => ?_)
    refine j_bndr hm (fun q9 hm => ?_)
    obtain ⟨hs_q9, hm⟩ := gd_ok hm
    refine j_aload_n F 0 dX5_save_10 rfl ?_
    refine j_getR F (k0 := 1) (C := RX5) (T := TX5) (N := 11) rfl rfl rfl inF5 (by decide) tw316 dX5_save_11 ?_
    obtain ⟨S14, hc14, hm⟩ := Option.bind_eq_some_iff.mp hm
    refine j_callV F (n := 1) (As := [.ref (g.2.1 29)]) (rest := []) (c_X3_copyFrom l g hg q9 29 hs_q9 (by decide) S S14 hc14) gw_X5_87 (by decide +kernel) ⟨Nat.le_of_ble_eq_true rfl, Nat.le_of_ble_eq_true rfl⟩ ⟨Nat.le_of_ble_eq_true rfl, Nat.le_of_ble_eq_true rfl⟩ (isSt_lay hs_q9).1 rfl rfl rfl (Nat.le_of_ble_eq_true rfl) dX5_save_14 ?_
    show J p l e rxX5_save s m args below meth c g A 2 (vx_MQ below QF (XQ g A n S') args s 1 6 A) 0 0 17 [(0, .ref (g.2.1 0)), (1, .int v1)] [] S14
    refine j_aload_n F 0 dX5_save_17 rfl ?_
    refine j_getR F (k0 := 5) (C := RX5) (T := TX5) (N := 11) rfl rfl rfl inF5 (by decide) tw319 dX5_save_18 ?_
    refine j_iload_n F 1 dX5_save_21 rfl ?_
    refine j_iconst F (v := 1) dX5_save_22 (by decide) ?_
    refine j_zast F rfl dX5_save_23 hm (fun hm => ?_)
    refine j_bndS hm (fun S23 hm => ?_)
    refine j_aload_n F 0 dX5_save_24 rfl ?_
    refine j_getR F (k0 := 1) (C := RX5) (T := TX5) (N := 11) rfl rfl rfl inF5 (by decide) tw316 dX5_save_25 ?_
    obtain ⟨r28, hc28, hm⟩ := Option.bind_eq_some_iff.mp hm
    refine j_callV F (n := 0) (As := []) (rest := []) (c_X3_countRights l g hg 29 (by decide) S23 r28 hc28) gw_X5_109 (by decide +kernel) ⟨Nat.le_of_ble_eq_true rfl, Nat.le_of_ble_eq_true rfl⟩ ⟨Nat.le_of_ble_eq_true rfl, Nat.le_of_ble_eq_true rfl⟩ (isSt_lay (i := 29) (by decide)).1 rfl rfl rfl (Nat.le_of_ble_eq_true rfl) dX5_save_28 ?_
    show J p l e rxX5_save s m args below meth c g A 2 (vx_MQ below QF (XQ g A n S') args s 1 6 A) 0 0 31 [(0, .ref (g.2.1 0)), (1, .int v1)] [.int r28] S23
    cases hm
  · cases hm
    exact j_callXS F FS (k := 1) (As := [.int v1]) (rest := []) (x_X5_checkSlot l hst g hg v1 S _ hc1) gw_X5_260 (by decide +kernel) ⟨Nat.le_of_ble_eq_true rfl, Nat.le_of_ble_eq_true rfl⟩ ⟨Nat.le_of_ble_eq_true rfl, Nat.le_of_ble_eq_true rfl⟩ rfl rfl (Nat.le_of_ble_eq_true rfl) dX5_save_1 (Nat.le_refl _) (Nat.le_refl _)
noncomputable def m_X5_restore (v1 : Int32) (S : Hs) : Option ((Int32 ⊕ Nat) × Hs) := bndP (m_X5_checkSlot v1) (fun r1 => (gd (inb v1 2) (if (gA S 5 v1.toNatClampNeg) = 0 then (some ((.inr 2, S))) else (gd (inb v1 2) (bnd (gQ S 4 v1.toNatClampNeg) fun q33 => gd (isSt q33) ((m_X3_copyFrom 29 q33 S).bind fun S34 => (bnd (sI S34 0 3 0) fun S39 => ((m_X3_countRights 29 S39).bind fun r46 => (some ((.inl r46, S39))))))))))) (fun q => some ((.inr q, S)))
set_option maxRecDepth 100000 in
set_option maxHeartbeats 4000000 in
theorem c_X5_restore (l : Launch) (g : GG) (hg : Inj g) (v1 : Int32)  (S : Hs) (r : Int32) (S' : Hs) (hm : m_X5_restore v1 S = some ((.inl r, S'))) : CM l yX5_restore [.code yX5_restore cX5_restore 2 (some .int)] rmX5_restore [.ref (g.2.1 0), .int v1] g S (some (.int r)) S' := by
  unfold m_X5_restore at hm
  refine CM.of (cc := cX5_restore) (nL := 2) (ret := (some .int)) (lv := [(0, .ref (g.2.1 0)), (1, .int v1)]) (by decide +kernel) hg (Nat.le_of_ble_eq_true rfl) rfl (fun p e s m args below meth c A F => ?_)
  replace F : Fx p s m meth c cX5_restore RX5 2 (some .int) g A := F
  show J p l e rmX5_restore s m args below meth c g A 2 (MQ below (QC g A (some (.int r)) S') args s 0 0 A) 0 0 0 [(0, .ref (g.2.1 0)), (1, .int v1)] [] S
  refine j_iload_n F 1 dX5_restore_0 rfl ?_
  refine bndP_ok hm (fun r1 hc1 hm => ?_) (fun q hc1 hm => ?_)
  · refine j_callS F (n := 1) (As := [.int v1]) (rest := []) (c_X5_checkSlot l g hg v1 S hc1) gw_X5_260 (by decide +kernel) ⟨Nat.le_of_ble_eq_true rfl, Nat.le_of_ble_eq_true rfl⟩ ⟨Nat.le_of_ble_eq_true rfl, Nat.le_of_ble_eq_true rfl⟩ rfl rfl (Nat.le_of_ble_eq_true rfl) dX5_restore_1 ?_
    show J p l e rmX5_restore s m args below meth c g A 2 (MQ below (QC g A (some (.int r)) S') args s 0 0 A) 0 0 4 [(0, .ref (g.2.1 0)), (1, .int v1)] [] S
    refine j_aload_n F 0 dX5_restore_4 rfl ?_
    refine j_getR F (k0 := 5) (C := RX5) (T := TX5) (N := 11) rfl rfl rfl inF5 (by decide) tw319 dX5_restore_5 ?_
    refine j_iload_n F 1 dX5_restore_8 rfl ?_
    refine j_zald F rfl dX5_restore_9 hm (fun hm => ?_)
    refine j_if_ne F (tgt := 24) dX5_restore_10 (by decide) hm (fun _ hm => ?_) (fun _ hm => ?_)
    · refine j_aload_n F 0 dX5_restore_24 rfl ?_
      refine j_getR F (k0 := 1) (C := RX5) (T := TX5) (N := 11) rfl rfl rfl inF5 (by decide) tw316 dX5_restore_25 ?_
      refine j_aload_n F 0 dX5_restore_28 rfl ?_
      refine j_getR F (k0 := 4) (C := RX5) (T := TX5) (N := 11) rfl rfl rfl inF5 (by decide) tw318 dX5_restore_29 ?_
      refine j_iload_n F 1 dX5_restore_32 rfl ?_
      refine j_aald F rfl dX5_restore_33 hm (fun hm => ?_)
      refine j_bndr hm (fun q33 hm => ?_)
      obtain ⟨hs_q33, hm⟩ := gd_ok hm
      obtain ⟨S34, hc34, hm⟩ := Option.bind_eq_some_iff.mp hm
      refine j_callV F (n := 1) (As := [.ref (g.2.1 q33)]) (rest := []) (c_X3_copyFrom l g hg 29 q33 (by decide) hs_q33 S S34 hc34) gw_X5_87 (by decide +kernel) ⟨Nat.le_of_ble_eq_true rfl, Nat.le_of_ble_eq_true rfl⟩ ⟨Nat.le_of_ble_eq_true rfl, Nat.le_of_ble_eq_true rfl⟩ (isSt_lay (i := 29) (by decide)).1 rfl rfl rfl (Nat.le_of_ble_eq_true rfl) dX5_restore_34 ?_
      show J p l e rmX5_restore s m args below meth c g A 2 (MQ below (QC g A (some (.int r)) S') args s 0 0 A) 0 0 37 [(0, .ref (g.2.1 0)), (1, .int v1)] [] S34
      refine j_aload_n F 0 dX5_restore_37 rfl ?_
      refine j_iconst F (v := 0) dX5_restore_38 (by decide) ?_
      refine j_putI F (k0 := 3) (C := RX5) (T := TX5) (N := 11) tyX5 tyX5_ok nmX5 rfl rfl rfl inF5 (by decide) tw350 rfl (by decide +kernel) dX5_restore_39 ?_
      refine j_bndS hm (fun S39 hm => ?_)
      refine j_aload_n F 0 dX5_restore_42 rfl ?_
      refine j_getR F (k0 := 1) (C := RX5) (T := TX5) (N := 11) rfl rfl rfl inF5 (by decide) tw316 dX5_restore_43 ?_
      obtain ⟨r46, hc46, hm⟩ := Option.bind_eq_some_iff.mp hm
      refine j_callV F (n := 0) (As := []) (rest := []) (c_X3_countRights l g hg 29 (by decide) S39 r46 hc46) gw_X5_109 (by decide +kernel) ⟨Nat.le_of_ble_eq_true rfl, Nat.le_of_ble_eq_true rfl⟩ ⟨Nat.le_of_ble_eq_true rfl, Nat.le_of_ble_eq_true rfl⟩ (isSt_lay (i := 29) (by decide)).1 rfl rfl rfl (Nat.le_of_ble_eq_true rfl) dX5_restore_46 ?_
      show J p l e rmX5_restore s m args below meth c g A 2 (MQ below (QC g A (some (.int r)) S') args s 0 0 A) 0 0 49 [(0, .ref (g.2.1 0)), (1, .int v1)] [.int r46] S39
      exact j_iret_e F rfl dX5_restore_49 (inl_e hm)
    · cases hm
  · cases hm
set_option maxRecDepth 100000 in
set_option maxHeartbeats 4000000 in
theorem x_X5_restore (l : Launch) (hst : l.stackTraces = false) (g : GG) (hg : Inj g) (v1 : Int32)  (S : Hs) (n : Nat) (S' : Hs) (hm : m_X5_restore v1 S = some ((.inr n, S'))) : CX l yX5_restore [.code yX5_restore cX5_restore 2 (some .int)] rxX5_restore [.ref (g.2.1 0), .int v1] g S n S' := by
  unfold m_X5_restore at hm
  refine CX.of (cc := cX5_restore) (nL := 2) (ret := (some .int)) (lv := [(0, .ref (g.2.1 0)), (1, .int v1)]) (by decide +kernel) hg (Nat.le_of_ble_eq_true rfl) rfl rfl rfl hst (fun p e s m args below meth c A F FS => ?_)
  replace F : Fx p s m meth c cX5_restore RX5 2 (some .int) g A := F
  replace FS : FX9 l s c A := FS
  show J p l e rxX5_restore s m args below meth c g A 2 (vx_MQ below QF (XQ g A n S') args s 1 6 A) 0 0 0 [(0, .ref (g.2.1 0)), (1, .int v1)] [] S
  refine j_iload_n F 1 dX5_restore_0 rfl ?_
  refine bndP_ok hm (fun r1 hc1 hm => ?_) (fun q hc1 hm => ?_)
  · refine j_callS F (n := 1) (As := [.int v1]) (rest := []) (c_X5_checkSlot l g hg v1 S hc1) gw_X5_260 (by decide +kernel) ⟨Nat.le_of_ble_eq_true rfl, Nat.le_of_ble_eq_true rfl⟩ ⟨Nat.le_of_ble_eq_true rfl, Nat.le_of_ble_eq_true rfl⟩ rfl rfl (Nat.le_of_ble_eq_true rfl) dX5_restore_1 ?_
    show J p l e rxX5_restore s m args below meth c g A 2 (vx_MQ below QF (XQ g A n S') args s 1 6 A) 0 0 4 [(0, .ref (g.2.1 0)), (1, .int v1)] [] S
    refine j_aload_n F 0 dX5_restore_4 rfl ?_
    refine j_getR F (k0 := 5) (C := RX5) (T := TX5) (N := 11) rfl rfl rfl inF5 (by decide) tw319 dX5_restore_5 ?_
    refine j_iload_n F 1 dX5_restore_8 rfl ?_
    refine j_zald F rfl dX5_restore_9 hm (fun hm => ?_)
    refine j_if_ne F (tgt := 24) dX5_restore_10 (by decide) hm (fun _ hm => ?_) (fun _ hm => ?_)
    · refine j_aload_n F 0 dX5_restore_24 rfl ?_
      refine j_getR F (k0 := 1) (C := RX5) (T := TX5) (N := 11) rfl rfl rfl inF5 (by decide) tw316 dX5_restore_25 ?_
      refine j_aload_n F 0 dX5_restore_28 rfl ?_
      refine j_getR F (k0 := 4) (C := RX5) (T := TX5) (N := 11) rfl rfl rfl inF5 (by decide) tw318 dX5_restore_29 ?_
      refine j_iload_n F 1 dX5_restore_32 rfl ?_
      refine j_aald F rfl dX5_restore_33 hm (fun hm => ?_)
      refine j_bndr hm (fun q33 hm => ?_)
      obtain ⟨hs_q33, hm⟩ := gd_ok hm
      obtain ⟨S34, hc34, hm⟩ := Option.bind_eq_some_iff.mp hm
      refine j_callV F (n := 1) (As := [.ref (g.2.1 q33)]) (rest := []) (c_X3_copyFrom l g hg 29 q33 (by decide) hs_q33 S S34 hc34) gw_X5_87 (by decide +kernel) ⟨Nat.le_of_ble_eq_true rfl, Nat.le_of_ble_eq_true rfl⟩ ⟨Nat.le_of_ble_eq_true rfl, Nat.le_of_ble_eq_true rfl⟩ (isSt_lay (i := 29) (by decide)).1 rfl rfl rfl (Nat.le_of_ble_eq_true rfl) dX5_restore_34 ?_
      show J p l e rxX5_restore s m args below meth c g A 2 (vx_MQ below QF (XQ g A n S') args s 1 6 A) 0 0 37 [(0, .ref (g.2.1 0)), (1, .int v1)] [] S34
      refine j_aload_n F 0 dX5_restore_37 rfl ?_
      refine j_iconst F (v := 0) dX5_restore_38 (by decide) ?_
      refine j_putI F (k0 := 3) (C := RX5) (T := TX5) (N := 11) tyX5 tyX5_ok nmX5 rfl rfl rfl inF5 (by decide) tw350 rfl (by decide +kernel) dX5_restore_39 ?_
      refine j_bndS hm (fun S39 hm => ?_)
      refine j_aload_n F 0 dX5_restore_42 rfl ?_
      refine j_getR F (k0 := 1) (C := RX5) (T := TX5) (N := 11) rfl rfl rfl inF5 (by decide) tw316 dX5_restore_43 ?_
      obtain ⟨r46, hc46, hm⟩ := Option.bind_eq_some_iff.mp hm
      refine j_callV F (n := 0) (As := []) (rest := []) (c_X3_countRights l g hg 29 (by decide) S39 r46 hc46) gw_X5_109 (by decide +kernel) ⟨Nat.le_of_ble_eq_true rfl, Nat.le_of_ble_eq_true rfl⟩ ⟨Nat.le_of_ble_eq_true rfl, Nat.le_of_ble_eq_true rfl⟩ (isSt_lay (i := 29) (by decide)).1 rfl rfl rfl (Nat.le_of_ble_eq_true rfl) dX5_restore_46 ?_
      show J p l e rxX5_restore s m args below meth c g A 2 (vx_MQ below QF (XQ g A n S') args s 1 6 A) 0 0 49 [(0, .ref (g.2.1 0)), (1, .int v1)] [.int r46] S39
      cases hm
    · cases hm
      exact j_throwW F FS 11 ex2 rfl rfl dX5_restore_13 dX5_restore_16 dX5_restore_17 dX5_restore_20 dX5_restore_23 ⟨Nat.le_of_ble_eq_true rfl, Nat.le_of_ble_eq_true rfl⟩ ⟨Nat.le_of_ble_eq_true rfl, Nat.le_of_ble_eq_true rfl⟩
  · cases hm
    exact j_callXS F FS (k := 1) (As := [.int v1]) (rest := []) (x_X5_checkSlot l hst g hg v1 S _ hc1) gw_X5_260 (by decide +kernel) ⟨Nat.le_of_ble_eq_true rfl, Nat.le_of_ble_eq_true rfl⟩ ⟨Nat.le_of_ble_eq_true rfl, Nat.le_of_ble_eq_true rfl⟩ rfl rfl (Nat.le_of_ble_eq_true rfl) dX5_restore_1 (Nat.le_refl _) (Nat.le_refl _)
