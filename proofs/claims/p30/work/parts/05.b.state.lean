def m_J6_bitCount_0f7a4 (v0 : Int32) : Option (Int32) := bnd (v0 - ((iushr v0 1) &&& 1431655765)) fun v0_9 => (bnd ((v0_9 &&& 858993459) + ((iushr v0_9 2) &&& 858993459)) fun v0_23 => (bnd ((v0_23 + (iushr v0_23 4)) &&& 252645135) fun v0_33 => (bnd (v0_33 + (iushr v0_33 8)) fun v0_40 => (bnd (v0_40 + (iushr v0_40 16)) fun v0_47 => (some (v0_47 &&& 63))))))
set_option maxRecDepth 100000 in
set_option maxHeartbeats 4000000 in
theorem c_J6_bitCount_0f7a4 (l : Launch) (g : GG) (hg : Inj g) (v0 : Int32)  (S : Hs) (r : Int32) (hm : m_J6_bitCount_0f7a4 v0 = some r) : CM l yJ6_bitCount_0f7a4 [.code yJ6_bitCount_0f7a4 cJ6_bitCount_0f7a4 1 (some .int)] rmJ6_bitCount_0f7a4 [.int v0] g S (some (.int r)) S := by
  unfold m_J6_bitCount_0f7a4 at hm
  refine CM.of (cc := cJ6_bitCount_0f7a4) (nL := 1) (ret := (some .int)) (lv := [(0, .int v0)]) (by decide +kernel) hg (Nat.le_of_ble_eq_true rfl) rfl (fun p e s m args below meth c A F => ?_)
  replace F : Fx p s m meth c cJ6_bitCount_0f7a4 RJ6 1 (some .int) g A := F
  show J p l e rmJ6_bitCount_0f7a4 s m args below meth c g A 1 (MQ below (QC g A (some (.int r)) S) args s 0 0 A) 0 0 0 [(0, .int v0)] [] S
  refine j_iload_n F 0 dJ6_bitCount_0f7a4_0 rfl ?_
  refine j_iload_n F 0 dJ6_bitCount_0f7a4_1 rfl ?_
  refine j_iconst F (v := 1) dJ6_bitCount_0f7a4_2 (by decide) ?_
  refine j_iushr F dJ6_bitCount_0f7a4_3 ?_
  refine j_ldcw F (v := 1431655765) dJ6_bitCount_0f7a4_4 tw134 ?_
  refine j_iand F dJ6_bitCount_0f7a4_7 ?_
  refine j_isub F dJ6_bitCount_0f7a4_8 ?_
  refine j_bnd hm (fun v0_9 hm => ?_)
  refine j_istore_n F (lv' := [(0, .int v0_9)]) dJ6_bitCount_0f7a4_9 (by decide) rfl ?_
  refine j_iload_n F 0 dJ6_bitCount_0f7a4_10 rfl ?_
  refine j_ldcw F (v := 858993459) dJ6_bitCount_0f7a4_11 tw135 ?_
  refine j_iand F dJ6_bitCount_0f7a4_14 ?_
  refine j_iload_n F 0 dJ6_bitCount_0f7a4_15 rfl ?_
  refine j_iconst F (v := 2) dJ6_bitCount_0f7a4_16 (by decide) ?_
  refine j_iushr F dJ6_bitCount_0f7a4_17 ?_
  refine j_ldcw F (v := 858993459) dJ6_bitCount_0f7a4_18 tw135 ?_
  refine j_iand F dJ6_bitCount_0f7a4_21 ?_
  refine j_iadd F dJ6_bitCount_0f7a4_22 ?_
  refine j_bnd hm (fun v0_23 hm => ?_)
  refine j_istore_n F (lv' := [(0, .int v0_23)]) dJ6_bitCount_0f7a4_23 (by decide) rfl ?_
  refine j_iload_n F 0 dJ6_bitCount_0f7a4_24 rfl ?_
  refine j_iload_n F 0 dJ6_bitCount_0f7a4_25 rfl ?_
  refine j_iconst F (v := 4) dJ6_bitCount_0f7a4_26 (by decide) ?_
  refine j_iushr F dJ6_bitCount_0f7a4_27 ?_
  refine j_iadd F dJ6_bitCount_0f7a4_28 ?_
  refine j_ldcw F (v := 252645135) dJ6_bitCount_0f7a4_29 tw136 ?_
  refine j_iand F dJ6_bitCount_0f7a4_32 ?_
  refine j_bnd hm (fun v0_33 hm => ?_)
  refine j_istore_n F (lv' := [(0, .int v0_33)]) dJ6_bitCount_0f7a4_33 (by decide) rfl ?_
  refine j_iload_n F 0 dJ6_bitCount_0f7a4_34 rfl ?_
  refine j_iload_n F 0 dJ6_bitCount_0f7a4_35 rfl ?_
  refine j_bipush F (v := 8) dJ6_bitCount_0f7a4_36 (by decide) ?_
  refine j_iushr F dJ6_bitCount_0f7a4_38 ?_
  refine j_iadd F dJ6_bitCount_0f7a4_39 ?_
  refine j_bnd hm (fun v0_40 hm => ?_)
  refine j_istore_n F (lv' := [(0, .int v0_40)]) dJ6_bitCount_0f7a4_40 (by decide) rfl ?_
  refine j_iload_n F 0 dJ6_bitCount_0f7a4_41 rfl ?_
  refine j_iload_n F 0 dJ6_bitCount_0f7a4_42 rfl ?_
  refine j_bipush F (v := 16) dJ6_bitCount_0f7a4_43 (by decide) ?_
  refine j_iushr F dJ6_bitCount_0f7a4_45 ?_
  refine j_iadd F dJ6_bitCount_0f7a4_46 ?_
  refine j_bnd hm (fun v0_47 hm => ?_)
  refine j_istore_n F (lv' := [(0, .int v0_47)]) dJ6_bitCount_0f7a4_47 (by decide) rfl ?_
  refine j_iload_n F 0 dJ6_bitCount_0f7a4_48 rfl ?_
  refine j_bipush F (v := 63) dJ6_bitCount_0f7a4_49 (by decide) ?_
  refine j_iand F dJ6_bitCount_0f7a4_51 ?_
  exact j_iret_p F rfl dJ6_bitCount_0f7a4_52 hm
def m_X3_countRights_L4 (v0 : Nat) (S : Hs) (v1 : Int32) (v2 : Int32) : Option ((Int32 × Int32) ⊕ Int32) := if (gI S v0 0) ≤ v2 then (some (.inr v1)) else (gd (inb v2 7) ((m_J6_bitCount_0f7a4 (gA S (v0 + 1) v2.toNatClampNeg)).bind fun r19 => (bnd (v1 + r19) fun v1_23 => (some (.inl ((v1_23, v2 + 1)))))))
noncomputable def m_X3_countRights (v0 : Nat) (S : Hs) : Option (Int32) := (loopO (fun x => m_X3_countRights_L4 v0 S x.1 x.2) ((0, 0))).bind fun y4 => some y4
set_option maxRecDepth 100000 in
set_option maxHeartbeats 4000000 in
theorem c_X3_countRights (l : Launch) (g : GG) (hg : Inj g) (v0 : Nat) (hv0 : isSt v0 = true) (S : Hs) (r : Int32) (hm : m_X3_countRights v0 S = some r) : CM l yX3_countRights [.code yX3_countRights cX3_countRights 3 (some .int)] rmX3_countRights [.ref (g.2.1 v0)] g S (some (.int r)) S := by
  unfold m_X3_countRights at hm
  refine CM.of (cc := cX3_countRights) (nL := 3) (ret := (some .int)) (lv := [(0, .ref (g.2.1 v0))]) (by decide +kernel) hg (Nat.le_of_ble_eq_true rfl) rfl (fun p e s m args below meth c A F => ?_)
  replace F : Fx p s m meth c cX3_countRights RX3 3 (some .int) g A := F
  show J p l e rmX3_countRights s m args below meth c g A 3 (MQ below (QC g A (some (.int r)) S) args s 0 0 A) 0 0 0 [(0, .ref (g.2.1 v0))] [] S
  refine j_iconst F (v := 0) dX3_countRights_0 (by decide) ?_
  refine j_istore_n F (lv' := [(1, .int 0), (0, .ref (g.2.1 v0))]) dX3_countRights_1 (by decide) rfl ?_
  refine j_iconst F (v := 0) dX3_countRights_2 (by decide) ?_
  refine j_istore_n F (lv' := [(2, .int 0), (1, .int 0), (0, .ref (g.2.1 v0))]) dX3_countRights_3 (by decide) rfl ?_
  refine j_sub [2, 1, 0] rfl ?_
  obtain ⟨y4, hlp4, hm⟩ := Option.bind_eq_some_iff.mp hm
  refine loopO_walk (fun x => m_X3_countRights_L4 v0 S x.1 x.2) (fun x => J p l e rmX3_countRights s m args below meth c g A 3 (MQ below (QC g A (some (.int r)) S) args s 0 0 A) 0 0 4 [(0, .ref (g.2.1 v0)), (1, .int x.1), (2, .int x.2)] [] S) (fun x => J p l e rmX3_countRights s m args below meth c g A 3 (MQ below (QC g A (some (.int r)) S) args s 0 0 A) 0 0 30 [(1, .int x)] [] S) (fun x o1 hm hk1 => ?_) hlp4 ?_
  · obtain ⟨v1, v2⟩ := x
    replace hm : m_X3_countRights_L4 v0 S v1 v2 = some o1 := hm
    show J p l e rmX3_countRights s m args below meth c g A 3 (MQ below (QC g A (some (.int r)) S) args s 0 0 A) 0 0 4 [(0, .ref (g.2.1 v0)), (1, .int v1), (2, .int v2)] [] S
    unfold m_X3_countRights_L4 at hm
    refine j_iload_n F 2 dX3_countRights_4 rfl ?_
    refine j_aload_n F 0 dX3_countRights_5 rfl ?_
    refine j_getI F (k0 := 0) (C := RX3) (T := TX3) (N := 4) (isSt_lay hv0).1 rfl rfl inF3 (by decide) tw13 dX3_countRights_6 ?_
    refine j_icmp_ge F (tgt := 30) dX3_countRights_9 (by decide) hm (fun _ hm => ?_) (fun _ hm => ?_)
    · cases hm
      refine j_sub [1] rfl ?_
      exact hk1
    · refine j_iload_n F 1 dX3_countRights_12 rfl ?_
      refine j_aload_n F 0 dX3_countRights_13 rfl ?_
      refine j_getR F (k0 := 3) (C := RX3) (T := TX3) (N := 4) (isSt_lay hv0).1 rfl rfl inF3 (by decide) tw4 dX3_countRights_14 ?_
      refine j_iload_n F 2 dX3_countRights_17 rfl ?_
      refine j_iald F (isSt_lay hv0).2 dX3_countRights_18 hm (fun hm => ?_)
      obtain ⟨r19, hc19, hm⟩ := Option.bind_eq_some_iff.mp hm
      refine j_callS F (n := 1) (As := [.int (gA S (v0 + 1) v2.toNatClampNeg)]) (rest := [.int v1]) (c_J6_bitCount_0f7a4 l g hg (gA S (v0 + 1) v2.toNatClampNeg) S r19 hc19) gw_X3_50 (by decide +kernel) ⟨Nat.le_of_ble_eq_true rfl, Nat.le_of_ble_eq_true rfl⟩ ⟨Nat.le_of_ble_eq_true rfl, Nat.le_of_ble_eq_true rfl⟩ rfl rfl (Nat.le_of_ble_eq_true rfl) dX3_countRights_19 ?_
      show J p l e rmX3_countRights s m args below meth c g A 3 (MQ below (QC g A (some (.int r)) S) args s 0 0 A) 0 0 22 [(0, .ref (g.2.1 v0)), (1, .int v1), (2, .int v2)] [.int r19, .int v1] S
      refine j_iadd F dX3_countRights_22 ?_
      refine j_bnd hm (fun v1_23 hm => ?_)
      refine j_istore_n F (lv' := [(1, .int v1_23), (0, .ref (g.2.1 v0)), (2, .int v2)]) dX3_countRights_23 (by decide) rfl ?_
      refine j_iinc F (v := v2 + 1) (lv' := [(2, .int (v2 + 1)), (1, .int v1_23), (0, .ref (g.2.1 v0))]) 2 dX3_countRights_24 rfl rfl (by decide) rfl ?_
      refine j_goto F (tgt := 4) dX3_countRights_27 (by decide) ?_
      cases hm
      refine j_sub [2, 1, 0] rfl ?_
      exact hk1
  · show J p l e rmX3_countRights s m args below meth c g A 3 (MQ below (QC g A (some (.int r)) S) args s 0 0 A) 0 0 30 [(1, .int y4)] [] S
    refine j_iload_n F 0 dX3_countRights_30 rfl ?_
    exact j_iret_p F rfl dX3_countRights_31 hm
def m_X3_copyFrom_L26 (v0 : Nat) (v1 : Nat) (v2 : Int32) (S : Hs) : Option ((Int32 × Hs) ⊕ Hs) := if 7 ≤ v2 then (some (.inr S)) else (gd (inb v2 7) (gd (inb v2 7) (bnd (sA S (v0 + 1) v2.toNatClampNeg (gA S (v1 + 1) v2.toNatClampNeg)) fun S43 => (some (.inl ((v2 + 1, S43)))))))
noncomputable def m_X3_copyFrom (v0 : Nat) (v1 : Nat) (S : Hs) : Option (Hs) := bnd (sI S v0 0 (gI S v1 0)) fun S5 => (bnd (sI S5 v0 1 (gI S5 v1 1)) fun S13 => (bnd (sI S13 v0 2 (gI S13 v1 2)) fun S21 => ((loopO (fun x => m_X3_copyFrom_L26 v0 v1 x.1 x.2) ((0, S21))).bind fun y26 => some y26)))
set_option maxRecDepth 100000 in
set_option maxHeartbeats 4000000 in
theorem c_X3_copyFrom (l : Launch) (g : GG) (hg : Inj g) (v0 : Nat) (v1 : Nat) (hv0 : isSt v0 = true) (hv1 : isSt v1 = true) (S : Hs) (S' : Hs) (hm : m_X3_copyFrom v0 v1 S = some S') : CM l yX3_copyFrom [.code yX3_copyFrom cX3_copyFrom 3 none] rmX3_copyFrom [.ref (g.2.1 v0), .ref (g.2.1 v1)] g S none S' := by
  unfold m_X3_copyFrom at hm
  refine CM.of (cc := cX3_copyFrom) (nL := 3) (ret := none) (lv := [(0, .ref (g.2.1 v0)), (1, .ref (g.2.1 v1))]) (by decide +kernel) hg (Nat.le_of_ble_eq_true rfl) rfl (fun p e s m args below meth c A F => ?_)
  replace F : Fx p s m meth c cX3_copyFrom RX3 3 none g A := F
  show J p l e rmX3_copyFrom s m args below meth c g A 3 (MQ below (QC g A none S') args s 0 0 A) 0 0 0 [(0, .ref (g.2.1 v0)), (1, .ref (g.2.1 v1))] [] S
  refine j_aload_n F 0 dX3_copyFrom_0 rfl ?_
  refine j_aload_n F 1 dX3_copyFrom_1 rfl ?_
  refine j_getI F (k0 := 0) (C := RX3) (T := TX3) (N := 4) (isSt_lay hv1).1 rfl rfl inF3 (by decide) tw13 dX3_copyFrom_2 ?_
  refine j_putI F (k0 := 0) (C := RX3) (T := TX3) (N := 4) tyX3 tyX3_ok nmX3 (isSt_lay hv0).1 rfl rfl inF3 (by decide) tw13 rfl (by decide +kernel) dX3_copyFrom_5 ?_
  refine j_bndS hm (fun S5 hm => ?_)
  refine j_aload_n F 0 dX3_copyFrom_8 rfl ?_
  refine j_aload_n F 1 dX3_copyFrom_9 rfl ?_
  refine j_getI F (k0 := 1) (C := RX3) (T := TX3) (N := 4) (isSt_lay hv1).1 rfl rfl inF3 (by decide) tw14 dX3_copyFrom_10 ?_
  refine j_putI F (k0 := 1) (C := RX3) (T := TX3) (N := 4) tyX3 tyX3_ok nmX3 (isSt_lay hv0).1 rfl rfl inF3 (by decide) tw14 rfl (by decide +kernel) dX3_copyFrom_13 ?_
  refine j_bndS hm (fun S13 hm => ?_)
  refine j_aload_n F 0 dX3_copyFrom_16 rfl ?_
  refine j_aload_n F 1 dX3_copyFrom_17 rfl ?_
  refine j_getI F (k0 := 2) (C := RX3) (T := TX3) (N := 4) (isSt_lay hv1).1 rfl rfl inF3 (by decide) tw15 dX3_copyFrom_18 ?_
  refine j_putI F (k0 := 2) (C := RX3) (T := TX3) (N := 4) tyX3 tyX3_ok nmX3 (isSt_lay hv0).1 rfl rfl inF3 (by decide) tw15 rfl (by decide +kernel) dX3_copyFrom_21 ?_
  refine j_bndS hm (fun S21 hm => ?_)
  refine j_iconst F (v := 0) dX3_copyFrom_24 (by decide) ?_
  refine j_istore_n F (lv' := [(2, .int 0), (0, .ref (g.2.1 v0)), (1, .ref (g.2.1 v1))]) dX3_copyFrom_25 (by decide) rfl ?_
  refine j_sub [1, 2, 0] rfl ?_
  obtain ⟨y26, hlp26, hm⟩ := Option.bind_eq_some_iff.mp hm
  refine loopO_walk (fun x => m_X3_copyFrom_L26 v0 v1 x.1 x.2) (fun x => J p l e rmX3_copyFrom s m args below meth c g A 3 (MQ below (QC g A none S') args s 0 0 A) 0 0 26 [(0, .ref (g.2.1 v0)), (1, .ref (g.2.1 v1)), (2, .int x.1)] [] x.2) (fun x => J p l e rmX3_copyFrom s m args below meth c g A 3 (MQ below (QC g A none S') args s 0 0 A) 0 0 50 [] [] x) (fun x o1 hm hk1 => ?_) hlp26 ?_
  · obtain ⟨v2, S⟩ := x
    replace hm : m_X3_copyFrom_L26 v0 v1 v2 S = some o1 := hm
    show J p l e rmX3_copyFrom s m args below meth c g A 3 (MQ below (QC g A none S') args s 0 0 A) 0 0 26 [(0, .ref (g.2.1 v0)), (1, .ref (g.2.1 v1)), (2, .int v2)] [] S
    unfold m_X3_copyFrom_L26 at hm
    refine j_iload_n F 2 dX3_copyFrom_26 rfl ?_
    refine j_bipush F (v := 7) dX3_copyFrom_27 (by decide) ?_
    refine j_icmp_ge F (tgt := 50) dX3_copyFrom_29 (by decide) hm (fun _ hm => ?_) (fun _ hm => ?_)
    · cases hm
      refine j_sub [] rfl ?_
      exact hk1
    · refine j_aload_n F 0 dX3_copyFrom_32 rfl ?_
      refine j_getR F (k0 := 3) (C := RX3) (T := TX3) (N := 4) (isSt_lay hv0).1 rfl rfl inF3 (by decide) tw4 dX3_copyFrom_33 ?_
      refine j_iload_n F 2 dX3_copyFrom_36 rfl ?_
      refine j_aload_n F 1 dX3_copyFrom_37 rfl ?_
      refine j_getR F (k0 := 3) (C := RX3) (T := TX3) (N := 4) (isSt_lay hv1).1 rfl rfl inF3 (by decide) tw4 dX3_copyFrom_38 ?_
      refine j_iload_n F 2 dX3_copyFrom_41 rfl ?_
      refine j_iald F (isSt_lay hv1).2 dX3_copyFrom_42 hm (fun hm => ?_)
      refine j_iast F (isSt_lay hv0).2 dX3_copyFrom_43 hm (fun hm => ?_)
      refine j_bndS hm (fun S43 hm => ?_)
      refine j_iinc F (v := v2 + 1) (lv' := [(2, .int (v2 + 1)), (0, .ref (g.2.1 v0)), (1, .ref (g.2.1 v1))]) 2 dX3_copyFrom_44 rfl rfl (by decide) rfl ?_
      refine j_goto F (tgt := 26) dX3_copyFrom_47 (by decide) ?_
      cases hm
      refine j_sub [1, 2, 0] rfl ?_
      exact hk1
  · show J p l e rmX3_copyFrom s m args below meth c g A 3 (MQ below (QC g A none S') args s 0 0 A) 0 0 50 [] [] y26
    exact j_vret_e F rfl dX3_copyFrom_50 hm
def m_X3_isAwake_J16 (w0 : Int32) (S : Hs) : Option (Int32) := gd (decide (w0 = 0 ∨ w0 = 1)) (some w0)
def m_X3_isAwake (v0 : Nat) (v1 : Int32) (S : Hs) : Option (Int32) := if (((gI S v0 2) >>> (v1 &&& 31)) &&& 1) = 0 then (m_X3_isAwake_J16 0 S) else (m_X3_isAwake_J16 1 S)
set_option maxRecDepth 100000 in
set_option maxHeartbeats 4000000 in
theorem c_X3_isAwake (l : Launch) (g : GG) (hg : Inj g) (v0 : Nat) (v1 : Int32) (hv0 : isSt v0 = true) (S : Hs) (r : Int32) (hm : m_X3_isAwake v0 v1 S = some r) : CM l yX3_isAwake [.code yX3_isAwake cX3_isAwake 2 (some .boolean)] rmX3_isAwake [.ref (g.2.1 v0), .int v1] g S (some (.int r)) S := by
  unfold m_X3_isAwake at hm
  refine CM.of (cc := cX3_isAwake) (nL := 2) (ret := (some .boolean)) (lv := [(0, .ref (g.2.1 v0)), (1, .int v1)]) (by decide +kernel) hg (Nat.le_of_ble_eq_true rfl) rfl (fun p e s m args below meth c A F => ?_)
  replace F : Fx p s m meth c cX3_isAwake RX3 2 (some .boolean) g A := F
  show J p l e rmX3_isAwake s m args below meth c g A 2 (MQ below (QC g A (some (.int r)) S) args s 0 0 A) 0 0 0 [(0, .ref (g.2.1 v0)), (1, .int v1)] [] S
  have hj16 : ∀ (w0 : Int32) (S : Hs), m_X3_isAwake_J16 w0 S = some r → J p l e rmX3_isAwake s m args below meth c g A 2 (MQ below (QC g A (some (.int r)) S) args s 0 0 A) 0 0 16 [] [.int w0] S := by
    intro w0 S hm
    unfold m_X3_isAwake_J16 at hm
    obtain ⟨hb, hm⟩ := gd_ok hm
    exact j_zret_p F rfl (z_nar hb) dX3_isAwake_16 hm
  refine j_aload_n F 0 dX3_isAwake_0 rfl ?_
  refine j_getI F (k0 := 2) (C := RX3) (T := TX3) (N := 4) (isSt_lay hv0).1 rfl rfl inF3 (by decide) tw15 dX3_isAwake_1 ?_
  refine j_iload_n F 1 dX3_isAwake_4 rfl ?_
  refine j_ishr F dX3_isAwake_5 ?_
  refine j_iconst F (v := 1) dX3_isAwake_6 (by decide) ?_
  refine j_iand F dX3_isAwake_7 ?_
  refine j_if_eq F (tgt := 15) dX3_isAwake_8 (by decide) hm (fun _ hm => ?_) (fun _ hm => ?_)
  · refine j_iconst F (v := 0) dX3_isAwake_15 (by decide) ?_
    refine j_sub [] rfl ?_
    exact hj16 0 S  hm
  · refine j_iconst F (v := 1) dX3_isAwake_11 (by decide) ?_
    refine j_goto F (tgt := 16) dX3_isAwake_12 (by decide) ?_
    refine j_sub [] rfl ?_
    exact hj16 1 S  hm
def m_X3_addRights_J38 (w0 : Int32) (S : Hs) : Option (Int32 × Hs) := gd (decide (w0 = 0 ∨ w0 = 1)) (some ((w0, S)))
def m_X3_addRights (v0 : Nat) (v1 : Int32) (v2 : Int32) (S : Hs) : Option (Int32 × Hs) := gd (inb v1 7) (bnd (gA S (v0 + 1) v1.toNatClampNeg) fun v3_6 => (gd (inb v1 7) (bnd (sA S (v0 + 1) v1.toNatClampNeg (v3_6 ||| (v2 &&& ((2113665 <<< (v1 &&& 31)) ^^^ ((-1)))))) fun S22 => (gd (inb v1 7) (if (gA S22 (v0 + 1) v1.toNatClampNeg) = v3_6 then (m_X3_addRights_J38 0 S22) else (m_X3_addRights_J38 1 S22))))))
set_option maxRecDepth 100000 in
set_option maxHeartbeats 4000000 in
theorem c_X3_addRights (l : Launch) (g : GG) (hg : Inj g) (v0 : Nat) (v1 : Int32) (v2 : Int32) (hv0 : isSt v0 = true) (S : Hs) (r : Int32) (S' : Hs) (hm : m_X3_addRights v0 v1 v2 S = some ((r, S'))) : CM l yX3_addRights [.code yX3_addRights cX3_addRights 4 (some .boolean)] rmX3_addRights [.ref (g.2.1 v0), .int v1, .int v2] g S (some (.int r)) S' := by
  unfold m_X3_addRights at hm
  refine CM.of (cc := cX3_addRights) (nL := 4) (ret := (some .boolean)) (lv := [(0, .ref (g.2.1 v0)), (1, .int v1), (2, .int v2)]) (by decide +kernel) hg (Nat.le_of_ble_eq_true rfl) rfl (fun p e s m args below meth c A F => ?_)
  replace F : Fx p s m meth c cX3_addRights RX3 4 (some .boolean) g A := F
  show J p l e rmX3_addRights s m args below meth c g A 4 (MQ below (QC g A (some (.int r)) S') args s 0 0 A) 0 0 0 [(0, .ref (g.2.1 v0)), (1, .int v1), (2, .int v2)] [] S
  have hj38 : ∀ (w0 : Int32) (S : Hs), m_X3_addRights_J38 w0 S = some ((r, S')) → J p l e rmX3_addRights s m args below meth c g A 4 (MQ below (QC g A (some (.int r)) S') args s 0 0 A) 0 0 38 [] [.int w0] S := by
    intro w0 S hm
    unfold m_X3_addRights_J38 at hm
    obtain ⟨hb, hm⟩ := gd_ok hm
    exact j_zret_e F rfl (z_nar hb) dX3_addRights_38 hm
  refine j_aload_n F 0 dX3_addRights_0 rfl ?_
  refine j_getR F (k0 := 3) (C := RX3) (T := TX3) (N := 4) (isSt_lay hv0).1 rfl rfl inF3 (by decide) tw4 dX3_addRights_1 ?_
  refine j_iload_n F 1 dX3_addRights_4 rfl ?_
  refine j_iald F (isSt_lay hv0).2 dX3_addRights_5 hm (fun hm => ?_)
  refine j_bnd hm (fun v3_6 hm => ?_)
  refine j_istore_n F (lv' := [(3, .int v3_6), (0, .ref (g.2.1 v0)), (1, .int v1), (2, .int v2)]) dX3_addRights_6 (by decide) rfl ?_
  refine j_aload_n F 1 dX3_addRights_7 rfl ?_
  refine j_getR F (k0 := 3) (C := RX3) (T := TX3) (N := 4) (isSt_lay hv0).1 rfl rfl inF3 (by decide) tw4 dX3_addRights_8 ?_
  refine j_iload_n F 2 dX3_addRights_11 rfl ?_
  refine j_iload_n F 0 dX3_addRights_12 rfl ?_
  refine j_iload_n F 3 dX3_addRights_13 rfl ?_
  refine j_ldc F (v := 2113665) dX3_addRights_14 tw25 ?_
  refine j_iload_n F 2 dX3_addRights_16 rfl ?_
  refine j_ishl F dX3_addRights_17 ?_
  refine j_iconst F (v := -1) dX3_addRights_18 (by decide) ?_
  refine j_ixor F dX3_addRights_19 ?_
  refine j_iand F dX3_addRights_20 ?_
  refine j_ior F dX3_addRights_21 ?_
  refine j_iast F (isSt_lay hv0).2 dX3_addRights_22 hm (fun hm => ?_)
  refine j_bndS hm (fun S22 hm => ?_)
  refine j_aload_n F 1 dX3_addRights_23 rfl ?_
  refine j_getR F (k0 := 3) (C := RX3) (T := TX3) (N := 4) (isSt_lay hv0).1 rfl rfl inF3 (by decide) tw4 dX3_addRights_24 ?_
  refine j_iload_n F 2 dX3_addRights_27 rfl ?_
  refine j_iald F (isSt_lay hv0).2 dX3_addRights_28 hm (fun hm => ?_)
  refine j_iload_n F 0 dX3_addRights_29 rfl ?_
  refine j_icmp_eq F (tgt := 37) dX3_addRights_30 (by decide) hm (fun _ hm => ?_) (fun _ hm => ?_)
  · refine j_iconst F (v := 0) dX3_addRights_37 (by decide) ?_
    refine j_sub [] rfl ?_
    exact hj38 0 S22  hm
  · refine j_iconst F (v := 1) dX3_addRights_33 (by decide) ?_
    refine j_goto F (tgt := 38) dX3_addRights_34 (by decide) ?_
    refine j_sub [] rfl ?_
    exact hj38 1 S22  hm
def m_X3_doStepsOf_J76 (v0 : Nat) (v1 : Int32) (v2 : Nat) (v3 : Int32) (v4 : Int32) (v5 : Int32) (S : Hs) : Option ((Int32 × Int32 × Hs) ⊕ (Int32 × Hs)) := some (.inl ((v4, v5 + 1, S)))
def m_X3_doStepsOf_J51 (v0 : Nat) (v1 : Int32) (v2 : Nat) (v3 : Int32) (v4 : Int32) (v5 : Int32) (S : Hs) : Option ((Int32 × Int32 × Hs) ⊕ (Int32 × Hs)) := if ((v3 >>> ((7 + v5) &&& 31)) &&& 1) = 0 then (m_X3_doStepsOf_J76 v0 v1 v2 v3 v4 v5 S) else (bndE (m_X3_addRights v0 v5 v3 S) fun r67 S67 => (if r67 = 0 then (m_X3_doStepsOf_J76 v0 v1 v2 v3 v4 v5 S67) else (m_X3_doStepsOf_J76 v0 v1 v2 v3 1 v5 S67)))
def m_X3_doStepsOf_L13 (v0 : Nat) (v1 : Int32) (v2 : Nat) (v3 : Int32) (v4 : Int32) (v5 : Int32) (S : Hs) : Option ((Int32 × Int32 × Hs) ⊕ (Int32 × Hs)) := if (gI S v0 0) ≤ v5 then (some (.inr ((v4, S)))) else (if ((v3 >>> ((0 + v5) &&& 31)) &&& 1) = 0 then (m_X3_doStepsOf_J51 v0 v1 v2 v3 v4 v5 S) else (gd (inb v5 7) (bndE (m_X3_addRights v0 v1 (gA S (v2 + 1) v5.toNatClampNeg) S) fun r42 S42 => (if r42 = 0 then (m_X3_doStepsOf_J51 v0 v1 v2 v3 v4 v5 S42) else (m_X3_doStepsOf_J51 v0 v1 v2 v3 1 v5 S42)))))
noncomputable def m_X3_doStepsOf (v0 : Nat) (v1 : Int32) (v2 : Nat) (S : Hs) : Option (Int32 × Hs) := gd (inb v1 7) (bnd (gA S (v2 + 1) v1.toNatClampNeg) fun v3_6 => ((loopO (fun x => m_X3_doStepsOf_L13 v0 v1 v2 v3_6 x.1 x.2.1 x.2.2) ((0, 0, S))).bind fun y13 => gd (decide (y13.1 = 0 ∨ y13.1 = 1)) (some ((y13.1, y13.2)))))
set_option maxRecDepth 100000 in
set_option maxHeartbeats 4000000 in
theorem c_X3_doStepsOf (l : Launch) (g : GG) (hg : Inj g) (v0 : Nat) (v1 : Int32) (v2 : Nat) (hv0 : isSt v0 = true) (hv2 : isSt v2 = true) (S : Hs) (r : Int32) (S' : Hs) (hm : m_X3_doStepsOf v0 v1 v2 S = some ((r, S'))) : CM l yX3_doStepsOf [.code yX3_doStepsOf cX3_doStepsOf 6 (some .boolean)] rmX3_doStepsOf [.ref (g.2.1 v0), .int v1, .ref (g.2.1 v2)] g S (some (.int r)) S' := by
  unfold m_X3_doStepsOf at hm
  refine CM.of (cc := cX3_doStepsOf) (nL := 6) (ret := (some .boolean)) (lv := [(0, .ref (g.2.1 v0)), (1, .int v1), (2, .ref (g.2.1 v2))]) (by decide +kernel) hg (Nat.le_of_ble_eq_true rfl) rfl (fun p e s m args below meth c A F => ?_)
  replace F : Fx p s m meth c cX3_doStepsOf RX3 6 (some .boolean) g A := F
  show J p l e rmX3_doStepsOf s m args below meth c g A 6 (MQ below (QC g A (some (.int r)) S') args s 0 0 A) 0 0 0 [(0, .ref (g.2.1 v0)), (1, .int v1), (2, .ref (g.2.1 v2))] [] S
  refine j_aload_n F 2 dX3_doStepsOf_0 rfl ?_
  refine j_getR F (k0 := 3) (C := RX3) (T := TX3) (N := 4) (isSt_lay hv2).1 rfl rfl inF3 (by decide) tw4 dX3_doStepsOf_1 ?_
  refine j_iload_n F 1 dX3_doStepsOf_4 rfl ?_
  refine j_iald F (isSt_lay hv2).2 dX3_doStepsOf_5 hm (fun hm => ?_)
  refine j_bnd hm (fun v3_6 hm => ?_)
  refine j_istore_n F (lv' := [(3, .int v3_6), (0, .ref (g.2.1 v0)), (1, .int v1), (2, .ref (g.2.1 v2))]) dX3_doStepsOf_6 (by decide) rfl ?_
  refine j_iconst F (v := 0) dX3_doStepsOf_7 (by decide) ?_
  refine j_istore F (lv' := [(4, .int 0), (3, .int v3_6), (0, .ref (g.2.1 v0)), (1, .int v1), (2, .ref (g.2.1 v2))]) dX3_doStepsOf_8 (by decide) rfl ?_
  refine j_iconst F (v := 0) dX3_doStepsOf_10 (by decide) ?_
  refine j_istore F (lv' := [(5, .int 0), (4, .int 0), (3, .int v3_6), (0, .ref (g.2.1 v0)), (1, .int v1), (2, .ref (g.2.1 v2))]) dX3_doStepsOf_11 (by decide) rfl ?_
  refine j_sub [3, 4, 5, 2, 1, 0] rfl ?_
  obtain ⟨y13, hlp13, hm⟩ := Option.bind_eq_some_iff.mp hm
  refine loopO_walk (fun x => m_X3_doStepsOf_L13 v0 v1 v2 v3_6 x.1 x.2.1 x.2.2) (fun x => J p l e rmX3_doStepsOf s m args below meth c g A 6 (MQ below (QC g A (some (.int r)) S') args s 0 0 A) 0 0 13 [(0, .ref (g.2.1 v0)), (1, .int v1), (2, .ref (g.2.1 v2)), (3, .int v3_6), (4, .int x.1), (5, .int x.2.1)] [] x.2.2) (fun x => J p l e rmX3_doStepsOf s m args below meth c g A 6 (MQ below (QC g A (some (.int r)) S') args s 0 0 A) 0 0 82 [(4, .int x.1)] [] x.2) (fun x o1 hm hk1 => ?_) hlp13 ?_
  · obtain ⟨v4, v5, S⟩ := x
    replace hm : m_X3_doStepsOf_L13 v0 v1 v2 v3_6 v4 v5 S = some o1 := hm
    show J p l e rmX3_doStepsOf s m args below meth c g A 6 (MQ below (QC g A (some (.int r)) S') args s 0 0 A) 0 0 13 [(0, .ref (g.2.1 v0)), (1, .int v1), (2, .ref (g.2.1 v2)), (3, .int v3_6), (4, .int v4), (5, .int v5)] [] S
    unfold m_X3_doStepsOf_L13 at hm
    have hj76 : ∀ (v4 : Int32) (v5 : Int32) (S : Hs), m_X3_doStepsOf_J76 v0 v1 v2 v3_6 v4 v5 S = some o1 → J p l e rmX3_doStepsOf s m args below meth c g A 6 (MQ below (QC g A (some (.int r)) S') args s 0 0 A) 0 0 76 [(0, .ref (g.2.1 v0)), (1, .int v1), (2, .ref (g.2.1 v2)), (3, .int v3_6), (4, .int v4), (5, .int v5)] [] S := by
      intro v4 v5 S hm
      unfold m_X3_doStepsOf_J76 at hm
      refine j_iinc F (v := v5 + 1) (lv' := [(5, .int (v5 + 1)), (0, .ref (g.2.1 v0)), (1, .int v1), (2, .ref (g.2.1 v2)), (3, .int v3_6), (4, .int v4)]) 5 dX3_doStepsOf_76 rfl rfl (by decide) rfl ?_
      refine j_goto F (tgt := 13) dX3_doStepsOf_79 (by decide) ?_
      cases hm
      refine j_sub [1, 2, 3, 4, 5, 0] rfl ?_
      exact hk1
    have hj51 : ∀ (v4 : Int32) (v5 : Int32) (S : Hs), m_X3_doStepsOf_J51 v0 v1 v2 v3_6 v4 v5 S = some o1 → J p l e rmX3_doStepsOf s m args below meth c g A 6 (MQ below (QC g A (some (.int r)) S') args s 0 0 A) 0 0 51 [(0, .ref (g.2.1 v0)), (1, .int v1), (2, .ref (g.2.1 v2)), (3, .int v3_6), (4, .int v4), (5, .int v5)] [] S := by
      intro v4 v5 S hm
      unfold m_X3_doStepsOf_J51 at hm
      refine j_iload_n F 3 dX3_doStepsOf_51 rfl ?_
      refine j_bipush F (v := 7) dX3_doStepsOf_52 (by decide) ?_
      refine j_iload F 5 dX3_doStepsOf_54 rfl ?_
      refine j_iadd F dX3_doStepsOf_56 ?_
      refine j_ishr F dX3_doStepsOf_57 ?_
      refine j_iconst F (v := 1) dX3_doStepsOf_58 (by decide) ?_
      refine j_iand F dX3_doStepsOf_59 ?_
      refine j_if_eq F (tgt := 76) dX3_doStepsOf_60 (by decide) hm (fun _ hm => ?_) (fun _ hm => ?_)
      · refine j_sub [0, 1, 2, 3, 4, 5] rfl ?_
        exact hj76 v4 v5 S  hm
      · refine j_aload_n F 0 dX3_doStepsOf_63 rfl ?_
        refine j_iload F 5 dX3_doStepsOf_64 rfl ?_
        refine j_iload_n F 3 dX3_doStepsOf_66 rfl ?_
        obtain ⟨r67, S67, hc67, hm⟩ := bndE_ok hm
        refine j_callV F (n := 2) (As := [.int v5, .int v3_6]) (rest := []) (c_X3_addRights l g hg v0 v5 v3_6 hv0 S r67 S67 hc67) gw_X3_84 (by decide +kernel) ⟨Nat.le_of_ble_eq_true rfl, Nat.le_of_ble_eq_true rfl⟩ ⟨Nat.le_of_ble_eq_true rfl, Nat.le_of_ble_eq_true rfl⟩ (isSt_lay hv0).1 rfl rfl rfl (Nat.le_of_ble_eq_true rfl) dX3_doStepsOf_67 ?_
        show J p l e rmX3_doStepsOf s m args below meth c g A 6 (MQ below (QC g A (some (.int r)) S') args s 0 0 A) 0 0 70 [(0, .ref (g.2.1 v0)), (1, .int v1), (2, .ref (g.2.1 v2)), (3, .int v3_6), (4, .int v4), (5, .int v5)] [.int r67] S67
        refine j_if_eq F (tgt := 76) dX3_doStepsOf_70 (by decide) hm (fun _ hm => ?_) (fun _ hm => ?_)
        · refine j_sub [0, 1, 2, 3, 4, 5] rfl ?_
          exact hj76 v4 v5 S67  hm
        · refine j_iconst F (v := 1) dX3_doStepsOf_73 (by decide) ?_
          refine j_istore F (lv' := [(4, .int 1), (0, .ref (g.2.1 v0)), (1, .int v1), (2, .ref (g.2.1 v2)), (3, .int v3_6), (5, .int v5)]) dX3_doStepsOf_74 (by decide) rfl ?_
          refine j_sub [1, 2, 3, 4, 0, 5] rfl ?_
          exact hj76 1 v5 S67  hm
    refine j_iload F 5 dX3_doStepsOf_13 rfl ?_
    refine j_aload_n F 0 dX3_doStepsOf_15 rfl ?_
    refine j_getI F (k0 := 0) (C := RX3) (T := TX3) (N := 4) (isSt_lay hv0).1 rfl rfl inF3 (by decide) tw13 dX3_doStepsOf_16 ?_
    refine j_icmp_ge F (tgt := 82) dX3_doStepsOf_19 (by decide) hm (fun _ hm => ?_) (fun _ hm => ?_)
    · cases hm
      refine j_sub [4] rfl ?_
      exact hk1
    · refine j_iload_n F 3 dX3_doStepsOf_22 rfl ?_
      refine j_iconst F (v := 0) dX3_doStepsOf_23 (by decide) ?_
      refine j_iload F 5 dX3_doStepsOf_24 rfl ?_
      refine j_iadd F dX3_doStepsOf_26 ?_
      refine j_ishr F dX3_doStepsOf_27 ?_
      refine j_iconst F (v := 1) dX3_doStepsOf_28 (by decide) ?_
      refine j_iand F dX3_doStepsOf_29 ?_
      refine j_if_eq F (tgt := 51) dX3_doStepsOf_30 (by decide) hm (fun _ hm => ?_) (fun _ hm => ?_)
      · refine j_sub [0, 1, 2, 3, 4, 5] rfl ?_
        exact hj51 v4 v5 S  hm
      · refine j_aload_n F 0 dX3_doStepsOf_33 rfl ?_
        refine j_iload_n F 1 dX3_doStepsOf_34 rfl ?_
        refine j_aload_n F 2 dX3_doStepsOf_35 rfl ?_
        refine j_getR F (k0 := 3) (C := RX3) (T := TX3) (N := 4) (isSt_lay hv2).1 rfl rfl inF3 (by decide) tw4 dX3_doStepsOf_36 ?_
        refine j_iload F 5 dX3_doStepsOf_39 rfl ?_
        refine j_iald F (isSt_lay hv2).2 dX3_doStepsOf_41 hm (fun hm => ?_)
        obtain ⟨r42, S42, hc42, hm⟩ := bndE_ok hm
        refine j_callV F (n := 2) (As := [.int v1, .int (gA S (v2 + 1) v5.toNatClampNeg)]) (rest := []) (c_X3_addRights l g hg v0 v1 (gA S (v2 + 1) v5.toNatClampNeg) hv0 S r42 S42 hc42) gw_X3_84 (by decide +kernel) ⟨Nat.le_of_ble_eq_true rfl, Nat.le_of_ble_eq_true rfl⟩ ⟨Nat.le_of_ble_eq_true rfl, Nat.le_of_ble_eq_true rfl⟩ (isSt_lay hv0).1 rfl rfl rfl (Nat.le_of_ble_eq_true rfl) dX3_doStepsOf_42 ?_
        show J p l e rmX3_doStepsOf s m args below meth c g A 6 (MQ below (QC g A (some (.int r)) S') args s 0 0 A) 0 0 45 [(0, .ref (g.2.1 v0)), (1, .int v1), (2, .ref (g.2.1 v2)), (3, .int v3_6), (4, .int v4), (5, .int v5)] [.int r42] S42
        refine j_if_eq F (tgt := 51) dX3_doStepsOf_45 (by decide) hm (fun _ hm => ?_) (fun _ hm => ?_)
        · refine j_sub [0, 1, 2, 3, 4, 5] rfl ?_
          exact hj51 v4 v5 S42  hm
        · refine j_iconst F (v := 1) dX3_doStepsOf_48 (by decide) ?_
          refine j_istore F (lv' := [(4, .int 1), (0, .ref (g.2.1 v0)), (1, .int v1), (2, .ref (g.2.1 v2)), (3, .int v3_6), (5, .int v5)]) dX3_doStepsOf_49 (by decide) rfl ?_
          refine j_sub [1, 2, 3, 4, 0, 5] rfl ?_
          exact hj51 1 v5 S42  hm
  · show J p l e rmX3_doStepsOf s m args below meth c g A 6 (MQ below (QC g A (some (.int r)) S') args s 0 0 A) 0 0 82 [(4, .int y13.1)] [] y13.2
    refine j_iload F 0 dX3_doStepsOf_82 rfl ?_
    obtain ⟨hb, hm⟩ := gd_ok hm
    exact j_zret_e F rfl (z_nar hb) dX3_doStepsOf_84 hm
def m_X3_doSteps_J31 (v0 : Nat) (v1 : Nat) (v2 : Int32) (v3 : Int32) (S : Hs) : Option ((Int32 × Int32 × Hs) ⊕ (Int32 × Hs)) := some (.inl ((v2, v3 + 1, S)))
noncomputable def m_X3_doSteps_L4 (v0 : Nat) (v1 : Nat) (v2 : Int32) (v3 : Int32) (S : Hs) : Option ((Int32 × Int32 × Hs) ⊕ (Int32 × Hs)) := if (gI S v0 0) ≤ v3 then (some (.inr ((v2, S)))) else ((m_X3_isAwake v0 v3 S).bind fun r14 => (if r14 = 0 then (m_X3_doSteps_J31 v0 v1 v2 v3 S) else (bndE (m_X3_doStepsOf v0 v3 v1 S) fun r23 S23 => (if r23 = 0 then (m_X3_doSteps_J31 v0 v1 v2 v3 S23) else (m_X3_doSteps_J31 v0 v1 1 v3 S23)))))
noncomputable def m_X3_doSteps (v0 : Nat) (v1 : Nat) (S : Hs) : Option (Int32 × Hs) := (loopO (fun x => m_X3_doSteps_L4 v0 v1 x.1 x.2.1 x.2.2) ((0, 0, S))).bind fun y4 => gd (decide (y4.1 = 0 ∨ y4.1 = 1)) (some ((y4.1, y4.2)))
set_option maxRecDepth 100000 in
set_option maxHeartbeats 4000000 in
theorem c_X3_doSteps (l : Launch) (g : GG) (hg : Inj g) (v0 : Nat) (v1 : Nat) (hv0 : isSt v0 = true) (hv1 : isSt v1 = true) (S : Hs) (r : Int32) (S' : Hs) (hm : m_X3_doSteps v0 v1 S = some ((r, S'))) : CM l yX3_doSteps [.code yX3_doSteps cX3_doSteps 4 (some .boolean)] rmX3_doSteps [.ref (g.2.1 v0), .ref (g.2.1 v1)] g S (some (.int r)) S' := by
  unfold m_X3_doSteps at hm
  refine CM.of (cc := cX3_doSteps) (nL := 4) (ret := (some .boolean)) (lv := [(0, .ref (g.2.1 v0)), (1, .ref (g.2.1 v1))]) (by decide +kernel) hg (Nat.le_of_ble_eq_true rfl) rfl (fun p e s m args below meth c A F => ?_)
  replace F : Fx p s m meth c cX3_doSteps RX3 4 (some .boolean) g A := F
  show J p l e rmX3_doSteps s m args below meth c g A 4 (MQ below (QC g A (some (.int r)) S') args s 0 0 A) 0 0 0 [(0, .ref (g.2.1 v0)), (1, .ref (g.2.1 v1))] [] S
  refine j_iconst F (v := 0) dX3_doSteps_0 (by decide) ?_
  refine j_istore_n F (lv' := [(2, .int 0), (0, .ref (g.2.1 v0)), (1, .ref (g.2.1 v1))]) dX3_doSteps_1 (by decide) rfl ?_
  refine j_iconst F (v := 0) dX3_doSteps_2 (by decide) ?_
  refine j_istore_n F (lv' := [(3, .int 0), (2, .int 0), (0, .ref (g.2.1 v0)), (1, .ref (g.2.1 v1))]) dX3_doSteps_3 (by decide) rfl ?_
  refine j_sub [2, 3, 1, 0] rfl ?_
  obtain ⟨y4, hlp4, hm⟩ := Option.bind_eq_some_iff.mp hm
  refine loopO_walk (fun x => m_X3_doSteps_L4 v0 v1 x.1 x.2.1 x.2.2) (fun x => J p l e rmX3_doSteps s m args below meth c g A 4 (MQ below (QC g A (some (.int r)) S') args s 0 0 A) 0 0 4 [(0, .ref (g.2.1 v0)), (1, .ref (g.2.1 v1)), (2, .int x.1), (3, .int x.2.1)] [] x.2.2) (fun x => J p l e rmX3_doSteps s m args below meth c g A 4 (MQ below (QC g A (some (.int r)) S') args s 0 0 A) 0 0 37 [(2, .int x.1)] [] x.2) (fun x o1 hm hk1 => ?_) hlp4 ?_
  · obtain ⟨v2, v3, S⟩ := x
    replace hm : m_X3_doSteps_L4 v0 v1 v2 v3 S = some o1 := hm
    show J p l e rmX3_doSteps s m args below meth c g A 4 (MQ below (QC g A (some (.int r)) S') args s 0 0 A) 0 0 4 [(0, .ref (g.2.1 v0)), (1, .ref (g.2.1 v1)), (2, .int v2), (3, .int v3)] [] S
    unfold m_X3_doSteps_L4 at hm
    have hj31 : ∀ (v2 : Int32) (v3 : Int32) (S : Hs), m_X3_doSteps_J31 v0 v1 v2 v3 S = some o1 → J p l e rmX3_doSteps s m args below meth c g A 4 (MQ below (QC g A (some (.int r)) S') args s 0 0 A) 0 0 31 [(0, .ref (g.2.1 v0)), (1, .ref (g.2.1 v1)), (2, .int v2), (3, .int v3)] [] S := by
      intro v2 v3 S hm
      unfold m_X3_doSteps_J31 at hm
      refine j_iinc F (v := v3 + 1) (lv' := [(3, .int (v3 + 1)), (0, .ref (g.2.1 v0)), (1, .ref (g.2.1 v1)), (2, .int v2)]) 3 dX3_doSteps_31 rfl rfl (by decide) rfl ?_
      refine j_goto F (tgt := 4) dX3_doSteps_34 (by decide) ?_
      cases hm
      refine j_sub [1, 2, 3, 0] rfl ?_
      exact hk1
    refine j_iload_n F 3 dX3_doSteps_4 rfl ?_
    refine j_aload_n F 0 dX3_doSteps_5 rfl ?_
    refine j_getI F (k0 := 0) (C := RX3) (T := TX3) (N := 4) (isSt_lay hv0).1 rfl rfl inF3 (by decide) tw13 dX3_doSteps_6 ?_
    refine j_icmp_ge F (tgt := 37) dX3_doSteps_9 (by decide) hm (fun _ hm => ?_) (fun _ hm => ?_)
    · cases hm
      refine j_sub [2] rfl ?_
      exact hk1
    · refine j_aload_n F 0 dX3_doSteps_12 rfl ?_
      refine j_iload_n F 3 dX3_doSteps_13 rfl ?_
      obtain ⟨r14, hc14, hm⟩ := Option.bind_eq_some_iff.mp hm
      refine j_callV F (n := 1) (As := [.int v3]) (rest := []) (c_X3_isAwake l g hg v0 v3 hv0 S r14 hc14) gw_X3_66 (by decide +kernel) ⟨Nat.le_of_ble_eq_true rfl, Nat.le_of_ble_eq_true rfl⟩ ⟨Nat.le_of_ble_eq_true rfl, Nat.le_of_ble_eq_true rfl⟩ (isSt_lay hv0).1 rfl rfl rfl (Nat.le_of_ble_eq_true rfl) dX3_doSteps_14 ?_
      show J p l e rmX3_doSteps s m args below meth c g A 4 (MQ below (QC g A (some (.int r)) S') args s 0 0 A) 0 0 17 [(0, .ref (g.2.1 v0)), (1, .ref (g.2.1 v1)), (2, .int v2), (3, .int v3)] [.int r14] S
      refine j_if_eq F (tgt := 31) dX3_doSteps_17 (by decide) hm (fun _ hm => ?_) (fun _ hm => ?_)
      · refine j_sub [0, 1, 2, 3] rfl ?_
        exact hj31 v2 v3 S  hm
      · refine j_aload_n F 0 dX3_doSteps_20 rfl ?_
        refine j_iload_n F 3 dX3_doSteps_21 rfl ?_
        refine j_aload_n F 1 dX3_doSteps_22 rfl ?_
        obtain ⟨r23, S23, hc23, hm⟩ := bndE_ok hm
        refine j_callV F (n := 2) (As := [.int v3, .ref (g.2.1 v1)]) (rest := []) (c_X3_doStepsOf l g hg v0 v3 v1 hv0 hv1 S r23 S23 hc23) gw_X3_80 (by decide +kernel) ⟨Nat.le_of_ble_eq_true rfl, Nat.le_of_ble_eq_true rfl⟩ ⟨Nat.le_of_ble_eq_true rfl, Nat.le_of_ble_eq_true rfl⟩ (isSt_lay hv0).1 rfl rfl rfl (Nat.le_of_ble_eq_true rfl) dX3_doSteps_23 ?_
        show J p l e rmX3_doSteps s m args below meth c g A 4 (MQ below (QC g A (some (.int r)) S') args s 0 0 A) 0 0 26 [(0, .ref (g.2.1 v0)), (1, .ref (g.2.1 v1)), (2, .int v2), (3, .int v3)] [.int r23] S23
        refine j_if_eq F (tgt := 31) dX3_doSteps_26 (by decide) hm (fun _ hm => ?_) (fun _ hm => ?_)
        · refine j_sub [0, 1, 2, 3] rfl ?_
          exact hj31 v2 v3 S23  hm
        · refine j_iconst F (v := 1) dX3_doSteps_29 (by decide) ?_
          refine j_istore_n F (lv' := [(2, .int 1), (0, .ref (g.2.1 v0)), (1, .ref (g.2.1 v1)), (3, .int v3)]) dX3_doSteps_30 (by decide) rfl ?_
          refine j_sub [1, 2, 0, 3] rfl ?_
          exact hj31 1 v3 S23  hm
  · show J p l e rmX3_doSteps s m args below meth c g A 4 (MQ below (QC g A (some (.int r)) S') args s 0 0 A) 0 0 37 [(2, .int y4.1)] [] y4.2
    refine j_iload_n F 0 dX3_doSteps_37 rfl ?_
    obtain ⟨hb, hm⟩ := gd_ok hm
    exact j_zret_e F rfl (z_nar hb) dX3_doSteps_38 hm
noncomputable def m_X3_spreadOut_L4 (v0 : Nat) (v1 : Int32) (v2 : Int32) (S : Hs) : Option ((Int32 × Int32 × Hs) ⊕ Hs) := if 196 ≤ v2 then (some (.inr S)) else (if v1 = 0 then (some (.inr S)) else (bndE (m_X3_doSteps v0 v0 S) fun r17 S17 => (some (.inl ((r17, v2 + 1, S17))))))
def m_X3_spreadOut_J27 (S : Hs) : Option (Hs) := some S
noncomputable def m_X3_spreadOut (v0 : Nat) (S : Hs) : Option (Hs) := (loopO (fun x => m_X3_spreadOut_L4 v0 x.1 x.2.1 x.2.2) ((1, 0, S))).bind fun y4 => m_X3_spreadOut_J27 y4
set_option maxRecDepth 100000 in
set_option maxHeartbeats 4000000 in
theorem c_X3_spreadOut (l : Launch) (g : GG) (hg : Inj g) (v0 : Nat) (hv0 : isSt v0 = true) (S : Hs) (S' : Hs) (hm : m_X3_spreadOut v0 S = some S') : CM l yX3_spreadOut [.code yX3_spreadOut cX3_spreadOut 3 none] rmX3_spreadOut [.ref (g.2.1 v0)] g S none S' := by
  unfold m_X3_spreadOut at hm
  refine CM.of (cc := cX3_spreadOut) (nL := 3) (ret := none) (lv := [(0, .ref (g.2.1 v0))]) (by decide +kernel) hg (Nat.le_of_ble_eq_true rfl) rfl (fun p e s m args below meth c A F => ?_)
  replace F : Fx p s m meth c cX3_spreadOut RX3 3 none g A := F
  show J p l e rmX3_spreadOut s m args below meth c g A 3 (MQ below (QC g A none S') args s 0 0 A) 0 0 0 [(0, .ref (g.2.1 v0))] [] S
  have hj27 : ∀ (S : Hs), m_X3_spreadOut_J27 S = some S' → J p l e rmX3_spreadOut s m args below meth c g A 3 (MQ below (QC g A none S') args s 0 0 A) 0 0 27 [] [] S := by
    intro S hm
    unfold m_X3_spreadOut_J27 at hm
    exact j_vret_e F rfl dX3_spreadOut_27 hm
  refine j_iconst F (v := 1) dX3_spreadOut_0 (by decide) ?_
  refine j_istore_n F (lv' := [(1, .int 1), (0, .ref (g.2.1 v0))]) dX3_spreadOut_1 (by decide) rfl ?_
  refine j_iconst F (v := 0) dX3_spreadOut_2 (by decide) ?_
  refine j_istore_n F (lv' := [(2, .int 0), (1, .int 1), (0, .ref (g.2.1 v0))]) dX3_spreadOut_3 (by decide) rfl ?_
  refine j_sub [2, 1, 0] rfl ?_
  obtain ⟨y4, hlp4, hm⟩ := Option.bind_eq_some_iff.mp hm
  refine loopO_walk (fun x => m_X3_spreadOut_L4 v0 x.1 x.2.1 x.2.2) (fun x => J p l e rmX3_spreadOut s m args below meth c g A 3 (MQ below (QC g A none S') args s 0 0 A) 0 0 4 [(0, .ref (g.2.1 v0)), (1, .int x.1), (2, .int x.2.1)] [] x.2.2) (fun x => J p l e rmX3_spreadOut s m args below meth c g A 3 (MQ below (QC g A none S') args s 0 0 A) 0 0 27 [] [] x) (fun x o1 hm hk1 => ?_) hlp4 ?_
  · obtain ⟨v1, v2, S⟩ := x
    replace hm : m_X3_spreadOut_L4 v0 v1 v2 S = some o1 := hm
    show J p l e rmX3_spreadOut s m args below meth c g A 3 (MQ below (QC g A none S') args s 0 0 A) 0 0 4 [(0, .ref (g.2.1 v0)), (1, .int v1), (2, .int v2)] [] S
    unfold m_X3_spreadOut_L4 at hm
    refine j_iload_n F 2 dX3_spreadOut_4 rfl ?_
    refine j_sipush F (v := 196) dX3_spreadOut_5 (by decide) ?_
    refine j_icmp_ge F (tgt := 27) dX3_spreadOut_8 (by decide) hm (fun _ hm => ?_) (fun _ hm => ?_)
    · cases hm
      refine j_sub [] rfl ?_
      exact hk1
    · refine j_iload_n F 1 dX3_spreadOut_11 rfl ?_
      refine j_if_eq F (tgt := 27) dX3_spreadOut_12 (by decide) hm (fun _ hm => ?_) (fun _ hm => ?_)
      · cases hm
        refine j_sub [] rfl ?_
        exact hk1
      · refine j_aload_n F 0 dX3_spreadOut_15 rfl ?_
        refine j_aload_n F 0 dX3_spreadOut_16 rfl ?_
        obtain ⟨r17, S17, hc17, hm⟩ := bndE_ok hm
        refine j_callV F (n := 1) (As := [.ref (g.2.1 v0)]) (rest := []) (c_X3_doSteps l g hg v0 v0 hv0 hv0 S r17 S17 hc17) gw_X3_88 (by decide +kernel) ⟨Nat.le_of_ble_eq_true rfl, Nat.le_of_ble_eq_true rfl⟩ ⟨Nat.le_of_ble_eq_true rfl, Nat.le_of_ble_eq_true rfl⟩ (isSt_lay hv0).1 rfl rfl rfl (Nat.le_of_ble_eq_true rfl) dX3_spreadOut_17 ?_
        show J p l e rmX3_spreadOut s m args below meth c g A 3 (MQ below (QC g A none S') args s 0 0 A) 0 0 20 [(0, .ref (g.2.1 v0)), (1, .int v1), (2, .int v2)] [.int r17] S17
        refine j_istore_n F (lv' := [(1, .int r17), (0, .ref (g.2.1 v0)), (2, .int v2)]) dX3_spreadOut_20 (by decide) rfl ?_
        refine j_iinc F (v := v2 + 1) (lv' := [(2, .int (v2 + 1)), (1, .int r17), (0, .ref (g.2.1 v0))]) 2 dX3_spreadOut_21 rfl rfl (by decide) rfl ?_
        refine j_goto F (tgt := 4) dX3_spreadOut_24 (by decide) ?_
        cases hm
        refine j_sub [2, 1, 0] rfl ?_
        exact hk1
  · show J p l e rmX3_spreadOut s m args below meth c g A 3 (MQ below (QC g A none S') args s 0 0 A) 0 0 27 [] [] y4
    refine j_sub [] rfl ?_
    exact hj27 y4  hm
def m_X3_makeEmpty_L17 (v0 : Nat) (v1 : Int32) (S : Hs) : Option ((Int32 × Hs) ⊕ Hs) := if 7 ≤ v1 then (some (.inr S)) else (gd (inb v1 7) (bnd (sA S (v0 + 1) v1.toNatClampNeg 0) fun S29 => (some (.inl ((v1 + 1, S29))))))
noncomputable def m_X3_makeEmpty (v0 : Nat) (S : Hs) : Option (Hs) := bnd (sI S v0 0 0) fun S2 => (bnd (sI S2 v0 1 0) fun S7 => (bnd (sI S7 v0 2 0) fun S12 => ((loopO (fun x => m_X3_makeEmpty_L17 v0 x.1 x.2) ((0, S12))).bind fun y17 => some y17)))
set_option maxRecDepth 100000 in
set_option maxHeartbeats 4000000 in
theorem c_X3_makeEmpty (l : Launch) (g : GG) (hg : Inj g) (v0 : Nat) (hv0 : isSt v0 = true) (S : Hs) (S' : Hs) (hm : m_X3_makeEmpty v0 S = some S') : CM l yX3_makeEmpty [.code yX3_makeEmpty cX3_makeEmpty 2 none] rmX3_makeEmpty [.ref (g.2.1 v0)] g S none S' := by
  unfold m_X3_makeEmpty at hm
  refine CM.of (cc := cX3_makeEmpty) (nL := 2) (ret := none) (lv := [(0, .ref (g.2.1 v0))]) (by decide +kernel) hg (Nat.le_of_ble_eq_true rfl) rfl (fun p e s m args below meth c A F => ?_)
  replace F : Fx p s m meth c cX3_makeEmpty RX3 2 none g A := F
  show J p l e rmX3_makeEmpty s m args below meth c g A 2 (MQ below (QC g A none S') args s 0 0 A) 0 0 0 [(0, .ref (g.2.1 v0))] [] S
  refine j_aload_n F 0 dX3_makeEmpty_0 rfl ?_
  refine j_iconst F (v := 0) dX3_makeEmpty_1 (by decide) ?_
  refine j_putI F (k0 := 0) (C := RX3) (T := TX3) (N := 4) tyX3 tyX3_ok nmX3 (isSt_lay hv0).1 rfl rfl inF3 (by decide) tw13 rfl (by decide +kernel) dX3_makeEmpty_2 ?_
  refine j_bndS hm (fun S2 hm => ?_)
  refine j_aload_n F 0 dX3_makeEmpty_5 rfl ?_
  refine j_iconst F (v := 0) dX3_makeEmpty_6 (by decide) ?_
  refine j_putI F (k0 := 1) (C := RX3) (T := TX3) (N := 4) tyX3 tyX3_ok nmX3 (isSt_lay hv0).1 rfl rfl inF3 (by decide) tw14 rfl (by decide +kernel) dX3_makeEmpty_7 ?_
  refine j_bndS hm (fun S7 hm => ?_)
  refine j_aload_n F 0 dX3_makeEmpty_10 rfl ?_
  refine j_iconst F (v := 0) dX3_makeEmpty_11 (by decide) ?_
  refine j_putI F (k0 := 2) (C := RX3) (T := TX3) (N := 4) tyX3 tyX3_ok nmX3 (isSt_lay hv0).1 rfl rfl inF3 (by decide) tw15 rfl (by decide +kernel) dX3_makeEmpty_12 ?_
  refine j_bndS hm (fun S12 hm => ?_)
  refine j_iconst F (v := 0) dX3_makeEmpty_15 (by decide) ?_
  refine j_istore_n F (lv' := [(1, .int 0), (0, .ref (g.2.1 v0))]) dX3_makeEmpty_16 (by decide) rfl ?_
  refine j_sub [1, 0] rfl ?_
  obtain ⟨y17, hlp17, hm⟩ := Option.bind_eq_some_iff.mp hm
  refine loopO_walk (fun x => m_X3_makeEmpty_L17 v0 x.1 x.2) (fun x => J p l e rmX3_makeEmpty s m args below meth c g A 2 (MQ below (QC g A none S') args s 0 0 A) 0 0 17 [(0, .ref (g.2.1 v0)), (1, .int x.1)] [] x.2) (fun x => J p l e rmX3_makeEmpty s m args below meth c g A 2 (MQ below (QC g A none S') args s 0 0 A) 0 0 36 [] [] x) (fun x o1 hm hk1 => ?_) hlp17 ?_
  · obtain ⟨v1, S⟩ := x
    replace hm : m_X3_makeEmpty_L17 v0 v1 S = some o1 := hm
    show J p l e rmX3_makeEmpty s m args below meth c g A 2 (MQ below (QC g A none S') args s 0 0 A) 0 0 17 [(0, .ref (g.2.1 v0)), (1, .int v1)] [] S
    unfold m_X3_makeEmpty_L17 at hm
    refine j_iload_n F 1 dX3_makeEmpty_17 rfl ?_
    refine j_bipush F (v := 7) dX3_makeEmpty_18 (by decide) ?_
    refine j_icmp_ge F (tgt := 36) dX3_makeEmpty_20 (by decide) hm (fun _ hm => ?_) (fun _ hm => ?_)
    · cases hm
      refine j_sub [] rfl ?_
      exact hk1
    · refine j_aload_n F 0 dX3_makeEmpty_23 rfl ?_
      refine j_getR F (k0 := 3) (C := RX3) (T := TX3) (N := 4) (isSt_lay hv0).1 rfl rfl inF3 (by decide) tw4 dX3_makeEmpty_24 ?_
      refine j_iload_n F 1 dX3_makeEmpty_27 rfl ?_
      refine j_iconst F (v := 0) dX3_makeEmpty_28 (by decide) ?_
      refine j_iast F (isSt_lay hv0).2 dX3_makeEmpty_29 hm (fun hm => ?_)
      refine j_bndS hm (fun S29 hm => ?_)
      refine j_iinc F (v := v1 + 1) (lv' := [(1, .int (v1 + 1)), (0, .ref (g.2.1 v0))]) 1 dX3_makeEmpty_30 rfl rfl (by decide) rfl ?_
      refine j_goto F (tgt := 17) dX3_makeEmpty_33 (by decide) ?_
      cases hm
      refine j_sub [1, 0] rfl ?_
      exact hk1
  · show J p l e rmX3_makeEmpty s m args below meth c g A 2 (MQ below (QC g A none S') args s 0 0 A) 0 0 36 [] [] y17
    exact j_vret_e F rfl dX3_makeEmpty_36 hm
def m_X3_isPerson_J16 (w0 : Int32) (S : Hs) : Option (Int32) := gd (decide (w0 = 0 ∨ w0 = 1)) (some w0)
def m_X3_isPerson (v0 : Nat) (v1 : Int32) (S : Hs) : Option (Int32) := if (((gI S v0 1) >>> (v1 &&& 31)) &&& 1) = 0 then (m_X3_isPerson_J16 0 S) else (m_X3_isPerson_J16 1 S)
set_option maxRecDepth 100000 in
set_option maxHeartbeats 4000000 in
theorem c_X3_isPerson (l : Launch) (g : GG) (hg : Inj g) (v0 : Nat) (v1 : Int32) (hv0 : isSt v0 = true) (S : Hs) (r : Int32) (hm : m_X3_isPerson v0 v1 S = some r) : CM l yX3_isPerson [.code yX3_isPerson cX3_isPerson 2 (some .boolean)] rmX3_isPerson [.ref (g.2.1 v0), .int v1] g S (some (.int r)) S := by
  unfold m_X3_isPerson at hm
  refine CM.of (cc := cX3_isPerson) (nL := 2) (ret := (some .boolean)) (lv := [(0, .ref (g.2.1 v0)), (1, .int v1)]) (by decide +kernel) hg (Nat.le_of_ble_eq_true rfl) rfl (fun p e s m args below meth c A F => ?_)
  replace F : Fx p s m meth c cX3_isPerson RX3 2 (some .boolean) g A := F
  show J p l e rmX3_isPerson s m args below meth c g A 2 (MQ below (QC g A (some (.int r)) S) args s 0 0 A) 0 0 0 [(0, .ref (g.2.1 v0)), (1, .int v1)] [] S
  have hj16 : ∀ (w0 : Int32) (S : Hs), m_X3_isPerson_J16 w0 S = some r → J p l e rmX3_isPerson s m args below meth c g A 2 (MQ below (QC g A (some (.int r)) S) args s 0 0 A) 0 0 16 [] [.int w0] S := by
    intro w0 S hm
    unfold m_X3_isPerson_J16 at hm
    obtain ⟨hb, hm⟩ := gd_ok hm
    exact j_zret_p F rfl (z_nar hb) dX3_isPerson_16 hm
  refine j_aload_n F 0 dX3_isPerson_0 rfl ?_
  refine j_getI F (k0 := 1) (C := RX3) (T := TX3) (N := 4) (isSt_lay hv0).1 rfl rfl inF3 (by decide) tw14 dX3_isPerson_1 ?_
  refine j_iload_n F 1 dX3_isPerson_4 rfl ?_
  refine j_ishr F dX3_isPerson_5 ?_
  refine j_iconst F (v := 1) dX3_isPerson_6 (by decide) ?_
  refine j_iand F dX3_isPerson_7 ?_
  refine j_if_eq F (tgt := 15) dX3_isPerson_8 (by decide) hm (fun _ hm => ?_) (fun _ hm => ?_)
  · refine j_iconst F (v := 0) dX3_isPerson_15 (by decide) ?_
    refine j_sub [] rfl ?_
    exact hj16 0 S  hm
  · refine j_iconst F (v := 1) dX3_isPerson_11 (by decide) ?_
    refine j_goto F (tgt := 16) dX3_isPerson_12 (by decide) ?_
    refine j_sub [] rfl ?_
    exact hj16 1 S  hm
def m_X5_rightOf (v0 : Int32) (v1 : Int32) (v2 : Int32) : Option (Int32) := some (((28 * v0) + (7 * v1)) + v2)
set_option maxRecDepth 100000 in
set_option maxHeartbeats 4000000 in
theorem c_X5_rightOf (l : Launch) (g : GG) (hg : Inj g) (v0 : Int32) (v1 : Int32) (v2 : Int32)  (S : Hs) (r : Int32) (hm : m_X5_rightOf v0 v1 v2 = some r) : CM l yX5_rightOf [.code yX5_rightOf cX5_rightOf 3 (some .int)] rmX5_rightOf [.int v0, .int v1, .int v2] g S (some (.int r)) S := by
  unfold m_X5_rightOf at hm
  refine CM.of (cc := cX5_rightOf) (nL := 3) (ret := (some .int)) (lv := [(0, .int v0), (1, .int v1), (2, .int v2)]) (by decide +kernel) hg (Nat.le_of_ble_eq_true rfl) rfl (fun p e s m args below meth c A F => ?_)
  replace F : Fx p s m meth c cX5_rightOf RX5 3 (some .int) g A := F
  show J p l e rmX5_rightOf s m args below meth c g A 3 (MQ below (QC g A (some (.int r)) S) args s 0 0 A) 0 0 0 [(0, .int v0), (1, .int v1), (2, .int v2)] [] S
  refine j_bipush F (v := 28) dX5_rightOf_0 (by decide) ?_
  refine j_iload_n F 0 dX5_rightOf_2 rfl ?_
  refine j_imul F dX5_rightOf_3 ?_
  refine j_bipush F (v := 7) dX5_rightOf_4 (by decide) ?_
  refine j_iload_n F 1 dX5_rightOf_6 rfl ?_
  refine j_imul F dX5_rightOf_7 ?_
  refine j_iadd F dX5_rightOf_8 ?_
  refine j_iload_n F 2 dX5_rightOf_9 rfl ?_
  refine j_iadd F dX5_rightOf_10 ?_
  exact j_iret_p F rfl dX5_rightOf_11 hm
def m_X3_has_J24 (w0 : Int32) (S : Hs) : Option (Int32) := gd (decide (w0 = 0 ∨ w0 = 1)) (some w0)
def m_X3_has (v0 : Nat) (v1 : Int32) (S : Hs) : Option (Int32) := gd (inb (v1 / 28) 7) (if (((gA S (v0 + 1) (v1 / 28).toNatClampNeg) >>> ((irm v1 28) &&& 31)) &&& 1) = 0 then (m_X3_has_J24 0 S) else (m_X3_has_J24 1 S))
set_option maxRecDepth 100000 in
set_option maxHeartbeats 4000000 in
theorem c_X3_has (l : Launch) (g : GG) (hg : Inj g) (v0 : Nat) (v1 : Int32) (hv0 : isSt v0 = true) (S : Hs) (r : Int32) (hm : m_X3_has v0 v1 S = some r) : CM l yX3_has [.code yX3_has cX3_has 2 (some .boolean)] rmX3_has [.ref (g.2.1 v0), .int v1] g S (some (.int r)) S := by
  unfold m_X3_has at hm
  refine CM.of (cc := cX3_has) (nL := 2) (ret := (some .boolean)) (lv := [(0, .ref (g.2.1 v0)), (1, .int v1)]) (by decide +kernel) hg (Nat.le_of_ble_eq_true rfl) rfl (fun p e s m args below meth c A F => ?_)
  replace F : Fx p s m meth c cX3_has RX3 2 (some .boolean) g A := F
  show J p l e rmX3_has s m args below meth c g A 2 (MQ below (QC g A (some (.int r)) S) args s 0 0 A) 0 0 0 [(0, .ref (g.2.1 v0)), (1, .int v1)] [] S
  have hj24 : ∀ (w0 : Int32) (S : Hs), m_X3_has_J24 w0 S = some r → J p l e rmX3_has s m args below meth c g A 2 (MQ below (QC g A (some (.int r)) S) args s 0 0 A) 0 0 24 [] [.int w0] S := by
    intro w0 S hm
    unfold m_X3_has_J24 at hm
    obtain ⟨hb, hm⟩ := gd_ok hm
    exact j_zret_p F rfl (z_nar hb) dX3_has_24 hm
  refine j_aload_n F 0 dX3_has_0 rfl ?_
  refine j_getR F (k0 := 3) (C := RX3) (T := TX3) (N := 4) (isSt_lay hv0).1 rfl rfl inF3 (by decide) tw4 dX3_has_1 ?_
  refine j_iload_n F 1 dX3_has_4 rfl ?_
  refine j_bipush F (v := 28) dX3_has_5 (by decide) ?_
  refine j_idiv F dX3_has_7 (by decide) ?_
  refine j_iald F (isSt_lay hv0).2 dX3_has_8 hm (fun hm => ?_)
  refine j_iload_n F 1 dX3_has_9 rfl ?_
  refine j_bipush F (v := 28) dX3_has_10 (by decide) ?_
  refine j_irem F dX3_has_12 (by decide) ?_
  refine j_ishr F dX3_has_13 ?_
  refine j_iconst F (v := 1) dX3_has_14 (by decide) ?_
  refine j_iand F dX3_has_15 ?_
  refine j_if_eq F (tgt := 23) dX3_has_16 (by decide) hm (fun _ hm => ?_) (fun _ hm => ?_)
  · refine j_iconst F (v := 0) dX3_has_23 (by decide) ?_
    refine j_sub [] rfl ?_
    exact hj24 0 S  hm
  · refine j_iconst F (v := 1) dX3_has_19 (by decide) ?_
    refine j_goto F (tgt := 24) dX3_has_20 (by decide) ?_
    refine j_sub [] rfl ?_
    exact hj24 1 S  hm
def m_X3_exists_J17 (w0 : Int32) (S : Hs) : Option (Int32) := gd (decide (w0 = 0 ∨ w0 = 1)) (some w0)
def m_X3_exists_J16 (S : Hs) : Option (Int32) := m_X3_exists_J17 0 S
def m_X3_exists (v0 : Nat) (v1 : Int32) (S : Hs) : Option (Int32) := if v1 < 0 then (m_X3_exists_J16 S) else (if (gI S v0 0) ≤ v1 then (m_X3_exists_J16 S) else (m_X3_exists_J17 1 S))
set_option maxRecDepth 100000 in
set_option maxHeartbeats 4000000 in
theorem c_X3_exists (l : Launch) (g : GG) (hg : Inj g) (v0 : Nat) (v1 : Int32) (hv0 : isSt v0 = true) (S : Hs) (r : Int32) (hm : m_X3_exists v0 v1 S = some r) : CM l yX3_exists [.code yX3_exists cX3_exists 2 (some .boolean)] rmX3_exists [.ref (g.2.1 v0), .int v1] g S (some (.int r)) S := by
  unfold m_X3_exists at hm
  refine CM.of (cc := cX3_exists) (nL := 2) (ret := (some .boolean)) (lv := [(0, .ref (g.2.1 v0)), (1, .int v1)]) (by decide +kernel) hg (Nat.le_of_ble_eq_true rfl) rfl (fun p e s m args below meth c A F => ?_)
  replace F : Fx p s m meth c cX3_exists RX3 2 (some .boolean) g A := F
  show J p l e rmX3_exists s m args below meth c g A 2 (MQ below (QC g A (some (.int r)) S) args s 0 0 A) 0 0 0 [(0, .ref (g.2.1 v0)), (1, .int v1)] [] S
  have hj17 : ∀ (w0 : Int32) (S : Hs), m_X3_exists_J17 w0 S = some r → J p l e rmX3_exists s m args below meth c g A 2 (MQ below (QC g A (some (.int r)) S) args s 0 0 A) 0 0 17 [] [.int w0] S := by
    intro w0 S hm
    unfold m_X3_exists_J17 at hm
    obtain ⟨hb, hm⟩ := gd_ok hm
    exact j_zret_p F rfl (z_nar hb) dX3_exists_17 hm
  have hj16 : ∀ (S : Hs), m_X3_exists_J16 S = some r → J p l e rmX3_exists s m args below meth c g A 2 (MQ below (QC g A (some (.int r)) S) args s 0 0 A) 0 0 16 [] [] S := by
    intro S hm
    unfold m_X3_exists_J16 at hm
    refine j_iconst F (v := 0) dX3_exists_16 (by decide) ?_
    refine j_sub [] rfl ?_
    exact hj17 0 S  hm
  refine j_iload_n F 1 dX3_exists_0 rfl ?_
  refine j_if_lt F (tgt := 16) dX3_exists_1 (by decide) hm (fun _ hm => ?_) (fun _ hm => ?_)
  · refine j_sub [] rfl ?_
    exact hj16 S  hm
  · refine j_iload_n F 1 dX3_exists_4 rfl ?_
    refine j_aload_n F 0 dX3_exists_5 rfl ?_
    refine j_getI F (k0 := 0) (C := RX3) (T := TX3) (N := 4) (isSt_lay hv0).1 rfl rfl inF3 (by decide) tw13 dX3_exists_6 ?_
    refine j_icmp_ge F (tgt := 16) dX3_exists_9 (by decide) hm (fun _ hm => ?_) (fun _ hm => ?_)
    · refine j_sub [] rfl ?_
      exact hj16 S  hm
    · refine j_iconst F (v := 1) dX3_exists_12 (by decide) ?_
      refine j_goto F (tgt := 17) dX3_exists_13 (by decide) ?_
      refine j_sub [] rfl ?_
      exact hj17 1 S  hm
def m_X3_countRightsOver_L4 (v0 : Nat) (v1 : Int32) (S : Hs) (v2 : Int32) (v3 : Int32) : Option ((Int32 × Int32) ⊕ Int32) := if (gI S v0 0) ≤ v3 then (some (.inr v2)) else (gd (inb v3 7) ((m_J6_bitCount_0f7a4 ((gA S (v0 + 1) v3.toNatClampNeg) &&& (2113665 <<< (v1 &&& 31)))).bind fun r24 => (bnd (v2 + r24) fun v2_28 => (some (.inl ((v2_28, v3 + 1)))))))
noncomputable def m_X3_countRightsOver (v0 : Nat) (v1 : Int32) (S : Hs) : Option (Int32) := (loopO (fun x => m_X3_countRightsOver_L4 v0 v1 S x.1 x.2) ((0, 0))).bind fun y4 => some y4
set_option maxRecDepth 100000 in
set_option maxHeartbeats 4000000 in
theorem c_X3_countRightsOver (l : Launch) (g : GG) (hg : Inj g) (v0 : Nat) (v1 : Int32) (hv0 : isSt v0 = true) (S : Hs) (r : Int32) (hm : m_X3_countRightsOver v0 v1 S = some r) : CM l yX3_countRightsOver [.code yX3_countRightsOver cX3_countRightsOver 4 (some .int)] rmX3_countRightsOver [.ref (g.2.1 v0), .int v1] g S (some (.int r)) S := by
  unfold m_X3_countRightsOver at hm
  refine CM.of (cc := cX3_countRightsOver) (nL := 4) (ret := (some .int)) (lv := [(0, .ref (g.2.1 v0)), (1, .int v1)]) (by decide +kernel) hg (Nat.le_of_ble_eq_true rfl) rfl (fun p e s m args below meth c A F => ?_)
  replace F : Fx p s m meth c cX3_countRightsOver RX3 4 (some .int) g A := F
  show J p l e rmX3_countRightsOver s m args below meth c g A 4 (MQ below (QC g A (some (.int r)) S) args s 0 0 A) 0 0 0 [(0, .ref (g.2.1 v0)), (1, .int v1)] [] S
  refine j_iconst F (v := 0) dX3_countRightsOver_0 (by decide) ?_
  refine j_istore_n F (lv' := [(2, .int 0), (0, .ref (g.2.1 v0)), (1, .int v1)]) dX3_countRightsOver_1 (by decide) rfl ?_
  refine j_iconst F (v := 0) dX3_countRightsOver_2 (by decide) ?_
  refine j_istore_n F (lv' := [(3, .int 0), (2, .int 0), (0, .ref (g.2.1 v0)), (1, .int v1)]) dX3_countRightsOver_3 (by decide) rfl ?_
  refine j_sub [2, 3, 1, 0] rfl ?_
  obtain ⟨y4, hlp4, hm⟩ := Option.bind_eq_some_iff.mp hm
  refine loopO_walk (fun x => m_X3_countRightsOver_L4 v0 v1 S x.1 x.2) (fun x => J p l e rmX3_countRightsOver s m args below meth c g A 4 (MQ below (QC g A (some (.int r)) S) args s 0 0 A) 0 0 4 [(0, .ref (g.2.1 v0)), (1, .int v1), (2, .int x.1), (3, .int x.2)] [] S) (fun x => J p l e rmX3_countRightsOver s m args below meth c g A 4 (MQ below (QC g A (some (.int r)) S) args s 0 0 A) 0 0 35 [(2, .int x)] [] S) (fun x o1 hm hk1 => ?_) hlp4 ?_
  · obtain ⟨v2, v3⟩ := x
    replace hm : m_X3_countRightsOver_L4 v0 v1 S v2 v3 = some o1 := hm
    show J p l e rmX3_countRightsOver s m args below meth c g A 4 (MQ below (QC g A (some (.int r)) S) args s 0 0 A) 0 0 4 [(0, .ref (g.2.1 v0)), (1, .int v1), (2, .int v2), (3, .int v3)] [] S
    unfold m_X3_countRightsOver_L4 at hm
    refine j_iload_n F 3 dX3_countRightsOver_4 rfl ?_
    refine j_aload_n F 0 dX3_countRightsOver_5 rfl ?_
    refine j_getI F (k0 := 0) (C := RX3) (T := TX3) (N := 4) (isSt_lay hv0).1 rfl rfl inF3 (by decide) tw13 dX3_countRightsOver_6 ?_
    refine j_icmp_ge F (tgt := 35) dX3_countRightsOver_9 (by decide) hm (fun _ hm => ?_) (fun _ hm => ?_)
    · cases hm
      refine j_sub [2] rfl ?_
      exact hk1
    · refine j_iload_n F 2 dX3_countRightsOver_12 rfl ?_
      refine j_aload_n F 0 dX3_countRightsOver_13 rfl ?_
      refine j_getR F (k0 := 3) (C := RX3) (T := TX3) (N := 4) (isSt_lay hv0).1 rfl rfl inF3 (by decide) tw4 dX3_countRightsOver_14 ?_
      refine j_iload_n F 3 dX3_countRightsOver_17 rfl ?_
      refine j_iald F (isSt_lay hv0).2 dX3_countRightsOver_18 hm (fun hm => ?_)
      refine j_ldc F (v := 2113665) dX3_countRightsOver_19 tw25 ?_
      refine j_iload_n F 1 dX3_countRightsOver_21 rfl ?_
      refine j_ishl F dX3_countRightsOver_22 ?_
      refine j_iand F dX3_countRightsOver_23 ?_
      obtain ⟨r24, hc24, hm⟩ := Option.bind_eq_some_iff.mp hm
      refine j_callS F (n := 1) (As := [.int ((gA S (v0 + 1) v3.toNatClampNeg) &&& (2113665 <<< (v1 &&& 31)))]) (rest := [.int v2]) (c_J6_bitCount_0f7a4 l g hg ((gA S (v0 + 1) v3.toNatClampNeg) &&& (2113665 <<< (v1 &&& 31))) S r24 hc24) gw_X3_50 (by decide +kernel) ⟨Nat.le_of_ble_eq_true rfl, Nat.le_of_ble_eq_true rfl⟩ ⟨Nat.le_of_ble_eq_true rfl, Nat.le_of_ble_eq_true rfl⟩ rfl rfl (Nat.le_of_ble_eq_true rfl) dX3_countRightsOver_24 ?_
      show J p l e rmX3_countRightsOver s m args below meth c g A 4 (MQ below (QC g A (some (.int r)) S) args s 0 0 A) 0 0 27 [(0, .ref (g.2.1 v0)), (1, .int v1), (2, .int v2), (3, .int v3)] [.int r24, .int v2] S
      refine j_iadd F dX3_countRightsOver_27 ?_
      refine j_bnd hm (fun v2_28 hm => ?_)
      refine j_istore_n F (lv' := [(2, .int v2_28), (0, .ref (g.2.1 v0)), (1, .int v1), (3, .int v3)]) dX3_countRightsOver_28 (by decide) rfl ?_
      refine j_iinc F (v := v3 + 1) (lv' := [(3, .int (v3 + 1)), (2, .int v2_28), (0, .ref (g.2.1 v0)), (1, .int v1)]) 3 dX3_countRightsOver_29 rfl rfl (by decide) rfl ?_
      refine j_goto F (tgt := 4) dX3_countRightsOver_32 (by decide) ?_
      cases hm
      refine j_sub [2, 3, 1, 0] rfl ?_
      exact hk1
  · show J p l e rmX3_countRightsOver s m args below meth c g A 4 (MQ below (QC g A (some (.int r)) S) args s 0 0 A) 0 0 35 [(2, .int y4)] [] S
    refine j_iload_n F 0 dX3_countRightsOver_35 rfl ?_
    exact j_iret_p F rfl dX3_countRightsOver_36 hm
def m_X3_isRight_J35 (w0 : Int32) (S : Hs) : Option (Int32) := gd (decide (w0 = 0 ∨ w0 = 1)) (some w0)
def m_X3_isRight_J34 (S : Hs) : Option (Int32) := m_X3_isRight_J35 0 S
def m_X3_isRight (v0 : Nat) (v1 : Int32) (v2 : Int32) (v3 : Int32) (S : Hs) : Option (Int32) := (m_X3_exists v0 v1 S).bind fun r2 => (if r2 = 0 then (m_X3_isRight_J34 S) else ((m_X3_exists v0 v3 S).bind fun r10 => (if r10 = 0 then (m_X3_isRight_J34 S) else (if v1 = v3 then (m_X3_isRight_J34 S) else (if v2 < 0 then (m_X3_isRight_J34 S) else (if 4 ≤ v2 then (m_X3_isRight_J34 S) else (m_X3_isRight_J35 1 S)))))))
set_option maxRecDepth 100000 in
set_option maxHeartbeats 4000000 in
theorem c_X3_isRight (l : Launch) (g : GG) (hg : Inj g) (v0 : Nat) (v1 : Int32) (v2 : Int32) (v3 : Int32) (hv0 : isSt v0 = true) (S : Hs) (r : Int32) (hm : m_X3_isRight v0 v1 v2 v3 S = some r) : CM l yX3_isRight [.code yX3_isRight cX3_isRight 4 (some .boolean)] rmX3_isRight [.ref (g.2.1 v0), .int v1, .int v2, .int v3] g S (some (.int r)) S := by
  unfold m_X3_isRight at hm
  refine CM.of (cc := cX3_isRight) (nL := 4) (ret := (some .boolean)) (lv := [(0, .ref (g.2.1 v0)), (1, .int v1), (2, .int v2), (3, .int v3)]) (by decide +kernel) hg (Nat.le_of_ble_eq_true rfl) rfl (fun p e s m args below meth c A F => ?_)
  replace F : Fx p s m meth c cX3_isRight RX3 4 (some .boolean) g A := F
  show J p l e rmX3_isRight s m args below meth c g A 4 (MQ below (QC g A (some (.int r)) S) args s 0 0 A) 0 0 0 [(0, .ref (g.2.1 v0)), (1, .int v1), (2, .int v2), (3, .int v3)] [] S
  have hj35 : ∀ (w0 : Int32) (S : Hs), m_X3_isRight_J35 w0 S = some r → J p l e rmX3_isRight s m args below meth c g A 4 (MQ below (QC g A (some (.int r)) S) args s 0 0 A) 0 0 35 [] [.int w0] S := by
    intro w0 S hm
    unfold m_X3_isRight_J35 at hm
    obtain ⟨hb, hm⟩ := gd_ok hm
    exact j_zret_p F rfl (z_nar hb) dX3_isRight_35 hm
  have hj34 : ∀ (S : Hs), m_X3_isRight_J34 S = some r → J p l e rmX3_isRight s m args below meth c g A 4 (MQ below (QC g A (some (.int r)) S) args s 0 0 A) 0 0 34 [] [] S := by
    intro S hm
    unfold m_X3_isRight_J34 at hm
    refine j_iconst F (v := 0) dX3_isRight_34 (by decide) ?_
    refine j_sub [] rfl ?_
    exact hj35 0 S  hm
  refine j_aload_n F 0 dX3_isRight_0 rfl ?_
  refine j_iload_n F 1 dX3_isRight_1 rfl ?_
  obtain ⟨r2, hc2, hm⟩ := Option.bind_eq_some_iff.mp hm
  refine j_callV F (n := 1) (As := [.int v1]) (rest := []) (c_X3_exists l g hg v0 v1 hv0 S r2 hc2) gw_X3_25 (by decide +kernel) ⟨Nat.le_of_ble_eq_true rfl, Nat.le_of_ble_eq_true rfl⟩ ⟨Nat.le_of_ble_eq_true rfl, Nat.le_of_ble_eq_true rfl⟩ (isSt_lay hv0).1 rfl rfl rfl (Nat.le_of_ble_eq_true rfl) dX3_isRight_2 ?_
  show J p l e rmX3_isRight s m args below meth c g A 4 (MQ below (QC g A (some (.int r)) S) args s 0 0 A) 0 0 5 [(0, .ref (g.2.1 v0)), (1, .int v1), (2, .int v2), (3, .int v3)] [.int r2] S
  refine j_if_eq F (tgt := 34) dX3_isRight_5 (by decide) hm (fun _ hm => ?_) (fun _ hm => ?_)
  · refine j_sub [] rfl ?_
    exact hj34 S  hm
  · refine j_aload_n F 0 dX3_isRight_8 rfl ?_
    refine j_iload_n F 3 dX3_isRight_9 rfl ?_
    obtain ⟨r10, hc10, hm⟩ := Option.bind_eq_some_iff.mp hm
    refine j_callV F (n := 1) (As := [.int v3]) (rest := []) (c_X3_exists l g hg v0 v3 hv0 S r10 hc10) gw_X3_25 (by decide +kernel) ⟨Nat.le_of_ble_eq_true rfl, Nat.le_of_ble_eq_true rfl⟩ ⟨Nat.le_of_ble_eq_true rfl, Nat.le_of_ble_eq_true rfl⟩ (isSt_lay hv0).1 rfl rfl rfl (Nat.le_of_ble_eq_true rfl) dX3_isRight_10 ?_
    show J p l e rmX3_isRight s m args below meth c g A 4 (MQ below (QC g A (some (.int r)) S) args s 0 0 A) 0 0 13 [(0, .ref (g.2.1 v0)), (1, .int v1), (2, .int v2), (3, .int v3)] [.int r10] S
    refine j_if_eq F (tgt := 34) dX3_isRight_13 (by decide) hm (fun _ hm => ?_) (fun _ hm => ?_)
    · refine j_sub [] rfl ?_
      exact hj34 S  hm
    · refine j_iload_n F 1 dX3_isRight_16 rfl ?_
      refine j_iload_n F 3 dX3_isRight_17 rfl ?_
      refine j_icmp_eq F (tgt := 34) dX3_isRight_18 (by decide) hm (fun _ hm => ?_) (fun _ hm => ?_)
      · refine j_sub [] rfl ?_
        exact hj34 S  hm
      · refine j_iload_n F 2 dX3_isRight_21 rfl ?_
        refine j_if_lt F (tgt := 34) dX3_isRight_22 (by decide) hm (fun _ hm => ?_) (fun _ hm => ?_)
        · refine j_sub [] rfl ?_
          exact hj34 S  hm
        · refine j_iload_n F 2 dX3_isRight_25 rfl ?_
          refine j_iconst F (v := 4) dX3_isRight_26 (by decide) ?_
          refine j_icmp_ge F (tgt := 34) dX3_isRight_27 (by decide) hm (fun _ hm => ?_) (fun _ hm => ?_)
          · refine j_sub [] rfl ?_
            exact hj34 S  hm
          · refine j_iconst F (v := 1) dX3_isRight_30 (by decide) ?_
            refine j_goto F (tgt := 35) dX3_isRight_31 (by decide) ?_
            refine j_sub [] rfl ?_
            exact hj35 1 S  hm
def m_X5_ownerOf (v0 : Int32) : Option (Int32) := some (v0 / 28)
set_option maxRecDepth 100000 in
set_option maxHeartbeats 4000000 in
theorem c_X5_ownerOf (l : Launch) (g : GG) (hg : Inj g) (v0 : Int32)  (S : Hs) (r : Int32) (hm : m_X5_ownerOf v0 = some r) : CM l yX5_ownerOf [.code yX5_ownerOf cX5_ownerOf 1 (some .int)] rmX5_ownerOf [.int v0] g S (some (.int r)) S := by
  unfold m_X5_ownerOf at hm
  refine CM.of (cc := cX5_ownerOf) (nL := 1) (ret := (some .int)) (lv := [(0, .int v0)]) (by decide +kernel) hg (Nat.le_of_ble_eq_true rfl) rfl (fun p e s m args below meth c A F => ?_)
  replace F : Fx p s m meth c cX5_ownerOf RX5 1 (some .int) g A := F
  show J p l e rmX5_ownerOf s m args below meth c g A 1 (MQ below (QC g A (some (.int r)) S) args s 0 0 A) 0 0 0 [(0, .int v0)] [] S
  refine j_iload_n F 0 dX5_ownerOf_0 rfl ?_
  refine j_bipush F (v := 28) dX5_ownerOf_1 (by decide) ?_
  refine j_idiv F dX5_ownerOf_3 (by decide) ?_
  exact j_iret_p F rfl dX5_ownerOf_4 hm
def m_X3_addOne_J38 (v0 : Nat) (S : Hs) : Option (Hs) := bnd (sI S v0 0 ((gI S v0 0) + 1)) fun S45 => (some S45)
def m_X3_addOne_J19 (v0 : Nat) (v2 : Int32) (S : Hs) : Option (Hs) := if v2 = 0 then (m_X3_addOne_J38 v0 S) else (bnd (sI S v0 2 ((gI S v0 2) ||| (1 <<< ((gI S v0 0) &&& 31)))) fun S35 => (m_X3_addOne_J38 v0 S35))
def m_X3_addOne (v0 : Nat) (v1 : Int32) (v2 : Int32) (S : Hs) : Option (Hs) := if v1 = 0 then (m_X3_addOne_J19 v0 v2 S) else (bnd (sI S v0 1 ((gI S v0 1) ||| (1 <<< ((gI S v0 0) &&& 31)))) fun S16 => (m_X3_addOne_J19 v0 v2 S16))
set_option maxRecDepth 100000 in
set_option maxHeartbeats 4000000 in
theorem c_X3_addOne (l : Launch) (g : GG) (hg : Inj g) (v0 : Nat) (v1 : Int32) (v2 : Int32) (hv0 : isSt v0 = true) (S : Hs) (S' : Hs) (hm : m_X3_addOne v0 v1 v2 S = some S') : CM l yX3_addOne [.code yX3_addOne cX3_addOne 3 none] rmX3_addOne [.ref (g.2.1 v0), .int v1, .int v2] g S none S' := by
  unfold m_X3_addOne at hm
  refine CM.of (cc := cX3_addOne) (nL := 3) (ret := none) (lv := [(0, .ref (g.2.1 v0)), (1, .int v1), (2, .int v2)]) (by decide +kernel) hg (Nat.le_of_ble_eq_true rfl) rfl (fun p e s m args below meth c A F => ?_)
  replace F : Fx p s m meth c cX3_addOne RX3 3 none g A := F
  show J p l e rmX3_addOne s m args below meth c g A 3 (MQ below (QC g A none S') args s 0 0 A) 0 0 0 [(0, .ref (g.2.1 v0)), (1, .int v1), (2, .int v2)] [] S
  have hj38 : ∀ (v0 : Nat) (S : Hs), isSt v0 = true → m_X3_addOne_J38 v0 S = some S' → J p l e rmX3_addOne s m args below meth c g A 3 (MQ below (QC g A none S') args s 0 0 A) 0 0 38 [(0, .ref (g.2.1 v0))] [] S := by
    intro v0 S hv0 hm
    unfold m_X3_addOne_J38 at hm
    refine j_aload_n F 0 dX3_addOne_38 rfl ?_
    refine j_dup F dX3_addOne_39 rfl ?_
    refine j_getI F (k0 := 0) (C := RX3) (T := TX3) (N := 4) (isSt_lay hv0).1 rfl rfl inF3 (by decide) tw13 dX3_addOne_40 ?_
    refine j_iconst F (v := 1) dX3_addOne_43 (by decide) ?_
    refine j_iadd F dX3_addOne_44 ?_
    refine j_putI F (k0 := 0) (C := RX3) (T := TX3) (N := 4) tyX3 tyX3_ok nmX3 (isSt_lay hv0).1 rfl rfl inF3 (by decide) tw13 rfl (by decide +kernel) dX3_addOne_45 ?_
    refine j_bndS hm (fun S45 hm => ?_)
    exact j_vret_e F rfl dX3_addOne_48 hm
  have hj19 : ∀ (v0 : Nat) (v2 : Int32) (S : Hs), isSt v0 = true → m_X3_addOne_J19 v0 v2 S = some S' → J p l e rmX3_addOne s m args below meth c g A 3 (MQ below (QC g A none S') args s 0 0 A) 0 0 19 [(0, .ref (g.2.1 v0)), (2, .int v2)] [] S := by
    intro v0 v2 S hv0 hm
    unfold m_X3_addOne_J19 at hm
    refine j_iload_n F 1 dX3_addOne_19 rfl ?_
    refine j_if_eq F (tgt := 38) dX3_addOne_20 (by decide) hm (fun _ hm => ?_) (fun _ hm => ?_)
    · refine j_sub [0] rfl ?_
      exact hj38 v0 S hv0 hm
    · refine j_aload_n F 0 dX3_addOne_23 rfl ?_
      refine j_dup F dX3_addOne_24 rfl ?_
      refine j_getI F (k0 := 2) (C := RX3) (T := TX3) (N := 4) (isSt_lay hv0).1 rfl rfl inF3 (by decide) tw15 dX3_addOne_25 ?_
      refine j_iconst F (v := 1) dX3_addOne_28 (by decide) ?_
      refine j_aload_n F 0 dX3_addOne_29 rfl ?_
      refine j_getI F (k0 := 0) (C := RX3) (T := TX3) (N := 4) (isSt_lay hv0).1 rfl rfl inF3 (by decide) tw13 dX3_addOne_30 ?_
      refine j_ishl F dX3_addOne_33 ?_
      refine j_ior F dX3_addOne_34 ?_
      refine j_putI F (k0 := 2) (C := RX3) (T := TX3) (N := 4) tyX3 tyX3_ok nmX3 (isSt_lay hv0).1 rfl rfl inF3 (by decide) tw15 rfl (by decide +kernel) dX3_addOne_35 ?_
      refine j_bndS hm (fun S35 hm => ?_)
      refine j_sub [0] rfl ?_
      exact hj38 v0 S35 hv0 hm
  refine j_iload_n F 1 dX3_addOne_0 rfl ?_
  refine j_if_eq F (tgt := 19) dX3_addOne_1 (by decide) hm (fun _ hm => ?_) (fun _ hm => ?_)
  · refine j_sub [0, 2] rfl ?_
    exact hj19 v0 v2 S hv0 hm
  · refine j_aload_n F 0 dX3_addOne_4 rfl ?_
    refine j_dup F dX3_addOne_5 rfl ?_
    refine j_getI F (k0 := 1) (C := RX3) (T := TX3) (N := 4) (isSt_lay hv0).1 rfl rfl inF3 (by decide) tw14 dX3_addOne_6 ?_
    refine j_iconst F (v := 1) dX3_addOne_9 (by decide) ?_
    refine j_aload_n F 0 dX3_addOne_10 rfl ?_
    refine j_getI F (k0 := 0) (C := RX3) (T := TX3) (N := 4) (isSt_lay hv0).1 rfl rfl inF3 (by decide) tw13 dX3_addOne_11 ?_
    refine j_ishl F dX3_addOne_14 ?_
    refine j_ior F dX3_addOne_15 ?_
    refine j_putI F (k0 := 1) (C := RX3) (T := TX3) (N := 4) tyX3 tyX3_ok nmX3 (isSt_lay hv0).1 rfl rfl inF3 (by decide) tw14 rfl (by decide +kernel) dX3_addOne_16 ?_
    refine j_bndS hm (fun S16 hm => ?_)
    refine j_sub [0, 2] rfl ?_
    exact hj19 v0 v2 S16 hv0 hm
def m_X3_setAwake_J26 (w0 : Int32) (w1 : Nat) (S : Hs) : Option (Hs) := bnd (sI S w1 2 w0) fun S26 => (some S26)
def m_X3_setAwake (v0 : Nat) (v1 : Int32) (v2 : Int32) (S : Hs) : Option (Hs) := if v2 = 0 then (m_X3_setAwake_J26 ((gI S v0 2) &&& ((1 <<< (v1 &&& 31)) ^^^ ((-1)))) v0 S) else (m_X3_setAwake_J26 ((gI S v0 2) ||| (1 <<< (v1 &&& 31))) v0 S)
set_option maxRecDepth 100000 in
set_option maxHeartbeats 4000000 in
theorem c_X3_setAwake (l : Launch) (g : GG) (hg : Inj g) (v0 : Nat) (v1 : Int32) (v2 : Int32) (hv0 : isSt v0 = true) (S : Hs) (S' : Hs) (hm : m_X3_setAwake v0 v1 v2 S = some S') : CM l yX3_setAwake [.code yX3_setAwake cX3_setAwake 3 none] rmX3_setAwake [.ref (g.2.1 v0), .int v1, .int v2] g S none S' := by
  unfold m_X3_setAwake at hm
  refine CM.of (cc := cX3_setAwake) (nL := 3) (ret := none) (lv := [(0, .ref (g.2.1 v0)), (1, .int v1), (2, .int v2)]) (by decide +kernel) hg (Nat.le_of_ble_eq_true rfl) rfl (fun p e s m args below meth c A F => ?_)
  replace F : Fx p s m meth c cX3_setAwake RX3 3 none g A := F
  show J p l e rmX3_setAwake s m args below meth c g A 3 (MQ below (QC g A none S') args s 0 0 A) 0 0 0 [(0, .ref (g.2.1 v0)), (1, .int v1), (2, .int v2)] [] S
  have hj26 : ∀ (w0 : Int32) (w1 : Nat) (S : Hs), isSt w1 = true → m_X3_setAwake_J26 w0 w1 S = some S' → J p l e rmX3_setAwake s m args below meth c g A 3 (MQ below (QC g A none S') args s 0 0 A) 0 0 26 [] [.int w0, .ref (g.2.1 w1)] S := by
    intro w0 w1 S hw1 hm
    unfold m_X3_setAwake_J26 at hm
    refine j_putI F (k0 := 2) (C := RX3) (T := TX3) (N := 4) tyX3 tyX3_ok nmX3 (isSt_lay hw1).1 rfl rfl inF3 (by decide) tw15 rfl (by decide +kernel) dX3_setAwake_26 ?_
    refine j_bndS hm (fun S26 hm => ?_)
    exact j_vret_e F rfl dX3_setAwake_29 hm
  refine j_aload_n F 0 dX3_setAwake_0 rfl ?_
  refine j_iload_n F 2 dX3_setAwake_1 rfl ?_
  refine j_if_eq F (tgt := 16) dX3_setAwake_2 (by decide) hm (fun _ hm => ?_) (fun _ hm => ?_)
  · refine j_aload_n F 0 dX3_setAwake_16 rfl ?_
    refine j_getI F (k0 := 2) (C := RX3) (T := TX3) (N := 4) (isSt_lay hv0).1 rfl rfl inF3 (by decide) tw15 dX3_setAwake_17 ?_
    refine j_iconst F (v := 1) dX3_setAwake_20 (by decide) ?_
    refine j_iload_n F 1 dX3_setAwake_21 rfl ?_
    refine j_ishl F dX3_setAwake_22 ?_
    refine j_iconst F (v := -1) dX3_setAwake_23 (by decide) ?_
    refine j_ixor F dX3_setAwake_24 ?_
    refine j_iand F dX3_setAwake_25 ?_
    refine j_sub [] rfl ?_
    exact hj26 ((gI S v0 2) &&& ((1 <<< (v1 &&& 31)) ^^^ ((-1)))) v0 S hv0 hm
  · refine j_aload_n F 0 dX3_setAwake_5 rfl ?_
    refine j_getI F (k0 := 2) (C := RX3) (T := TX3) (N := 4) (isSt_lay hv0).1 rfl rfl inF3 (by decide) tw15 dX3_setAwake_6 ?_
    refine j_iconst F (v := 1) dX3_setAwake_9 (by decide) ?_
    refine j_iload_n F 1 dX3_setAwake_10 rfl ?_
    refine j_ishl F dX3_setAwake_11 ?_
    refine j_ior F dX3_setAwake_12 ?_
    refine j_goto F (tgt := 26) dX3_setAwake_13 (by decide) ?_
    refine j_sub [] rfl ?_
    exact hj26 ((gI S v0 2) ||| (1 <<< (v1 &&& 31))) v0 S hv0 hm
def m_X3_hasRoomFor_J22 (w0 : Int32) (S : Hs) : Option (Int32) := gd (decide (w0 = 0 ∨ w0 = 1)) (some w0)
def m_X3_hasRoomFor_J17 (S : Hs) : Option (Int32) := m_X3_hasRoomFor_J22 1 S
noncomputable def m_X3_hasRoomFor (v0 : Nat) (v1 : Int32) (S : Hs) : Option (Int32) := (m_X3_has v0 v1 S).bind fun r2 => (if r2 = 0 then ((m_X3_countRights v0 S).bind fun r9 => (if 30 ≤ r9 then (m_X3_hasRoomFor_J22 0 S) else (m_X3_hasRoomFor_J17 S))) else (m_X3_hasRoomFor_J17 S))
set_option maxRecDepth 100000 in
set_option maxHeartbeats 4000000 in
theorem c_X3_hasRoomFor (l : Launch) (g : GG) (hg : Inj g) (v0 : Nat) (v1 : Int32) (hv0 : isSt v0 = true) (S : Hs) (r : Int32) (hm : m_X3_hasRoomFor v0 v1 S = some r) : CM l yX3_hasRoomFor [.code yX3_hasRoomFor cX3_hasRoomFor 2 (some .boolean)] rmX3_hasRoomFor [.ref (g.2.1 v0), .int v1] g S (some (.int r)) S := by
  unfold m_X3_hasRoomFor at hm
  refine CM.of (cc := cX3_hasRoomFor) (nL := 2) (ret := (some .boolean)) (lv := [(0, .ref (g.2.1 v0)), (1, .int v1)]) (by decide +kernel) hg (Nat.le_of_ble_eq_true rfl) rfl (fun p e s m args below meth c A F => ?_)
  replace F : Fx p s m meth c cX3_hasRoomFor RX3 2 (some .boolean) g A := F
  show J p l e rmX3_hasRoomFor s m args below meth c g A 2 (MQ below (QC g A (some (.int r)) S) args s 0 0 A) 0 0 0 [(0, .ref (g.2.1 v0)), (1, .int v1)] [] S
  have hj22 : ∀ (w0 : Int32) (S : Hs), m_X3_hasRoomFor_J22 w0 S = some r → J p l e rmX3_hasRoomFor s m args below meth c g A 2 (MQ below (QC g A (some (.int r)) S) args s 0 0 A) 0 0 22 [] [.int w0] S := by
    intro w0 S hm
    unfold m_X3_hasRoomFor_J22 at hm
    obtain ⟨hb, hm⟩ := gd_ok hm
    exact j_zret_p F rfl (z_nar hb) dX3_hasRoomFor_22 hm
  have hj17 : ∀ (S : Hs), m_X3_hasRoomFor_J17 S = some r → J p l e rmX3_hasRoomFor s m args below meth c g A 2 (MQ below (QC g A (some (.int r)) S) args s 0 0 A) 0 0 17 [] [] S := by
    intro S hm
    unfold m_X3_hasRoomFor_J17 at hm
    refine j_iconst F (v := 1) dX3_hasRoomFor_17 (by decide) ?_
    refine j_goto F (tgt := 22) dX3_hasRoomFor_18 (by decide) ?_
    refine j_sub [] rfl ?_
    exact hj22 1 S  hm
  refine j_aload_n F 0 dX3_hasRoomFor_0 rfl ?_
  refine j_iload_n F 1 dX3_hasRoomFor_1 rfl ?_
  obtain ⟨r2, hc2, hm⟩ := Option.bind_eq_some_iff.mp hm
  refine j_callV F (n := 1) (As := [.int v1]) (rest := []) (c_X3_has l g hg v0 v1 hv0 S r2 hc2) gw_X3_43 (by decide +kernel) ⟨Nat.le_of_ble_eq_true rfl, Nat.le_of_ble_eq_true rfl⟩ ⟨Nat.le_of_ble_eq_true rfl, Nat.le_of_ble_eq_true rfl⟩ (isSt_lay hv0).1 rfl rfl rfl (Nat.le_of_ble_eq_true rfl) dX3_hasRoomFor_2 ?_
  show J p l e rmX3_hasRoomFor s m args below meth c g A 2 (MQ below (QC g A (some (.int r)) S) args s 0 0 A) 0 0 5 [(0, .ref (g.2.1 v0)), (1, .int v1)] [.int r2] S
  refine j_if_ne F (tgt := 17) dX3_hasRoomFor_5 (by decide) hm (fun _ hm => ?_) (fun _ hm => ?_)
  · refine j_sub [] rfl ?_
    exact hj17 S  hm
  · refine j_aload_n F 0 dX3_hasRoomFor_8 rfl ?_
    obtain ⟨r9, hc9, hm⟩ := Option.bind_eq_some_iff.mp hm
    refine j_callV F (n := 0) (As := []) (rest := []) (c_X3_countRights l g hg v0 hv0 S r9 hc9) gw_X3_46 (by decide +kernel) ⟨Nat.le_of_ble_eq_true rfl, Nat.le_of_ble_eq_true rfl⟩ ⟨Nat.le_of_ble_eq_true rfl, Nat.le_of_ble_eq_true rfl⟩ (isSt_lay hv0).1 rfl rfl rfl (Nat.le_of_ble_eq_true rfl) dX3_hasRoomFor_9 ?_
    show J p l e rmX3_hasRoomFor s m args below meth c g A 2 (MQ below (QC g A (some (.int r)) S) args s 0 0 A) 0 0 12 [(0, .ref (g.2.1 v0)), (1, .int v1)] [.int r9] S
    refine j_bipush F (v := 30) dX3_hasRoomFor_12 (by decide) ?_
    refine j_icmp_ge F (tgt := 21) dX3_hasRoomFor_14 (by decide) hm (fun _ hm => ?_) (fun _ hm => ?_)
    · refine j_iconst F (v := 0) dX3_hasRoomFor_21 (by decide) ?_
      refine j_sub [] rfl ?_
      exact hj22 0 S  hm
    · refine j_sub [] rfl ?_
      exact hj17 S  hm
def m_X3_put_J43 (w0 : Int32) (w1 : Int32) (w2 : Nat) (S : Hs) : Option (Hs) := gd (inb w1 7) (bnd (sA S (w2 + 1) w1.toNatClampNeg w0) fun S43 => (some S43))
def m_X3_put (v0 : Nat) (v1 : Int32) (v2 : Int32) (S : Hs) : Option (Hs) := bnd (1 <<< ((irm v1 28) &&& 31)) fun v3_6 => (gd (inb (v1 / 28) 7) (bnd (gA S (v0 + 1) (v1 / 28).toNatClampNeg) fun v4_16 => (if v2 = 0 then (m_X3_put_J43 (v4_16 &&& (v3_6 ^^^ ((-1)))) (v1 / 28) v0 S) else (m_X3_put_J43 (v4_16 ||| v3_6) (v1 / 28) v0 S))))
set_option maxRecDepth 100000 in
set_option maxHeartbeats 4000000 in
theorem c_X3_put (l : Launch) (g : GG) (hg : Inj g) (v0 : Nat) (v1 : Int32) (v2 : Int32) (hv0 : isSt v0 = true) (S : Hs) (S' : Hs) (hm : m_X3_put v0 v1 v2 S = some S') : CM l yX3_put [.code yX3_put cX3_put 5 none] rmX3_put [.ref (g.2.1 v0), .int v1, .int v2] g S none S' := by
  unfold m_X3_put at hm
  refine CM.of (cc := cX3_put) (nL := 5) (ret := none) (lv := [(0, .ref (g.2.1 v0)), (1, .int v1), (2, .int v2)]) (by decide +kernel) hg (Nat.le_of_ble_eq_true rfl) rfl (fun p e s m args below meth c A F => ?_)
  replace F : Fx p s m meth c cX3_put RX3 5 none g A := F
  show J p l e rmX3_put s m args below meth c g A 5 (MQ below (QC g A none S') args s 0 0 A) 0 0 0 [(0, .ref (g.2.1 v0)), (1, .int v1), (2, .int v2)] [] S
  have hj43 : ∀ (w0 : Int32) (w1 : Int32) (w2 : Nat) (S : Hs), isSt w2 = true → m_X3_put_J43 w0 w1 w2 S = some S' → J p l e rmX3_put s m args below meth c g A 5 (MQ below (QC g A none S') args s 0 0 A) 0 0 43 [] [.int w0, .int w1, .ref (g.2.1 (w2 + 1))] S := by
    intro w0 w1 w2 S hw2 hm
    unfold m_X3_put_J43 at hm
    refine j_iast F (isSt_lay hw2).2 dX3_put_43 hm (fun hm => ?_)
    refine j_bndS hm (fun S43 hm => ?_)
    exact j_vret_e F rfl dX3_put_44 hm
  refine j_iconst F (v := 1) dX3_put_0 (by decide) ?_
  refine j_iload_n F 1 dX3_put_1 rfl ?_
  refine j_bipush F (v := 28) dX3_put_2 (by decide) ?_
  refine j_irem F dX3_put_4 (by decide) ?_
  refine j_ishl F dX3_put_5 ?_
  refine j_bnd hm (fun v3_6 hm => ?_)
  refine j_istore_n F (lv' := [(3, .int v3_6), (0, .ref (g.2.1 v0)), (1, .int v1), (2, .int v2)]) dX3_put_6 (by decide) rfl ?_
  refine j_aload_n F 1 dX3_put_7 rfl ?_
  refine j_getR F (k0 := 3) (C := RX3) (T := TX3) (N := 4) (isSt_lay hv0).1 rfl rfl inF3 (by decide) tw4 dX3_put_8 ?_
  refine j_iload_n F 2 dX3_put_11 rfl ?_
  refine j_bipush F (v := 28) dX3_put_12 (by decide) ?_
  refine j_idiv F dX3_put_14 (by decide) ?_
  refine j_iald F (isSt_lay hv0).2 dX3_put_15 hm (fun hm => ?_)
  refine j_bnd hm (fun v4_16 hm => ?_)
  refine j_istore F (lv' := [(4, .int v4_16), (3, .int v3_6), (0, .ref (g.2.1 v0)), (1, .int v1), (2, .int v2)]) dX3_put_16 (by decide) rfl ?_
  refine j_aload_n F 2 dX3_put_18 rfl ?_
  refine j_getR F (k0 := 3) (C := RX3) (T := TX3) (N := 4) (isSt_lay hv0).1 rfl rfl inF3 (by decide) tw4 dX3_put_19 ?_
  refine j_iload_n F 3 dX3_put_22 rfl ?_
  refine j_bipush F (v := 28) dX3_put_23 (by decide) ?_
  refine j_idiv F dX3_put_25 (by decide) ?_
  refine j_iload_n F 4 dX3_put_26 rfl ?_
  refine j_if_eq F (tgt := 37) dX3_put_27 (by decide) hm (fun _ hm => ?_) (fun _ hm => ?_)
  · refine j_iload F 0 dX3_put_37 rfl ?_
    refine j_iload_n F 1 dX3_put_39 rfl ?_
    refine j_iconst F (v := -1) dX3_put_40 (by decide) ?_
    refine j_ixor F dX3_put_41 ?_
    refine j_iand F dX3_put_42 ?_
    refine j_sub [] rfl ?_
    exact hj43 (v4_16 &&& (v3_6 ^^^ ((-1)))) (v1 / 28) v0 S hv0 hm
  · refine j_iload F 0 dX3_put_30 rfl ?_
    refine j_iload_n F 1 dX3_put_32 rfl ?_
    refine j_ior F dX3_put_33 ?_
    refine j_goto F (tgt := 43) dX3_put_34 (by decide) ?_
    refine j_sub [] rfl ?_
    exact hj43 (v4_16 ||| v3_6) (v1 / 28) v0 S hv0 hm
noncomputable def m_X3_spreadUntil_L4 (v0 : Nat) (v1 : Int32) (v2 : Int32) (v3 : Int32) (S : Hs) : Option ((Int32 × Int32 × Hs) ⊕ Hs) := if 196 ≤ v3 then (some (.inr S)) else (if v2 = 0 then (some (.inr S)) else ((m_X3_has v0 v1 S).bind fun r17 => (if r17 = 0 then (bndE (m_X3_doSteps v0 v0 S) fun r25 S25 => (some (.inl ((r25, v3 + 1, S25))))) else (some (.inr S)))))
def m_X3_spreadUntil_J35 (v0 : Nat) (v1 : Int32) (S : Hs) : Option (Int32 × Hs) := (m_X3_has v0 v1 S).bind fun r37 => (gd (decide (r37 = 0 ∨ r37 = 1)) (some ((r37, S))))
noncomputable def m_X3_spreadUntil (v0 : Nat) (v1 : Int32) (S : Hs) : Option (Int32 × Hs) := (loopO (fun x => m_X3_spreadUntil_L4 v0 v1 x.1 x.2.1 x.2.2) ((1, 0, S))).bind fun y4 => m_X3_spreadUntil_J35 v0 v1 y4
set_option maxRecDepth 100000 in
set_option maxHeartbeats 4000000 in
theorem c_X3_spreadUntil (l : Launch) (g : GG) (hg : Inj g) (v0 : Nat) (v1 : Int32) (hv0 : isSt v0 = true) (S : Hs) (r : Int32) (S' : Hs) (hm : m_X3_spreadUntil v0 v1 S = some ((r, S'))) : CM l yX3_spreadUntil [.code yX3_spreadUntil cX3_spreadUntil 4 (some .boolean)] rmX3_spreadUntil [.ref (g.2.1 v0), .int v1] g S (some (.int r)) S' := by
  unfold m_X3_spreadUntil at hm
  refine CM.of (cc := cX3_spreadUntil) (nL := 4) (ret := (some .boolean)) (lv := [(0, .ref (g.2.1 v0)), (1, .int v1)]) (by decide +kernel) hg (Nat.le_of_ble_eq_true rfl) rfl (fun p e s m args below meth c A F => ?_)
  replace F : Fx p s m meth c cX3_spreadUntil RX3 4 (some .boolean) g A := F
  show J p l e rmX3_spreadUntil s m args below meth c g A 4 (MQ below (QC g A (some (.int r)) S') args s 0 0 A) 0 0 0 [(0, .ref (g.2.1 v0)), (1, .int v1)] [] S
  have hj35 : ∀ (v0 : Nat) (v1 : Int32) (S : Hs), isSt v0 = true → m_X3_spreadUntil_J35 v0 v1 S = some ((r, S')) → J p l e rmX3_spreadUntil s m args below meth c g A 4 (MQ below (QC g A (some (.int r)) S') args s 0 0 A) 0 0 35 [(0, .ref (g.2.1 v0)), (1, .int v1)] [] S := by
    intro v0 v1 S hv0 hm
    unfold m_X3_spreadUntil_J35 at hm
    refine j_aload_n F 0 dX3_spreadUntil_35 rfl ?_
    refine j_iload_n F 1 dX3_spreadUntil_36 rfl ?_
    obtain ⟨r37, hc37, hm⟩ := Option.bind_eq_some_iff.mp hm
    refine j_callV F (n := 1) (As := [.int v1]) (rest := []) (c_X3_has l g hg v0 v1 hv0 S r37 hc37) gw_X3_43 (by decide +kernel) ⟨Nat.le_of_ble_eq_true rfl, Nat.le_of_ble_eq_true rfl⟩ ⟨Nat.le_of_ble_eq_true rfl, Nat.le_of_ble_eq_true rfl⟩ (isSt_lay hv0).1 rfl rfl rfl (Nat.le_of_ble_eq_true rfl) dX3_spreadUntil_37 ?_
    show J p l e rmX3_spreadUntil s m args below meth c g A 4 (MQ below (QC g A (some (.int r)) S') args s 0 0 A) 0 0 40 [(0, .ref (g.2.1 v0)), (1, .int v1)] [.int r37] S
    obtain ⟨hb, hm⟩ := gd_ok hm
    exact j_zret_e F rfl (z_nar hb) dX3_spreadUntil_40 hm
  refine j_iconst F (v := 1) dX3_spreadUntil_0 (by decide) ?_
  refine j_istore_n F (lv' := [(2, .int 1), (0, .ref (g.2.1 v0)), (1, .int v1)]) dX3_spreadUntil_1 (by decide) rfl ?_
  refine j_iconst F (v := 0) dX3_spreadUntil_2 (by decide) ?_
  refine j_istore_n F (lv' := [(3, .int 0), (2, .int 1), (0, .ref (g.2.1 v0)), (1, .int v1)]) dX3_spreadUntil_3 (by decide) rfl ?_
  refine j_sub [2, 3, 1, 0] rfl ?_
  obtain ⟨y4, hlp4, hm⟩ := Option.bind_eq_some_iff.mp hm
  refine loopO_walk (fun x => m_X3_spreadUntil_L4 v0 v1 x.1 x.2.1 x.2.2) (fun x => J p l e rmX3_spreadUntil s m args below meth c g A 4 (MQ below (QC g A (some (.int r)) S') args s 0 0 A) 0 0 4 [(0, .ref (g.2.1 v0)), (1, .int v1), (2, .int x.1), (3, .int x.2.1)] [] x.2.2) (fun x => J p l e rmX3_spreadUntil s m args below meth c g A 4 (MQ below (QC g A (some (.int r)) S') args s 0 0 A) 0 0 35 [(0, .ref (g.2.1 v0)), (1, .int v1)] [] x) (fun x o1 hm hk1 => ?_) hlp4 ?_
  · obtain ⟨v2, v3, S⟩ := x
    replace hm : m_X3_spreadUntil_L4 v0 v1 v2 v3 S = some o1 := hm
    show J p l e rmX3_spreadUntil s m args below meth c g A 4 (MQ below (QC g A (some (.int r)) S') args s 0 0 A) 0 0 4 [(0, .ref (g.2.1 v0)), (1, .int v1), (2, .int v2), (3, .int v3)] [] S
    unfold m_X3_spreadUntil_L4 at hm
    refine j_iload_n F 3 dX3_spreadUntil_4 rfl ?_
    refine j_sipush F (v := 196) dX3_spreadUntil_5 (by decide) ?_
    refine j_icmp_ge F (tgt := 35) dX3_spreadUntil_8 (by decide) hm (fun _ hm => ?_) (fun _ hm => ?_)
    · cases hm
      refine j_sub [0, 1] rfl ?_
      exact hk1
    · refine j_iload_n F 2 dX3_spreadUntil_11 rfl ?_
      refine j_if_eq F (tgt := 35) dX3_spreadUntil_12 (by decide) hm (fun _ hm => ?_) (fun _ hm => ?_)
      · cases hm
        refine j_sub [0, 1] rfl ?_
        exact hk1
      · refine j_aload_n F 0 dX3_spreadUntil_15 rfl ?_
        refine j_iload_n F 1 dX3_spreadUntil_16 rfl ?_
        obtain ⟨r17, hc17, hm⟩ := Option.bind_eq_some_iff.mp hm
        refine j_callV F (n := 1) (As := [.int v1]) (rest := []) (c_X3_has l g hg v0 v1 hv0 S r17 hc17) gw_X3_43 (by decide +kernel) ⟨Nat.le_of_ble_eq_true rfl, Nat.le_of_ble_eq_true rfl⟩ ⟨Nat.le_of_ble_eq_true rfl, Nat.le_of_ble_eq_true rfl⟩ (isSt_lay hv0).1 rfl rfl rfl (Nat.le_of_ble_eq_true rfl) dX3_spreadUntil_17 ?_
        show J p l e rmX3_spreadUntil s m args below meth c g A 4 (MQ below (QC g A (some (.int r)) S') args s 0 0 A) 0 0 20 [(0, .ref (g.2.1 v0)), (1, .int v1), (2, .int v2), (3, .int v3)] [.int r17] S
        refine j_if_ne F (tgt := 35) dX3_spreadUntil_20 (by decide) hm (fun _ hm => ?_) (fun _ hm => ?_)
        · cases hm
          refine j_sub [0, 1] rfl ?_
          exact hk1
        · refine j_aload_n F 0 dX3_spreadUntil_23 rfl ?_
          refine j_aload_n F 0 dX3_spreadUntil_24 rfl ?_
          obtain ⟨r25, S25, hc25, hm⟩ := bndE_ok hm
          refine j_callV F (n := 1) (As := [.ref (g.2.1 v0)]) (rest := []) (c_X3_doSteps l g hg v0 v0 hv0 hv0 S r25 S25 hc25) gw_X3_88 (by decide +kernel) ⟨Nat.le_of_ble_eq_true rfl, Nat.le_of_ble_eq_true rfl⟩ ⟨Nat.le_of_ble_eq_true rfl, Nat.le_of_ble_eq_true rfl⟩ (isSt_lay hv0).1 rfl rfl rfl (Nat.le_of_ble_eq_true rfl) dX3_spreadUntil_25 ?_
          show J p l e rmX3_spreadUntil s m args below meth c g A 4 (MQ below (QC g A (some (.int r)) S') args s 0 0 A) 0 0 28 [(0, .ref (g.2.1 v0)), (1, .int v1), (2, .int v2), (3, .int v3)] [.int r25] S25
          refine j_istore_n F (lv' := [(2, .int r25), (0, .ref (g.2.1 v0)), (1, .int v1), (3, .int v3)]) dX3_spreadUntil_28 (by decide) rfl ?_
          refine j_iinc F (v := v3 + 1) (lv' := [(3, .int (v3 + 1)), (2, .int r25), (0, .ref (g.2.1 v0)), (1, .int v1)]) 3 dX3_spreadUntil_29 rfl rfl (by decide) rfl ?_
          refine j_goto F (tgt := 4) dX3_spreadUntil_32 (by decide) ?_
          cases hm
          refine j_sub [2, 3, 1, 0] rfl ?_
          exact hk1
  · show J p l e rmX3_spreadUntil s m args below meth c g A 4 (MQ below (QC g A (some (.int r)) S') args s 0 0 A) 0 0 35 [(0, .ref (g.2.1 v0)), (1, .int v1)] [] y4
    refine j_sub [0, 1] rfl ?_
    exact hj35 v0 v1 y4 hv0 hm
def m_X5_kindOf (v0 : Int32) : Option (Int32) := some (irm (v0 / 7) 4)
set_option maxRecDepth 100000 in
set_option maxHeartbeats 4000000 in
theorem c_X5_kindOf (l : Launch) (g : GG) (hg : Inj g) (v0 : Int32)  (S : Hs) (r : Int32) (hm : m_X5_kindOf v0 = some r) : CM l yX5_kindOf [.code yX5_kindOf cX5_kindOf 1 (some .int)] rmX5_kindOf [.int v0] g S (some (.int r)) S := by
  unfold m_X5_kindOf at hm
  refine CM.of (cc := cX5_kindOf) (nL := 1) (ret := (some .int)) (lv := [(0, .int v0)]) (by decide +kernel) hg (Nat.le_of_ble_eq_true rfl) rfl (fun p e s m args below meth c A F => ?_)
  replace F : Fx p s m meth c cX5_kindOf RX5 1 (some .int) g A := F
  show J p l e rmX5_kindOf s m args below meth c g A 1 (MQ below (QC g A (some (.int r)) S) args s 0 0 A) 0 0 0 [(0, .int v0)] [] S
  refine j_iload_n F 0 dX5_kindOf_0 rfl ?_
  refine j_bipush F (v := 7) dX5_kindOf_1 (by decide) ?_
  refine j_idiv F dX5_kindOf_3 (by decide) ?_
  refine j_iconst F (v := 4) dX5_kindOf_4 (by decide) ?_
  refine j_irem F dX5_kindOf_5 (by decide) ?_
  exact j_iret_p F rfl dX5_kindOf_6 hm
def m_X5_objectOf (v0 : Int32) : Option (Int32) := some (irm v0 7)
set_option maxRecDepth 100000 in
set_option maxHeartbeats 4000000 in
theorem c_X5_objectOf (l : Launch) (g : GG) (hg : Inj g) (v0 : Int32)  (S : Hs) (r : Int32) (hm : m_X5_objectOf v0 = some r) : CM l yX5_objectOf [.code yX5_objectOf cX5_objectOf 1 (some .int)] rmX5_objectOf [.int v0] g S (some (.int r)) S := by
  unfold m_X5_objectOf at hm
  refine CM.of (cc := cX5_objectOf) (nL := 1) (ret := (some .int)) (lv := [(0, .int v0)]) (by decide +kernel) hg (Nat.le_of_ble_eq_true rfl) rfl (fun p e s m args below meth c A F => ?_)
  replace F : Fx p s m meth c cX5_objectOf RX5 1 (some .int) g A := F
  show J p l e rmX5_objectOf s m args below meth c g A 1 (MQ below (QC g A (some (.int r)) S) args s 0 0 A) 0 0 0 [(0, .int v0)] [] S
  refine j_iload_n F 0 dX5_objectOf_0 rfl ?_
  refine j_bipush F (v := 7) dX5_objectOf_1 (by decide) ?_
  refine j_irem F dX5_objectOf_3 (by decide) ?_
  exact j_iret_p F rfl dX5_objectOf_4 hm
def m_X3_isRightIndex (v0 : Nat) (v1 : Int32) (S : Hs) : Option (Int32) := (m_X5_ownerOf v1).bind fun r2 => ((m_X5_kindOf v1).bind fun r6 => ((m_X5_objectOf v1).bind fun r10 => ((m_X3_isRight v0 r2 r6 r10 S).bind fun r13 => (gd (decide (r13 = 0 ∨ r13 = 1)) (some r13)))))
set_option maxRecDepth 100000 in
set_option maxHeartbeats 4000000 in
theorem c_X3_isRightIndex (l : Launch) (g : GG) (hg : Inj g) (v0 : Nat) (v1 : Int32) (hv0 : isSt v0 = true) (S : Hs) (r : Int32) (hm : m_X3_isRightIndex v0 v1 S = some r) : CM l yX3_isRightIndex [.code yX3_isRightIndex cX3_isRightIndex 2 (some .boolean)] rmX3_isRightIndex [.ref (g.2.1 v0), .int v1] g S (some (.int r)) S := by
  unfold m_X3_isRightIndex at hm
  refine CM.of (cc := cX3_isRightIndex) (nL := 2) (ret := (some .boolean)) (lv := [(0, .ref (g.2.1 v0)), (1, .int v1)]) (by decide +kernel) hg (Nat.le_of_ble_eq_true rfl) rfl (fun p e s m args below meth c A F => ?_)
  replace F : Fx p s m meth c cX3_isRightIndex RX3 2 (some .boolean) g A := F
  show J p l e rmX3_isRightIndex s m args below meth c g A 2 (MQ below (QC g A (some (.int r)) S) args s 0 0 A) 0 0 0 [(0, .ref (g.2.1 v0)), (1, .int v1)] [] S
  refine j_aload_n F 0 dX3_isRightIndex_0 rfl ?_
  refine j_iload_n F 1 dX3_isRightIndex_1 rfl ?_
  obtain ⟨r2, hc2, hm⟩ := Option.bind_eq_some_iff.mp hm
  refine j_callSN F (n := 1) (As := [.int v1]) (rest := [.ref (g.2.1 v0)]) (c_X5_ownerOf l g hg v1 S r2 hc2) gc_X5_ownerOf tw401 tw61 tw60 (by decide +kernel) ⟨Nat.le_of_ble_eq_true rfl, Nat.le_of_ble_eq_true rfl⟩ ⟨Nat.le_of_ble_eq_true rfl, Nat.le_of_ble_eq_true rfl⟩ rfl rfl (Nat.le_of_ble_eq_true rfl) dX3_isRightIndex_2 ?_
  show J p l e rmX3_isRightIndex s m args below meth c g A 2 (MQ below (QC g A (some (.int r)) S) args s 0 0 A) 0 0 5 [(0, .ref (g.2.1 v0)), (1, .int v1)] [.int r2, .ref (g.2.1 v0)] S
  refine j_iload_n F 1 dX3_isRightIndex_5 rfl ?_
  obtain ⟨r6, hc6, hm⟩ := Option.bind_eq_some_iff.mp hm
  refine j_callSN F (n := 1) (As := [.int v1]) (rest := [.int r2, .ref (g.2.1 v0)]) (c_X5_kindOf l g hg v1 S r6 hc6) gc_X5_kindOf tw402 tw61 tw153 (by decide +kernel) ⟨Nat.le_of_ble_eq_true rfl, Nat.le_of_ble_eq_true rfl⟩ ⟨Nat.le_of_ble_eq_true rfl, Nat.le_of_ble_eq_true rfl⟩ rfl rfl (Nat.le_of_ble_eq_true rfl) dX3_isRightIndex_6 ?_
  show J p l e rmX3_isRightIndex s m args below meth c g A 2 (MQ below (QC g A (some (.int r)) S) args s 0 0 A) 0 0 9 [(0, .ref (g.2.1 v0)), (1, .int v1)] [.int r6, .int r2, .ref (g.2.1 v0)] S
  refine j_iload_n F 1 dX3_isRightIndex_9 rfl ?_
  obtain ⟨r10, hc10, hm⟩ := Option.bind_eq_some_iff.mp hm
  refine j_callSN F (n := 1) (As := [.int v1]) (rest := [.int r6, .int r2, .ref (g.2.1 v0)]) (c_X5_objectOf l g hg v1 S r10 hc10) gc_X5_objectOf tw403 tw61 tw154 (by decide +kernel) ⟨Nat.le_of_ble_eq_true rfl, Nat.le_of_ble_eq_true rfl⟩ ⟨Nat.le_of_ble_eq_true rfl, Nat.le_of_ble_eq_true rfl⟩ rfl rfl (Nat.le_of_ble_eq_true rfl) dX3_isRightIndex_10 ?_
  show J p l e rmX3_isRightIndex s m args below meth c g A 2 (MQ below (QC g A (some (.int r)) S) args s 0 0 A) 0 0 13 [(0, .ref (g.2.1 v0)), (1, .int v1)] [.int r10, .int r6, .int r2, .ref (g.2.1 v0)] S
  obtain ⟨r13, hc13, hm⟩ := Option.bind_eq_some_iff.mp hm
  refine j_callV F (n := 3) (As := [.int r2, .int r6, .int r10]) (rest := []) (c_X3_isRight l g hg v0 r2 r6 r10 hv0 S r13 hc13) gw_X3_39 (by decide +kernel) ⟨Nat.le_of_ble_eq_true rfl, Nat.le_of_ble_eq_true rfl⟩ ⟨Nat.le_of_ble_eq_true rfl, Nat.le_of_ble_eq_true rfl⟩ (isSt_lay hv0).1 rfl rfl rfl (Nat.le_of_ble_eq_true rfl) dX3_isRightIndex_13 ?_
  show J p l e rmX3_isRightIndex s m args below meth c g A 2 (MQ below (QC g A (some (.int r)) S) args s 0 0 A) 0 0 16 [(0, .ref (g.2.1 v0)), (1, .int v1)] [.int r13] S
  obtain ⟨hb, hm⟩ := gd_ok hm
  exact j_zret_p F rfl (z_nar hb) dX3_isRightIndex_16 hm
