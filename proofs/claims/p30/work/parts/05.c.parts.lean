def m_X2_noteRound_J74 (v1 : Int32) (v2 : Int32) (v3 : Int32) (v4 : Int32) (S : Hs) : Option ((Int32 × Hs) ⊕ Hs) := some (.inl ((v4 + 1, S)))
def m_X2_noteRound_L38 (v1 : Int32) (v2 : Int32) (v3 : Int32) (v4 : Int32) (S : Hs) : Option ((Int32 × Hs) ⊕ Hs) := if 28 ≤ v4 then (some (.inr S)) else (if (v3 >>> (v4 &&& 31)) = 0 then (some (.inr S)) else (if ((v3 >>> (v4 &&& 31)) &&& 1) = 0 then (m_X2_noteRound_J74 v1 v2 v3 v4 S) else (gd (inb ((28 * v2) + v4) 196) (bnd (sA S 7 ((28 * v2) + v4).toNatClampNeg v1) fun S73 => (m_X2_noteRound_J74 v1 v2 v3 v4 S73)))))
def m_X2_noteRound_J80 (v1 : Int32) (v2 : Int32) (S : Hs) : Option ((Int32 × Hs) ⊕ Hs) := some (.inl ((v2 + 1, S)))
noncomputable def m_X2_noteRound_L2 (v1 : Int32) (v2 : Int32) (S : Hs) : Option ((Int32 × Hs) ⊕ Hs) := if (gI S 67 0) ≤ v2 then (some (.inr S)) else (gd (inb v2 7) (gd (inb v2 7) (bnd ((gA S 68 v2.toNatClampNeg) &&& ((gA S 70 v2.toNatClampNeg) ^^^ ((-1)))) fun v3_34 => ((loopO (fun x => m_X2_noteRound_L38 v1 v2 v3_34 x.1 x.2) ((0, S))).bind fun y38 => m_X2_noteRound_J80 v1 v2 y38))))
noncomputable def m_X2_noteRound (v1 : Int32) (S : Hs) : Option (Hs) := (loopO (fun x => m_X2_noteRound_L2 v1 x.1 x.2) ((0, S))).bind fun y2 => some y2
set_option maxRecDepth 100000 in
set_option maxHeartbeats 4000000 in
theorem c_X2_noteRound (l : Launch) (g : GG) (hg : Inj g) (v1 : Int32)  (S : Hs) (S' : Hs) (hm : m_X2_noteRound v1 S = some S') : CM l yX2_noteRound [.code yX2_noteRound cX2_noteRound 5 none] rmX2_noteRound [.ref (g.2.1 6), .int v1] g S none S' := by
  unfold m_X2_noteRound at hm
  refine CM.of (cc := cX2_noteRound) (nL := 5) (ret := none) (lv := [(0, .ref (g.2.1 6)), (1, .int v1)]) (by decide +kernel) hg (Nat.le_of_ble_eq_true rfl) rfl (fun p e s m args below meth c A F => ?_)
  replace F : Fx p s m meth c cX2_noteRound RX2 5 none g A := F
  show J p l e rmX2_noteRound s m args below meth c g A 5 (MQ below (QC g A none S') args s 0 0 A) 0 0 0 [(0, .ref (g.2.1 6)), (1, .int v1)] [] S
  refine j_iconst F (v := 0) dX2_noteRound_0 (by decide) ?_
  refine j_istore_n F (lv' := [(2, .int 0), (0, .ref (g.2.1 6)), (1, .int v1)]) dX2_noteRound_1 (by decide) rfl ?_
  refine j_sub [1, 2, 0] rfl ?_
  obtain ⟨y2, hlp2, hm⟩ := Option.bind_eq_some_iff.mp hm
  refine loopO_walk (fun x => m_X2_noteRound_L2 v1 x.1 x.2) (fun x => J p l e rmX2_noteRound s m args below meth c g A 5 (MQ below (QC g A none S') args s 0 0 A) 0 0 2 [(0, .ref (g.2.1 6)), (1, .int v1), (2, .int x.1)] [] x.2) (fun x => J p l e rmX2_noteRound s m args below meth c g A 5 (MQ below (QC g A none S') args s 0 0 A) 0 0 86 [] [] x) (fun x o1 hm hk1 => ?_) hlp2 ?_
  · obtain ⟨v2, S⟩ := x
    replace hm : m_X2_noteRound_L2 v1 v2 S = some o1 := hm
    show J p l e rmX2_noteRound s m args below meth c g A 5 (MQ below (QC g A none S') args s 0 0 A) 0 0 2 [(0, .ref (g.2.1 6)), (1, .int v1), (2, .int v2)] [] S
    unfold m_X2_noteRound_L2 at hm
    have hj80 : ∀ (v2 : Int32) (S : Hs), m_X2_noteRound_J80 v1 v2 S = some o1 → J p l e rmX2_noteRound s m args below meth c g A 5 (MQ below (QC g A none S') args s 0 0 A) 0 0 80 [(0, .ref (g.2.1 6)), (1, .int v1), (2, .int v2)] [] S := by
      intro v2 S hm
      unfold m_X2_noteRound_J80 at hm
      refine j_iinc F (v := v2 + 1) (lv' := [(2, .int (v2 + 1)), (0, .ref (g.2.1 6)), (1, .int v1)]) 2 dX2_noteRound_80 rfl rfl (by decide) rfl ?_
      refine j_goto F (tgt := 2) dX2_noteRound_83 (by decide) ?_
      cases hm
      refine j_sub [1, 2, 0] rfl ?_
      exact hk1
    refine j_iload_n F 2 dX2_noteRound_2 rfl ?_
    refine j_aload_n F 0 dX2_noteRound_3 rfl ?_
    refine j_getR F (k0 := 0) (C := RX2) (T := TX2) (N := 7) lay_6 rfl rfl inF2 (by decide) tw18 dX2_noteRound_4 ?_
    refine j_getI F (k0 := 0) (C := RX3) (T := TX3) (N := 4) (isSt_lay (i := 67) (by decide)).1 rfl rfl inF3 (by decide) tw19 dX2_noteRound_7 ?_
    refine j_icmp_ge F (tgt := 86) dX2_noteRound_10 (by decide) hm (fun _ hm => ?_) (fun _ hm => ?_)
    · cases hm
      refine j_sub [] rfl ?_
      exact hk1
    · refine j_aload_n F 0 dX2_noteRound_13 rfl ?_
      refine j_getR F (k0 := 0) (C := RX2) (T := TX2) (N := 7) lay_6 rfl rfl inF2 (by decide) tw18 dX2_noteRound_14 ?_
      refine j_getR F (k0 := 3) (C := RX3) (T := TX3) (N := 4) (isSt_lay (i := 67) (by decide)).1 rfl rfl inF3 (by decide) tw20 dX2_noteRound_17 ?_
      refine j_iload_n F 2 dX2_noteRound_20 rfl ?_
      refine j_iald F (isSt_lay (i := 67) (by decide)).2 dX2_noteRound_21 hm (fun hm => ?_)
      refine j_aload_n F 0 dX2_noteRound_22 rfl ?_
      refine j_getR F (k0 := 3) (C := RX2) (T := TX2) (N := 7) lay_6 rfl rfl inF2 (by decide) tw21 dX2_noteRound_23 ?_
      refine j_getR F (k0 := 3) (C := RX3) (T := TX3) (N := 4) (isSt_lay (i := 69) (by decide)).1 rfl rfl inF3 (by decide) tw20 dX2_noteRound_26 ?_
      refine j_iload_n F 2 dX2_noteRound_29 rfl ?_
      refine j_iald F (isSt_lay (i := 69) (by decide)).2 dX2_noteRound_30 hm (fun hm => ?_)
      refine j_iconst F (v := -1) dX2_noteRound_31 (by decide) ?_
      refine j_ixor F dX2_noteRound_32 ?_
      refine j_iand F dX2_noteRound_33 ?_
      refine j_bnd hm (fun v3_34 hm => ?_)
      refine j_istore_n F (lv' := [(3, .int v3_34), (0, .ref (g.2.1 6)), (1, .int v1), (2, .int v2)]) dX2_noteRound_34 (by decide) rfl ?_
      refine j_iconst F (v := 0) dX2_noteRound_35 (by decide) ?_
      refine j_istore F (lv' := [(4, .int 0), (3, .int v3_34), (0, .ref (g.2.1 6)), (1, .int v1), (2, .int v2)]) dX2_noteRound_36 (by decide) rfl ?_
      refine j_sub [2, 3, 4, 1, 0] rfl ?_
      obtain ⟨y38, hlp38, hm⟩ := Option.bind_eq_some_iff.mp hm
      refine loopO_walk (fun x => m_X2_noteRound_L38 v1 v2 v3_34 x.1 x.2) (fun x => J p l e rmX2_noteRound s m args below meth c g A 5 (MQ below (QC g A none S') args s 0 0 A) 0 0 38 [(0, .ref (g.2.1 6)), (1, .int v1), (2, .int v2), (3, .int v3_34), (4, .int x.1)] [] x.2) (fun x => J p l e rmX2_noteRound s m args below meth c g A 5 (MQ below (QC g A none S') args s 0 0 A) 0 0 80 [(0, .ref (g.2.1 6)), (1, .int v1), (2, .int v2)] [] x) (fun x o2 hm hk2 => ?_) hlp38 ?_
      · obtain ⟨v4, S⟩ := x
        replace hm : m_X2_noteRound_L38 v1 v2 v3_34 v4 S = some o2 := hm
        show J p l e rmX2_noteRound s m args below meth c g A 5 (MQ below (QC g A none S') args s 0 0 A) 0 0 38 [(0, .ref (g.2.1 6)), (1, .int v1), (2, .int v2), (3, .int v3_34), (4, .int v4)] [] S
        unfold m_X2_noteRound_L38 at hm
        have hj74 : ∀ (v4 : Int32) (S : Hs), m_X2_noteRound_J74 v1 v2 v3_34 v4 S = some o2 → J p l e rmX2_noteRound s m args below meth c g A 5 (MQ below (QC g A none S') args s 0 0 A) 0 0 74 [(0, .ref (g.2.1 6)), (1, .int v1), (2, .int v2), (3, .int v3_34), (4, .int v4)] [] S := by
          intro v4 S hm
          unfold m_X2_noteRound_J74 at hm
          refine j_iinc F (v := v4 + 1) (lv' := [(4, .int (v4 + 1)), (0, .ref (g.2.1 6)), (1, .int v1), (2, .int v2), (3, .int v3_34)]) 4 dX2_noteRound_74 rfl rfl (by decide) rfl ?_
          refine j_goto F (tgt := 38) dX2_noteRound_77 (by decide) ?_
          cases hm
          refine j_sub [1, 2, 3, 4, 0] rfl ?_
          exact hk2
        refine j_iload F 4 dX2_noteRound_38 rfl ?_
        refine j_bipush F (v := 28) dX2_noteRound_40 (by decide) ?_
        refine j_icmp_ge F (tgt := 80) dX2_noteRound_42 (by decide) hm (fun _ hm => ?_) (fun _ hm => ?_)
        · cases hm
          refine j_sub [0, 1, 2] rfl ?_
          exact hk2
        · refine j_iload_n F 3 dX2_noteRound_45 rfl ?_
          refine j_iload F 4 dX2_noteRound_46 rfl ?_
          refine j_ishr F dX2_noteRound_48 ?_
          refine j_if_eq F (tgt := 80) dX2_noteRound_49 (by decide) hm (fun _ hm => ?_) (fun _ hm => ?_)
          · cases hm
            refine j_sub [0, 1, 2] rfl ?_
            exact hk2
          · refine j_iload_n F 3 dX2_noteRound_52 rfl ?_
            refine j_iload F 4 dX2_noteRound_53 rfl ?_
            refine j_ishr F dX2_noteRound_55 ?_
            refine j_iconst F (v := 1) dX2_noteRound_56 (by decide) ?_
            refine j_iand F dX2_noteRound_57 ?_
            refine j_if_eq F (tgt := 74) dX2_noteRound_58 (by decide) hm (fun _ hm => ?_) (fun _ hm => ?_)
            · refine j_sub [0, 1, 2, 3, 4] rfl ?_
              exact hj74 v4 S  hm
            · refine j_aload_n F 0 dX2_noteRound_61 rfl ?_
              refine j_getR F (k0 := 1) (C := RX2) (T := TX2) (N := 7) lay_6 rfl rfl inF2 (by decide) tw22 dX2_noteRound_62 ?_
              refine j_bipush F (v := 28) dX2_noteRound_65 (by decide) ?_
              refine j_iload_n F 2 dX2_noteRound_67 rfl ?_
              refine j_imul F dX2_noteRound_68 ?_
              refine j_iload F 4 dX2_noteRound_69 rfl ?_
              refine j_iadd F dX2_noteRound_71 ?_
              refine j_iload_n F 1 dX2_noteRound_72 rfl ?_
              refine j_iast F lay_7 dX2_noteRound_73 hm (fun hm => ?_)
              refine j_bndS hm (fun S73 hm => ?_)
              refine j_sub [0, 1, 2, 3, 4] rfl ?_
              exact hj74 v4 S73  hm
      · show J p l e rmX2_noteRound s m args below meth c g A 5 (MQ below (QC g A none S') args s 0 0 A) 0 0 80 [(0, .ref (g.2.1 6)), (1, .int v1), (2, .int v2)] [] y38
        refine j_sub [0, 1, 2] rfl ?_
        exact hj80 v2 y38  hm
  · show J p l e rmX2_noteRound s m args below meth c g A 5 (MQ below (QC g A none S') args s 0 0 A) 0 0 86 [] [] y2
    exact j_vret_e F rfl dX2_noteRound_86 hm
def m_X2_follow_L2 (v1 : Nat) (v2 : Int32) (S : Hs) : Option ((Int32 × Hs) ⊕ Hs) := if 196 ≤ v2 then (some (.inr S)) else (gd (inb v2 196) (bnd (sA S 7 v2.toNatClampNeg 197) fun S17 => (some (.inl ((v2 + 1, S17))))))
noncomputable def m_X2_follow_L60 (S : Hs) : Option (Hs ⊕ Hs) := if 196 ≤ (gI S 6 2) then (some (.inr S)) else (bndE (m_X3_doSteps 67 69 S) fun r78 S78 => (if r78 = 0 then (some (.inr S78)) else (bnd (sI S78 6 2 ((gI S78 6 2) + 1)) fun S91 => ((m_X2_noteRound (gI S91 6 2) S91).bind fun S99 => ((m_X3_copyFrom 69 67 S99).bind fun S110 => (some (.inl S110)))))))
def m_X2_follow_J116 (S : Hs) : Option (Hs) := some S
noncomputable def m_X2_follow (v1 : Nat) (S : Hs) : Option (Hs) := (loopO (fun x => m_X2_follow_L2 v1 x.1 x.2) ((0, S))).bind fun y2 => (m_X3_makeEmpty 69 y2).bind fun S28 => ((m_X3_copyFrom 67 v1 S28).bind fun S36 => ((m_X2_noteRound 0 S36).bind fun S41 => (bnd (sI S41 6 2 0) fun S46 => ((m_X3_copyFrom 69 67 S46).bind fun S57 => ((loopO (fun x => m_X2_follow_L60 x) S57).bind fun y60 => m_X2_follow_J116 y60)))))
set_option maxRecDepth 100000 in
set_option maxHeartbeats 4000000 in
theorem c_X2_follow (l : Launch) (g : GG) (hg : Inj g) (v1 : Nat) (hv1 : isSt v1 = true) (S : Hs) (S' : Hs) (hm : m_X2_follow v1 S = some S') : CM l yX2_follow [.code yX2_follow cX2_follow 3 none] rmX2_follow [.ref (g.2.1 6), .ref (g.2.1 v1)] g S none S' := by
  unfold m_X2_follow at hm
  refine CM.of (cc := cX2_follow) (nL := 3) (ret := none) (lv := [(0, .ref (g.2.1 6)), (1, .ref (g.2.1 v1))]) (by decide +kernel) hg (Nat.le_of_ble_eq_true rfl) rfl (fun p e s m args below meth c A F => ?_)
  replace F : Fx p s m meth c cX2_follow RX2 3 none g A := F
  show J p l e rmX2_follow s m args below meth c g A 3 (MQ below (QC g A none S') args s 0 0 A) 0 0 0 [(0, .ref (g.2.1 6)), (1, .ref (g.2.1 v1))] [] S
  have hj116 : ∀ (S : Hs), m_X2_follow_J116 S = some S' → J p l e rmX2_follow s m args below meth c g A 3 (MQ below (QC g A none S') args s 0 0 A) 0 0 116 [] [] S := by
    intro S hm
    unfold m_X2_follow_J116 at hm
    exact j_vret_e F rfl dX2_follow_116 hm
  refine j_iconst F (v := 0) dX2_follow_0 (by decide) ?_
  refine j_istore_n F (lv' := [(2, .int 0), (0, .ref (g.2.1 6)), (1, .ref (g.2.1 v1))]) dX2_follow_1 (by decide) rfl ?_
  refine j_sub [1, 2, 0] rfl ?_
  obtain ⟨y2, hlp2, hm⟩ := Option.bind_eq_some_iff.mp hm
  refine loopO_walk (fun x => m_X2_follow_L2 v1 x.1 x.2) (fun x => J p l e rmX2_follow s m args below meth c g A 3 (MQ below (QC g A none S') args s 0 0 A) 0 0 2 [(0, .ref (g.2.1 6)), (1, .ref (g.2.1 v1)), (2, .int x.1)] [] x.2) (fun x => J p l e rmX2_follow s m args below meth c g A 3 (MQ below (QC g A none S') args s 0 0 A) 0 0 24 [(0, .ref (g.2.1 6)), (1, .ref (g.2.1 v1))] [] x) (fun x o1 hm hk1 => ?_) hlp2 ?_
  · obtain ⟨v2, S⟩ := x
    replace hm : m_X2_follow_L2 v1 v2 S = some o1 := hm
    show J p l e rmX2_follow s m args below meth c g A 3 (MQ below (QC g A none S') args s 0 0 A) 0 0 2 [(0, .ref (g.2.1 6)), (1, .ref (g.2.1 v1)), (2, .int v2)] [] S
    unfold m_X2_follow_L2 at hm
    refine j_iload_n F 2 dX2_follow_2 rfl ?_
    refine j_sipush F (v := 196) dX2_follow_3 (by decide) ?_
    refine j_icmp_ge F (tgt := 24) dX2_follow_6 (by decide) hm (fun _ hm => ?_) (fun _ hm => ?_)
    · cases hm
      refine j_sub [0, 1] rfl ?_
      exact hk1
    · refine j_aload_n F 0 dX2_follow_9 rfl ?_
      refine j_getR F (k0 := 1) (C := RX2) (T := TX2) (N := 7) lay_6 rfl rfl inF2 (by decide) tw22 dX2_follow_10 ?_
      refine j_iload_n F 2 dX2_follow_13 rfl ?_
      refine j_sipush F (v := 197) dX2_follow_14 (by decide) ?_
      refine j_iast F lay_7 dX2_follow_17 hm (fun hm => ?_)
      refine j_bndS hm (fun S17 hm => ?_)
      refine j_iinc F (v := v2 + 1) (lv' := [(2, .int (v2 + 1)), (0, .ref (g.2.1 6)), (1, .ref (g.2.1 v1))]) 2 dX2_follow_18 rfl rfl (by decide) rfl ?_
      refine j_goto F (tgt := 2) dX2_follow_21 (by decide) ?_
      cases hm
      refine j_sub [1, 2, 0] rfl ?_
      exact hk1
  · show J p l e rmX2_follow s m args below meth c g A 3 (MQ below (QC g A none S') args s 0 0 A) 0 0 24 [(0, .ref (g.2.1 6)), (1, .ref (g.2.1 v1))] [] y2
    refine j_aload_n F 0 dX2_follow_24 rfl ?_
    refine j_getR F (k0 := 3) (C := RX2) (T := TX2) (N := 7) lay_6 rfl rfl inF2 (by decide) tw21 dX2_follow_25 ?_
    obtain ⟨S28, hc28, hm⟩ := Option.bind_eq_some_iff.mp hm
    refine j_callV F (n := 0) (As := []) (rest := []) (c_X3_makeEmpty l g hg 69 (by decide) y2 S28 hc28) gw_X2_32 (by decide +kernel) ⟨Nat.le_of_ble_eq_true rfl, Nat.le_of_ble_eq_true rfl⟩ ⟨Nat.le_of_ble_eq_true rfl, Nat.le_of_ble_eq_true rfl⟩ (isSt_lay (i := 69) (by decide)).1 rfl rfl rfl (Nat.le_of_ble_eq_true rfl) dX2_follow_28 ?_
    show J p l e rmX2_follow s m args below meth c g A 3 (MQ below (QC g A none S') args s 0 0 A) 0 0 31 [(0, .ref (g.2.1 6)), (1, .ref (g.2.1 v1))] [] S28
    refine j_aload_n F 0 dX2_follow_31 rfl ?_
    refine j_getR F (k0 := 0) (C := RX2) (T := TX2) (N := 7) lay_6 rfl rfl inF2 (by decide) tw18 dX2_follow_32 ?_
    refine j_aload_n F 1 dX2_follow_35 rfl ?_
    obtain ⟨S36, hc36, hm⟩ := Option.bind_eq_some_iff.mp hm
    refine j_callV F (n := 1) (As := [.ref (g.2.1 v1)]) (rest := []) (c_X3_copyFrom l g hg 67 v1 (by decide) hv1 S28 S36 hc36) gw_X2_35 (by decide +kernel) ⟨Nat.le_of_ble_eq_true rfl, Nat.le_of_ble_eq_true rfl⟩ ⟨Nat.le_of_ble_eq_true rfl, Nat.le_of_ble_eq_true rfl⟩ (isSt_lay (i := 67) (by decide)).1 rfl rfl rfl (Nat.le_of_ble_eq_true rfl) dX2_follow_36 ?_
    show J p l e rmX2_follow s m args below meth c g A 3 (MQ below (QC g A none S') args s 0 0 A) 0 0 39 [(0, .ref (g.2.1 6)), (1, .ref (g.2.1 v1))] [] S36
    refine j_aload_n F 0 dX2_follow_39 rfl ?_
    refine j_iconst F (v := 0) dX2_follow_40 (by decide) ?_
    obtain ⟨S41, hc41, hm⟩ := Option.bind_eq_some_iff.mp hm
    refine j_callV F (n := 1) (As := [.int 0]) (rest := []) (c_X2_noteRound l g hg 0 S36 S41 hc41) gw_X2_39 (by decide +kernel) ⟨Nat.le_of_ble_eq_true rfl, Nat.le_of_ble_eq_true rfl⟩ ⟨Nat.le_of_ble_eq_true rfl, Nat.le_of_ble_eq_true rfl⟩ lay_6 rfl rfl rfl (Nat.le_of_ble_eq_true rfl) dX2_follow_41 ?_
    show J p l e rmX2_follow s m args below meth c g A 3 (MQ below (QC g A none S') args s 0 0 A) 0 0 44 [(0, .ref (g.2.1 6)), (1, .ref (g.2.1 v1))] [] S41
    refine j_aload_n F 0 dX2_follow_44 rfl ?_
    refine j_iconst F (v := 0) dX2_follow_45 (by decide) ?_
    refine j_putI F (k0 := 2) (C := RX2) (T := TX2) (N := 7) tyX2 tyX2_ok nmX2 lay_6 rfl rfl inF2 (by decide) tw38 rfl (by decide +kernel) dX2_follow_46 ?_
    refine j_bndS hm (fun S46 hm => ?_)
    refine j_aload_n F 0 dX2_follow_49 rfl ?_
    refine j_getR F (k0 := 3) (C := RX2) (T := TX2) (N := 7) lay_6 rfl rfl inF2 (by decide) tw21 dX2_follow_50 ?_
    refine j_aload_n F 0 dX2_follow_53 rfl ?_
    refine j_getR F (k0 := 0) (C := RX2) (T := TX2) (N := 7) lay_6 rfl rfl inF2 (by decide) tw18 dX2_follow_54 ?_
    obtain ⟨S57, hc57, hm⟩ := Option.bind_eq_some_iff.mp hm
    refine j_callV F (n := 1) (As := [.ref (g.2.1 67)]) (rest := []) (c_X3_copyFrom l g hg 69 67 (by decide) (by decide) S46 S57 hc57) gw_X2_35 (by decide +kernel) ⟨Nat.le_of_ble_eq_true rfl, Nat.le_of_ble_eq_true rfl⟩ ⟨Nat.le_of_ble_eq_true rfl, Nat.le_of_ble_eq_true rfl⟩ (isSt_lay (i := 69) (by decide)).1 rfl rfl rfl (Nat.le_of_ble_eq_true rfl) dX2_follow_57 ?_
    show J p l e rmX2_follow s m args below meth c g A 3 (MQ below (QC g A none S') args s 0 0 A) 0 0 60 [(0, .ref (g.2.1 6)), (1, .ref (g.2.1 v1))] [] S57
    refine j_sub [0] rfl ?_
    obtain ⟨y60, hlp60, hm⟩ := Option.bind_eq_some_iff.mp hm
    refine loopO_walk (fun x => m_X2_follow_L60 x) (fun x => J p l e rmX2_follow s m args below meth c g A 3 (MQ below (QC g A none S') args s 0 0 A) 0 0 60 [(0, .ref (g.2.1 6))] [] x) (fun x => J p l e rmX2_follow s m args below meth c g A 3 (MQ below (QC g A none S') args s 0 0 A) 0 0 116 [] [] x) (fun x o1 hm hk1 => ?_) hlp60 ?_
    · obtain ⟨S, rfl⟩ : ∃ z, z = x := ⟨_, rfl⟩
      replace hm : m_X2_follow_L60 S = some o1 := hm
      show J p l e rmX2_follow s m args below meth c g A 3 (MQ below (QC g A none S') args s 0 0 A) 0 0 60 [(0, .ref (g.2.1 6))] [] S
      unfold m_X2_follow_L60 at hm
      refine j_aload_n F 0 dX2_follow_60 rfl ?_
      refine j_getI F (k0 := 2) (C := RX2) (T := TX2) (N := 7) lay_6 rfl rfl inF2 (by decide) tw38 dX2_follow_61 ?_
      refine j_sipush F (v := 196) dX2_follow_64 (by decide) ?_
      refine j_icmp_ge F (tgt := 116) dX2_follow_67 (by decide) hm (fun _ hm => ?_) (fun _ hm => ?_)
      · cases hm
        refine j_sub [] rfl ?_
        exact hk1
      · refine j_aload_n F 0 dX2_follow_70 rfl ?_
        refine j_getR F (k0 := 0) (C := RX2) (T := TX2) (N := 7) lay_6 rfl rfl inF2 (by decide) tw18 dX2_follow_71 ?_
        refine j_aload_n F 0 dX2_follow_74 rfl ?_
        refine j_getR F (k0 := 3) (C := RX2) (T := TX2) (N := 7) lay_6 rfl rfl inF2 (by decide) tw21 dX2_follow_75 ?_
        obtain ⟨r78, S78, hc78, hm⟩ := bndE_ok hm
        refine j_callV F (n := 1) (As := [.ref (g.2.1 69)]) (rest := []) (c_X3_doSteps l g hg 67 69 (by decide) (by decide) S r78 S78 hc78) gw_X2_47 (by decide +kernel) ⟨Nat.le_of_ble_eq_true rfl, Nat.le_of_ble_eq_true rfl⟩ ⟨Nat.le_of_ble_eq_true rfl, Nat.le_of_ble_eq_true rfl⟩ (isSt_lay (i := 67) (by decide)).1 rfl rfl rfl (Nat.le_of_ble_eq_true rfl) dX2_follow_78 ?_
        show J p l e rmX2_follow s m args below meth c g A 3 (MQ below (QC g A none S') args s 0 0 A) 0 0 81 [(0, .ref (g.2.1 6))] [.int r78] S78
        refine j_if_eq F (tgt := 116) dX2_follow_81 (by decide) hm (fun _ hm => ?_) (fun _ hm => ?_)
        · cases hm
          refine j_sub [] rfl ?_
          exact hk1
        · refine j_aload_n F 0 dX2_follow_84 rfl ?_
          refine j_dup F dX2_follow_85 rfl ?_
          refine j_getI F (k0 := 2) (C := RX2) (T := TX2) (N := 7) lay_6 rfl rfl inF2 (by decide) tw38 dX2_follow_86 ?_
          refine j_iconst F (v := 1) dX2_follow_89 (by decide) ?_
          refine j_iadd F dX2_follow_90 ?_
          refine j_putI F (k0 := 2) (C := RX2) (T := TX2) (N := 7) tyX2 tyX2_ok nmX2 lay_6 rfl rfl inF2 (by decide) tw38 rfl (by decide +kernel) dX2_follow_91 ?_
          refine j_bndS hm (fun S91 hm => ?_)
          refine j_aload_n F 0 dX2_follow_94 rfl ?_
          refine j_aload_n F 0 dX2_follow_95 rfl ?_
          refine j_getI F (k0 := 2) (C := RX2) (T := TX2) (N := 7) lay_6 rfl rfl inF2 (by decide) tw38 dX2_follow_96 ?_
          obtain ⟨S99, hc99, hm⟩ := Option.bind_eq_some_iff.mp hm
          refine j_callV F (n := 1) (As := [.int (gI S91 6 2)]) (rest := []) (c_X2_noteRound l g hg (gI S91 6 2) S91 S99 hc99) gw_X2_39 (by decide +kernel) ⟨Nat.le_of_ble_eq_true rfl, Nat.le_of_ble_eq_true rfl⟩ ⟨Nat.le_of_ble_eq_true rfl, Nat.le_of_ble_eq_true rfl⟩ lay_6 rfl rfl rfl (Nat.le_of_ble_eq_true rfl) dX2_follow_99 ?_
          show J p l e rmX2_follow s m args below meth c g A 3 (MQ below (QC g A none S') args s 0 0 A) 0 0 102 [(0, .ref (g.2.1 6))] [] S99
          refine j_aload_n F 0 dX2_follow_102 rfl ?_
          refine j_getR F (k0 := 3) (C := RX2) (T := TX2) (N := 7) lay_6 rfl rfl inF2 (by decide) tw21 dX2_follow_103 ?_
          refine j_aload_n F 0 dX2_follow_106 rfl ?_
          refine j_getR F (k0 := 0) (C := RX2) (T := TX2) (N := 7) lay_6 rfl rfl inF2 (by decide) tw18 dX2_follow_107 ?_
          obtain ⟨S110, hc110, hm⟩ := Option.bind_eq_some_iff.mp hm
          refine j_callV F (n := 1) (As := [.ref (g.2.1 67)]) (rest := []) (c_X3_copyFrom l g hg 69 67 (by decide) (by decide) S99 S110 hc110) gw_X2_35 (by decide +kernel) ⟨Nat.le_of_ble_eq_true rfl, Nat.le_of_ble_eq_true rfl⟩ ⟨Nat.le_of_ble_eq_true rfl, Nat.le_of_ble_eq_true rfl⟩ (isSt_lay (i := 69) (by decide)).1 rfl rfl rfl (Nat.le_of_ble_eq_true rfl) dX2_follow_110 ?_
          show J p l e rmX2_follow s m args below meth c g A 3 (MQ below (QC g A none S') args s 0 0 A) 0 0 113 [(0, .ref (g.2.1 6))] [] S110
          refine j_goto F (tgt := 60) dX2_follow_113 (by decide) ?_
          cases hm
          refine j_sub [0] rfl ?_
          exact hk1
    · show J p l e rmX2_follow s m args below meth c g A 3 (MQ below (QC g A none S') args s 0 0 A) 0 0 116 [] [] y60
      refine j_sub [] rfl ?_
      exact hj116 y60  hm
def m_X1_heard_J84 (v0 : Nat) (v1 : Int32) (v2 : Int32) (v3 : Int32) (S : Hs) : Option ((Int32 × Int32) ⊕ Int32) := some (.inl ((v2, v3 + 1)))
def m_X1_heard_J78 (v0 : Nat) (v1 : Int32) (v2 : Int32) (v3 : Int32) (S : Hs) : Option ((Int32 × Int32) ⊕ Int32) := bnd (v2 ||| (1 <<< (v3 &&& 31))) fun v2_83 => (m_X1_heard_J84 v0 v1 v2_83 v3 S)
def m_X1_heard_J66 (v0 : Nat) (v1 : Int32) (v2 : Int32) (v3 : Int32) (v4 : Int32) (w0 : Int32) (S : Hs) : Option ((Int32 × Int32) ⊕ Int32) := if v4 = 0 then (if w0 = 0 then (m_X1_heard_J84 v0 v1 v2 v3 S) else (m_X1_heard_J78 v0 v1 v2 v3 S)) else (m_X1_heard_J78 v0 v1 v2 v3 S)
def m_X1_heard_J65 (v0 : Nat) (v1 : Int32) (v2 : Int32) (v3 : Int32) (v4 : Int32) (S : Hs) : Option ((Int32 × Int32) ⊕ Int32) := m_X1_heard_J66 v0 v1 v2 v3 v4 0 S
def m_X1_heard_J38 (v0 : Nat) (v1 : Int32) (v2 : Int32) (v3 : Int32) (w0 : Int32) (S : Hs) : Option ((Int32 × Int32) ⊕ Int32) := (m_X3_isPerson v0 v3 S).bind fun r42 => (if r42 = 0 then (m_X1_heard_J65 v0 v1 v2 v3 w0 S) else ((m_X5_rightOf v3 3 v1).bind fun r52 => ((m_X3_has v0 r52 S).bind fun r55 => (if r55 = 0 then (m_X1_heard_J65 v0 v1 v2 v3 w0 S) else (m_X1_heard_J66 v0 v1 v2 v3 w0 1 S)))))
def m_X1_heard_J37 (v0 : Nat) (v1 : Int32) (v2 : Int32) (v3 : Int32) (S : Hs) : Option ((Int32 × Int32) ⊕ Int32) := m_X1_heard_J38 v0 v1 v2 v3 0 S
def m_X1_heard_L4 (v0 : Nat) (v1 : Int32) (S : Hs) (v2 : Int32) (v3 : Int32) : Option ((Int32 × Int32) ⊕ Int32) := if (gI S v0 0) ≤ v3 then (some (.inr v2)) else ((m_X3_isPerson v0 v1 S).bind fun r14 => (if r14 = 0 then (m_X1_heard_J37 v0 v1 v2 v3 S) else ((m_X5_rightOf v1 2 v3).bind fun r24 => ((m_X3_has v0 r24 S).bind fun r27 => (if r27 = 0 then (m_X1_heard_J37 v0 v1 v2 v3 S) else (m_X1_heard_J38 v0 v1 v2 v3 1 S))))))
noncomputable def m_X1_heard (v0 : Nat) (v1 : Int32) (S : Hs) : Option (Int32) := (loopO (fun x => m_X1_heard_L4 v0 v1 S x.1 x.2) ((0, 0))).bind fun y4 => some y4
set_option maxRecDepth 100000 in
set_option maxHeartbeats 4000000 in
theorem c_X1_heard (l : Launch) (g : GG) (hg : Inj g) (v0 : Nat) (v1 : Int32) (hv0 : isSt v0 = true) (S : Hs) (r : Int32) (hm : m_X1_heard v0 v1 S = some r) : CM l yX1_heard [.code yX1_heard cX1_heard 6 (some .int)] rmX1_heard [.ref (g.2.1 v0), .int v1] g S (some (.int r)) S := by
  unfold m_X1_heard at hm
  refine CM.of (cc := cX1_heard) (nL := 6) (ret := (some .int)) (lv := [(0, .ref (g.2.1 v0)), (1, .int v1)]) (by decide +kernel) hg (Nat.le_of_ble_eq_true rfl) rfl (fun p e s m args below meth c A F => ?_)
  replace F : Fx p s m meth c cX1_heard RX1 6 (some .int) g A := F
  show J p l e rmX1_heard s m args below meth c g A 6 (MQ below (QC g A (some (.int r)) S) args s 0 0 A) 0 0 0 [(0, .ref (g.2.1 v0)), (1, .int v1)] [] S
  refine j_iconst F (v := 0) dX1_heard_0 (by decide) ?_
  refine j_istore_n F (lv' := [(2, .int 0), (0, .ref (g.2.1 v0)), (1, .int v1)]) dX1_heard_1 (by decide) rfl ?_
  refine j_iconst F (v := 0) dX1_heard_2 (by decide) ?_
  refine j_istore_n F (lv' := [(3, .int 0), (2, .int 0), (0, .ref (g.2.1 v0)), (1, .int v1)]) dX1_heard_3 (by decide) rfl ?_
  refine j_sub [2, 3, 1, 0] rfl ?_
  obtain ⟨y4, hlp4, hm⟩ := Option.bind_eq_some_iff.mp hm
  refine loopO_walk (fun x => m_X1_heard_L4 v0 v1 S x.1 x.2) (fun x => J p l e rmX1_heard s m args below meth c g A 6 (MQ below (QC g A (some (.int r)) S) args s 0 0 A) 0 0 4 [(0, .ref (g.2.1 v0)), (1, .int v1), (2, .int x.1), (3, .int x.2)] [] S) (fun x => J p l e rmX1_heard s m args below meth c g A 6 (MQ below (QC g A (some (.int r)) S) args s 0 0 A) 0 0 90 [(2, .int x)] [] S) (fun x o1 hm hk1 => ?_) hlp4 ?_
  · obtain ⟨v2, v3⟩ := x
    replace hm : m_X1_heard_L4 v0 v1 S v2 v3 = some o1 := hm
    show J p l e rmX1_heard s m args below meth c g A 6 (MQ below (QC g A (some (.int r)) S) args s 0 0 A) 0 0 4 [(0, .ref (g.2.1 v0)), (1, .int v1), (2, .int v2), (3, .int v3)] [] S
    unfold m_X1_heard_L4 at hm
    have hj84 : ∀ (v2 : Int32) (v3 : Int32), m_X1_heard_J84 v0 v1 v2 v3 S = some o1 → J p l e rmX1_heard s m args below meth c g A 6 (MQ below (QC g A (some (.int r)) S) args s 0 0 A) 0 0 84 [(0, .ref (g.2.1 v0)), (1, .int v1), (2, .int v2), (3, .int v3)] [] S := by
      intro v2 v3 hm
      unfold m_X1_heard_J84 at hm
      refine j_iinc F (v := v3 + 1) (lv' := [(3, .int (v3 + 1)), (0, .ref (g.2.1 v0)), (1, .int v1), (2, .int v2)]) 3 dX1_heard_84 rfl rfl (by decide) rfl ?_
      refine j_goto F (tgt := 4) dX1_heard_87 (by decide) ?_
      cases hm
      refine j_sub [1, 2, 3, 0] rfl ?_
      exact hk1
    have hj78 : ∀ (v2 : Int32) (v3 : Int32), m_X1_heard_J78 v0 v1 v2 v3 S = some o1 → J p l e rmX1_heard s m args below meth c g A 6 (MQ below (QC g A (some (.int r)) S) args s 0 0 A) 0 0 78 [(0, .ref (g.2.1 v0)), (1, .int v1), (2, .int v2), (3, .int v3)] [] S := by
      intro v2 v3 hm
      unfold m_X1_heard_J78 at hm
      refine j_iload_n F 2 dX1_heard_78 rfl ?_
      refine j_iconst F (v := 1) dX1_heard_79 (by decide) ?_
      refine j_iload_n F 3 dX1_heard_80 rfl ?_
      refine j_ishl F dX1_heard_81 ?_
      refine j_ior F dX1_heard_82 ?_
      refine j_bnd hm (fun v2_83 hm => ?_)
      refine j_istore_n F (lv' := [(2, .int v2_83), (0, .ref (g.2.1 v0)), (1, .int v1), (3, .int v3)]) dX1_heard_83 (by decide) rfl ?_
      refine j_sub [1, 2, 0, 3] rfl ?_
      exact hj84 v2_83 v3  hm
    have hj66 : ∀ (v2 : Int32) (v3 : Int32) (v4 : Int32) (w0 : Int32), m_X1_heard_J66 v0 v1 v2 v3 v4 w0 S = some o1 → J p l e rmX1_heard s m args below meth c g A 6 (MQ below (QC g A (some (.int r)) S) args s 0 0 A) 0 0 66 [(0, .ref (g.2.1 v0)), (1, .int v1), (2, .int v2), (3, .int v3), (4, .int v4)] [.int w0] S := by
      intro v2 v3 v4 w0 hm
      unfold m_X1_heard_J66 at hm
      refine j_istore F (lv' := [(5, .int w0), (0, .ref (g.2.1 v0)), (1, .int v1), (2, .int v2), (3, .int v3), (4, .int v4)]) dX1_heard_66 (by decide) rfl ?_
      refine j_iload F 5 dX1_heard_68 rfl ?_
      refine j_if_ne F (tgt := 78) dX1_heard_70 (by decide) hm (fun _ hm => ?_) (fun _ hm => ?_)
      · refine j_sub [1, 2, 3, 4] rfl ?_
        exact hj78 v2 v3  hm
      · refine j_iload F 0 dX1_heard_73 rfl ?_
        refine j_if_eq F (tgt := 84) dX1_heard_75 (by decide) hm (fun _ hm => ?_) (fun _ hm => ?_)
        · refine j_sub [1, 2, 3, 4] rfl ?_
          exact hj84 v2 v3  hm
        · refine j_sub [1, 2, 3, 4] rfl ?_
          exact hj78 v2 v3  hm
    have hj65 : ∀ (v2 : Int32) (v3 : Int32) (v4 : Int32), m_X1_heard_J65 v0 v1 v2 v3 v4 S = some o1 → J p l e rmX1_heard s m args below meth c g A 6 (MQ below (QC g A (some (.int r)) S) args s 0 0 A) 0 0 65 [(0, .ref (g.2.1 v0)), (1, .int v1), (2, .int v2), (3, .int v3), (4, .int v4)] [] S := by
      intro v2 v3 v4 hm
      unfold m_X1_heard_J65 at hm
      refine j_iconst F (v := 0) dX1_heard_65 (by decide) ?_
      refine j_sub [0, 1, 2, 3, 4] rfl ?_
      exact hj66 v2 v3 v4 0  hm
    have hj38 : ∀ (v2 : Int32) (v3 : Int32) (w0 : Int32), m_X1_heard_J38 v0 v1 v2 v3 w0 S = some o1 → J p l e rmX1_heard s m args below meth c g A 6 (MQ below (QC g A (some (.int r)) S) args s 0 0 A) 0 0 38 [(0, .ref (g.2.1 v0)), (1, .int v1), (2, .int v2), (3, .int v3)] [.int w0] S := by
      intro v2 v3 w0 hm
      unfold m_X1_heard_J38 at hm
      refine j_istore F (lv' := [(4, .int w0), (0, .ref (g.2.1 v0)), (1, .int v1), (2, .int v2), (3, .int v3)]) dX1_heard_38 (by decide) rfl ?_
      refine j_aload_n F 1 dX1_heard_40 rfl ?_
      refine j_iload_n F 4 dX1_heard_41 rfl ?_
      obtain ⟨r42, hc42, hm⟩ := Option.bind_eq_some_iff.mp hm
      refine j_callV F (n := 1) (As := [.int v3]) (rest := []) (c_X3_isPerson l g hg v0 v3 hv0 S r42 hc42) gw_X1_25 (by decide +kernel) ⟨Nat.le_of_ble_eq_true rfl, Nat.le_of_ble_eq_true rfl⟩ ⟨Nat.le_of_ble_eq_true rfl, Nat.le_of_ble_eq_true rfl⟩ (isSt_lay hv0).1 rfl rfl rfl (Nat.le_of_ble_eq_true rfl) dX1_heard_42 ?_
      show J p l e rmX1_heard s m args below meth c g A 6 (MQ below (QC g A (some (.int r)) S) args s 0 0 A) 0 0 45 [(4, .int w0), (0, .ref (g.2.1 v0)), (1, .int v1), (2, .int v2), (3, .int v3)] [.int r42] S
      refine j_if_eq F (tgt := 65) dX1_heard_45 (by decide) hm (fun _ hm => ?_) (fun _ hm => ?_)
      · refine j_sub [1, 2, 3, 4, 0] rfl ?_
        exact hj65 v2 v3 w0  hm
      · refine j_aload_n F 1 dX1_heard_48 rfl ?_
        refine j_iload_n F 4 dX1_heard_49 rfl ?_
        refine j_iconst F (v := 3) dX1_heard_50 (by decide) ?_
        refine j_iload_n F 2 dX1_heard_51 rfl ?_
        obtain ⟨r52, hc52, hm⟩ := Option.bind_eq_some_iff.mp hm
        refine j_callSN F (n := 3) (As := [.int v3, .int 3, .int v1]) (rest := [.ref (g.2.1 v0)]) (c_X5_rightOf l g hg v3 3 v1 S r52 hc52) gc_X5_rightOf tw400 tw61 tw63 (by decide +kernel) ⟨Nat.le_of_ble_eq_true rfl, Nat.le_of_ble_eq_true rfl⟩ ⟨Nat.le_of_ble_eq_true rfl, Nat.le_of_ble_eq_true rfl⟩ rfl rfl (Nat.le_of_ble_eq_true rfl) dX1_heard_52 ?_
        show J p l e rmX1_heard s m args below meth c g A 6 (MQ below (QC g A (some (.int r)) S) args s 0 0 A) 0 0 55 [(4, .int w0), (0, .ref (g.2.1 v0)), (1, .int v1), (2, .int v2), (3, .int v3)] [.int r52, .ref (g.2.1 v0)] S
        obtain ⟨r55, hc55, hm⟩ := Option.bind_eq_some_iff.mp hm
        refine j_callV F (n := 1) (As := [.int r52]) (rest := []) (c_X3_has l g hg v0 r52 hv0 S r55 hc55) gw_X1_33 (by decide +kernel) ⟨Nat.le_of_ble_eq_true rfl, Nat.le_of_ble_eq_true rfl⟩ ⟨Nat.le_of_ble_eq_true rfl, Nat.le_of_ble_eq_true rfl⟩ (isSt_lay hv0).1 rfl rfl rfl (Nat.le_of_ble_eq_true rfl) dX1_heard_55 ?_
        show J p l e rmX1_heard s m args below meth c g A 6 (MQ below (QC g A (some (.int r)) S) args s 0 0 A) 0 0 58 [(4, .int w0), (0, .ref (g.2.1 v0)), (1, .int v1), (2, .int v2), (3, .int v3)] [.int r55] S
        refine j_if_eq F (tgt := 65) dX1_heard_58 (by decide) hm (fun _ hm => ?_) (fun _ hm => ?_)
        · refine j_sub [1, 2, 3, 4, 0] rfl ?_
          exact hj65 v2 v3 w0  hm
        · refine j_iconst F (v := 1) dX1_heard_61 (by decide) ?_
          refine j_goto F (tgt := 66) dX1_heard_62 (by decide) ?_
          refine j_sub [1, 2, 3, 4, 0] rfl ?_
          exact hj66 v2 v3 w0 1  hm
    have hj37 : ∀ (v2 : Int32) (v3 : Int32), m_X1_heard_J37 v0 v1 v2 v3 S = some o1 → J p l e rmX1_heard s m args below meth c g A 6 (MQ below (QC g A (some (.int r)) S) args s 0 0 A) 0 0 37 [(0, .ref (g.2.1 v0)), (1, .int v1), (2, .int v2), (3, .int v3)] [] S := by
      intro v2 v3 hm
      unfold m_X1_heard_J37 at hm
      refine j_iconst F (v := 0) dX1_heard_37 (by decide) ?_
      refine j_sub [0, 1, 2, 3] rfl ?_
      exact hj38 v2 v3 0  hm
    refine j_iload_n F 3 dX1_heard_4 rfl ?_
    refine j_aload_n F 0 dX1_heard_5 rfl ?_
    refine j_getI F (k0 := 0) (C := RX3) (T := TX3) (N := 4) (isSt_lay hv0).1 rfl rfl inF3 (by decide) tw124 dX1_heard_6 ?_
    refine j_icmp_ge F (tgt := 90) dX1_heard_9 (by decide) hm (fun _ hm => ?_) (fun _ hm => ?_)
    · cases hm
      refine j_sub [2] rfl ?_
      exact hk1
    · refine j_aload_n F 0 dX1_heard_12 rfl ?_
      refine j_iload_n F 1 dX1_heard_13 rfl ?_
      obtain ⟨r14, hc14, hm⟩ := Option.bind_eq_some_iff.mp hm
      refine j_callV F (n := 1) (As := [.int v1]) (rest := []) (c_X3_isPerson l g hg v0 v1 hv0 S r14 hc14) gw_X1_25 (by decide +kernel) ⟨Nat.le_of_ble_eq_true rfl, Nat.le_of_ble_eq_true rfl⟩ ⟨Nat.le_of_ble_eq_true rfl, Nat.le_of_ble_eq_true rfl⟩ (isSt_lay hv0).1 rfl rfl rfl (Nat.le_of_ble_eq_true rfl) dX1_heard_14 ?_
      show J p l e rmX1_heard s m args below meth c g A 6 (MQ below (QC g A (some (.int r)) S) args s 0 0 A) 0 0 17 [(0, .ref (g.2.1 v0)), (1, .int v1), (2, .int v2), (3, .int v3)] [.int r14] S
      refine j_if_eq F (tgt := 37) dX1_heard_17 (by decide) hm (fun _ hm => ?_) (fun _ hm => ?_)
      · refine j_sub [0, 1, 2, 3] rfl ?_
        exact hj37 v2 v3  hm
      · refine j_aload_n F 0 dX1_heard_20 rfl ?_
        refine j_iload_n F 1 dX1_heard_21 rfl ?_
        refine j_iconst F (v := 2) dX1_heard_22 (by decide) ?_
        refine j_iload_n F 3 dX1_heard_23 rfl ?_
        obtain ⟨r24, hc24, hm⟩ := Option.bind_eq_some_iff.mp hm
        refine j_callSN F (n := 3) (As := [.int v1, .int 2, .int v3]) (rest := [.ref (g.2.1 v0)]) (c_X5_rightOf l g hg v1 2 v3 S r24 hc24) gc_X5_rightOf tw400 tw61 tw63 (by decide +kernel) ⟨Nat.le_of_ble_eq_true rfl, Nat.le_of_ble_eq_true rfl⟩ ⟨Nat.le_of_ble_eq_true rfl, Nat.le_of_ble_eq_true rfl⟩ rfl rfl (Nat.le_of_ble_eq_true rfl) dX1_heard_24 ?_
        show J p l e rmX1_heard s m args below meth c g A 6 (MQ below (QC g A (some (.int r)) S) args s 0 0 A) 0 0 27 [(0, .ref (g.2.1 v0)), (1, .int v1), (2, .int v2), (3, .int v3)] [.int r24, .ref (g.2.1 v0)] S
        obtain ⟨r27, hc27, hm⟩ := Option.bind_eq_some_iff.mp hm
        refine j_callV F (n := 1) (As := [.int r24]) (rest := []) (c_X3_has l g hg v0 r24 hv0 S r27 hc27) gw_X1_33 (by decide +kernel) ⟨Nat.le_of_ble_eq_true rfl, Nat.le_of_ble_eq_true rfl⟩ ⟨Nat.le_of_ble_eq_true rfl, Nat.le_of_ble_eq_true rfl⟩ (isSt_lay hv0).1 rfl rfl rfl (Nat.le_of_ble_eq_true rfl) dX1_heard_27 ?_
        show J p l e rmX1_heard s m args below meth c g A 6 (MQ below (QC g A (some (.int r)) S) args s 0 0 A) 0 0 30 [(0, .ref (g.2.1 v0)), (1, .int v1), (2, .int v2), (3, .int v3)] [.int r27] S
        refine j_if_eq F (tgt := 37) dX1_heard_30 (by decide) hm (fun _ hm => ?_) (fun _ hm => ?_)
        · refine j_sub [0, 1, 2, 3] rfl ?_
          exact hj37 v2 v3  hm
        · refine j_iconst F (v := 1) dX1_heard_33 (by decide) ?_
          refine j_goto F (tgt := 38) dX1_heard_34 (by decide) ?_
          refine j_sub [0, 1, 2, 3] rfl ?_
          exact hj38 v2 v3 1  hm
  · show J p l e rmX1_heard s m args below meth c g A 6 (MQ below (QC g A (some (.int r)) S) args s 0 0 A) 0 0 90 [(2, .int y4)] [] S
    refine j_iload_n F 0 dX1_heard_90 rfl ?_
    exact j_iret_p F rfl dX1_heard_91 hm
noncomputable def m_X1_follow_L2 (v1 : Nat) (v2 : Int32) (S : Hs) : Option ((Int32 × Hs) ⊕ Hs) := if 7 ≤ v2 then (some (.inr S)) else ((m_X1_heard v1 v2 S).bind fun r15 => (gd (inb v2 7) (bnd (sA S 11 v2.toNatClampNeg r15) fun S18 => (some (.inl ((v2 + 1, S18)))))))
def m_X1_follow_J69 (v2 : Int32) (v3 : Int32) (S : Hs) : Option ((Int32 × Hs) ⊕ Hs) := some (.inl ((v3 + 1, S)))
def m_X1_follow_L35 (v2 : Int32) (v3 : Int32) (S : Hs) : Option ((Int32 × Hs) ⊕ Hs) := if 7 ≤ v3 then (some (.inr S)) else (gd (inb v3 7) (if (((gA S 11 v3.toNatClampNeg) >>> (v2 &&& 31)) &&& 1) = 0 then (m_X1_follow_J69 v2 v3 S) else (gd (inb v3 7) (gd (inb v2 7) (gd (inb v3 7) (bnd (sA S 11 v3.toNatClampNeg ((gA S 11 v3.toNatClampNeg) ||| (gA S 11 v2.toNatClampNeg))) fun S68 => (m_X1_follow_J69 v2 v3 S68)))))))
noncomputable def m_X1_follow_L27 (v2 : Int32) (S : Hs) : Option ((Int32 × Hs) ⊕ Hs) := if 7 ≤ v2 then (some (.inr S)) else ((loopO (fun x => m_X1_follow_L35 v2 x.1 x.2) ((0, S))).bind fun y35 => some (.inl ((v2 + 1, y35))))
def m_X1_follow_L83 (v2 : Int32) (S : Hs) : Option ((Int32 × Hs) ⊕ Hs) := if 7 ≤ v2 then (some (.inr S)) else (gd (inb v2 7) (gd (inb v2 7) (bnd (sA S 11 v2.toNatClampNeg ((gA S 11 v2.toNatClampNeg) &&& ((1 <<< (v2 &&& 31)) ^^^ ((-1))))) fun S102 => (some (.inl ((v2 + 1, S102)))))))
noncomputable def m_X1_follow (v1 : Nat) (S : Hs) : Option (Hs) := (loopO (fun x => m_X1_follow_L2 v1 x.1 x.2) ((0, S))).bind fun y2 => (loopO (fun x => m_X1_follow_L27 x.1 x.2) ((0, y2))).bind fun y27 => (loopO (fun x => m_X1_follow_L83 x.1 x.2) ((0, y27))).bind fun y83 => some y83
set_option maxRecDepth 100000 in
set_option maxHeartbeats 4000000 in
theorem c_X1_follow (l : Launch) (g : GG) (hg : Inj g) (v1 : Nat) (hv1 : isSt v1 = true) (S : Hs) (S' : Hs) (hm : m_X1_follow v1 S = some S') : CM l yX1_follow [.code yX1_follow cX1_follow 4 none] rmX1_follow [.ref (g.2.1 10), .ref (g.2.1 v1)] g S none S' := by
  unfold m_X1_follow at hm
  refine CM.of (cc := cX1_follow) (nL := 4) (ret := none) (lv := [(0, .ref (g.2.1 10)), (1, .ref (g.2.1 v1))]) (by decide +kernel) hg (Nat.le_of_ble_eq_true rfl) rfl (fun p e s m args below meth c A F => ?_)
  replace F : Fx p s m meth c cX1_follow RX1 4 none g A := F
  show J p l e rmX1_follow s m args below meth c g A 4 (MQ below (QC g A none S') args s 0 0 A) 0 0 0 [(0, .ref (g.2.1 10)), (1, .ref (g.2.1 v1))] [] S
  refine j_iconst F (v := 0) dX1_follow_0 (by decide) ?_
  refine j_istore_n F (lv' := [(2, .int 0), (0, .ref (g.2.1 10)), (1, .ref (g.2.1 v1))]) dX1_follow_1 (by decide) rfl ?_
  refine j_sub [1, 2, 0] rfl ?_
  obtain ⟨y2, hlp2, hm⟩ := Option.bind_eq_some_iff.mp hm
  refine loopO_walk (fun x => m_X1_follow_L2 v1 x.1 x.2) (fun x => J p l e rmX1_follow s m args below meth c g A 4 (MQ below (QC g A none S') args s 0 0 A) 0 0 2 [(0, .ref (g.2.1 10)), (1, .ref (g.2.1 v1)), (2, .int x.1)] [] x.2) (fun x => J p l e rmX1_follow s m args below meth c g A 4 (MQ below (QC g A none S') args s 0 0 A) 0 0 25 [(0, .ref (g.2.1 10))] [] x) (fun x o1 hm hk1 => ?_) hlp2 ?_
  · obtain ⟨v2, S⟩ := x
    replace hm : m_X1_follow_L2 v1 v2 S = some o1 := hm
    show J p l e rmX1_follow s m args below meth c g A 4 (MQ below (QC g A none S') args s 0 0 A) 0 0 2 [(0, .ref (g.2.1 10)), (1, .ref (g.2.1 v1)), (2, .int v2)] [] S
    unfold m_X1_follow_L2 at hm
    refine j_iload_n F 2 dX1_follow_2 rfl ?_
    refine j_bipush F (v := 7) dX1_follow_3 (by decide) ?_
    refine j_icmp_ge F (tgt := 25) dX1_follow_5 (by decide) hm (fun _ hm => ?_) (fun _ hm => ?_)
    · cases hm
      refine j_sub [0] rfl ?_
      exact hk1
    · refine j_aload_n F 0 dX1_follow_8 rfl ?_
      refine j_getR F (k0 := 0) (C := RX1) (T := TX1) (N := 1) lay_10 rfl rfl inF1 (by decide) tw121 dX1_follow_9 ?_
      refine j_iload_n F 2 dX1_follow_12 rfl ?_
      refine j_aload_n F 1 dX1_follow_13 rfl ?_
      refine j_iload_n F 2 dX1_follow_14 rfl ?_
      obtain ⟨r15, hc15, hm⟩ := Option.bind_eq_some_iff.mp hm
      refine j_callS F (n := 2) (As := [.ref (g.2.1 v1), .int v2]) (rest := [.int v2, .ref (g.2.1 11)]) (c_X1_heard l g hg v1 v2 hv1 S r15 hc15) gw_X1_15 (by decide +kernel) ⟨Nat.le_of_ble_eq_true rfl, Nat.le_of_ble_eq_true rfl⟩ ⟨Nat.le_of_ble_eq_true rfl, Nat.le_of_ble_eq_true rfl⟩ rfl rfl (Nat.le_of_ble_eq_true rfl) dX1_follow_15 ?_
      show J p l e rmX1_follow s m args below meth c g A 4 (MQ below (QC g A none S') args s 0 0 A) 0 0 18 [(0, .ref (g.2.1 10)), (1, .ref (g.2.1 v1)), (2, .int v2)] [.int r15, .int v2, .ref (g.2.1 11)] S
      refine j_iast F lay_11 dX1_follow_18 hm (fun hm => ?_)
      refine j_bndS hm (fun S18 hm => ?_)
      refine j_iinc F (v := v2 + 1) (lv' := [(2, .int (v2 + 1)), (0, .ref (g.2.1 10)), (1, .ref (g.2.1 v1))]) 2 dX1_follow_19 rfl rfl (by decide) rfl ?_
      refine j_goto F (tgt := 2) dX1_follow_22 (by decide) ?_
      cases hm
      refine j_sub [1, 2, 0] rfl ?_
      exact hk1
  · show J p l e rmX1_follow s m args below meth c g A 4 (MQ below (QC g A none S') args s 0 0 A) 0 0 25 [(0, .ref (g.2.1 10))] [] y2
    refine j_iconst F (v := 0) dX1_follow_25 (by decide) ?_
    refine j_istore_n F (lv' := [(2, .int 0), (0, .ref (g.2.1 10))]) dX1_follow_26 (by decide) rfl ?_
    refine j_sub [1, 0] rfl ?_
    obtain ⟨y27, hlp27, hm⟩ := Option.bind_eq_some_iff.mp hm
    refine loopO_walk (fun x => m_X1_follow_L27 x.1 x.2) (fun x => J p l e rmX1_follow s m args below meth c g A 4 (MQ below (QC g A none S') args s 0 0 A) 0 0 27 [(0, .ref (g.2.1 10)), (2, .int x.1)] [] x.2) (fun x => J p l e rmX1_follow s m args below meth c g A 4 (MQ below (QC g A none S') args s 0 0 A) 0 0 81 [(0, .ref (g.2.1 10))] [] x) (fun x o1 hm hk1 => ?_) hlp27 ?_
    · obtain ⟨v2, S⟩ := x
      replace hm : m_X1_follow_L27 v2 S = some o1 := hm
      show J p l e rmX1_follow s m args below meth c g A 4 (MQ below (QC g A none S') args s 0 0 A) 0 0 27 [(0, .ref (g.2.1 10)), (2, .int v2)] [] S
      unfold m_X1_follow_L27 at hm
      refine j_iload_n F 1 dX1_follow_27 rfl ?_
      refine j_bipush F (v := 7) dX1_follow_28 (by decide) ?_
      refine j_icmp_ge F (tgt := 81) dX1_follow_30 (by decide) hm (fun _ hm => ?_) (fun _ hm => ?_)
      · cases hm
        refine j_sub [0] rfl ?_
        exact hk1
      · refine j_iconst F (v := 0) dX1_follow_33 (by decide) ?_
        refine j_istore_n F (lv' := [(3, .int 0), (0, .ref (g.2.1 10)), (2, .int v2)]) dX1_follow_34 (by decide) rfl ?_
        refine j_sub [1, 2, 0] rfl ?_
        obtain ⟨y35, hlp35, hm⟩ := Option.bind_eq_some_iff.mp hm
        refine loopO_walk (fun x => m_X1_follow_L35 v2 x.1 x.2) (fun x => J p l e rmX1_follow s m args below meth c g A 4 (MQ below (QC g A none S') args s 0 0 A) 0 0 35 [(0, .ref (g.2.1 10)), (2, .int v2), (3, .int x.1)] [] x.2) (fun x => J p l e rmX1_follow s m args below meth c g A 4 (MQ below (QC g A none S') args s 0 0 A) 0 0 75 [(0, .ref (g.2.1 10)), (2, .int v2)] [] x) (fun x o2 hm hk2 => ?_) hlp35 ?_
        · obtain ⟨v3, S⟩ := x
          replace hm : m_X1_follow_L35 v2 v3 S = some o2 := hm
          show J p l e rmX1_follow s m args below meth c g A 4 (MQ below (QC g A none S') args s 0 0 A) 0 0 35 [(0, .ref (g.2.1 10)), (2, .int v2), (3, .int v3)] [] S
          unfold m_X1_follow_L35 at hm
          have hj69 : ∀ (v3 : Int32) (S : Hs), m_X1_follow_J69 v2 v3 S = some o2 → J p l e rmX1_follow s m args below meth c g A 4 (MQ below (QC g A none S') args s 0 0 A) 0 0 69 [(0, .ref (g.2.1 10)), (2, .int v2), (3, .int v3)] [] S := by
            intro v3 S hm
            unfold m_X1_follow_J69 at hm
            refine j_iinc F (v := v3 + 1) (lv' := [(3, .int (v3 + 1)), (0, .ref (g.2.1 10)), (2, .int v2)]) 2 dX1_follow_69 rfl rfl (by decide) rfl ?_
            refine j_goto F (tgt := 35) dX1_follow_72 (by decide) ?_
            cases hm
            refine j_sub [1, 2, 0] rfl ?_
            exact hk2
          refine j_iload_n F 2 dX1_follow_35 rfl ?_
          refine j_bipush F (v := 7) dX1_follow_36 (by decide) ?_
          refine j_icmp_ge F (tgt := 75) dX1_follow_38 (by decide) hm (fun _ hm => ?_) (fun _ hm => ?_)
          · cases hm
            refine j_sub [0, 1] rfl ?_
            exact hk2
          · refine j_aload_n F 0 dX1_follow_41 rfl ?_
            refine j_getR F (k0 := 0) (C := RX1) (T := TX1) (N := 1) lay_10 rfl rfl inF1 (by decide) tw121 dX1_follow_42 ?_
            refine j_iload_n F 2 dX1_follow_45 rfl ?_
            refine j_iald F lay_11 dX1_follow_46 hm (fun hm => ?_)
            refine j_iload_n F 1 dX1_follow_47 rfl ?_
            refine j_ishr F dX1_follow_48 ?_
            refine j_iconst F (v := 1) dX1_follow_49 (by decide) ?_
            refine j_iand F dX1_follow_50 ?_
            refine j_if_eq F (tgt := 69) dX1_follow_51 (by decide) hm (fun _ hm => ?_) (fun _ hm => ?_)
            · refine j_sub [0, 1, 2] rfl ?_
              exact hj69 v3 S  hm
            · refine j_aload_n F 0 dX1_follow_54 rfl ?_
              refine j_getR F (k0 := 0) (C := RX1) (T := TX1) (N := 1) lay_10 rfl rfl inF1 (by decide) tw121 dX1_follow_55 ?_
              refine j_iload_n F 2 dX1_follow_58 rfl ?_
              refine j_dup2 F dX1_follow_59 rfl rfl ?_
              refine j_iald F lay_11 dX1_follow_60 hm (fun hm => ?_)
              refine j_aload_n F 0 dX1_follow_61 rfl ?_
              refine j_getR F (k0 := 0) (C := RX1) (T := TX1) (N := 1) lay_10 rfl rfl inF1 (by decide) tw121 dX1_follow_62 ?_
              refine j_iload_n F 1 dX1_follow_65 rfl ?_
              refine j_iald F lay_11 dX1_follow_66 hm (fun hm => ?_)
              refine j_ior F dX1_follow_67 ?_
              refine j_iast F lay_11 dX1_follow_68 hm (fun hm => ?_)
              refine j_bndS hm (fun S68 hm => ?_)
              refine j_sub [0, 1, 2] rfl ?_
              exact hj69 v3 S68  hm
        · show J p l e rmX1_follow s m args below meth c g A 4 (MQ below (QC g A none S') args s 0 0 A) 0 0 75 [(0, .ref (g.2.1 10)), (2, .int v2)] [] y35
          refine j_iinc F (v := v2 + 1) (lv' := [(2, .int (v2 + 1)), (0, .ref (g.2.1 10))]) 1 dX1_follow_75 rfl rfl (by decide) rfl ?_
          refine j_goto F (tgt := 27) dX1_follow_78 (by decide) ?_
          cases hm
          refine j_sub [1, 0] rfl ?_
          exact hk1
    · show J p l e rmX1_follow s m args below meth c g A 4 (MQ below (QC g A none S') args s 0 0 A) 0 0 81 [(0, .ref (g.2.1 10))] [] y27
      refine j_iconst F (v := 0) dX1_follow_81 (by decide) ?_
      refine j_istore_n F (lv' := [(2, .int 0), (0, .ref (g.2.1 10))]) dX1_follow_82 (by decide) rfl ?_
      refine j_sub [1, 0] rfl ?_
      obtain ⟨y83, hlp83, hm⟩ := Option.bind_eq_some_iff.mp hm
      refine loopO_walk (fun x => m_X1_follow_L83 x.1 x.2) (fun x => J p l e rmX1_follow s m args below meth c g A 4 (MQ below (QC g A none S') args s 0 0 A) 0 0 83 [(0, .ref (g.2.1 10)), (2, .int x.1)] [] x.2) (fun x => J p l e rmX1_follow s m args below meth c g A 4 (MQ below (QC g A none S') args s 0 0 A) 0 0 109 [] [] x) (fun x o1 hm hk1 => ?_) hlp83 ?_
      · obtain ⟨v2, S⟩ := x
        replace hm : m_X1_follow_L83 v2 S = some o1 := hm
        show J p l e rmX1_follow s m args below meth c g A 4 (MQ below (QC g A none S') args s 0 0 A) 0 0 83 [(0, .ref (g.2.1 10)), (2, .int v2)] [] S
        unfold m_X1_follow_L83 at hm
        refine j_iload_n F 1 dX1_follow_83 rfl ?_
        refine j_bipush F (v := 7) dX1_follow_84 (by decide) ?_
        refine j_icmp_ge F (tgt := 109) dX1_follow_86 (by decide) hm (fun _ hm => ?_) (fun _ hm => ?_)
        · cases hm
          refine j_sub [] rfl ?_
          exact hk1
        · refine j_aload_n F 0 dX1_follow_89 rfl ?_
          refine j_getR F (k0 := 0) (C := RX1) (T := TX1) (N := 1) lay_10 rfl rfl inF1 (by decide) tw121 dX1_follow_90 ?_
          refine j_iload_n F 1 dX1_follow_93 rfl ?_
          refine j_dup2 F dX1_follow_94 rfl rfl ?_
          refine j_iald F lay_11 dX1_follow_95 hm (fun hm => ?_)
          refine j_iconst F (v := 1) dX1_follow_96 (by decide) ?_
          refine j_iload_n F 1 dX1_follow_97 rfl ?_
          refine j_ishl F dX1_follow_98 ?_
          refine j_iconst F (v := -1) dX1_follow_99 (by decide) ?_
          refine j_ixor F dX1_follow_100 ?_
          refine j_iand F dX1_follow_101 ?_
          refine j_iast F lay_11 dX1_follow_102 hm (fun hm => ?_)
          refine j_bndS hm (fun S102 hm => ?_)
          refine j_iinc F (v := v2 + 1) (lv' := [(2, .int (v2 + 1)), (0, .ref (g.2.1 10))]) 1 dX1_follow_103 rfl rfl (by decide) rfl ?_
          refine j_goto F (tgt := 83) dX1_follow_106 (by decide) ?_
          cases hm
          refine j_sub [1, 0] rfl ?_
          exact hk1
      · show J p l e rmX1_follow s m args below meth c g A 4 (MQ below (QC g A none S') args s 0 0 A) 0 0 109 [] [] y83
        exact j_vret_e F rfl dX1_follow_109 hm
def m_X1_countPairs_L4 (S : Hs) (v1 : Int32) (v2 : Int32) : Option ((Int32 × Int32) ⊕ Int32) := if 7 ≤ v2 then (some (.inr v1)) else (gd (inb v2 7) ((m_J6_bitCount_0f7a4 (gA S 11 v2.toNatClampNeg)).bind fun r17 => (bnd (v1 + r17) fun v1_21 => (some (.inl ((v1_21, v2 + 1)))))))
noncomputable def m_X1_countPairs (S : Hs) : Option (Int32) := (loopO (fun x => m_X1_countPairs_L4 S x.1 x.2) ((0, 0))).bind fun y4 => some y4
set_option maxRecDepth 100000 in
set_option maxHeartbeats 4000000 in
theorem c_X1_countPairs (l : Launch) (g : GG) (hg : Inj g)   (S : Hs) (r : Int32) (hm : m_X1_countPairs S = some r) : CM l yX1_countPairs [.code yX1_countPairs cX1_countPairs 3 (some .int)] rmX1_countPairs [.ref (g.2.1 10)] g S (some (.int r)) S := by
  unfold m_X1_countPairs at hm
  refine CM.of (cc := cX1_countPairs) (nL := 3) (ret := (some .int)) (lv := [(0, .ref (g.2.1 10))]) (by decide +kernel) hg (Nat.le_of_ble_eq_true rfl) rfl (fun p e s m args below meth c A F => ?_)
  replace F : Fx p s m meth c cX1_countPairs RX1 3 (some .int) g A := F
  show J p l e rmX1_countPairs s m args below meth c g A 3 (MQ below (QC g A (some (.int r)) S) args s 0 0 A) 0 0 0 [(0, .ref (g.2.1 10))] [] S
  refine j_iconst F (v := 0) dX1_countPairs_0 (by decide) ?_
  refine j_istore_n F (lv' := [(1, .int 0), (0, .ref (g.2.1 10))]) dX1_countPairs_1 (by decide) rfl ?_
  refine j_iconst F (v := 0) dX1_countPairs_2 (by decide) ?_
  refine j_istore_n F (lv' := [(2, .int 0), (1, .int 0), (0, .ref (g.2.1 10))]) dX1_countPairs_3 (by decide) rfl ?_
  refine j_sub [2, 1, 0] rfl ?_
  obtain ⟨y4, hlp4, hm⟩ := Option.bind_eq_some_iff.mp hm
  refine loopO_walk (fun x => m_X1_countPairs_L4 S x.1 x.2) (fun x => J p l e rmX1_countPairs s m args below meth c g A 3 (MQ below (QC g A (some (.int r)) S) args s 0 0 A) 0 0 4 [(0, .ref (g.2.1 10)), (1, .int x.1), (2, .int x.2)] [] S) (fun x => J p l e rmX1_countPairs s m args below meth c g A 3 (MQ below (QC g A (some (.int r)) S) args s 0 0 A) 0 0 28 [(1, .int x)] [] S) (fun x o1 hm hk1 => ?_) hlp4 ?_
  · obtain ⟨v1, v2⟩ := x
    replace hm : m_X1_countPairs_L4 S v1 v2 = some o1 := hm
    show J p l e rmX1_countPairs s m args below meth c g A 3 (MQ below (QC g A (some (.int r)) S) args s 0 0 A) 0 0 4 [(0, .ref (g.2.1 10)), (1, .int v1), (2, .int v2)] [] S
    unfold m_X1_countPairs_L4 at hm
    refine j_iload_n F 2 dX1_countPairs_4 rfl ?_
    refine j_bipush F (v := 7) dX1_countPairs_5 (by decide) ?_
    refine j_icmp_ge F (tgt := 28) dX1_countPairs_7 (by decide) hm (fun _ hm => ?_) (fun _ hm => ?_)
    · cases hm
      refine j_sub [1] rfl ?_
      exact hk1
    · refine j_iload_n F 1 dX1_countPairs_10 rfl ?_
      refine j_aload_n F 0 dX1_countPairs_11 rfl ?_
      refine j_getR F (k0 := 0) (C := RX1) (T := TX1) (N := 1) lay_10 rfl rfl inF1 (by decide) tw121 dX1_countPairs_12 ?_
      refine j_iload_n F 2 dX1_countPairs_15 rfl ?_
      refine j_iald F lay_11 dX1_countPairs_16 hm (fun hm => ?_)
      obtain ⟨r17, hc17, hm⟩ := Option.bind_eq_some_iff.mp hm
      refine j_callS F (n := 1) (As := [.int (gA S 11 v2.toNatClampNeg)]) (rest := [.int v1]) (c_J6_bitCount_0f7a4 l g hg (gA S 11 v2.toNatClampNeg) S r17 hc17) gw_X1_36 (by decide +kernel) ⟨Nat.le_of_ble_eq_true rfl, Nat.le_of_ble_eq_true rfl⟩ ⟨Nat.le_of_ble_eq_true rfl, Nat.le_of_ble_eq_true rfl⟩ rfl rfl (Nat.le_of_ble_eq_true rfl) dX1_countPairs_17 ?_
      show J p l e rmX1_countPairs s m args below meth c g A 3 (MQ below (QC g A (some (.int r)) S) args s 0 0 A) 0 0 20 [(0, .ref (g.2.1 10)), (1, .int v1), (2, .int v2)] [.int r17, .int v1] S
      refine j_iadd F dX1_countPairs_20 ?_
      refine j_bnd hm (fun v1_21 hm => ?_)
      refine j_istore_n F (lv' := [(1, .int v1_21), (0, .ref (g.2.1 10)), (2, .int v2)]) dX1_countPairs_21 (by decide) rfl ?_
      refine j_iinc F (v := v2 + 1) (lv' := [(2, .int (v2 + 1)), (1, .int v1_21), (0, .ref (g.2.1 10))]) 2 dX1_countPairs_22 rfl rfl (by decide) rfl ?_
      refine j_goto F (tgt := 4) dX1_countPairs_25 (by decide) ?_
      cases hm
      refine j_sub [2, 1, 0] rfl ?_
      exact hk1
  · show J p l e rmX1_countPairs s m args below meth c g A 3 (MQ below (QC g A (some (.int r)) S) args s 0 0 A) 0 0 28 [(1, .int y4)] [] S
    refine j_iload_n F 0 dX1_countPairs_28 rfl ?_
    exact j_iret_p F rfl dX1_countPairs_29 hm
def m_X2_comes_J17 (w0 : Int32) (S : Hs) : Option (Int32) := gd (decide (w0 = 0 ∨ w0 = 1)) (some w0)
def m_X2_comes (v1 : Int32) (S : Hs) : Option (Int32) := gd (inb v1 196) (if (gA S 7 v1.toNatClampNeg) = 197 then (m_X2_comes_J17 0 S) else (m_X2_comes_J17 1 S))
set_option maxRecDepth 100000 in
set_option maxHeartbeats 4000000 in
theorem c_X2_comes (l : Launch) (g : GG) (hg : Inj g) (v1 : Int32)  (S : Hs) (r : Int32) (hm : m_X2_comes v1 S = some r) : CM l yX2_comes [.code yX2_comes cX2_comes 2 (some .boolean)] rmX2_comes [.ref (g.2.1 6), .int v1] g S (some (.int r)) S := by
  unfold m_X2_comes at hm
  refine CM.of (cc := cX2_comes) (nL := 2) (ret := (some .boolean)) (lv := [(0, .ref (g.2.1 6)), (1, .int v1)]) (by decide +kernel) hg (Nat.le_of_ble_eq_true rfl) rfl (fun p e s m args below meth c A F => ?_)
  replace F : Fx p s m meth c cX2_comes RX2 2 (some .boolean) g A := F
  show J p l e rmX2_comes s m args below meth c g A 2 (MQ below (QC g A (some (.int r)) S) args s 0 0 A) 0 0 0 [(0, .ref (g.2.1 6)), (1, .int v1)] [] S
  have hj17 : ∀ (w0 : Int32) (S : Hs), m_X2_comes_J17 w0 S = some r → J p l e rmX2_comes s m args below meth c g A 2 (MQ below (QC g A (some (.int r)) S) args s 0 0 A) 0 0 17 [] [.int w0] S := by
    intro w0 S hm
    unfold m_X2_comes_J17 at hm
    obtain ⟨hb, hm⟩ := gd_ok hm
    exact j_zret_p F rfl (z_nar hb) dX2_comes_17 hm
  refine j_aload_n F 0 dX2_comes_0 rfl ?_
  refine j_getR F (k0 := 1) (C := RX2) (T := TX2) (N := 7) lay_6 rfl rfl inF2 (by decide) tw22 dX2_comes_1 ?_
  refine j_iload_n F 1 dX2_comes_4 rfl ?_
  refine j_iald F lay_7 dX2_comes_5 hm (fun hm => ?_)
  refine j_sipush F (v := 197) dX2_comes_6 (by decide) ?_
  refine j_icmp_eq F (tgt := 16) dX2_comes_9 (by decide) hm (fun _ hm => ?_) (fun _ hm => ?_)
  · refine j_iconst F (v := 0) dX2_comes_16 (by decide) ?_
    refine j_sub [] rfl ?_
    exact hj17 0 S  hm
  · refine j_iconst F (v := 1) dX2_comes_12 (by decide) ?_
    refine j_goto F (tgt := 17) dX2_comes_13 (by decide) ?_
    refine j_sub [] rfl ?_
    exact hj17 1 S  hm
def m_X2_wayOf_J18 (S : Hs) : Option (Int32) := some ((-9))
def m_X2_wayOf_J99 (v2 : Int32) (v3 : Int32) (v4 : Int32) (v5 : Int32) (S : Hs) : Option (Int32 ⊕ (Unit ⊕ Int32)) := some (.inl (v5 + 1))
def m_X2_wayOf_L35 (v2 : Int32) (v3 : Int32) (v4 : Int32) (S : Hs) (v5 : Int32) : Option (Int32 ⊕ (Unit ⊕ Int32)) := if (gI S 67 0) ≤ v5 then (some (.inr (.inl (())))) else ((m_X3_isAwake 67 v3 S).bind fun r52 => (if r52 = 0 then (some (.inr (.inl (())))) else ((m_X5_rightOf v3 0 v5).bind fun r66 => (gd (inb r66 196) (if v2 ≤ (gA S 7 r66.toNatClampNeg) then (m_X2_wayOf_J99 v2 v3 v4 v5 S) else (gd (inb ((28 * v5) + v4) 196) (if v2 ≤ (gA S 7 ((28 * v5) + v4).toNatClampNeg) then (m_X2_wayOf_J99 v2 v3 v4 v5 S) else (some (.inr (.inr ((10 * v3) + v5)))))))))))
def m_X2_wayOf_J176 (v2 : Int32) (v3 : Int32) (v4 : Int32) (v5 : Int32) (S : Hs) : Option (Int32 ⊕ (Unit ⊕ Int32)) := some (.inl (v5 + 1))
def m_X2_wayOf_L108 (v2 : Int32) (v3 : Int32) (v4 : Int32) (S : Hs) (v5 : Int32) : Option (Int32 ⊕ (Unit ⊕ Int32)) := if (gI S 67 0) ≤ v5 then (some (.inr (.inl (())))) else ((m_X3_isAwake 67 v5 S).bind fun r126 => (if r126 = 0 then (m_X2_wayOf_J176 v2 v3 v4 v5 S) else ((m_X5_rightOf v5 1 v3).bind fun r140 => (gd (inb r140 196) (if v2 ≤ (gA S 7 r140.toNatClampNeg) then (m_X2_wayOf_J176 v2 v3 v4 v5 S) else (gd (inb ((28 * v5) + v4) 196) (if v2 ≤ (gA S 7 ((28 * v5) + v4).toNatClampNeg) then (m_X2_wayOf_J176 v2 v3 v4 v5 S) else (some (.inr (.inr ((100 + (10 * v5)) + v3)))))))))))
noncomputable def m_X2_wayOf_J105 (v2 : Int32) (v3 : Int32) (v4 : Int32) (S : Hs) : Option (Int32) := (loopO (fun x => m_X2_wayOf_L108 v2 v3 v4 S x) 0).bind fun e108 => Sum.elim (fun y108 => some ((-9))) (fun q => some q) e108
noncomputable def m_X2_wayOf (v1 : Int32) (S : Hs) : Option (Int32) := gd (inb v1 196) (bnd (gA S 7 v1.toNatClampNeg) fun v2_6 => (if v2_6 = 0 then (m_X2_wayOf_J18 S) else (if v2_6 = 197 then (m_X2_wayOf_J18 S) else ((m_X5_ownerOf v1).bind fun r22 => (bnd (irm v1 28) fun v4_30 => ((loopO (fun x => m_X2_wayOf_L35 v2_6 r22 v4_30 S x) 0).bind fun e35 => Sum.elim (fun y35 => m_X2_wayOf_J105 v2_6 r22 v4_30 S) (fun q => some q) e35))))))
set_option maxRecDepth 100000 in
set_option maxHeartbeats 4000000 in
theorem c_X2_wayOf (l : Launch) (g : GG) (hg : Inj g) (v1 : Int32)  (S : Hs) (r : Int32) (hm : m_X2_wayOf v1 S = some r) : CM l yX2_wayOf [.code yX2_wayOf cX2_wayOf 6 (some .int)] rmX2_wayOf [.ref (g.2.1 6), .int v1] g S (some (.int r)) S := by
  unfold m_X2_wayOf at hm
  refine CM.of (cc := cX2_wayOf) (nL := 6) (ret := (some .int)) (lv := [(0, .ref (g.2.1 6)), (1, .int v1)]) (by decide +kernel) hg (Nat.le_of_ble_eq_true rfl) rfl (fun p e s m args below meth c A F => ?_)
  replace F : Fx p s m meth c cX2_wayOf RX2 6 (some .int) g A := F
  show J p l e rmX2_wayOf s m args below meth c g A 6 (MQ below (QC g A (some (.int r)) S) args s 0 0 A) 0 0 0 [(0, .ref (g.2.1 6)), (1, .int v1)] [] S
  have hj18 : ∀ (S : Hs), m_X2_wayOf_J18 S = some r → J p l e rmX2_wayOf s m args below meth c g A 6 (MQ below (QC g A (some (.int r)) S) args s 0 0 A) 0 0 18 [] [] S := by
    intro S hm
    unfold m_X2_wayOf_J18 at hm
    refine j_bipush F (v := -9) dX2_wayOf_18 (by decide) ?_
    exact j_iret_p F rfl dX2_wayOf_20 hm
  have hj105 : ∀ (v2 : Int32) (v3 : Int32) (v4 : Int32) (S : Hs), m_X2_wayOf_J105 v2 v3 v4 S = some r → J p l e rmX2_wayOf s m args below meth c g A 6 (MQ below (QC g A (some (.int r)) S) args s 0 0 A) 0 0 105 [(0, .ref (g.2.1 6)), (2, .int v2), (3, .int v3), (4, .int v4)] [] S := by
    intro v2 v3 v4 S hm
    unfold m_X2_wayOf_J105 at hm
    refine j_iconst F (v := 0) dX2_wayOf_105 (by decide) ?_
    refine j_istore F (lv' := [(5, .int 0), (0, .ref (g.2.1 6)), (2, .int v2), (3, .int v3), (4, .int v4)]) dX2_wayOf_106 (by decide) rfl ?_
    refine j_sub [1, 2, 3, 4, 0] rfl ?_
    obtain ⟨e108, hlp108, hm⟩ := Option.bind_eq_some_iff.mp hm
    refine loopO_walk (fun x => m_X2_wayOf_L108 v2 v3 v4 S x) (fun x => J p l e rmX2_wayOf s m args below meth c g A 6 (MQ below (QC g A (some (.int r)) S) args s 0 0 A) 0 0 108 [(0, .ref (g.2.1 6)), (2, .int v2), (3, .int v3), (4, .int v4), (5, .int x)] [] S) (fun z => match z with | .inl x => J p l e rmX2_wayOf s m args below meth c g A 6 (MQ below (QC g A (some (.int r)) S) args s 0 0 A) 0 0 182 [] [] S | .inr x => some x = some r) (fun x o1 hm hk1 => ?_) hlp108 ?_
    · obtain ⟨v5, rfl⟩ : ∃ z, z = x := ⟨_, rfl⟩
      replace hm : m_X2_wayOf_L108 v2 v3 v4 S v5 = some o1 := hm
      show J p l e rmX2_wayOf s m args below meth c g A 6 (MQ below (QC g A (some (.int r)) S) args s 0 0 A) 0 0 108 [(0, .ref (g.2.1 6)), (2, .int v2), (3, .int v3), (4, .int v4), (5, .int v5)] [] S
      unfold m_X2_wayOf_L108 at hm
      have hj176 : ∀ (v5 : Int32), m_X2_wayOf_J176 v2 v3 v4 v5 S = some o1 → J p l e rmX2_wayOf s m args below meth c g A 6 (MQ below (QC g A (some (.int r)) S) args s 0 0 A) 0 0 176 [(0, .ref (g.2.1 6)), (2, .int v2), (3, .int v3), (4, .int v4), (5, .int v5)] [] S := by
        intro v5 hm
        unfold m_X2_wayOf_J176 at hm
        refine j_iinc F (v := v5 + 1) (lv' := [(5, .int (v5 + 1)), (0, .ref (g.2.1 6)), (2, .int v2), (3, .int v3), (4, .int v4)]) 4 dX2_wayOf_176 rfl rfl (by decide) rfl ?_
        refine j_goto F (tgt := 108) dX2_wayOf_179 (by decide) ?_
        cases hm
        refine j_sub [1, 2, 3, 4, 0] rfl ?_
        exact hk1
      refine j_iload F 4 dX2_wayOf_108 rfl ?_
      refine j_aload_n F 0 dX2_wayOf_110 rfl ?_
      refine j_getR F (k0 := 0) (C := RX2) (T := TX2) (N := 7) lay_6 rfl rfl inF2 (by decide) tw18 dX2_wayOf_111 ?_
      refine j_getI F (k0 := 0) (C := RX3) (T := TX3) (N := 4) (isSt_lay (i := 67) (by decide)).1 rfl rfl inF3 (by decide) tw19 dX2_wayOf_114 ?_
      refine j_icmp_ge F (tgt := 182) dX2_wayOf_117 (by decide) hm (fun _ hm => ?_) (fun _ hm => ?_)
      · cases hm
        refine j_sub [] rfl ?_
        exact hk1
      · refine j_aload_n F 0 dX2_wayOf_120 rfl ?_
        refine j_getR F (k0 := 0) (C := RX2) (T := TX2) (N := 7) lay_6 rfl rfl inF2 (by decide) tw18 dX2_wayOf_121 ?_
        refine j_iload F 4 dX2_wayOf_124 rfl ?_
        obtain ⟨r126, hc126, hm⟩ := Option.bind_eq_some_iff.mp hm
        refine j_callV F (n := 1) (As := [.int v5]) (rest := []) (c_X3_isAwake l g hg 67 v5 (by decide) S r126 hc126) gw_X2_61 (by decide +kernel) ⟨Nat.le_of_ble_eq_true rfl, Nat.le_of_ble_eq_true rfl⟩ ⟨Nat.le_of_ble_eq_true rfl, Nat.le_of_ble_eq_true rfl⟩ (isSt_lay (i := 67) (by decide)).1 rfl rfl rfl (Nat.le_of_ble_eq_true rfl) dX2_wayOf_126 ?_
        show J p l e rmX2_wayOf s m args below meth c g A 6 (MQ below (QC g A (some (.int r)) S) args s 0 0 A) 0 0 129 [(0, .ref (g.2.1 6)), (2, .int v2), (3, .int v3), (4, .int v4), (5, .int v5)] [.int r126] S
        refine j_if_eq F (tgt := 176) dX2_wayOf_129 (by decide) hm (fun _ hm => ?_) (fun _ hm => ?_)
        · refine j_sub [0, 1, 2, 3, 4] rfl ?_
          exact hj176 v5  hm
        · refine j_aload_n F 0 dX2_wayOf_132 rfl ?_
          refine j_getR F (k0 := 1) (C := RX2) (T := TX2) (N := 7) lay_6 rfl rfl inF2 (by decide) tw22 dX2_wayOf_133 ?_
          refine j_iload F 4 dX2_wayOf_136 rfl ?_
          refine j_iconst F (v := 1) dX2_wayOf_138 (by decide) ?_
          refine j_iload_n F 2 dX2_wayOf_139 rfl ?_
          obtain ⟨r140, hc140, hm⟩ := Option.bind_eq_some_iff.mp hm
          refine j_callSN F (n := 3) (As := [.int v5, .int 1, .int v3]) (rest := [.ref (g.2.1 7)]) (c_X5_rightOf l g hg v5 1 v3 S r140 hc140) gc_X5_rightOf tw405 tw61 tw63 (by decide +kernel) ⟨Nat.le_of_ble_eq_true rfl, Nat.le_of_ble_eq_true rfl⟩ ⟨Nat.le_of_ble_eq_true rfl, Nat.le_of_ble_eq_true rfl⟩ rfl rfl (Nat.le_of_ble_eq_true rfl) dX2_wayOf_140 ?_
          show J p l e rmX2_wayOf s m args below meth c g A 6 (MQ below (QC g A (some (.int r)) S) args s 0 0 A) 0 0 143 [(0, .ref (g.2.1 6)), (2, .int v2), (3, .int v3), (4, .int v4), (5, .int v5)] [.int r140, .ref (g.2.1 7)] S
          refine j_iald F lay_7 dX2_wayOf_143 hm (fun hm => ?_)
          refine j_iload_n F 1 dX2_wayOf_144 rfl ?_
          refine j_icmp_ge F (tgt := 176) dX2_wayOf_145 (by decide) hm (fun _ hm => ?_) (fun _ hm => ?_)
          · refine j_sub [0, 1, 2, 3, 4] rfl ?_
            exact hj176 v5  hm
          · refine j_aload_n F 0 dX2_wayOf_148 rfl ?_
            refine j_getR F (k0 := 1) (C := RX2) (T := TX2) (N := 7) lay_6 rfl rfl inF2 (by decide) tw22 dX2_wayOf_149 ?_
            refine j_bipush F (v := 28) dX2_wayOf_152 (by decide) ?_
            refine j_iload F 4 dX2_wayOf_154 rfl ?_
            refine j_imul F dX2_wayOf_156 ?_
            refine j_iload F 3 dX2_wayOf_157 rfl ?_
            refine j_iadd F dX2_wayOf_159 ?_
            refine j_iald F lay_7 dX2_wayOf_160 hm (fun hm => ?_)
            refine j_iload_n F 1 dX2_wayOf_161 rfl ?_
            refine j_icmp_ge F (tgt := 176) dX2_wayOf_162 (by decide) hm (fun _ hm => ?_) (fun _ hm => ?_)
            · refine j_sub [0, 1, 2, 3, 4] rfl ?_
              exact hj176 v5  hm
            · refine j_bipush F (v := 100) dX2_wayOf_165 (by decide) ?_
              refine j_bipush F (v := 10) dX2_wayOf_167 (by decide) ?_
              refine j_iload F 4 dX2_wayOf_169 rfl ?_
              refine j_imul F dX2_wayOf_171 ?_
              refine j_iadd F dX2_wayOf_172 ?_
              refine j_iload_n F 2 dX2_wayOf_173 rfl ?_
              refine j_iadd F dX2_wayOf_174 ?_
              cases hm
              have hr1 : some _ = some (r : Int32) := hk1
              exact j_iret_p F rfl dX2_wayOf_175 hr1
    · cases e108 with
      | inl y108 =>
        dsimp only [Sum.elim_inl] at hm
        show J p l e rmX2_wayOf s m args below meth c g A 6 (MQ below (QC g A (some (.int r)) S) args s 0 0 A) 0 0 182 [] [] S
        refine j_bipush F (v := -9) dX2_wayOf_182 (by decide) ?_
        exact j_iret_p F rfl dX2_wayOf_184 hm
      | inr q =>
        exact hm
  refine j_aload_n F 0 dX2_wayOf_0 rfl ?_
  refine j_getR F (k0 := 1) (C := RX2) (T := TX2) (N := 7) lay_6 rfl rfl inF2 (by decide) tw22 dX2_wayOf_1 ?_
  refine j_iload_n F 1 dX2_wayOf_4 rfl ?_
  refine j_iald F lay_7 dX2_wayOf_5 hm (fun hm => ?_)
  refine j_bnd hm (fun v2_6 hm => ?_)
  refine j_istore_n F (lv' := [(2, .int v2_6), (0, .ref (g.2.1 6)), (1, .int v1)]) dX2_wayOf_6 (by decide) rfl ?_
  refine j_iload_n F 0 dX2_wayOf_7 rfl ?_
  refine j_if_eq F (tgt := 18) dX2_wayOf_8 (by decide) hm (fun _ hm => ?_) (fun _ hm => ?_)
  · refine j_sub [] rfl ?_
    exact hj18 S  hm
  · refine j_iload_n F 0 dX2_wayOf_11 rfl ?_
    refine j_sipush F (v := 197) dX2_wayOf_12 (by decide) ?_
    refine j_icmp_ne F (tgt := 21) dX2_wayOf_15 (by decide) hm (fun _ hm => ?_) (fun _ hm => ?_)
    · refine j_iload_n F 2 dX2_wayOf_21 rfl ?_
      obtain ⟨r22, hc22, hm⟩ := Option.bind_eq_some_iff.mp hm
      refine j_callSN F (n := 1) (As := [.int v1]) (rest := []) (c_X5_ownerOf l g hg v1 S r22 hc22) gc_X5_ownerOf tw404 tw61 tw60 (by decide +kernel) ⟨Nat.le_of_ble_eq_true rfl, Nat.le_of_ble_eq_true rfl⟩ ⟨Nat.le_of_ble_eq_true rfl, Nat.le_of_ble_eq_true rfl⟩ rfl rfl (Nat.le_of_ble_eq_true rfl) dX2_wayOf_22 ?_
      show J p l e rmX2_wayOf s m args below meth c g A 6 (MQ below (QC g A (some (.int r)) S) args s 0 0 A) 0 0 25 [(2, .int v2_6), (0, .ref (g.2.1 6)), (1, .int v1)] [.int r22] S
      refine j_istore_n F (lv' := [(3, .int r22), (2, .int v2_6), (0, .ref (g.2.1 6)), (1, .int v1)]) dX2_wayOf_25 (by decide) rfl ?_
      refine j_iload_n F 3 dX2_wayOf_26 rfl ?_
      refine j_bipush F (v := 28) dX2_wayOf_27 (by decide) ?_
      refine j_irem F dX2_wayOf_29 (by decide) ?_
      refine j_bnd hm (fun v4_30 hm => ?_)
      refine j_istore F (lv' := [(4, .int v4_30), (3, .int r22), (2, .int v2_6), (0, .ref (g.2.1 6)), (1, .int v1)]) dX2_wayOf_30 (by decide) rfl ?_
      refine j_iconst F (v := 0) dX2_wayOf_32 (by decide) ?_
      refine j_istore F (lv' := [(5, .int 0), (4, .int v4_30), (3, .int r22), (2, .int v2_6), (0, .ref (g.2.1 6)), (1, .int v1)]) dX2_wayOf_33 (by decide) rfl ?_
      refine j_sub [4, 3, 2, 1, 0] rfl ?_
      obtain ⟨e35, hlp35, hm⟩ := Option.bind_eq_some_iff.mp hm
      refine loopO_walk (fun x => m_X2_wayOf_L35 v2_6 r22 v4_30 S x) (fun x => J p l e rmX2_wayOf s m args below meth c g A 6 (MQ below (QC g A (some (.int r)) S) args s 0 0 A) 0 0 35 [(0, .ref (g.2.1 6)), (2, .int v2_6), (3, .int r22), (4, .int v4_30), (5, .int x)] [] S) (fun z => match z with | .inl x => J p l e rmX2_wayOf s m args below meth c g A 6 (MQ below (QC g A (some (.int r)) S) args s 0 0 A) 0 0 105 [(0, .ref (g.2.1 6)), (2, .int v2_6), (3, .int r22), (4, .int v4_30)] [] S | .inr x => some x = some r) (fun x o1 hm hk1 => ?_) hlp35 ?_
      · obtain ⟨v5, rfl⟩ : ∃ z, z = x := ⟨_, rfl⟩
        replace hm : m_X2_wayOf_L35 v2_6 r22 v4_30 S v5 = some o1 := hm
        show J p l e rmX2_wayOf s m args below meth c g A 6 (MQ below (QC g A (some (.int r)) S) args s 0 0 A) 0 0 35 [(0, .ref (g.2.1 6)), (2, .int v2_6), (3, .int r22), (4, .int v4_30), (5, .int v5)] [] S
        unfold m_X2_wayOf_L35 at hm
        have hj99 : ∀ (v5 : Int32), m_X2_wayOf_J99 v2_6 r22 v4_30 v5 S = some o1 → J p l e rmX2_wayOf s m args below meth c g A 6 (MQ below (QC g A (some (.int r)) S) args s 0 0 A) 0 0 99 [(0, .ref (g.2.1 6)), (2, .int v2_6), (3, .int r22), (4, .int v4_30), (5, .int v5)] [] S := by
          intro v5 hm
          unfold m_X2_wayOf_J99 at hm
          refine j_iinc F (v := v5 + 1) (lv' := [(5, .int (v5 + 1)), (0, .ref (g.2.1 6)), (2, .int v2_6), (3, .int r22), (4, .int v4_30)]) 4 dX2_wayOf_99 rfl rfl (by decide) rfl ?_
          refine j_goto F (tgt := 35) dX2_wayOf_102 (by decide) ?_
          cases hm
          refine j_sub [1, 2, 3, 4, 0] rfl ?_
          exact hk1
        refine j_iload F 4 dX2_wayOf_35 rfl ?_
        refine j_aload_n F 0 dX2_wayOf_37 rfl ?_
        refine j_getR F (k0 := 0) (C := RX2) (T := TX2) (N := 7) lay_6 rfl rfl inF2 (by decide) tw18 dX2_wayOf_38 ?_
        refine j_getI F (k0 := 0) (C := RX3) (T := TX3) (N := 4) (isSt_lay (i := 67) (by decide)).1 rfl rfl inF3 (by decide) tw19 dX2_wayOf_41 ?_
        refine j_icmp_ge F (tgt := 105) dX2_wayOf_44 (by decide) hm (fun _ hm => ?_) (fun _ hm => ?_)
        · cases hm
          refine j_sub [0, 1, 2, 3] rfl ?_
          exact hk1
        · refine j_aload_n F 0 dX2_wayOf_47 rfl ?_
          refine j_getR F (k0 := 0) (C := RX2) (T := TX2) (N := 7) lay_6 rfl rfl inF2 (by decide) tw18 dX2_wayOf_48 ?_
          refine j_iload_n F 2 dX2_wayOf_51 rfl ?_
          obtain ⟨r52, hc52, hm⟩ := Option.bind_eq_some_iff.mp hm
          refine j_callV F (n := 1) (As := [.int r22]) (rest := []) (c_X3_isAwake l g hg 67 r22 (by decide) S r52 hc52) gw_X2_61 (by decide +kernel) ⟨Nat.le_of_ble_eq_true rfl, Nat.le_of_ble_eq_true rfl⟩ ⟨Nat.le_of_ble_eq_true rfl, Nat.le_of_ble_eq_true rfl⟩ (isSt_lay (i := 67) (by decide)).1 rfl rfl rfl (Nat.le_of_ble_eq_true rfl) dX2_wayOf_52 ?_
          show J p l e rmX2_wayOf s m args below meth c g A 6 (MQ below (QC g A (some (.int r)) S) args s 0 0 A) 0 0 55 [(0, .ref (g.2.1 6)), (2, .int v2_6), (3, .int r22), (4, .int v4_30), (5, .int v5)] [.int r52] S
          refine j_if_eq F (tgt := 105) dX2_wayOf_55 (by decide) hm (fun _ hm => ?_) (fun _ hm => ?_)
          · cases hm
            refine j_sub [0, 1, 2, 3] rfl ?_
            exact hk1
          · refine j_aload_n F 0 dX2_wayOf_58 rfl ?_
            refine j_getR F (k0 := 1) (C := RX2) (T := TX2) (N := 7) lay_6 rfl rfl inF2 (by decide) tw22 dX2_wayOf_59 ?_
            refine j_iload_n F 2 dX2_wayOf_62 rfl ?_
            refine j_iconst F (v := 0) dX2_wayOf_63 (by decide) ?_
            refine j_iload F 4 dX2_wayOf_64 rfl ?_
            obtain ⟨r66, hc66, hm⟩ := Option.bind_eq_some_iff.mp hm
            refine j_callSN F (n := 3) (As := [.int r22, .int 0, .int v5]) (rest := [.ref (g.2.1 7)]) (c_X5_rightOf l g hg r22 0 v5 S r66 hc66) gc_X5_rightOf tw405 tw61 tw63 (by decide +kernel) ⟨Nat.le_of_ble_eq_true rfl, Nat.le_of_ble_eq_true rfl⟩ ⟨Nat.le_of_ble_eq_true rfl, Nat.le_of_ble_eq_true rfl⟩ rfl rfl (Nat.le_of_ble_eq_true rfl) dX2_wayOf_66 ?_
            show J p l e rmX2_wayOf s m args below meth c g A 6 (MQ below (QC g A (some (.int r)) S) args s 0 0 A) 0 0 69 [(0, .ref (g.2.1 6)), (2, .int v2_6), (3, .int r22), (4, .int v4_30), (5, .int v5)] [.int r66, .ref (g.2.1 7)] S
            refine j_iald F lay_7 dX2_wayOf_69 hm (fun hm => ?_)
            refine j_iload_n F 1 dX2_wayOf_70 rfl ?_
            refine j_icmp_ge F (tgt := 99) dX2_wayOf_71 (by decide) hm (fun _ hm => ?_) (fun _ hm => ?_)
            · refine j_sub [0, 1, 2, 3, 4] rfl ?_
              exact hj99 v5  hm
            · refine j_aload_n F 0 dX2_wayOf_74 rfl ?_
              refine j_getR F (k0 := 1) (C := RX2) (T := TX2) (N := 7) lay_6 rfl rfl inF2 (by decide) tw22 dX2_wayOf_75 ?_
              refine j_bipush F (v := 28) dX2_wayOf_78 (by decide) ?_
              refine j_iload F 4 dX2_wayOf_80 rfl ?_
              refine j_imul F dX2_wayOf_82 ?_
              refine j_iload F 3 dX2_wayOf_83 rfl ?_
              refine j_iadd F dX2_wayOf_85 ?_
              refine j_iald F lay_7 dX2_wayOf_86 hm (fun hm => ?_)
              refine j_iload_n F 1 dX2_wayOf_87 rfl ?_
              refine j_icmp_ge F (tgt := 99) dX2_wayOf_88 (by decide) hm (fun _ hm => ?_) (fun _ hm => ?_)
              · refine j_sub [0, 1, 2, 3, 4] rfl ?_
                exact hj99 v5  hm
              · refine j_bipush F (v := 10) dX2_wayOf_91 (by decide) ?_
                refine j_iload_n F 2 dX2_wayOf_93 rfl ?_
                refine j_imul F dX2_wayOf_94 ?_
                refine j_iload F 4 dX2_wayOf_95 rfl ?_
                refine j_iadd F dX2_wayOf_97 ?_
                cases hm
                have hr1 : some _ = some (r : Int32) := hk1
                exact j_iret_p F rfl dX2_wayOf_98 hr1
      · cases e35 with
        | inl y35 =>
          dsimp only [Sum.elim_inl] at hm
          show J p l e rmX2_wayOf s m args below meth c g A 6 (MQ below (QC g A (some (.int r)) S) args s 0 0 A) 0 0 105 [(0, .ref (g.2.1 6)), (2, .int v2_6), (3, .int r22), (4, .int v4_30)] [] S
          refine j_sub [0, 1, 2, 3] rfl ?_
          exact hj105 v2_6 r22 v4_30 S  hm
        | inr q =>
          exact hm
    · refine j_sub [] rfl ?_
      exact hj18 S  hm
def m_X2_addToProof_J46 (S : Hs) : Option (Hs) := some S
def m_X2_addToProof (v1 : Int32) (S : Hs) : Option (Hs) := gd (inb v1 196) (if (gA S 9 v1.toNatClampNeg) = 0 then (if 196 ≤ (gI S 6 5) then (m_X2_addToProof_J46 S) else (gd (inb v1 196) (bnd (sA S 9 v1.toNatClampNeg (vp_nar .boolean 1)) fun S25 => (gd (inb (gI S25 6 5) 196) (bnd (sA S25 8 (gI S25 6 5).toNatClampNeg v1) fun S35 => (bnd (sI S35 6 5 ((gI S35 6 5) + 1)) fun S43 => (m_X2_addToProof_J46 S43))))))) else (m_X2_addToProof_J46 S))
set_option maxRecDepth 100000 in
set_option maxHeartbeats 4000000 in
theorem c_X2_addToProof (l : Launch) (g : GG) (hg : Inj g) (v1 : Int32)  (S : Hs) (S' : Hs) (hm : m_X2_addToProof v1 S = some S') : CM l yX2_addToProof [.code yX2_addToProof cX2_addToProof 2 none] rmX2_addToProof [.ref (g.2.1 6), .int v1] g S none S' := by
  unfold m_X2_addToProof at hm
  refine CM.of (cc := cX2_addToProof) (nL := 2) (ret := none) (lv := [(0, .ref (g.2.1 6)), (1, .int v1)]) (by decide +kernel) hg (Nat.le_of_ble_eq_true rfl) rfl (fun p e s m args below meth c A F => ?_)
  replace F : Fx p s m meth c cX2_addToProof RX2 2 none g A := F
  show J p l e rmX2_addToProof s m args below meth c g A 2 (MQ below (QC g A none S') args s 0 0 A) 0 0 0 [(0, .ref (g.2.1 6)), (1, .int v1)] [] S
  have hj46 : ∀ (S : Hs), m_X2_addToProof_J46 S = some S' → J p l e rmX2_addToProof s m args below meth c g A 2 (MQ below (QC g A none S') args s 0 0 A) 0 0 46 [] [] S := by
    intro S hm
    unfold m_X2_addToProof_J46 at hm
    exact j_vret_e F rfl dX2_addToProof_46 hm
  refine j_aload_n F 0 dX2_addToProof_0 rfl ?_
  refine j_getR F (k0 := 6) (C := RX2) (T := TX2) (N := 7) lay_6 rfl rfl inF2 (by decide) tw54 dX2_addToProof_1 ?_
  refine j_iload_n F 1 dX2_addToProof_4 rfl ?_
  refine j_zald F lay_9 dX2_addToProof_5 hm (fun hm => ?_)
  refine j_if_ne F (tgt := 46) dX2_addToProof_6 (by decide) hm (fun _ hm => ?_) (fun _ hm => ?_)
  · refine j_sub [] rfl ?_
    exact hj46 S  hm
  · refine j_aload_n F 0 dX2_addToProof_9 rfl ?_
    refine j_getI F (k0 := 5) (C := RX2) (T := TX2) (N := 7) lay_6 rfl rfl inF2 (by decide) tw55 dX2_addToProof_10 ?_
    refine j_sipush F (v := 196) dX2_addToProof_13 (by decide) ?_
    refine j_icmp_ge F (tgt := 46) dX2_addToProof_16 (by decide) hm (fun _ hm => ?_) (fun _ hm => ?_)
    · refine j_sub [] rfl ?_
      exact hj46 S  hm
    · refine j_aload_n F 0 dX2_addToProof_19 rfl ?_
      refine j_getR F (k0 := 6) (C := RX2) (T := TX2) (N := 7) lay_6 rfl rfl inF2 (by decide) tw54 dX2_addToProof_20 ?_
      refine j_iload_n F 1 dX2_addToProof_23 rfl ?_
      refine j_iconst F (v := 1) dX2_addToProof_24 (by decide) ?_
      refine j_zast F lay_9 dX2_addToProof_25 hm (fun hm => ?_)
      refine j_bndS hm (fun S25 hm => ?_)
      refine j_aload_n F 0 dX2_addToProof_26 rfl ?_
      refine j_getR F (k0 := 4) (C := RX2) (T := TX2) (N := 7) lay_6 rfl rfl inF2 (by decide) tw56 dX2_addToProof_27 ?_
      refine j_aload_n F 0 dX2_addToProof_30 rfl ?_
      refine j_getI F (k0 := 5) (C := RX2) (T := TX2) (N := 7) lay_6 rfl rfl inF2 (by decide) tw55 dX2_addToProof_31 ?_
      refine j_iload_n F 1 dX2_addToProof_34 rfl ?_
      refine j_iast F lay_8 dX2_addToProof_35 hm (fun hm => ?_)
      refine j_bndS hm (fun S35 hm => ?_)
      refine j_aload_n F 0 dX2_addToProof_36 rfl ?_
      refine j_dup F dX2_addToProof_37 rfl ?_
      refine j_getI F (k0 := 5) (C := RX2) (T := TX2) (N := 7) lay_6 rfl rfl inF2 (by decide) tw55 dX2_addToProof_38 ?_
      refine j_iconst F (v := 1) dX2_addToProof_41 (by decide) ?_
      refine j_iadd F dX2_addToProof_42 ?_
      refine j_putI F (k0 := 5) (C := RX2) (T := TX2) (N := 7) tyX2 tyX2_ok nmX2 lay_6 rfl rfl inF2 (by decide) tw55 rfl (by decide +kernel) dX2_addToProof_43 ?_
      refine j_bndS hm (fun S43 hm => ?_)
      refine j_sub [] rfl ?_
      exact hj46 S43  hm
def m_X2_addNeeds_J61 (v1 : Int32) (w0 : Int32) (w1 : Int32) (S : Hs) : Option (Hs) := (m_X2_addToProof ((w1 * w0) + (irm v1 28)) S).bind fun S67 => (some S67)
def m_X2_addNeeds_J39 (v1 : Int32) (v3 : Int32) (v4 : Int32) (v5 : Int32) (w0 : Int32) (w1 : Int32) (S : Hs) : Option (Hs) := (m_X5_rightOf w1 w0 v5).bind fun r41 => ((m_X2_addToProof r41 S).bind fun S44 => (if v3 = 0 then (m_X2_addNeeds_J61 v1 v5 28 S44) else (m_X2_addNeeds_J61 v1 v4 28 S44)))
def m_X2_addNeeds_J11 (v1 : Int32) (v2 : Int32) (w0 : Int32) (S : Hs) : Option (Hs) := bnd (irm (v2 / 10) 10) fun v4_19 => (bnd (irm v2 10) fun v5_25 => (if w0 = 0 then (m_X2_addNeeds_J39 v1 w0 v4_19 v5_25 0 v4_19 S) else (m_X2_addNeeds_J39 v1 w0 v4_19 v5_25 1 v4_19 S)))
def m_X2_addNeeds (v1 : Int32) (v2 : Int32) (S : Hs) : Option (Hs) := if v2 < 100 then (m_X2_addNeeds_J11 v1 v2 0 S) else (m_X2_addNeeds_J11 v1 v2 1 S)
set_option maxRecDepth 100000 in
set_option maxHeartbeats 4000000 in
theorem c_X2_addNeeds (l : Launch) (g : GG) (hg : Inj g) (v1 : Int32) (v2 : Int32)  (S : Hs) (S' : Hs) (hm : m_X2_addNeeds v1 v2 S = some S') : CM l yX2_addNeeds [.code yX2_addNeeds cX2_addNeeds 6 none] rmX2_addNeeds [.ref (g.2.1 6), .int v1, .int v2] g S none S' := by
  unfold m_X2_addNeeds at hm
  refine CM.of (cc := cX2_addNeeds) (nL := 6) (ret := none) (lv := [(0, .ref (g.2.1 6)), (1, .int v1), (2, .int v2)]) (by decide +kernel) hg (Nat.le_of_ble_eq_true rfl) rfl (fun p e s m args below meth c A F => ?_)
  replace F : Fx p s m meth c cX2_addNeeds RX2 6 none g A := F
  show J p l e rmX2_addNeeds s m args below meth c g A 6 (MQ below (QC g A none S') args s 0 0 A) 0 0 0 [(0, .ref (g.2.1 6)), (1, .int v1), (2, .int v2)] [] S
  have hj61 : ∀ (v1 : Int32) (w0 : Int32) (w1 : Int32) (S : Hs), m_X2_addNeeds_J61 v1 w0 w1 S = some S' → J p l e rmX2_addNeeds s m args below meth c g A 6 (MQ below (QC g A none S') args s 0 0 A) 0 0 61 [(1, .int v1)] [.int w0, .int w1, .ref (g.2.1 6)] S := by
    intro v1 w0 w1 S hm
    unfold m_X2_addNeeds_J61 at hm
    refine j_imul F dX2_addNeeds_61 ?_
    refine j_iload_n F 0 dX2_addNeeds_62 rfl ?_
    refine j_bipush F (v := 28) dX2_addNeeds_63 (by decide) ?_
    refine j_irem F dX2_addNeeds_65 (by decide) ?_
    refine j_iadd F dX2_addNeeds_66 ?_
    obtain ⟨S67, hc67, hm⟩ := Option.bind_eq_some_iff.mp hm
    refine j_callV F (n := 1) (As := [.int ((w1 * w0) + (irm v1 28))]) (rest := []) (c_X2_addToProof l g hg ((w1 * w0) + (irm v1 28)) S S67 hc67) gw_X2_72 (by decide +kernel) ⟨Nat.le_of_ble_eq_true rfl, Nat.le_of_ble_eq_true rfl⟩ ⟨Nat.le_of_ble_eq_true rfl, Nat.le_of_ble_eq_true rfl⟩ lay_6 rfl rfl rfl (Nat.le_of_ble_eq_true rfl) dX2_addNeeds_67 ?_
    show J p l e rmX2_addNeeds s m args below meth c g A 6 (MQ below (QC g A none S') args s 0 0 A) 0 0 70 [(1, .int v1)] [] S67
    exact j_vret_e F rfl dX2_addNeeds_70 hm
  have hj39 : ∀ (v1 : Int32) (v3 : Int32) (v4 : Int32) (v5 : Int32) (w0 : Int32) (w1 : Int32) (S : Hs), m_X2_addNeeds_J39 v1 v3 v4 v5 w0 w1 S = some S' → J p l e rmX2_addNeeds s m args below meth c g A 6 (MQ below (QC g A none S') args s 0 0 A) 0 0 39 [(0, .ref (g.2.1 6)), (1, .int v1), (3, .int v3), (4, .int v4), (5, .int v5)] [.int w0, .int w1, .ref (g.2.1 6)] S := by
    intro v1 v3 v4 v5 w0 w1 S hm
    unfold m_X2_addNeeds_J39 at hm
    refine j_iload F 4 dX2_addNeeds_39 rfl ?_
    obtain ⟨r41, hc41, hm⟩ := Option.bind_eq_some_iff.mp hm
    refine j_callSN F (n := 3) (As := [.int w1, .int w0, .int v5]) (rest := [.ref (g.2.1 6)]) (c_X5_rightOf l g hg w1 w0 v5 S r41 hc41) gc_X5_rightOf tw405 tw61 tw63 (by decide +kernel) ⟨Nat.le_of_ble_eq_true rfl, Nat.le_of_ble_eq_true rfl⟩ ⟨Nat.le_of_ble_eq_true rfl, Nat.le_of_ble_eq_true rfl⟩ rfl rfl (Nat.le_of_ble_eq_true rfl) dX2_addNeeds_41 ?_
    show J p l e rmX2_addNeeds s m args below meth c g A 6 (MQ below (QC g A none S') args s 0 0 A) 0 0 44 [(0, .ref (g.2.1 6)), (1, .int v1), (3, .int v3), (4, .int v4), (5, .int v5)] [.int r41, .ref (g.2.1 6)] S
    obtain ⟨S44, hc44, hm⟩ := Option.bind_eq_some_iff.mp hm
    refine j_callV F (n := 1) (As := [.int r41]) (rest := []) (c_X2_addToProof l g hg r41 S S44 hc44) gw_X2_72 (by decide +kernel) ⟨Nat.le_of_ble_eq_true rfl, Nat.le_of_ble_eq_true rfl⟩ ⟨Nat.le_of_ble_eq_true rfl, Nat.le_of_ble_eq_true rfl⟩ lay_6 rfl rfl rfl (Nat.le_of_ble_eq_true rfl) dX2_addNeeds_44 ?_
    show J p l e rmX2_addNeeds s m args below meth c g A 6 (MQ below (QC g A none S') args s 0 0 A) 0 0 47 [(0, .ref (g.2.1 6)), (1, .int v1), (3, .int v3), (4, .int v4), (5, .int v5)] [] S44
    refine j_aload_n F 0 dX2_addNeeds_47 rfl ?_
    refine j_bipush F (v := 28) dX2_addNeeds_48 (by decide) ?_
    refine j_iload_n F 2 dX2_addNeeds_50 rfl ?_
    refine j_if_eq F (tgt := 59) dX2_addNeeds_51 (by decide) hm (fun _ hm => ?_) (fun _ hm => ?_)
    · refine j_iload F 4 dX2_addNeeds_59 rfl ?_
      refine j_sub [1] rfl ?_
      exact hj61 v1 v5 28 S44  hm
    · refine j_iload F 3 dX2_addNeeds_54 rfl ?_
      refine j_goto F (tgt := 61) dX2_addNeeds_56 (by decide) ?_
      refine j_sub [1] rfl ?_
      exact hj61 v1 v4 28 S44  hm
  have hj11 : ∀ (v1 : Int32) (v2 : Int32) (w0 : Int32) (S : Hs), m_X2_addNeeds_J11 v1 v2 w0 S = some S' → J p l e rmX2_addNeeds s m args below meth c g A 6 (MQ below (QC g A none S') args s 0 0 A) 0 0 11 [(0, .ref (g.2.1 6)), (1, .int v1), (2, .int v2)] [.int w0] S := by
    intro v1 v2 w0 S hm
    unfold m_X2_addNeeds_J11 at hm
    refine j_istore_n F (lv' := [(3, .int w0), (0, .ref (g.2.1 6)), (1, .int v1), (2, .int v2)]) dX2_addNeeds_11 (by decide) rfl ?_
    refine j_iload_n F 3 dX2_addNeeds_12 rfl ?_
    refine j_bipush F (v := 10) dX2_addNeeds_13 (by decide) ?_
    refine j_idiv F dX2_addNeeds_15 (by decide) ?_
    refine j_bipush F (v := 10) dX2_addNeeds_16 (by decide) ?_
    refine j_irem F dX2_addNeeds_18 (by decide) ?_
    refine j_bnd hm (fun v4_19 hm => ?_)
    refine j_istore F (lv' := [(4, .int v4_19), (3, .int w0), (0, .ref (g.2.1 6)), (1, .int v1), (2, .int v2)]) dX2_addNeeds_19 (by decide) rfl ?_
    refine j_iload_n F 4 dX2_addNeeds_21 rfl ?_
    refine j_bipush F (v := 10) dX2_addNeeds_22 (by decide) ?_
    refine j_irem F dX2_addNeeds_24 (by decide) ?_
    refine j_bnd hm (fun v5_25 hm => ?_)
    refine j_istore F (lv' := [(5, .int v5_25), (4, .int v4_19), (3, .int w0), (0, .ref (g.2.1 6)), (1, .int v1), (2, .int v2)]) dX2_addNeeds_25 (by decide) rfl ?_
    refine j_aload_n F 3 dX2_addNeeds_27 rfl ?_
    refine j_iload F 1 dX2_addNeeds_28 rfl ?_
    refine j_iload_n F 2 dX2_addNeeds_30 rfl ?_
    refine j_if_eq F (tgt := 38) dX2_addNeeds_31 (by decide) hm (fun _ hm => ?_) (fun _ hm => ?_)
    · refine j_iconst F (v := 0) dX2_addNeeds_38 (by decide) ?_
      refine j_sub [3, 4, 2, 1, 0] rfl ?_
      exact hj39 v1 w0 v4_19 v5_25 0 v4_19 S  hm
    · refine j_iconst F (v := 1) dX2_addNeeds_34 (by decide) ?_
      refine j_goto F (tgt := 39) dX2_addNeeds_35 (by decide) ?_
      refine j_sub [3, 4, 2, 1, 0] rfl ?_
      exact hj39 v1 w0 v4_19 v5_25 1 v4_19 S  hm
  refine j_iload_n F 2 dX2_addNeeds_0 rfl ?_
  refine j_bipush F (v := 100) dX2_addNeeds_1 (by decide) ?_
  refine j_icmp_lt F (tgt := 10) dX2_addNeeds_3 (by decide) hm (fun _ hm => ?_) (fun _ hm => ?_)
  · refine j_iconst F (v := 0) dX2_addNeeds_10 (by decide) ?_
    refine j_sub [0, 1, 2] rfl ?_
    exact hj11 v1 v2 0 S  hm
  · refine j_iconst F (v := 1) dX2_addNeeds_6 (by decide) ?_
    refine j_goto F (tgt := 11) dX2_addNeeds_7 (by decide) ?_
    refine j_sub [0, 1, 2] rfl ?_
    exact hj11 v1 v2 1 S  hm
def m_X2_prove_L7 (v1 : Int32) (v2 : Int32) (S : Hs) : Option ((Int32 × Hs) ⊕ Hs) := if 196 ≤ v2 then (some (.inr S)) else (gd (inb v2 196) (bnd (sA S 9 v2.toNatClampNeg (vp_nar .boolean 0)) fun S20 => (some (.inl ((v2 + 1, S20))))))
def m_X2_prove_J85 (v2 : Int32) (v3 : Int32) (S : Hs) : Option ((Int32 × Int32 × Hs) ⊕ (Int32 × Hs)) := some (.inl ((v2, v3 + 1, S)))
noncomputable def m_X2_prove_L36 (v2 : Int32) (v3 : Int32) (S : Hs) : Option ((Int32 × Int32 × Hs) ⊕ (Int32 × Hs)) := if 196 ≤ v3 then (some (.inr ((v2, S)))) else (if (gI S 6 5) ≤ v3 then (some (.inr ((v2, S)))) else (gd (inb v3 196) ((m_X2_wayOf (gA S 8 v3.toNatClampNeg) S).bind fun r58 => (if r58 = ((-9)) then (m_X2_prove_J85 v2 v3 S) else (gd (inb v3 196) ((m_X2_addNeeds (gA S 8 v3.toNatClampNeg) r58 S).bind fun S82 => (m_X2_prove_J85 (v2 + 1) v3 S82)))))))
def m_X2_prove_J91 (v2 : Int32) (S : Hs) : Option (Int32 × Hs) := some ((v2, S))
noncomputable def m_X2_prove (v1 : Int32) (S : Hs) : Option (Int32 × Hs) := bnd (sI S 6 5 0) fun S2 => ((loopO (fun x => m_X2_prove_L7 v1 x.1 x.2) ((0, S2))).bind fun y7 => (m_X2_addToProof v1 y7).bind fun S29 => ((loopO (fun x => m_X2_prove_L36 x.1 x.2.1 x.2.2) ((0, 0, S29))).bind fun y36 => m_X2_prove_J91 y36.1 y36.2))
set_option maxRecDepth 100000 in
set_option maxHeartbeats 4000000 in
theorem c_X2_prove (l : Launch) (g : GG) (hg : Inj g) (v1 : Int32)  (S : Hs) (r : Int32) (S' : Hs) (hm : m_X2_prove v1 S = some ((r, S'))) : CM l yX2_prove [.code yX2_prove cX2_prove 5 (some .int)] rmX2_prove [.ref (g.2.1 6), .int v1] g S (some (.int r)) S' := by
  unfold m_X2_prove at hm
  refine CM.of (cc := cX2_prove) (nL := 5) (ret := (some .int)) (lv := [(0, .ref (g.2.1 6)), (1, .int v1)]) (by decide +kernel) hg (Nat.le_of_ble_eq_true rfl) rfl (fun p e s m args below meth c A F => ?_)
  replace F : Fx p s m meth c cX2_prove RX2 5 (some .int) g A := F
  show J p l e rmX2_prove s m args below meth c g A 5 (MQ below (QC g A (some (.int r)) S') args s 0 0 A) 0 0 0 [(0, .ref (g.2.1 6)), (1, .int v1)] [] S
  have hj91 : ∀ (v2 : Int32) (S : Hs), m_X2_prove_J91 v2 S = some ((r, S')) → J p l e rmX2_prove s m args below meth c g A 5 (MQ below (QC g A (some (.int r)) S') args s 0 0 A) 0 0 91 [(2, .int v2)] [] S := by
    intro v2 S hm
    unfold m_X2_prove_J91 at hm
    refine j_iload_n F 0 dX2_prove_91 rfl ?_
    exact j_iret_e F rfl dX2_prove_92 hm
  refine j_aload_n F 0 dX2_prove_0 rfl ?_
  refine j_iconst F (v := 0) dX2_prove_1 (by decide) ?_
  refine j_putI F (k0 := 5) (C := RX2) (T := TX2) (N := 7) tyX2 tyX2_ok nmX2 lay_6 rfl rfl inF2 (by decide) tw55 rfl (by decide +kernel) dX2_prove_2 ?_
  refine j_bndS hm (fun S2 hm => ?_)
  refine j_iconst F (v := 0) dX2_prove_5 (by decide) ?_
  refine j_istore_n F (lv' := [(2, .int 0), (0, .ref (g.2.1 6)), (1, .int v1)]) dX2_prove_6 (by decide) rfl ?_
  refine j_sub [1, 2, 0] rfl ?_
  obtain ⟨y7, hlp7, hm⟩ := Option.bind_eq_some_iff.mp hm
  refine loopO_walk (fun x => m_X2_prove_L7 v1 x.1 x.2) (fun x => J p l e rmX2_prove s m args below meth c g A 5 (MQ below (QC g A (some (.int r)) S') args s 0 0 A) 0 0 7 [(0, .ref (g.2.1 6)), (1, .int v1), (2, .int x.1)] [] x.2) (fun x => J p l e rmX2_prove s m args below meth c g A 5 (MQ below (QC g A (some (.int r)) S') args s 0 0 A) 0 0 27 [(0, .ref (g.2.1 6)), (1, .int v1)] [] x) (fun x o1 hm hk1 => ?_) hlp7 ?_
  · obtain ⟨v2, S⟩ := x
    replace hm : m_X2_prove_L7 v1 v2 S = some o1 := hm
    show J p l e rmX2_prove s m args below meth c g A 5 (MQ below (QC g A (some (.int r)) S') args s 0 0 A) 0 0 7 [(0, .ref (g.2.1 6)), (1, .int v1), (2, .int v2)] [] S
    unfold m_X2_prove_L7 at hm
    refine j_iload_n F 2 dX2_prove_7 rfl ?_
    refine j_sipush F (v := 196) dX2_prove_8 (by decide) ?_
    refine j_icmp_ge F (tgt := 27) dX2_prove_11 (by decide) hm (fun _ hm => ?_) (fun _ hm => ?_)
    · cases hm
      refine j_sub [0, 1] rfl ?_
      exact hk1
    · refine j_aload_n F 0 dX2_prove_14 rfl ?_
      refine j_getR F (k0 := 6) (C := RX2) (T := TX2) (N := 7) lay_6 rfl rfl inF2 (by decide) tw54 dX2_prove_15 ?_
      refine j_iload_n F 2 dX2_prove_18 rfl ?_
      refine j_iconst F (v := 0) dX2_prove_19 (by decide) ?_
      refine j_zast F lay_9 dX2_prove_20 hm (fun hm => ?_)
      refine j_bndS hm (fun S20 hm => ?_)
      refine j_iinc F (v := v2 + 1) (lv' := [(2, .int (v2 + 1)), (0, .ref (g.2.1 6)), (1, .int v1)]) 2 dX2_prove_21 rfl rfl (by decide) rfl ?_
      refine j_goto F (tgt := 7) dX2_prove_24 (by decide) ?_
      cases hm
      refine j_sub [1, 2, 0] rfl ?_
      exact hk1
  · show J p l e rmX2_prove s m args below meth c g A 5 (MQ below (QC g A (some (.int r)) S') args s 0 0 A) 0 0 27 [(0, .ref (g.2.1 6)), (1, .int v1)] [] y7
    refine j_aload_n F 0 dX2_prove_27 rfl ?_
    refine j_iload_n F 1 dX2_prove_28 rfl ?_
    obtain ⟨S29, hc29, hm⟩ := Option.bind_eq_some_iff.mp hm
    refine j_callV F (n := 1) (As := [.int v1]) (rest := []) (c_X2_addToProof l g hg v1 y7 S29 hc29) gw_X2_72 (by decide +kernel) ⟨Nat.le_of_ble_eq_true rfl, Nat.le_of_ble_eq_true rfl⟩ ⟨Nat.le_of_ble_eq_true rfl, Nat.le_of_ble_eq_true rfl⟩ lay_6 rfl rfl rfl (Nat.le_of_ble_eq_true rfl) dX2_prove_29 ?_
    show J p l e rmX2_prove s m args below meth c g A 5 (MQ below (QC g A (some (.int r)) S') args s 0 0 A) 0 0 32 [(0, .ref (g.2.1 6)), (1, .int v1)] [] S29
    refine j_iconst F (v := 0) dX2_prove_32 (by decide) ?_
    refine j_istore_n F (lv' := [(2, .int 0), (0, .ref (g.2.1 6)), (1, .int v1)]) dX2_prove_33 (by decide) rfl ?_
    refine j_iconst F (v := 0) dX2_prove_34 (by decide) ?_
    refine j_istore_n F (lv' := [(3, .int 0), (2, .int 0), (0, .ref (g.2.1 6)), (1, .int v1)]) dX2_prove_35 (by decide) rfl ?_
    refine j_sub [2, 1, 0] rfl ?_
    obtain ⟨y36, hlp36, hm⟩ := Option.bind_eq_some_iff.mp hm
    refine loopO_walk (fun x => m_X2_prove_L36 x.1 x.2.1 x.2.2) (fun x => J p l e rmX2_prove s m args below meth c g A 5 (MQ below (QC g A (some (.int r)) S') args s 0 0 A) 0 0 36 [(0, .ref (g.2.1 6)), (2, .int x.1), (3, .int x.2.1)] [] x.2.2) (fun x => J p l e rmX2_prove s m args below meth c g A 5 (MQ below (QC g A (some (.int r)) S') args s 0 0 A) 0 0 91 [(2, .int x.1)] [] x.2) (fun x o1 hm hk1 => ?_) hlp36 ?_
    · obtain ⟨v2, v3, S⟩ := x
      replace hm : m_X2_prove_L36 v2 v3 S = some o1 := hm
      show J p l e rmX2_prove s m args below meth c g A 5 (MQ below (QC g A (some (.int r)) S') args s 0 0 A) 0 0 36 [(0, .ref (g.2.1 6)), (2, .int v2), (3, .int v3)] [] S
      unfold m_X2_prove_L36 at hm
      have hj85 : ∀ (v2 : Int32) (v3 : Int32) (S : Hs), m_X2_prove_J85 v2 v3 S = some o1 → J p l e rmX2_prove s m args below meth c g A 5 (MQ below (QC g A (some (.int r)) S') args s 0 0 A) 0 0 85 [(0, .ref (g.2.1 6)), (2, .int v2), (3, .int v3)] [] S := by
        intro v2 v3 S hm
        unfold m_X2_prove_J85 at hm
        refine j_iinc F (v := v3 + 1) (lv' := [(3, .int (v3 + 1)), (0, .ref (g.2.1 6)), (2, .int v2)]) 2 dX2_prove_85 rfl rfl (by decide) rfl ?_
        refine j_goto F (tgt := 36) dX2_prove_88 (by decide) ?_
        cases hm
        refine j_sub [1, 2, 0] rfl ?_
        exact hk1
      refine j_iload_n F 2 dX2_prove_36 rfl ?_
      refine j_sipush F (v := 196) dX2_prove_37 (by decide) ?_
      refine j_icmp_ge F (tgt := 91) dX2_prove_40 (by decide) hm (fun _ hm => ?_) (fun _ hm => ?_)
      · cases hm
        refine j_sub [1] rfl ?_
        exact hk1
      · refine j_iload_n F 2 dX2_prove_43 rfl ?_
        refine j_aload_n F 0 dX2_prove_44 rfl ?_
        refine j_getI F (k0 := 5) (C := RX2) (T := TX2) (N := 7) lay_6 rfl rfl inF2 (by decide) tw55 dX2_prove_45 ?_
        refine j_icmp_ge F (tgt := 91) dX2_prove_48 (by decide) hm (fun _ hm => ?_) (fun _ hm => ?_)
        · cases hm
          refine j_sub [1] rfl ?_
          exact hk1
        · refine j_aload_n F 0 dX2_prove_51 rfl ?_
          refine j_aload_n F 0 dX2_prove_52 rfl ?_
          refine j_getR F (k0 := 4) (C := RX2) (T := TX2) (N := 7) lay_6 rfl rfl inF2 (by decide) tw56 dX2_prove_53 ?_
          refine j_iload_n F 2 dX2_prove_56 rfl ?_
          refine j_iald F lay_8 dX2_prove_57 hm (fun hm => ?_)
          obtain ⟨r58, hc58, hm⟩ := Option.bind_eq_some_iff.mp hm
          refine j_callV F (n := 1) (As := [.int (gA S 8 v3.toNatClampNeg)]) (rest := []) (c_X2_wayOf l g hg (gA S 8 v3.toNatClampNeg) S r58 hc58) gw_X2_75 (by decide +kernel) ⟨Nat.le_of_ble_eq_true rfl, Nat.le_of_ble_eq_true rfl⟩ ⟨Nat.le_of_ble_eq_true rfl, Nat.le_of_ble_eq_true rfl⟩ lay_6 rfl rfl rfl (Nat.le_of_ble_eq_true rfl) dX2_prove_58 ?_
          show J p l e rmX2_prove s m args below meth c g A 5 (MQ below (QC g A (some (.int r)) S') args s 0 0 A) 0 0 61 [(0, .ref (g.2.1 6)), (2, .int v2), (3, .int v3)] [.int r58] S
          refine j_istore F (lv' := [(4, .int r58), (0, .ref (g.2.1 6)), (2, .int v2), (3, .int v3)]) dX2_prove_61 (by decide) rfl ?_
          refine j_iload F 0 dX2_prove_63 rfl ?_
          refine j_bipush F (v := -9) dX2_prove_65 (by decide) ?_
          refine j_icmp_eq F (tgt := 85) dX2_prove_67 (by decide) hm (fun _ hm => ?_) (fun _ hm => ?_)
          · refine j_sub [1, 2, 3] rfl ?_
            exact hj85 v2 v3 S  hm
          · refine j_iinc F (v := v2 + 1) (lv' := [(2, .int (v2 + 1)), (4, .int r58), (0, .ref (g.2.1 6)), (3, .int v3)]) 2 dX2_prove_70 rfl rfl (by decide) rfl ?_
            refine j_aload_n F 2 dX2_prove_73 rfl ?_
            refine j_aload_n F 2 dX2_prove_74 rfl ?_
            refine j_getR F (k0 := 4) (C := RX2) (T := TX2) (N := 7) lay_6 rfl rfl inF2 (by decide) tw56 dX2_prove_75 ?_
            refine j_iload_n F 3 dX2_prove_78 rfl ?_
            refine j_iald F lay_8 dX2_prove_79 hm (fun hm => ?_)
            refine j_iload F 1 dX2_prove_80 rfl ?_
            obtain ⟨S82, hc82, hm⟩ := Option.bind_eq_some_iff.mp hm
            refine j_callV F (n := 2) (As := [.int (gA S 8 v3.toNatClampNeg), .int r58]) (rest := []) (c_X2_addNeeds l g hg (gA S 8 v3.toNatClampNeg) r58 S S82 hc82) gw_X2_78 (by decide +kernel) ⟨Nat.le_of_ble_eq_true rfl, Nat.le_of_ble_eq_true rfl⟩ ⟨Nat.le_of_ble_eq_true rfl, Nat.le_of_ble_eq_true rfl⟩ lay_6 rfl rfl rfl (Nat.le_of_ble_eq_true rfl) dX2_prove_82 ?_
            show J p l e rmX2_prove s m args below meth c g A 5 (MQ below (QC g A (some (.int r)) S') args s 0 0 A) 0 0 85 [(2, .int (v2 + 1)), (4, .int r58), (0, .ref (g.2.1 6)), (3, .int v3)] [] S82
            refine j_sub [2, 0, 3] rfl ?_
            exact hj85 (v2 + 1) v3 S82  hm
    · show J p l e rmX2_prove s m args below meth c g A 5 (MQ below (QC g A (some (.int r)) S') args s 0 0 A) 0 0 91 [(2, .int y36.1)] [] y36.2
      refine j_sub [0] rfl ?_
      exact hj91 y36.1 y36.2  hm
def m_X2_isUsed (v1 : Int32) (S : Hs) : Option (Int32) := gd (inb v1 196) (gd (decide ((gA S 9 v1.toNatClampNeg) = 0 ∨ (gA S 9 v1.toNatClampNeg) = 1)) (some (gA S 9 v1.toNatClampNeg)))
set_option maxRecDepth 100000 in
set_option maxHeartbeats 4000000 in
theorem c_X2_isUsed (l : Launch) (g : GG) (hg : Inj g) (v1 : Int32)  (S : Hs) (r : Int32) (hm : m_X2_isUsed v1 S = some r) : CM l yX2_isUsed [.code yX2_isUsed cX2_isUsed 2 (some .boolean)] rmX2_isUsed [.ref (g.2.1 6), .int v1] g S (some (.int r)) S := by
  unfold m_X2_isUsed at hm
  refine CM.of (cc := cX2_isUsed) (nL := 2) (ret := (some .boolean)) (lv := [(0, .ref (g.2.1 6)), (1, .int v1)]) (by decide +kernel) hg (Nat.le_of_ble_eq_true rfl) rfl (fun p e s m args below meth c A F => ?_)
  replace F : Fx p s m meth c cX2_isUsed RX2 2 (some .boolean) g A := F
  show J p l e rmX2_isUsed s m args below meth c g A 2 (MQ below (QC g A (some (.int r)) S) args s 0 0 A) 0 0 0 [(0, .ref (g.2.1 6)), (1, .int v1)] [] S
  refine j_aload_n F 0 dX2_isUsed_0 rfl ?_
  refine j_getR F (k0 := 6) (C := RX2) (T := TX2) (N := 7) lay_6 rfl rfl inF2 (by decide) tw54 dX2_isUsed_1 ?_
  refine j_iload_n F 1 dX2_isUsed_4 rfl ?_
  refine j_zald F lay_9 dX2_isUsed_5 hm (fun hm => ?_)
  obtain ⟨hb, hm⟩ := gd_ok hm
  exact j_zret_p F rfl (z_nar hb) dX2_isUsed_6 hm
def m_X0_cutsBoth_J43 (w0 : Int32) (S : Hs) : Option (Int32 × Hs) := gd (decide (w0 = 0 ∨ w0 = 1)) (some ((w0, S)))
noncomputable def m_X0_cutsBoth (v1 : Nat) (v2 : Int32) (v3 : Int32) (v4 : Int32) (S : Hs) : Option (Int32 × Hs) := (m_X3_copyFrom 71 v1 S).bind fun S5 => ((m_X3_put 71 v2 0 S5).bind fun S14 => ((m_X3_put 71 v3 0 S14).bind fun S23 => (bndE (m_X3_spreadUntil 71 v4 S23) fun r32 S32 => (if r32 = 0 then (m_X0_cutsBoth_J43 1 S32) else (m_X0_cutsBoth_J43 0 S32)))))
set_option maxRecDepth 100000 in
set_option maxHeartbeats 4000000 in
theorem c_X0_cutsBoth (l : Launch) (g : GG) (hg : Inj g) (v1 : Nat) (v2 : Int32) (v3 : Int32) (v4 : Int32) (hv1 : isSt v1 = true) (S : Hs) (r : Int32) (S' : Hs) (hm : m_X0_cutsBoth v1 v2 v3 v4 S = some ((r, S'))) : CM l yX0_cutsBoth [.code yX0_cutsBoth cX0_cutsBoth 5 (some .boolean)] rmX0_cutsBoth [.ref (g.2.1 12), .ref (g.2.1 v1), .int v2, .int v3, .int v4] g S (some (.int r)) S' := by
  unfold m_X0_cutsBoth at hm
  refine CM.of (cc := cX0_cutsBoth) (nL := 5) (ret := (some .boolean)) (lv := [(0, .ref (g.2.1 12)), (1, .ref (g.2.1 v1)), (2, .int v2), (3, .int v3), (4, .int v4)]) (by decide +kernel) hg (Nat.le_of_ble_eq_true rfl) rfl (fun p e s m args below meth c A F => ?_)
  replace F : Fx p s m meth c cX0_cutsBoth RX0 5 (some .boolean) g A := F
  show J p l e rmX0_cutsBoth s m args below meth c g A 5 (MQ below (QC g A (some (.int r)) S') args s 0 0 A) 0 0 0 [(0, .ref (g.2.1 12)), (1, .ref (g.2.1 v1)), (2, .int v2), (3, .int v3), (4, .int v4)] [] S
  have hj43 : ∀ (w0 : Int32) (S : Hs), m_X0_cutsBoth_J43 w0 S = some ((r, S')) → J p l e rmX0_cutsBoth s m args below meth c g A 5 (MQ below (QC g A (some (.int r)) S') args s 0 0 A) 0 0 43 [] [.int w0] S := by
    intro w0 S hm
    unfold m_X0_cutsBoth_J43 at hm
    obtain ⟨hb, hm⟩ := gd_ok hm
    exact j_zret_e F rfl (z_nar hb) dX0_cutsBoth_43 hm
  refine j_aload_n F 0 dX0_cutsBoth_0 rfl ?_
  refine j_getR F (k0 := 2) (C := RX0) (T := TX0) (N := 3) lay_12 rfl rfl inF0 (by decide) tw10 dX0_cutsBoth_1 ?_
  refine j_aload_n F 1 dX0_cutsBoth_4 rfl ?_
  obtain ⟨S5, hc5, hm⟩ := Option.bind_eq_some_iff.mp hm
  refine j_callV F (n := 1) (As := [.ref (g.2.1 v1)]) (rest := []) (c_X3_copyFrom l g hg 71 v1 (by decide) hv1 S S5 hc5) gw_X0_56 (by decide +kernel) ⟨Nat.le_of_ble_eq_true rfl, Nat.le_of_ble_eq_true rfl⟩ ⟨Nat.le_of_ble_eq_true rfl, Nat.le_of_ble_eq_true rfl⟩ (isSt_lay (i := 71) (by decide)).1 rfl rfl rfl (Nat.le_of_ble_eq_true rfl) dX0_cutsBoth_5 ?_
  show J p l e rmX0_cutsBoth s m args below meth c g A 5 (MQ below (QC g A (some (.int r)) S') args s 0 0 A) 0 0 8 [(0, .ref (g.2.1 12)), (1, .ref (g.2.1 v1)), (2, .int v2), (3, .int v3), (4, .int v4)] [] S5
  refine j_aload_n F 0 dX0_cutsBoth_8 rfl ?_
  refine j_getR F (k0 := 2) (C := RX0) (T := TX0) (N := 3) lay_12 rfl rfl inF0 (by decide) tw10 dX0_cutsBoth_9 ?_
  refine j_iload_n F 2 dX0_cutsBoth_12 rfl ?_
  refine j_iconst F (v := 0) dX0_cutsBoth_13 (by decide) ?_
  obtain ⟨S14, hc14, hm⟩ := Option.bind_eq_some_iff.mp hm
  refine j_callV F (n := 2) (As := [.int v2, .int 0]) (rest := []) (c_X3_put l g hg 71 v2 0 (by decide) S5 S14 hc14) gw_X0_59 (by decide +kernel) ⟨Nat.le_of_ble_eq_true rfl, Nat.le_of_ble_eq_true rfl⟩ ⟨Nat.le_of_ble_eq_true rfl, Nat.le_of_ble_eq_true rfl⟩ (isSt_lay (i := 71) (by decide)).1 rfl rfl rfl (Nat.le_of_ble_eq_true rfl) dX0_cutsBoth_14 ?_
  show J p l e rmX0_cutsBoth s m args below meth c g A 5 (MQ below (QC g A (some (.int r)) S') args s 0 0 A) 0 0 17 [(0, .ref (g.2.1 12)), (1, .ref (g.2.1 v1)), (2, .int v2), (3, .int v3), (4, .int v4)] [] S14
  refine j_aload_n F 0 dX0_cutsBoth_17 rfl ?_
  refine j_getR F (k0 := 2) (C := RX0) (T := TX0) (N := 3) lay_12 rfl rfl inF0 (by decide) tw10 dX0_cutsBoth_18 ?_
  refine j_iload_n F 3 dX0_cutsBoth_21 rfl ?_
  refine j_iconst F (v := 0) dX0_cutsBoth_22 (by decide) ?_
  obtain ⟨S23, hc23, hm⟩ := Option.bind_eq_some_iff.mp hm
  refine j_callV F (n := 2) (As := [.int v3, .int 0]) (rest := []) (c_X3_put l g hg 71 v3 0 (by decide) S14 S23 hc23) gw_X0_59 (by decide +kernel) ⟨Nat.le_of_ble_eq_true rfl, Nat.le_of_ble_eq_true rfl⟩ ⟨Nat.le_of_ble_eq_true rfl, Nat.le_of_ble_eq_true rfl⟩ (isSt_lay (i := 71) (by decide)).1 rfl rfl rfl (Nat.le_of_ble_eq_true rfl) dX0_cutsBoth_23 ?_
  show J p l e rmX0_cutsBoth s m args below meth c g A 5 (MQ below (QC g A (some (.int r)) S') args s 0 0 A) 0 0 26 [(0, .ref (g.2.1 12)), (1, .ref (g.2.1 v1)), (2, .int v2), (3, .int v3), (4, .int v4)] [] S23
  refine j_aload_n F 0 dX0_cutsBoth_26 rfl ?_
  refine j_getR F (k0 := 2) (C := RX0) (T := TX0) (N := 3) lay_12 rfl rfl inF0 (by decide) tw10 dX0_cutsBoth_27 ?_
  refine j_iload F 4 dX0_cutsBoth_30 rfl ?_
  obtain ⟨r32, S32, hc32, hm⟩ := bndE_ok hm
  refine j_callV F (n := 1) (As := [.int v4]) (rest := []) (c_X3_spreadUntil l g hg 71 v4 (by decide) S23 r32 S32 hc32) gw_X0_63 (by decide +kernel) ⟨Nat.le_of_ble_eq_true rfl, Nat.le_of_ble_eq_true rfl⟩ ⟨Nat.le_of_ble_eq_true rfl, Nat.le_of_ble_eq_true rfl⟩ (isSt_lay (i := 71) (by decide)).1 rfl rfl rfl (Nat.le_of_ble_eq_true rfl) dX0_cutsBoth_32 ?_
  show J p l e rmX0_cutsBoth s m args below meth c g A 5 (MQ below (QC g A (some (.int r)) S') args s 0 0 A) 0 0 35 [(0, .ref (g.2.1 12)), (1, .ref (g.2.1 v1)), (2, .int v2), (3, .int v3), (4, .int v4)] [.int r32] S32
  refine j_if_ne F (tgt := 42) dX0_cutsBoth_35 (by decide) hm (fun _ hm => ?_) (fun _ hm => ?_)
  · refine j_iconst F (v := 0) dX0_cutsBoth_42 (by decide) ?_
    refine j_sub [] rfl ?_
    exact hj43 0 S32  hm
  · refine j_iconst F (v := 1) dX0_cutsBoth_38 (by decide) ?_
    refine j_goto F (tgt := 43) dX0_cutsBoth_39 (by decide) ?_
    refine j_sub [] rfl ?_
    exact hj43 1 S32  hm
def m_X0_findOne_J50 (v1 : Nat) (v3 : Int32) (v4 : Int32) (S : Hs) : Option ((Int32 × Hs) ⊕ (Hs ⊕ (Int32 × Hs))) := some (.inl ((v4 + 1, S)))
noncomputable def m_X0_findOne_L3 (v1 : Nat) (v3 : Int32) (v4 : Int32) (S : Hs) : Option ((Int32 × Hs) ⊕ (Hs ⊕ (Int32 × Hs))) := if 196 ≤ v4 then (some (.inr (.inl S))) else ((m_X3_has v1 v4 S).bind fun r14 => (if r14 = 0 then (m_X0_findOne_J50 v1 v3 v4 S) else ((m_X2_isUsed v4 S).bind fun r23 => (if r23 = 0 then (m_X0_findOne_J50 v1 v3 v4 S) else (bndE (m_X0_cutsBoth v1 v4 v4 v3 S) fun r36 S36 => (if r36 = 0 then (m_X0_findOne_J50 v1 v3 v4 S36) else (bnd (sI S36 12 0 v4) fun S45 => (some (.inr (.inr ((1, S45))))))))))))
noncomputable def m_X0_findOne (v1 : Nat) (v3 : Int32) (S : Hs) : Option (Int32 × Hs) := (loopO (fun x => m_X0_findOne_L3 v1 v3 x.1 x.2) ((0, S))).bind fun e3 => Sum.elim (fun y3 => some ((0, y3))) (fun q => some q) e3
set_option maxRecDepth 100000 in
set_option maxHeartbeats 4000000 in
theorem c_X0_findOne (l : Launch) (g : GG) (hg : Inj g) (v1 : Nat) (v3 : Int32) (hv1 : isSt v1 = true) (S : Hs) (r : Int32) (S' : Hs) (hm : m_X0_findOne v1 v3 S = some ((r, S'))) : CM l yX0_findOne [.code yX0_findOne cX0_findOne 5 (some .boolean)] rmX0_findOne [.ref (g.2.1 12), .ref (g.2.1 v1), .ref (g.2.1 6), .int v3] g S (some (.int r)) S' := by
  unfold m_X0_findOne at hm
  refine CM.of (cc := cX0_findOne) (nL := 5) (ret := (some .boolean)) (lv := [(0, .ref (g.2.1 12)), (1, .ref (g.2.1 v1)), (2, .ref (g.2.1 6)), (3, .int v3)]) (by decide +kernel) hg (Nat.le_of_ble_eq_true rfl) rfl (fun p e s m args below meth c A F => ?_)
  replace F : Fx p s m meth c cX0_findOne RX0 5 (some .boolean) g A := F
  show J p l e rmX0_findOne s m args below meth c g A 5 (MQ below (QC g A (some (.int r)) S') args s 0 0 A) 0 0 0 [(0, .ref (g.2.1 12)), (1, .ref (g.2.1 v1)), (2, .ref (g.2.1 6)), (3, .int v3)] [] S
  refine j_iconst F (v := 0) dX0_findOne_0 (by decide) ?_
  refine j_istore F (lv' := [(4, .int 0), (0, .ref (g.2.1 12)), (1, .ref (g.2.1 v1)), (2, .ref (g.2.1 6)), (3, .int v3)]) dX0_findOne_1 (by decide) rfl ?_
  refine j_sub [1, 2, 3, 4, 0] rfl ?_
  obtain ⟨e3, hlp3, hm⟩ := Option.bind_eq_some_iff.mp hm
  refine loopO_walk (fun x => m_X0_findOne_L3 v1 v3 x.1 x.2) (fun x => J p l e rmX0_findOne s m args below meth c g A 5 (MQ below (QC g A (some (.int r)) S') args s 0 0 A) 0 0 3 [(0, .ref (g.2.1 12)), (1, .ref (g.2.1 v1)), (2, .ref (g.2.1 6)), (3, .int v3), (4, .int x.1)] [] x.2) (fun z => match z with | .inl x => J p l e rmX0_findOne s m args below meth c g A 5 (MQ below (QC g A (some (.int r)) S') args s 0 0 A) 0 0 56 [] [] x | .inr x => some x = some ((r, S'))) (fun x o1 hm hk1 => ?_) hlp3 ?_
  · obtain ⟨v4, S⟩ := x
    replace hm : m_X0_findOne_L3 v1 v3 v4 S = some o1 := hm
    show J p l e rmX0_findOne s m args below meth c g A 5 (MQ below (QC g A (some (.int r)) S') args s 0 0 A) 0 0 3 [(0, .ref (g.2.1 12)), (1, .ref (g.2.1 v1)), (2, .ref (g.2.1 6)), (3, .int v3), (4, .int v4)] [] S
    unfold m_X0_findOne_L3 at hm
    have hj50 : ∀ (v4 : Int32) (S : Hs), m_X0_findOne_J50 v1 v3 v4 S = some o1 → J p l e rmX0_findOne s m args below meth c g A 5 (MQ below (QC g A (some (.int r)) S') args s 0 0 A) 0 0 50 [(0, .ref (g.2.1 12)), (1, .ref (g.2.1 v1)), (2, .ref (g.2.1 6)), (3, .int v3), (4, .int v4)] [] S := by
      intro v4 S hm
      unfold m_X0_findOne_J50 at hm
      refine j_iinc F (v := v4 + 1) (lv' := [(4, .int (v4 + 1)), (0, .ref (g.2.1 12)), (1, .ref (g.2.1 v1)), (2, .ref (g.2.1 6)), (3, .int v3)]) 4 dX0_findOne_50 rfl rfl (by decide) rfl ?_
      refine j_goto F (tgt := 3) dX0_findOne_53 (by decide) ?_
      cases hm
      refine j_sub [1, 2, 3, 4, 0] rfl ?_
      exact hk1
    refine j_iload F 4 dX0_findOne_3 rfl ?_
    refine j_sipush F (v := 196) dX0_findOne_5 (by decide) ?_
    refine j_icmp_ge F (tgt := 56) dX0_findOne_8 (by decide) hm (fun _ hm => ?_) (fun _ hm => ?_)
    · cases hm
      refine j_sub [] rfl ?_
      exact hk1
    · refine j_aload_n F 1 dX0_findOne_11 rfl ?_
      refine j_iload F 4 dX0_findOne_12 rfl ?_
      obtain ⟨r14, hc14, hm⟩ := Option.bind_eq_some_iff.mp hm
      refine j_callV F (n := 1) (As := [.int v4]) (rest := []) (c_X3_has l g hg v1 v4 hv1 S r14 hc14) gw_X0_46 (by decide +kernel) ⟨Nat.le_of_ble_eq_true rfl, Nat.le_of_ble_eq_true rfl⟩ ⟨Nat.le_of_ble_eq_true rfl, Nat.le_of_ble_eq_true rfl⟩ (isSt_lay hv1).1 rfl rfl rfl (Nat.le_of_ble_eq_true rfl) dX0_findOne_14 ?_
      show J p l e rmX0_findOne s m args below meth c g A 5 (MQ below (QC g A (some (.int r)) S') args s 0 0 A) 0 0 17 [(0, .ref (g.2.1 12)), (1, .ref (g.2.1 v1)), (2, .ref (g.2.1 6)), (3, .int v3), (4, .int v4)] [.int r14] S
      refine j_if_eq F (tgt := 50) dX0_findOne_17 (by decide) hm (fun _ hm => ?_) (fun _ hm => ?_)
      · refine j_sub [0, 1, 2, 3, 4] rfl ?_
        exact hj50 v4 S  hm
      · refine j_aload_n F 2 dX0_findOne_20 rfl ?_
        refine j_iload F 4 dX0_findOne_21 rfl ?_
        obtain ⟨r23, hc23, hm⟩ := Option.bind_eq_some_iff.mp hm
        refine j_callV F (n := 1) (As := [.int v4]) (rest := []) (c_X2_isUsed l g hg v4 S r23 hc23) gw_X0_49 (by decide +kernel) ⟨Nat.le_of_ble_eq_true rfl, Nat.le_of_ble_eq_true rfl⟩ ⟨Nat.le_of_ble_eq_true rfl, Nat.le_of_ble_eq_true rfl⟩ lay_6 rfl rfl rfl (Nat.le_of_ble_eq_true rfl) dX0_findOne_23 ?_
        show J p l e rmX0_findOne s m args below meth c g A 5 (MQ below (QC g A (some (.int r)) S') args s 0 0 A) 0 0 26 [(0, .ref (g.2.1 12)), (1, .ref (g.2.1 v1)), (2, .ref (g.2.1 6)), (3, .int v3), (4, .int v4)] [.int r23] S
        refine j_if_eq F (tgt := 50) dX0_findOne_26 (by decide) hm (fun _ hm => ?_) (fun _ hm => ?_)
        · refine j_sub [0, 1, 2, 3, 4] rfl ?_
          exact hj50 v4 S  hm
        · refine j_aload_n F 0 dX0_findOne_29 rfl ?_
          refine j_aload_n F 1 dX0_findOne_30 rfl ?_
          refine j_iload F 4 dX0_findOne_31 rfl ?_
          refine j_iload F 4 dX0_findOne_33 rfl ?_
          refine j_iload_n F 3 dX0_findOne_35 rfl ?_
          obtain ⟨r36, S36, hc36, hm⟩ := bndE_ok hm
          refine j_callV F (n := 4) (As := [.ref (g.2.1 v1), .int v4, .int v4, .int v3]) (rest := []) (c_X0_cutsBoth l g hg v1 v4 v4 v3 hv1 S r36 S36 hc36) gw_X0_52 (by decide +kernel) ⟨Nat.le_of_ble_eq_true rfl, Nat.le_of_ble_eq_true rfl⟩ ⟨Nat.le_of_ble_eq_true rfl, Nat.le_of_ble_eq_true rfl⟩ lay_12 rfl rfl rfl (Nat.le_of_ble_eq_true rfl) dX0_findOne_36 ?_
          show J p l e rmX0_findOne s m args below meth c g A 5 (MQ below (QC g A (some (.int r)) S') args s 0 0 A) 0 0 39 [(0, .ref (g.2.1 12)), (1, .ref (g.2.1 v1)), (2, .ref (g.2.1 6)), (3, .int v3), (4, .int v4)] [.int r36] S36
          refine j_if_eq F (tgt := 50) dX0_findOne_39 (by decide) hm (fun _ hm => ?_) (fun _ hm => ?_)
          · refine j_sub [0, 1, 2, 3, 4] rfl ?_
            exact hj50 v4 S36  hm
          · refine j_aload_n F 0 dX0_findOne_42 rfl ?_
            refine j_iload F 4 dX0_findOne_43 rfl ?_
            refine j_putI F (k0 := 0) (C := RX0) (T := TX0) (N := 3) tyX0 tyX0_ok nmX0 lay_12 rfl rfl inF0 (by decide) tw92 rfl (by decide +kernel) dX0_findOne_45 ?_
            refine j_bndS hm (fun S45 hm => ?_)
            refine j_iconst F (v := 1) dX0_findOne_48 (by decide) ?_
            cases hm
            have hr1 : some _ = some ((r, S') : Int32 × Hs) := hk1
            exact j_zret_e F rfl rfl dX0_findOne_49 hr1
  · cases e3 with
    | inl y3 =>
      dsimp only [Sum.elim_inl] at hm
      show J p l e rmX0_findOne s m args below meth c g A 5 (MQ below (QC g A (some (.int r)) S') args s 0 0 A) 0 0 56 [] [] y3
      refine j_iconst F (v := 0) dX0_findOne_56 (by decide) ?_
      exact j_zret_e F rfl rfl dX0_findOne_57 hm
    | inr q =>
      exact hm
def m_X0_findTwo_J100 (v1 : Nat) (v3 : Int32) (v4 : Int32) (v5 : Int32) (S : Hs) : Option ((Int32 × Hs) ⊕ (Hs ⊕ (Int32 × Hs))) := some (.inl ((v5 + 1, S)))
noncomputable def m_X0_findTwo_J57 (v1 : Nat) (v3 : Int32) (v4 : Int32) (v5 : Int32) (w0 : Int32) (S : Hs) : Option ((Int32 × Hs) ⊕ (Hs ⊕ (Int32 × Hs))) := if w0 = 0 then (m_X0_findTwo_J100 v1 v3 v4 v5 S) else ((m_X3_has v1 v5 S).bind fun r67 => (if r67 = 0 then (m_X0_findTwo_J100 v1 v3 v4 v5 S) else (bndE (m_X0_cutsBoth v1 v4 v5 v3 S) fun r80 S80 => (if r80 = 0 then (m_X0_findTwo_J100 v1 v3 v4 v5 S80) else (bnd (sI S80 12 0 v4) fun S89 => (bnd (sI S89 12 1 v5) fun S95 => (some (.inr (.inr ((1, S95)))))))))))
noncomputable def m_X0_findTwo_J52 (v1 : Nat) (v3 : Int32) (v4 : Int32) (v5 : Int32) (S : Hs) : Option ((Int32 × Hs) ⊕ (Hs ⊕ (Int32 × Hs))) := m_X0_findTwo_J57 v1 v3 v4 v5 1 S
noncomputable def m_X0_findTwo_L17 (v1 : Nat) (v3 : Int32) (v4 : Int32) (v5 : Int32) (S : Hs) : Option ((Int32 × Hs) ⊕ (Hs ⊕ (Int32 × Hs))) := if 196 ≤ v5 then (some (.inr (.inl S))) else ((m_X3_has v1 v4 S).bind fun r28 => (if r28 = 0 then (some (.inr (.inl S))) else ((m_X2_isUsed v4 S).bind fun r37 => (if r37 = 0 then ((m_X2_isUsed v5 S).bind fun r46 => (if r46 = 0 then (m_X0_findTwo_J57 v1 v3 v4 v5 0 S) else (m_X0_findTwo_J52 v1 v3 v4 v5 S))) else (m_X0_findTwo_J52 v1 v3 v4 v5 S)))))
def m_X0_findTwo_J106 (v1 : Nat) (v3 : Int32) (v4 : Int32) (S : Hs) : Option ((Int32 × Hs) ⊕ (Hs ⊕ (Int32 × Hs))) := some (.inl ((v4 + 1, S)))
noncomputable def m_X0_findTwo_L3 (v1 : Nat) (v3 : Int32) (v4 : Int32) (S : Hs) : Option ((Int32 × Hs) ⊕ (Hs ⊕ (Int32 × Hs))) := if 196 ≤ v4 then (some (.inr (.inl S))) else (bnd (v4 + 1) fun v5_15 => ((loopO (fun x => m_X0_findTwo_L17 v1 v3 v4 x.1 x.2) ((v5_15, S))).bind fun e17 => Sum.elim (fun y17 => m_X0_findTwo_J106 v1 v3 v4 y17) (fun q => some (.inr (.inr q))) e17))
noncomputable def m_X0_findTwo (v1 : Nat) (v3 : Int32) (S : Hs) : Option (Int32 × Hs) := (loopO (fun x => m_X0_findTwo_L3 v1 v3 x.1 x.2) ((0, S))).bind fun e3 => Sum.elim (fun y3 => some ((0, y3))) (fun q => some q) e3
set_option maxRecDepth 100000 in
set_option maxHeartbeats 4000000 in
theorem c_X0_findTwo (l : Launch) (g : GG) (hg : Inj g) (v1 : Nat) (v3 : Int32) (hv1 : isSt v1 = true) (S : Hs) (r : Int32) (S' : Hs) (hm : m_X0_findTwo v1 v3 S = some ((r, S'))) : CM l yX0_findTwo [.code yX0_findTwo cX0_findTwo 7 (some .boolean)] rmX0_findTwo [.ref (g.2.1 12), .ref (g.2.1 v1), .ref (g.2.1 6), .int v3] g S (some (.int r)) S' := by
  unfold m_X0_findTwo at hm
  refine CM.of (cc := cX0_findTwo) (nL := 7) (ret := (some .boolean)) (lv := [(0, .ref (g.2.1 12)), (1, .ref (g.2.1 v1)), (2, .ref (g.2.1 6)), (3, .int v3)]) (by decide +kernel) hg (Nat.le_of_ble_eq_true rfl) rfl (fun p e s m args below meth c A F => ?_)
  replace F : Fx p s m meth c cX0_findTwo RX0 7 (some .boolean) g A := F
  show J p l e rmX0_findTwo s m args below meth c g A 7 (MQ below (QC g A (some (.int r)) S') args s 0 0 A) 0 0 0 [(0, .ref (g.2.1 12)), (1, .ref (g.2.1 v1)), (2, .ref (g.2.1 6)), (3, .int v3)] [] S
  refine j_iconst F (v := 0) dX0_findTwo_0 (by decide) ?_
  refine j_istore F (lv' := [(4, .int 0), (0, .ref (g.2.1 12)), (1, .ref (g.2.1 v1)), (2, .ref (g.2.1 6)), (3, .int v3)]) dX0_findTwo_1 (by decide) rfl ?_
  refine j_sub [1, 2, 3, 4, 0] rfl ?_
  obtain ⟨e3, hlp3, hm⟩ := Option.bind_eq_some_iff.mp hm
  refine loopO_walk (fun x => m_X0_findTwo_L3 v1 v3 x.1 x.2) (fun x => J p l e rmX0_findTwo s m args below meth c g A 7 (MQ below (QC g A (some (.int r)) S') args s 0 0 A) 0 0 3 [(0, .ref (g.2.1 12)), (1, .ref (g.2.1 v1)), (2, .ref (g.2.1 6)), (3, .int v3), (4, .int x.1)] [] x.2) (fun z => match z with | .inl x => J p l e rmX0_findTwo s m args below meth c g A 7 (MQ below (QC g A (some (.int r)) S') args s 0 0 A) 0 0 112 [] [] x | .inr x => some x = some ((r, S'))) (fun x o1 hm hk1 => ?_) hlp3 ?_
  · obtain ⟨v4, S⟩ := x
    replace hm : m_X0_findTwo_L3 v1 v3 v4 S = some o1 := hm
    show J p l e rmX0_findTwo s m args below meth c g A 7 (MQ below (QC g A (some (.int r)) S') args s 0 0 A) 0 0 3 [(0, .ref (g.2.1 12)), (1, .ref (g.2.1 v1)), (2, .ref (g.2.1 6)), (3, .int v3), (4, .int v4)] [] S
    unfold m_X0_findTwo_L3 at hm
    have hj106 : ∀ (v4 : Int32) (S : Hs), m_X0_findTwo_J106 v1 v3 v4 S = some o1 → J p l e rmX0_findTwo s m args below meth c g A 7 (MQ below (QC g A (some (.int r)) S') args s 0 0 A) 0 0 106 [(0, .ref (g.2.1 12)), (1, .ref (g.2.1 v1)), (2, .ref (g.2.1 6)), (3, .int v3), (4, .int v4)] [] S := by
      intro v4 S hm
      unfold m_X0_findTwo_J106 at hm
      refine j_iinc F (v := v4 + 1) (lv' := [(4, .int (v4 + 1)), (0, .ref (g.2.1 12)), (1, .ref (g.2.1 v1)), (2, .ref (g.2.1 6)), (3, .int v3)]) 4 dX0_findTwo_106 rfl rfl (by decide) rfl ?_
      refine j_goto F (tgt := 3) dX0_findTwo_109 (by decide) ?_
      cases hm
      refine j_sub [1, 2, 3, 4, 0] rfl ?_
      exact hk1
    refine j_iload F 4 dX0_findTwo_3 rfl ?_
    refine j_sipush F (v := 196) dX0_findTwo_5 (by decide) ?_
    refine j_icmp_ge F (tgt := 112) dX0_findTwo_8 (by decide) hm (fun _ hm => ?_) (fun _ hm => ?_)
    · cases hm
      refine j_sub [] rfl ?_
      exact hk1
    · refine j_iload F 4 dX0_findTwo_11 rfl ?_
      refine j_iconst F (v := 1) dX0_findTwo_13 (by decide) ?_
      refine j_iadd F dX0_findTwo_14 ?_
      refine j_bnd hm (fun v5_15 hm => ?_)
      refine j_istore F (lv' := [(5, .int v5_15), (0, .ref (g.2.1 12)), (1, .ref (g.2.1 v1)), (2, .ref (g.2.1 6)), (3, .int v3), (4, .int v4)]) dX0_findTwo_15 (by decide) rfl ?_
      refine j_sub [1, 2, 3, 4, 5, 0] rfl ?_
      obtain ⟨e17, hlp17, hm⟩ := Option.bind_eq_some_iff.mp hm
      refine loopO_walk (fun x => m_X0_findTwo_L17 v1 v3 v4 x.1 x.2) (fun x => J p l e rmX0_findTwo s m args below meth c g A 7 (MQ below (QC g A (some (.int r)) S') args s 0 0 A) 0 0 17 [(0, .ref (g.2.1 12)), (1, .ref (g.2.1 v1)), (2, .ref (g.2.1 6)), (3, .int v3), (4, .int v4), (5, .int x.1)] [] x.2) (fun z => match z with | .inl x => J p l e rmX0_findTwo s m args below meth c g A 7 (MQ below (QC g A (some (.int r)) S') args s 0 0 A) 0 0 106 [(0, .ref (g.2.1 12)), (1, .ref (g.2.1 v1)), (2, .ref (g.2.1 6)), (3, .int v3), (4, .int v4)] [] x | .inr x => some (.inr (.inr x)) = some o1) (fun x o2 hm hk2 => ?_) hlp17 ?_
      · obtain ⟨v5, S⟩ := x
        replace hm : m_X0_findTwo_L17 v1 v3 v4 v5 S = some o2 := hm
        show J p l e rmX0_findTwo s m args below meth c g A 7 (MQ below (QC g A (some (.int r)) S') args s 0 0 A) 0 0 17 [(0, .ref (g.2.1 12)), (1, .ref (g.2.1 v1)), (2, .ref (g.2.1 6)), (3, .int v3), (4, .int v4), (5, .int v5)] [] S
        unfold m_X0_findTwo_L17 at hm
        have hj100 : ∀ (v5 : Int32) (S : Hs), m_X0_findTwo_J100 v1 v3 v4 v5 S = some o2 → J p l e rmX0_findTwo s m args below meth c g A 7 (MQ below (QC g A (some (.int r)) S') args s 0 0 A) 0 0 100 [(0, .ref (g.2.1 12)), (1, .ref (g.2.1 v1)), (2, .ref (g.2.1 6)), (3, .int v3), (4, .int v4), (5, .int v5)] [] S := by
          intro v5 S hm
          unfold m_X0_findTwo_J100 at hm
          refine j_iinc F (v := v5 + 1) (lv' := [(5, .int (v5 + 1)), (0, .ref (g.2.1 12)), (1, .ref (g.2.1 v1)), (2, .ref (g.2.1 6)), (3, .int v3), (4, .int v4)]) 5 dX0_findTwo_100 rfl rfl (by decide) rfl ?_
          refine j_goto F (tgt := 17) dX0_findTwo_103 (by decide) ?_
          cases hm
          refine j_sub [1, 2, 3, 4, 5, 0] rfl ?_
          exact hk2
        have hj57 : ∀ (v5 : Int32) (w0 : Int32) (S : Hs), m_X0_findTwo_J57 v1 v3 v4 v5 w0 S = some o2 → J p l e rmX0_findTwo s m args below meth c g A 7 (MQ below (QC g A (some (.int r)) S') args s 0 0 A) 0 0 57 [(0, .ref (g.2.1 12)), (1, .ref (g.2.1 v1)), (2, .ref (g.2.1 6)), (3, .int v3), (4, .int v4), (5, .int v5)] [.int w0] S := by
          intro v5 w0 S hm
          unfold m_X0_findTwo_J57 at hm
          refine j_istore F (lv' := [(6, .int w0), (0, .ref (g.2.1 12)), (1, .ref (g.2.1 v1)), (2, .ref (g.2.1 6)), (3, .int v3), (4, .int v4), (5, .int v5)]) dX0_findTwo_57 (by decide) rfl ?_
          refine j_iload F 0 dX0_findTwo_59 rfl ?_
          refine j_if_eq F (tgt := 100) dX0_findTwo_61 (by decide) hm (fun _ hm => ?_) (fun _ hm => ?_)
          · refine j_sub [1, 2, 3, 4, 5, 6] rfl ?_
            exact hj100 v5 S  hm
          · refine j_aload_n F 2 dX0_findTwo_64 rfl ?_
            refine j_iload F 6 dX0_findTwo_65 rfl ?_
            obtain ⟨r67, hc67, hm⟩ := Option.bind_eq_some_iff.mp hm
            refine j_callV F (n := 1) (As := [.int v5]) (rest := []) (c_X3_has l g hg v1 v5 hv1 S r67 hc67) gw_X0_46 (by decide +kernel) ⟨Nat.le_of_ble_eq_true rfl, Nat.le_of_ble_eq_true rfl⟩ ⟨Nat.le_of_ble_eq_true rfl, Nat.le_of_ble_eq_true rfl⟩ (isSt_lay hv1).1 rfl rfl rfl (Nat.le_of_ble_eq_true rfl) dX0_findTwo_67 ?_
            show J p l e rmX0_findTwo s m args below meth c g A 7 (MQ below (QC g A (some (.int r)) S') args s 0 0 A) 0 0 70 [(6, .int w0), (0, .ref (g.2.1 12)), (1, .ref (g.2.1 v1)), (2, .ref (g.2.1 6)), (3, .int v3), (4, .int v4), (5, .int v5)] [.int r67] S
            refine j_if_eq F (tgt := 100) dX0_findTwo_70 (by decide) hm (fun _ hm => ?_) (fun _ hm => ?_)
            · refine j_sub [1, 2, 3, 4, 5, 6] rfl ?_
              exact hj100 v5 S  hm
            · refine j_aload_n F 1 dX0_findTwo_73 rfl ?_
              refine j_aload_n F 2 dX0_findTwo_74 rfl ?_
              refine j_iload F 5 dX0_findTwo_75 rfl ?_
              refine j_iload F 6 dX0_findTwo_77 rfl ?_
              refine j_iload_n F 4 dX0_findTwo_79 rfl ?_
              obtain ⟨r80, S80, hc80, hm⟩ := bndE_ok hm
              refine j_callV F (n := 4) (As := [.ref (g.2.1 v1), .int v4, .int v5, .int v3]) (rest := []) (c_X0_cutsBoth l g hg v1 v4 v5 v3 hv1 S r80 S80 hc80) gw_X0_52 (by decide +kernel) ⟨Nat.le_of_ble_eq_true rfl, Nat.le_of_ble_eq_true rfl⟩ ⟨Nat.le_of_ble_eq_true rfl, Nat.le_of_ble_eq_true rfl⟩ lay_12 rfl rfl rfl (Nat.le_of_ble_eq_true rfl) dX0_findTwo_80 ?_
              show J p l e rmX0_findTwo s m args below meth c g A 7 (MQ below (QC g A (some (.int r)) S') args s 0 0 A) 0 0 83 [(6, .int w0), (0, .ref (g.2.1 12)), (1, .ref (g.2.1 v1)), (2, .ref (g.2.1 6)), (3, .int v3), (4, .int v4), (5, .int v5)] [.int r80] S80
              refine j_if_eq F (tgt := 100) dX0_findTwo_83 (by decide) hm (fun _ hm => ?_) (fun _ hm => ?_)
              · refine j_sub [1, 2, 3, 4, 5, 6] rfl ?_
                exact hj100 v5 S80  hm
              · refine j_aload_n F 1 dX0_findTwo_86 rfl ?_
                refine j_iload F 5 dX0_findTwo_87 rfl ?_
                refine j_putI F (k0 := 0) (C := RX0) (T := TX0) (N := 3) tyX0 tyX0_ok nmX0 lay_12 rfl rfl inF0 (by decide) tw92 rfl (by decide +kernel) dX0_findTwo_89 ?_
                refine j_bndS hm (fun S89 hm => ?_)
                refine j_aload_n F 1 dX0_findTwo_92 rfl ?_
                refine j_iload F 6 dX0_findTwo_93 rfl ?_
                refine j_putI F (k0 := 1) (C := RX0) (T := TX0) (N := 3) tyX0 tyX0_ok nmX0 lay_12 rfl rfl inF0 (by decide) tw102 rfl (by decide +kernel) dX0_findTwo_95 ?_
                refine j_bndS hm (fun S95 hm => ?_)
                refine j_iconst F (v := 1) dX0_findTwo_98 (by decide) ?_
                cases hm
                have hr2 : some _ = some (o1 : (Int32 × Hs) ⊕ (Hs ⊕ (Int32 × Hs))) := hk2
                cases hr2
                have hr1 : some _ = some ((r, S') : Int32 × Hs) := hk1
                exact j_zret_e F rfl rfl dX0_findTwo_99 hr1
        have hj52 : ∀ (v5 : Int32) (S : Hs), m_X0_findTwo_J52 v1 v3 v4 v5 S = some o2 → J p l e rmX0_findTwo s m args below meth c g A 7 (MQ below (QC g A (some (.int r)) S') args s 0 0 A) 0 0 52 [(0, .ref (g.2.1 12)), (1, .ref (g.2.1 v1)), (2, .ref (g.2.1 6)), (3, .int v3), (4, .int v4), (5, .int v5)] [] S := by
          intro v5 S hm
          unfold m_X0_findTwo_J52 at hm
          refine j_iconst F (v := 1) dX0_findTwo_52 (by decide) ?_
          refine j_goto F (tgt := 57) dX0_findTwo_53 (by decide) ?_
          refine j_sub [0, 1, 2, 3, 4, 5] rfl ?_
          exact hj57 v5 1 S  hm
        refine j_iload F 5 dX0_findTwo_17 rfl ?_
        refine j_sipush F (v := 196) dX0_findTwo_19 (by decide) ?_
        refine j_icmp_ge F (tgt := 106) dX0_findTwo_22 (by decide) hm (fun _ hm => ?_) (fun _ hm => ?_)
        · cases hm
          refine j_sub [0, 1, 2, 3, 4] rfl ?_
          exact hk2
        · refine j_aload_n F 1 dX0_findTwo_25 rfl ?_
          refine j_iload F 4 dX0_findTwo_26 rfl ?_
          obtain ⟨r28, hc28, hm⟩ := Option.bind_eq_some_iff.mp hm
          refine j_callV F (n := 1) (As := [.int v4]) (rest := []) (c_X3_has l g hg v1 v4 hv1 S r28 hc28) gw_X0_46 (by decide +kernel) ⟨Nat.le_of_ble_eq_true rfl, Nat.le_of_ble_eq_true rfl⟩ ⟨Nat.le_of_ble_eq_true rfl, Nat.le_of_ble_eq_true rfl⟩ (isSt_lay hv1).1 rfl rfl rfl (Nat.le_of_ble_eq_true rfl) dX0_findTwo_28 ?_
          show J p l e rmX0_findTwo s m args below meth c g A 7 (MQ below (QC g A (some (.int r)) S') args s 0 0 A) 0 0 31 [(0, .ref (g.2.1 12)), (1, .ref (g.2.1 v1)), (2, .ref (g.2.1 6)), (3, .int v3), (4, .int v4), (5, .int v5)] [.int r28] S
          refine j_if_eq F (tgt := 106) dX0_findTwo_31 (by decide) hm (fun _ hm => ?_) (fun _ hm => ?_)
          · cases hm
            refine j_sub [0, 1, 2, 3, 4] rfl ?_
            exact hk2
          · refine j_aload_n F 2 dX0_findTwo_34 rfl ?_
            refine j_iload F 4 dX0_findTwo_35 rfl ?_
            obtain ⟨r37, hc37, hm⟩ := Option.bind_eq_some_iff.mp hm
            refine j_callV F (n := 1) (As := [.int v4]) (rest := []) (c_X2_isUsed l g hg v4 S r37 hc37) gw_X0_49 (by decide +kernel) ⟨Nat.le_of_ble_eq_true rfl, Nat.le_of_ble_eq_true rfl⟩ ⟨Nat.le_of_ble_eq_true rfl, Nat.le_of_ble_eq_true rfl⟩ lay_6 rfl rfl rfl (Nat.le_of_ble_eq_true rfl) dX0_findTwo_37 ?_
            show J p l e rmX0_findTwo s m args below meth c g A 7 (MQ below (QC g A (some (.int r)) S') args s 0 0 A) 0 0 40 [(0, .ref (g.2.1 12)), (1, .ref (g.2.1 v1)), (2, .ref (g.2.1 6)), (3, .int v3), (4, .int v4), (5, .int v5)] [.int r37] S
            refine j_if_ne F (tgt := 52) dX0_findTwo_40 (by decide) hm (fun _ hm => ?_) (fun _ hm => ?_)
            · refine j_sub [0, 1, 2, 3, 4, 5] rfl ?_
              exact hj52 v5 S  hm
            · refine j_aload_n F 2 dX0_findTwo_43 rfl ?_
              refine j_iload F 5 dX0_findTwo_44 rfl ?_
              obtain ⟨r46, hc46, hm⟩ := Option.bind_eq_some_iff.mp hm
              refine j_callV F (n := 1) (As := [.int v5]) (rest := []) (c_X2_isUsed l g hg v5 S r46 hc46) gw_X0_49 (by decide +kernel) ⟨Nat.le_of_ble_eq_true rfl, Nat.le_of_ble_eq_true rfl⟩ ⟨Nat.le_of_ble_eq_true rfl, Nat.le_of_ble_eq_true rfl⟩ lay_6 rfl rfl rfl (Nat.le_of_ble_eq_true rfl) dX0_findTwo_46 ?_
              show J p l e rmX0_findTwo s m args below meth c g A 7 (MQ below (QC g A (some (.int r)) S') args s 0 0 A) 0 0 49 [(0, .ref (g.2.1 12)), (1, .ref (g.2.1 v1)), (2, .ref (g.2.1 6)), (3, .int v3), (4, .int v4), (5, .int v5)] [.int r46] S
              refine j_if_eq F (tgt := 56) dX0_findTwo_49 (by decide) hm (fun _ hm => ?_) (fun _ hm => ?_)
              · refine j_iconst F (v := 0) dX0_findTwo_56 (by decide) ?_
                refine j_sub [0, 1, 2, 3, 4, 5] rfl ?_
                exact hj57 v5 0 S  hm
              · refine j_sub [0, 1, 2, 3, 4, 5] rfl ?_
                exact hj52 v5 S  hm
      · cases e17 with
        | inl y17 =>
          dsimp only [Sum.elim_inl] at hm
          show J p l e rmX0_findTwo s m args below meth c g A 7 (MQ below (QC g A (some (.int r)) S') args s 0 0 A) 0 0 106 [(0, .ref (g.2.1 12)), (1, .ref (g.2.1 v1)), (2, .ref (g.2.1 6)), (3, .int v3), (4, .int v4)] [] y17
          refine j_sub [0, 1, 2, 3, 4] rfl ?_
          exact hj106 v4 y17  hm
        | inr q =>
          exact hm
  · cases e3 with
    | inl y3 =>
      dsimp only [Sum.elim_inl] at hm
      show J p l e rmX0_findTwo s m args below meth c g A 7 (MQ below (QC g A (some (.int r)) S') args s 0 0 A) 0 0 112 [] [] y3
      refine j_iconst F (v := 0) dX0_findTwo_112 (by decide) ?_
      exact j_zret_e F rfl rfl dX0_findTwo_113 hm
    | inr q =>
      exact hm
def m_X0_sizeFor_J59 (w0 : Int32) (S : Hs) : Option (Int32 × Hs) := some ((w0, S))
noncomputable def m_X0_sizeFor (v1 : Nat) (v3 : Int32) (S : Hs) : Option (Int32 × Hs) := bnd (sI S 12 0 0) fun S2 => (bnd (sI S2 12 1 0) fun S7 => ((m_X2_follow v1 S7).bind fun S12 => ((m_X2_comes v3 S12).bind fun r17 => (if r17 = 0 then (some ((0, S12))) else (bndE (m_X2_prove v3 S12) fun r27 S27 => (bndE (m_X0_findOne v1 v3 S27) fun r35 S35 => (if r35 = 0 then (bndE (m_X0_findTwo v1 v3 S35) fun r47 S47 => (if r47 = 0 then (m_X0_sizeFor_J59 ((-9)) S47) else (m_X0_sizeFor_J59 2 S47))) else (some ((1, S35))))))))))
set_option maxRecDepth 100000 in
set_option maxHeartbeats 4000000 in
theorem c_X0_sizeFor (l : Launch) (g : GG) (hg : Inj g) (v1 : Nat) (v3 : Int32) (hv1 : isSt v1 = true) (S : Hs) (r : Int32) (S' : Hs) (hm : m_X0_sizeFor v1 v3 S = some ((r, S'))) : CM l yX0_sizeFor [.code yX0_sizeFor cX0_sizeFor 4 (some .int)] rmX0_sizeFor [.ref (g.2.1 12), .ref (g.2.1 v1), .ref (g.2.1 6), .int v3] g S (some (.int r)) S' := by
  unfold m_X0_sizeFor at hm
  refine CM.of (cc := cX0_sizeFor) (nL := 4) (ret := (some .int)) (lv := [(0, .ref (g.2.1 12)), (1, .ref (g.2.1 v1)), (2, .ref (g.2.1 6)), (3, .int v3)]) (by decide +kernel) hg (Nat.le_of_ble_eq_true rfl) rfl (fun p e s m args below meth c A F => ?_)
  replace F : Fx p s m meth c cX0_sizeFor RX0 4 (some .int) g A := F
  show J p l e rmX0_sizeFor s m args below meth c g A 4 (MQ below (QC g A (some (.int r)) S') args s 0 0 A) 0 0 0 [(0, .ref (g.2.1 12)), (1, .ref (g.2.1 v1)), (2, .ref (g.2.1 6)), (3, .int v3)] [] S
  have hj59 : ∀ (w0 : Int32) (S : Hs), m_X0_sizeFor_J59 w0 S = some ((r, S')) → J p l e rmX0_sizeFor s m args below meth c g A 4 (MQ below (QC g A (some (.int r)) S') args s 0 0 A) 0 0 59 [] [.int w0] S := by
    intro w0 S hm
    unfold m_X0_sizeFor_J59 at hm
    exact j_iret_e F rfl dX0_sizeFor_59 hm
  refine j_aload_n F 0 dX0_sizeFor_0 rfl ?_
  refine j_iconst F (v := 0) dX0_sizeFor_1 (by decide) ?_
  refine j_putI F (k0 := 0) (C := RX0) (T := TX0) (N := 3) tyX0 tyX0_ok nmX0 lay_12 rfl rfl inF0 (by decide) tw92 rfl (by decide +kernel) dX0_sizeFor_2 ?_
  refine j_bndS hm (fun S2 hm => ?_)
  refine j_aload_n F 0 dX0_sizeFor_5 rfl ?_
  refine j_iconst F (v := 0) dX0_sizeFor_6 (by decide) ?_
  refine j_putI F (k0 := 1) (C := RX0) (T := TX0) (N := 3) tyX0 tyX0_ok nmX0 lay_12 rfl rfl inF0 (by decide) tw102 rfl (by decide +kernel) dX0_sizeFor_7 ?_
  refine j_bndS hm (fun S7 hm => ?_)
  refine j_aload_n F 2 dX0_sizeFor_10 rfl ?_
  refine j_aload_n F 1 dX0_sizeFor_11 rfl ?_
  obtain ⟨S12, hc12, hm⟩ := Option.bind_eq_some_iff.mp hm
  refine j_callV F (n := 1) (As := [.ref (g.2.1 v1)]) (rest := []) (c_X2_follow l g hg v1 hv1 S7 S12 hc12) gw_X0_25 (by decide +kernel) ⟨Nat.le_of_ble_eq_true rfl, Nat.le_of_ble_eq_true rfl⟩ ⟨Nat.le_of_ble_eq_true rfl, Nat.le_of_ble_eq_true rfl⟩ lay_6 rfl rfl rfl (Nat.le_of_ble_eq_true rfl) dX0_sizeFor_12 ?_
  show J p l e rmX0_sizeFor s m args below meth c g A 4 (MQ below (QC g A (some (.int r)) S') args s 0 0 A) 0 0 15 [(0, .ref (g.2.1 12)), (1, .ref (g.2.1 v1)), (2, .ref (g.2.1 6)), (3, .int v3)] [] S12
  refine j_aload_n F 2 dX0_sizeFor_15 rfl ?_
  refine j_iload_n F 3 dX0_sizeFor_16 rfl ?_
  obtain ⟨r17, hc17, hm⟩ := Option.bind_eq_some_iff.mp hm
  refine j_callV F (n := 1) (As := [.int v3]) (rest := []) (c_X2_comes l g hg v3 S12 r17 hc17) gw_X0_31 (by decide +kernel) ⟨Nat.le_of_ble_eq_true rfl, Nat.le_of_ble_eq_true rfl⟩ ⟨Nat.le_of_ble_eq_true rfl, Nat.le_of_ble_eq_true rfl⟩ lay_6 rfl rfl rfl (Nat.le_of_ble_eq_true rfl) dX0_sizeFor_17 ?_
  show J p l e rmX0_sizeFor s m args below meth c g A 4 (MQ below (QC g A (some (.int r)) S') args s 0 0 A) 0 0 20 [(0, .ref (g.2.1 12)), (1, .ref (g.2.1 v1)), (2, .ref (g.2.1 6)), (3, .int v3)] [.int r17] S12
  refine j_if_ne F (tgt := 25) dX0_sizeFor_20 (by decide) hm (fun _ hm => ?_) (fun _ hm => ?_)
  · refine j_aload_n F 2 dX0_sizeFor_25 rfl ?_
    refine j_iload_n F 3 dX0_sizeFor_26 rfl ?_
    obtain ⟨r27, S27, hc27, hm⟩ := bndE_ok hm
    refine j_callV F (n := 1) (As := [.int v3]) (rest := []) (c_X2_prove l g hg v3 S12 r27 S27 hc27) gw_X0_35 (by decide +kernel) ⟨Nat.le_of_ble_eq_true rfl, Nat.le_of_ble_eq_true rfl⟩ ⟨Nat.le_of_ble_eq_true rfl, Nat.le_of_ble_eq_true rfl⟩ lay_6 rfl rfl rfl (Nat.le_of_ble_eq_true rfl) dX0_sizeFor_27 ?_
    show J p l e rmX0_sizeFor s m args below meth c g A 4 (MQ below (QC g A (some (.int r)) S') args s 0 0 A) 0 0 30 [(0, .ref (g.2.1 12)), (1, .ref (g.2.1 v1)), (2, .ref (g.2.1 6)), (3, .int v3)] [.int r27] S27
    refine j_pop F dX0_sizeFor_30 rfl ?_
    refine j_aload_n F 0 dX0_sizeFor_31 rfl ?_
    refine j_aload_n F 1 dX0_sizeFor_32 rfl ?_
    refine j_aload_n F 2 dX0_sizeFor_33 rfl ?_
    refine j_iload_n F 3 dX0_sizeFor_34 rfl ?_
    obtain ⟨r35, S35, hc35, hm⟩ := bndE_ok hm
    refine j_callV F (n := 3) (As := [.ref (g.2.1 v1), .ref (g.2.1 6), .int v3]) (rest := []) (c_X0_findOne l g hg v1 v3 hv1 S27 r35 S35 hc35) gw_X0_39 (by decide +kernel) ⟨Nat.le_of_ble_eq_true rfl, Nat.le_of_ble_eq_true rfl⟩ ⟨Nat.le_of_ble_eq_true rfl, Nat.le_of_ble_eq_true rfl⟩ lay_12 rfl rfl rfl (Nat.le_of_ble_eq_true rfl) dX0_sizeFor_35 ?_
    show J p l e rmX0_sizeFor s m args below meth c g A 4 (MQ below (QC g A (some (.int r)) S') args s 0 0 A) 0 0 38 [(0, .ref (g.2.1 12)), (1, .ref (g.2.1 v1)), (2, .ref (g.2.1 6)), (3, .int v3)] [.int r35] S35
    refine j_if_eq F (tgt := 43) dX0_sizeFor_38 (by decide) hm (fun _ hm => ?_) (fun _ hm => ?_)
    · refine j_aload_n F 0 dX0_sizeFor_43 rfl ?_
      refine j_aload_n F 1 dX0_sizeFor_44 rfl ?_
      refine j_aload_n F 2 dX0_sizeFor_45 rfl ?_
      refine j_iload_n F 3 dX0_sizeFor_46 rfl ?_
      obtain ⟨r47, S47, hc47, hm⟩ := bndE_ok hm
      refine j_callV F (n := 3) (As := [.ref (g.2.1 v1), .ref (g.2.1 6), .int v3]) (rest := []) (c_X0_findTwo l g hg v1 v3 hv1 S35 r47 S47 hc47) gw_X0_43 (by decide +kernel) ⟨Nat.le_of_ble_eq_true rfl, Nat.le_of_ble_eq_true rfl⟩ ⟨Nat.le_of_ble_eq_true rfl, Nat.le_of_ble_eq_true rfl⟩ lay_12 rfl rfl rfl (Nat.le_of_ble_eq_true rfl) dX0_sizeFor_47 ?_
      show J p l e rmX0_sizeFor s m args below meth c g A 4 (MQ below (QC g A (some (.int r)) S') args s 0 0 A) 0 0 50 [(0, .ref (g.2.1 12)), (1, .ref (g.2.1 v1)), (2, .ref (g.2.1 6)), (3, .int v3)] [.int r47] S47
      refine j_if_eq F (tgt := 57) dX0_sizeFor_50 (by decide) hm (fun _ hm => ?_) (fun _ hm => ?_)
      · refine j_bipush F (v := -9) dX0_sizeFor_57 (by decide) ?_
        refine j_sub [] rfl ?_
        exact hj59 ((-9)) S47  hm
      · refine j_iconst F (v := 2) dX0_sizeFor_53 (by decide) ?_
        refine j_goto F (tgt := 59) dX0_sizeFor_54 (by decide) ?_
        refine j_sub [] rfl ?_
        exact hj59 2 S47  hm
    · refine j_iconst F (v := 1) dX0_sizeFor_41 (by decide) ?_
      exact j_iret_e F rfl dX0_sizeFor_42 hm
  · refine j_iconst F (v := 0) dX0_sizeFor_23 (by decide) ?_
    exact j_iret_e F rfl dX0_sizeFor_24 hm
