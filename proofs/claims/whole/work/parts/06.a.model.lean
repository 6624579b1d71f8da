def m_X6_thrown (S : Hs) : Option (Int32) := some (gI S 13 0)
set_option maxRecDepth 100000 in
set_option maxHeartbeats 4000000 in
theorem c_X6_thrown (l : Launch) (g : GG) (hg : Inj g)   (S : Hs) (r : Int32) (hm : m_X6_thrown S = some r) : CM l yX6_thrown [.code yX6_thrown cX6_thrown 1 (some .int)] rmX6_thrown [.ref (g.2.1 13)] g S (some (.int r)) S := by
  unfold m_X6_thrown at hm
  refine CM.of (cc := cX6_thrown) (nL := 1) (ret := (some .int)) (lv := [(0, .ref (g.2.1 13))]) (by decide +kernel) hg (Nat.le_of_ble_eq_true rfl) rfl (fun p e s m args below meth c A F => ?_)
  replace F : Fx p s m meth c cX6_thrown RX6 1 (some .int) g A := F
  show J p l e rmX6_thrown s m args below meth c g A 1 (MQ below (QC g A (some (.int r)) S) args s 0 0 A) 0 0 0 [(0, .ref (g.2.1 13))] [] S
  refine j_aload_n F 0 dX6_thrown_0 rfl ?_
  refine j_getI F (k0 := 0) (C := RX6) (T := TX6) (N := 20) rfl rfl rfl inF6 (by decide) tw535 dX6_thrown_1 ?_
  exact j_iret_p F rfl dX6_thrown_4 hm
def m_X6_in_J15 (w0 : Int32) : Option (Int32) := gd (decide (w0 = 0 ∨ w0 = 1)) (some w0)
def m_X6_in_J14  : Option (Int32) := m_X6_in_J15 0
def m_X6_in (v0 : Int32) (v1 : Int32) (v2 : Int32) : Option (Int32) := if v0 < v1 then (m_X6_in_J14) else (if v2 < v0 then (m_X6_in_J14) else (m_X6_in_J15 1))
set_option maxRecDepth 100000 in
set_option maxHeartbeats 4000000 in
theorem c_X6_in (l : Launch) (g : GG) (hg : Inj g) (v0 : Int32) (v1 : Int32) (v2 : Int32)  (S : Hs) (r : Int32) (hm : m_X6_in v0 v1 v2 = some r) : CM l yX6_in [.code yX6_in cX6_in 3 (some .boolean)] rmX6_in [.int v0, .int v1, .int v2] g S (some (.int r)) S := by
  unfold m_X6_in at hm
  refine CM.of (cc := cX6_in) (nL := 3) (ret := (some .boolean)) (lv := [(0, .int v0), (1, .int v1), (2, .int v2)]) (by decide +kernel) hg (Nat.le_of_ble_eq_true rfl) rfl (fun p e s m args below meth c A F => ?_)
  replace F : Fx p s m meth c cX6_in RX6 3 (some .boolean) g A := F
  show J p l e rmX6_in s m args below meth c g A 3 (MQ below (QC g A (some (.int r)) S) args s 0 0 A) 0 0 0 [(0, .int v0), (1, .int v1), (2, .int v2)] [] S
  have hj15 : ∀ (w0 : Int32), m_X6_in_J15 w0 = some r → J p l e rmX6_in s m args below meth c g A 3 (MQ below (QC g A (some (.int r)) S) args s 0 0 A) 0 0 15 [] [.int w0] S := by
    intro w0 hm
    unfold m_X6_in_J15 at hm
    obtain ⟨hb, hm⟩ := gd_ok hm
    exact j_zret_p F rfl (z_nar hb) dX6_in_15 hm
  have hj14 : m_X6_in_J14 = some r → J p l e rmX6_in s m args below meth c g A 3 (MQ below (QC g A (some (.int r)) S) args s 0 0 A) 0 0 14 [] [] S := by
    intro  hm
    unfold m_X6_in_J14 at hm
    refine j_iconst F (v := 0) dX6_in_14 (by decide) ?_
    refine j_sub [] rfl ?_
    exact hj15 0  hm
  refine j_iload_n F 0 dX6_in_0 rfl ?_
  refine j_iload_n F 1 dX6_in_1 rfl ?_
  refine j_icmp_lt F (tgt := 14) dX6_in_2 (by decide) hm (fun _ hm => ?_) (fun _ hm => ?_)
  · refine j_sub [] rfl ?_
    exact hj14   hm
  · refine j_iload_n F 0 dX6_in_5 rfl ?_
    refine j_iload_n F 2 dX6_in_6 rfl ?_
    refine j_icmp_gt F (tgt := 14) dX6_in_7 (by decide) hm (fun _ hm => ?_) (fun _ hm => ?_)
    · refine j_sub [] rfl ?_
      exact hj14   hm
    · refine j_iconst F (v := 1) dX6_in_10 (by decide) ?_
      refine j_goto F (tgt := 15) dX6_in_11 (by decide) ?_
      refine j_sub [] rfl ?_
      exact hj15 1  hm
def m_X6_remember_L51 (v1 : Int32) (S : Hs) : Option ((Int32 × Hs) ⊕ Hs) := if 57 ≤ v1 then (some (.inr S)) else (gd (inb v1 57) (gd (inb (((gI S 13 3) * 57) + v1) 798) (bnd (sA S 15 (((gI S 13 3) * 57) + v1).toNatClampNeg (gA S 14 v1.toNatClampNeg)) fun S76 => (some (.inl ((v1 + 1, S76)))))))
noncomputable def m_X6_remember_J49 (S : Hs) : Option (Hs) := (loopO (fun x => m_X6_remember_L51 x.1 x.2) ((0, S))).bind fun y51 => bnd (sI y51 13 3 ((gI y51 13 3) + 1)) fun S90 => (some S90)
def m_X6_remember_L11 (v1 : Int32) (S : Hs) : Option ((Int32 × Hs) ⊕ Hs) := if 741 ≤ v1 then (some (.inr S)) else (gd (inb (v1 + 57) 798) (gd (inb v1 798) (bnd (sA S 15 v1.toNatClampNeg (gA S 15 (v1 + 57).toNatClampNeg)) fun S32 => (some (.inl ((v1 + 1, S32)))))))
noncomputable def m_X6_remember (S : Hs) : Option (Hs) := if (gI S 13 3) = 14 then ((loopO (fun x => m_X6_remember_L11 x.1 x.2) ((0, S))).bind fun y11 => bnd (sI y11 13 3 ((gI y11 13 3) - 1)) fun S46 => (m_X6_remember_J49 S46)) else (m_X6_remember_J49 S)
set_option maxRecDepth 100000 in
set_option maxHeartbeats 4000000 in
theorem c_X6_remember (l : Launch) (g : GG) (hg : Inj g)   (S : Hs) (S' : Hs) (hm : m_X6_remember S = some S') : CM l yX6_remember [.code yX6_remember cX6_remember 2 none] rmX6_remember [.ref (g.2.1 13)] g S none S' := by
  unfold m_X6_remember at hm
  refine CM.of (cc := cX6_remember) (nL := 2) (ret := none) (lv := [(0, .ref (g.2.1 13))]) (by decide +kernel) hg (Nat.le_of_ble_eq_true rfl) rfl (fun p e s m args below meth c A F => ?_)
  replace F : Fx p s m meth c cX6_remember RX6 2 none g A := F
  show J p l e rmX6_remember s m args below meth c g A 2 (MQ below (QC g A none S') args s 0 0 A) 0 0 0 [(0, .ref (g.2.1 13))] [] S
  have hj49 : ∀ (S : Hs), m_X6_remember_J49 S = some S' → J p l e rmX6_remember s m args below meth c g A 2 (MQ below (QC g A none S') args s 0 0 A) 0 0 49 [(0, .ref (g.2.1 13))] [] S := by
    intro S hm
    unfold m_X6_remember_J49 at hm
    refine j_iconst F (v := 0) dX6_remember_49 (by decide) ?_
    refine j_istore_n F (lv' := [(1, .int 0), (0, .ref (g.2.1 13))]) dX6_remember_50 (by decide) rfl ?_
    refine j_sub [1, 0] rfl ?_
    obtain ⟨y51, hlp51, hm⟩ := Option.bind_eq_some_iff.mp hm
    refine loopO_walk (fun x => m_X6_remember_L51 x.1 x.2) (fun x => J p l e rmX6_remember s m args below meth c g A 2 (MQ below (QC g A none S') args s 0 0 A) 0 0 51 [(0, .ref (g.2.1 13)), (1, .int x.1)] [] x.2) (fun x => J p l e rmX6_remember s m args below meth c g A 2 (MQ below (QC g A none S') args s 0 0 A) 0 0 83 [(0, .ref (g.2.1 13))] [] x) (fun x o1 hm hk1 => ?_) hlp51 ?_
    · obtain ⟨v1, S⟩ := x
      replace hm : m_X6_remember_L51 v1 S = some o1 := hm
      show J p l e rmX6_remember s m args below meth c g A 2 (MQ below (QC g A none S') args s 0 0 A) 0 0 51 [(0, .ref (g.2.1 13)), (1, .int v1)] [] S
      unfold m_X6_remember_L51 at hm
      refine j_iload_n F 1 dX6_remember_51 rfl ?_
      refine j_bipush F (v := 57) dX6_remember_52 (by decide) ?_
      refine j_icmp_ge F (tgt := 83) dX6_remember_54 (by decide) hm (fun _ hm => ?_) (fun _ hm => ?_)
      · cases hm
        refine j_sub [0] rfl ?_
        exact hk1
      · refine j_aload_n F 0 dX6_remember_57 rfl ?_
        refine j_getR F (k0 := 2) (C := RX6) (T := TX6) (N := 20) rfl rfl rfl inF6 (by decide) tw521 dX6_remember_58 ?_
        refine j_aload_n F 0 dX6_remember_61 rfl ?_
        refine j_getI F (k0 := 3) (C := RX6) (T := TX6) (N := 20) rfl rfl rfl inF6 (by decide) tw538 dX6_remember_62 ?_
        refine j_bipush F (v := 57) dX6_remember_65 (by decide) ?_
        refine j_imul F dX6_remember_67 ?_
        refine j_iload_n F 1 dX6_remember_68 rfl ?_
        refine j_iadd F dX6_remember_69 ?_
        refine j_aload_n F 0 dX6_remember_70 rfl ?_
        refine j_getR F (k0 := 1) (C := RX6) (T := TX6) (N := 20) rfl rfl rfl inF6 (by decide) tw520 dX6_remember_71 ?_
        refine j_iload_n F 1 dX6_remember_74 rfl ?_
        refine j_iald F rfl dX6_remember_75 hm (fun hm => ?_)
        refine j_iast F rfl dX6_remember_76 hm (fun hm => ?_)
        refine j_bndS hm (fun S76 hm => ?_)
        refine j_iinc F (v := v1 + 1) (lv' := [(1, .int (v1 + 1)), (0, .ref (g.2.1 13))]) 1 dX6_remember_77 rfl rfl (by decide) rfl ?_
        refine j_goto F (tgt := 51) dX6_remember_80 (by decide) ?_
        cases hm
        refine j_sub [1, 0] rfl ?_
        exact hk1
    · show J p l e rmX6_remember s m args below meth c g A 2 (MQ below (QC g A none S') args s 0 0 A) 0 0 83 [(0, .ref (g.2.1 13))] [] y51
      refine j_aload_n F 0 dX6_remember_83 rfl ?_
      refine j_dup F dX6_remember_84 rfl ?_
      refine j_getI F (k0 := 3) (C := RX6) (T := TX6) (N := 20) rfl rfl rfl inF6 (by decide) tw538 dX6_remember_85 ?_
      refine j_iconst F (v := 1) dX6_remember_88 (by decide) ?_
      refine j_iadd F dX6_remember_89 ?_
      refine j_putI F (k0 := 3) (C := RX6) (T := TX6) (N := 20) tyX6 tyX6_ok nmX6 rfl rfl rfl inF6 (by decide) tw538 rfl (by decide +kernel) dX6_remember_90 ?_
      refine j_bndS hm (fun S90 hm => ?_)
      exact j_vret_e F rfl dX6_remember_93 hm
  refine j_aload_n F 0 dX6_remember_0 rfl ?_
  refine j_getI F (k0 := 3) (C := RX6) (T := TX6) (N := 20) rfl rfl rfl inF6 (by decide) tw538 dX6_remember_1 ?_
  refine j_bipush F (v := 14) dX6_remember_4 (by decide) ?_
  refine j_icmp_ne F (tgt := 49) dX6_remember_6 (by decide) hm (fun _ hm => ?_) (fun _ hm => ?_)
  · refine j_sub [0] rfl ?_
    exact hj49 S  hm
  · refine j_iconst F (v := 0) dX6_remember_9 (by decide) ?_
    refine j_istore_n F (lv' := [(1, .int 0), (0, .ref (g.2.1 13))]) dX6_remember_10 (by decide) rfl ?_
    refine j_sub [1, 0] rfl ?_
    obtain ⟨y11, hlp11, hm⟩ := Option.bind_eq_some_iff.mp hm
    refine loopO_walk (fun x => m_X6_remember_L11 x.1 x.2) (fun x => J p l e rmX6_remember s m args below meth c g A 2 (MQ below (QC g A none S') args s 0 0 A) 0 0 11 [(0, .ref (g.2.1 13)), (1, .int x.1)] [] x.2) (fun x => J p l e rmX6_remember s m args below meth c g A 2 (MQ below (QC g A none S') args s 0 0 A) 0 0 39 [(0, .ref (g.2.1 13))] [] x) (fun x o1 hm hk1 => ?_) hlp11 ?_
    · obtain ⟨v1, S⟩ := x
      replace hm : m_X6_remember_L11 v1 S = some o1 := hm
      show J p l e rmX6_remember s m args below meth c g A 2 (MQ below (QC g A none S') args s 0 0 A) 0 0 11 [(0, .ref (g.2.1 13)), (1, .int v1)] [] S
      unfold m_X6_remember_L11 at hm
      refine j_iload_n F 1 dX6_remember_11 rfl ?_
      refine j_sipush F (v := 741) dX6_remember_12 (by decide) ?_
      refine j_icmp_ge F (tgt := 39) dX6_remember_15 (by decide) hm (fun _ hm => ?_) (fun _ hm => ?_)
      · cases hm
        refine j_sub [0] rfl ?_
        exact hk1
      · refine j_aload_n F 0 dX6_remember_18 rfl ?_
        refine j_getR F (k0 := 2) (C := RX6) (T := TX6) (N := 20) rfl rfl rfl inF6 (by decide) tw521 dX6_remember_19 ?_
        refine j_iload_n F 1 dX6_remember_22 rfl ?_
        refine j_aload_n F 0 dX6_remember_23 rfl ?_
        refine j_getR F (k0 := 2) (C := RX6) (T := TX6) (N := 20) rfl rfl rfl inF6 (by decide) tw521 dX6_remember_24 ?_
        refine j_iload_n F 1 dX6_remember_27 rfl ?_
        refine j_bipush F (v := 57) dX6_remember_28 (by decide) ?_
        refine j_iadd F dX6_remember_30 ?_
        refine j_iald F rfl dX6_remember_31 hm (fun hm => ?_)
        refine j_iast F rfl dX6_remember_32 hm (fun hm => ?_)
        refine j_bndS hm (fun S32 hm => ?_)
        refine j_iinc F (v := v1 + 1) (lv' := [(1, .int (v1 + 1)), (0, .ref (g.2.1 13))]) 1 dX6_remember_33 rfl rfl (by decide) rfl ?_
        refine j_goto F (tgt := 11) dX6_remember_36 (by decide) ?_
        cases hm
        refine j_sub [1, 0] rfl ?_
        exact hk1
    · show J p l e rmX6_remember s m args below meth c g A 2 (MQ below (QC g A none S') args s 0 0 A) 0 0 39 [(0, .ref (g.2.1 13))] [] y11
      refine j_aload_n F 0 dX6_remember_39 rfl ?_
      refine j_dup F dX6_remember_40 rfl ?_
      refine j_getI F (k0 := 3) (C := RX6) (T := TX6) (N := 20) rfl rfl rfl inF6 (by decide) tw538 dX6_remember_41 ?_
      refine j_iconst F (v := 1) dX6_remember_44 (by decide) ?_
      refine j_isub F dX6_remember_45 ?_
      refine j_putI F (k0 := 3) (C := RX6) (T := TX6) (N := 20) tyX6 tyX6_ok nmX6 rfl rfl rfl inF6 (by decide) tw538 rfl (by decide +kernel) dX6_remember_46 ?_
      refine j_bndS hm (fun S46 hm => ?_)
      refine j_sub [0] rfl ?_
      exact hj49 S46  hm
def m_X6_undo_L37 (v1 : Int32) (S : Hs) : Option ((Int32 × Hs) ⊕ Hs) := if 57 ≤ v1 then (some (.inr S)) else (gd (inb (((gI S 13 3) * 57) + v1) 798) (gd (inb v1 57) (bnd (sA S 14 v1.toNatClampNeg (gA S 15 (((gI S 13 3) * 57) + v1).toNatClampNeg)) fun S62 => (some (.inl ((v1 + 1, S62)))))))
noncomputable def m_X6_undo_J13 (w0 : Int32) (S : Hs) : Option (Int32 × Hs) := bnd (sI S 13 0 w0) fun S13 => (if (gI S13 13 0) ≤ 0 then (bnd (sI S13 13 3 ((gI S13 13 3) - 1)) fun S32 => ((loopO (fun x => m_X6_undo_L37 x.1 x.2) ((0, S32))).bind fun y37 => some ((gI y37 13 3, y37)))) else (some ((0, S13))))
noncomputable def m_X6_undo (S : Hs) : Option (Int32 × Hs) := if (gI S 13 3) = 0 then (m_X6_undo_J13 1 S) else (m_X6_undo_J13 0 S)
set_option maxRecDepth 100000 in
set_option maxHeartbeats 4000000 in
theorem c_X6_undo (l : Launch) (g : GG) (hg : Inj g)   (S : Hs) (r : Int32) (S' : Hs) (hm : m_X6_undo S = some ((r, S'))) : CM l yX6_undo [.code yX6_undo cX6_undo 2 (some .int)] rmX6_undo [.ref (g.2.1 13)] g S (some (.int r)) S' := by
  unfold m_X6_undo at hm
  refine CM.of (cc := cX6_undo) (nL := 2) (ret := (some .int)) (lv := [(0, .ref (g.2.1 13))]) (by decide +kernel) hg (Nat.le_of_ble_eq_true rfl) rfl (fun p e s m args below meth c A F => ?_)
  replace F : Fx p s m meth c cX6_undo RX6 2 (some .int) g A := F
  show J p l e rmX6_undo s m args below meth c g A 2 (MQ below (QC g A (some (.int r)) S') args s 0 0 A) 0 0 0 [(0, .ref (g.2.1 13))] [] S
  have hj13 : ∀ (w0 : Int32) (S : Hs), m_X6_undo_J13 w0 S = some ((r, S')) → J p l e rmX6_undo s m args below meth c g A 2 (MQ below (QC g A (some (.int r)) S') args s 0 0 A) 0 0 13 [(0, .ref (g.2.1 13))] [.int w0, .ref (g.2.1 13)] S := by
    intro w0 S hm
    unfold m_X6_undo_J13 at hm
    refine j_putI F (k0 := 0) (C := RX6) (T := TX6) (N := 20) tyX6 tyX6_ok nmX6 rfl rfl rfl inF6 (by decide) tw535 rfl (by decide +kernel) dX6_undo_13 ?_
    refine j_bndS hm (fun S13 hm => ?_)
    refine j_aload_n F 0 dX6_undo_16 rfl ?_
    refine j_getI F (k0 := 0) (C := RX6) (T := TX6) (N := 20) rfl rfl rfl inF6 (by decide) tw535 dX6_undo_17 ?_
    refine j_if_le F (tgt := 25) dX6_undo_20 (by decide) hm (fun _ hm => ?_) (fun _ hm => ?_)
    · refine j_aload_n F 0 dX6_undo_25 rfl ?_
      refine j_dup F dX6_undo_26 rfl ?_
      refine j_getI F (k0 := 3) (C := RX6) (T := TX6) (N := 20) rfl rfl rfl inF6 (by decide) tw538 dX6_undo_27 ?_
      refine j_iconst F (v := 1) dX6_undo_30 (by decide) ?_
      refine j_isub F dX6_undo_31 ?_
      refine j_putI F (k0 := 3) (C := RX6) (T := TX6) (N := 20) tyX6 tyX6_ok nmX6 rfl rfl rfl inF6 (by decide) tw538 rfl (by decide +kernel) dX6_undo_32 ?_
      refine j_bndS hm (fun S32 hm => ?_)
      refine j_iconst F (v := 0) dX6_undo_35 (by decide) ?_
      refine j_istore_n F (lv' := [(1, .int 0), (0, .ref (g.2.1 13))]) dX6_undo_36 (by decide) rfl ?_
      refine j_sub [1, 0] rfl ?_
      obtain ⟨y37, hlp37, hm⟩ := Option.bind_eq_some_iff.mp hm
      refine loopO_walk (fun x => m_X6_undo_L37 x.1 x.2) (fun x => J p l e rmX6_undo s m args below meth c g A 2 (MQ below (QC g A (some (.int r)) S') args s 0 0 A) 0 0 37 [(0, .ref (g.2.1 13)), (1, .int x.1)] [] x.2) (fun x => J p l e rmX6_undo s m args below meth c g A 2 (MQ below (QC g A (some (.int r)) S') args s 0 0 A) 0 0 69 [(0, .ref (g.2.1 13))] [] x) (fun x o1 hm hk1 => ?_) hlp37 ?_
      · obtain ⟨v1, S⟩ := x
        replace hm : m_X6_undo_L37 v1 S = some o1 := hm
        show J p l e rmX6_undo s m args below meth c g A 2 (MQ below (QC g A (some (.int r)) S') args s 0 0 A) 0 0 37 [(0, .ref (g.2.1 13)), (1, .int v1)] [] S
        unfold m_X6_undo_L37 at hm
        refine j_iload_n F 1 dX6_undo_37 rfl ?_
        refine j_bipush F (v := 57) dX6_undo_38 (by decide) ?_
        refine j_icmp_ge F (tgt := 69) dX6_undo_40 (by decide) hm (fun _ hm => ?_) (fun _ hm => ?_)
        · cases hm
          refine j_sub [0] rfl ?_
          exact hk1
        · refine j_aload_n F 0 dX6_undo_43 rfl ?_
          refine j_getR F (k0 := 1) (C := RX6) (T := TX6) (N := 20) rfl rfl rfl inF6 (by decide) tw520 dX6_undo_44 ?_
          refine j_iload_n F 1 dX6_undo_47 rfl ?_
          refine j_aload_n F 0 dX6_undo_48 rfl ?_
          refine j_getR F (k0 := 2) (C := RX6) (T := TX6) (N := 20) rfl rfl rfl inF6 (by decide) tw521 dX6_undo_49 ?_
          refine j_aload_n F 0 dX6_undo_52 rfl ?_
          refine j_getI F (k0 := 3) (C := RX6) (T := TX6) (N := 20) rfl rfl rfl inF6 (by decide) tw538 dX6_undo_53 ?_
          refine j_bipush F (v := 57) dX6_undo_56 (by decide) ?_
          refine j_imul F dX6_undo_58 ?_
          refine j_iload_n F 1 dX6_undo_59 rfl ?_
          refine j_iadd F dX6_undo_60 ?_
          refine j_iald F rfl dX6_undo_61 hm (fun hm => ?_)
          refine j_iast F rfl dX6_undo_62 hm (fun hm => ?_)
          refine j_bndS hm (fun S62 hm => ?_)
          refine j_iinc F (v := v1 + 1) (lv' := [(1, .int (v1 + 1)), (0, .ref (g.2.1 13))]) 1 dX6_undo_63 rfl rfl (by decide) rfl ?_
          refine j_goto F (tgt := 37) dX6_undo_66 (by decide) ?_
          cases hm
          refine j_sub [1, 0] rfl ?_
          exact hk1
      · show J p l e rmX6_undo s m args below meth c g A 2 (MQ below (QC g A (some (.int r)) S') args s 0 0 A) 0 0 69 [(0, .ref (g.2.1 13))] [] y37
        refine j_aload_n F 0 dX6_undo_69 rfl ?_
        refine j_getI F (k0 := 3) (C := RX6) (T := TX6) (N := 20) rfl rfl rfl inF6 (by decide) tw538 dX6_undo_70 ?_
        exact j_iret_e F rfl dX6_undo_73 hm
    · refine j_iconst F (v := 0) dX6_undo_23 (by decide) ?_
      exact j_iret_e F rfl dX6_undo_24 hm
  refine j_aload_n F 0 dX6_undo_0 rfl ?_
  refine j_aload_n F 0 dX6_undo_1 rfl ?_
  refine j_getI F (k0 := 3) (C := RX6) (T := TX6) (N := 20) rfl rfl rfl inF6 (by decide) tw538 dX6_undo_2 ?_
  refine j_if_ne F (tgt := 12) dX6_undo_5 (by decide) hm (fun _ hm => ?_) (fun _ hm => ?_)
  · refine j_iconst F (v := 0) dX6_undo_12 (by decide) ?_
    refine j_sub [0] rfl ?_
    exact hj13 0 S  hm
  · refine j_iconst F (v := 1) dX6_undo_8 (by decide) ?_
    refine j_goto F (tgt := 13) dX6_undo_9 (by decide) ?_
    refine j_sub [0] rfl ?_
    exact hj13 1 S  hm
def m_X6_bits_L4 (v0 : Int32) (v1 : Int32) (v2 : Int32) : Option ((Int32 × Int32) ⊕ Int32) := if 8 ≤ v2 then (some (.inr v1)) else (bnd (v1 + ((v0 >>> (v2 &&& 31)) &&& 1)) fun v1_17 => (some (.inl ((v1_17, v2 + 1)))))
noncomputable def m_X6_bits (v0 : Int32) : Option (Int32) := (loopO (fun x => m_X6_bits_L4 v0 x.1 x.2) ((0, 0))).bind fun y4 => some y4
set_option maxRecDepth 100000 in
set_option maxHeartbeats 4000000 in
theorem c_X6_bits (l : Launch) (g : GG) (hg : Inj g) (v0 : Int32)  (S : Hs) (r : Int32) (hm : m_X6_bits v0 = some r) : CM l yX6_bits [.code yX6_bits cX6_bits 3 (some .int)] rmX6_bits [.int v0] g S (some (.int r)) S := by
  unfold m_X6_bits at hm
  refine CM.of (cc := cX6_bits) (nL := 3) (ret := (some .int)) (lv := [(0, .int v0)]) (by decide +kernel) hg (Nat.le_of_ble_eq_true rfl) rfl (fun p e s m args below meth c A F => ?_)
  replace F : Fx p s m meth c cX6_bits RX6 3 (some .int) g A := F
  show J p l e rmX6_bits s m args below meth c g A 3 (MQ below (QC g A (some (.int r)) S) args s 0 0 A) 0 0 0 [(0, .int v0)] [] S
  refine j_iconst F (v := 0) dX6_bits_0 (by decide) ?_
  refine j_istore_n F (lv' := [(1, .int 0), (0, .int v0)]) dX6_bits_1 (by decide) rfl ?_
  refine j_iconst F (v := 0) dX6_bits_2 (by decide) ?_
  refine j_istore_n F (lv' := [(2, .int 0), (1, .int 0), (0, .int v0)]) dX6_bits_3 (by decide) rfl ?_
  refine j_sub [2, 1, 0] rfl ?_
  obtain ⟨y4, hlp4, hm⟩ := Option.bind_eq_some_iff.mp hm
  refine loopO_walk (fun x => m_X6_bits_L4 v0 x.1 x.2) (fun x => J p l e rmX6_bits s m args below meth c g A 3 (MQ below (QC g A (some (.int r)) S) args s 0 0 A) 0 0 4 [(0, .int v0), (1, .int x.1), (2, .int x.2)] [] S) (fun x => J p l e rmX6_bits s m args below meth c g A 3 (MQ below (QC g A (some (.int r)) S) args s 0 0 A) 0 0 24 [(1, .int x)] [] S) (fun x o1 hm hk1 => ?_) hlp4 ?_
  · obtain ⟨v1, v2⟩ := x
    replace hm : m_X6_bits_L4 v0 v1 v2 = some o1 := hm
    show J p l e rmX6_bits s m args below meth c g A 3 (MQ below (QC g A (some (.int r)) S) args s 0 0 A) 0 0 4 [(0, .int v0), (1, .int v1), (2, .int v2)] [] S
    unfold m_X6_bits_L4 at hm
    refine j_iload_n F 2 dX6_bits_4 rfl ?_
    refine j_bipush F (v := 8) dX6_bits_5 (by decide) ?_
    refine j_icmp_ge F (tgt := 24) dX6_bits_7 (by decide) hm (fun _ hm => ?_) (fun _ hm => ?_)
    · cases hm
      refine j_sub [1] rfl ?_
      exact hk1
    · refine j_iload_n F 1 dX6_bits_10 rfl ?_
      refine j_iload_n F 0 dX6_bits_11 rfl ?_
      refine j_iload_n F 2 dX6_bits_12 rfl ?_
      refine j_ishr F dX6_bits_13 ?_
      refine j_iconst F (v := 1) dX6_bits_14 (by decide) ?_
      refine j_iand F dX6_bits_15 ?_
      refine j_iadd F dX6_bits_16 ?_
      refine j_bnd hm (fun v1_17 hm => ?_)
      refine j_istore_n F (lv' := [(1, .int v1_17), (0, .int v0), (2, .int v2)]) dX6_bits_17 (by decide) rfl ?_
      refine j_iinc F (v := v2 + 1) (lv' := [(2, .int (v2 + 1)), (1, .int v1_17), (0, .int v0)]) 2 dX6_bits_18 rfl rfl (by decide) rfl ?_
      refine j_goto F (tgt := 4) dX6_bits_21 (by decide) ?_
      cases hm
      refine j_sub [2, 1, 0] rfl ?_
      exact hk1
  · show J p l e rmX6_bits s m args below meth c g A 3 (MQ below (QC g A (some (.int r)) S) args s 0 0 A) 0 0 24 [(1, .int y4)] [] S
    refine j_iload_n F 0 dX6_bits_24 rfl ?_
    exact j_iret_p F rfl dX6_bits_25 hm
noncomputable def m_X6_rightsMany_L4 (S : Hs) (v1 : Int32) (v2 : Int32) : Option ((Int32 × Int32) ⊕ Int32) := if 49 ≤ v2 then (some (.inr v1)) else (gd (inb (8 + v2) 57) ((m_X6_bits (gA S 14 (8 + v2).toNatClampNeg)).bind fun r20 => (bnd (v1 + r20) fun v1_24 => (some (.inl ((v1_24, v2 + 1)))))))
noncomputable def m_X6_rightsMany (S : Hs) : Option (Int32) := (loopO (fun x => m_X6_rightsMany_L4 S x.1 x.2) ((0, 0))).bind fun y4 => some y4
set_option maxRecDepth 100000 in
set_option maxHeartbeats 4000000 in
theorem c_X6_rightsMany (l : Launch) (g : GG) (hg : Inj g)   (S : Hs) (r : Int32) (hm : m_X6_rightsMany S = some r) : CM l yX6_rightsMany [.code yX6_rightsMany cX6_rightsMany 3 (some .int)] rmX6_rightsMany [.ref (g.2.1 13)] g S (some (.int r)) S := by
  unfold m_X6_rightsMany at hm
  refine CM.of (cc := cX6_rightsMany) (nL := 3) (ret := (some .int)) (lv := [(0, .ref (g.2.1 13))]) (by decide +kernel) hg (Nat.le_of_ble_eq_true rfl) rfl (fun p e s m args below meth c A F => ?_)
  replace F : Fx p s m meth c cX6_rightsMany RX6 3 (some .int) g A := F
  show J p l e rmX6_rightsMany s m args below meth c g A 3 (MQ below (QC g A (some (.int r)) S) args s 0 0 A) 0 0 0 [(0, .ref (g.2.1 13))] [] S
  refine j_iconst F (v := 0) dX6_rightsMany_0 (by decide) ?_
  refine j_istore_n F (lv' := [(1, .int 0), (0, .ref (g.2.1 13))]) dX6_rightsMany_1 (by decide) rfl ?_
  refine j_iconst F (v := 0) dX6_rightsMany_2 (by decide) ?_
  refine j_istore_n F (lv' := [(2, .int 0), (1, .int 0), (0, .ref (g.2.1 13))]) dX6_rightsMany_3 (by decide) rfl ?_
  refine j_sub [2, 1, 0] rfl ?_
  obtain ⟨y4, hlp4, hm⟩ := Option.bind_eq_some_iff.mp hm
  refine loopO_walk (fun x => m_X6_rightsMany_L4 S x.1 x.2) (fun x => J p l e rmX6_rightsMany s m args below meth c g A 3 (MQ below (QC g A (some (.int r)) S) args s 0 0 A) 0 0 4 [(0, .ref (g.2.1 13)), (1, .int x.1), (2, .int x.2)] [] S) (fun x => J p l e rmX6_rightsMany s m args below meth c g A 3 (MQ below (QC g A (some (.int r)) S) args s 0 0 A) 0 0 31 [(1, .int x)] [] S) (fun x o1 hm hk1 => ?_) hlp4 ?_
  · obtain ⟨v1, v2⟩ := x
    replace hm : m_X6_rightsMany_L4 S v1 v2 = some o1 := hm
    show J p l e rmX6_rightsMany s m args below meth c g A 3 (MQ below (QC g A (some (.int r)) S) args s 0 0 A) 0 0 4 [(0, .ref (g.2.1 13)), (1, .int v1), (2, .int v2)] [] S
    unfold m_X6_rightsMany_L4 at hm
    refine j_iload_n F 2 dX6_rightsMany_4 rfl ?_
    refine j_bipush F (v := 49) dX6_rightsMany_5 (by decide) ?_
    refine j_icmp_ge F (tgt := 31) dX6_rightsMany_7 (by decide) hm (fun _ hm => ?_) (fun _ hm => ?_)
    · cases hm
      refine j_sub [1] rfl ?_
      exact hk1
    · refine j_iload_n F 1 dX6_rightsMany_10 rfl ?_
      refine j_aload_n F 0 dX6_rightsMany_11 rfl ?_
      refine j_getR F (k0 := 1) (C := RX6) (T := TX6) (N := 20) rfl rfl rfl inF6 (by decide) tw520 dX6_rightsMany_12 ?_
      refine j_bipush F (v := 8) dX6_rightsMany_15 (by decide) ?_
      refine j_iload_n F 2 dX6_rightsMany_17 rfl ?_
      refine j_iadd F dX6_rightsMany_18 ?_
      refine j_iald F rfl dX6_rightsMany_19 hm (fun hm => ?_)
      obtain ⟨r20, hc20, hm⟩ := Option.bind_eq_some_iff.mp hm
      refine j_callS F (n := 1) (As := [.int (gA S 14 (8 + v2).toNatClampNeg)]) (rest := [.int v1]) (c_X6_bits l g hg (gA S 14 (8 + v2).toNatClampNeg) S r20 hc20) gw_X6_72 (by decide +kernel) ⟨Nat.le_of_ble_eq_true rfl, Nat.le_of_ble_eq_true rfl⟩ ⟨Nat.le_of_ble_eq_true rfl, Nat.le_of_ble_eq_true rfl⟩ rfl rfl (Nat.le_of_ble_eq_true rfl) dX6_rightsMany_20 ?_
      show J p l e rmX6_rightsMany s m args below meth c g A 3 (MQ below (QC g A (some (.int r)) S) args s 0 0 A) 0 0 23 [(0, .ref (g.2.1 13)), (1, .int v1), (2, .int v2)] [.int r20, .int v1] S
      refine j_iadd F dX6_rightsMany_23 ?_
      refine j_bnd hm (fun v1_24 hm => ?_)
      refine j_istore_n F (lv' := [(1, .int v1_24), (0, .ref (g.2.1 13)), (2, .int v2)]) dX6_rightsMany_24 (by decide) rfl ?_
      refine j_iinc F (v := v2 + 1) (lv' := [(2, .int (v2 + 1)), (1, .int v1_24), (0, .ref (g.2.1 13))]) 2 dX6_rightsMany_25 rfl rfl (by decide) rfl ?_
      refine j_goto F (tgt := 4) dX6_rightsMany_28 (by decide) ?_
      cases hm
      refine j_sub [2, 1, 0] rfl ?_
      exact hk1
  · show J p l e rmX6_rightsMany s m args below meth c g A 3 (MQ below (QC g A (some (.int r)) S) args s 0 0 A) 0 0 31 [(1, .int y4)] [] S
    refine j_iload_n F 0 dX6_rightsMany_31 rfl ?_
    exact j_iret_p F rfl dX6_rightsMany_32 hm
def m_X6_save_L36 (v1 : Int32) (v2 : Int32) (S : Hs) : Option ((Int32 × Hs) ⊕ Hs) := if 57 ≤ v2 then (some (.inr S)) else (gd (inb v2 57) (gd (inb ((v1 * 57) + v2) 114) (bnd (sA S 16 ((v1 * 57) + v2).toNatClampNeg (gA S 14 v2.toNatClampNeg)) fun S58 => (some (.inl ((v2 + 1, S58)))))))
noncomputable def m_X6_save_J15 (v1 : Int32) (w0 : Int32) (S : Hs) : Option (Int32 × Hs) := bnd (sI S 13 0 w0) fun S15 => (if (gI S15 13 0) ≤ 0 then (gd (inb v1 2) (bnd (sA S15 17 v1.toNatClampNeg (vp_nar .boolean 1)) fun S33 => ((loopO (fun x => m_X6_save_L36 v1 x.1 x.2) ((0, S33))).bind fun y36 => (m_X6_rightsMany  y36).bind fun r66 => (some ((r66, y36)))))) else (some ((0, S15))))
noncomputable def m_X6_save (v1 : Int32) (S : Hs) : Option (Int32 × Hs) := (m_X6_in v1 0 1).bind fun r4 => (if r4 = 0 then (m_X6_save_J15 v1 1 S) else (m_X6_save_J15 v1 0 S))
set_option maxRecDepth 100000 in
set_option maxHeartbeats 4000000 in
theorem c_X6_save (l : Launch) (g : GG) (hg : Inj g) (v1 : Int32)  (S : Hs) (r : Int32) (S' : Hs) (hm : m_X6_save v1 S = some ((r, S'))) : CM l yX6_save [.code yX6_save cX6_save 3 (some .int)] rmX6_save [.ref (g.2.1 13), .int v1] g S (some (.int r)) S' := by
  unfold m_X6_save at hm
  refine CM.of (cc := cX6_save) (nL := 3) (ret := (some .int)) (lv := [(0, .ref (g.2.1 13)), (1, .int v1)]) (by decide +kernel) hg (Nat.le_of_ble_eq_true rfl) rfl (fun p e s m args below meth c A F => ?_)
  replace F : Fx p s m meth c cX6_save RX6 3 (some .int) g A := F
  show J p l e rmX6_save s m args below meth c g A 3 (MQ below (QC g A (some (.int r)) S') args s 0 0 A) 0 0 0 [(0, .ref (g.2.1 13)), (1, .int v1)] [] S
  have hj15 : ∀ (v1 : Int32) (w0 : Int32) (S : Hs), m_X6_save_J15 v1 w0 S = some ((r, S')) → J p l e rmX6_save s m args below meth c g A 3 (MQ below (QC g A (some (.int r)) S') args s 0 0 A) 0 0 15 [(0, .ref (g.2.1 13)), (1, .int v1)] [.int w0, .ref (g.2.1 13)] S := by
    intro v1 w0 S hm
    unfold m_X6_save_J15 at hm
    refine j_putI F (k0 := 0) (C := RX6) (T := TX6) (N := 20) tyX6 tyX6_ok nmX6 rfl rfl rfl inF6 (by decide) tw535 rfl (by decide +kernel) dX6_save_15 ?_
    refine j_bndS hm (fun S15 hm => ?_)
    refine j_aload_n F 0 dX6_save_18 rfl ?_
    refine j_getI F (k0 := 0) (C := RX6) (T := TX6) (N := 20) rfl rfl rfl inF6 (by decide) tw535 dX6_save_19 ?_
    refine j_if_le F (tgt := 27) dX6_save_22 (by decide) hm (fun _ hm => ?_) (fun _ hm => ?_)
    · refine j_aload_n F 0 dX6_save_27 rfl ?_
      refine j_getR F (k0 := 5) (C := RX6) (T := TX6) (N := 20) rfl rfl rfl inF6 (by decide) tw523 dX6_save_28 ?_
      refine j_iload_n F 1 dX6_save_31 rfl ?_
      refine j_iconst F (v := 1) dX6_save_32 (by decide) ?_
      refine j_zast F rfl dX6_save_33 hm (fun hm => ?_)
      refine j_bndS hm (fun S33 hm => ?_)
      refine j_iconst F (v := 0) dX6_save_34 (by decide) ?_
      refine j_istore_n F (lv' := [(2, .int 0), (0, .ref (g.2.1 13)), (1, .int v1)]) dX6_save_35 (by decide) rfl ?_
      refine j_sub [1, 2, 0] rfl ?_
      obtain ⟨y36, hlp36, hm⟩ := Option.bind_eq_some_iff.mp hm
      refine loopO_walk (fun x => m_X6_save_L36 v1 x.1 x.2) (fun x => J p l e rmX6_save s m args below meth c g A 3 (MQ below (QC g A (some (.int r)) S') args s 0 0 A) 0 0 36 [(0, .ref (g.2.1 13)), (1, .int v1), (2, .int x.1)] [] x.2) (fun x => J p l e rmX6_save s m args below meth c g A 3 (MQ below (QC g A (some (.int r)) S') args s 0 0 A) 0 0 65 [(0, .ref (g.2.1 13))] [] x) (fun x o1 hm hk1 => ?_) hlp36 ?_
      · obtain ⟨v2, S⟩ := x
        replace hm : m_X6_save_L36 v1 v2 S = some o1 := hm
        show J p l e rmX6_save s m args below meth c g A 3 (MQ below (QC g A (some (.int r)) S') args s 0 0 A) 0 0 36 [(0, .ref (g.2.1 13)), (1, .int v1), (2, .int v2)] [] S
        unfold m_X6_save_L36 at hm
        refine j_iload_n F 2 dX6_save_36 rfl ?_
        refine j_bipush F (v := 57) dX6_save_37 (by decide) ?_
        refine j_icmp_ge F (tgt := 65) dX6_save_39 (by decide) hm (fun _ hm => ?_) (fun _ hm => ?_)
        · cases hm
          refine j_sub [0] rfl ?_
          exact hk1
        · refine j_aload_n F 0 dX6_save_42 rfl ?_
          refine j_getR F (k0 := 4) (C := RX6) (T := TX6) (N := 20) rfl rfl rfl inF6 (by decide) tw522 dX6_save_43 ?_
          refine j_iload_n F 1 dX6_save_46 rfl ?_
          refine j_bipush F (v := 57) dX6_save_47 (by decide) ?_
          refine j_imul F dX6_save_49 ?_
          refine j_iload_n F 2 dX6_save_50 rfl ?_
          refine j_iadd F dX6_save_51 ?_
          refine j_aload_n F 0 dX6_save_52 rfl ?_
          refine j_getR F (k0 := 1) (C := RX6) (T := TX6) (N := 20) rfl rfl rfl inF6 (by decide) tw520 dX6_save_53 ?_
          refine j_iload_n F 2 dX6_save_56 rfl ?_
          refine j_iald F rfl dX6_save_57 hm (fun hm => ?_)
          refine j_iast F rfl dX6_save_58 hm (fun hm => ?_)
          refine j_bndS hm (fun S58 hm => ?_)
          refine j_iinc F (v := v2 + 1) (lv' := [(2, .int (v2 + 1)), (0, .ref (g.2.1 13)), (1, .int v1)]) 2 dX6_save_59 rfl rfl (by decide) rfl ?_
          refine j_goto F (tgt := 36) dX6_save_62 (by decide) ?_
          cases hm
          refine j_sub [1, 2, 0] rfl ?_
          exact hk1
      · show J p l e rmX6_save s m args below meth c g A 3 (MQ below (QC g A (some (.int r)) S') args s 0 0 A) 0 0 65 [(0, .ref (g.2.1 13))] [] y36
        refine j_aload_n F 0 dX6_save_65 rfl ?_
        obtain ⟨r66, hc66, hm⟩ := Option.bind_eq_some_iff.mp hm
        refine j_callV F (n := 0) (As := []) (rest := []) (c_X6_rightsMany l g hg y36 r66 hc66) gw_X6_64 (by decide +kernel) ⟨Nat.le_of_ble_eq_true rfl, Nat.le_of_ble_eq_true rfl⟩ ⟨Nat.le_of_ble_eq_true rfl, Nat.le_of_ble_eq_true rfl⟩ rfl rfl rfl rfl (Nat.le_of_ble_eq_true rfl) dX6_save_66 ?_
        show J p l e rmX6_save s m args below meth c g A 3 (MQ below (QC g A (some (.int r)) S') args s 0 0 A) 0 0 69 [(0, .ref (g.2.1 13))] [.int r66] y36
        exact j_iret_e F rfl dX6_save_69 hm
    · refine j_iconst F (v := 0) dX6_save_25 (by decide) ?_
      exact j_iret_e F rfl dX6_save_26 hm
  refine j_aload_n F 0 dX6_save_0 rfl ?_
  refine j_iload_n F 1 dX6_save_1 rfl ?_
  refine j_iconst F (v := 0) dX6_save_2 (by decide) ?_
  refine j_iconst F (v := 1) dX6_save_3 (by decide) ?_
  obtain ⟨r4, hc4, hm⟩ := Option.bind_eq_some_iff.mp hm
  refine j_callS F (n := 3) (As := [.int v1, .int 0, .int 1]) (rest := [.ref (g.2.1 13)]) (c_X6_in l g hg v1 0 1 S r4 hc4) gw_X6_60 (by decide +kernel) ⟨Nat.le_of_ble_eq_true rfl, Nat.le_of_ble_eq_true rfl⟩ ⟨Nat.le_of_ble_eq_true rfl, Nat.le_of_ble_eq_true rfl⟩ rfl rfl (Nat.le_of_ble_eq_true rfl) dX6_save_4 ?_
  show J p l e rmX6_save s m args below meth c g A 3 (MQ below (QC g A (some (.int r)) S') args s 0 0 A) 0 0 7 [(0, .ref (g.2.1 13)), (1, .int v1)] [.int r4, .ref (g.2.1 13)] S
  refine j_if_eq F (tgt := 14) dX6_save_7 (by decide) hm (fun _ hm => ?_) (fun _ hm => ?_)
  · refine j_iconst F (v := 1) dX6_save_14 (by decide) ?_
    refine j_sub [0, 1] rfl ?_
    exact hj15 v1 1 S  hm
  · refine j_iconst F (v := 0) dX6_save_10 (by decide) ?_
    refine j_goto F (tgt := 15) dX6_save_11 (by decide) ?_
    refine j_sub [0, 1] rfl ?_
    exact hj15 v1 0 S  hm
def m_X6_restore_L42 (v1 : Int32) (v2 : Int32) (S : Hs) : Option ((Int32 × Hs) ⊕ Hs) := if 57 ≤ v2 then (some (.inr S)) else (gd (inb ((v1 * 57) + v2) 114) (gd (inb v2 57) (bnd (sA S 14 v2.toNatClampNeg (gA S 16 ((v1 * 57) + v2).toNatClampNeg)) fun S64 => (some (.inl ((v2 + 1, S64)))))))
noncomputable def m_X6_restore_J28 (v1 : Int32) (w0 : Int32) (S : Hs) : Option (Int32 × Hs) := bnd (sI S 13 0 w0) fun S28 => (if (gI S28 13 0) ≤ 0 then ((loopO (fun x => m_X6_restore_L42 v1 x.1 x.2) ((0, S28))).bind fun y42 => bnd (sI y42 13 3 0) fun S73 => ((m_X6_rightsMany  S73).bind fun r77 => (some ((r77, S73))))) else (some ((0, S28))))
noncomputable def m_X6_restore (v1 : Int32) (S : Hs) : Option (Int32 × Hs) := (m_X6_in v1 0 1).bind fun r4 => (if r4 = 0 then (m_X6_restore_J28 v1 1 S) else (gd (inb v1 2) (if (gA S 17 v1.toNatClampNeg) = 0 then (m_X6_restore_J28 v1 2 S) else (m_X6_restore_J28 v1 0 S))))
set_option maxRecDepth 100000 in
set_option maxHeartbeats 4000000 in
theorem c_X6_restore (l : Launch) (g : GG) (hg : Inj g) (v1 : Int32)  (S : Hs) (r : Int32) (S' : Hs) (hm : m_X6_restore v1 S = some ((r, S'))) : CM l yX6_restore [.code yX6_restore cX6_restore 3 (some .int)] rmX6_restore [.ref (g.2.1 13), .int v1] g S (some (.int r)) S' := by
  unfold m_X6_restore at hm
  refine CM.of (cc := cX6_restore) (nL := 3) (ret := (some .int)) (lv := [(0, .ref (g.2.1 13)), (1, .int v1)]) (by decide +kernel) hg (Nat.le_of_ble_eq_true rfl) rfl (fun p e s m args below meth c A F => ?_)
  replace F : Fx p s m meth c cX6_restore RX6 3 (some .int) g A := F
  show J p l e rmX6_restore s m args below meth c g A 3 (MQ below (QC g A (some (.int r)) S') args s 0 0 A) 0 0 0 [(0, .ref (g.2.1 13)), (1, .int v1)] [] S
  have hj28 : ∀ (v1 : Int32) (w0 : Int32) (S : Hs), m_X6_restore_J28 v1 w0 S = some ((r, S')) → J p l e rmX6_restore s m args below meth c g A 3 (MQ below (QC g A (some (.int r)) S') args s 0 0 A) 0 0 28 [(0, .ref (g.2.1 13)), (1, .int v1)] [.int w0, .ref (g.2.1 13)] S := by
    intro v1 w0 S hm
    unfold m_X6_restore_J28 at hm
    refine j_putI F (k0 := 0) (C := RX6) (T := TX6) (N := 20) tyX6 tyX6_ok nmX6 rfl rfl rfl inF6 (by decide) tw535 rfl (by decide +kernel) dX6_restore_28 ?_
    refine j_bndS hm (fun S28 hm => ?_)
    refine j_aload_n F 0 dX6_restore_31 rfl ?_
    refine j_getI F (k0 := 0) (C := RX6) (T := TX6) (N := 20) rfl rfl rfl inF6 (by decide) tw535 dX6_restore_32 ?_
    refine j_if_le F (tgt := 40) dX6_restore_35 (by decide) hm (fun _ hm => ?_) (fun _ hm => ?_)
    · refine j_iconst F (v := 0) dX6_restore_40 (by decide) ?_
      refine j_istore_n F (lv' := [(2, .int 0), (0, .ref (g.2.1 13)), (1, .int v1)]) dX6_restore_41 (by decide) rfl ?_
      refine j_sub [1, 2, 0] rfl ?_
      obtain ⟨y42, hlp42, hm⟩ := Option.bind_eq_some_iff.mp hm
      refine loopO_walk (fun x => m_X6_restore_L42 v1 x.1 x.2) (fun x => J p l e rmX6_restore s m args below meth c g A 3 (MQ below (QC g A (some (.int r)) S') args s 0 0 A) 0 0 42 [(0, .ref (g.2.1 13)), (1, .int v1), (2, .int x.1)] [] x.2) (fun x => J p l e rmX6_restore s m args below meth c g A 3 (MQ below (QC g A (some (.int r)) S') args s 0 0 A) 0 0 71 [(0, .ref (g.2.1 13))] [] x) (fun x o1 hm hk1 => ?_) hlp42 ?_
      · obtain ⟨v2, S⟩ := x
        replace hm : m_X6_restore_L42 v1 v2 S = some o1 := hm
        show J p l e rmX6_restore s m args below meth c g A 3 (MQ below (QC g A (some (.int r)) S') args s 0 0 A) 0 0 42 [(0, .ref (g.2.1 13)), (1, .int v1), (2, .int v2)] [] S
        unfold m_X6_restore_L42 at hm
        refine j_iload_n F 2 dX6_restore_42 rfl ?_
        refine j_bipush F (v := 57) dX6_restore_43 (by decide) ?_
        refine j_icmp_ge F (tgt := 71) dX6_restore_45 (by decide) hm (fun _ hm => ?_) (fun _ hm => ?_)
        · cases hm
          refine j_sub [0] rfl ?_
          exact hk1
        · refine j_aload_n F 0 dX6_restore_48 rfl ?_
          refine j_getR F (k0 := 1) (C := RX6) (T := TX6) (N := 20) rfl rfl rfl inF6 (by decide) tw520 dX6_restore_49 ?_
          refine j_iload_n F 2 dX6_restore_52 rfl ?_
          refine j_aload_n F 0 dX6_restore_53 rfl ?_
          refine j_getR F (k0 := 4) (C := RX6) (T := TX6) (N := 20) rfl rfl rfl inF6 (by decide) tw522 dX6_restore_54 ?_
          refine j_iload_n F 1 dX6_restore_57 rfl ?_
          refine j_bipush F (v := 57) dX6_restore_58 (by decide) ?_
          refine j_imul F dX6_restore_60 ?_
          refine j_iload_n F 2 dX6_restore_61 rfl ?_
          refine j_iadd F dX6_restore_62 ?_
          refine j_iald F rfl dX6_restore_63 hm (fun hm => ?_)
          refine j_iast F rfl dX6_restore_64 hm (fun hm => ?_)
          refine j_bndS hm (fun S64 hm => ?_)
          refine j_iinc F (v := v2 + 1) (lv' := [(2, .int (v2 + 1)), (0, .ref (g.2.1 13)), (1, .int v1)]) 2 dX6_restore_65 rfl rfl (by decide) rfl ?_
          refine j_goto F (tgt := 42) dX6_restore_68 (by decide) ?_
          cases hm
          refine j_sub [1, 2, 0] rfl ?_
          exact hk1
      · show J p l e rmX6_restore s m args below meth c g A 3 (MQ below (QC g A (some (.int r)) S') args s 0 0 A) 0 0 71 [(0, .ref (g.2.1 13))] [] y42
        refine j_aload_n F 0 dX6_restore_71 rfl ?_
        refine j_iconst F (v := 0) dX6_restore_72 (by decide) ?_
        refine j_putI F (k0 := 3) (C := RX6) (T := TX6) (N := 20) tyX6 tyX6_ok nmX6 rfl rfl rfl inF6 (by decide) tw538 rfl (by decide +kernel) dX6_restore_73 ?_
        refine j_bndS hm (fun S73 hm => ?_)
        refine j_aload_n F 0 dX6_restore_76 rfl ?_
        obtain ⟨r77, hc77, hm⟩ := Option.bind_eq_some_iff.mp hm
        refine j_callV F (n := 0) (As := []) (rest := []) (c_X6_rightsMany l g hg S73 r77 hc77) gw_X6_64 (by decide +kernel) ⟨Nat.le_of_ble_eq_true rfl, Nat.le_of_ble_eq_true rfl⟩ ⟨Nat.le_of_ble_eq_true rfl, Nat.le_of_ble_eq_true rfl⟩ rfl rfl rfl rfl (Nat.le_of_ble_eq_true rfl) dX6_restore_77 ?_
        show J p l e rmX6_restore s m args below meth c g A 3 (MQ below (QC g A (some (.int r)) S') args s 0 0 A) 0 0 80 [(0, .ref (g.2.1 13))] [.int r77] S73
        exact j_iret_e F rfl dX6_restore_80 hm
    · refine j_iconst F (v := 0) dX6_restore_38 (by decide) ?_
      exact j_iret_e F rfl dX6_restore_39 hm
  refine j_aload_n F 0 dX6_restore_0 rfl ?_
  refine j_iload_n F 1 dX6_restore_1 rfl ?_
  refine j_iconst F (v := 0) dX6_restore_2 (by decide) ?_
  refine j_iconst F (v := 1) dX6_restore_3 (by decide) ?_
  obtain ⟨r4, hc4, hm⟩ := Option.bind_eq_some_iff.mp hm
  refine j_callS F (n := 3) (As := [.int v1, .int 0, .int 1]) (rest := [.ref (g.2.1 13)]) (c_X6_in l g hg v1 0 1 S r4 hc4) gw_X6_60 (by decide +kernel) ⟨Nat.le_of_ble_eq_true rfl, Nat.le_of_ble_eq_true rfl⟩ ⟨Nat.le_of_ble_eq_true rfl, Nat.le_of_ble_eq_true rfl⟩ rfl rfl (Nat.le_of_ble_eq_true rfl) dX6_restore_4 ?_
  show J p l e rmX6_restore s m args below meth c g A 3 (MQ below (QC g A (some (.int r)) S') args s 0 0 A) 0 0 7 [(0, .ref (g.2.1 13)), (1, .int v1)] [.int r4, .ref (g.2.1 13)] S
  refine j_if_ne F (tgt := 14) dX6_restore_7 (by decide) hm (fun _ hm => ?_) (fun _ hm => ?_)
  · refine j_aload_n F 0 dX6_restore_14 rfl ?_
    refine j_getR F (k0 := 5) (C := RX6) (T := TX6) (N := 20) rfl rfl rfl inF6 (by decide) tw523 dX6_restore_15 ?_
    refine j_iload_n F 1 dX6_restore_18 rfl ?_
    refine j_zald F rfl dX6_restore_19 hm (fun hm => ?_)
    refine j_if_eq F (tgt := 27) dX6_restore_20 (by decide) hm (fun _ hm => ?_) (fun _ hm => ?_)
    · refine j_iconst F (v := 2) dX6_restore_27 (by decide) ?_
      refine j_sub [0, 1] rfl ?_
      exact hj28 v1 2 S  hm
    · refine j_iconst F (v := 0) dX6_restore_23 (by decide) ?_
      refine j_goto F (tgt := 28) dX6_restore_24 (by decide) ?_
      refine j_sub [0, 1] rfl ?_
      exact hj28 v1 0 S  hm
  · refine j_iconst F (v := 1) dX6_restore_10 (by decide) ?_
    refine j_goto F (tgt := 28) dX6_restore_11 (by decide) ?_
    refine j_sub [0, 1] rfl ?_
    exact hj28 v1 1 S  hm
def m_X6_putAside_L2 (v1 : Int32) (S : Hs) : Option ((Int32 × Hs) ⊕ Hs) := if 57 ≤ v1 then (some (.inr S)) else (gd (inb v1 57) (gd (inb v1 57) (bnd (sA S 18 v1.toNatClampNeg (gA S 14 v1.toNatClampNeg)) fun S19 => (some (.inl ((v1 + 1, S19)))))))
noncomputable def m_X6_putAside (S : Hs) : Option (Hs) := (loopO (fun x => m_X6_putAside_L2 x.1 x.2) ((0, S))).bind fun y2 => some y2
set_option maxRecDepth 100000 in
set_option maxHeartbeats 4000000 in
theorem c_X6_putAside (l : Launch) (g : GG) (hg : Inj g)   (S : Hs) (S' : Hs) (hm : m_X6_putAside S = some S') : CM l yX6_putAside [.code yX6_putAside cX6_putAside 2 none] rmX6_putAside [.ref (g.2.1 13)] g S none S' := by
  unfold m_X6_putAside at hm
  refine CM.of (cc := cX6_putAside) (nL := 2) (ret := none) (lv := [(0, .ref (g.2.1 13))]) (by decide +kernel) hg (Nat.le_of_ble_eq_true rfl) rfl (fun p e s m args below meth c A F => ?_)
  replace F : Fx p s m meth c cX6_putAside RX6 2 none g A := F
  show J p l e rmX6_putAside s m args below meth c g A 2 (MQ below (QC g A none S') args s 0 0 A) 0 0 0 [(0, .ref (g.2.1 13))] [] S
  refine j_iconst F (v := 0) dX6_putAside_0 (by decide) ?_
  refine j_istore_n F (lv' := [(1, .int 0), (0, .ref (g.2.1 13))]) dX6_putAside_1 (by decide) rfl ?_
  refine j_sub [1, 0] rfl ?_
  obtain ⟨y2, hlp2, hm⟩ := Option.bind_eq_some_iff.mp hm
  refine loopO_walk (fun x => m_X6_putAside_L2 x.1 x.2) (fun x => J p l e rmX6_putAside s m args below meth c g A 2 (MQ below (QC g A none S') args s 0 0 A) 0 0 2 [(0, .ref (g.2.1 13)), (1, .int x.1)] [] x.2) (fun x => J p l e rmX6_putAside s m args below meth c g A 2 (MQ below (QC g A none S') args s 0 0 A) 0 0 26 [] [] x) (fun x o1 hm hk1 => ?_) hlp2 ?_
  · obtain ⟨v1, S⟩ := x
    replace hm : m_X6_putAside_L2 v1 S = some o1 := hm
    show J p l e rmX6_putAside s m args below meth c g A 2 (MQ below (QC g A none S') args s 0 0 A) 0 0 2 [(0, .ref (g.2.1 13)), (1, .int v1)] [] S
    unfold m_X6_putAside_L2 at hm
    refine j_iload_n F 1 dX6_putAside_2 rfl ?_
    refine j_bipush F (v := 57) dX6_putAside_3 (by decide) ?_
    refine j_icmp_ge F (tgt := 26) dX6_putAside_5 (by decide) hm (fun _ hm => ?_) (fun _ hm => ?_)
    · cases hm
      refine j_sub [] rfl ?_
      exact hk1
    · refine j_aload_n F 0 dX6_putAside_8 rfl ?_
      refine j_getR F (k0 := 6) (C := RX6) (T := TX6) (N := 20) rfl rfl rfl inF6 (by decide) tw524 dX6_putAside_9 ?_
      refine j_iload_n F 1 dX6_putAside_12 rfl ?_
      refine j_aload_n F 0 dX6_putAside_13 rfl ?_
      refine j_getR F (k0 := 1) (C := RX6) (T := TX6) (N := 20) rfl rfl rfl inF6 (by decide) tw520 dX6_putAside_14 ?_
      refine j_iload_n F 1 dX6_putAside_17 rfl ?_
      refine j_iald F rfl dX6_putAside_18 hm (fun hm => ?_)
      refine j_iast F rfl dX6_putAside_19 hm (fun hm => ?_)
      refine j_bndS hm (fun S19 hm => ?_)
      refine j_iinc F (v := v1 + 1) (lv' := [(1, .int (v1 + 1)), (0, .ref (g.2.1 13))]) 1 dX6_putAside_20 rfl rfl (by decide) rfl ?_
      refine j_goto F (tgt := 2) dX6_putAside_23 (by decide) ?_
      cases hm
      refine j_sub [1, 0] rfl ?_
      exact hk1
  · show J p l e rmX6_putAside s m args below meth c g A 2 (MQ below (QC g A none S') args s 0 0 A) 0 0 26 [] [] y2
    exact j_vret_e F rfl dX6_putAside_26 hm
def m_X6_bringBack_L2 (v1 : Int32) (S : Hs) : Option ((Int32 × Hs) ⊕ Hs) := if 57 ≤ v1 then (some (.inr S)) else (gd (inb v1 57) (gd (inb v1 57) (bnd (sA S 14 v1.toNatClampNeg (gA S 18 v1.toNatClampNeg)) fun S19 => (some (.inl ((v1 + 1, S19)))))))
noncomputable def m_X6_bringBack (S : Hs) : Option (Hs) := (loopO (fun x => m_X6_bringBack_L2 x.1 x.2) ((0, S))).bind fun y2 => some y2
set_option maxRecDepth 100000 in
set_option maxHeartbeats 4000000 in
theorem c_X6_bringBack (l : Launch) (g : GG) (hg : Inj g)   (S : Hs) (S' : Hs) (hm : m_X6_bringBack S = some S') : CM l yX6_bringBack [.code yX6_bringBack cX6_bringBack 2 none] rmX6_bringBack [.ref (g.2.1 13)] g S none S' := by
  unfold m_X6_bringBack at hm
  refine CM.of (cc := cX6_bringBack) (nL := 2) (ret := none) (lv := [(0, .ref (g.2.1 13))]) (by decide +kernel) hg (Nat.le_of_ble_eq_true rfl) rfl (fun p e s m args below meth c A F => ?_)
  replace F : Fx p s m meth c cX6_bringBack RX6 2 none g A := F
  show J p l e rmX6_bringBack s m args below meth c g A 2 (MQ below (QC g A none S') args s 0 0 A) 0 0 0 [(0, .ref (g.2.1 13))] [] S
  refine j_iconst F (v := 0) dX6_bringBack_0 (by decide) ?_
  refine j_istore_n F (lv' := [(1, .int 0), (0, .ref (g.2.1 13))]) dX6_bringBack_1 (by decide) rfl ?_
  refine j_sub [1, 0] rfl ?_
  obtain ⟨y2, hlp2, hm⟩ := Option.bind_eq_some_iff.mp hm
  refine loopO_walk (fun x => m_X6_bringBack_L2 x.1 x.2) (fun x => J p l e rmX6_bringBack s m args below meth c g A 2 (MQ below (QC g A none S') args s 0 0 A) 0 0 2 [(0, .ref (g.2.1 13)), (1, .int x.1)] [] x.2) (fun x => J p l e rmX6_bringBack s m args below meth c g A 2 (MQ below (QC g A none S') args s 0 0 A) 0 0 26 [] [] x) (fun x o1 hm hk1 => ?_) hlp2 ?_
  · obtain ⟨v1, S⟩ := x
    replace hm : m_X6_bringBack_L2 v1 S = some o1 := hm
    show J p l e rmX6_bringBack s m args below meth c g A 2 (MQ below (QC g A none S') args s 0 0 A) 0 0 2 [(0, .ref (g.2.1 13)), (1, .int v1)] [] S
    unfold m_X6_bringBack_L2 at hm
    refine j_iload_n F 1 dX6_bringBack_2 rfl ?_
    refine j_bipush F (v := 57) dX6_bringBack_3 (by decide) ?_
    refine j_icmp_ge F (tgt := 26) dX6_bringBack_5 (by decide) hm (fun _ hm => ?_) (fun _ hm => ?_)
    · cases hm
      refine j_sub [] rfl ?_
      exact hk1
    · refine j_aload_n F 0 dX6_bringBack_8 rfl ?_
      refine j_getR F (k0 := 1) (C := RX6) (T := TX6) (N := 20) rfl rfl rfl inF6 (by decide) tw520 dX6_bringBack_9 ?_
      refine j_iload_n F 1 dX6_bringBack_12 rfl ?_
      refine j_aload_n F 0 dX6_bringBack_13 rfl ?_
      refine j_getR F (k0 := 6) (C := RX6) (T := TX6) (N := 20) rfl rfl rfl inF6 (by decide) tw524 dX6_bringBack_14 ?_
      refine j_iload_n F 1 dX6_bringBack_17 rfl ?_
      refine j_iald F rfl dX6_bringBack_18 hm (fun hm => ?_)
      refine j_iast F rfl dX6_bringBack_19 hm (fun hm => ?_)
      refine j_bndS hm (fun S19 hm => ?_)
      refine j_iinc F (v := v1 + 1) (lv' := [(1, .int (v1 + 1)), (0, .ref (g.2.1 13))]) 1 dX6_bringBack_20 rfl rfl (by decide) rfl ?_
      refine j_goto F (tgt := 2) dX6_bringBack_23 (by decide) ?_
      cases hm
      refine j_sub [1, 0] rfl ?_
      exact hk1
  · show J p l e rmX6_bringBack s m args below meth c g A 2 (MQ below (QC g A none S') args s 0 0 A) 0 0 26 [] [] y2
    exact j_vret_e F rfl dX6_bringBack_26 hm
def m_X6_isThing_J19 (w0 : Int32) (S : Hs) : Option (Int32) := gd (decide (w0 = 0 ∨ w0 = 1)) (some w0)
def m_X6_isThing_J18 (S : Hs) : Option (Int32) := m_X6_isThing_J19 0 S
def m_X6_isThing (v1 : Int32) (S : Hs) : Option (Int32) := if v1 < 0 then (m_X6_isThing_J18 S) else (gd (inb 0 57) (if (gA S 14 (0 : Int32).toNatClampNeg) ≤ v1 then (m_X6_isThing_J18 S) else (m_X6_isThing_J19 1 S)))
set_option maxRecDepth 100000 in
set_option maxHeartbeats 4000000 in
theorem c_X6_isThing (l : Launch) (g : GG) (hg : Inj g) (v1 : Int32)  (S : Hs) (r : Int32) (hm : m_X6_isThing v1 S = some r) : CM l yX6_isThing [.code yX6_isThing cX6_isThing 2 (some .boolean)] rmX6_isThing [.ref (g.2.1 13), .int v1] g S (some (.int r)) S := by
  unfold m_X6_isThing at hm
  refine CM.of (cc := cX6_isThing) (nL := 2) (ret := (some .boolean)) (lv := [(0, .ref (g.2.1 13)), (1, .int v1)]) (by decide +kernel) hg (Nat.le_of_ble_eq_true rfl) rfl (fun p e s m args below meth c A F => ?_)
  replace F : Fx p s m meth c cX6_isThing RX6 2 (some .boolean) g A := F
  show J p l e rmX6_isThing s m args below meth c g A 2 (MQ below (QC g A (some (.int r)) S) args s 0 0 A) 0 0 0 [(0, .ref (g.2.1 13)), (1, .int v1)] [] S
  have hj19 : ∀ (w0 : Int32) (S : Hs), m_X6_isThing_J19 w0 S = some r → J p l e rmX6_isThing s m args below meth c g A 2 (MQ below (QC g A (some (.int r)) S) args s 0 0 A) 0 0 19 [] [.int w0] S := by
    intro w0 S hm
    unfold m_X6_isThing_J19 at hm
    obtain ⟨hb, hm⟩ := gd_ok hm
    exact j_zret_p F rfl (z_nar hb) dX6_isThing_19 hm
  have hj18 : ∀ (S : Hs), m_X6_isThing_J18 S = some r → J p l e rmX6_isThing s m args below meth c g A 2 (MQ below (QC g A (some (.int r)) S) args s 0 0 A) 0 0 18 [] [] S := by
    intro S hm
    unfold m_X6_isThing_J18 at hm
    refine j_iconst F (v := 0) dX6_isThing_18 (by decide) ?_
    refine j_sub [] rfl ?_
    exact hj19 0 S  hm
  refine j_iload_n F 1 dX6_isThing_0 rfl ?_
  refine j_if_lt F (tgt := 18) dX6_isThing_1 (by decide) hm (fun _ hm => ?_) (fun _ hm => ?_)
  · refine j_sub [] rfl ?_
    exact hj18 S  hm
  · refine j_iload_n F 1 dX6_isThing_4 rfl ?_
    refine j_aload_n F 0 dX6_isThing_5 rfl ?_
    refine j_getR F (k0 := 1) (C := RX6) (T := TX6) (N := 20) rfl rfl rfl inF6 (by decide) tw520 dX6_isThing_6 ?_
    refine j_iconst F (v := 0) dX6_isThing_9 (by decide) ?_
    refine j_iald F rfl dX6_isThing_10 hm (fun hm => ?_)
    refine j_icmp_ge F (tgt := 18) dX6_isThing_11 (by decide) hm (fun _ hm => ?_) (fun _ hm => ?_)
    · refine j_sub [] rfl ?_
      exact hj18 S  hm
    · refine j_iconst F (v := 1) dX6_isThing_14 (by decide) ?_
      refine j_goto F (tgt := 19) dX6_isThing_15 (by decide) ?_
      refine j_sub [] rfl ?_
      exact hj19 1 S  hm
def m_X6_at (v0 : Int32) (v1 : Int32) : Option (Int32) := some ((7 * v0) + v1)
set_option maxRecDepth 100000 in
set_option maxHeartbeats 4000000 in
theorem c_X6_at (l : Launch) (g : GG) (hg : Inj g) (v0 : Int32) (v1 : Int32)  (S : Hs) (r : Int32) (hm : m_X6_at v0 v1 = some r) : CM l yX6_at [.code yX6_at cX6_at 2 (some .int)] rmX6_at [.int v0, .int v1] g S (some (.int r)) S := by
  unfold m_X6_at at hm
  refine CM.of (cc := cX6_at) (nL := 2) (ret := (some .int)) (lv := [(0, .int v0), (1, .int v1)]) (by decide +kernel) hg (Nat.le_of_ble_eq_true rfl) rfl (fun p e s m args below meth c A F => ?_)
  replace F : Fx p s m meth c cX6_at RX6 2 (some .int) g A := F
  show J p l e rmX6_at s m args below meth c g A 2 (MQ below (QC g A (some (.int r)) S) args s 0 0 A) 0 0 0 [(0, .int v0), (1, .int v1)] [] S
  refine j_bipush F (v := 7) dX6_at_0 (by decide) ?_
  refine j_iload_n F 0 dX6_at_2 rfl ?_
  refine j_imul F dX6_at_3 ?_
  refine j_iload_n F 1 dX6_at_4 rfl ?_
  refine j_iadd F dX6_at_5 ?_
  exact j_iret_p F rfl dX6_at_6 hm
def m_X6_has_J26 (w0 : Int32) (S : Hs) : Option (Int32) := gd (decide (w0 = 0 ∨ w0 = 1)) (some w0)
def m_X6_has (v1 : Int32) (v2 : Int32) (v3 : Int32) (S : Hs) : Option (Int32) := (m_X6_at v1 v3).bind fun r8 => (gd (inb (8 + r8) 57) (if (((gA S 14 (8 + r8).toNatClampNeg) >>> (v2 &&& 31)) &&& 1) = 1 then (m_X6_has_J26 1 S) else (m_X6_has_J26 0 S)))
set_option maxRecDepth 100000 in
set_option maxHeartbeats 4000000 in
theorem c_X6_has (l : Launch) (g : GG) (hg : Inj g) (v1 : Int32) (v2 : Int32) (v3 : Int32)  (S : Hs) (r : Int32) (hm : m_X6_has v1 v2 v3 S = some r) : CM l yX6_has [.code yX6_has cX6_has 4 (some .boolean)] rmX6_has [.ref (g.2.1 13), .int v1, .int v2, .int v3] g S (some (.int r)) S := by
  unfold m_X6_has at hm
  refine CM.of (cc := cX6_has) (nL := 4) (ret := (some .boolean)) (lv := [(0, .ref (g.2.1 13)), (1, .int v1), (2, .int v2), (3, .int v3)]) (by decide +kernel) hg (Nat.le_of_ble_eq_true rfl) rfl (fun p e s m args below meth c A F => ?_)
  replace F : Fx p s m meth c cX6_has RX6 4 (some .boolean) g A := F
  show J p l e rmX6_has s m args below meth c g A 4 (MQ below (QC g A (some (.int r)) S) args s 0 0 A) 0 0 0 [(0, .ref (g.2.1 13)), (1, .int v1), (2, .int v2), (3, .int v3)] [] S
  have hj26 : ∀ (w0 : Int32) (S : Hs), m_X6_has_J26 w0 S = some r → J p l e rmX6_has s m args below meth c g A 4 (MQ below (QC g A (some (.int r)) S) args s 0 0 A) 0 0 26 [] [.int w0] S := by
    intro w0 S hm
    unfold m_X6_has_J26 at hm
    obtain ⟨hb, hm⟩ := gd_ok hm
    exact j_zret_p F rfl (z_nar hb) dX6_has_26 hm
  refine j_aload_n F 0 dX6_has_0 rfl ?_
  refine j_getR F (k0 := 1) (C := RX6) (T := TX6) (N := 20) rfl rfl rfl inF6 (by decide) tw520 dX6_has_1 ?_
  refine j_bipush F (v := 8) dX6_has_4 (by decide) ?_
  refine j_iload_n F 1 dX6_has_6 rfl ?_
  refine j_iload_n F 3 dX6_has_7 rfl ?_
  obtain ⟨r8, hc8, hm⟩ := Option.bind_eq_some_iff.mp hm
  refine j_callS F (n := 2) (As := [.int v1, .int v3]) (rest := [.int 8, .ref (g.2.1 14)]) (c_X6_at l g hg v1 v3 S r8 hc8) gw_X6_68 (by decide +kernel) ⟨Nat.le_of_ble_eq_true rfl, Nat.le_of_ble_eq_true rfl⟩ ⟨Nat.le_of_ble_eq_true rfl, Nat.le_of_ble_eq_true rfl⟩ rfl rfl (Nat.le_of_ble_eq_true rfl) dX6_has_8 ?_
  show J p l e rmX6_has s m args below meth c g A 4 (MQ below (QC g A (some (.int r)) S) args s 0 0 A) 0 0 11 [(0, .ref (g.2.1 13)), (1, .int v1), (2, .int v2), (3, .int v3)] [.int r8, .int 8, .ref (g.2.1 14)] S
  refine j_iadd F dX6_has_11 ?_
  refine j_iald F rfl dX6_has_12 hm (fun hm => ?_)
  refine j_iload_n F 2 dX6_has_13 rfl ?_
  refine j_ishr F dX6_has_14 ?_
  refine j_iconst F (v := 1) dX6_has_15 (by decide) ?_
  refine j_iand F dX6_has_16 ?_
  refine j_iconst F (v := 1) dX6_has_17 (by decide) ?_
  refine j_icmp_ne F (tgt := 25) dX6_has_18 (by decide) hm (fun _ hm => ?_) (fun _ hm => ?_)
  · refine j_iconst F (v := 0) dX6_has_25 (by decide) ?_
    refine j_sub [] rfl ?_
    exact hj26 0 S  hm
  · refine j_iconst F (v := 1) dX6_has_21 (by decide) ?_
    refine j_goto F (tgt := 26) dX6_has_22 (by decide) ?_
    refine j_sub [] rfl ?_
    exact hj26 1 S  hm
def m_X6_awakeSet_J34 (v2 : Int32) (w0 : Int32) (w1 : Int32) (S : Hs) : Option ((Int32 × Int32) ⊕ Int32) := bnd (w1 ||| w0) fun v1_35 => (some (.inl ((v1_35, v2 + 1))))
def m_X6_awakeSet_L4 (S : Hs) (v1 : Int32) (v2 : Int32) : Option ((Int32 × Int32) ⊕ Int32) := gd (inb 0 57) (if (gA S 14 (0 : Int32).toNatClampNeg) ≤ v2 then (some (.inr v1)) else (gd (inb (1 + v2) 57) (if (gA S 14 (1 + v2).toNatClampNeg) = 1 then (m_X6_awakeSet_J34 v2 (1 <<< (v2 &&& 31)) v1 S) else (m_X6_awakeSet_J34 v2 0 v1 S))))
noncomputable def m_X6_awakeSet (S : Hs) : Option (Int32) := (loopO (fun x => m_X6_awakeSet_L4 S x.1 x.2) ((0, 0))).bind fun y4 => some y4
set_option maxRecDepth 100000 in
set_option maxHeartbeats 4000000 in
theorem c_X6_awakeSet (l : Launch) (g : GG) (hg : Inj g)   (S : Hs) (r : Int32) (hm : m_X6_awakeSet S = some r) : CM l yX6_awakeSet [.code yX6_awakeSet cX6_awakeSet 3 (some .int)] rmX6_awakeSet [.ref (g.2.1 13)] g S (some (.int r)) S := by
  unfold m_X6_awakeSet at hm
  refine CM.of (cc := cX6_awakeSet) (nL := 3) (ret := (some .int)) (lv := [(0, .ref (g.2.1 13))]) (by decide +kernel) hg (Nat.le_of_ble_eq_true rfl) rfl (fun p e s m args below meth c A F => ?_)
  replace F : Fx p s m meth c cX6_awakeSet RX6 3 (some .int) g A := F
  show J p l e rmX6_awakeSet s m args below meth c g A 3 (MQ below (QC g A (some (.int r)) S) args s 0 0 A) 0 0 0 [(0, .ref (g.2.1 13))] [] S
  refine j_iconst F (v := 0) dX6_awakeSet_0 (by decide) ?_
  refine j_istore_n F (lv' := [(1, .int 0), (0, .ref (g.2.1 13))]) dX6_awakeSet_1 (by decide) rfl ?_
  refine j_iconst F (v := 0) dX6_awakeSet_2 (by decide) ?_
  refine j_istore_n F (lv' := [(2, .int 0), (1, .int 0), (0, .ref (g.2.1 13))]) dX6_awakeSet_3 (by decide) rfl ?_
  refine j_sub [2, 1, 0] rfl ?_
  obtain ⟨y4, hlp4, hm⟩ := Option.bind_eq_some_iff.mp hm
  refine loopO_walk (fun x => m_X6_awakeSet_L4 S x.1 x.2) (fun x => J p l e rmX6_awakeSet s m args below meth c g A 3 (MQ below (QC g A (some (.int r)) S) args s 0 0 A) 0 0 4 [(0, .ref (g.2.1 13)), (1, .int x.1), (2, .int x.2)] [] S) (fun x => J p l e rmX6_awakeSet s m args below meth c g A 3 (MQ below (QC g A (some (.int r)) S) args s 0 0 A) 0 0 42 [(1, .int x)] [] S) (fun x o1 hm hk1 => ?_) hlp4 ?_
  · obtain ⟨v1, v2⟩ := x
    replace hm : m_X6_awakeSet_L4 S v1 v2 = some o1 := hm
    show J p l e rmX6_awakeSet s m args below meth c g A 3 (MQ below (QC g A (some (.int r)) S) args s 0 0 A) 0 0 4 [(0, .ref (g.2.1 13)), (1, .int v1), (2, .int v2)] [] S
    unfold m_X6_awakeSet_L4 at hm
    have hj34 : ∀ (v2 : Int32) (w0 : Int32) (w1 : Int32), m_X6_awakeSet_J34 v2 w0 w1 S = some o1 → J p l e rmX6_awakeSet s m args below meth c g A 3 (MQ below (QC g A (some (.int r)) S) args s 0 0 A) 0 0 34 [(0, .ref (g.2.1 13)), (2, .int v2)] [.int w0, .int w1] S := by
      intro v2 w0 w1 hm
      unfold m_X6_awakeSet_J34 at hm
      refine j_ior F dX6_awakeSet_34 ?_
      refine j_bnd hm (fun v1_35 hm => ?_)
      refine j_istore_n F (lv' := [(1, .int v1_35), (0, .ref (g.2.1 13)), (2, .int v2)]) dX6_awakeSet_35 (by decide) rfl ?_
      refine j_iinc F (v := v2 + 1) (lv' := [(2, .int (v2 + 1)), (1, .int v1_35), (0, .ref (g.2.1 13))]) 2 dX6_awakeSet_36 rfl rfl (by decide) rfl ?_
      refine j_goto F (tgt := 4) dX6_awakeSet_39 (by decide) ?_
      cases hm
      refine j_sub [2, 1, 0] rfl ?_
      exact hk1
    refine j_iload_n F 2 dX6_awakeSet_4 rfl ?_
    refine j_aload_n F 0 dX6_awakeSet_5 rfl ?_
    refine j_getR F (k0 := 1) (C := RX6) (T := TX6) (N := 20) rfl rfl rfl inF6 (by decide) tw520 dX6_awakeSet_6 ?_
    refine j_iconst F (v := 0) dX6_awakeSet_9 (by decide) ?_
    refine j_iald F rfl dX6_awakeSet_10 hm (fun hm => ?_)
    refine j_icmp_ge F (tgt := 42) dX6_awakeSet_11 (by decide) hm (fun _ hm => ?_) (fun _ hm => ?_)
    · cases hm
      refine j_sub [1] rfl ?_
      exact hk1
    · refine j_iload_n F 1 dX6_awakeSet_14 rfl ?_
      refine j_aload_n F 0 dX6_awakeSet_15 rfl ?_
      refine j_getR F (k0 := 1) (C := RX6) (T := TX6) (N := 20) rfl rfl rfl inF6 (by decide) tw520 dX6_awakeSet_16 ?_
      refine j_iconst F (v := 1) dX6_awakeSet_19 (by decide) ?_
      refine j_iload_n F 2 dX6_awakeSet_20 rfl ?_
      refine j_iadd F dX6_awakeSet_21 ?_
      refine j_iald F rfl dX6_awakeSet_22 hm (fun hm => ?_)
      refine j_iconst F (v := 1) dX6_awakeSet_23 (by decide) ?_
      refine j_icmp_ne F (tgt := 33) dX6_awakeSet_24 (by decide) hm (fun _ hm => ?_) (fun _ hm => ?_)
      · refine j_iconst F (v := 0) dX6_awakeSet_33 (by decide) ?_
        refine j_sub [0, 2] rfl ?_
        exact hj34 v2 0 v1  hm
      · refine j_iconst F (v := 1) dX6_awakeSet_27 (by decide) ?_
        refine j_iload_n F 2 dX6_awakeSet_28 rfl ?_
        refine j_ishl F dX6_awakeSet_29 ?_
        refine j_goto F (tgt := 34) dX6_awakeSet_30 (by decide) ?_
        refine j_sub [0, 2] rfl ?_
        exact hj34 v2 (1 <<< (v2 &&& 31)) v1  hm
  · show J p l e rmX6_awakeSet s m args below meth c g A 3 (MQ below (QC g A (some (.int r)) S) args s 0 0 A) 0 0 42 [(1, .int y4)] [] S
    refine j_iload_n F 0 dX6_awakeSet_42 rfl ?_
    exact j_iret_p F rfl dX6_awakeSet_43 hm
def m_X6_ends_J23 (w0 : Int32) (S : Hs) : Option (Int32) := gd (decide (w0 = 0 ∨ w0 = 1)) (some w0)
def m_X6_ends (v1 : Int32) (v2 : Int32) (v3 : Int32) (S : Hs) : Option (Int32) := (m_X6_at v1 v3).bind fun r6 => (gd (inb r6 49) (if (((gA S 20 r6.toNatClampNeg) >>> (v2 &&& 31)) &&& 1) = 1 then (m_X6_ends_J23 1 S) else (m_X6_ends_J23 0 S)))
set_option maxRecDepth 100000 in
set_option maxHeartbeats 4000000 in
theorem c_X6_ends (l : Launch) (g : GG) (hg : Inj g) (v1 : Int32) (v2 : Int32) (v3 : Int32)  (S : Hs) (r : Int32) (hm : m_X6_ends v1 v2 v3 S = some r) : CM l yX6_ends [.code yX6_ends cX6_ends 4 (some .boolean)] rmX6_ends [.ref (g.2.1 13), .int v1, .int v2, .int v3] g S (some (.int r)) S := by
  unfold m_X6_ends at hm
  refine CM.of (cc := cX6_ends) (nL := 4) (ret := (some .boolean)) (lv := [(0, .ref (g.2.1 13)), (1, .int v1), (2, .int v2), (3, .int v3)]) (by decide +kernel) hg (Nat.le_of_ble_eq_true rfl) rfl (fun p e s m args below meth c A F => ?_)
  replace F : Fx p s m meth c cX6_ends RX6 4 (some .boolean) g A := F
  show J p l e rmX6_ends s m args below meth c g A 4 (MQ below (QC g A (some (.int r)) S) args s 0 0 A) 0 0 0 [(0, .ref (g.2.1 13)), (1, .int v1), (2, .int v2), (3, .int v3)] [] S
  have hj23 : ∀ (w0 : Int32) (S : Hs), m_X6_ends_J23 w0 S = some r → J p l e rmX6_ends s m args below meth c g A 4 (MQ below (QC g A (some (.int r)) S) args s 0 0 A) 0 0 23 [] [.int w0] S := by
    intro w0 S hm
    unfold m_X6_ends_J23 at hm
    obtain ⟨hb, hm⟩ := gd_ok hm
    exact j_zret_p F rfl (z_nar hb) dX6_ends_23 hm
  refine j_aload_n F 0 dX6_ends_0 rfl ?_
  refine j_getR F (k0 := 9) (C := RX6) (T := TX6) (N := 20) rfl rfl rfl inF6 (by decide) tw526 dX6_ends_1 ?_
  refine j_iload_n F 1 dX6_ends_4 rfl ?_
  refine j_iload_n F 3 dX6_ends_5 rfl ?_
  obtain ⟨r6, hc6, hm⟩ := Option.bind_eq_some_iff.mp hm
  refine j_callS F (n := 2) (As := [.int v1, .int v3]) (rest := [.ref (g.2.1 20)]) (c_X6_at l g hg v1 v3 S r6 hc6) gw_X6_68 (by decide +kernel) ⟨Nat.le_of_ble_eq_true rfl, Nat.le_of_ble_eq_true rfl⟩ ⟨Nat.le_of_ble_eq_true rfl, Nat.le_of_ble_eq_true rfl⟩ rfl rfl (Nat.le_of_ble_eq_true rfl) dX6_ends_6 ?_
  show J p l e rmX6_ends s m args below meth c g A 4 (MQ below (QC g A (some (.int r)) S) args s 0 0 A) 0 0 9 [(0, .ref (g.2.1 13)), (1, .int v1), (2, .int v2), (3, .int v3)] [.int r6, .ref (g.2.1 20)] S
  refine j_iald F rfl dX6_ends_9 hm (fun hm => ?_)
  refine j_iload_n F 2 dX6_ends_10 rfl ?_
  refine j_ishr F dX6_ends_11 ?_
  refine j_iconst F (v := 1) dX6_ends_12 (by decide) ?_
  refine j_iand F dX6_ends_13 ?_
  refine j_iconst F (v := 1) dX6_ends_14 (by decide) ?_
  refine j_icmp_ne F (tgt := 22) dX6_ends_15 (by decide) hm (fun _ hm => ?_) (fun _ hm => ?_)
  · refine j_iconst F (v := 0) dX6_ends_22 (by decide) ?_
    refine j_sub [] rfl ?_
    exact hj23 0 S  hm
  · refine j_iconst F (v := 1) dX6_ends_18 (by decide) ?_
    refine j_goto F (tgt := 23) dX6_ends_19 (by decide) ?_
    refine j_sub [] rfl ?_
    exact hj23 1 S  hm
def m_X6_isIn_J14 (w0 : Int32) : Option (Int32) := gd (decide (w0 = 0 ∨ w0 = 1)) (some w0)
def m_X6_isIn (v0 : Int32) (v1 : Int32) : Option (Int32) := if ((v0 >>> (v1 &&& 31)) &&& 1) = 1 then (m_X6_isIn_J14 1) else (m_X6_isIn_J14 0)
set_option maxRecDepth 100000 in
set_option maxHeartbeats 4000000 in
theorem c_X6_isIn (l : Launch) (g : GG) (hg : Inj g) (v0 : Int32) (v1 : Int32)  (S : Hs) (r : Int32) (hm : m_X6_isIn v0 v1 = some r) : CM l yX6_isIn [.code yX6_isIn cX6_isIn 2 (some .boolean)] rmX6_isIn [.int v0, .int v1] g S (some (.int r)) S := by
  unfold m_X6_isIn at hm
  refine CM.of (cc := cX6_isIn) (nL := 2) (ret := (some .boolean)) (lv := [(0, .int v0), (1, .int v1)]) (by decide +kernel) hg (Nat.le_of_ble_eq_true rfl) rfl (fun p e s m args below meth c A F => ?_)
  replace F : Fx p s m meth c cX6_isIn RX6 2 (some .boolean) g A := F
  show J p l e rmX6_isIn s m args below meth c g A 2 (MQ below (QC g A (some (.int r)) S) args s 0 0 A) 0 0 0 [(0, .int v0), (1, .int v1)] [] S
  have hj14 : ∀ (w0 : Int32), m_X6_isIn_J14 w0 = some r → J p l e rmX6_isIn s m args below meth c g A 2 (MQ below (QC g A (some (.int r)) S) args s 0 0 A) 0 0 14 [] [.int w0] S := by
    intro w0 hm
    unfold m_X6_isIn_J14 at hm
    obtain ⟨hb, hm⟩ := gd_ok hm
    exact j_zret_p F rfl (z_nar hb) dX6_isIn_14 hm
  refine j_iload_n F 0 dX6_isIn_0 rfl ?_
  refine j_iload_n F 1 dX6_isIn_1 rfl ?_
  refine j_ishr F dX6_isIn_2 ?_
  refine j_iconst F (v := 1) dX6_isIn_3 (by decide) ?_
  refine j_iand F dX6_isIn_4 ?_
  refine j_iconst F (v := 1) dX6_isIn_5 (by decide) ?_
  refine j_icmp_ne F (tgt := 13) dX6_isIn_6 (by decide) hm (fun _ hm => ?_) (fun _ hm => ?_)
  · refine j_iconst F (v := 0) dX6_isIn_13 (by decide) ?_
    refine j_sub [] rfl ?_
    exact hj14 0  hm
  · refine j_iconst F (v := 1) dX6_isIn_9 (by decide) ?_
    refine j_goto F (tgt := 14) dX6_isIn_10 (by decide) ?_
    refine j_sub [] rfl ?_
    exact hj14 1  hm
def m_X6_firstWay_J65 (v1 : Int32) (v2 : Int32) (v3 : Int32) (v4 : Int32) (v5 : Int32) (S : Hs) : Option (Int32 ⊕ (Unit ⊕ Int32)) := some (.inl (v5 + 1))
def m_X6_firstWay_L3 (v1 : Int32) (v2 : Int32) (v3 : Int32) (v4 : Int32) (S : Hs) (v5 : Int32) : Option (Int32 ⊕ (Unit ⊕ Int32)) := gd (inb 0 57) (if (gA S 14 (0 : Int32).toNatClampNeg) ≤ v5 then (some (.inr (.inl (())))) else ((m_X6_isIn v4 v1).bind fun r17 => (if r17 = 0 then (m_X6_firstWay_J65 v1 v2 v3 v4 v5 S) else (if v5 = v1 then (m_X6_firstWay_J65 v1 v2 v3 v4 v5 S) else (if v5 = v3 then (m_X6_firstWay_J65 v1 v2 v3 v4 v5 S) else ((m_X6_ends v1 0 v5 S).bind fun r40 => (if r40 = 0 then (m_X6_firstWay_J65 v1 v2 v3 v4 v5 S) else ((m_X6_ends v5 v2 v3 S).bind fun r51 => (if r51 = 0 then (m_X6_firstWay_J65 v1 v2 v3 v4 v5 S) else (some (.inr (.inr ((10 * v1) + v5)))))))))))))
def m_X6_firstWay_J140 (v1 : Int32) (v2 : Int32) (v3 : Int32) (v4 : Int32) (v5 : Int32) (S : Hs) : Option (Int32 ⊕ (Unit ⊕ Int32)) := some (.inl (v5 + 1))
def m_X6_firstWay_L74 (v1 : Int32) (v2 : Int32) (v3 : Int32) (v4 : Int32) (S : Hs) (v5 : Int32) : Option (Int32 ⊕ (Unit ⊕ Int32)) := gd (inb 0 57) (if (gA S 14 (0 : Int32).toNatClampNeg) ≤ v5 then (some (.inr (.inl (())))) else ((m_X6_isIn v4 v5).bind fun r89 => (if r89 = 0 then (m_X6_firstWay_J140 v1 v2 v3 v4 v5 S) else (if v5 = v1 then (m_X6_firstWay_J140 v1 v2 v3 v4 v5 S) else (if v5 = v3 then (m_X6_firstWay_J140 v1 v2 v3 v4 v5 S) else ((m_X6_ends v5 1 v1 S).bind fun r112 => (if r112 = 0 then (m_X6_firstWay_J140 v1 v2 v3 v4 v5 S) else ((m_X6_ends v5 v2 v3 S).bind fun r123 => (if r123 = 0 then (m_X6_firstWay_J140 v1 v2 v3 v4 v5 S) else (some (.inr (.inr ((100 + (10 * v5)) + v1)))))))))))))
noncomputable def m_X6_firstWay (v1 : Int32) (v2 : Int32) (v3 : Int32) (v4 : Int32) (S : Hs) : Option (Int32) := (loopO (fun x => m_X6_firstWay_L3 v1 v2 v3 v4 S x) 0).bind fun e3 => Sum.elim (fun y3 => (loopO (fun x => m_X6_firstWay_L74 v1 v2 v3 v4 S x) 0).bind fun e74 => Sum.elim (fun y74 => some ((-9))) (fun q => some q) e74) (fun q => some q) e3
set_option maxRecDepth 100000 in
set_option maxHeartbeats 4000000 in
theorem c_X6_firstWay (l : Launch) (g : GG) (hg : Inj g) (v1 : Int32) (v2 : Int32) (v3 : Int32) (v4 : Int32)  (S : Hs) (r : Int32) (hm : m_X6_firstWay v1 v2 v3 v4 S = some r) : CM l yX6_firstWay [.code yX6_firstWay cX6_firstWay 6 (some .int)] rmX6_firstWay [.ref (g.2.1 13), .int v1, .int v2, .int v3, .int v4] g S (some (.int r)) S := by
  unfold m_X6_firstWay at hm
  refine CM.of (cc := cX6_firstWay) (nL := 6) (ret := (some .int)) (lv := [(0, .ref (g.2.1 13)), (1, .int v1), (2, .int v2), (3, .int v3), (4, .int v4)]) (by decide +kernel) hg (Nat.le_of_ble_eq_true rfl) rfl (fun p e s m args below meth c A F => ?_)
  replace F : Fx p s m meth c cX6_firstWay RX6 6 (some .int) g A := F
  show J p l e rmX6_firstWay s m args below meth c g A 6 (MQ below (QC g A (some (.int r)) S) args s 0 0 A) 0 0 0 [(0, .ref (g.2.1 13)), (1, .int v1), (2, .int v2), (3, .int v3), (4, .int v4)] [] S
  refine j_iconst F (v := 0) dX6_firstWay_0 (by decide) ?_
  refine j_istore F (lv' := [(5, .int 0), (0, .ref (g.2.1 13)), (1, .int v1), (2, .int v2), (3, .int v3), (4, .int v4)]) dX6_firstWay_1 (by decide) rfl ?_
  refine j_sub [1, 2, 3, 4, 5, 0] rfl ?_
  obtain ⟨e3, hlp3, hm⟩ := Option.bind_eq_some_iff.mp hm
  refine loopO_walk (fun x => m_X6_firstWay_L3 v1 v2 v3 v4 S x) (fun x => J p l e rmX6_firstWay s m args below meth c g A 6 (MQ below (QC g A (some (.int r)) S) args s 0 0 A) 0 0 3 [(0, .ref (g.2.1 13)), (1, .int v1), (2, .int v2), (3, .int v3), (4, .int v4), (5, .int x)] [] S) (fun z => match z with | .inl x => J p l e rmX6_firstWay s m args below meth c g A 6 (MQ below (QC g A (some (.int r)) S) args s 0 0 A) 0 0 71 [(0, .ref (g.2.1 13)), (1, .int v1), (2, .int v2), (3, .int v3), (4, .int v4)] [] S | .inr x => some x = some r) (fun x o1 hm hk1 => ?_) hlp3 ?_
  · obtain ⟨v5, rfl⟩ : ∃ z, z = x := ⟨_, rfl⟩
    replace hm : m_X6_firstWay_L3 v1 v2 v3 v4 S v5 = some o1 := hm
    show J p l e rmX6_firstWay s m args below meth c g A 6 (MQ below (QC g A (some (.int r)) S) args s 0 0 A) 0 0 3 [(0, .ref (g.2.1 13)), (1, .int v1), (2, .int v2), (3, .int v3), (4, .int v4), (5, .int v5)] [] S
    unfold m_X6_firstWay_L3 at hm
    have hj65 : ∀ (v5 : Int32), m_X6_firstWay_J65 v1 v2 v3 v4 v5 S = some o1 → J p l e rmX6_firstWay s m args below meth c g A 6 (MQ below (QC g A (some (.int r)) S) args s 0 0 A) 0 0 65 [(0, .ref (g.2.1 13)), (1, .int v1), (2, .int v2), (3, .int v3), (4, .int v4), (5, .int v5)] [] S := by
      intro v5 hm
      unfold m_X6_firstWay_J65 at hm
      refine j_iinc F (v := v5 + 1) (lv' := [(5, .int (v5 + 1)), (0, .ref (g.2.1 13)), (1, .int v1), (2, .int v2), (3, .int v3), (4, .int v4)]) 5 dX6_firstWay_65 rfl rfl (by decide) rfl ?_
      refine j_goto F (tgt := 3) dX6_firstWay_68 (by decide) ?_
      cases hm
      refine j_sub [1, 2, 3, 4, 5, 0] rfl ?_
      exact hk1
    refine j_iload F 5 dX6_firstWay_3 rfl ?_
    refine j_aload_n F 0 dX6_firstWay_5 rfl ?_
    refine j_getR F (k0 := 1) (C := RX6) (T := TX6) (N := 20) rfl rfl rfl inF6 (by decide) tw520 dX6_firstWay_6 ?_
    refine j_iconst F (v := 0) dX6_firstWay_9 (by decide) ?_
    refine j_iald F rfl dX6_firstWay_10 hm (fun hm => ?_)
    refine j_icmp_ge F (tgt := 71) dX6_firstWay_11 (by decide) hm (fun _ hm => ?_) (fun _ hm => ?_)
    · cases hm
      refine j_sub [0, 1, 2, 3, 4] rfl ?_
      exact hk1
    · refine j_iload F 4 dX6_firstWay_14 rfl ?_
      refine j_iload_n F 1 dX6_firstWay_16 rfl ?_
      obtain ⟨r17, hc17, hm⟩ := Option.bind_eq_some_iff.mp hm
      refine j_callS F (n := 2) (As := [.int v4, .int v1]) (rest := []) (c_X6_isIn l g hg v4 v1 S r17 hc17) gw_X6_76 (by decide +kernel) ⟨Nat.le_of_ble_eq_true rfl, Nat.le_of_ble_eq_true rfl⟩ ⟨Nat.le_of_ble_eq_true rfl, Nat.le_of_ble_eq_true rfl⟩ rfl rfl (Nat.le_of_ble_eq_true rfl) dX6_firstWay_17 ?_
      show J p l e rmX6_firstWay s m args below meth c g A 6 (MQ below (QC g A (some (.int r)) S) args s 0 0 A) 0 0 20 [(0, .ref (g.2.1 13)), (1, .int v1), (2, .int v2), (3, .int v3), (4, .int v4), (5, .int v5)] [.int r17] S
      refine j_if_eq F (tgt := 65) dX6_firstWay_20 (by decide) hm (fun _ hm => ?_) (fun _ hm => ?_)
      · refine j_sub [0, 1, 2, 3, 4, 5] rfl ?_
        exact hj65 v5  hm
      · refine j_iload F 5 dX6_firstWay_23 rfl ?_
        refine j_iload_n F 1 dX6_firstWay_25 rfl ?_
        refine j_icmp_eq F (tgt := 65) dX6_firstWay_26 (by decide) hm (fun _ hm => ?_) (fun _ hm => ?_)
        · refine j_sub [0, 1, 2, 3, 4, 5] rfl ?_
          exact hj65 v5  hm
        · refine j_iload F 5 dX6_firstWay_29 rfl ?_
          refine j_iload_n F 3 dX6_firstWay_31 rfl ?_
          refine j_icmp_eq F (tgt := 65) dX6_firstWay_32 (by decide) hm (fun _ hm => ?_) (fun _ hm => ?_)
          · refine j_sub [0, 1, 2, 3, 4, 5] rfl ?_
            exact hj65 v5  hm
          · refine j_aload_n F 0 dX6_firstWay_35 rfl ?_
            refine j_iload_n F 1 dX6_firstWay_36 rfl ?_
            refine j_iconst F (v := 0) dX6_firstWay_37 (by decide) ?_
            refine j_iload F 5 dX6_firstWay_38 rfl ?_
            obtain ⟨r40, hc40, hm⟩ := Option.bind_eq_some_iff.mp hm
            refine j_callV F (n := 3) (As := [.int v1, .int 0, .int v5]) (rest := []) (c_X6_ends l g hg v1 0 v5 S r40 hc40) gw_X6_80 (by decide +kernel) ⟨Nat.le_of_ble_eq_true rfl, Nat.le_of_ble_eq_true rfl⟩ ⟨Nat.le_of_ble_eq_true rfl, Nat.le_of_ble_eq_true rfl⟩ rfl rfl rfl rfl (Nat.le_of_ble_eq_true rfl) dX6_firstWay_40 ?_
            show J p l e rmX6_firstWay s m args below meth c g A 6 (MQ below (QC g A (some (.int r)) S) args s 0 0 A) 0 0 43 [(0, .ref (g.2.1 13)), (1, .int v1), (2, .int v2), (3, .int v3), (4, .int v4), (5, .int v5)] [.int r40] S
            refine j_if_eq F (tgt := 65) dX6_firstWay_43 (by decide) hm (fun _ hm => ?_) (fun _ hm => ?_)
            · refine j_sub [0, 1, 2, 3, 4, 5] rfl ?_
              exact hj65 v5  hm
            · refine j_aload_n F 0 dX6_firstWay_46 rfl ?_
              refine j_iload F 5 dX6_firstWay_47 rfl ?_
              refine j_iload_n F 2 dX6_firstWay_49 rfl ?_
              refine j_iload_n F 3 dX6_firstWay_50 rfl ?_
              obtain ⟨r51, hc51, hm⟩ := Option.bind_eq_some_iff.mp hm
              refine j_callV F (n := 3) (As := [.int v5, .int v2, .int v3]) (rest := []) (c_X6_ends l g hg v5 v2 v3 S r51 hc51) gw_X6_80 (by decide +kernel) ⟨Nat.le_of_ble_eq_true rfl, Nat.le_of_ble_eq_true rfl⟩ ⟨Nat.le_of_ble_eq_true rfl, Nat.le_of_ble_eq_true rfl⟩ rfl rfl rfl rfl (Nat.le_of_ble_eq_true rfl) dX6_firstWay_51 ?_
              show J p l e rmX6_firstWay s m args below meth c g A 6 (MQ below (QC g A (some (.int r)) S) args s 0 0 A) 0 0 54 [(0, .ref (g.2.1 13)), (1, .int v1), (2, .int v2), (3, .int v3), (4, .int v4), (5, .int v5)] [.int r51] S
              refine j_if_eq F (tgt := 65) dX6_firstWay_54 (by decide) hm (fun _ hm => ?_) (fun _ hm => ?_)
              · refine j_sub [0, 1, 2, 3, 4, 5] rfl ?_
                exact hj65 v5  hm
              · refine j_bipush F (v := 10) dX6_firstWay_57 (by decide) ?_
                refine j_iload_n F 1 dX6_firstWay_59 rfl ?_
                refine j_imul F dX6_firstWay_60 ?_
                refine j_iload F 5 dX6_firstWay_61 rfl ?_
                refine j_iadd F dX6_firstWay_63 ?_
                cases hm
                have hr1 : some _ = some (r : Int32) := hk1
                exact j_iret_p F rfl dX6_firstWay_64 hr1
  · cases e3 with
    | inl y3 =>
      dsimp only [Sum.elim_inl] at hm
      show J p l e rmX6_firstWay s m args below meth c g A 6 (MQ below (QC g A (some (.int r)) S) args s 0 0 A) 0 0 71 [(0, .ref (g.2.1 13)), (1, .int v1), (2, .int v2), (3, .int v3), (4, .int v4)] [] S
      refine j_iconst F (v := 0) dX6_firstWay_71 (by decide) ?_
      refine j_istore F (lv' := [(5, .int 0), (0, .ref (g.2.1 13)), (1, .int v1), (2, .int v2), (3, .int v3), (4, .int v4)]) dX6_firstWay_72 (by decide) rfl ?_
      refine j_sub [1, 2, 3, 4, 5, 0] rfl ?_
      obtain ⟨e74, hlp74, hm⟩ := Option.bind_eq_some_iff.mp hm
      refine loopO_walk (fun x => m_X6_firstWay_L74 v1 v2 v3 v4 S x) (fun x => J p l e rmX6_firstWay s m args below meth c g A 6 (MQ below (QC g A (some (.int r)) S) args s 0 0 A) 0 0 74 [(0, .ref (g.2.1 13)), (1, .int v1), (2, .int v2), (3, .int v3), (4, .int v4), (5, .int x)] [] S) (fun z => match z with | .inl x => J p l e rmX6_firstWay s m args below meth c g A 6 (MQ below (QC g A (some (.int r)) S) args s 0 0 A) 0 0 146 [] [] S | .inr x => some x = some r) (fun x o1 hm hk1 => ?_) hlp74 ?_
      · obtain ⟨v5, rfl⟩ : ∃ z, z = x := ⟨_, rfl⟩
        replace hm : m_X6_firstWay_L74 v1 v2 v3 v4 S v5 = some o1 := hm
        show J p l e rmX6_firstWay s m args below meth c g A 6 (MQ below (QC g A (some (.int r)) S) args s 0 0 A) 0 0 74 [(0, .ref (g.2.1 13)), (1, .int v1), (2, .int v2), (3, .int v3), (4, .int v4), (5, .int v5)] [] S
        unfold m_X6_firstWay_L74 at hm
        have hj140 : ∀ (v5 : Int32), m_X6_firstWay_J140 v1 v2 v3 v4 v5 S = some o1 → J p l e rmX6_firstWay s m args below meth c g A 6 (MQ below (QC g A (some (.int r)) S) args s 0 0 A) 0 0 140 [(0, .ref (g.2.1 13)), (1, .int v1), (2, .int v2), (3, .int v3), (4, .int v4), (5, .int v5)] [] S := by
          intro v5 hm
          unfold m_X6_firstWay_J140 at hm
          refine j_iinc F (v := v5 + 1) (lv' := [(5, .int (v5 + 1)), (0, .ref (g.2.1 13)), (1, .int v1), (2, .int v2), (3, .int v3), (4, .int v4)]) 5 dX6_firstWay_140 rfl rfl (by decide) rfl ?_
          refine j_goto F (tgt := 74) dX6_firstWay_143 (by decide) ?_
          cases hm
          refine j_sub [1, 2, 3, 4, 5, 0] rfl ?_
          exact hk1
        refine j_iload F 5 dX6_firstWay_74 rfl ?_
        refine j_aload_n F 0 dX6_firstWay_76 rfl ?_
        refine j_getR F (k0 := 1) (C := RX6) (T := TX6) (N := 20) rfl rfl rfl inF6 (by decide) tw520 dX6_firstWay_77 ?_
        refine j_iconst F (v := 0) dX6_firstWay_80 (by decide) ?_
        refine j_iald F rfl dX6_firstWay_81 hm (fun hm => ?_)
        refine j_icmp_ge F (tgt := 146) dX6_firstWay_82 (by decide) hm (fun _ hm => ?_) (fun _ hm => ?_)
        · cases hm
          refine j_sub [] rfl ?_
          exact hk1
        · refine j_iload F 4 dX6_firstWay_85 rfl ?_
          refine j_iload F 5 dX6_firstWay_87 rfl ?_
          obtain ⟨r89, hc89, hm⟩ := Option.bind_eq_some_iff.mp hm
          refine j_callS F (n := 2) (As := [.int v4, .int v5]) (rest := []) (c_X6_isIn l g hg v4 v5 S r89 hc89) gw_X6_76 (by decide +kernel) ⟨Nat.le_of_ble_eq_true rfl, Nat.le_of_ble_eq_true rfl⟩ ⟨Nat.le_of_ble_eq_true rfl, Nat.le_of_ble_eq_true rfl⟩ rfl rfl (Nat.le_of_ble_eq_true rfl) dX6_firstWay_89 ?_
          show J p l e rmX6_firstWay s m args below meth c g A 6 (MQ below (QC g A (some (.int r)) S) args s 0 0 A) 0 0 92 [(0, .ref (g.2.1 13)), (1, .int v1), (2, .int v2), (3, .int v3), (4, .int v4), (5, .int v5)] [.int r89] S
          refine j_if_eq F (tgt := 140) dX6_firstWay_92 (by decide) hm (fun _ hm => ?_) (fun _ hm => ?_)
          · refine j_sub [0, 1, 2, 3, 4, 5] rfl ?_
            exact hj140 v5  hm
          · refine j_iload F 5 dX6_firstWay_95 rfl ?_
            refine j_iload_n F 1 dX6_firstWay_97 rfl ?_
            refine j_icmp_eq F (tgt := 140) dX6_firstWay_98 (by decide) hm (fun _ hm => ?_) (fun _ hm => ?_)
            · refine j_sub [0, 1, 2, 3, 4, 5] rfl ?_
              exact hj140 v5  hm
            · refine j_iload F 5 dX6_firstWay_101 rfl ?_
              refine j_iload_n F 3 dX6_firstWay_103 rfl ?_
              refine j_icmp_eq F (tgt := 140) dX6_firstWay_104 (by decide) hm (fun _ hm => ?_) (fun _ hm => ?_)
              · refine j_sub [0, 1, 2, 3, 4, 5] rfl ?_
                exact hj140 v5  hm
              · refine j_aload_n F 0 dX6_firstWay_107 rfl ?_
                refine j_iload F 5 dX6_firstWay_108 rfl ?_
                refine j_iconst F (v := 1) dX6_firstWay_110 (by decide) ?_
                refine j_iload_n F 1 dX6_firstWay_111 rfl ?_
                obtain ⟨r112, hc112, hm⟩ := Option.bind_eq_some_iff.mp hm
                refine j_callV F (n := 3) (As := [.int v5, .int 1, .int v1]) (rest := []) (c_X6_ends l g hg v5 1 v1 S r112 hc112) gw_X6_80 (by decide +kernel) ⟨Nat.le_of_ble_eq_true rfl, Nat.le_of_ble_eq_true rfl⟩ ⟨Nat.le_of_ble_eq_true rfl, Nat.le_of_ble_eq_true rfl⟩ rfl rfl rfl rfl (Nat.le_of_ble_eq_true rfl) dX6_firstWay_112 ?_
                show J p l e rmX6_firstWay s m args below meth c g A 6 (MQ below (QC g A (some (.int r)) S) args s 0 0 A) 0 0 115 [(0, .ref (g.2.1 13)), (1, .int v1), (2, .int v2), (3, .int v3), (4, .int v4), (5, .int v5)] [.int r112] S
                refine j_if_eq F (tgt := 140) dX6_firstWay_115 (by decide) hm (fun _ hm => ?_) (fun _ hm => ?_)
                · refine j_sub [0, 1, 2, 3, 4, 5] rfl ?_
                  exact hj140 v5  hm
                · refine j_aload_n F 0 dX6_firstWay_118 rfl ?_
                  refine j_iload F 5 dX6_firstWay_119 rfl ?_
                  refine j_iload_n F 2 dX6_firstWay_121 rfl ?_
                  refine j_iload_n F 3 dX6_firstWay_122 rfl ?_
                  obtain ⟨r123, hc123, hm⟩ := Option.bind_eq_some_iff.mp hm
                  refine j_callV F (n := 3) (As := [.int v5, .int v2, .int v3]) (rest := []) (c_X6_ends l g hg v5 v2 v3 S r123 hc123) gw_X6_80 (by decide +kernel) ⟨Nat.le_of_ble_eq_true rfl, Nat.le_of_ble_eq_true rfl⟩ ⟨Nat.le_of_ble_eq_true rfl, Nat.le_of_ble_eq_true rfl⟩ rfl rfl rfl rfl (Nat.le_of_ble_eq_true rfl) dX6_firstWay_123 ?_
                  show J p l e rmX6_firstWay s m args below meth c g A 6 (MQ below (QC g A (some (.int r)) S) args s 0 0 A) 0 0 126 [(0, .ref (g.2.1 13)), (1, .int v1), (2, .int v2), (3, .int v3), (4, .int v4), (5, .int v5)] [.int r123] S
                  refine j_if_eq F (tgt := 140) dX6_firstWay_126 (by decide) hm (fun _ hm => ?_) (fun _ hm => ?_)
                  · refine j_sub [0, 1, 2, 3, 4, 5] rfl ?_
                    exact hj140 v5  hm
                  · refine j_bipush F (v := 100) dX6_firstWay_129 (by decide) ?_
                    refine j_bipush F (v := 10) dX6_firstWay_131 (by decide) ?_
                    refine j_iload F 5 dX6_firstWay_133 rfl ?_
                    refine j_imul F dX6_firstWay_135 ?_
                    refine j_iadd F dX6_firstWay_136 ?_
                    refine j_iload_n F 1 dX6_firstWay_137 rfl ?_
                    refine j_iadd F dX6_firstWay_138 ?_
                    cases hm
                    have hr1 : some _ = some (r : Int32) := hk1
                    exact j_iret_p F rfl dX6_firstWay_139 hr1
      · cases e74 with
        | inl y74 =>
          dsimp only [Sum.elim_inl] at hm
          show J p l e rmX6_firstWay s m args below meth c g A 6 (MQ below (QC g A (some (.int r)) S) args s 0 0 A) 0 0 146 [] [] S
          refine j_bipush F (v := -9) dX6_firstWay_146 (by decide) ?_
          exact j_iret_p F rfl dX6_firstWay_148 hm
        | inr q =>
          exact hm
    | inr q =>
      exact hm
def m_X6_goRound_J151 (v1 : Int32) (v2 : Int32) (v3 : Int32) (v4 : Int32) (v5 : Int32) (S : Hs) : Option ((Int32 × Int32 × Hs) ⊕ (Int32 × Hs)) := some (.inl ((v2, v5 + 1, S)))
def m_X6_goRound_J82 (v1 : Int32) (v2 : Int32) (v3 : Int32) (v4 : Int32) (v5 : Int32) (w0 : Int32) (S : Hs) : Option ((Int32 × Int32 × Hs) ⊕ (Int32 × Hs)) := if w0 = ((-9)) then (m_X6_goRound_J151 v1 v2 v3 v4 v5 S) else ((m_X6_at v3 v4).bind fun r98 => (gd (inb r98 49) (gd (inb r98 49) (bnd (sA S 21 r98.toNatClampNeg ((gA S 21 r98.toNatClampNeg) ||| (1 <<< (v5 &&& 31)))) fun S108 => ((m_X6_at v3 v4).bind fun r117 => (gd (inb ((4 * r117) + v5) 196) (bnd (sA S108 22 ((4 * r117) + v5).toNatClampNeg ((gI S108 13 13) + 1)) fun S130 => ((m_X6_at v3 v4).bind fun r139 => (gd (inb ((4 * r139) + v5) 196) (bnd (sA S130 23 ((4 * r139) + v5).toNatClampNeg w0) fun S148 => (m_X6_goRound_J151 v1 1 v3 v4 v5 S148)))))))))))
noncomputable def m_X6_goRound_L43 (v1 : Int32) (v3 : Int32) (v4 : Int32) (v2 : Int32) (v5 : Int32) (S : Hs) : Option ((Int32 × Int32 × Hs) ⊕ (Int32 × Hs)) := if 4 ≤ v5 then (some (.inr ((v2, S)))) else (if v3 = v4 then (some (.inr ((v2, S)))) else ((m_X6_ends v3 v5 v4 S).bind fun r61 => (if r61 = 0 then ((m_X6_firstWay v3 v5 v4 v1 S).bind fun r79 => (m_X6_goRound_J82 v1 v2 v3 v4 v5 r79 S)) else (m_X6_goRound_J82 v1 v2 v3 v4 v5 ((-9)) S))))
def m_X6_goRound_J157 (v1 : Int32) (v2 : Int32) (v3 : Int32) (v4 : Int32) (S : Hs) : Option ((Int32 × Int32 × Hs) ⊕ (Int32 × Hs)) := some (.inl ((v2, v4 + 1, S)))
noncomputable def m_X6_goRound_L17 (v1 : Int32) (v3 : Int32) (v2 : Int32) (v4 : Int32) (S : Hs) : Option ((Int32 × Int32 × Hs) ⊕ (Int32 × Hs)) := gd (inb 0 57) (if (gA S 14 (0 : Int32).toNatClampNeg) ≤ v4 then (some (.inr ((v2, S)))) else ((m_X6_at v3 v4).bind fun r35 => (gd (inb r35 49) (bnd (sA S 21 r35.toNatClampNeg 0) fun S39 => ((loopO (fun x => m_X6_goRound_L43 v1 v3 v4 x.1 x.2.1 x.2.2) ((v2, 0, S39))).bind fun y43 => m_X6_goRound_J157 v1 y43.1 v3 v4 y43.2)))))
noncomputable def m_X6_goRound_L4 (v1 : Int32) (v2 : Int32) (v3 : Int32) (S : Hs) : Option ((Int32 × Int32 × Hs) ⊕ (Int32 × Hs)) := gd (inb 0 57) (if (gA S 14 (0 : Int32).toNatClampNeg) ≤ v3 then (some (.inr ((v2, S)))) else ((loopO (fun x => m_X6_goRound_L17 v1 v3 x.1 x.2.1 x.2.2) ((v2, 0, S))).bind fun y17 => some (.inl ((y17.1, v3 + 1, y17.2)))))
def m_X6_goRound_L184 (v2 : Int32) (v3 : Int32) (v4 : Int32) (S : Hs) : Option ((Int32 × Hs) ⊕ Hs) := gd (inb 0 57) (if (gA S 14 (0 : Int32).toNatClampNeg) ≤ v4 then (some (.inr S)) else ((m_X6_at v3 v4).bind fun r202 => (gd (inb r202 49) ((m_X6_at v3 v4).bind fun r214 => (gd (inb r214 49) (gd (inb r202 49) (bnd (sA S 20 r202.toNatClampNeg ((gA S 20 r202.toNatClampNeg) ||| (gA S 21 r214.toNatClampNeg))) fun S219 => (some (.inl ((v4 + 1, S219)))))))))))
noncomputable def m_X6_goRound_L171 (v2 : Int32) (v3 : Int32) (S : Hs) : Option ((Int32 × Hs) ⊕ Hs) := gd (inb 0 57) (if (gA S 14 (0 : Int32).toNatClampNeg) ≤ v3 then (some (.inr S)) else ((loopO (fun x => m_X6_goRound_L184 v2 v3 x.1 x.2) ((0, S))).bind fun y184 => some (.inl ((v3 + 1, y184)))))
noncomputable def m_X6_goRound (v1 : Int32) (S : Hs) : Option (Int32 × Hs) := (loopO (fun x => m_X6_goRound_L4 v1 x.1 x.2.1 x.2.2) ((0, 0, S))).bind fun y4 => (loopO (fun x => m_X6_goRound_L171 y4.1 x.1 x.2) ((0, y4.2))).bind fun y171 => gd (decide (y4.1 = 0 ∨ y4.1 = 1)) (some ((y4.1, y171)))
set_option maxRecDepth 100000 in
set_option maxHeartbeats 4000000 in
theorem c_X6_goRound (l : Launch) (g : GG) (hg : Inj g) (v1 : Int32)  (S : Hs) (r : Int32) (S' : Hs) (hm : m_X6_goRound v1 S = some ((r, S'))) : CM l yX6_goRound [.code yX6_goRound cX6_goRound 7 (some .boolean)] rmX6_goRound [.ref (g.2.1 13), .int v1] g S (some (.int r)) S' := by
  unfold m_X6_goRound at hm
  refine CM.of (cc := cX6_goRound) (nL := 7) (ret := (some .boolean)) (lv := [(0, .ref (g.2.1 13)), (1, .int v1)]) (by decide +kernel) hg (Nat.le_of_ble_eq_true rfl) rfl (fun p e s m args below meth c A F => ?_)
  replace F : Fx p s m meth c cX6_goRound RX6 7 (some .boolean) g A := F
  show J p l e rmX6_goRound s m args below meth c g A 7 (MQ below (QC g A (some (.int r)) S') args s 0 0 A) 0 0 0 [(0, .ref (g.2.1 13)), (1, .int v1)] [] S
  refine j_iconst F (v := 0) dX6_goRound_0 (by decide) ?_
  refine j_istore_n F (lv' := [(2, .int 0), (0, .ref (g.2.1 13)), (1, .int v1)]) dX6_goRound_1 (by decide) rfl ?_
  refine j_iconst F (v := 0) dX6_goRound_2 (by decide) ?_
  refine j_istore_n F (lv' := [(3, .int 0), (2, .int 0), (0, .ref (g.2.1 13)), (1, .int v1)]) dX6_goRound_3 (by decide) rfl ?_
  refine j_sub [2, 3, 1, 0] rfl ?_
  obtain ⟨y4, hlp4, hm⟩ := Option.bind_eq_some_iff.mp hm
  refine loopO_walk (fun x => m_X6_goRound_L4 v1 x.1 x.2.1 x.2.2) (fun x => J p l e rmX6_goRound s m args below meth c g A 7 (MQ below (QC g A (some (.int r)) S') args s 0 0 A) 0 0 4 [(0, .ref (g.2.1 13)), (1, .int v1), (2, .int x.1), (3, .int x.2.1)] [] x.2.2) (fun x => J p l e rmX6_goRound s m args below meth c g A 7 (MQ below (QC g A (some (.int r)) S') args s 0 0 A) 0 0 169 [(0, .ref (g.2.1 13)), (2, .int x.1)] [] x.2) (fun x o1 hm hk1 => ?_) hlp4 ?_
  · obtain ⟨v2, v3, S⟩ := x
    replace hm : m_X6_goRound_L4 v1 v2 v3 S = some o1 := hm
    show J p l e rmX6_goRound s m args below meth c g A 7 (MQ below (QC g A (some (.int r)) S') args s 0 0 A) 0 0 4 [(0, .ref (g.2.1 13)), (1, .int v1), (2, .int v2), (3, .int v3)] [] S
    unfold m_X6_goRound_L4 at hm
    refine j_iload_n F 3 dX6_goRound_4 rfl ?_
    refine j_aload_n F 0 dX6_goRound_5 rfl ?_
    refine j_getR F (k0 := 1) (C := RX6) (T := TX6) (N := 20) rfl rfl rfl inF6 (by decide) tw520 dX6_goRound_6 ?_
    refine j_iconst F (v := 0) dX6_goRound_9 (by decide) ?_
    refine j_iald F rfl dX6_goRound_10 hm (fun hm => ?_)
    refine j_icmp_ge F (tgt := 169) dX6_goRound_11 (by decide) hm (fun _ hm => ?_) (fun _ hm => ?_)
    · cases hm
      refine j_sub [0, 2] rfl ?_
      exact hk1
    · refine j_iconst F (v := 0) dX6_goRound_14 (by decide) ?_
      refine j_istore F (lv' := [(4, .int 0), (0, .ref (g.2.1 13)), (1, .int v1), (2, .int v2), (3, .int v3)]) dX6_goRound_15 (by decide) rfl ?_
      refine j_sub [1, 2, 3, 4, 0] rfl ?_
      obtain ⟨y17, hlp17, hm⟩ := Option.bind_eq_some_iff.mp hm
      refine loopO_walk (fun x => m_X6_goRound_L17 v1 v3 x.1 x.2.1 x.2.2) (fun x => J p l e rmX6_goRound s m args below meth c g A 7 (MQ below (QC g A (some (.int r)) S') args s 0 0 A) 0 0 17 [(0, .ref (g.2.1 13)), (1, .int v1), (2, .int x.1), (3, .int v3), (4, .int x.2.1)] [] x.2.2) (fun x => J p l e rmX6_goRound s m args below meth c g A 7 (MQ below (QC g A (some (.int r)) S') args s 0 0 A) 0 0 163 [(0, .ref (g.2.1 13)), (1, .int v1), (2, .int x.1), (3, .int v3)] [] x.2) (fun x o2 hm hk2 => ?_) hlp17 ?_
      · obtain ⟨v2, v4, S⟩ := x
        replace hm : m_X6_goRound_L17 v1 v3 v2 v4 S = some o2 := hm
        show J p l e rmX6_goRound s m args below meth c g A 7 (MQ below (QC g A (some (.int r)) S') args s 0 0 A) 0 0 17 [(0, .ref (g.2.1 13)), (1, .int v1), (2, .int v2), (3, .int v3), (4, .int v4)] [] S
        unfold m_X6_goRound_L17 at hm
        have hj157 : ∀ (v2 : Int32) (v4 : Int32) (S : Hs), m_X6_goRound_J157 v1 v2 v3 v4 S = some o2 → J p l e rmX6_goRound s m args below meth c g A 7 (MQ below (QC g A (some (.int r)) S') args s 0 0 A) 0 0 157 [(0, .ref (g.2.1 13)), (1, .int v1), (2, .int v2), (3, .int v3), (4, .int v4)] [] S := by
          intro v2 v4 S hm
          unfold m_X6_goRound_J157 at hm
          refine j_iinc F (v := v4 + 1) (lv' := [(4, .int (v4 + 1)), (0, .ref (g.2.1 13)), (1, .int v1), (2, .int v2), (3, .int v3)]) 4 dX6_goRound_157 rfl rfl (by decide) rfl ?_
          refine j_goto F (tgt := 17) dX6_goRound_160 (by decide) ?_
          cases hm
          refine j_sub [1, 2, 3, 4, 0] rfl ?_
          exact hk2
        refine j_iload F 4 dX6_goRound_17 rfl ?_
        refine j_aload_n F 0 dX6_goRound_19 rfl ?_
        refine j_getR F (k0 := 1) (C := RX6) (T := TX6) (N := 20) rfl rfl rfl inF6 (by decide) tw520 dX6_goRound_20 ?_
        refine j_iconst F (v := 0) dX6_goRound_23 (by decide) ?_
        refine j_iald F rfl dX6_goRound_24 hm (fun hm => ?_)
        refine j_icmp_ge F (tgt := 163) dX6_goRound_25 (by decide) hm (fun _ hm => ?_) (fun _ hm => ?_)
        · cases hm
          refine j_sub [0, 1, 2, 3] rfl ?_
          exact hk2
        · refine j_aload_n F 0 dX6_goRound_28 rfl ?_
          refine j_getR F (k0 := 10) (C := RX6) (T := TX6) (N := 20) rfl rfl rfl inF6 (by decide) tw527 dX6_goRound_29 ?_
          refine j_iload_n F 3 dX6_goRound_32 rfl ?_
          refine j_iload F 4 dX6_goRound_33 rfl ?_
          obtain ⟨r35, hc35, hm⟩ := Option.bind_eq_some_iff.mp hm
          refine j_callS F (n := 2) (As := [.int v3, .int v4]) (rest := [.ref (g.2.1 21)]) (c_X6_at l g hg v3 v4 S r35 hc35) gw_X6_68 (by decide +kernel) ⟨Nat.le_of_ble_eq_true rfl, Nat.le_of_ble_eq_true rfl⟩ ⟨Nat.le_of_ble_eq_true rfl, Nat.le_of_ble_eq_true rfl⟩ rfl rfl (Nat.le_of_ble_eq_true rfl) dX6_goRound_35 ?_
          show J p l e rmX6_goRound s m args below meth c g A 7 (MQ below (QC g A (some (.int r)) S') args s 0 0 A) 0 0 38 [(0, .ref (g.2.1 13)), (1, .int v1), (2, .int v2), (3, .int v3), (4, .int v4)] [.int r35, .ref (g.2.1 21)] S
          refine j_iconst F (v := 0) dX6_goRound_38 (by decide) ?_
          refine j_iast F rfl dX6_goRound_39 hm (fun hm => ?_)
          refine j_bndS hm (fun S39 hm => ?_)
          refine j_iconst F (v := 0) dX6_goRound_40 (by decide) ?_
          refine j_istore F (lv' := [(5, .int 0), (0, .ref (g.2.1 13)), (1, .int v1), (2, .int v2), (3, .int v3), (4, .int v4)]) dX6_goRound_41 (by decide) rfl ?_
          refine j_sub [1, 2, 3, 4, 5, 0] rfl ?_
          obtain ⟨y43, hlp43, hm⟩ := Option.bind_eq_some_iff.mp hm
          refine loopO_walk (fun x => m_X6_goRound_L43 v1 v3 v4 x.1 x.2.1 x.2.2) (fun x => J p l e rmX6_goRound s m args below meth c g A 7 (MQ below (QC g A (some (.int r)) S') args s 0 0 A) 0 0 43 [(0, .ref (g.2.1 13)), (1, .int v1), (2, .int x.1), (3, .int v3), (4, .int v4), (5, .int x.2.1)] [] x.2.2) (fun x => J p l e rmX6_goRound s m args below meth c g A 7 (MQ below (QC g A (some (.int r)) S') args s 0 0 A) 0 0 157 [(0, .ref (g.2.1 13)), (1, .int v1), (2, .int x.1), (3, .int v3), (4, .int v4)] [] x.2) (fun x o3 hm hk3 => ?_) hlp43 ?_
          · obtain ⟨v2, v5, S⟩ := x
            replace hm : m_X6_goRound_L43 v1 v3 v4 v2 v5 S = some o3 := hm
            show J p l e rmX6_goRound s m args below meth c g A 7 (MQ below (QC g A (some (.int r)) S') args s 0 0 A) 0 0 43 [(0, .ref (g.2.1 13)), (1, .int v1), (2, .int v2), (3, .int v3), (4, .int v4), (5, .int v5)] [] S
            unfold m_X6_goRound_L43 at hm
            have hj151 : ∀ (v2 : Int32) (v5 : Int32) (S : Hs), m_X6_goRound_J151 v1 v2 v3 v4 v5 S = some o3 → J p l e rmX6_goRound s m args below meth c g A 7 (MQ below (QC g A (some (.int r)) S') args s 0 0 A) 0 0 151 [(0, .ref (g.2.1 13)), (1, .int v1), (2, .int v2), (3, .int v3), (4, .int v4), (5, .int v5)] [] S := by
              intro v2 v5 S hm
              unfold m_X6_goRound_J151 at hm
              refine j_iinc F (v := v5 + 1) (lv' := [(5, .int (v5 + 1)), (0, .ref (g.2.1 13)), (1, .int v1), (2, .int v2), (3, .int v3), (4, .int v4)]) 5 dX6_goRound_151 rfl rfl (by decide) rfl ?_
              refine j_goto F (tgt := 43) dX6_goRound_154 (by decide) ?_
              cases hm
              refine j_sub [1, 2, 3, 4, 5, 0] rfl ?_
              exact hk3
            have hj82 : ∀ (v2 : Int32) (v5 : Int32) (w0 : Int32) (S : Hs), m_X6_goRound_J82 v1 v2 v3 v4 v5 w0 S = some o3 → J p l e rmX6_goRound s m args below meth c g A 7 (MQ below (QC g A (some (.int r)) S') args s 0 0 A) 0 0 82 [(0, .ref (g.2.1 13)), (1, .int v1), (2, .int v2), (3, .int v3), (4, .int v4), (5, .int v5)] [.int w0] S := by
              intro v2 v5 w0 S hm
              unfold m_X6_goRound_J82 at hm
              refine j_istore F (lv' := [(6, .int w0), (0, .ref (g.2.1 13)), (1, .int v1), (2, .int v2), (3, .int v3), (4, .int v4), (5, .int v5)]) dX6_goRound_82 (by decide) rfl ?_
              refine j_iload F 0 dX6_goRound_84 rfl ?_
              refine j_bipush F (v := -9) dX6_goRound_86 (by decide) ?_
              refine j_icmp_eq F (tgt := 151) dX6_goRound_88 (by decide) hm (fun _ hm => ?_) (fun _ hm => ?_)
              · refine j_sub [1, 2, 3, 4, 5, 6] rfl ?_
                exact hj151 v2 v5 S  hm
              · refine j_aload_n F 1 dX6_goRound_91 rfl ?_
                refine j_getR F (k0 := 10) (C := RX6) (T := TX6) (N := 20) rfl rfl rfl inF6 (by decide) tw527 dX6_goRound_92 ?_
                refine j_iload_n F 4 dX6_goRound_95 rfl ?_
                refine j_iload F 5 dX6_goRound_96 rfl ?_
                obtain ⟨r98, hc98, hm⟩ := Option.bind_eq_some_iff.mp hm
                refine j_callS F (n := 2) (As := [.int v3, .int v4]) (rest := [.ref (g.2.1 21)]) (c_X6_at l g hg v3 v4 S r98 hc98) gw_X6_68 (by decide +kernel) ⟨Nat.le_of_ble_eq_true rfl, Nat.le_of_ble_eq_true rfl⟩ ⟨Nat.le_of_ble_eq_true rfl, Nat.le_of_ble_eq_true rfl⟩ rfl rfl (Nat.le_of_ble_eq_true rfl) dX6_goRound_98 ?_
                show J p l e rmX6_goRound s m args below meth c g A 7 (MQ below (QC g A (some (.int r)) S') args s 0 0 A) 0 0 101 [(6, .int w0), (0, .ref (g.2.1 13)), (1, .int v1), (2, .int v2), (3, .int v3), (4, .int v4), (5, .int v5)] [.int r98, .ref (g.2.1 21)] S
                refine j_dup2 F dX6_goRound_101 rfl rfl ?_
                refine j_iald F rfl dX6_goRound_102 hm (fun hm => ?_)
                refine j_iconst F (v := 1) dX6_goRound_103 (by decide) ?_
                refine j_iload F 6 dX6_goRound_104 rfl ?_
                refine j_ishl F dX6_goRound_106 ?_
                refine j_ior F dX6_goRound_107 ?_
                refine j_iast F rfl dX6_goRound_108 hm (fun hm => ?_)
                refine j_bndS hm (fun S108 hm => ?_)
                refine j_aload_n F 1 dX6_goRound_109 rfl ?_
                refine j_getR F (k0 := 11) (C := RX6) (T := TX6) (N := 20) rfl rfl rfl inF6 (by decide) tw528 dX6_goRound_110 ?_
                refine j_iconst F (v := 4) dX6_goRound_113 (by decide) ?_
                refine j_iload_n F 4 dX6_goRound_114 rfl ?_
                refine j_iload F 5 dX6_goRound_115 rfl ?_
                obtain ⟨r117, hc117, hm⟩ := Option.bind_eq_some_iff.mp hm
                refine j_callS F (n := 2) (As := [.int v3, .int v4]) (rest := [.int 4, .ref (g.2.1 22)]) (c_X6_at l g hg v3 v4 S108 r117 hc117) gw_X6_68 (by decide +kernel) ⟨Nat.le_of_ble_eq_true rfl, Nat.le_of_ble_eq_true rfl⟩ ⟨Nat.le_of_ble_eq_true rfl, Nat.le_of_ble_eq_true rfl⟩ rfl rfl (Nat.le_of_ble_eq_true rfl) dX6_goRound_117 ?_
                show J p l e rmX6_goRound s m args below meth c g A 7 (MQ below (QC g A (some (.int r)) S') args s 0 0 A) 0 0 120 [(6, .int w0), (0, .ref (g.2.1 13)), (1, .int v1), (2, .int v2), (3, .int v3), (4, .int v4), (5, .int v5)] [.int r117, .int 4, .ref (g.2.1 22)] S108
                refine j_imul F dX6_goRound_120 ?_
                refine j_iload F 6 dX6_goRound_121 rfl ?_
                refine j_iadd F dX6_goRound_123 ?_
                refine j_aload_n F 1 dX6_goRound_124 rfl ?_
                refine j_getI F (k0 := 13) (C := RX6) (T := TX6) (N := 20) rfl rfl rfl inF6 (by decide) tw569 dX6_goRound_125 ?_
                refine j_iconst F (v := 1) dX6_goRound_128 (by decide) ?_
                refine j_iadd F dX6_goRound_129 ?_
                refine j_iast F rfl dX6_goRound_130 hm (fun hm => ?_)
                refine j_bndS hm (fun S130 hm => ?_)
                refine j_aload_n F 1 dX6_goRound_131 rfl ?_
                refine j_getR F (k0 := 12) (C := RX6) (T := TX6) (N := 20) rfl rfl rfl inF6 (by decide) tw529 dX6_goRound_132 ?_
                refine j_iconst F (v := 4) dX6_goRound_135 (by decide) ?_
                refine j_iload_n F 4 dX6_goRound_136 rfl ?_
                refine j_iload F 5 dX6_goRound_137 rfl ?_
                obtain ⟨r139, hc139, hm⟩ := Option.bind_eq_some_iff.mp hm
                refine j_callS F (n := 2) (As := [.int v3, .int v4]) (rest := [.int 4, .ref (g.2.1 23)]) (c_X6_at l g hg v3 v4 S130 r139 hc139) gw_X6_68 (by decide +kernel) ⟨Nat.le_of_ble_eq_true rfl, Nat.le_of_ble_eq_true rfl⟩ ⟨Nat.le_of_ble_eq_true rfl, Nat.le_of_ble_eq_true rfl⟩ rfl rfl (Nat.le_of_ble_eq_true rfl) dX6_goRound_139 ?_
                show J p l e rmX6_goRound s m args below meth c g A 7 (MQ below (QC g A (some (.int r)) S') args s 0 0 A) 0 0 142 [(6, .int w0), (0, .ref (g.2.1 13)), (1, .int v1), (2, .int v2), (3, .int v3), (4, .int v4), (5, .int v5)] [.int r139, .int 4, .ref (g.2.1 23)] S130
                refine j_imul F dX6_goRound_142 ?_
                refine j_iload F 6 dX6_goRound_143 rfl ?_
                refine j_iadd F dX6_goRound_145 ?_
                refine j_iload F 0 dX6_goRound_146 rfl ?_
                refine j_iast F rfl dX6_goRound_148 hm (fun hm => ?_)
                refine j_bndS hm (fun S148 hm => ?_)
                refine j_iconst F (v := 1) dX6_goRound_149 (by decide) ?_
                refine j_istore_n F (lv' := [(2, .int 1), (6, .int w0), (0, .ref (g.2.1 13)), (1, .int v1), (3, .int v3), (4, .int v4), (5, .int v5)]) dX6_goRound_150 (by decide) rfl ?_
                refine j_sub [2, 3, 0, 4, 5, 6] rfl ?_
                exact hj151 1 v5 S148  hm
            refine j_iload F 5 dX6_goRound_43 rfl ?_
            refine j_iconst F (v := 4) dX6_goRound_45 (by decide) ?_
            refine j_icmp_ge F (tgt := 157) dX6_goRound_46 (by decide) hm (fun _ hm => ?_) (fun _ hm => ?_)
            · cases hm
              refine j_sub [0, 1, 2, 3, 4] rfl ?_
              exact hk3
            · refine j_iload_n F 3 dX6_goRound_49 rfl ?_
              refine j_iload F 4 dX6_goRound_50 rfl ?_
              refine j_icmp_eq F (tgt := 157) dX6_goRound_52 (by decide) hm (fun _ hm => ?_) (fun _ hm => ?_)
              · cases hm
                refine j_sub [0, 1, 2, 3, 4] rfl ?_
                exact hk3
              · refine j_aload_n F 0 dX6_goRound_55 rfl ?_
                refine j_iload_n F 3 dX6_goRound_56 rfl ?_
                refine j_iload F 5 dX6_goRound_57 rfl ?_
                refine j_iload F 4 dX6_goRound_59 rfl ?_
                obtain ⟨r61, hc61, hm⟩ := Option.bind_eq_some_iff.mp hm
                refine j_callV F (n := 3) (As := [.int v3, .int v5, .int v4]) (rest := []) (c_X6_ends l g hg v3 v5 v4 S r61 hc61) gw_X6_80 (by decide +kernel) ⟨Nat.le_of_ble_eq_true rfl, Nat.le_of_ble_eq_true rfl⟩ ⟨Nat.le_of_ble_eq_true rfl, Nat.le_of_ble_eq_true rfl⟩ rfl rfl rfl rfl (Nat.le_of_ble_eq_true rfl) dX6_goRound_61 ?_
                show J p l e rmX6_goRound s m args below meth c g A 7 (MQ below (QC g A (some (.int r)) S') args s 0 0 A) 0 0 64 [(0, .ref (g.2.1 13)), (1, .int v1), (2, .int v2), (3, .int v3), (4, .int v4), (5, .int v5)] [.int r61] S
                refine j_if_eq F (tgt := 72) dX6_goRound_64 (by decide) hm (fun _ hm => ?_) (fun _ hm => ?_)
                · refine j_aload_n F 0 dX6_goRound_72 rfl ?_
                  refine j_iload_n F 3 dX6_goRound_73 rfl ?_
                  refine j_iload F 5 dX6_goRound_74 rfl ?_
                  refine j_iload F 4 dX6_goRound_76 rfl ?_
                  refine j_iload_n F 1 dX6_goRound_78 rfl ?_
                  obtain ⟨r79, hc79, hm⟩ := Option.bind_eq_some_iff.mp hm
                  refine j_callV F (n := 4) (As := [.int v3, .int v5, .int v4, .int v1]) (rest := []) (c_X6_firstWay l g hg v3 v5 v4 v1 S r79 hc79) gw_X6_83 (by decide +kernel) ⟨Nat.le_of_ble_eq_true rfl, Nat.le_of_ble_eq_true rfl⟩ ⟨Nat.le_of_ble_eq_true rfl, Nat.le_of_ble_eq_true rfl⟩ rfl rfl rfl rfl (Nat.le_of_ble_eq_true rfl) dX6_goRound_79 ?_
                  show J p l e rmX6_goRound s m args below meth c g A 7 (MQ below (QC g A (some (.int r)) S') args s 0 0 A) 0 0 82 [(0, .ref (g.2.1 13)), (1, .int v1), (2, .int v2), (3, .int v3), (4, .int v4), (5, .int v5)] [.int r79] S
                  refine j_sub [0, 1, 2, 3, 4, 5] rfl ?_
                  exact hj82 v2 v5 r79 S  hm
                · refine j_bipush F (v := -9) dX6_goRound_67 (by decide) ?_
                  refine j_goto F (tgt := 82) dX6_goRound_69 (by decide) ?_
                  refine j_sub [0, 1, 2, 3, 4, 5] rfl ?_
                  exact hj82 v2 v5 ((-9)) S  hm
          · show J p l e rmX6_goRound s m args below meth c g A 7 (MQ below (QC g A (some (.int r)) S') args s 0 0 A) 0 0 157 [(0, .ref (g.2.1 13)), (1, .int v1), (2, .int y43.1), (3, .int v3), (4, .int v4)] [] y43.2
            refine j_sub [0, 1, 2, 3, 4] rfl ?_
            exact hj157 y43.1 v4 y43.2  hm
      · show J p l e rmX6_goRound s m args below meth c g A 7 (MQ below (QC g A (some (.int r)) S') args s 0 0 A) 0 0 163 [(0, .ref (g.2.1 13)), (1, .int v1), (2, .int y17.1), (3, .int v3)] [] y17.2
        refine j_iinc F (v := v3 + 1) (lv' := [(3, .int (v3 + 1)), (0, .ref (g.2.1 13)), (1, .int v1), (2, .int y17.1)]) 3 dX6_goRound_163 rfl rfl (by decide) rfl ?_
        refine j_goto F (tgt := 4) dX6_goRound_166 (by decide) ?_
        cases hm
        refine j_sub [1, 2, 3, 0] rfl ?_
        exact hk1
  · show J p l e rmX6_goRound s m args below meth c g A 7 (MQ below (QC g A (some (.int r)) S') args s 0 0 A) 0 0 169 [(0, .ref (g.2.1 13)), (2, .int y4.1)] [] y4.2
    refine j_iconst F (v := 0) dX6_goRound_169 (by decide) ?_
    refine j_istore_n F (lv' := [(3, .int 0), (0, .ref (g.2.1 13)), (2, .int y4.1)]) dX6_goRound_170 (by decide) rfl ?_
    refine j_sub [1, 2, 0] rfl ?_
    obtain ⟨y171, hlp171, hm⟩ := Option.bind_eq_some_iff.mp hm
    refine loopO_walk (fun x => m_X6_goRound_L171 y4.1 x.1 x.2) (fun x => J p l e rmX6_goRound s m args below meth c g A 7 (MQ below (QC g A (some (.int r)) S') args s 0 0 A) 0 0 171 [(0, .ref (g.2.1 13)), (2, .int y4.1), (3, .int x.1)] [] x.2) (fun x => J p l e rmX6_goRound s m args below meth c g A 7 (MQ below (QC g A (some (.int r)) S') args s 0 0 A) 0 0 232 [(2, .int y4.1)] [] x) (fun x o1 hm hk1 => ?_) hlp171 ?_
    · obtain ⟨v3, S⟩ := x
      replace hm : m_X6_goRound_L171 y4.1 v3 S = some o1 := hm
      show J p l e rmX6_goRound s m args below meth c g A 7 (MQ below (QC g A (some (.int r)) S') args s 0 0 A) 0 0 171 [(0, .ref (g.2.1 13)), (2, .int y4.1), (3, .int v3)] [] S
      unfold m_X6_goRound_L171 at hm
      refine j_iload_n F 2 dX6_goRound_171 rfl ?_
      refine j_aload_n F 0 dX6_goRound_172 rfl ?_
      refine j_getR F (k0 := 1) (C := RX6) (T := TX6) (N := 20) rfl rfl rfl inF6 (by decide) tw520 dX6_goRound_173 ?_
      refine j_iconst F (v := 0) dX6_goRound_176 (by decide) ?_
      refine j_iald F rfl dX6_goRound_177 hm (fun hm => ?_)
      refine j_icmp_ge F (tgt := 232) dX6_goRound_178 (by decide) hm (fun _ hm => ?_) (fun _ hm => ?_)
      · cases hm
        refine j_sub [1] rfl ?_
        exact hk1
      · refine j_iconst F (v := 0) dX6_goRound_181 (by decide) ?_
        refine j_istore F (lv' := [(4, .int 0), (0, .ref (g.2.1 13)), (2, .int y4.1), (3, .int v3)]) dX6_goRound_182 (by decide) rfl ?_
        refine j_sub [1, 2, 3, 0] rfl ?_
        obtain ⟨y184, hlp184, hm⟩ := Option.bind_eq_some_iff.mp hm
        refine loopO_walk (fun x => m_X6_goRound_L184 y4.1 v3 x.1 x.2) (fun x => J p l e rmX6_goRound s m args below meth c g A 7 (MQ below (QC g A (some (.int r)) S') args s 0 0 A) 0 0 184 [(0, .ref (g.2.1 13)), (2, .int y4.1), (3, .int v3), (4, .int x.1)] [] x.2) (fun x => J p l e rmX6_goRound s m args below meth c g A 7 (MQ below (QC g A (some (.int r)) S') args s 0 0 A) 0 0 226 [(0, .ref (g.2.1 13)), (2, .int y4.1), (3, .int v3)] [] x) (fun x o2 hm hk2 => ?_) hlp184 ?_
        · obtain ⟨v4, S⟩ := x
          replace hm : m_X6_goRound_L184 y4.1 v3 v4 S = some o2 := hm
          show J p l e rmX6_goRound s m args below meth c g A 7 (MQ below (QC g A (some (.int r)) S') args s 0 0 A) 0 0 184 [(0, .ref (g.2.1 13)), (2, .int y4.1), (3, .int v3), (4, .int v4)] [] S
          unfold m_X6_goRound_L184 at hm
          refine j_iload F 3 dX6_goRound_184 rfl ?_
          refine j_aload_n F 0 dX6_goRound_186 rfl ?_
          refine j_getR F (k0 := 1) (C := RX6) (T := TX6) (N := 20) rfl rfl rfl inF6 (by decide) tw520 dX6_goRound_187 ?_
          refine j_iconst F (v := 0) dX6_goRound_190 (by decide) ?_
          refine j_iald F rfl dX6_goRound_191 hm (fun hm => ?_)
          refine j_icmp_ge F (tgt := 226) dX6_goRound_192 (by decide) hm (fun _ hm => ?_) (fun _ hm => ?_)
          · cases hm
            refine j_sub [0, 1, 2] rfl ?_
            exact hk2
          · refine j_aload_n F 0 dX6_goRound_195 rfl ?_
            refine j_getR F (k0 := 9) (C := RX6) (T := TX6) (N := 20) rfl rfl rfl inF6 (by decide) tw526 dX6_goRound_196 ?_
            refine j_iload_n F 2 dX6_goRound_199 rfl ?_
            refine j_iload F 3 dX6_goRound_200 rfl ?_
            obtain ⟨r202, hc202, hm⟩ := Option.bind_eq_some_iff.mp hm
            refine j_callS F (n := 2) (As := [.int v3, .int v4]) (rest := [.ref (g.2.1 20)]) (c_X6_at l g hg v3 v4 S r202 hc202) gw_X6_68 (by decide +kernel) ⟨Nat.le_of_ble_eq_true rfl, Nat.le_of_ble_eq_true rfl⟩ ⟨Nat.le_of_ble_eq_true rfl, Nat.le_of_ble_eq_true rfl⟩ rfl rfl (Nat.le_of_ble_eq_true rfl) dX6_goRound_202 ?_
            show J p l e rmX6_goRound s m args below meth c g A 7 (MQ below (QC g A (some (.int r)) S') args s 0 0 A) 0 0 205 [(0, .ref (g.2.1 13)), (2, .int y4.1), (3, .int v3), (4, .int v4)] [.int r202, .ref (g.2.1 20)] S
            refine j_dup2 F dX6_goRound_205 rfl rfl ?_
            refine j_iald F rfl dX6_goRound_206 hm (fun hm => ?_)
            refine j_aload_n F 0 dX6_goRound_207 rfl ?_
            refine j_getR F (k0 := 10) (C := RX6) (T := TX6) (N := 20) rfl rfl rfl inF6 (by decide) tw527 dX6_goRound_208 ?_
            refine j_iload_n F 2 dX6_goRound_211 rfl ?_
            refine j_iload F 3 dX6_goRound_212 rfl ?_
            obtain ⟨r214, hc214, hm⟩ := Option.bind_eq_some_iff.mp hm
            refine j_callS F (n := 2) (As := [.int v3, .int v4]) (rest := [.ref (g.2.1 21), .int (gA S 20 r202.toNatClampNeg), .int r202, .ref (g.2.1 20)]) (c_X6_at l g hg v3 v4 S r214 hc214) gw_X6_68 (by decide +kernel) ⟨Nat.le_of_ble_eq_true rfl, Nat.le_of_ble_eq_true rfl⟩ ⟨Nat.le_of_ble_eq_true rfl, Nat.le_of_ble_eq_true rfl⟩ rfl rfl (Nat.le_of_ble_eq_true rfl) dX6_goRound_214 ?_
            show J p l e rmX6_goRound s m args below meth c g A 7 (MQ below (QC g A (some (.int r)) S') args s 0 0 A) 0 0 217 [(0, .ref (g.2.1 13)), (2, .int y4.1), (3, .int v3), (4, .int v4)] [.int r214, .ref (g.2.1 21), .int (gA S 20 r202.toNatClampNeg), .int r202, .ref (g.2.1 20)] S
            refine j_iald F rfl dX6_goRound_217 hm (fun hm => ?_)
            refine j_ior F dX6_goRound_218 ?_
            refine j_iast F rfl dX6_goRound_219 hm (fun hm => ?_)
            refine j_bndS hm (fun S219 hm => ?_)
            refine j_iinc F (v := v4 + 1) (lv' := [(4, .int (v4 + 1)), (0, .ref (g.2.1 13)), (2, .int y4.1), (3, .int v3)]) 3 dX6_goRound_220 rfl rfl (by decide) rfl ?_
            refine j_goto F (tgt := 184) dX6_goRound_223 (by decide) ?_
            cases hm
            refine j_sub [1, 2, 3, 0] rfl ?_
            exact hk2
        · show J p l e rmX6_goRound s m args below meth c g A 7 (MQ below (QC g A (some (.int r)) S') args s 0 0 A) 0 0 226 [(0, .ref (g.2.1 13)), (2, .int y4.1), (3, .int v3)] [] y184
          refine j_iinc F (v := v3 + 1) (lv' := [(3, .int (v3 + 1)), (0, .ref (g.2.1 13)), (2, .int y4.1)]) 2 dX6_goRound_226 rfl rfl (by decide) rfl ?_
          refine j_goto F (tgt := 171) dX6_goRound_229 (by decide) ?_
          cases hm
          refine j_sub [1, 2, 0] rfl ?_
          exact hk1
    · show J p l e rmX6_goRound s m args below meth c g A 7 (MQ below (QC g A (some (.int r)) S') args s 0 0 A) 0 0 232 [(2, .int y4.1)] [] y171
      refine j_iload_n F 0 dX6_goRound_232 rfl ?_
      obtain ⟨hb, hm⟩ := gd_ok hm
      exact j_zret_e F rfl (z_nar hb) dX6_goRound_233 hm
def m_X6_spread_L7 (v1 : Int32) (v2 : Int32) (S : Hs) : Option ((Int32 × Hs) ⊕ Hs) := if 49 ≤ v2 then (some (.inr S)) else (gd (inb (8 + v2) 57) (gd (inb v2 49) (bnd (sA S 20 v2.toNatClampNeg (gA S 14 (8 + v2).toNatClampNeg)) fun S27 => (some (.inl ((v2 + 1, S27)))))))
def m_X6_spread_L36 (v1 : Int32) (v2 : Int32) (S : Hs) : Option ((Int32 × Hs) ⊕ Hs) := if 196 ≤ v2 then (some (.inr S)) else (gd (inb v2 196) (bnd (sA S 22 v2.toNatClampNeg 0) fun S49 => (gd (inb v2 196) (bnd (sA S49 23 v2.toNatClampNeg ((-9))) fun S57 => (some (.inl ((v2 + 1, S57))))))))
noncomputable def m_X6_spread_L64 (v1 : Int32) (S : Hs) : Option (Hs ⊕ Hs) := bndE (m_X6_goRound v1 S) fun r66 S66 => (if r66 = 0 then (some (.inr S66)) else (bnd (sI S66 13 13 ((gI S66 13 13) + 1)) fun S79 => (some (.inl S79))))
noncomputable def m_X6_spread (v1 : Int32) (S : Hs) : Option (Hs) := bnd (sI S 13 13 0) fun S2 => ((loopO (fun x => m_X6_spread_L7 v1 x.1 x.2) ((0, S2))).bind fun y7 => (loopO (fun x => m_X6_spread_L36 v1 x.1 x.2) ((0, y7))).bind fun y36 => (loopO (fun x => m_X6_spread_L64 v1 x) y36).bind fun y64 => some y64)
set_option maxRecDepth 100000 in
set_option maxHeartbeats 4000000 in
theorem c_X6_spread (l : Launch) (g : GG) (hg : Inj g) (v1 : Int32)  (S : Hs) (S' : Hs) (hm : m_X6_spread v1 S = some S') : CM l yX6_spread [.code yX6_spread cX6_spread 3 none] rmX6_spread [.ref (g.2.1 13), .int v1] g S none S' := by
  unfold m_X6_spread at hm
  refine CM.of (cc := cX6_spread) (nL := 3) (ret := none) (lv := [(0, .ref (g.2.1 13)), (1, .int v1)]) (by decide +kernel) hg (Nat.le_of_ble_eq_true rfl) rfl (fun p e s m args below meth c A F => ?_)
  replace F : Fx p s m meth c cX6_spread RX6 3 none g A := F
  show J p l e rmX6_spread s m args below meth c g A 3 (MQ below (QC g A none S') args s 0 0 A) 0 0 0 [(0, .ref (g.2.1 13)), (1, .int v1)] [] S
  refine j_aload_n F 0 dX6_spread_0 rfl ?_
  refine j_iconst F (v := 0) dX6_spread_1 (by decide) ?_
  refine j_putI F (k0 := 13) (C := RX6) (T := TX6) (N := 20) tyX6 tyX6_ok nmX6 rfl rfl rfl inF6 (by decide) tw569 rfl (by decide +kernel) dX6_spread_2 ?_
  refine j_bndS hm (fun S2 hm => ?_)
  refine j_iconst F (v := 0) dX6_spread_5 (by decide) ?_
  refine j_istore_n F (lv' := [(2, .int 0), (0, .ref (g.2.1 13)), (1, .int v1)]) dX6_spread_6 (by decide) rfl ?_
  refine j_sub [1, 2, 0] rfl ?_
  obtain ⟨y7, hlp7, hm⟩ := Option.bind_eq_some_iff.mp hm
  refine loopO_walk (fun x => m_X6_spread_L7 v1 x.1 x.2) (fun x => J p l e rmX6_spread s m args below meth c g A 3 (MQ below (QC g A none S') args s 0 0 A) 0 0 7 [(0, .ref (g.2.1 13)), (1, .int v1), (2, .int x.1)] [] x.2) (fun x => J p l e rmX6_spread s m args below meth c g A 3 (MQ below (QC g A none S') args s 0 0 A) 0 0 34 [(0, .ref (g.2.1 13)), (1, .int v1)] [] x) (fun x o1 hm hk1 => ?_) hlp7 ?_
  · obtain ⟨v2, S⟩ := x
    replace hm : m_X6_spread_L7 v1 v2 S = some o1 := hm
    show J p l e rmX6_spread s m args below meth c g A 3 (MQ below (QC g A none S') args s 0 0 A) 0 0 7 [(0, .ref (g.2.1 13)), (1, .int v1), (2, .int v2)] [] S
    unfold m_X6_spread_L7 at hm
    refine j_iload_n F 2 dX6_spread_7 rfl ?_
    refine j_bipush F (v := 49) dX6_spread_8 (by decide) ?_
    refine j_icmp_ge F (tgt := 34) dX6_spread_10 (by decide) hm (fun _ hm => ?_) (fun _ hm => ?_)
    · cases hm
      refine j_sub [0, 1] rfl ?_
      exact hk1
    · refine j_aload_n F 0 dX6_spread_13 rfl ?_
      refine j_getR F (k0 := 9) (C := RX6) (T := TX6) (N := 20) rfl rfl rfl inF6 (by decide) tw526 dX6_spread_14 ?_
      refine j_iload_n F 2 dX6_spread_17 rfl ?_
      refine j_aload_n F 0 dX6_spread_18 rfl ?_
      refine j_getR F (k0 := 1) (C := RX6) (T := TX6) (N := 20) rfl rfl rfl inF6 (by decide) tw520 dX6_spread_19 ?_
      refine j_bipush F (v := 8) dX6_spread_22 (by decide) ?_
      refine j_iload_n F 2 dX6_spread_24 rfl ?_
      refine j_iadd F dX6_spread_25 ?_
      refine j_iald F rfl dX6_spread_26 hm (fun hm => ?_)
      refine j_iast F rfl dX6_spread_27 hm (fun hm => ?_)
      refine j_bndS hm (fun S27 hm => ?_)
      refine j_iinc F (v := v2 + 1) (lv' := [(2, .int (v2 + 1)), (0, .ref (g.2.1 13)), (1, .int v1)]) 2 dX6_spread_28 rfl rfl (by decide) rfl ?_
      refine j_goto F (tgt := 7) dX6_spread_31 (by decide) ?_
      cases hm
      refine j_sub [1, 2, 0] rfl ?_
      exact hk1
  · show J p l e rmX6_spread s m args below meth c g A 3 (MQ below (QC g A none S') args s 0 0 A) 0 0 34 [(0, .ref (g.2.1 13)), (1, .int v1)] [] y7
    refine j_iconst F (v := 0) dX6_spread_34 (by decide) ?_
    refine j_istore_n F (lv' := [(2, .int 0), (0, .ref (g.2.1 13)), (1, .int v1)]) dX6_spread_35 (by decide) rfl ?_
    refine j_sub [1, 2, 0] rfl ?_
    obtain ⟨y36, hlp36, hm⟩ := Option.bind_eq_some_iff.mp hm
    refine loopO_walk (fun x => m_X6_spread_L36 v1 x.1 x.2) (fun x => J p l e rmX6_spread s m args below meth c g A 3 (MQ below (QC g A none S') args s 0 0 A) 0 0 36 [(0, .ref (g.2.1 13)), (1, .int v1), (2, .int x.1)] [] x.2) (fun x => J p l e rmX6_spread s m args below meth c g A 3 (MQ below (QC g A none S') args s 0 0 A) 0 0 64 [(0, .ref (g.2.1 13)), (1, .int v1)] [] x) (fun x o1 hm hk1 => ?_) hlp36 ?_
    · obtain ⟨v2, S⟩ := x
      replace hm : m_X6_spread_L36 v1 v2 S = some o1 := hm
      show J p l e rmX6_spread s m args below meth c g A 3 (MQ below (QC g A none S') args s 0 0 A) 0 0 36 [(0, .ref (g.2.1 13)), (1, .int v1), (2, .int v2)] [] S
      unfold m_X6_spread_L36 at hm
      refine j_iload_n F 2 dX6_spread_36 rfl ?_
      refine j_sipush F (v := 196) dX6_spread_37 (by decide) ?_
      refine j_icmp_ge F (tgt := 64) dX6_spread_40 (by decide) hm (fun _ hm => ?_) (fun _ hm => ?_)
      · cases hm
        refine j_sub [0, 1] rfl ?_
        exact hk1
      · refine j_aload_n F 0 dX6_spread_43 rfl ?_
        refine j_getR F (k0 := 11) (C := RX6) (T := TX6) (N := 20) rfl rfl rfl inF6 (by decide) tw528 dX6_spread_44 ?_
        refine j_iload_n F 2 dX6_spread_47 rfl ?_
        refine j_iconst F (v := 0) dX6_spread_48 (by decide) ?_
        refine j_iast F rfl dX6_spread_49 hm (fun hm => ?_)
        refine j_bndS hm (fun S49 hm => ?_)
        refine j_aload_n F 0 dX6_spread_50 rfl ?_
        refine j_getR F (k0 := 12) (C := RX6) (T := TX6) (N := 20) rfl rfl rfl inF6 (by decide) tw529 dX6_spread_51 ?_
        refine j_iload_n F 2 dX6_spread_54 rfl ?_
        refine j_bipush F (v := -9) dX6_spread_55 (by decide) ?_
        refine j_iast F rfl dX6_spread_57 hm (fun hm => ?_)
        refine j_bndS hm (fun S57 hm => ?_)
        refine j_iinc F (v := v2 + 1) (lv' := [(2, .int (v2 + 1)), (0, .ref (g.2.1 13)), (1, .int v1)]) 2 dX6_spread_58 rfl rfl (by decide) rfl ?_
        refine j_goto F (tgt := 36) dX6_spread_61 (by decide) ?_
        cases hm
        refine j_sub [1, 2, 0] rfl ?_
        exact hk1
    · show J p l e rmX6_spread s m args below meth c g A 3 (MQ below (QC g A none S') args s 0 0 A) 0 0 64 [(0, .ref (g.2.1 13)), (1, .int v1)] [] y36
      refine j_sub [0, 1] rfl ?_
      obtain ⟨y64, hlp64, hm⟩ := Option.bind_eq_some_iff.mp hm
      refine loopO_walk (fun x => m_X6_spread_L64 v1 x) (fun x => J p l e rmX6_spread s m args below meth c g A 3 (MQ below (QC g A none S') args s 0 0 A) 0 0 64 [(0, .ref (g.2.1 13)), (1, .int v1)] [] x) (fun x => J p l e rmX6_spread s m args below meth c g A 3 (MQ below (QC g A none S') args s 0 0 A) 0 0 85 [] [] x) (fun x o1 hm hk1 => ?_) hlp64 ?_
      · obtain ⟨S, rfl⟩ : ∃ z, z = x := ⟨_, rfl⟩
        replace hm : m_X6_spread_L64 v1 S = some o1 := hm
        show J p l e rmX6_spread s m args below meth c g A 3 (MQ below (QC g A none S') args s 0 0 A) 0 0 64 [(0, .ref (g.2.1 13)), (1, .int v1)] [] S
        unfold m_X6_spread_L64 at hm
        refine j_aload_n F 0 dX6_spread_64 rfl ?_
        refine j_iload_n F 1 dX6_spread_65 rfl ?_
        obtain ⟨r66, S66, hc66, hm⟩ := bndE_ok hm
        refine j_callV F (n := 1) (As := [.int v1]) (rest := []) (c_X6_goRound l g hg v1 S r66 S66 hc66) gw_X6_90 (by decide +kernel) ⟨Nat.le_of_ble_eq_true rfl, Nat.le_of_ble_eq_true rfl⟩ ⟨Nat.le_of_ble_eq_true rfl, Nat.le_of_ble_eq_true rfl⟩ rfl rfl rfl rfl (Nat.le_of_ble_eq_true rfl) dX6_spread_66 ?_
        show J p l e rmX6_spread s m args below meth c g A 3 (MQ below (QC g A none S') args s 0 0 A) 0 0 69 [(0, .ref (g.2.1 13)), (1, .int v1)] [.int r66] S66
        refine j_if_eq F (tgt := 85) dX6_spread_69 (by decide) hm (fun _ hm => ?_) (fun _ hm => ?_)
        · cases hm
          refine j_sub [] rfl ?_
          exact hk1
        · refine j_aload_n F 0 dX6_spread_72 rfl ?_
          refine j_dup F dX6_spread_73 rfl ?_
          refine j_getI F (k0 := 13) (C := RX6) (T := TX6) (N := 20) rfl rfl rfl inF6 (by decide) tw569 dX6_spread_74 ?_
          refine j_iconst F (v := 1) dX6_spread_77 (by decide) ?_
          refine j_iadd F dX6_spread_78 ?_
          refine j_putI F (k0 := 13) (C := RX6) (T := TX6) (N := 20) tyX6 tyX6_ok nmX6 rfl rfl rfl inF6 (by decide) tw569 rfl (by decide +kernel) dX6_spread_79 ?_
          refine j_bndS hm (fun S79 hm => ?_)
          refine j_goto F (tgt := 64) dX6_spread_82 (by decide) ?_
          cases hm
          refine j_sub [0, 1] rfl ?_
          exact hk1
      · show J p l e rmX6_spread s m args below meth c g A 3 (MQ below (QC g A none S') args s 0 0 A) 0 0 85 [] [] y64
        exact j_vret_e F rfl dX6_spread_85 hm
noncomputable def m_X6_endMany_L4 (S : Hs) (v1 : Int32) (v2 : Int32) : Option ((Int32 × Int32) ⊕ Int32) := if 49 ≤ v2 then (some (.inr v1)) else (gd (inb v2 49) ((m_X6_bits (gA S 20 v2.toNatClampNeg)).bind fun r17 => (bnd (v1 + r17) fun v1_21 => (some (.inl ((v1_21, v2 + 1)))))))
noncomputable def m_X6_endMany (S : Hs) : Option (Int32) := (loopO (fun x => m_X6_endMany_L4 S x.1 x.2) ((0, 0))).bind fun y4 => some y4
set_option maxRecDepth 100000 in
set_option maxHeartbeats 4000000 in
theorem c_X6_endMany (l : Launch) (g : GG) (hg : Inj g)   (S : Hs) (r : Int32) (hm : m_X6_endMany S = some r) : CM l yX6_endMany [.code yX6_endMany cX6_endMany 3 (some .int)] rmX6_endMany [.ref (g.2.1 13)] g S (some (.int r)) S := by
  unfold m_X6_endMany at hm
  refine CM.of (cc := cX6_endMany) (nL := 3) (ret := (some .int)) (lv := [(0, .ref (g.2.1 13))]) (by decide +kernel) hg (Nat.le_of_ble_eq_true rfl) rfl (fun p e s m args below meth c A F => ?_)
  replace F : Fx p s m meth c cX6_endMany RX6 3 (some .int) g A := F
  show J p l e rmX6_endMany s m args below meth c g A 3 (MQ below (QC g A (some (.int r)) S) args s 0 0 A) 0 0 0 [(0, .ref (g.2.1 13))] [] S
  refine j_iconst F (v := 0) dX6_endMany_0 (by decide) ?_
  refine j_istore_n F (lv' := [(1, .int 0), (0, .ref (g.2.1 13))]) dX6_endMany_1 (by decide) rfl ?_
  refine j_iconst F (v := 0) dX6_endMany_2 (by decide) ?_
  refine j_istore_n F (lv' := [(2, .int 0), (1, .int 0), (0, .ref (g.2.1 13))]) dX6_endMany_3 (by decide) rfl ?_
  refine j_sub [2, 1, 0] rfl ?_
  obtain ⟨y4, hlp4, hm⟩ := Option.bind_eq_some_iff.mp hm
  refine loopO_walk (fun x => m_X6_endMany_L4 S x.1 x.2) (fun x => J p l e rmX6_endMany s m args below meth c g A 3 (MQ below (QC g A (some (.int r)) S) args s 0 0 A) 0 0 4 [(0, .ref (g.2.1 13)), (1, .int x.1), (2, .int x.2)] [] S) (fun x => J p l e rmX6_endMany s m args below meth c g A 3 (MQ below (QC g A (some (.int r)) S) args s 0 0 A) 0 0 28 [(1, .int x)] [] S) (fun x o1 hm hk1 => ?_) hlp4 ?_
  · obtain ⟨v1, v2⟩ := x
    replace hm : m_X6_endMany_L4 S v1 v2 = some o1 := hm
    show J p l e rmX6_endMany s m args below meth c g A 3 (MQ below (QC g A (some (.int r)) S) args s 0 0 A) 0 0 4 [(0, .ref (g.2.1 13)), (1, .int v1), (2, .int v2)] [] S
    unfold m_X6_endMany_L4 at hm
    refine j_iload_n F 2 dX6_endMany_4 rfl ?_
    refine j_bipush F (v := 49) dX6_endMany_5 (by decide) ?_
    refine j_icmp_ge F (tgt := 28) dX6_endMany_7 (by decide) hm (fun _ hm => ?_) (fun _ hm => ?_)
    · cases hm
      refine j_sub [1] rfl ?_
      exact hk1
    · refine j_iload_n F 1 dX6_endMany_10 rfl ?_
      refine j_aload_n F 0 dX6_endMany_11 rfl ?_
      refine j_getR F (k0 := 9) (C := RX6) (T := TX6) (N := 20) rfl rfl rfl inF6 (by decide) tw526 dX6_endMany_12 ?_
      refine j_iload_n F 2 dX6_endMany_15 rfl ?_
      refine j_iald F rfl dX6_endMany_16 hm (fun hm => ?_)
      obtain ⟨r17, hc17, hm⟩ := Option.bind_eq_some_iff.mp hm
      refine j_callS F (n := 1) (As := [.int (gA S 20 v2.toNatClampNeg)]) (rest := [.int v1]) (c_X6_bits l g hg (gA S 20 v2.toNatClampNeg) S r17 hc17) gw_X6_72 (by decide +kernel) ⟨Nat.le_of_ble_eq_true rfl, Nat.le_of_ble_eq_true rfl⟩ ⟨Nat.le_of_ble_eq_true rfl, Nat.le_of_ble_eq_true rfl⟩ rfl rfl (Nat.le_of_ble_eq_true rfl) dX6_endMany_17 ?_
      show J p l e rmX6_endMany s m args below meth c g A 3 (MQ below (QC g A (some (.int r)) S) args s 0 0 A) 0 0 20 [(0, .ref (g.2.1 13)), (1, .int v1), (2, .int v2)] [.int r17, .int v1] S
      refine j_iadd F dX6_endMany_20 ?_
      refine j_bnd hm (fun v1_21 hm => ?_)
      refine j_istore_n F (lv' := [(1, .int v1_21), (0, .ref (g.2.1 13)), (2, .int v2)]) dX6_endMany_21 (by decide) rfl ?_
      refine j_iinc F (v := v2 + 1) (lv' := [(2, .int (v2 + 1)), (1, .int v1_21), (0, .ref (g.2.1 13))]) 2 dX6_endMany_22 rfl rfl (by decide) rfl ?_
      refine j_goto F (tgt := 4) dX6_endMany_25 (by decide) ?_
      cases hm
      refine j_sub [2, 1, 0] rfl ?_
      exact hk1
  · show J p l e rmX6_endMany s m args below meth c g A 3 (MQ below (QC g A (some (.int r)) S) args s 0 0 A) 0 0 28 [(1, .int y4)] [] S
    refine j_iload_n F 0 dX6_endMany_28 rfl ?_
    exact j_iret_p F rfl dX6_endMany_29 hm
def m_X6_isPerson_J16 (w0 : Int32) (S : Hs) : Option (Int32) := gd (decide (w0 = 0 ∨ w0 = 1)) (some w0)
def m_X6_isPerson (v1 : Int32) (S : Hs) : Option (Int32) := gd (inb (1 + v1) 57) (if (gA S 14 (1 + v1).toNatClampNeg) = 0 then (m_X6_isPerson_J16 0 S) else (m_X6_isPerson_J16 1 S))
set_option maxRecDepth 100000 in
set_option maxHeartbeats 4000000 in
theorem c_X6_isPerson (l : Launch) (g : GG) (hg : Inj g) (v1 : Int32)  (S : Hs) (r : Int32) (hm : m_X6_isPerson v1 S = some r) : CM l yX6_isPerson [.code yX6_isPerson cX6_isPerson 2 (some .boolean)] rmX6_isPerson [.ref (g.2.1 13), .int v1] g S (some (.int r)) S := by
  unfold m_X6_isPerson at hm
  refine CM.of (cc := cX6_isPerson) (nL := 2) (ret := (some .boolean)) (lv := [(0, .ref (g.2.1 13)), (1, .int v1)]) (by decide +kernel) hg (Nat.le_of_ble_eq_true rfl) rfl (fun p e s m args below meth c A F => ?_)
  replace F : Fx p s m meth c cX6_isPerson RX6 2 (some .boolean) g A := F
  show J p l e rmX6_isPerson s m args below meth c g A 2 (MQ below (QC g A (some (.int r)) S) args s 0 0 A) 0 0 0 [(0, .ref (g.2.1 13)), (1, .int v1)] [] S
  have hj16 : ∀ (w0 : Int32) (S : Hs), m_X6_isPerson_J16 w0 S = some r → J p l e rmX6_isPerson s m args below meth c g A 2 (MQ below (QC g A (some (.int r)) S) args s 0 0 A) 0 0 16 [] [.int w0] S := by
    intro w0 S hm
    unfold m_X6_isPerson_J16 at hm
    obtain ⟨hb, hm⟩ := gd_ok hm
    exact j_zret_p F rfl (z_nar hb) dX6_isPerson_16 hm
  refine j_aload_n F 0 dX6_isPerson_0 rfl ?_
  refine j_getR F (k0 := 1) (C := RX6) (T := TX6) (N := 20) rfl rfl rfl inF6 (by decide) tw520 dX6_isPerson_1 ?_
  refine j_iconst F (v := 1) dX6_isPerson_4 (by decide) ?_
  refine j_iload_n F 1 dX6_isPerson_5 rfl ?_
  refine j_iadd F dX6_isPerson_6 ?_
  refine j_iald F rfl dX6_isPerson_7 hm (fun hm => ?_)
  refine j_if_eq F (tgt := 15) dX6_isPerson_8 (by decide) hm (fun _ hm => ?_) (fun _ hm => ?_)
  · refine j_iconst F (v := 0) dX6_isPerson_15 (by decide) ?_
    refine j_sub [] rfl ?_
    exact hj16 0 S  hm
  · refine j_iconst F (v := 1) dX6_isPerson_11 (by decide) ?_
    refine j_goto F (tgt := 16) dX6_isPerson_12 (by decide) ?_
    refine j_sub [] rfl ?_
    exact hj16 1 S  hm
def m_X6_learn_J117 (v1 : Int32) (v2 : Int32) (v3 : Int32) (w0 : Int32) (w1 : Int32) (w2 : Int32) (S : Hs) : Option ((Int32 × Hs) ⊕ Hs) := gd (inb w2 7) (bnd (sA S 24 w2.toNatClampNeg (w1 ||| w0)) fun S118 => (some (.inl ((v3 + 1, S118)))))
def m_X6_learn_J116 (v1 : Int32) (v2 : Int32) (v3 : Int32) (w0 : Int32) (w1 : Int32) (S : Hs) : Option ((Int32 × Hs) ⊕ Hs) := m_X6_learn_J117 v1 v2 v3 0 w0 w1 S
def m_X6_learn_J110 (v1 : Int32) (v2 : Int32) (v3 : Int32) (w0 : Int32) (w1 : Int32) (S : Hs) : Option ((Int32 × Hs) ⊕ Hs) := m_X6_learn_J117 v1 v2 v3 (1 <<< (v3 &&& 31)) w0 w1 S
def m_X6_learn_J97 (v1 : Int32) (v2 : Int32) (v3 : Int32) (v5 : Int32) (w0 : Int32) (w1 : Int32) (S : Hs) : Option ((Int32 × Hs) ⊕ Hs) := (m_X6_isPerson v3 S).bind fun r99 => (if r99 = 0 then (m_X6_learn_J116 v1 v2 v3 w0 w1 S) else (if v5 = 0 then (m_X6_learn_J116 v1 v2 v3 w0 w1 S) else (m_X6_learn_J110 v1 v2 v3 w0 w1 S)))
def m_X6_learn_J75 (v1 : Int32) (v2 : Int32) (v3 : Int32) (v4 : Int32) (w0 : Int32) (S : Hs) : Option ((Int32 × Hs) ⊕ Hs) := gd (inb v2 7) ((m_X6_isPerson v2 S).bind fun r86 => (if r86 = 0 then (m_X6_learn_J97 v1 v2 v3 w0 (gA S 24 v2.toNatClampNeg) v2 S) else (if v4 = 0 then (m_X6_learn_J97 v1 v2 v3 w0 (gA S 24 v2.toNatClampNeg) v2 S) else (m_X6_learn_J110 v1 v2 v3 (gA S 24 v2.toNatClampNeg) v2 S))))
def m_X6_learn_J52 (v1 : Int32) (v2 : Int32) (v3 : Int32) (w0 : Int32) (S : Hs) : Option ((Int32 × Hs) ⊕ Hs) := if v1 = 0 then ((m_X6_has v3 3 v2 S).bind fun r72 => (m_X6_learn_J75 v1 v2 v3 w0 r72 S)) else ((m_X6_ends v3 3 v2 S).bind fun r62 => (m_X6_learn_J75 v1 v2 v3 w0 r62 S))
def m_X6_learn_L21 (v1 : Int32) (v2 : Int32) (v3 : Int32) (S : Hs) : Option ((Int32 × Hs) ⊕ Hs) := gd (inb 0 57) (if (gA S 14 (0 : Int32).toNatClampNeg) ≤ v3 then (some (.inr S)) else (if v1 = 0 then ((m_X6_has v2 2 v3 S).bind fun r49 => (m_X6_learn_J52 v1 v2 v3 r49 S)) else ((m_X6_ends v2 2 v3 S).bind fun r39 => (m_X6_learn_J52 v1 v2 v3 r39 S))))
noncomputable def m_X6_learn_L2 (v1 : Int32) (v2 : Int32) (S : Hs) : Option ((Int32 × Hs) ⊕ Hs) := gd (inb 0 57) (if (gA S 14 (0 : Int32).toNatClampNeg) ≤ v2 then (some (.inr S)) else (gd (inb v2 7) (bnd (sA S 24 v2.toNatClampNeg 0) fun S18 => ((loopO (fun x => m_X6_learn_L21 v1 v2 x.1 x.2) ((0, S18))).bind fun y21 => some (.inl ((v2 + 1, y21)))))))
def m_X6_learn_J201 (v2 : Int32) (v3 : Int32) (v4 : Int32) (w0 : Int32) (w1 : Int32) (w2 : Int32) (S : Hs) : Option ((Int32 × Hs) ⊕ Hs) := gd (inb w2 7) (bnd (sA S 24 w2.toNatClampNeg (w1 ||| w0)) fun S202 => (some (.inl ((v4 + 1, S202)))))
def m_X6_learn_L158 (v2 : Int32) (v3 : Int32) (v4 : Int32) (S : Hs) : Option ((Int32 × Hs) ⊕ Hs) := gd (inb 0 57) (if (gA S 14 (0 : Int32).toNatClampNeg) ≤ v4 then (some (.inr S)) else (gd (inb v3 7) (gd (inb v3 7) ((m_X6_isIn (gA S 24 v3.toNatClampNeg) v4).bind fun r184 => (if r184 = 0 then (m_X6_learn_J201 v2 v3 v4 0 (gA S 24 v3.toNatClampNeg) v3 S) else (gd (inb v4 7) (m_X6_learn_J201 v2 v3 v4 (gA S 24 v4.toNatClampNeg) (gA S 24 v3.toNatClampNeg) v3 S)))))))
noncomputable def m_X6_learn_L145 (v2 : Int32) (v3 : Int32) (S : Hs) : Option ((Int32 × Hs) ⊕ Hs) := gd (inb 0 57) (if (gA S 14 (0 : Int32).toNatClampNeg) ≤ v3 then (some (.inr S)) else ((loopO (fun x => m_X6_learn_L158 v2 v3 x.1 x.2) ((0, S))).bind fun y158 => some (.inl ((v3 + 1, y158)))))
noncomputable def m_X6_learn_L133 (v2 : Int32) (S : Hs) : Option ((Int32 × Hs) ⊕ Hs) := gd (inb 0 57) (if (gA S 14 (0 : Int32).toNatClampNeg) ≤ v2 then (some (.inr S)) else ((loopO (fun x => m_X6_learn_L145 v2 x.1 x.2) ((0, S))).bind fun y145 => some (.inl ((v2 + 1, y145)))))
def m_X6_learn_L223 (v2 : Int32) (S : Hs) : Option ((Int32 × Hs) ⊕ Hs) := gd (inb 0 57) (if (gA S 14 (0 : Int32).toNatClampNeg) ≤ v2 then (some (.inr S)) else (gd (inb v2 7) (gd (inb v2 7) (bnd (sA S 24 v2.toNatClampNeg ((gA S 24 v2.toNatClampNeg) &&& ((1 <<< (v2 &&& 31)) ^^^ ((-1))))) fun S246 => (some (.inl ((v2 + 1, S246))))))))
noncomputable def m_X6_learn (v1 : Int32) (S : Hs) : Option (Hs) := (loopO (fun x => m_X6_learn_L2 v1 x.1 x.2) ((0, S))).bind fun y2 => (loopO (fun x => m_X6_learn_L133 x.1 x.2) ((0, y2))).bind fun y133 => (loopO (fun x => m_X6_learn_L223 x.1 x.2) ((0, y133))).bind fun y223 => some y223
set_option maxRecDepth 100000 in
set_option maxHeartbeats 4000000 in
theorem c_X6_learn (l : Launch) (g : GG) (hg : Inj g) (v1 : Int32)  (S : Hs) (S' : Hs) (hm : m_X6_learn v1 S = some S') : CM l yX6_learn [.code yX6_learn cX6_learn 6 none] rmX6_learn [.ref (g.2.1 13), .int v1] g S none S' := by
  unfold m_X6_learn at hm
  refine CM.of (cc := cX6_learn) (nL := 6) (ret := none) (lv := [(0, .ref (g.2.1 13)), (1, .int v1)]) (by decide +kernel) hg (Nat.le_of_ble_eq_true rfl) rfl (fun p e s m args below meth c A F => ?_)
  replace F : Fx p s m meth c cX6_learn RX6 6 none g A := F
  show J p l e rmX6_learn s m args below meth c g A 6 (MQ below (QC g A none S') args s 0 0 A) 0 0 0 [(0, .ref (g.2.1 13)), (1, .int v1)] [] S
  refine j_iconst F (v := 0) dX6_learn_0 (by decide) ?_
  refine j_istore_n F (lv' := [(2, .int 0), (0, .ref (g.2.1 13)), (1, .int v1)]) dX6_learn_1 (by decide) rfl ?_
  refine j_sub [1, 2, 0] rfl ?_
  obtain ⟨y2, hlp2, hm⟩ := Option.bind_eq_some_iff.mp hm
  refine loopO_walk (fun x => m_X6_learn_L2 v1 x.1 x.2) (fun x => J p l e rmX6_learn s m args below meth c g A 6 (MQ below (QC g A none S') args s 0 0 A) 0 0 2 [(0, .ref (g.2.1 13)), (1, .int v1), (2, .int x.1)] [] x.2) (fun x => J p l e rmX6_learn s m args below meth c g A 6 (MQ below (QC g A none S') args s 0 0 A) 0 0 131 [(0, .ref (g.2.1 13))] [] x) (fun x o1 hm hk1 => ?_) hlp2 ?_
  · obtain ⟨v2, S⟩ := x
    replace hm : m_X6_learn_L2 v1 v2 S = some o1 := hm
    show J p l e rmX6_learn s m args below meth c g A 6 (MQ below (QC g A none S') args s 0 0 A) 0 0 2 [(0, .ref (g.2.1 13)), (1, .int v1), (2, .int v2)] [] S
    unfold m_X6_learn_L2 at hm
    refine j_iload_n F 2 dX6_learn_2 rfl ?_
    refine j_aload_n F 0 dX6_learn_3 rfl ?_
    refine j_getR F (k0 := 1) (C := RX6) (T := TX6) (N := 20) rfl rfl rfl inF6 (by decide) tw520 dX6_learn_4 ?_
    refine j_iconst F (v := 0) dX6_learn_7 (by decide) ?_
    refine j_iald F rfl dX6_learn_8 hm (fun hm => ?_)
    refine j_icmp_ge F (tgt := 131) dX6_learn_9 (by decide) hm (fun _ hm => ?_) (fun _ hm => ?_)
    · cases hm
      refine j_sub [0] rfl ?_
      exact hk1
    · refine j_aload_n F 0 dX6_learn_12 rfl ?_
      refine j_getR F (k0 := 14) (C := RX6) (T := TX6) (N := 20) rfl rfl rfl inF6 (by decide) tw530 dX6_learn_13 ?_
      refine j_iload_n F 2 dX6_learn_16 rfl ?_
      refine j_iconst F (v := 0) dX6_learn_17 (by decide) ?_
      refine j_iast F rfl dX6_learn_18 hm (fun hm => ?_)
      refine j_bndS hm (fun S18 hm => ?_)
      refine j_iconst F (v := 0) dX6_learn_19 (by decide) ?_
      refine j_istore_n F (lv' := [(3, .int 0), (0, .ref (g.2.1 13)), (1, .int v1), (2, .int v2)]) dX6_learn_20 (by decide) rfl ?_
      refine j_sub [1, 2, 3, 0] rfl ?_
      obtain ⟨y21, hlp21, hm⟩ := Option.bind_eq_some_iff.mp hm
      refine loopO_walk (fun x => m_X6_learn_L21 v1 v2 x.1 x.2) (fun x => J p l e rmX6_learn s m args below meth c g A 6 (MQ below (QC g A none S') args s 0 0 A) 0 0 21 [(0, .ref (g.2.1 13)), (1, .int v1), (2, .int v2), (3, .int x.1)] [] x.2) (fun x => J p l e rmX6_learn s m args below meth c g A 6 (MQ below (QC g A none S') args s 0 0 A) 0 0 125 [(0, .ref (g.2.1 13)), (1, .int v1), (2, .int v2)] [] x) (fun x o2 hm hk2 => ?_) hlp21 ?_
      · obtain ⟨v3, S⟩ := x
        replace hm : m_X6_learn_L21 v1 v2 v3 S = some o2 := hm
        show J p l e rmX6_learn s m args below meth c g A 6 (MQ below (QC g A none S') args s 0 0 A) 0 0 21 [(0, .ref (g.2.1 13)), (1, .int v1), (2, .int v2), (3, .int v3)] [] S
        unfold m_X6_learn_L21 at hm
        have hj117 : ∀ (v3 : Int32) (w0 : Int32) (w1 : Int32) (w2 : Int32) (S : Hs), m_X6_learn_J117 v1 v2 v3 w0 w1 w2 S = some o2 → J p l e rmX6_learn s m args below meth c g A 6 (MQ below (QC g A none S') args s 0 0 A) 0 0 117 [(0, .ref (g.2.1 13)), (1, .int v1), (2, .int v2), (3, .int v3)] [.int w0, .int w1, .int w2, .ref (g.2.1 24)] S := by
          intro v3 w0 w1 w2 S hm
          unfold m_X6_learn_J117 at hm
          refine j_ior F dX6_learn_117 ?_
          refine j_iast F rfl dX6_learn_118 hm (fun hm => ?_)
          refine j_bndS hm (fun S118 hm => ?_)
          refine j_iinc F (v := v3 + 1) (lv' := [(3, .int (v3 + 1)), (0, .ref (g.2.1 13)), (1, .int v1), (2, .int v2)]) 3 dX6_learn_119 rfl rfl (by decide) rfl ?_
          refine j_goto F (tgt := 21) dX6_learn_122 (by decide) ?_
          cases hm
          refine j_sub [1, 2, 3, 0] rfl ?_
          exact hk2
        have hj116 : ∀ (v3 : Int32) (w0 : Int32) (w1 : Int32) (S : Hs), m_X6_learn_J116 v1 v2 v3 w0 w1 S = some o2 → J p l e rmX6_learn s m args below meth c g A 6 (MQ below (QC g A none S') args s 0 0 A) 0 0 116 [(0, .ref (g.2.1 13)), (1, .int v1), (2, .int v2), (3, .int v3)] [.int w0, .int w1, .ref (g.2.1 24)] S := by
          intro v3 w0 w1 S hm
          unfold m_X6_learn_J116 at hm
          refine j_iconst F (v := 0) dX6_learn_116 (by decide) ?_
          refine j_sub [0, 1, 2, 3] rfl ?_
          exact hj117 v3 0 w0 w1 S  hm
        have hj110 : ∀ (v3 : Int32) (w0 : Int32) (w1 : Int32) (S : Hs), m_X6_learn_J110 v1 v2 v3 w0 w1 S = some o2 → J p l e rmX6_learn s m args below meth c g A 6 (MQ below (QC g A none S') args s 0 0 A) 0 0 110 [(0, .ref (g.2.1 13)), (1, .int v1), (2, .int v2), (3, .int v3)] [.int w0, .int w1, .ref (g.2.1 24)] S := by
          intro v3 w0 w1 S hm
          unfold m_X6_learn_J110 at hm
          refine j_iconst F (v := 1) dX6_learn_110 (by decide) ?_
          refine j_iload_n F 3 dX6_learn_111 rfl ?_
          refine j_ishl F dX6_learn_112 ?_
          refine j_goto F (tgt := 117) dX6_learn_113 (by decide) ?_
          refine j_sub [0, 1, 2, 3] rfl ?_
          exact hj117 v3 (1 <<< (v3 &&& 31)) w0 w1 S  hm
        have hj97 : ∀ (v3 : Int32) (v5 : Int32) (w0 : Int32) (w1 : Int32) (S : Hs), m_X6_learn_J97 v1 v2 v3 v5 w0 w1 S = some o2 → J p l e rmX6_learn s m args below meth c g A 6 (MQ below (QC g A none S') args s 0 0 A) 0 0 97 [(0, .ref (g.2.1 13)), (1, .int v1), (2, .int v2), (3, .int v3), (5, .int v5)] [.int w0, .int w1, .ref (g.2.1 24)] S := by
          intro v3 v5 w0 w1 S hm
          unfold m_X6_learn_J97 at hm
          refine j_aload_n F 0 dX6_learn_97 rfl ?_
          refine j_iload_n F 3 dX6_learn_98 rfl ?_
          obtain ⟨r99, hc99, hm⟩ := Option.bind_eq_some_iff.mp hm
          refine j_callV F (n := 1) (As := [.int v3]) (rest := [.int w0, .int w1, .ref (g.2.1 24)]) (c_X6_isPerson l g hg v3 S r99 hc99) gw_X6_97 (by decide +kernel) ⟨Nat.le_of_ble_eq_true rfl, Nat.le_of_ble_eq_true rfl⟩ ⟨Nat.le_of_ble_eq_true rfl, Nat.le_of_ble_eq_true rfl⟩ rfl rfl rfl rfl (Nat.le_of_ble_eq_true rfl) dX6_learn_99 ?_
          show J p l e rmX6_learn s m args below meth c g A 6 (MQ below (QC g A none S') args s 0 0 A) 0 0 102 [(0, .ref (g.2.1 13)), (1, .int v1), (2, .int v2), (3, .int v3), (5, .int v5)] [.int r99, .int w0, .int w1, .ref (g.2.1 24)] S
          refine j_if_eq F (tgt := 116) dX6_learn_102 (by decide) hm (fun _ hm => ?_) (fun _ hm => ?_)
          · refine j_sub [0, 1, 2, 3] rfl ?_
            exact hj116 v3 w0 w1 S  hm
          · refine j_iload F 4 dX6_learn_105 rfl ?_
            refine j_if_eq F (tgt := 116) dX6_learn_107 (by decide) hm (fun _ hm => ?_) (fun _ hm => ?_)
            · refine j_sub [0, 1, 2, 3] rfl ?_
              exact hj116 v3 w0 w1 S  hm
            · refine j_sub [0, 1, 2, 3] rfl ?_
              exact hj110 v3 w0 w1 S  hm
        have hj75 : ∀ (v3 : Int32) (v4 : Int32) (w0 : Int32) (S : Hs), m_X6_learn_J75 v1 v2 v3 v4 w0 S = some o2 → J p l e rmX6_learn s m args below meth c g A 6 (MQ below (QC g A none S') args s 0 0 A) 0 0 75 [(0, .ref (g.2.1 13)), (1, .int v1), (2, .int v2), (3, .int v3), (4, .int v4)] [.int w0] S := by
          intro v3 v4 w0 S hm
          unfold m_X6_learn_J75 at hm
          refine j_istore F (lv' := [(5, .int w0), (0, .ref (g.2.1 13)), (1, .int v1), (2, .int v2), (3, .int v3), (4, .int v4)]) dX6_learn_75 (by decide) rfl ?_
          refine j_aload_n F 1 dX6_learn_77 rfl ?_
          refine j_getR F (k0 := 14) (C := RX6) (T := TX6) (N := 20) rfl rfl rfl inF6 (by decide) tw530 dX6_learn_78 ?_
          refine j_iload_n F 3 dX6_learn_81 rfl ?_
          refine j_dup2 F dX6_learn_82 rfl rfl ?_
          refine j_iald F rfl dX6_learn_83 hm (fun hm => ?_)
          refine j_aload_n F 1 dX6_learn_84 rfl ?_
          refine j_iload_n F 3 dX6_learn_85 rfl ?_
          obtain ⟨r86, hc86, hm⟩ := Option.bind_eq_some_iff.mp hm
          refine j_callV F (n := 1) (As := [.int v2]) (rest := [.int (gA S 24 v2.toNatClampNeg), .int v2, .ref (g.2.1 24)]) (c_X6_isPerson l g hg v2 S r86 hc86) gw_X6_97 (by decide +kernel) ⟨Nat.le_of_ble_eq_true rfl, Nat.le_of_ble_eq_true rfl⟩ ⟨Nat.le_of_ble_eq_true rfl, Nat.le_of_ble_eq_true rfl⟩ rfl rfl rfl rfl (Nat.le_of_ble_eq_true rfl) dX6_learn_86 ?_
          show J p l e rmX6_learn s m args below meth c g A 6 (MQ below (QC g A none S') args s 0 0 A) 0 0 89 [(5, .int w0), (0, .ref (g.2.1 13)), (1, .int v1), (2, .int v2), (3, .int v3), (4, .int v4)] [.int r86, .int (gA S 24 v2.toNatClampNeg), .int v2, .ref (g.2.1 24)] S
          refine j_if_eq F (tgt := 97) dX6_learn_89 (by decide) hm (fun _ hm => ?_) (fun _ hm => ?_)
          · refine j_sub [1, 2, 3, 4, 0] rfl ?_
            exact hj97 v3 w0 (gA S 24 v2.toNatClampNeg) v2 S  hm
          · refine j_iload F 5 dX6_learn_92 rfl ?_
            refine j_if_ne F (tgt := 110) dX6_learn_94 (by decide) hm (fun _ hm => ?_) (fun _ hm => ?_)
            · refine j_sub [1, 2, 3, 4] rfl ?_
              exact hj110 v3 (gA S 24 v2.toNatClampNeg) v2 S  hm
            · refine j_sub [1, 2, 3, 4, 0] rfl ?_
              exact hj97 v3 w0 (gA S 24 v2.toNatClampNeg) v2 S  hm
        have hj52 : ∀ (v3 : Int32) (w0 : Int32) (S : Hs), m_X6_learn_J52 v1 v2 v3 w0 S = some o2 → J p l e rmX6_learn s m args below meth c g A 6 (MQ below (QC g A none S') args s 0 0 A) 0 0 52 [(0, .ref (g.2.1 13)), (1, .int v1), (2, .int v2), (3, .int v3)] [.int w0] S := by
          intro v3 w0 S hm
          unfold m_X6_learn_J52 at hm
          refine j_istore F (lv' := [(4, .int w0), (0, .ref (g.2.1 13)), (1, .int v1), (2, .int v2), (3, .int v3)]) dX6_learn_52 (by decide) rfl ?_
          refine j_iload_n F 2 dX6_learn_54 rfl ?_
          refine j_if_eq F (tgt := 68) dX6_learn_55 (by decide) hm (fun _ hm => ?_) (fun _ hm => ?_)
          · refine j_aload_n F 1 dX6_learn_68 rfl ?_
            refine j_iload_n F 4 dX6_learn_69 rfl ?_
            refine j_iconst F (v := 3) dX6_learn_70 (by decide) ?_
            refine j_iload_n F 3 dX6_learn_71 rfl ?_
            obtain ⟨r72, hc72, hm⟩ := Option.bind_eq_some_iff.mp hm
            refine j_callV F (n := 3) (As := [.int v3, .int 3, .int v2]) (rest := []) (c_X6_has l g hg v3 3 v2 S r72 hc72) gw_X6_94 (by decide +kernel) ⟨Nat.le_of_ble_eq_true rfl, Nat.le_of_ble_eq_true rfl⟩ ⟨Nat.le_of_ble_eq_true rfl, Nat.le_of_ble_eq_true rfl⟩ rfl rfl rfl rfl (Nat.le_of_ble_eq_true rfl) dX6_learn_72 ?_
            show J p l e rmX6_learn s m args below meth c g A 6 (MQ below (QC g A none S') args s 0 0 A) 0 0 75 [(4, .int w0), (0, .ref (g.2.1 13)), (1, .int v1), (2, .int v2), (3, .int v3)] [.int r72] S
            refine j_sub [1, 2, 3, 4, 0] rfl ?_
            exact hj75 v3 w0 r72 S  hm
          · refine j_aload_n F 1 dX6_learn_58 rfl ?_
            refine j_iload_n F 4 dX6_learn_59 rfl ?_
            refine j_iconst F (v := 3) dX6_learn_60 (by decide) ?_
            refine j_iload_n F 3 dX6_learn_61 rfl ?_
            obtain ⟨r62, hc62, hm⟩ := Option.bind_eq_some_iff.mp hm
            refine j_callV F (n := 3) (As := [.int v3, .int 3, .int v2]) (rest := []) (c_X6_ends l g hg v3 3 v2 S r62 hc62) gw_X6_80 (by decide +kernel) ⟨Nat.le_of_ble_eq_true rfl, Nat.le_of_ble_eq_true rfl⟩ ⟨Nat.le_of_ble_eq_true rfl, Nat.le_of_ble_eq_true rfl⟩ rfl rfl rfl rfl (Nat.le_of_ble_eq_true rfl) dX6_learn_62 ?_
            show J p l e rmX6_learn s m args below meth c g A 6 (MQ below (QC g A none S') args s 0 0 A) 0 0 65 [(4, .int w0), (0, .ref (g.2.1 13)), (1, .int v1), (2, .int v2), (3, .int v3)] [.int r62] S
            refine j_goto F (tgt := 75) dX6_learn_65 (by decide) ?_
            refine j_sub [1, 2, 3, 4, 0] rfl ?_
            exact hj75 v3 w0 r62 S  hm
        refine j_iload_n F 3 dX6_learn_21 rfl ?_
        refine j_aload_n F 0 dX6_learn_22 rfl ?_
        refine j_getR F (k0 := 1) (C := RX6) (T := TX6) (N := 20) rfl rfl rfl inF6 (by decide) tw520 dX6_learn_23 ?_
        refine j_iconst F (v := 0) dX6_learn_26 (by decide) ?_
        refine j_iald F rfl dX6_learn_27 hm (fun hm => ?_)
        refine j_icmp_ge F (tgt := 125) dX6_learn_28 (by decide) hm (fun _ hm => ?_) (fun _ hm => ?_)
        · cases hm
          refine j_sub [0, 1, 2] rfl ?_
          exact hk2
        · refine j_iload_n F 1 dX6_learn_31 rfl ?_
          refine j_if_eq F (tgt := 45) dX6_learn_32 (by decide) hm (fun _ hm => ?_) (fun _ hm => ?_)
          · refine j_aload_n F 0 dX6_learn_45 rfl ?_
            refine j_iload_n F 2 dX6_learn_46 rfl ?_
            refine j_iconst F (v := 2) dX6_learn_47 (by decide) ?_
            refine j_iload_n F 3 dX6_learn_48 rfl ?_
            obtain ⟨r49, hc49, hm⟩ := Option.bind_eq_some_iff.mp hm
            refine j_callV F (n := 3) (As := [.int v2, .int 2, .int v3]) (rest := []) (c_X6_has l g hg v2 2 v3 S r49 hc49) gw_X6_94 (by decide +kernel) ⟨Nat.le_of_ble_eq_true rfl, Nat.le_of_ble_eq_true rfl⟩ ⟨Nat.le_of_ble_eq_true rfl, Nat.le_of_ble_eq_true rfl⟩ rfl rfl rfl rfl (Nat.le_of_ble_eq_true rfl) dX6_learn_49 ?_
            show J p l e rmX6_learn s m args below meth c g A 6 (MQ below (QC g A none S') args s 0 0 A) 0 0 52 [(0, .ref (g.2.1 13)), (1, .int v1), (2, .int v2), (3, .int v3)] [.int r49] S
            refine j_sub [0, 1, 2, 3] rfl ?_
            exact hj52 v3 r49 S  hm
          · refine j_aload_n F 0 dX6_learn_35 rfl ?_
            refine j_iload_n F 2 dX6_learn_36 rfl ?_
            refine j_iconst F (v := 2) dX6_learn_37 (by decide) ?_
            refine j_iload_n F 3 dX6_learn_38 rfl ?_
            obtain ⟨r39, hc39, hm⟩ := Option.bind_eq_some_iff.mp hm
            refine j_callV F (n := 3) (As := [.int v2, .int 2, .int v3]) (rest := []) (c_X6_ends l g hg v2 2 v3 S r39 hc39) gw_X6_80 (by decide +kernel) ⟨Nat.le_of_ble_eq_true rfl, Nat.le_of_ble_eq_true rfl⟩ ⟨Nat.le_of_ble_eq_true rfl, Nat.le_of_ble_eq_true rfl⟩ rfl rfl rfl rfl (Nat.le_of_ble_eq_true rfl) dX6_learn_39 ?_
            show J p l e rmX6_learn s m args below meth c g A 6 (MQ below (QC g A none S') args s 0 0 A) 0 0 42 [(0, .ref (g.2.1 13)), (1, .int v1), (2, .int v2), (3, .int v3)] [.int r39] S
            refine j_goto F (tgt := 52) dX6_learn_42 (by decide) ?_
            refine j_sub [0, 1, 2, 3] rfl ?_
            exact hj52 v3 r39 S  hm
      · show J p l e rmX6_learn s m args below meth c g A 6 (MQ below (QC g A none S') args s 0 0 A) 0 0 125 [(0, .ref (g.2.1 13)), (1, .int v1), (2, .int v2)] [] y21
        refine j_iinc F (v := v2 + 1) (lv' := [(2, .int (v2 + 1)), (0, .ref (g.2.1 13)), (1, .int v1)]) 2 dX6_learn_125 rfl rfl (by decide) rfl ?_
        refine j_goto F (tgt := 2) dX6_learn_128 (by decide) ?_
        cases hm
        refine j_sub [1, 2, 0] rfl ?_
        exact hk1
  · show J p l e rmX6_learn s m args below meth c g A 6 (MQ below (QC g A none S') args s 0 0 A) 0 0 131 [(0, .ref (g.2.1 13))] [] y2
    refine j_iconst F (v := 0) dX6_learn_131 (by decide) ?_
    refine j_istore_n F (lv' := [(2, .int 0), (0, .ref (g.2.1 13))]) dX6_learn_132 (by decide) rfl ?_
    refine j_sub [1, 0] rfl ?_
    obtain ⟨y133, hlp133, hm⟩ := Option.bind_eq_some_iff.mp hm
    refine loopO_walk (fun x => m_X6_learn_L133 x.1 x.2) (fun x => J p l e rmX6_learn s m args below meth c g A 6 (MQ below (QC g A none S') args s 0 0 A) 0 0 133 [(0, .ref (g.2.1 13)), (2, .int x.1)] [] x.2) (fun x => J p l e rmX6_learn s m args below meth c g A 6 (MQ below (QC g A none S') args s 0 0 A) 0 0 221 [(0, .ref (g.2.1 13))] [] x) (fun x o1 hm hk1 => ?_) hlp133 ?_
    · obtain ⟨v2, S⟩ := x
      replace hm : m_X6_learn_L133 v2 S = some o1 := hm
      show J p l e rmX6_learn s m args below meth c g A 6 (MQ below (QC g A none S') args s 0 0 A) 0 0 133 [(0, .ref (g.2.1 13)), (2, .int v2)] [] S
      unfold m_X6_learn_L133 at hm
      refine j_iload_n F 1 dX6_learn_133 rfl ?_
      refine j_aload_n F 0 dX6_learn_134 rfl ?_
      refine j_getR F (k0 := 1) (C := RX6) (T := TX6) (N := 20) rfl rfl rfl inF6 (by decide) tw520 dX6_learn_135 ?_
      refine j_iconst F (v := 0) dX6_learn_138 (by decide) ?_
      refine j_iald F rfl dX6_learn_139 hm (fun hm => ?_)
      refine j_icmp_ge F (tgt := 221) dX6_learn_140 (by decide) hm (fun _ hm => ?_) (fun _ hm => ?_)
      · cases hm
        refine j_sub [0] rfl ?_
        exact hk1
      · refine j_iconst F (v := 0) dX6_learn_143 (by decide) ?_
        refine j_istore_n F (lv' := [(3, .int 0), (0, .ref (g.2.1 13)), (2, .int v2)]) dX6_learn_144 (by decide) rfl ?_
        refine j_sub [1, 2, 0] rfl ?_
        obtain ⟨y145, hlp145, hm⟩ := Option.bind_eq_some_iff.mp hm
        refine loopO_walk (fun x => m_X6_learn_L145 v2 x.1 x.2) (fun x => J p l e rmX6_learn s m args below meth c g A 6 (MQ below (QC g A none S') args s 0 0 A) 0 0 145 [(0, .ref (g.2.1 13)), (2, .int v2), (3, .int x.1)] [] x.2) (fun x => J p l e rmX6_learn s m args below meth c g A 6 (MQ below (QC g A none S') args s 0 0 A) 0 0 215 [(0, .ref (g.2.1 13)), (2, .int v2)] [] x) (fun x o2 hm hk2 => ?_) hlp145 ?_
        · obtain ⟨v3, S⟩ := x
          replace hm : m_X6_learn_L145 v2 v3 S = some o2 := hm
          show J p l e rmX6_learn s m args below meth c g A 6 (MQ below (QC g A none S') args s 0 0 A) 0 0 145 [(0, .ref (g.2.1 13)), (2, .int v2), (3, .int v3)] [] S
          unfold m_X6_learn_L145 at hm
          refine j_iload_n F 2 dX6_learn_145 rfl ?_
          refine j_aload_n F 0 dX6_learn_146 rfl ?_
          refine j_getR F (k0 := 1) (C := RX6) (T := TX6) (N := 20) rfl rfl rfl inF6 (by decide) tw520 dX6_learn_147 ?_
          refine j_iconst F (v := 0) dX6_learn_150 (by decide) ?_
          refine j_iald F rfl dX6_learn_151 hm (fun hm => ?_)
          refine j_icmp_ge F (tgt := 215) dX6_learn_152 (by decide) hm (fun _ hm => ?_) (fun _ hm => ?_)
          · cases hm
            refine j_sub [0, 1] rfl ?_
            exact hk2
          · refine j_iconst F (v := 0) dX6_learn_155 (by decide) ?_
            refine j_istore F (lv' := [(4, .int 0), (0, .ref (g.2.1 13)), (2, .int v2), (3, .int v3)]) dX6_learn_156 (by decide) rfl ?_
            refine j_sub [1, 2, 3, 0] rfl ?_
            obtain ⟨y158, hlp158, hm⟩ := Option.bind_eq_some_iff.mp hm
            refine loopO_walk (fun x => m_X6_learn_L158 v2 v3 x.1 x.2) (fun x => J p l e rmX6_learn s m args below meth c g A 6 (MQ below (QC g A none S') args s 0 0 A) 0 0 158 [(0, .ref (g.2.1 13)), (2, .int v2), (3, .int v3), (4, .int x.1)] [] x.2) (fun x => J p l e rmX6_learn s m args below meth c g A 6 (MQ below (QC g A none S') args s 0 0 A) 0 0 209 [(0, .ref (g.2.1 13)), (2, .int v2), (3, .int v3)] [] x) (fun x o3 hm hk3 => ?_) hlp158 ?_
            · obtain ⟨v4, S⟩ := x
              replace hm : m_X6_learn_L158 v2 v3 v4 S = some o3 := hm
              show J p l e rmX6_learn s m args below meth c g A 6 (MQ below (QC g A none S') args s 0 0 A) 0 0 158 [(0, .ref (g.2.1 13)), (2, .int v2), (3, .int v3), (4, .int v4)] [] S
              unfold m_X6_learn_L158 at hm
              have hj201 : ∀ (v4 : Int32) (w0 : Int32) (w1 : Int32) (w2 : Int32) (S : Hs), m_X6_learn_J201 v2 v3 v4 w0 w1 w2 S = some o3 → J p l e rmX6_learn s m args below meth c g A 6 (MQ below (QC g A none S') args s 0 0 A) 0 0 201 [(0, .ref (g.2.1 13)), (2, .int v2), (3, .int v3), (4, .int v4)] [.int w0, .int w1, .int w2, .ref (g.2.1 24)] S := by
                intro v4 w0 w1 w2 S hm
                unfold m_X6_learn_J201 at hm
                refine j_ior F dX6_learn_201 ?_
                refine j_iast F rfl dX6_learn_202 hm (fun hm => ?_)
                refine j_bndS hm (fun S202 hm => ?_)
                refine j_iinc F (v := v4 + 1) (lv' := [(4, .int (v4 + 1)), (0, .ref (g.2.1 13)), (2, .int v2), (3, .int v3)]) 3 dX6_learn_203 rfl rfl (by decide) rfl ?_
                refine j_goto F (tgt := 158) dX6_learn_206 (by decide) ?_
                cases hm
                refine j_sub [1, 2, 3, 0] rfl ?_
                exact hk3
              refine j_iload F 3 dX6_learn_158 rfl ?_
              refine j_aload_n F 0 dX6_learn_160 rfl ?_
              refine j_getR F (k0 := 1) (C := RX6) (T := TX6) (N := 20) rfl rfl rfl inF6 (by decide) tw520 dX6_learn_161 ?_
              refine j_iconst F (v := 0) dX6_learn_164 (by decide) ?_
              refine j_iald F rfl dX6_learn_165 hm (fun hm => ?_)
              refine j_icmp_ge F (tgt := 209) dX6_learn_166 (by decide) hm (fun _ hm => ?_) (fun _ hm => ?_)
              · cases hm
                refine j_sub [0, 1, 2] rfl ?_
                exact hk3
              · refine j_aload_n F 0 dX6_learn_169 rfl ?_
                refine j_getR F (k0 := 14) (C := RX6) (T := TX6) (N := 20) rfl rfl rfl inF6 (by decide) tw530 dX6_learn_170 ?_
                refine j_iload_n F 2 dX6_learn_173 rfl ?_
                refine j_dup2 F dX6_learn_174 rfl rfl ?_
                refine j_iald F rfl dX6_learn_175 hm (fun hm => ?_)
                refine j_aload_n F 0 dX6_learn_176 rfl ?_
                refine j_getR F (k0 := 14) (C := RX6) (T := TX6) (N := 20) rfl rfl rfl inF6 (by decide) tw530 dX6_learn_177 ?_
                refine j_iload_n F 2 dX6_learn_180 rfl ?_
                refine j_iald F rfl dX6_learn_181 hm (fun hm => ?_)
                refine j_iload F 3 dX6_learn_182 rfl ?_
                obtain ⟨r184, hc184, hm⟩ := Option.bind_eq_some_iff.mp hm
                refine j_callS F (n := 2) (As := [.int (gA S 24 v3.toNatClampNeg), .int v4]) (rest := [.int (gA S 24 v3.toNatClampNeg), .int v3, .ref (g.2.1 24)]) (c_X6_isIn l g hg (gA S 24 v3.toNatClampNeg) v4 S r184 hc184) gw_X6_76 (by decide +kernel) ⟨Nat.le_of_ble_eq_true rfl, Nat.le_of_ble_eq_true rfl⟩ ⟨Nat.le_of_ble_eq_true rfl, Nat.le_of_ble_eq_true rfl⟩ rfl rfl (Nat.le_of_ble_eq_true rfl) dX6_learn_184 ?_
                show J p l e rmX6_learn s m args below meth c g A 6 (MQ below (QC g A none S') args s 0 0 A) 0 0 187 [(0, .ref (g.2.1 13)), (2, .int v2), (3, .int v3), (4, .int v4)] [.int r184, .int (gA S 24 v3.toNatClampNeg), .int v3, .ref (g.2.1 24)] S
                refine j_if_eq F (tgt := 200) dX6_learn_187 (by decide) hm (fun _ hm => ?_) (fun _ hm => ?_)
                · refine j_iconst F (v := 0) dX6_learn_200 (by decide) ?_
                  refine j_sub [0, 1, 2, 3] rfl ?_
                  exact hj201 v4 0 (gA S 24 v3.toNatClampNeg) v3 S  hm
                · refine j_aload_n F 0 dX6_learn_190 rfl ?_
                  refine j_getR F (k0 := 14) (C := RX6) (T := TX6) (N := 20) rfl rfl rfl inF6 (by decide) tw530 dX6_learn_191 ?_
                  refine j_iload F 3 dX6_learn_194 rfl ?_
                  refine j_iald F rfl dX6_learn_196 hm (fun hm => ?_)
                  refine j_goto F (tgt := 201) dX6_learn_197 (by decide) ?_
                  refine j_sub [0, 1, 2, 3] rfl ?_
                  exact hj201 v4 (gA S 24 v4.toNatClampNeg) (gA S 24 v3.toNatClampNeg) v3 S  hm
            · show J p l e rmX6_learn s m args below meth c g A 6 (MQ below (QC g A none S') args s 0 0 A) 0 0 209 [(0, .ref (g.2.1 13)), (2, .int v2), (3, .int v3)] [] y158
              refine j_iinc F (v := v3 + 1) (lv' := [(3, .int (v3 + 1)), (0, .ref (g.2.1 13)), (2, .int v2)]) 2 dX6_learn_209 rfl rfl (by decide) rfl ?_
              refine j_goto F (tgt := 145) dX6_learn_212 (by decide) ?_
              cases hm
              refine j_sub [1, 2, 0] rfl ?_
              exact hk2
        · show J p l e rmX6_learn s m args below meth c g A 6 (MQ below (QC g A none S') args s 0 0 A) 0 0 215 [(0, .ref (g.2.1 13)), (2, .int v2)] [] y145
          refine j_iinc F (v := v2 + 1) (lv' := [(2, .int (v2 + 1)), (0, .ref (g.2.1 13))]) 1 dX6_learn_215 rfl rfl (by decide) rfl ?_
          refine j_goto F (tgt := 133) dX6_learn_218 (by decide) ?_
          cases hm
          refine j_sub [1, 0] rfl ?_
          exact hk1
    · show J p l e rmX6_learn s m args below meth c g A 6 (MQ below (QC g A none S') args s 0 0 A) 0 0 221 [(0, .ref (g.2.1 13))] [] y133
      refine j_iconst F (v := 0) dX6_learn_221 (by decide) ?_
      refine j_istore_n F (lv' := [(2, .int 0), (0, .ref (g.2.1 13))]) dX6_learn_222 (by decide) rfl ?_
      refine j_sub [1, 0] rfl ?_
      obtain ⟨y223, hlp223, hm⟩ := Option.bind_eq_some_iff.mp hm
      refine loopO_walk (fun x => m_X6_learn_L223 x.1 x.2) (fun x => J p l e rmX6_learn s m args below meth c g A 6 (MQ below (QC g A none S') args s 0 0 A) 0 0 223 [(0, .ref (g.2.1 13)), (2, .int x.1)] [] x.2) (fun x => J p l e rmX6_learn s m args below meth c g A 6 (MQ below (QC g A none S') args s 0 0 A) 0 0 253 [] [] x) (fun x o1 hm hk1 => ?_) hlp223 ?_
      · obtain ⟨v2, S⟩ := x
        replace hm : m_X6_learn_L223 v2 S = some o1 := hm
        show J p l e rmX6_learn s m args below meth c g A 6 (MQ below (QC g A none S') args s 0 0 A) 0 0 223 [(0, .ref (g.2.1 13)), (2, .int v2)] [] S
        unfold m_X6_learn_L223 at hm
        refine j_iload_n F 1 dX6_learn_223 rfl ?_
        refine j_aload_n F 0 dX6_learn_224 rfl ?_
        refine j_getR F (k0 := 1) (C := RX6) (T := TX6) (N := 20) rfl rfl rfl inF6 (by decide) tw520 dX6_learn_225 ?_
        refine j_iconst F (v := 0) dX6_learn_228 (by decide) ?_
        refine j_iald F rfl dX6_learn_229 hm (fun hm => ?_)
        refine j_icmp_ge F (tgt := 253) dX6_learn_230 (by decide) hm (fun _ hm => ?_) (fun _ hm => ?_)
        · cases hm
          refine j_sub [] rfl ?_
          exact hk1
        · refine j_aload_n F 0 dX6_learn_233 rfl ?_
          refine j_getR F (k0 := 14) (C := RX6) (T := TX6) (N := 20) rfl rfl rfl inF6 (by decide) tw530 dX6_learn_234 ?_
          refine j_iload_n F 1 dX6_learn_237 rfl ?_
          refine j_dup2 F dX6_learn_238 rfl rfl ?_
          refine j_iald F rfl dX6_learn_239 hm (fun hm => ?_)
          refine j_iconst F (v := 1) dX6_learn_240 (by decide) ?_
          refine j_iload_n F 1 dX6_learn_241 rfl ?_
          refine j_ishl F dX6_learn_242 ?_
          refine j_iconst F (v := -1) dX6_learn_243 (by decide) ?_
          refine j_ixor F dX6_learn_244 ?_
          refine j_iand F dX6_learn_245 ?_
          refine j_iast F rfl dX6_learn_246 hm (fun hm => ?_)
          refine j_bndS hm (fun S246 hm => ?_)
          refine j_iinc F (v := v2 + 1) (lv' := [(2, .int (v2 + 1)), (0, .ref (g.2.1 13))]) 1 dX6_learn_247 rfl rfl (by decide) rfl ?_
          refine j_goto F (tgt := 223) dX6_learn_250 (by decide) ?_
          cases hm
          refine j_sub [1, 0] rfl ?_
          exact hk1
      · show J p l e rmX6_learn s m args below meth c g A 6 (MQ below (QC g A none S') args s 0 0 A) 0 0 253 [] [] y223
        exact j_vret_e F rfl dX6_learn_253 hm
noncomputable def m_X6_pairs_L9 (S : Hs) (v2 : Int32) (v3 : Int32) : Option ((Int32 × Int32) ⊕ Int32) := gd (inb 0 57) (if (gA S 14 (0 : Int32).toNatClampNeg) ≤ v3 then (some (.inr v2)) else (gd (inb v3 7) ((m_X6_bits (gA S 24 v3.toNatClampNeg)).bind fun r26 => (bnd (v2 + r26) fun v2_30 => (some (.inl ((v2_30, v3 + 1))))))))
noncomputable def m_X6_pairs (v1 : Int32) (S : Hs) : Option (Int32 × Hs) := (m_X6_learn v1 S).bind fun S2 => ((loopO (fun x => m_X6_pairs_L9 S2 x.1 x.2) ((0, 0))).bind fun y9 => some ((y9, S2)))
set_option maxRecDepth 100000 in
set_option maxHeartbeats 4000000 in
theorem c_X6_pairs (l : Launch) (g : GG) (hg : Inj g) (v1 : Int32)  (S : Hs) (r : Int32) (S' : Hs) (hm : m_X6_pairs v1 S = some ((r, S'))) : CM l yX6_pairs [.code yX6_pairs cX6_pairs 4 (some .int)] rmX6_pairs [.ref (g.2.1 13), .int v1] g S (some (.int r)) S' := by
  unfold m_X6_pairs at hm
  refine CM.of (cc := cX6_pairs) (nL := 4) (ret := (some .int)) (lv := [(0, .ref (g.2.1 13)), (1, .int v1)]) (by decide +kernel) hg (Nat.le_of_ble_eq_true rfl) rfl (fun p e s m args below meth c A F => ?_)
  replace F : Fx p s m meth c cX6_pairs RX6 4 (some .int) g A := F
  show J p l e rmX6_pairs s m args below meth c g A 4 (MQ below (QC g A (some (.int r)) S') args s 0 0 A) 0 0 0 [(0, .ref (g.2.1 13)), (1, .int v1)] [] S
  refine j_aload_n F 0 dX6_pairs_0 rfl ?_
  refine j_iload_n F 1 dX6_pairs_1 rfl ?_
  obtain ⟨S2, hc2, hm⟩ := Option.bind_eq_some_iff.mp hm
  refine j_callV F (n := 1) (As := [.int v1]) (rest := []) (c_X6_learn l g hg v1 S S2 hc2) gw_X6_100 (by decide +kernel) ⟨Nat.le_of_ble_eq_true rfl, Nat.le_of_ble_eq_true rfl⟩ ⟨Nat.le_of_ble_eq_true rfl, Nat.le_of_ble_eq_true rfl⟩ rfl rfl rfl rfl (Nat.le_of_ble_eq_true rfl) dX6_pairs_2 ?_
  show J p l e rmX6_pairs s m args below meth c g A 4 (MQ below (QC g A (some (.int r)) S') args s 0 0 A) 0 0 5 [(0, .ref (g.2.1 13)), (1, .int v1)] [] S2
  refine j_iconst F (v := 0) dX6_pairs_5 (by decide) ?_
  refine j_istore_n F (lv' := [(2, .int 0), (0, .ref (g.2.1 13)), (1, .int v1)]) dX6_pairs_6 (by decide) rfl ?_
  refine j_iconst F (v := 0) dX6_pairs_7 (by decide) ?_
  refine j_istore_n F (lv' := [(3, .int 0), (2, .int 0), (0, .ref (g.2.1 13)), (1, .int v1)]) dX6_pairs_8 (by decide) rfl ?_
  refine j_sub [2, 1, 0] rfl ?_
  obtain ⟨y9, hlp9, hm⟩ := Option.bind_eq_some_iff.mp hm
  refine loopO_walk (fun x => m_X6_pairs_L9 S2 x.1 x.2) (fun x => J p l e rmX6_pairs s m args below meth c g A 4 (MQ below (QC g A (some (.int r)) S') args s 0 0 A) 0 0 9 [(0, .ref (g.2.1 13)), (2, .int x.1), (3, .int x.2)] [] S2) (fun x => J p l e rmX6_pairs s m args below meth c g A 4 (MQ below (QC g A (some (.int r)) S') args s 0 0 A) 0 0 37 [(2, .int x)] [] S2) (fun x o1 hm hk1 => ?_) hlp9 ?_
  · obtain ⟨v2, v3⟩ := x
    replace hm : m_X6_pairs_L9 S2 v2 v3 = some o1 := hm
    show J p l e rmX6_pairs s m args below meth c g A 4 (MQ below (QC g A (some (.int r)) S') args s 0 0 A) 0 0 9 [(0, .ref (g.2.1 13)), (2, .int v2), (3, .int v3)] [] S2
    unfold m_X6_pairs_L9 at hm
    refine j_iload_n F 2 dX6_pairs_9 rfl ?_
    refine j_aload_n F 0 dX6_pairs_10 rfl ?_
    refine j_getR F (k0 := 1) (C := RX6) (T := TX6) (N := 20) rfl rfl rfl inF6 (by decide) tw520 dX6_pairs_11 ?_
    refine j_iconst F (v := 0) dX6_pairs_14 (by decide) ?_
    refine j_iald F rfl dX6_pairs_15 hm (fun hm => ?_)
    refine j_icmp_ge F (tgt := 37) dX6_pairs_16 (by decide) hm (fun _ hm => ?_) (fun _ hm => ?_)
    · cases hm
      refine j_sub [1] rfl ?_
      exact hk1
    · refine j_iload_n F 1 dX6_pairs_19 rfl ?_
      refine j_aload_n F 0 dX6_pairs_20 rfl ?_
      refine j_getR F (k0 := 14) (C := RX6) (T := TX6) (N := 20) rfl rfl rfl inF6 (by decide) tw530 dX6_pairs_21 ?_
      refine j_iload_n F 2 dX6_pairs_24 rfl ?_
      refine j_iald F rfl dX6_pairs_25 hm (fun hm => ?_)
      obtain ⟨r26, hc26, hm⟩ := Option.bind_eq_some_iff.mp hm
      refine j_callS F (n := 1) (As := [.int (gA S2 24 v3.toNatClampNeg)]) (rest := [.int v2]) (c_X6_bits l g hg (gA S2 24 v3.toNatClampNeg) S2 r26 hc26) gw_X6_72 (by decide +kernel) ⟨Nat.le_of_ble_eq_true rfl, Nat.le_of_ble_eq_true rfl⟩ ⟨Nat.le_of_ble_eq_true rfl, Nat.le_of_ble_eq_true rfl⟩ rfl rfl (Nat.le_of_ble_eq_true rfl) dX6_pairs_26 ?_
      show J p l e rmX6_pairs s m args below meth c g A 4 (MQ below (QC g A (some (.int r)) S') args s 0 0 A) 0 0 29 [(0, .ref (g.2.1 13)), (2, .int v2), (3, .int v3)] [.int r26, .int v2] S2
      refine j_iadd F dX6_pairs_29 ?_
      refine j_bnd hm (fun v2_30 hm => ?_)
      refine j_istore_n F (lv' := [(2, .int v2_30), (0, .ref (g.2.1 13)), (3, .int v3)]) dX6_pairs_30 (by decide) rfl ?_
      refine j_iinc F (v := v3 + 1) (lv' := [(3, .int (v3 + 1)), (2, .int v2_30), (0, .ref (g.2.1 13))]) 2 dX6_pairs_31 rfl rfl (by decide) rfl ?_
      refine j_goto F (tgt := 9) dX6_pairs_34 (by decide) ?_
      cases hm
      refine j_sub [2, 1, 0] rfl ?_
      exact hk1
  · show J p l e rmX6_pairs s m args below meth c g A 4 (MQ below (QC g A (some (.int r)) S') args s 0 0 A) 0 0 37 [(2, .int y9)] [] S2
    refine j_iload_n F 0 dX6_pairs_37 rfl ?_
    exact j_iret_e F rfl dX6_pairs_38 hm
def m_X6_append_J30 (v1 : Int32) (w0 : Int32) (S : Hs) : Option (Int32 × Hs) := bnd (sI S 13 0 w0) fun S30 => (if (gI S30 13 0) ≤ 0 then (gd (inb (gI S30 13 8) 110) (bnd (sA S30 19 (gI S30 13 8).toNatClampNeg v1) fun S51 => (bnd (sI S51 13 8 ((gI S51 13 8) + 1)) fun S59 => (some ((gI S59 13 8, S59)))))) else (some ((0, S30))))
def m_X6_append (v1 : Int32) (S : Hs) : Option (Int32 × Hs) := (m_X6_in v1 0 255).bind fun r6 => (if r6 = 0 then (m_X6_append_J30 v1 1 S) else (if (gI S 13 8) = 110 then (m_X6_append_J30 v1 2 S) else (m_X6_append_J30 v1 0 S)))
set_option maxRecDepth 100000 in
set_option maxHeartbeats 4000000 in
theorem c_X6_append (l : Launch) (g : GG) (hg : Inj g) (v1 : Int32)  (S : Hs) (r : Int32) (S' : Hs) (hm : m_X6_append v1 S = some ((r, S'))) : CM l yX6_append [.code yX6_append cX6_append 2 (some .int)] rmX6_append [.ref (g.2.1 13), .int v1] g S (some (.int r)) S' := by
  unfold m_X6_append at hm
  refine CM.of (cc := cX6_append) (nL := 2) (ret := (some .int)) (lv := [(0, .ref (g.2.1 13)), (1, .int v1)]) (by decide +kernel) hg (Nat.le_of_ble_eq_true rfl) rfl (fun p e s m args below meth c A F => ?_)
  replace F : Fx p s m meth c cX6_append RX6 2 (some .int) g A := F
  show J p l e rmX6_append s m args below meth c g A 2 (MQ below (QC g A (some (.int r)) S') args s 0 0 A) 0 0 0 [(0, .ref (g.2.1 13)), (1, .int v1)] [] S
  have hj30 : ∀ (v1 : Int32) (w0 : Int32) (S : Hs), m_X6_append_J30 v1 w0 S = some ((r, S')) → J p l e rmX6_append s m args below meth c g A 2 (MQ below (QC g A (some (.int r)) S') args s 0 0 A) 0 0 30 [(0, .ref (g.2.1 13)), (1, .int v1)] [.int w0, .ref (g.2.1 13)] S := by
    intro v1 w0 S hm
    unfold m_X6_append_J30 at hm
    refine j_putI F (k0 := 0) (C := RX6) (T := TX6) (N := 20) tyX6 tyX6_ok nmX6 rfl rfl rfl inF6 (by decide) tw535 rfl (by decide +kernel) dX6_append_30 ?_
    refine j_bndS hm (fun S30 hm => ?_)
    refine j_aload_n F 0 dX6_append_33 rfl ?_
    refine j_getI F (k0 := 0) (C := RX6) (T := TX6) (N := 20) rfl rfl rfl inF6 (by decide) tw535 dX6_append_34 ?_
    refine j_if_le F (tgt := 42) dX6_append_37 (by decide) hm (fun _ hm => ?_) (fun _ hm => ?_)
    · refine j_aload_n F 0 dX6_append_42 rfl ?_
      refine j_getR F (k0 := 7) (C := RX6) (T := TX6) (N := 20) rfl rfl rfl inF6 (by decide) tw525 dX6_append_43 ?_
      refine j_aload_n F 0 dX6_append_46 rfl ?_
      refine j_getI F (k0 := 8) (C := RX6) (T := TX6) (N := 20) rfl rfl rfl inF6 (by decide) tw591 dX6_append_47 ?_
      refine j_iload_n F 1 dX6_append_50 rfl ?_
      refine j_iast F rfl dX6_append_51 hm (fun hm => ?_)
      refine j_bndS hm (fun S51 hm => ?_)
      refine j_aload_n F 0 dX6_append_52 rfl ?_
      refine j_dup F dX6_append_53 rfl ?_
      refine j_getI F (k0 := 8) (C := RX6) (T := TX6) (N := 20) rfl rfl rfl inF6 (by decide) tw591 dX6_append_54 ?_
      refine j_iconst F (v := 1) dX6_append_57 (by decide) ?_
      refine j_iadd F dX6_append_58 ?_
      refine j_putI F (k0 := 8) (C := RX6) (T := TX6) (N := 20) tyX6 tyX6_ok nmX6 rfl rfl rfl inF6 (by decide) tw591 rfl (by decide +kernel) dX6_append_59 ?_
      refine j_bndS hm (fun S59 hm => ?_)
      refine j_aload_n F 0 dX6_append_62 rfl ?_
      refine j_getI F (k0 := 8) (C := RX6) (T := TX6) (N := 20) rfl rfl rfl inF6 (by decide) tw591 dX6_append_63 ?_
      exact j_iret_e F rfl dX6_append_66 hm
    · refine j_iconst F (v := 0) dX6_append_40 (by decide) ?_
      exact j_iret_e F rfl dX6_append_41 hm
  refine j_aload_n F 0 dX6_append_0 rfl ?_
  refine j_iload_n F 1 dX6_append_1 rfl ?_
  refine j_iconst F (v := 0) dX6_append_2 (by decide) ?_
  refine j_sipush F (v := 255) dX6_append_3 (by decide) ?_
  obtain ⟨r6, hc6, hm⟩ := Option.bind_eq_some_iff.mp hm
  refine j_callS F (n := 3) (As := [.int v1, .int 0, .int 255]) (rest := [.ref (g.2.1 13)]) (c_X6_in l g hg v1 0 255 S r6 hc6) gw_X6_60 (by decide +kernel) ⟨Nat.le_of_ble_eq_true rfl, Nat.le_of_ble_eq_true rfl⟩ ⟨Nat.le_of_ble_eq_true rfl, Nat.le_of_ble_eq_true rfl⟩ rfl rfl (Nat.le_of_ble_eq_true rfl) dX6_append_6 ?_
  show J p l e rmX6_append s m args below meth c g A 2 (MQ below (QC g A (some (.int r)) S') args s 0 0 A) 0 0 9 [(0, .ref (g.2.1 13)), (1, .int v1)] [.int r6, .ref (g.2.1 13)] S
  refine j_if_ne F (tgt := 16) dX6_append_9 (by decide) hm (fun _ hm => ?_) (fun _ hm => ?_)
  · refine j_aload_n F 0 dX6_append_16 rfl ?_
    refine j_getI F (k0 := 8) (C := RX6) (T := TX6) (N := 20) rfl rfl rfl inF6 (by decide) tw591 dX6_append_17 ?_
    refine j_bipush F (v := 110) dX6_append_20 (by decide) ?_
    refine j_icmp_ne F (tgt := 29) dX6_append_22 (by decide) hm (fun _ hm => ?_) (fun _ hm => ?_)
    · refine j_iconst F (v := 0) dX6_append_29 (by decide) ?_
      refine j_sub [0, 1] rfl ?_
      exact hj30 v1 0 S  hm
    · refine j_iconst F (v := 2) dX6_append_25 (by decide) ?_
      refine j_goto F (tgt := 30) dX6_append_26 (by decide) ?_
      refine j_sub [0, 1] rfl ?_
      exact hj30 v1 2 S  hm
  · refine j_iconst F (v := 1) dX6_append_12 (by decide) ?_
    refine j_goto F (tgt := 30) dX6_append_13 (by decide) ?_
    refine j_sub [0, 1] rfl ?_
    exact hj30 v1 1 S  hm
def m_X6_clearText (S : Hs) : Option (Int32 × Hs) := bnd (sI S 13 0 0) fun S2 => (bnd (gI S2 13 8) fun v1_9 => (bnd (sI S2 13 8 0) fun S12 => (some ((v1_9, S12)))))
set_option maxRecDepth 100000 in
set_option maxHeartbeats 4000000 in
theorem c_X6_clearText (l : Launch) (g : GG) (hg : Inj g)   (S : Hs) (r : Int32) (S' : Hs) (hm : m_X6_clearText S = some ((r, S'))) : CM l yX6_clearText [.code yX6_clearText cX6_clearText 2 (some .int)] rmX6_clearText [.ref (g.2.1 13)] g S (some (.int r)) S' := by
  unfold m_X6_clearText at hm
  refine CM.of (cc := cX6_clearText) (nL := 2) (ret := (some .int)) (lv := [(0, .ref (g.2.1 13))]) (by decide +kernel) hg (Nat.le_of_ble_eq_true rfl) rfl (fun p e s m args below meth c A F => ?_)
  replace F : Fx p s m meth c cX6_clearText RX6 2 (some .int) g A := F
  show J p l e rmX6_clearText s m args below meth c g A 2 (MQ below (QC g A (some (.int r)) S') args s 0 0 A) 0 0 0 [(0, .ref (g.2.1 13))] [] S
  refine j_aload_n F 0 dX6_clearText_0 rfl ?_
  refine j_iconst F (v := 0) dX6_clearText_1 (by decide) ?_
  refine j_putI F (k0 := 0) (C := RX6) (T := TX6) (N := 20) tyX6 tyX6_ok nmX6 rfl rfl rfl inF6 (by decide) tw535 rfl (by decide +kernel) dX6_clearText_2 ?_
  refine j_bndS hm (fun S2 hm => ?_)
  refine j_aload_n F 0 dX6_clearText_5 rfl ?_
  refine j_getI F (k0 := 8) (C := RX6) (T := TX6) (N := 20) rfl rfl rfl inF6 (by decide) tw591 dX6_clearText_6 ?_
  refine j_bnd hm (fun v1_9 hm => ?_)
  refine j_istore_n F (lv' := [(1, .int v1_9), (0, .ref (g.2.1 13))]) dX6_clearText_9 (by decide) rfl ?_
  refine j_aload_n F 1 dX6_clearText_10 rfl ?_
  refine j_iconst F (v := 0) dX6_clearText_11 (by decide) ?_
  refine j_putI F (k0 := 8) (C := RX6) (T := TX6) (N := 20) tyX6 tyX6_ok nmX6 rfl rfl rfl inF6 (by decide) tw591 rfl (by decide +kernel) dX6_clearText_12 ?_
  refine j_bndS hm (fun S12 hm => ?_)
  refine j_iload_n F 0 dX6_clearText_15 rfl ?_
  exact j_iret_e F rfl dX6_clearText_16 hm
def m_X6_letter_J18 (w0 : Int32) (S : Hs) : Option (Int32) := some w0
def m_X6_letter (v1 : Int32) (S : Hs) : Option (Int32) := if (gI S 13 8) ≤ v1 then (m_X6_letter_J18 ((-1)) S) else (gd (inb v1 110) (m_X6_letter_J18 (gA S 19 v1.toNatClampNeg) S))
set_option maxRecDepth 100000 in
set_option maxHeartbeats 4000000 in
theorem c_X6_letter (l : Launch) (g : GG) (hg : Inj g) (v1 : Int32)  (S : Hs) (r : Int32) (hm : m_X6_letter v1 S = some r) : CM l yX6_letter [.code yX6_letter cX6_letter 2 (some .int)] rmX6_letter [.ref (g.2.1 13), .int v1] g S (some (.int r)) S := by
  unfold m_X6_letter at hm
  refine CM.of (cc := cX6_letter) (nL := 2) (ret := (some .int)) (lv := [(0, .ref (g.2.1 13)), (1, .int v1)]) (by decide +kernel) hg (Nat.le_of_ble_eq_true rfl) rfl (fun p e s m args below meth c A F => ?_)
  replace F : Fx p s m meth c cX6_letter RX6 2 (some .int) g A := F
  show J p l e rmX6_letter s m args below meth c g A 2 (MQ below (QC g A (some (.int r)) S) args s 0 0 A) 0 0 0 [(0, .ref (g.2.1 13)), (1, .int v1)] [] S
  have hj18 : ∀ (w0 : Int32) (S : Hs), m_X6_letter_J18 w0 S = some r → J p l e rmX6_letter s m args below meth c g A 2 (MQ below (QC g A (some (.int r)) S) args s 0 0 A) 0 0 18 [] [.int w0] S := by
    intro w0 S hm
    unfold m_X6_letter_J18 at hm
    exact j_iret_p F rfl dX6_letter_18 hm
  refine j_iload_n F 1 dX6_letter_0 rfl ?_
  refine j_aload_n F 0 dX6_letter_1 rfl ?_
  refine j_getI F (k0 := 8) (C := RX6) (T := TX6) (N := 20) rfl rfl rfl inF6 (by decide) tw591 dX6_letter_2 ?_
  refine j_icmp_ge F (tgt := 17) dX6_letter_5 (by decide) hm (fun _ hm => ?_) (fun _ hm => ?_)
  · refine j_iconst F (v := -1) dX6_letter_17 (by decide) ?_
    refine j_sub [] rfl ?_
    exact hj18 ((-1)) S  hm
  · refine j_aload_n F 0 dX6_letter_8 rfl ?_
    refine j_getR F (k0 := 7) (C := RX6) (T := TX6) (N := 20) rfl rfl rfl inF6 (by decide) tw525 dX6_letter_9 ?_
    refine j_iload_n F 1 dX6_letter_12 rfl ?_
    refine j_iald F rfl dX6_letter_13 hm (fun hm => ?_)
    refine j_goto F (tgt := 18) dX6_letter_14 (by decide) ?_
    refine j_sub [] rfl ?_
    exact hj18 (gA S 19 v1.toNatClampNeg) S  hm
def m_X6_kindOf_J31 (w0 : Int32) : Option (Int32) := some w0
def m_X6_kindOf (v0 : Int32) : Option (Int32) := if v0 = 112 then (m_X6_kindOf_J31 1) else (if v0 = 115 then (m_X6_kindOf_J31 2) else (if v0 = 98 then (m_X6_kindOf_J31 0) else (m_X6_kindOf_J31 ((-1)))))
set_option maxRecDepth 100000 in
set_option maxHeartbeats 4000000 in
theorem c_X6_kindOf (l : Launch) (g : GG) (hg : Inj g) (v0 : Int32)  (S : Hs) (r : Int32) (hm : m_X6_kindOf v0 = some r) : CM l yX6_kindOf [.code yX6_kindOf cX6_kindOf 1 (some .int)] rmX6_kindOf [.int v0] g S (some (.int r)) S := by
  unfold m_X6_kindOf at hm
  refine CM.of (cc := cX6_kindOf) (nL := 1) (ret := (some .int)) (lv := [(0, .int v0)]) (by decide +kernel) hg (Nat.le_of_ble_eq_true rfl) rfl (fun p e s m args below meth c A F => ?_)
  replace F : Fx p s m meth c cX6_kindOf RX6 1 (some .int) g A := F
  show J p l e rmX6_kindOf s m args below meth c g A 1 (MQ below (QC g A (some (.int r)) S) args s 0 0 A) 0 0 0 [(0, .int v0)] [] S
  have hj31 : ∀ (w0 : Int32), m_X6_kindOf_J31 w0 = some r → J p l e rmX6_kindOf s m args below meth c g A 1 (MQ below (QC g A (some (.int r)) S) args s 0 0 A) 0 0 31 [] [.int w0] S := by
    intro w0 hm
    unfold m_X6_kindOf_J31 at hm
    exact j_iret_p F rfl dX6_kindOf_31 hm
  refine j_iload_n F 0 dX6_kindOf_0 rfl ?_
  refine j_bipush F (v := 112) dX6_kindOf_1 (by decide) ?_
  refine j_icmp_ne F (tgt := 10) dX6_kindOf_3 (by decide) hm (fun _ hm => ?_) (fun _ hm => ?_)
  · refine j_iload_n F 0 dX6_kindOf_10 rfl ?_
    refine j_bipush F (v := 115) dX6_kindOf_11 (by decide) ?_
    refine j_icmp_ne F (tgt := 20) dX6_kindOf_13 (by decide) hm (fun _ hm => ?_) (fun _ hm => ?_)
    · refine j_iload_n F 0 dX6_kindOf_20 rfl ?_
      refine j_bipush F (v := 98) dX6_kindOf_21 (by decide) ?_
      refine j_icmp_ne F (tgt := 30) dX6_kindOf_23 (by decide) hm (fun _ hm => ?_) (fun _ hm => ?_)
      · refine j_iconst F (v := -1) dX6_kindOf_30 (by decide) ?_
        refine j_sub [] rfl ?_
        exact hj31 ((-1))  hm
      · refine j_iconst F (v := 0) dX6_kindOf_26 (by decide) ?_
        refine j_goto F (tgt := 31) dX6_kindOf_27 (by decide) ?_
        refine j_sub [] rfl ?_
        exact hj31 0  hm
    · refine j_iconst F (v := 2) dX6_kindOf_16 (by decide) ?_
      refine j_goto F (tgt := 31) dX6_kindOf_17 (by decide) ?_
      refine j_sub [] rfl ?_
      exact hj31 2  hm
  · refine j_iconst F (v := 1) dX6_kindOf_6 (by decide) ?_
    refine j_goto F (tgt := 31) dX6_kindOf_7 (by decide) ?_
    refine j_sub [] rfl ?_
    exact hj31 1  hm
def m_X6_rightOf_J41 (w0 : Int32) : Option (Int32) := some w0
def m_X6_rightOf (v0 : Int32) : Option (Int32) := if v0 = 116 then (m_X6_rightOf_J41 0) else (if v0 = 103 then (m_X6_rightOf_J41 1) else (if v0 = 114 then (m_X6_rightOf_J41 2) else (if v0 = 119 then (m_X6_rightOf_J41 3) else (m_X6_rightOf_J41 ((-1))))))
set_option maxRecDepth 100000 in
set_option maxHeartbeats 4000000 in
theorem c_X6_rightOf (l : Launch) (g : GG) (hg : Inj g) (v0 : Int32)  (S : Hs) (r : Int32) (hm : m_X6_rightOf v0 = some r) : CM l yX6_rightOf [.code yX6_rightOf cX6_rightOf 1 (some .int)] rmX6_rightOf [.int v0] g S (some (.int r)) S := by
  unfold m_X6_rightOf at hm
  refine CM.of (cc := cX6_rightOf) (nL := 1) (ret := (some .int)) (lv := [(0, .int v0)]) (by decide +kernel) hg (Nat.le_of_ble_eq_true rfl) rfl (fun p e s m args below meth c A F => ?_)
  replace F : Fx p s m meth c cX6_rightOf RX6 1 (some .int) g A := F
  show J p l e rmX6_rightOf s m args below meth c g A 1 (MQ below (QC g A (some (.int r)) S) args s 0 0 A) 0 0 0 [(0, .int v0)] [] S
  have hj41 : ∀ (w0 : Int32), m_X6_rightOf_J41 w0 = some r → J p l e rmX6_rightOf s m args below meth c g A 1 (MQ below (QC g A (some (.int r)) S) args s 0 0 A) 0 0 41 [] [.int w0] S := by
    intro w0 hm
    unfold m_X6_rightOf_J41 at hm
    exact j_iret_p F rfl dX6_rightOf_41 hm
  refine j_iload_n F 0 dX6_rightOf_0 rfl ?_
  refine j_bipush F (v := 116) dX6_rightOf_1 (by decide) ?_
  refine j_icmp_ne F (tgt := 10) dX6_rightOf_3 (by decide) hm (fun _ hm => ?_) (fun _ hm => ?_)
  · refine j_iload_n F 0 dX6_rightOf_10 rfl ?_
    refine j_bipush F (v := 103) dX6_rightOf_11 (by decide) ?_
    refine j_icmp_ne F (tgt := 20) dX6_rightOf_13 (by decide) hm (fun _ hm => ?_) (fun _ hm => ?_)
    · refine j_iload_n F 0 dX6_rightOf_20 rfl ?_
      refine j_bipush F (v := 114) dX6_rightOf_21 (by decide) ?_
      refine j_icmp_ne F (tgt := 30) dX6_rightOf_23 (by decide) hm (fun _ hm => ?_) (fun _ hm => ?_)
      · refine j_iload_n F 0 dX6_rightOf_30 rfl ?_
        refine j_bipush F (v := 119) dX6_rightOf_31 (by decide) ?_
        refine j_icmp_ne F (tgt := 40) dX6_rightOf_33 (by decide) hm (fun _ hm => ?_) (fun _ hm => ?_)
        · refine j_iconst F (v := -1) dX6_rightOf_40 (by decide) ?_
          refine j_sub [] rfl ?_
          exact hj41 ((-1))  hm
        · refine j_iconst F (v := 3) dX6_rightOf_36 (by decide) ?_
          refine j_goto F (tgt := 41) dX6_rightOf_37 (by decide) ?_
          refine j_sub [] rfl ?_
          exact hj41 3  hm
      · refine j_iconst F (v := 2) dX6_rightOf_26 (by decide) ?_
        refine j_goto F (tgt := 41) dX6_rightOf_27 (by decide) ?_
        refine j_sub [] rfl ?_
        exact hj41 2  hm
    · refine j_iconst F (v := 1) dX6_rightOf_16 (by decide) ?_
      refine j_goto F (tgt := 41) dX6_rightOf_17 (by decide) ?_
      refine j_sub [] rfl ?_
      exact hj41 1  hm
  · refine j_iconst F (v := 0) dX6_rightOf_6 (by decide) ?_
    refine j_goto F (tgt := 41) dX6_rightOf_7 (by decide) ?_
    refine j_sub [] rfl ?_
    exact hj41 0  hm
def m_X6_isDigit (v1 : Int32) (S : Hs) : Option (Int32) := (m_X6_letter v1 S).bind fun r2 => (gd (inb 0 57) ((m_X6_in r2 48 ((48 + (gA S 25 (0 : Int32).toNatClampNeg)) - 1)).bind fun r18 => (gd (decide (r18 = 0 ∨ r18 = 1)) (some r18))))
set_option maxRecDepth 100000 in
set_option maxHeartbeats 4000000 in
theorem c_X6_isDigit (l : Launch) (g : GG) (hg : Inj g) (v1 : Int32)  (S : Hs) (r : Int32) (hm : m_X6_isDigit v1 S = some r) : CM l yX6_isDigit [.code yX6_isDigit cX6_isDigit 2 (some .boolean)] rmX6_isDigit [.ref (g.2.1 13), .int v1] g S (some (.int r)) S := by
  unfold m_X6_isDigit at hm
  refine CM.of (cc := cX6_isDigit) (nL := 2) (ret := (some .boolean)) (lv := [(0, .ref (g.2.1 13)), (1, .int v1)]) (by decide +kernel) hg (Nat.le_of_ble_eq_true rfl) rfl (fun p e s m args below meth c A F => ?_)
  replace F : Fx p s m meth c cX6_isDigit RX6 2 (some .boolean) g A := F
  show J p l e rmX6_isDigit s m args below meth c g A 2 (MQ below (QC g A (some (.int r)) S) args s 0 0 A) 0 0 0 [(0, .ref (g.2.1 13)), (1, .int v1)] [] S
  refine j_aload_n F 0 dX6_isDigit_0 rfl ?_
  refine j_iload_n F 1 dX6_isDigit_1 rfl ?_
  obtain ⟨r2, hc2, hm⟩ := Option.bind_eq_some_iff.mp hm
  refine j_callV F (n := 1) (As := [.int v1]) (rest := []) (c_X6_letter l g hg v1 S r2 hc2) gw_X6_107 (by decide +kernel) ⟨Nat.le_of_ble_eq_true rfl, Nat.le_of_ble_eq_true rfl⟩ ⟨Nat.le_of_ble_eq_true rfl, Nat.le_of_ble_eq_true rfl⟩ rfl rfl rfl rfl (Nat.le_of_ble_eq_true rfl) dX6_isDigit_2 ?_
  show J p l e rmX6_isDigit s m args below meth c g A 2 (MQ below (QC g A (some (.int r)) S) args s 0 0 A) 0 0 5 [(0, .ref (g.2.1 13)), (1, .int v1)] [.int r2] S
  refine j_bipush F (v := 48) dX6_isDigit_5 (by decide) ?_
  refine j_bipush F (v := 48) dX6_isDigit_7 (by decide) ?_
  refine j_aload_n F 0 dX6_isDigit_9 rfl ?_
  refine j_getR F (k0 := 15) (C := RX6) (T := TX6) (N := 20) rfl rfl rfl inF6 (by decide) tw531 dX6_isDigit_10 ?_
  refine j_iconst F (v := 0) dX6_isDigit_13 (by decide) ?_
  refine j_iald F rfl dX6_isDigit_14 hm (fun hm => ?_)
  refine j_iadd F dX6_isDigit_15 ?_
  refine j_iconst F (v := 1) dX6_isDigit_16 (by decide) ?_
  refine j_isub F dX6_isDigit_17 ?_
  obtain ⟨r18, hc18, hm⟩ := Option.bind_eq_some_iff.mp hm
  refine j_callS F (n := 3) (As := [.int r2, .int 48, .int ((48 + (gA S 25 (0 : Int32).toNatClampNeg)) - 1)]) (rest := []) (c_X6_in l g hg r2 48 ((48 + (gA S 25 (0 : Int32).toNatClampNeg)) - 1) S r18 hc18) gw_X6_60 (by decide +kernel) ⟨Nat.le_of_ble_eq_true rfl, Nat.le_of_ble_eq_true rfl⟩ ⟨Nat.le_of_ble_eq_true rfl, Nat.le_of_ble_eq_true rfl⟩ rfl rfl (Nat.le_of_ble_eq_true rfl) dX6_isDigit_18 ?_
  show J p l e rmX6_isDigit s m args below meth c g A 2 (MQ below (QC g A (some (.int r)) S) args s 0 0 A) 0 0 21 [(0, .ref (g.2.1 13)), (1, .int v1)] [.int r18] S
  obtain ⟨hb, hm⟩ := gd_ok hm
  exact j_zret_p F rfl (z_nar hb) dX6_isDigit_21 hm
def m_X6_readRights_J30 (v2 : Int32) (S : Hs) : Option ((Int32 × Int32 × Hs) ⊕ (Hs ⊕ (Int32 × Hs))) := some (.inr (.inr ((v2, S))))
def m_X6_readRights_J116 (v2 : Int32) (S : Hs) : Option ((Int32 × Int32 × Hs) ⊕ (Hs ⊕ (Int32 × Hs))) := some (.inr (.inr ((v2 + 2, S))))
def m_X6_readRights_J16 (v2 : Int32) (v3 : Int32) (S : Hs) : Option ((Int32 × Int32 × Hs) ⊕ (Hs ⊕ (Int32 × Hs))) := if v3 = 30 then (m_X6_readRights_J30 v2 S) else ((m_X6_isDigit v2 S).bind fun r24 => (if r24 = 0 then (m_X6_readRights_J30 v2 S) else ((m_X6_letter v2 S).bind fun r34 => (bnd (r34 - 48) fun v4_40 => ((m_X6_letter (v2 + 1) S).bind fun r46 => ((m_X6_rightOf r46).bind fun r49 => (if 0 ≤ r49 then ((m_X6_letter (v2 + 2) S).bind fun r67 => (bnd (r67 - 48) fun v6_73 => ((m_X6_isDigit (v2 + 2) S).bind fun r79 => (if r79 = 0 then (m_X6_readRights_J116 v2 S) else (if v4_40 = v6_73 then (m_X6_readRights_J116 v2 S) else ((m_X6_at v4_40 v6_73).bind fun r102 => (gd (inb (8 + r102) 57) (if (((gA S 25 (8 + r102).toNatClampNeg) >>> (r49 &&& 31)) &&& 1) = 1 then (m_X6_readRights_J116 v2 S) else ((m_X6_at v4_40 v6_73).bind fun r130 => (gd (inb (8 + r130) 57) (gd (inb (8 + r130) 57) (bnd (sA S 25 (8 + r130).toNatClampNeg ((gA S 25 (8 + r130).toNatClampNeg) ||| (1 <<< (r49 &&& 31)))) fun S141 => (some (.inl ((v2 + 3, v3 + 1, S141)))))))))))))))) else (some (.inr (.inr ((v2 + 1, S))))))))))))
def m_X6_readRights_L4 (v2 : Int32) (v3 : Int32) (S : Hs) : Option ((Int32 × Int32 × Hs) ⊕ (Hs ⊕ (Int32 × Hs))) := if v3 = 0 then (m_X6_readRights_J16 v2 v3 S) else (if (gI S 13 8) ≤ v2 then (some (.inr (.inl S))) else (m_X6_readRights_J16 v2 v3 S))
noncomputable def m_X6_readRights (v1 : Int32) (S : Hs) : Option (Int32 × Hs) := (loopO (fun x => m_X6_readRights_L4 x.1 x.2.1 x.2.2) ((v1, 0, S))).bind fun e4 => Sum.elim (fun y4 => some (((-9), y4))) (fun q => some q) e4
set_option maxRecDepth 100000 in
set_option maxHeartbeats 4000000 in
theorem c_X6_readRights (l : Launch) (g : GG) (hg : Inj g) (v1 : Int32)  (S : Hs) (r : Int32) (S' : Hs) (hm : m_X6_readRights v1 S = some ((r, S'))) : CM l yX6_readRights [.code yX6_readRights cX6_readRights 7 (some .int)] rmX6_readRights [.ref (g.2.1 13), .int v1] g S (some (.int r)) S' := by
  unfold m_X6_readRights at hm
  refine CM.of (cc := cX6_readRights) (nL := 7) (ret := (some .int)) (lv := [(0, .ref (g.2.1 13)), (1, .int v1)]) (by decide +kernel) hg (Nat.le_of_ble_eq_true rfl) rfl (fun p e s m args below meth c A F => ?_)
  replace F : Fx p s m meth c cX6_readRights RX6 7 (some .int) g A := F
  show J p l e rmX6_readRights s m args below meth c g A 7 (MQ below (QC g A (some (.int r)) S') args s 0 0 A) 0 0 0 [(0, .ref (g.2.1 13)), (1, .int v1)] [] S
  refine j_iload_n F 1 dX6_readRights_0 rfl ?_
  refine j_istore_n F (lv' := [(2, .int v1), (0, .ref (g.2.1 13)), (1, .int v1)]) dX6_readRights_1 (by decide) rfl ?_
  refine j_iconst F (v := 0) dX6_readRights_2 (by decide) ?_
  refine j_istore_n F (lv' := [(3, .int 0), (2, .int v1), (0, .ref (g.2.1 13)), (1, .int v1)]) dX6_readRights_3 (by decide) rfl ?_
  refine j_sub [2, 1, 0] rfl ?_
  obtain ⟨e4, hlp4, hm⟩ := Option.bind_eq_some_iff.mp hm
  refine loopO_walk (fun x => m_X6_readRights_L4 x.1 x.2.1 x.2.2) (fun x => J p l e rmX6_readRights s m args below meth c g A 7 (MQ below (QC g A (some (.int r)) S') args s 0 0 A) 0 0 4 [(0, .ref (g.2.1 13)), (2, .int x.1), (3, .int x.2.1)] [] x.2.2) (fun z => match z with | .inl x => J p l e rmX6_readRights s m args below meth c g A 7 (MQ below (QC g A (some (.int r)) S') args s 0 0 A) 0 0 151 [] [] x | .inr x => some x = some ((r, S'))) (fun x o1 hm hk1 => ?_) hlp4 ?_
  · obtain ⟨v2, v3, S⟩ := x
    replace hm : m_X6_readRights_L4 v2 v3 S = some o1 := hm
    show J p l e rmX6_readRights s m args below meth c g A 7 (MQ below (QC g A (some (.int r)) S') args s 0 0 A) 0 0 4 [(0, .ref (g.2.1 13)), (2, .int v2), (3, .int v3)] [] S
    unfold m_X6_readRights_L4 at hm
    have hj30 : ∀ (v2 : Int32) (S : Hs), m_X6_readRights_J30 v2 S = some o1 → J p l e rmX6_readRights s m args below meth c g A 7 (MQ below (QC g A (some (.int r)) S') args s 0 0 A) 0 0 30 [(2, .int v2)] [] S := by
      intro v2 S hm
      unfold m_X6_readRights_J30 at hm
      refine j_iload_n F 0 dX6_readRights_30 rfl ?_
      cases hm
      have hr1 : some _ = some ((r, S') : Int32 × Hs) := hk1
      exact j_iret_e F rfl dX6_readRights_31 hr1
    have hj116 : ∀ (v2 : Int32) (S : Hs), m_X6_readRights_J116 v2 S = some o1 → J p l e rmX6_readRights s m args below meth c g A 7 (MQ below (QC g A (some (.int r)) S') args s 0 0 A) 0 0 116 [(2, .int v2)] [] S := by
      intro v2 S hm
      unfold m_X6_readRights_J116 at hm
      refine j_iload_n F 0 dX6_readRights_116 rfl ?_
      refine j_iconst F (v := 2) dX6_readRights_117 (by decide) ?_
      refine j_iadd F dX6_readRights_118 ?_
      cases hm
      have hr1 : some _ = some ((r, S') : Int32 × Hs) := hk1
      exact j_iret_e F rfl dX6_readRights_119 hr1
    have hj16 : ∀ (v2 : Int32) (v3 : Int32) (S : Hs), m_X6_readRights_J16 v2 v3 S = some o1 → J p l e rmX6_readRights s m args below meth c g A 7 (MQ below (QC g A (some (.int r)) S') args s 0 0 A) 0 0 16 [(0, .ref (g.2.1 13)), (2, .int v2), (3, .int v3)] [] S := by
      intro v2 v3 S hm
      unfold m_X6_readRights_J16 at hm
      refine j_iload_n F 2 dX6_readRights_16 rfl ?_
      refine j_bipush F (v := 30) dX6_readRights_17 (by decide) ?_
      refine j_icmp_eq F (tgt := 30) dX6_readRights_19 (by decide) hm (fun _ hm => ?_) (fun _ hm => ?_)
      · refine j_sub [1] rfl ?_
        exact hj30 v2 S  hm
      · refine j_aload_n F 0 dX6_readRights_22 rfl ?_
        refine j_iload_n F 1 dX6_readRights_23 rfl ?_
        obtain ⟨r24, hc24, hm⟩ := Option.bind_eq_some_iff.mp hm
        refine j_callV F (n := 1) (As := [.int v2]) (rest := []) (c_X6_isDigit l g hg v2 S r24 hc24) gw_X6_116 (by decide +kernel) ⟨Nat.le_of_ble_eq_true rfl, Nat.le_of_ble_eq_true rfl⟩ ⟨Nat.le_of_ble_eq_true rfl, Nat.le_of_ble_eq_true rfl⟩ rfl rfl rfl rfl (Nat.le_of_ble_eq_true rfl) dX6_readRights_24 ?_
        show J p l e rmX6_readRights s m args below meth c g A 7 (MQ below (QC g A (some (.int r)) S') args s 0 0 A) 0 0 27 [(0, .ref (g.2.1 13)), (2, .int v2), (3, .int v3)] [.int r24] S
        refine j_if_ne F (tgt := 32) dX6_readRights_27 (by decide) hm (fun _ hm => ?_) (fun _ hm => ?_)
        · refine j_aload_n F 0 dX6_readRights_32 rfl ?_
          refine j_iload_n F 1 dX6_readRights_33 rfl ?_
          obtain ⟨r34, hc34, hm⟩ := Option.bind_eq_some_iff.mp hm
          refine j_callV F (n := 1) (As := [.int v2]) (rest := []) (c_X6_letter l g hg v2 S r34 hc34) gw_X6_107 (by decide +kernel) ⟨Nat.le_of_ble_eq_true rfl, Nat.le_of_ble_eq_true rfl⟩ ⟨Nat.le_of_ble_eq_true rfl, Nat.le_of_ble_eq_true rfl⟩ rfl rfl rfl rfl (Nat.le_of_ble_eq_true rfl) dX6_readRights_34 ?_
          show J p l e rmX6_readRights s m args below meth c g A 7 (MQ below (QC g A (some (.int r)) S') args s 0 0 A) 0 0 37 [(0, .ref (g.2.1 13)), (2, .int v2), (3, .int v3)] [.int r34] S
          refine j_bipush F (v := 48) dX6_readRights_37 (by decide) ?_
          refine j_isub F dX6_readRights_39 ?_
          refine j_bnd hm (fun v4_40 hm => ?_)
          refine j_istore F (lv' := [(4, .int v4_40), (0, .ref (g.2.1 13)), (2, .int v2), (3, .int v3)]) dX6_readRights_40 (by decide) rfl ?_
          refine j_aload_n F 1 dX6_readRights_42 rfl ?_
          refine j_iload_n F 2 dX6_readRights_43 rfl ?_
          refine j_iconst F (v := 1) dX6_readRights_44 (by decide) ?_
          refine j_iadd F dX6_readRights_45 ?_
          obtain ⟨r46, hc46, hm⟩ := Option.bind_eq_some_iff.mp hm
          refine j_callV F (n := 1) (As := [.int (v2 + 1)]) (rest := []) (c_X6_letter l g hg (v2 + 1) S r46 hc46) gw_X6_107 (by decide +kernel) ⟨Nat.le_of_ble_eq_true rfl, Nat.le_of_ble_eq_true rfl⟩ ⟨Nat.le_of_ble_eq_true rfl, Nat.le_of_ble_eq_true rfl⟩ rfl rfl rfl rfl (Nat.le_of_ble_eq_true rfl) dX6_readRights_46 ?_
          show J p l e rmX6_readRights s m args below meth c g A 7 (MQ below (QC g A (some (.int r)) S') args s 0 0 A) 0 0 49 [(4, .int v4_40), (0, .ref (g.2.1 13)), (2, .int v2), (3, .int v3)] [.int r46] S
          obtain ⟨r49, hc49, hm⟩ := Option.bind_eq_some_iff.mp hm
          refine j_callS F (n := 1) (As := [.int r46]) (rest := []) (c_X6_rightOf l g hg r46 S r49 hc49) gw_X6_119 (by decide +kernel) ⟨Nat.le_of_ble_eq_true rfl, Nat.le_of_ble_eq_true rfl⟩ ⟨Nat.le_of_ble_eq_true rfl, Nat.le_of_ble_eq_true rfl⟩ rfl rfl (Nat.le_of_ble_eq_true rfl) dX6_readRights_49 ?_
          show J p l e rmX6_readRights s m args below meth c g A 7 (MQ below (QC g A (some (.int r)) S') args s 0 0 A) 0 0 52 [(4, .int v4_40), (0, .ref (g.2.1 13)), (2, .int v2), (3, .int v3)] [.int r49] S
          refine j_istore F (lv' := [(5, .int r49), (4, .int v4_40), (0, .ref (g.2.1 13)), (2, .int v2), (3, .int v3)]) dX6_readRights_52 (by decide) rfl ?_
          refine j_iload F 0 dX6_readRights_54 rfl ?_
          refine j_if_ge F (tgt := 63) dX6_readRights_56 (by decide) hm (fun _ hm => ?_) (fun _ hm => ?_)
          · refine j_aload_n F 2 dX6_readRights_63 rfl ?_
            refine j_iload_n F 3 dX6_readRights_64 rfl ?_
            refine j_iconst F (v := 2) dX6_readRights_65 (by decide) ?_
            refine j_iadd F dX6_readRights_66 ?_
            obtain ⟨r67, hc67, hm⟩ := Option.bind_eq_some_iff.mp hm
            refine j_callV F (n := 1) (As := [.int (v2 + 2)]) (rest := []) (c_X6_letter l g hg (v2 + 2) S r67 hc67) gw_X6_107 (by decide +kernel) ⟨Nat.le_of_ble_eq_true rfl, Nat.le_of_ble_eq_true rfl⟩ ⟨Nat.le_of_ble_eq_true rfl, Nat.le_of_ble_eq_true rfl⟩ rfl rfl rfl rfl (Nat.le_of_ble_eq_true rfl) dX6_readRights_67 ?_
            show J p l e rmX6_readRights s m args below meth c g A 7 (MQ below (QC g A (some (.int r)) S') args s 0 0 A) 0 0 70 [(5, .int r49), (4, .int v4_40), (0, .ref (g.2.1 13)), (2, .int v2), (3, .int v3)] [.int r67] S
            refine j_bipush F (v := 48) dX6_readRights_70 (by decide) ?_
            refine j_isub F dX6_readRights_72 ?_
            refine j_bnd hm (fun v6_73 hm => ?_)
            refine j_istore F (lv' := [(6, .int v6_73), (5, .int r49), (4, .int v4_40), (0, .ref (g.2.1 13)), (2, .int v2), (3, .int v3)]) dX6_readRights_73 (by decide) rfl ?_
            refine j_aload_n F 3 dX6_readRights_75 rfl ?_
            refine j_iload_n F 4 dX6_readRights_76 rfl ?_
            refine j_iconst F (v := 2) dX6_readRights_77 (by decide) ?_
            refine j_iadd F dX6_readRights_78 ?_
            obtain ⟨r79, hc79, hm⟩ := Option.bind_eq_some_iff.mp hm
            refine j_callV F (n := 1) (As := [.int (v2 + 2)]) (rest := []) (c_X6_isDigit l g hg (v2 + 2) S r79 hc79) gw_X6_116 (by decide +kernel) ⟨Nat.le_of_ble_eq_true rfl, Nat.le_of_ble_eq_true rfl⟩ ⟨Nat.le_of_ble_eq_true rfl, Nat.le_of_ble_eq_true rfl⟩ rfl rfl rfl rfl (Nat.le_of_ble_eq_true rfl) dX6_readRights_79 ?_
            show J p l e rmX6_readRights s m args below meth c g A 7 (MQ below (QC g A (some (.int r)) S') args s 0 0 A) 0 0 82 [(6, .int v6_73), (5, .int r49), (4, .int v4_40), (0, .ref (g.2.1 13)), (2, .int v2), (3, .int v3)] [.int r79] S
            refine j_if_eq F (tgt := 116) dX6_readRights_82 (by decide) hm (fun _ hm => ?_) (fun _ hm => ?_)
            · refine j_sub [4] rfl ?_
              exact hj116 v2 S  hm
            · refine j_iload F 2 dX6_readRights_85 rfl ?_
              refine j_iload F 0 dX6_readRights_87 rfl ?_
              refine j_icmp_eq F (tgt := 116) dX6_readRights_89 (by decide) hm (fun _ hm => ?_) (fun _ hm => ?_)
              · refine j_sub [4] rfl ?_
                exact hj116 v2 S  hm
              · refine j_aload_n F 3 dX6_readRights_92 rfl ?_
                refine j_getR F (k0 := 15) (C := RX6) (T := TX6) (N := 20) rfl rfl rfl inF6 (by decide) tw531 dX6_readRights_93 ?_
                refine j_bipush F (v := 8) dX6_readRights_96 (by decide) ?_
                refine j_iload F 2 dX6_readRights_98 rfl ?_
                refine j_iload F 0 dX6_readRights_100 rfl ?_
                obtain ⟨r102, hc102, hm⟩ := Option.bind_eq_some_iff.mp hm
                refine j_callS F (n := 2) (As := [.int v4_40, .int v6_73]) (rest := [.int 8, .ref (g.2.1 25)]) (c_X6_at l g hg v4_40 v6_73 S r102 hc102) gw_X6_68 (by decide +kernel) ⟨Nat.le_of_ble_eq_true rfl, Nat.le_of_ble_eq_true rfl⟩ ⟨Nat.le_of_ble_eq_true rfl, Nat.le_of_ble_eq_true rfl⟩ rfl rfl (Nat.le_of_ble_eq_true rfl) dX6_readRights_102 ?_
                show J p l e rmX6_readRights s m args below meth c g A 7 (MQ below (QC g A (some (.int r)) S') args s 0 0 A) 0 0 105 [(6, .int v6_73), (5, .int r49), (4, .int v4_40), (0, .ref (g.2.1 13)), (2, .int v2), (3, .int v3)] [.int r102, .int 8, .ref (g.2.1 25)] S
                refine j_iadd F dX6_readRights_105 ?_
                refine j_iald F rfl dX6_readRights_106 hm (fun hm => ?_)
                refine j_iload F 1 dX6_readRights_107 rfl ?_
                refine j_ishr F dX6_readRights_109 ?_
                refine j_iconst F (v := 1) dX6_readRights_110 (by decide) ?_
                refine j_iand F dX6_readRights_111 ?_
                refine j_iconst F (v := 1) dX6_readRights_112 (by decide) ?_
                refine j_icmp_ne F (tgt := 120) dX6_readRights_113 (by decide) hm (fun _ hm => ?_) (fun _ hm => ?_)
                · refine j_aload_n F 3 dX6_readRights_120 rfl ?_
                  refine j_getR F (k0 := 15) (C := RX6) (T := TX6) (N := 20) rfl rfl rfl inF6 (by decide) tw531 dX6_readRights_121 ?_
                  refine j_bipush F (v := 8) dX6_readRights_124 (by decide) ?_
                  refine j_iload F 2 dX6_readRights_126 rfl ?_
                  refine j_iload F 0 dX6_readRights_128 rfl ?_
                  obtain ⟨r130, hc130, hm⟩ := Option.bind_eq_some_iff.mp hm
                  refine j_callS F (n := 2) (As := [.int v4_40, .int v6_73]) (rest := [.int 8, .ref (g.2.1 25)]) (c_X6_at l g hg v4_40 v6_73 S r130 hc130) gw_X6_68 (by decide +kernel) ⟨Nat.le_of_ble_eq_true rfl, Nat.le_of_ble_eq_true rfl⟩ ⟨Nat.le_of_ble_eq_true rfl, Nat.le_of_ble_eq_true rfl⟩ rfl rfl (Nat.le_of_ble_eq_true rfl) dX6_readRights_130 ?_
                  show J p l e rmX6_readRights s m args below meth c g A 7 (MQ below (QC g A (some (.int r)) S') args s 0 0 A) 0 0 133 [(6, .int v6_73), (5, .int r49), (4, .int v4_40), (0, .ref (g.2.1 13)), (2, .int v2), (3, .int v3)] [.int r130, .int 8, .ref (g.2.1 25)] S
                  refine j_iadd F dX6_readRights_133 ?_
                  refine j_dup2 F dX6_readRights_134 rfl rfl ?_
                  refine j_iald F rfl dX6_readRights_135 hm (fun hm => ?_)
                  refine j_iconst F (v := 1) dX6_readRights_136 (by decide) ?_
                  refine j_iload F 1 dX6_readRights_137 rfl ?_
                  refine j_ishl F dX6_readRights_139 ?_
                  refine j_ior F dX6_readRights_140 ?_
                  refine j_iast F rfl dX6_readRights_141 hm (fun hm => ?_)
                  refine j_bndS hm (fun S141 hm => ?_)
                  refine j_iinc F (v := v3 + 1) (lv' := [(3, .int (v3 + 1)), (6, .int v6_73), (5, .int r49), (4, .int v4_40), (0, .ref (g.2.1 13)), (2, .int v2)]) 5 dX6_readRights_142 rfl rfl (by decide) rfl ?_
                  refine j_iinc F (v := v2 + 3) (lv' := [(2, .int (v2 + 3)), (3, .int (v3 + 1)), (6, .int v6_73), (5, .int r49), (4, .int v4_40), (0, .ref (g.2.1 13))]) 5 dX6_readRights_145 rfl rfl (by decide) rfl ?_
                  refine j_goto F (tgt := 4) dX6_readRights_148 (by decide) ?_
                  cases hm
                  refine j_sub [5, 0, 1] rfl ?_
                  exact hk1
                · refine j_sub [4] rfl ?_
                  exact hj116 v2 S  hm
          · refine j_iload_n F 3 dX6_readRights_59 rfl ?_
            refine j_iconst F (v := 1) dX6_readRights_60 (by decide) ?_
            refine j_iadd F dX6_readRights_61 ?_
            cases hm
            have hr1 : some _ = some ((r, S') : Int32 × Hs) := hk1
            exact j_iret_e F rfl dX6_readRights_62 hr1
        · refine j_sub [1] rfl ?_
          exact hj30 v2 S  hm
    refine j_iload_n F 2 dX6_readRights_4 rfl ?_
    refine j_if_eq F (tgt := 16) dX6_readRights_5 (by decide) hm (fun _ hm => ?_) (fun _ hm => ?_)
    · refine j_sub [0, 1, 2] rfl ?_
      exact hj16 v2 v3 S  hm
    · refine j_iload_n F 1 dX6_readRights_8 rfl ?_
      refine j_aload_n F 0 dX6_readRights_9 rfl ?_
      refine j_getI F (k0 := 8) (C := RX6) (T := TX6) (N := 20) rfl rfl rfl inF6 (by decide) tw591 dX6_readRights_10 ?_
      refine j_icmp_ge F (tgt := 151) dX6_readRights_13 (by decide) hm (fun _ hm => ?_) (fun _ hm => ?_)
      · cases hm
        refine j_sub [] rfl ?_
        exact hk1
      · refine j_sub [0, 1, 2] rfl ?_
        exact hj16 v2 v3 S  hm
  · cases e4 with
    | inl y4 =>
      dsimp only [Sum.elim_inl] at hm
      show J p l e rmX6_readRights s m args below meth c g A 7 (MQ below (QC g A (some (.int r)) S') args s 0 0 A) 0 0 151 [] [] y4
      refine j_bipush F (v := -9) dX6_readRights_151 (by decide) ?_
      exact j_iret_e F rfl dX6_readRights_153 hm
    | inr q =>
      exact hm
def m_X6_readText_L2 (v1 : Int32) (S : Hs) : Option ((Int32 × Hs) ⊕ Hs) := if 57 ≤ v1 then (some (.inr S)) else (gd (inb v1 57) (bnd (sA S 25 v1.toNatClampNeg 0) fun S14 => (some (.inl ((v1 + 1, S14))))))
def m_X6_readText_L35 (v1 : Int32) (S : Hs) : Option ((Int32 × Hs) ⊕ (Int32 × Hs)) := gd (inb 0 57) (if 7 ≤ (gA S 25 (0 : Int32).toNatClampNeg) then (some (.inr ((v1, S)))) else ((m_X6_letter v1 S).bind fun r48 => ((m_X6_kindOf r48).bind fun r51 => (if r51 < 0 then (some (.inr ((v1, S)))) else (gd (inb 0 57) ((m_X6_letter v1 S).bind fun r71 => ((m_X6_kindOf r71).bind fun r74 => (gd (inb (1 + (gA S 25 (0 : Int32).toNatClampNeg)) 57) (bnd (sA S 25 (1 + (gA S 25 (0 : Int32).toNatClampNeg)).toNatClampNeg r74) fun S77 => (gd (inb 0 57) (gd (inb 0 57) (bnd (sA S77 25 (0 : Int32).toNatClampNeg ((gA S77 25 (0 : Int32).toNatClampNeg) + 1)) fun S87 => (some (.inl ((v1 + 1, S87))))))))))))))))
def m_X6_readText_J125 (v1 : Int32) (S : Hs) : Option (Int32 × Hs) := some ((v1, S))
noncomputable def m_X6_readText_J94 (v1 : Int32) (S : Hs) : Option (Int32 × Hs) := if v1 = (gI S 13 8) then (some (((-9), S))) else ((m_X6_letter v1 S).bind fun r107 => (if r107 = 47 then (gd (inb 0 57) (if 2 ≤ (gA S 25 (0 : Int32).toNatClampNeg) then (bndE (m_X6_readRights (v1 + 1) S) fun r131 S131 => (some ((r131, S131)))) else (m_X6_readText_J125 v1 S))) else (m_X6_readText_J125 v1 S)))
noncomputable def m_X6_readText (S : Hs) : Option (Int32 × Hs) := (loopO (fun x => m_X6_readText_L2 x.1 x.2) ((0, S))).bind fun y2 => (m_X6_letter 0 y2).bind fun r23 => (if r23 = 82 then ((loopO (fun x => m_X6_readText_L35 x.1 x.2) ((1, y2))).bind fun y35 => m_X6_readText_J94 y35.1 y35.2) else (some ((0, y2))))
set_option maxRecDepth 100000 in
set_option maxHeartbeats 4000000 in
theorem c_X6_readText (l : Launch) (g : GG) (hg : Inj g)   (S : Hs) (r : Int32) (S' : Hs) (hm : m_X6_readText S = some ((r, S'))) : CM l yX6_readText [.code yX6_readText cX6_readText 2 (some .int)] rmX6_readText [.ref (g.2.1 13)] g S (some (.int r)) S' := by
  unfold m_X6_readText at hm
  refine CM.of (cc := cX6_readText) (nL := 2) (ret := (some .int)) (lv := [(0, .ref (g.2.1 13))]) (by decide +kernel) hg (Nat.le_of_ble_eq_true rfl) rfl (fun p e s m args below meth c A F => ?_)
  replace F : Fx p s m meth c cX6_readText RX6 2 (some .int) g A := F
  show J p l e rmX6_readText s m args below meth c g A 2 (MQ below (QC g A (some (.int r)) S') args s 0 0 A) 0 0 0 [(0, .ref (g.2.1 13))] [] S
  have hj125 : ∀ (v1 : Int32) (S : Hs), m_X6_readText_J125 v1 S = some ((r, S')) → J p l e rmX6_readText s m args below meth c g A 2 (MQ below (QC g A (some (.int r)) S') args s 0 0 A) 0 0 125 [(1, .int v1)] [] S := by
    intro v1 S hm
    unfold m_X6_readText_J125 at hm
    refine j_iload_n F 0 dX6_readText_125 rfl ?_
    exact j_iret_e F rfl dX6_readText_126 hm
  have hj94 : ∀ (v1 : Int32) (S : Hs), m_X6_readText_J94 v1 S = some ((r, S')) → J p l e rmX6_readText s m args below meth c g A 2 (MQ below (QC g A (some (.int r)) S') args s 0 0 A) 0 0 94 [(0, .ref (g.2.1 13)), (1, .int v1)] [] S := by
    intro v1 S hm
    unfold m_X6_readText_J94 at hm
    refine j_iload_n F 1 dX6_readText_94 rfl ?_
    refine j_aload_n F 0 dX6_readText_95 rfl ?_
    refine j_getI F (k0 := 8) (C := RX6) (T := TX6) (N := 20) rfl rfl rfl inF6 (by decide) tw591 dX6_readText_96 ?_
    refine j_icmp_ne F (tgt := 105) dX6_readText_99 (by decide) hm (fun _ hm => ?_) (fun _ hm => ?_)
    · refine j_aload_n F 0 dX6_readText_105 rfl ?_
      refine j_iload_n F 1 dX6_readText_106 rfl ?_
      obtain ⟨r107, hc107, hm⟩ := Option.bind_eq_some_iff.mp hm
      refine j_callV F (n := 1) (As := [.int v1]) (rest := []) (c_X6_letter l g hg v1 S r107 hc107) gw_X6_107 (by decide +kernel) ⟨Nat.le_of_ble_eq_true rfl, Nat.le_of_ble_eq_true rfl⟩ ⟨Nat.le_of_ble_eq_true rfl, Nat.le_of_ble_eq_true rfl⟩ rfl rfl rfl rfl (Nat.le_of_ble_eq_true rfl) dX6_readText_107 ?_
      show J p l e rmX6_readText s m args below meth c g A 2 (MQ below (QC g A (some (.int r)) S') args s 0 0 A) 0 0 110 [(0, .ref (g.2.1 13)), (1, .int v1)] [.int r107] S
      refine j_bipush F (v := 47) dX6_readText_110 (by decide) ?_
      refine j_icmp_ne F (tgt := 125) dX6_readText_112 (by decide) hm (fun _ hm => ?_) (fun _ hm => ?_)
      · refine j_sub [1] rfl ?_
        exact hj125 v1 S  hm
      · refine j_aload_n F 0 dX6_readText_115 rfl ?_
        refine j_getR F (k0 := 15) (C := RX6) (T := TX6) (N := 20) rfl rfl rfl inF6 (by decide) tw531 dX6_readText_116 ?_
        refine j_iconst F (v := 0) dX6_readText_119 (by decide) ?_
        refine j_iald F rfl dX6_readText_120 hm (fun hm => ?_)
        refine j_iconst F (v := 2) dX6_readText_121 (by decide) ?_
        refine j_icmp_ge F (tgt := 127) dX6_readText_122 (by decide) hm (fun _ hm => ?_) (fun _ hm => ?_)
        · refine j_aload_n F 0 dX6_readText_127 rfl ?_
          refine j_iload_n F 1 dX6_readText_128 rfl ?_
          refine j_iconst F (v := 1) dX6_readText_129 (by decide) ?_
          refine j_iadd F dX6_readText_130 ?_
          obtain ⟨r131, S131, hc131, hm⟩ := bndE_ok hm
          refine j_callV F (n := 1) (As := [.int (v1 + 1)]) (rest := []) (c_X6_readRights l g hg (v1 + 1) S r131 S131 hc131) gw_X6_113 (by decide +kernel) ⟨Nat.le_of_ble_eq_true rfl, Nat.le_of_ble_eq_true rfl⟩ ⟨Nat.le_of_ble_eq_true rfl, Nat.le_of_ble_eq_true rfl⟩ rfl rfl rfl rfl (Nat.le_of_ble_eq_true rfl) dX6_readText_131 ?_
          show J p l e rmX6_readText s m args below meth c g A 2 (MQ below (QC g A (some (.int r)) S') args s 0 0 A) 0 0 134 [(0, .ref (g.2.1 13)), (1, .int v1)] [.int r131] S131
          exact j_iret_e F rfl dX6_readText_134 hm
        · refine j_sub [1] rfl ?_
          exact hj125 v1 S  hm
    · refine j_bipush F (v := -9) dX6_readText_102 (by decide) ?_
      exact j_iret_e F rfl dX6_readText_104 hm
  refine j_iconst F (v := 0) dX6_readText_0 (by decide) ?_
  refine j_istore_n F (lv' := [(1, .int 0), (0, .ref (g.2.1 13))]) dX6_readText_1 (by decide) rfl ?_
  refine j_sub [1, 0] rfl ?_
  obtain ⟨y2, hlp2, hm⟩ := Option.bind_eq_some_iff.mp hm
  refine loopO_walk (fun x => m_X6_readText_L2 x.1 x.2) (fun x => J p l e rmX6_readText s m args below meth c g A 2 (MQ below (QC g A (some (.int r)) S') args s 0 0 A) 0 0 2 [(0, .ref (g.2.1 13)), (1, .int x.1)] [] x.2) (fun x => J p l e rmX6_readText s m args below meth c g A 2 (MQ below (QC g A (some (.int r)) S') args s 0 0 A) 0 0 21 [(0, .ref (g.2.1 13))] [] x) (fun x o1 hm hk1 => ?_) hlp2 ?_
  · obtain ⟨v1, S⟩ := x
    replace hm : m_X6_readText_L2 v1 S = some o1 := hm
    show J p l e rmX6_readText s m args below meth c g A 2 (MQ below (QC g A (some (.int r)) S') args s 0 0 A) 0 0 2 [(0, .ref (g.2.1 13)), (1, .int v1)] [] S
    unfold m_X6_readText_L2 at hm
    refine j_iload_n F 1 dX6_readText_2 rfl ?_
    refine j_bipush F (v := 57) dX6_readText_3 (by decide) ?_
    refine j_icmp_ge F (tgt := 21) dX6_readText_5 (by decide) hm (fun _ hm => ?_) (fun _ hm => ?_)
    · cases hm
      refine j_sub [0] rfl ?_
      exact hk1
    · refine j_aload_n F 0 dX6_readText_8 rfl ?_
      refine j_getR F (k0 := 15) (C := RX6) (T := TX6) (N := 20) rfl rfl rfl inF6 (by decide) tw531 dX6_readText_9 ?_
      refine j_iload_n F 1 dX6_readText_12 rfl ?_
      refine j_iconst F (v := 0) dX6_readText_13 (by decide) ?_
      refine j_iast F rfl dX6_readText_14 hm (fun hm => ?_)
      refine j_bndS hm (fun S14 hm => ?_)
      refine j_iinc F (v := v1 + 1) (lv' := [(1, .int (v1 + 1)), (0, .ref (g.2.1 13))]) 1 dX6_readText_15 rfl rfl (by decide) rfl ?_
      refine j_goto F (tgt := 2) dX6_readText_18 (by decide) ?_
      cases hm
      refine j_sub [1, 0] rfl ?_
      exact hk1
  · show J p l e rmX6_readText s m args below meth c g A 2 (MQ below (QC g A (some (.int r)) S') args s 0 0 A) 0 0 21 [(0, .ref (g.2.1 13))] [] y2
    refine j_aload_n F 0 dX6_readText_21 rfl ?_
    refine j_iconst F (v := 0) dX6_readText_22 (by decide) ?_
    obtain ⟨r23, hc23, hm⟩ := Option.bind_eq_some_iff.mp hm
    refine j_callV F (n := 1) (As := [.int 0]) (rest := []) (c_X6_letter l g hg 0 y2 r23 hc23) gw_X6_107 (by decide +kernel) ⟨Nat.le_of_ble_eq_true rfl, Nat.le_of_ble_eq_true rfl⟩ ⟨Nat.le_of_ble_eq_true rfl, Nat.le_of_ble_eq_true rfl⟩ rfl rfl rfl rfl (Nat.le_of_ble_eq_true rfl) dX6_readText_23 ?_
    show J p l e rmX6_readText s m args below meth c g A 2 (MQ below (QC g A (some (.int r)) S') args s 0 0 A) 0 0 26 [(0, .ref (g.2.1 13))] [.int r23] y2
    refine j_bipush F (v := 82) dX6_readText_26 (by decide) ?_
    refine j_icmp_eq F (tgt := 33) dX6_readText_28 (by decide) hm (fun _ hm => ?_) (fun _ hm => ?_)
    · refine j_iconst F (v := 1) dX6_readText_33 (by decide) ?_
      refine j_istore_n F (lv' := [(1, .int 1), (0, .ref (g.2.1 13))]) dX6_readText_34 (by decide) rfl ?_
      refine j_sub [1, 0] rfl ?_
      obtain ⟨y35, hlp35, hm⟩ := Option.bind_eq_some_iff.mp hm
      refine loopO_walk (fun x => m_X6_readText_L35 x.1 x.2) (fun x => J p l e rmX6_readText s m args below meth c g A 2 (MQ below (QC g A (some (.int r)) S') args s 0 0 A) 0 0 35 [(0, .ref (g.2.1 13)), (1, .int x.1)] [] x.2) (fun x => J p l e rmX6_readText s m args below meth c g A 2 (MQ below (QC g A (some (.int r)) S') args s 0 0 A) 0 0 94 [(0, .ref (g.2.1 13)), (1, .int x.1)] [] x.2) (fun x o1 hm hk1 => ?_) hlp35 ?_
      · obtain ⟨v1, S⟩ := x
        replace hm : m_X6_readText_L35 v1 S = some o1 := hm
        show J p l e rmX6_readText s m args below meth c g A 2 (MQ below (QC g A (some (.int r)) S') args s 0 0 A) 0 0 35 [(0, .ref (g.2.1 13)), (1, .int v1)] [] S
        unfold m_X6_readText_L35 at hm
        refine j_aload_n F 0 dX6_readText_35 rfl ?_
        refine j_getR F (k0 := 15) (C := RX6) (T := TX6) (N := 20) rfl rfl rfl inF6 (by decide) tw531 dX6_readText_36 ?_
        refine j_iconst F (v := 0) dX6_readText_39 (by decide) ?_
        refine j_iald F rfl dX6_readText_40 hm (fun hm => ?_)
        refine j_bipush F (v := 7) dX6_readText_41 (by decide) ?_
        refine j_icmp_ge F (tgt := 94) dX6_readText_43 (by decide) hm (fun _ hm => ?_) (fun _ hm => ?_)
        · cases hm
          refine j_sub [0, 1] rfl ?_
          exact hk1
        · refine j_aload_n F 0 dX6_readText_46 rfl ?_
          refine j_iload_n F 1 dX6_readText_47 rfl ?_
          obtain ⟨r48, hc48, hm⟩ := Option.bind_eq_some_iff.mp hm
          refine j_callV F (n := 1) (As := [.int v1]) (rest := []) (c_X6_letter l g hg v1 S r48 hc48) gw_X6_107 (by decide +kernel) ⟨Nat.le_of_ble_eq_true rfl, Nat.le_of_ble_eq_true rfl⟩ ⟨Nat.le_of_ble_eq_true rfl, Nat.le_of_ble_eq_true rfl⟩ rfl rfl rfl rfl (Nat.le_of_ble_eq_true rfl) dX6_readText_48 ?_
          show J p l e rmX6_readText s m args below meth c g A 2 (MQ below (QC g A (some (.int r)) S') args s 0 0 A) 0 0 51 [(0, .ref (g.2.1 13)), (1, .int v1)] [.int r48] S
          obtain ⟨r51, hc51, hm⟩ := Option.bind_eq_some_iff.mp hm
          refine j_callS F (n := 1) (As := [.int r48]) (rest := []) (c_X6_kindOf l g hg r48 S r51 hc51) gw_X6_110 (by decide +kernel) ⟨Nat.le_of_ble_eq_true rfl, Nat.le_of_ble_eq_true rfl⟩ ⟨Nat.le_of_ble_eq_true rfl, Nat.le_of_ble_eq_true rfl⟩ rfl rfl (Nat.le_of_ble_eq_true rfl) dX6_readText_51 ?_
          show J p l e rmX6_readText s m args below meth c g A 2 (MQ below (QC g A (some (.int r)) S') args s 0 0 A) 0 0 54 [(0, .ref (g.2.1 13)), (1, .int v1)] [.int r51] S
          refine j_if_lt F (tgt := 94) dX6_readText_54 (by decide) hm (fun _ hm => ?_) (fun _ hm => ?_)
          · cases hm
            refine j_sub [0, 1] rfl ?_
            exact hk1
          · refine j_aload_n F 0 dX6_readText_57 rfl ?_
            refine j_getR F (k0 := 15) (C := RX6) (T := TX6) (N := 20) rfl rfl rfl inF6 (by decide) tw531 dX6_readText_58 ?_
            refine j_iconst F (v := 1) dX6_readText_61 (by decide) ?_
            refine j_aload_n F 0 dX6_readText_62 rfl ?_
            refine j_getR F (k0 := 15) (C := RX6) (T := TX6) (N := 20) rfl rfl rfl inF6 (by decide) tw531 dX6_readText_63 ?_
            refine j_iconst F (v := 0) dX6_readText_66 (by decide) ?_
            refine j_iald F rfl dX6_readText_67 hm (fun hm => ?_)
            refine j_iadd F dX6_readText_68 ?_
            refine j_aload_n F 0 dX6_readText_69 rfl ?_
            refine j_iload_n F 1 dX6_readText_70 rfl ?_
            obtain ⟨r71, hc71, hm⟩ := Option.bind_eq_some_iff.mp hm
            refine j_callV F (n := 1) (As := [.int v1]) (rest := [.int (1 + (gA S 25 (0 : Int32).toNatClampNeg)), .ref (g.2.1 25)]) (c_X6_letter l g hg v1 S r71 hc71) gw_X6_107 (by decide +kernel) ⟨Nat.le_of_ble_eq_true rfl, Nat.le_of_ble_eq_true rfl⟩ ⟨Nat.le_of_ble_eq_true rfl, Nat.le_of_ble_eq_true rfl⟩ rfl rfl rfl rfl (Nat.le_of_ble_eq_true rfl) dX6_readText_71 ?_
            show J p l e rmX6_readText s m args below meth c g A 2 (MQ below (QC g A (some (.int r)) S') args s 0 0 A) 0 0 74 [(0, .ref (g.2.1 13)), (1, .int v1)] [.int r71, .int (1 + (gA S 25 (0 : Int32).toNatClampNeg)), .ref (g.2.1 25)] S
            obtain ⟨r74, hc74, hm⟩ := Option.bind_eq_some_iff.mp hm
            refine j_callS F (n := 1) (As := [.int r71]) (rest := [.int (1 + (gA S 25 (0 : Int32).toNatClampNeg)), .ref (g.2.1 25)]) (c_X6_kindOf l g hg r71 S r74 hc74) gw_X6_110 (by decide +kernel) ⟨Nat.le_of_ble_eq_true rfl, Nat.le_of_ble_eq_true rfl⟩ ⟨Nat.le_of_ble_eq_true rfl, Nat.le_of_ble_eq_true rfl⟩ rfl rfl (Nat.le_of_ble_eq_true rfl) dX6_readText_74 ?_
            show J p l e rmX6_readText s m args below meth c g A 2 (MQ below (QC g A (some (.int r)) S') args s 0 0 A) 0 0 77 [(0, .ref (g.2.1 13)), (1, .int v1)] [.int r74, .int (1 + (gA S 25 (0 : Int32).toNatClampNeg)), .ref (g.2.1 25)] S
            refine j_iast F rfl dX6_readText_77 hm (fun hm => ?_)
            refine j_bndS hm (fun S77 hm => ?_)
            refine j_aload_n F 0 dX6_readText_78 rfl ?_
            refine j_getR F (k0 := 15) (C := RX6) (T := TX6) (N := 20) rfl rfl rfl inF6 (by decide) tw531 dX6_readText_79 ?_
            refine j_iconst F (v := 0) dX6_readText_82 (by decide) ?_
            refine j_dup2 F dX6_readText_83 rfl rfl ?_
            refine j_iald F rfl dX6_readText_84 hm (fun hm => ?_)
            refine j_iconst F (v := 1) dX6_readText_85 (by decide) ?_
            refine j_iadd F dX6_readText_86 ?_
            refine j_iast F rfl dX6_readText_87 hm (fun hm => ?_)
            refine j_bndS hm (fun S87 hm => ?_)
            refine j_iinc F (v := v1 + 1) (lv' := [(1, .int (v1 + 1)), (0, .ref (g.2.1 13))]) 1 dX6_readText_88 rfl rfl (by decide) rfl ?_
            refine j_goto F (tgt := 35) dX6_readText_91 (by decide) ?_
            cases hm
            refine j_sub [1, 0] rfl ?_
            exact hk1
      · show J p l e rmX6_readText s m args below meth c g A 2 (MQ below (QC g A (some (.int r)) S') args s 0 0 A) 0 0 94 [(0, .ref (g.2.1 13)), (1, .int y35.1)] [] y35.2
        refine j_sub [0, 1] rfl ?_
        exact hj94 y35.1 y35.2  hm
    · refine j_iconst F (v := 0) dX6_readText_31 (by decide) ?_
      exact j_iret_e F rfl dX6_readText_32 hm
noncomputable def m_X6_errorPosition (S : Hs) : Option (Int32 × Hs) := bnd (sI S 13 0 0) fun S2 => (bndE (m_X6_readText  S2) fun r6 S6 => (some ((r6, S6))))
set_option maxRecDepth 100000 in
set_option maxHeartbeats 4000000 in
theorem c_X6_errorPosition (l : Launch) (g : GG) (hg : Inj g)   (S : Hs) (r : Int32) (S' : Hs) (hm : m_X6_errorPosition S = some ((r, S'))) : CM l yX6_errorPosition [.code yX6_errorPosition cX6_errorPosition 1 (some .int)] rmX6_errorPosition [.ref (g.2.1 13)] g S (some (.int r)) S' := by
  unfold m_X6_errorPosition at hm
  refine CM.of (cc := cX6_errorPosition) (nL := 1) (ret := (some .int)) (lv := [(0, .ref (g.2.1 13))]) (by decide +kernel) hg (Nat.le_of_ble_eq_true rfl) rfl (fun p e s m args below meth c A F => ?_)
  replace F : Fx p s m meth c cX6_errorPosition RX6 1 (some .int) g A := F
  show J p l e rmX6_errorPosition s m args below meth c g A 1 (MQ below (QC g A (some (.int r)) S') args s 0 0 A) 0 0 0 [(0, .ref (g.2.1 13))] [] S
  refine j_aload_n F 0 dX6_errorPosition_0 rfl ?_
  refine j_iconst F (v := 0) dX6_errorPosition_1 (by decide) ?_
  refine j_putI F (k0 := 0) (C := RX6) (T := TX6) (N := 20) tyX6 tyX6_ok nmX6 rfl rfl rfl inF6 (by decide) tw535 rfl (by decide +kernel) dX6_errorPosition_2 ?_
  refine j_bndS hm (fun S2 hm => ?_)
  refine j_aload_n F 0 dX6_errorPosition_5 rfl ?_
  obtain ⟨r6, S6, hc6, hm⟩ := bndE_ok hm
  refine j_callV F (n := 0) (As := []) (rest := []) (c_X6_readText l g hg S2 r6 S6 hc6) gw_X6_122 (by decide +kernel) ⟨Nat.le_of_ble_eq_true rfl, Nat.le_of_ble_eq_true rfl⟩ ⟨Nat.le_of_ble_eq_true rfl, Nat.le_of_ble_eq_true rfl⟩ rfl rfl rfl rfl (Nat.le_of_ble_eq_true rfl) dX6_errorPosition_6 ?_
  show J p l e rmX6_errorPosition s m args below meth c g A 1 (MQ below (QC g A (some (.int r)) S') args s 0 0 A) 0 0 9 [(0, .ref (g.2.1 13))] [.int r6] S6
  exact j_iret_e F rfl dX6_errorPosition_9 hm
def m_X6_load_L29 (v1 : Int32) (S : Hs) : Option ((Int32 × Hs) ⊕ Hs) := if 57 ≤ v1 then (some (.inr S)) else (gd (inb v1 57) (gd (inb v1 57) (bnd (sA S 14 v1.toNatClampNeg (gA S 25 v1.toNatClampNeg)) fun S46 => (some (.inl ((v1 + 1, S46)))))))
noncomputable def m_X6_load_J15 (w0 : Int32) (S : Hs) : Option (Int32 × Hs) := bnd (sI S 13 0 w0) fun S15 => (if (gI S15 13 0) ≤ 0 then ((loopO (fun x => m_X6_load_L29 x.1 x.2) ((0, S15))).bind fun y29 => bnd (sI y29 13 3 0) fun S55 => (gd (inb 0 2) (bnd (sA S55 17 (0 : Int32).toNatClampNeg (vp_nar .boolean 0)) fun S64 => (gd (inb 1 2) (bnd (sA S64 17 (1 : Int32).toNatClampNeg (vp_nar .boolean 0)) fun S71 => (gd (inb 0 57) (some ((gA S71 14 (0 : Int32).toNatClampNeg, S71))))))))) else (some ((0, S15))))
noncomputable def m_X6_load (S : Hs) : Option (Int32 × Hs) := bndE (m_X6_readText  S) fun r2 S2 => (if r2 = ((-9)) then (m_X6_load_J15 0 S2) else (m_X6_load_J15 1 S2))
set_option maxRecDepth 100000 in
set_option maxHeartbeats 4000000 in
theorem c_X6_load (l : Launch) (g : GG) (hg : Inj g)   (S : Hs) (r : Int32) (S' : Hs) (hm : m_X6_load S = some ((r, S'))) : CM l yX6_load [.code yX6_load cX6_load 2 (some .int)] rmX6_load [.ref (g.2.1 13)] g S (some (.int r)) S' := by
  unfold m_X6_load at hm
  refine CM.of (cc := cX6_load) (nL := 2) (ret := (some .int)) (lv := [(0, .ref (g.2.1 13))]) (by decide +kernel) hg (Nat.le_of_ble_eq_true rfl) rfl (fun p e s m args below meth c A F => ?_)
  replace F : Fx p s m meth c cX6_load RX6 2 (some .int) g A := F
  show J p l e rmX6_load s m args below meth c g A 2 (MQ below (QC g A (some (.int r)) S') args s 0 0 A) 0 0 0 [(0, .ref (g.2.1 13))] [] S
  have hj15 : ∀ (w0 : Int32) (S : Hs), m_X6_load_J15 w0 S = some ((r, S')) → J p l e rmX6_load s m args below meth c g A 2 (MQ below (QC g A (some (.int r)) S') args s 0 0 A) 0 0 15 [(0, .ref (g.2.1 13))] [.int w0, .ref (g.2.1 13)] S := by
    intro w0 S hm
    unfold m_X6_load_J15 at hm
    refine j_putI F (k0 := 0) (C := RX6) (T := TX6) (N := 20) tyX6 tyX6_ok nmX6 rfl rfl rfl inF6 (by decide) tw535 rfl (by decide +kernel) dX6_load_15 ?_
    refine j_bndS hm (fun S15 hm => ?_)
    refine j_aload_n F 0 dX6_load_18 rfl ?_
    refine j_getI F (k0 := 0) (C := RX6) (T := TX6) (N := 20) rfl rfl rfl inF6 (by decide) tw535 dX6_load_19 ?_
    refine j_if_le F (tgt := 27) dX6_load_22 (by decide) hm (fun _ hm => ?_) (fun _ hm => ?_)
    · refine j_iconst F (v := 0) dX6_load_27 (by decide) ?_
      refine j_istore_n F (lv' := [(1, .int 0), (0, .ref (g.2.1 13))]) dX6_load_28 (by decide) rfl ?_
      refine j_sub [1, 0] rfl ?_
      obtain ⟨y29, hlp29, hm⟩ := Option.bind_eq_some_iff.mp hm
      refine loopO_walk (fun x => m_X6_load_L29 x.1 x.2) (fun x => J p l e rmX6_load s m args below meth c g A 2 (MQ below (QC g A (some (.int r)) S') args s 0 0 A) 0 0 29 [(0, .ref (g.2.1 13)), (1, .int x.1)] [] x.2) (fun x => J p l e rmX6_load s m args below meth c g A 2 (MQ below (QC g A (some (.int r)) S') args s 0 0 A) 0 0 53 [(0, .ref (g.2.1 13))] [] x) (fun x o1 hm hk1 => ?_) hlp29 ?_
      · obtain ⟨v1, S⟩ := x
        replace hm : m_X6_load_L29 v1 S = some o1 := hm
        show J p l e rmX6_load s m args below meth c g A 2 (MQ below (QC g A (some (.int r)) S') args s 0 0 A) 0 0 29 [(0, .ref (g.2.1 13)), (1, .int v1)] [] S
        unfold m_X6_load_L29 at hm
        refine j_iload_n F 1 dX6_load_29 rfl ?_
        refine j_bipush F (v := 57) dX6_load_30 (by decide) ?_
        refine j_icmp_ge F (tgt := 53) dX6_load_32 (by decide) hm (fun _ hm => ?_) (fun _ hm => ?_)
        · cases hm
          refine j_sub [0] rfl ?_
          exact hk1
        · refine j_aload_n F 0 dX6_load_35 rfl ?_
          refine j_getR F (k0 := 1) (C := RX6) (T := TX6) (N := 20) rfl rfl rfl inF6 (by decide) tw520 dX6_load_36 ?_
          refine j_iload_n F 1 dX6_load_39 rfl ?_
          refine j_aload_n F 0 dX6_load_40 rfl ?_
          refine j_getR F (k0 := 15) (C := RX6) (T := TX6) (N := 20) rfl rfl rfl inF6 (by decide) tw531 dX6_load_41 ?_
          refine j_iload_n F 1 dX6_load_44 rfl ?_
          refine j_iald F rfl dX6_load_45 hm (fun hm => ?_)
          refine j_iast F rfl dX6_load_46 hm (fun hm => ?_)
          refine j_bndS hm (fun S46 hm => ?_)
          refine j_iinc F (v := v1 + 1) (lv' := [(1, .int (v1 + 1)), (0, .ref (g.2.1 13))]) 1 dX6_load_47 rfl rfl (by decide) rfl ?_
          refine j_goto F (tgt := 29) dX6_load_50 (by decide) ?_
          cases hm
          refine j_sub [1, 0] rfl ?_
          exact hk1
      · show J p l e rmX6_load s m args below meth c g A 2 (MQ below (QC g A (some (.int r)) S') args s 0 0 A) 0 0 53 [(0, .ref (g.2.1 13))] [] y29
        refine j_aload_n F 0 dX6_load_53 rfl ?_
        refine j_iconst F (v := 0) dX6_load_54 (by decide) ?_
        refine j_putI F (k0 := 3) (C := RX6) (T := TX6) (N := 20) tyX6 tyX6_ok nmX6 rfl rfl rfl inF6 (by decide) tw538 rfl (by decide +kernel) dX6_load_55 ?_
        refine j_bndS hm (fun S55 hm => ?_)
        refine j_aload_n F 0 dX6_load_58 rfl ?_
        refine j_getR F (k0 := 5) (C := RX6) (T := TX6) (N := 20) rfl rfl rfl inF6 (by decide) tw523 dX6_load_59 ?_
        refine j_iconst F (v := 0) dX6_load_62 (by decide) ?_
        refine j_iconst F (v := 0) dX6_load_63 (by decide) ?_
        refine j_zast F rfl dX6_load_64 hm (fun hm => ?_)
        refine j_bndS hm (fun S64 hm => ?_)
        refine j_aload_n F 0 dX6_load_65 rfl ?_
        refine j_getR F (k0 := 5) (C := RX6) (T := TX6) (N := 20) rfl rfl rfl inF6 (by decide) tw523 dX6_load_66 ?_
        refine j_iconst F (v := 1) dX6_load_69 (by decide) ?_
        refine j_iconst F (v := 0) dX6_load_70 (by decide) ?_
        refine j_zast F rfl dX6_load_71 hm (fun hm => ?_)
        refine j_bndS hm (fun S71 hm => ?_)
        refine j_aload_n F 0 dX6_load_72 rfl ?_
        refine j_getR F (k0 := 1) (C := RX6) (T := TX6) (N := 20) rfl rfl rfl inF6 (by decide) tw520 dX6_load_73 ?_
        refine j_iconst F (v := 0) dX6_load_76 (by decide) ?_
        refine j_iald F rfl dX6_load_77 hm (fun hm => ?_)
        exact j_iret_e F rfl dX6_load_78 hm
    · refine j_iconst F (v := 0) dX6_load_25 (by decide) ?_
      exact j_iret_e F rfl dX6_load_26 hm
  refine j_aload_n F 0 dX6_load_0 rfl ?_
  refine j_aload_n F 0 dX6_load_1 rfl ?_
  obtain ⟨r2, S2, hc2, hm⟩ := bndE_ok hm
  refine j_callV F (n := 0) (As := []) (rest := [.ref (g.2.1 13)]) (c_X6_readText l g hg S r2 S2 hc2) gw_X6_122 (by decide +kernel) ⟨Nat.le_of_ble_eq_true rfl, Nat.le_of_ble_eq_true rfl⟩ ⟨Nat.le_of_ble_eq_true rfl, Nat.le_of_ble_eq_true rfl⟩ rfl rfl rfl rfl (Nat.le_of_ble_eq_true rfl) dX6_load_2 ?_
  show J p l e rmX6_load s m args below meth c g A 2 (MQ below (QC g A (some (.int r)) S') args s 0 0 A) 0 0 5 [(0, .ref (g.2.1 13))] [.int r2, .ref (g.2.1 13)] S2
  refine j_bipush F (v := -9) dX6_load_5 (by decide) ?_
  refine j_icmp_ne F (tgt := 14) dX6_load_7 (by decide) hm (fun _ hm => ?_) (fun _ hm => ?_)
  · refine j_iconst F (v := 1) dX6_load_14 (by decide) ?_
    refine j_sub [0] rfl ?_
    exact hj15 1 S2  hm
  · refine j_iconst F (v := 0) dX6_load_10 (by decide) ?_
    refine j_goto F (tgt := 15) dX6_load_11 (by decide) ?_
    refine j_sub [0] rfl ?_
    exact hj15 0 S2  hm
def m_X6_persons_J28 (v2 : Int32) (w0 : Int32) (w1 : Int32) (S : Hs) : Option ((Int32 × Int32) ⊕ Int32) := bnd (w1 + w0) fun v1_29 => (some (.inl ((v1_29, v2 + 1))))
def m_X6_persons_L4 (S : Hs) (v1 : Int32) (v2 : Int32) : Option ((Int32 × Int32) ⊕ Int32) := gd (inb 0 57) (if (gA S 14 (0 : Int32).toNatClampNeg) ≤ v2 then (some (.inr v1)) else ((m_X6_isPerson v2 S).bind fun r17 => (if r17 = 0 then (m_X6_persons_J28 v2 0 v1 S) else (m_X6_persons_J28 v2 1 v1 S))))
noncomputable def m_X6_persons (S : Hs) : Option (Int32) := (loopO (fun x => m_X6_persons_L4 S x.1 x.2) ((0, 0))).bind fun y4 => some y4
set_option maxRecDepth 100000 in
set_option maxHeartbeats 4000000 in
theorem c_X6_persons (l : Launch) (g : GG) (hg : Inj g)   (S : Hs) (r : Int32) (hm : m_X6_persons S = some r) : CM l yX6_persons [.code yX6_persons cX6_persons 3 (some .int)] rmX6_persons [.ref (g.2.1 13)] g S (some (.int r)) S := by
  unfold m_X6_persons at hm
  refine CM.of (cc := cX6_persons) (nL := 3) (ret := (some .int)) (lv := [(0, .ref (g.2.1 13))]) (by decide +kernel) hg (Nat.le_of_ble_eq_true rfl) rfl (fun p e s m args below meth c A F => ?_)
  replace F : Fx p s m meth c cX6_persons RX6 3 (some .int) g A := F
  show J p l e rmX6_persons s m args below meth c g A 3 (MQ below (QC g A (some (.int r)) S) args s 0 0 A) 0 0 0 [(0, .ref (g.2.1 13))] [] S
  refine j_iconst F (v := 0) dX6_persons_0 (by decide) ?_
  refine j_istore_n F (lv' := [(1, .int 0), (0, .ref (g.2.1 13))]) dX6_persons_1 (by decide) rfl ?_
  refine j_iconst F (v := 0) dX6_persons_2 (by decide) ?_
  refine j_istore_n F (lv' := [(2, .int 0), (1, .int 0), (0, .ref (g.2.1 13))]) dX6_persons_3 (by decide) rfl ?_
  refine j_sub [2, 1, 0] rfl ?_
  obtain ⟨y4, hlp4, hm⟩ := Option.bind_eq_some_iff.mp hm
  refine loopO_walk (fun x => m_X6_persons_L4 S x.1 x.2) (fun x => J p l e rmX6_persons s m args below meth c g A 3 (MQ below (QC g A (some (.int r)) S) args s 0 0 A) 0 0 4 [(0, .ref (g.2.1 13)), (1, .int x.1), (2, .int x.2)] [] S) (fun x => J p l e rmX6_persons s m args below meth c g A 3 (MQ below (QC g A (some (.int r)) S) args s 0 0 A) 0 0 36 [(1, .int x)] [] S) (fun x o1 hm hk1 => ?_) hlp4 ?_
  · obtain ⟨v1, v2⟩ := x
    replace hm : m_X6_persons_L4 S v1 v2 = some o1 := hm
    show J p l e rmX6_persons s m args below meth c g A 3 (MQ below (QC g A (some (.int r)) S) args s 0 0 A) 0 0 4 [(0, .ref (g.2.1 13)), (1, .int v1), (2, .int v2)] [] S
    unfold m_X6_persons_L4 at hm
    have hj28 : ∀ (v2 : Int32) (w0 : Int32) (w1 : Int32), m_X6_persons_J28 v2 w0 w1 S = some o1 → J p l e rmX6_persons s m args below meth c g A 3 (MQ below (QC g A (some (.int r)) S) args s 0 0 A) 0 0 28 [(0, .ref (g.2.1 13)), (2, .int v2)] [.int w0, .int w1] S := by
      intro v2 w0 w1 hm
      unfold m_X6_persons_J28 at hm
      refine j_iadd F dX6_persons_28 ?_
      refine j_bnd hm (fun v1_29 hm => ?_)
      refine j_istore_n F (lv' := [(1, .int v1_29), (0, .ref (g.2.1 13)), (2, .int v2)]) dX6_persons_29 (by decide) rfl ?_
      refine j_iinc F (v := v2 + 1) (lv' := [(2, .int (v2 + 1)), (1, .int v1_29), (0, .ref (g.2.1 13))]) 2 dX6_persons_30 rfl rfl (by decide) rfl ?_
      refine j_goto F (tgt := 4) dX6_persons_33 (by decide) ?_
      cases hm
      refine j_sub [2, 1, 0] rfl ?_
      exact hk1
    refine j_iload_n F 2 dX6_persons_4 rfl ?_
    refine j_aload_n F 0 dX6_persons_5 rfl ?_
    refine j_getR F (k0 := 1) (C := RX6) (T := TX6) (N := 20) rfl rfl rfl inF6 (by decide) tw520 dX6_persons_6 ?_
    refine j_iconst F (v := 0) dX6_persons_9 (by decide) ?_
    refine j_iald F rfl dX6_persons_10 hm (fun hm => ?_)
    refine j_icmp_ge F (tgt := 36) dX6_persons_11 (by decide) hm (fun _ hm => ?_) (fun _ hm => ?_)
    · cases hm
      refine j_sub [1] rfl ?_
      exact hk1
    · refine j_iload_n F 1 dX6_persons_14 rfl ?_
      refine j_aload_n F 0 dX6_persons_15 rfl ?_
      refine j_iload_n F 2 dX6_persons_16 rfl ?_
      obtain ⟨r17, hc17, hm⟩ := Option.bind_eq_some_iff.mp hm
      refine j_callV F (n := 1) (As := [.int v2]) (rest := [.int v1]) (c_X6_isPerson l g hg v2 S r17 hc17) gw_X6_97 (by decide +kernel) ⟨Nat.le_of_ble_eq_true rfl, Nat.le_of_ble_eq_true rfl⟩ ⟨Nat.le_of_ble_eq_true rfl, Nat.le_of_ble_eq_true rfl⟩ rfl rfl rfl rfl (Nat.le_of_ble_eq_true rfl) dX6_persons_17 ?_
      show J p l e rmX6_persons s m args below meth c g A 3 (MQ below (QC g A (some (.int r)) S) args s 0 0 A) 0 0 20 [(0, .ref (g.2.1 13)), (1, .int v1), (2, .int v2)] [.int r17, .int v1] S
      refine j_if_eq F (tgt := 27) dX6_persons_20 (by decide) hm (fun _ hm => ?_) (fun _ hm => ?_)
      · refine j_iconst F (v := 0) dX6_persons_27 (by decide) ?_
        refine j_sub [0, 2] rfl ?_
        exact hj28 v2 0 v1  hm
      · refine j_iconst F (v := 1) dX6_persons_23 (by decide) ?_
        refine j_goto F (tgt := 28) dX6_persons_24 (by decide) ?_
        refine j_sub [0, 2] rfl ?_
        exact hj28 v2 1 v1  hm
  · show J p l e rmX6_persons s m args below meth c g A 3 (MQ below (QC g A (some (.int r)) S) args s 0 0 A) 0 0 36 [(1, .int y4)] [] S
    refine j_iload_n F 0 dX6_persons_36 rfl ?_
    exact j_iret_p F rfl dX6_persons_37 hm
noncomputable def m_X6_about_J123 (w0 : Int32) (S : Hs) : Option (Int32 × Hs) := bndE (m_X6_pairs w0 S) fun r123 S123 => (some ((r123, S123)))
noncomputable def m_X6_about_J16 (v1 : Int32) (w0 : Int32) (S : Hs) : Option (Int32 × Hs) := bnd (sI S 13 0 w0) fun S16 => (if (gI S16 13 0) ≤ 0 then ((m_X6_awakeSet  S16).bind fun r30 => ((m_X6_spread r30 S16).bind fun S33 => (if v1 = 0 then (gd (inb 0 57) (some ((gA S33 14 (0 : Int32).toNatClampNeg, S33)))) else (if v1 = 1 then ((m_X6_persons  S33).bind fun r84 => (some ((r84, S33)))) else (if v1 = 2 then ((m_X6_awakeSet  S33).bind fun r89 => ((m_X6_bits r89).bind fun r92 => (some ((r92, S33))))) else (if v1 = 3 then ((m_X6_rightsMany  S33).bind fun r97 => (some ((r97, S33)))) else (if v1 = 4 then ((m_X6_endMany  S33).bind fun r102 => (some ((r102, S33)))) else (if v1 = 5 then (some ((gI S33 13 13, S33))) else (if v1 = 7 then (m_X6_about_J123 1 S33) else (m_X6_about_J123 0 S33)))))))))) else (some ((0, S16))))
noncomputable def m_X6_about (v1 : Int32) (S : Hs) : Option (Int32 × Hs) := (m_X6_in v1 0 7).bind fun r5 => (if r5 = 0 then (m_X6_about_J16 v1 1 S) else (m_X6_about_J16 v1 0 S))
set_option maxRecDepth 100000 in
set_option maxHeartbeats 4000000 in
theorem c_X6_about (l : Launch) (g : GG) (hg : Inj g) (v1 : Int32)  (S : Hs) (r : Int32) (S' : Hs) (hm : m_X6_about v1 S = some ((r, S'))) : CM l yX6_about [.code yX6_about cX6_about 2 (some .int)] rmX6_about [.ref (g.2.1 13), .int v1] g S (some (.int r)) S' := by
  unfold m_X6_about at hm
  refine CM.of (cc := cX6_about) (nL := 2) (ret := (some .int)) (lv := [(0, .ref (g.2.1 13)), (1, .int v1)]) (by decide +kernel) hg (Nat.le_of_ble_eq_true rfl) rfl (fun p e s m args below meth c A F => ?_)
  replace F : Fx p s m meth c cX6_about RX6 2 (some .int) g A := F
  show J p l e rmX6_about s m args below meth c g A 2 (MQ below (QC g A (some (.int r)) S') args s 0 0 A) 0 0 0 [(0, .ref (g.2.1 13)), (1, .int v1)] [] S
  have hj123 : ∀ (w0 : Int32) (S : Hs), m_X6_about_J123 w0 S = some ((r, S')) → J p l e rmX6_about s m args below meth c g A 2 (MQ below (QC g A (some (.int r)) S') args s 0 0 A) 0 0 123 [] [.int w0, .ref (g.2.1 13)] S := by
    intro w0 S hm
    unfold m_X6_about_J123 at hm
    obtain ⟨r123, S123, hc123, hm⟩ := bndE_ok hm
    refine j_callV F (n := 1) (As := [.int w0]) (rest := []) (c_X6_pairs l g hg w0 S r123 S123 hc123) gw_X6_138 (by decide +kernel) ⟨Nat.le_of_ble_eq_true rfl, Nat.le_of_ble_eq_true rfl⟩ ⟨Nat.le_of_ble_eq_true rfl, Nat.le_of_ble_eq_true rfl⟩ rfl rfl rfl rfl (Nat.le_of_ble_eq_true rfl) dX6_about_123 ?_
    show J p l e rmX6_about s m args below meth c g A 2 (MQ below (QC g A (some (.int r)) S') args s 0 0 A) 0 0 126 [] [.int r123] S123
    exact j_iret_e F rfl dX6_about_126 hm
  have hj16 : ∀ (v1 : Int32) (w0 : Int32) (S : Hs), m_X6_about_J16 v1 w0 S = some ((r, S')) → J p l e rmX6_about s m args below meth c g A 2 (MQ below (QC g A (some (.int r)) S') args s 0 0 A) 0 0 16 [(0, .ref (g.2.1 13)), (1, .int v1)] [.int w0, .ref (g.2.1 13)] S := by
    intro v1 w0 S hm
    unfold m_X6_about_J16 at hm
    refine j_putI F (k0 := 0) (C := RX6) (T := TX6) (N := 20) tyX6 tyX6_ok nmX6 rfl rfl rfl inF6 (by decide) tw535 rfl (by decide +kernel) dX6_about_16 ?_
    refine j_bndS hm (fun S16 hm => ?_)
    refine j_aload_n F 0 dX6_about_19 rfl ?_
    refine j_getI F (k0 := 0) (C := RX6) (T := TX6) (N := 20) rfl rfl rfl inF6 (by decide) tw535 dX6_about_20 ?_
    refine j_if_le F (tgt := 28) dX6_about_23 (by decide) hm (fun _ hm => ?_) (fun _ hm => ?_)
    · refine j_aload_n F 0 dX6_about_28 rfl ?_
      refine j_aload_n F 0 dX6_about_29 rfl ?_
      obtain ⟨r30, hc30, hm⟩ := Option.bind_eq_some_iff.mp hm
      refine j_callV F (n := 0) (As := []) (rest := [.ref (g.2.1 13)]) (c_X6_awakeSet l g hg S16 r30 hc30) gw_X6_125 (by decide +kernel) ⟨Nat.le_of_ble_eq_true rfl, Nat.le_of_ble_eq_true rfl⟩ ⟨Nat.le_of_ble_eq_true rfl, Nat.le_of_ble_eq_true rfl⟩ rfl rfl rfl rfl (Nat.le_of_ble_eq_true rfl) dX6_about_30 ?_
      show J p l e rmX6_about s m args below meth c g A 2 (MQ below (QC g A (some (.int r)) S') args s 0 0 A) 0 0 33 [(0, .ref (g.2.1 13)), (1, .int v1)] [.int r30, .ref (g.2.1 13)] S16
      obtain ⟨S33, hc33, hm⟩ := Option.bind_eq_some_iff.mp hm
      refine j_callV F (n := 1) (As := [.int r30]) (rest := []) (c_X6_spread l g hg r30 S16 S33 hc33) gw_X6_128 (by decide +kernel) ⟨Nat.le_of_ble_eq_true rfl, Nat.le_of_ble_eq_true rfl⟩ ⟨Nat.le_of_ble_eq_true rfl, Nat.le_of_ble_eq_true rfl⟩ rfl rfl rfl rfl (Nat.le_of_ble_eq_true rfl) dX6_about_33 ?_
      show J p l e rmX6_about s m args below meth c g A 2 (MQ below (QC g A (some (.int r)) S') args s 0 0 A) 0 0 36 [(0, .ref (g.2.1 13)), (1, .int v1)] [] S33
      refine j_iload_n F 1 dX6_about_36 rfl ?_
      refine sw_if hm (fun esw hm => ?_) (fun n0 hm => ?_)
      · refine j_swIn F (tgt := 76) dX6_about_37 esw (by decide +kernel) (by decide +kernel) (off := 39) (by decide +kernel) (by decide) ?_
        refine j_aload_n F 0 dX6_about_76 rfl ?_
        refine j_getR F (k0 := 1) (C := RX6) (T := TX6) (N := 20) rfl rfl rfl inF6 (by decide) tw520 dX6_about_77 ?_
        refine j_iconst F (v := 0) dX6_about_80 (by decide) ?_
        refine j_iald F rfl dX6_about_81 hm (fun hm => ?_)
        exact j_iret_e F rfl dX6_about_82 hm
      · refine sw_if hm (fun esw hm => ?_) (fun n1 hm => ?_)
        · refine j_swIn F (tgt := 83) dX6_about_37 esw (by decide +kernel) (by decide +kernel) (off := 46) (by decide +kernel) (by decide) ?_
          refine j_aload_n F 0 dX6_about_83 rfl ?_
          obtain ⟨r84, hc84, hm⟩ := Option.bind_eq_some_iff.mp hm
          refine j_callV F (n := 0) (As := []) (rest := []) (c_X6_persons l g hg S33 r84 hc84) gw_X6_132 (by decide +kernel) ⟨Nat.le_of_ble_eq_true rfl, Nat.le_of_ble_eq_true rfl⟩ ⟨Nat.le_of_ble_eq_true rfl, Nat.le_of_ble_eq_true rfl⟩ rfl rfl rfl rfl (Nat.le_of_ble_eq_true rfl) dX6_about_84 ?_
          show J p l e rmX6_about s m args below meth c g A 2 (MQ below (QC g A (some (.int r)) S') args s 0 0 A) 0 0 87 [(0, .ref (g.2.1 13)), (1, .int v1)] [.int r84] S33
          exact j_iret_e F rfl dX6_about_87 hm
        · refine sw_if hm (fun esw hm => ?_) (fun n2 hm => ?_)
          · refine j_swIn F (tgt := 88) dX6_about_37 esw (by decide +kernel) (by decide +kernel) (off := 51) (by decide +kernel) (by decide) ?_
            refine j_aload_n F 0 dX6_about_88 rfl ?_
            obtain ⟨r89, hc89, hm⟩ := Option.bind_eq_some_iff.mp hm
            refine j_callV F (n := 0) (As := []) (rest := []) (c_X6_awakeSet l g hg S33 r89 hc89) gw_X6_125 (by decide +kernel) ⟨Nat.le_of_ble_eq_true rfl, Nat.le_of_ble_eq_true rfl⟩ ⟨Nat.le_of_ble_eq_true rfl, Nat.le_of_ble_eq_true rfl⟩ rfl rfl rfl rfl (Nat.le_of_ble_eq_true rfl) dX6_about_89 ?_
            show J p l e rmX6_about s m args below meth c g A 2 (MQ below (QC g A (some (.int r)) S') args s 0 0 A) 0 0 92 [(0, .ref (g.2.1 13)), (1, .int v1)] [.int r89] S33
            obtain ⟨r92, hc92, hm⟩ := Option.bind_eq_some_iff.mp hm
            refine j_callS F (n := 1) (As := [.int r89]) (rest := []) (c_X6_bits l g hg r89 S33 r92 hc92) gw_X6_72 (by decide +kernel) ⟨Nat.le_of_ble_eq_true rfl, Nat.le_of_ble_eq_true rfl⟩ ⟨Nat.le_of_ble_eq_true rfl, Nat.le_of_ble_eq_true rfl⟩ rfl rfl (Nat.le_of_ble_eq_true rfl) dX6_about_92 ?_
            show J p l e rmX6_about s m args below meth c g A 2 (MQ below (QC g A (some (.int r)) S') args s 0 0 A) 0 0 95 [(0, .ref (g.2.1 13)), (1, .int v1)] [.int r92] S33
            exact j_iret_e F rfl dX6_about_95 hm
          · refine sw_if hm (fun esw hm => ?_) (fun n3 hm => ?_)
            · refine j_swIn F (tgt := 96) dX6_about_37 esw (by decide +kernel) (by decide +kernel) (off := 59) (by decide +kernel) (by decide) ?_
              refine j_aload_n F 0 dX6_about_96 rfl ?_
              obtain ⟨r97, hc97, hm⟩ := Option.bind_eq_some_iff.mp hm
              refine j_callV F (n := 0) (As := []) (rest := []) (c_X6_rightsMany l g hg S33 r97 hc97) gw_X6_64 (by decide +kernel) ⟨Nat.le_of_ble_eq_true rfl, Nat.le_of_ble_eq_true rfl⟩ ⟨Nat.le_of_ble_eq_true rfl, Nat.le_of_ble_eq_true rfl⟩ rfl rfl rfl rfl (Nat.le_of_ble_eq_true rfl) dX6_about_97 ?_
              show J p l e rmX6_about s m args below meth c g A 2 (MQ below (QC g A (some (.int r)) S') args s 0 0 A) 0 0 100 [(0, .ref (g.2.1 13)), (1, .int v1)] [.int r97] S33
              exact j_iret_e F rfl dX6_about_100 hm
            · refine sw_if hm (fun esw hm => ?_) (fun n4 hm => ?_)
              · refine j_swIn F (tgt := 101) dX6_about_37 esw (by decide +kernel) (by decide +kernel) (off := 64) (by decide +kernel) (by decide) ?_
                refine j_aload_n F 0 dX6_about_101 rfl ?_
                obtain ⟨r102, hc102, hm⟩ := Option.bind_eq_some_iff.mp hm
                refine j_callV F (n := 0) (As := []) (rest := []) (c_X6_endMany l g hg S33 r102 hc102) gw_X6_135 (by decide +kernel) ⟨Nat.le_of_ble_eq_true rfl, Nat.le_of_ble_eq_true rfl⟩ ⟨Nat.le_of_ble_eq_true rfl, Nat.le_of_ble_eq_true rfl⟩ rfl rfl rfl rfl (Nat.le_of_ble_eq_true rfl) dX6_about_102 ?_
                show J p l e rmX6_about s m args below meth c g A 2 (MQ below (QC g A (some (.int r)) S') args s 0 0 A) 0 0 105 [(0, .ref (g.2.1 13)), (1, .int v1)] [.int r102] S33
                exact j_iret_e F rfl dX6_about_105 hm
              · refine sw_if hm (fun esw hm => ?_) (fun n5 hm => ?_)
                · refine j_swIn F (tgt := 106) dX6_about_37 esw (by decide +kernel) (by decide +kernel) (off := 69) (by decide +kernel) (by decide) ?_
                  refine j_aload_n F 0 dX6_about_106 rfl ?_
                  refine j_getI F (k0 := 13) (C := RX6) (T := TX6) (N := 20) rfl rfl rfl inF6 (by decide) tw569 dX6_about_107 ?_
                  exact j_iret_e F rfl dX6_about_110 hm
                · refine j_swOut F (tgt := 111) dX6_about_37 (by have a0 := ne_z (z := 0) n0 (by decide +kernel); have a1 := ne_z (z := 1) n1 (by decide +kernel); have a2 := ne_z (z := 2) n2 (by decide +kernel); have a3 := ne_z (z := 3) n3 (by decide +kernel); have a4 := ne_z (z := 4) n4 (by decide +kernel); have a5 := ne_z (z := 5) n5 (by decide +kernel); omega) (by decide) ?_
                  refine j_aload_n F 0 dX6_about_111 rfl ?_
                  refine j_iload_n F 1 dX6_about_112 rfl ?_
                  refine j_bipush F (v := 7) dX6_about_113 (by decide) ?_
                  refine j_icmp_ne F (tgt := 122) dX6_about_115 (by decide) hm (fun _ hm => ?_) (fun _ hm => ?_)
                  · refine j_iconst F (v := 0) dX6_about_122 (by decide) ?_
                    refine j_sub [] rfl ?_
                    exact hj123 0 S33  hm
                  · refine j_iconst F (v := 1) dX6_about_118 (by decide) ?_
                    refine j_goto F (tgt := 123) dX6_about_119 (by decide) ?_
                    refine j_sub [] rfl ?_
                    exact hj123 1 S33  hm
    · refine j_iconst F (v := 0) dX6_about_26 (by decide) ?_
      exact j_iret_e F rfl dX6_about_27 hm
  refine j_aload_n F 0 dX6_about_0 rfl ?_
  refine j_iload_n F 1 dX6_about_1 rfl ?_
  refine j_iconst F (v := 0) dX6_about_2 (by decide) ?_
  refine j_bipush F (v := 7) dX6_about_3 (by decide) ?_
  obtain ⟨r5, hc5, hm⟩ := Option.bind_eq_some_iff.mp hm
  refine j_callS F (n := 3) (As := [.int v1, .int 0, .int 7]) (rest := [.ref (g.2.1 13)]) (c_X6_in l g hg v1 0 7 S r5 hc5) gw_X6_60 (by decide +kernel) ⟨Nat.le_of_ble_eq_true rfl, Nat.le_of_ble_eq_true rfl⟩ ⟨Nat.le_of_ble_eq_true rfl, Nat.le_of_ble_eq_true rfl⟩ rfl rfl (Nat.le_of_ble_eq_true rfl) dX6_about_5 ?_
  show J p l e rmX6_about s m args below meth c g A 2 (MQ below (QC g A (some (.int r)) S') args s 0 0 A) 0 0 8 [(0, .ref (g.2.1 13)), (1, .int v1)] [.int r5, .ref (g.2.1 13)] S
  refine j_if_eq F (tgt := 15) dX6_about_8 (by decide) hm (fun _ hm => ?_) (fun _ hm => ?_)
  · refine j_iconst F (v := 1) dX6_about_15 (by decide) ?_
    refine j_sub [0, 1] rfl ?_
    exact hj16 v1 1 S  hm
  · refine j_iconst F (v := 0) dX6_about_11 (by decide) ?_
    refine j_goto F (tgt := 16) dX6_about_12 (by decide) ?_
    refine j_sub [0, 1] rfl ?_
    exact hj16 v1 0 S  hm
