noncomputable def m_X5_about (v1 : Int32) (S : Hs) : Option ((Int32 ⊕ Nat) × Hs) := if v1 = 0 then (some ((.inl (gI S 29 0), S))) else (if v1 = 1 then ((m_J6_bitCount_0f7a4 (gI S 29 1)).bind fun r63 => (some ((.inl r63, S)))) else (if v1 = 2 then ((m_J6_bitCount_0f7a4 (gI S 29 2)).bind fun r74 => (some ((.inl r74, S)))) else (if v1 = 3 then ((m_X3_countRights 29 S).bind fun r82 => (some ((.inl r82, S)))) else (if v1 = 4 then (bndE (m_X5_endOf 29 S) fun r91 S91 => (gd (isSt r91) ((m_X3_countRights r91 S91).bind fun r94 => (some ((.inl r94, S91)))))) else (if v1 = 5 then ((m_X2_follow 29 S).bind fun S106 => (some ((.inl (gI S106 6 2), S106)))) else (if v1 = 6 then ((m_X1_follow 29 S).bind fun S125 => ((m_X1_countPairs  S125).bind fun r132 => (some ((.inl r132, S125))))) else (if v1 = 7 then (bndE (m_X5_endOf 29 S) fun r145 S145 => (gd (isSt r145) ((m_X1_follow r145 S145).bind fun S148 => ((m_X1_countPairs  S148).bind fun r155 => (some ((.inl r155, S148))))))) else (some ((.inr 1, S))))))))))
set_option maxRecDepth 100000 in
set_option maxHeartbeats 4000000 in
theorem c_X5_about (l : Launch) (g : GG) (hg : Inj g) (v1 : Int32)  (S : Hs) (r : Int32) (S' : Hs) (hm : m_X5_about v1 S = some ((.inl r, S'))) : CM l yX5_about [.code yX5_about cX5_about 2 (some .int)] rmX5_about [.ref (g.2.1 0), .int v1] g S (some (.int r)) S' := by
  unfold m_X5_about at hm
  refine CM.of (cc := cX5_about) (nL := 2) (ret := (some .int)) (lv := [(0, .ref (g.2.1 0)), (1, .int v1)]) (by decide +kernel) hg (Nat.le_of_ble_eq_true rfl) rfl (fun p e s m args below meth c A F => ?_)
  replace F : Fx p s m meth c cX5_about RX5 2 (some .int) g A := F
  show J p l e rmX5_about s m args below meth c g A 2 (MQ below (QC g A (some (.int r)) S') args s 0 0 A) 0 0 0 [(0, .ref (g.2.1 0)), (1, .int v1)] [] S
  refine j_iload_n F 1 dX5_about_0 rfl ?_
  refine sw_if hm (fun esw hm => ?_) (fun n0 hm => ?_)
  · refine j_swIn F (tgt := 48) dX5_about_1 esw (by decide +kernel) (by decide +kernel) (off := 47) (by decide +kernel) (by decide) ?_
    refine j_aload_n F 0 dX5_about_48 rfl ?_
    refine j_getR F (k0 := 1) (C := RX5) (T := TX5) (N := 11) lay_0 rfl rfl inF5 (by decide) tw179 dX5_about_49 ?_
    refine j_getI F (k0 := 0) (C := RX3) (T := TX3) (N := 4) (isSt_lay (i := 29) (by decide)).1 rfl rfl inF3 (by decide) tw206 dX5_about_52 ?_
    exact j_iret_e F rfl dX5_about_55 (inl_e hm)
  · refine sw_if hm (fun esw hm => ?_) (fun n1 hm => ?_)
    · refine j_swIn F (tgt := 56) dX5_about_1 esw (by decide +kernel) (by decide +kernel) (off := 55) (by decide +kernel) (by decide) ?_
      refine j_aload_n F 0 dX5_about_56 rfl ?_
      refine j_getR F (k0 := 1) (C := RX5) (T := TX5) (N := 11) lay_0 rfl rfl inF5 (by decide) tw179 dX5_about_57 ?_
      refine j_getI F (k0 := 1) (C := RX3) (T := TX3) (N := 4) (isSt_lay (i := 29) (by decide)).1 rfl rfl inF3 (by decide) tw207 dX5_about_60 ?_
      obtain ⟨r63, hc63, hm⟩ := Option.bind_eq_some_iff.mp hm
      refine j_callS F (n := 1) (As := [.int (gI S 29 1)]) (rest := []) (c_J6_bitCount_0f7a4 l g hg (gI S 29 1) S r63 hc63) gw_X5_100 (by decide +kernel) ⟨Nat.le_of_ble_eq_true rfl, Nat.le_of_ble_eq_true rfl⟩ ⟨Nat.le_of_ble_eq_true rfl, Nat.le_of_ble_eq_true rfl⟩ rfl rfl (Nat.le_of_ble_eq_true rfl) dX5_about_63 ?_
      show J p l e rmX5_about s m args below meth c g A 2 (MQ below (QC g A (some (.int r)) S') args s 0 0 A) 0 0 66 [(0, .ref (g.2.1 0)), (1, .int v1)] [.int r63] S
      exact j_iret_e F rfl dX5_about_66 (inl_e hm)
    · refine sw_if hm (fun esw hm => ?_) (fun n2 hm => ?_)
      · refine j_swIn F (tgt := 67) dX5_about_1 esw (by decide +kernel) (by decide +kernel) (off := 66) (by decide +kernel) (by decide) ?_
        refine j_aload_n F 0 dX5_about_67 rfl ?_
        refine j_getR F (k0 := 1) (C := RX5) (T := TX5) (N := 11) lay_0 rfl rfl inF5 (by decide) tw179 dX5_about_68 ?_
        refine j_getI F (k0 := 2) (C := RX3) (T := TX3) (N := 4) (isSt_lay (i := 29) (by decide)).1 rfl rfl inF3 (by decide) tw208 dX5_about_71 ?_
        obtain ⟨r74, hc74, hm⟩ := Option.bind_eq_some_iff.mp hm
        refine j_callS F (n := 1) (As := [.int (gI S 29 2)]) (rest := []) (c_J6_bitCount_0f7a4 l g hg (gI S 29 2) S r74 hc74) gw_X5_100 (by decide +kernel) ⟨Nat.le_of_ble_eq_true rfl, Nat.le_of_ble_eq_true rfl⟩ ⟨Nat.le_of_ble_eq_true rfl, Nat.le_of_ble_eq_true rfl⟩ rfl rfl (Nat.le_of_ble_eq_true rfl) dX5_about_74 ?_
        show J p l e rmX5_about s m args below meth c g A 2 (MQ below (QC g A (some (.int r)) S') args s 0 0 A) 0 0 77 [(0, .ref (g.2.1 0)), (1, .int v1)] [.int r74] S
        exact j_iret_e F rfl dX5_about_77 (inl_e hm)
      · refine sw_if hm (fun esw hm => ?_) (fun n3 hm => ?_)
        · refine j_swIn F (tgt := 78) dX5_about_1 esw (by decide +kernel) (by decide +kernel) (off := 77) (by decide +kernel) (by decide) ?_
          refine j_aload_n F 0 dX5_about_78 rfl ?_
          refine j_getR F (k0 := 1) (C := RX5) (T := TX5) (N := 11) lay_0 rfl rfl inF5 (by decide) tw179 dX5_about_79 ?_
          obtain ⟨r82, hc82, hm⟩ := Option.bind_eq_some_iff.mp hm
          refine j_callV F (n := 0) (As := []) (rest := []) (c_X3_countRights l g hg 29 (by decide) S r82 hc82) gw_X5_109 (by decide +kernel) ⟨Nat.le_of_ble_eq_true rfl, Nat.le_of_ble_eq_true rfl⟩ ⟨Nat.le_of_ble_eq_true rfl, Nat.le_of_ble_eq_true rfl⟩ (isSt_lay (i := 29) (by decide)).1 rfl rfl rfl (Nat.le_of_ble_eq_true rfl) dX5_about_82 ?_
          show J p l e rmX5_about s m args below meth c g A 2 (MQ below (QC g A (some (.int r)) S') args s 0 0 A) 0 0 85 [(0, .ref (g.2.1 0)), (1, .int v1)] [.int r82] S
          exact j_iret_e F rfl dX5_about_85 (inl_e hm)
        · refine sw_if hm (fun esw hm => ?_) (fun n4 hm => ?_)
          · refine j_swIn F (tgt := 86) dX5_about_1 esw (by decide +kernel) (by decide +kernel) (off := 85) (by decide +kernel) (by decide) ?_
            refine j_aload_n F 0 dX5_about_86 rfl ?_
            refine j_aload_n F 0 dX5_about_87 rfl ?_
            refine j_getR F (k0 := 1) (C := RX5) (T := TX5) (N := 11) lay_0 rfl rfl inF5 (by decide) tw179 dX5_about_88 ?_
            obtain ⟨r91, S91, hc91, hm⟩ := bndE_ok hm
            refine j_callV F (n := 1) (As := [.ref (g.2.1 29)]) (rest := []) (c_X5_endOf l g hg 29 (by decide) S r91 S91 hc91) gw_X5_113 (by decide +kernel) ⟨Nat.le_of_ble_eq_true rfl, Nat.le_of_ble_eq_true rfl⟩ ⟨Nat.le_of_ble_eq_true rfl, Nat.le_of_ble_eq_true rfl⟩ lay_0 rfl rfl rfl (Nat.le_of_ble_eq_true rfl) dX5_about_91 ?_
            obtain ⟨hs_r91, hm⟩ := gd_ok hm
            show J p l e rmX5_about s m args below meth c g A 2 (MQ below (QC g A (some (.int r)) S') args s 0 0 A) 0 0 94 [(0, .ref (g.2.1 0)), (1, .int v1)] [.ref (g.2.1 r91)] S91
            obtain ⟨r94, hc94, hm⟩ := Option.bind_eq_some_iff.mp hm
            refine j_callV F (n := 0) (As := []) (rest := []) (c_X3_countRights l g hg r91 hs_r91 S91 r94 hc94) gw_X5_109 (by decide +kernel) ⟨Nat.le_of_ble_eq_true rfl, Nat.le_of_ble_eq_true rfl⟩ ⟨Nat.le_of_ble_eq_true rfl, Nat.le_of_ble_eq_true rfl⟩ (isSt_lay hs_r91).1 rfl rfl rfl (Nat.le_of_ble_eq_true rfl) dX5_about_94 ?_
            show J p l e rmX5_about s m args below meth c g A 2 (MQ below (QC g A (some (.int r)) S') args s 0 0 A) 0 0 97 [(0, .ref (g.2.1 0)), (1, .int v1)] [.int r94] S91
            exact j_iret_e F rfl dX5_about_97 (inl_e hm)
          · refine sw_if hm (fun esw hm => ?_) (fun n5 hm => ?_)
            · refine j_swIn F (tgt := 98) dX5_about_1 esw (by decide +kernel) (by decide +kernel) (off := 97) (by decide +kernel) (by decide) ?_
              refine j_aload_n F 0 dX5_about_98 rfl ?_
              refine j_getR F (k0 := 8) (C := RX5) (T := TX5) (N := 11) lay_0 rfl rfl inF5 (by decide) tw187 dX5_about_99 ?_
              refine j_aload_n F 0 dX5_about_102 rfl ?_
              refine j_getR F (k0 := 1) (C := RX5) (T := TX5) (N := 11) lay_0 rfl rfl inF5 (by decide) tw179 dX5_about_103 ?_
              obtain ⟨S106, hc106, hm⟩ := Option.bind_eq_some_iff.mp hm
              refine j_callV F (n := 1) (As := [.ref (g.2.1 29)]) (rest := []) (c_X2_follow l g hg 29 (by decide) S S106 hc106) gw_X5_117 (by decide +kernel) ⟨Nat.le_of_ble_eq_true rfl, Nat.le_of_ble_eq_true rfl⟩ ⟨Nat.le_of_ble_eq_true rfl, Nat.le_of_ble_eq_true rfl⟩ lay_6 rfl rfl rfl (Nat.le_of_ble_eq_true rfl) dX5_about_106 ?_
              show J p l e rmX5_about s m args below meth c g A 2 (MQ below (QC g A (some (.int r)) S') args s 0 0 A) 0 0 109 [(0, .ref (g.2.1 0)), (1, .int v1)] [] S106
              refine j_aload_n F 0 dX5_about_109 rfl ?_
              refine j_getR F (k0 := 8) (C := RX5) (T := TX5) (N := 11) lay_0 rfl rfl inF5 (by decide) tw187 dX5_about_110 ?_
              refine j_getI F (k0 := 2) (C := RX2) (T := TX2) (N := 7) lay_6 rfl rfl inF2 (by decide) tw209 dX5_about_113 ?_
              exact j_iret_e F rfl dX5_about_116 (inl_e hm)
            · refine sw_if hm (fun esw hm => ?_) (fun n6 hm => ?_)
              · refine j_swIn F (tgt := 117) dX5_about_1 esw (by decide +kernel) (by decide +kernel) (off := 116) (by decide +kernel) (by decide) ?_
                refine j_aload_n F 0 dX5_about_117 rfl ?_
                refine j_getR F (k0 := 9) (C := RX5) (T := TX5) (N := 11) lay_0 rfl rfl inF5 (by decide) tw190 dX5_about_118 ?_
                refine j_aload_n F 0 dX5_about_121 rfl ?_
                refine j_getR F (k0 := 1) (C := RX5) (T := TX5) (N := 11) lay_0 rfl rfl inF5 (by decide) tw179 dX5_about_122 ?_
                obtain ⟨S125, hc125, hm⟩ := Option.bind_eq_some_iff.mp hm
                refine j_callV F (n := 1) (As := [.ref (g.2.1 29)]) (rest := []) (c_X1_follow l g hg 29 (by decide) S S125 hc125) gw_X5_123 (by decide +kernel) ⟨Nat.le_of_ble_eq_true rfl, Nat.le_of_ble_eq_true rfl⟩ ⟨Nat.le_of_ble_eq_true rfl, Nat.le_of_ble_eq_true rfl⟩ lay_10 rfl rfl rfl (Nat.le_of_ble_eq_true rfl) dX5_about_125 ?_
                show J p l e rmX5_about s m args below meth c g A 2 (MQ below (QC g A (some (.int r)) S') args s 0 0 A) 0 0 128 [(0, .ref (g.2.1 0)), (1, .int v1)] [] S125
                refine j_aload_n F 0 dX5_about_128 rfl ?_
                refine j_getR F (k0 := 9) (C := RX5) (T := TX5) (N := 11) lay_0 rfl rfl inF5 (by decide) tw190 dX5_about_129 ?_
                obtain ⟨r132, hc132, hm⟩ := Option.bind_eq_some_iff.mp hm
                refine j_callV F (n := 0) (As := []) (rest := []) (c_X1_countPairs l g hg S125 r132 hc132) gw_X5_124 (by decide +kernel) ⟨Nat.le_of_ble_eq_true rfl, Nat.le_of_ble_eq_true rfl⟩ ⟨Nat.le_of_ble_eq_true rfl, Nat.le_of_ble_eq_true rfl⟩ lay_10 rfl rfl rfl (Nat.le_of_ble_eq_true rfl) dX5_about_132 ?_
                show J p l e rmX5_about s m args below meth c g A 2 (MQ below (QC g A (some (.int r)) S') args s 0 0 A) 0 0 135 [(0, .ref (g.2.1 0)), (1, .int v1)] [.int r132] S125
                exact j_iret_e F rfl dX5_about_135 (inl_e hm)
              · refine sw_if hm (fun esw hm => ?_) (fun n7 hm => ?_)
                · refine j_swIn F (tgt := 136) dX5_about_1 esw (by decide +kernel) (by decide +kernel) (off := 135) (by decide +kernel) (by decide) ?_
                  refine j_aload_n F 0 dX5_about_136 rfl ?_
                  refine j_getR F (k0 := 9) (C := RX5) (T := TX5) (N := 11) lay_0 rfl rfl inF5 (by decide) tw190 dX5_about_137 ?_
                  refine j_aload_n F 0 dX5_about_140 rfl ?_
                  refine j_aload_n F 0 dX5_about_141 rfl ?_
                  refine j_getR F (k0 := 1) (C := RX5) (T := TX5) (N := 11) lay_0 rfl rfl inF5 (by decide) tw179 dX5_about_142 ?_
                  obtain ⟨r145, S145, hc145, hm⟩ := bndE_ok hm
                  refine j_callV F (n := 1) (As := [.ref (g.2.1 29)]) (rest := [.ref (g.2.1 10)]) (c_X5_endOf l g hg 29 (by decide) S r145 S145 hc145) gw_X5_113 (by decide +kernel) ⟨Nat.le_of_ble_eq_true rfl, Nat.le_of_ble_eq_true rfl⟩ ⟨Nat.le_of_ble_eq_true rfl, Nat.le_of_ble_eq_true rfl⟩ lay_0 rfl rfl rfl (Nat.le_of_ble_eq_true rfl) dX5_about_145 ?_
                  obtain ⟨hs_r145, hm⟩ := gd_ok hm
                  show J p l e rmX5_about s m args below meth c g A 2 (MQ below (QC g A (some (.int r)) S') args s 0 0 A) 0 0 148 [(0, .ref (g.2.1 0)), (1, .int v1)] [.ref (g.2.1 r145), .ref (g.2.1 10)] S145
                  obtain ⟨S148, hc148, hm⟩ := Option.bind_eq_some_iff.mp hm
                  refine j_callV F (n := 1) (As := [.ref (g.2.1 r145)]) (rest := []) (c_X1_follow l g hg r145 hs_r145 S145 S148 hc148) gw_X5_123 (by decide +kernel) ⟨Nat.le_of_ble_eq_true rfl, Nat.le_of_ble_eq_true rfl⟩ ⟨Nat.le_of_ble_eq_true rfl, Nat.le_of_ble_eq_true rfl⟩ lay_10 rfl rfl rfl (Nat.le_of_ble_eq_true rfl) dX5_about_148 ?_
                  show J p l e rmX5_about s m args below meth c g A 2 (MQ below (QC g A (some (.int r)) S') args s 0 0 A) 0 0 151 [(0, .ref (g.2.1 0)), (1, .int v1)] [] S148
                  refine j_aload_n F 0 dX5_about_151 rfl ?_
                  refine j_getR F (k0 := 9) (C := RX5) (T := TX5) (N := 11) lay_0 rfl rfl inF5 (by decide) tw190 dX5_about_152 ?_
                  obtain ⟨r155, hc155, hm⟩ := Option.bind_eq_some_iff.mp hm
                  refine j_callV F (n := 0) (As := []) (rest := []) (c_X1_countPairs l g hg S148 r155 hc155) gw_X5_124 (by decide +kernel) ⟨Nat.le_of_ble_eq_true rfl, Nat.le_of_ble_eq_true rfl⟩ ⟨Nat.le_of_ble_eq_true rfl, Nat.le_of_ble_eq_true rfl⟩ lay_10 rfl rfl rfl (Nat.le_of_ble_eq_true rfl) dX5_about_155 ?_
                  show J p l e rmX5_about s m args below meth c g A 2 (MQ below (QC g A (some (.int r)) S') args s 0 0 A) 0 0 158 [(0, .ref (g.2.1 0)), (1, .int v1)] [.int r155] S148
                  exact j_iret_e F rfl dX5_about_158 (inl_e hm)
                · refine j_swOut F (tgt := 159) dX5_about_1 (by have a0 := ne_z (z := 0) n0 (by decide +kernel); have a1 := ne_z (z := 1) n1 (by decide +kernel); have a2 := ne_z (z := 2) n2 (by decide +kernel); have a3 := ne_z (z := 3) n3 (by decide +kernel); have a4 := ne_z (z := 4) n4 (by decide +kernel); have a5 := ne_z (z := 5) n5 (by decide +kernel); have a6 := ne_z (z := 6) n6 (by decide +kernel); have a7 := ne_z (z := 7) n7 (by decide +kernel); omega) (by decide) ?_
                  cases hm
def m_X5_checkThing (v1 : Int32) (S : Hs) : Option (Unit ⊕ Nat) := (m_X3_exists 29 v1 S).bind fun r5 => (if r5 = 0 then (some (.inr 3)) else (some (.inl ())))
set_option maxRecDepth 100000 in
set_option maxHeartbeats 4000000 in
theorem c_X5_checkThing (l : Launch) (g : GG) (hg : Inj g) (v1 : Int32)  (S : Hs)  (hm : m_X5_checkThing v1 S = some (.inl ())) : CM l yX5_checkThing [.code yX5_checkThing cX5_checkThing 2 none] rmX5_checkThing [.ref (g.2.1 0), .int v1] g S none S := by
  unfold m_X5_checkThing at hm
  refine CM.of (cc := cX5_checkThing) (nL := 2) (ret := none) (lv := [(0, .ref (g.2.1 0)), (1, .int v1)]) (by decide +kernel) hg (Nat.le_of_ble_eq_true rfl) rfl (fun p e s m args below meth c A F => ?_)
  replace F : Fx p s m meth c cX5_checkThing RX5 2 none g A := F
  show J p l e rmX5_checkThing s m args below meth c g A 2 (MQ below (QC g A none S) args s 0 0 A) 0 0 0 [(0, .ref (g.2.1 0)), (1, .int v1)] [] S
  refine j_aload_n F 0 dX5_checkThing_0 rfl ?_
  refine j_getR F (k0 := 1) (C := RX5) (T := TX5) (N := 11) lay_0 rfl rfl inF5 (by decide) tw179 dX5_checkThing_1 ?_
  refine j_iload_n F 1 dX5_checkThing_4 rfl ?_
  obtain ⟨r5, hc5, hm⟩ := Option.bind_eq_some_iff.mp hm
  refine j_callV F (n := 1) (As := [.int v1]) (rest := []) (c_X3_exists l g hg 29 v1 (by decide) S r5 hc5) gw_X5_274 (by decide +kernel) ⟨Nat.le_of_ble_eq_true rfl, Nat.le_of_ble_eq_true rfl⟩ ⟨Nat.le_of_ble_eq_true rfl, Nat.le_of_ble_eq_true rfl⟩ (isSt_lay (i := 29) (by decide)).1 rfl rfl rfl (Nat.le_of_ble_eq_true rfl) dX5_checkThing_5 ?_
  show J p l e rmX5_checkThing s m args below meth c g A 2 (MQ below (QC g A none S) args s 0 0 A) 0 0 8 [(0, .ref (g.2.1 0)), (1, .int v1)] [.int r5] S
  refine j_if_ne F (tgt := 22) dX5_checkThing_8 (by decide) hm (fun _ hm => ?_) (fun _ hm => ?_)
  · exact j_vret_e F rfl dX5_checkThing_22 rfl
  · cases hm
def m_X5_thing_J64 (w0 : Int32) (S : Hs) : Option ((Int32 ⊕ Nat) × Hs) := some ((.inl w0, S))
def m_X5_thing_J81 (w0 : Int32) (S : Hs) : Option ((Int32 ⊕ Nat) × Hs) := some ((.inl w0, S))
noncomputable def m_X5_thing (v1 : Int32) (v2 : Int32) (S : Hs) : Option ((Int32 ⊕ Nat) × Hs) := bndP (m_X5_checkThing v1 S) (fun r2 => (if v2 = 0 then ((m_X3_isPerson 29 v1 S).bind fun r53 => (if r53 = 0 then (m_X5_thing_J64 0 S) else (m_X5_thing_J64 1 S))) else (if v2 = 1 then ((m_X3_isAwake 29 v1 S).bind fun r70 => (if r70 = 0 then (m_X5_thing_J81 0 S) else (m_X5_thing_J81 1 S))) else (if v2 = 2 then (gd (inb v1 7) ((m_J6_bitCount_0f7a4 (gA S 30 v1.toNatClampNeg)).bind fun r91 => (some ((.inl r91, S))))) else (if v2 = 3 then ((m_X3_countRightsOver 29 v1 S).bind fun r100 => (some ((.inl r100, S)))) else (if v2 = 4 then ((m_X1_follow 29 S).bind fun S112 => (gd (inb v1 7) (some ((.inl (gA S112 11 v1.toNatClampNeg), S112))))) else (if v2 = 5 then (bndE (m_X5_endOf 29 S) fun r134 S134 => (gd (isSt r134) ((m_X1_follow r134 S134).bind fun S137 => (gd (inb v1 7) (some ((.inl (gA S137 11 v1.toNatClampNeg), S137))))))) else (if v2 = 6 then (bndE (m_X5_endOf 29 S) fun r155 S155 => (gd (isSt r155) (gd (inb v1 7) ((m_J6_bitCount_0f7a4 (gA S155 (r155 + 1) v1.toNatClampNeg)).bind fun r163 => (some ((.inl r163, S155))))))) else (some ((.inr 1, S))))))))))) (fun q => some ((.inr q, S)))
set_option maxRecDepth 100000 in
set_option maxHeartbeats 4000000 in
theorem c_X5_thing (l : Launch) (g : GG) (hg : Inj g) (v1 : Int32) (v2 : Int32)  (S : Hs) (r : Int32) (S' : Hs) (hm : m_X5_thing v1 v2 S = some ((.inl r, S'))) : CM l yX5_thing [.code yX5_thing cX5_thing 3 (some .int)] rmX5_thing [.ref (g.2.1 0), .int v1, .int v2] g S (some (.int r)) S' := by
  unfold m_X5_thing at hm
  refine CM.of (cc := cX5_thing) (nL := 3) (ret := (some .int)) (lv := [(0, .ref (g.2.1 0)), (1, .int v1), (2, .int v2)]) (by decide +kernel) hg (Nat.le_of_ble_eq_true rfl) rfl (fun p e s m args below meth c A F => ?_)
  replace F : Fx p s m meth c cX5_thing RX5 3 (some .int) g A := F
  show J p l e rmX5_thing s m args below meth c g A 3 (MQ below (QC g A (some (.int r)) S') args s 0 0 A) 0 0 0 [(0, .ref (g.2.1 0)), (1, .int v1), (2, .int v2)] [] S
  have hj64 : ∀ (w0 : Int32) (S : Hs), m_X5_thing_J64 w0 S = some ((.inl r, S')) → J p l e rmX5_thing s m args below meth c g A 3 (MQ below (QC g A (some (.int r)) S') args s 0 0 A) 0 0 64 [] [.int w0] S := by
    intro w0 S hm
    unfold m_X5_thing_J64 at hm
    exact j_iret_e F rfl dX5_thing_64 (inl_e hm)
  have hj81 : ∀ (w0 : Int32) (S : Hs), m_X5_thing_J81 w0 S = some ((.inl r, S')) → J p l e rmX5_thing s m args below meth c g A 3 (MQ below (QC g A (some (.int r)) S') args s 0 0 A) 0 0 81 [] [.int w0] S := by
    intro w0 S hm
    unfold m_X5_thing_J81 at hm
    exact j_iret_e F rfl dX5_thing_81 (inl_e hm)
  refine j_aload_n F 0 dX5_thing_0 rfl ?_
  refine j_iload_n F 1 dX5_thing_1 rfl ?_
  refine bndP_ok hm (fun r2 hc2 hm => ?_) (fun q hc2 hm => ?_)
  · refine j_callV F (n := 1) (As := [.int v1]) (rest := []) (c_X5_checkThing l g hg v1 S hc2) gw_X5_129 (by decide +kernel) ⟨Nat.le_of_ble_eq_true rfl, Nat.le_of_ble_eq_true rfl⟩ ⟨Nat.le_of_ble_eq_true rfl, Nat.le_of_ble_eq_true rfl⟩ lay_0 rfl rfl rfl (Nat.le_of_ble_eq_true rfl) dX5_thing_2 ?_
    show J p l e rmX5_thing s m args below meth c g A 3 (MQ below (QC g A (some (.int r)) S') args s 0 0 A) 0 0 5 [(0, .ref (g.2.1 0)), (1, .int v1), (2, .int v2)] [] S
    refine j_iload_n F 2 dX5_thing_5 rfl ?_
    refine sw_if hm (fun esw hm => ?_) (fun n0 hm => ?_)
    · refine j_swIn F (tgt := 48) dX5_thing_6 esw (by decide +kernel) (by decide +kernel) (off := 42) (by decide +kernel) (by decide) ?_
      refine j_aload_n F 0 dX5_thing_48 rfl ?_
      refine j_getR F (k0 := 1) (C := RX5) (T := TX5) (N := 11) lay_0 rfl rfl inF5 (by decide) tw179 dX5_thing_49 ?_
      refine j_iload_n F 1 dX5_thing_52 rfl ?_
      obtain ⟨r53, hc53, hm⟩ := Option.bind_eq_some_iff.mp hm
      refine j_callV F (n := 1) (As := [.int v1]) (rest := []) (c_X3_isPerson l g hg 29 v1 (by decide) S r53 hc53) gw_X5_133 (by decide +kernel) ⟨Nat.le_of_ble_eq_true rfl, Nat.le_of_ble_eq_true rfl⟩ ⟨Nat.le_of_ble_eq_true rfl, Nat.le_of_ble_eq_true rfl⟩ (isSt_lay (i := 29) (by decide)).1 rfl rfl rfl (Nat.le_of_ble_eq_true rfl) dX5_thing_53 ?_
      show J p l e rmX5_thing s m args below meth c g A 3 (MQ below (QC g A (some (.int r)) S') args s 0 0 A) 0 0 56 [(0, .ref (g.2.1 0)), (1, .int v1), (2, .int v2)] [.int r53] S
      refine j_if_eq F (tgt := 63) dX5_thing_56 (by decide) hm (fun _ hm => ?_) (fun _ hm => ?_)
      · refine j_iconst F (v := 0) dX5_thing_63 (by decide) ?_
        refine j_sub [] rfl ?_
        exact hj64 0 S  hm
      · refine j_iconst F (v := 1) dX5_thing_59 (by decide) ?_
        refine j_goto F (tgt := 64) dX5_thing_60 (by decide) ?_
        refine j_sub [] rfl ?_
        exact hj64 1 S  hm
    · refine sw_if hm (fun esw hm => ?_) (fun n1 hm => ?_)
      · refine j_swIn F (tgt := 65) dX5_thing_6 esw (by decide +kernel) (by decide +kernel) (off := 59) (by decide +kernel) (by decide) ?_
        refine j_aload_n F 0 dX5_thing_65 rfl ?_
        refine j_getR F (k0 := 1) (C := RX5) (T := TX5) (N := 11) lay_0 rfl rfl inF5 (by decide) tw179 dX5_thing_66 ?_
        refine j_iload_n F 1 dX5_thing_69 rfl ?_
        obtain ⟨r70, hc70, hm⟩ := Option.bind_eq_some_iff.mp hm
        refine j_callV F (n := 1) (As := [.int v1]) (rest := []) (c_X3_isAwake l g hg 29 v1 (by decide) S r70 hc70) gw_X5_137 (by decide +kernel) ⟨Nat.le_of_ble_eq_true rfl, Nat.le_of_ble_eq_true rfl⟩ ⟨Nat.le_of_ble_eq_true rfl, Nat.le_of_ble_eq_true rfl⟩ (isSt_lay (i := 29) (by decide)).1 rfl rfl rfl (Nat.le_of_ble_eq_true rfl) dX5_thing_70 ?_
        show J p l e rmX5_thing s m args below meth c g A 3 (MQ below (QC g A (some (.int r)) S') args s 0 0 A) 0 0 73 [(0, .ref (g.2.1 0)), (1, .int v1), (2, .int v2)] [.int r70] S
        refine j_if_eq F (tgt := 80) dX5_thing_73 (by decide) hm (fun _ hm => ?_) (fun _ hm => ?_)
        · refine j_iconst F (v := 0) dX5_thing_80 (by decide) ?_
          refine j_sub [] rfl ?_
          exact hj81 0 S  hm
        · refine j_iconst F (v := 1) dX5_thing_76 (by decide) ?_
          refine j_goto F (tgt := 81) dX5_thing_77 (by decide) ?_
          refine j_sub [] rfl ?_
          exact hj81 1 S  hm
      · refine sw_if hm (fun esw hm => ?_) (fun n2 hm => ?_)
        · refine j_swIn F (tgt := 82) dX5_thing_6 esw (by decide +kernel) (by decide +kernel) (off := 76) (by decide +kernel) (by decide) ?_
          refine j_aload_n F 0 dX5_thing_82 rfl ?_
          refine j_getR F (k0 := 1) (C := RX5) (T := TX5) (N := 11) lay_0 rfl rfl inF5 (by decide) tw179 dX5_thing_83 ?_
          refine j_getR F (k0 := 3) (C := RX3) (T := TX3) (N := 4) (isSt_lay (i := 29) (by decide)).1 rfl rfl inF3 (by decide) tw227 dX5_thing_86 ?_
          refine j_iload_n F 1 dX5_thing_89 rfl ?_
          refine j_iald F (isSt_lay (i := 29) (by decide)).2 dX5_thing_90 hm (fun hm => ?_)
          obtain ⟨r91, hc91, hm⟩ := Option.bind_eq_some_iff.mp hm
          refine j_callS F (n := 1) (As := [.int (gA S 30 v1.toNatClampNeg)]) (rest := []) (c_J6_bitCount_0f7a4 l g hg (gA S 30 v1.toNatClampNeg) S r91 hc91) gw_X5_100 (by decide +kernel) ⟨Nat.le_of_ble_eq_true rfl, Nat.le_of_ble_eq_true rfl⟩ ⟨Nat.le_of_ble_eq_true rfl, Nat.le_of_ble_eq_true rfl⟩ rfl rfl (Nat.le_of_ble_eq_true rfl) dX5_thing_91 ?_
          show J p l e rmX5_thing s m args below meth c g A 3 (MQ below (QC g A (some (.int r)) S') args s 0 0 A) 0 0 94 [(0, .ref (g.2.1 0)), (1, .int v1), (2, .int v2)] [.int r91] S
          exact j_iret_e F rfl dX5_thing_94 (inl_e hm)
        · refine sw_if hm (fun esw hm => ?_) (fun n3 hm => ?_)
          · refine j_swIn F (tgt := 95) dX5_thing_6 esw (by decide +kernel) (by decide +kernel) (off := 89) (by decide +kernel) (by decide) ?_
            refine j_aload_n F 0 dX5_thing_95 rfl ?_
            refine j_getR F (k0 := 1) (C := RX5) (T := TX5) (N := 11) lay_0 rfl rfl inF5 (by decide) tw179 dX5_thing_96 ?_
            refine j_iload_n F 1 dX5_thing_99 rfl ?_
            obtain ⟨r100, hc100, hm⟩ := Option.bind_eq_some_iff.mp hm
            refine j_callV F (n := 1) (As := [.int v1]) (rest := []) (c_X3_countRightsOver l g hg 29 v1 (by decide) S r100 hc100) gw_X5_144 (by decide +kernel) ⟨Nat.le_of_ble_eq_true rfl, Nat.le_of_ble_eq_true rfl⟩ ⟨Nat.le_of_ble_eq_true rfl, Nat.le_of_ble_eq_true rfl⟩ (isSt_lay (i := 29) (by decide)).1 rfl rfl rfl (Nat.le_of_ble_eq_true rfl) dX5_thing_100 ?_
            show J p l e rmX5_thing s m args below meth c g A 3 (MQ below (QC g A (some (.int r)) S') args s 0 0 A) 0 0 103 [(0, .ref (g.2.1 0)), (1, .int v1), (2, .int v2)] [.int r100] S
            exact j_iret_e F rfl dX5_thing_103 (inl_e hm)
          · refine sw_if hm (fun esw hm => ?_) (fun n4 hm => ?_)
            · refine j_swIn F (tgt := 104) dX5_thing_6 esw (by decide +kernel) (by decide +kernel) (off := 98) (by decide +kernel) (by decide) ?_
              refine j_aload_n F 0 dX5_thing_104 rfl ?_
              refine j_getR F (k0 := 9) (C := RX5) (T := TX5) (N := 11) lay_0 rfl rfl inF5 (by decide) tw190 dX5_thing_105 ?_
              refine j_aload_n F 0 dX5_thing_108 rfl ?_
              refine j_getR F (k0 := 1) (C := RX5) (T := TX5) (N := 11) lay_0 rfl rfl inF5 (by decide) tw179 dX5_thing_109 ?_
              obtain ⟨S112, hc112, hm⟩ := Option.bind_eq_some_iff.mp hm
              refine j_callV F (n := 1) (As := [.ref (g.2.1 29)]) (rest := []) (c_X1_follow l g hg 29 (by decide) S S112 hc112) gw_X5_123 (by decide +kernel) ⟨Nat.le_of_ble_eq_true rfl, Nat.le_of_ble_eq_true rfl⟩ ⟨Nat.le_of_ble_eq_true rfl, Nat.le_of_ble_eq_true rfl⟩ lay_10 rfl rfl rfl (Nat.le_of_ble_eq_true rfl) dX5_thing_112 ?_
              show J p l e rmX5_thing s m args below meth c g A 3 (MQ below (QC g A (some (.int r)) S') args s 0 0 A) 0 0 115 [(0, .ref (g.2.1 0)), (1, .int v1), (2, .int v2)] [] S112
              refine j_aload_n F 0 dX5_thing_115 rfl ?_
              refine j_getR F (k0 := 9) (C := RX5) (T := TX5) (N := 11) lay_0 rfl rfl inF5 (by decide) tw190 dX5_thing_116 ?_
              refine j_getR F (k0 := 0) (C := RX1) (T := TX1) (N := 1) lay_10 rfl rfl inF1 (by decide) tw228 dX5_thing_119 ?_
              refine j_iload_n F 1 dX5_thing_122 rfl ?_
              refine j_iald F lay_11 dX5_thing_123 hm (fun hm => ?_)
              exact j_iret_e F rfl dX5_thing_124 (inl_e hm)
            · refine sw_if hm (fun esw hm => ?_) (fun n5 hm => ?_)
              · refine j_swIn F (tgt := 125) dX5_thing_6 esw (by decide +kernel) (by decide +kernel) (off := 119) (by decide +kernel) (by decide) ?_
                refine j_aload_n F 0 dX5_thing_125 rfl ?_
                refine j_getR F (k0 := 9) (C := RX5) (T := TX5) (N := 11) lay_0 rfl rfl inF5 (by decide) tw190 dX5_thing_126 ?_
                refine j_aload_n F 0 dX5_thing_129 rfl ?_
                refine j_aload_n F 0 dX5_thing_130 rfl ?_
                refine j_getR F (k0 := 1) (C := RX5) (T := TX5) (N := 11) lay_0 rfl rfl inF5 (by decide) tw179 dX5_thing_131 ?_
                obtain ⟨r134, S134, hc134, hm⟩ := bndE_ok hm
                refine j_callV F (n := 1) (As := [.ref (g.2.1 29)]) (rest := [.ref (g.2.1 10)]) (c_X5_endOf l g hg 29 (by decide) S r134 S134 hc134) gw_X5_113 (by decide +kernel) ⟨Nat.le_of_ble_eq_true rfl, Nat.le_of_ble_eq_true rfl⟩ ⟨Nat.le_of_ble_eq_true rfl, Nat.le_of_ble_eq_true rfl⟩ lay_0 rfl rfl rfl (Nat.le_of_ble_eq_true rfl) dX5_thing_134 ?_
                obtain ⟨hs_r134, hm⟩ := gd_ok hm
                show J p l e rmX5_thing s m args below meth c g A 3 (MQ below (QC g A (some (.int r)) S') args s 0 0 A) 0 0 137 [(0, .ref (g.2.1 0)), (1, .int v1), (2, .int v2)] [.ref (g.2.1 r134), .ref (g.2.1 10)] S134
                obtain ⟨S137, hc137, hm⟩ := Option.bind_eq_some_iff.mp hm
                refine j_callV F (n := 1) (As := [.ref (g.2.1 r134)]) (rest := []) (c_X1_follow l g hg r134 hs_r134 S134 S137 hc137) gw_X5_123 (by decide +kernel) ⟨Nat.le_of_ble_eq_true rfl, Nat.le_of_ble_eq_true rfl⟩ ⟨Nat.le_of_ble_eq_true rfl, Nat.le_of_ble_eq_true rfl⟩ lay_10 rfl rfl rfl (Nat.le_of_ble_eq_true rfl) dX5_thing_137 ?_
                show J p l e rmX5_thing s m args below meth c g A 3 (MQ below (QC g A (some (.int r)) S') args s 0 0 A) 0 0 140 [(0, .ref (g.2.1 0)), (1, .int v1), (2, .int v2)] [] S137
                refine j_aload_n F 0 dX5_thing_140 rfl ?_
                refine j_getR F (k0 := 9) (C := RX5) (T := TX5) (N := 11) lay_0 rfl rfl inF5 (by decide) tw190 dX5_thing_141 ?_
                refine j_getR F (k0 := 0) (C := RX1) (T := TX1) (N := 1) lay_10 rfl rfl inF1 (by decide) tw228 dX5_thing_144 ?_
                refine j_iload_n F 1 dX5_thing_147 rfl ?_
                refine j_iald F lay_11 dX5_thing_148 hm (fun hm => ?_)
                exact j_iret_e F rfl dX5_thing_149 (inl_e hm)
              · refine sw_if hm (fun esw hm => ?_) (fun n6 hm => ?_)
                · refine j_swIn F (tgt := 150) dX5_thing_6 esw (by decide +kernel) (by decide +kernel) (off := 144) (by decide +kernel) (by decide) ?_
                  refine j_aload_n F 0 dX5_thing_150 rfl ?_
                  refine j_aload_n F 0 dX5_thing_151 rfl ?_
                  refine j_getR F (k0 := 1) (C := RX5) (T := TX5) (N := 11) lay_0 rfl rfl inF5 (by decide) tw179 dX5_thing_152 ?_
                  obtain ⟨r155, S155, hc155, hm⟩ := bndE_ok hm
                  refine j_callV F (n := 1) (As := [.ref (g.2.1 29)]) (rest := []) (c_X5_endOf l g hg 29 (by decide) S r155 S155 hc155) gw_X5_113 (by decide +kernel) ⟨Nat.le_of_ble_eq_true rfl, Nat.le_of_ble_eq_true rfl⟩ ⟨Nat.le_of_ble_eq_true rfl, Nat.le_of_ble_eq_true rfl⟩ lay_0 rfl rfl rfl (Nat.le_of_ble_eq_true rfl) dX5_thing_155 ?_
                  obtain ⟨hs_r155, hm⟩ := gd_ok hm
                  show J p l e rmX5_thing s m args below meth c g A 3 (MQ below (QC g A (some (.int r)) S') args s 0 0 A) 0 0 158 [(0, .ref (g.2.1 0)), (1, .int v1), (2, .int v2)] [.ref (g.2.1 r155)] S155
                  refine j_getR F (k0 := 3) (C := RX3) (T := TX3) (N := 4) (isSt_lay hs_r155).1 rfl rfl inF3 (by decide) tw227 dX5_thing_158 ?_
                  refine j_iload_n F 1 dX5_thing_161 rfl ?_
                  refine j_iald F (isSt_lay hs_r155).2 dX5_thing_162 hm (fun hm => ?_)
                  obtain ⟨r163, hc163, hm⟩ := Option.bind_eq_some_iff.mp hm
                  refine j_callS F (n := 1) (As := [.int (gA S155 (r155 + 1) v1.toNatClampNeg)]) (rest := []) (c_J6_bitCount_0f7a4 l g hg (gA S155 (r155 + 1) v1.toNatClampNeg) S155 r163 hc163) gw_X5_100 (by decide +kernel) ⟨Nat.le_of_ble_eq_true rfl, Nat.le_of_ble_eq_true rfl⟩ ⟨Nat.le_of_ble_eq_true rfl, Nat.le_of_ble_eq_true rfl⟩ rfl rfl (Nat.le_of_ble_eq_true rfl) dX5_thing_163 ?_
                  show J p l e rmX5_thing s m args below meth c g A 3 (MQ below (QC g A (some (.int r)) S') args s 0 0 A) 0 0 166 [(0, .ref (g.2.1 0)), (1, .int v1), (2, .int v2)] [.int r163] S155
                  exact j_iret_e F rfl dX5_thing_166 (inl_e hm)
                · refine j_swOut F (tgt := 167) dX5_thing_6 (by have a0 := ne_z (z := 0) n0 (by decide +kernel); have a1 := ne_z (z := 1) n1 (by decide +kernel); have a2 := ne_z (z := 2) n2 (by decide +kernel); have a3 := ne_z (z := 3) n3 (by decide +kernel); have a4 := ne_z (z := 4) n4 (by decide +kernel); have a5 := ne_z (z := 5) n5 (by decide +kernel); have a6 := ne_z (z := 6) n6 (by decide +kernel); omega) (by decide) ?_
                  cases hm
  · cases hm
def m_X5_checkRight (v1 : Int32) (v2 : Int32) (v3 : Int32) (S : Hs) : Option (Unit ⊕ Nat) := bndP (m_X5_checkThing v1 S) (fun r2 => (bndP (m_X5_checkThing v3 S) (fun r7 => ((m_X3_isRight 29 v1 v2 v3 S).bind fun r17 => (if r17 = 0 then (some (.inr 1)) else (some (.inl ()))))) (fun q => some (.inr q)))) (fun q => some (.inr q))
set_option maxRecDepth 100000 in
set_option maxHeartbeats 4000000 in
theorem c_X5_checkRight (l : Launch) (g : GG) (hg : Inj g) (v1 : Int32) (v2 : Int32) (v3 : Int32)  (S : Hs)  (hm : m_X5_checkRight v1 v2 v3 S = some (.inl ())) : CM l yX5_checkRight [.code yX5_checkRight cX5_checkRight 4 none] rmX5_checkRight [.ref (g.2.1 0), .int v1, .int v2, .int v3] g S none S := by
  unfold m_X5_checkRight at hm
  refine CM.of (cc := cX5_checkRight) (nL := 4) (ret := none) (lv := [(0, .ref (g.2.1 0)), (1, .int v1), (2, .int v2), (3, .int v3)]) (by decide +kernel) hg (Nat.le_of_ble_eq_true rfl) rfl (fun p e s m args below meth c A F => ?_)
  replace F : Fx p s m meth c cX5_checkRight RX5 4 none g A := F
  show J p l e rmX5_checkRight s m args below meth c g A 4 (MQ below (QC g A none S) args s 0 0 A) 0 0 0 [(0, .ref (g.2.1 0)), (1, .int v1), (2, .int v2), (3, .int v3)] [] S
  refine j_aload_n F 0 dX5_checkRight_0 rfl ?_
  refine j_iload_n F 1 dX5_checkRight_1 rfl ?_
  refine bndP_ok hm (fun r2 hc2 hm => ?_) (fun q hc2 hm => ?_)
  · refine j_callV F (n := 1) (As := [.int v1]) (rest := []) (c_X5_checkThing l g hg v1 S hc2) gw_X5_129 (by decide +kernel) ⟨Nat.le_of_ble_eq_true rfl, Nat.le_of_ble_eq_true rfl⟩ ⟨Nat.le_of_ble_eq_true rfl, Nat.le_of_ble_eq_true rfl⟩ lay_0 rfl rfl rfl (Nat.le_of_ble_eq_true rfl) dX5_checkRight_2 ?_
    show J p l e rmX5_checkRight s m args below meth c g A 4 (MQ below (QC g A none S) args s 0 0 A) 0 0 5 [(0, .ref (g.2.1 0)), (1, .int v1), (2, .int v2), (3, .int v3)] [] S
    refine j_aload_n F 0 dX5_checkRight_5 rfl ?_
    refine j_iload_n F 3 dX5_checkRight_6 rfl ?_
    refine bndP_ok hm (fun r7 hc7 hm => ?_) (fun q hc7 hm => ?_)
    · refine j_callV F (n := 1) (As := [.int v3]) (rest := []) (c_X5_checkThing l g hg v3 S hc7) gw_X5_129 (by decide +kernel) ⟨Nat.le_of_ble_eq_true rfl, Nat.le_of_ble_eq_true rfl⟩ ⟨Nat.le_of_ble_eq_true rfl, Nat.le_of_ble_eq_true rfl⟩ lay_0 rfl rfl rfl (Nat.le_of_ble_eq_true rfl) dX5_checkRight_7 ?_
      show J p l e rmX5_checkRight s m args below meth c g A 4 (MQ below (QC g A none S) args s 0 0 A) 0 0 10 [(0, .ref (g.2.1 0)), (1, .int v1), (2, .int v2), (3, .int v3)] [] S
      refine j_aload_n F 0 dX5_checkRight_10 rfl ?_
      refine j_getR F (k0 := 1) (C := RX5) (T := TX5) (N := 11) lay_0 rfl rfl inF5 (by decide) tw179 dX5_checkRight_11 ?_
      refine j_iload_n F 1 dX5_checkRight_14 rfl ?_
      refine j_iload_n F 2 dX5_checkRight_15 rfl ?_
      refine j_iload_n F 3 dX5_checkRight_16 rfl ?_
      obtain ⟨r17, hc17, hm⟩ := Option.bind_eq_some_iff.mp hm
      refine j_callV F (n := 3) (As := [.int v1, .int v2, .int v3]) (rest := []) (c_X3_isRight l g hg 29 v1 v2 v3 (by decide) S r17 hc17) gw_X5_282 (by decide +kernel) ⟨Nat.le_of_ble_eq_true rfl, Nat.le_of_ble_eq_true rfl⟩ ⟨Nat.le_of_ble_eq_true rfl, Nat.le_of_ble_eq_true rfl⟩ (isSt_lay (i := 29) (by decide)).1 rfl rfl rfl (Nat.le_of_ble_eq_true rfl) dX5_checkRight_17 ?_
      show J p l e rmX5_checkRight s m args below meth c g A 4 (MQ below (QC g A none S) args s 0 0 A) 0 0 20 [(0, .ref (g.2.1 0)), (1, .int v1), (2, .int v2), (3, .int v3)] [.int r17] S
      refine j_if_ne F (tgt := 34) dX5_checkRight_20 (by decide) hm (fun _ hm => ?_) (fun _ hm => ?_)
      · exact j_vret_e F rfl dX5_checkRight_34 rfl
      · cases hm
    · cases hm
  · cases hm
def m_X5_rights_J64 (v1 : Int32) (v2 : Int32) (v4 : Nat) (v5 : Int32) (v6 : Int32) (S : Hs) : Option ((Int32 × Int32) ⊕ Int32) := some (.inl ((v5, v6 + 1)))
def m_X5_rights_L34 (v1 : Int32) (v2 : Int32) (v4 : Nat) (S : Hs) (v5 : Int32) (v6 : Int32) : Option ((Int32 × Int32) ⊕ Int32) := if 4 ≤ v6 then (some (.inr v5)) else ((m_X5_rightOf v1 v6 v2).bind fun r46 => ((m_X3_has v4 r46 S).bind fun r49 => (if r49 = 0 then (m_X5_rights_J64 v1 v2 v4 v5 v6 S) else (bnd (v5 ||| (1 <<< (v6 &&& 31))) fun v5_62 => (m_X5_rights_J64 v1 v2 v4 v5_62 v6 S)))))
noncomputable def m_X5_rights_J26 (v1 : Int32) (v2 : Int32) (w0 : Nat) (S : Hs) : Option ((Int32 ⊕ Nat) × Hs) := (loopO (fun x => m_X5_rights_L34 v1 v2 w0 S x.1 x.2) ((0, 0))).bind fun y34 => some ((.inl y34, S))
noncomputable def m_X5_rights (v1 : Int32) (v2 : Int32) (v3 : Int32) (S : Hs) : Option ((Int32 ⊕ Nat) × Hs) := bndP (m_X5_checkRight v1 0 v2 S) (fun r4 => (if v3 = 0 then (m_X5_rights_J26 v1 v2 29 S) else (bndE (m_X5_endOf 29 S) fun r16 S16 => (gd (isSt r16) (m_X5_rights_J26 v1 v2 r16 S16))))) (fun q => some ((.inr q, S)))
set_option maxRecDepth 100000 in
set_option maxHeartbeats 4000000 in
theorem c_X5_rights (l : Launch) (g : GG) (hg : Inj g) (v1 : Int32) (v2 : Int32) (v3 : Int32)  (S : Hs) (r : Int32) (S' : Hs) (hm : m_X5_rights v1 v2 v3 S = some ((.inl r, S'))) : CM l yX5_rights [.code yX5_rights cX5_rights 7 (some .int)] rmX5_rights [.ref (g.2.1 0), .int v1, .int v2, .int v3] g S (some (.int r)) S' := by
  unfold m_X5_rights at hm
  refine CM.of (cc := cX5_rights) (nL := 7) (ret := (some .int)) (lv := [(0, .ref (g.2.1 0)), (1, .int v1), (2, .int v2), (3, .int v3)]) (by decide +kernel) hg (Nat.le_of_ble_eq_true rfl) rfl (fun p e s m args below meth c A F => ?_)
  replace F : Fx p s m meth c cX5_rights RX5 7 (some .int) g A := F
  show J p l e rmX5_rights s m args below meth c g A 7 (MQ below (QC g A (some (.int r)) S') args s 0 0 A) 0 0 0 [(0, .ref (g.2.1 0)), (1, .int v1), (2, .int v2), (3, .int v3)] [] S
  have hj26 : ∀ (v1 : Int32) (v2 : Int32) (w0 : Nat) (S : Hs), isSt w0 = true → m_X5_rights_J26 v1 v2 w0 S = some ((.inl r, S')) → J p l e rmX5_rights s m args below meth c g A 7 (MQ below (QC g A (some (.int r)) S') args s 0 0 A) 0 0 26 [(1, .int v1), (2, .int v2)] [.ref (g.2.1 w0)] S := by
    intro v1 v2 w0 S hw0 hm
    unfold m_X5_rights_J26 at hm
    refine j_astore F (lv' := [(4, .ref (g.2.1 w0)), (1, .int v1), (2, .int v2)]) dX5_rights_26 (by decide) rfl ?_
    refine j_iconst F (v := 0) dX5_rights_28 (by decide) ?_
    refine j_istore F (lv' := [(5, .int 0), (4, .ref (g.2.1 w0)), (1, .int v1), (2, .int v2)]) dX5_rights_29 (by decide) rfl ?_
    refine j_iconst F (v := 0) dX5_rights_31 (by decide) ?_
    refine j_istore F (lv' := [(6, .int 0), (5, .int 0), (4, .ref (g.2.1 w0)), (1, .int v1), (2, .int v2)]) dX5_rights_32 (by decide) rfl ?_
    refine j_sub [3, 4, 2, 1, 0] rfl ?_
    obtain ⟨y34, hlp34, hm⟩ := Option.bind_eq_some_iff.mp hm
    refine loopO_walk (fun x => m_X5_rights_L34 v1 v2 w0 S x.1 x.2) (fun x => J p l e rmX5_rights s m args below meth c g A 7 (MQ below (QC g A (some (.int r)) S') args s 0 0 A) 0 0 34 [(1, .int v1), (2, .int v2), (4, .ref (g.2.1 w0)), (5, .int x.1), (6, .int x.2)] [] S) (fun x => J p l e rmX5_rights s m args below meth c g A 7 (MQ below (QC g A (some (.int r)) S') args s 0 0 A) 0 0 70 [(5, .int x)] [] S) (fun x o1 hm hk1 => ?_) hlp34 ?_
    · obtain ⟨v5, v6⟩ := x
      replace hm : m_X5_rights_L34 v1 v2 w0 S v5 v6 = some o1 := hm
      show J p l e rmX5_rights s m args below meth c g A 7 (MQ below (QC g A (some (.int r)) S') args s 0 0 A) 0 0 34 [(1, .int v1), (2, .int v2), (4, .ref (g.2.1 w0)), (5, .int v5), (6, .int v6)] [] S
      unfold m_X5_rights_L34 at hm
      have hj64 : ∀ (v5 : Int32) (v6 : Int32), m_X5_rights_J64 v1 v2 w0 v5 v6 S = some o1 → J p l e rmX5_rights s m args below meth c g A 7 (MQ below (QC g A (some (.int r)) S') args s 0 0 A) 0 0 64 [(1, .int v1), (2, .int v2), (4, .ref (g.2.1 w0)), (5, .int v5), (6, .int v6)] [] S := by
        intro v5 v6 hm
        unfold m_X5_rights_J64 at hm
        refine j_iinc F (v := v6 + 1) (lv' := [(6, .int (v6 + 1)), (1, .int v1), (2, .int v2), (4, .ref (g.2.1 w0)), (5, .int v5)]) 4 dX5_rights_64 rfl rfl (by decide) rfl ?_
        refine j_goto F (tgt := 34) dX5_rights_67 (by decide) ?_
        cases hm
        refine j_sub [1, 2, 3, 4, 0] rfl ?_
        exact hk1
      refine j_iload F 4 dX5_rights_34 rfl ?_
      refine j_iconst F (v := 4) dX5_rights_36 (by decide) ?_
      refine j_icmp_ge F (tgt := 70) dX5_rights_37 (by decide) hm (fun _ hm => ?_) (fun _ hm => ?_)
      · cases hm
        refine j_sub [3] rfl ?_
        exact hk1
      · refine j_aload F 2 dX5_rights_40 rfl ?_
        refine j_iload_n F 0 dX5_rights_42 rfl ?_
        refine j_iload F 4 dX5_rights_43 rfl ?_
        refine j_iload_n F 1 dX5_rights_45 rfl ?_
        obtain ⟨r46, hc46, hm⟩ := Option.bind_eq_some_iff.mp hm
        refine j_callS F (n := 3) (As := [.int v1, .int v6, .int v2]) (rest := [.ref (g.2.1 w0)]) (c_X5_rightOf l g hg v1 v6 v2 S r46 hc46) gw_X5_154 (by decide +kernel) ⟨Nat.le_of_ble_eq_true rfl, Nat.le_of_ble_eq_true rfl⟩ ⟨Nat.le_of_ble_eq_true rfl, Nat.le_of_ble_eq_true rfl⟩ rfl rfl (Nat.le_of_ble_eq_true rfl) dX5_rights_46 ?_
        show J p l e rmX5_rights s m args below meth c g A 7 (MQ below (QC g A (some (.int r)) S') args s 0 0 A) 0 0 49 [(1, .int v1), (2, .int v2), (4, .ref (g.2.1 w0)), (5, .int v5), (6, .int v6)] [.int r46, .ref (g.2.1 w0)] S
        obtain ⟨r49, hc49, hm⟩ := Option.bind_eq_some_iff.mp hm
        refine j_callV F (n := 1) (As := [.int r46]) (rest := []) (c_X3_has l g hg w0 r46 hw0 S r49 hc49) gw_X5_158 (by decide +kernel) ⟨Nat.le_of_ble_eq_true rfl, Nat.le_of_ble_eq_true rfl⟩ ⟨Nat.le_of_ble_eq_true rfl, Nat.le_of_ble_eq_true rfl⟩ (isSt_lay hw0).1 rfl rfl rfl (Nat.le_of_ble_eq_true rfl) dX5_rights_49 ?_
        show J p l e rmX5_rights s m args below meth c g A 7 (MQ below (QC g A (some (.int r)) S') args s 0 0 A) 0 0 52 [(1, .int v1), (2, .int v2), (4, .ref (g.2.1 w0)), (5, .int v5), (6, .int v6)] [.int r49] S
        refine j_if_eq F (tgt := 64) dX5_rights_52 (by decide) hm (fun _ hm => ?_) (fun _ hm => ?_)
        · refine j_sub [0, 1, 2, 3, 4] rfl ?_
          exact hj64 v5 v6  hm
        · refine j_iload F 3 dX5_rights_55 rfl ?_
          refine j_iconst F (v := 1) dX5_rights_57 (by decide) ?_
          refine j_iload F 4 dX5_rights_58 rfl ?_
          refine j_ishl F dX5_rights_60 ?_
          refine j_ior F dX5_rights_61 ?_
          refine j_bnd hm (fun v5_62 hm => ?_)
          refine j_istore F (lv' := [(5, .int v5_62), (1, .int v1), (2, .int v2), (4, .ref (g.2.1 w0)), (6, .int v6)]) dX5_rights_62 (by decide) rfl ?_
          refine j_sub [1, 2, 3, 0, 4] rfl ?_
          exact hj64 v5_62 v6  hm
    · show J p l e rmX5_rights s m args below meth c g A 7 (MQ below (QC g A (some (.int r)) S') args s 0 0 A) 0 0 70 [(5, .int y34)] [] S
      refine j_iload F 0 dX5_rights_70 rfl ?_
      exact j_iret_e F rfl dX5_rights_72 (inl_e hm)
  refine j_aload_n F 0 dX5_rights_0 rfl ?_
  refine j_iload_n F 1 dX5_rights_1 rfl ?_
  refine j_iconst F (v := 0) dX5_rights_2 (by decide) ?_
  refine j_iload_n F 2 dX5_rights_3 rfl ?_
  refine bndP_ok hm (fun r4 hc4 hm => ?_) (fun q hc4 hm => ?_)
  · refine j_callV F (n := 3) (As := [.int v1, .int 0, .int v2]) (rest := []) (c_X5_checkRight l g hg v1 0 v2 S hc4) gw_X5_150 (by decide +kernel) ⟨Nat.le_of_ble_eq_true rfl, Nat.le_of_ble_eq_true rfl⟩ ⟨Nat.le_of_ble_eq_true rfl, Nat.le_of_ble_eq_true rfl⟩ lay_0 rfl rfl rfl (Nat.le_of_ble_eq_true rfl) dX5_rights_4 ?_
    show J p l e rmX5_rights s m args below meth c g A 7 (MQ below (QC g A (some (.int r)) S') args s 0 0 A) 0 0 7 [(0, .ref (g.2.1 0)), (1, .int v1), (2, .int v2), (3, .int v3)] [] S
    refine j_iload_n F 3 dX5_rights_7 rfl ?_
    refine j_if_eq F (tgt := 22) dX5_rights_8 (by decide) hm (fun _ hm => ?_) (fun _ hm => ?_)
    · refine j_aload_n F 0 dX5_rights_22 rfl ?_
      refine j_getR F (k0 := 1) (C := RX5) (T := TX5) (N := 11) lay_0 rfl rfl inF5 (by decide) tw179 dX5_rights_23 ?_
      refine j_sub [1, 2] rfl ?_
      exact hj26 v1 v2 29 S (by decide) hm
    · refine j_aload_n F 0 dX5_rights_11 rfl ?_
      refine j_aload_n F 0 dX5_rights_12 rfl ?_
      refine j_getR F (k0 := 1) (C := RX5) (T := TX5) (N := 11) lay_0 rfl rfl inF5 (by decide) tw179 dX5_rights_13 ?_
      obtain ⟨r16, S16, hc16, hm⟩ := bndE_ok hm
      refine j_callV F (n := 1) (As := [.ref (g.2.1 29)]) (rest := []) (c_X5_endOf l g hg 29 (by decide) S r16 S16 hc16) gw_X5_113 (by decide +kernel) ⟨Nat.le_of_ble_eq_true rfl, Nat.le_of_ble_eq_true rfl⟩ ⟨Nat.le_of_ble_eq_true rfl, Nat.le_of_ble_eq_true rfl⟩ lay_0 rfl rfl rfl (Nat.le_of_ble_eq_true rfl) dX5_rights_16 ?_
      obtain ⟨hs_r16, hm⟩ := gd_ok hm
      show J p l e rmX5_rights s m args below meth c g A 7 (MQ below (QC g A (some (.int r)) S') args s 0 0 A) 0 0 19 [(0, .ref (g.2.1 0)), (1, .int v1), (2, .int v2), (3, .int v3)] [.ref (g.2.1 r16)] S16
      refine j_goto F (tgt := 26) dX5_rights_19 (by decide) ?_
      refine j_sub [1, 2] rfl ?_
      exact hj26 v1 v2 r16 S16 hs_r16 hm
  · cases hm
def m_X5_round_J53 (w0 : Int32) (S : Hs) : Option ((Int32 ⊕ Nat) × Hs) := some ((.inl w0, S))
noncomputable def m_X5_round (v1 : Int32) (v2 : Int32) (v3 : Int32) (S : Hs) : Option ((Int32 ⊕ Nat) × Hs) := bndP (m_X5_checkRight v1 v2 v3 S) (fun r4 => ((m_X2_follow 29 S).bind fun S15 => ((m_X5_rightOf v1 v2 v3).bind fun r21 => ((m_X2_comes r21 S15).bind fun r32 => (if r32 = 0 then (m_X5_round_J53 ((-9)) S15) else (gd (inb r21 196) (m_X5_round_J53 (gA S15 7 r21.toNatClampNeg) S15))))))) (fun q => some ((.inr q, S)))
set_option maxRecDepth 100000 in
set_option maxHeartbeats 4000000 in
theorem c_X5_round (l : Launch) (g : GG) (hg : Inj g) (v1 : Int32) (v2 : Int32) (v3 : Int32)  (S : Hs) (r : Int32) (S' : Hs) (hm : m_X5_round v1 v2 v3 S = some ((.inl r, S'))) : CM l yX5_round [.code yX5_round cX5_round 5 (some .int)] rmX5_round [.ref (g.2.1 0), .int v1, .int v2, .int v3] g S (some (.int r)) S' := by
  unfold m_X5_round at hm
  refine CM.of (cc := cX5_round) (nL := 5) (ret := (some .int)) (lv := [(0, .ref (g.2.1 0)), (1, .int v1), (2, .int v2), (3, .int v3)]) (by decide +kernel) hg (Nat.le_of_ble_eq_true rfl) rfl (fun p e s m args below meth c A F => ?_)
  replace F : Fx p s m meth c cX5_round RX5 5 (some .int) g A := F
  show J p l e rmX5_round s m args below meth c g A 5 (MQ below (QC g A (some (.int r)) S') args s 0 0 A) 0 0 0 [(0, .ref (g.2.1 0)), (1, .int v1), (2, .int v2), (3, .int v3)] [] S
  have hj53 : ∀ (w0 : Int32) (S : Hs), m_X5_round_J53 w0 S = some ((.inl r, S')) → J p l e rmX5_round s m args below meth c g A 5 (MQ below (QC g A (some (.int r)) S') args s 0 0 A) 0 0 53 [] [.int w0] S := by
    intro w0 S hm
    unfold m_X5_round_J53 at hm
    exact j_iret_e F rfl dX5_round_53 (inl_e hm)
  refine j_aload_n F 0 dX5_round_0 rfl ?_
  refine j_iload_n F 1 dX5_round_1 rfl ?_
  refine j_iload_n F 2 dX5_round_2 rfl ?_
  refine j_iload_n F 3 dX5_round_3 rfl ?_
  refine bndP_ok hm (fun r4 hc4 hm => ?_) (fun q hc4 hm => ?_)
  · refine j_callV F (n := 3) (As := [.int v1, .int v2, .int v3]) (rest := []) (c_X5_checkRight l g hg v1 v2 v3 S hc4) gw_X5_150 (by decide +kernel) ⟨Nat.le_of_ble_eq_true rfl, Nat.le_of_ble_eq_true rfl⟩ ⟨Nat.le_of_ble_eq_true rfl, Nat.le_of_ble_eq_true rfl⟩ lay_0 rfl rfl rfl (Nat.le_of_ble_eq_true rfl) dX5_round_4 ?_
    show J p l e rmX5_round s m args below meth c g A 5 (MQ below (QC g A (some (.int r)) S') args s 0 0 A) 0 0 7 [(0, .ref (g.2.1 0)), (1, .int v1), (2, .int v2), (3, .int v3)] [] S
    refine j_aload_n F 0 dX5_round_7 rfl ?_
    refine j_getR F (k0 := 8) (C := RX5) (T := TX5) (N := 11) lay_0 rfl rfl inF5 (by decide) tw187 dX5_round_8 ?_
    refine j_aload_n F 0 dX5_round_11 rfl ?_
    refine j_getR F (k0 := 1) (C := RX5) (T := TX5) (N := 11) lay_0 rfl rfl inF5 (by decide) tw179 dX5_round_12 ?_
    obtain ⟨S15, hc15, hm⟩ := Option.bind_eq_some_iff.mp hm
    refine j_callV F (n := 1) (As := [.ref (g.2.1 29)]) (rest := []) (c_X2_follow l g hg 29 (by decide) S S15 hc15) gw_X5_117 (by decide +kernel) ⟨Nat.le_of_ble_eq_true rfl, Nat.le_of_ble_eq_true rfl⟩ ⟨Nat.le_of_ble_eq_true rfl, Nat.le_of_ble_eq_true rfl⟩ lay_6 rfl rfl rfl (Nat.le_of_ble_eq_true rfl) dX5_round_15 ?_
    show J p l e rmX5_round s m args below meth c g A 5 (MQ below (QC g A (some (.int r)) S') args s 0 0 A) 0 0 18 [(0, .ref (g.2.1 0)), (1, .int v1), (2, .int v2), (3, .int v3)] [] S15
    refine j_iload_n F 1 dX5_round_18 rfl ?_
    refine j_iload_n F 2 dX5_round_19 rfl ?_
    refine j_iload_n F 3 dX5_round_20 rfl ?_
    obtain ⟨r21, hc21, hm⟩ := Option.bind_eq_some_iff.mp hm
    refine j_callS F (n := 3) (As := [.int v1, .int v2, .int v3]) (rest := []) (c_X5_rightOf l g hg v1 v2 v3 S15 r21 hc21) gw_X5_154 (by decide +kernel) ⟨Nat.le_of_ble_eq_true rfl, Nat.le_of_ble_eq_true rfl⟩ ⟨Nat.le_of_ble_eq_true rfl, Nat.le_of_ble_eq_true rfl⟩ rfl rfl (Nat.le_of_ble_eq_true rfl) dX5_round_21 ?_
    show J p l e rmX5_round s m args below meth c g A 5 (MQ below (QC g A (some (.int r)) S') args s 0 0 A) 0 0 24 [(0, .ref (g.2.1 0)), (1, .int v1), (2, .int v2), (3, .int v3)] [.int r21] S15
    refine j_istore F (lv' := [(4, .int r21), (0, .ref (g.2.1 0)), (1, .int v1), (2, .int v2), (3, .int v3)]) dX5_round_24 (by decide) rfl ?_
    refine j_aload_n F 1 dX5_round_26 rfl ?_
    refine j_getR F (k0 := 8) (C := RX5) (T := TX5) (N := 11) lay_0 rfl rfl inF5 (by decide) tw187 dX5_round_27 ?_
    refine j_iload F 0 dX5_round_30 rfl ?_
    obtain ⟨r32, hc32, hm⟩ := Option.bind_eq_some_iff.mp hm
    refine j_callV F (n := 1) (As := [.int r21]) (rest := []) (c_X2_comes l g hg r21 S15 r32 hc32) gw_X5_161 (by decide +kernel) ⟨Nat.le_of_ble_eq_true rfl, Nat.le_of_ble_eq_true rfl⟩ ⟨Nat.le_of_ble_eq_true rfl, Nat.le_of_ble_eq_true rfl⟩ lay_6 rfl rfl rfl (Nat.le_of_ble_eq_true rfl) dX5_round_32 ?_
    show J p l e rmX5_round s m args below meth c g A 5 (MQ below (QC g A (some (.int r)) S') args s 0 0 A) 0 0 35 [(4, .int r21), (0, .ref (g.2.1 0)), (1, .int v1), (2, .int v2), (3, .int v3)] [.int r32] S15
    refine j_if_eq F (tgt := 51) dX5_round_35 (by decide) hm (fun _ hm => ?_) (fun _ hm => ?_)
    · refine j_bipush F (v := -9) dX5_round_51 (by decide) ?_
      refine j_sub [] rfl ?_
      exact hj53 ((-9)) S15  hm
    · refine j_aload_n F 1 dX5_round_38 rfl ?_
      refine j_getR F (k0 := 8) (C := RX5) (T := TX5) (N := 11) lay_0 rfl rfl inF5 (by decide) tw187 dX5_round_39 ?_
      refine j_getR F (k0 := 1) (C := RX2) (T := TX2) (N := 7) lay_6 rfl rfl inF2 (by decide) tw246 dX5_round_42 ?_
      refine j_iload F 0 dX5_round_45 rfl ?_
      refine j_iald F lay_7 dX5_round_47 hm (fun hm => ?_)
      refine j_goto F (tgt := 53) dX5_round_48 (by decide) ?_
      refine j_sub [] rfl ?_
      exact hj53 (gA S15 7 r21.toNatClampNeg) S15  hm
  · cases hm
noncomputable def m_X5_way (v1 : Int32) (v2 : Int32) (v3 : Int32) (S : Hs) : Option ((Int32 ⊕ Nat) × Hs) := bndP (m_X5_checkRight v1 v2 v3 S) (fun r4 => ((m_X2_follow 29 S).bind fun S15 => ((m_X5_rightOf v1 v2 v3).bind fun r25 => ((m_X2_wayOf r25 S15).bind fun r28 => (some ((.inl r28, S15))))))) (fun q => some ((.inr q, S)))
set_option maxRecDepth 100000 in
set_option maxHeartbeats 4000000 in
theorem c_X5_way (l : Launch) (g : GG) (hg : Inj g) (v1 : Int32) (v2 : Int32) (v3 : Int32)  (S : Hs) (r : Int32) (S' : Hs) (hm : m_X5_way v1 v2 v3 S = some ((.inl r, S'))) : CM l yX5_way [.code yX5_way cX5_way 4 (some .int)] rmX5_way [.ref (g.2.1 0), .int v1, .int v2, .int v3] g S (some (.int r)) S' := by
  unfold m_X5_way at hm
  refine CM.of (cc := cX5_way) (nL := 4) (ret := (some .int)) (lv := [(0, .ref (g.2.1 0)), (1, .int v1), (2, .int v2), (3, .int v3)]) (by decide +kernel) hg (Nat.le_of_ble_eq_true rfl) rfl (fun p e s m args below meth c A F => ?_)
  replace F : Fx p s m meth c cX5_way RX5 4 (some .int) g A := F
  show J p l e rmX5_way s m args below meth c g A 4 (MQ below (QC g A (some (.int r)) S') args s 0 0 A) 0 0 0 [(0, .ref (g.2.1 0)), (1, .int v1), (2, .int v2), (3, .int v3)] [] S
  refine j_aload_n F 0 dX5_way_0 rfl ?_
  refine j_iload_n F 1 dX5_way_1 rfl ?_
  refine j_iload_n F 2 dX5_way_2 rfl ?_
  refine j_iload_n F 3 dX5_way_3 rfl ?_
  refine bndP_ok hm (fun r4 hc4 hm => ?_) (fun q hc4 hm => ?_)
  · refine j_callV F (n := 3) (As := [.int v1, .int v2, .int v3]) (rest := []) (c_X5_checkRight l g hg v1 v2 v3 S hc4) gw_X5_150 (by decide +kernel) ⟨Nat.le_of_ble_eq_true rfl, Nat.le_of_ble_eq_true rfl⟩ ⟨Nat.le_of_ble_eq_true rfl, Nat.le_of_ble_eq_true rfl⟩ lay_0 rfl rfl rfl (Nat.le_of_ble_eq_true rfl) dX5_way_4 ?_
    show J p l e rmX5_way s m args below meth c g A 4 (MQ below (QC g A (some (.int r)) S') args s 0 0 A) 0 0 7 [(0, .ref (g.2.1 0)), (1, .int v1), (2, .int v2), (3, .int v3)] [] S
    refine j_aload_n F 0 dX5_way_7 rfl ?_
    refine j_getR F (k0 := 8) (C := RX5) (T := TX5) (N := 11) lay_0 rfl rfl inF5 (by decide) tw187 dX5_way_8 ?_
    refine j_aload_n F 0 dX5_way_11 rfl ?_
    refine j_getR F (k0 := 1) (C := RX5) (T := TX5) (N := 11) lay_0 rfl rfl inF5 (by decide) tw179 dX5_way_12 ?_
    obtain ⟨S15, hc15, hm⟩ := Option.bind_eq_some_iff.mp hm
    refine j_callV F (n := 1) (As := [.ref (g.2.1 29)]) (rest := []) (c_X2_follow l g hg 29 (by decide) S S15 hc15) gw_X5_117 (by decide +kernel) ⟨Nat.le_of_ble_eq_true rfl, Nat.le_of_ble_eq_true rfl⟩ ⟨Nat.le_of_ble_eq_true rfl, Nat.le_of_ble_eq_true rfl⟩ lay_6 rfl rfl rfl (Nat.le_of_ble_eq_true rfl) dX5_way_15 ?_
    show J p l e rmX5_way s m args below meth c g A 4 (MQ below (QC g A (some (.int r)) S') args s 0 0 A) 0 0 18 [(0, .ref (g.2.1 0)), (1, .int v1), (2, .int v2), (3, .int v3)] [] S15
    refine j_aload_n F 0 dX5_way_18 rfl ?_
    refine j_getR F (k0 := 8) (C := RX5) (T := TX5) (N := 11) lay_0 rfl rfl inF5 (by decide) tw187 dX5_way_19 ?_
    refine j_iload_n F 1 dX5_way_22 rfl ?_
    refine j_iload_n F 2 dX5_way_23 rfl ?_
    refine j_iload_n F 3 dX5_way_24 rfl ?_
    obtain ⟨r25, hc25, hm⟩ := Option.bind_eq_some_iff.mp hm
    refine j_callS F (n := 3) (As := [.int v1, .int v2, .int v3]) (rest := [.ref (g.2.1 6)]) (c_X5_rightOf l g hg v1 v2 v3 S15 r25 hc25) gw_X5_154 (by decide +kernel) ⟨Nat.le_of_ble_eq_true rfl, Nat.le_of_ble_eq_true rfl⟩ ⟨Nat.le_of_ble_eq_true rfl, Nat.le_of_ble_eq_true rfl⟩ rfl rfl (Nat.le_of_ble_eq_true rfl) dX5_way_25 ?_
    show J p l e rmX5_way s m args below meth c g A 4 (MQ below (QC g A (some (.int r)) S') args s 0 0 A) 0 0 28 [(0, .ref (g.2.1 0)), (1, .int v1), (2, .int v2), (3, .int v3)] [.int r25, .ref (g.2.1 6)] S15
    obtain ⟨r28, hc28, hm⟩ := Option.bind_eq_some_iff.mp hm
    refine j_callV F (n := 1) (As := [.int r25]) (rest := []) (c_X2_wayOf l g hg r25 S15 r28 hc28) gw_X5_167 (by decide +kernel) ⟨Nat.le_of_ble_eq_true rfl, Nat.le_of_ble_eq_true rfl⟩ ⟨Nat.le_of_ble_eq_true rfl, Nat.le_of_ble_eq_true rfl⟩ lay_6 rfl rfl rfl (Nat.le_of_ble_eq_true rfl) dX5_way_28 ?_
    show J p l e rmX5_way s m args below meth c g A 4 (MQ below (QC g A (some (.int r)) S') args s 0 0 A) 0 0 31 [(0, .ref (g.2.1 0)), (1, .int v1), (2, .int v2), (3, .int v3)] [.int r28] S15
    exact j_iret_e F rfl dX5_way_31 (inl_e hm)
  · cases hm
def m_X5_proof_J52 (w0 : Int32) (S : Hs) : Option ((Int32 ⊕ Nat) × Hs) := some ((.inl w0, S))
noncomputable def m_X5_proof (v1 : Int32) (v2 : Int32) (v3 : Int32) (S : Hs) : Option ((Int32 ⊕ Nat) × Hs) := bndP (m_X5_checkRight v1 v2 v3 S) (fun r4 => ((m_X2_follow 29 S).bind fun S15 => ((m_X5_rightOf v1 v2 v3).bind fun r21 => ((m_X2_comes r21 S15).bind fun r32 => (if r32 = 0 then (m_X5_proof_J52 ((-9)) S15) else (bndE (m_X2_prove r21 S15) fun r44 S44 => (m_X5_proof_J52 r44 S44))))))) (fun q => some ((.inr q, S)))
set_option maxRecDepth 100000 in
set_option maxHeartbeats 4000000 in
theorem c_X5_proof (l : Launch) (g : GG) (hg : Inj g) (v1 : Int32) (v2 : Int32) (v3 : Int32)  (S : Hs) (r : Int32) (S' : Hs) (hm : m_X5_proof v1 v2 v3 S = some ((.inl r, S'))) : CM l yX5_proof [.code yX5_proof cX5_proof 5 (some .int)] rmX5_proof [.ref (g.2.1 0), .int v1, .int v2, .int v3] g S (some (.int r)) S' := by
  unfold m_X5_proof at hm
  refine CM.of (cc := cX5_proof) (nL := 5) (ret := (some .int)) (lv := [(0, .ref (g.2.1 0)), (1, .int v1), (2, .int v2), (3, .int v3)]) (by decide +kernel) hg (Nat.le_of_ble_eq_true rfl) rfl (fun p e s m args below meth c A F => ?_)
  replace F : Fx p s m meth c cX5_proof RX5 5 (some .int) g A := F
  show J p l e rmX5_proof s m args below meth c g A 5 (MQ below (QC g A (some (.int r)) S') args s 0 0 A) 0 0 0 [(0, .ref (g.2.1 0)), (1, .int v1), (2, .int v2), (3, .int v3)] [] S
  have hj52 : ∀ (w0 : Int32) (S : Hs), m_X5_proof_J52 w0 S = some ((.inl r, S')) → J p l e rmX5_proof s m args below meth c g A 5 (MQ below (QC g A (some (.int r)) S') args s 0 0 A) 0 0 52 [] [.int w0] S := by
    intro w0 S hm
    unfold m_X5_proof_J52 at hm
    exact j_iret_e F rfl dX5_proof_52 (inl_e hm)
  refine j_aload_n F 0 dX5_proof_0 rfl ?_
  refine j_iload_n F 1 dX5_proof_1 rfl ?_
  refine j_iload_n F 2 dX5_proof_2 rfl ?_
  refine j_iload_n F 3 dX5_proof_3 rfl ?_
  refine bndP_ok hm (fun r4 hc4 hm => ?_) (fun q hc4 hm => ?_)
  · refine j_callV F (n := 3) (As := [.int v1, .int v2, .int v3]) (rest := []) (c_X5_checkRight l g hg v1 v2 v3 S hc4) gw_X5_150 (by decide +kernel) ⟨Nat.le_of_ble_eq_true rfl, Nat.le_of_ble_eq_true rfl⟩ ⟨Nat.le_of_ble_eq_true rfl, Nat.le_of_ble_eq_true rfl⟩ lay_0 rfl rfl rfl (Nat.le_of_ble_eq_true rfl) dX5_proof_4 ?_
    show J p l e rmX5_proof s m args below meth c g A 5 (MQ below (QC g A (some (.int r)) S') args s 0 0 A) 0 0 7 [(0, .ref (g.2.1 0)), (1, .int v1), (2, .int v2), (3, .int v3)] [] S
    refine j_aload_n F 0 dX5_proof_7 rfl ?_
    refine j_getR F (k0 := 8) (C := RX5) (T := TX5) (N := 11) lay_0 rfl rfl inF5 (by decide) tw187 dX5_proof_8 ?_
    refine j_aload_n F 0 dX5_proof_11 rfl ?_
    refine j_getR F (k0 := 1) (C := RX5) (T := TX5) (N := 11) lay_0 rfl rfl inF5 (by decide) tw179 dX5_proof_12 ?_
    obtain ⟨S15, hc15, hm⟩ := Option.bind_eq_some_iff.mp hm
    refine j_callV F (n := 1) (As := [.ref (g.2.1 29)]) (rest := []) (c_X2_follow l g hg 29 (by decide) S S15 hc15) gw_X5_117 (by decide +kernel) ⟨Nat.le_of_ble_eq_true rfl, Nat.le_of_ble_eq_true rfl⟩ ⟨Nat.le_of_ble_eq_true rfl, Nat.le_of_ble_eq_true rfl⟩ lay_6 rfl rfl rfl (Nat.le_of_ble_eq_true rfl) dX5_proof_15 ?_
    show J p l e rmX5_proof s m args below meth c g A 5 (MQ below (QC g A (some (.int r)) S') args s 0 0 A) 0 0 18 [(0, .ref (g.2.1 0)), (1, .int v1), (2, .int v2), (3, .int v3)] [] S15
    refine j_iload_n F 1 dX5_proof_18 rfl ?_
    refine j_iload_n F 2 dX5_proof_19 rfl ?_
    refine j_iload_n F 3 dX5_proof_20 rfl ?_
    obtain ⟨r21, hc21, hm⟩ := Option.bind_eq_some_iff.mp hm
    refine j_callS F (n := 3) (As := [.int v1, .int v2, .int v3]) (rest := []) (c_X5_rightOf l g hg v1 v2 v3 S15 r21 hc21) gw_X5_154 (by decide +kernel) ⟨Nat.le_of_ble_eq_true rfl, Nat.le_of_ble_eq_true rfl⟩ ⟨Nat.le_of_ble_eq_true rfl, Nat.le_of_ble_eq_true rfl⟩ rfl rfl (Nat.le_of_ble_eq_true rfl) dX5_proof_21 ?_
    show J p l e rmX5_proof s m args below meth c g A 5 (MQ below (QC g A (some (.int r)) S') args s 0 0 A) 0 0 24 [(0, .ref (g.2.1 0)), (1, .int v1), (2, .int v2), (3, .int v3)] [.int r21] S15
    refine j_istore F (lv' := [(4, .int r21), (0, .ref (g.2.1 0)), (1, .int v1), (2, .int v2), (3, .int v3)]) dX5_proof_24 (by decide) rfl ?_
    refine j_aload_n F 1 dX5_proof_26 rfl ?_
    refine j_getR F (k0 := 8) (C := RX5) (T := TX5) (N := 11) lay_0 rfl rfl inF5 (by decide) tw187 dX5_proof_27 ?_
    refine j_iload F 0 dX5_proof_30 rfl ?_
    obtain ⟨r32, hc32, hm⟩ := Option.bind_eq_some_iff.mp hm
    refine j_callV F (n := 1) (As := [.int r21]) (rest := []) (c_X2_comes l g hg r21 S15 r32 hc32) gw_X5_161 (by decide +kernel) ⟨Nat.le_of_ble_eq_true rfl, Nat.le_of_ble_eq_true rfl⟩ ⟨Nat.le_of_ble_eq_true rfl, Nat.le_of_ble_eq_true rfl⟩ lay_6 rfl rfl rfl (Nat.le_of_ble_eq_true rfl) dX5_proof_32 ?_
    show J p l e rmX5_proof s m args below meth c g A 5 (MQ below (QC g A (some (.int r)) S') args s 0 0 A) 0 0 35 [(4, .int r21), (0, .ref (g.2.1 0)), (1, .int v1), (2, .int v2), (3, .int v3)] [.int r32] S15
    refine j_if_eq F (tgt := 50) dX5_proof_35 (by decide) hm (fun _ hm => ?_) (fun _ hm => ?_)
    · refine j_bipush F (v := -9) dX5_proof_50 (by decide) ?_
      refine j_sub [] rfl ?_
      exact hj52 ((-9)) S15  hm
    · refine j_aload_n F 1 dX5_proof_38 rfl ?_
      refine j_getR F (k0 := 8) (C := RX5) (T := TX5) (N := 11) lay_0 rfl rfl inF5 (by decide) tw187 dX5_proof_39 ?_
      refine j_iload F 0 dX5_proof_42 rfl ?_
      obtain ⟨r44, S44, hc44, hm⟩ := bndE_ok hm
      refine j_callV F (n := 1) (As := [.int r21]) (rest := []) (c_X2_prove l g hg r21 S15 r44 S44 hc44) gw_X5_170 (by decide +kernel) ⟨Nat.le_of_ble_eq_true rfl, Nat.le_of_ble_eq_true rfl⟩ ⟨Nat.le_of_ble_eq_true rfl, Nat.le_of_ble_eq_true rfl⟩ lay_6 rfl rfl rfl (Nat.le_of_ble_eq_true rfl) dX5_proof_44 ?_
      show J p l e rmX5_proof s m args below meth c g A 5 (MQ below (QC g A (some (.int r)) S') args s 0 0 A) 0 0 47 [(4, .int r21), (0, .ref (g.2.1 0)), (1, .int v1), (2, .int v2), (3, .int v3)] [.int r44] S44
      refine j_goto F (tgt := 52) dX5_proof_47 (by decide) ?_
      refine j_sub [] rfl ?_
      exact hj52 r44 S44  hm
  · cases hm
noncomputable def m_X5_addThing (v1 : Int32) (S : Hs) : Option ((Int32 ⊕ Nat) × Hs) := if (gI S 29 0) < 7 then ((m_X5_remember  S).bind fun S23 => ((m_X3_addOne 29 v1 v1 S23).bind fun S32 => (some ((.inl ((gI S32 29 0) - 1), S32))))) else (some ((.inr 2, S)))
set_option maxRecDepth 100000 in
set_option maxHeartbeats 4000000 in
theorem c_X5_addThing (l : Launch) (g : GG) (hg : Inj g) (v1 : Int32)  (S : Hs) (r : Int32) (S' : Hs) (hm : m_X5_addThing v1 S = some ((.inl r, S'))) : CM l yX5_addThing [.code yX5_addThing cX5_addThing 2 (some .int)] rmX5_addThing [.ref (g.2.1 0), .int v1] g S (some (.int r)) S' := by
  unfold m_X5_addThing at hm
  refine CM.of (cc := cX5_addThing) (nL := 2) (ret := (some .int)) (lv := [(0, .ref (g.2.1 0)), (1, .int v1)]) (by decide +kernel) hg (Nat.le_of_ble_eq_true rfl) rfl (fun p e s m args below meth c A F => ?_)
  replace F : Fx p s m meth c cX5_addThing RX5 2 (some .int) g A := F
  show J p l e rmX5_addThing s m args below meth c g A 2 (MQ below (QC g A (some (.int r)) S') args s 0 0 A) 0 0 0 [(0, .ref (g.2.1 0)), (1, .int v1)] [] S
  refine j_aload_n F 0 dX5_addThing_0 rfl ?_
  refine j_getR F (k0 := 1) (C := RX5) (T := TX5) (N := 11) lay_0 rfl rfl inF5 (by decide) tw179 dX5_addThing_1 ?_
  refine j_getI F (k0 := 0) (C := RX3) (T := TX3) (N := 4) (isSt_lay (i := 29) (by decide)).1 rfl rfl inF3 (by decide) tw206 dX5_addThing_4 ?_
  refine j_bipush F (v := 7) dX5_addThing_7 (by decide) ?_
  refine j_icmp_lt F (tgt := 22) dX5_addThing_9 (by decide) hm (fun _ hm => ?_) (fun _ hm => ?_)
  · refine j_aload_n F 0 dX5_addThing_22 rfl ?_
    obtain ⟨S23, hc23, hm⟩ := Option.bind_eq_some_iff.mp hm
    refine j_callV F (n := 0) (As := []) (rest := []) (c_X5_remember l g hg S S23 hc23) gw_X5_175 (by decide +kernel) ⟨Nat.le_of_ble_eq_true rfl, Nat.le_of_ble_eq_true rfl⟩ ⟨Nat.le_of_ble_eq_true rfl, Nat.le_of_ble_eq_true rfl⟩ lay_0 rfl rfl rfl (Nat.le_of_ble_eq_true rfl) dX5_addThing_23 ?_
    show J p l e rmX5_addThing s m args below meth c g A 2 (MQ below (QC g A (some (.int r)) S') args s 0 0 A) 0 0 26 [(0, .ref (g.2.1 0)), (1, .int v1)] [] S23
    refine j_aload_n F 0 dX5_addThing_26 rfl ?_
    refine j_getR F (k0 := 1) (C := RX5) (T := TX5) (N := 11) lay_0 rfl rfl inF5 (by decide) tw179 dX5_addThing_27 ?_
    refine j_iload_n F 1 dX5_addThing_30 rfl ?_
    refine j_iload_n F 1 dX5_addThing_31 rfl ?_
    obtain ⟨S32, hc32, hm⟩ := Option.bind_eq_some_iff.mp hm
    refine j_callV F (n := 2) (As := [.int v1, .int v1]) (rest := []) (c_X3_addOne l g hg 29 v1 v1 (by decide) S23 S32 hc32) gw_X5_178 (by decide +kernel) ⟨Nat.le_of_ble_eq_true rfl, Nat.le_of_ble_eq_true rfl⟩ ⟨Nat.le_of_ble_eq_true rfl, Nat.le_of_ble_eq_true rfl⟩ (isSt_lay (i := 29) (by decide)).1 rfl rfl rfl (Nat.le_of_ble_eq_true rfl) dX5_addThing_32 ?_
    show J p l e rmX5_addThing s m args below meth c g A 2 (MQ below (QC g A (some (.int r)) S') args s 0 0 A) 0 0 35 [(0, .ref (g.2.1 0)), (1, .int v1)] [] S32
    refine j_aload_n F 0 dX5_addThing_35 rfl ?_
    refine j_getR F (k0 := 1) (C := RX5) (T := TX5) (N := 11) lay_0 rfl rfl inF5 (by decide) tw179 dX5_addThing_36 ?_
    refine j_getI F (k0 := 0) (C := RX3) (T := TX3) (N := 4) (isSt_lay (i := 29) (by decide)).1 rfl rfl inF3 (by decide) tw206 dX5_addThing_39 ?_
    refine j_iconst F (v := 1) dX5_addThing_42 (by decide) ?_
    refine j_isub F dX5_addThing_43 ?_
    exact j_iret_e F rfl dX5_addThing_44 (inl_e hm)
  · cases hm
noncomputable def m_X5_wake (v1 : Int32) (v2 : Int32) (S : Hs) : Option ((Int32 ⊕ Nat) × Hs) := bndP (m_X5_checkThing v1 S) (fun r2 => ((m_X3_isPerson 29 v1 S).bind fun r10 => (if r10 = 0 then (some ((.inr 2, S))) else ((m_X5_remember  S).bind fun S27 => ((m_X3_setAwake 29 v1 v2 S27).bind fun S36 => (bndE (m_X5_endOf 29 S36) fun r44 S44 => (gd (isSt r44) ((m_X3_countRights r44 S44).bind fun r47 => (some ((.inl r47, S44))))))))))) (fun q => some ((.inr q, S)))
set_option maxRecDepth 100000 in
set_option maxHeartbeats 4000000 in
theorem c_X5_wake (l : Launch) (g : GG) (hg : Inj g) (v1 : Int32) (v2 : Int32)  (S : Hs) (r : Int32) (S' : Hs) (hm : m_X5_wake v1 v2 S = some ((.inl r, S'))) : CM l yX5_wake [.code yX5_wake cX5_wake 3 (some .int)] rmX5_wake [.ref (g.2.1 0), .int v1, .int v2] g S (some (.int r)) S' := by
  unfold m_X5_wake at hm
  refine CM.of (cc := cX5_wake) (nL := 3) (ret := (some .int)) (lv := [(0, .ref (g.2.1 0)), (1, .int v1), (2, .int v2)]) (by decide +kernel) hg (Nat.le_of_ble_eq_true rfl) rfl (fun p e s m args below meth c A F => ?_)
  replace F : Fx p s m meth c cX5_wake RX5 3 (some .int) g A := F
  show J p l e rmX5_wake s m args below meth c g A 3 (MQ below (QC g A (some (.int r)) S') args s 0 0 A) 0 0 0 [(0, .ref (g.2.1 0)), (1, .int v1), (2, .int v2)] [] S
  refine j_aload_n F 0 dX5_wake_0 rfl ?_
  refine j_iload_n F 1 dX5_wake_1 rfl ?_
  refine bndP_ok hm (fun r2 hc2 hm => ?_) (fun q hc2 hm => ?_)
  · refine j_callV F (n := 1) (As := [.int v1]) (rest := []) (c_X5_checkThing l g hg v1 S hc2) gw_X5_129 (by decide +kernel) ⟨Nat.le_of_ble_eq_true rfl, Nat.le_of_ble_eq_true rfl⟩ ⟨Nat.le_of_ble_eq_true rfl, Nat.le_of_ble_eq_true rfl⟩ lay_0 rfl rfl rfl (Nat.le_of_ble_eq_true rfl) dX5_wake_2 ?_
    show J p l e rmX5_wake s m args below meth c g A 3 (MQ below (QC g A (some (.int r)) S') args s 0 0 A) 0 0 5 [(0, .ref (g.2.1 0)), (1, .int v1), (2, .int v2)] [] S
    refine j_aload_n F 0 dX5_wake_5 rfl ?_
    refine j_getR F (k0 := 1) (C := RX5) (T := TX5) (N := 11) lay_0 rfl rfl inF5 (by decide) tw179 dX5_wake_6 ?_
    refine j_iload_n F 1 dX5_wake_9 rfl ?_
    obtain ⟨r10, hc10, hm⟩ := Option.bind_eq_some_iff.mp hm
    refine j_callV F (n := 1) (As := [.int v1]) (rest := []) (c_X3_isPerson l g hg 29 v1 (by decide) S r10 hc10) gw_X5_133 (by decide +kernel) ⟨Nat.le_of_ble_eq_true rfl, Nat.le_of_ble_eq_true rfl⟩ ⟨Nat.le_of_ble_eq_true rfl, Nat.le_of_ble_eq_true rfl⟩ (isSt_lay (i := 29) (by decide)).1 rfl rfl rfl (Nat.le_of_ble_eq_true rfl) dX5_wake_10 ?_
    show J p l e rmX5_wake s m args below meth c g A 3 (MQ below (QC g A (some (.int r)) S') args s 0 0 A) 0 0 13 [(0, .ref (g.2.1 0)), (1, .int v1), (2, .int v2)] [.int r10] S
    refine j_if_ne F (tgt := 26) dX5_wake_13 (by decide) hm (fun _ hm => ?_) (fun _ hm => ?_)
    · refine j_aload_n F 0 dX5_wake_26 rfl ?_
      obtain ⟨S27, hc27, hm⟩ := Option.bind_eq_some_iff.mp hm
      refine j_callV F (n := 0) (As := []) (rest := []) (c_X5_remember l g hg S S27 hc27) gw_X5_175 (by decide +kernel) ⟨Nat.le_of_ble_eq_true rfl, Nat.le_of_ble_eq_true rfl⟩ ⟨Nat.le_of_ble_eq_true rfl, Nat.le_of_ble_eq_true rfl⟩ lay_0 rfl rfl rfl (Nat.le_of_ble_eq_true rfl) dX5_wake_27 ?_
      show J p l e rmX5_wake s m args below meth c g A 3 (MQ below (QC g A (some (.int r)) S') args s 0 0 A) 0 0 30 [(0, .ref (g.2.1 0)), (1, .int v1), (2, .int v2)] [] S27
      refine j_aload_n F 0 dX5_wake_30 rfl ?_
      refine j_getR F (k0 := 1) (C := RX5) (T := TX5) (N := 11) lay_0 rfl rfl inF5 (by decide) tw179 dX5_wake_31 ?_
      refine j_iload_n F 1 dX5_wake_34 rfl ?_
      refine j_iload_n F 2 dX5_wake_35 rfl ?_
      obtain ⟨S36, hc36, hm⟩ := Option.bind_eq_some_iff.mp hm
      refine j_callV F (n := 2) (As := [.int v1, .int v2]) (rest := []) (c_X3_setAwake l g hg 29 v1 v2 (by decide) S27 S36 hc36) gw_X5_187 (by decide +kernel) ⟨Nat.le_of_ble_eq_true rfl, Nat.le_of_ble_eq_true rfl⟩ ⟨Nat.le_of_ble_eq_true rfl, Nat.le_of_ble_eq_true rfl⟩ (isSt_lay (i := 29) (by decide)).1 rfl rfl rfl (Nat.le_of_ble_eq_true rfl) dX5_wake_36 ?_
      show J p l e rmX5_wake s m args below meth c g A 3 (MQ below (QC g A (some (.int r)) S') args s 0 0 A) 0 0 39 [(0, .ref (g.2.1 0)), (1, .int v1), (2, .int v2)] [] S36
      refine j_aload_n F 0 dX5_wake_39 rfl ?_
      refine j_aload_n F 0 dX5_wake_40 rfl ?_
      refine j_getR F (k0 := 1) (C := RX5) (T := TX5) (N := 11) lay_0 rfl rfl inF5 (by decide) tw179 dX5_wake_41 ?_
      obtain ⟨r44, S44, hc44, hm⟩ := bndE_ok hm
      refine j_callV F (n := 1) (As := [.ref (g.2.1 29)]) (rest := []) (c_X5_endOf l g hg 29 (by decide) S36 r44 S44 hc44) gw_X5_113 (by decide +kernel) ⟨Nat.le_of_ble_eq_true rfl, Nat.le_of_ble_eq_true rfl⟩ ⟨Nat.le_of_ble_eq_true rfl, Nat.le_of_ble_eq_true rfl⟩ lay_0 rfl rfl rfl (Nat.le_of_ble_eq_true rfl) dX5_wake_44 ?_
      obtain ⟨hs_r44, hm⟩ := gd_ok hm
      show J p l e rmX5_wake s m args below meth c g A 3 (MQ below (QC g A (some (.int r)) S') args s 0 0 A) 0 0 47 [(0, .ref (g.2.1 0)), (1, .int v1), (2, .int v2)] [.ref (g.2.1 r44)] S44
      obtain ⟨r47, hc47, hm⟩ := Option.bind_eq_some_iff.mp hm
      refine j_callV F (n := 0) (As := []) (rest := []) (c_X3_countRights l g hg r44 hs_r44 S44 r47 hc47) gw_X5_109 (by decide +kernel) ⟨Nat.le_of_ble_eq_true rfl, Nat.le_of_ble_eq_true rfl⟩ ⟨Nat.le_of_ble_eq_true rfl, Nat.le_of_ble_eq_true rfl⟩ (isSt_lay hs_r44).1 rfl rfl rfl (Nat.le_of_ble_eq_true rfl) dX5_wake_47 ?_
      show J p l e rmX5_wake s m args below meth c g A 3 (MQ below (QC g A (some (.int r)) S') args s 0 0 A) 0 0 50 [(0, .ref (g.2.1 0)), (1, .int v1), (2, .int v2)] [.int r47] S44
      exact j_iret_e F rfl dX5_wake_50 (inl_e hm)
    · cases hm
  · cases hm
noncomputable def m_X5_set_J42 (v4 : Int32) (v5 : Int32) (S : Hs) : Option ((Int32 ⊕ Nat) × Hs) := (m_X3_has 29 v5 S).bind fun r48 => ((m_X5_remember  S).bind fun S54 => ((m_X3_put 29 v5 v4 S54).bind fun S65 => (gd (decide (r48 = 0 ∨ r48 = 1)) (some ((.inl r48, S65))))))
noncomputable def m_X5_set (v1 : Int32) (v2 : Int32) (v3 : Int32) (v4 : Int32) (S : Hs) : Option ((Int32 ⊕ Nat) × Hs) := bndP (m_X5_checkRight v1 v2 v3 S) (fun r4 => ((m_X5_rightOf v1 v2 v3).bind fun r10 => (if v4 = 0 then (m_X5_set_J42 v4 r10 S) else ((m_X3_hasRoomFor 29 r10 S).bind fun r26 => (if r26 = 0 then (some ((.inr 2, S))) else (m_X5_set_J42 v4 r10 S)))))) (fun q => some ((.inr q, S)))
set_option maxRecDepth 100000 in
set_option maxHeartbeats 4000000 in
theorem c_X5_set (l : Launch) (g : GG) (hg : Inj g) (v1 : Int32) (v2 : Int32) (v3 : Int32) (v4 : Int32)  (S : Hs) (r : Int32) (S' : Hs) (hm : m_X5_set v1 v2 v3 v4 S = some ((.inl r, S'))) : CM l yX5_set [.code yX5_set cX5_set 7 (some .boolean)] rmX5_set [.ref (g.2.1 0), .int v1, .int v2, .int v3, .int v4] g S (some (.int r)) S' := by
  unfold m_X5_set at hm
  refine CM.of (cc := cX5_set) (nL := 7) (ret := (some .boolean)) (lv := [(0, .ref (g.2.1 0)), (1, .int v1), (2, .int v2), (3, .int v3), (4, .int v4)]) (by decide +kernel) hg (Nat.le_of_ble_eq_true rfl) rfl (fun p e s m args below meth c A F => ?_)
  replace F : Fx p s m meth c cX5_set RX5 7 (some .boolean) g A := F
  show J p l e rmX5_set s m args below meth c g A 7 (MQ below (QC g A (some (.int r)) S') args s 0 0 A) 0 0 0 [(0, .ref (g.2.1 0)), (1, .int v1), (2, .int v2), (3, .int v3), (4, .int v4)] [] S
  have hj42 : ∀ (v4 : Int32) (v5 : Int32) (S : Hs), m_X5_set_J42 v4 v5 S = some ((.inl r, S')) → J p l e rmX5_set s m args below meth c g A 7 (MQ below (QC g A (some (.int r)) S') args s 0 0 A) 0 0 42 [(0, .ref (g.2.1 0)), (4, .int v4), (5, .int v5)] [] S := by
    intro v4 v5 S hm
    unfold m_X5_set_J42 at hm
    refine j_aload_n F 0 dX5_set_42 rfl ?_
    refine j_getR F (k0 := 1) (C := RX5) (T := TX5) (N := 11) lay_0 rfl rfl inF5 (by decide) tw179 dX5_set_43 ?_
    refine j_iload F 2 dX5_set_46 rfl ?_
    obtain ⟨r48, hc48, hm⟩ := Option.bind_eq_some_iff.mp hm
    refine j_callV F (n := 1) (As := [.int v5]) (rest := []) (c_X3_has l g hg 29 v5 (by decide) S r48 hc48) gw_X5_158 (by decide +kernel) ⟨Nat.le_of_ble_eq_true rfl, Nat.le_of_ble_eq_true rfl⟩ ⟨Nat.le_of_ble_eq_true rfl, Nat.le_of_ble_eq_true rfl⟩ (isSt_lay (i := 29) (by decide)).1 rfl rfl rfl (Nat.le_of_ble_eq_true rfl) dX5_set_48 ?_
    show J p l e rmX5_set s m args below meth c g A 7 (MQ below (QC g A (some (.int r)) S') args s 0 0 A) 0 0 51 [(0, .ref (g.2.1 0)), (4, .int v4), (5, .int v5)] [.int r48] S
    refine j_istore F (lv' := [(6, .int r48), (0, .ref (g.2.1 0)), (4, .int v4), (5, .int v5)]) dX5_set_51 (by decide) rfl ?_
    refine j_aload_n F 1 dX5_set_53 rfl ?_
    obtain ⟨S54, hc54, hm⟩ := Option.bind_eq_some_iff.mp hm
    refine j_callV F (n := 0) (As := []) (rest := []) (c_X5_remember l g hg S S54 hc54) gw_X5_175 (by decide +kernel) ⟨Nat.le_of_ble_eq_true rfl, Nat.le_of_ble_eq_true rfl⟩ ⟨Nat.le_of_ble_eq_true rfl, Nat.le_of_ble_eq_true rfl⟩ lay_0 rfl rfl rfl (Nat.le_of_ble_eq_true rfl) dX5_set_54 ?_
    show J p l e rmX5_set s m args below meth c g A 7 (MQ below (QC g A (some (.int r)) S') args s 0 0 A) 0 0 57 [(6, .int r48), (0, .ref (g.2.1 0)), (4, .int v4), (5, .int v5)] [] S54
    refine j_aload_n F 1 dX5_set_57 rfl ?_
    refine j_getR F (k0 := 1) (C := RX5) (T := TX5) (N := 11) lay_0 rfl rfl inF5 (by decide) tw179 dX5_set_58 ?_
    refine j_iload F 3 dX5_set_61 rfl ?_
    refine j_iload F 2 dX5_set_63 rfl ?_
    obtain ⟨S65, hc65, hm⟩ := Option.bind_eq_some_iff.mp hm
    refine j_callV F (n := 2) (As := [.int v5, .int v4]) (rest := []) (c_X3_put l g hg 29 v5 v4 (by decide) S54 S65 hc65) gw_X5_196 (by decide +kernel) ⟨Nat.le_of_ble_eq_true rfl, Nat.le_of_ble_eq_true rfl⟩ ⟨Nat.le_of_ble_eq_true rfl, Nat.le_of_ble_eq_true rfl⟩ (isSt_lay (i := 29) (by decide)).1 rfl rfl rfl (Nat.le_of_ble_eq_true rfl) dX5_set_65 ?_
    show J p l e rmX5_set s m args below meth c g A 7 (MQ below (QC g A (some (.int r)) S') args s 0 0 A) 0 0 68 [(6, .int r48), (0, .ref (g.2.1 0)), (4, .int v4), (5, .int v5)] [] S65
    refine j_iload F 0 dX5_set_68 rfl ?_
    obtain ⟨hb, hm⟩ := gd_ok hm
    exact j_zret_e F rfl (z_nar hb) dX5_set_70 (inl_e hm)
  refine j_aload_n F 0 dX5_set_0 rfl ?_
  refine j_iload_n F 1 dX5_set_1 rfl ?_
  refine j_iload_n F 2 dX5_set_2 rfl ?_
  refine j_iload_n F 3 dX5_set_3 rfl ?_
  refine bndP_ok hm (fun r4 hc4 hm => ?_) (fun q hc4 hm => ?_)
  · refine j_callV F (n := 3) (As := [.int v1, .int v2, .int v3]) (rest := []) (c_X5_checkRight l g hg v1 v2 v3 S hc4) gw_X5_150 (by decide +kernel) ⟨Nat.le_of_ble_eq_true rfl, Nat.le_of_ble_eq_true rfl⟩ ⟨Nat.le_of_ble_eq_true rfl, Nat.le_of_ble_eq_true rfl⟩ lay_0 rfl rfl rfl (Nat.le_of_ble_eq_true rfl) dX5_set_4 ?_
    show J p l e rmX5_set s m args below meth c g A 7 (MQ below (QC g A (some (.int r)) S') args s 0 0 A) 0 0 7 [(0, .ref (g.2.1 0)), (1, .int v1), (2, .int v2), (3, .int v3), (4, .int v4)] [] S
    refine j_iload_n F 1 dX5_set_7 rfl ?_
    refine j_iload_n F 2 dX5_set_8 rfl ?_
    refine j_iload_n F 3 dX5_set_9 rfl ?_
    obtain ⟨r10, hc10, hm⟩ := Option.bind_eq_some_iff.mp hm
    refine j_callS F (n := 3) (As := [.int v1, .int v2, .int v3]) (rest := []) (c_X5_rightOf l g hg v1 v2 v3 S r10 hc10) gw_X5_154 (by decide +kernel) ⟨Nat.le_of_ble_eq_true rfl, Nat.le_of_ble_eq_true rfl⟩ ⟨Nat.le_of_ble_eq_true rfl, Nat.le_of_ble_eq_true rfl⟩ rfl rfl (Nat.le_of_ble_eq_true rfl) dX5_set_10 ?_
    show J p l e rmX5_set s m args below meth c g A 7 (MQ below (QC g A (some (.int r)) S') args s 0 0 A) 0 0 13 [(0, .ref (g.2.1 0)), (1, .int v1), (2, .int v2), (3, .int v3), (4, .int v4)] [.int r10] S
    refine j_istore F (lv' := [(5, .int r10), (0, .ref (g.2.1 0)), (1, .int v1), (2, .int v2), (3, .int v3), (4, .int v4)]) dX5_set_13 (by decide) rfl ?_
    refine j_iload F 5 dX5_set_15 rfl ?_
    refine j_if_eq F (tgt := 42) dX5_set_17 (by decide) hm (fun _ hm => ?_) (fun _ hm => ?_)
    · refine j_sub [1, 5, 0] rfl ?_
      exact hj42 v4 r10 S  hm
    · refine j_aload_n F 1 dX5_set_20 rfl ?_
      refine j_getR F (k0 := 1) (C := RX5) (T := TX5) (N := 11) lay_0 rfl rfl inF5 (by decide) tw179 dX5_set_21 ?_
      refine j_iload F 0 dX5_set_24 rfl ?_
      obtain ⟨r26, hc26, hm⟩ := Option.bind_eq_some_iff.mp hm
      refine j_callV F (n := 1) (As := [.int r10]) (rest := []) (c_X3_hasRoomFor l g hg 29 r10 (by decide) S r26 hc26) gw_X5_191 (by decide +kernel) ⟨Nat.le_of_ble_eq_true rfl, Nat.le_of_ble_eq_true rfl⟩ ⟨Nat.le_of_ble_eq_true rfl, Nat.le_of_ble_eq_true rfl⟩ (isSt_lay (i := 29) (by decide)).1 rfl rfl rfl (Nat.le_of_ble_eq_true rfl) dX5_set_26 ?_
      show J p l e rmX5_set s m args below meth c g A 7 (MQ below (QC g A (some (.int r)) S') args s 0 0 A) 0 0 29 [(5, .int r10), (0, .ref (g.2.1 0)), (1, .int v1), (2, .int v2), (3, .int v3), (4, .int v4)] [.int r26] S
      refine j_if_ne F (tgt := 42) dX5_set_29 (by decide) hm (fun _ hm => ?_) (fun _ hm => ?_)
      · refine j_sub [1, 5, 0] rfl ?_
        exact hj42 v4 r10 S  hm
      · cases hm
  · cases hm
noncomputable def m_X5_undo (S : Hs) : Option ((Int32 ⊕ Nat) × Hs) := if (gI S 0 3) = 0 then (some ((.inr 2, S))) else (bnd (sI S 0 3 ((gI S 0 3) - 1)) fun S24 => (gd (inb (gI S24 0 3) 14) (bnd (gQ S24 3 (gI S24 0 3).toNatClampNeg) fun q39 => gd (isSt q39) ((m_X3_copyFrom 29 q39 S24).bind fun S40 => (some ((.inl (gI S40 0 3), S40)))))))
set_option maxRecDepth 100000 in
set_option maxHeartbeats 4000000 in
theorem c_X5_undo (l : Launch) (g : GG) (hg : Inj g)   (S : Hs) (r : Int32) (S' : Hs) (hm : m_X5_undo S = some ((.inl r, S'))) : CM l yX5_undo [.code yX5_undo cX5_undo 1 (some .int)] rmX5_undo [.ref (g.2.1 0)] g S (some (.int r)) S' := by
  unfold m_X5_undo at hm
  refine CM.of (cc := cX5_undo) (nL := 1) (ret := (some .int)) (lv := [(0, .ref (g.2.1 0))]) (by decide +kernel) hg (Nat.le_of_ble_eq_true rfl) rfl (fun p e s m args below meth c A F => ?_)
  replace F : Fx p s m meth c cX5_undo RX5 1 (some .int) g A := F
  show J p l e rmX5_undo s m args below meth c g A 1 (MQ below (QC g A (some (.int r)) S') args s 0 0 A) 0 0 0 [(0, .ref (g.2.1 0))] [] S
  refine j_aload_n F 0 dX5_undo_0 rfl ?_
  refine j_getI F (k0 := 3) (C := RX5) (T := TX5) (N := 11) lay_0 rfl rfl inF5 (by decide) tw253 dX5_undo_1 ?_
  refine j_if_ne F (tgt := 17) dX5_undo_4 (by decide) hm (fun _ hm => ?_) (fun _ hm => ?_)
  · refine j_aload_n F 0 dX5_undo_17 rfl ?_
    refine j_dup F dX5_undo_18 rfl ?_
    refine j_getI F (k0 := 3) (C := RX5) (T := TX5) (N := 11) lay_0 rfl rfl inF5 (by decide) tw253 dX5_undo_19 ?_
    refine j_iconst F (v := 1) dX5_undo_22 (by decide) ?_
    refine j_isub F dX5_undo_23 ?_
    refine j_putI F (k0 := 3) (C := RX5) (T := TX5) (N := 11) tyX5 tyX5_ok nmX5 lay_0 rfl rfl inF5 (by decide) tw253 rfl (by decide +kernel) dX5_undo_24 ?_
    refine j_bndS hm (fun S24 hm => ?_)
    refine j_aload_n F 0 dX5_undo_27 rfl ?_
    refine j_getR F (k0 := 1) (C := RX5) (T := TX5) (N := 11) lay_0 rfl rfl inF5 (by decide) tw179 dX5_undo_28 ?_
    refine j_aload_n F 0 dX5_undo_31 rfl ?_
    refine j_getR F (k0 := 2) (C := RX5) (T := TX5) (N := 11) lay_0 rfl rfl inF5 (by decide) tw180 dX5_undo_32 ?_
    refine j_aload_n F 0 dX5_undo_35 rfl ?_
    refine j_getI F (k0 := 3) (C := RX5) (T := TX5) (N := 11) lay_0 rfl rfl inF5 (by decide) tw253 dX5_undo_36 ?_
    refine j_aald F lay_3 dX5_undo_39 hm (fun hm => ?_)
    refine j_bndr hm (fun q39 hm => ?_)
    obtain ⟨hs_q39, hm⟩ := gd_ok hm
    obtain ⟨S40, hc40, hm⟩ := Option.bind_eq_some_iff.mp hm
    refine j_callV F (n := 1) (As := [.ref (g.2.1 q39)]) (rest := []) (c_X3_copyFrom l g hg 29 q39 (by decide) hs_q39 S24 S40 hc40) gw_X5_87 (by decide +kernel) ⟨Nat.le_of_ble_eq_true rfl, Nat.le_of_ble_eq_true rfl⟩ ⟨Nat.le_of_ble_eq_true rfl, Nat.le_of_ble_eq_true rfl⟩ (isSt_lay (i := 29) (by decide)).1 rfl rfl rfl (Nat.le_of_ble_eq_true rfl) dX5_undo_40 ?_
    show J p l e rmX5_undo s m args below meth c g A 1 (MQ below (QC g A (some (.int r)) S') args s 0 0 A) 0 0 43 [(0, .ref (g.2.1 0))] [] S40
    refine j_aload_n F 0 dX5_undo_43 rfl ?_
    refine j_getI F (k0 := 3) (C := RX5) (T := TX5) (N := 11) lay_0 rfl rfl inF5 (by decide) tw253 dX5_undo_44 ?_
    exact j_iret_e F rfl dX5_undo_47 (inl_e hm)
  · cases hm
def m_X5_needed_J109 (v4 : Int32) (v5 : Int32) (v6 : Int32) (S : Hs) : Option ((Int32 × Int32 × Hs) ⊕ (Int32 × Hs)) := some (.inl ((v5, v6 + 1, S)))
noncomputable def m_X5_needed_J74 (v4 : Int32) (v5 : Int32) (v6 : Int32) (w0 : Int32) (S : Hs) : Option ((Int32 × Int32 × Hs) ⊕ (Int32 × Hs)) := if w0 = 0 then (m_X5_needed_J109 v4 v5 v6 S) else ((m_J6_bitCount_0f7a4 v6).bind fun r83 => ((m_J6_bitCount_0f7a4 v5).bind fun r88 => (if r88 ≤ r83 then (m_X5_needed_J109 v4 v5 v6 S) else (bndE (m_X5_comesWith v6 v4 S) fun r99 S99 => (if r99 = 0 then (m_X5_needed_J109 v4 v5 v6 S99) else (m_X5_needed_J109 v4 v6 v6 S99))))))
noncomputable def m_X5_needed_L46 (v4 : Int32) (v5 : Int32) (v6 : Int32) (S : Hs) : Option ((Int32 × Int32 × Hs) ⊕ (Int32 × Hs)) := if 128 ≤ v6 then (some (.inr ((v5, S)))) else (if (v6 &&& ((gI S 29 2) ^^^ ((-1)))) = 0 then (m_X5_needed_J74 v4 v5 v6 1 S) else (m_X5_needed_J74 v4 v5 v6 0 S))
noncomputable def m_X5_needed (v1 : Int32) (v2 : Int32) (v3 : Int32) (S : Hs) : Option ((Int32 ⊕ Nat) × Hs) := bndP (m_X5_checkRight v1 v2 v3 S) (fun r4 => ((m_X5_rightOf v1 v2 v3).bind fun r10 => (bndE (m_X5_comesWith (gI S 29 2) r10 S) fun r25 S25 => (if r25 = 0 then (some ((.inl ((-9)), S25))) else (bnd (gI S25 29 2) fun v5_41 => ((loopO (fun x => m_X5_needed_L46 r10 x.1 x.2.1 x.2.2) ((v5_41, 0, S25))).bind fun y46 => some ((.inl y46.1, y46.2)))))))) (fun q => some ((.inr q, S)))
set_option maxRecDepth 100000 in
set_option maxHeartbeats 4000000 in
theorem c_X5_needed (l : Launch) (g : GG) (hg : Inj g) (v1 : Int32) (v2 : Int32) (v3 : Int32)  (S : Hs) (r : Int32) (S' : Hs) (hm : m_X5_needed v1 v2 v3 S = some ((.inl r, S'))) : CM l yX5_needed [.code yX5_needed cX5_needed 8 (some .int)] rmX5_needed [.ref (g.2.1 0), .int v1, .int v2, .int v3] g S (some (.int r)) S' := by
  unfold m_X5_needed at hm
  refine CM.of (cc := cX5_needed) (nL := 8) (ret := (some .int)) (lv := [(0, .ref (g.2.1 0)), (1, .int v1), (2, .int v2), (3, .int v3)]) (by decide +kernel) hg (Nat.le_of_ble_eq_true rfl) rfl (fun p e s m args below meth c A F => ?_)
  replace F : Fx p s m meth c cX5_needed RX5 8 (some .int) g A := F
  show J p l e rmX5_needed s m args below meth c g A 8 (MQ below (QC g A (some (.int r)) S') args s 0 0 A) 0 0 0 [(0, .ref (g.2.1 0)), (1, .int v1), (2, .int v2), (3, .int v3)] [] S
  refine j_aload_n F 0 dX5_needed_0 rfl ?_
  refine j_iload_n F 1 dX5_needed_1 rfl ?_
  refine j_iload_n F 2 dX5_needed_2 rfl ?_
  refine j_iload_n F 3 dX5_needed_3 rfl ?_
  refine bndP_ok hm (fun r4 hc4 hm => ?_) (fun q hc4 hm => ?_)
  · refine j_callV F (n := 3) (As := [.int v1, .int v2, .int v3]) (rest := []) (c_X5_checkRight l g hg v1 v2 v3 S hc4) gw_X5_150 (by decide +kernel) ⟨Nat.le_of_ble_eq_true rfl, Nat.le_of_ble_eq_true rfl⟩ ⟨Nat.le_of_ble_eq_true rfl, Nat.le_of_ble_eq_true rfl⟩ lay_0 rfl rfl rfl (Nat.le_of_ble_eq_true rfl) dX5_needed_4 ?_
    show J p l e rmX5_needed s m args below meth c g A 8 (MQ below (QC g A (some (.int r)) S') args s 0 0 A) 0 0 7 [(0, .ref (g.2.1 0)), (1, .int v1), (2, .int v2), (3, .int v3)] [] S
    refine j_iload_n F 1 dX5_needed_7 rfl ?_
    refine j_iload_n F 2 dX5_needed_8 rfl ?_
    refine j_iload_n F 3 dX5_needed_9 rfl ?_
    obtain ⟨r10, hc10, hm⟩ := Option.bind_eq_some_iff.mp hm
    refine j_callS F (n := 3) (As := [.int v1, .int v2, .int v3]) (rest := []) (c_X5_rightOf l g hg v1 v2 v3 S r10 hc10) gw_X5_154 (by decide +kernel) ⟨Nat.le_of_ble_eq_true rfl, Nat.le_of_ble_eq_true rfl⟩ ⟨Nat.le_of_ble_eq_true rfl, Nat.le_of_ble_eq_true rfl⟩ rfl rfl (Nat.le_of_ble_eq_true rfl) dX5_needed_10 ?_
    show J p l e rmX5_needed s m args below meth c g A 8 (MQ below (QC g A (some (.int r)) S') args s 0 0 A) 0 0 13 [(0, .ref (g.2.1 0)), (1, .int v1), (2, .int v2), (3, .int v3)] [.int r10] S
    refine j_istore F (lv' := [(4, .int r10), (0, .ref (g.2.1 0)), (1, .int v1), (2, .int v2), (3, .int v3)]) dX5_needed_13 (by decide) rfl ?_
    refine j_aload_n F 1 dX5_needed_15 rfl ?_
    refine j_aload_n F 1 dX5_needed_16 rfl ?_
    refine j_getR F (k0 := 1) (C := RX5) (T := TX5) (N := 11) lay_0 rfl rfl inF5 (by decide) tw179 dX5_needed_17 ?_
    refine j_getI F (k0 := 2) (C := RX3) (T := TX3) (N := 4) (isSt_lay (i := 29) (by decide)).1 rfl rfl inF3 (by decide) tw208 dX5_needed_20 ?_
    refine j_iload F 0 dX5_needed_23 rfl ?_
    obtain ⟨r25, S25, hc25, hm⟩ := bndE_ok hm
    refine j_callV F (n := 2) (As := [.int (gI S 29 2), .int r10]) (rest := []) (c_X5_comesWith l g hg (gI S 29 2) r10 S r25 S25 hc25) gw_X5_212 (by decide +kernel) ⟨Nat.le_of_ble_eq_true rfl, Nat.le_of_ble_eq_true rfl⟩ ⟨Nat.le_of_ble_eq_true rfl, Nat.le_of_ble_eq_true rfl⟩ lay_0 rfl rfl rfl (Nat.le_of_ble_eq_true rfl) dX5_needed_25 ?_
    show J p l e rmX5_needed s m args below meth c g A 8 (MQ below (QC g A (some (.int r)) S') args s 0 0 A) 0 0 28 [(4, .int r10), (0, .ref (g.2.1 0)), (1, .int v1), (2, .int v2), (3, .int v3)] [.int r25] S25
    refine j_if_ne F (tgt := 34) dX5_needed_28 (by decide) hm (fun _ hm => ?_) (fun _ hm => ?_)
    · refine j_aload_n F 1 dX5_needed_34 rfl ?_
      refine j_getR F (k0 := 1) (C := RX5) (T := TX5) (N := 11) lay_0 rfl rfl inF5 (by decide) tw179 dX5_needed_35 ?_
      refine j_getI F (k0 := 2) (C := RX3) (T := TX3) (N := 4) (isSt_lay (i := 29) (by decide)).1 rfl rfl inF3 (by decide) tw208 dX5_needed_38 ?_
      refine j_bnd hm (fun v5_41 hm => ?_)
      refine j_istore F (lv' := [(5, .int v5_41), (4, .int r10), (0, .ref (g.2.1 0)), (1, .int v1), (2, .int v2), (3, .int v3)]) dX5_needed_41 (by decide) rfl ?_
      refine j_iconst F (v := 0) dX5_needed_43 (by decide) ?_
      refine j_istore F (lv' := [(6, .int 0), (5, .int v5_41), (4, .int r10), (0, .ref (g.2.1 0)), (1, .int v1), (2, .int v2), (3, .int v3)]) dX5_needed_44 (by decide) rfl ?_
      refine j_sub [3, 2, 1, 0] rfl ?_
      obtain ⟨y46, hlp46, hm⟩ := Option.bind_eq_some_iff.mp hm
      refine loopO_walk (fun x => m_X5_needed_L46 r10 x.1 x.2.1 x.2.2) (fun x => J p l e rmX5_needed s m args below meth c g A 8 (MQ below (QC g A (some (.int r)) S') args s 0 0 A) 0 0 46 [(0, .ref (g.2.1 0)), (4, .int r10), (5, .int x.1), (6, .int x.2.1)] [] x.2.2) (fun x => J p l e rmX5_needed s m args below meth c g A 8 (MQ below (QC g A (some (.int r)) S') args s 0 0 A) 0 0 115 [(5, .int x.1)] [] x.2) (fun x o1 hm hk1 => ?_) hlp46 ?_
      · obtain ⟨v5, v6, S⟩ := x
        replace hm : m_X5_needed_L46 r10 v5 v6 S = some o1 := hm
        show J p l e rmX5_needed s m args below meth c g A 8 (MQ below (QC g A (some (.int r)) S') args s 0 0 A) 0 0 46 [(0, .ref (g.2.1 0)), (4, .int r10), (5, .int v5), (6, .int v6)] [] S
        unfold m_X5_needed_L46 at hm
        have hj109 : ∀ (v5 : Int32) (v6 : Int32) (S : Hs), m_X5_needed_J109 r10 v5 v6 S = some o1 → J p l e rmX5_needed s m args below meth c g A 8 (MQ below (QC g A (some (.int r)) S') args s 0 0 A) 0 0 109 [(0, .ref (g.2.1 0)), (4, .int r10), (5, .int v5), (6, .int v6)] [] S := by
          intro v5 v6 S hm
          unfold m_X5_needed_J109 at hm
          refine j_iinc F (v := v6 + 1) (lv' := [(6, .int (v6 + 1)), (0, .ref (g.2.1 0)), (4, .int r10), (5, .int v5)]) 3 dX5_needed_109 rfl rfl (by decide) rfl ?_
          refine j_goto F (tgt := 46) dX5_needed_112 (by decide) ?_
          cases hm
          refine j_sub [1, 2, 3, 0] rfl ?_
          exact hk1
        have hj74 : ∀ (v5 : Int32) (v6 : Int32) (w0 : Int32) (S : Hs), m_X5_needed_J74 r10 v5 v6 w0 S = some o1 → J p l e rmX5_needed s m args below meth c g A 8 (MQ below (QC g A (some (.int r)) S') args s 0 0 A) 0 0 74 [(0, .ref (g.2.1 0)), (4, .int r10), (5, .int v5), (6, .int v6)] [.int w0] S := by
          intro v5 v6 w0 S hm
          unfold m_X5_needed_J74 at hm
          refine j_istore F (lv' := [(7, .int w0), (0, .ref (g.2.1 0)), (4, .int r10), (5, .int v5), (6, .int v6)]) dX5_needed_74 (by decide) rfl ?_
          refine j_iload F 0 dX5_needed_76 rfl ?_
          refine j_if_eq F (tgt := 109) dX5_needed_78 (by decide) hm (fun _ hm => ?_) (fun _ hm => ?_)
          · refine j_sub [1, 2, 3, 4] rfl ?_
            exact hj109 v5 v6 S  hm
          · refine j_iload F 4 dX5_needed_81 rfl ?_
            obtain ⟨r83, hc83, hm⟩ := Option.bind_eq_some_iff.mp hm
            refine j_callS F (n := 1) (As := [.int v6]) (rest := []) (c_J6_bitCount_0f7a4 l g hg v6 S r83 hc83) gw_X5_100 (by decide +kernel) ⟨Nat.le_of_ble_eq_true rfl, Nat.le_of_ble_eq_true rfl⟩ ⟨Nat.le_of_ble_eq_true rfl, Nat.le_of_ble_eq_true rfl⟩ rfl rfl (Nat.le_of_ble_eq_true rfl) dX5_needed_83 ?_
            show J p l e rmX5_needed s m args below meth c g A 8 (MQ below (QC g A (some (.int r)) S') args s 0 0 A) 0 0 86 [(7, .int w0), (0, .ref (g.2.1 0)), (4, .int r10), (5, .int v5), (6, .int v6)] [.int r83] S
            refine j_iload F 3 dX5_needed_86 rfl ?_
            obtain ⟨r88, hc88, hm⟩ := Option.bind_eq_some_iff.mp hm
            refine j_callS F (n := 1) (As := [.int v5]) (rest := [.int r83]) (c_J6_bitCount_0f7a4 l g hg v5 S r88 hc88) gw_X5_100 (by decide +kernel) ⟨Nat.le_of_ble_eq_true rfl, Nat.le_of_ble_eq_true rfl⟩ ⟨Nat.le_of_ble_eq_true rfl, Nat.le_of_ble_eq_true rfl⟩ rfl rfl (Nat.le_of_ble_eq_true rfl) dX5_needed_88 ?_
            show J p l e rmX5_needed s m args below meth c g A 8 (MQ below (QC g A (some (.int r)) S') args s 0 0 A) 0 0 91 [(7, .int w0), (0, .ref (g.2.1 0)), (4, .int r10), (5, .int v5), (6, .int v6)] [.int r88, .int r83] S
            refine j_icmp_ge F (tgt := 109) dX5_needed_91 (by decide) hm (fun _ hm => ?_) (fun _ hm => ?_)
            · refine j_sub [1, 2, 3, 4] rfl ?_
              exact hj109 v5 v6 S  hm
            · refine j_aload_n F 1 dX5_needed_94 rfl ?_
              refine j_iload F 4 dX5_needed_95 rfl ?_
              refine j_iload F 2 dX5_needed_97 rfl ?_
              obtain ⟨r99, S99, hc99, hm⟩ := bndE_ok hm
              refine j_callV F (n := 2) (As := [.int v6, .int r10]) (rest := []) (c_X5_comesWith l g hg v6 r10 S r99 S99 hc99) gw_X5_212 (by decide +kernel) ⟨Nat.le_of_ble_eq_true rfl, Nat.le_of_ble_eq_true rfl⟩ ⟨Nat.le_of_ble_eq_true rfl, Nat.le_of_ble_eq_true rfl⟩ lay_0 rfl rfl rfl (Nat.le_of_ble_eq_true rfl) dX5_needed_99 ?_
              show J p l e rmX5_needed s m args below meth c g A 8 (MQ below (QC g A (some (.int r)) S') args s 0 0 A) 0 0 102 [(7, .int w0), (0, .ref (g.2.1 0)), (4, .int r10), (5, .int v5), (6, .int v6)] [.int r99] S99
              refine j_if_eq F (tgt := 109) dX5_needed_102 (by decide) hm (fun _ hm => ?_) (fun _ hm => ?_)
              · refine j_sub [1, 2, 3, 4] rfl ?_
                exact hj109 v5 v6 S99  hm
              · refine j_iload F 4 dX5_needed_105 rfl ?_
                refine j_istore F (lv' := [(5, .int v6), (7, .int w0), (0, .ref (g.2.1 0)), (4, .int r10), (6, .int v6)]) dX5_needed_107 (by decide) rfl ?_
                refine j_sub [2, 3, 0, 4] rfl ?_
                exact hj109 v6 v6 S99  hm
        refine j_iload F 3 dX5_needed_46 rfl ?_
        refine j_sipush F (v := 128) dX5_needed_48 (by decide) ?_
        refine j_icmp_ge F (tgt := 115) dX5_needed_51 (by decide) hm (fun _ hm => ?_) (fun _ hm => ?_)
        · cases hm
          refine j_sub [2] rfl ?_
          exact hk1
        · refine j_iload F 3 dX5_needed_54 rfl ?_
          refine j_aload_n F 0 dX5_needed_56 rfl ?_
          refine j_getR F (k0 := 1) (C := RX5) (T := TX5) (N := 11) lay_0 rfl rfl inF5 (by decide) tw179 dX5_needed_57 ?_
          refine j_getI F (k0 := 2) (C := RX3) (T := TX3) (N := 4) (isSt_lay (i := 29) (by decide)).1 rfl rfl inF3 (by decide) tw208 dX5_needed_60 ?_
          refine j_iconst F (v := -1) dX5_needed_63 (by decide) ?_
          refine j_ixor F dX5_needed_64 ?_
          refine j_iand F dX5_needed_65 ?_
          refine j_if_ne F (tgt := 73) dX5_needed_66 (by decide) hm (fun _ hm => ?_) (fun _ hm => ?_)
          · refine j_iconst F (v := 0) dX5_needed_73 (by decide) ?_
            refine j_sub [0, 1, 2, 3] rfl ?_
            exact hj74 v5 v6 0 S  hm
          · refine j_iconst F (v := 1) dX5_needed_69 (by decide) ?_
            refine j_goto F (tgt := 74) dX5_needed_70 (by decide) ?_
            refine j_sub [0, 1, 2, 3] rfl ?_
            exact hj74 v5 v6 1 S  hm
      · show J p l e rmX5_needed s m args below meth c g A 8 (MQ below (QC g A (some (.int r)) S') args s 0 0 A) 0 0 115 [(5, .int y46.1)] [] y46.2
        refine j_iload F 0 dX5_needed_115 rfl ?_
        exact j_iret_e F rfl dX5_needed_117 (inl_e hm)
    · refine j_bipush F (v := -9) dX5_needed_31 (by decide) ?_
      exact j_iret_e F rfl dX5_needed_33 (inl_e hm)
  · cases hm
noncomputable def m_X5_cut (v1 : Int32) (v2 : Int32) (v3 : Int32) (S : Hs) : Option ((Int32 ⊕ Nat) × Hs) := bndP (m_X5_checkRight v1 v2 v3 S) (fun r4 => ((m_X5_rightOf v1 v2 v3).bind fun r22 => (bndE (m_X0_sizeFor 29 r22 S) fun r25 S25 => (some ((.inl r25, S25)))))) (fun q => some ((.inr q, S)))
set_option maxRecDepth 100000 in
set_option maxHeartbeats 4000000 in
theorem c_X5_cut (l : Launch) (g : GG) (hg : Inj g) (v1 : Int32) (v2 : Int32) (v3 : Int32)  (S : Hs) (r : Int32) (S' : Hs) (hm : m_X5_cut v1 v2 v3 S = some ((.inl r, S'))) : CM l yX5_cut [.code yX5_cut cX5_cut 4 (some .int)] rmX5_cut [.ref (g.2.1 0), .int v1, .int v2, .int v3] g S (some (.int r)) S' := by
  unfold m_X5_cut at hm
  refine CM.of (cc := cX5_cut) (nL := 4) (ret := (some .int)) (lv := [(0, .ref (g.2.1 0)), (1, .int v1), (2, .int v2), (3, .int v3)]) (by decide +kernel) hg (Nat.le_of_ble_eq_true rfl) rfl (fun p e s m args below meth c A F => ?_)
  replace F : Fx p s m meth c cX5_cut RX5 4 (some .int) g A := F
  show J p l e rmX5_cut s m args below meth c g A 4 (MQ below (QC g A (some (.int r)) S') args s 0 0 A) 0 0 0 [(0, .ref (g.2.1 0)), (1, .int v1), (2, .int v2), (3, .int v3)] [] S
  refine j_aload_n F 0 dX5_cut_0 rfl ?_
  refine j_iload_n F 1 dX5_cut_1 rfl ?_
  refine j_iload_n F 2 dX5_cut_2 rfl ?_
  refine j_iload_n F 3 dX5_cut_3 rfl ?_
  refine bndP_ok hm (fun r4 hc4 hm => ?_) (fun q hc4 hm => ?_)
  · refine j_callV F (n := 3) (As := [.int v1, .int v2, .int v3]) (rest := []) (c_X5_checkRight l g hg v1 v2 v3 S hc4) gw_X5_150 (by decide +kernel) ⟨Nat.le_of_ble_eq_true rfl, Nat.le_of_ble_eq_true rfl⟩ ⟨Nat.le_of_ble_eq_true rfl, Nat.le_of_ble_eq_true rfl⟩ lay_0 rfl rfl rfl (Nat.le_of_ble_eq_true rfl) dX5_cut_4 ?_
    show J p l e rmX5_cut s m args below meth c g A 4 (MQ below (QC g A (some (.int r)) S') args s 0 0 A) 0 0 7 [(0, .ref (g.2.1 0)), (1, .int v1), (2, .int v2), (3, .int v3)] [] S
    refine j_aload_n F 0 dX5_cut_7 rfl ?_
    refine j_getR F (k0 := 10) (C := RX5) (T := TX5) (N := 11) lay_0 rfl rfl inF5 (by decide) tw193 dX5_cut_8 ?_
    refine j_aload_n F 0 dX5_cut_11 rfl ?_
    refine j_getR F (k0 := 1) (C := RX5) (T := TX5) (N := 11) lay_0 rfl rfl inF5 (by decide) tw179 dX5_cut_12 ?_
    refine j_aload_n F 0 dX5_cut_15 rfl ?_
    refine j_getR F (k0 := 8) (C := RX5) (T := TX5) (N := 11) lay_0 rfl rfl inF5 (by decide) tw187 dX5_cut_16 ?_
    refine j_iload_n F 1 dX5_cut_19 rfl ?_
    refine j_iload_n F 2 dX5_cut_20 rfl ?_
    refine j_iload_n F 3 dX5_cut_21 rfl ?_
    obtain ⟨r22, hc22, hm⟩ := Option.bind_eq_some_iff.mp hm
    refine j_callS F (n := 3) (As := [.int v1, .int v2, .int v3]) (rest := [.ref (g.2.1 6), .ref (g.2.1 29), .ref (g.2.1 12)]) (c_X5_rightOf l g hg v1 v2 v3 S r22 hc22) gw_X5_154 (by decide +kernel) ⟨Nat.le_of_ble_eq_true rfl, Nat.le_of_ble_eq_true rfl⟩ ⟨Nat.le_of_ble_eq_true rfl, Nat.le_of_ble_eq_true rfl⟩ rfl rfl (Nat.le_of_ble_eq_true rfl) dX5_cut_22 ?_
    show J p l e rmX5_cut s m args below meth c g A 4 (MQ below (QC g A (some (.int r)) S') args s 0 0 A) 0 0 25 [(0, .ref (g.2.1 0)), (1, .int v1), (2, .int v2), (3, .int v3)] [.int r22, .ref (g.2.1 6), .ref (g.2.1 29), .ref (g.2.1 12)] S
    obtain ⟨r25, S25, hc25, hm⟩ := bndE_ok hm
    refine j_callV F (n := 3) (As := [.ref (g.2.1 29), .ref (g.2.1 6), .int r22]) (rest := []) (c_X0_sizeFor l g hg 29 r22 (by decide) S r25 S25 hc25) gw_X5_216 (by decide +kernel) ⟨Nat.le_of_ble_eq_true rfl, Nat.le_of_ble_eq_true rfl⟩ ⟨Nat.le_of_ble_eq_true rfl, Nat.le_of_ble_eq_true rfl⟩ lay_12 rfl rfl rfl (Nat.le_of_ble_eq_true rfl) dX5_cut_25 ?_
    show J p l e rmX5_cut s m args below meth c g A 4 (MQ below (QC g A (some (.int r)) S') args s 0 0 A) 0 0 28 [(0, .ref (g.2.1 0)), (1, .int v1), (2, .int v2), (3, .int v3)] [.int r25] S25
    exact j_iret_e F rfl dX5_cut_28 (inl_e hm)
  · cases hm
def m_X5_cutAt_J18 (S : Hs) : Option ((Int32 ⊕ Nat) × Hs) := some ((.inr 1, S))
def m_X5_cutAt_J83 (w0 : Int32) (S : Hs) : Option ((Int32 ⊕ Nat) × Hs) := (m_X5_numberOf w0).bind fun r83 => (some ((.inl r83, S)))
noncomputable def m_X5_cutAt (v1 : Int32) (v2 : Int32) (v3 : Int32) (v4 : Int32) (S : Hs) : Option ((Int32 ⊕ Nat) × Hs) := bndP (m_X5_checkRight v1 v2 v3 S) (fun r4 => (if v4 < 0 then (m_X5_cutAt_J18 S) else (if v4 ≤ 1 then ((m_X5_rightOf v1 v2 v3).bind fun r43 => (bndE (m_X0_sizeFor 29 r43 S) fun r46 S46 => (if v4 < r46 then (if v4 = 0 then (m_X5_cutAt_J83 (gI S46 12 0) S46) else (m_X5_cutAt_J83 (gI S46 12 1) S46)) else (some ((.inl ((-9)), S46)))))) else (m_X5_cutAt_J18 S)))) (fun q => some ((.inr q, S)))
set_option maxRecDepth 100000 in
set_option maxHeartbeats 4000000 in
theorem c_X5_cutAt (l : Launch) (g : GG) (hg : Inj g) (v1 : Int32) (v2 : Int32) (v3 : Int32) (v4 : Int32)  (S : Hs) (r : Int32) (S' : Hs) (hm : m_X5_cutAt v1 v2 v3 v4 S = some ((.inl r, S'))) : CM l yX5_cutAt [.code yX5_cutAt cX5_cutAt 6 (some .int)] rmX5_cutAt [.ref (g.2.1 0), .int v1, .int v2, .int v3, .int v4] g S (some (.int r)) S' := by
  unfold m_X5_cutAt at hm
  refine CM.of (cc := cX5_cutAt) (nL := 6) (ret := (some .int)) (lv := [(0, .ref (g.2.1 0)), (1, .int v1), (2, .int v2), (3, .int v3), (4, .int v4)]) (by decide +kernel) hg (Nat.le_of_ble_eq_true rfl) rfl (fun p e s m args below meth c A F => ?_)
  replace F : Fx p s m meth c cX5_cutAt RX5 6 (some .int) g A := F
  show J p l e rmX5_cutAt s m args below meth c g A 6 (MQ below (QC g A (some (.int r)) S') args s 0 0 A) 0 0 0 [(0, .ref (g.2.1 0)), (1, .int v1), (2, .int v2), (3, .int v3), (4, .int v4)] [] S
  have hj18 : ∀ (S : Hs), m_X5_cutAt_J18 S = some ((.inl r, S')) → J p l e rmX5_cutAt s m args below meth c g A 6 (MQ below (QC g A (some (.int r)) S') args s 0 0 A) 0 0 18 [] [] S := by
    intro S hm
    unfold m_X5_cutAt_J18 at hm
    cases hm
  have hj83 : ∀ (w0 : Int32) (S : Hs), m_X5_cutAt_J83 w0 S = some ((.inl r, S')) → J p l e rmX5_cutAt s m args below meth c g A 6 (MQ below (QC g A (some (.int r)) S') args s 0 0 A) 0 0 83 [] [.int w0] S := by
    intro w0 S hm
    unfold m_X5_cutAt_J83 at hm
    obtain ⟨r83, hc83, hm⟩ := Option.bind_eq_some_iff.mp hm
    refine j_callS F (n := 1) (As := [.int w0]) (rest := []) (c_X5_numberOf l g hg w0 S r83 hc83) gw_X5_228 (by decide +kernel) ⟨Nat.le_of_ble_eq_true rfl, Nat.le_of_ble_eq_true rfl⟩ ⟨Nat.le_of_ble_eq_true rfl, Nat.le_of_ble_eq_true rfl⟩ rfl rfl (Nat.le_of_ble_eq_true rfl) dX5_cutAt_83 ?_
    show J p l e rmX5_cutAt s m args below meth c g A 6 (MQ below (QC g A (some (.int r)) S') args s 0 0 A) 0 0 86 [] [.int r83] S
    exact j_iret_e F rfl dX5_cutAt_86 (inl_e hm)
  refine j_aload_n F 0 dX5_cutAt_0 rfl ?_
  refine j_iload_n F 1 dX5_cutAt_1 rfl ?_
  refine j_iload_n F 2 dX5_cutAt_2 rfl ?_
  refine j_iload_n F 3 dX5_cutAt_3 rfl ?_
  refine bndP_ok hm (fun r4 hc4 hm => ?_) (fun q hc4 hm => ?_)
  · refine j_callV F (n := 3) (As := [.int v1, .int v2, .int v3]) (rest := []) (c_X5_checkRight l g hg v1 v2 v3 S hc4) gw_X5_150 (by decide +kernel) ⟨Nat.le_of_ble_eq_true rfl, Nat.le_of_ble_eq_true rfl⟩ ⟨Nat.le_of_ble_eq_true rfl, Nat.le_of_ble_eq_true rfl⟩ lay_0 rfl rfl rfl (Nat.le_of_ble_eq_true rfl) dX5_cutAt_4 ?_
    show J p l e rmX5_cutAt s m args below meth c g A 6 (MQ below (QC g A (some (.int r)) S') args s 0 0 A) 0 0 7 [(0, .ref (g.2.1 0)), (1, .int v1), (2, .int v2), (3, .int v3), (4, .int v4)] [] S
    refine j_iload F 4 dX5_cutAt_7 rfl ?_
    refine j_if_lt F (tgt := 18) dX5_cutAt_9 (by decide) hm (fun _ hm => ?_) (fun _ hm => ?_)
    · refine j_sub [] rfl ?_
      exact hj18 S  hm
    · refine j_iload F 4 dX5_cutAt_12 rfl ?_
      refine j_iconst F (v := 1) dX5_cutAt_14 (by decide) ?_
      refine j_icmp_le F (tgt := 28) dX5_cutAt_15 (by decide) hm (fun _ hm => ?_) (fun _ hm => ?_)
      · refine j_aload_n F 0 dX5_cutAt_28 rfl ?_
        refine j_getR F (k0 := 10) (C := RX5) (T := TX5) (N := 11) lay_0 rfl rfl inF5 (by decide) tw193 dX5_cutAt_29 ?_
        refine j_aload_n F 0 dX5_cutAt_32 rfl ?_
        refine j_getR F (k0 := 1) (C := RX5) (T := TX5) (N := 11) lay_0 rfl rfl inF5 (by decide) tw179 dX5_cutAt_33 ?_
        refine j_aload_n F 0 dX5_cutAt_36 rfl ?_
        refine j_getR F (k0 := 8) (C := RX5) (T := TX5) (N := 11) lay_0 rfl rfl inF5 (by decide) tw187 dX5_cutAt_37 ?_
        refine j_iload_n F 1 dX5_cutAt_40 rfl ?_
        refine j_iload_n F 2 dX5_cutAt_41 rfl ?_
        refine j_iload_n F 3 dX5_cutAt_42 rfl ?_
        obtain ⟨r43, hc43, hm⟩ := Option.bind_eq_some_iff.mp hm
        refine j_callS F (n := 3) (As := [.int v1, .int v2, .int v3]) (rest := [.ref (g.2.1 6), .ref (g.2.1 29), .ref (g.2.1 12)]) (c_X5_rightOf l g hg v1 v2 v3 S r43 hc43) gw_X5_154 (by decide +kernel) ⟨Nat.le_of_ble_eq_true rfl, Nat.le_of_ble_eq_true rfl⟩ ⟨Nat.le_of_ble_eq_true rfl, Nat.le_of_ble_eq_true rfl⟩ rfl rfl (Nat.le_of_ble_eq_true rfl) dX5_cutAt_43 ?_
        show J p l e rmX5_cutAt s m args below meth c g A 6 (MQ below (QC g A (some (.int r)) S') args s 0 0 A) 0 0 46 [(0, .ref (g.2.1 0)), (1, .int v1), (2, .int v2), (3, .int v3), (4, .int v4)] [.int r43, .ref (g.2.1 6), .ref (g.2.1 29), .ref (g.2.1 12)] S
        obtain ⟨r46, S46, hc46, hm⟩ := bndE_ok hm
        refine j_callV F (n := 3) (As := [.ref (g.2.1 29), .ref (g.2.1 6), .int r43]) (rest := []) (c_X0_sizeFor l g hg 29 r43 (by decide) S r46 S46 hc46) gw_X5_216 (by decide +kernel) ⟨Nat.le_of_ble_eq_true rfl, Nat.le_of_ble_eq_true rfl⟩ ⟨Nat.le_of_ble_eq_true rfl, Nat.le_of_ble_eq_true rfl⟩ lay_12 rfl rfl rfl (Nat.le_of_ble_eq_true rfl) dX5_cutAt_46 ?_
        show J p l e rmX5_cutAt s m args below meth c g A 6 (MQ below (QC g A (some (.int r)) S') args s 0 0 A) 0 0 49 [(0, .ref (g.2.1 0)), (1, .int v1), (2, .int v2), (3, .int v3), (4, .int v4)] [.int r46] S46
        refine j_istore F (lv' := [(5, .int r46), (0, .ref (g.2.1 0)), (1, .int v1), (2, .int v2), (3, .int v3), (4, .int v4)]) dX5_cutAt_49 (by decide) rfl ?_
        refine j_iload F 5 dX5_cutAt_51 rfl ?_
        refine j_iload F 0 dX5_cutAt_53 rfl ?_
        refine j_icmp_lt F (tgt := 61) dX5_cutAt_55 (by decide) hm (fun _ hm => ?_) (fun _ hm => ?_)
        · refine j_iload F 5 dX5_cutAt_61 rfl ?_
          refine j_if_ne F (tgt := 76) dX5_cutAt_63 (by decide) hm (fun _ hm => ?_) (fun _ hm => ?_)
          · refine j_aload_n F 1 dX5_cutAt_76 rfl ?_
            refine j_getR F (k0 := 10) (C := RX5) (T := TX5) (N := 11) lay_0 rfl rfl inF5 (by decide) tw193 dX5_cutAt_77 ?_
            refine j_getI F (k0 := 1) (C := RX0) (T := TX0) (N := 3) lay_12 rfl rfl inF0 (by decide) tw293 dX5_cutAt_80 ?_
            refine j_sub [] rfl ?_
            exact hj83 (gI S46 12 1) S46  hm
          · refine j_aload_n F 1 dX5_cutAt_66 rfl ?_
            refine j_getR F (k0 := 10) (C := RX5) (T := TX5) (N := 11) lay_0 rfl rfl inF5 (by decide) tw193 dX5_cutAt_67 ?_
            refine j_getI F (k0 := 0) (C := RX0) (T := TX0) (N := 3) lay_12 rfl rfl inF0 (by decide) tw292 dX5_cutAt_70 ?_
            refine j_goto F (tgt := 83) dX5_cutAt_73 (by decide) ?_
            refine j_sub [] rfl ?_
            exact hj83 (gI S46 12 0) S46  hm
        · refine j_bipush F (v := -9) dX5_cutAt_58 (by decide) ?_
          exact j_iret_e F rfl dX5_cutAt_60 (inl_e hm)
      · refine j_sub [] rfl ?_
        exact hj18 S  hm
  · cases hm
