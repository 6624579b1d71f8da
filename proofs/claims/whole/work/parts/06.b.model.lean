noncomputable def m_X6_thing_J112 (v1 : Int32) (w0 : Int32) (S : Hs) : Option (Int32 × Hs) := (m_X6_learn w0 S).bind fun S112 => (gd (inb v1 7) (some ((gA S112 24 v1.toNatClampNeg, S112))))
noncomputable def m_X6_thing_J101 (v1 : Int32) (v2 : Int32) (S : Hs) : Option (Int32 × Hs) := if v2 = 5 then (m_X6_thing_J112 v1 1 S) else (m_X6_thing_J112 v1 0 S)
def m_X6_thing_J203 (v1 : Int32) (v2 : Int32) (v4 : Int32) (w0 : Int32) (w1 : Int32) (S : Hs) : Option ((Int32 × Int32) ⊕ Int32) := bnd (w1 + w0) fun v3_204 => (some (.inl ((v3_204, v4 + 1))))
noncomputable def m_X6_thing_L127 (v1 : Int32) (v2 : Int32) (S : Hs) (v3 : Int32) (v4 : Int32) : Option ((Int32 × Int32) ⊕ Int32) := gd (inb 0 57) (if (gA S 14 (0 : Int32).toNatClampNeg) ≤ v4 then (some (.inr v3)) else (if v2 = 2 then ((m_X6_at v1 v4).bind fun r153 => (gd (inb (8 + r153) 57) ((m_X6_bits (gA S 14 (8 + r153).toNatClampNeg)).bind fun r158 => (m_X6_thing_J203 v1 v2 v4 r158 v3 S)))) else (if v2 = 3 then ((m_X6_at v4 v1).bind fun r178 => (gd (inb (8 + r178) 57) ((m_X6_bits (gA S 14 (8 + r178).toNatClampNeg)).bind fun r183 => (m_X6_thing_J203 v1 v2 v4 r183 v3 S)))) else ((m_X6_at v1 v4).bind fun r196 => (gd (inb r196 49) ((m_X6_bits (gA S 20 r196.toNatClampNeg)).bind fun r200 => (m_X6_thing_J203 v1 v2 v4 r200 v3 S)))))))
def m_X6_thing_J82 (w0 : Int32) (S : Hs) : Option (Int32 × Hs) := some ((w0, S))
noncomputable def m_X6_thing_J28 (v1 : Int32) (v2 : Int32) (w0 : Int32) (S : Hs) : Option (Int32 × Hs) := bnd (sI S 13 0 w0) fun S28 => (if (gI S28 13 0) ≤ 0 then (if 2 ≤ v2 then ((m_X6_awakeSet  S28).bind fun r85 => ((m_X6_spread r85 S28).bind fun S88 => (if v2 = 4 then (m_X6_thing_J101 v1 v2 S88) else (if v2 = 5 then (m_X6_thing_J101 v1 v2 S88) else ((loopO (fun x => m_X6_thing_L127 v1 v2 S88 x.1 x.2) ((0, 0))).bind fun y127 => some ((y127, S88))))))) else (if v2 = 0 then ((m_X6_isPerson v1 S28).bind fun r51 => (if r51 = 0 then (m_X6_thing_J82 0 S28) else (m_X6_thing_J82 1 S28))) else (gd (inb (1 + v1) 57) (if (gA S28 14 (1 + v1).toNatClampNeg) = 1 then (m_X6_thing_J82 1 S28) else (m_X6_thing_J82 0 S28))))) else (some ((0, S28))))
noncomputable def m_X6_thing (v1 : Int32) (v2 : Int32) (S : Hs) : Option (Int32 × Hs) := (m_X6_isThing v1 S).bind fun r3 => (if r3 = 0 then (m_X6_thing_J28 v1 v2 1 S) else ((m_X6_in v2 0 6).bind fun r17 => (if r17 = 0 then (m_X6_thing_J28 v1 v2 2 S) else (m_X6_thing_J28 v1 v2 0 S))))
set_option maxRecDepth 100000 in
set_option maxHeartbeats 4000000 in
theorem c_X6_thing (l : Launch) (g : GG) (hg : Inj g) (v1 : Int32) (v2 : Int32)  (S : Hs) (r : Int32) (S' : Hs) (hm : m_X6_thing v1 v2 S = some ((r, S'))) : CM l yX6_thing [.code yX6_thing cX6_thing 5 (some .int)] rmX6_thing [.ref (g.2.1 13), .int v1, .int v2] g S (some (.int r)) S' := by
  unfold m_X6_thing at hm
  refine CM.of (cc := cX6_thing) (nL := 5) (ret := (some .int)) (lv := [(0, .ref (g.2.1 13)), (1, .int v1), (2, .int v2)]) (by decide +kernel) hg (Nat.le_of_ble_eq_true rfl) rfl (fun p e s m args below meth c A F => ?_)
  replace F : Fx p s m meth c cX6_thing RX6 5 (some .int) g A := F
  show J p l e rmX6_thing s m args below meth c g A 5 (MQ below (QC g A (some (.int r)) S') args s 0 0 A) 0 0 0 [(0, .ref (g.2.1 13)), (1, .int v1), (2, .int v2)] [] S
  have hj112 : ∀ (v1 : Int32) (w0 : Int32) (S : Hs), m_X6_thing_J112 v1 w0 S = some ((r, S')) → J p l e rmX6_thing s m args below meth c g A 5 (MQ below (QC g A (some (.int r)) S') args s 0 0 A) 0 0 112 [(0, .ref (g.2.1 13)), (1, .int v1)] [.int w0, .ref (g.2.1 13)] S := by
    intro v1 w0 S hm
    unfold m_X6_thing_J112 at hm
    obtain ⟨S112, hc112, hm⟩ := Option.bind_eq_some_iff.mp hm
    refine j_callV F (n := 1) (As := [.int w0]) (rest := []) (c_X6_learn l g hg w0 S S112 hc112) gw_X6_100 (by decide +kernel) ⟨Nat.le_of_ble_eq_true rfl, Nat.le_of_ble_eq_true rfl⟩ ⟨Nat.le_of_ble_eq_true rfl, Nat.le_of_ble_eq_true rfl⟩ rfl rfl rfl rfl (Nat.le_of_ble_eq_true rfl) dX6_thing_112 ?_
    show J p l e rmX6_thing s m args below meth c g A 5 (MQ below (QC g A (some (.int r)) S') args s 0 0 A) 0 0 115 [(0, .ref (g.2.1 13)), (1, .int v1)] [] S112
    refine j_aload_n F 0 dX6_thing_115 rfl ?_
    refine j_getR F (k0 := 14) (C := RX6) (T := TX6) (N := 20) rfl rfl rfl inF6 (by decide) tw530 dX6_thing_116 ?_
    refine j_iload_n F 1 dX6_thing_119 rfl ?_
    refine j_iald F rfl dX6_thing_120 hm (fun hm => ?_)
    exact j_iret_e F rfl dX6_thing_121 hm
  have hj101 : ∀ (v1 : Int32) (v2 : Int32) (S : Hs), m_X6_thing_J101 v1 v2 S = some ((r, S')) → J p l e rmX6_thing s m args below meth c g A 5 (MQ below (QC g A (some (.int r)) S') args s 0 0 A) 0 0 101 [(0, .ref (g.2.1 13)), (1, .int v1), (2, .int v2)] [] S := by
    intro v1 v2 S hm
    unfold m_X6_thing_J101 at hm
    refine j_aload_n F 0 dX6_thing_101 rfl ?_
    refine j_iload_n F 2 dX6_thing_102 rfl ?_
    refine j_iconst F (v := 5) dX6_thing_103 (by decide) ?_
    refine j_icmp_ne F (tgt := 111) dX6_thing_104 (by decide) hm (fun _ hm => ?_) (fun _ hm => ?_)
    · refine j_iconst F (v := 0) dX6_thing_111 (by decide) ?_
      refine j_sub [0, 1] rfl ?_
      exact hj112 v1 0 S  hm
    · refine j_iconst F (v := 1) dX6_thing_107 (by decide) ?_
      refine j_goto F (tgt := 112) dX6_thing_108 (by decide) ?_
      refine j_sub [0, 1] rfl ?_
      exact hj112 v1 1 S  hm
  have hj82 : ∀ (w0 : Int32) (S : Hs), m_X6_thing_J82 w0 S = some ((r, S')) → J p l e rmX6_thing s m args below meth c g A 5 (MQ below (QC g A (some (.int r)) S') args s 0 0 A) 0 0 82 [] [.int w0] S := by
    intro w0 S hm
    unfold m_X6_thing_J82 at hm
    exact j_iret_e F rfl dX6_thing_82 hm
  have hj28 : ∀ (v1 : Int32) (v2 : Int32) (w0 : Int32) (S : Hs), m_X6_thing_J28 v1 v2 w0 S = some ((r, S')) → J p l e rmX6_thing s m args below meth c g A 5 (MQ below (QC g A (some (.int r)) S') args s 0 0 A) 0 0 28 [(0, .ref (g.2.1 13)), (1, .int v1), (2, .int v2)] [.int w0, .ref (g.2.1 13)] S := by
    intro v1 v2 w0 S hm
    unfold m_X6_thing_J28 at hm
    refine j_putI F (k0 := 0) (C := RX6) (T := TX6) (N := 20) tyX6 tyX6_ok nmX6 rfl rfl rfl inF6 (by decide) tw535 rfl (by decide +kernel) dX6_thing_28 ?_
    refine j_bndS hm (fun S28 hm => ?_)
    refine j_aload_n F 0 dX6_thing_31 rfl ?_
    refine j_getI F (k0 := 0) (C := RX6) (T := TX6) (N := 20) rfl rfl rfl inF6 (by decide) tw535 dX6_thing_32 ?_
    refine j_if_le F (tgt := 40) dX6_thing_35 (by decide) hm (fun _ hm => ?_) (fun _ hm => ?_)
    · refine j_iload_n F 2 dX6_thing_40 rfl ?_
      refine j_iconst F (v := 2) dX6_thing_41 (by decide) ?_
      refine j_icmp_ge F (tgt := 83) dX6_thing_42 (by decide) hm (fun _ hm => ?_) (fun _ hm => ?_)
      · refine j_aload_n F 0 dX6_thing_83 rfl ?_
        refine j_aload_n F 0 dX6_thing_84 rfl ?_
        obtain ⟨r85, hc85, hm⟩ := Option.bind_eq_some_iff.mp hm
        refine j_callV F (n := 0) (As := []) (rest := [.ref (g.2.1 13)]) (c_X6_awakeSet l g hg S28 r85 hc85) gw_X6_125 (by decide +kernel) ⟨Nat.le_of_ble_eq_true rfl, Nat.le_of_ble_eq_true rfl⟩ ⟨Nat.le_of_ble_eq_true rfl, Nat.le_of_ble_eq_true rfl⟩ rfl rfl rfl rfl (Nat.le_of_ble_eq_true rfl) dX6_thing_85 ?_
        show J p l e rmX6_thing s m args below meth c g A 5 (MQ below (QC g A (some (.int r)) S') args s 0 0 A) 0 0 88 [(0, .ref (g.2.1 13)), (1, .int v1), (2, .int v2)] [.int r85, .ref (g.2.1 13)] S28
        obtain ⟨S88, hc88, hm⟩ := Option.bind_eq_some_iff.mp hm
        refine j_callV F (n := 1) (As := [.int r85]) (rest := []) (c_X6_spread l g hg r85 S28 S88 hc88) gw_X6_128 (by decide +kernel) ⟨Nat.le_of_ble_eq_true rfl, Nat.le_of_ble_eq_true rfl⟩ ⟨Nat.le_of_ble_eq_true rfl, Nat.le_of_ble_eq_true rfl⟩ rfl rfl rfl rfl (Nat.le_of_ble_eq_true rfl) dX6_thing_88 ?_
        show J p l e rmX6_thing s m args below meth c g A 5 (MQ below (QC g A (some (.int r)) S') args s 0 0 A) 0 0 91 [(0, .ref (g.2.1 13)), (1, .int v1), (2, .int v2)] [] S88
        refine j_iload_n F 2 dX6_thing_91 rfl ?_
        refine j_iconst F (v := 4) dX6_thing_92 (by decide) ?_
        refine j_icmp_eq F (tgt := 101) dX6_thing_93 (by decide) hm (fun _ hm => ?_) (fun _ hm => ?_)
        · refine j_sub [0, 1, 2] rfl ?_
          exact hj101 v1 v2 S88  hm
        · refine j_iload_n F 2 dX6_thing_96 rfl ?_
          refine j_iconst F (v := 5) dX6_thing_97 (by decide) ?_
          refine j_icmp_ne F (tgt := 122) dX6_thing_98 (by decide) hm (fun _ hm => ?_) (fun _ hm => ?_)
          · refine j_iconst F (v := 0) dX6_thing_122 (by decide) ?_
            refine j_istore_n F (lv' := [(3, .int 0), (0, .ref (g.2.1 13)), (1, .int v1), (2, .int v2)]) dX6_thing_123 (by decide) rfl ?_
            refine j_iconst F (v := 0) dX6_thing_124 (by decide) ?_
            refine j_istore F (lv' := [(4, .int 0), (3, .int 0), (0, .ref (g.2.1 13)), (1, .int v1), (2, .int v2)]) dX6_thing_125 (by decide) rfl ?_
            refine j_sub [2, 3, 4, 1, 0] rfl ?_
            obtain ⟨y127, hlp127, hm⟩ := Option.bind_eq_some_iff.mp hm
            refine loopO_walk (fun x => m_X6_thing_L127 v1 v2 S88 x.1 x.2) (fun x => J p l e rmX6_thing s m args below meth c g A 5 (MQ below (QC g A (some (.int r)) S') args s 0 0 A) 0 0 127 [(0, .ref (g.2.1 13)), (1, .int v1), (2, .int v2), (3, .int x.1), (4, .int x.2)] [] S88) (fun x => J p l e rmX6_thing s m args below meth c g A 5 (MQ below (QC g A (some (.int r)) S') args s 0 0 A) 0 0 211 [(3, .int x)] [] S88) (fun x o1 hm hk1 => ?_) hlp127 ?_
            · obtain ⟨v3, v4⟩ := x
              replace hm : m_X6_thing_L127 v1 v2 S88 v3 v4 = some o1 := hm
              show J p l e rmX6_thing s m args below meth c g A 5 (MQ below (QC g A (some (.int r)) S') args s 0 0 A) 0 0 127 [(0, .ref (g.2.1 13)), (1, .int v1), (2, .int v2), (3, .int v3), (4, .int v4)] [] S88
              unfold m_X6_thing_L127 at hm
              have hj203 : ∀ (v4 : Int32) (w0 : Int32) (w1 : Int32), m_X6_thing_J203 v1 v2 v4 w0 w1 S88 = some o1 → J p l e rmX6_thing s m args below meth c g A 5 (MQ below (QC g A (some (.int r)) S') args s 0 0 A) 0 0 203 [(0, .ref (g.2.1 13)), (1, .int v1), (2, .int v2), (4, .int v4)] [.int w0, .int w1] S88 := by
                intro v4 w0 w1 hm
                unfold m_X6_thing_J203 at hm
                refine j_iadd F dX6_thing_203 ?_
                refine j_bnd hm (fun v3_204 hm => ?_)
                refine j_istore_n F (lv' := [(3, .int v3_204), (0, .ref (g.2.1 13)), (1, .int v1), (2, .int v2), (4, .int v4)]) dX6_thing_204 (by decide) rfl ?_
                refine j_iinc F (v := v4 + 1) (lv' := [(4, .int (v4 + 1)), (3, .int v3_204), (0, .ref (g.2.1 13)), (1, .int v1), (2, .int v2)]) 4 dX6_thing_205 rfl rfl (by decide) rfl ?_
                refine j_goto F (tgt := 127) dX6_thing_208 (by decide) ?_
                cases hm
                refine j_sub [2, 3, 4, 1, 0] rfl ?_
                exact hk1
              refine j_iload F 4 dX6_thing_127 rfl ?_
              refine j_aload_n F 0 dX6_thing_129 rfl ?_
              refine j_getR F (k0 := 1) (C := RX6) (T := TX6) (N := 20) rfl rfl rfl inF6 (by decide) tw520 dX6_thing_130 ?_
              refine j_iconst F (v := 0) dX6_thing_133 (by decide) ?_
              refine j_iald F rfl dX6_thing_134 hm (fun hm => ?_)
              refine j_icmp_ge F (tgt := 211) dX6_thing_135 (by decide) hm (fun _ hm => ?_) (fun _ hm => ?_)
              · cases hm
                refine j_sub [3] rfl ?_
                exact hk1
              · refine j_iload_n F 3 dX6_thing_138 rfl ?_
                refine j_iload_n F 2 dX6_thing_139 rfl ?_
                refine j_iconst F (v := 2) dX6_thing_140 (by decide) ?_
                refine j_icmp_ne F (tgt := 164) dX6_thing_141 (by decide) hm (fun _ hm => ?_) (fun _ hm => ?_)
                · refine j_iload_n F 2 dX6_thing_164 rfl ?_
                  refine j_iconst F (v := 3) dX6_thing_165 (by decide) ?_
                  refine j_icmp_ne F (tgt := 189) dX6_thing_166 (by decide) hm (fun _ hm => ?_) (fun _ hm => ?_)
                  · refine j_aload_n F 0 dX6_thing_189 rfl ?_
                    refine j_getR F (k0 := 9) (C := RX6) (T := TX6) (N := 20) rfl rfl rfl inF6 (by decide) tw526 dX6_thing_190 ?_
                    refine j_iload_n F 1 dX6_thing_193 rfl ?_
                    refine j_iload F 4 dX6_thing_194 rfl ?_
                    obtain ⟨r196, hc196, hm⟩ := Option.bind_eq_some_iff.mp hm
                    refine j_callS F (n := 2) (As := [.int v1, .int v4]) (rest := [.ref (g.2.1 20), .int v3]) (c_X6_at l g hg v1 v4 S88 r196 hc196) gw_X6_68 (by decide +kernel) ⟨Nat.le_of_ble_eq_true rfl, Nat.le_of_ble_eq_true rfl⟩ ⟨Nat.le_of_ble_eq_true rfl, Nat.le_of_ble_eq_true rfl⟩ rfl rfl (Nat.le_of_ble_eq_true rfl) dX6_thing_196 ?_
                    show J p l e rmX6_thing s m args below meth c g A 5 (MQ below (QC g A (some (.int r)) S') args s 0 0 A) 0 0 199 [(0, .ref (g.2.1 13)), (1, .int v1), (2, .int v2), (3, .int v3), (4, .int v4)] [.int r196, .ref (g.2.1 20), .int v3] S88
                    refine j_iald F rfl dX6_thing_199 hm (fun hm => ?_)
                    obtain ⟨r200, hc200, hm⟩ := Option.bind_eq_some_iff.mp hm
                    refine j_callS F (n := 1) (As := [.int (gA S88 20 r196.toNatClampNeg)]) (rest := [.int v3]) (c_X6_bits l g hg (gA S88 20 r196.toNatClampNeg) S88 r200 hc200) gw_X6_72 (by decide +kernel) ⟨Nat.le_of_ble_eq_true rfl, Nat.le_of_ble_eq_true rfl⟩ ⟨Nat.le_of_ble_eq_true rfl, Nat.le_of_ble_eq_true rfl⟩ rfl rfl (Nat.le_of_ble_eq_true rfl) dX6_thing_200 ?_
                    show J p l e rmX6_thing s m args below meth c g A 5 (MQ below (QC g A (some (.int r)) S') args s 0 0 A) 0 0 203 [(0, .ref (g.2.1 13)), (1, .int v1), (2, .int v2), (3, .int v3), (4, .int v4)] [.int r200, .int v3] S88
                    refine j_sub [0, 1, 2, 4] rfl ?_
                    exact hj203 v4 r200 v3  hm
                  · refine j_aload_n F 0 dX6_thing_169 rfl ?_
                    refine j_getR F (k0 := 1) (C := RX6) (T := TX6) (N := 20) rfl rfl rfl inF6 (by decide) tw520 dX6_thing_170 ?_
                    refine j_bipush F (v := 8) dX6_thing_173 (by decide) ?_
                    refine j_iload F 4 dX6_thing_175 rfl ?_
                    refine j_iload_n F 1 dX6_thing_177 rfl ?_
                    obtain ⟨r178, hc178, hm⟩ := Option.bind_eq_some_iff.mp hm
                    refine j_callS F (n := 2) (As := [.int v4, .int v1]) (rest := [.int 8, .ref (g.2.1 14), .int v3]) (c_X6_at l g hg v4 v1 S88 r178 hc178) gw_X6_68 (by decide +kernel) ⟨Nat.le_of_ble_eq_true rfl, Nat.le_of_ble_eq_true rfl⟩ ⟨Nat.le_of_ble_eq_true rfl, Nat.le_of_ble_eq_true rfl⟩ rfl rfl (Nat.le_of_ble_eq_true rfl) dX6_thing_178 ?_
                    show J p l e rmX6_thing s m args below meth c g A 5 (MQ below (QC g A (some (.int r)) S') args s 0 0 A) 0 0 181 [(0, .ref (g.2.1 13)), (1, .int v1), (2, .int v2), (3, .int v3), (4, .int v4)] [.int r178, .int 8, .ref (g.2.1 14), .int v3] S88
                    refine j_iadd F dX6_thing_181 ?_
                    refine j_iald F rfl dX6_thing_182 hm (fun hm => ?_)
                    obtain ⟨r183, hc183, hm⟩ := Option.bind_eq_some_iff.mp hm
                    refine j_callS F (n := 1) (As := [.int (gA S88 14 (8 + r178).toNatClampNeg)]) (rest := [.int v3]) (c_X6_bits l g hg (gA S88 14 (8 + r178).toNatClampNeg) S88 r183 hc183) gw_X6_72 (by decide +kernel) ⟨Nat.le_of_ble_eq_true rfl, Nat.le_of_ble_eq_true rfl⟩ ⟨Nat.le_of_ble_eq_true rfl, Nat.le_of_ble_eq_true rfl⟩ rfl rfl (Nat.le_of_ble_eq_true rfl) dX6_thing_183 ?_
                    show J p l e rmX6_thing s m args below meth c g A 5 (MQ below (QC g A (some (.int r)) S') args s 0 0 A) 0 0 186 [(0, .ref (g.2.1 13)), (1, .int v1), (2, .int v2), (3, .int v3), (4, .int v4)] [.int r183, .int v3] S88
                    refine j_goto F (tgt := 203) dX6_thing_186 (by decide) ?_
                    refine j_sub [0, 1, 2, 4] rfl ?_
                    exact hj203 v4 r183 v3  hm
                · refine j_aload_n F 0 dX6_thing_144 rfl ?_
                  refine j_getR F (k0 := 1) (C := RX6) (T := TX6) (N := 20) rfl rfl rfl inF6 (by decide) tw520 dX6_thing_145 ?_
                  refine j_bipush F (v := 8) dX6_thing_148 (by decide) ?_
                  refine j_iload_n F 1 dX6_thing_150 rfl ?_
                  refine j_iload F 4 dX6_thing_151 rfl ?_
                  obtain ⟨r153, hc153, hm⟩ := Option.bind_eq_some_iff.mp hm
                  refine j_callS F (n := 2) (As := [.int v1, .int v4]) (rest := [.int 8, .ref (g.2.1 14), .int v3]) (c_X6_at l g hg v1 v4 S88 r153 hc153) gw_X6_68 (by decide +kernel) ⟨Nat.le_of_ble_eq_true rfl, Nat.le_of_ble_eq_true rfl⟩ ⟨Nat.le_of_ble_eq_true rfl, Nat.le_of_ble_eq_true rfl⟩ rfl rfl (Nat.le_of_ble_eq_true rfl) dX6_thing_153 ?_
                  show J p l e rmX6_thing s m args below meth c g A 5 (MQ below (QC g A (some (.int r)) S') args s 0 0 A) 0 0 156 [(0, .ref (g.2.1 13)), (1, .int v1), (2, .int v2), (3, .int v3), (4, .int v4)] [.int r153, .int 8, .ref (g.2.1 14), .int v3] S88
                  refine j_iadd F dX6_thing_156 ?_
                  refine j_iald F rfl dX6_thing_157 hm (fun hm => ?_)
                  obtain ⟨r158, hc158, hm⟩ := Option.bind_eq_some_iff.mp hm
                  refine j_callS F (n := 1) (As := [.int (gA S88 14 (8 + r153).toNatClampNeg)]) (rest := [.int v3]) (c_X6_bits l g hg (gA S88 14 (8 + r153).toNatClampNeg) S88 r158 hc158) gw_X6_72 (by decide +kernel) ⟨Nat.le_of_ble_eq_true rfl, Nat.le_of_ble_eq_true rfl⟩ ⟨Nat.le_of_ble_eq_true rfl, Nat.le_of_ble_eq_true rfl⟩ rfl rfl (Nat.le_of_ble_eq_true rfl) dX6_thing_158 ?_
                  show J p l e rmX6_thing s m args below meth c g A 5 (MQ below (QC g A (some (.int r)) S') args s 0 0 A) 0 0 161 [(0, .ref (g.2.1 13)), (1, .int v1), (2, .int v2), (3, .int v3), (4, .int v4)] [.int r158, .int v3] S88
                  refine j_goto F (tgt := 203) dX6_thing_161 (by decide) ?_
                  refine j_sub [0, 1, 2, 4] rfl ?_
                  exact hj203 v4 r158 v3  hm
            · show J p l e rmX6_thing s m args below meth c g A 5 (MQ below (QC g A (some (.int r)) S') args s 0 0 A) 0 0 211 [(3, .int y127)] [] S88
              refine j_iload_n F 0 dX6_thing_211 rfl ?_
              exact j_iret_e F rfl dX6_thing_212 hm
          · refine j_sub [0, 1, 2] rfl ?_
            exact hj101 v1 v2 S88  hm
      · refine j_iload_n F 2 dX6_thing_45 rfl ?_
        refine j_if_ne F (tgt := 65) dX6_thing_46 (by decide) hm (fun _ hm => ?_) (fun _ hm => ?_)
        · refine j_aload_n F 0 dX6_thing_65 rfl ?_
          refine j_getR F (k0 := 1) (C := RX6) (T := TX6) (N := 20) rfl rfl rfl inF6 (by decide) tw520 dX6_thing_66 ?_
          refine j_iconst F (v := 1) dX6_thing_69 (by decide) ?_
          refine j_iload_n F 1 dX6_thing_70 rfl ?_
          refine j_iadd F dX6_thing_71 ?_
          refine j_iald F rfl dX6_thing_72 hm (fun hm => ?_)
          refine j_iconst F (v := 1) dX6_thing_73 (by decide) ?_
          refine j_icmp_ne F (tgt := 81) dX6_thing_74 (by decide) hm (fun _ hm => ?_) (fun _ hm => ?_)
          · refine j_iconst F (v := 0) dX6_thing_81 (by decide) ?_
            refine j_sub [] rfl ?_
            exact hj82 0 S28  hm
          · refine j_iconst F (v := 1) dX6_thing_77 (by decide) ?_
            refine j_goto F (tgt := 82) dX6_thing_78 (by decide) ?_
            refine j_sub [] rfl ?_
            exact hj82 1 S28  hm
        · refine j_aload_n F 0 dX6_thing_49 rfl ?_
          refine j_iload_n F 1 dX6_thing_50 rfl ?_
          obtain ⟨r51, hc51, hm⟩ := Option.bind_eq_some_iff.mp hm
          refine j_callV F (n := 1) (As := [.int v1]) (rest := []) (c_X6_isPerson l g hg v1 S28 r51 hc51) gw_X6_97 (by decide +kernel) ⟨Nat.le_of_ble_eq_true rfl, Nat.le_of_ble_eq_true rfl⟩ ⟨Nat.le_of_ble_eq_true rfl, Nat.le_of_ble_eq_true rfl⟩ rfl rfl rfl rfl (Nat.le_of_ble_eq_true rfl) dX6_thing_51 ?_
          show J p l e rmX6_thing s m args below meth c g A 5 (MQ below (QC g A (some (.int r)) S') args s 0 0 A) 0 0 54 [(0, .ref (g.2.1 13)), (1, .int v1), (2, .int v2)] [.int r51] S28
          refine j_if_eq F (tgt := 61) dX6_thing_54 (by decide) hm (fun _ hm => ?_) (fun _ hm => ?_)
          · refine j_iconst F (v := 0) dX6_thing_61 (by decide) ?_
            refine j_goto F (tgt := 82) dX6_thing_62 (by decide) ?_
            refine j_sub [] rfl ?_
            exact hj82 0 S28  hm
          · refine j_iconst F (v := 1) dX6_thing_57 (by decide) ?_
            refine j_goto F (tgt := 82) dX6_thing_58 (by decide) ?_
            refine j_sub [] rfl ?_
            exact hj82 1 S28  hm
    · refine j_iconst F (v := 0) dX6_thing_38 (by decide) ?_
      exact j_iret_e F rfl dX6_thing_39 hm
  refine j_aload_n F 0 dX6_thing_0 rfl ?_
  refine j_aload_n F 0 dX6_thing_1 rfl ?_
  refine j_iload_n F 1 dX6_thing_2 rfl ?_
  obtain ⟨r3, hc3, hm⟩ := Option.bind_eq_some_iff.mp hm
  refine j_callV F (n := 1) (As := [.int v1]) (rest := [.ref (g.2.1 13)]) (c_X6_isThing l g hg v1 S r3 hc3) gw_X6_142 (by decide +kernel) ⟨Nat.le_of_ble_eq_true rfl, Nat.le_of_ble_eq_true rfl⟩ ⟨Nat.le_of_ble_eq_true rfl, Nat.le_of_ble_eq_true rfl⟩ rfl rfl rfl rfl (Nat.le_of_ble_eq_true rfl) dX6_thing_3 ?_
  show J p l e rmX6_thing s m args below meth c g A 5 (MQ below (QC g A (some (.int r)) S') args s 0 0 A) 0 0 6 [(0, .ref (g.2.1 13)), (1, .int v1), (2, .int v2)] [.int r3, .ref (g.2.1 13)] S
  refine j_if_ne F (tgt := 13) dX6_thing_6 (by decide) hm (fun _ hm => ?_) (fun _ hm => ?_)
  · refine j_iload_n F 2 dX6_thing_13 rfl ?_
    refine j_iconst F (v := 0) dX6_thing_14 (by decide) ?_
    refine j_bipush F (v := 6) dX6_thing_15 (by decide) ?_
    obtain ⟨r17, hc17, hm⟩ := Option.bind_eq_some_iff.mp hm
    refine j_callS F (n := 3) (As := [.int v2, .int 0, .int 6]) (rest := [.ref (g.2.1 13)]) (c_X6_in l g hg v2 0 6 S r17 hc17) gw_X6_60 (by decide +kernel) ⟨Nat.le_of_ble_eq_true rfl, Nat.le_of_ble_eq_true rfl⟩ ⟨Nat.le_of_ble_eq_true rfl, Nat.le_of_ble_eq_true rfl⟩ rfl rfl (Nat.le_of_ble_eq_true rfl) dX6_thing_17 ?_
    show J p l e rmX6_thing s m args below meth c g A 5 (MQ below (QC g A (some (.int r)) S') args s 0 0 A) 0 0 20 [(0, .ref (g.2.1 13)), (1, .int v1), (2, .int v2)] [.int r17, .ref (g.2.1 13)] S
    refine j_if_eq F (tgt := 27) dX6_thing_20 (by decide) hm (fun _ hm => ?_) (fun _ hm => ?_)
    · refine j_iconst F (v := 2) dX6_thing_27 (by decide) ?_
      refine j_sub [0, 1, 2] rfl ?_
      exact hj28 v1 v2 2 S  hm
    · refine j_iconst F (v := 0) dX6_thing_23 (by decide) ?_
      refine j_goto F (tgt := 28) dX6_thing_24 (by decide) ?_
      refine j_sub [0, 1, 2] rfl ?_
      exact hj28 v1 v2 0 S  hm
  · refine j_iconst F (v := 1) dX6_thing_9 (by decide) ?_
    refine j_goto F (tgt := 28) dX6_thing_10 (by decide) ?_
    refine j_sub [0, 1, 2] rfl ?_
    exact hj28 v1 v2 1 S  hm
def m_X6_rights_J81 (w0 : Int32) (S : Hs) : Option (Int32 × Hs) := some ((w0, S))
noncomputable def m_X6_rights_J31 (v1 : Int32) (v2 : Int32) (v3 : Int32) (w0 : Int32) (S : Hs) : Option (Int32 × Hs) := bnd (sI S 13 0 w0) fun S31 => (if (gI S31 13 0) ≤ 0 then ((m_X6_awakeSet  S31).bind fun r45 => ((m_X6_spread r45 S31).bind fun S48 => (if v3 = 0 then ((m_X6_at v1 v2).bind fun r76 => (gd (inb (8 + r76) 57) (m_X6_rights_J81 (gA S48 14 (8 + r76).toNatClampNeg) S48))) else ((m_X6_at v1 v2).bind fun r61 => (gd (inb r61 49) (m_X6_rights_J81 (gA S48 20 r61.toNatClampNeg) S48)))))) else (some ((0, S31))))
noncomputable def m_X6_rights_J17 (v1 : Int32) (v2 : Int32) (v3 : Int32) (S : Hs) : Option (Int32 × Hs) := m_X6_rights_J31 v1 v2 v3 1 S
noncomputable def m_X6_rights (v1 : Int32) (v2 : Int32) (v3 : Int32) (S : Hs) : Option (Int32 × Hs) := (m_X6_isThing v1 S).bind fun r3 => (if r3 = 0 then (m_X6_rights_J17 v1 v2 v3 S) else ((m_X6_isThing v2 S).bind fun r11 => (if r11 = 0 then (m_X6_rights_J17 v1 v2 v3 S) else (if v1 = v2 then (m_X6_rights_J31 v1 v2 v3 2 S) else (m_X6_rights_J31 v1 v2 v3 0 S)))))
set_option maxRecDepth 100000 in
set_option maxHeartbeats 4000000 in
theorem c_X6_rights (l : Launch) (g : GG) (hg : Inj g) (v1 : Int32) (v2 : Int32) (v3 : Int32)  (S : Hs) (r : Int32) (S' : Hs) (hm : m_X6_rights v1 v2 v3 S = some ((r, S'))) : CM l yX6_rights [.code yX6_rights cX6_rights 4 (some .int)] rmX6_rights [.ref (g.2.1 13), .int v1, .int v2, .int v3] g S (some (.int r)) S' := by
  unfold m_X6_rights at hm
  refine CM.of (cc := cX6_rights) (nL := 4) (ret := (some .int)) (lv := [(0, .ref (g.2.1 13)), (1, .int v1), (2, .int v2), (3, .int v3)]) (by decide +kernel) hg (Nat.le_of_ble_eq_true rfl) rfl (fun p e s m args below meth c A F => ?_)
  replace F : Fx p s m meth c cX6_rights RX6 4 (some .int) g A := F
  show J p l e rmX6_rights s m args below meth c g A 4 (MQ below (QC g A (some (.int r)) S') args s 0 0 A) 0 0 0 [(0, .ref (g.2.1 13)), (1, .int v1), (2, .int v2), (3, .int v3)] [] S
  have hj81 : ∀ (w0 : Int32) (S : Hs), m_X6_rights_J81 w0 S = some ((r, S')) → J p l e rmX6_rights s m args below meth c g A 4 (MQ below (QC g A (some (.int r)) S') args s 0 0 A) 0 0 81 [] [.int w0] S := by
    intro w0 S hm
    unfold m_X6_rights_J81 at hm
    exact j_iret_e F rfl dX6_rights_81 hm
  have hj31 : ∀ (v1 : Int32) (v2 : Int32) (v3 : Int32) (w0 : Int32) (S : Hs), m_X6_rights_J31 v1 v2 v3 w0 S = some ((r, S')) → J p l e rmX6_rights s m args below meth c g A 4 (MQ below (QC g A (some (.int r)) S') args s 0 0 A) 0 0 31 [(0, .ref (g.2.1 13)), (1, .int v1), (2, .int v2), (3, .int v3)] [.int w0, .ref (g.2.1 13)] S := by
    intro v1 v2 v3 w0 S hm
    unfold m_X6_rights_J31 at hm
    refine j_putI F (k0 := 0) (C := RX6) (T := TX6) (N := 20) tyX6 tyX6_ok nmX6 rfl rfl rfl inF6 (by decide) tw535 rfl (by decide +kernel) dX6_rights_31 ?_
    refine j_bndS hm (fun S31 hm => ?_)
    refine j_aload_n F 0 dX6_rights_34 rfl ?_
    refine j_getI F (k0 := 0) (C := RX6) (T := TX6) (N := 20) rfl rfl rfl inF6 (by decide) tw535 dX6_rights_35 ?_
    refine j_if_le F (tgt := 43) dX6_rights_38 (by decide) hm (fun _ hm => ?_) (fun _ hm => ?_)
    · refine j_aload_n F 0 dX6_rights_43 rfl ?_
      refine j_aload_n F 0 dX6_rights_44 rfl ?_
      obtain ⟨r45, hc45, hm⟩ := Option.bind_eq_some_iff.mp hm
      refine j_callV F (n := 0) (As := []) (rest := [.ref (g.2.1 13)]) (c_X6_awakeSet l g hg S31 r45 hc45) gw_X6_125 (by decide +kernel) ⟨Nat.le_of_ble_eq_true rfl, Nat.le_of_ble_eq_true rfl⟩ ⟨Nat.le_of_ble_eq_true rfl, Nat.le_of_ble_eq_true rfl⟩ rfl rfl rfl rfl (Nat.le_of_ble_eq_true rfl) dX6_rights_45 ?_
      show J p l e rmX6_rights s m args below meth c g A 4 (MQ below (QC g A (some (.int r)) S') args s 0 0 A) 0 0 48 [(0, .ref (g.2.1 13)), (1, .int v1), (2, .int v2), (3, .int v3)] [.int r45, .ref (g.2.1 13)] S31
      obtain ⟨S48, hc48, hm⟩ := Option.bind_eq_some_iff.mp hm
      refine j_callV F (n := 1) (As := [.int r45]) (rest := []) (c_X6_spread l g hg r45 S31 S48 hc48) gw_X6_128 (by decide +kernel) ⟨Nat.le_of_ble_eq_true rfl, Nat.le_of_ble_eq_true rfl⟩ ⟨Nat.le_of_ble_eq_true rfl, Nat.le_of_ble_eq_true rfl⟩ rfl rfl rfl rfl (Nat.le_of_ble_eq_true rfl) dX6_rights_48 ?_
      show J p l e rmX6_rights s m args below meth c g A 4 (MQ below (QC g A (some (.int r)) S') args s 0 0 A) 0 0 51 [(0, .ref (g.2.1 13)), (1, .int v1), (2, .int v2), (3, .int v3)] [] S48
      refine j_iload_n F 3 dX6_rights_51 rfl ?_
      refine j_if_eq F (tgt := 68) dX6_rights_52 (by decide) hm (fun _ hm => ?_) (fun _ hm => ?_)
      · refine j_aload_n F 0 dX6_rights_68 rfl ?_
        refine j_getR F (k0 := 1) (C := RX6) (T := TX6) (N := 20) rfl rfl rfl inF6 (by decide) tw520 dX6_rights_69 ?_
        refine j_bipush F (v := 8) dX6_rights_72 (by decide) ?_
        refine j_iload_n F 1 dX6_rights_74 rfl ?_
        refine j_iload_n F 2 dX6_rights_75 rfl ?_
        obtain ⟨r76, hc76, hm⟩ := Option.bind_eq_some_iff.mp hm
        refine j_callS F (n := 2) (As := [.int v1, .int v2]) (rest := [.int 8, .ref (g.2.1 14)]) (c_X6_at l g hg v1 v2 S48 r76 hc76) gw_X6_68 (by decide +kernel) ⟨Nat.le_of_ble_eq_true rfl, Nat.le_of_ble_eq_true rfl⟩ ⟨Nat.le_of_ble_eq_true rfl, Nat.le_of_ble_eq_true rfl⟩ rfl rfl (Nat.le_of_ble_eq_true rfl) dX6_rights_76 ?_
        show J p l e rmX6_rights s m args below meth c g A 4 (MQ below (QC g A (some (.int r)) S') args s 0 0 A) 0 0 79 [(0, .ref (g.2.1 13)), (1, .int v1), (2, .int v2), (3, .int v3)] [.int r76, .int 8, .ref (g.2.1 14)] S48
        refine j_iadd F dX6_rights_79 ?_
        refine j_iald F rfl dX6_rights_80 hm (fun hm => ?_)
        refine j_sub [] rfl ?_
        exact hj81 (gA S48 14 (8 + r76).toNatClampNeg) S48  hm
      · refine j_aload_n F 0 dX6_rights_55 rfl ?_
        refine j_getR F (k0 := 9) (C := RX6) (T := TX6) (N := 20) rfl rfl rfl inF6 (by decide) tw526 dX6_rights_56 ?_
        refine j_iload_n F 1 dX6_rights_59 rfl ?_
        refine j_iload_n F 2 dX6_rights_60 rfl ?_
        obtain ⟨r61, hc61, hm⟩ := Option.bind_eq_some_iff.mp hm
        refine j_callS F (n := 2) (As := [.int v1, .int v2]) (rest := [.ref (g.2.1 20)]) (c_X6_at l g hg v1 v2 S48 r61 hc61) gw_X6_68 (by decide +kernel) ⟨Nat.le_of_ble_eq_true rfl, Nat.le_of_ble_eq_true rfl⟩ ⟨Nat.le_of_ble_eq_true rfl, Nat.le_of_ble_eq_true rfl⟩ rfl rfl (Nat.le_of_ble_eq_true rfl) dX6_rights_61 ?_
        show J p l e rmX6_rights s m args below meth c g A 4 (MQ below (QC g A (some (.int r)) S') args s 0 0 A) 0 0 64 [(0, .ref (g.2.1 13)), (1, .int v1), (2, .int v2), (3, .int v3)] [.int r61, .ref (g.2.1 20)] S48
        refine j_iald F rfl dX6_rights_64 hm (fun hm => ?_)
        refine j_goto F (tgt := 81) dX6_rights_65 (by decide) ?_
        refine j_sub [] rfl ?_
        exact hj81 (gA S48 20 r61.toNatClampNeg) S48  hm
    · refine j_iconst F (v := 0) dX6_rights_41 (by decide) ?_
      exact j_iret_e F rfl dX6_rights_42 hm
  have hj17 : ∀ (v1 : Int32) (v2 : Int32) (v3 : Int32) (S : Hs), m_X6_rights_J17 v1 v2 v3 S = some ((r, S')) → J p l e rmX6_rights s m args below meth c g A 4 (MQ below (QC g A (some (.int r)) S') args s 0 0 A) 0 0 17 [(0, .ref (g.2.1 13)), (1, .int v1), (2, .int v2), (3, .int v3)] [.ref (g.2.1 13)] S := by
    intro v1 v2 v3 S hm
    unfold m_X6_rights_J17 at hm
    refine j_iconst F (v := 1) dX6_rights_17 (by decide) ?_
    refine j_goto F (tgt := 31) dX6_rights_18 (by decide) ?_
    refine j_sub [0, 1, 2, 3] rfl ?_
    exact hj31 v1 v2 v3 1 S  hm
  refine j_aload_n F 0 dX6_rights_0 rfl ?_
  refine j_aload_n F 0 dX6_rights_1 rfl ?_
  refine j_iload_n F 1 dX6_rights_2 rfl ?_
  obtain ⟨r3, hc3, hm⟩ := Option.bind_eq_some_iff.mp hm
  refine j_callV F (n := 1) (As := [.int v1]) (rest := [.ref (g.2.1 13)]) (c_X6_isThing l g hg v1 S r3 hc3) gw_X6_142 (by decide +kernel) ⟨Nat.le_of_ble_eq_true rfl, Nat.le_of_ble_eq_true rfl⟩ ⟨Nat.le_of_ble_eq_true rfl, Nat.le_of_ble_eq_true rfl⟩ rfl rfl rfl rfl (Nat.le_of_ble_eq_true rfl) dX6_rights_3 ?_
  show J p l e rmX6_rights s m args below meth c g A 4 (MQ below (QC g A (some (.int r)) S') args s 0 0 A) 0 0 6 [(0, .ref (g.2.1 13)), (1, .int v1), (2, .int v2), (3, .int v3)] [.int r3, .ref (g.2.1 13)] S
  refine j_if_eq F (tgt := 17) dX6_rights_6 (by decide) hm (fun _ hm => ?_) (fun _ hm => ?_)
  · refine j_sub [0, 1, 2, 3] rfl ?_
    exact hj17 v1 v2 v3 S  hm
  · refine j_aload_n F 0 dX6_rights_9 rfl ?_
    refine j_iload_n F 2 dX6_rights_10 rfl ?_
    obtain ⟨r11, hc11, hm⟩ := Option.bind_eq_some_iff.mp hm
    refine j_callV F (n := 1) (As := [.int v2]) (rest := [.ref (g.2.1 13)]) (c_X6_isThing l g hg v2 S r11 hc11) gw_X6_142 (by decide +kernel) ⟨Nat.le_of_ble_eq_true rfl, Nat.le_of_ble_eq_true rfl⟩ ⟨Nat.le_of_ble_eq_true rfl, Nat.le_of_ble_eq_true rfl⟩ rfl rfl rfl rfl (Nat.le_of_ble_eq_true rfl) dX6_rights_11 ?_
    show J p l e rmX6_rights s m args below meth c g A 4 (MQ below (QC g A (some (.int r)) S') args s 0 0 A) 0 0 14 [(0, .ref (g.2.1 13)), (1, .int v1), (2, .int v2), (3, .int v3)] [.int r11, .ref (g.2.1 13)] S
    refine j_if_ne F (tgt := 21) dX6_rights_14 (by decide) hm (fun _ hm => ?_) (fun _ hm => ?_)
    · refine j_iload_n F 1 dX6_rights_21 rfl ?_
      refine j_iload_n F 2 dX6_rights_22 rfl ?_
      refine j_icmp_ne F (tgt := 30) dX6_rights_23 (by decide) hm (fun _ hm => ?_) (fun _ hm => ?_)
      · refine j_iconst F (v := 0) dX6_rights_30 (by decide) ?_
        refine j_sub [0, 1, 2, 3] rfl ?_
        exact hj31 v1 v2 v3 0 S  hm
      · refine j_iconst F (v := 2) dX6_rights_26 (by decide) ?_
        refine j_goto F (tgt := 31) dX6_rights_27 (by decide) ?_
        refine j_sub [0, 1, 2, 3] rfl ?_
        exact hj31 v1 v2 v3 2 S  hm
    · refine j_sub [0, 1, 2, 3] rfl ?_
      exact hj17 v1 v2 v3 S  hm
def m_X6_whyNotRight_J39 (w0 : Int32) (S : Hs) : Option (Int32) := some w0
def m_X6_whyNotRight_J16 (S : Hs) : Option (Int32) := m_X6_whyNotRight_J39 1 S
def m_X6_whyNotRight_J34 (S : Hs) : Option (Int32) := m_X6_whyNotRight_J39 2 S
def m_X6_whyNotRight (v1 : Int32) (v2 : Int32) (v3 : Int32) (S : Hs) : Option (Int32) := (m_X6_isThing v1 S).bind fun r2 => (if r2 = 0 then (m_X6_whyNotRight_J16 S) else ((m_X6_isThing v3 S).bind fun r10 => (if r10 = 0 then (m_X6_whyNotRight_J16 S) else (if v1 = v3 then (m_X6_whyNotRight_J34 S) else ((m_X6_in v2 0 3).bind fun r28 => (if r28 = 0 then (m_X6_whyNotRight_J34 S) else (m_X6_whyNotRight_J39 0 S)))))))
set_option maxRecDepth 100000 in
set_option maxHeartbeats 4000000 in
theorem c_X6_whyNotRight (l : Launch) (g : GG) (hg : Inj g) (v1 : Int32) (v2 : Int32) (v3 : Int32)  (S : Hs) (r : Int32) (hm : m_X6_whyNotRight v1 v2 v3 S = some r) : CM l yX6_whyNotRight [.code yX6_whyNotRight cX6_whyNotRight 4 (some .int)] rmX6_whyNotRight [.ref (g.2.1 13), .int v1, .int v2, .int v3] g S (some (.int r)) S := by
  unfold m_X6_whyNotRight at hm
  refine CM.of (cc := cX6_whyNotRight) (nL := 4) (ret := (some .int)) (lv := [(0, .ref (g.2.1 13)), (1, .int v1), (2, .int v2), (3, .int v3)]) (by decide +kernel) hg (Nat.le_of_ble_eq_true rfl) rfl (fun p e s m args below meth c A F => ?_)
  replace F : Fx p s m meth c cX6_whyNotRight RX6 4 (some .int) g A := F
  show J p l e rmX6_whyNotRight s m args below meth c g A 4 (MQ below (QC g A (some (.int r)) S) args s 0 0 A) 0 0 0 [(0, .ref (g.2.1 13)), (1, .int v1), (2, .int v2), (3, .int v3)] [] S
  have hj39 : ∀ (w0 : Int32) (S : Hs), m_X6_whyNotRight_J39 w0 S = some r → J p l e rmX6_whyNotRight s m args below meth c g A 4 (MQ below (QC g A (some (.int r)) S) args s 0 0 A) 0 0 39 [] [.int w0] S := by
    intro w0 S hm
    unfold m_X6_whyNotRight_J39 at hm
    exact j_iret_p F rfl dX6_whyNotRight_39 hm
  have hj16 : ∀ (S : Hs), m_X6_whyNotRight_J16 S = some r → J p l e rmX6_whyNotRight s m args below meth c g A 4 (MQ below (QC g A (some (.int r)) S) args s 0 0 A) 0 0 16 [] [] S := by
    intro S hm
    unfold m_X6_whyNotRight_J16 at hm
    refine j_iconst F (v := 1) dX6_whyNotRight_16 (by decide) ?_
    refine j_goto F (tgt := 39) dX6_whyNotRight_17 (by decide) ?_
    refine j_sub [] rfl ?_
    exact hj39 1 S  hm
  have hj34 : ∀ (S : Hs), m_X6_whyNotRight_J34 S = some r → J p l e rmX6_whyNotRight s m args below meth c g A 4 (MQ below (QC g A (some (.int r)) S) args s 0 0 A) 0 0 34 [] [] S := by
    intro S hm
    unfold m_X6_whyNotRight_J34 at hm
    refine j_iconst F (v := 2) dX6_whyNotRight_34 (by decide) ?_
    refine j_goto F (tgt := 39) dX6_whyNotRight_35 (by decide) ?_
    refine j_sub [] rfl ?_
    exact hj39 2 S  hm
  refine j_aload_n F 0 dX6_whyNotRight_0 rfl ?_
  refine j_iload_n F 1 dX6_whyNotRight_1 rfl ?_
  obtain ⟨r2, hc2, hm⟩ := Option.bind_eq_some_iff.mp hm
  refine j_callV F (n := 1) (As := [.int v1]) (rest := []) (c_X6_isThing l g hg v1 S r2 hc2) gw_X6_142 (by decide +kernel) ⟨Nat.le_of_ble_eq_true rfl, Nat.le_of_ble_eq_true rfl⟩ ⟨Nat.le_of_ble_eq_true rfl, Nat.le_of_ble_eq_true rfl⟩ rfl rfl rfl rfl (Nat.le_of_ble_eq_true rfl) dX6_whyNotRight_2 ?_
  show J p l e rmX6_whyNotRight s m args below meth c g A 4 (MQ below (QC g A (some (.int r)) S) args s 0 0 A) 0 0 5 [(0, .ref (g.2.1 13)), (1, .int v1), (2, .int v2), (3, .int v3)] [.int r2] S
  refine j_if_eq F (tgt := 16) dX6_whyNotRight_5 (by decide) hm (fun _ hm => ?_) (fun _ hm => ?_)
  · refine j_sub [] rfl ?_
    exact hj16 S  hm
  · refine j_aload_n F 0 dX6_whyNotRight_8 rfl ?_
    refine j_iload_n F 3 dX6_whyNotRight_9 rfl ?_
    obtain ⟨r10, hc10, hm⟩ := Option.bind_eq_some_iff.mp hm
    refine j_callV F (n := 1) (As := [.int v3]) (rest := []) (c_X6_isThing l g hg v3 S r10 hc10) gw_X6_142 (by decide +kernel) ⟨Nat.le_of_ble_eq_true rfl, Nat.le_of_ble_eq_true rfl⟩ ⟨Nat.le_of_ble_eq_true rfl, Nat.le_of_ble_eq_true rfl⟩ rfl rfl rfl rfl (Nat.le_of_ble_eq_true rfl) dX6_whyNotRight_10 ?_
    show J p l e rmX6_whyNotRight s m args below meth c g A 4 (MQ below (QC g A (some (.int r)) S) args s 0 0 A) 0 0 13 [(0, .ref (g.2.1 13)), (1, .int v1), (2, .int v2), (3, .int v3)] [.int r10] S
    refine j_if_ne F (tgt := 20) dX6_whyNotRight_13 (by decide) hm (fun _ hm => ?_) (fun _ hm => ?_)
    · refine j_iload_n F 1 dX6_whyNotRight_20 rfl ?_
      refine j_iload_n F 3 dX6_whyNotRight_21 rfl ?_
      refine j_icmp_eq F (tgt := 34) dX6_whyNotRight_22 (by decide) hm (fun _ hm => ?_) (fun _ hm => ?_)
      · refine j_sub [] rfl ?_
        exact hj34 S  hm
      · refine j_iload_n F 2 dX6_whyNotRight_25 rfl ?_
        refine j_iconst F (v := 0) dX6_whyNotRight_26 (by decide) ?_
        refine j_iconst F (v := 3) dX6_whyNotRight_27 (by decide) ?_
        obtain ⟨r28, hc28, hm⟩ := Option.bind_eq_some_iff.mp hm
        refine j_callS F (n := 3) (As := [.int v2, .int 0, .int 3]) (rest := []) (c_X6_in l g hg v2 0 3 S r28 hc28) gw_X6_60 (by decide +kernel) ⟨Nat.le_of_ble_eq_true rfl, Nat.le_of_ble_eq_true rfl⟩ ⟨Nat.le_of_ble_eq_true rfl, Nat.le_of_ble_eq_true rfl⟩ rfl rfl (Nat.le_of_ble_eq_true rfl) dX6_whyNotRight_28 ?_
        show J p l e rmX6_whyNotRight s m args below meth c g A 4 (MQ below (QC g A (some (.int r)) S) args s 0 0 A) 0 0 31 [(0, .ref (g.2.1 13)), (1, .int v1), (2, .int v2), (3, .int v3)] [.int r28] S
        refine j_if_ne F (tgt := 38) dX6_whyNotRight_31 (by decide) hm (fun _ hm => ?_) (fun _ hm => ?_)
        · refine j_iconst F (v := 0) dX6_whyNotRight_38 (by decide) ?_
          refine j_sub [] rfl ?_
          exact hj39 0 S  hm
        · refine j_sub [] rfl ?_
          exact hj34 S  hm
    · refine j_sub [] rfl ?_
      exact hj16 S  hm
def m_X6_round_J57 (w0 : Int32) (S : Hs) : Option (Int32 × Hs) := some ((w0, S))
noncomputable def m_X6_round (v1 : Int32) (v2 : Int32) (v3 : Int32) (S : Hs) : Option (Int32 × Hs) := (m_X6_whyNotRight v1 v2 v3 S).bind fun r5 => (bnd (sI S 13 0 r5) fun S8 => (if (gI S8 13 0) ≤ 0 then ((m_X6_awakeSet  S8).bind fun r22 => ((m_X6_spread r22 S8).bind fun S25 => ((m_X6_ends v1 v2 v3 S25).bind fun r32 => (if r32 = 0 then (m_X6_round_J57 ((-9)) S25) else ((m_X6_at v1 v3).bind fun r45 => (gd (inb ((4 * r45) + v2) 196) (m_X6_round_J57 (gA S25 22 ((4 * r45) + v2).toNatClampNeg) S25))))))) else (some ((0, S8)))))
set_option maxRecDepth 100000 in
set_option maxHeartbeats 4000000 in
theorem c_X6_round (l : Launch) (g : GG) (hg : Inj g) (v1 : Int32) (v2 : Int32) (v3 : Int32)  (S : Hs) (r : Int32) (S' : Hs) (hm : m_X6_round v1 v2 v3 S = some ((r, S'))) : CM l yX6_round [.code yX6_round cX6_round 4 (some .int)] rmX6_round [.ref (g.2.1 13), .int v1, .int v2, .int v3] g S (some (.int r)) S' := by
  unfold m_X6_round at hm
  refine CM.of (cc := cX6_round) (nL := 4) (ret := (some .int)) (lv := [(0, .ref (g.2.1 13)), (1, .int v1), (2, .int v2), (3, .int v3)]) (by decide +kernel) hg (Nat.le_of_ble_eq_true rfl) rfl (fun p e s m args below meth c A F => ?_)
  replace F : Fx p s m meth c cX6_round RX6 4 (some .int) g A := F
  show J p l e rmX6_round s m args below meth c g A 4 (MQ below (QC g A (some (.int r)) S') args s 0 0 A) 0 0 0 [(0, .ref (g.2.1 13)), (1, .int v1), (2, .int v2), (3, .int v3)] [] S
  have hj57 : ∀ (w0 : Int32) (S : Hs), m_X6_round_J57 w0 S = some ((r, S')) → J p l e rmX6_round s m args below meth c g A 4 (MQ below (QC g A (some (.int r)) S') args s 0 0 A) 0 0 57 [] [.int w0] S := by
    intro w0 S hm
    unfold m_X6_round_J57 at hm
    exact j_iret_e F rfl dX6_round_57 hm
  refine j_aload_n F 0 dX6_round_0 rfl ?_
  refine j_aload_n F 0 dX6_round_1 rfl ?_
  refine j_iload_n F 1 dX6_round_2 rfl ?_
  refine j_iload_n F 2 dX6_round_3 rfl ?_
  refine j_iload_n F 3 dX6_round_4 rfl ?_
  obtain ⟨r5, hc5, hm⟩ := Option.bind_eq_some_iff.mp hm
  refine j_callV F (n := 3) (As := [.int v1, .int v2, .int v3]) (rest := [.ref (g.2.1 13)]) (c_X6_whyNotRight l g hg v1 v2 v3 S r5 hc5) gw_X6_145 (by decide +kernel) ⟨Nat.le_of_ble_eq_true rfl, Nat.le_of_ble_eq_true rfl⟩ ⟨Nat.le_of_ble_eq_true rfl, Nat.le_of_ble_eq_true rfl⟩ rfl rfl rfl rfl (Nat.le_of_ble_eq_true rfl) dX6_round_5 ?_
  show J p l e rmX6_round s m args below meth c g A 4 (MQ below (QC g A (some (.int r)) S') args s 0 0 A) 0 0 8 [(0, .ref (g.2.1 13)), (1, .int v1), (2, .int v2), (3, .int v3)] [.int r5, .ref (g.2.1 13)] S
  refine j_putI F (k0 := 0) (C := RX6) (T := TX6) (N := 20) tyX6 tyX6_ok nmX6 rfl rfl rfl inF6 (by decide) tw535 rfl (by decide +kernel) dX6_round_8 ?_
  refine j_bndS hm (fun S8 hm => ?_)
  refine j_aload_n F 0 dX6_round_11 rfl ?_
  refine j_getI F (k0 := 0) (C := RX6) (T := TX6) (N := 20) rfl rfl rfl inF6 (by decide) tw535 dX6_round_12 ?_
  refine j_if_le F (tgt := 20) dX6_round_15 (by decide) hm (fun _ hm => ?_) (fun _ hm => ?_)
  · refine j_aload_n F 0 dX6_round_20 rfl ?_
    refine j_aload_n F 0 dX6_round_21 rfl ?_
    obtain ⟨r22, hc22, hm⟩ := Option.bind_eq_some_iff.mp hm
    refine j_callV F (n := 0) (As := []) (rest := [.ref (g.2.1 13)]) (c_X6_awakeSet l g hg S8 r22 hc22) gw_X6_125 (by decide +kernel) ⟨Nat.le_of_ble_eq_true rfl, Nat.le_of_ble_eq_true rfl⟩ ⟨Nat.le_of_ble_eq_true rfl, Nat.le_of_ble_eq_true rfl⟩ rfl rfl rfl rfl (Nat.le_of_ble_eq_true rfl) dX6_round_22 ?_
    show J p l e rmX6_round s m args below meth c g A 4 (MQ below (QC g A (some (.int r)) S') args s 0 0 A) 0 0 25 [(0, .ref (g.2.1 13)), (1, .int v1), (2, .int v2), (3, .int v3)] [.int r22, .ref (g.2.1 13)] S8
    obtain ⟨S25, hc25, hm⟩ := Option.bind_eq_some_iff.mp hm
    refine j_callV F (n := 1) (As := [.int r22]) (rest := []) (c_X6_spread l g hg r22 S8 S25 hc25) gw_X6_128 (by decide +kernel) ⟨Nat.le_of_ble_eq_true rfl, Nat.le_of_ble_eq_true rfl⟩ ⟨Nat.le_of_ble_eq_true rfl, Nat.le_of_ble_eq_true rfl⟩ rfl rfl rfl rfl (Nat.le_of_ble_eq_true rfl) dX6_round_25 ?_
    show J p l e rmX6_round s m args below meth c g A 4 (MQ below (QC g A (some (.int r)) S') args s 0 0 A) 0 0 28 [(0, .ref (g.2.1 13)), (1, .int v1), (2, .int v2), (3, .int v3)] [] S25
    refine j_aload_n F 0 dX6_round_28 rfl ?_
    refine j_iload_n F 1 dX6_round_29 rfl ?_
    refine j_iload_n F 2 dX6_round_30 rfl ?_
    refine j_iload_n F 3 dX6_round_31 rfl ?_
    obtain ⟨r32, hc32, hm⟩ := Option.bind_eq_some_iff.mp hm
    refine j_callV F (n := 3) (As := [.int v1, .int v2, .int v3]) (rest := []) (c_X6_ends l g hg v1 v2 v3 S25 r32 hc32) gw_X6_80 (by decide +kernel) ⟨Nat.le_of_ble_eq_true rfl, Nat.le_of_ble_eq_true rfl⟩ ⟨Nat.le_of_ble_eq_true rfl, Nat.le_of_ble_eq_true rfl⟩ rfl rfl rfl rfl (Nat.le_of_ble_eq_true rfl) dX6_round_32 ?_
    show J p l e rmX6_round s m args below meth c g A 4 (MQ below (QC g A (some (.int r)) S') args s 0 0 A) 0 0 35 [(0, .ref (g.2.1 13)), (1, .int v1), (2, .int v2), (3, .int v3)] [.int r32] S25
    refine j_if_eq F (tgt := 55) dX6_round_35 (by decide) hm (fun _ hm => ?_) (fun _ hm => ?_)
    · refine j_bipush F (v := -9) dX6_round_55 (by decide) ?_
      refine j_sub [] rfl ?_
      exact hj57 ((-9)) S25  hm
    · refine j_aload_n F 0 dX6_round_38 rfl ?_
      refine j_getR F (k0 := 11) (C := RX6) (T := TX6) (N := 20) rfl rfl rfl inF6 (by decide) tw528 dX6_round_39 ?_
      refine j_iconst F (v := 4) dX6_round_42 (by decide) ?_
      refine j_iload_n F 1 dX6_round_43 rfl ?_
      refine j_iload_n F 3 dX6_round_44 rfl ?_
      obtain ⟨r45, hc45, hm⟩ := Option.bind_eq_some_iff.mp hm
      refine j_callS F (n := 2) (As := [.int v1, .int v3]) (rest := [.int 4, .ref (g.2.1 22)]) (c_X6_at l g hg v1 v3 S25 r45 hc45) gw_X6_68 (by decide +kernel) ⟨Nat.le_of_ble_eq_true rfl, Nat.le_of_ble_eq_true rfl⟩ ⟨Nat.le_of_ble_eq_true rfl, Nat.le_of_ble_eq_true rfl⟩ rfl rfl (Nat.le_of_ble_eq_true rfl) dX6_round_45 ?_
      show J p l e rmX6_round s m args below meth c g A 4 (MQ below (QC g A (some (.int r)) S') args s 0 0 A) 0 0 48 [(0, .ref (g.2.1 13)), (1, .int v1), (2, .int v2), (3, .int v3)] [.int r45, .int 4, .ref (g.2.1 22)] S25
      refine j_imul F dX6_round_48 ?_
      refine j_iload_n F 2 dX6_round_49 rfl ?_
      refine j_iadd F dX6_round_50 ?_
      refine j_iald F rfl dX6_round_51 hm (fun hm => ?_)
      refine j_goto F (tgt := 57) dX6_round_52 (by decide) ?_
      refine j_sub [] rfl ?_
      exact hj57 (gA S25 22 ((4 * r45) + v2).toNatClampNeg) S25  hm
  · refine j_iconst F (v := 0) dX6_round_18 (by decide) ?_
    exact j_iret_e F rfl dX6_round_19 hm
noncomputable def m_X6_way (v1 : Int32) (v2 : Int32) (v3 : Int32) (S : Hs) : Option (Int32 × Hs) := (m_X6_whyNotRight v1 v2 v3 S).bind fun r5 => (bnd (sI S 13 0 r5) fun S8 => (if (gI S8 13 0) ≤ 0 then ((m_X6_awakeSet  S8).bind fun r22 => ((m_X6_spread r22 S8).bind fun S25 => ((m_X6_at v1 v3).bind fun r35 => (gd (inb ((4 * r35) + v2) 196) (some ((gA S25 23 ((4 * r35) + v2).toNatClampNeg, S25))))))) else (some ((0, S8)))))
set_option maxRecDepth 100000 in
set_option maxHeartbeats 4000000 in
theorem c_X6_way (l : Launch) (g : GG) (hg : Inj g) (v1 : Int32) (v2 : Int32) (v3 : Int32)  (S : Hs) (r : Int32) (S' : Hs) (hm : m_X6_way v1 v2 v3 S = some ((r, S'))) : CM l yX6_way [.code yX6_way cX6_way 4 (some .int)] rmX6_way [.ref (g.2.1 13), .int v1, .int v2, .int v3] g S (some (.int r)) S' := by
  unfold m_X6_way at hm
  refine CM.of (cc := cX6_way) (nL := 4) (ret := (some .int)) (lv := [(0, .ref (g.2.1 13)), (1, .int v1), (2, .int v2), (3, .int v3)]) (by decide +kernel) hg (Nat.le_of_ble_eq_true rfl) rfl (fun p e s m args below meth c A F => ?_)
  replace F : Fx p s m meth c cX6_way RX6 4 (some .int) g A := F
  show J p l e rmX6_way s m args below meth c g A 4 (MQ below (QC g A (some (.int r)) S') args s 0 0 A) 0 0 0 [(0, .ref (g.2.1 13)), (1, .int v1), (2, .int v2), (3, .int v3)] [] S
  refine j_aload_n F 0 dX6_way_0 rfl ?_
  refine j_aload_n F 0 dX6_way_1 rfl ?_
  refine j_iload_n F 1 dX6_way_2 rfl ?_
  refine j_iload_n F 2 dX6_way_3 rfl ?_
  refine j_iload_n F 3 dX6_way_4 rfl ?_
  obtain ⟨r5, hc5, hm⟩ := Option.bind_eq_some_iff.mp hm
  refine j_callV F (n := 3) (As := [.int v1, .int v2, .int v3]) (rest := [.ref (g.2.1 13)]) (c_X6_whyNotRight l g hg v1 v2 v3 S r5 hc5) gw_X6_145 (by decide +kernel) ⟨Nat.le_of_ble_eq_true rfl, Nat.le_of_ble_eq_true rfl⟩ ⟨Nat.le_of_ble_eq_true rfl, Nat.le_of_ble_eq_true rfl⟩ rfl rfl rfl rfl (Nat.le_of_ble_eq_true rfl) dX6_way_5 ?_
  show J p l e rmX6_way s m args below meth c g A 4 (MQ below (QC g A (some (.int r)) S') args s 0 0 A) 0 0 8 [(0, .ref (g.2.1 13)), (1, .int v1), (2, .int v2), (3, .int v3)] [.int r5, .ref (g.2.1 13)] S
  refine j_putI F (k0 := 0) (C := RX6) (T := TX6) (N := 20) tyX6 tyX6_ok nmX6 rfl rfl rfl inF6 (by decide) tw535 rfl (by decide +kernel) dX6_way_8 ?_
  refine j_bndS hm (fun S8 hm => ?_)
  refine j_aload_n F 0 dX6_way_11 rfl ?_
  refine j_getI F (k0 := 0) (C := RX6) (T := TX6) (N := 20) rfl rfl rfl inF6 (by decide) tw535 dX6_way_12 ?_
  refine j_if_le F (tgt := 20) dX6_way_15 (by decide) hm (fun _ hm => ?_) (fun _ hm => ?_)
  · refine j_aload_n F 0 dX6_way_20 rfl ?_
    refine j_aload_n F 0 dX6_way_21 rfl ?_
    obtain ⟨r22, hc22, hm⟩ := Option.bind_eq_some_iff.mp hm
    refine j_callV F (n := 0) (As := []) (rest := [.ref (g.2.1 13)]) (c_X6_awakeSet l g hg S8 r22 hc22) gw_X6_125 (by decide +kernel) ⟨Nat.le_of_ble_eq_true rfl, Nat.le_of_ble_eq_true rfl⟩ ⟨Nat.le_of_ble_eq_true rfl, Nat.le_of_ble_eq_true rfl⟩ rfl rfl rfl rfl (Nat.le_of_ble_eq_true rfl) dX6_way_22 ?_
    show J p l e rmX6_way s m args below meth c g A 4 (MQ below (QC g A (some (.int r)) S') args s 0 0 A) 0 0 25 [(0, .ref (g.2.1 13)), (1, .int v1), (2, .int v2), (3, .int v3)] [.int r22, .ref (g.2.1 13)] S8
    obtain ⟨S25, hc25, hm⟩ := Option.bind_eq_some_iff.mp hm
    refine j_callV F (n := 1) (As := [.int r22]) (rest := []) (c_X6_spread l g hg r22 S8 S25 hc25) gw_X6_128 (by decide +kernel) ⟨Nat.le_of_ble_eq_true rfl, Nat.le_of_ble_eq_true rfl⟩ ⟨Nat.le_of_ble_eq_true rfl, Nat.le_of_ble_eq_true rfl⟩ rfl rfl rfl rfl (Nat.le_of_ble_eq_true rfl) dX6_way_25 ?_
    show J p l e rmX6_way s m args below meth c g A 4 (MQ below (QC g A (some (.int r)) S') args s 0 0 A) 0 0 28 [(0, .ref (g.2.1 13)), (1, .int v1), (2, .int v2), (3, .int v3)] [] S25
    refine j_aload_n F 0 dX6_way_28 rfl ?_
    refine j_getR F (k0 := 12) (C := RX6) (T := TX6) (N := 20) rfl rfl rfl inF6 (by decide) tw529 dX6_way_29 ?_
    refine j_iconst F (v := 4) dX6_way_32 (by decide) ?_
    refine j_iload_n F 1 dX6_way_33 rfl ?_
    refine j_iload_n F 3 dX6_way_34 rfl ?_
    obtain ⟨r35, hc35, hm⟩ := Option.bind_eq_some_iff.mp hm
    refine j_callS F (n := 2) (As := [.int v1, .int v3]) (rest := [.int 4, .ref (g.2.1 23)]) (c_X6_at l g hg v1 v3 S25 r35 hc35) gw_X6_68 (by decide +kernel) ⟨Nat.le_of_ble_eq_true rfl, Nat.le_of_ble_eq_true rfl⟩ ⟨Nat.le_of_ble_eq_true rfl, Nat.le_of_ble_eq_true rfl⟩ rfl rfl (Nat.le_of_ble_eq_true rfl) dX6_way_35 ?_
    show J p l e rmX6_way s m args below meth c g A 4 (MQ below (QC g A (some (.int r)) S') args s 0 0 A) 0 0 38 [(0, .ref (g.2.1 13)), (1, .int v1), (2, .int v2), (3, .int v3)] [.int r35, .int 4, .ref (g.2.1 23)] S25
    refine j_imul F dX6_way_38 ?_
    refine j_iload_n F 2 dX6_way_39 rfl ?_
    refine j_iadd F dX6_way_40 ?_
    refine j_iald F rfl dX6_way_41 hm (fun hm => ?_)
    exact j_iret_e F rfl dX6_way_42 hm
  · refine j_iconst F (v := 0) dX6_way_18 (by decide) ?_
    exact j_iret_e F rfl dX6_way_19 hm
def m_X6_need_J115 (S : Hs) : Option (Hs) := some S
def m_X6_need (v1 : Int32) (v2 : Int32) (v3 : Int32) (S : Hs) : Option (Hs) := (m_X6_at v1 v2).bind fun r7 => (gd (inb ((4 * r7) + v3) 196) (bnd (gA S 23 ((4 * r7) + v3).toNatClampNeg) fun v4_14 => (if v4_14 = ((-9)) then (some S) else (bnd (irm (v4_14 / 10) 10) fun v5_32 => (bnd (irm v4_14 10) fun v6_39 => (if 100 ≤ v4_14 then ((m_X6_at v5_32 v6_39).bind fun r91 => (gd (inb ((4 * r91) + 1) 196) (bnd (sA S 26 ((4 * r91) + 1).toNatClampNeg (vp_nar .boolean 1)) fun S98 => ((m_X6_at v5_32 v2).bind fun r107 => (gd (inb ((4 * r107) + v3) 196) (bnd (sA S98 26 ((4 * r107) + v3).toNatClampNeg (vp_nar .boolean 1)) fun S114 => (m_X6_need_J115 S114))))))) else ((m_X6_at v5_32 v6_39).bind fun r57 => (gd (inb (4 * r57) 196) (bnd (sA S 26 (4 * r57).toNatClampNeg (vp_nar .boolean 1)) fun S62 => ((m_X6_at v6_39 v2).bind fun r71 => (gd (inb ((4 * r71) + v3) 196) (bnd (sA S62 26 ((4 * r71) + v3).toNatClampNeg (vp_nar .boolean 1)) fun S78 => (m_X6_need_J115 S78)))))))))))))
set_option maxRecDepth 100000 in
set_option maxHeartbeats 4000000 in
theorem c_X6_need (l : Launch) (g : GG) (hg : Inj g) (v1 : Int32) (v2 : Int32) (v3 : Int32)  (S : Hs) (S' : Hs) (hm : m_X6_need v1 v2 v3 S = some S') : CM l yX6_need [.code yX6_need cX6_need 7 none] rmX6_need [.ref (g.2.1 13), .int v1, .int v2, .int v3] g S none S' := by
  unfold m_X6_need at hm
  refine CM.of (cc := cX6_need) (nL := 7) (ret := none) (lv := [(0, .ref (g.2.1 13)), (1, .int v1), (2, .int v2), (3, .int v3)]) (by decide +kernel) hg (Nat.le_of_ble_eq_true rfl) rfl (fun p e s m args below meth c A F => ?_)
  replace F : Fx p s m meth c cX6_need RX6 7 none g A := F
  show J p l e rmX6_need s m args below meth c g A 7 (MQ below (QC g A none S') args s 0 0 A) 0 0 0 [(0, .ref (g.2.1 13)), (1, .int v1), (2, .int v2), (3, .int v3)] [] S
  have hj115 : ∀ (S : Hs), m_X6_need_J115 S = some S' → J p l e rmX6_need s m args below meth c g A 7 (MQ below (QC g A none S') args s 0 0 A) 0 0 115 [] [] S := by
    intro S hm
    unfold m_X6_need_J115 at hm
    exact j_vret_e F rfl dX6_need_115 hm
  refine j_aload_n F 0 dX6_need_0 rfl ?_
  refine j_getR F (k0 := 12) (C := RX6) (T := TX6) (N := 20) rfl rfl rfl inF6 (by decide) tw529 dX6_need_1 ?_
  refine j_iconst F (v := 4) dX6_need_4 (by decide) ?_
  refine j_iload_n F 1 dX6_need_5 rfl ?_
  refine j_iload_n F 2 dX6_need_6 rfl ?_
  obtain ⟨r7, hc7, hm⟩ := Option.bind_eq_some_iff.mp hm
  refine j_callS F (n := 2) (As := [.int v1, .int v2]) (rest := [.int 4, .ref (g.2.1 23)]) (c_X6_at l g hg v1 v2 S r7 hc7) gw_X6_68 (by decide +kernel) ⟨Nat.le_of_ble_eq_true rfl, Nat.le_of_ble_eq_true rfl⟩ ⟨Nat.le_of_ble_eq_true rfl, Nat.le_of_ble_eq_true rfl⟩ rfl rfl (Nat.le_of_ble_eq_true rfl) dX6_need_7 ?_
  show J p l e rmX6_need s m args below meth c g A 7 (MQ below (QC g A none S') args s 0 0 A) 0 0 10 [(0, .ref (g.2.1 13)), (1, .int v1), (2, .int v2), (3, .int v3)] [.int r7, .int 4, .ref (g.2.1 23)] S
  refine j_imul F dX6_need_10 ?_
  refine j_iload_n F 3 dX6_need_11 rfl ?_
  refine j_iadd F dX6_need_12 ?_
  refine j_iald F rfl dX6_need_13 hm (fun hm => ?_)
  refine j_bnd hm (fun v4_14 hm => ?_)
  refine j_istore F (lv' := [(4, .int v4_14), (0, .ref (g.2.1 13)), (1, .int v1), (2, .int v2), (3, .int v3)]) dX6_need_14 (by decide) rfl ?_
  refine j_iload F 0 dX6_need_16 rfl ?_
  refine j_bipush F (v := -9) dX6_need_18 (by decide) ?_
  refine j_icmp_ne F (tgt := 24) dX6_need_20 (by decide) hm (fun _ hm => ?_) (fun _ hm => ?_)
  · refine j_iload F 0 dX6_need_24 rfl ?_
    refine j_bipush F (v := 10) dX6_need_26 (by decide) ?_
    refine j_idiv F dX6_need_28 (by decide) ?_
    refine j_bipush F (v := 10) dX6_need_29 (by decide) ?_
    refine j_irem F dX6_need_31 (by decide) ?_
    refine j_bnd hm (fun v5_32 hm => ?_)
    refine j_istore F (lv' := [(5, .int v5_32), (4, .int v4_14), (0, .ref (g.2.1 13)), (1, .int v1), (2, .int v2), (3, .int v3)]) dX6_need_32 (by decide) rfl ?_
    refine j_iload F 1 dX6_need_34 rfl ?_
    refine j_bipush F (v := 10) dX6_need_36 (by decide) ?_
    refine j_irem F dX6_need_38 (by decide) ?_
    refine j_bnd hm (fun v6_39 hm => ?_)
    refine j_istore F (lv' := [(6, .int v6_39), (5, .int v5_32), (4, .int v4_14), (0, .ref (g.2.1 13)), (1, .int v1), (2, .int v2), (3, .int v3)]) dX6_need_39 (by decide) rfl ?_
    refine j_iload F 2 dX6_need_41 rfl ?_
    refine j_bipush F (v := 100) dX6_need_43 (by decide) ?_
    refine j_icmp_ge F (tgt := 82) dX6_need_45 (by decide) hm (fun _ hm => ?_) (fun _ hm => ?_)
    · refine j_aload_n F 3 dX6_need_82 rfl ?_
      refine j_getR F (k0 := 16) (C := RX6) (T := TX6) (N := 20) rfl rfl rfl inF6 (by decide) tw532 dX6_need_83 ?_
      refine j_iconst F (v := 4) dX6_need_86 (by decide) ?_
      refine j_iload F 1 dX6_need_87 rfl ?_
      refine j_iload F 0 dX6_need_89 rfl ?_
      obtain ⟨r91, hc91, hm⟩ := Option.bind_eq_some_iff.mp hm
      refine j_callS F (n := 2) (As := [.int v5_32, .int v6_39]) (rest := [.int 4, .ref (g.2.1 26)]) (c_X6_at l g hg v5_32 v6_39 S r91 hc91) gw_X6_68 (by decide +kernel) ⟨Nat.le_of_ble_eq_true rfl, Nat.le_of_ble_eq_true rfl⟩ ⟨Nat.le_of_ble_eq_true rfl, Nat.le_of_ble_eq_true rfl⟩ rfl rfl (Nat.le_of_ble_eq_true rfl) dX6_need_91 ?_
      show J p l e rmX6_need s m args below meth c g A 7 (MQ below (QC g A none S') args s 0 0 A) 0 0 94 [(6, .int v6_39), (5, .int v5_32), (4, .int v4_14), (0, .ref (g.2.1 13)), (1, .int v1), (2, .int v2), (3, .int v3)] [.int r91, .int 4, .ref (g.2.1 26)] S
      refine j_imul F dX6_need_94 ?_
      refine j_iconst F (v := 1) dX6_need_95 (by decide) ?_
      refine j_iadd F dX6_need_96 ?_
      refine j_iconst F (v := 1) dX6_need_97 (by decide) ?_
      refine j_zast F rfl dX6_need_98 hm (fun hm => ?_)
      refine j_bndS hm (fun S98 hm => ?_)
      refine j_aload_n F 3 dX6_need_99 rfl ?_
      refine j_getR F (k0 := 16) (C := RX6) (T := TX6) (N := 20) rfl rfl rfl inF6 (by decide) tw532 dX6_need_100 ?_
      refine j_iconst F (v := 4) dX6_need_103 (by decide) ?_
      refine j_iload F 1 dX6_need_104 rfl ?_
      refine j_iload_n F 5 dX6_need_106 rfl ?_
      obtain ⟨r107, hc107, hm⟩ := Option.bind_eq_some_iff.mp hm
      refine j_callS F (n := 2) (As := [.int v5_32, .int v2]) (rest := [.int 4, .ref (g.2.1 26)]) (c_X6_at l g hg v5_32 v2 S98 r107 hc107) gw_X6_68 (by decide +kernel) ⟨Nat.le_of_ble_eq_true rfl, Nat.le_of_ble_eq_true rfl⟩ ⟨Nat.le_of_ble_eq_true rfl, Nat.le_of_ble_eq_true rfl⟩ rfl rfl (Nat.le_of_ble_eq_true rfl) dX6_need_107 ?_
      show J p l e rmX6_need s m args below meth c g A 7 (MQ below (QC g A none S') args s 0 0 A) 0 0 110 [(6, .int v6_39), (5, .int v5_32), (4, .int v4_14), (0, .ref (g.2.1 13)), (1, .int v1), (2, .int v2), (3, .int v3)] [.int r107, .int 4, .ref (g.2.1 26)] S98
      refine j_imul F dX6_need_110 ?_
      refine j_iload_n F 6 dX6_need_111 rfl ?_
      refine j_iadd F dX6_need_112 ?_
      refine j_iconst F (v := 1) dX6_need_113 (by decide) ?_
      refine j_zast F rfl dX6_need_114 hm (fun hm => ?_)
      refine j_bndS hm (fun S114 hm => ?_)
      refine j_sub [] rfl ?_
      exact hj115 S114  hm
    · refine j_aload_n F 3 dX6_need_48 rfl ?_
      refine j_getR F (k0 := 16) (C := RX6) (T := TX6) (N := 20) rfl rfl rfl inF6 (by decide) tw532 dX6_need_49 ?_
      refine j_iconst F (v := 4) dX6_need_52 (by decide) ?_
      refine j_iload F 1 dX6_need_53 rfl ?_
      refine j_iload F 0 dX6_need_55 rfl ?_
      obtain ⟨r57, hc57, hm⟩ := Option.bind_eq_some_iff.mp hm
      refine j_callS F (n := 2) (As := [.int v5_32, .int v6_39]) (rest := [.int 4, .ref (g.2.1 26)]) (c_X6_at l g hg v5_32 v6_39 S r57 hc57) gw_X6_68 (by decide +kernel) ⟨Nat.le_of_ble_eq_true rfl, Nat.le_of_ble_eq_true rfl⟩ ⟨Nat.le_of_ble_eq_true rfl, Nat.le_of_ble_eq_true rfl⟩ rfl rfl (Nat.le_of_ble_eq_true rfl) dX6_need_57 ?_
      show J p l e rmX6_need s m args below meth c g A 7 (MQ below (QC g A none S') args s 0 0 A) 0 0 60 [(6, .int v6_39), (5, .int v5_32), (4, .int v4_14), (0, .ref (g.2.1 13)), (1, .int v1), (2, .int v2), (3, .int v3)] [.int r57, .int 4, .ref (g.2.1 26)] S
      refine j_imul F dX6_need_60 ?_
      refine j_iconst F (v := 1) dX6_need_61 (by decide) ?_
      refine j_zast F rfl dX6_need_62 hm (fun hm => ?_)
      refine j_bndS hm (fun S62 hm => ?_)
      refine j_aload_n F 3 dX6_need_63 rfl ?_
      refine j_getR F (k0 := 16) (C := RX6) (T := TX6) (N := 20) rfl rfl rfl inF6 (by decide) tw532 dX6_need_64 ?_
      refine j_iconst F (v := 4) dX6_need_67 (by decide) ?_
      refine j_iload F 0 dX6_need_68 rfl ?_
      refine j_iload_n F 5 dX6_need_70 rfl ?_
      obtain ⟨r71, hc71, hm⟩ := Option.bind_eq_some_iff.mp hm
      refine j_callS F (n := 2) (As := [.int v6_39, .int v2]) (rest := [.int 4, .ref (g.2.1 26)]) (c_X6_at l g hg v6_39 v2 S62 r71 hc71) gw_X6_68 (by decide +kernel) ⟨Nat.le_of_ble_eq_true rfl, Nat.le_of_ble_eq_true rfl⟩ ⟨Nat.le_of_ble_eq_true rfl, Nat.le_of_ble_eq_true rfl⟩ rfl rfl (Nat.le_of_ble_eq_true rfl) dX6_need_71 ?_
      show J p l e rmX6_need s m args below meth c g A 7 (MQ below (QC g A none S') args s 0 0 A) 0 0 74 [(6, .int v6_39), (5, .int v5_32), (4, .int v4_14), (0, .ref (g.2.1 13)), (1, .int v1), (2, .int v2), (3, .int v3)] [.int r71, .int 4, .ref (g.2.1 26)] S62
      refine j_imul F dX6_need_74 ?_
      refine j_iload_n F 6 dX6_need_75 rfl ?_
      refine j_iadd F dX6_need_76 ?_
      refine j_iconst F (v := 1) dX6_need_77 (by decide) ?_
      refine j_zast F rfl dX6_need_78 hm (fun hm => ?_)
      refine j_bndS hm (fun S78 hm => ?_)
      refine j_goto F (tgt := 115) dX6_need_79 (by decide) ?_
      refine j_sub [] rfl ?_
      exact hj115 S78  hm
  · exact j_vret_e F rfl dX6_need_23 hm
def m_X6_proof_L44 (v1 : Int32) (v2 : Int32) (v3 : Int32) (v4 : Int32) (S : Hs) : Option ((Int32 × Hs) ⊕ Hs) := if 196 ≤ v4 then (some (.inr S)) else (gd (inb v4 196) (bnd (sA S 26 v4.toNatClampNeg (vp_nar .boolean 0)) fun S59 => (some (.inl ((v4 + 1, S59))))))
def m_X6_proof_J147 (v4 : Int32) (v5 : Int32) (S : Hs) : Option ((Int32 × Hs) ⊕ Hs) := some (.inl ((v5 + 1, S)))
def m_X6_proof_L95 (v4 : Int32) (v5 : Int32) (S : Hs) : Option ((Int32 × Hs) ⊕ Hs) := if 196 ≤ v5 then (some (.inr S)) else (gd (inb v5 196) (if (gA S 26 v5.toNatClampNeg) = 0 then (m_X6_proof_J147 v4 v5 S) else (gd (inb v5 196) (if (gA S 22 v5.toNatClampNeg) = v4 then ((m_X6_need ((v5 / 4) / 7) (irm (v5 / 4) 7) (irm v5 4) S).bind fun S144 => (m_X6_proof_J147 v4 v5 S144)) else (m_X6_proof_J147 v4 v5 S)))))
noncomputable def m_X6_proof_L87 (v4 : Int32) (S : Hs) : Option ((Int32 × Hs) ⊕ Hs) := if v4 ≤ 0 then (some (.inr S)) else ((loopO (fun x => m_X6_proof_L95 v4 x.1 x.2) ((0, S))).bind fun y95 => some (.inl ((v4 + (-1), y95))))
def m_X6_proof_J202 (v5 : Int32) (w0 : Int32) (w1 : Int32) (S : Hs) : Option ((Int32 × Int32) ⊕ Int32) := bnd (w1 + w0) fun v4_203 => (some (.inl ((v4_203, v5 + 1))))
def m_X6_proof_J201 (v5 : Int32) (w0 : Int32) (S : Hs) : Option ((Int32 × Int32) ⊕ Int32) := m_X6_proof_J202 v5 0 w0 S
def m_X6_proof_L165 (S : Hs) (v4 : Int32) (v5 : Int32) : Option ((Int32 × Int32) ⊕ Int32) := if 196 ≤ v5 then (some (.inr v4)) else (gd (inb v5 196) (if (gA S 26 v5.toNatClampNeg) = 0 then (m_X6_proof_J201 v5 v4 S) else (gd (inb v5 196) (if (gA S 23 v5.toNatClampNeg) = ((-9)) then (m_X6_proof_J201 v5 v4 S) else (m_X6_proof_J202 v5 1 v4 S)))))
noncomputable def m_X6_proof (v1 : Int32) (v2 : Int32) (v3 : Int32) (S : Hs) : Option (Int32 × Hs) := (m_X6_whyNotRight v1 v2 v3 S).bind fun r5 => (bnd (sI S 13 0 r5) fun S8 => (if (gI S8 13 0) ≤ 0 then ((m_X6_awakeSet  S8).bind fun r22 => ((m_X6_spread r22 S8).bind fun S25 => ((m_X6_ends v1 v2 v3 S25).bind fun r32 => (if r32 = 0 then (some (((-9), S25))) else ((loopO (fun x => m_X6_proof_L44 v1 v2 v3 x.1 x.2) ((0, S25))).bind fun y44 => (m_X6_at v1 v3).bind fun r73 => (gd (inb ((4 * r73) + v2) 196) (bnd (sA y44 26 ((4 * r73) + v2).toNatClampNeg (vp_nar .boolean 1)) fun S80 => (bnd (gI S80 13 13) fun v4_85 => ((loopO (fun x => m_X6_proof_L87 x.1 x.2) ((v4_85, S80))).bind fun y87 => (loopO (fun x => m_X6_proof_L165 y87 x.1 x.2) ((0, 0))).bind fun y165 => some ((y165, y87))))))))))) else (some ((0, S8)))))
set_option maxRecDepth 100000 in
set_option maxHeartbeats 4000000 in
theorem c_X6_proof (l : Launch) (g : GG) (hg : Inj g) (v1 : Int32) (v2 : Int32) (v3 : Int32)  (S : Hs) (r : Int32) (S' : Hs) (hm : m_X6_proof v1 v2 v3 S = some ((r, S'))) : CM l yX6_proof [.code yX6_proof cX6_proof 6 (some .int)] rmX6_proof [.ref (g.2.1 13), .int v1, .int v2, .int v3] g S (some (.int r)) S' := by
  unfold m_X6_proof at hm
  refine CM.of (cc := cX6_proof) (nL := 6) (ret := (some .int)) (lv := [(0, .ref (g.2.1 13)), (1, .int v1), (2, .int v2), (3, .int v3)]) (by decide +kernel) hg (Nat.le_of_ble_eq_true rfl) rfl (fun p e s m args below meth c A F => ?_)
  replace F : Fx p s m meth c cX6_proof RX6 6 (some .int) g A := F
  show J p l e rmX6_proof s m args below meth c g A 6 (MQ below (QC g A (some (.int r)) S') args s 0 0 A) 0 0 0 [(0, .ref (g.2.1 13)), (1, .int v1), (2, .int v2), (3, .int v3)] [] S
  refine j_aload_n F 0 dX6_proof_0 rfl ?_
  refine j_aload_n F 0 dX6_proof_1 rfl ?_
  refine j_iload_n F 1 dX6_proof_2 rfl ?_
  refine j_iload_n F 2 dX6_proof_3 rfl ?_
  refine j_iload_n F 3 dX6_proof_4 rfl ?_
  obtain ⟨r5, hc5, hm⟩ := Option.bind_eq_some_iff.mp hm
  refine j_callV F (n := 3) (As := [.int v1, .int v2, .int v3]) (rest := [.ref (g.2.1 13)]) (c_X6_whyNotRight l g hg v1 v2 v3 S r5 hc5) gw_X6_145 (by decide +kernel) ⟨Nat.le_of_ble_eq_true rfl, Nat.le_of_ble_eq_true rfl⟩ ⟨Nat.le_of_ble_eq_true rfl, Nat.le_of_ble_eq_true rfl⟩ rfl rfl rfl rfl (Nat.le_of_ble_eq_true rfl) dX6_proof_5 ?_
  show J p l e rmX6_proof s m args below meth c g A 6 (MQ below (QC g A (some (.int r)) S') args s 0 0 A) 0 0 8 [(0, .ref (g.2.1 13)), (1, .int v1), (2, .int v2), (3, .int v3)] [.int r5, .ref (g.2.1 13)] S
  refine j_putI F (k0 := 0) (C := RX6) (T := TX6) (N := 20) tyX6 tyX6_ok nmX6 rfl rfl rfl inF6 (by decide) tw535 rfl (by decide +kernel) dX6_proof_8 ?_
  refine j_bndS hm (fun S8 hm => ?_)
  refine j_aload_n F 0 dX6_proof_11 rfl ?_
  refine j_getI F (k0 := 0) (C := RX6) (T := TX6) (N := 20) rfl rfl rfl inF6 (by decide) tw535 dX6_proof_12 ?_
  refine j_if_le F (tgt := 20) dX6_proof_15 (by decide) hm (fun _ hm => ?_) (fun _ hm => ?_)
  · refine j_aload_n F 0 dX6_proof_20 rfl ?_
    refine j_aload_n F 0 dX6_proof_21 rfl ?_
    obtain ⟨r22, hc22, hm⟩ := Option.bind_eq_some_iff.mp hm
    refine j_callV F (n := 0) (As := []) (rest := [.ref (g.2.1 13)]) (c_X6_awakeSet l g hg S8 r22 hc22) gw_X6_125 (by decide +kernel) ⟨Nat.le_of_ble_eq_true rfl, Nat.le_of_ble_eq_true rfl⟩ ⟨Nat.le_of_ble_eq_true rfl, Nat.le_of_ble_eq_true rfl⟩ rfl rfl rfl rfl (Nat.le_of_ble_eq_true rfl) dX6_proof_22 ?_
    show J p l e rmX6_proof s m args below meth c g A 6 (MQ below (QC g A (some (.int r)) S') args s 0 0 A) 0 0 25 [(0, .ref (g.2.1 13)), (1, .int v1), (2, .int v2), (3, .int v3)] [.int r22, .ref (g.2.1 13)] S8
    obtain ⟨S25, hc25, hm⟩ := Option.bind_eq_some_iff.mp hm
    refine j_callV F (n := 1) (As := [.int r22]) (rest := []) (c_X6_spread l g hg r22 S8 S25 hc25) gw_X6_128 (by decide +kernel) ⟨Nat.le_of_ble_eq_true rfl, Nat.le_of_ble_eq_true rfl⟩ ⟨Nat.le_of_ble_eq_true rfl, Nat.le_of_ble_eq_true rfl⟩ rfl rfl rfl rfl (Nat.le_of_ble_eq_true rfl) dX6_proof_25 ?_
    show J p l e rmX6_proof s m args below meth c g A 6 (MQ below (QC g A (some (.int r)) S') args s 0 0 A) 0 0 28 [(0, .ref (g.2.1 13)), (1, .int v1), (2, .int v2), (3, .int v3)] [] S25
    refine j_aload_n F 0 dX6_proof_28 rfl ?_
    refine j_iload_n F 1 dX6_proof_29 rfl ?_
    refine j_iload_n F 2 dX6_proof_30 rfl ?_
    refine j_iload_n F 3 dX6_proof_31 rfl ?_
    obtain ⟨r32, hc32, hm⟩ := Option.bind_eq_some_iff.mp hm
    refine j_callV F (n := 3) (As := [.int v1, .int v2, .int v3]) (rest := []) (c_X6_ends l g hg v1 v2 v3 S25 r32 hc32) gw_X6_80 (by decide +kernel) ⟨Nat.le_of_ble_eq_true rfl, Nat.le_of_ble_eq_true rfl⟩ ⟨Nat.le_of_ble_eq_true rfl, Nat.le_of_ble_eq_true rfl⟩ rfl rfl rfl rfl (Nat.le_of_ble_eq_true rfl) dX6_proof_32 ?_
    show J p l e rmX6_proof s m args below meth c g A 6 (MQ below (QC g A (some (.int r)) S') args s 0 0 A) 0 0 35 [(0, .ref (g.2.1 13)), (1, .int v1), (2, .int v2), (3, .int v3)] [.int r32] S25
    refine j_if_ne F (tgt := 41) dX6_proof_35 (by decide) hm (fun _ hm => ?_) (fun _ hm => ?_)
    · refine j_iconst F (v := 0) dX6_proof_41 (by decide) ?_
      refine j_istore F (lv' := [(4, .int 0), (0, .ref (g.2.1 13)), (1, .int v1), (2, .int v2), (3, .int v3)]) dX6_proof_42 (by decide) rfl ?_
      refine j_sub [1, 2, 3, 4, 0] rfl ?_
      obtain ⟨y44, hlp44, hm⟩ := Option.bind_eq_some_iff.mp hm
      refine loopO_walk (fun x => m_X6_proof_L44 v1 v2 v3 x.1 x.2) (fun x => J p l e rmX6_proof s m args below meth c g A 6 (MQ below (QC g A (some (.int r)) S') args s 0 0 A) 0 0 44 [(0, .ref (g.2.1 13)), (1, .int v1), (2, .int v2), (3, .int v3), (4, .int x.1)] [] x.2) (fun x => J p l e rmX6_proof s m args below meth c g A 6 (MQ below (QC g A (some (.int r)) S') args s 0 0 A) 0 0 66 [(0, .ref (g.2.1 13)), (1, .int v1), (2, .int v2), (3, .int v3)] [] x) (fun x o1 hm hk1 => ?_) hlp44 ?_
      · obtain ⟨v4, S⟩ := x
        replace hm : m_X6_proof_L44 v1 v2 v3 v4 S = some o1 := hm
        show J p l e rmX6_proof s m args below meth c g A 6 (MQ below (QC g A (some (.int r)) S') args s 0 0 A) 0 0 44 [(0, .ref (g.2.1 13)), (1, .int v1), (2, .int v2), (3, .int v3), (4, .int v4)] [] S
        unfold m_X6_proof_L44 at hm
        refine j_iload F 4 dX6_proof_44 rfl ?_
        refine j_sipush F (v := 196) dX6_proof_46 (by decide) ?_
        refine j_icmp_ge F (tgt := 66) dX6_proof_49 (by decide) hm (fun _ hm => ?_) (fun _ hm => ?_)
        · cases hm
          refine j_sub [0, 1, 2, 3] rfl ?_
          exact hk1
        · refine j_aload_n F 0 dX6_proof_52 rfl ?_
          refine j_getR F (k0 := 16) (C := RX6) (T := TX6) (N := 20) rfl rfl rfl inF6 (by decide) tw532 dX6_proof_53 ?_
          refine j_iload F 4 dX6_proof_56 rfl ?_
          refine j_iconst F (v := 0) dX6_proof_58 (by decide) ?_
          refine j_zast F rfl dX6_proof_59 hm (fun hm => ?_)
          refine j_bndS hm (fun S59 hm => ?_)
          refine j_iinc F (v := v4 + 1) (lv' := [(4, .int (v4 + 1)), (0, .ref (g.2.1 13)), (1, .int v1), (2, .int v2), (3, .int v3)]) 4 dX6_proof_60 rfl rfl (by decide) rfl ?_
          refine j_goto F (tgt := 44) dX6_proof_63 (by decide) ?_
          cases hm
          refine j_sub [1, 2, 3, 4, 0] rfl ?_
          exact hk1
      · show J p l e rmX6_proof s m args below meth c g A 6 (MQ below (QC g A (some (.int r)) S') args s 0 0 A) 0 0 66 [(0, .ref (g.2.1 13)), (1, .int v1), (2, .int v2), (3, .int v3)] [] y44
        refine j_aload_n F 0 dX6_proof_66 rfl ?_
        refine j_getR F (k0 := 16) (C := RX6) (T := TX6) (N := 20) rfl rfl rfl inF6 (by decide) tw532 dX6_proof_67 ?_
        refine j_iconst F (v := 4) dX6_proof_70 (by decide) ?_
        refine j_iload_n F 1 dX6_proof_71 rfl ?_
        refine j_iload_n F 3 dX6_proof_72 rfl ?_
        obtain ⟨r73, hc73, hm⟩ := Option.bind_eq_some_iff.mp hm
        refine j_callS F (n := 2) (As := [.int v1, .int v3]) (rest := [.int 4, .ref (g.2.1 26)]) (c_X6_at l g hg v1 v3 y44 r73 hc73) gw_X6_68 (by decide +kernel) ⟨Nat.le_of_ble_eq_true rfl, Nat.le_of_ble_eq_true rfl⟩ ⟨Nat.le_of_ble_eq_true rfl, Nat.le_of_ble_eq_true rfl⟩ rfl rfl (Nat.le_of_ble_eq_true rfl) dX6_proof_73 ?_
        show J p l e rmX6_proof s m args below meth c g A 6 (MQ below (QC g A (some (.int r)) S') args s 0 0 A) 0 0 76 [(0, .ref (g.2.1 13)), (1, .int v1), (2, .int v2), (3, .int v3)] [.int r73, .int 4, .ref (g.2.1 26)] y44
        refine j_imul F dX6_proof_76 ?_
        refine j_iload_n F 2 dX6_proof_77 rfl ?_
        refine j_iadd F dX6_proof_78 ?_
        refine j_iconst F (v := 1) dX6_proof_79 (by decide) ?_
        refine j_zast F rfl dX6_proof_80 hm (fun hm => ?_)
        refine j_bndS hm (fun S80 hm => ?_)
        refine j_aload_n F 0 dX6_proof_81 rfl ?_
        refine j_getI F (k0 := 13) (C := RX6) (T := TX6) (N := 20) rfl rfl rfl inF6 (by decide) tw569 dX6_proof_82 ?_
        refine j_bnd hm (fun v4_85 hm => ?_)
        refine j_istore F (lv' := [(4, .int v4_85), (0, .ref (g.2.1 13)), (1, .int v1), (2, .int v2), (3, .int v3)]) dX6_proof_85 (by decide) rfl ?_
        refine j_sub [1, 0] rfl ?_
        obtain ⟨y87, hlp87, hm⟩ := Option.bind_eq_some_iff.mp hm
        refine loopO_walk (fun x => m_X6_proof_L87 x.1 x.2) (fun x => J p l e rmX6_proof s m args below meth c g A 6 (MQ below (QC g A (some (.int r)) S') args s 0 0 A) 0 0 87 [(0, .ref (g.2.1 13)), (4, .int x.1)] [] x.2) (fun x => J p l e rmX6_proof s m args below meth c g A 6 (MQ below (QC g A (some (.int r)) S') args s 0 0 A) 0 0 159 [(0, .ref (g.2.1 13))] [] x) (fun x o1 hm hk1 => ?_) hlp87 ?_
        · obtain ⟨v4, S⟩ := x
          replace hm : m_X6_proof_L87 v4 S = some o1 := hm
          show J p l e rmX6_proof s m args below meth c g A 6 (MQ below (QC g A (some (.int r)) S') args s 0 0 A) 0 0 87 [(0, .ref (g.2.1 13)), (4, .int v4)] [] S
          unfold m_X6_proof_L87 at hm
          refine j_iload F 1 dX6_proof_87 rfl ?_
          refine j_if_le F (tgt := 159) dX6_proof_89 (by decide) hm (fun _ hm => ?_) (fun _ hm => ?_)
          · cases hm
            refine j_sub [0] rfl ?_
            exact hk1
          · refine j_iconst F (v := 0) dX6_proof_92 (by decide) ?_
            refine j_istore F (lv' := [(5, .int 0), (0, .ref (g.2.1 13)), (4, .int v4)]) dX6_proof_93 (by decide) rfl ?_
            refine j_sub [1, 2, 0] rfl ?_
            obtain ⟨y95, hlp95, hm⟩ := Option.bind_eq_some_iff.mp hm
            refine loopO_walk (fun x => m_X6_proof_L95 v4 x.1 x.2) (fun x => J p l e rmX6_proof s m args below meth c g A 6 (MQ below (QC g A (some (.int r)) S') args s 0 0 A) 0 0 95 [(0, .ref (g.2.1 13)), (4, .int v4), (5, .int x.1)] [] x.2) (fun x => J p l e rmX6_proof s m args below meth c g A 6 (MQ below (QC g A (some (.int r)) S') args s 0 0 A) 0 0 153 [(0, .ref (g.2.1 13)), (4, .int v4)] [] x) (fun x o2 hm hk2 => ?_) hlp95 ?_
            · obtain ⟨v5, S⟩ := x
              replace hm : m_X6_proof_L95 v4 v5 S = some o2 := hm
              show J p l e rmX6_proof s m args below meth c g A 6 (MQ below (QC g A (some (.int r)) S') args s 0 0 A) 0 0 95 [(0, .ref (g.2.1 13)), (4, .int v4), (5, .int v5)] [] S
              unfold m_X6_proof_L95 at hm
              have hj147 : ∀ (v5 : Int32) (S : Hs), m_X6_proof_J147 v4 v5 S = some o2 → J p l e rmX6_proof s m args below meth c g A 6 (MQ below (QC g A (some (.int r)) S') args s 0 0 A) 0 0 147 [(0, .ref (g.2.1 13)), (4, .int v4), (5, .int v5)] [] S := by
                intro v5 S hm
                unfold m_X6_proof_J147 at hm
                refine j_iinc F (v := v5 + 1) (lv' := [(5, .int (v5 + 1)), (0, .ref (g.2.1 13)), (4, .int v4)]) 2 dX6_proof_147 rfl rfl (by decide) rfl ?_
                refine j_goto F (tgt := 95) dX6_proof_150 (by decide) ?_
                cases hm
                refine j_sub [1, 2, 0] rfl ?_
                exact hk2
              refine j_iload F 2 dX6_proof_95 rfl ?_
              refine j_sipush F (v := 196) dX6_proof_97 (by decide) ?_
              refine j_icmp_ge F (tgt := 153) dX6_proof_100 (by decide) hm (fun _ hm => ?_) (fun _ hm => ?_)
              · cases hm
                refine j_sub [0, 1] rfl ?_
                exact hk2
              · refine j_aload_n F 0 dX6_proof_103 rfl ?_
                refine j_getR F (k0 := 16) (C := RX6) (T := TX6) (N := 20) rfl rfl rfl inF6 (by decide) tw532 dX6_proof_104 ?_
                refine j_iload F 2 dX6_proof_107 rfl ?_
                refine j_zald F rfl dX6_proof_109 hm (fun hm => ?_)
                refine j_if_eq F (tgt := 147) dX6_proof_110 (by decide) hm (fun _ hm => ?_) (fun _ hm => ?_)
                · refine j_sub [0, 1, 2] rfl ?_
                  exact hj147 v5 S  hm
                · refine j_aload_n F 0 dX6_proof_113 rfl ?_
                  refine j_getR F (k0 := 11) (C := RX6) (T := TX6) (N := 20) rfl rfl rfl inF6 (by decide) tw528 dX6_proof_114 ?_
                  refine j_iload F 2 dX6_proof_117 rfl ?_
                  refine j_iald F rfl dX6_proof_119 hm (fun hm => ?_)
                  refine j_iload F 1 dX6_proof_120 rfl ?_
                  refine j_icmp_ne F (tgt := 147) dX6_proof_122 (by decide) hm (fun _ hm => ?_) (fun _ hm => ?_)
                  · refine j_sub [0, 1, 2] rfl ?_
                    exact hj147 v5 S  hm
                  · refine j_aload_n F 0 dX6_proof_125 rfl ?_
                    refine j_iload F 2 dX6_proof_126 rfl ?_
                    refine j_iconst F (v := 4) dX6_proof_128 (by decide) ?_
                    refine j_idiv F dX6_proof_129 (by decide) ?_
                    refine j_bipush F (v := 7) dX6_proof_130 (by decide) ?_
                    refine j_idiv F dX6_proof_132 (by decide) ?_
                    refine j_iload F 2 dX6_proof_133 rfl ?_
                    refine j_iconst F (v := 4) dX6_proof_135 (by decide) ?_
                    refine j_idiv F dX6_proof_136 (by decide) ?_
                    refine j_bipush F (v := 7) dX6_proof_137 (by decide) ?_
                    refine j_irem F dX6_proof_139 (by decide) ?_
                    refine j_iload F 2 dX6_proof_140 rfl ?_
                    refine j_iconst F (v := 4) dX6_proof_142 (by decide) ?_
                    refine j_irem F dX6_proof_143 (by decide) ?_
                    obtain ⟨S144, hc144, hm⟩ := Option.bind_eq_some_iff.mp hm
                    refine j_callV F (n := 3) (As := [.int ((v5 / 4) / 7), .int (irm (v5 / 4) 7), .int (irm v5 4)]) (rest := []) (c_X6_need l g hg ((v5 / 4) / 7) (irm (v5 / 4) 7) (irm v5 4) S S144 hc144) gw_X6_149 (by decide +kernel) ⟨Nat.le_of_ble_eq_true rfl, Nat.le_of_ble_eq_true rfl⟩ ⟨Nat.le_of_ble_eq_true rfl, Nat.le_of_ble_eq_true rfl⟩ rfl rfl rfl rfl (Nat.le_of_ble_eq_true rfl) dX6_proof_144 ?_
                    show J p l e rmX6_proof s m args below meth c g A 6 (MQ below (QC g A (some (.int r)) S') args s 0 0 A) 0 0 147 [(0, .ref (g.2.1 13)), (4, .int v4), (5, .int v5)] [] S144
                    refine j_sub [0, 1, 2] rfl ?_
                    exact hj147 v5 S144  hm
            · show J p l e rmX6_proof s m args below meth c g A 6 (MQ below (QC g A (some (.int r)) S') args s 0 0 A) 0 0 153 [(0, .ref (g.2.1 13)), (4, .int v4)] [] y95
              refine j_iinc F (v := v4 + (-1)) (lv' := [(4, .int (v4 + (-1))), (0, .ref (g.2.1 13))]) 1 dX6_proof_153 rfl rfl (by decide) rfl ?_
              refine j_goto F (tgt := 87) dX6_proof_156 (by decide) ?_
              cases hm
              refine j_sub [1, 0] rfl ?_
              exact hk1
        · show J p l e rmX6_proof s m args below meth c g A 6 (MQ below (QC g A (some (.int r)) S') args s 0 0 A) 0 0 159 [(0, .ref (g.2.1 13))] [] y87
          refine j_iconst F (v := 0) dX6_proof_159 (by decide) ?_
          refine j_istore F (lv' := [(4, .int 0), (0, .ref (g.2.1 13))]) dX6_proof_160 (by decide) rfl ?_
          refine j_iconst F (v := 0) dX6_proof_162 (by decide) ?_
          refine j_istore F (lv' := [(5, .int 0), (4, .int 0), (0, .ref (g.2.1 13))]) dX6_proof_163 (by decide) rfl ?_
          refine j_sub [2, 1, 0] rfl ?_
          obtain ⟨y165, hlp165, hm⟩ := Option.bind_eq_some_iff.mp hm
          refine loopO_walk (fun x => m_X6_proof_L165 y87 x.1 x.2) (fun x => J p l e rmX6_proof s m args below meth c g A 6 (MQ below (QC g A (some (.int r)) S') args s 0 0 A) 0 0 165 [(0, .ref (g.2.1 13)), (4, .int x.1), (5, .int x.2)] [] y87) (fun x => J p l e rmX6_proof s m args below meth c g A 6 (MQ below (QC g A (some (.int r)) S') args s 0 0 A) 0 0 211 [(4, .int x)] [] y87) (fun x o1 hm hk1 => ?_) hlp165 ?_
          · obtain ⟨v4, v5⟩ := x
            replace hm : m_X6_proof_L165 y87 v4 v5 = some o1 := hm
            show J p l e rmX6_proof s m args below meth c g A 6 (MQ below (QC g A (some (.int r)) S') args s 0 0 A) 0 0 165 [(0, .ref (g.2.1 13)), (4, .int v4), (5, .int v5)] [] y87
            unfold m_X6_proof_L165 at hm
            have hj202 : ∀ (v5 : Int32) (w0 : Int32) (w1 : Int32), m_X6_proof_J202 v5 w0 w1 y87 = some o1 → J p l e rmX6_proof s m args below meth c g A 6 (MQ below (QC g A (some (.int r)) S') args s 0 0 A) 0 0 202 [(0, .ref (g.2.1 13)), (5, .int v5)] [.int w0, .int w1] y87 := by
              intro v5 w0 w1 hm
              unfold m_X6_proof_J202 at hm
              refine j_iadd F dX6_proof_202 ?_
              refine j_bnd hm (fun v4_203 hm => ?_)
              refine j_istore F (lv' := [(4, .int v4_203), (0, .ref (g.2.1 13)), (5, .int v5)]) dX6_proof_203 (by decide) rfl ?_
              refine j_iinc F (v := v5 + 1) (lv' := [(5, .int (v5 + 1)), (4, .int v4_203), (0, .ref (g.2.1 13))]) 2 dX6_proof_205 rfl rfl (by decide) rfl ?_
              refine j_goto F (tgt := 165) dX6_proof_208 (by decide) ?_
              cases hm
              refine j_sub [2, 1, 0] rfl ?_
              exact hk1
            have hj201 : ∀ (v5 : Int32) (w0 : Int32), m_X6_proof_J201 v5 w0 y87 = some o1 → J p l e rmX6_proof s m args below meth c g A 6 (MQ below (QC g A (some (.int r)) S') args s 0 0 A) 0 0 201 [(0, .ref (g.2.1 13)), (5, .int v5)] [.int w0] y87 := by
              intro v5 w0 hm
              unfold m_X6_proof_J201 at hm
              refine j_iconst F (v := 0) dX6_proof_201 (by decide) ?_
              refine j_sub [0, 1] rfl ?_
              exact hj202 v5 0 w0  hm
            refine j_iload F 2 dX6_proof_165 rfl ?_
            refine j_sipush F (v := 196) dX6_proof_167 (by decide) ?_
            refine j_icmp_ge F (tgt := 211) dX6_proof_170 (by decide) hm (fun _ hm => ?_) (fun _ hm => ?_)
            · cases hm
              refine j_sub [1] rfl ?_
              exact hk1
            · refine j_iload F 1 dX6_proof_173 rfl ?_
              refine j_aload_n F 0 dX6_proof_175 rfl ?_
              refine j_getR F (k0 := 16) (C := RX6) (T := TX6) (N := 20) rfl rfl rfl inF6 (by decide) tw532 dX6_proof_176 ?_
              refine j_iload F 2 dX6_proof_179 rfl ?_
              refine j_zald F rfl dX6_proof_181 hm (fun hm => ?_)
              refine j_if_eq F (tgt := 201) dX6_proof_182 (by decide) hm (fun _ hm => ?_) (fun _ hm => ?_)
              · refine j_sub [0, 2] rfl ?_
                exact hj201 v5 v4  hm
              · refine j_aload_n F 0 dX6_proof_185 rfl ?_
                refine j_getR F (k0 := 12) (C := RX6) (T := TX6) (N := 20) rfl rfl rfl inF6 (by decide) tw529 dX6_proof_186 ?_
                refine j_iload F 2 dX6_proof_189 rfl ?_
                refine j_iald F rfl dX6_proof_191 hm (fun hm => ?_)
                refine j_bipush F (v := -9) dX6_proof_192 (by decide) ?_
                refine j_icmp_eq F (tgt := 201) dX6_proof_194 (by decide) hm (fun _ hm => ?_) (fun _ hm => ?_)
                · refine j_sub [0, 2] rfl ?_
                  exact hj201 v5 v4  hm
                · refine j_iconst F (v := 1) dX6_proof_197 (by decide) ?_
                  refine j_goto F (tgt := 202) dX6_proof_198 (by decide) ?_
                  refine j_sub [0, 2] rfl ?_
                  exact hj202 v5 1 v4  hm
          · show J p l e rmX6_proof s m args below meth c g A 6 (MQ below (QC g A (some (.int r)) S') args s 0 0 A) 0 0 211 [(4, .int y165)] [] y87
            refine j_iload F 0 dX6_proof_211 rfl ?_
            exact j_iret_e F rfl dX6_proof_213 hm
    · refine j_bipush F (v := -9) dX6_proof_38 (by decide) ?_
      exact j_iret_e F rfl dX6_proof_40 hm
  · refine j_iconst F (v := 0) dX6_proof_18 (by decide) ?_
    exact j_iret_e F rfl dX6_proof_19 hm
def m_X6_addThing_J54 (w0 : Int32) (w1 : Int32) (S : Hs) : Option (Int32 × Hs) := gd (inb w1 57) (bnd (sA S 14 w1.toNatClampNeg w0) fun S54 => (gd (inb 0 57) (gd (inb 0 57) (bnd (sA S54 14 (0 : Int32).toNatClampNeg ((gA S54 14 (0 : Int32).toNatClampNeg) + 1)) fun S64 => (gd (inb 0 57) (some (((gA S64 14 (0 : Int32).toNatClampNeg) - 1, S64))))))))
noncomputable def m_X6_addThing_J17 (v1 : Int32) (w0 : Int32) (S : Hs) : Option (Int32 × Hs) := bnd (sI S 13 0 w0) fun S17 => (if (gI S17 13 0) ≤ 0 then ((m_X6_remember  S17).bind fun S30 => (gd (inb 0 57) (if v1 = 0 then (m_X6_addThing_J54 0 (1 + (gA S30 14 (0 : Int32).toNatClampNeg)) S30) else (m_X6_addThing_J54 1 (1 + (gA S30 14 (0 : Int32).toNatClampNeg)) S30)))) else (some ((0, S17))))
noncomputable def m_X6_addThing (v1 : Int32) (S : Hs) : Option (Int32 × Hs) := gd (inb 0 57) (if (gA S 14 (0 : Int32).toNatClampNeg) = 7 then (m_X6_addThing_J17 v1 1 S) else (m_X6_addThing_J17 v1 0 S))
set_option maxRecDepth 100000 in
set_option maxHeartbeats 4000000 in
theorem c_X6_addThing (l : Launch) (g : GG) (hg : Inj g) (v1 : Int32)  (S : Hs) (r : Int32) (S' : Hs) (hm : m_X6_addThing v1 S = some ((r, S'))) : CM l yX6_addThing [.code yX6_addThing cX6_addThing 2 (some .int)] rmX6_addThing [.ref (g.2.1 13), .int v1] g S (some (.int r)) S' := by
  unfold m_X6_addThing at hm
  refine CM.of (cc := cX6_addThing) (nL := 2) (ret := (some .int)) (lv := [(0, .ref (g.2.1 13)), (1, .int v1)]) (by decide +kernel) hg (Nat.le_of_ble_eq_true rfl) rfl (fun p e s m args below meth c A F => ?_)
  replace F : Fx p s m meth c cX6_addThing RX6 2 (some .int) g A := F
  show J p l e rmX6_addThing s m args below meth c g A 2 (MQ below (QC g A (some (.int r)) S') args s 0 0 A) 0 0 0 [(0, .ref (g.2.1 13)), (1, .int v1)] [] S
  have hj54 : ∀ (w0 : Int32) (w1 : Int32) (S : Hs), m_X6_addThing_J54 w0 w1 S = some ((r, S')) → J p l e rmX6_addThing s m args below meth c g A 2 (MQ below (QC g A (some (.int r)) S') args s 0 0 A) 0 0 54 [(0, .ref (g.2.1 13))] [.int w0, .int w1, .ref (g.2.1 14)] S := by
    intro w0 w1 S hm
    unfold m_X6_addThing_J54 at hm
    refine j_iast F rfl dX6_addThing_54 hm (fun hm => ?_)
    refine j_bndS hm (fun S54 hm => ?_)
    refine j_aload_n F 0 dX6_addThing_55 rfl ?_
    refine j_getR F (k0 := 1) (C := RX6) (T := TX6) (N := 20) rfl rfl rfl inF6 (by decide) tw520 dX6_addThing_56 ?_
    refine j_iconst F (v := 0) dX6_addThing_59 (by decide) ?_
    refine j_dup2 F dX6_addThing_60 rfl rfl ?_
    refine j_iald F rfl dX6_addThing_61 hm (fun hm => ?_)
    refine j_iconst F (v := 1) dX6_addThing_62 (by decide) ?_
    refine j_iadd F dX6_addThing_63 ?_
    refine j_iast F rfl dX6_addThing_64 hm (fun hm => ?_)
    refine j_bndS hm (fun S64 hm => ?_)
    refine j_aload_n F 0 dX6_addThing_65 rfl ?_
    refine j_getR F (k0 := 1) (C := RX6) (T := TX6) (N := 20) rfl rfl rfl inF6 (by decide) tw520 dX6_addThing_66 ?_
    refine j_iconst F (v := 0) dX6_addThing_69 (by decide) ?_
    refine j_iald F rfl dX6_addThing_70 hm (fun hm => ?_)
    refine j_iconst F (v := 1) dX6_addThing_71 (by decide) ?_
    refine j_isub F dX6_addThing_72 ?_
    exact j_iret_e F rfl dX6_addThing_73 hm
  have hj17 : ∀ (v1 : Int32) (w0 : Int32) (S : Hs), m_X6_addThing_J17 v1 w0 S = some ((r, S')) → J p l e rmX6_addThing s m args below meth c g A 2 (MQ below (QC g A (some (.int r)) S') args s 0 0 A) 0 0 17 [(0, .ref (g.2.1 13)), (1, .int v1)] [.int w0, .ref (g.2.1 13)] S := by
    intro v1 w0 S hm
    unfold m_X6_addThing_J17 at hm
    refine j_putI F (k0 := 0) (C := RX6) (T := TX6) (N := 20) tyX6 tyX6_ok nmX6 rfl rfl rfl inF6 (by decide) tw535 rfl (by decide +kernel) dX6_addThing_17 ?_
    refine j_bndS hm (fun S17 hm => ?_)
    refine j_aload_n F 0 dX6_addThing_20 rfl ?_
    refine j_getI F (k0 := 0) (C := RX6) (T := TX6) (N := 20) rfl rfl rfl inF6 (by decide) tw535 dX6_addThing_21 ?_
    refine j_if_le F (tgt := 29) dX6_addThing_24 (by decide) hm (fun _ hm => ?_) (fun _ hm => ?_)
    · refine j_aload_n F 0 dX6_addThing_29 rfl ?_
      obtain ⟨S30, hc30, hm⟩ := Option.bind_eq_some_iff.mp hm
      refine j_callV F (n := 0) (As := []) (rest := []) (c_X6_remember l g hg S17 S30 hc30) gw_X6_153 (by decide +kernel) ⟨Nat.le_of_ble_eq_true rfl, Nat.le_of_ble_eq_true rfl⟩ ⟨Nat.le_of_ble_eq_true rfl, Nat.le_of_ble_eq_true rfl⟩ rfl rfl rfl rfl (Nat.le_of_ble_eq_true rfl) dX6_addThing_30 ?_
      show J p l e rmX6_addThing s m args below meth c g A 2 (MQ below (QC g A (some (.int r)) S') args s 0 0 A) 0 0 33 [(0, .ref (g.2.1 13)), (1, .int v1)] [] S30
      refine j_aload_n F 0 dX6_addThing_33 rfl ?_
      refine j_getR F (k0 := 1) (C := RX6) (T := TX6) (N := 20) rfl rfl rfl inF6 (by decide) tw520 dX6_addThing_34 ?_
      refine j_iconst F (v := 1) dX6_addThing_37 (by decide) ?_
      refine j_aload_n F 0 dX6_addThing_38 rfl ?_
      refine j_getR F (k0 := 1) (C := RX6) (T := TX6) (N := 20) rfl rfl rfl inF6 (by decide) tw520 dX6_addThing_39 ?_
      refine j_iconst F (v := 0) dX6_addThing_42 (by decide) ?_
      refine j_iald F rfl dX6_addThing_43 hm (fun hm => ?_)
      refine j_iadd F dX6_addThing_44 ?_
      refine j_iload_n F 1 dX6_addThing_45 rfl ?_
      refine j_if_eq F (tgt := 53) dX6_addThing_46 (by decide) hm (fun _ hm => ?_) (fun _ hm => ?_)
      · refine j_iconst F (v := 0) dX6_addThing_53 (by decide) ?_
        refine j_sub [0] rfl ?_
        exact hj54 0 (1 + (gA S30 14 (0 : Int32).toNatClampNeg)) S30  hm
      · refine j_iconst F (v := 1) dX6_addThing_49 (by decide) ?_
        refine j_goto F (tgt := 54) dX6_addThing_50 (by decide) ?_
        refine j_sub [0] rfl ?_
        exact hj54 1 (1 + (gA S30 14 (0 : Int32).toNatClampNeg)) S30  hm
    · refine j_iconst F (v := 0) dX6_addThing_27 (by decide) ?_
      exact j_iret_e F rfl dX6_addThing_28 hm
  refine j_aload_n F 0 dX6_addThing_0 rfl ?_
  refine j_aload_n F 0 dX6_addThing_1 rfl ?_
  refine j_getR F (k0 := 1) (C := RX6) (T := TX6) (N := 20) rfl rfl rfl inF6 (by decide) tw520 dX6_addThing_2 ?_
  refine j_iconst F (v := 0) dX6_addThing_5 (by decide) ?_
  refine j_iald F rfl dX6_addThing_6 hm (fun hm => ?_)
  refine j_bipush F (v := 7) dX6_addThing_7 (by decide) ?_
  refine j_icmp_ne F (tgt := 16) dX6_addThing_9 (by decide) hm (fun _ hm => ?_) (fun _ hm => ?_)
  · refine j_iconst F (v := 0) dX6_addThing_16 (by decide) ?_
    refine j_sub [0, 1] rfl ?_
    exact hj17 v1 0 S  hm
  · refine j_iconst F (v := 1) dX6_addThing_12 (by decide) ?_
    refine j_goto F (tgt := 17) dX6_addThing_13 (by decide) ?_
    refine j_sub [0, 1] rfl ?_
    exact hj17 v1 1 S  hm
def m_X6_drop_J111 (v1 : Int32) (v2 : Int32) (v3 : Int32) (v4 : Int32) (v5 : Int32) (w0 : Int32) (w1 : Int32) (S : Hs) : Option ((Int32 × Hs) ⊕ Hs) := gd (inb w1 57) (bnd (sA S 14 w1.toNatClampNeg w0) fun S111 => (some (.inl ((v5 + 1, S111)))))
def m_X6_drop_J110 (v1 : Int32) (v2 : Int32) (v3 : Int32) (v4 : Int32) (v5 : Int32) (w0 : Int32) (S : Hs) : Option ((Int32 × Hs) ⊕ Hs) := m_X6_drop_J111 v1 v2 v3 v4 v5 0 w0 S
def m_X6_drop_J64 (v1 : Int32) (v2 : Int32) (v3 : Int32) (v4 : Int32) (v5 : Int32) (v6 : Int32) (w0 : Int32) (S : Hs) : Option ((Int32 × Hs) ⊕ Hs) := (m_X6_at v4 v5).bind fun r76 => (if v3 ≤ v6 then (m_X6_drop_J110 v1 v2 v3 v4 v5 (8 + r76) S) else (if v3 ≤ w0 then (m_X6_drop_J110 v1 v2 v3 v4 v5 (8 + r76) S) else ((m_X6_at v6 w0).bind fun r102 => (gd (inb (8 + r102) 57) (m_X6_drop_J111 v1 v2 v3 v4 v5 (gA S 14 (8 + r102).toNatClampNeg) (8 + r76) S)))))
def m_X6_drop_J47 (v1 : Int32) (v2 : Int32) (v3 : Int32) (v4 : Int32) (v5 : Int32) (w0 : Int32) (S : Hs) : Option ((Int32 × Hs) ⊕ Hs) := if v1 ≤ v5 then (m_X6_drop_J64 v1 v2 v3 v4 v5 w0 (v5 + 1) S) else (m_X6_drop_J64 v1 v2 v3 v4 v5 w0 v5 S)
def m_X6_drop_L25 (v1 : Int32) (v2 : Int32) (v3 : Int32) (v4 : Int32) (v5 : Int32) (S : Hs) : Option ((Int32 × Hs) ⊕ Hs) := if 7 ≤ v5 then (some (.inr S)) else (if v1 ≤ v4 then (m_X6_drop_J47 v1 v2 v3 v4 v5 (v4 + 1) S) else (m_X6_drop_J47 v1 v2 v3 v4 v5 v4 S))
noncomputable def m_X6_drop_L15 (v1 : Int32) (v2 : Int32) (v3 : Int32) (v4 : Int32) (S : Hs) : Option ((Int32 × Hs) ⊕ Hs) := if 7 ≤ v4 then (some (.inr S)) else ((loopO (fun x => m_X6_drop_L25 v1 v2 v3 v4 x.1 x.2) ((0, S))).bind fun y25 => some (.inl ((v4 + 1, y25))))
def m_X6_drop_J164 (v2 : Int32) (v3 : Int32) (v4 : Int32) (w0 : Int32) (w1 : Int32) (S : Hs) : Option ((Int32 × Hs) ⊕ Hs) := gd (inb w1 57) (bnd (sA S 14 w1.toNatClampNeg w0) fun S164 => (some (.inl ((v4 + 1, S164)))))
def m_X6_drop_L127 (v2 : Int32) (v3 : Int32) (v4 : Int32) (S : Hs) : Option ((Int32 × Hs) ⊕ Hs) := if v3 ≤ v4 then (some (.inr S)) else (if v3 ≤ (v4 + 1) then (m_X6_drop_J164 v2 v3 v4 0 (1 + v4) S) else (gd (inb ((1 + v4) + 1) 57) (m_X6_drop_J164 v2 v3 v4 (gA S 14 ((1 + v4) + 1).toNatClampNeg) (1 + v4) S)))
noncomputable def m_X6_drop (v1 : Int32) (S : Hs) : Option (Int32 × Hs) := (m_X6_rightsMany  S).bind fun r1 => (gd (inb 0 57) (bnd (gA S 14 (0 : Int32).toNatClampNeg) fun v3_11 => ((loopO (fun x => m_X6_drop_L15 v1 r1 v3_11 x.1 x.2) ((0, S))).bind fun y15 => (loopO (fun x => m_X6_drop_L127 r1 v3_11 x.1 x.2) ((v1, y15))).bind fun y127 => gd (inb 0 57) (gd (inb 0 57) (bnd (sA y127 14 (0 : Int32).toNatClampNeg ((gA y127 14 (0 : Int32).toNatClampNeg) - 1)) fun S180 => ((m_X6_rightsMany  S180).bind fun r183 => (some ((r1 - r183, S180)))))))))
set_option maxRecDepth 100000 in
set_option maxHeartbeats 4000000 in
theorem c_X6_drop (l : Launch) (g : GG) (hg : Inj g) (v1 : Int32)  (S : Hs) (r : Int32) (S' : Hs) (hm : m_X6_drop v1 S = some ((r, S'))) : CM l yX6_drop [.code yX6_drop cX6_drop 8 (some .int)] rmX6_drop [.ref (g.2.1 13), .int v1] g S (some (.int r)) S' := by
  unfold m_X6_drop at hm
  refine CM.of (cc := cX6_drop) (nL := 8) (ret := (some .int)) (lv := [(0, .ref (g.2.1 13)), (1, .int v1)]) (by decide +kernel) hg (Nat.le_of_ble_eq_true rfl) rfl (fun p e s m args below meth c A F => ?_)
  replace F : Fx p s m meth c cX6_drop RX6 8 (some .int) g A := F
  show J p l e rmX6_drop s m args below meth c g A 8 (MQ below (QC g A (some (.int r)) S') args s 0 0 A) 0 0 0 [(0, .ref (g.2.1 13)), (1, .int v1)] [] S
  refine j_aload_n F 0 dX6_drop_0 rfl ?_
  obtain ⟨r1, hc1, hm⟩ := Option.bind_eq_some_iff.mp hm
  refine j_callV F (n := 0) (As := []) (rest := []) (c_X6_rightsMany l g hg S r1 hc1) gw_X6_64 (by decide +kernel) ⟨Nat.le_of_ble_eq_true rfl, Nat.le_of_ble_eq_true rfl⟩ ⟨Nat.le_of_ble_eq_true rfl, Nat.le_of_ble_eq_true rfl⟩ rfl rfl rfl rfl (Nat.le_of_ble_eq_true rfl) dX6_drop_1 ?_
  show J p l e rmX6_drop s m args below meth c g A 8 (MQ below (QC g A (some (.int r)) S') args s 0 0 A) 0 0 4 [(0, .ref (g.2.1 13)), (1, .int v1)] [.int r1] S
  refine j_istore_n F (lv' := [(2, .int r1), (0, .ref (g.2.1 13)), (1, .int v1)]) dX6_drop_4 (by decide) rfl ?_
  refine j_aload_n F 1 dX6_drop_5 rfl ?_
  refine j_getR F (k0 := 1) (C := RX6) (T := TX6) (N := 20) rfl rfl rfl inF6 (by decide) tw520 dX6_drop_6 ?_
  refine j_iconst F (v := 0) dX6_drop_9 (by decide) ?_
  refine j_iald F rfl dX6_drop_10 hm (fun hm => ?_)
  refine j_bnd hm (fun v3_11 hm => ?_)
  refine j_istore_n F (lv' := [(3, .int v3_11), (2, .int r1), (0, .ref (g.2.1 13)), (1, .int v1)]) dX6_drop_11 (by decide) rfl ?_
  refine j_iconst F (v := 0) dX6_drop_12 (by decide) ?_
  refine j_istore F (lv' := [(4, .int 0), (3, .int v3_11), (2, .int r1), (0, .ref (g.2.1 13)), (1, .int v1)]) dX6_drop_13 (by decide) rfl ?_
  refine j_sub [3, 4, 2, 1, 0] rfl ?_
  obtain ⟨y15, hlp15, hm⟩ := Option.bind_eq_some_iff.mp hm
  refine loopO_walk (fun x => m_X6_drop_L15 v1 r1 v3_11 x.1 x.2) (fun x => J p l e rmX6_drop s m args below meth c g A 8 (MQ below (QC g A (some (.int r)) S') args s 0 0 A) 0 0 15 [(0, .ref (g.2.1 13)), (1, .int v1), (2, .int r1), (3, .int v3_11), (4, .int x.1)] [] x.2) (fun x => J p l e rmX6_drop s m args below meth c g A 8 (MQ below (QC g A (some (.int r)) S') args s 0 0 A) 0 0 124 [(0, .ref (g.2.1 13)), (1, .int v1), (2, .int r1), (3, .int v3_11)] [] x) (fun x o1 hm hk1 => ?_) hlp15 ?_
  · obtain ⟨v4, S⟩ := x
    replace hm : m_X6_drop_L15 v1 r1 v3_11 v4 S = some o1 := hm
    show J p l e rmX6_drop s m args below meth c g A 8 (MQ below (QC g A (some (.int r)) S') args s 0 0 A) 0 0 15 [(0, .ref (g.2.1 13)), (1, .int v1), (2, .int r1), (3, .int v3_11), (4, .int v4)] [] S
    unfold m_X6_drop_L15 at hm
    refine j_iload F 4 dX6_drop_15 rfl ?_
    refine j_bipush F (v := 7) dX6_drop_17 (by decide) ?_
    refine j_icmp_ge F (tgt := 124) dX6_drop_19 (by decide) hm (fun _ hm => ?_) (fun _ hm => ?_)
    · cases hm
      refine j_sub [0, 1, 2, 3] rfl ?_
      exact hk1
    · refine j_iconst F (v := 0) dX6_drop_22 (by decide) ?_
      refine j_istore F (lv' := [(5, .int 0), (0, .ref (g.2.1 13)), (1, .int v1), (2, .int r1), (3, .int v3_11), (4, .int v4)]) dX6_drop_23 (by decide) rfl ?_
      refine j_sub [1, 2, 3, 4, 5, 0] rfl ?_
      obtain ⟨y25, hlp25, hm⟩ := Option.bind_eq_some_iff.mp hm
      refine loopO_walk (fun x => m_X6_drop_L25 v1 r1 v3_11 v4 x.1 x.2) (fun x => J p l e rmX6_drop s m args below meth c g A 8 (MQ below (QC g A (some (.int r)) S') args s 0 0 A) 0 0 25 [(0, .ref (g.2.1 13)), (1, .int v1), (2, .int r1), (3, .int v3_11), (4, .int v4), (5, .int x.1)] [] x.2) (fun x => J p l e rmX6_drop s m args below meth c g A 8 (MQ below (QC g A (some (.int r)) S') args s 0 0 A) 0 0 118 [(0, .ref (g.2.1 13)), (1, .int v1), (2, .int r1), (3, .int v3_11), (4, .int v4)] [] x) (fun x o2 hm hk2 => ?_) hlp25 ?_
      · obtain ⟨v5, S⟩ := x
        replace hm : m_X6_drop_L25 v1 r1 v3_11 v4 v5 S = some o2 := hm
        show J p l e rmX6_drop s m args below meth c g A 8 (MQ below (QC g A (some (.int r)) S') args s 0 0 A) 0 0 25 [(0, .ref (g.2.1 13)), (1, .int v1), (2, .int r1), (3, .int v3_11), (4, .int v4), (5, .int v5)] [] S
        unfold m_X6_drop_L25 at hm
        have hj111 : ∀ (v5 : Int32) (w0 : Int32) (w1 : Int32) (S : Hs), m_X6_drop_J111 v1 r1 v3_11 v4 v5 w0 w1 S = some o2 → J p l e rmX6_drop s m args below meth c g A 8 (MQ below (QC g A (some (.int r)) S') args s 0 0 A) 0 0 111 [(0, .ref (g.2.1 13)), (1, .int v1), (2, .int r1), (3, .int v3_11), (4, .int v4), (5, .int v5)] [.int w0, .int w1, .ref (g.2.1 14)] S := by
          intro v5 w0 w1 S hm
          unfold m_X6_drop_J111 at hm
          refine j_iast F rfl dX6_drop_111 hm (fun hm => ?_)
          refine j_bndS hm (fun S111 hm => ?_)
          refine j_iinc F (v := v5 + 1) (lv' := [(5, .int (v5 + 1)), (0, .ref (g.2.1 13)), (1, .int v1), (2, .int r1), (3, .int v3_11), (4, .int v4)]) 5 dX6_drop_112 rfl rfl (by decide) rfl ?_
          refine j_goto F (tgt := 25) dX6_drop_115 (by decide) ?_
          cases hm
          refine j_sub [1, 2, 3, 4, 5, 0] rfl ?_
          exact hk2
        have hj110 : ∀ (v5 : Int32) (w0 : Int32) (S : Hs), m_X6_drop_J110 v1 r1 v3_11 v4 v5 w0 S = some o2 → J p l e rmX6_drop s m args below meth c g A 8 (MQ below (QC g A (some (.int r)) S') args s 0 0 A) 0 0 110 [(0, .ref (g.2.1 13)), (1, .int v1), (2, .int r1), (3, .int v3_11), (4, .int v4), (5, .int v5)] [.int w0, .ref (g.2.1 14)] S := by
          intro v5 w0 S hm
          unfold m_X6_drop_J110 at hm
          refine j_iconst F (v := 0) dX6_drop_110 (by decide) ?_
          refine j_sub [0, 1, 2, 3, 4, 5] rfl ?_
          exact hj111 v5 0 w0 S  hm
        have hj64 : ∀ (v5 : Int32) (v6 : Int32) (w0 : Int32) (S : Hs), m_X6_drop_J64 v1 r1 v3_11 v4 v5 v6 w0 S = some o2 → J p l e rmX6_drop s m args below meth c g A 8 (MQ below (QC g A (some (.int r)) S') args s 0 0 A) 0 0 64 [(0, .ref (g.2.1 13)), (1, .int v1), (2, .int r1), (3, .int v3_11), (4, .int v4), (5, .int v5), (6, .int v6)] [.int w0] S := by
          intro v5 v6 w0 S hm
          unfold m_X6_drop_J64 at hm
          refine j_istore F (lv' := [(7, .int w0), (0, .ref (g.2.1 13)), (1, .int v1), (2, .int r1), (3, .int v3_11), (4, .int v4), (5, .int v5), (6, .int v6)]) dX6_drop_64 (by decide) rfl ?_
          refine j_aload_n F 1 dX6_drop_66 rfl ?_
          refine j_getR F (k0 := 1) (C := RX6) (T := TX6) (N := 20) rfl rfl rfl inF6 (by decide) tw520 dX6_drop_67 ?_
          refine j_bipush F (v := 8) dX6_drop_70 (by decide) ?_
          refine j_iload F 5 dX6_drop_72 rfl ?_
          refine j_iload F 6 dX6_drop_74 rfl ?_
          obtain ⟨r76, hc76, hm⟩ := Option.bind_eq_some_iff.mp hm
          refine j_callS F (n := 2) (As := [.int v4, .int v5]) (rest := [.int 8, .ref (g.2.1 14)]) (c_X6_at l g hg v4 v5 S r76 hc76) gw_X6_68 (by decide +kernel) ⟨Nat.le_of_ble_eq_true rfl, Nat.le_of_ble_eq_true rfl⟩ ⟨Nat.le_of_ble_eq_true rfl, Nat.le_of_ble_eq_true rfl⟩ rfl rfl (Nat.le_of_ble_eq_true rfl) dX6_drop_76 ?_
          show J p l e rmX6_drop s m args below meth c g A 8 (MQ below (QC g A (some (.int r)) S') args s 0 0 A) 0 0 79 [(7, .int w0), (0, .ref (g.2.1 13)), (1, .int v1), (2, .int r1), (3, .int v3_11), (4, .int v4), (5, .int v5), (6, .int v6)] [.int r76, .int 8, .ref (g.2.1 14)] S
          refine j_iadd F dX6_drop_79 ?_
          refine j_iload F 7 dX6_drop_80 rfl ?_
          refine j_iload_n F 4 dX6_drop_82 rfl ?_
          refine j_icmp_ge F (tgt := 110) dX6_drop_83 (by decide) hm (fun _ hm => ?_) (fun _ hm => ?_)
          · refine j_sub [1, 2, 3, 4, 5, 6] rfl ?_
            exact hj110 v5 (8 + r76) S  hm
          · refine j_iload F 0 dX6_drop_86 rfl ?_
            refine j_iload_n F 4 dX6_drop_88 rfl ?_
            refine j_icmp_ge F (tgt := 110) dX6_drop_89 (by decide) hm (fun _ hm => ?_) (fun _ hm => ?_)
            · refine j_sub [1, 2, 3, 4, 5, 6] rfl ?_
              exact hj110 v5 (8 + r76) S  hm
            · refine j_aload_n F 1 dX6_drop_92 rfl ?_
              refine j_getR F (k0 := 1) (C := RX6) (T := TX6) (N := 20) rfl rfl rfl inF6 (by decide) tw520 dX6_drop_93 ?_
              refine j_bipush F (v := 8) dX6_drop_96 (by decide) ?_
              refine j_iload F 7 dX6_drop_98 rfl ?_
              refine j_iload F 0 dX6_drop_100 rfl ?_
              obtain ⟨r102, hc102, hm⟩ := Option.bind_eq_some_iff.mp hm
              refine j_callS F (n := 2) (As := [.int v6, .int w0]) (rest := [.int 8, .ref (g.2.1 14), .int (8 + r76), .ref (g.2.1 14)]) (c_X6_at l g hg v6 w0 S r102 hc102) gw_X6_68 (by decide +kernel) ⟨Nat.le_of_ble_eq_true rfl, Nat.le_of_ble_eq_true rfl⟩ ⟨Nat.le_of_ble_eq_true rfl, Nat.le_of_ble_eq_true rfl⟩ rfl rfl (Nat.le_of_ble_eq_true rfl) dX6_drop_102 ?_
              show J p l e rmX6_drop s m args below meth c g A 8 (MQ below (QC g A (some (.int r)) S') args s 0 0 A) 0 0 105 [(7, .int w0), (0, .ref (g.2.1 13)), (1, .int v1), (2, .int r1), (3, .int v3_11), (4, .int v4), (5, .int v5), (6, .int v6)] [.int r102, .int 8, .ref (g.2.1 14), .int (8 + r76), .ref (g.2.1 14)] S
              refine j_iadd F dX6_drop_105 ?_
              refine j_iald F rfl dX6_drop_106 hm (fun hm => ?_)
              refine j_goto F (tgt := 111) dX6_drop_107 (by decide) ?_
              refine j_sub [1, 2, 3, 4, 5, 6] rfl ?_
              exact hj111 v5 (gA S 14 (8 + r102).toNatClampNeg) (8 + r76) S  hm
        have hj47 : ∀ (v5 : Int32) (w0 : Int32) (S : Hs), m_X6_drop_J47 v1 r1 v3_11 v4 v5 w0 S = some o2 → J p l e rmX6_drop s m args below meth c g A 8 (MQ below (QC g A (some (.int r)) S') args s 0 0 A) 0 0 47 [(0, .ref (g.2.1 13)), (1, .int v1), (2, .int r1), (3, .int v3_11), (4, .int v4), (5, .int v5)] [.int w0] S := by
          intro v5 w0 S hm
          unfold m_X6_drop_J47 at hm
          refine j_istore F (lv' := [(6, .int w0), (0, .ref (g.2.1 13)), (1, .int v1), (2, .int r1), (3, .int v3_11), (4, .int v4), (5, .int v5)]) dX6_drop_47 (by decide) rfl ?_
          refine j_iload F 6 dX6_drop_49 rfl ?_
          refine j_iload_n F 2 dX6_drop_51 rfl ?_
          refine j_icmp_ge F (tgt := 60) dX6_drop_52 (by decide) hm (fun _ hm => ?_) (fun _ hm => ?_)
          · refine j_iload F 6 dX6_drop_60 rfl ?_
            refine j_iconst F (v := 1) dX6_drop_62 (by decide) ?_
            refine j_iadd F dX6_drop_63 ?_
            refine j_sub [1, 2, 3, 4, 5, 6, 0] rfl ?_
            exact hj64 v5 w0 (v5 + 1) S  hm
          · refine j_iload F 6 dX6_drop_55 rfl ?_
            refine j_goto F (tgt := 64) dX6_drop_57 (by decide) ?_
            refine j_sub [1, 2, 3, 4, 5, 6, 0] rfl ?_
            exact hj64 v5 w0 v5 S  hm
        refine j_iload F 5 dX6_drop_25 rfl ?_
        refine j_bipush F (v := 7) dX6_drop_27 (by decide) ?_
        refine j_icmp_ge F (tgt := 118) dX6_drop_29 (by decide) hm (fun _ hm => ?_) (fun _ hm => ?_)
        · cases hm
          refine j_sub [0, 1, 2, 3, 4] rfl ?_
          exact hk2
        · refine j_iload F 4 dX6_drop_32 rfl ?_
          refine j_iload_n F 1 dX6_drop_34 rfl ?_
          refine j_icmp_ge F (tgt := 43) dX6_drop_35 (by decide) hm (fun _ hm => ?_) (fun _ hm => ?_)
          · refine j_iload F 4 dX6_drop_43 rfl ?_
            refine j_iconst F (v := 1) dX6_drop_45 (by decide) ?_
            refine j_iadd F dX6_drop_46 ?_
            refine j_sub [0, 1, 2, 3, 4, 5] rfl ?_
            exact hj47 v5 (v4 + 1) S  hm
          · refine j_iload F 4 dX6_drop_38 rfl ?_
            refine j_goto F (tgt := 47) dX6_drop_40 (by decide) ?_
            refine j_sub [0, 1, 2, 3, 4, 5] rfl ?_
            exact hj47 v5 v4 S  hm
      · show J p l e rmX6_drop s m args below meth c g A 8 (MQ below (QC g A (some (.int r)) S') args s 0 0 A) 0 0 118 [(0, .ref (g.2.1 13)), (1, .int v1), (2, .int r1), (3, .int v3_11), (4, .int v4)] [] y25
        refine j_iinc F (v := v4 + 1) (lv' := [(4, .int (v4 + 1)), (0, .ref (g.2.1 13)), (1, .int v1), (2, .int r1), (3, .int v3_11)]) 4 dX6_drop_118 rfl rfl (by decide) rfl ?_
        refine j_goto F (tgt := 15) dX6_drop_121 (by decide) ?_
        cases hm
        refine j_sub [1, 2, 3, 4, 0] rfl ?_
        exact hk1
  · show J p l e rmX6_drop s m args below meth c g A 8 (MQ below (QC g A (some (.int r)) S') args s 0 0 A) 0 0 124 [(0, .ref (g.2.1 13)), (1, .int v1), (2, .int r1), (3, .int v3_11)] [] y15
    refine j_iload_n F 1 dX6_drop_124 rfl ?_
    refine j_istore F (lv' := [(4, .int v1), (0, .ref (g.2.1 13)), (1, .int v1), (2, .int r1), (3, .int v3_11)]) dX6_drop_125 (by decide) rfl ?_
    refine j_sub [1, 3, 4, 0] rfl ?_
    obtain ⟨y127, hlp127, hm⟩ := Option.bind_eq_some_iff.mp hm
    refine loopO_walk (fun x => m_X6_drop_L127 r1 v3_11 x.1 x.2) (fun x => J p l e rmX6_drop s m args below meth c g A 8 (MQ below (QC g A (some (.int r)) S') args s 0 0 A) 0 0 127 [(0, .ref (g.2.1 13)), (2, .int r1), (3, .int v3_11), (4, .int x.1)] [] x.2) (fun x => J p l e rmX6_drop s m args below meth c g A 8 (MQ below (QC g A (some (.int r)) S') args s 0 0 A) 0 0 171 [(0, .ref (g.2.1 13)), (2, .int r1)] [] x) (fun x o1 hm hk1 => ?_) hlp127 ?_
    · obtain ⟨v4, S⟩ := x
      replace hm : m_X6_drop_L127 r1 v3_11 v4 S = some o1 := hm
      show J p l e rmX6_drop s m args below meth c g A 8 (MQ below (QC g A (some (.int r)) S') args s 0 0 A) 0 0 127 [(0, .ref (g.2.1 13)), (2, .int r1), (3, .int v3_11), (4, .int v4)] [] S
      unfold m_X6_drop_L127 at hm
      have hj164 : ∀ (v4 : Int32) (w0 : Int32) (w1 : Int32) (S : Hs), m_X6_drop_J164 r1 v3_11 v4 w0 w1 S = some o1 → J p l e rmX6_drop s m args below meth c g A 8 (MQ below (QC g A (some (.int r)) S') args s 0 0 A) 0 0 164 [(0, .ref (g.2.1 13)), (2, .int r1), (3, .int v3_11), (4, .int v4)] [.int w0, .int w1, .ref (g.2.1 14)] S := by
        intro v4 w0 w1 S hm
        unfold m_X6_drop_J164 at hm
        refine j_iast F rfl dX6_drop_164 hm (fun hm => ?_)
        refine j_bndS hm (fun S164 hm => ?_)
        refine j_iinc F (v := v4 + 1) (lv' := [(4, .int (v4 + 1)), (0, .ref (g.2.1 13)), (2, .int r1), (3, .int v3_11)]) 3 dX6_drop_165 rfl rfl (by decide) rfl ?_
        refine j_goto F (tgt := 127) dX6_drop_168 (by decide) ?_
        cases hm
        refine j_sub [1, 2, 3, 0] rfl ?_
        exact hk1
      refine j_iload F 3 dX6_drop_127 rfl ?_
      refine j_iload_n F 2 dX6_drop_129 rfl ?_
      refine j_icmp_ge F (tgt := 171) dX6_drop_130 (by decide) hm (fun _ hm => ?_) (fun _ hm => ?_)
      · cases hm
        refine j_sub [0, 1] rfl ?_
        exact hk1
      · refine j_aload_n F 0 dX6_drop_133 rfl ?_
        refine j_getR F (k0 := 1) (C := RX6) (T := TX6) (N := 20) rfl rfl rfl inF6 (by decide) tw520 dX6_drop_134 ?_
        refine j_iconst F (v := 1) dX6_drop_137 (by decide) ?_
        refine j_iload F 3 dX6_drop_138 rfl ?_
        refine j_iadd F dX6_drop_140 ?_
        refine j_iload F 3 dX6_drop_141 rfl ?_
        refine j_iconst F (v := 1) dX6_drop_143 (by decide) ?_
        refine j_iadd F dX6_drop_144 ?_
        refine j_iload_n F 2 dX6_drop_145 rfl ?_
        refine j_icmp_ge F (tgt := 163) dX6_drop_146 (by decide) hm (fun _ hm => ?_) (fun _ hm => ?_)
        · refine j_iconst F (v := 0) dX6_drop_163 (by decide) ?_
          refine j_sub [0, 1, 2, 3] rfl ?_
          exact hj164 v4 0 (1 + v4) S  hm
        · refine j_aload_n F 0 dX6_drop_149 rfl ?_
          refine j_getR F (k0 := 1) (C := RX6) (T := TX6) (N := 20) rfl rfl rfl inF6 (by decide) tw520 dX6_drop_150 ?_
          refine j_iconst F (v := 1) dX6_drop_153 (by decide) ?_
          refine j_iload F 3 dX6_drop_154 rfl ?_
          refine j_iadd F dX6_drop_156 ?_
          refine j_iconst F (v := 1) dX6_drop_157 (by decide) ?_
          refine j_iadd F dX6_drop_158 ?_
          refine j_iald F rfl dX6_drop_159 hm (fun hm => ?_)
          refine j_goto F (tgt := 164) dX6_drop_160 (by decide) ?_
          refine j_sub [0, 1, 2, 3] rfl ?_
          exact hj164 v4 (gA S 14 ((1 + v4) + 1).toNatClampNeg) (1 + v4) S  hm
    · show J p l e rmX6_drop s m args below meth c g A 8 (MQ below (QC g A (some (.int r)) S') args s 0 0 A) 0 0 171 [(0, .ref (g.2.1 13)), (2, .int r1)] [] y127
      refine j_aload_n F 0 dX6_drop_171 rfl ?_
      refine j_getR F (k0 := 1) (C := RX6) (T := TX6) (N := 20) rfl rfl rfl inF6 (by decide) tw520 dX6_drop_172 ?_
      refine j_iconst F (v := 0) dX6_drop_175 (by decide) ?_
      refine j_dup2 F dX6_drop_176 rfl rfl ?_
      refine j_iald F rfl dX6_drop_177 hm (fun hm => ?_)
      refine j_iconst F (v := 1) dX6_drop_178 (by decide) ?_
      refine j_isub F dX6_drop_179 ?_
      refine j_iast F rfl dX6_drop_180 hm (fun hm => ?_)
      refine j_bndS hm (fun S180 hm => ?_)
      refine j_iload_n F 1 dX6_drop_181 rfl ?_
      refine j_aload_n F 0 dX6_drop_182 rfl ?_
      obtain ⟨r183, hc183, hm⟩ := Option.bind_eq_some_iff.mp hm
      refine j_callV F (n := 0) (As := []) (rest := [.int r1]) (c_X6_rightsMany l g hg S180 r183 hc183) gw_X6_64 (by decide +kernel) ⟨Nat.le_of_ble_eq_true rfl, Nat.le_of_ble_eq_true rfl⟩ ⟨Nat.le_of_ble_eq_true rfl, Nat.le_of_ble_eq_true rfl⟩ rfl rfl rfl rfl (Nat.le_of_ble_eq_true rfl) dX6_drop_183 ?_
      show J p l e rmX6_drop s m args below meth c g A 8 (MQ below (QC g A (some (.int r)) S') args s 0 0 A) 0 0 186 [(0, .ref (g.2.1 13)), (2, .int r1)] [.int r183, .int r1] S180
      refine j_isub F dX6_drop_186 ?_
      exact j_iret_e F rfl dX6_drop_187 hm
noncomputable def m_X6_removeThing_J14 (v1 : Int32) (w0 : Int32) (S : Hs) : Option (Int32 × Hs) := bnd (sI S 13 0 w0) fun S14 => (if (gI S14 13 0) ≤ 0 then ((m_X6_remember  S14).bind fun S27 => (bndE (m_X6_drop v1 S27) fun r32 S32 => (some ((r32, S32))))) else (some ((0, S14))))
noncomputable def m_X6_removeThing (v1 : Int32) (S : Hs) : Option (Int32 × Hs) := (m_X6_isThing v1 S).bind fun r3 => (if r3 = 0 then (m_X6_removeThing_J14 v1 1 S) else (m_X6_removeThing_J14 v1 0 S))
set_option maxRecDepth 100000 in
set_option maxHeartbeats 4000000 in
theorem c_X6_removeThing (l : Launch) (g : GG) (hg : Inj g) (v1 : Int32)  (S : Hs) (r : Int32) (S' : Hs) (hm : m_X6_removeThing v1 S = some ((r, S'))) : CM l yX6_removeThing [.code yX6_removeThing cX6_removeThing 2 (some .int)] rmX6_removeThing [.ref (g.2.1 13), .int v1] g S (some (.int r)) S' := by
  unfold m_X6_removeThing at hm
  refine CM.of (cc := cX6_removeThing) (nL := 2) (ret := (some .int)) (lv := [(0, .ref (g.2.1 13)), (1, .int v1)]) (by decide +kernel) hg (Nat.le_of_ble_eq_true rfl) rfl (fun p e s m args below meth c A F => ?_)
  replace F : Fx p s m meth c cX6_removeThing RX6 2 (some .int) g A := F
  show J p l e rmX6_removeThing s m args below meth c g A 2 (MQ below (QC g A (some (.int r)) S') args s 0 0 A) 0 0 0 [(0, .ref (g.2.1 13)), (1, .int v1)] [] S
  have hj14 : ∀ (v1 : Int32) (w0 : Int32) (S : Hs), m_X6_removeThing_J14 v1 w0 S = some ((r, S')) → J p l e rmX6_removeThing s m args below meth c g A 2 (MQ below (QC g A (some (.int r)) S') args s 0 0 A) 0 0 14 [(0, .ref (g.2.1 13)), (1, .int v1)] [.int w0, .ref (g.2.1 13)] S := by
    intro v1 w0 S hm
    unfold m_X6_removeThing_J14 at hm
    refine j_putI F (k0 := 0) (C := RX6) (T := TX6) (N := 20) tyX6 tyX6_ok nmX6 rfl rfl rfl inF6 (by decide) tw535 rfl (by decide +kernel) dX6_removeThing_14 ?_
    refine j_bndS hm (fun S14 hm => ?_)
    refine j_aload_n F 0 dX6_removeThing_17 rfl ?_
    refine j_getI F (k0 := 0) (C := RX6) (T := TX6) (N := 20) rfl rfl rfl inF6 (by decide) tw535 dX6_removeThing_18 ?_
    refine j_if_le F (tgt := 26) dX6_removeThing_21 (by decide) hm (fun _ hm => ?_) (fun _ hm => ?_)
    · refine j_aload_n F 0 dX6_removeThing_26 rfl ?_
      obtain ⟨S27, hc27, hm⟩ := Option.bind_eq_some_iff.mp hm
      refine j_callV F (n := 0) (As := []) (rest := []) (c_X6_remember l g hg S14 S27 hc27) gw_X6_153 (by decide +kernel) ⟨Nat.le_of_ble_eq_true rfl, Nat.le_of_ble_eq_true rfl⟩ ⟨Nat.le_of_ble_eq_true rfl, Nat.le_of_ble_eq_true rfl⟩ rfl rfl rfl rfl (Nat.le_of_ble_eq_true rfl) dX6_removeThing_27 ?_
      show J p l e rmX6_removeThing s m args below meth c g A 2 (MQ below (QC g A (some (.int r)) S') args s 0 0 A) 0 0 30 [(0, .ref (g.2.1 13)), (1, .int v1)] [] S27
      refine j_aload_n F 0 dX6_removeThing_30 rfl ?_
      refine j_iload_n F 1 dX6_removeThing_31 rfl ?_
      obtain ⟨r32, S32, hc32, hm⟩ := bndE_ok hm
      refine j_callV F (n := 1) (As := [.int v1]) (rest := []) (c_X6_drop l g hg v1 S27 r32 S32 hc32) gw_X6_156 (by decide +kernel) ⟨Nat.le_of_ble_eq_true rfl, Nat.le_of_ble_eq_true rfl⟩ ⟨Nat.le_of_ble_eq_true rfl, Nat.le_of_ble_eq_true rfl⟩ rfl rfl rfl rfl (Nat.le_of_ble_eq_true rfl) dX6_removeThing_32 ?_
      show J p l e rmX6_removeThing s m args below meth c g A 2 (MQ below (QC g A (some (.int r)) S') args s 0 0 A) 0 0 35 [(0, .ref (g.2.1 13)), (1, .int v1)] [.int r32] S32
      exact j_iret_e F rfl dX6_removeThing_35 hm
    · refine j_iconst F (v := 0) dX6_removeThing_24 (by decide) ?_
      exact j_iret_e F rfl dX6_removeThing_25 hm
  refine j_aload_n F 0 dX6_removeThing_0 rfl ?_
  refine j_aload_n F 0 dX6_removeThing_1 rfl ?_
  refine j_iload_n F 1 dX6_removeThing_2 rfl ?_
  obtain ⟨r3, hc3, hm⟩ := Option.bind_eq_some_iff.mp hm
  refine j_callV F (n := 1) (As := [.int v1]) (rest := [.ref (g.2.1 13)]) (c_X6_isThing l g hg v1 S r3 hc3) gw_X6_142 (by decide +kernel) ⟨Nat.le_of_ble_eq_true rfl, Nat.le_of_ble_eq_true rfl⟩ ⟨Nat.le_of_ble_eq_true rfl, Nat.le_of_ble_eq_true rfl⟩ rfl rfl rfl rfl (Nat.le_of_ble_eq_true rfl) dX6_removeThing_3 ?_
  show J p l e rmX6_removeThing s m args below meth c g A 2 (MQ below (QC g A (some (.int r)) S') args s 0 0 A) 0 0 6 [(0, .ref (g.2.1 13)), (1, .int v1)] [.int r3, .ref (g.2.1 13)] S
  refine j_if_eq F (tgt := 13) dX6_removeThing_6 (by decide) hm (fun _ hm => ?_) (fun _ hm => ?_)
  · refine j_iconst F (v := 1) dX6_removeThing_13 (by decide) ?_
    refine j_sub [0, 1] rfl ?_
    exact hj14 v1 1 S  hm
  · refine j_iconst F (v := 0) dX6_removeThing_9 (by decide) ?_
    refine j_goto F (tgt := 14) dX6_removeThing_10 (by decide) ?_
    refine j_sub [0, 1] rfl ?_
    exact hj14 v1 0 S  hm
def m_X6_whyNotWake_J25 (w0 : Int32) (S : Hs) : Option (Int32) := some w0
def m_X6_whyNotWake (v1 : Int32) (S : Hs) : Option (Int32) := (m_X6_isThing v1 S).bind fun r2 => (if r2 = 0 then (m_X6_whyNotWake_J25 1 S) else ((m_X6_isPerson v1 S).bind fun r14 => (if r14 = 0 then (m_X6_whyNotWake_J25 2 S) else (m_X6_whyNotWake_J25 0 S))))
set_option maxRecDepth 100000 in
set_option maxHeartbeats 4000000 in
theorem c_X6_whyNotWake (l : Launch) (g : GG) (hg : Inj g) (v1 : Int32)  (S : Hs) (r : Int32) (hm : m_X6_whyNotWake v1 S = some r) : CM l yX6_whyNotWake [.code yX6_whyNotWake cX6_whyNotWake 2 (some .int)] rmX6_whyNotWake [.ref (g.2.1 13), .int v1] g S (some (.int r)) S := by
  unfold m_X6_whyNotWake at hm
  refine CM.of (cc := cX6_whyNotWake) (nL := 2) (ret := (some .int)) (lv := [(0, .ref (g.2.1 13)), (1, .int v1)]) (by decide +kernel) hg (Nat.le_of_ble_eq_true rfl) rfl (fun p e s m args below meth c A F => ?_)
  replace F : Fx p s m meth c cX6_whyNotWake RX6 2 (some .int) g A := F
  show J p l e rmX6_whyNotWake s m args below meth c g A 2 (MQ below (QC g A (some (.int r)) S) args s 0 0 A) 0 0 0 [(0, .ref (g.2.1 13)), (1, .int v1)] [] S
  have hj25 : ∀ (w0 : Int32) (S : Hs), m_X6_whyNotWake_J25 w0 S = some r → J p l e rmX6_whyNotWake s m args below meth c g A 2 (MQ below (QC g A (some (.int r)) S) args s 0 0 A) 0 0 25 [] [.int w0] S := by
    intro w0 S hm
    unfold m_X6_whyNotWake_J25 at hm
    exact j_iret_p F rfl dX6_whyNotWake_25 hm
  refine j_aload_n F 0 dX6_whyNotWake_0 rfl ?_
  refine j_iload_n F 1 dX6_whyNotWake_1 rfl ?_
  obtain ⟨r2, hc2, hm⟩ := Option.bind_eq_some_iff.mp hm
  refine j_callV F (n := 1) (As := [.int v1]) (rest := []) (c_X6_isThing l g hg v1 S r2 hc2) gw_X6_142 (by decide +kernel) ⟨Nat.le_of_ble_eq_true rfl, Nat.le_of_ble_eq_true rfl⟩ ⟨Nat.le_of_ble_eq_true rfl, Nat.le_of_ble_eq_true rfl⟩ rfl rfl rfl rfl (Nat.le_of_ble_eq_true rfl) dX6_whyNotWake_2 ?_
  show J p l e rmX6_whyNotWake s m args below meth c g A 2 (MQ below (QC g A (some (.int r)) S) args s 0 0 A) 0 0 5 [(0, .ref (g.2.1 13)), (1, .int v1)] [.int r2] S
  refine j_if_ne F (tgt := 12) dX6_whyNotWake_5 (by decide) hm (fun _ hm => ?_) (fun _ hm => ?_)
  · refine j_aload_n F 0 dX6_whyNotWake_12 rfl ?_
    refine j_iload_n F 1 dX6_whyNotWake_13 rfl ?_
    obtain ⟨r14, hc14, hm⟩ := Option.bind_eq_some_iff.mp hm
    refine j_callV F (n := 1) (As := [.int v1]) (rest := []) (c_X6_isPerson l g hg v1 S r14 hc14) gw_X6_97 (by decide +kernel) ⟨Nat.le_of_ble_eq_true rfl, Nat.le_of_ble_eq_true rfl⟩ ⟨Nat.le_of_ble_eq_true rfl, Nat.le_of_ble_eq_true rfl⟩ rfl rfl rfl rfl (Nat.le_of_ble_eq_true rfl) dX6_whyNotWake_14 ?_
    show J p l e rmX6_whyNotWake s m args below meth c g A 2 (MQ below (QC g A (some (.int r)) S) args s 0 0 A) 0 0 17 [(0, .ref (g.2.1 13)), (1, .int v1)] [.int r14] S
    refine j_if_eq F (tgt := 24) dX6_whyNotWake_17 (by decide) hm (fun _ hm => ?_) (fun _ hm => ?_)
    · refine j_iconst F (v := 2) dX6_whyNotWake_24 (by decide) ?_
      refine j_sub [] rfl ?_
      exact hj25 2 S  hm
    · refine j_iconst F (v := 0) dX6_whyNotWake_20 (by decide) ?_
      refine j_goto F (tgt := 25) dX6_whyNotWake_21 (by decide) ?_
      refine j_sub [] rfl ?_
      exact hj25 0 S  hm
  · refine j_iconst F (v := 1) dX6_whyNotWake_8 (by decide) ?_
    refine j_goto F (tgt := 25) dX6_whyNotWake_9 (by decide) ?_
    refine j_sub [] rfl ?_
    exact hj25 1 S  hm
noncomputable def m_X6_wake_J38 (w0 : Int32) (w1 : Int32) (S : Hs) : Option (Int32 × Hs) := gd (inb w1 57) (bnd (sA S 14 w1.toNatClampNeg w0) fun S38 => ((m_X6_awakeSet  S38).bind fun r41 => ((m_X6_spread r41 S38).bind fun S44 => ((m_X6_endMany  S44).bind fun r48 => (some ((r48, S44)))))))
noncomputable def m_X6_wake (v1 : Int32) (v2 : Int32) (S : Hs) : Option (Int32 × Hs) := (m_X6_whyNotWake v1 S).bind fun r3 => (bnd (sI S 13 0 r3) fun S6 => (if (gI S6 13 0) ≤ 0 then ((m_X6_remember  S6).bind fun S19 => (if v2 = 0 then (m_X6_wake_J38 2 (1 + v1) S19) else (m_X6_wake_J38 1 (1 + v1) S19))) else (some ((0, S6)))))
set_option maxRecDepth 100000 in
set_option maxHeartbeats 4000000 in
theorem c_X6_wake (l : Launch) (g : GG) (hg : Inj g) (v1 : Int32) (v2 : Int32)  (S : Hs) (r : Int32) (S' : Hs) (hm : m_X6_wake v1 v2 S = some ((r, S'))) : CM l yX6_wake [.code yX6_wake cX6_wake 3 (some .int)] rmX6_wake [.ref (g.2.1 13), .int v1, .int v2] g S (some (.int r)) S' := by
  unfold m_X6_wake at hm
  refine CM.of (cc := cX6_wake) (nL := 3) (ret := (some .int)) (lv := [(0, .ref (g.2.1 13)), (1, .int v1), (2, .int v2)]) (by decide +kernel) hg (Nat.le_of_ble_eq_true rfl) rfl (fun p e s m args below meth c A F => ?_)
  replace F : Fx p s m meth c cX6_wake RX6 3 (some .int) g A := F
  show J p l e rmX6_wake s m args below meth c g A 3 (MQ below (QC g A (some (.int r)) S') args s 0 0 A) 0 0 0 [(0, .ref (g.2.1 13)), (1, .int v1), (2, .int v2)] [] S
  have hj38 : ∀ (w0 : Int32) (w1 : Int32) (S : Hs), m_X6_wake_J38 w0 w1 S = some ((r, S')) → J p l e rmX6_wake s m args below meth c g A 3 (MQ below (QC g A (some (.int r)) S') args s 0 0 A) 0 0 38 [(0, .ref (g.2.1 13))] [.int w0, .int w1, .ref (g.2.1 14)] S := by
    intro w0 w1 S hm
    unfold m_X6_wake_J38 at hm
    refine j_iast F rfl dX6_wake_38 hm (fun hm => ?_)
    refine j_bndS hm (fun S38 hm => ?_)
    refine j_aload_n F 0 dX6_wake_39 rfl ?_
    refine j_aload_n F 0 dX6_wake_40 rfl ?_
    obtain ⟨r41, hc41, hm⟩ := Option.bind_eq_some_iff.mp hm
    refine j_callV F (n := 0) (As := []) (rest := [.ref (g.2.1 13)]) (c_X6_awakeSet l g hg S38 r41 hc41) gw_X6_125 (by decide +kernel) ⟨Nat.le_of_ble_eq_true rfl, Nat.le_of_ble_eq_true rfl⟩ ⟨Nat.le_of_ble_eq_true rfl, Nat.le_of_ble_eq_true rfl⟩ rfl rfl rfl rfl (Nat.le_of_ble_eq_true rfl) dX6_wake_41 ?_
    show J p l e rmX6_wake s m args below meth c g A 3 (MQ below (QC g A (some (.int r)) S') args s 0 0 A) 0 0 44 [(0, .ref (g.2.1 13))] [.int r41, .ref (g.2.1 13)] S38
    obtain ⟨S44, hc44, hm⟩ := Option.bind_eq_some_iff.mp hm
    refine j_callV F (n := 1) (As := [.int r41]) (rest := []) (c_X6_spread l g hg r41 S38 S44 hc44) gw_X6_128 (by decide +kernel) ⟨Nat.le_of_ble_eq_true rfl, Nat.le_of_ble_eq_true rfl⟩ ⟨Nat.le_of_ble_eq_true rfl, Nat.le_of_ble_eq_true rfl⟩ rfl rfl rfl rfl (Nat.le_of_ble_eq_true rfl) dX6_wake_44 ?_
    show J p l e rmX6_wake s m args below meth c g A 3 (MQ below (QC g A (some (.int r)) S') args s 0 0 A) 0 0 47 [(0, .ref (g.2.1 13))] [] S44
    refine j_aload_n F 0 dX6_wake_47 rfl ?_
    obtain ⟨r48, hc48, hm⟩ := Option.bind_eq_some_iff.mp hm
    refine j_callV F (n := 0) (As := []) (rest := []) (c_X6_endMany l g hg S44 r48 hc48) gw_X6_135 (by decide +kernel) ⟨Nat.le_of_ble_eq_true rfl, Nat.le_of_ble_eq_true rfl⟩ ⟨Nat.le_of_ble_eq_true rfl, Nat.le_of_ble_eq_true rfl⟩ rfl rfl rfl rfl (Nat.le_of_ble_eq_true rfl) dX6_wake_48 ?_
    show J p l e rmX6_wake s m args below meth c g A 3 (MQ below (QC g A (some (.int r)) S') args s 0 0 A) 0 0 51 [(0, .ref (g.2.1 13))] [.int r48] S44
    exact j_iret_e F rfl dX6_wake_51 hm
  refine j_aload_n F 0 dX6_wake_0 rfl ?_
  refine j_aload_n F 0 dX6_wake_1 rfl ?_
  refine j_iload_n F 1 dX6_wake_2 rfl ?_
  obtain ⟨r3, hc3, hm⟩ := Option.bind_eq_some_iff.mp hm
  refine j_callV F (n := 1) (As := [.int v1]) (rest := [.ref (g.2.1 13)]) (c_X6_whyNotWake l g hg v1 S r3 hc3) gw_X6_159 (by decide +kernel) ⟨Nat.le_of_ble_eq_true rfl, Nat.le_of_ble_eq_true rfl⟩ ⟨Nat.le_of_ble_eq_true rfl, Nat.le_of_ble_eq_true rfl⟩ rfl rfl rfl rfl (Nat.le_of_ble_eq_true rfl) dX6_wake_3 ?_
  show J p l e rmX6_wake s m args below meth c g A 3 (MQ below (QC g A (some (.int r)) S') args s 0 0 A) 0 0 6 [(0, .ref (g.2.1 13)), (1, .int v1), (2, .int v2)] [.int r3, .ref (g.2.1 13)] S
  refine j_putI F (k0 := 0) (C := RX6) (T := TX6) (N := 20) tyX6 tyX6_ok nmX6 rfl rfl rfl inF6 (by decide) tw535 rfl (by decide +kernel) dX6_wake_6 ?_
  refine j_bndS hm (fun S6 hm => ?_)
  refine j_aload_n F 0 dX6_wake_9 rfl ?_
  refine j_getI F (k0 := 0) (C := RX6) (T := TX6) (N := 20) rfl rfl rfl inF6 (by decide) tw535 dX6_wake_10 ?_
  refine j_if_le F (tgt := 18) dX6_wake_13 (by decide) hm (fun _ hm => ?_) (fun _ hm => ?_)
  · refine j_aload_n F 0 dX6_wake_18 rfl ?_
    obtain ⟨S19, hc19, hm⟩ := Option.bind_eq_some_iff.mp hm
    refine j_callV F (n := 0) (As := []) (rest := []) (c_X6_remember l g hg S6 S19 hc19) gw_X6_153 (by decide +kernel) ⟨Nat.le_of_ble_eq_true rfl, Nat.le_of_ble_eq_true rfl⟩ ⟨Nat.le_of_ble_eq_true rfl, Nat.le_of_ble_eq_true rfl⟩ rfl rfl rfl rfl (Nat.le_of_ble_eq_true rfl) dX6_wake_19 ?_
    show J p l e rmX6_wake s m args below meth c g A 3 (MQ below (QC g A (some (.int r)) S') args s 0 0 A) 0 0 22 [(0, .ref (g.2.1 13)), (1, .int v1), (2, .int v2)] [] S19
    refine j_aload_n F 0 dX6_wake_22 rfl ?_
    refine j_getR F (k0 := 1) (C := RX6) (T := TX6) (N := 20) rfl rfl rfl inF6 (by decide) tw520 dX6_wake_23 ?_
    refine j_iconst F (v := 1) dX6_wake_26 (by decide) ?_
    refine j_iload_n F 1 dX6_wake_27 rfl ?_
    refine j_iadd F dX6_wake_28 ?_
    refine j_iload_n F 2 dX6_wake_29 rfl ?_
    refine j_if_eq F (tgt := 37) dX6_wake_30 (by decide) hm (fun _ hm => ?_) (fun _ hm => ?_)
    · refine j_iconst F (v := 2) dX6_wake_37 (by decide) ?_
      refine j_sub [0] rfl ?_
      exact hj38 2 (1 + v1) S19  hm
    · refine j_iconst F (v := 1) dX6_wake_33 (by decide) ?_
      refine j_goto F (tgt := 38) dX6_wake_34 (by decide) ?_
      refine j_sub [0] rfl ?_
      exact hj38 1 (1 + v1) S19  hm
  · refine j_iconst F (v := 0) dX6_wake_16 (by decide) ?_
    exact j_iret_e F rfl dX6_wake_17 hm
def m_X6_whyNotSet_J48 (w0 : Int32) (S : Hs) : Option (Int32) := some w0
def m_X6_whyNotSet_J47 (S : Hs) : Option (Int32) := m_X6_whyNotSet_J48 0 S
noncomputable def m_X6_whyNotSet (v1 : Int32) (v2 : Int32) (v3 : Int32) (v4 : Int32) (S : Hs) : Option (Int32) := (m_X6_whyNotRight v1 v2 v3 S).bind fun r4 => (if r4 ≤ 0 then (if v4 = 0 then (m_X6_whyNotSet_J47 S) else ((m_X6_has v1 v2 v3 S).bind fun r28 => (if r28 = 0 then ((m_X6_rightsMany  S).bind fun r35 => (if r35 = 30 then (m_X6_whyNotSet_J48 3 S) else (m_X6_whyNotSet_J47 S))) else (m_X6_whyNotSet_J47 S)))) else (m_X6_whyNotSet_J48 r4 S))
set_option maxRecDepth 100000 in
set_option maxHeartbeats 4000000 in
theorem c_X6_whyNotSet (l : Launch) (g : GG) (hg : Inj g) (v1 : Int32) (v2 : Int32) (v3 : Int32) (v4 : Int32)  (S : Hs) (r : Int32) (hm : m_X6_whyNotSet v1 v2 v3 v4 S = some r) : CM l yX6_whyNotSet [.code yX6_whyNotSet cX6_whyNotSet 6 (some .int)] rmX6_whyNotSet [.ref (g.2.1 13), .int v1, .int v2, .int v3, .int v4] g S (some (.int r)) S := by
  unfold m_X6_whyNotSet at hm
  refine CM.of (cc := cX6_whyNotSet) (nL := 6) (ret := (some .int)) (lv := [(0, .ref (g.2.1 13)), (1, .int v1), (2, .int v2), (3, .int v3), (4, .int v4)]) (by decide +kernel) hg (Nat.le_of_ble_eq_true rfl) rfl (fun p e s m args below meth c A F => ?_)
  replace F : Fx p s m meth c cX6_whyNotSet RX6 6 (some .int) g A := F
  show J p l e rmX6_whyNotSet s m args below meth c g A 6 (MQ below (QC g A (some (.int r)) S) args s 0 0 A) 0 0 0 [(0, .ref (g.2.1 13)), (1, .int v1), (2, .int v2), (3, .int v3), (4, .int v4)] [] S
  have hj48 : ∀ (w0 : Int32) (S : Hs), m_X6_whyNotSet_J48 w0 S = some r → J p l e rmX6_whyNotSet s m args below meth c g A 6 (MQ below (QC g A (some (.int r)) S) args s 0 0 A) 0 0 48 [] [.int w0] S := by
    intro w0 S hm
    unfold m_X6_whyNotSet_J48 at hm
    exact j_iret_p F rfl dX6_whyNotSet_48 hm
  have hj47 : ∀ (S : Hs), m_X6_whyNotSet_J47 S = some r → J p l e rmX6_whyNotSet s m args below meth c g A 6 (MQ below (QC g A (some (.int r)) S) args s 0 0 A) 0 0 47 [] [] S := by
    intro S hm
    unfold m_X6_whyNotSet_J47 at hm
    refine j_iconst F (v := 0) dX6_whyNotSet_47 (by decide) ?_
    refine j_sub [] rfl ?_
    exact hj48 0 S  hm
  refine j_aload_n F 0 dX6_whyNotSet_0 rfl ?_
  refine j_iload_n F 1 dX6_whyNotSet_1 rfl ?_
  refine j_iload_n F 2 dX6_whyNotSet_2 rfl ?_
  refine j_iload_n F 3 dX6_whyNotSet_3 rfl ?_
  obtain ⟨r4, hc4, hm⟩ := Option.bind_eq_some_iff.mp hm
  refine j_callV F (n := 3) (As := [.int v1, .int v2, .int v3]) (rest := []) (c_X6_whyNotRight l g hg v1 v2 v3 S r4 hc4) gw_X6_145 (by decide +kernel) ⟨Nat.le_of_ble_eq_true rfl, Nat.le_of_ble_eq_true rfl⟩ ⟨Nat.le_of_ble_eq_true rfl, Nat.le_of_ble_eq_true rfl⟩ rfl rfl rfl rfl (Nat.le_of_ble_eq_true rfl) dX6_whyNotSet_4 ?_
  show J p l e rmX6_whyNotSet s m args below meth c g A 6 (MQ below (QC g A (some (.int r)) S) args s 0 0 A) 0 0 7 [(0, .ref (g.2.1 13)), (1, .int v1), (2, .int v2), (3, .int v3), (4, .int v4)] [.int r4] S
  refine j_istore F (lv' := [(5, .int r4), (0, .ref (g.2.1 13)), (1, .int v1), (2, .int v2), (3, .int v3), (4, .int v4)]) dX6_whyNotSet_7 (by decide) rfl ?_
  refine j_iload F 0 dX6_whyNotSet_9 rfl ?_
  refine j_if_le F (tgt := 19) dX6_whyNotSet_11 (by decide) hm (fun _ hm => ?_) (fun _ hm => ?_)
  · refine j_iload F 5 dX6_whyNotSet_19 rfl ?_
    refine j_if_eq F (tgt := 47) dX6_whyNotSet_21 (by decide) hm (fun _ hm => ?_) (fun _ hm => ?_)
    · refine j_sub [] rfl ?_
      exact hj47 S  hm
    · refine j_aload_n F 1 dX6_whyNotSet_24 rfl ?_
      refine j_iload_n F 2 dX6_whyNotSet_25 rfl ?_
      refine j_iload_n F 3 dX6_whyNotSet_26 rfl ?_
      refine j_iload_n F 4 dX6_whyNotSet_27 rfl ?_
      obtain ⟨r28, hc28, hm⟩ := Option.bind_eq_some_iff.mp hm
      refine j_callV F (n := 3) (As := [.int v1, .int v2, .int v3]) (rest := []) (c_X6_has l g hg v1 v2 v3 S r28 hc28) gw_X6_94 (by decide +kernel) ⟨Nat.le_of_ble_eq_true rfl, Nat.le_of_ble_eq_true rfl⟩ ⟨Nat.le_of_ble_eq_true rfl, Nat.le_of_ble_eq_true rfl⟩ rfl rfl rfl rfl (Nat.le_of_ble_eq_true rfl) dX6_whyNotSet_28 ?_
      show J p l e rmX6_whyNotSet s m args below meth c g A 6 (MQ below (QC g A (some (.int r)) S) args s 0 0 A) 0 0 31 [(5, .int r4), (0, .ref (g.2.1 13)), (1, .int v1), (2, .int v2), (3, .int v3), (4, .int v4)] [.int r28] S
      refine j_if_ne F (tgt := 47) dX6_whyNotSet_31 (by decide) hm (fun _ hm => ?_) (fun _ hm => ?_)
      · refine j_sub [] rfl ?_
        exact hj47 S  hm
      · refine j_aload_n F 1 dX6_whyNotSet_34 rfl ?_
        obtain ⟨r35, hc35, hm⟩ := Option.bind_eq_some_iff.mp hm
        refine j_callV F (n := 0) (As := []) (rest := []) (c_X6_rightsMany l g hg S r35 hc35) gw_X6_64 (by decide +kernel) ⟨Nat.le_of_ble_eq_true rfl, Nat.le_of_ble_eq_true rfl⟩ ⟨Nat.le_of_ble_eq_true rfl, Nat.le_of_ble_eq_true rfl⟩ rfl rfl rfl rfl (Nat.le_of_ble_eq_true rfl) dX6_whyNotSet_35 ?_
        show J p l e rmX6_whyNotSet s m args below meth c g A 6 (MQ below (QC g A (some (.int r)) S) args s 0 0 A) 0 0 38 [(5, .int r4), (0, .ref (g.2.1 13)), (1, .int v1), (2, .int v2), (3, .int v3), (4, .int v4)] [.int r35] S
        refine j_bipush F (v := 30) dX6_whyNotSet_38 (by decide) ?_
        refine j_icmp_ne F (tgt := 47) dX6_whyNotSet_40 (by decide) hm (fun _ hm => ?_) (fun _ hm => ?_)
        · refine j_sub [] rfl ?_
          exact hj47 S  hm
        · refine j_iconst F (v := 3) dX6_whyNotSet_43 (by decide) ?_
          refine j_goto F (tgt := 48) dX6_whyNotSet_44 (by decide) ?_
          refine j_sub [] rfl ?_
          exact hj48 3 S  hm
  · refine j_iload F 0 dX6_whyNotSet_14 rfl ?_
    refine j_goto F (tgt := 48) dX6_whyNotSet_16 (by decide) ?_
    refine j_sub [] rfl ?_
    exact hj48 r4 S  hm
def m_X6_put_J49 (w0 : Int32) (w1 : Int32) (S : Hs) : Option (Hs) := gd (inb w1 57) (bnd (sA S 14 w1.toNatClampNeg w0) fun S49 => (some S49))
def m_X6_put (v1 : Int32) (v2 : Int32) (v3 : Int32) (v4 : Int32) (S : Hs) : Option (Hs) := (m_X6_at v1 v3).bind fun r8 => (gd (inb (8 + r8) 57) (bnd (gA S 14 (8 + r8).toNatClampNeg) fun v5_13 => ((m_X6_at v1 v3).bind fun r23 => (if v4 = 0 then (m_X6_put_J49 (v5_13 &&& ((1 <<< (v2 &&& 31)) ^^^ ((-1)))) (8 + r23) S) else (m_X6_put_J49 (v5_13 ||| (1 <<< (v2 &&& 31))) (8 + r23) S)))))
set_option maxRecDepth 100000 in
set_option maxHeartbeats 4000000 in
theorem c_X6_put (l : Launch) (g : GG) (hg : Inj g) (v1 : Int32) (v2 : Int32) (v3 : Int32) (v4 : Int32)  (S : Hs) (S' : Hs) (hm : m_X6_put v1 v2 v3 v4 S = some S') : CM l yX6_put [.code yX6_put cX6_put 6 none] rmX6_put [.ref (g.2.1 13), .int v1, .int v2, .int v3, .int v4] g S none S' := by
  unfold m_X6_put at hm
  refine CM.of (cc := cX6_put) (nL := 6) (ret := none) (lv := [(0, .ref (g.2.1 13)), (1, .int v1), (2, .int v2), (3, .int v3), (4, .int v4)]) (by decide +kernel) hg (Nat.le_of_ble_eq_true rfl) rfl (fun p e s m args below meth c A F => ?_)
  replace F : Fx p s m meth c cX6_put RX6 6 none g A := F
  show J p l e rmX6_put s m args below meth c g A 6 (MQ below (QC g A none S') args s 0 0 A) 0 0 0 [(0, .ref (g.2.1 13)), (1, .int v1), (2, .int v2), (3, .int v3), (4, .int v4)] [] S
  have hj49 : ∀ (w0 : Int32) (w1 : Int32) (S : Hs), m_X6_put_J49 w0 w1 S = some S' → J p l e rmX6_put s m args below meth c g A 6 (MQ below (QC g A none S') args s 0 0 A) 0 0 49 [] [.int w0, .int w1, .ref (g.2.1 14)] S := by
    intro w0 w1 S hm
    unfold m_X6_put_J49 at hm
    refine j_iast F rfl dX6_put_49 hm (fun hm => ?_)
    refine j_bndS hm (fun S49 hm => ?_)
    exact j_vret_e F rfl dX6_put_50 hm
  refine j_aload_n F 0 dX6_put_0 rfl ?_
  refine j_getR F (k0 := 1) (C := RX6) (T := TX6) (N := 20) rfl rfl rfl inF6 (by decide) tw520 dX6_put_1 ?_
  refine j_bipush F (v := 8) dX6_put_4 (by decide) ?_
  refine j_iload_n F 1 dX6_put_6 rfl ?_
  refine j_iload_n F 3 dX6_put_7 rfl ?_
  obtain ⟨r8, hc8, hm⟩ := Option.bind_eq_some_iff.mp hm
  refine j_callS F (n := 2) (As := [.int v1, .int v3]) (rest := [.int 8, .ref (g.2.1 14)]) (c_X6_at l g hg v1 v3 S r8 hc8) gw_X6_68 (by decide +kernel) ⟨Nat.le_of_ble_eq_true rfl, Nat.le_of_ble_eq_true rfl⟩ ⟨Nat.le_of_ble_eq_true rfl, Nat.le_of_ble_eq_true rfl⟩ rfl rfl (Nat.le_of_ble_eq_true rfl) dX6_put_8 ?_
  show J p l e rmX6_put s m args below meth c g A 6 (MQ below (QC g A none S') args s 0 0 A) 0 0 11 [(0, .ref (g.2.1 13)), (1, .int v1), (2, .int v2), (3, .int v3), (4, .int v4)] [.int r8, .int 8, .ref (g.2.1 14)] S
  refine j_iadd F dX6_put_11 ?_
  refine j_iald F rfl dX6_put_12 hm (fun hm => ?_)
  refine j_bnd hm (fun v5_13 hm => ?_)
  refine j_istore F (lv' := [(5, .int v5_13), (0, .ref (g.2.1 13)), (1, .int v1), (2, .int v2), (3, .int v3), (4, .int v4)]) dX6_put_13 (by decide) rfl ?_
  refine j_aload_n F 1 dX6_put_15 rfl ?_
  refine j_getR F (k0 := 1) (C := RX6) (T := TX6) (N := 20) rfl rfl rfl inF6 (by decide) tw520 dX6_put_16 ?_
  refine j_bipush F (v := 8) dX6_put_19 (by decide) ?_
  refine j_iload_n F 2 dX6_put_21 rfl ?_
  refine j_iload_n F 4 dX6_put_22 rfl ?_
  obtain ⟨r23, hc23, hm⟩ := Option.bind_eq_some_iff.mp hm
  refine j_callS F (n := 2) (As := [.int v1, .int v3]) (rest := [.int 8, .ref (g.2.1 14)]) (c_X6_at l g hg v1 v3 S r23 hc23) gw_X6_68 (by decide +kernel) ⟨Nat.le_of_ble_eq_true rfl, Nat.le_of_ble_eq_true rfl⟩ ⟨Nat.le_of_ble_eq_true rfl, Nat.le_of_ble_eq_true rfl⟩ rfl rfl (Nat.le_of_ble_eq_true rfl) dX6_put_23 ?_
  show J p l e rmX6_put s m args below meth c g A 6 (MQ below (QC g A none S') args s 0 0 A) 0 0 26 [(5, .int v5_13), (0, .ref (g.2.1 13)), (1, .int v1), (2, .int v2), (3, .int v3), (4, .int v4)] [.int r23, .int 8, .ref (g.2.1 14)] S
  refine j_iadd F dX6_put_26 ?_
  refine j_iload F 5 dX6_put_27 rfl ?_
  refine j_if_eq F (tgt := 41) dX6_put_29 (by decide) hm (fun _ hm => ?_) (fun _ hm => ?_)
  · refine j_iload F 0 dX6_put_41 rfl ?_
    refine j_iconst F (v := 1) dX6_put_43 (by decide) ?_
    refine j_iload_n F 3 dX6_put_44 rfl ?_
    refine j_ishl F dX6_put_45 ?_
    refine j_iconst F (v := -1) dX6_put_46 (by decide) ?_
    refine j_ixor F dX6_put_47 ?_
    refine j_iand F dX6_put_48 ?_
    refine j_sub [] rfl ?_
    exact hj49 (v5_13 &&& ((1 <<< (v2 &&& 31)) ^^^ ((-1)))) (8 + r23) S  hm
  · refine j_iload F 0 dX6_put_32 rfl ?_
    refine j_iconst F (v := 1) dX6_put_34 (by decide) ?_
    refine j_iload_n F 3 dX6_put_35 rfl ?_
    refine j_ishl F dX6_put_36 ?_
    refine j_ior F dX6_put_37 ?_
    refine j_goto F (tgt := 49) dX6_put_38 (by decide) ?_
    refine j_sub [] rfl ?_
    exact hj49 (v5_13 ||| (1 <<< (v2 &&& 31))) (8 + r23) S  hm
noncomputable def m_X6_set (v1 : Int32) (v2 : Int32) (v3 : Int32) (v4 : Int32) (S : Hs) : Option (Int32 × Hs) := (m_X6_whyNotSet v1 v2 v3 v4 S).bind fun r7 => (bnd (sI S 13 0 r7) fun S10 => (if (gI S10 13 0) ≤ 0 then ((m_X6_remember  S10).bind fun S23 => ((m_X6_has v1 v2 v3 S23).bind fun r30 => ((m_X6_put v1 v2 v3 v4 S23).bind fun S41 => (gd (decide (r30 = 0 ∨ r30 = 1)) (some ((r30, S41))))))) else (some ((0, S10)))))
set_option maxRecDepth 100000 in
set_option maxHeartbeats 4000000 in
theorem c_X6_set (l : Launch) (g : GG) (hg : Inj g) (v1 : Int32) (v2 : Int32) (v3 : Int32) (v4 : Int32)  (S : Hs) (r : Int32) (S' : Hs) (hm : m_X6_set v1 v2 v3 v4 S = some ((r, S'))) : CM l yX6_set [.code yX6_set cX6_set 6 (some .boolean)] rmX6_set [.ref (g.2.1 13), .int v1, .int v2, .int v3, .int v4] g S (some (.int r)) S' := by
  unfold m_X6_set at hm
  refine CM.of (cc := cX6_set) (nL := 6) (ret := (some .boolean)) (lv := [(0, .ref (g.2.1 13)), (1, .int v1), (2, .int v2), (3, .int v3), (4, .int v4)]) (by decide +kernel) hg (Nat.le_of_ble_eq_true rfl) rfl (fun p e s m args below meth c A F => ?_)
  replace F : Fx p s m meth c cX6_set RX6 6 (some .boolean) g A := F
  show J p l e rmX6_set s m args below meth c g A 6 (MQ below (QC g A (some (.int r)) S') args s 0 0 A) 0 0 0 [(0, .ref (g.2.1 13)), (1, .int v1), (2, .int v2), (3, .int v3), (4, .int v4)] [] S
  refine j_aload_n F 0 dX6_set_0 rfl ?_
  refine j_aload_n F 0 dX6_set_1 rfl ?_
  refine j_iload_n F 1 dX6_set_2 rfl ?_
  refine j_iload_n F 2 dX6_set_3 rfl ?_
  refine j_iload_n F 3 dX6_set_4 rfl ?_
  refine j_iload F 4 dX6_set_5 rfl ?_
  obtain ⟨r7, hc7, hm⟩ := Option.bind_eq_some_iff.mp hm
  refine j_callV F (n := 4) (As := [.int v1, .int v2, .int v3, .int v4]) (rest := [.ref (g.2.1 13)]) (c_X6_whyNotSet l g hg v1 v2 v3 v4 S r7 hc7) gw_X6_162 (by decide +kernel) ⟨Nat.le_of_ble_eq_true rfl, Nat.le_of_ble_eq_true rfl⟩ ⟨Nat.le_of_ble_eq_true rfl, Nat.le_of_ble_eq_true rfl⟩ rfl rfl rfl rfl (Nat.le_of_ble_eq_true rfl) dX6_set_7 ?_
  show J p l e rmX6_set s m args below meth c g A 6 (MQ below (QC g A (some (.int r)) S') args s 0 0 A) 0 0 10 [(0, .ref (g.2.1 13)), (1, .int v1), (2, .int v2), (3, .int v3), (4, .int v4)] [.int r7, .ref (g.2.1 13)] S
  refine j_putI F (k0 := 0) (C := RX6) (T := TX6) (N := 20) tyX6 tyX6_ok nmX6 rfl rfl rfl inF6 (by decide) tw535 rfl (by decide +kernel) dX6_set_10 ?_
  refine j_bndS hm (fun S10 hm => ?_)
  refine j_aload_n F 0 dX6_set_13 rfl ?_
  refine j_getI F (k0 := 0) (C := RX6) (T := TX6) (N := 20) rfl rfl rfl inF6 (by decide) tw535 dX6_set_14 ?_
  refine j_if_le F (tgt := 22) dX6_set_17 (by decide) hm (fun _ hm => ?_) (fun _ hm => ?_)
  · refine j_aload_n F 0 dX6_set_22 rfl ?_
    obtain ⟨S23, hc23, hm⟩ := Option.bind_eq_some_iff.mp hm
    refine j_callV F (n := 0) (As := []) (rest := []) (c_X6_remember l g hg S10 S23 hc23) gw_X6_153 (by decide +kernel) ⟨Nat.le_of_ble_eq_true rfl, Nat.le_of_ble_eq_true rfl⟩ ⟨Nat.le_of_ble_eq_true rfl, Nat.le_of_ble_eq_true rfl⟩ rfl rfl rfl rfl (Nat.le_of_ble_eq_true rfl) dX6_set_23 ?_
    show J p l e rmX6_set s m args below meth c g A 6 (MQ below (QC g A (some (.int r)) S') args s 0 0 A) 0 0 26 [(0, .ref (g.2.1 13)), (1, .int v1), (2, .int v2), (3, .int v3), (4, .int v4)] [] S23
    refine j_aload_n F 0 dX6_set_26 rfl ?_
    refine j_iload_n F 1 dX6_set_27 rfl ?_
    refine j_iload_n F 2 dX6_set_28 rfl ?_
    refine j_iload_n F 3 dX6_set_29 rfl ?_
    obtain ⟨r30, hc30, hm⟩ := Option.bind_eq_some_iff.mp hm
    refine j_callV F (n := 3) (As := [.int v1, .int v2, .int v3]) (rest := []) (c_X6_has l g hg v1 v2 v3 S23 r30 hc30) gw_X6_94 (by decide +kernel) ⟨Nat.le_of_ble_eq_true rfl, Nat.le_of_ble_eq_true rfl⟩ ⟨Nat.le_of_ble_eq_true rfl, Nat.le_of_ble_eq_true rfl⟩ rfl rfl rfl rfl (Nat.le_of_ble_eq_true rfl) dX6_set_30 ?_
    show J p l e rmX6_set s m args below meth c g A 6 (MQ below (QC g A (some (.int r)) S') args s 0 0 A) 0 0 33 [(0, .ref (g.2.1 13)), (1, .int v1), (2, .int v2), (3, .int v3), (4, .int v4)] [.int r30] S23
    refine j_istore F (lv' := [(5, .int r30), (0, .ref (g.2.1 13)), (1, .int v1), (2, .int v2), (3, .int v3), (4, .int v4)]) dX6_set_33 (by decide) rfl ?_
    refine j_aload_n F 1 dX6_set_35 rfl ?_
    refine j_iload_n F 2 dX6_set_36 rfl ?_
    refine j_iload_n F 3 dX6_set_37 rfl ?_
    refine j_iload_n F 4 dX6_set_38 rfl ?_
    refine j_iload F 5 dX6_set_39 rfl ?_
    obtain ⟨S41, hc41, hm⟩ := Option.bind_eq_some_iff.mp hm
    refine j_callV F (n := 4) (As := [.int v1, .int v2, .int v3, .int v4]) (rest := []) (c_X6_put l g hg v1 v2 v3 v4 S23 S41 hc41) gw_X6_166 (by decide +kernel) ⟨Nat.le_of_ble_eq_true rfl, Nat.le_of_ble_eq_true rfl⟩ ⟨Nat.le_of_ble_eq_true rfl, Nat.le_of_ble_eq_true rfl⟩ rfl rfl rfl rfl (Nat.le_of_ble_eq_true rfl) dX6_set_41 ?_
    show J p l e rmX6_set s m args below meth c g A 6 (MQ below (QC g A (some (.int r)) S') args s 0 0 A) 0 0 44 [(5, .int r30), (0, .ref (g.2.1 13)), (1, .int v1), (2, .int v2), (3, .int v3), (4, .int v4)] [] S41
    refine j_iload F 0 dX6_set_44 rfl ?_
    obtain ⟨hb, hm⟩ := gd_ok hm
    exact j_zret_e F rfl (z_nar hb) dX6_set_46 hm
  · refine j_iconst F (v := 0) dX6_set_20 (by decide) ?_
    exact j_zret_e F rfl rfl dX6_set_21 hm
def m_X6_whyNotStep_J25 (S : Hs) : Option (Int32) := some 1
def m_X6_whyNotStep_J58 (w0 : Int32) (S : Hs) : Option (Int32) := some w0
def m_X6_whyNotStep_J53 (S : Hs) : Option (Int32) := m_X6_whyNotStep_J58 2 S
def m_X6_whyNotStep (v1 : Int32) (v2 : Int32) (v3 : Int32) (v4 : Int32) (S : Hs) : Option (Int32) := (m_X6_isThing v1 S).bind fun r2 => (if r2 = 0 then (m_X6_whyNotStep_J25 S) else ((m_X6_isThing v2 S).bind fun r10 => (if r10 = 0 then (m_X6_whyNotStep_J25 S) else ((m_X6_isThing v4 S).bind fun r19 => (if r19 = 0 then (m_X6_whyNotStep_J25 S) else (if v1 = v2 then (m_X6_whyNotStep_J53 S) else (if v1 = v4 then (m_X6_whyNotStep_J53 S) else (if v2 = v4 then (m_X6_whyNotStep_J53 S) else ((m_X6_in v3 0 3).bind fun r47 => (if r47 = 0 then (m_X6_whyNotStep_J53 S) else (m_X6_whyNotStep_J58 0 S)))))))))))
set_option maxRecDepth 100000 in
set_option maxHeartbeats 4000000 in
theorem c_X6_whyNotStep (l : Launch) (g : GG) (hg : Inj g) (v1 : Int32) (v2 : Int32) (v3 : Int32) (v4 : Int32)  (S : Hs) (r : Int32) (hm : m_X6_whyNotStep v1 v2 v3 v4 S = some r) : CM l yX6_whyNotStep [.code yX6_whyNotStep cX6_whyNotStep 5 (some .int)] rmX6_whyNotStep [.ref (g.2.1 13), .int v1, .int v2, .int v3, .int v4] g S (some (.int r)) S := by
  unfold m_X6_whyNotStep at hm
  refine CM.of (cc := cX6_whyNotStep) (nL := 5) (ret := (some .int)) (lv := [(0, .ref (g.2.1 13)), (1, .int v1), (2, .int v2), (3, .int v3), (4, .int v4)]) (by decide +kernel) hg (Nat.le_of_ble_eq_true rfl) rfl (fun p e s m args below meth c A F => ?_)
  replace F : Fx p s m meth c cX6_whyNotStep RX6 5 (some .int) g A := F
  show J p l e rmX6_whyNotStep s m args below meth c g A 5 (MQ below (QC g A (some (.int r)) S) args s 0 0 A) 0 0 0 [(0, .ref (g.2.1 13)), (1, .int v1), (2, .int v2), (3, .int v3), (4, .int v4)] [] S
  have hj25 : ∀ (S : Hs), m_X6_whyNotStep_J25 S = some r → J p l e rmX6_whyNotStep s m args below meth c g A 5 (MQ below (QC g A (some (.int r)) S) args s 0 0 A) 0 0 25 [] [] S := by
    intro S hm
    unfold m_X6_whyNotStep_J25 at hm
    refine j_iconst F (v := 1) dX6_whyNotStep_25 (by decide) ?_
    exact j_iret_p F rfl dX6_whyNotStep_26 hm
  have hj58 : ∀ (w0 : Int32) (S : Hs), m_X6_whyNotStep_J58 w0 S = some r → J p l e rmX6_whyNotStep s m args below meth c g A 5 (MQ below (QC g A (some (.int r)) S) args s 0 0 A) 0 0 58 [] [.int w0] S := by
    intro w0 S hm
    unfold m_X6_whyNotStep_J58 at hm
    exact j_iret_p F rfl dX6_whyNotStep_58 hm
  have hj53 : ∀ (S : Hs), m_X6_whyNotStep_J53 S = some r → J p l e rmX6_whyNotStep s m args below meth c g A 5 (MQ below (QC g A (some (.int r)) S) args s 0 0 A) 0 0 53 [] [] S := by
    intro S hm
    unfold m_X6_whyNotStep_J53 at hm
    refine j_iconst F (v := 2) dX6_whyNotStep_53 (by decide) ?_
    refine j_goto F (tgt := 58) dX6_whyNotStep_54 (by decide) ?_
    refine j_sub [] rfl ?_
    exact hj58 2 S  hm
  refine j_aload_n F 0 dX6_whyNotStep_0 rfl ?_
  refine j_iload_n F 1 dX6_whyNotStep_1 rfl ?_
  obtain ⟨r2, hc2, hm⟩ := Option.bind_eq_some_iff.mp hm
  refine j_callV F (n := 1) (As := [.int v1]) (rest := []) (c_X6_isThing l g hg v1 S r2 hc2) gw_X6_142 (by decide +kernel) ⟨Nat.le_of_ble_eq_true rfl, Nat.le_of_ble_eq_true rfl⟩ ⟨Nat.le_of_ble_eq_true rfl, Nat.le_of_ble_eq_true rfl⟩ rfl rfl rfl rfl (Nat.le_of_ble_eq_true rfl) dX6_whyNotStep_2 ?_
  show J p l e rmX6_whyNotStep s m args below meth c g A 5 (MQ below (QC g A (some (.int r)) S) args s 0 0 A) 0 0 5 [(0, .ref (g.2.1 13)), (1, .int v1), (2, .int v2), (3, .int v3), (4, .int v4)] [.int r2] S
  refine j_if_eq F (tgt := 25) dX6_whyNotStep_5 (by decide) hm (fun _ hm => ?_) (fun _ hm => ?_)
  · refine j_sub [] rfl ?_
    exact hj25 S  hm
  · refine j_aload_n F 0 dX6_whyNotStep_8 rfl ?_
    refine j_iload_n F 2 dX6_whyNotStep_9 rfl ?_
    obtain ⟨r10, hc10, hm⟩ := Option.bind_eq_some_iff.mp hm
    refine j_callV F (n := 1) (As := [.int v2]) (rest := []) (c_X6_isThing l g hg v2 S r10 hc10) gw_X6_142 (by decide +kernel) ⟨Nat.le_of_ble_eq_true rfl, Nat.le_of_ble_eq_true rfl⟩ ⟨Nat.le_of_ble_eq_true rfl, Nat.le_of_ble_eq_true rfl⟩ rfl rfl rfl rfl (Nat.le_of_ble_eq_true rfl) dX6_whyNotStep_10 ?_
    show J p l e rmX6_whyNotStep s m args below meth c g A 5 (MQ below (QC g A (some (.int r)) S) args s 0 0 A) 0 0 13 [(0, .ref (g.2.1 13)), (1, .int v1), (2, .int v2), (3, .int v3), (4, .int v4)] [.int r10] S
    refine j_if_eq F (tgt := 25) dX6_whyNotStep_13 (by decide) hm (fun _ hm => ?_) (fun _ hm => ?_)
    · refine j_sub [] rfl ?_
      exact hj25 S  hm
    · refine j_aload_n F 0 dX6_whyNotStep_16 rfl ?_
      refine j_iload F 4 dX6_whyNotStep_17 rfl ?_
      obtain ⟨r19, hc19, hm⟩ := Option.bind_eq_some_iff.mp hm
      refine j_callV F (n := 1) (As := [.int v4]) (rest := []) (c_X6_isThing l g hg v4 S r19 hc19) gw_X6_142 (by decide +kernel) ⟨Nat.le_of_ble_eq_true rfl, Nat.le_of_ble_eq_true rfl⟩ ⟨Nat.le_of_ble_eq_true rfl, Nat.le_of_ble_eq_true rfl⟩ rfl rfl rfl rfl (Nat.le_of_ble_eq_true rfl) dX6_whyNotStep_19 ?_
      show J p l e rmX6_whyNotStep s m args below meth c g A 5 (MQ below (QC g A (some (.int r)) S) args s 0 0 A) 0 0 22 [(0, .ref (g.2.1 13)), (1, .int v1), (2, .int v2), (3, .int v3), (4, .int v4)] [.int r19] S
      refine j_if_ne F (tgt := 27) dX6_whyNotStep_22 (by decide) hm (fun _ hm => ?_) (fun _ hm => ?_)
      · refine j_iload_n F 1 dX6_whyNotStep_27 rfl ?_
        refine j_iload_n F 2 dX6_whyNotStep_28 rfl ?_
        refine j_icmp_eq F (tgt := 53) dX6_whyNotStep_29 (by decide) hm (fun _ hm => ?_) (fun _ hm => ?_)
        · refine j_sub [] rfl ?_
          exact hj53 S  hm
        · refine j_iload_n F 1 dX6_whyNotStep_32 rfl ?_
          refine j_iload F 4 dX6_whyNotStep_33 rfl ?_
          refine j_icmp_eq F (tgt := 53) dX6_whyNotStep_35 (by decide) hm (fun _ hm => ?_) (fun _ hm => ?_)
          · refine j_sub [] rfl ?_
            exact hj53 S  hm
          · refine j_iload_n F 2 dX6_whyNotStep_38 rfl ?_
            refine j_iload F 4 dX6_whyNotStep_39 rfl ?_
            refine j_icmp_eq F (tgt := 53) dX6_whyNotStep_41 (by decide) hm (fun _ hm => ?_) (fun _ hm => ?_)
            · refine j_sub [] rfl ?_
              exact hj53 S  hm
            · refine j_iload_n F 3 dX6_whyNotStep_44 rfl ?_
              refine j_iconst F (v := 0) dX6_whyNotStep_45 (by decide) ?_
              refine j_iconst F (v := 3) dX6_whyNotStep_46 (by decide) ?_
              obtain ⟨r47, hc47, hm⟩ := Option.bind_eq_some_iff.mp hm
              refine j_callS F (n := 3) (As := [.int v3, .int 0, .int 3]) (rest := []) (c_X6_in l g hg v3 0 3 S r47 hc47) gw_X6_60 (by decide +kernel) ⟨Nat.le_of_ble_eq_true rfl, Nat.le_of_ble_eq_true rfl⟩ ⟨Nat.le_of_ble_eq_true rfl, Nat.le_of_ble_eq_true rfl⟩ rfl rfl (Nat.le_of_ble_eq_true rfl) dX6_whyNotStep_47 ?_
              show J p l e rmX6_whyNotStep s m args below meth c g A 5 (MQ below (QC g A (some (.int r)) S) args s 0 0 A) 0 0 50 [(0, .ref (g.2.1 13)), (1, .int v1), (2, .int v2), (3, .int v3), (4, .int v4)] [.int r47] S
              refine j_if_ne F (tgt := 57) dX6_whyNotStep_50 (by decide) hm (fun _ hm => ?_) (fun _ hm => ?_)
              · refine j_iconst F (v := 0) dX6_whyNotStep_57 (by decide) ?_
                refine j_sub [] rfl ?_
                exact hj58 0 S  hm
              · refine j_sub [] rfl ?_
                exact hj53 S  hm
      · refine j_sub [] rfl ?_
        exact hj25 S  hm
def m_X6_hinders_J69 (w0 : Int32) (S : Hs) : Option (Int32) := some w0
def m_X6_hinders_J54 (v4 : Int32) (v5 : Int32) (w0 : Int32) (S : Hs) : Option (Int32) := (m_X6_has w0 v4 v5 S).bind fun r58 => (if r58 = 0 then (m_X6_hinders_J69 4 S) else (m_X6_hinders_J69 0 S))
def m_X6_hinders_J35 (v1 : Int32) (v2 : Int32) (v3 : Int32) (v4 : Int32) (v5 : Int32) (w0 : Int32) (w1 : Int32) (S : Hs) : Option (Int32) := (m_X6_has w1 w0 v3 S).bind fun r36 => (if r36 = 0 then (some 3) else (if v1 = 0 then (m_X6_hinders_J54 v4 v5 v3 S) else (m_X6_hinders_J54 v4 v5 v2 S)))
def m_X6_hinders (v1 : Int32) (v2 : Int32) (v3 : Int32) (v4 : Int32) (v5 : Int32) (S : Hs) : Option (Int32) := (m_X6_isPerson v2 S).bind fun r2 => (if r2 = 0 then (some 1) else (gd (inb (1 + v2) 57) (if (gA S 14 (1 + v2).toNatClampNeg) = 2 then (some 2) else (if v1 = 0 then (m_X6_hinders_J35 v1 v2 v3 v4 v5 0 v2 S) else (m_X6_hinders_J35 v1 v2 v3 v4 v5 1 v2 S)))))
set_option maxRecDepth 100000 in
set_option maxHeartbeats 4000000 in
theorem c_X6_hinders (l : Launch) (g : GG) (hg : Inj g) (v1 : Int32) (v2 : Int32) (v3 : Int32) (v4 : Int32) (v5 : Int32)  (S : Hs) (r : Int32) (hm : m_X6_hinders v1 v2 v3 v4 v5 S = some r) : CM l yX6_hinders [.code yX6_hinders cX6_hinders 6 (some .int)] rmX6_hinders [.ref (g.2.1 13), .int v1, .int v2, .int v3, .int v4, .int v5] g S (some (.int r)) S := by
  unfold m_X6_hinders at hm
  refine CM.of (cc := cX6_hinders) (nL := 6) (ret := (some .int)) (lv := [(0, .ref (g.2.1 13)), (1, .int v1), (2, .int v2), (3, .int v3), (4, .int v4), (5, .int v5)]) (by decide +kernel) hg (Nat.le_of_ble_eq_true rfl) rfl (fun p e s m args below meth c A F => ?_)
  replace F : Fx p s m meth c cX6_hinders RX6 6 (some .int) g A := F
  show J p l e rmX6_hinders s m args below meth c g A 6 (MQ below (QC g A (some (.int r)) S) args s 0 0 A) 0 0 0 [(0, .ref (g.2.1 13)), (1, .int v1), (2, .int v2), (3, .int v3), (4, .int v4), (5, .int v5)] [] S
  have hj69 : ∀ (w0 : Int32) (S : Hs), m_X6_hinders_J69 w0 S = some r → J p l e rmX6_hinders s m args below meth c g A 6 (MQ below (QC g A (some (.int r)) S) args s 0 0 A) 0 0 69 [] [.int w0] S := by
    intro w0 S hm
    unfold m_X6_hinders_J69 at hm
    exact j_iret_p F rfl dX6_hinders_69 hm
  have hj54 : ∀ (v4 : Int32) (v5 : Int32) (w0 : Int32) (S : Hs), m_X6_hinders_J54 v4 v5 w0 S = some r → J p l e rmX6_hinders s m args below meth c g A 6 (MQ below (QC g A (some (.int r)) S) args s 0 0 A) 0 0 54 [(4, .int v4), (5, .int v5)] [.int w0, .ref (g.2.1 13)] S := by
    intro v4 v5 w0 S hm
    unfold m_X6_hinders_J54 at hm
    refine j_iload F 0 dX6_hinders_54 rfl ?_
    refine j_iload F 1 dX6_hinders_56 rfl ?_
    obtain ⟨r58, hc58, hm⟩ := Option.bind_eq_some_iff.mp hm
    refine j_callV F (n := 3) (As := [.int w0, .int v4, .int v5]) (rest := []) (c_X6_has l g hg w0 v4 v5 S r58 hc58) gw_X6_94 (by decide +kernel) ⟨Nat.le_of_ble_eq_true rfl, Nat.le_of_ble_eq_true rfl⟩ ⟨Nat.le_of_ble_eq_true rfl, Nat.le_of_ble_eq_true rfl⟩ rfl rfl rfl rfl (Nat.le_of_ble_eq_true rfl) dX6_hinders_58 ?_
    show J p l e rmX6_hinders s m args below meth c g A 6 (MQ below (QC g A (some (.int r)) S) args s 0 0 A) 0 0 61 [(4, .int v4), (5, .int v5)] [.int r58] S
    refine j_if_eq F (tgt := 68) dX6_hinders_61 (by decide) hm (fun _ hm => ?_) (fun _ hm => ?_)
    · refine j_iconst F (v := 4) dX6_hinders_68 (by decide) ?_
      refine j_sub [] rfl ?_
      exact hj69 4 S  hm
    · refine j_iconst F (v := 0) dX6_hinders_64 (by decide) ?_
      refine j_goto F (tgt := 69) dX6_hinders_65 (by decide) ?_
      refine j_sub [] rfl ?_
      exact hj69 0 S  hm
  have hj35 : ∀ (v1 : Int32) (v2 : Int32) (v3 : Int32) (v4 : Int32) (v5 : Int32) (w0 : Int32) (w1 : Int32) (S : Hs), m_X6_hinders_J35 v1 v2 v3 v4 v5 w0 w1 S = some r → J p l e rmX6_hinders s m args below meth c g A 6 (MQ below (QC g A (some (.int r)) S) args s 0 0 A) 0 0 35 [(0, .ref (g.2.1 13)), (1, .int v1), (2, .int v2), (3, .int v3), (4, .int v4), (5, .int v5)] [.int w0, .int w1, .ref (g.2.1 13)] S := by
    intro v1 v2 v3 v4 v5 w0 w1 S hm
    unfold m_X6_hinders_J35 at hm
    refine j_iload_n F 3 dX6_hinders_35 rfl ?_
    obtain ⟨r36, hc36, hm⟩ := Option.bind_eq_some_iff.mp hm
    refine j_callV F (n := 3) (As := [.int w1, .int w0, .int v3]) (rest := []) (c_X6_has l g hg w1 w0 v3 S r36 hc36) gw_X6_94 (by decide +kernel) ⟨Nat.le_of_ble_eq_true rfl, Nat.le_of_ble_eq_true rfl⟩ ⟨Nat.le_of_ble_eq_true rfl, Nat.le_of_ble_eq_true rfl⟩ rfl rfl rfl rfl (Nat.le_of_ble_eq_true rfl) dX6_hinders_36 ?_
    show J p l e rmX6_hinders s m args below meth c g A 6 (MQ below (QC g A (some (.int r)) S) args s 0 0 A) 0 0 39 [(0, .ref (g.2.1 13)), (1, .int v1), (2, .int v2), (3, .int v3), (4, .int v4), (5, .int v5)] [.int r36] S
    refine j_if_ne F (tgt := 44) dX6_hinders_39 (by decide) hm (fun _ hm => ?_) (fun _ hm => ?_)
    · refine j_aload_n F 0 dX6_hinders_44 rfl ?_
      refine j_iload_n F 1 dX6_hinders_45 rfl ?_
      refine j_if_eq F (tgt := 53) dX6_hinders_46 (by decide) hm (fun _ hm => ?_) (fun _ hm => ?_)
      · refine j_iload_n F 3 dX6_hinders_53 rfl ?_
        refine j_sub [4, 5] rfl ?_
        exact hj54 v4 v5 v3 S  hm
      · refine j_iload_n F 2 dX6_hinders_49 rfl ?_
        refine j_goto F (tgt := 54) dX6_hinders_50 (by decide) ?_
        refine j_sub [4, 5] rfl ?_
        exact hj54 v4 v5 v2 S  hm
    · refine j_iconst F (v := 3) dX6_hinders_42 (by decide) ?_
      exact j_iret_p F rfl dX6_hinders_43 hm
  refine j_aload_n F 0 dX6_hinders_0 rfl ?_
  refine j_iload_n F 2 dX6_hinders_1 rfl ?_
  obtain ⟨r2, hc2, hm⟩ := Option.bind_eq_some_iff.mp hm
  refine j_callV F (n := 1) (As := [.int v2]) (rest := []) (c_X6_isPerson l g hg v2 S r2 hc2) gw_X6_97 (by decide +kernel) ⟨Nat.le_of_ble_eq_true rfl, Nat.le_of_ble_eq_true rfl⟩ ⟨Nat.le_of_ble_eq_true rfl, Nat.le_of_ble_eq_true rfl⟩ rfl rfl rfl rfl (Nat.le_of_ble_eq_true rfl) dX6_hinders_2 ?_
  show J p l e rmX6_hinders s m args below meth c g A 6 (MQ below (QC g A (some (.int r)) S) args s 0 0 A) 0 0 5 [(0, .ref (g.2.1 13)), (1, .int v1), (2, .int v2), (3, .int v3), (4, .int v4), (5, .int v5)] [.int r2] S
  refine j_if_ne F (tgt := 10) dX6_hinders_5 (by decide) hm (fun _ hm => ?_) (fun _ hm => ?_)
  · refine j_aload_n F 0 dX6_hinders_10 rfl ?_
    refine j_getR F (k0 := 1) (C := RX6) (T := TX6) (N := 20) rfl rfl rfl inF6 (by decide) tw520 dX6_hinders_11 ?_
    refine j_iconst F (v := 1) dX6_hinders_14 (by decide) ?_
    refine j_iload_n F 2 dX6_hinders_15 rfl ?_
    refine j_iadd F dX6_hinders_16 ?_
    refine j_iald F rfl dX6_hinders_17 hm (fun hm => ?_)
    refine j_iconst F (v := 2) dX6_hinders_18 (by decide) ?_
    refine j_icmp_ne F (tgt := 24) dX6_hinders_19 (by decide) hm (fun _ hm => ?_) (fun _ hm => ?_)
    · refine j_aload_n F 0 dX6_hinders_24 rfl ?_
      refine j_iload_n F 2 dX6_hinders_25 rfl ?_
      refine j_iload_n F 1 dX6_hinders_26 rfl ?_
      refine j_if_eq F (tgt := 34) dX6_hinders_27 (by decide) hm (fun _ hm => ?_) (fun _ hm => ?_)
      · refine j_iconst F (v := 0) dX6_hinders_34 (by decide) ?_
        refine j_sub [0, 1, 2, 3, 4, 5] rfl ?_
        exact hj35 v1 v2 v3 v4 v5 0 v2 S  hm
      · refine j_iconst F (v := 1) dX6_hinders_30 (by decide) ?_
        refine j_goto F (tgt := 35) dX6_hinders_31 (by decide) ?_
        refine j_sub [0, 1, 2, 3, 4, 5] rfl ?_
        exact hj35 v1 v2 v3 v4 v5 1 v2 S  hm
    · refine j_iconst F (v := 2) dX6_hinders_22 (by decide) ?_
      exact j_iret_p F rfl dX6_hinders_23 hm
  · refine j_iconst F (v := 1) dX6_hinders_8 (by decide) ?_
    exact j_iret_p F rfl dX6_hinders_9 hm
def m_X6_whyNotDo_J72 (w0 : Int32) (S : Hs) : Option (Int32) := some w0
def m_X6_whyNotDo_J67 (S : Hs) : Option (Int32) := m_X6_whyNotDo_J72 3 S
def m_X6_whyNotDo_J71 (S : Hs) : Option (Int32) := m_X6_whyNotDo_J72 0 S
noncomputable def m_X6_whyNotDo_J30 (v1 : Int32) (v2 : Int32) (v3 : Int32) (v4 : Int32) (v5 : Int32) (w0 : Int32) (S : Hs) : Option (Int32) := (m_X6_has w0 v4 v5 S).bind fun r34 => ((m_X6_hinders v1 v2 v3 v4 v5 S).bind fun r47 => (if 0 < r47 then (m_X6_whyNotDo_J67 S) else (if r34 = 0 then ((m_X6_rightsMany  S).bind fun r59 => (if r59 = 30 then (m_X6_whyNotDo_J67 S) else (m_X6_whyNotDo_J71 S))) else (m_X6_whyNotDo_J71 S))))
noncomputable def m_X6_whyNotDo (v1 : Int32) (v2 : Int32) (v3 : Int32) (v4 : Int32) (v5 : Int32) (S : Hs) : Option (Int32) := (m_X6_whyNotStep v2 v3 v4 v5 S).bind fun r7 => (if r7 ≤ 0 then (if v1 = 0 then (m_X6_whyNotDo_J30 v1 v2 v3 v4 v5 v2 S) else (m_X6_whyNotDo_J30 v1 v2 v3 v4 v5 v3 S)) else (some r7))
set_option maxRecDepth 100000 in
set_option maxHeartbeats 4000000 in
theorem c_X6_whyNotDo (l : Launch) (g : GG) (hg : Inj g) (v1 : Int32) (v2 : Int32) (v3 : Int32) (v4 : Int32) (v5 : Int32)  (S : Hs) (r : Int32) (hm : m_X6_whyNotDo v1 v2 v3 v4 v5 S = some r) : CM l yX6_whyNotDo [.code yX6_whyNotDo cX6_whyNotDo 8 (some .int)] rmX6_whyNotDo [.ref (g.2.1 13), .int v1, .int v2, .int v3, .int v4, .int v5] g S (some (.int r)) S := by
  unfold m_X6_whyNotDo at hm
  refine CM.of (cc := cX6_whyNotDo) (nL := 8) (ret := (some .int)) (lv := [(0, .ref (g.2.1 13)), (1, .int v1), (2, .int v2), (3, .int v3), (4, .int v4), (5, .int v5)]) (by decide +kernel) hg (Nat.le_of_ble_eq_true rfl) rfl (fun p e s m args below meth c A F => ?_)
  replace F : Fx p s m meth c cX6_whyNotDo RX6 8 (some .int) g A := F
  show J p l e rmX6_whyNotDo s m args below meth c g A 8 (MQ below (QC g A (some (.int r)) S) args s 0 0 A) 0 0 0 [(0, .ref (g.2.1 13)), (1, .int v1), (2, .int v2), (3, .int v3), (4, .int v4), (5, .int v5)] [] S
  have hj72 : ∀ (w0 : Int32) (S : Hs), m_X6_whyNotDo_J72 w0 S = some r → J p l e rmX6_whyNotDo s m args below meth c g A 8 (MQ below (QC g A (some (.int r)) S) args s 0 0 A) 0 0 72 [] [.int w0] S := by
    intro w0 S hm
    unfold m_X6_whyNotDo_J72 at hm
    exact j_iret_p F rfl dX6_whyNotDo_72 hm
  have hj67 : ∀ (S : Hs), m_X6_whyNotDo_J67 S = some r → J p l e rmX6_whyNotDo s m args below meth c g A 8 (MQ below (QC g A (some (.int r)) S) args s 0 0 A) 0 0 67 [] [] S := by
    intro S hm
    unfold m_X6_whyNotDo_J67 at hm
    refine j_iconst F (v := 3) dX6_whyNotDo_67 (by decide) ?_
    refine j_goto F (tgt := 72) dX6_whyNotDo_68 (by decide) ?_
    refine j_sub [] rfl ?_
    exact hj72 3 S  hm
  have hj71 : ∀ (S : Hs), m_X6_whyNotDo_J71 S = some r → J p l e rmX6_whyNotDo s m args below meth c g A 8 (MQ below (QC g A (some (.int r)) S) args s 0 0 A) 0 0 71 [] [] S := by
    intro S hm
    unfold m_X6_whyNotDo_J71 at hm
    refine j_iconst F (v := 0) dX6_whyNotDo_71 (by decide) ?_
    refine j_sub [] rfl ?_
    exact hj72 0 S  hm
  have hj30 : ∀ (v1 : Int32) (v2 : Int32) (v3 : Int32) (v4 : Int32) (v5 : Int32) (w0 : Int32) (S : Hs), m_X6_whyNotDo_J30 v1 v2 v3 v4 v5 w0 S = some r → J p l e rmX6_whyNotDo s m args below meth c g A 8 (MQ below (QC g A (some (.int r)) S) args s 0 0 A) 0 0 30 [(0, .ref (g.2.1 13)), (1, .int v1), (2, .int v2), (3, .int v3), (4, .int v4), (5, .int v5)] [.int w0, .ref (g.2.1 13)] S := by
    intro v1 v2 v3 v4 v5 w0 S hm
    unfold m_X6_whyNotDo_J30 at hm
    refine j_iload F 4 dX6_whyNotDo_30 rfl ?_
    refine j_iload F 5 dX6_whyNotDo_32 rfl ?_
    obtain ⟨r34, hc34, hm⟩ := Option.bind_eq_some_iff.mp hm
    refine j_callV F (n := 3) (As := [.int w0, .int v4, .int v5]) (rest := []) (c_X6_has l g hg w0 v4 v5 S r34 hc34) gw_X6_94 (by decide +kernel) ⟨Nat.le_of_ble_eq_true rfl, Nat.le_of_ble_eq_true rfl⟩ ⟨Nat.le_of_ble_eq_true rfl, Nat.le_of_ble_eq_true rfl⟩ rfl rfl rfl rfl (Nat.le_of_ble_eq_true rfl) dX6_whyNotDo_34 ?_
    show J p l e rmX6_whyNotDo s m args below meth c g A 8 (MQ below (QC g A (some (.int r)) S) args s 0 0 A) 0 0 37 [(0, .ref (g.2.1 13)), (1, .int v1), (2, .int v2), (3, .int v3), (4, .int v4), (5, .int v5)] [.int r34] S
    refine j_istore F (lv' := [(7, .int r34), (0, .ref (g.2.1 13)), (1, .int v1), (2, .int v2), (3, .int v3), (4, .int v4), (5, .int v5)]) dX6_whyNotDo_37 (by decide) rfl ?_
    refine j_aload_n F 1 dX6_whyNotDo_39 rfl ?_
    refine j_iload_n F 2 dX6_whyNotDo_40 rfl ?_
    refine j_iload_n F 3 dX6_whyNotDo_41 rfl ?_
    refine j_iload_n F 4 dX6_whyNotDo_42 rfl ?_
    refine j_iload F 5 dX6_whyNotDo_43 rfl ?_
    refine j_iload F 6 dX6_whyNotDo_45 rfl ?_
    obtain ⟨r47, hc47, hm⟩ := Option.bind_eq_some_iff.mp hm
    refine j_callV F (n := 5) (As := [.int v1, .int v2, .int v3, .int v4, .int v5]) (rest := []) (c_X6_hinders l g hg v1 v2 v3 v4 v5 S r47 hc47) gw_X6_173 (by decide +kernel) ⟨Nat.le_of_ble_eq_true rfl, Nat.le_of_ble_eq_true rfl⟩ ⟨Nat.le_of_ble_eq_true rfl, Nat.le_of_ble_eq_true rfl⟩ rfl rfl rfl rfl (Nat.le_of_ble_eq_true rfl) dX6_whyNotDo_47 ?_
    show J p l e rmX6_whyNotDo s m args below meth c g A 8 (MQ below (QC g A (some (.int r)) S) args s 0 0 A) 0 0 50 [(7, .int r34), (0, .ref (g.2.1 13)), (1, .int v1), (2, .int v2), (3, .int v3), (4, .int v4), (5, .int v5)] [.int r47] S
    refine j_if_gt F (tgt := 67) dX6_whyNotDo_50 (by decide) hm (fun _ hm => ?_) (fun _ hm => ?_)
    · refine j_sub [] rfl ?_
      exact hj67 S  hm
    · refine j_iload F 0 dX6_whyNotDo_53 rfl ?_
      refine j_if_ne F (tgt := 71) dX6_whyNotDo_55 (by decide) hm (fun _ hm => ?_) (fun _ hm => ?_)
      · refine j_sub [] rfl ?_
        exact hj71 S  hm
      · refine j_aload_n F 1 dX6_whyNotDo_58 rfl ?_
        obtain ⟨r59, hc59, hm⟩ := Option.bind_eq_some_iff.mp hm
        refine j_callV F (n := 0) (As := []) (rest := []) (c_X6_rightsMany l g hg S r59 hc59) gw_X6_64 (by decide +kernel) ⟨Nat.le_of_ble_eq_true rfl, Nat.le_of_ble_eq_true rfl⟩ ⟨Nat.le_of_ble_eq_true rfl, Nat.le_of_ble_eq_true rfl⟩ rfl rfl rfl rfl (Nat.le_of_ble_eq_true rfl) dX6_whyNotDo_59 ?_
        show J p l e rmX6_whyNotDo s m args below meth c g A 8 (MQ below (QC g A (some (.int r)) S) args s 0 0 A) 0 0 62 [(7, .int r34), (0, .ref (g.2.1 13)), (1, .int v1), (2, .int v2), (3, .int v3), (4, .int v4), (5, .int v5)] [.int r59] S
        refine j_bipush F (v := 30) dX6_whyNotDo_62 (by decide) ?_
        refine j_icmp_ne F (tgt := 71) dX6_whyNotDo_64 (by decide) hm (fun _ hm => ?_) (fun _ hm => ?_)
        · refine j_sub [] rfl ?_
          exact hj71 S  hm
        · refine j_sub [] rfl ?_
          exact hj67 S  hm
  refine j_aload_n F 0 dX6_whyNotDo_0 rfl ?_
  refine j_iload_n F 2 dX6_whyNotDo_1 rfl ?_
  refine j_iload_n F 3 dX6_whyNotDo_2 rfl ?_
  refine j_iload F 4 dX6_whyNotDo_3 rfl ?_
  refine j_iload F 5 dX6_whyNotDo_5 rfl ?_
  obtain ⟨r7, hc7, hm⟩ := Option.bind_eq_some_iff.mp hm
  refine j_callV F (n := 4) (As := [.int v2, .int v3, .int v4, .int v5]) (rest := []) (c_X6_whyNotStep l g hg v2 v3 v4 v5 S r7 hc7) gw_X6_170 (by decide +kernel) ⟨Nat.le_of_ble_eq_true rfl, Nat.le_of_ble_eq_true rfl⟩ ⟨Nat.le_of_ble_eq_true rfl, Nat.le_of_ble_eq_true rfl⟩ rfl rfl rfl rfl (Nat.le_of_ble_eq_true rfl) dX6_whyNotDo_7 ?_
  show J p l e rmX6_whyNotDo s m args below meth c g A 8 (MQ below (QC g A (some (.int r)) S) args s 0 0 A) 0 0 10 [(0, .ref (g.2.1 13)), (1, .int v1), (2, .int v2), (3, .int v3), (4, .int v4), (5, .int v5)] [.int r7] S
  refine j_istore F (lv' := [(6, .int r7), (0, .ref (g.2.1 13)), (1, .int v1), (2, .int v2), (3, .int v3), (4, .int v4), (5, .int v5)]) dX6_whyNotDo_10 (by decide) rfl ?_
  refine j_iload F 0 dX6_whyNotDo_12 rfl ?_
  refine j_if_le F (tgt := 20) dX6_whyNotDo_14 (by decide) hm (fun _ hm => ?_) (fun _ hm => ?_)
  · refine j_aload_n F 1 dX6_whyNotDo_20 rfl ?_
    refine j_iload_n F 2 dX6_whyNotDo_21 rfl ?_
    refine j_if_eq F (tgt := 29) dX6_whyNotDo_22 (by decide) hm (fun _ hm => ?_) (fun _ hm => ?_)
    · refine j_iload_n F 3 dX6_whyNotDo_29 rfl ?_
      refine j_sub [1, 2, 3, 4, 5, 6] rfl ?_
      exact hj30 v1 v2 v3 v4 v5 v2 S  hm
    · refine j_iload_n F 4 dX6_whyNotDo_25 rfl ?_
      refine j_goto F (tgt := 30) dX6_whyNotDo_26 (by decide) ?_
      refine j_sub [1, 2, 3, 4, 5, 6] rfl ?_
      exact hj30 v1 v2 v3 v4 v5 v3 S  hm
  · refine j_iload F 0 dX6_whyNotDo_17 rfl ?_
    exact j_iret_p F rfl dX6_whyNotDo_19 hm
noncomputable def m_X6_take (v1 : Int32) (v2 : Int32) (v3 : Int32) (v4 : Int32) (S : Hs) : Option (Int32 × Hs) := (m_X6_whyNotDo 0 v1 v2 v3 v4 S).bind fun r8 => (bnd (sI S 13 0 r8) fun S11 => (if (gI S11 13 0) ≤ 0 then ((m_X6_remember  S11).bind fun S24 => ((m_X6_put v1 v3 v4 1 S24).bind fun S33 => ((m_X6_rightsMany  S33).bind fun r37 => (some ((r37, S33)))))) else (some ((0, S11)))))
set_option maxRecDepth 100000 in
set_option maxHeartbeats 4000000 in
theorem c_X6_take (l : Launch) (g : GG) (hg : Inj g) (v1 : Int32) (v2 : Int32) (v3 : Int32) (v4 : Int32)  (S : Hs) (r : Int32) (S' : Hs) (hm : m_X6_take v1 v2 v3 v4 S = some ((r, S'))) : CM l yX6_take [.code yX6_take cX6_take 5 (some .int)] rmX6_take [.ref (g.2.1 13), .int v1, .int v2, .int v3, .int v4] g S (some (.int r)) S' := by
  unfold m_X6_take at hm
  refine CM.of (cc := cX6_take) (nL := 5) (ret := (some .int)) (lv := [(0, .ref (g.2.1 13)), (1, .int v1), (2, .int v2), (3, .int v3), (4, .int v4)]) (by decide +kernel) hg (Nat.le_of_ble_eq_true rfl) rfl (fun p e s m args below meth c A F => ?_)
  replace F : Fx p s m meth c cX6_take RX6 5 (some .int) g A := F
  show J p l e rmX6_take s m args below meth c g A 5 (MQ below (QC g A (some (.int r)) S') args s 0 0 A) 0 0 0 [(0, .ref (g.2.1 13)), (1, .int v1), (2, .int v2), (3, .int v3), (4, .int v4)] [] S
  refine j_aload_n F 0 dX6_take_0 rfl ?_
  refine j_aload_n F 0 dX6_take_1 rfl ?_
  refine j_iconst F (v := 0) dX6_take_2 (by decide) ?_
  refine j_iload_n F 1 dX6_take_3 rfl ?_
  refine j_iload_n F 2 dX6_take_4 rfl ?_
  refine j_iload_n F 3 dX6_take_5 rfl ?_
  refine j_iload F 4 dX6_take_6 rfl ?_
  obtain ⟨r8, hc8, hm⟩ := Option.bind_eq_some_iff.mp hm
  refine j_callV F (n := 5) (As := [.int 0, .int v1, .int v2, .int v3, .int v4]) (rest := [.ref (g.2.1 13)]) (c_X6_whyNotDo l g hg 0 v1 v2 v3 v4 S r8 hc8) gw_X6_177 (by decide +kernel) ⟨Nat.le_of_ble_eq_true rfl, Nat.le_of_ble_eq_true rfl⟩ ⟨Nat.le_of_ble_eq_true rfl, Nat.le_of_ble_eq_true rfl⟩ rfl rfl rfl rfl (Nat.le_of_ble_eq_true rfl) dX6_take_8 ?_
  show J p l e rmX6_take s m args below meth c g A 5 (MQ below (QC g A (some (.int r)) S') args s 0 0 A) 0 0 11 [(0, .ref (g.2.1 13)), (1, .int v1), (2, .int v2), (3, .int v3), (4, .int v4)] [.int r8, .ref (g.2.1 13)] S
  refine j_putI F (k0 := 0) (C := RX6) (T := TX6) (N := 20) tyX6 tyX6_ok nmX6 rfl rfl rfl inF6 (by decide) tw535 rfl (by decide +kernel) dX6_take_11 ?_
  refine j_bndS hm (fun S11 hm => ?_)
  refine j_aload_n F 0 dX6_take_14 rfl ?_
  refine j_getI F (k0 := 0) (C := RX6) (T := TX6) (N := 20) rfl rfl rfl inF6 (by decide) tw535 dX6_take_15 ?_
  refine j_if_le F (tgt := 23) dX6_take_18 (by decide) hm (fun _ hm => ?_) (fun _ hm => ?_)
  · refine j_aload_n F 0 dX6_take_23 rfl ?_
    obtain ⟨S24, hc24, hm⟩ := Option.bind_eq_some_iff.mp hm
    refine j_callV F (n := 0) (As := []) (rest := []) (c_X6_remember l g hg S11 S24 hc24) gw_X6_153 (by decide +kernel) ⟨Nat.le_of_ble_eq_true rfl, Nat.le_of_ble_eq_true rfl⟩ ⟨Nat.le_of_ble_eq_true rfl, Nat.le_of_ble_eq_true rfl⟩ rfl rfl rfl rfl (Nat.le_of_ble_eq_true rfl) dX6_take_24 ?_
    show J p l e rmX6_take s m args below meth c g A 5 (MQ below (QC g A (some (.int r)) S') args s 0 0 A) 0 0 27 [(0, .ref (g.2.1 13)), (1, .int v1), (2, .int v2), (3, .int v3), (4, .int v4)] [] S24
    refine j_aload_n F 0 dX6_take_27 rfl ?_
    refine j_iload_n F 1 dX6_take_28 rfl ?_
    refine j_iload_n F 3 dX6_take_29 rfl ?_
    refine j_iload F 4 dX6_take_30 rfl ?_
    refine j_iconst F (v := 1) dX6_take_32 (by decide) ?_
    obtain ⟨S33, hc33, hm⟩ := Option.bind_eq_some_iff.mp hm
    refine j_callV F (n := 4) (As := [.int v1, .int v3, .int v4, .int 1]) (rest := []) (c_X6_put l g hg v1 v3 v4 1 S24 S33 hc33) gw_X6_166 (by decide +kernel) ⟨Nat.le_of_ble_eq_true rfl, Nat.le_of_ble_eq_true rfl⟩ ⟨Nat.le_of_ble_eq_true rfl, Nat.le_of_ble_eq_true rfl⟩ rfl rfl rfl rfl (Nat.le_of_ble_eq_true rfl) dX6_take_33 ?_
    show J p l e rmX6_take s m args below meth c g A 5 (MQ below (QC g A (some (.int r)) S') args s 0 0 A) 0 0 36 [(0, .ref (g.2.1 13)), (1, .int v1), (2, .int v2), (3, .int v3), (4, .int v4)] [] S33
    refine j_aload_n F 0 dX6_take_36 rfl ?_
    obtain ⟨r37, hc37, hm⟩ := Option.bind_eq_some_iff.mp hm
    refine j_callV F (n := 0) (As := []) (rest := []) (c_X6_rightsMany l g hg S33 r37 hc37) gw_X6_64 (by decide +kernel) ⟨Nat.le_of_ble_eq_true rfl, Nat.le_of_ble_eq_true rfl⟩ ⟨Nat.le_of_ble_eq_true rfl, Nat.le_of_ble_eq_true rfl⟩ rfl rfl rfl rfl (Nat.le_of_ble_eq_true rfl) dX6_take_37 ?_
    show J p l e rmX6_take s m args below meth c g A 5 (MQ below (QC g A (some (.int r)) S') args s 0 0 A) 0 0 40 [(0, .ref (g.2.1 13)), (1, .int v1), (2, .int v2), (3, .int v3), (4, .int v4)] [.int r37] S33
    exact j_iret_e F rfl dX6_take_40 hm
  · refine j_iconst F (v := 0) dX6_take_21 (by decide) ?_
    exact j_iret_e F rfl dX6_take_22 hm
noncomputable def m_X6_give (v1 : Int32) (v2 : Int32) (v3 : Int32) (v4 : Int32) (S : Hs) : Option (Int32 × Hs) := (m_X6_whyNotDo 1 v1 v2 v3 v4 S).bind fun r8 => (bnd (sI S 13 0 r8) fun S11 => (if (gI S11 13 0) ≤ 0 then ((m_X6_remember  S11).bind fun S24 => ((m_X6_put v2 v3 v4 1 S24).bind fun S33 => ((m_X6_rightsMany  S33).bind fun r37 => (some ((r37, S33)))))) else (some ((0, S11)))))
set_option maxRecDepth 100000 in
set_option maxHeartbeats 4000000 in
theorem c_X6_give (l : Launch) (g : GG) (hg : Inj g) (v1 : Int32) (v2 : Int32) (v3 : Int32) (v4 : Int32)  (S : Hs) (r : Int32) (S' : Hs) (hm : m_X6_give v1 v2 v3 v4 S = some ((r, S'))) : CM l yX6_give [.code yX6_give cX6_give 5 (some .int)] rmX6_give [.ref (g.2.1 13), .int v1, .int v2, .int v3, .int v4] g S (some (.int r)) S' := by
  unfold m_X6_give at hm
  refine CM.of (cc := cX6_give) (nL := 5) (ret := (some .int)) (lv := [(0, .ref (g.2.1 13)), (1, .int v1), (2, .int v2), (3, .int v3), (4, .int v4)]) (by decide +kernel) hg (Nat.le_of_ble_eq_true rfl) rfl (fun p e s m args below meth c A F => ?_)
  replace F : Fx p s m meth c cX6_give RX6 5 (some .int) g A := F
  show J p l e rmX6_give s m args below meth c g A 5 (MQ below (QC g A (some (.int r)) S') args s 0 0 A) 0 0 0 [(0, .ref (g.2.1 13)), (1, .int v1), (2, .int v2), (3, .int v3), (4, .int v4)] [] S
  refine j_aload_n F 0 dX6_give_0 rfl ?_
  refine j_aload_n F 0 dX6_give_1 rfl ?_
  refine j_iconst F (v := 1) dX6_give_2 (by decide) ?_
  refine j_iload_n F 1 dX6_give_3 rfl ?_
  refine j_iload_n F 2 dX6_give_4 rfl ?_
  refine j_iload_n F 3 dX6_give_5 rfl ?_
  refine j_iload F 4 dX6_give_6 rfl ?_
  obtain ⟨r8, hc8, hm⟩ := Option.bind_eq_some_iff.mp hm
  refine j_callV F (n := 5) (As := [.int 1, .int v1, .int v2, .int v3, .int v4]) (rest := [.ref (g.2.1 13)]) (c_X6_whyNotDo l g hg 1 v1 v2 v3 v4 S r8 hc8) gw_X6_177 (by decide +kernel) ⟨Nat.le_of_ble_eq_true rfl, Nat.le_of_ble_eq_true rfl⟩ ⟨Nat.le_of_ble_eq_true rfl, Nat.le_of_ble_eq_true rfl⟩ rfl rfl rfl rfl (Nat.le_of_ble_eq_true rfl) dX6_give_8 ?_
  show J p l e rmX6_give s m args below meth c g A 5 (MQ below (QC g A (some (.int r)) S') args s 0 0 A) 0 0 11 [(0, .ref (g.2.1 13)), (1, .int v1), (2, .int v2), (3, .int v3), (4, .int v4)] [.int r8, .ref (g.2.1 13)] S
  refine j_putI F (k0 := 0) (C := RX6) (T := TX6) (N := 20) tyX6 tyX6_ok nmX6 rfl rfl rfl inF6 (by decide) tw535 rfl (by decide +kernel) dX6_give_11 ?_
  refine j_bndS hm (fun S11 hm => ?_)
  refine j_aload_n F 0 dX6_give_14 rfl ?_
  refine j_getI F (k0 := 0) (C := RX6) (T := TX6) (N := 20) rfl rfl rfl inF6 (by decide) tw535 dX6_give_15 ?_
  refine j_if_le F (tgt := 23) dX6_give_18 (by decide) hm (fun _ hm => ?_) (fun _ hm => ?_)
  · refine j_aload_n F 0 dX6_give_23 rfl ?_
    obtain ⟨S24, hc24, hm⟩ := Option.bind_eq_some_iff.mp hm
    refine j_callV F (n := 0) (As := []) (rest := []) (c_X6_remember l g hg S11 S24 hc24) gw_X6_153 (by decide +kernel) ⟨Nat.le_of_ble_eq_true rfl, Nat.le_of_ble_eq_true rfl⟩ ⟨Nat.le_of_ble_eq_true rfl, Nat.le_of_ble_eq_true rfl⟩ rfl rfl rfl rfl (Nat.le_of_ble_eq_true rfl) dX6_give_24 ?_
    show J p l e rmX6_give s m args below meth c g A 5 (MQ below (QC g A (some (.int r)) S') args s 0 0 A) 0 0 27 [(0, .ref (g.2.1 13)), (1, .int v1), (2, .int v2), (3, .int v3), (4, .int v4)] [] S24
    refine j_aload_n F 0 dX6_give_27 rfl ?_
    refine j_iload_n F 2 dX6_give_28 rfl ?_
    refine j_iload_n F 3 dX6_give_29 rfl ?_
    refine j_iload F 4 dX6_give_30 rfl ?_
    refine j_iconst F (v := 1) dX6_give_32 (by decide) ?_
    obtain ⟨S33, hc33, hm⟩ := Option.bind_eq_some_iff.mp hm
    refine j_callV F (n := 4) (As := [.int v2, .int v3, .int v4, .int 1]) (rest := []) (c_X6_put l g hg v2 v3 v4 1 S24 S33 hc33) gw_X6_166 (by decide +kernel) ⟨Nat.le_of_ble_eq_true rfl, Nat.le_of_ble_eq_true rfl⟩ ⟨Nat.le_of_ble_eq_true rfl, Nat.le_of_ble_eq_true rfl⟩ rfl rfl rfl rfl (Nat.le_of_ble_eq_true rfl) dX6_give_33 ?_
    show J p l e rmX6_give s m args below meth c g A 5 (MQ below (QC g A (some (.int r)) S') args s 0 0 A) 0 0 36 [(0, .ref (g.2.1 13)), (1, .int v1), (2, .int v2), (3, .int v3), (4, .int v4)] [] S33
    refine j_aload_n F 0 dX6_give_36 rfl ?_
    obtain ⟨r37, hc37, hm⟩ := Option.bind_eq_some_iff.mp hm
    refine j_callV F (n := 0) (As := []) (rest := []) (c_X6_rightsMany l g hg S33 r37 hc37) gw_X6_64 (by decide +kernel) ⟨Nat.le_of_ble_eq_true rfl, Nat.le_of_ble_eq_true rfl⟩ ⟨Nat.le_of_ble_eq_true rfl, Nat.le_of_ble_eq_true rfl⟩ rfl rfl rfl rfl (Nat.le_of_ble_eq_true rfl) dX6_give_37 ?_
    show J p l e rmX6_give s m args below meth c g A 5 (MQ below (QC g A (some (.int r)) S') args s 0 0 A) 0 0 40 [(0, .ref (g.2.1 13)), (1, .int v1), (2, .int v2), (3, .int v3), (4, .int v4)] [.int r37] S33
    exact j_iret_e F rfl dX6_give_40 hm
  · refine j_iconst F (v := 0) dX6_give_21 (by decide) ?_
    exact j_iret_e F rfl dX6_give_22 hm
def m_X6_whyNot_J36 (w0 : Int32) (S : Hs) : Option (Int32 × Hs) := some ((w0, S))
def m_X6_whyNot (v1 : Int32) (v2 : Int32) (v3 : Int32) (v4 : Int32) (v5 : Int32) (S : Hs) : Option (Int32 × Hs) := (m_X6_whyNotStep v2 v3 v4 v5 S).bind fun r8 => (bnd (sI S 13 0 r8) fun S11 => (if (gI S11 13 0) ≤ 0 then ((m_X6_hinders v1 v2 v3 v4 v5 S11).bind fun r33 => (m_X6_whyNot_J36 r33 S11)) else (m_X6_whyNot_J36 0 S11)))
set_option maxRecDepth 100000 in
set_option maxHeartbeats 4000000 in
theorem c_X6_whyNot (l : Launch) (g : GG) (hg : Inj g) (v1 : Int32) (v2 : Int32) (v3 : Int32) (v4 : Int32) (v5 : Int32)  (S : Hs) (r : Int32) (S' : Hs) (hm : m_X6_whyNot v1 v2 v3 v4 v5 S = some ((r, S'))) : CM l yX6_whyNot [.code yX6_whyNot cX6_whyNot 6 (some .int)] rmX6_whyNot [.ref (g.2.1 13), .int v1, .int v2, .int v3, .int v4, .int v5] g S (some (.int r)) S' := by
  unfold m_X6_whyNot at hm
  refine CM.of (cc := cX6_whyNot) (nL := 6) (ret := (some .int)) (lv := [(0, .ref (g.2.1 13)), (1, .int v1), (2, .int v2), (3, .int v3), (4, .int v4), (5, .int v5)]) (by decide +kernel) hg (Nat.le_of_ble_eq_true rfl) rfl (fun p e s m args below meth c A F => ?_)
  replace F : Fx p s m meth c cX6_whyNot RX6 6 (some .int) g A := F
  show J p l e rmX6_whyNot s m args below meth c g A 6 (MQ below (QC g A (some (.int r)) S') args s 0 0 A) 0 0 0 [(0, .ref (g.2.1 13)), (1, .int v1), (2, .int v2), (3, .int v3), (4, .int v4), (5, .int v5)] [] S
  have hj36 : ∀ (w0 : Int32) (S : Hs), m_X6_whyNot_J36 w0 S = some ((r, S')) → J p l e rmX6_whyNot s m args below meth c g A 6 (MQ below (QC g A (some (.int r)) S') args s 0 0 A) 0 0 36 [] [.int w0] S := by
    intro w0 S hm
    unfold m_X6_whyNot_J36 at hm
    exact j_iret_e F rfl dX6_whyNot_36 hm
  refine j_aload_n F 0 dX6_whyNot_0 rfl ?_
  refine j_aload_n F 0 dX6_whyNot_1 rfl ?_
  refine j_iload_n F 2 dX6_whyNot_2 rfl ?_
  refine j_iload_n F 3 dX6_whyNot_3 rfl ?_
  refine j_iload F 4 dX6_whyNot_4 rfl ?_
  refine j_iload F 5 dX6_whyNot_6 rfl ?_
  obtain ⟨r8, hc8, hm⟩ := Option.bind_eq_some_iff.mp hm
  refine j_callV F (n := 4) (As := [.int v2, .int v3, .int v4, .int v5]) (rest := [.ref (g.2.1 13)]) (c_X6_whyNotStep l g hg v2 v3 v4 v5 S r8 hc8) gw_X6_170 (by decide +kernel) ⟨Nat.le_of_ble_eq_true rfl, Nat.le_of_ble_eq_true rfl⟩ ⟨Nat.le_of_ble_eq_true rfl, Nat.le_of_ble_eq_true rfl⟩ rfl rfl rfl rfl (Nat.le_of_ble_eq_true rfl) dX6_whyNot_8 ?_
  show J p l e rmX6_whyNot s m args below meth c g A 6 (MQ below (QC g A (some (.int r)) S') args s 0 0 A) 0 0 11 [(0, .ref (g.2.1 13)), (1, .int v1), (2, .int v2), (3, .int v3), (4, .int v4), (5, .int v5)] [.int r8, .ref (g.2.1 13)] S
  refine j_putI F (k0 := 0) (C := RX6) (T := TX6) (N := 20) tyX6 tyX6_ok nmX6 rfl rfl rfl inF6 (by decide) tw535 rfl (by decide +kernel) dX6_whyNot_11 ?_
  refine j_bndS hm (fun S11 hm => ?_)
  refine j_aload_n F 0 dX6_whyNot_14 rfl ?_
  refine j_getI F (k0 := 0) (C := RX6) (T := TX6) (N := 20) rfl rfl rfl inF6 (by decide) tw535 dX6_whyNot_15 ?_
  refine j_if_le F (tgt := 25) dX6_whyNot_18 (by decide) hm (fun _ hm => ?_) (fun _ hm => ?_)
  · refine j_aload_n F 0 dX6_whyNot_25 rfl ?_
    refine j_iload_n F 1 dX6_whyNot_26 rfl ?_
    refine j_iload_n F 2 dX6_whyNot_27 rfl ?_
    refine j_iload_n F 3 dX6_whyNot_28 rfl ?_
    refine j_iload F 4 dX6_whyNot_29 rfl ?_
    refine j_iload F 5 dX6_whyNot_31 rfl ?_
    obtain ⟨r33, hc33, hm⟩ := Option.bind_eq_some_iff.mp hm
    refine j_callV F (n := 5) (As := [.int v1, .int v2, .int v3, .int v4, .int v5]) (rest := []) (c_X6_hinders l g hg v1 v2 v3 v4 v5 S11 r33 hc33) gw_X6_173 (by decide +kernel) ⟨Nat.le_of_ble_eq_true rfl, Nat.le_of_ble_eq_true rfl⟩ ⟨Nat.le_of_ble_eq_true rfl, Nat.le_of_ble_eq_true rfl⟩ rfl rfl rfl rfl (Nat.le_of_ble_eq_true rfl) dX6_whyNot_33 ?_
    show J p l e rmX6_whyNot s m args below meth c g A 6 (MQ below (QC g A (some (.int r)) S') args s 0 0 A) 0 0 36 [(0, .ref (g.2.1 13)), (1, .int v1), (2, .int v2), (3, .int v3), (4, .int v4), (5, .int v5)] [.int r33] S11
    refine j_sub [] rfl ?_
    exact hj36 r33 S11  hm
  · refine j_iconst F (v := 0) dX6_whyNot_21 (by decide) ?_
    refine j_goto F (tgt := 36) dX6_whyNot_22 (by decide) ?_
    refine j_sub [] rfl ?_
    exact hj36 0 S11  hm
def m_X6_needed_J96 (v1 : Int32) (v2 : Int32) (v3 : Int32) (v4 : Int32) (v5 : Int32) (v6 : Int32) (S : Hs) : Option ((Int32 × Int32 × Hs) ⊕ (Int32 × Hs)) := some (.inl ((v5, v6 + 1, S)))
def m_X6_needed_J94 (v1 : Int32) (v2 : Int32) (v3 : Int32) (v4 : Int32) (v6 : Int32) (w0 : Int32) (S : Hs) : Option ((Int32 × Int32 × Hs) ⊕ (Int32 × Hs)) := m_X6_needed_J96 v1 v2 v3 v4 w0 v6 S
noncomputable def m_X6_needed_J71 (v1 : Int32) (v2 : Int32) (v3 : Int32) (v4 : Int32) (v5 : Int32) (v6 : Int32) (S : Hs) : Option ((Int32 × Int32 × Hs) ⊕ (Int32 × Hs)) := (m_X6_spread v6 S).bind fun S74 => ((m_X6_ends v1 v2 v3 S74).bind fun r81 => (if r81 = 0 then (m_X6_needed_J94 v1 v2 v3 v4 v6 v5 S74) else (m_X6_needed_J94 v1 v2 v3 v4 v6 v6 S74)))
noncomputable def m_X6_needed_L33 (v1 : Int32) (v2 : Int32) (v3 : Int32) (v4 : Int32) (v5 : Int32) (v6 : Int32) (S : Hs) : Option ((Int32 × Int32 × Hs) ⊕ (Int32 × Hs)) := if 128 ≤ v6 then (some (.inr ((v5, S)))) else (if (v6 &&& (v4 ^^^ ((-1)))) = 0 then (if v5 = ((-9)) then (m_X6_needed_J71 v1 v2 v3 v4 v5 v6 S) else ((m_X6_bits v6).bind fun r60 => ((m_X6_bits v5).bind fun r65 => (if r65 ≤ r60 then (m_X6_needed_J96 v1 v2 v3 v4 v5 v6 S) else (m_X6_needed_J71 v1 v2 v3 v4 v5 v6 S))))) else (m_X6_needed_J96 v1 v2 v3 v4 v5 v6 S))
noncomputable def m_X6_needed (v1 : Int32) (v2 : Int32) (v3 : Int32) (S : Hs) : Option (Int32 × Hs) := (m_X6_whyNotRight v1 v2 v3 S).bind fun r5 => (bnd (sI S 13 0 r5) fun S8 => (if (gI S8 13 0) ≤ 0 then ((m_X6_awakeSet  S8).bind fun r21 => ((loopO (fun x => m_X6_needed_L33 v1 v2 v3 r21 x.1 x.2.1 x.2.2) (((-9), 0, S8))).bind fun y33 => some ((y33.1, y33.2)))) else (some ((0, S8)))))
set_option maxRecDepth 100000 in
set_option maxHeartbeats 4000000 in
theorem c_X6_needed (l : Launch) (g : GG) (hg : Inj g) (v1 : Int32) (v2 : Int32) (v3 : Int32)  (S : Hs) (r : Int32) (S' : Hs) (hm : m_X6_needed v1 v2 v3 S = some ((r, S'))) : CM l yX6_needed [.code yX6_needed cX6_needed 7 (some .int)] rmX6_needed [.ref (g.2.1 13), .int v1, .int v2, .int v3] g S (some (.int r)) S' := by
  unfold m_X6_needed at hm
  refine CM.of (cc := cX6_needed) (nL := 7) (ret := (some .int)) (lv := [(0, .ref (g.2.1 13)), (1, .int v1), (2, .int v2), (3, .int v3)]) (by decide +kernel) hg (Nat.le_of_ble_eq_true rfl) rfl (fun p e s m args below meth c A F => ?_)
  replace F : Fx p s m meth c cX6_needed RX6 7 (some .int) g A := F
  show J p l e rmX6_needed s m args below meth c g A 7 (MQ below (QC g A (some (.int r)) S') args s 0 0 A) 0 0 0 [(0, .ref (g.2.1 13)), (1, .int v1), (2, .int v2), (3, .int v3)] [] S
  refine j_aload_n F 0 dX6_needed_0 rfl ?_
  refine j_aload_n F 0 dX6_needed_1 rfl ?_
  refine j_iload_n F 1 dX6_needed_2 rfl ?_
  refine j_iload_n F 2 dX6_needed_3 rfl ?_
  refine j_iload_n F 3 dX6_needed_4 rfl ?_
  obtain ⟨r5, hc5, hm⟩ := Option.bind_eq_some_iff.mp hm
  refine j_callV F (n := 3) (As := [.int v1, .int v2, .int v3]) (rest := [.ref (g.2.1 13)]) (c_X6_whyNotRight l g hg v1 v2 v3 S r5 hc5) gw_X6_145 (by decide +kernel) ⟨Nat.le_of_ble_eq_true rfl, Nat.le_of_ble_eq_true rfl⟩ ⟨Nat.le_of_ble_eq_true rfl, Nat.le_of_ble_eq_true rfl⟩ rfl rfl rfl rfl (Nat.le_of_ble_eq_true rfl) dX6_needed_5 ?_
  show J p l e rmX6_needed s m args below meth c g A 7 (MQ below (QC g A (some (.int r)) S') args s 0 0 A) 0 0 8 [(0, .ref (g.2.1 13)), (1, .int v1), (2, .int v2), (3, .int v3)] [.int r5, .ref (g.2.1 13)] S
  refine j_putI F (k0 := 0) (C := RX6) (T := TX6) (N := 20) tyX6 tyX6_ok nmX6 rfl rfl rfl inF6 (by decide) tw535 rfl (by decide +kernel) dX6_needed_8 ?_
  refine j_bndS hm (fun S8 hm => ?_)
  refine j_aload_n F 0 dX6_needed_11 rfl ?_
  refine j_getI F (k0 := 0) (C := RX6) (T := TX6) (N := 20) rfl rfl rfl inF6 (by decide) tw535 dX6_needed_12 ?_
  refine j_if_le F (tgt := 20) dX6_needed_15 (by decide) hm (fun _ hm => ?_) (fun _ hm => ?_)
  · refine j_aload_n F 0 dX6_needed_20 rfl ?_
    obtain ⟨r21, hc21, hm⟩ := Option.bind_eq_some_iff.mp hm
    refine j_callV F (n := 0) (As := []) (rest := []) (c_X6_awakeSet l g hg S8 r21 hc21) gw_X6_125 (by decide +kernel) ⟨Nat.le_of_ble_eq_true rfl, Nat.le_of_ble_eq_true rfl⟩ ⟨Nat.le_of_ble_eq_true rfl, Nat.le_of_ble_eq_true rfl⟩ rfl rfl rfl rfl (Nat.le_of_ble_eq_true rfl) dX6_needed_21 ?_
    show J p l e rmX6_needed s m args below meth c g A 7 (MQ below (QC g A (some (.int r)) S') args s 0 0 A) 0 0 24 [(0, .ref (g.2.1 13)), (1, .int v1), (2, .int v2), (3, .int v3)] [.int r21] S8
    refine j_istore F (lv' := [(4, .int r21), (0, .ref (g.2.1 13)), (1, .int v1), (2, .int v2), (3, .int v3)]) dX6_needed_24 (by decide) rfl ?_
    refine j_bipush F (v := -9) dX6_needed_26 (by decide) ?_
    refine j_istore F (lv' := [(5, .int ((-9))), (4, .int r21), (0, .ref (g.2.1 13)), (1, .int v1), (2, .int v2), (3, .int v3)]) dX6_needed_28 (by decide) rfl ?_
    refine j_iconst F (v := 0) dX6_needed_30 (by decide) ?_
    refine j_istore F (lv' := [(6, .int 0), (5, .int ((-9))), (4, .int r21), (0, .ref (g.2.1 13)), (1, .int v1), (2, .int v2), (3, .int v3)]) dX6_needed_31 (by decide) rfl ?_
    refine j_sub [3, 4, 5, 6, 2, 1, 0] rfl ?_
    obtain ⟨y33, hlp33, hm⟩ := Option.bind_eq_some_iff.mp hm
    refine loopO_walk (fun x => m_X6_needed_L33 v1 v2 v3 r21 x.1 x.2.1 x.2.2) (fun x => J p l e rmX6_needed s m args below meth c g A 7 (MQ below (QC g A (some (.int r)) S') args s 0 0 A) 0 0 33 [(0, .ref (g.2.1 13)), (1, .int v1), (2, .int v2), (3, .int v3), (4, .int r21), (5, .int x.1), (6, .int x.2.1)] [] x.2.2) (fun x => J p l e rmX6_needed s m args below meth c g A 7 (MQ below (QC g A (some (.int r)) S') args s 0 0 A) 0 0 102 [(5, .int x.1)] [] x.2) (fun x o1 hm hk1 => ?_) hlp33 ?_
    · obtain ⟨v5, v6, S⟩ := x
      replace hm : m_X6_needed_L33 v1 v2 v3 r21 v5 v6 S = some o1 := hm
      show J p l e rmX6_needed s m args below meth c g A 7 (MQ below (QC g A (some (.int r)) S') args s 0 0 A) 0 0 33 [(0, .ref (g.2.1 13)), (1, .int v1), (2, .int v2), (3, .int v3), (4, .int r21), (5, .int v5), (6, .int v6)] [] S
      unfold m_X6_needed_L33 at hm
      have hj96 : ∀ (v5 : Int32) (v6 : Int32) (S : Hs), m_X6_needed_J96 v1 v2 v3 r21 v5 v6 S = some o1 → J p l e rmX6_needed s m args below meth c g A 7 (MQ below (QC g A (some (.int r)) S') args s 0 0 A) 0 0 96 [(0, .ref (g.2.1 13)), (1, .int v1), (2, .int v2), (3, .int v3), (4, .int r21), (5, .int v5), (6, .int v6)] [] S := by
        intro v5 v6 S hm
        unfold m_X6_needed_J96 at hm
        refine j_iinc F (v := v6 + 1) (lv' := [(6, .int (v6 + 1)), (0, .ref (g.2.1 13)), (1, .int v1), (2, .int v2), (3, .int v3), (4, .int r21), (5, .int v5)]) 6 dX6_needed_96 rfl rfl (by decide) rfl ?_
        refine j_goto F (tgt := 33) dX6_needed_99 (by decide) ?_
        cases hm
        refine j_sub [1, 2, 3, 4, 5, 6, 0] rfl ?_
        exact hk1
      have hj94 : ∀ (v6 : Int32) (w0 : Int32) (S : Hs), m_X6_needed_J94 v1 v2 v3 r21 v6 w0 S = some o1 → J p l e rmX6_needed s m args below meth c g A 7 (MQ below (QC g A (some (.int r)) S') args s 0 0 A) 0 0 94 [(0, .ref (g.2.1 13)), (1, .int v1), (2, .int v2), (3, .int v3), (4, .int r21), (6, .int v6)] [.int w0] S := by
        intro v6 w0 S hm
        unfold m_X6_needed_J94 at hm
        refine j_istore F (lv' := [(5, .int w0), (0, .ref (g.2.1 13)), (1, .int v1), (2, .int v2), (3, .int v3), (4, .int r21), (6, .int v6)]) dX6_needed_94 (by decide) rfl ?_
        refine j_sub [1, 2, 3, 4, 5, 0, 6] rfl ?_
        exact hj96 w0 v6 S  hm
      have hj71 : ∀ (v5 : Int32) (v6 : Int32) (S : Hs), m_X6_needed_J71 v1 v2 v3 r21 v5 v6 S = some o1 → J p l e rmX6_needed s m args below meth c g A 7 (MQ below (QC g A (some (.int r)) S') args s 0 0 A) 0 0 71 [(0, .ref (g.2.1 13)), (1, .int v1), (2, .int v2), (3, .int v3), (4, .int r21), (5, .int v5), (6, .int v6)] [] S := by
        intro v5 v6 S hm
        unfold m_X6_needed_J71 at hm
        refine j_aload_n F 0 dX6_needed_71 rfl ?_
        refine j_iload F 6 dX6_needed_72 rfl ?_
        obtain ⟨S74, hc74, hm⟩ := Option.bind_eq_some_iff.mp hm
        refine j_callV F (n := 1) (As := [.int v6]) (rest := []) (c_X6_spread l g hg v6 S S74 hc74) gw_X6_128 (by decide +kernel) ⟨Nat.le_of_ble_eq_true rfl, Nat.le_of_ble_eq_true rfl⟩ ⟨Nat.le_of_ble_eq_true rfl, Nat.le_of_ble_eq_true rfl⟩ rfl rfl rfl rfl (Nat.le_of_ble_eq_true rfl) dX6_needed_74 ?_
        show J p l e rmX6_needed s m args below meth c g A 7 (MQ below (QC g A (some (.int r)) S') args s 0 0 A) 0 0 77 [(0, .ref (g.2.1 13)), (1, .int v1), (2, .int v2), (3, .int v3), (4, .int r21), (5, .int v5), (6, .int v6)] [] S74
        refine j_aload_n F 0 dX6_needed_77 rfl ?_
        refine j_iload_n F 1 dX6_needed_78 rfl ?_
        refine j_iload_n F 2 dX6_needed_79 rfl ?_
        refine j_iload_n F 3 dX6_needed_80 rfl ?_
        obtain ⟨r81, hc81, hm⟩ := Option.bind_eq_some_iff.mp hm
        refine j_callV F (n := 3) (As := [.int v1, .int v2, .int v3]) (rest := []) (c_X6_ends l g hg v1 v2 v3 S74 r81 hc81) gw_X6_80 (by decide +kernel) ⟨Nat.le_of_ble_eq_true rfl, Nat.le_of_ble_eq_true rfl⟩ ⟨Nat.le_of_ble_eq_true rfl, Nat.le_of_ble_eq_true rfl⟩ rfl rfl rfl rfl (Nat.le_of_ble_eq_true rfl) dX6_needed_81 ?_
        show J p l e rmX6_needed s m args below meth c g A 7 (MQ below (QC g A (some (.int r)) S') args s 0 0 A) 0 0 84 [(0, .ref (g.2.1 13)), (1, .int v1), (2, .int v2), (3, .int v3), (4, .int r21), (5, .int v5), (6, .int v6)] [.int r81] S74
        refine j_if_eq F (tgt := 92) dX6_needed_84 (by decide) hm (fun _ hm => ?_) (fun _ hm => ?_)
        · refine j_iload F 5 dX6_needed_92 rfl ?_
          refine j_sub [0, 1, 2, 3, 4, 6] rfl ?_
          exact hj94 v6 v5 S74  hm
        · refine j_iload F 6 dX6_needed_87 rfl ?_
          refine j_goto F (tgt := 94) dX6_needed_89 (by decide) ?_
          refine j_sub [0, 1, 2, 3, 4, 6] rfl ?_
          exact hj94 v6 v6 S74  hm
      refine j_iload F 6 dX6_needed_33 rfl ?_
      refine j_sipush F (v := 128) dX6_needed_35 (by decide) ?_
      refine j_icmp_ge F (tgt := 102) dX6_needed_38 (by decide) hm (fun _ hm => ?_) (fun _ hm => ?_)
      · cases hm
        refine j_sub [5] rfl ?_
        exact hk1
      · refine j_iload F 6 dX6_needed_41 rfl ?_
        refine j_iload F 4 dX6_needed_43 rfl ?_
        refine j_iconst F (v := -1) dX6_needed_45 (by decide) ?_
        refine j_ixor F dX6_needed_46 ?_
        refine j_iand F dX6_needed_47 ?_
        refine j_if_ne F (tgt := 96) dX6_needed_48 (by decide) hm (fun _ hm => ?_) (fun _ hm => ?_)
        · refine j_sub [0, 1, 2, 3, 4, 5, 6] rfl ?_
          exact hj96 v5 v6 S  hm
        · refine j_iload F 5 dX6_needed_51 rfl ?_
          refine j_bipush F (v := -9) dX6_needed_53 (by decide) ?_
          refine j_icmp_eq F (tgt := 71) dX6_needed_55 (by decide) hm (fun _ hm => ?_) (fun _ hm => ?_)
          · refine j_sub [0, 1, 2, 3, 4, 5, 6] rfl ?_
            exact hj71 v5 v6 S  hm
          · refine j_iload F 6 dX6_needed_58 rfl ?_
            obtain ⟨r60, hc60, hm⟩ := Option.bind_eq_some_iff.mp hm
            refine j_callS F (n := 1) (As := [.int v6]) (rest := []) (c_X6_bits l g hg v6 S r60 hc60) gw_X6_72 (by decide +kernel) ⟨Nat.le_of_ble_eq_true rfl, Nat.le_of_ble_eq_true rfl⟩ ⟨Nat.le_of_ble_eq_true rfl, Nat.le_of_ble_eq_true rfl⟩ rfl rfl (Nat.le_of_ble_eq_true rfl) dX6_needed_60 ?_
            show J p l e rmX6_needed s m args below meth c g A 7 (MQ below (QC g A (some (.int r)) S') args s 0 0 A) 0 0 63 [(0, .ref (g.2.1 13)), (1, .int v1), (2, .int v2), (3, .int v3), (4, .int r21), (5, .int v5), (6, .int v6)] [.int r60] S
            refine j_iload F 5 dX6_needed_63 rfl ?_
            obtain ⟨r65, hc65, hm⟩ := Option.bind_eq_some_iff.mp hm
            refine j_callS F (n := 1) (As := [.int v5]) (rest := [.int r60]) (c_X6_bits l g hg v5 S r65 hc65) gw_X6_72 (by decide +kernel) ⟨Nat.le_of_ble_eq_true rfl, Nat.le_of_ble_eq_true rfl⟩ ⟨Nat.le_of_ble_eq_true rfl, Nat.le_of_ble_eq_true rfl⟩ rfl rfl (Nat.le_of_ble_eq_true rfl) dX6_needed_65 ?_
            show J p l e rmX6_needed s m args below meth c g A 7 (MQ below (QC g A (some (.int r)) S') args s 0 0 A) 0 0 68 [(0, .ref (g.2.1 13)), (1, .int v1), (2, .int v2), (3, .int v3), (4, .int r21), (5, .int v5), (6, .int v6)] [.int r65, .int r60] S
            refine j_icmp_ge F (tgt := 96) dX6_needed_68 (by decide) hm (fun _ hm => ?_) (fun _ hm => ?_)
            · refine j_sub [0, 1, 2, 3, 4, 5, 6] rfl ?_
              exact hj96 v5 v6 S  hm
            · refine j_sub [0, 1, 2, 3, 4, 5, 6] rfl ?_
              exact hj71 v5 v6 S  hm
    · show J p l e rmX6_needed s m args below meth c g A 7 (MQ below (QC g A (some (.int r)) S') args s 0 0 A) 0 0 102 [(5, .int y33.1)] [] y33.2
      refine j_iload F 0 dX6_needed_102 rfl ?_
      exact j_iret_e F rfl dX6_needed_104 hm
  · refine j_iconst F (v := 0) dX6_needed_18 (by decide) ?_
    exact j_iret_e F rfl dX6_needed_19 hm
def m_X6_listRights_J67 (v1 : Int32) (v2 : Int32) (v3 : Int32) (v4 : Int32) (S : Hs) : Option ((Int32 × Int32 × Hs) ⊕ (Int32 × Hs)) := some (.inl ((v1, v4 + 1, S)))
def m_X6_listRights_L24 (v2 : Int32) (v3 : Int32) (v1 : Int32) (v4 : Int32) (S : Hs) : Option ((Int32 × Int32 × Hs) ⊕ (Int32 × Hs)) := gd (inb 0 57) (if (gA S 14 (0 : Int32).toNatClampNeg) ≤ v4 then (some (.inr ((v1, S)))) else ((m_X6_has v2 v3 v4 S).bind fun r40 => (if r40 = 0 then (m_X6_listRights_J67 v1 v2 v3 v4 S) else (gd (inb v1 30) (bnd (sA S 27 v1.toNatClampNeg (((100 * v2) + (10 * v3)) + v4)) fun S63 => (m_X6_listRights_J67 (v1 + 1) v2 v3 v4 S63))))))
noncomputable def m_X6_listRights_L16 (v2 : Int32) (v1 : Int32) (v3 : Int32) (S : Hs) : Option ((Int32 × Int32 × Hs) ⊕ (Int32 × Hs)) := if 4 ≤ v3 then (some (.inr ((v1, S)))) else ((loopO (fun x => m_X6_listRights_L24 v2 v3 x.1 x.2.1 x.2.2) ((v1, 0, S))).bind fun y24 => some (.inl ((y24.1, v3 + 1, y24.2))))
noncomputable def m_X6_listRights_L4 (v1 : Int32) (v2 : Int32) (S : Hs) : Option ((Int32 × Int32 × Hs) ⊕ (Int32 × Hs)) := gd (inb 0 57) (if (gA S 14 (0 : Int32).toNatClampNeg) ≤ v2 then (some (.inr ((v1, S)))) else ((loopO (fun x => m_X6_listRights_L16 v2 x.1 x.2.1 x.2.2) ((v1, 0, S))).bind fun y16 => some (.inl ((y16.1, v2 + 1, y16.2)))))
noncomputable def m_X6_listRights (S : Hs) : Option (Int32 × Hs) := (loopO (fun x => m_X6_listRights_L4 x.1 x.2.1 x.2.2) ((0, 0, S))).bind fun y4 => some ((y4.1, y4.2))
set_option maxRecDepth 100000 in
set_option maxHeartbeats 4000000 in
theorem c_X6_listRights (l : Launch) (g : GG) (hg : Inj g)   (S : Hs) (r : Int32) (S' : Hs) (hm : m_X6_listRights S = some ((r, S'))) : CM l yX6_listRights [.code yX6_listRights cX6_listRights 5 (some .int)] rmX6_listRights [.ref (g.2.1 13)] g S (some (.int r)) S' := by
  unfold m_X6_listRights at hm
  refine CM.of (cc := cX6_listRights) (nL := 5) (ret := (some .int)) (lv := [(0, .ref (g.2.1 13))]) (by decide +kernel) hg (Nat.le_of_ble_eq_true rfl) rfl (fun p e s m args below meth c A F => ?_)
  replace F : Fx p s m meth c cX6_listRights RX6 5 (some .int) g A := F
  show J p l e rmX6_listRights s m args below meth c g A 5 (MQ below (QC g A (some (.int r)) S') args s 0 0 A) 0 0 0 [(0, .ref (g.2.1 13))] [] S
  refine j_iconst F (v := 0) dX6_listRights_0 (by decide) ?_
  refine j_istore_n F (lv' := [(1, .int 0), (0, .ref (g.2.1 13))]) dX6_listRights_1 (by decide) rfl ?_
  refine j_iconst F (v := 0) dX6_listRights_2 (by decide) ?_
  refine j_istore_n F (lv' := [(2, .int 0), (1, .int 0), (0, .ref (g.2.1 13))]) dX6_listRights_3 (by decide) rfl ?_
  refine j_sub [2, 1, 0] rfl ?_
  obtain ⟨y4, hlp4, hm⟩ := Option.bind_eq_some_iff.mp hm
  refine loopO_walk (fun x => m_X6_listRights_L4 x.1 x.2.1 x.2.2) (fun x => J p l e rmX6_listRights s m args below meth c g A 5 (MQ below (QC g A (some (.int r)) S') args s 0 0 A) 0 0 4 [(0, .ref (g.2.1 13)), (1, .int x.1), (2, .int x.2.1)] [] x.2.2) (fun x => J p l e rmX6_listRights s m args below meth c g A 5 (MQ below (QC g A (some (.int r)) S') args s 0 0 A) 0 0 85 [(1, .int x.1)] [] x.2) (fun x o1 hm hk1 => ?_) hlp4 ?_
  · obtain ⟨v1, v2, S⟩ := x
    replace hm : m_X6_listRights_L4 v1 v2 S = some o1 := hm
    show J p l e rmX6_listRights s m args below meth c g A 5 (MQ below (QC g A (some (.int r)) S') args s 0 0 A) 0 0 4 [(0, .ref (g.2.1 13)), (1, .int v1), (2, .int v2)] [] S
    unfold m_X6_listRights_L4 at hm
    refine j_iload_n F 2 dX6_listRights_4 rfl ?_
    refine j_aload_n F 0 dX6_listRights_5 rfl ?_
    refine j_getR F (k0 := 1) (C := RX6) (T := TX6) (N := 20) rfl rfl rfl inF6 (by decide) tw520 dX6_listRights_6 ?_
    refine j_iconst F (v := 0) dX6_listRights_9 (by decide) ?_
    refine j_iald F rfl dX6_listRights_10 hm (fun hm => ?_)
    refine j_icmp_ge F (tgt := 85) dX6_listRights_11 (by decide) hm (fun _ hm => ?_) (fun _ hm => ?_)
    · cases hm
      refine j_sub [1] rfl ?_
      exact hk1
    · refine j_iconst F (v := 0) dX6_listRights_14 (by decide) ?_
      refine j_istore_n F (lv' := [(3, .int 0), (0, .ref (g.2.1 13)), (1, .int v1), (2, .int v2)]) dX6_listRights_15 (by decide) rfl ?_
      refine j_sub [1, 2, 3, 0] rfl ?_
      obtain ⟨y16, hlp16, hm⟩ := Option.bind_eq_some_iff.mp hm
      refine loopO_walk (fun x => m_X6_listRights_L16 v2 x.1 x.2.1 x.2.2) (fun x => J p l e rmX6_listRights s m args below meth c g A 5 (MQ below (QC g A (some (.int r)) S') args s 0 0 A) 0 0 16 [(0, .ref (g.2.1 13)), (1, .int x.1), (2, .int v2), (3, .int x.2.1)] [] x.2.2) (fun x => J p l e rmX6_listRights s m args below meth c g A 5 (MQ below (QC g A (some (.int r)) S') args s 0 0 A) 0 0 79 [(0, .ref (g.2.1 13)), (1, .int x.1), (2, .int v2)] [] x.2) (fun x o2 hm hk2 => ?_) hlp16 ?_
      · obtain ⟨v1, v3, S⟩ := x
        replace hm : m_X6_listRights_L16 v2 v1 v3 S = some o2 := hm
        show J p l e rmX6_listRights s m args below meth c g A 5 (MQ below (QC g A (some (.int r)) S') args s 0 0 A) 0 0 16 [(0, .ref (g.2.1 13)), (1, .int v1), (2, .int v2), (3, .int v3)] [] S
        unfold m_X6_listRights_L16 at hm
        refine j_iload_n F 3 dX6_listRights_16 rfl ?_
        refine j_iconst F (v := 4) dX6_listRights_17 (by decide) ?_
        refine j_icmp_ge F (tgt := 79) dX6_listRights_18 (by decide) hm (fun _ hm => ?_) (fun _ hm => ?_)
        · cases hm
          refine j_sub [0, 1, 2] rfl ?_
          exact hk2
        · refine j_iconst F (v := 0) dX6_listRights_21 (by decide) ?_
          refine j_istore F (lv' := [(4, .int 0), (0, .ref (g.2.1 13)), (1, .int v1), (2, .int v2), (3, .int v3)]) dX6_listRights_22 (by decide) rfl ?_
          refine j_sub [1, 2, 3, 4, 0] rfl ?_
          obtain ⟨y24, hlp24, hm⟩ := Option.bind_eq_some_iff.mp hm
          refine loopO_walk (fun x => m_X6_listRights_L24 v2 v3 x.1 x.2.1 x.2.2) (fun x => J p l e rmX6_listRights s m args below meth c g A 5 (MQ below (QC g A (some (.int r)) S') args s 0 0 A) 0 0 24 [(0, .ref (g.2.1 13)), (1, .int x.1), (2, .int v2), (3, .int v3), (4, .int x.2.1)] [] x.2.2) (fun x => J p l e rmX6_listRights s m args below meth c g A 5 (MQ below (QC g A (some (.int r)) S') args s 0 0 A) 0 0 73 [(0, .ref (g.2.1 13)), (1, .int x.1), (2, .int v2), (3, .int v3)] [] x.2) (fun x o3 hm hk3 => ?_) hlp24 ?_
          · obtain ⟨v1, v4, S⟩ := x
            replace hm : m_X6_listRights_L24 v2 v3 v1 v4 S = some o3 := hm
            show J p l e rmX6_listRights s m args below meth c g A 5 (MQ below (QC g A (some (.int r)) S') args s 0 0 A) 0 0 24 [(0, .ref (g.2.1 13)), (1, .int v1), (2, .int v2), (3, .int v3), (4, .int v4)] [] S
            unfold m_X6_listRights_L24 at hm
            have hj67 : ∀ (v1 : Int32) (v4 : Int32) (S : Hs), m_X6_listRights_J67 v1 v2 v3 v4 S = some o3 → J p l e rmX6_listRights s m args below meth c g A 5 (MQ below (QC g A (some (.int r)) S') args s 0 0 A) 0 0 67 [(0, .ref (g.2.1 13)), (1, .int v1), (2, .int v2), (3, .int v3), (4, .int v4)] [] S := by
              intro v1 v4 S hm
              unfold m_X6_listRights_J67 at hm
              refine j_iinc F (v := v4 + 1) (lv' := [(4, .int (v4 + 1)), (0, .ref (g.2.1 13)), (1, .int v1), (2, .int v2), (3, .int v3)]) 4 dX6_listRights_67 rfl rfl (by decide) rfl ?_
              refine j_goto F (tgt := 24) dX6_listRights_70 (by decide) ?_
              cases hm
              refine j_sub [1, 2, 3, 4, 0] rfl ?_
              exact hk3
            refine j_iload F 4 dX6_listRights_24 rfl ?_
            refine j_aload_n F 0 dX6_listRights_26 rfl ?_
            refine j_getR F (k0 := 1) (C := RX6) (T := TX6) (N := 20) rfl rfl rfl inF6 (by decide) tw520 dX6_listRights_27 ?_
            refine j_iconst F (v := 0) dX6_listRights_30 (by decide) ?_
            refine j_iald F rfl dX6_listRights_31 hm (fun hm => ?_)
            refine j_icmp_ge F (tgt := 73) dX6_listRights_32 (by decide) hm (fun _ hm => ?_) (fun _ hm => ?_)
            · cases hm
              refine j_sub [0, 1, 2, 3] rfl ?_
              exact hk3
            · refine j_aload_n F 0 dX6_listRights_35 rfl ?_
              refine j_iload_n F 2 dX6_listRights_36 rfl ?_
              refine j_iload_n F 3 dX6_listRights_37 rfl ?_
              refine j_iload F 4 dX6_listRights_38 rfl ?_
              obtain ⟨r40, hc40, hm⟩ := Option.bind_eq_some_iff.mp hm
              refine j_callV F (n := 3) (As := [.int v2, .int v3, .int v4]) (rest := []) (c_X6_has l g hg v2 v3 v4 S r40 hc40) gw_X6_94 (by decide +kernel) ⟨Nat.le_of_ble_eq_true rfl, Nat.le_of_ble_eq_true rfl⟩ ⟨Nat.le_of_ble_eq_true rfl, Nat.le_of_ble_eq_true rfl⟩ rfl rfl rfl rfl (Nat.le_of_ble_eq_true rfl) dX6_listRights_40 ?_
              show J p l e rmX6_listRights s m args below meth c g A 5 (MQ below (QC g A (some (.int r)) S') args s 0 0 A) 0 0 43 [(0, .ref (g.2.1 13)), (1, .int v1), (2, .int v2), (3, .int v3), (4, .int v4)] [.int r40] S
              refine j_if_eq F (tgt := 67) dX6_listRights_43 (by decide) hm (fun _ hm => ?_) (fun _ hm => ?_)
              · refine j_sub [0, 1, 2, 3, 4] rfl ?_
                exact hj67 v1 v4 S  hm
              · refine j_aload_n F 0 dX6_listRights_46 rfl ?_
                refine j_getR F (k0 := 17) (C := RX6) (T := TX6) (N := 20) rfl rfl rfl inF6 (by decide) tw533 dX6_listRights_47 ?_
                refine j_iload_n F 1 dX6_listRights_50 rfl ?_
                refine j_bipush F (v := 100) dX6_listRights_51 (by decide) ?_
                refine j_iload_n F 2 dX6_listRights_53 rfl ?_
                refine j_imul F dX6_listRights_54 ?_
                refine j_bipush F (v := 10) dX6_listRights_55 (by decide) ?_
                refine j_iload_n F 3 dX6_listRights_57 rfl ?_
                refine j_imul F dX6_listRights_58 ?_
                refine j_iadd F dX6_listRights_59 ?_
                refine j_iload F 4 dX6_listRights_60 rfl ?_
                refine j_iadd F dX6_listRights_62 ?_
                refine j_iast F rfl dX6_listRights_63 hm (fun hm => ?_)
                refine j_bndS hm (fun S63 hm => ?_)
                refine j_iinc F (v := v1 + 1) (lv' := [(1, .int (v1 + 1)), (0, .ref (g.2.1 13)), (2, .int v2), (3, .int v3), (4, .int v4)]) 1 dX6_listRights_64 rfl rfl (by decide) rfl ?_
                refine j_sub [1, 0, 2, 3, 4] rfl ?_
                exact hj67 (v1 + 1) v4 S63  hm
          · show J p l e rmX6_listRights s m args below meth c g A 5 (MQ below (QC g A (some (.int r)) S') args s 0 0 A) 0 0 73 [(0, .ref (g.2.1 13)), (1, .int y24.1), (2, .int v2), (3, .int v3)] [] y24.2
            refine j_iinc F (v := v3 + 1) (lv' := [(3, .int (v3 + 1)), (0, .ref (g.2.1 13)), (1, .int y24.1), (2, .int v2)]) 3 dX6_listRights_73 rfl rfl (by decide) rfl ?_
            refine j_goto F (tgt := 16) dX6_listRights_76 (by decide) ?_
            cases hm
            refine j_sub [1, 2, 3, 0] rfl ?_
            exact hk2
      · show J p l e rmX6_listRights s m args below meth c g A 5 (MQ below (QC g A (some (.int r)) S') args s 0 0 A) 0 0 79 [(0, .ref (g.2.1 13)), (1, .int y16.1), (2, .int v2)] [] y16.2
        refine j_iinc F (v := v2 + 1) (lv' := [(2, .int (v2 + 1)), (0, .ref (g.2.1 13)), (1, .int y16.1)]) 2 dX6_listRights_79 rfl rfl (by decide) rfl ?_
        refine j_goto F (tgt := 4) dX6_listRights_82 (by decide) ?_
        cases hm
        refine j_sub [1, 2, 0] rfl ?_
        exact hk1
  · show J p l e rmX6_listRights s m args below meth c g A 5 (MQ below (QC g A (some (.int r)) S') args s 0 0 A) 0 0 85 [(1, .int y4.1)] [] y4.2
    refine j_iload_n F 0 dX6_listRights_85 rfl ?_
    exact j_iret_e F rfl dX6_listRights_86 hm
def m_X6_putNumber (v1 : Int32) (v2 : Int32) (S : Hs) : Option (Hs) := (m_X6_put (v1 / 100) (irm (v1 / 10) 10) (irm v1 10) v2 S).bind fun S17 => (some S17)
set_option maxRecDepth 100000 in
set_option maxHeartbeats 4000000 in
theorem c_X6_putNumber (l : Launch) (g : GG) (hg : Inj g) (v1 : Int32) (v2 : Int32)  (S : Hs) (S' : Hs) (hm : m_X6_putNumber v1 v2 S = some S') : CM l yX6_putNumber [.code yX6_putNumber cX6_putNumber 3 none] rmX6_putNumber [.ref (g.2.1 13), .int v1, .int v2] g S none S' := by
  unfold m_X6_putNumber at hm
  refine CM.of (cc := cX6_putNumber) (nL := 3) (ret := none) (lv := [(0, .ref (g.2.1 13)), (1, .int v1), (2, .int v2)]) (by decide +kernel) hg (Nat.le_of_ble_eq_true rfl) rfl (fun p e s m args below meth c A F => ?_)
  replace F : Fx p s m meth c cX6_putNumber RX6 3 none g A := F
  show J p l e rmX6_putNumber s m args below meth c g A 3 (MQ below (QC g A none S') args s 0 0 A) 0 0 0 [(0, .ref (g.2.1 13)), (1, .int v1), (2, .int v2)] [] S
  refine j_aload_n F 0 dX6_putNumber_0 rfl ?_
  refine j_iload_n F 1 dX6_putNumber_1 rfl ?_
  refine j_bipush F (v := 100) dX6_putNumber_2 (by decide) ?_
  refine j_idiv F dX6_putNumber_4 (by decide) ?_
  refine j_iload_n F 1 dX6_putNumber_5 rfl ?_
  refine j_bipush F (v := 10) dX6_putNumber_6 (by decide) ?_
  refine j_idiv F dX6_putNumber_8 (by decide) ?_
  refine j_bipush F (v := 10) dX6_putNumber_9 (by decide) ?_
  refine j_irem F dX6_putNumber_11 (by decide) ?_
  refine j_iload_n F 1 dX6_putNumber_12 rfl ?_
  refine j_bipush F (v := 10) dX6_putNumber_13 (by decide) ?_
  refine j_irem F dX6_putNumber_15 (by decide) ?_
  refine j_iload_n F 2 dX6_putNumber_16 rfl ?_
  obtain ⟨S17, hc17, hm⟩ := Option.bind_eq_some_iff.mp hm
  refine j_callV F (n := 4) (As := [.int (v1 / 100), .int (irm (v1 / 10) 10), .int (irm v1 10), .int v2]) (rest := []) (c_X6_put l g hg (v1 / 100) (irm (v1 / 10) 10) (irm v1 10) v2 S S17 hc17) gw_X6_166 (by decide +kernel) ⟨Nat.le_of_ble_eq_true rfl, Nat.le_of_ble_eq_true rfl⟩ ⟨Nat.le_of_ble_eq_true rfl, Nat.le_of_ble_eq_true rfl⟩ rfl rfl rfl rfl (Nat.le_of_ble_eq_true rfl) dX6_putNumber_17 ?_
  show J p l e rmX6_putNumber s m args below meth c g A 3 (MQ below (QC g A none S') args s 0 0 A) 0 0 20 [(0, .ref (g.2.1 13)), (1, .int v1), (2, .int v2)] [] S17
  exact j_vret_e F rfl dX6_putNumber_20 hm
def m_X6_endsWithout_J73 (v6 : Int32) (S : Hs) : Option (Int32 × Hs) := gd (decide (v6 = 0 ∨ v6 = 1)) (some ((v6, S)))
def m_X6_endsWithout_J59 (v5 : Int32) (v6 : Int32) (S : Hs) : Option (Int32 × Hs) := if v5 = ((-9)) then (m_X6_endsWithout_J73 v6 S) else ((m_X6_putNumber v5 1 S).bind fun S70 => (m_X6_endsWithout_J73 v6 S70))
noncomputable def m_X6_endsWithout_J28 (v1 : Int32) (v2 : Int32) (v3 : Int32) (v4 : Int32) (v5 : Int32) (S : Hs) : Option (Int32 × Hs) := (m_X6_awakeSet  S).bind fun r30 => ((m_X6_spread r30 S).bind fun S33 => ((m_X6_ends v1 v2 v3 S33).bind fun r40 => (if v4 = ((-9)) then (m_X6_endsWithout_J59 v5 r40 S33) else ((m_X6_putNumber v4 1 S33).bind fun S56 => (m_X6_endsWithout_J59 v5 r40 S56)))))
noncomputable def m_X6_endsWithout_J14 (v1 : Int32) (v2 : Int32) (v3 : Int32) (v4 : Int32) (v5 : Int32) (S : Hs) : Option (Int32 × Hs) := if v5 = ((-9)) then (m_X6_endsWithout_J28 v1 v2 v3 v4 v5 S) else ((m_X6_putNumber v5 0 S).bind fun S25 => (m_X6_endsWithout_J28 v1 v2 v3 v4 v5 S25))
noncomputable def m_X6_endsWithout (v1 : Int32) (v2 : Int32) (v3 : Int32) (v4 : Int32) (v5 : Int32) (S : Hs) : Option (Int32 × Hs) := if v4 = ((-9)) then (m_X6_endsWithout_J14 v1 v2 v3 v4 v5 S) else ((m_X6_putNumber v4 0 S).bind fun S11 => (m_X6_endsWithout_J14 v1 v2 v3 v4 v5 S11))
set_option maxRecDepth 100000 in
set_option maxHeartbeats 4000000 in
theorem c_X6_endsWithout (l : Launch) (g : GG) (hg : Inj g) (v1 : Int32) (v2 : Int32) (v3 : Int32) (v4 : Int32) (v5 : Int32)  (S : Hs) (r : Int32) (S' : Hs) (hm : m_X6_endsWithout v1 v2 v3 v4 v5 S = some ((r, S'))) : CM l yX6_endsWithout [.code yX6_endsWithout cX6_endsWithout 7 (some .boolean)] rmX6_endsWithout [.ref (g.2.1 13), .int v1, .int v2, .int v3, .int v4, .int v5] g S (some (.int r)) S' := by
  unfold m_X6_endsWithout at hm
  refine CM.of (cc := cX6_endsWithout) (nL := 7) (ret := (some .boolean)) (lv := [(0, .ref (g.2.1 13)), (1, .int v1), (2, .int v2), (3, .int v3), (4, .int v4), (5, .int v5)]) (by decide +kernel) hg (Nat.le_of_ble_eq_true rfl) rfl (fun p e s m args below meth c A F => ?_)
  replace F : Fx p s m meth c cX6_endsWithout RX6 7 (some .boolean) g A := F
  show J p l e rmX6_endsWithout s m args below meth c g A 7 (MQ below (QC g A (some (.int r)) S') args s 0 0 A) 0 0 0 [(0, .ref (g.2.1 13)), (1, .int v1), (2, .int v2), (3, .int v3), (4, .int v4), (5, .int v5)] [] S
  have hj73 : ∀ (v6 : Int32) (S : Hs), m_X6_endsWithout_J73 v6 S = some ((r, S')) → J p l e rmX6_endsWithout s m args below meth c g A 7 (MQ below (QC g A (some (.int r)) S') args s 0 0 A) 0 0 73 [(6, .int v6)] [] S := by
    intro v6 S hm
    unfold m_X6_endsWithout_J73 at hm
    refine j_iload F 0 dX6_endsWithout_73 rfl ?_
    obtain ⟨hb, hm⟩ := gd_ok hm
    exact j_zret_e F rfl (z_nar hb) dX6_endsWithout_75 hm
  have hj59 : ∀ (v5 : Int32) (v6 : Int32) (S : Hs), m_X6_endsWithout_J59 v5 v6 S = some ((r, S')) → J p l e rmX6_endsWithout s m args below meth c g A 7 (MQ below (QC g A (some (.int r)) S') args s 0 0 A) 0 0 59 [(0, .ref (g.2.1 13)), (5, .int v5), (6, .int v6)] [] S := by
    intro v5 v6 S hm
    unfold m_X6_endsWithout_J59 at hm
    refine j_iload F 1 dX6_endsWithout_59 rfl ?_
    refine j_bipush F (v := -9) dX6_endsWithout_61 (by decide) ?_
    refine j_icmp_eq F (tgt := 73) dX6_endsWithout_63 (by decide) hm (fun _ hm => ?_) (fun _ hm => ?_)
    · refine j_sub [2] rfl ?_
      exact hj73 v6 S  hm
    · refine j_aload_n F 0 dX6_endsWithout_66 rfl ?_
      refine j_iload F 1 dX6_endsWithout_67 rfl ?_
      refine j_iconst F (v := 1) dX6_endsWithout_69 (by decide) ?_
      obtain ⟨S70, hc70, hm⟩ := Option.bind_eq_some_iff.mp hm
      refine j_callV F (n := 2) (As := [.int v5, .int 1]) (rest := []) (c_X6_putNumber l g hg v5 1 S S70 hc70) gw_X6_180 (by decide +kernel) ⟨Nat.le_of_ble_eq_true rfl, Nat.le_of_ble_eq_true rfl⟩ ⟨Nat.le_of_ble_eq_true rfl, Nat.le_of_ble_eq_true rfl⟩ rfl rfl rfl rfl (Nat.le_of_ble_eq_true rfl) dX6_endsWithout_70 ?_
      show J p l e rmX6_endsWithout s m args below meth c g A 7 (MQ below (QC g A (some (.int r)) S') args s 0 0 A) 0 0 73 [(0, .ref (g.2.1 13)), (5, .int v5), (6, .int v6)] [] S70
      refine j_sub [2] rfl ?_
      exact hj73 v6 S70  hm
  have hj28 : ∀ (v1 : Int32) (v2 : Int32) (v3 : Int32) (v4 : Int32) (v5 : Int32) (S : Hs), m_X6_endsWithout_J28 v1 v2 v3 v4 v5 S = some ((r, S')) → J p l e rmX6_endsWithout s m args below meth c g A 7 (MQ below (QC g A (some (.int r)) S') args s 0 0 A) 0 0 28 [(0, .ref (g.2.1 13)), (1, .int v1), (2, .int v2), (3, .int v3), (4, .int v4), (5, .int v5)] [] S := by
    intro v1 v2 v3 v4 v5 S hm
    unfold m_X6_endsWithout_J28 at hm
    refine j_aload_n F 0 dX6_endsWithout_28 rfl ?_
    refine j_aload_n F 0 dX6_endsWithout_29 rfl ?_
    obtain ⟨r30, hc30, hm⟩ := Option.bind_eq_some_iff.mp hm
    refine j_callV F (n := 0) (As := []) (rest := [.ref (g.2.1 13)]) (c_X6_awakeSet l g hg S r30 hc30) gw_X6_125 (by decide +kernel) ⟨Nat.le_of_ble_eq_true rfl, Nat.le_of_ble_eq_true rfl⟩ ⟨Nat.le_of_ble_eq_true rfl, Nat.le_of_ble_eq_true rfl⟩ rfl rfl rfl rfl (Nat.le_of_ble_eq_true rfl) dX6_endsWithout_30 ?_
    show J p l e rmX6_endsWithout s m args below meth c g A 7 (MQ below (QC g A (some (.int r)) S') args s 0 0 A) 0 0 33 [(0, .ref (g.2.1 13)), (1, .int v1), (2, .int v2), (3, .int v3), (4, .int v4), (5, .int v5)] [.int r30, .ref (g.2.1 13)] S
    obtain ⟨S33, hc33, hm⟩ := Option.bind_eq_some_iff.mp hm
    refine j_callV F (n := 1) (As := [.int r30]) (rest := []) (c_X6_spread l g hg r30 S S33 hc33) gw_X6_128 (by decide +kernel) ⟨Nat.le_of_ble_eq_true rfl, Nat.le_of_ble_eq_true rfl⟩ ⟨Nat.le_of_ble_eq_true rfl, Nat.le_of_ble_eq_true rfl⟩ rfl rfl rfl rfl (Nat.le_of_ble_eq_true rfl) dX6_endsWithout_33 ?_
    show J p l e rmX6_endsWithout s m args below meth c g A 7 (MQ below (QC g A (some (.int r)) S') args s 0 0 A) 0 0 36 [(0, .ref (g.2.1 13)), (1, .int v1), (2, .int v2), (3, .int v3), (4, .int v4), (5, .int v5)] [] S33
    refine j_aload_n F 0 dX6_endsWithout_36 rfl ?_
    refine j_iload_n F 1 dX6_endsWithout_37 rfl ?_
    refine j_iload_n F 2 dX6_endsWithout_38 rfl ?_
    refine j_iload_n F 3 dX6_endsWithout_39 rfl ?_
    obtain ⟨r40, hc40, hm⟩ := Option.bind_eq_some_iff.mp hm
    refine j_callV F (n := 3) (As := [.int v1, .int v2, .int v3]) (rest := []) (c_X6_ends l g hg v1 v2 v3 S33 r40 hc40) gw_X6_80 (by decide +kernel) ⟨Nat.le_of_ble_eq_true rfl, Nat.le_of_ble_eq_true rfl⟩ ⟨Nat.le_of_ble_eq_true rfl, Nat.le_of_ble_eq_true rfl⟩ rfl rfl rfl rfl (Nat.le_of_ble_eq_true rfl) dX6_endsWithout_40 ?_
    show J p l e rmX6_endsWithout s m args below meth c g A 7 (MQ below (QC g A (some (.int r)) S') args s 0 0 A) 0 0 43 [(0, .ref (g.2.1 13)), (1, .int v1), (2, .int v2), (3, .int v3), (4, .int v4), (5, .int v5)] [.int r40] S33
    refine j_istore F (lv' := [(6, .int r40), (0, .ref (g.2.1 13)), (1, .int v1), (2, .int v2), (3, .int v3), (4, .int v4), (5, .int v5)]) dX6_endsWithout_43 (by decide) rfl ?_
    refine j_iload F 5 dX6_endsWithout_45 rfl ?_
    refine j_bipush F (v := -9) dX6_endsWithout_47 (by decide) ?_
    refine j_icmp_eq F (tgt := 59) dX6_endsWithout_49 (by decide) hm (fun _ hm => ?_) (fun _ hm => ?_)
    · refine j_sub [1, 6, 0] rfl ?_
      exact hj59 v5 r40 S33  hm
    · refine j_aload_n F 1 dX6_endsWithout_52 rfl ?_
      refine j_iload F 5 dX6_endsWithout_53 rfl ?_
      refine j_iconst F (v := 1) dX6_endsWithout_55 (by decide) ?_
      obtain ⟨S56, hc56, hm⟩ := Option.bind_eq_some_iff.mp hm
      refine j_callV F (n := 2) (As := [.int v4, .int 1]) (rest := []) (c_X6_putNumber l g hg v4 1 S33 S56 hc56) gw_X6_180 (by decide +kernel) ⟨Nat.le_of_ble_eq_true rfl, Nat.le_of_ble_eq_true rfl⟩ ⟨Nat.le_of_ble_eq_true rfl, Nat.le_of_ble_eq_true rfl⟩ rfl rfl rfl rfl (Nat.le_of_ble_eq_true rfl) dX6_endsWithout_56 ?_
      show J p l e rmX6_endsWithout s m args below meth c g A 7 (MQ below (QC g A (some (.int r)) S') args s 0 0 A) 0 0 59 [(6, .int r40), (0, .ref (g.2.1 13)), (1, .int v1), (2, .int v2), (3, .int v3), (4, .int v4), (5, .int v5)] [] S56
      refine j_sub [1, 6, 0] rfl ?_
      exact hj59 v5 r40 S56  hm
  have hj14 : ∀ (v1 : Int32) (v2 : Int32) (v3 : Int32) (v4 : Int32) (v5 : Int32) (S : Hs), m_X6_endsWithout_J14 v1 v2 v3 v4 v5 S = some ((r, S')) → J p l e rmX6_endsWithout s m args below meth c g A 7 (MQ below (QC g A (some (.int r)) S') args s 0 0 A) 0 0 14 [(0, .ref (g.2.1 13)), (1, .int v1), (2, .int v2), (3, .int v3), (4, .int v4), (5, .int v5)] [] S := by
    intro v1 v2 v3 v4 v5 S hm
    unfold m_X6_endsWithout_J14 at hm
    refine j_iload F 5 dX6_endsWithout_14 rfl ?_
    refine j_bipush F (v := -9) dX6_endsWithout_16 (by decide) ?_
    refine j_icmp_eq F (tgt := 28) dX6_endsWithout_18 (by decide) hm (fun _ hm => ?_) (fun _ hm => ?_)
    · refine j_sub [0, 1, 2, 3, 4, 5] rfl ?_
      exact hj28 v1 v2 v3 v4 v5 S  hm
    · refine j_aload_n F 0 dX6_endsWithout_21 rfl ?_
      refine j_iload F 5 dX6_endsWithout_22 rfl ?_
      refine j_iconst F (v := 0) dX6_endsWithout_24 (by decide) ?_
      obtain ⟨S25, hc25, hm⟩ := Option.bind_eq_some_iff.mp hm
      refine j_callV F (n := 2) (As := [.int v5, .int 0]) (rest := []) (c_X6_putNumber l g hg v5 0 S S25 hc25) gw_X6_180 (by decide +kernel) ⟨Nat.le_of_ble_eq_true rfl, Nat.le_of_ble_eq_true rfl⟩ ⟨Nat.le_of_ble_eq_true rfl, Nat.le_of_ble_eq_true rfl⟩ rfl rfl rfl rfl (Nat.le_of_ble_eq_true rfl) dX6_endsWithout_25 ?_
      show J p l e rmX6_endsWithout s m args below meth c g A 7 (MQ below (QC g A (some (.int r)) S') args s 0 0 A) 0 0 28 [(0, .ref (g.2.1 13)), (1, .int v1), (2, .int v2), (3, .int v3), (4, .int v4), (5, .int v5)] [] S25
      refine j_sub [0, 1, 2, 3, 4, 5] rfl ?_
      exact hj28 v1 v2 v3 v4 v5 S25  hm
  refine j_iload F 4 dX6_endsWithout_0 rfl ?_
  refine j_bipush F (v := -9) dX6_endsWithout_2 (by decide) ?_
  refine j_icmp_eq F (tgt := 14) dX6_endsWithout_4 (by decide) hm (fun _ hm => ?_) (fun _ hm => ?_)
  · refine j_sub [0, 1, 2, 3, 4, 5] rfl ?_
    exact hj14 v1 v2 v3 v4 v5 S  hm
  · refine j_aload_n F 0 dX6_endsWithout_7 rfl ?_
    refine j_iload F 4 dX6_endsWithout_8 rfl ?_
    refine j_iconst F (v := 0) dX6_endsWithout_10 (by decide) ?_
    obtain ⟨S11, hc11, hm⟩ := Option.bind_eq_some_iff.mp hm
    refine j_callV F (n := 2) (As := [.int v4, .int 0]) (rest := []) (c_X6_putNumber l g hg v4 0 S S11 hc11) gw_X6_180 (by decide +kernel) ⟨Nat.le_of_ble_eq_true rfl, Nat.le_of_ble_eq_true rfl⟩ ⟨Nat.le_of_ble_eq_true rfl, Nat.le_of_ble_eq_true rfl⟩ rfl rfl rfl rfl (Nat.le_of_ble_eq_true rfl) dX6_endsWithout_11 ?_
    show J p l e rmX6_endsWithout s m args below meth c g A 7 (MQ below (QC g A (some (.int r)) S') args s 0 0 A) 0 0 14 [(0, .ref (g.2.1 13)), (1, .int v1), (2, .int v2), (3, .int v3), (4, .int v4), (5, .int v5)] [] S11
    refine j_sub [0, 1, 2, 3, 4, 5] rfl ?_
    exact hj14 v1 v2 v3 v4 v5 S11  hm
noncomputable def m_X6_cuts_L37 (v1 : Int32) (v2 : Int32) (v3 : Int32) (v4 : Int32) (v5 : Int32) (S : Hs) : Option ((Int32 × Hs) ⊕ (Hs ⊕ (Int32 × Hs))) := if v4 ≤ v5 then (some (.inr (.inl S))) else (gd (inb v5 30) (bndE (m_X6_endsWithout v1 v2 v3 (gA S 27 v5.toNatClampNeg) ((-9)) S) fun r57 S57 => (if r57 = 0 then (gd (inb v5 30) (bnd (sI S57 13 18 (gA S57 27 v5.toNatClampNeg)) fun S71 => (some (.inr (.inr ((1, S71))))))) else (some (.inl ((v5 + 1, S57)))))))
noncomputable def m_X6_cuts_L98 (v1 : Int32) (v2 : Int32) (v3 : Int32) (v4 : Int32) (v5 : Int32) (v6 : Int32) (S : Hs) : Option ((Int32 × Hs) ⊕ (Hs ⊕ (Int32 × Hs))) := if v4 ≤ v6 then (some (.inr (.inl S))) else (gd (inb v5 30) (gd (inb v6 30) (bndE (m_X6_endsWithout v1 v2 v3 (gA S 27 v5.toNatClampNeg) (gA S 27 v6.toNatClampNeg) S) fun r123 S123 => (if r123 = 0 then (gd (inb v5 30) (bnd (sI S123 13 18 (gA S123 27 v5.toNatClampNeg)) fun S137 => (gd (inb v6 30) (bnd (sI S137 13 19 (gA S137 27 v6.toNatClampNeg)) fun S148 => (some (.inr (.inr ((2, S148))))))))) else (some (.inl ((v6 + 1, S123))))))))
noncomputable def m_X6_cuts_L85 (v1 : Int32) (v2 : Int32) (v3 : Int32) (v4 : Int32) (v5 : Int32) (S : Hs) : Option ((Int32 × Hs) ⊕ (Hs ⊕ (Int32 × Hs))) := if v4 ≤ v5 then (some (.inr (.inl S))) else (bnd (v5 + 1) fun v6_96 => ((loopO (fun x => m_X6_cuts_L98 v1 v2 v3 v4 v5 x.1 x.2) ((v6_96, S))).bind fun e98 => Sum.elim (fun y98 => some (.inl ((v5 + 1, y98)))) (fun q => some (.inr (.inr q))) e98))
noncomputable def m_X6_cuts (v1 : Int32) (v2 : Int32) (v3 : Int32) (S : Hs) : Option (Int32 × Hs) := bnd (sI S 13 18 ((-9))) fun S3 => (bnd (sI S3 13 19 ((-9))) fun S9 => (bndE (m_X6_endsWithout v1 v2 v3 ((-9)) ((-9)) S9) fun r20 S20 => (if r20 = 0 then (some ((0, S20))) else (bndE (m_X6_listRights  S20) fun r29 S29 => ((loopO (fun x => m_X6_cuts_L37 v1 v2 v3 r29 x.1 x.2) ((0, S29))).bind fun e37 => Sum.elim (fun y37 => (loopO (fun x => m_X6_cuts_L85 v1 v2 v3 r29 x.1 x.2) ((0, y37))).bind fun e85 => Sum.elim (fun y85 => some (((-9), y85))) (fun q => some q) e85) (fun q => some q) e37)))))
set_option maxRecDepth 100000 in
set_option maxHeartbeats 4000000 in
theorem c_X6_cuts (l : Launch) (g : GG) (hg : Inj g) (v1 : Int32) (v2 : Int32) (v3 : Int32)  (S : Hs) (r : Int32) (S' : Hs) (hm : m_X6_cuts v1 v2 v3 S = some ((r, S'))) : CM l yX6_cuts [.code yX6_cuts cX6_cuts 7 (some .int)] rmX6_cuts [.ref (g.2.1 13), .int v1, .int v2, .int v3] g S (some (.int r)) S' := by
  unfold m_X6_cuts at hm
  refine CM.of (cc := cX6_cuts) (nL := 7) (ret := (some .int)) (lv := [(0, .ref (g.2.1 13)), (1, .int v1), (2, .int v2), (3, .int v3)]) (by decide +kernel) hg (Nat.le_of_ble_eq_true rfl) rfl (fun p e s m args below meth c A F => ?_)
  replace F : Fx p s m meth c cX6_cuts RX6 7 (some .int) g A := F
  show J p l e rmX6_cuts s m args below meth c g A 7 (MQ below (QC g A (some (.int r)) S') args s 0 0 A) 0 0 0 [(0, .ref (g.2.1 13)), (1, .int v1), (2, .int v2), (3, .int v3)] [] S
  refine j_aload_n F 0 dX6_cuts_0 rfl ?_
  refine j_bipush F (v := -9) dX6_cuts_1 (by decide) ?_
  refine j_putI F (k0 := 18) (C := RX6) (T := TX6) (N := 20) tyX6 tyX6_ok nmX6 rfl rfl rfl inF6 (by decide) tw696 rfl (by decide +kernel) dX6_cuts_3 ?_
  refine j_bndS hm (fun S3 hm => ?_)
  refine j_aload_n F 0 dX6_cuts_6 rfl ?_
  refine j_bipush F (v := -9) dX6_cuts_7 (by decide) ?_
  refine j_putI F (k0 := 19) (C := RX6) (T := TX6) (N := 20) tyX6 tyX6_ok nmX6 rfl rfl rfl inF6 (by decide) tw697 rfl (by decide +kernel) dX6_cuts_9 ?_
  refine j_bndS hm (fun S9 hm => ?_)
  refine j_aload_n F 0 dX6_cuts_12 rfl ?_
  refine j_iload_n F 1 dX6_cuts_13 rfl ?_
  refine j_iload_n F 2 dX6_cuts_14 rfl ?_
  refine j_iload_n F 3 dX6_cuts_15 rfl ?_
  refine j_bipush F (v := -9) dX6_cuts_16 (by decide) ?_
  refine j_bipush F (v := -9) dX6_cuts_18 (by decide) ?_
  obtain ⟨r20, S20, hc20, hm⟩ := bndE_ok hm
  refine j_callV F (n := 5) (As := [.int v1, .int v2, .int v3, .int ((-9)), .int ((-9))]) (rest := []) (c_X6_endsWithout l g hg v1 v2 v3 ((-9)) ((-9)) S9 r20 S20 hc20) gw_X6_190 (by decide +kernel) ⟨Nat.le_of_ble_eq_true rfl, Nat.le_of_ble_eq_true rfl⟩ ⟨Nat.le_of_ble_eq_true rfl, Nat.le_of_ble_eq_true rfl⟩ rfl rfl rfl rfl (Nat.le_of_ble_eq_true rfl) dX6_cuts_20 ?_
  show J p l e rmX6_cuts s m args below meth c g A 7 (MQ below (QC g A (some (.int r)) S') args s 0 0 A) 0 0 23 [(0, .ref (g.2.1 13)), (1, .int v1), (2, .int v2), (3, .int v3)] [.int r20] S20
  refine j_if_ne F (tgt := 28) dX6_cuts_23 (by decide) hm (fun _ hm => ?_) (fun _ hm => ?_)
  · refine j_aload_n F 0 dX6_cuts_28 rfl ?_
    obtain ⟨r29, S29, hc29, hm⟩ := bndE_ok hm
    refine j_callV F (n := 0) (As := []) (rest := []) (c_X6_listRights l g hg S20 r29 S29 hc29) gw_X6_194 (by decide +kernel) ⟨Nat.le_of_ble_eq_true rfl, Nat.le_of_ble_eq_true rfl⟩ ⟨Nat.le_of_ble_eq_true rfl, Nat.le_of_ble_eq_true rfl⟩ rfl rfl rfl rfl (Nat.le_of_ble_eq_true rfl) dX6_cuts_29 ?_
    show J p l e rmX6_cuts s m args below meth c g A 7 (MQ below (QC g A (some (.int r)) S') args s 0 0 A) 0 0 32 [(0, .ref (g.2.1 13)), (1, .int v1), (2, .int v2), (3, .int v3)] [.int r29] S29
    refine j_istore F (lv' := [(4, .int r29), (0, .ref (g.2.1 13)), (1, .int v1), (2, .int v2), (3, .int v3)]) dX6_cuts_32 (by decide) rfl ?_
    refine j_iconst F (v := 0) dX6_cuts_34 (by decide) ?_
    refine j_istore F (lv' := [(5, .int 0), (4, .int r29), (0, .ref (g.2.1 13)), (1, .int v1), (2, .int v2), (3, .int v3)]) dX6_cuts_35 (by decide) rfl ?_
    refine j_sub [2, 3, 4, 5, 1, 0] rfl ?_
    obtain ⟨e37, hlp37, hm⟩ := Option.bind_eq_some_iff.mp hm
    refine loopO_walk (fun x => m_X6_cuts_L37 v1 v2 v3 r29 x.1 x.2) (fun x => J p l e rmX6_cuts s m args below meth c g A 7 (MQ below (QC g A (some (.int r)) S') args s 0 0 A) 0 0 37 [(0, .ref (g.2.1 13)), (1, .int v1), (2, .int v2), (3, .int v3), (4, .int r29), (5, .int x.1)] [] x.2) (fun z => match z with | .inl x => J p l e rmX6_cuts s m args below meth c g A 7 (MQ below (QC g A (some (.int r)) S') args s 0 0 A) 0 0 82 [(0, .ref (g.2.1 13)), (1, .int v1), (2, .int v2), (3, .int v3), (4, .int r29)] [] x | .inr x => some x = some ((r, S'))) (fun x o1 hm hk1 => ?_) hlp37 ?_
    · obtain ⟨v5, S⟩ := x
      replace hm : m_X6_cuts_L37 v1 v2 v3 r29 v5 S = some o1 := hm
      show J p l e rmX6_cuts s m args below meth c g A 7 (MQ below (QC g A (some (.int r)) S') args s 0 0 A) 0 0 37 [(0, .ref (g.2.1 13)), (1, .int v1), (2, .int v2), (3, .int v3), (4, .int r29), (5, .int v5)] [] S
      unfold m_X6_cuts_L37 at hm
      refine j_iload F 5 dX6_cuts_37 rfl ?_
      refine j_iload F 4 dX6_cuts_39 rfl ?_
      refine j_icmp_ge F (tgt := 82) dX6_cuts_41 (by decide) hm (fun _ hm => ?_) (fun _ hm => ?_)
      · cases hm
        refine j_sub [0, 1, 2, 3, 4] rfl ?_
        exact hk1
      · refine j_aload_n F 0 dX6_cuts_44 rfl ?_
        refine j_iload_n F 1 dX6_cuts_45 rfl ?_
        refine j_iload_n F 2 dX6_cuts_46 rfl ?_
        refine j_iload_n F 3 dX6_cuts_47 rfl ?_
        refine j_aload_n F 0 dX6_cuts_48 rfl ?_
        refine j_getR F (k0 := 17) (C := RX6) (T := TX6) (N := 20) rfl rfl rfl inF6 (by decide) tw533 dX6_cuts_49 ?_
        refine j_iload F 5 dX6_cuts_52 rfl ?_
        refine j_iald F rfl dX6_cuts_54 hm (fun hm => ?_)
        refine j_bipush F (v := -9) dX6_cuts_55 (by decide) ?_
        obtain ⟨r57, S57, hc57, hm⟩ := bndE_ok hm
        refine j_callV F (n := 5) (As := [.int v1, .int v2, .int v3, .int (gA S 27 v5.toNatClampNeg), .int ((-9))]) (rest := []) (c_X6_endsWithout l g hg v1 v2 v3 (gA S 27 v5.toNatClampNeg) ((-9)) S r57 S57 hc57) gw_X6_190 (by decide +kernel) ⟨Nat.le_of_ble_eq_true rfl, Nat.le_of_ble_eq_true rfl⟩ ⟨Nat.le_of_ble_eq_true rfl, Nat.le_of_ble_eq_true rfl⟩ rfl rfl rfl rfl (Nat.le_of_ble_eq_true rfl) dX6_cuts_57 ?_
        show J p l e rmX6_cuts s m args below meth c g A 7 (MQ below (QC g A (some (.int r)) S') args s 0 0 A) 0 0 60 [(0, .ref (g.2.1 13)), (1, .int v1), (2, .int v2), (3, .int v3), (4, .int r29), (5, .int v5)] [.int r57] S57
        refine j_if_ne F (tgt := 76) dX6_cuts_60 (by decide) hm (fun _ hm => ?_) (fun _ hm => ?_)
        · refine j_iinc F (v := v5 + 1) (lv' := [(5, .int (v5 + 1)), (0, .ref (g.2.1 13)), (1, .int v1), (2, .int v2), (3, .int v3), (4, .int r29)]) 5 dX6_cuts_76 rfl rfl (by decide) rfl ?_
          refine j_goto F (tgt := 37) dX6_cuts_79 (by decide) ?_
          cases hm
          refine j_sub [1, 2, 3, 4, 5, 0] rfl ?_
          exact hk1
        · refine j_aload_n F 0 dX6_cuts_63 rfl ?_
          refine j_aload_n F 0 dX6_cuts_64 rfl ?_
          refine j_getR F (k0 := 17) (C := RX6) (T := TX6) (N := 20) rfl rfl rfl inF6 (by decide) tw533 dX6_cuts_65 ?_
          refine j_iload F 5 dX6_cuts_68 rfl ?_
          refine j_iald F rfl dX6_cuts_70 hm (fun hm => ?_)
          refine j_putI F (k0 := 18) (C := RX6) (T := TX6) (N := 20) tyX6 tyX6_ok nmX6 rfl rfl rfl inF6 (by decide) tw696 rfl (by decide +kernel) dX6_cuts_71 ?_
          refine j_bndS hm (fun S71 hm => ?_)
          refine j_iconst F (v := 1) dX6_cuts_74 (by decide) ?_
          cases hm
          have hr1 : some _ = some ((r, S') : Int32 × Hs) := hk1
          exact j_iret_e F rfl dX6_cuts_75 hr1
    · cases e37 with
      | inl y37 =>
        dsimp only [Sum.elim_inl] at hm
        show J p l e rmX6_cuts s m args below meth c g A 7 (MQ below (QC g A (some (.int r)) S') args s 0 0 A) 0 0 82 [(0, .ref (g.2.1 13)), (1, .int v1), (2, .int v2), (3, .int v3), (4, .int r29)] [] y37
        refine j_iconst F (v := 0) dX6_cuts_82 (by decide) ?_
        refine j_istore F (lv' := [(5, .int 0), (0, .ref (g.2.1 13)), (1, .int v1), (2, .int v2), (3, .int v3), (4, .int r29)]) dX6_cuts_83 (by decide) rfl ?_
        refine j_sub [1, 2, 3, 4, 5, 0] rfl ?_
        obtain ⟨e85, hlp85, hm⟩ := Option.bind_eq_some_iff.mp hm
        refine loopO_walk (fun x => m_X6_cuts_L85 v1 v2 v3 r29 x.1 x.2) (fun x => J p l e rmX6_cuts s m args below meth c g A 7 (MQ below (QC g A (some (.int r)) S') args s 0 0 A) 0 0 85 [(0, .ref (g.2.1 13)), (1, .int v1), (2, .int v2), (3, .int v3), (4, .int r29), (5, .int x.1)] [] x.2) (fun z => match z with | .inl x => J p l e rmX6_cuts s m args below meth c g A 7 (MQ below (QC g A (some (.int r)) S') args s 0 0 A) 0 0 165 [] [] x | .inr x => some x = some ((r, S'))) (fun x o1 hm hk1 => ?_) hlp85 ?_
        · obtain ⟨v5, S⟩ := x
          replace hm : m_X6_cuts_L85 v1 v2 v3 r29 v5 S = some o1 := hm
          show J p l e rmX6_cuts s m args below meth c g A 7 (MQ below (QC g A (some (.int r)) S') args s 0 0 A) 0 0 85 [(0, .ref (g.2.1 13)), (1, .int v1), (2, .int v2), (3, .int v3), (4, .int r29), (5, .int v5)] [] S
          unfold m_X6_cuts_L85 at hm
          refine j_iload F 5 dX6_cuts_85 rfl ?_
          refine j_iload F 4 dX6_cuts_87 rfl ?_
          refine j_icmp_ge F (tgt := 165) dX6_cuts_89 (by decide) hm (fun _ hm => ?_) (fun _ hm => ?_)
          · cases hm
            refine j_sub [] rfl ?_
            exact hk1
          · refine j_iload F 5 dX6_cuts_92 rfl ?_
            refine j_iconst F (v := 1) dX6_cuts_94 (by decide) ?_
            refine j_iadd F dX6_cuts_95 ?_
            refine j_bnd hm (fun v6_96 hm => ?_)
            refine j_istore F (lv' := [(6, .int v6_96), (0, .ref (g.2.1 13)), (1, .int v1), (2, .int v2), (3, .int v3), (4, .int r29), (5, .int v5)]) dX6_cuts_96 (by decide) rfl ?_
            refine j_sub [1, 2, 3, 4, 5, 6, 0] rfl ?_
            obtain ⟨e98, hlp98, hm⟩ := Option.bind_eq_some_iff.mp hm
            refine loopO_walk (fun x => m_X6_cuts_L98 v1 v2 v3 r29 v5 x.1 x.2) (fun x => J p l e rmX6_cuts s m args below meth c g A 7 (MQ below (QC g A (some (.int r)) S') args s 0 0 A) 0 0 98 [(0, .ref (g.2.1 13)), (1, .int v1), (2, .int v2), (3, .int v3), (4, .int r29), (5, .int v5), (6, .int x.1)] [] x.2) (fun z => match z with | .inl x => J p l e rmX6_cuts s m args below meth c g A 7 (MQ below (QC g A (some (.int r)) S') args s 0 0 A) 0 0 159 [(0, .ref (g.2.1 13)), (1, .int v1), (2, .int v2), (3, .int v3), (4, .int r29), (5, .int v5)] [] x | .inr x => some (.inr (.inr x)) = some o1) (fun x o2 hm hk2 => ?_) hlp98 ?_
            · obtain ⟨v6, S⟩ := x
              replace hm : m_X6_cuts_L98 v1 v2 v3 r29 v5 v6 S = some o2 := hm
              show J p l e rmX6_cuts s m args below meth c g A 7 (MQ below (QC g A (some (.int r)) S') args s 0 0 A) 0 0 98 [(0, .ref (g.2.1 13)), (1, .int v1), (2, .int v2), (3, .int v3), (4, .int r29), (5, .int v5), (6, .int v6)] [] S
              unfold m_X6_cuts_L98 at hm
              refine j_iload F 6 dX6_cuts_98 rfl ?_
              refine j_iload F 4 dX6_cuts_100 rfl ?_
              refine j_icmp_ge F (tgt := 159) dX6_cuts_102 (by decide) hm (fun _ hm => ?_) (fun _ hm => ?_)
              · cases hm
                refine j_sub [0, 1, 2, 3, 4, 5] rfl ?_
                exact hk2
              · refine j_aload_n F 0 dX6_cuts_105 rfl ?_
                refine j_iload_n F 1 dX6_cuts_106 rfl ?_
                refine j_iload_n F 2 dX6_cuts_107 rfl ?_
                refine j_iload_n F 3 dX6_cuts_108 rfl ?_
                refine j_aload_n F 0 dX6_cuts_109 rfl ?_
                refine j_getR F (k0 := 17) (C := RX6) (T := TX6) (N := 20) rfl rfl rfl inF6 (by decide) tw533 dX6_cuts_110 ?_
                refine j_iload F 5 dX6_cuts_113 rfl ?_
                refine j_iald F rfl dX6_cuts_115 hm (fun hm => ?_)
                refine j_aload_n F 0 dX6_cuts_116 rfl ?_
                refine j_getR F (k0 := 17) (C := RX6) (T := TX6) (N := 20) rfl rfl rfl inF6 (by decide) tw533 dX6_cuts_117 ?_
                refine j_iload F 6 dX6_cuts_120 rfl ?_
                refine j_iald F rfl dX6_cuts_122 hm (fun hm => ?_)
                obtain ⟨r123, S123, hc123, hm⟩ := bndE_ok hm
                refine j_callV F (n := 5) (As := [.int v1, .int v2, .int v3, .int (gA S 27 v5.toNatClampNeg), .int (gA S 27 v6.toNatClampNeg)]) (rest := []) (c_X6_endsWithout l g hg v1 v2 v3 (gA S 27 v5.toNatClampNeg) (gA S 27 v6.toNatClampNeg) S r123 S123 hc123) gw_X6_190 (by decide +kernel) ⟨Nat.le_of_ble_eq_true rfl, Nat.le_of_ble_eq_true rfl⟩ ⟨Nat.le_of_ble_eq_true rfl, Nat.le_of_ble_eq_true rfl⟩ rfl rfl rfl rfl (Nat.le_of_ble_eq_true rfl) dX6_cuts_123 ?_
                show J p l e rmX6_cuts s m args below meth c g A 7 (MQ below (QC g A (some (.int r)) S') args s 0 0 A) 0 0 126 [(0, .ref (g.2.1 13)), (1, .int v1), (2, .int v2), (3, .int v3), (4, .int r29), (5, .int v5), (6, .int v6)] [.int r123] S123
                refine j_if_ne F (tgt := 153) dX6_cuts_126 (by decide) hm (fun _ hm => ?_) (fun _ hm => ?_)
                · refine j_iinc F (v := v6 + 1) (lv' := [(6, .int (v6 + 1)), (0, .ref (g.2.1 13)), (1, .int v1), (2, .int v2), (3, .int v3), (4, .int r29), (5, .int v5)]) 6 dX6_cuts_153 rfl rfl (by decide) rfl ?_
                  refine j_goto F (tgt := 98) dX6_cuts_156 (by decide) ?_
                  cases hm
                  refine j_sub [1, 2, 3, 4, 5, 6, 0] rfl ?_
                  exact hk2
                · refine j_aload_n F 0 dX6_cuts_129 rfl ?_
                  refine j_aload_n F 0 dX6_cuts_130 rfl ?_
                  refine j_getR F (k0 := 17) (C := RX6) (T := TX6) (N := 20) rfl rfl rfl inF6 (by decide) tw533 dX6_cuts_131 ?_
                  refine j_iload F 5 dX6_cuts_134 rfl ?_
                  refine j_iald F rfl dX6_cuts_136 hm (fun hm => ?_)
                  refine j_putI F (k0 := 18) (C := RX6) (T := TX6) (N := 20) tyX6 tyX6_ok nmX6 rfl rfl rfl inF6 (by decide) tw696 rfl (by decide +kernel) dX6_cuts_137 ?_
                  refine j_bndS hm (fun S137 hm => ?_)
                  refine j_aload_n F 0 dX6_cuts_140 rfl ?_
                  refine j_aload_n F 0 dX6_cuts_141 rfl ?_
                  refine j_getR F (k0 := 17) (C := RX6) (T := TX6) (N := 20) rfl rfl rfl inF6 (by decide) tw533 dX6_cuts_142 ?_
                  refine j_iload F 6 dX6_cuts_145 rfl ?_
                  refine j_iald F rfl dX6_cuts_147 hm (fun hm => ?_)
                  refine j_putI F (k0 := 19) (C := RX6) (T := TX6) (N := 20) tyX6 tyX6_ok nmX6 rfl rfl rfl inF6 (by decide) tw697 rfl (by decide +kernel) dX6_cuts_148 ?_
                  refine j_bndS hm (fun S148 hm => ?_)
                  refine j_iconst F (v := 2) dX6_cuts_151 (by decide) ?_
                  cases hm
                  have hr2 : some _ = some (o1 : (Int32 × Hs) ⊕ (Hs ⊕ (Int32 × Hs))) := hk2
                  cases hr2
                  have hr1 : some _ = some ((r, S') : Int32 × Hs) := hk1
                  exact j_iret_e F rfl dX6_cuts_152 hr1
            · cases e98 with
              | inl y98 =>
                dsimp only [Sum.elim_inl] at hm
                show J p l e rmX6_cuts s m args below meth c g A 7 (MQ below (QC g A (some (.int r)) S') args s 0 0 A) 0 0 159 [(0, .ref (g.2.1 13)), (1, .int v1), (2, .int v2), (3, .int v3), (4, .int r29), (5, .int v5)] [] y98
                refine j_iinc F (v := v5 + 1) (lv' := [(5, .int (v5 + 1)), (0, .ref (g.2.1 13)), (1, .int v1), (2, .int v2), (3, .int v3), (4, .int r29)]) 5 dX6_cuts_159 rfl rfl (by decide) rfl ?_
                refine j_goto F (tgt := 85) dX6_cuts_162 (by decide) ?_
                cases hm
                refine j_sub [1, 2, 3, 4, 5, 0] rfl ?_
                exact hk1
              | inr q =>
                exact hm
        · cases e85 with
          | inl y85 =>
            dsimp only [Sum.elim_inl] at hm
            show J p l e rmX6_cuts s m args below meth c g A 7 (MQ below (QC g A (some (.int r)) S') args s 0 0 A) 0 0 165 [] [] y85
            refine j_bipush F (v := -9) dX6_cuts_165 (by decide) ?_
            exact j_iret_e F rfl dX6_cuts_167 hm
          | inr q =>
            exact hm
      | inr q =>
        exact hm
  · refine j_iconst F (v := 0) dX6_cuts_26 (by decide) ?_
    exact j_iret_e F rfl dX6_cuts_27 hm
def m_X6_cut_J29 (w0 : Int32) (S : Hs) : Option (Int32 × Hs) := some ((w0, S))
noncomputable def m_X6_cut (v1 : Int32) (v2 : Int32) (v3 : Int32) (S : Hs) : Option (Int32 × Hs) := (m_X6_whyNotRight v1 v2 v3 S).bind fun r5 => (bnd (sI S 13 0 r5) fun S8 => (if (gI S8 13 0) ≤ 0 then (bndE (m_X6_cuts v1 v2 v3 S8) fun r26 S26 => (m_X6_cut_J29 r26 S26)) else (m_X6_cut_J29 0 S8)))
set_option maxRecDepth 100000 in
set_option maxHeartbeats 4000000 in
theorem c_X6_cut (l : Launch) (g : GG) (hg : Inj g) (v1 : Int32) (v2 : Int32) (v3 : Int32)  (S : Hs) (r : Int32) (S' : Hs) (hm : m_X6_cut v1 v2 v3 S = some ((r, S'))) : CM l yX6_cut [.code yX6_cut cX6_cut 4 (some .int)] rmX6_cut [.ref (g.2.1 13), .int v1, .int v2, .int v3] g S (some (.int r)) S' := by
  unfold m_X6_cut at hm
  refine CM.of (cc := cX6_cut) (nL := 4) (ret := (some .int)) (lv := [(0, .ref (g.2.1 13)), (1, .int v1), (2, .int v2), (3, .int v3)]) (by decide +kernel) hg (Nat.le_of_ble_eq_true rfl) rfl (fun p e s m args below meth c A F => ?_)
  replace F : Fx p s m meth c cX6_cut RX6 4 (some .int) g A := F
  show J p l e rmX6_cut s m args below meth c g A 4 (MQ below (QC g A (some (.int r)) S') args s 0 0 A) 0 0 0 [(0, .ref (g.2.1 13)), (1, .int v1), (2, .int v2), (3, .int v3)] [] S
  have hj29 : ∀ (w0 : Int32) (S : Hs), m_X6_cut_J29 w0 S = some ((r, S')) → J p l e rmX6_cut s m args below meth c g A 4 (MQ below (QC g A (some (.int r)) S') args s 0 0 A) 0 0 29 [] [.int w0] S := by
    intro w0 S hm
    unfold m_X6_cut_J29 at hm
    exact j_iret_e F rfl dX6_cut_29 hm
  refine j_aload_n F 0 dX6_cut_0 rfl ?_
  refine j_aload_n F 0 dX6_cut_1 rfl ?_
  refine j_iload_n F 1 dX6_cut_2 rfl ?_
  refine j_iload_n F 2 dX6_cut_3 rfl ?_
  refine j_iload_n F 3 dX6_cut_4 rfl ?_
  obtain ⟨r5, hc5, hm⟩ := Option.bind_eq_some_iff.mp hm
  refine j_callV F (n := 3) (As := [.int v1, .int v2, .int v3]) (rest := [.ref (g.2.1 13)]) (c_X6_whyNotRight l g hg v1 v2 v3 S r5 hc5) gw_X6_145 (by decide +kernel) ⟨Nat.le_of_ble_eq_true rfl, Nat.le_of_ble_eq_true rfl⟩ ⟨Nat.le_of_ble_eq_true rfl, Nat.le_of_ble_eq_true rfl⟩ rfl rfl rfl rfl (Nat.le_of_ble_eq_true rfl) dX6_cut_5 ?_
  show J p l e rmX6_cut s m args below meth c g A 4 (MQ below (QC g A (some (.int r)) S') args s 0 0 A) 0 0 8 [(0, .ref (g.2.1 13)), (1, .int v1), (2, .int v2), (3, .int v3)] [.int r5, .ref (g.2.1 13)] S
  refine j_putI F (k0 := 0) (C := RX6) (T := TX6) (N := 20) tyX6 tyX6_ok nmX6 rfl rfl rfl inF6 (by decide) tw535 rfl (by decide +kernel) dX6_cut_8 ?_
  refine j_bndS hm (fun S8 hm => ?_)
  refine j_aload_n F 0 dX6_cut_11 rfl ?_
  refine j_getI F (k0 := 0) (C := RX6) (T := TX6) (N := 20) rfl rfl rfl inF6 (by decide) tw535 dX6_cut_12 ?_
  refine j_if_le F (tgt := 22) dX6_cut_15 (by decide) hm (fun _ hm => ?_) (fun _ hm => ?_)
  · refine j_aload_n F 0 dX6_cut_22 rfl ?_
    refine j_iload_n F 1 dX6_cut_23 rfl ?_
    refine j_iload_n F 2 dX6_cut_24 rfl ?_
    refine j_iload_n F 3 dX6_cut_25 rfl ?_
    obtain ⟨r26, S26, hc26, hm⟩ := bndE_ok hm
    refine j_callV F (n := 3) (As := [.int v1, .int v2, .int v3]) (rest := []) (c_X6_cuts l g hg v1 v2 v3 S8 r26 S26 hc26) gw_X6_197 (by decide +kernel) ⟨Nat.le_of_ble_eq_true rfl, Nat.le_of_ble_eq_true rfl⟩ ⟨Nat.le_of_ble_eq_true rfl, Nat.le_of_ble_eq_true rfl⟩ rfl rfl rfl rfl (Nat.le_of_ble_eq_true rfl) dX6_cut_26 ?_
    show J p l e rmX6_cut s m args below meth c g A 4 (MQ below (QC g A (some (.int r)) S') args s 0 0 A) 0 0 29 [(0, .ref (g.2.1 13)), (1, .int v1), (2, .int v2), (3, .int v3)] [.int r26] S26
    refine j_sub [] rfl ?_
    exact hj29 r26 S26  hm
  · refine j_iconst F (v := 0) dX6_cut_18 (by decide) ?_
    refine j_goto F (tgt := 29) dX6_cut_19 (by decide) ?_
    refine j_sub [] rfl ?_
    exact hj29 0 S8  hm
def m_X6_cutAt_J73 (w0 : Int32) (S : Hs) : Option (Int32 × Hs) := some ((w0, S))
noncomputable def m_X6_cutAt_J37 (v1 : Int32) (v2 : Int32) (v3 : Int32) (v4 : Int32) (w0 : Int32) (S : Hs) : Option (Int32 × Hs) := bnd (sI S 13 0 w0) fun S37 => (if (gI S37 13 0) ≤ 0 then (bndE (m_X6_cuts v1 v2 v3 S37) fun r53 S53 => (if v4 = 0 then (m_X6_cutAt_J73 (gI S53 13 18) S53) else (m_X6_cutAt_J73 (gI S53 13 19) S53))) else (some ((0, S37))))
noncomputable def m_X6_cutAt_J33 (v1 : Int32) (v2 : Int32) (v3 : Int32) (v4 : Int32) (S : Hs) : Option (Int32 × Hs) := m_X6_cutAt_J37 v1 v2 v3 v4 (gI S 13 0) S
noncomputable def m_X6_cutAt (v1 : Int32) (v2 : Int32) (v3 : Int32) (v4 : Int32) (S : Hs) : Option (Int32 × Hs) := (m_X6_whyNotRight v1 v2 v3 S).bind fun r5 => (bnd (sI S 13 0 r5) fun S8 => (if (gI S8 13 0) = 0 then ((m_X6_in v4 0 1).bind fun r23 => (if r23 = 0 then (m_X6_cutAt_J37 v1 v2 v3 v4 2 S8) else (m_X6_cutAt_J33 v1 v2 v3 v4 S8))) else (m_X6_cutAt_J33 v1 v2 v3 v4 S8)))
set_option maxRecDepth 100000 in
set_option maxHeartbeats 4000000 in
theorem c_X6_cutAt (l : Launch) (g : GG) (hg : Inj g) (v1 : Int32) (v2 : Int32) (v3 : Int32) (v4 : Int32)  (S : Hs) (r : Int32) (S' : Hs) (hm : m_X6_cutAt v1 v2 v3 v4 S = some ((r, S'))) : CM l yX6_cutAt [.code yX6_cutAt cX6_cutAt 5 (some .int)] rmX6_cutAt [.ref (g.2.1 13), .int v1, .int v2, .int v3, .int v4] g S (some (.int r)) S' := by
  unfold m_X6_cutAt at hm
  refine CM.of (cc := cX6_cutAt) (nL := 5) (ret := (some .int)) (lv := [(0, .ref (g.2.1 13)), (1, .int v1), (2, .int v2), (3, .int v3), (4, .int v4)]) (by decide +kernel) hg (Nat.le_of_ble_eq_true rfl) rfl (fun p e s m args below meth c A F => ?_)
  replace F : Fx p s m meth c cX6_cutAt RX6 5 (some .int) g A := F
  show J p l e rmX6_cutAt s m args below meth c g A 5 (MQ below (QC g A (some (.int r)) S') args s 0 0 A) 0 0 0 [(0, .ref (g.2.1 13)), (1, .int v1), (2, .int v2), (3, .int v3), (4, .int v4)] [] S
  have hj73 : ∀ (w0 : Int32) (S : Hs), m_X6_cutAt_J73 w0 S = some ((r, S')) → J p l e rmX6_cutAt s m args below meth c g A 5 (MQ below (QC g A (some (.int r)) S') args s 0 0 A) 0 0 73 [] [.int w0] S := by
    intro w0 S hm
    unfold m_X6_cutAt_J73 at hm
    exact j_iret_e F rfl dX6_cutAt_73 hm
  have hj37 : ∀ (v1 : Int32) (v2 : Int32) (v3 : Int32) (v4 : Int32) (w0 : Int32) (S : Hs), m_X6_cutAt_J37 v1 v2 v3 v4 w0 S = some ((r, S')) → J p l e rmX6_cutAt s m args below meth c g A 5 (MQ below (QC g A (some (.int r)) S') args s 0 0 A) 0 0 37 [(0, .ref (g.2.1 13)), (1, .int v1), (2, .int v2), (3, .int v3), (4, .int v4)] [.int w0, .ref (g.2.1 13)] S := by
    intro v1 v2 v3 v4 w0 S hm
    unfold m_X6_cutAt_J37 at hm
    refine j_putI F (k0 := 0) (C := RX6) (T := TX6) (N := 20) tyX6 tyX6_ok nmX6 rfl rfl rfl inF6 (by decide) tw535 rfl (by decide +kernel) dX6_cutAt_37 ?_
    refine j_bndS hm (fun S37 hm => ?_)
    refine j_aload_n F 0 dX6_cutAt_40 rfl ?_
    refine j_getI F (k0 := 0) (C := RX6) (T := TX6) (N := 20) rfl rfl rfl inF6 (by decide) tw535 dX6_cutAt_41 ?_
    refine j_if_le F (tgt := 49) dX6_cutAt_44 (by decide) hm (fun _ hm => ?_) (fun _ hm => ?_)
    · refine j_aload_n F 0 dX6_cutAt_49 rfl ?_
      refine j_iload_n F 1 dX6_cutAt_50 rfl ?_
      refine j_iload_n F 2 dX6_cutAt_51 rfl ?_
      refine j_iload_n F 3 dX6_cutAt_52 rfl ?_
      obtain ⟨r53, S53, hc53, hm⟩ := bndE_ok hm
      refine j_callV F (n := 3) (As := [.int v1, .int v2, .int v3]) (rest := []) (c_X6_cuts l g hg v1 v2 v3 S37 r53 S53 hc53) gw_X6_197 (by decide +kernel) ⟨Nat.le_of_ble_eq_true rfl, Nat.le_of_ble_eq_true rfl⟩ ⟨Nat.le_of_ble_eq_true rfl, Nat.le_of_ble_eq_true rfl⟩ rfl rfl rfl rfl (Nat.le_of_ble_eq_true rfl) dX6_cutAt_53 ?_
      show J p l e rmX6_cutAt s m args below meth c g A 5 (MQ below (QC g A (some (.int r)) S') args s 0 0 A) 0 0 56 [(0, .ref (g.2.1 13)), (1, .int v1), (2, .int v2), (3, .int v3), (4, .int v4)] [.int r53] S53
      refine j_pop F dX6_cutAt_56 rfl ?_
      refine j_iload F 4 dX6_cutAt_57 rfl ?_
      refine j_if_ne F (tgt := 69) dX6_cutAt_59 (by decide) hm (fun _ hm => ?_) (fun _ hm => ?_)
      · refine j_aload_n F 0 dX6_cutAt_69 rfl ?_
        refine j_getI F (k0 := 19) (C := RX6) (T := TX6) (N := 20) rfl rfl rfl inF6 (by decide) tw697 dX6_cutAt_70 ?_
        refine j_sub [] rfl ?_
        exact hj73 (gI S53 13 19) S53  hm
      · refine j_aload_n F 0 dX6_cutAt_62 rfl ?_
        refine j_getI F (k0 := 18) (C := RX6) (T := TX6) (N := 20) rfl rfl rfl inF6 (by decide) tw696 dX6_cutAt_63 ?_
        refine j_goto F (tgt := 73) dX6_cutAt_66 (by decide) ?_
        refine j_sub [] rfl ?_
        exact hj73 (gI S53 13 18) S53  hm
    · refine j_iconst F (v := 0) dX6_cutAt_47 (by decide) ?_
      exact j_iret_e F rfl dX6_cutAt_48 hm
  have hj33 : ∀ (v1 : Int32) (v2 : Int32) (v3 : Int32) (v4 : Int32) (S : Hs), m_X6_cutAt_J33 v1 v2 v3 v4 S = some ((r, S')) → J p l e rmX6_cutAt s m args below meth c g A 5 (MQ below (QC g A (some (.int r)) S') args s 0 0 A) 0 0 33 [(0, .ref (g.2.1 13)), (1, .int v1), (2, .int v2), (3, .int v3), (4, .int v4)] [.ref (g.2.1 13)] S := by
    intro v1 v2 v3 v4 S hm
    unfold m_X6_cutAt_J33 at hm
    refine j_aload_n F 0 dX6_cutAt_33 rfl ?_
    refine j_getI F (k0 := 0) (C := RX6) (T := TX6) (N := 20) rfl rfl rfl inF6 (by decide) tw535 dX6_cutAt_34 ?_
    refine j_sub [0, 1, 2, 3, 4] rfl ?_
    exact hj37 v1 v2 v3 v4 (gI S 13 0) S  hm
  refine j_aload_n F 0 dX6_cutAt_0 rfl ?_
  refine j_aload_n F 0 dX6_cutAt_1 rfl ?_
  refine j_iload_n F 1 dX6_cutAt_2 rfl ?_
  refine j_iload_n F 2 dX6_cutAt_3 rfl ?_
  refine j_iload_n F 3 dX6_cutAt_4 rfl ?_
  obtain ⟨r5, hc5, hm⟩ := Option.bind_eq_some_iff.mp hm
  refine j_callV F (n := 3) (As := [.int v1, .int v2, .int v3]) (rest := [.ref (g.2.1 13)]) (c_X6_whyNotRight l g hg v1 v2 v3 S r5 hc5) gw_X6_145 (by decide +kernel) ⟨Nat.le_of_ble_eq_true rfl, Nat.le_of_ble_eq_true rfl⟩ ⟨Nat.le_of_ble_eq_true rfl, Nat.le_of_ble_eq_true rfl⟩ rfl rfl rfl rfl (Nat.le_of_ble_eq_true rfl) dX6_cutAt_5 ?_
  show J p l e rmX6_cutAt s m args below meth c g A 5 (MQ below (QC g A (some (.int r)) S') args s 0 0 A) 0 0 8 [(0, .ref (g.2.1 13)), (1, .int v1), (2, .int v2), (3, .int v3), (4, .int v4)] [.int r5, .ref (g.2.1 13)] S
  refine j_putI F (k0 := 0) (C := RX6) (T := TX6) (N := 20) tyX6 tyX6_ok nmX6 rfl rfl rfl inF6 (by decide) tw535 rfl (by decide +kernel) dX6_cutAt_8 ?_
  refine j_bndS hm (fun S8 hm => ?_)
  refine j_aload_n F 0 dX6_cutAt_11 rfl ?_
  refine j_aload_n F 0 dX6_cutAt_12 rfl ?_
  refine j_getI F (k0 := 0) (C := RX6) (T := TX6) (N := 20) rfl rfl rfl inF6 (by decide) tw535 dX6_cutAt_13 ?_
  refine j_if_ne F (tgt := 33) dX6_cutAt_16 (by decide) hm (fun _ hm => ?_) (fun _ hm => ?_)
  · refine j_sub [0, 1, 2, 3, 4] rfl ?_
    exact hj33 v1 v2 v3 v4 S8  hm
  · refine j_iload F 4 dX6_cutAt_19 rfl ?_
    refine j_iconst F (v := 0) dX6_cutAt_21 (by decide) ?_
    refine j_iconst F (v := 1) dX6_cutAt_22 (by decide) ?_
    obtain ⟨r23, hc23, hm⟩ := Option.bind_eq_some_iff.mp hm
    refine j_callS F (n := 3) (As := [.int v4, .int 0, .int 1]) (rest := [.ref (g.2.1 13)]) (c_X6_in l g hg v4 0 1 S8 r23 hc23) gw_X6_60 (by decide +kernel) ⟨Nat.le_of_ble_eq_true rfl, Nat.le_of_ble_eq_true rfl⟩ ⟨Nat.le_of_ble_eq_true rfl, Nat.le_of_ble_eq_true rfl⟩ rfl rfl (Nat.le_of_ble_eq_true rfl) dX6_cutAt_23 ?_
    show J p l e rmX6_cutAt s m args below meth c g A 5 (MQ below (QC g A (some (.int r)) S') args s 0 0 A) 0 0 26 [(0, .ref (g.2.1 13)), (1, .int v1), (2, .int v2), (3, .int v3), (4, .int v4)] [.int r23, .ref (g.2.1 13)] S8
    refine j_if_ne F (tgt := 33) dX6_cutAt_26 (by decide) hm (fun _ hm => ?_) (fun _ hm => ?_)
    · refine j_sub [0, 1, 2, 3, 4] rfl ?_
      exact hj33 v1 v2 v3 v4 S8  hm
    · refine j_iconst F (v := 2) dX6_cutAt_29 (by decide) ?_
      refine j_goto F (tgt := 37) dX6_cutAt_30 (by decide) ?_
      refine j_sub [0, 1, 2, 3, 4] rfl ?_
      exact hj37 v1 v2 v3 v4 2 S8  hm
def m_X6_sleeper_J74 (v1 : Int32) (v2 : Int32) (v3 : Int32) (v4 : Int32) (S : Hs) : Option ((Int32 × Int32 × Int32 × Hs) ⊕ (Int32 × Hs)) := some (.inl ((v2, v3, v4 + 1, S)))
def m_X6_sleeper_J68 (v1 : Int32) (v4 : Int32) (v5 : Int32) (S : Hs) : Option ((Int32 × Int32 × Int32 × Hs) ⊕ (Int32 × Hs)) := m_X6_sleeper_J74 v1 v4 v5 v4 S
noncomputable def m_X6_sleeper_L18 (v1 : Int32) (v2 : Int32) (v3 : Int32) (v4 : Int32) (S : Hs) : Option ((Int32 × Int32 × Int32 × Hs) ⊕ (Int32 × Hs)) := gd (inb 0 57) (if (gA S 14 (0 : Int32).toNatClampNeg) ≤ v4 then (some (.inr ((v2, S)))) else ((m_X6_isIn v1 v4).bind fun r32 => (if r32 = 0 then (m_X6_sleeper_J74 v1 v2 v3 v4 S) else ((m_X6_spread (v1 &&& ((1 <<< (v4 &&& 31)) ^^^ ((-1)))) S).bind fun S47 => ((m_X6_endMany  S47).bind fun r51 => (if v2 = ((-9)) then (m_X6_sleeper_J68 v1 v4 r51 S47) else (if v3 ≤ r51 then (m_X6_sleeper_J74 v1 v2 v3 v4 S47) else (m_X6_sleeper_J68 v1 v4 r51 S47))))))))
noncomputable def m_X6_sleeper (S : Hs) : Option (Int32 × Hs) := bnd (sI S 13 0 0) fun S2 => ((m_X6_awakeSet  S2).bind fun r6 => ((loopO (fun x => m_X6_sleeper_L18 r6 x.1 x.2.1 x.2.2.1 x.2.2.2) (((-9), 0, 0, S2))).bind fun y18 => some ((y18.1, y18.2))))
set_option maxRecDepth 100000 in
set_option maxHeartbeats 4000000 in
theorem c_X6_sleeper (l : Launch) (g : GG) (hg : Inj g)   (S : Hs) (r : Int32) (S' : Hs) (hm : m_X6_sleeper S = some ((r, S'))) : CM l yX6_sleeper [.code yX6_sleeper cX6_sleeper 6 (some .int)] rmX6_sleeper [.ref (g.2.1 13)] g S (some (.int r)) S' := by
  unfold m_X6_sleeper at hm
  refine CM.of (cc := cX6_sleeper) (nL := 6) (ret := (some .int)) (lv := [(0, .ref (g.2.1 13))]) (by decide +kernel) hg (Nat.le_of_ble_eq_true rfl) rfl (fun p e s m args below meth c A F => ?_)
  replace F : Fx p s m meth c cX6_sleeper RX6 6 (some .int) g A := F
  show J p l e rmX6_sleeper s m args below meth c g A 6 (MQ below (QC g A (some (.int r)) S') args s 0 0 A) 0 0 0 [(0, .ref (g.2.1 13))] [] S
  refine j_aload_n F 0 dX6_sleeper_0 rfl ?_
  refine j_iconst F (v := 0) dX6_sleeper_1 (by decide) ?_
  refine j_putI F (k0 := 0) (C := RX6) (T := TX6) (N := 20) tyX6 tyX6_ok nmX6 rfl rfl rfl inF6 (by decide) tw535 rfl (by decide +kernel) dX6_sleeper_2 ?_
  refine j_bndS hm (fun S2 hm => ?_)
  refine j_aload_n F 0 dX6_sleeper_5 rfl ?_
  obtain ⟨r6, hc6, hm⟩ := Option.bind_eq_some_iff.mp hm
  refine j_callV F (n := 0) (As := []) (rest := []) (c_X6_awakeSet l g hg S2 r6 hc6) gw_X6_125 (by decide +kernel) ⟨Nat.le_of_ble_eq_true rfl, Nat.le_of_ble_eq_true rfl⟩ ⟨Nat.le_of_ble_eq_true rfl, Nat.le_of_ble_eq_true rfl⟩ rfl rfl rfl rfl (Nat.le_of_ble_eq_true rfl) dX6_sleeper_6 ?_
  show J p l e rmX6_sleeper s m args below meth c g A 6 (MQ below (QC g A (some (.int r)) S') args s 0 0 A) 0 0 9 [(0, .ref (g.2.1 13))] [.int r6] S2
  refine j_istore_n F (lv' := [(1, .int r6), (0, .ref (g.2.1 13))]) dX6_sleeper_9 (by decide) rfl ?_
  refine j_bipush F (v := -9) dX6_sleeper_10 (by decide) ?_
  refine j_istore_n F (lv' := [(2, .int ((-9))), (1, .int r6), (0, .ref (g.2.1 13))]) dX6_sleeper_12 (by decide) rfl ?_
  refine j_iconst F (v := 0) dX6_sleeper_13 (by decide) ?_
  refine j_istore_n F (lv' := [(3, .int 0), (2, .int ((-9))), (1, .int r6), (0, .ref (g.2.1 13))]) dX6_sleeper_14 (by decide) rfl ?_
  refine j_iconst F (v := 0) dX6_sleeper_15 (by decide) ?_
  refine j_istore F (lv' := [(4, .int 0), (3, .int 0), (2, .int ((-9))), (1, .int r6), (0, .ref (g.2.1 13))]) dX6_sleeper_16 (by decide) rfl ?_
  refine j_sub [4, 3, 2, 1, 0] rfl ?_
  obtain ⟨y18, hlp18, hm⟩ := Option.bind_eq_some_iff.mp hm
  refine loopO_walk (fun x => m_X6_sleeper_L18 r6 x.1 x.2.1 x.2.2.1 x.2.2.2) (fun x => J p l e rmX6_sleeper s m args below meth c g A 6 (MQ below (QC g A (some (.int r)) S') args s 0 0 A) 0 0 18 [(0, .ref (g.2.1 13)), (1, .int r6), (2, .int x.1), (3, .int x.2.1), (4, .int x.2.2.1)] [] x.2.2.2) (fun x => J p l e rmX6_sleeper s m args below meth c g A 6 (MQ below (QC g A (some (.int r)) S') args s 0 0 A) 0 0 80 [(2, .int x.1)] [] x.2) (fun x o1 hm hk1 => ?_) hlp18 ?_
  · obtain ⟨v2, v3, v4, S⟩ := x
    replace hm : m_X6_sleeper_L18 r6 v2 v3 v4 S = some o1 := hm
    show J p l e rmX6_sleeper s m args below meth c g A 6 (MQ below (QC g A (some (.int r)) S') args s 0 0 A) 0 0 18 [(0, .ref (g.2.1 13)), (1, .int r6), (2, .int v2), (3, .int v3), (4, .int v4)] [] S
    unfold m_X6_sleeper_L18 at hm
    have hj74 : ∀ (v2 : Int32) (v3 : Int32) (v4 : Int32) (S : Hs), m_X6_sleeper_J74 r6 v2 v3 v4 S = some o1 → J p l e rmX6_sleeper s m args below meth c g A 6 (MQ below (QC g A (some (.int r)) S') args s 0 0 A) 0 0 74 [(0, .ref (g.2.1 13)), (1, .int r6), (2, .int v2), (3, .int v3), (4, .int v4)] [] S := by
      intro v2 v3 v4 S hm
      unfold m_X6_sleeper_J74 at hm
      refine j_iinc F (v := v4 + 1) (lv' := [(4, .int (v4 + 1)), (0, .ref (g.2.1 13)), (1, .int r6), (2, .int v2), (3, .int v3)]) 4 dX6_sleeper_74 rfl rfl (by decide) rfl ?_
      refine j_goto F (tgt := 18) dX6_sleeper_77 (by decide) ?_
      cases hm
      refine j_sub [1, 2, 3, 4, 0] rfl ?_
      exact hk1
    have hj68 : ∀ (v4 : Int32) (v5 : Int32) (S : Hs), m_X6_sleeper_J68 r6 v4 v5 S = some o1 → J p l e rmX6_sleeper s m args below meth c g A 6 (MQ below (QC g A (some (.int r)) S') args s 0 0 A) 0 0 68 [(0, .ref (g.2.1 13)), (1, .int r6), (4, .int v4), (5, .int v5)] [] S := by
      intro v4 v5 S hm
      unfold m_X6_sleeper_J68 at hm
      refine j_iload F 2 dX6_sleeper_68 rfl ?_
      refine j_istore_n F (lv' := [(2, .int v4), (0, .ref (g.2.1 13)), (1, .int r6), (4, .int v4), (5, .int v5)]) dX6_sleeper_70 (by decide) rfl ?_
      refine j_iload F 4 dX6_sleeper_71 rfl ?_
      refine j_istore_n F (lv' := [(3, .int v5), (2, .int v4), (0, .ref (g.2.1 13)), (1, .int r6), (4, .int v4), (5, .int v5)]) dX6_sleeper_73 (by decide) rfl ?_
      refine j_sub [2, 3, 1, 0, 4] rfl ?_
      exact hj74 v4 v5 v4 S  hm
    refine j_iload F 4 dX6_sleeper_18 rfl ?_
    refine j_aload_n F 0 dX6_sleeper_20 rfl ?_
    refine j_getR F (k0 := 1) (C := RX6) (T := TX6) (N := 20) rfl rfl rfl inF6 (by decide) tw520 dX6_sleeper_21 ?_
    refine j_iconst F (v := 0) dX6_sleeper_24 (by decide) ?_
    refine j_iald F rfl dX6_sleeper_25 hm (fun hm => ?_)
    refine j_icmp_ge F (tgt := 80) dX6_sleeper_26 (by decide) hm (fun _ hm => ?_) (fun _ hm => ?_)
    · cases hm
      refine j_sub [2] rfl ?_
      exact hk1
    · refine j_iload_n F 1 dX6_sleeper_29 rfl ?_
      refine j_iload F 4 dX6_sleeper_30 rfl ?_
      obtain ⟨r32, hc32, hm⟩ := Option.bind_eq_some_iff.mp hm
      refine j_callS F (n := 2) (As := [.int r6, .int v4]) (rest := []) (c_X6_isIn l g hg r6 v4 S r32 hc32) gw_X6_76 (by decide +kernel) ⟨Nat.le_of_ble_eq_true rfl, Nat.le_of_ble_eq_true rfl⟩ ⟨Nat.le_of_ble_eq_true rfl, Nat.le_of_ble_eq_true rfl⟩ rfl rfl (Nat.le_of_ble_eq_true rfl) dX6_sleeper_32 ?_
      show J p l e rmX6_sleeper s m args below meth c g A 6 (MQ below (QC g A (some (.int r)) S') args s 0 0 A) 0 0 35 [(0, .ref (g.2.1 13)), (1, .int r6), (2, .int v2), (3, .int v3), (4, .int v4)] [.int r32] S
      refine j_if_eq F (tgt := 74) dX6_sleeper_35 (by decide) hm (fun _ hm => ?_) (fun _ hm => ?_)
      · refine j_sub [0, 1, 2, 3, 4] rfl ?_
        exact hj74 v2 v3 v4 S  hm
      · refine j_aload_n F 0 dX6_sleeper_38 rfl ?_
        refine j_iload_n F 1 dX6_sleeper_39 rfl ?_
        refine j_iconst F (v := 1) dX6_sleeper_40 (by decide) ?_
        refine j_iload F 4 dX6_sleeper_41 rfl ?_
        refine j_ishl F dX6_sleeper_43 ?_
        refine j_iconst F (v := -1) dX6_sleeper_44 (by decide) ?_
        refine j_ixor F dX6_sleeper_45 ?_
        refine j_iand F dX6_sleeper_46 ?_
        obtain ⟨S47, hc47, hm⟩ := Option.bind_eq_some_iff.mp hm
        refine j_callV F (n := 1) (As := [.int (r6 &&& ((1 <<< (v4 &&& 31)) ^^^ ((-1))))]) (rest := []) (c_X6_spread l g hg (r6 &&& ((1 <<< (v4 &&& 31)) ^^^ ((-1)))) S S47 hc47) gw_X6_128 (by decide +kernel) ⟨Nat.le_of_ble_eq_true rfl, Nat.le_of_ble_eq_true rfl⟩ ⟨Nat.le_of_ble_eq_true rfl, Nat.le_of_ble_eq_true rfl⟩ rfl rfl rfl rfl (Nat.le_of_ble_eq_true rfl) dX6_sleeper_47 ?_
        show J p l e rmX6_sleeper s m args below meth c g A 6 (MQ below (QC g A (some (.int r)) S') args s 0 0 A) 0 0 50 [(0, .ref (g.2.1 13)), (1, .int r6), (2, .int v2), (3, .int v3), (4, .int v4)] [] S47
        refine j_aload_n F 0 dX6_sleeper_50 rfl ?_
        obtain ⟨r51, hc51, hm⟩ := Option.bind_eq_some_iff.mp hm
        refine j_callV F (n := 0) (As := []) (rest := []) (c_X6_endMany l g hg S47 r51 hc51) gw_X6_135 (by decide +kernel) ⟨Nat.le_of_ble_eq_true rfl, Nat.le_of_ble_eq_true rfl⟩ ⟨Nat.le_of_ble_eq_true rfl, Nat.le_of_ble_eq_true rfl⟩ rfl rfl rfl rfl (Nat.le_of_ble_eq_true rfl) dX6_sleeper_51 ?_
        show J p l e rmX6_sleeper s m args below meth c g A 6 (MQ below (QC g A (some (.int r)) S') args s 0 0 A) 0 0 54 [(0, .ref (g.2.1 13)), (1, .int r6), (2, .int v2), (3, .int v3), (4, .int v4)] [.int r51] S47
        refine j_istore F (lv' := [(5, .int r51), (0, .ref (g.2.1 13)), (1, .int r6), (2, .int v2), (3, .int v3), (4, .int v4)]) dX6_sleeper_54 (by decide) rfl ?_
        refine j_iload_n F 3 dX6_sleeper_56 rfl ?_
        refine j_bipush F (v := -9) dX6_sleeper_57 (by decide) ?_
        refine j_icmp_eq F (tgt := 68) dX6_sleeper_59 (by decide) hm (fun _ hm => ?_) (fun _ hm => ?_)
        · refine j_sub [1, 2, 5, 0] rfl ?_
          exact hj68 v4 r51 S47  hm
        · refine j_iload F 0 dX6_sleeper_62 rfl ?_
          refine j_iload_n F 4 dX6_sleeper_64 rfl ?_
          refine j_icmp_ge F (tgt := 74) dX6_sleeper_65 (by decide) hm (fun _ hm => ?_) (fun _ hm => ?_)
          · refine j_sub [1, 2, 3, 4, 5] rfl ?_
            exact hj74 v2 v3 v4 S47  hm
          · refine j_sub [1, 2, 5, 0] rfl ?_
            exact hj68 v4 r51 S47  hm
  · show J p l e rmX6_sleeper s m args below meth c g A 6 (MQ below (QC g A (some (.int r)) S') args s 0 0 A) 0 0 80 [(2, .int y18.1)] [] y18.2
    refine j_iload_n F 0 dX6_sleeper_80 rfl ?_
    exact j_iret_e F rfl dX6_sleeper_81 hm
def m_X6_danger_J141 (v1 : Int32) (v2 : Int32) (v3 : Int32) (S : Hs) : Option ((Int32 × Int32 × Int32 × Hs) ⊕ (Int32 × Hs)) := some (.inl ((v1, v2, v3 + 1, S)))
def m_X6_danger_J136 (v3 : Int32) (v7 : Int32) (S : Hs) : Option ((Int32 × Int32 × Int32 × Hs) ⊕ (Int32 × Hs)) := m_X6_danger_J141 v3 v7 v3 S
noncomputable def m_X6_danger_L12 (v1 : Int32) (v2 : Int32) (v3 : Int32) (S : Hs) : Option ((Int32 × Int32 × Int32 × Hs) ⊕ (Int32 × Hs)) := if 700 ≤ v3 then (some (.inr ((v1, S)))) else (bnd (v3 / 100) fun v4_23 => (bnd (irm (v3 / 10) 10) fun v5_32 => (bnd (irm v3 10) fun v6_38 => (gd (inb 0 57) (if (gA S 14 (0 : Int32).toNatClampNeg) ≤ v4_23 then (m_X6_danger_J141 v1 v2 v3 S) else (if 4 ≤ v5_32 then (m_X6_danger_J141 v1 v2 v3 S) else (gd (inb 0 57) (if (gA S 14 (0 : Int32).toNatClampNeg) ≤ v6_38 then (m_X6_danger_J141 v1 v2 v3 S) else (if v4_23 = v6_38 then (m_X6_danger_J141 v1 v2 v3 S) else ((m_X6_has v4_23 v5_32 v6_38 S).bind fun r82 => (if r82 = 0 then ((m_X6_put v4_23 v5_32 v6_38 1 S).bind fun S96 => ((m_X6_awakeSet  S96).bind fun r101 => ((m_X6_spread r101 S96).bind fun S104 => ((m_X6_put v4_23 v5_32 v6_38 0 S104).bind fun S115 => ((m_X6_endMany  S115).bind fun r119 => (if v1 = ((-9)) then (m_X6_danger_J136 v3 r119 S115) else (if r119 ≤ v2 then (m_X6_danger_J141 v1 v2 v3 S115) else (m_X6_danger_J136 v3 r119 S115)))))))) else (m_X6_danger_J141 v1 v2 v3 S))))))))))))
noncomputable def m_X6_danger (S : Hs) : Option (Int32 × Hs) := bnd (sI S 13 0 0) fun S2 => ((loopO (fun x => m_X6_danger_L12 x.1 x.2.1 x.2.2.1 x.2.2.2) (((-9), 0, 0, S2))).bind fun y12 => some ((y12.1, y12.2)))
set_option maxRecDepth 100000 in
set_option maxHeartbeats 4000000 in
theorem c_X6_danger (l : Launch) (g : GG) (hg : Inj g)   (S : Hs) (r : Int32) (S' : Hs) (hm : m_X6_danger S = some ((r, S'))) : CM l yX6_danger [.code yX6_danger cX6_danger 8 (some .int)] rmX6_danger [.ref (g.2.1 13)] g S (some (.int r)) S' := by
  unfold m_X6_danger at hm
  refine CM.of (cc := cX6_danger) (nL := 8) (ret := (some .int)) (lv := [(0, .ref (g.2.1 13))]) (by decide +kernel) hg (Nat.le_of_ble_eq_true rfl) rfl (fun p e s m args below meth c A F => ?_)
  replace F : Fx p s m meth c cX6_danger RX6 8 (some .int) g A := F
  show J p l e rmX6_danger s m args below meth c g A 8 (MQ below (QC g A (some (.int r)) S') args s 0 0 A) 0 0 0 [(0, .ref (g.2.1 13))] [] S
  refine j_aload_n F 0 dX6_danger_0 rfl ?_
  refine j_iconst F (v := 0) dX6_danger_1 (by decide) ?_
  refine j_putI F (k0 := 0) (C := RX6) (T := TX6) (N := 20) tyX6 tyX6_ok nmX6 rfl rfl rfl inF6 (by decide) tw535 rfl (by decide +kernel) dX6_danger_2 ?_
  refine j_bndS hm (fun S2 hm => ?_)
  refine j_bipush F (v := -9) dX6_danger_5 (by decide) ?_
  refine j_istore_n F (lv' := [(1, .int ((-9))), (0, .ref (g.2.1 13))]) dX6_danger_7 (by decide) rfl ?_
  refine j_iconst F (v := 0) dX6_danger_8 (by decide) ?_
  refine j_istore_n F (lv' := [(2, .int 0), (1, .int ((-9))), (0, .ref (g.2.1 13))]) dX6_danger_9 (by decide) rfl ?_
  refine j_iconst F (v := 0) dX6_danger_10 (by decide) ?_
  refine j_istore_n F (lv' := [(3, .int 0), (2, .int 0), (1, .int ((-9))), (0, .ref (g.2.1 13))]) dX6_danger_11 (by decide) rfl ?_
  refine j_sub [3, 2, 1, 0] rfl ?_
  obtain ⟨y12, hlp12, hm⟩ := Option.bind_eq_some_iff.mp hm
  refine loopO_walk (fun x => m_X6_danger_L12 x.1 x.2.1 x.2.2.1 x.2.2.2) (fun x => J p l e rmX6_danger s m args below meth c g A 8 (MQ below (QC g A (some (.int r)) S') args s 0 0 A) 0 0 12 [(0, .ref (g.2.1 13)), (1, .int x.1), (2, .int x.2.1), (3, .int x.2.2.1)] [] x.2.2.2) (fun x => J p l e rmX6_danger s m args below meth c g A 8 (MQ below (QC g A (some (.int r)) S') args s 0 0 A) 0 0 147 [(1, .int x.1)] [] x.2) (fun x o1 hm hk1 => ?_) hlp12 ?_
  · obtain ⟨v1, v2, v3, S⟩ := x
    replace hm : m_X6_danger_L12 v1 v2 v3 S = some o1 := hm
    show J p l e rmX6_danger s m args below meth c g A 8 (MQ below (QC g A (some (.int r)) S') args s 0 0 A) 0 0 12 [(0, .ref (g.2.1 13)), (1, .int v1), (2, .int v2), (3, .int v3)] [] S
    unfold m_X6_danger_L12 at hm
    have hj141 : ∀ (v1 : Int32) (v2 : Int32) (v3 : Int32) (S : Hs), m_X6_danger_J141 v1 v2 v3 S = some o1 → J p l e rmX6_danger s m args below meth c g A 8 (MQ below (QC g A (some (.int r)) S') args s 0 0 A) 0 0 141 [(0, .ref (g.2.1 13)), (1, .int v1), (2, .int v2), (3, .int v3)] [] S := by
      intro v1 v2 v3 S hm
      unfold m_X6_danger_J141 at hm
      refine j_iinc F (v := v3 + 1) (lv' := [(3, .int (v3 + 1)), (0, .ref (g.2.1 13)), (1, .int v1), (2, .int v2)]) 3 dX6_danger_141 rfl rfl (by decide) rfl ?_
      refine j_goto F (tgt := 12) dX6_danger_144 (by decide) ?_
      cases hm
      refine j_sub [1, 2, 3, 0] rfl ?_
      exact hk1
    have hj136 : ∀ (v3 : Int32) (v7 : Int32) (S : Hs), m_X6_danger_J136 v3 v7 S = some o1 → J p l e rmX6_danger s m args below meth c g A 8 (MQ below (QC g A (some (.int r)) S') args s 0 0 A) 0 0 136 [(0, .ref (g.2.1 13)), (3, .int v3), (7, .int v7)] [] S := by
      intro v3 v7 S hm
      unfold m_X6_danger_J136 at hm
      refine j_iload_n F 1 dX6_danger_136 rfl ?_
      refine j_istore_n F (lv' := [(1, .int v3), (0, .ref (g.2.1 13)), (3, .int v3), (7, .int v7)]) dX6_danger_137 (by decide) rfl ?_
      refine j_iload F 3 dX6_danger_138 rfl ?_
      refine j_istore_n F (lv' := [(2, .int v7), (1, .int v3), (0, .ref (g.2.1 13)), (3, .int v3), (7, .int v7)]) dX6_danger_140 (by decide) rfl ?_
      refine j_sub [2, 1, 0, 3] rfl ?_
      exact hj141 v3 v7 v3 S  hm
    refine j_iload_n F 3 dX6_danger_12 rfl ?_
    refine j_sipush F (v := 700) dX6_danger_13 (by decide) ?_
    refine j_icmp_ge F (tgt := 147) dX6_danger_16 (by decide) hm (fun _ hm => ?_) (fun _ hm => ?_)
    · cases hm
      refine j_sub [1] rfl ?_
      exact hk1
    · refine j_iload_n F 3 dX6_danger_19 rfl ?_
      refine j_bipush F (v := 100) dX6_danger_20 (by decide) ?_
      refine j_idiv F dX6_danger_22 (by decide) ?_
      refine j_bnd hm (fun v4_23 hm => ?_)
      refine j_istore F (lv' := [(4, .int v4_23), (0, .ref (g.2.1 13)), (1, .int v1), (2, .int v2), (3, .int v3)]) dX6_danger_23 (by decide) rfl ?_
      refine j_iload_n F 4 dX6_danger_25 rfl ?_
      refine j_bipush F (v := 10) dX6_danger_26 (by decide) ?_
      refine j_idiv F dX6_danger_28 (by decide) ?_
      refine j_bipush F (v := 10) dX6_danger_29 (by decide) ?_
      refine j_irem F dX6_danger_31 (by decide) ?_
      refine j_bnd hm (fun v5_32 hm => ?_)
      refine j_istore F (lv' := [(5, .int v5_32), (4, .int v4_23), (0, .ref (g.2.1 13)), (1, .int v1), (2, .int v2), (3, .int v3)]) dX6_danger_32 (by decide) rfl ?_
      refine j_iload_n F 5 dX6_danger_34 rfl ?_
      refine j_bipush F (v := 10) dX6_danger_35 (by decide) ?_
      refine j_irem F dX6_danger_37 (by decide) ?_
      refine j_bnd hm (fun v6_38 hm => ?_)
      refine j_istore F (lv' := [(6, .int v6_38), (5, .int v5_32), (4, .int v4_23), (0, .ref (g.2.1 13)), (1, .int v1), (2, .int v2), (3, .int v3)]) dX6_danger_38 (by decide) rfl ?_
      refine j_iload F 2 dX6_danger_40 rfl ?_
      refine j_aload_n F 3 dX6_danger_42 rfl ?_
      refine j_getR F (k0 := 1) (C := RX6) (T := TX6) (N := 20) rfl rfl rfl inF6 (by decide) tw520 dX6_danger_43 ?_
      refine j_iconst F (v := 0) dX6_danger_46 (by decide) ?_
      refine j_iald F rfl dX6_danger_47 hm (fun hm => ?_)
      refine j_icmp_ge F (tgt := 141) dX6_danger_48 (by decide) hm (fun _ hm => ?_) (fun _ hm => ?_)
      · refine j_sub [3, 4, 5, 6] rfl ?_
        exact hj141 v1 v2 v3 S  hm
      · refine j_iload F 1 dX6_danger_51 rfl ?_
        refine j_iconst F (v := 4) dX6_danger_53 (by decide) ?_
        refine j_icmp_ge F (tgt := 141) dX6_danger_54 (by decide) hm (fun _ hm => ?_) (fun _ hm => ?_)
        · refine j_sub [3, 4, 5, 6] rfl ?_
          exact hj141 v1 v2 v3 S  hm
        · refine j_iload F 0 dX6_danger_57 rfl ?_
          refine j_aload_n F 3 dX6_danger_59 rfl ?_
          refine j_getR F (k0 := 1) (C := RX6) (T := TX6) (N := 20) rfl rfl rfl inF6 (by decide) tw520 dX6_danger_60 ?_
          refine j_iconst F (v := 0) dX6_danger_63 (by decide) ?_
          refine j_iald F rfl dX6_danger_64 hm (fun hm => ?_)
          refine j_icmp_ge F (tgt := 141) dX6_danger_65 (by decide) hm (fun _ hm => ?_) (fun _ hm => ?_)
          · refine j_sub [3, 4, 5, 6] rfl ?_
            exact hj141 v1 v2 v3 S  hm
          · refine j_iload F 2 dX6_danger_68 rfl ?_
            refine j_iload F 0 dX6_danger_70 rfl ?_
            refine j_icmp_eq F (tgt := 141) dX6_danger_72 (by decide) hm (fun _ hm => ?_) (fun _ hm => ?_)
            · refine j_sub [3, 4, 5, 6] rfl ?_
              exact hj141 v1 v2 v3 S  hm
            · refine j_aload_n F 3 dX6_danger_75 rfl ?_
              refine j_iload F 2 dX6_danger_76 rfl ?_
              refine j_iload F 1 dX6_danger_78 rfl ?_
              refine j_iload F 0 dX6_danger_80 rfl ?_
              obtain ⟨r82, hc82, hm⟩ := Option.bind_eq_some_iff.mp hm
              refine j_callV F (n := 3) (As := [.int v4_23, .int v5_32, .int v6_38]) (rest := []) (c_X6_has l g hg v4_23 v5_32 v6_38 S r82 hc82) gw_X6_94 (by decide +kernel) ⟨Nat.le_of_ble_eq_true rfl, Nat.le_of_ble_eq_true rfl⟩ ⟨Nat.le_of_ble_eq_true rfl, Nat.le_of_ble_eq_true rfl⟩ rfl rfl rfl rfl (Nat.le_of_ble_eq_true rfl) dX6_danger_82 ?_
              show J p l e rmX6_danger s m args below meth c g A 8 (MQ below (QC g A (some (.int r)) S') args s 0 0 A) 0 0 85 [(6, .int v6_38), (5, .int v5_32), (4, .int v4_23), (0, .ref (g.2.1 13)), (1, .int v1), (2, .int v2), (3, .int v3)] [.int r82] S
              refine j_if_ne F (tgt := 141) dX6_danger_85 (by decide) hm (fun _ hm => ?_) (fun _ hm => ?_)
              · refine j_sub [3, 4, 5, 6] rfl ?_
                exact hj141 v1 v2 v3 S  hm
              · refine j_aload_n F 3 dX6_danger_88 rfl ?_
                refine j_iload F 2 dX6_danger_89 rfl ?_
                refine j_iload F 1 dX6_danger_91 rfl ?_
                refine j_iload F 0 dX6_danger_93 rfl ?_
                refine j_iconst F (v := 1) dX6_danger_95 (by decide) ?_
                obtain ⟨S96, hc96, hm⟩ := Option.bind_eq_some_iff.mp hm
                refine j_callV F (n := 4) (As := [.int v4_23, .int v5_32, .int v6_38, .int 1]) (rest := []) (c_X6_put l g hg v4_23 v5_32 v6_38 1 S S96 hc96) gw_X6_166 (by decide +kernel) ⟨Nat.le_of_ble_eq_true rfl, Nat.le_of_ble_eq_true rfl⟩ ⟨Nat.le_of_ble_eq_true rfl, Nat.le_of_ble_eq_true rfl⟩ rfl rfl rfl rfl (Nat.le_of_ble_eq_true rfl) dX6_danger_96 ?_
                show J p l e rmX6_danger s m args below meth c g A 8 (MQ below (QC g A (some (.int r)) S') args s 0 0 A) 0 0 99 [(6, .int v6_38), (5, .int v5_32), (4, .int v4_23), (0, .ref (g.2.1 13)), (1, .int v1), (2, .int v2), (3, .int v3)] [] S96
                refine j_aload_n F 3 dX6_danger_99 rfl ?_
                refine j_aload_n F 3 dX6_danger_100 rfl ?_
                obtain ⟨r101, hc101, hm⟩ := Option.bind_eq_some_iff.mp hm
                refine j_callV F (n := 0) (As := []) (rest := [.ref (g.2.1 13)]) (c_X6_awakeSet l g hg S96 r101 hc101) gw_X6_125 (by decide +kernel) ⟨Nat.le_of_ble_eq_true rfl, Nat.le_of_ble_eq_true rfl⟩ ⟨Nat.le_of_ble_eq_true rfl, Nat.le_of_ble_eq_true rfl⟩ rfl rfl rfl rfl (Nat.le_of_ble_eq_true rfl) dX6_danger_101 ?_
                show J p l e rmX6_danger s m args below meth c g A 8 (MQ below (QC g A (some (.int r)) S') args s 0 0 A) 0 0 104 [(6, .int v6_38), (5, .int v5_32), (4, .int v4_23), (0, .ref (g.2.1 13)), (1, .int v1), (2, .int v2), (3, .int v3)] [.int r101, .ref (g.2.1 13)] S96
                obtain ⟨S104, hc104, hm⟩ := Option.bind_eq_some_iff.mp hm
                refine j_callV F (n := 1) (As := [.int r101]) (rest := []) (c_X6_spread l g hg r101 S96 S104 hc104) gw_X6_128 (by decide +kernel) ⟨Nat.le_of_ble_eq_true rfl, Nat.le_of_ble_eq_true rfl⟩ ⟨Nat.le_of_ble_eq_true rfl, Nat.le_of_ble_eq_true rfl⟩ rfl rfl rfl rfl (Nat.le_of_ble_eq_true rfl) dX6_danger_104 ?_
                show J p l e rmX6_danger s m args below meth c g A 8 (MQ below (QC g A (some (.int r)) S') args s 0 0 A) 0 0 107 [(6, .int v6_38), (5, .int v5_32), (4, .int v4_23), (0, .ref (g.2.1 13)), (1, .int v1), (2, .int v2), (3, .int v3)] [] S104
                refine j_aload_n F 3 dX6_danger_107 rfl ?_
                refine j_iload F 2 dX6_danger_108 rfl ?_
                refine j_iload F 1 dX6_danger_110 rfl ?_
                refine j_iload F 0 dX6_danger_112 rfl ?_
                refine j_iconst F (v := 0) dX6_danger_114 (by decide) ?_
                obtain ⟨S115, hc115, hm⟩ := Option.bind_eq_some_iff.mp hm
                refine j_callV F (n := 4) (As := [.int v4_23, .int v5_32, .int v6_38, .int 0]) (rest := []) (c_X6_put l g hg v4_23 v5_32 v6_38 0 S104 S115 hc115) gw_X6_166 (by decide +kernel) ⟨Nat.le_of_ble_eq_true rfl, Nat.le_of_ble_eq_true rfl⟩ ⟨Nat.le_of_ble_eq_true rfl, Nat.le_of_ble_eq_true rfl⟩ rfl rfl rfl rfl (Nat.le_of_ble_eq_true rfl) dX6_danger_115 ?_
                show J p l e rmX6_danger s m args below meth c g A 8 (MQ below (QC g A (some (.int r)) S') args s 0 0 A) 0 0 118 [(6, .int v6_38), (5, .int v5_32), (4, .int v4_23), (0, .ref (g.2.1 13)), (1, .int v1), (2, .int v2), (3, .int v3)] [] S115
                refine j_aload_n F 3 dX6_danger_118 rfl ?_
                obtain ⟨r119, hc119, hm⟩ := Option.bind_eq_some_iff.mp hm
                refine j_callV F (n := 0) (As := []) (rest := []) (c_X6_endMany l g hg S115 r119 hc119) gw_X6_135 (by decide +kernel) ⟨Nat.le_of_ble_eq_true rfl, Nat.le_of_ble_eq_true rfl⟩ ⟨Nat.le_of_ble_eq_true rfl, Nat.le_of_ble_eq_true rfl⟩ rfl rfl rfl rfl (Nat.le_of_ble_eq_true rfl) dX6_danger_119 ?_
                show J p l e rmX6_danger s m args below meth c g A 8 (MQ below (QC g A (some (.int r)) S') args s 0 0 A) 0 0 122 [(6, .int v6_38), (5, .int v5_32), (4, .int v4_23), (0, .ref (g.2.1 13)), (1, .int v1), (2, .int v2), (3, .int v3)] [.int r119] S115
                refine j_istore F (lv' := [(7, .int r119), (6, .int v6_38), (5, .int v5_32), (4, .int v4_23), (0, .ref (g.2.1 13)), (1, .int v1), (2, .int v2), (3, .int v3)]) dX6_danger_122 (by decide) rfl ?_
                refine j_iload_n F 5 dX6_danger_124 rfl ?_
                refine j_bipush F (v := -9) dX6_danger_125 (by decide) ?_
                refine j_icmp_eq F (tgt := 136) dX6_danger_127 (by decide) hm (fun _ hm => ?_) (fun _ hm => ?_)
                · refine j_sub [4, 7, 0] rfl ?_
                  exact hj136 v3 r119 S115  hm
                · refine j_iload F 0 dX6_danger_130 rfl ?_
                  refine j_iload_n F 6 dX6_danger_132 rfl ?_
                  refine j_icmp_le F (tgt := 141) dX6_danger_133 (by decide) hm (fun _ hm => ?_) (fun _ hm => ?_)
                  · refine j_sub [4, 5, 6, 7] rfl ?_
                    exact hj141 v1 v2 v3 S115  hm
                  · refine j_sub [4, 7, 0] rfl ?_
                    exact hj136 v3 r119 S115  hm
  · show J p l e rmX6_danger s m args below meth c g A 8 (MQ below (QC g A (some (.int r)) S') args s 0 0 A) 0 0 147 [(1, .int y12.1)] [] y12.2
    refine j_iload_n F 0 dX6_danger_147 rfl ?_
    exact j_iret_e F rfl dX6_danger_148 hm
def m_X6_changes_J183 (S : Hs) : Option (Int32 × Hs) := some ((0, S))
def m_X6_changes_J139 (S : Hs) : Option (Int32 × Hs) := some ((0, S))
def m_X6_changes_J158 (w0 : Int32) (w1 : Int32) (S : Hs) : Option (Int32 × Hs) := gd (inb w1 57) (bnd (sA S 14 w1.toNatClampNeg w0) fun S158 => (some ((1, S158))))
def m_X6_changes_J88 (S : Hs) : Option (Int32 × Hs) := some ((0, S))
def m_X6_changes_J106 (w0 : Int32) (w1 : Int32) (w2 : Int32) (w3 : Int32) (S : Hs) : Option (Int32 × Hs) := (m_X6_put w3 w2 w1 w0 S).bind fun S106 => (some ((1, S106)))
noncomputable def m_X6_changes_J82 (v2 : Int32) (v3 : Int32) (v4 : Int32) (v5 : Int32) (w0 : Int32) (w1 : Int32) (w2 : Int32) (w3 : Int32) (S : Hs) : Option (Int32 × Hs) := (m_X6_whyNotSet w3 w2 w1 w0 S).bind fun r82 => (if r82 ≤ 0 then (if v5 = 1 then (m_X6_changes_J106 1 v4 v3 v2 S) else (m_X6_changes_J106 0 v4 v3 v2 S)) else (m_X6_changes_J88 S))
def m_X6_changes_J45 (v4 : Int32) (v5 : Int32) (w0 : Int32) (S : Hs) : Option (Int32 × Hs) := (m_X6_put w0 v4 v5 1 S).bind fun S50 => (some ((1, S50)))
noncomputable def m_X6_changes_J15 (v2 : Int32) (v3 : Int32) (v4 : Int32) (v5 : Int32) (w0 : Int32) (S : Hs) : Option (Int32 × Hs) := (m_X6_whyNotDo w0 v2 v3 v4 v5 S).bind fun r26 => (if r26 ≤ 0 then (if w0 = 0 then (m_X6_changes_J45 v4 v5 v2 S) else (m_X6_changes_J45 v4 v5 v3 S)) else (some ((0, S))))
noncomputable def m_X6_changes (v1 : Int32) (v2 : Int32) (v3 : Int32) (v4 : Int32) (v5 : Int32) (S : Hs) : Option (Int32 × Hs) := if 3 ≤ v1 then (if v1 = 3 then (if 1 < v5 then (m_X6_changes_J88 S) else (if v5 = 1 then (m_X6_changes_J82 v2 v3 v4 v5 1 v4 v3 v2 S) else (m_X6_changes_J82 v2 v3 v4 v5 0 v4 v3 v2 S))) else (if v1 = 4 then (if 1 < v3 then (m_X6_changes_J139 S) else (if 0 < v4 then (m_X6_changes_J139 S) else (if 0 < v5 then (m_X6_changes_J139 S) else ((m_X6_whyNotWake v2 S).bind fun r133 => (if r133 ≤ 0 then (if v3 = 1 then (m_X6_changes_J158 1 (1 + v2) S) else (m_X6_changes_J158 2 (1 + v2) S)) else (m_X6_changes_J139 S)))))) else (if 0 < v3 then (m_X6_changes_J183 S) else (if 0 < v4 then (m_X6_changes_J183 S) else (if 0 < v5 then (m_X6_changes_J183 S) else ((m_X6_isThing v2 S).bind fun r177 => (if r177 = 0 then (m_X6_changes_J183 S) else (bndE (m_X6_drop v2 S) fun r187 S187 => (some ((1, S187))))))))))) else (if v1 = 2 then (m_X6_changes_J15 v2 v3 v4 v5 1 S) else (m_X6_changes_J15 v2 v3 v4 v5 0 S))
set_option maxRecDepth 100000 in
set_option maxHeartbeats 4000000 in
theorem c_X6_changes (l : Launch) (g : GG) (hg : Inj g) (v1 : Int32) (v2 : Int32) (v3 : Int32) (v4 : Int32) (v5 : Int32)  (S : Hs) (r : Int32) (S' : Hs) (hm : m_X6_changes v1 v2 v3 v4 v5 S = some ((r, S'))) : CM l yX6_changes [.code yX6_changes cX6_changes 7 (some .boolean)] rmX6_changes [.ref (g.2.1 13), .int v1, .int v2, .int v3, .int v4, .int v5] g S (some (.int r)) S' := by
  unfold m_X6_changes at hm
  refine CM.of (cc := cX6_changes) (nL := 7) (ret := (some .boolean)) (lv := [(0, .ref (g.2.1 13)), (1, .int v1), (2, .int v2), (3, .int v3), (4, .int v4), (5, .int v5)]) (by decide +kernel) hg (Nat.le_of_ble_eq_true rfl) rfl (fun p e s m args below meth c A F => ?_)
  replace F : Fx p s m meth c cX6_changes RX6 7 (some .boolean) g A := F
  show J p l e rmX6_changes s m args below meth c g A 7 (MQ below (QC g A (some (.int r)) S') args s 0 0 A) 0 0 0 [(0, .ref (g.2.1 13)), (1, .int v1), (2, .int v2), (3, .int v3), (4, .int v4), (5, .int v5)] [] S
  have hj183 : ∀ (S : Hs), m_X6_changes_J183 S = some ((r, S')) → J p l e rmX6_changes s m args below meth c g A 7 (MQ below (QC g A (some (.int r)) S') args s 0 0 A) 0 0 183 [] [] S := by
    intro S hm
    unfold m_X6_changes_J183 at hm
    refine j_iconst F (v := 0) dX6_changes_183 (by decide) ?_
    exact j_zret_e F rfl rfl dX6_changes_184 hm
  have hj139 : ∀ (S : Hs), m_X6_changes_J139 S = some ((r, S')) → J p l e rmX6_changes s m args below meth c g A 7 (MQ below (QC g A (some (.int r)) S') args s 0 0 A) 0 0 139 [] [] S := by
    intro S hm
    unfold m_X6_changes_J139 at hm
    refine j_iconst F (v := 0) dX6_changes_139 (by decide) ?_
    exact j_zret_e F rfl rfl dX6_changes_140 hm
  have hj158 : ∀ (w0 : Int32) (w1 : Int32) (S : Hs), m_X6_changes_J158 w0 w1 S = some ((r, S')) → J p l e rmX6_changes s m args below meth c g A 7 (MQ below (QC g A (some (.int r)) S') args s 0 0 A) 0 0 158 [] [.int w0, .int w1, .ref (g.2.1 14)] S := by
    intro w0 w1 S hm
    unfold m_X6_changes_J158 at hm
    refine j_iast F rfl dX6_changes_158 hm (fun hm => ?_)
    refine j_bndS hm (fun S158 hm => ?_)
    refine j_iconst F (v := 1) dX6_changes_159 (by decide) ?_
    exact j_zret_e F rfl rfl dX6_changes_160 hm
  have hj88 : ∀ (S : Hs), m_X6_changes_J88 S = some ((r, S')) → J p l e rmX6_changes s m args below meth c g A 7 (MQ below (QC g A (some (.int r)) S') args s 0 0 A) 0 0 88 [] [] S := by
    intro S hm
    unfold m_X6_changes_J88 at hm
    refine j_iconst F (v := 0) dX6_changes_88 (by decide) ?_
    exact j_zret_e F rfl rfl dX6_changes_89 hm
  have hj106 : ∀ (w0 : Int32) (w1 : Int32) (w2 : Int32) (w3 : Int32) (S : Hs), m_X6_changes_J106 w0 w1 w2 w3 S = some ((r, S')) → J p l e rmX6_changes s m args below meth c g A 7 (MQ below (QC g A (some (.int r)) S') args s 0 0 A) 0 0 106 [] [.int w0, .int w1, .int w2, .int w3, .ref (g.2.1 13)] S := by
    intro w0 w1 w2 w3 S hm
    unfold m_X6_changes_J106 at hm
    obtain ⟨S106, hc106, hm⟩ := Option.bind_eq_some_iff.mp hm
    refine j_callV F (n := 4) (As := [.int w3, .int w2, .int w1, .int w0]) (rest := []) (c_X6_put l g hg w3 w2 w1 w0 S S106 hc106) gw_X6_166 (by decide +kernel) ⟨Nat.le_of_ble_eq_true rfl, Nat.le_of_ble_eq_true rfl⟩ ⟨Nat.le_of_ble_eq_true rfl, Nat.le_of_ble_eq_true rfl⟩ rfl rfl rfl rfl (Nat.le_of_ble_eq_true rfl) dX6_changes_106 ?_
    show J p l e rmX6_changes s m args below meth c g A 7 (MQ below (QC g A (some (.int r)) S') args s 0 0 A) 0 0 109 [] [] S106
    refine j_iconst F (v := 1) dX6_changes_109 (by decide) ?_
    exact j_zret_e F rfl rfl dX6_changes_110 hm
  have hj82 : ∀ (v2 : Int32) (v3 : Int32) (v4 : Int32) (v5 : Int32) (w0 : Int32) (w1 : Int32) (w2 : Int32) (w3 : Int32) (S : Hs), m_X6_changes_J82 v2 v3 v4 v5 w0 w1 w2 w3 S = some ((r, S')) → J p l e rmX6_changes s m args below meth c g A 7 (MQ below (QC g A (some (.int r)) S') args s 0 0 A) 0 0 82 [(0, .ref (g.2.1 13)), (2, .int v2), (3, .int v3), (4, .int v4), (5, .int v5)] [.int w0, .int w1, .int w2, .int w3, .ref (g.2.1 13)] S := by
    intro v2 v3 v4 v5 w0 w1 w2 w3 S hm
    unfold m_X6_changes_J82 at hm
    obtain ⟨r82, hc82, hm⟩ := Option.bind_eq_some_iff.mp hm
    refine j_callV F (n := 4) (As := [.int w3, .int w2, .int w1, .int w0]) (rest := []) (c_X6_whyNotSet l g hg w3 w2 w1 w0 S r82 hc82) gw_X6_162 (by decide +kernel) ⟨Nat.le_of_ble_eq_true rfl, Nat.le_of_ble_eq_true rfl⟩ ⟨Nat.le_of_ble_eq_true rfl, Nat.le_of_ble_eq_true rfl⟩ rfl rfl rfl rfl (Nat.le_of_ble_eq_true rfl) dX6_changes_82 ?_
    show J p l e rmX6_changes s m args below meth c g A 7 (MQ below (QC g A (some (.int r)) S') args s 0 0 A) 0 0 85 [(0, .ref (g.2.1 13)), (2, .int v2), (3, .int v3), (4, .int v4), (5, .int v5)] [.int r82] S
    refine j_if_le F (tgt := 90) dX6_changes_85 (by decide) hm (fun _ hm => ?_) (fun _ hm => ?_)
    · refine j_aload_n F 0 dX6_changes_90 rfl ?_
      refine j_iload_n F 1 dX6_changes_91 rfl ?_
      refine j_iload_n F 2 dX6_changes_92 rfl ?_
      refine j_iload F 3 dX6_changes_93 rfl ?_
      refine j_iload F 4 dX6_changes_95 rfl ?_
      refine j_iconst F (v := 1) dX6_changes_97 (by decide) ?_
      refine j_icmp_ne F (tgt := 105) dX6_changes_98 (by decide) hm (fun _ hm => ?_) (fun _ hm => ?_)
      · refine j_iconst F (v := 0) dX6_changes_105 (by decide) ?_
        refine j_sub [] rfl ?_
        exact hj106 0 v4 v3 v2 S  hm
      · refine j_iconst F (v := 1) dX6_changes_101 (by decide) ?_
        refine j_goto F (tgt := 106) dX6_changes_102 (by decide) ?_
        refine j_sub [] rfl ?_
        exact hj106 1 v4 v3 v2 S  hm
    · refine j_sub [] rfl ?_
      exact hj88 S  hm
  have hj45 : ∀ (v4 : Int32) (v5 : Int32) (w0 : Int32) (S : Hs), m_X6_changes_J45 v4 v5 w0 S = some ((r, S')) → J p l e rmX6_changes s m args below meth c g A 7 (MQ below (QC g A (some (.int r)) S') args s 0 0 A) 0 0 45 [(4, .int v4), (5, .int v5)] [.int w0, .ref (g.2.1 13)] S := by
    intro v4 v5 w0 S hm
    unfold m_X6_changes_J45 at hm
    refine j_iload F 0 dX6_changes_45 rfl ?_
    refine j_iload F 1 dX6_changes_47 rfl ?_
    refine j_iconst F (v := 1) dX6_changes_49 (by decide) ?_
    obtain ⟨S50, hc50, hm⟩ := Option.bind_eq_some_iff.mp hm
    refine j_callV F (n := 4) (As := [.int w0, .int v4, .int v5, .int 1]) (rest := []) (c_X6_put l g hg w0 v4 v5 1 S S50 hc50) gw_X6_166 (by decide +kernel) ⟨Nat.le_of_ble_eq_true rfl, Nat.le_of_ble_eq_true rfl⟩ ⟨Nat.le_of_ble_eq_true rfl, Nat.le_of_ble_eq_true rfl⟩ rfl rfl rfl rfl (Nat.le_of_ble_eq_true rfl) dX6_changes_50 ?_
    show J p l e rmX6_changes s m args below meth c g A 7 (MQ below (QC g A (some (.int r)) S') args s 0 0 A) 0 0 53 [(4, .int v4), (5, .int v5)] [] S50
    refine j_iconst F (v := 1) dX6_changes_53 (by decide) ?_
    exact j_zret_e F rfl rfl dX6_changes_54 hm
  have hj15 : ∀ (v2 : Int32) (v3 : Int32) (v4 : Int32) (v5 : Int32) (w0 : Int32) (S : Hs), m_X6_changes_J15 v2 v3 v4 v5 w0 S = some ((r, S')) → J p l e rmX6_changes s m args below meth c g A 7 (MQ below (QC g A (some (.int r)) S') args s 0 0 A) 0 0 15 [(0, .ref (g.2.1 13)), (2, .int v2), (3, .int v3), (4, .int v4), (5, .int v5)] [.int w0] S := by
    intro v2 v3 v4 v5 w0 S hm
    unfold m_X6_changes_J15 at hm
    refine j_istore F (lv' := [(6, .int w0), (0, .ref (g.2.1 13)), (2, .int v2), (3, .int v3), (4, .int v4), (5, .int v5)]) dX6_changes_15 (by decide) rfl ?_
    refine j_aload_n F 1 dX6_changes_17 rfl ?_
    refine j_iload F 0 dX6_changes_18 rfl ?_
    refine j_iload_n F 2 dX6_changes_20 rfl ?_
    refine j_iload_n F 3 dX6_changes_21 rfl ?_
    refine j_iload F 4 dX6_changes_22 rfl ?_
    refine j_iload F 5 dX6_changes_24 rfl ?_
    obtain ⟨r26, hc26, hm⟩ := Option.bind_eq_some_iff.mp hm
    refine j_callV F (n := 5) (As := [.int w0, .int v2, .int v3, .int v4, .int v5]) (rest := []) (c_X6_whyNotDo l g hg w0 v2 v3 v4 v5 S r26 hc26) gw_X6_177 (by decide +kernel) ⟨Nat.le_of_ble_eq_true rfl, Nat.le_of_ble_eq_true rfl⟩ ⟨Nat.le_of_ble_eq_true rfl, Nat.le_of_ble_eq_true rfl⟩ rfl rfl rfl rfl (Nat.le_of_ble_eq_true rfl) dX6_changes_26 ?_
    show J p l e rmX6_changes s m args below meth c g A 7 (MQ below (QC g A (some (.int r)) S') args s 0 0 A) 0 0 29 [(6, .int w0), (0, .ref (g.2.1 13)), (2, .int v2), (3, .int v3), (4, .int v4), (5, .int v5)] [.int r26] S
    refine j_if_le F (tgt := 34) dX6_changes_29 (by decide) hm (fun _ hm => ?_) (fun _ hm => ?_)
    · refine j_aload_n F 1 dX6_changes_34 rfl ?_
      refine j_iload F 0 dX6_changes_35 rfl ?_
      refine j_if_eq F (tgt := 44) dX6_changes_37 (by decide) hm (fun _ hm => ?_) (fun _ hm => ?_)
      · refine j_iload_n F 2 dX6_changes_44 rfl ?_
        refine j_sub [4, 5] rfl ?_
        exact hj45 v4 v5 v2 S  hm
      · refine j_iload_n F 3 dX6_changes_40 rfl ?_
        refine j_goto F (tgt := 45) dX6_changes_41 (by decide) ?_
        refine j_sub [4, 5] rfl ?_
        exact hj45 v4 v5 v3 S  hm
    · refine j_iconst F (v := 0) dX6_changes_32 (by decide) ?_
      exact j_zret_e F rfl rfl dX6_changes_33 hm
  refine j_iload_n F 1 dX6_changes_0 rfl ?_
  refine j_iconst F (v := 3) dX6_changes_1 (by decide) ?_
  refine j_icmp_ge F (tgt := 55) dX6_changes_2 (by decide) hm (fun _ hm => ?_) (fun _ hm => ?_)
  · refine j_iload_n F 1 dX6_changes_55 rfl ?_
    refine j_iconst F (v := 3) dX6_changes_56 (by decide) ?_
    refine j_icmp_ne F (tgt := 111) dX6_changes_57 (by decide) hm (fun _ hm => ?_) (fun _ hm => ?_)
    · refine j_iload_n F 1 dX6_changes_111 rfl ?_
      refine j_iconst F (v := 4) dX6_changes_112 (by decide) ?_
      refine j_icmp_ne F (tgt := 161) dX6_changes_113 (by decide) hm (fun _ hm => ?_) (fun _ hm => ?_)
      · refine j_iload_n F 3 dX6_changes_161 rfl ?_
        refine j_if_gt F (tgt := 183) dX6_changes_162 (by decide) hm (fun _ hm => ?_) (fun _ hm => ?_)
        · refine j_sub [] rfl ?_
          exact hj183 S  hm
        · refine j_iload F 4 dX6_changes_165 rfl ?_
          refine j_if_gt F (tgt := 183) dX6_changes_167 (by decide) hm (fun _ hm => ?_) (fun _ hm => ?_)
          · refine j_sub [] rfl ?_
            exact hj183 S  hm
          · refine j_iload F 5 dX6_changes_170 rfl ?_
            refine j_if_gt F (tgt := 183) dX6_changes_172 (by decide) hm (fun _ hm => ?_) (fun _ hm => ?_)
            · refine j_sub [] rfl ?_
              exact hj183 S  hm
            · refine j_aload_n F 0 dX6_changes_175 rfl ?_
              refine j_iload_n F 2 dX6_changes_176 rfl ?_
              obtain ⟨r177, hc177, hm⟩ := Option.bind_eq_some_iff.mp hm
              refine j_callV F (n := 1) (As := [.int v2]) (rest := []) (c_X6_isThing l g hg v2 S r177 hc177) gw_X6_142 (by decide +kernel) ⟨Nat.le_of_ble_eq_true rfl, Nat.le_of_ble_eq_true rfl⟩ ⟨Nat.le_of_ble_eq_true rfl, Nat.le_of_ble_eq_true rfl⟩ rfl rfl rfl rfl (Nat.le_of_ble_eq_true rfl) dX6_changes_177 ?_
              show J p l e rmX6_changes s m args below meth c g A 7 (MQ below (QC g A (some (.int r)) S') args s 0 0 A) 0 0 180 [(0, .ref (g.2.1 13)), (1, .int v1), (2, .int v2), (3, .int v3), (4, .int v4), (5, .int v5)] [.int r177] S
              refine j_if_ne F (tgt := 185) dX6_changes_180 (by decide) hm (fun _ hm => ?_) (fun _ hm => ?_)
              · refine j_aload_n F 0 dX6_changes_185 rfl ?_
                refine j_iload_n F 2 dX6_changes_186 rfl ?_
                obtain ⟨r187, S187, hc187, hm⟩ := bndE_ok hm
                refine j_callV F (n := 1) (As := [.int v2]) (rest := []) (c_X6_drop l g hg v2 S r187 S187 hc187) gw_X6_156 (by decide +kernel) ⟨Nat.le_of_ble_eq_true rfl, Nat.le_of_ble_eq_true rfl⟩ ⟨Nat.le_of_ble_eq_true rfl, Nat.le_of_ble_eq_true rfl⟩ rfl rfl rfl rfl (Nat.le_of_ble_eq_true rfl) dX6_changes_187 ?_
                show J p l e rmX6_changes s m args below meth c g A 7 (MQ below (QC g A (some (.int r)) S') args s 0 0 A) 0 0 190 [(0, .ref (g.2.1 13)), (1, .int v1), (2, .int v2), (3, .int v3), (4, .int v4), (5, .int v5)] [.int r187] S187
                refine j_pop F dX6_changes_190 rfl ?_
                refine j_iconst F (v := 1) dX6_changes_191 (by decide) ?_
                exact j_zret_e F rfl rfl dX6_changes_192 hm
              · refine j_sub [] rfl ?_
                exact hj183 S  hm
      · refine j_iload_n F 3 dX6_changes_116 rfl ?_
        refine j_iconst F (v := 1) dX6_changes_117 (by decide) ?_
        refine j_icmp_gt F (tgt := 139) dX6_changes_118 (by decide) hm (fun _ hm => ?_) (fun _ hm => ?_)
        · refine j_sub [] rfl ?_
          exact hj139 S  hm
        · refine j_iload F 4 dX6_changes_121 rfl ?_
          refine j_if_gt F (tgt := 139) dX6_changes_123 (by decide) hm (fun _ hm => ?_) (fun _ hm => ?_)
          · refine j_sub [] rfl ?_
            exact hj139 S  hm
          · refine j_iload F 5 dX6_changes_126 rfl ?_
            refine j_if_gt F (tgt := 139) dX6_changes_128 (by decide) hm (fun _ hm => ?_) (fun _ hm => ?_)
            · refine j_sub [] rfl ?_
              exact hj139 S  hm
            · refine j_aload_n F 0 dX6_changes_131 rfl ?_
              refine j_iload_n F 2 dX6_changes_132 rfl ?_
              obtain ⟨r133, hc133, hm⟩ := Option.bind_eq_some_iff.mp hm
              refine j_callV F (n := 1) (As := [.int v2]) (rest := []) (c_X6_whyNotWake l g hg v2 S r133 hc133) gw_X6_159 (by decide +kernel) ⟨Nat.le_of_ble_eq_true rfl, Nat.le_of_ble_eq_true rfl⟩ ⟨Nat.le_of_ble_eq_true rfl, Nat.le_of_ble_eq_true rfl⟩ rfl rfl rfl rfl (Nat.le_of_ble_eq_true rfl) dX6_changes_133 ?_
              show J p l e rmX6_changes s m args below meth c g A 7 (MQ below (QC g A (some (.int r)) S') args s 0 0 A) 0 0 136 [(0, .ref (g.2.1 13)), (1, .int v1), (2, .int v2), (3, .int v3), (4, .int v4), (5, .int v5)] [.int r133] S
              refine j_if_le F (tgt := 141) dX6_changes_136 (by decide) hm (fun _ hm => ?_) (fun _ hm => ?_)
              · refine j_aload_n F 0 dX6_changes_141 rfl ?_
                refine j_getR F (k0 := 1) (C := RX6) (T := TX6) (N := 20) rfl rfl rfl inF6 (by decide) tw520 dX6_changes_142 ?_
                refine j_iconst F (v := 1) dX6_changes_145 (by decide) ?_
                refine j_iload_n F 2 dX6_changes_146 rfl ?_
                refine j_iadd F dX6_changes_147 ?_
                refine j_iload_n F 3 dX6_changes_148 rfl ?_
                refine j_iconst F (v := 1) dX6_changes_149 (by decide) ?_
                refine j_icmp_ne F (tgt := 157) dX6_changes_150 (by decide) hm (fun _ hm => ?_) (fun _ hm => ?_)
                · refine j_iconst F (v := 2) dX6_changes_157 (by decide) ?_
                  refine j_sub [] rfl ?_
                  exact hj158 2 (1 + v2) S  hm
                · refine j_iconst F (v := 1) dX6_changes_153 (by decide) ?_
                  refine j_goto F (tgt := 158) dX6_changes_154 (by decide) ?_
                  refine j_sub [] rfl ?_
                  exact hj158 1 (1 + v2) S  hm
              · refine j_sub [] rfl ?_
                exact hj139 S  hm
    · refine j_iload F 5 dX6_changes_60 rfl ?_
      refine j_iconst F (v := 1) dX6_changes_62 (by decide) ?_
      refine j_icmp_gt F (tgt := 88) dX6_changes_63 (by decide) hm (fun _ hm => ?_) (fun _ hm => ?_)
      · refine j_sub [] rfl ?_
        exact hj88 S  hm
      · refine j_aload_n F 0 dX6_changes_66 rfl ?_
        refine j_iload_n F 2 dX6_changes_67 rfl ?_
        refine j_iload_n F 3 dX6_changes_68 rfl ?_
        refine j_iload F 4 dX6_changes_69 rfl ?_
        refine j_iload F 5 dX6_changes_71 rfl ?_
        refine j_iconst F (v := 1) dX6_changes_73 (by decide) ?_
        refine j_icmp_ne F (tgt := 81) dX6_changes_74 (by decide) hm (fun _ hm => ?_) (fun _ hm => ?_)
        · refine j_iconst F (v := 0) dX6_changes_81 (by decide) ?_
          refine j_sub [0, 2, 3, 4, 5] rfl ?_
          exact hj82 v2 v3 v4 v5 0 v4 v3 v2 S  hm
        · refine j_iconst F (v := 1) dX6_changes_77 (by decide) ?_
          refine j_goto F (tgt := 82) dX6_changes_78 (by decide) ?_
          refine j_sub [0, 2, 3, 4, 5] rfl ?_
          exact hj82 v2 v3 v4 v5 1 v4 v3 v2 S  hm
  · refine j_iload_n F 1 dX6_changes_5 rfl ?_
    refine j_iconst F (v := 2) dX6_changes_6 (by decide) ?_
    refine j_icmp_ne F (tgt := 14) dX6_changes_7 (by decide) hm (fun _ hm => ?_) (fun _ hm => ?_)
    · refine j_iconst F (v := 0) dX6_changes_14 (by decide) ?_
      refine j_sub [0, 2, 3, 4, 5] rfl ?_
      exact hj15 v2 v3 v4 v5 0 S  hm
    · refine j_iconst F (v := 1) dX6_changes_10 (by decide) ?_
      refine j_goto F (tgt := 15) dX6_changes_11 (by decide) ?_
      refine j_sub [0, 2, 3, 4, 5] rfl ?_
      exact hj15 v2 v3 v4 v5 1 S  hm
def m_X6_asks_J115 (S : Hs) : Option (Int32 × Hs) := some ((0, S))
def m_X6_asks_J142 (w0 : Int32) (S : Hs) : Option (Int32 × Hs) := gd (decide (w0 = 0 ∨ w0 = 1)) (some ((w0, S)))
def m_X6_asks_J81 (S : Hs) : Option (Int32 × Hs) := some ((0, S))
def m_X6_asks_J43 (w0 : Int32) (S : Hs) : Option (Int32 × Hs) := gd (decide (w0 = 0 ∨ w0 = 1)) (some ((w0, S)))
def m_X6_asks_J42 (S : Hs) : Option (Int32 × Hs) := m_X6_asks_J43 0 S
noncomputable def m_X6_asks (v1 : Int32) (v2 : Int32) (v3 : Int32) (v4 : Int32) (v5 : Int32) (S : Hs) : Option (Int32 × Hs) := (m_X6_awakeSet  S).bind fun r2 => ((m_X6_spread r2 S).bind fun S5 => (if v1 = 8 then (if v2 = 0 then ((m_X6_endMany  S5).bind fun r19 => (if (((100 * v3) + (10 * v4)) + v5) < r19 then (m_X6_asks_J42 S5) else (m_X6_asks_J43 1 S5))) else (m_X6_asks_J42 S5)) else (if v1 = 9 then (if 0 < v4 then (m_X6_asks_J81 S5) else (if 0 < v5 then (m_X6_asks_J81 S5) else ((m_X6_isThing v2 S5).bind fun r62 => (if r62 = 0 then (m_X6_asks_J81 S5) else ((m_X6_isThing v3 S5).bind fun r70 => (if r70 = 0 then (m_X6_asks_J81 S5) else (if v2 = v3 then (m_X6_asks_J81 S5) else ((m_X6_learn 0 S5).bind fun S85 => (gd (inb v2 7) ((m_X6_isIn (gA S85 24 v2.toNatClampNeg) v3).bind fun r95 => (gd (decide (r95 = 0 ∨ r95 = 1)) (some ((r95, S85)))))))))))))) else (if 0 < v5 then (m_X6_asks_J115 S5) else ((m_X6_whyNotRight v2 v3 v4 S5).bind fun r109 => (if r109 ≤ 0 then (if v1 = 6 then ((m_X6_has v2 v3 v4 S5).bind fun r128 => (m_X6_asks_J142 r128 S5)) else ((m_X6_ends v2 v3 v4 S5).bind fun r139 => (m_X6_asks_J142 r139 S5))) else (m_X6_asks_J115 S5)))))))
set_option maxRecDepth 100000 in
set_option maxHeartbeats 4000000 in
theorem c_X6_asks (l : Launch) (g : GG) (hg : Inj g) (v1 : Int32) (v2 : Int32) (v3 : Int32) (v4 : Int32) (v5 : Int32)  (S : Hs) (r : Int32) (S' : Hs) (hm : m_X6_asks v1 v2 v3 v4 v5 S = some ((r, S'))) : CM l yX6_asks [.code yX6_asks cX6_asks 6 (some .boolean)] rmX6_asks [.ref (g.2.1 13), .int v1, .int v2, .int v3, .int v4, .int v5] g S (some (.int r)) S' := by
  unfold m_X6_asks at hm
  refine CM.of (cc := cX6_asks) (nL := 6) (ret := (some .boolean)) (lv := [(0, .ref (g.2.1 13)), (1, .int v1), (2, .int v2), (3, .int v3), (4, .int v4), (5, .int v5)]) (by decide +kernel) hg (Nat.le_of_ble_eq_true rfl) rfl (fun p e s m args below meth c A F => ?_)
  replace F : Fx p s m meth c cX6_asks RX6 6 (some .boolean) g A := F
  show J p l e rmX6_asks s m args below meth c g A 6 (MQ below (QC g A (some (.int r)) S') args s 0 0 A) 0 0 0 [(0, .ref (g.2.1 13)), (1, .int v1), (2, .int v2), (3, .int v3), (4, .int v4), (5, .int v5)] [] S
  have hj115 : ∀ (S : Hs), m_X6_asks_J115 S = some ((r, S')) → J p l e rmX6_asks s m args below meth c g A 6 (MQ below (QC g A (some (.int r)) S') args s 0 0 A) 0 0 115 [] [] S := by
    intro S hm
    unfold m_X6_asks_J115 at hm
    refine j_iconst F (v := 0) dX6_asks_115 (by decide) ?_
    exact j_zret_e F rfl rfl dX6_asks_116 hm
  have hj142 : ∀ (w0 : Int32) (S : Hs), m_X6_asks_J142 w0 S = some ((r, S')) → J p l e rmX6_asks s m args below meth c g A 6 (MQ below (QC g A (some (.int r)) S') args s 0 0 A) 0 0 142 [] [.int w0] S := by
    intro w0 S hm
    unfold m_X6_asks_J142 at hm
    obtain ⟨hb, hm⟩ := gd_ok hm
    exact j_zret_e F rfl (z_nar hb) dX6_asks_142 hm
  have hj81 : ∀ (S : Hs), m_X6_asks_J81 S = some ((r, S')) → J p l e rmX6_asks s m args below meth c g A 6 (MQ below (QC g A (some (.int r)) S') args s 0 0 A) 0 0 81 [] [] S := by
    intro S hm
    unfold m_X6_asks_J81 at hm
    refine j_iconst F (v := 0) dX6_asks_81 (by decide) ?_
    exact j_zret_e F rfl rfl dX6_asks_82 hm
  have hj43 : ∀ (w0 : Int32) (S : Hs), m_X6_asks_J43 w0 S = some ((r, S')) → J p l e rmX6_asks s m args below meth c g A 6 (MQ below (QC g A (some (.int r)) S') args s 0 0 A) 0 0 43 [] [.int w0] S := by
    intro w0 S hm
    unfold m_X6_asks_J43 at hm
    obtain ⟨hb, hm⟩ := gd_ok hm
    exact j_zret_e F rfl (z_nar hb) dX6_asks_43 hm
  have hj42 : ∀ (S : Hs), m_X6_asks_J42 S = some ((r, S')) → J p l e rmX6_asks s m args below meth c g A 6 (MQ below (QC g A (some (.int r)) S') args s 0 0 A) 0 0 42 [] [] S := by
    intro S hm
    unfold m_X6_asks_J42 at hm
    refine j_iconst F (v := 0) dX6_asks_42 (by decide) ?_
    refine j_sub [] rfl ?_
    exact hj43 0 S  hm
  refine j_aload_n F 0 dX6_asks_0 rfl ?_
  refine j_aload_n F 0 dX6_asks_1 rfl ?_
  obtain ⟨r2, hc2, hm⟩ := Option.bind_eq_some_iff.mp hm
  refine j_callV F (n := 0) (As := []) (rest := [.ref (g.2.1 13)]) (c_X6_awakeSet l g hg S r2 hc2) gw_X6_125 (by decide +kernel) ⟨Nat.le_of_ble_eq_true rfl, Nat.le_of_ble_eq_true rfl⟩ ⟨Nat.le_of_ble_eq_true rfl, Nat.le_of_ble_eq_true rfl⟩ rfl rfl rfl rfl (Nat.le_of_ble_eq_true rfl) dX6_asks_2 ?_
  show J p l e rmX6_asks s m args below meth c g A 6 (MQ below (QC g A (some (.int r)) S') args s 0 0 A) 0 0 5 [(0, .ref (g.2.1 13)), (1, .int v1), (2, .int v2), (3, .int v3), (4, .int v4), (5, .int v5)] [.int r2, .ref (g.2.1 13)] S
  obtain ⟨S5, hc5, hm⟩ := Option.bind_eq_some_iff.mp hm
  refine j_callV F (n := 1) (As := [.int r2]) (rest := []) (c_X6_spread l g hg r2 S S5 hc5) gw_X6_128 (by decide +kernel) ⟨Nat.le_of_ble_eq_true rfl, Nat.le_of_ble_eq_true rfl⟩ ⟨Nat.le_of_ble_eq_true rfl, Nat.le_of_ble_eq_true rfl⟩ rfl rfl rfl rfl (Nat.le_of_ble_eq_true rfl) dX6_asks_5 ?_
  show J p l e rmX6_asks s m args below meth c g A 6 (MQ below (QC g A (some (.int r)) S') args s 0 0 A) 0 0 8 [(0, .ref (g.2.1 13)), (1, .int v1), (2, .int v2), (3, .int v3), (4, .int v4), (5, .int v5)] [] S5
  refine j_iload_n F 1 dX6_asks_8 rfl ?_
  refine j_bipush F (v := 8) dX6_asks_9 (by decide) ?_
  refine j_icmp_ne F (tgt := 44) dX6_asks_11 (by decide) hm (fun _ hm => ?_) (fun _ hm => ?_)
  · refine j_iload_n F 1 dX6_asks_44 rfl ?_
    refine j_bipush F (v := 9) dX6_asks_45 (by decide) ?_
    refine j_icmp_ne F (tgt := 99) dX6_asks_47 (by decide) hm (fun _ hm => ?_) (fun _ hm => ?_)
    · refine j_iload F 5 dX6_asks_99 rfl ?_
      refine j_if_gt F (tgt := 115) dX6_asks_101 (by decide) hm (fun _ hm => ?_) (fun _ hm => ?_)
      · refine j_sub [] rfl ?_
        exact hj115 S5  hm
      · refine j_aload_n F 0 dX6_asks_104 rfl ?_
        refine j_iload_n F 2 dX6_asks_105 rfl ?_
        refine j_iload_n F 3 dX6_asks_106 rfl ?_
        refine j_iload F 4 dX6_asks_107 rfl ?_
        obtain ⟨r109, hc109, hm⟩ := Option.bind_eq_some_iff.mp hm
        refine j_callV F (n := 3) (As := [.int v2, .int v3, .int v4]) (rest := []) (c_X6_whyNotRight l g hg v2 v3 v4 S5 r109 hc109) gw_X6_145 (by decide +kernel) ⟨Nat.le_of_ble_eq_true rfl, Nat.le_of_ble_eq_true rfl⟩ ⟨Nat.le_of_ble_eq_true rfl, Nat.le_of_ble_eq_true rfl⟩ rfl rfl rfl rfl (Nat.le_of_ble_eq_true rfl) dX6_asks_109 ?_
        show J p l e rmX6_asks s m args below meth c g A 6 (MQ below (QC g A (some (.int r)) S') args s 0 0 A) 0 0 112 [(0, .ref (g.2.1 13)), (1, .int v1), (2, .int v2), (3, .int v3), (4, .int v4), (5, .int v5)] [.int r109] S5
        refine j_if_le F (tgt := 117) dX6_asks_112 (by decide) hm (fun _ hm => ?_) (fun _ hm => ?_)
        · refine j_iload_n F 1 dX6_asks_117 rfl ?_
          refine j_bipush F (v := 6) dX6_asks_118 (by decide) ?_
          refine j_icmp_ne F (tgt := 134) dX6_asks_120 (by decide) hm (fun _ hm => ?_) (fun _ hm => ?_)
          · refine j_aload_n F 0 dX6_asks_134 rfl ?_
            refine j_iload_n F 2 dX6_asks_135 rfl ?_
            refine j_iload_n F 3 dX6_asks_136 rfl ?_
            refine j_iload F 4 dX6_asks_137 rfl ?_
            obtain ⟨r139, hc139, hm⟩ := Option.bind_eq_some_iff.mp hm
            refine j_callV F (n := 3) (As := [.int v2, .int v3, .int v4]) (rest := []) (c_X6_ends l g hg v2 v3 v4 S5 r139 hc139) gw_X6_80 (by decide +kernel) ⟨Nat.le_of_ble_eq_true rfl, Nat.le_of_ble_eq_true rfl⟩ ⟨Nat.le_of_ble_eq_true rfl, Nat.le_of_ble_eq_true rfl⟩ rfl rfl rfl rfl (Nat.le_of_ble_eq_true rfl) dX6_asks_139 ?_
            show J p l e rmX6_asks s m args below meth c g A 6 (MQ below (QC g A (some (.int r)) S') args s 0 0 A) 0 0 142 [(0, .ref (g.2.1 13)), (1, .int v1), (2, .int v2), (3, .int v3), (4, .int v4), (5, .int v5)] [.int r139] S5
            refine j_sub [] rfl ?_
            exact hj142 r139 S5  hm
          · refine j_aload_n F 0 dX6_asks_123 rfl ?_
            refine j_iload_n F 2 dX6_asks_124 rfl ?_
            refine j_iload_n F 3 dX6_asks_125 rfl ?_
            refine j_iload F 4 dX6_asks_126 rfl ?_
            obtain ⟨r128, hc128, hm⟩ := Option.bind_eq_some_iff.mp hm
            refine j_callV F (n := 3) (As := [.int v2, .int v3, .int v4]) (rest := []) (c_X6_has l g hg v2 v3 v4 S5 r128 hc128) gw_X6_94 (by decide +kernel) ⟨Nat.le_of_ble_eq_true rfl, Nat.le_of_ble_eq_true rfl⟩ ⟨Nat.le_of_ble_eq_true rfl, Nat.le_of_ble_eq_true rfl⟩ rfl rfl rfl rfl (Nat.le_of_ble_eq_true rfl) dX6_asks_128 ?_
            show J p l e rmX6_asks s m args below meth c g A 6 (MQ below (QC g A (some (.int r)) S') args s 0 0 A) 0 0 131 [(0, .ref (g.2.1 13)), (1, .int v1), (2, .int v2), (3, .int v3), (4, .int v4), (5, .int v5)] [.int r128] S5
            refine j_goto F (tgt := 142) dX6_asks_131 (by decide) ?_
            refine j_sub [] rfl ?_
            exact hj142 r128 S5  hm
        · refine j_sub [] rfl ?_
          exact hj115 S5  hm
    · refine j_iload F 4 dX6_asks_50 rfl ?_
      refine j_if_gt F (tgt := 81) dX6_asks_52 (by decide) hm (fun _ hm => ?_) (fun _ hm => ?_)
      · refine j_sub [] rfl ?_
        exact hj81 S5  hm
      · refine j_iload F 5 dX6_asks_55 rfl ?_
        refine j_if_gt F (tgt := 81) dX6_asks_57 (by decide) hm (fun _ hm => ?_) (fun _ hm => ?_)
        · refine j_sub [] rfl ?_
          exact hj81 S5  hm
        · refine j_aload_n F 0 dX6_asks_60 rfl ?_
          refine j_iload_n F 2 dX6_asks_61 rfl ?_
          obtain ⟨r62, hc62, hm⟩ := Option.bind_eq_some_iff.mp hm
          refine j_callV F (n := 1) (As := [.int v2]) (rest := []) (c_X6_isThing l g hg v2 S5 r62 hc62) gw_X6_142 (by decide +kernel) ⟨Nat.le_of_ble_eq_true rfl, Nat.le_of_ble_eq_true rfl⟩ ⟨Nat.le_of_ble_eq_true rfl, Nat.le_of_ble_eq_true rfl⟩ rfl rfl rfl rfl (Nat.le_of_ble_eq_true rfl) dX6_asks_62 ?_
          show J p l e rmX6_asks s m args below meth c g A 6 (MQ below (QC g A (some (.int r)) S') args s 0 0 A) 0 0 65 [(0, .ref (g.2.1 13)), (1, .int v1), (2, .int v2), (3, .int v3), (4, .int v4), (5, .int v5)] [.int r62] S5
          refine j_if_eq F (tgt := 81) dX6_asks_65 (by decide) hm (fun _ hm => ?_) (fun _ hm => ?_)
          · refine j_sub [] rfl ?_
            exact hj81 S5  hm
          · refine j_aload_n F 0 dX6_asks_68 rfl ?_
            refine j_iload_n F 3 dX6_asks_69 rfl ?_
            obtain ⟨r70, hc70, hm⟩ := Option.bind_eq_some_iff.mp hm
            refine j_callV F (n := 1) (As := [.int v3]) (rest := []) (c_X6_isThing l g hg v3 S5 r70 hc70) gw_X6_142 (by decide +kernel) ⟨Nat.le_of_ble_eq_true rfl, Nat.le_of_ble_eq_true rfl⟩ ⟨Nat.le_of_ble_eq_true rfl, Nat.le_of_ble_eq_true rfl⟩ rfl rfl rfl rfl (Nat.le_of_ble_eq_true rfl) dX6_asks_70 ?_
            show J p l e rmX6_asks s m args below meth c g A 6 (MQ below (QC g A (some (.int r)) S') args s 0 0 A) 0 0 73 [(0, .ref (g.2.1 13)), (1, .int v1), (2, .int v2), (3, .int v3), (4, .int v4), (5, .int v5)] [.int r70] S5
            refine j_if_eq F (tgt := 81) dX6_asks_73 (by decide) hm (fun _ hm => ?_) (fun _ hm => ?_)
            · refine j_sub [] rfl ?_
              exact hj81 S5  hm
            · refine j_iload_n F 2 dX6_asks_76 rfl ?_
              refine j_iload_n F 3 dX6_asks_77 rfl ?_
              refine j_icmp_ne F (tgt := 83) dX6_asks_78 (by decide) hm (fun _ hm => ?_) (fun _ hm => ?_)
              · refine j_aload_n F 0 dX6_asks_83 rfl ?_
                refine j_iconst F (v := 0) dX6_asks_84 (by decide) ?_
                obtain ⟨S85, hc85, hm⟩ := Option.bind_eq_some_iff.mp hm
                refine j_callV F (n := 1) (As := [.int 0]) (rest := []) (c_X6_learn l g hg 0 S5 S85 hc85) gw_X6_100 (by decide +kernel) ⟨Nat.le_of_ble_eq_true rfl, Nat.le_of_ble_eq_true rfl⟩ ⟨Nat.le_of_ble_eq_true rfl, Nat.le_of_ble_eq_true rfl⟩ rfl rfl rfl rfl (Nat.le_of_ble_eq_true rfl) dX6_asks_85 ?_
                show J p l e rmX6_asks s m args below meth c g A 6 (MQ below (QC g A (some (.int r)) S') args s 0 0 A) 0 0 88 [(0, .ref (g.2.1 13)), (1, .int v1), (2, .int v2), (3, .int v3), (4, .int v4), (5, .int v5)] [] S85
                refine j_aload_n F 0 dX6_asks_88 rfl ?_
                refine j_getR F (k0 := 14) (C := RX6) (T := TX6) (N := 20) rfl rfl rfl inF6 (by decide) tw530 dX6_asks_89 ?_
                refine j_iload_n F 2 dX6_asks_92 rfl ?_
                refine j_iald F rfl dX6_asks_93 hm (fun hm => ?_)
                refine j_iload_n F 3 dX6_asks_94 rfl ?_
                obtain ⟨r95, hc95, hm⟩ := Option.bind_eq_some_iff.mp hm
                refine j_callS F (n := 2) (As := [.int (gA S85 24 v2.toNatClampNeg), .int v3]) (rest := []) (c_X6_isIn l g hg (gA S85 24 v2.toNatClampNeg) v3 S85 r95 hc95) gw_X6_76 (by decide +kernel) ⟨Nat.le_of_ble_eq_true rfl, Nat.le_of_ble_eq_true rfl⟩ ⟨Nat.le_of_ble_eq_true rfl, Nat.le_of_ble_eq_true rfl⟩ rfl rfl (Nat.le_of_ble_eq_true rfl) dX6_asks_95 ?_
                show J p l e rmX6_asks s m args below meth c g A 6 (MQ below (QC g A (some (.int r)) S') args s 0 0 A) 0 0 98 [(0, .ref (g.2.1 13)), (1, .int v1), (2, .int v2), (3, .int v3), (4, .int v4), (5, .int v5)] [.int r95] S85
                obtain ⟨hb, hm⟩ := gd_ok hm
                exact j_zret_e F rfl (z_nar hb) dX6_asks_98 hm
              · refine j_sub [] rfl ?_
                exact hj81 S5  hm
  · refine j_iload_n F 2 dX6_asks_14 rfl ?_
    refine j_if_ne F (tgt := 42) dX6_asks_15 (by decide) hm (fun _ hm => ?_) (fun _ hm => ?_)
    · refine j_sub [] rfl ?_
      exact hj42 S5  hm
    · refine j_aload_n F 0 dX6_asks_18 rfl ?_
      obtain ⟨r19, hc19, hm⟩ := Option.bind_eq_some_iff.mp hm
      refine j_callV F (n := 0) (As := []) (rest := []) (c_X6_endMany l g hg S5 r19 hc19) gw_X6_135 (by decide +kernel) ⟨Nat.le_of_ble_eq_true rfl, Nat.le_of_ble_eq_true rfl⟩ ⟨Nat.le_of_ble_eq_true rfl, Nat.le_of_ble_eq_true rfl⟩ rfl rfl rfl rfl (Nat.le_of_ble_eq_true rfl) dX6_asks_19 ?_
      show J p l e rmX6_asks s m args below meth c g A 6 (MQ below (QC g A (some (.int r)) S') args s 0 0 A) 0 0 22 [(0, .ref (g.2.1 13)), (1, .int v1), (2, .int v2), (3, .int v3), (4, .int v4), (5, .int v5)] [.int r19] S5
      refine j_bipush F (v := 100) dX6_asks_22 (by decide) ?_
      refine j_iload_n F 3 dX6_asks_24 rfl ?_
      refine j_imul F dX6_asks_25 ?_
      refine j_bipush F (v := 10) dX6_asks_26 (by decide) ?_
      refine j_iload F 4 dX6_asks_28 rfl ?_
      refine j_imul F dX6_asks_30 ?_
      refine j_iadd F dX6_asks_31 ?_
      refine j_iload F 5 dX6_asks_32 rfl ?_
      refine j_iadd F dX6_asks_34 ?_
      refine j_icmp_gt F (tgt := 42) dX6_asks_35 (by decide) hm (fun _ hm => ?_) (fun _ hm => ?_)
      · refine j_sub [] rfl ?_
        exact hj42 S5  hm
      · refine j_iconst F (v := 1) dX6_asks_38 (by decide) ?_
        refine j_goto F (tgt := 43) dX6_asks_39 (by decide) ?_
        refine j_sub [] rfl ?_
        exact hj43 1 S5  hm
def m_X6_succeeds_J78 (w0 : Int32) (S : Hs) : Option (Int32 × Hs) := gd (decide (w0 = 0 ∨ w0 = 1)) (some ((w0, S)))
noncomputable def m_X6_succeeds (v1 : Int32) (S : Hs) : Option (Int32 × Hs) := bnd (v1 / 10000) fun v2_5 => (bnd (irm (v1 / 1000) 10) fun v3_14 => (bnd (irm (v1 / 100) 10) fun v4_22 => (bnd (irm (v1 / 10) 10) fun v5_31 => (bnd (irm v1 10) fun v6_37 => (if v2_5 = 0 then (some ((0, S))) else (if 6 ≤ v2_5 then (bndE (m_X6_asks v2_5 v3_14 v4_22 v5_31 v6_37 S) fun r75 S75 => (m_X6_succeeds_J78 r75 S75)) else (bndE (m_X6_changes v2_5 v3_14 v4_22 v5_31 v6_37 S) fun r60 S60 => (m_X6_succeeds_J78 r60 S60))))))))
set_option maxRecDepth 100000 in
set_option maxHeartbeats 4000000 in
theorem c_X6_succeeds (l : Launch) (g : GG) (hg : Inj g) (v1 : Int32)  (S : Hs) (r : Int32) (S' : Hs) (hm : m_X6_succeeds v1 S = some ((r, S'))) : CM l yX6_succeeds [.code yX6_succeeds cX6_succeeds 7 (some .boolean)] rmX6_succeeds [.ref (g.2.1 13), .int v1] g S (some (.int r)) S' := by
  unfold m_X6_succeeds at hm
  refine CM.of (cc := cX6_succeeds) (nL := 7) (ret := (some .boolean)) (lv := [(0, .ref (g.2.1 13)), (1, .int v1)]) (by decide +kernel) hg (Nat.le_of_ble_eq_true rfl) rfl (fun p e s m args below meth c A F => ?_)
  replace F : Fx p s m meth c cX6_succeeds RX6 7 (some .boolean) g A := F
  show J p l e rmX6_succeeds s m args below meth c g A 7 (MQ below (QC g A (some (.int r)) S') args s 0 0 A) 0 0 0 [(0, .ref (g.2.1 13)), (1, .int v1)] [] S
  have hj78 : ∀ (w0 : Int32) (S : Hs), m_X6_succeeds_J78 w0 S = some ((r, S')) → J p l e rmX6_succeeds s m args below meth c g A 7 (MQ below (QC g A (some (.int r)) S') args s 0 0 A) 0 0 78 [] [.int w0] S := by
    intro w0 S hm
    unfold m_X6_succeeds_J78 at hm
    obtain ⟨hb, hm⟩ := gd_ok hm
    exact j_zret_e F rfl (z_nar hb) dX6_succeeds_78 hm
  refine j_iload_n F 1 dX6_succeeds_0 rfl ?_
  refine j_sipush F (v := 10000) dX6_succeeds_1 (by decide) ?_
  refine j_idiv F dX6_succeeds_4 (by decide) ?_
  refine j_bnd hm (fun v2_5 hm => ?_)
  refine j_istore_n F (lv' := [(2, .int v2_5), (0, .ref (g.2.1 13)), (1, .int v1)]) dX6_succeeds_5 (by decide) rfl ?_
  refine j_iload_n F 2 dX6_succeeds_6 rfl ?_
  refine j_sipush F (v := 1000) dX6_succeeds_7 (by decide) ?_
  refine j_idiv F dX6_succeeds_10 (by decide) ?_
  refine j_bipush F (v := 10) dX6_succeeds_11 (by decide) ?_
  refine j_irem F dX6_succeeds_13 (by decide) ?_
  refine j_bnd hm (fun v3_14 hm => ?_)
  refine j_istore_n F (lv' := [(3, .int v3_14), (2, .int v2_5), (0, .ref (g.2.1 13)), (1, .int v1)]) dX6_succeeds_14 (by decide) rfl ?_
  refine j_iload_n F 3 dX6_succeeds_15 rfl ?_
  refine j_bipush F (v := 100) dX6_succeeds_16 (by decide) ?_
  refine j_idiv F dX6_succeeds_18 (by decide) ?_
  refine j_bipush F (v := 10) dX6_succeeds_19 (by decide) ?_
  refine j_irem F dX6_succeeds_21 (by decide) ?_
  refine j_bnd hm (fun v4_22 hm => ?_)
  refine j_istore F (lv' := [(4, .int v4_22), (3, .int v3_14), (2, .int v2_5), (0, .ref (g.2.1 13)), (1, .int v1)]) dX6_succeeds_22 (by decide) rfl ?_
  refine j_iload_n F 4 dX6_succeeds_24 rfl ?_
  refine j_bipush F (v := 10) dX6_succeeds_25 (by decide) ?_
  refine j_idiv F dX6_succeeds_27 (by decide) ?_
  refine j_bipush F (v := 10) dX6_succeeds_28 (by decide) ?_
  refine j_irem F dX6_succeeds_30 (by decide) ?_
  refine j_bnd hm (fun v5_31 hm => ?_)
  refine j_istore F (lv' := [(5, .int v5_31), (4, .int v4_22), (3, .int v3_14), (2, .int v2_5), (0, .ref (g.2.1 13)), (1, .int v1)]) dX6_succeeds_31 (by decide) rfl ?_
  refine j_iload_n F 5 dX6_succeeds_33 rfl ?_
  refine j_bipush F (v := 10) dX6_succeeds_34 (by decide) ?_
  refine j_irem F dX6_succeeds_36 (by decide) ?_
  refine j_bnd hm (fun v6_37 hm => ?_)
  refine j_istore F (lv' := [(6, .int v6_37), (5, .int v5_31), (4, .int v4_22), (3, .int v3_14), (2, .int v2_5), (0, .ref (g.2.1 13)), (1, .int v1)]) dX6_succeeds_37 (by decide) rfl ?_
  refine j_iload_n F 4 dX6_succeeds_39 rfl ?_
  refine j_if_ne F (tgt := 45) dX6_succeeds_40 (by decide) hm (fun _ hm => ?_) (fun _ hm => ?_)
  · refine j_iload_n F 4 dX6_succeeds_45 rfl ?_
    refine j_bipush F (v := 6) dX6_succeeds_46 (by decide) ?_
    refine j_icmp_ge F (tgt := 66) dX6_succeeds_48 (by decide) hm (fun _ hm => ?_) (fun _ hm => ?_)
    · refine j_aload_n F 5 dX6_succeeds_66 rfl ?_
      refine j_iload_n F 4 dX6_succeeds_67 rfl ?_
      refine j_iload_n F 3 dX6_succeeds_68 rfl ?_
      refine j_iload F 2 dX6_succeeds_69 rfl ?_
      refine j_iload F 1 dX6_succeeds_71 rfl ?_
      refine j_iload F 0 dX6_succeeds_73 rfl ?_
      obtain ⟨r75, S75, hc75, hm⟩ := bndE_ok hm
      refine j_callV F (n := 5) (As := [.int v2_5, .int v3_14, .int v4_22, .int v5_31, .int v6_37]) (rest := []) (c_X6_asks l g hg v2_5 v3_14 v4_22 v5_31 v6_37 S r75 S75 hc75) gw_X6_203 (by decide +kernel) ⟨Nat.le_of_ble_eq_true rfl, Nat.le_of_ble_eq_true rfl⟩ ⟨Nat.le_of_ble_eq_true rfl, Nat.le_of_ble_eq_true rfl⟩ rfl rfl rfl rfl (Nat.le_of_ble_eq_true rfl) dX6_succeeds_75 ?_
      show J p l e rmX6_succeeds s m args below meth c g A 7 (MQ below (QC g A (some (.int r)) S') args s 0 0 A) 0 0 78 [(6, .int v6_37), (5, .int v5_31), (4, .int v4_22), (3, .int v3_14), (2, .int v2_5), (0, .ref (g.2.1 13)), (1, .int v1)] [.int r75] S75
      refine j_sub [] rfl ?_
      exact hj78 r75 S75  hm
    · refine j_aload_n F 5 dX6_succeeds_51 rfl ?_
      refine j_iload_n F 4 dX6_succeeds_52 rfl ?_
      refine j_iload_n F 3 dX6_succeeds_53 rfl ?_
      refine j_iload F 2 dX6_succeeds_54 rfl ?_
      refine j_iload F 1 dX6_succeeds_56 rfl ?_
      refine j_iload F 0 dX6_succeeds_58 rfl ?_
      obtain ⟨r60, S60, hc60, hm⟩ := bndE_ok hm
      refine j_callV F (n := 5) (As := [.int v2_5, .int v3_14, .int v4_22, .int v5_31, .int v6_37]) (rest := []) (c_X6_changes l g hg v2_5 v3_14 v4_22 v5_31 v6_37 S r60 S60 hc60) gw_X6_200 (by decide +kernel) ⟨Nat.le_of_ble_eq_true rfl, Nat.le_of_ble_eq_true rfl⟩ ⟨Nat.le_of_ble_eq_true rfl, Nat.le_of_ble_eq_true rfl⟩ rfl rfl rfl rfl (Nat.le_of_ble_eq_true rfl) dX6_succeeds_60 ?_
      show J p l e rmX6_succeeds s m args below meth c g A 7 (MQ below (QC g A (some (.int r)) S') args s 0 0 A) 0 0 63 [(6, .int v6_37), (5, .int v5_31), (4, .int v4_22), (3, .int v3_14), (2, .int v2_5), (0, .ref (g.2.1 13)), (1, .int v1)] [.int r60] S60
      refine j_goto F (tgt := 78) dX6_succeeds_63 (by decide) ?_
      refine j_sub [] rfl ?_
      exact hj78 r60 S60  hm
  · refine j_iconst F (v := 0) dX6_succeeds_43 (by decide) ?_
    exact j_zret_e F rfl rfl dX6_succeeds_44 hm
def m_X6_runScript_L30 (v1 : Int32) (v2 : Int64) (v4 : Int32) (S : Hs) (v5 : Int64) (v7 : Int32) : Option ((Int64 × Int32) ⊕ Int64) := if v1 ≤ v7 then (some (.inr v5)) else (if v4 = 0 then (some (.inr v5)) else (bnd (v5 * 100000) fun v5_47 => (some (.inl ((v5_47, v7 + 1))))))
def m_X6_runScript_J144 (v1 : Int32) (v2 : Int64) (v5 : Int64) (v8 : Int32) (w0 : Int32) (S : Hs) : Option ((Int64 × Int32 × Int32 × Hs) ⊕ (Int32 × Hs)) := some (.inl ((v5, w0, v8 + 1, S)))
noncomputable def m_X6_runScript_L96 (v1 : Int32) (v2 : Int64) (v5 : Int64) (v7 : Int32) (v8 : Int32) (S : Hs) : Option ((Int64 × Int32 × Int32 × Hs) ⊕ (Int32 × Hs)) := if v1 ≤ v8 then (some (.inr ((v7, S)))) else (if v7 = ((-9)) then (bnd (v5 / 100000) fun v5_115 => (gd (decide (¬ v5_115 = 0)) (bnd ((lrm (v2 / v5_115) 100000).toInt32) fun v9_126 => (bndE (m_X6_succeeds v9_126 S) fun r131 S131 => (if r131 = 0 then (m_X6_runScript_J144 v1 v2 v5_115 v8 v8 S131) else (m_X6_runScript_J144 v1 v2 v5_115 v8 ((-9)) S131)))))) else (some (.inr ((v7, S)))))
noncomputable def m_X6_runScript_J152 (v7 : Int32) (S : Hs) : Option (Int32 × Hs) := (m_X6_bringBack  S).bind fun S153 => (some ((v7, S153)))
noncomputable def m_X6_runScript_J73 (v1 : Int32) (v2 : Int64) (v5 : Int64) (w0 : Int32) (S : Hs) : Option (Int32 × Hs) := bnd (sI S 13 0 w0) fun S73 => (if (gI S73 13 0) ≤ 0 then ((m_X6_putAside  S73).bind fun S86 => ((loopO (fun x => m_X6_runScript_L96 v1 v2 x.1 x.2.1 x.2.2.1 x.2.2.2) ((v5, (-9), 0, S86))).bind fun y96 => m_X6_runScript_J152 y96.1 y96.2)) else (some ((0, S73))))
noncomputable def m_X6_runScript_J72 (v1 : Int32) (v2 : Int64) (v5 : Int64) (S : Hs) : Option (Int32 × Hs) := m_X6_runScript_J73 v1 v2 v5 1 S
noncomputable def m_X6_runScript_J55 (v1 : Int32) (v2 : Int64) (v4 : Int32) (v5 : Int64) (S : Hs) : Option (Int32 × Hs) := if v4 = 0 then (m_X6_runScript_J72 v1 v2 v5 S) else (if 0 ≤ (lg_cmp v2 v5) then (m_X6_runScript_J72 v1 v2 v5 S) else (m_X6_runScript_J73 v1 v2 v5 0 S))
noncomputable def m_X6_runScript_J20 (v1 : Int32) (v2 : Int64) (w0 : Int32) (S : Hs) : Option (Int32 × Hs) := (loopO (fun x => m_X6_runScript_L30 v1 v2 w0 S x.1 x.2) ((100000, 1))).bind fun y30 => m_X6_runScript_J55 v1 v2 w0 y30 S
noncomputable def m_X6_runScript_J19 (v1 : Int32) (v2 : Int64) (S : Hs) : Option (Int32 × Hs) := m_X6_runScript_J20 v1 v2 0 S
noncomputable def m_X6_runScript (v1 : Int32) (v2 : Int64) (S : Hs) : Option (Int32 × Hs) := (m_X6_in v1 1 3).bind fun r3 => (if r3 = 0 then (m_X6_runScript_J19 v1 v2 S) else (if (lg_cmp v2 0) < 0 then (m_X6_runScript_J19 v1 v2 S) else (m_X6_runScript_J20 v1 v2 1 S)))
set_option maxRecDepth 100000 in
set_option maxHeartbeats 4000000 in
theorem c_X6_runScript (l : Launch) (g : GG) (hg : Inj g) (v1 : Int32) (v2 : Int64)  (S : Hs) (r : Int32) (S' : Hs) (hm : m_X6_runScript v1 v2 S = some ((r, S'))) : CM l yX6_runScript [.code yX6_runScript cX6_runScript 10 (some .int)] rmX6_runScript [.ref (g.2.1 13), .int v1, .long v2] g S (some (.int r)) S' := by
  unfold m_X6_runScript at hm
  refine CM.of (cc := cX6_runScript) (nL := 10) (ret := (some .int)) (lv := [(0, .ref (g.2.1 13)), (1, .int v1), (2, .long v2)]) (by decide +kernel) hg (Nat.le_of_ble_eq_true rfl) rfl (fun p e s m args below meth c A F => ?_)
  replace F : Fx p s m meth c cX6_runScript RX6 10 (some .int) g A := F
  show J p l e rmX6_runScript s m args below meth c g A 10 (MQ below (QC g A (some (.int r)) S') args s 0 0 A) 0 0 0 [(0, .ref (g.2.1 13)), (1, .int v1), (2, .long v2)] [] S
  have hj152 : ∀ (v7 : Int32) (S : Hs), m_X6_runScript_J152 v7 S = some ((r, S')) → J p l e rmX6_runScript s m args below meth c g A 10 (MQ below (QC g A (some (.int r)) S') args s 0 0 A) 0 0 152 [(0, .ref (g.2.1 13)), (7, .int v7)] [] S := by
    intro v7 S hm
    unfold m_X6_runScript_J152 at hm
    refine j_aload_n F 0 dX6_runScript_152 rfl ?_
    obtain ⟨S153, hc153, hm⟩ := Option.bind_eq_some_iff.mp hm
    refine j_callV F (n := 0) (As := []) (rest := []) (c_X6_bringBack l g hg S S153 hc153) gw_X6_214 (by decide +kernel) ⟨Nat.le_of_ble_eq_true rfl, Nat.le_of_ble_eq_true rfl⟩ ⟨Nat.le_of_ble_eq_true rfl, Nat.le_of_ble_eq_true rfl⟩ rfl rfl rfl rfl (Nat.le_of_ble_eq_true rfl) dX6_runScript_153 ?_
    show J p l e rmX6_runScript s m args below meth c g A 10 (MQ below (QC g A (some (.int r)) S') args s 0 0 A) 0 0 156 [(0, .ref (g.2.1 13)), (7, .int v7)] [] S153
    refine j_iload F 1 dX6_runScript_156 rfl ?_
    exact j_iret_e F rfl dX6_runScript_158 hm
  have hj73 : ∀ (v1 : Int32) (v2 : Int64) (v5 : Int64) (w0 : Int32) (S : Hs), m_X6_runScript_J73 v1 v2 v5 w0 S = some ((r, S')) → J p l e rmX6_runScript s m args below meth c g A 10 (MQ below (QC g A (some (.int r)) S') args s 0 0 A) 0 0 73 [(0, .ref (g.2.1 13)), (1, .int v1), (2, .long v2), (5, .long v5)] [.int w0, .ref (g.2.1 13)] S := by
    intro v1 v2 v5 w0 S hm
    unfold m_X6_runScript_J73 at hm
    refine j_putI F (k0 := 0) (C := RX6) (T := TX6) (N := 20) tyX6 tyX6_ok nmX6 rfl rfl rfl inF6 (by decide) tw535 rfl (by decide +kernel) dX6_runScript_73 ?_
    refine j_bndS hm (fun S73 hm => ?_)
    refine j_aload_n F 0 dX6_runScript_76 rfl ?_
    refine j_getI F (k0 := 0) (C := RX6) (T := TX6) (N := 20) rfl rfl rfl inF6 (by decide) tw535 dX6_runScript_77 ?_
    refine j_if_le F (tgt := 85) dX6_runScript_80 (by decide) hm (fun _ hm => ?_) (fun _ hm => ?_)
    · refine j_aload_n F 0 dX6_runScript_85 rfl ?_
      obtain ⟨S86, hc86, hm⟩ := Option.bind_eq_some_iff.mp hm
      refine j_callV F (n := 0) (As := []) (rest := []) (c_X6_putAside l g hg S73 S86 hc86) gw_X6_208 (by decide +kernel) ⟨Nat.le_of_ble_eq_true rfl, Nat.le_of_ble_eq_true rfl⟩ ⟨Nat.le_of_ble_eq_true rfl, Nat.le_of_ble_eq_true rfl⟩ rfl rfl rfl rfl (Nat.le_of_ble_eq_true rfl) dX6_runScript_86 ?_
      show J p l e rmX6_runScript s m args below meth c g A 10 (MQ below (QC g A (some (.int r)) S') args s 0 0 A) 0 0 89 [(0, .ref (g.2.1 13)), (1, .int v1), (2, .long v2), (5, .long v5)] [] S86
      refine j_bipush F (v := -9) dX6_runScript_89 (by decide) ?_
      refine j_istore F (lv' := [(7, .int ((-9))), (0, .ref (g.2.1 13)), (1, .int v1), (2, .long v2), (5, .long v5)]) dX6_runScript_91 (by decide) rfl ?_
      refine j_iconst F (v := 0) dX6_runScript_93 (by decide) ?_
      refine j_istore F (lv' := [(8, .int 0), (7, .int ((-9))), (0, .ref (g.2.1 13)), (1, .int v1), (2, .long v2), (5, .long v5)]) dX6_runScript_94 (by decide) rfl ?_
      refine j_sub [2, 3, 4, 5, 1, 0] rfl ?_
      obtain ⟨y96, hlp96, hm⟩ := Option.bind_eq_some_iff.mp hm
      refine loopO_walk (fun x => m_X6_runScript_L96 v1 v2 x.1 x.2.1 x.2.2.1 x.2.2.2) (fun x => J p l e rmX6_runScript s m args below meth c g A 10 (MQ below (QC g A (some (.int r)) S') args s 0 0 A) 0 0 96 [(0, .ref (g.2.1 13)), (1, .int v1), (2, .long v2), (5, .long x.1), (7, .int x.2.1), (8, .int x.2.2.1)] [] x.2.2.2) (fun x => J p l e rmX6_runScript s m args below meth c g A 10 (MQ below (QC g A (some (.int r)) S') args s 0 0 A) 0 0 152 [(0, .ref (g.2.1 13)), (7, .int x.1)] [] x.2) (fun x o1 hm hk1 => ?_) hlp96 ?_
      · obtain ⟨v5, v7, v8, S⟩ := x
        replace hm : m_X6_runScript_L96 v1 v2 v5 v7 v8 S = some o1 := hm
        show J p l e rmX6_runScript s m args below meth c g A 10 (MQ below (QC g A (some (.int r)) S') args s 0 0 A) 0 0 96 [(0, .ref (g.2.1 13)), (1, .int v1), (2, .long v2), (5, .long v5), (7, .int v7), (8, .int v8)] [] S
        unfold m_X6_runScript_L96 at hm
        have hj144 : ∀ (v5 : Int64) (v8 : Int32) (w0 : Int32) (S : Hs), m_X6_runScript_J144 v1 v2 v5 v8 w0 S = some o1 → J p l e rmX6_runScript s m args below meth c g A 10 (MQ below (QC g A (some (.int r)) S') args s 0 0 A) 0 0 144 [(0, .ref (g.2.1 13)), (1, .int v1), (2, .long v2), (5, .long v5), (8, .int v8)] [.int w0] S := by
          intro v5 v8 w0 S hm
          unfold m_X6_runScript_J144 at hm
          refine j_istore F (lv' := [(7, .int w0), (0, .ref (g.2.1 13)), (1, .int v1), (2, .long v2), (5, .long v5), (8, .int v8)]) dX6_runScript_144 (by decide) rfl ?_
          refine j_iinc F (v := v8 + 1) (lv' := [(8, .int (v8 + 1)), (7, .int w0), (0, .ref (g.2.1 13)), (1, .int v1), (2, .long v2), (5, .long v5)]) 5 dX6_runScript_146 rfl rfl (by decide) rfl ?_
          refine j_goto F (tgt := 96) dX6_runScript_149 (by decide) ?_
          cases hm
          refine j_sub [2, 3, 4, 5, 1, 0] rfl ?_
          exact hk1
        refine j_iload F 5 dX6_runScript_96 rfl ?_
        refine j_iload_n F 1 dX6_runScript_98 rfl ?_
        refine j_icmp_ge F (tgt := 152) dX6_runScript_99 (by decide) hm (fun _ hm => ?_) (fun _ hm => ?_)
        · cases hm
          refine j_sub [0, 4] rfl ?_
          exact hk1
        · refine j_iload F 4 dX6_runScript_102 rfl ?_
          refine j_bipush F (v := -9) dX6_runScript_104 (by decide) ?_
          refine j_icmp_ne F (tgt := 152) dX6_runScript_106 (by decide) hm (fun _ hm => ?_) (fun _ hm => ?_)
          · cases hm
            refine j_sub [0, 4] rfl ?_
            exact hk1
          · refine j_lload F 3 dX6_runScript_109 rfl ?_
            refine j_ldc2 F (v := 100000) dX6_runScript_111 tw721 ?_
            refine j_ldiv F dX6_runScript_114 (by decide) ?_
            refine j_bndl hm (fun v5_115 hm => ?_)
            refine j_lstore F (lv' := [(5, .long v5_115), (0, .ref (g.2.1 13)), (1, .int v1), (2, .long v2), (7, .int v7), (8, .int v8)]) dX6_runScript_115 (by decide) rfl ?_
            refine j_lload_n F 3 dX6_runScript_117 rfl ?_
            refine j_lload F 0 dX6_runScript_118 rfl ?_
            obtain ⟨hz120, hm⟩ := gd_ok hm
            refine j_ldiv F dX6_runScript_120 (of_decide_eq_true hz120) ?_
            refine j_ldc2 F (v := 100000) dX6_runScript_121 tw721 ?_
            refine j_lrem F dX6_runScript_124 (by decide) ?_
            refine j_l2i F dX6_runScript_125 ?_
            refine j_bnd hm (fun v9_126 hm => ?_)
            refine j_istore F (lv' := [(9, .int v9_126), (5, .long v5_115), (0, .ref (g.2.1 13)), (1, .int v1), (2, .long v2), (7, .int v7), (8, .int v8)]) dX6_runScript_126 (by decide) rfl ?_
            refine j_aload_n F 2 dX6_runScript_128 rfl ?_
            refine j_iload F 0 dX6_runScript_129 rfl ?_
            obtain ⟨r131, S131, hc131, hm⟩ := bndE_ok hm
            refine j_callV F (n := 1) (As := [.int v9_126]) (rest := []) (c_X6_succeeds l g hg v9_126 S r131 S131 hc131) gw_X6_211 (by decide +kernel) ⟨Nat.le_of_ble_eq_true rfl, Nat.le_of_ble_eq_true rfl⟩ ⟨Nat.le_of_ble_eq_true rfl, Nat.le_of_ble_eq_true rfl⟩ rfl rfl rfl rfl (Nat.le_of_ble_eq_true rfl) dX6_runScript_131 ?_
            show J p l e rmX6_runScript s m args below meth c g A 10 (MQ below (QC g A (some (.int r)) S') args s 0 0 A) 0 0 134 [(9, .int v9_126), (5, .long v5_115), (0, .ref (g.2.1 13)), (1, .int v1), (2, .long v2), (7, .int v7), (8, .int v8)] [.int r131] S131
            refine j_if_eq F (tgt := 142) dX6_runScript_134 (by decide) hm (fun _ hm => ?_) (fun _ hm => ?_)
            · refine j_iload F 6 dX6_runScript_142 rfl ?_
              refine j_sub [2, 3, 4, 1, 6] rfl ?_
              exact hj144 v5_115 v8 v8 S131  hm
            · refine j_bipush F (v := -9) dX6_runScript_137 (by decide) ?_
              refine j_goto F (tgt := 144) dX6_runScript_139 (by decide) ?_
              refine j_sub [2, 3, 4, 1, 6] rfl ?_
              exact hj144 v5_115 v8 ((-9)) S131  hm
      · show J p l e rmX6_runScript s m args below meth c g A 10 (MQ below (QC g A (some (.int r)) S') args s 0 0 A) 0 0 152 [(0, .ref (g.2.1 13)), (7, .int y96.1)] [] y96.2
        refine j_sub [0, 1] rfl ?_
        exact hj152 y96.1 y96.2  hm
    · refine j_iconst F (v := 0) dX6_runScript_83 (by decide) ?_
      exact j_iret_e F rfl dX6_runScript_84 hm
  have hj72 : ∀ (v1 : Int32) (v2 : Int64) (v5 : Int64) (S : Hs), m_X6_runScript_J72 v1 v2 v5 S = some ((r, S')) → J p l e rmX6_runScript s m args below meth c g A 10 (MQ below (QC g A (some (.int r)) S') args s 0 0 A) 0 0 72 [(0, .ref (g.2.1 13)), (1, .int v1), (2, .long v2), (5, .long v5)] [.ref (g.2.1 13)] S := by
    intro v1 v2 v5 S hm
    unfold m_X6_runScript_J72 at hm
    refine j_iconst F (v := 1) dX6_runScript_72 (by decide) ?_
    refine j_sub [0, 1, 2, 3] rfl ?_
    exact hj73 v1 v2 v5 1 S  hm
  have hj55 : ∀ (v1 : Int32) (v2 : Int64) (v4 : Int32) (v5 : Int64) (S : Hs), m_X6_runScript_J55 v1 v2 v4 v5 S = some ((r, S')) → J p l e rmX6_runScript s m args below meth c g A 10 (MQ below (QC g A (some (.int r)) S') args s 0 0 A) 0 0 55 [(0, .ref (g.2.1 13)), (1, .int v1), (2, .long v2), (4, .int v4), (5, .long v5)] [] S := by
    intro v1 v2 v4 v5 S hm
    unfold m_X6_runScript_J55 at hm
    refine j_aload_n F 0 dX6_runScript_55 rfl ?_
    refine j_iload F 3 dX6_runScript_56 rfl ?_
    refine j_if_eq F (tgt := 72) dX6_runScript_58 (by decide) hm (fun _ hm => ?_) (fun _ hm => ?_)
    · refine j_sub [0, 1, 2, 4] rfl ?_
      exact hj72 v1 v2 v5 S  hm
    · refine j_lload_n F 2 dX6_runScript_61 rfl ?_
      refine j_lload F 4 dX6_runScript_62 rfl ?_
      refine j_lcmp F dX6_runScript_64 ?_
      refine j_if_ge F (tgt := 72) dX6_runScript_65 (by decide) hm (fun _ hm => ?_) (fun _ hm => ?_)
      · refine j_sub [0, 1, 2, 4] rfl ?_
        exact hj72 v1 v2 v5 S  hm
      · refine j_iconst F (v := 0) dX6_runScript_68 (by decide) ?_
        refine j_goto F (tgt := 73) dX6_runScript_69 (by decide) ?_
        refine j_sub [0, 1, 2, 4] rfl ?_
        exact hj73 v1 v2 v5 0 S  hm
  have hj20 : ∀ (v1 : Int32) (v2 : Int64) (w0 : Int32) (S : Hs), m_X6_runScript_J20 v1 v2 w0 S = some ((r, S')) → J p l e rmX6_runScript s m args below meth c g A 10 (MQ below (QC g A (some (.int r)) S') args s 0 0 A) 0 0 20 [(0, .ref (g.2.1 13)), (1, .int v1), (2, .long v2)] [.int w0] S := by
    intro v1 v2 w0 S hm
    unfold m_X6_runScript_J20 at hm
    refine j_istore F (lv' := [(4, .int w0), (0, .ref (g.2.1 13)), (1, .int v1), (2, .long v2)]) dX6_runScript_20 (by decide) rfl ?_
    refine j_ldc2 F (v := 100000) dX6_runScript_22 tw721 ?_
    refine j_lstore F (lv' := [(5, .long 100000), (4, .int w0), (0, .ref (g.2.1 13)), (1, .int v1), (2, .long v2)]) dX6_runScript_25 (by decide) rfl ?_
    refine j_iconst F (v := 1) dX6_runScript_27 (by decide) ?_
    refine j_istore F (lv' := [(7, .int 1), (5, .long 100000), (4, .int w0), (0, .ref (g.2.1 13)), (1, .int v1), (2, .long v2)]) dX6_runScript_28 (by decide) rfl ?_
    refine j_sub [3, 4, 5, 2, 1, 0] rfl ?_
    obtain ⟨y30, hlp30, hm⟩ := Option.bind_eq_some_iff.mp hm
    refine loopO_walk (fun x => m_X6_runScript_L30 v1 v2 w0 S x.1 x.2) (fun x => J p l e rmX6_runScript s m args below meth c g A 10 (MQ below (QC g A (some (.int r)) S') args s 0 0 A) 0 0 30 [(0, .ref (g.2.1 13)), (1, .int v1), (2, .long v2), (4, .int w0), (5, .long x.1), (7, .int x.2)] [] S) (fun x => J p l e rmX6_runScript s m args below meth c g A 10 (MQ below (QC g A (some (.int r)) S') args s 0 0 A) 0 0 55 [(0, .ref (g.2.1 13)), (1, .int v1), (2, .long v2), (4, .int w0), (5, .long x)] [] S) (fun x o1 hm hk1 => ?_) hlp30 ?_
    · obtain ⟨v5, v7⟩ := x
      replace hm : m_X6_runScript_L30 v1 v2 w0 S v5 v7 = some o1 := hm
      show J p l e rmX6_runScript s m args below meth c g A 10 (MQ below (QC g A (some (.int r)) S') args s 0 0 A) 0 0 30 [(0, .ref (g.2.1 13)), (1, .int v1), (2, .long v2), (4, .int w0), (5, .long v5), (7, .int v7)] [] S
      unfold m_X6_runScript_L30 at hm
      refine j_iload F 5 dX6_runScript_30 rfl ?_
      refine j_iload_n F 1 dX6_runScript_32 rfl ?_
      refine j_icmp_ge F (tgt := 55) dX6_runScript_33 (by decide) hm (fun _ hm => ?_) (fun _ hm => ?_)
      · cases hm
        refine j_sub [0, 1, 2, 3, 4] rfl ?_
        exact hk1
      · refine j_iload F 3 dX6_runScript_36 rfl ?_
        refine j_if_eq F (tgt := 55) dX6_runScript_38 (by decide) hm (fun _ hm => ?_) (fun _ hm => ?_)
        · cases hm
          refine j_sub [0, 1, 2, 3, 4] rfl ?_
          exact hk1
        · refine j_lload F 4 dX6_runScript_41 rfl ?_
          refine j_ldc2 F (v := 100000) dX6_runScript_43 tw721 ?_
          refine j_lmul F dX6_runScript_46 ?_
          refine j_bndl hm (fun v5_47 hm => ?_)
          refine j_lstore F (lv' := [(5, .long v5_47), (0, .ref (g.2.1 13)), (1, .int v1), (2, .long v2), (4, .int w0), (7, .int v7)]) dX6_runScript_47 (by decide) rfl ?_
          refine j_iinc F (v := v7 + 1) (lv' := [(7, .int (v7 + 1)), (5, .long v5_47), (0, .ref (g.2.1 13)), (1, .int v1), (2, .long v2), (4, .int w0)]) 5 dX6_runScript_49 rfl rfl (by decide) rfl ?_
          refine j_goto F (tgt := 30) dX6_runScript_52 (by decide) ?_
          cases hm
          refine j_sub [2, 3, 4, 5, 1, 0] rfl ?_
          exact hk1
    · show J p l e rmX6_runScript s m args below meth c g A 10 (MQ below (QC g A (some (.int r)) S') args s 0 0 A) 0 0 55 [(0, .ref (g.2.1 13)), (1, .int v1), (2, .long v2), (4, .int w0), (5, .long y30)] [] S
      refine j_sub [0, 1, 2, 3, 4] rfl ?_
      exact hj55 v1 v2 w0 y30 S  hm
  have hj19 : ∀ (v1 : Int32) (v2 : Int64) (S : Hs), m_X6_runScript_J19 v1 v2 S = some ((r, S')) → J p l e rmX6_runScript s m args below meth c g A 10 (MQ below (QC g A (some (.int r)) S') args s 0 0 A) 0 0 19 [(0, .ref (g.2.1 13)), (1, .int v1), (2, .long v2)] [] S := by
    intro v1 v2 S hm
    unfold m_X6_runScript_J19 at hm
    refine j_iconst F (v := 0) dX6_runScript_19 (by decide) ?_
    refine j_sub [0, 1, 2] rfl ?_
    exact hj20 v1 v2 0 S  hm
  refine j_iload_n F 1 dX6_runScript_0 rfl ?_
  refine j_iconst F (v := 1) dX6_runScript_1 (by decide) ?_
  refine j_iconst F (v := 3) dX6_runScript_2 (by decide) ?_
  obtain ⟨r3, hc3, hm⟩ := Option.bind_eq_some_iff.mp hm
  refine j_callS F (n := 3) (As := [.int v1, .int 1, .int 3]) (rest := []) (c_X6_in l g hg v1 1 3 S r3 hc3) gw_X6_60 (by decide +kernel) ⟨Nat.le_of_ble_eq_true rfl, Nat.le_of_ble_eq_true rfl⟩ ⟨Nat.le_of_ble_eq_true rfl, Nat.le_of_ble_eq_true rfl⟩ rfl rfl (Nat.le_of_ble_eq_true rfl) dX6_runScript_3 ?_
  show J p l e rmX6_runScript s m args below meth c g A 10 (MQ below (QC g A (some (.int r)) S') args s 0 0 A) 0 0 6 [(0, .ref (g.2.1 13)), (1, .int v1), (2, .long v2)] [.int r3] S
  refine j_if_eq F (tgt := 19) dX6_runScript_6 (by decide) hm (fun _ hm => ?_) (fun _ hm => ?_)
  · refine j_sub [0, 1, 2] rfl ?_
    exact hj19 v1 v2 S  hm
  · refine j_lload_n F 2 dX6_runScript_9 rfl ?_
    refine j_lconst F (v := 0) dX6_runScript_10 (by decide) ?_
    refine j_lcmp F dX6_runScript_11 ?_
    refine j_if_lt F (tgt := 19) dX6_runScript_12 (by decide) hm (fun _ hm => ?_) (fun _ hm => ?_)
    · refine j_sub [0, 1, 2] rfl ?_
      exact hj19 v1 v2 S  hm
    · refine j_iconst F (v := 1) dX6_runScript_15 (by decide) ?_
      refine j_goto F (tgt := 20) dX6_runScript_16 (by decide) ?_
      refine j_sub [0, 1, 2] rfl ?_
      exact hj20 v1 v2 1 S  hm
def m_X6_tries_J90 (v1 : Int32) (v2 : Int32) (v3 : Int32) (v4 : Int32) (v5 : Int32) (v6 : Int32) (v7 : Int32) (S : Hs) : Option ((Int32 × Int32 × Int32) ⊕ Int32) := some (.inl ((v5, v6, v7 + 1)))
def m_X6_tries_J85 (v1 : Int32) (v2 : Int32) (v3 : Int32) (v4 : Int32) (v5 : Int32) (v7 : Int32) (w0 : Int32) (S : Hs) : Option ((Int32 × Int32 × Int32) ⊕ Int32) := m_X6_tries_J90 v1 v2 v3 v4 (v5 + (-1)) w0 v7 S
def m_X6_tries_L54 (v1 : Int32) (v2 : Int32) (v3 : Int32) (v4 : Int32) (S : Hs) (v5 : Int32) (v6 : Int32) (v7 : Int32) : Option ((Int32 × Int32 × Int32) ⊕ Int32) := if v2 ≤ v7 then (some (.inr v6)) else (if v7 = v3 then (m_X6_tries_J90 v1 v2 v3 v4 v5 v6 v7 S) else (if v7 = v4 then (m_X6_tries_J90 v1 v2 v3 v4 v5 v6 v7 S) else (if v5 = 0 then (m_X6_tries_J85 v1 v2 v3 v4 v5 v7 v7 S) else (m_X6_tries_J85 v1 v2 v3 v4 v5 v7 v6 S))))
def m_X6_tries_J170 (S : Hs) : Option (Int32 × Hs) := some ((0, S))
noncomputable def m_X6_tries_J130 (v3 : Int32) (v4 : Int32) (v6 : Int32) (v7 : Int32) (v8 : Int32) (w0 : Int32) (S : Hs) : Option (Int32 × Hs) := (m_X6_hinders v8 v3 v4 v7 v6 S).bind fun r142 => (if 0 < r142 then (m_X6_tries_J170 S) else ((m_X6_has w0 v7 v6 S).bind fun r155 => (if r155 = 0 then ((m_X6_rightsMany  S).bind fun r162 => (if r162 = 30 then (m_X6_tries_J170 S) else ((m_X6_put w0 v7 v6 1 S).bind fun S180 => (some ((1, S180)))))) else (m_X6_tries_J170 S))))
noncomputable def m_X6_tries_J117 (v3 : Int32) (v4 : Int32) (v6 : Int32) (v7 : Int32) (w0 : Int32) (S : Hs) : Option (Int32 × Hs) := if w0 = 0 then (m_X6_tries_J130 v3 v4 v6 v7 w0 v3 S) else (m_X6_tries_J130 v3 v4 v6 v7 w0 v4 S)
noncomputable def m_X6_tries (v1 : Int32) (S : Hs) : Option (Int32 × Hs) := gd (inb 0 57) (bnd (gA S 14 (0 : Int32).toNatClampNeg) fun v2_6 => (if 3 ≤ v2_6 then (gd (decide (¬ v2_6 = 0)) (bnd (irm (v1 / 2) v2_6) fun v3_19 => (gd (decide (¬ (v2_6 - 1) = 0)) (gd (decide (¬ v2_6 = 0)) (bnd (irm ((v3_19 + 1) + (irm (v1 / 16) (v2_6 - 1))) v2_6) fun v4_34 => (gd (decide (¬ (v2_6 - 2) = 0)) (bnd (irm (v1 / 128) (v2_6 - 2)) fun v5_45 => ((loopO (fun x => m_X6_tries_L54 v1 v2_6 v3_19 v4_34 S x.1 x.2.1 x.2.2) ((v5_45, (-9), 0))).bind fun y54 => bnd (irm (v1 / 1024) 4) fun v7_103 => (if (irm v1 2) = 1 then (m_X6_tries_J117 v3_19 v4_34 y54 v7_103 1 S) else (m_X6_tries_J117 v3_19 v4_34 y54 v7_103 0 S)))))))))) else (some ((0, S)))))
set_option maxRecDepth 100000 in
set_option maxHeartbeats 4000000 in
theorem c_X6_tries (l : Launch) (g : GG) (hg : Inj g) (v1 : Int32)  (S : Hs) (r : Int32) (S' : Hs) (hm : m_X6_tries v1 S = some ((r, S'))) : CM l yX6_tries [.code yX6_tries cX6_tries 10 (some .boolean)] rmX6_tries [.ref (g.2.1 13), .int v1] g S (some (.int r)) S' := by
  unfold m_X6_tries at hm
  refine CM.of (cc := cX6_tries) (nL := 10) (ret := (some .boolean)) (lv := [(0, .ref (g.2.1 13)), (1, .int v1)]) (by decide +kernel) hg (Nat.le_of_ble_eq_true rfl) rfl (fun p e s m args below meth c A F => ?_)
  replace F : Fx p s m meth c cX6_tries RX6 10 (some .boolean) g A := F
  show J p l e rmX6_tries s m args below meth c g A 10 (MQ below (QC g A (some (.int r)) S') args s 0 0 A) 0 0 0 [(0, .ref (g.2.1 13)), (1, .int v1)] [] S
  have hj170 : ∀ (S : Hs), m_X6_tries_J170 S = some ((r, S')) → J p l e rmX6_tries s m args below meth c g A 10 (MQ below (QC g A (some (.int r)) S') args s 0 0 A) 0 0 170 [] [] S := by
    intro S hm
    unfold m_X6_tries_J170 at hm
    refine j_iconst F (v := 0) dX6_tries_170 (by decide) ?_
    exact j_zret_e F rfl rfl dX6_tries_171 hm
  have hj130 : ∀ (v3 : Int32) (v4 : Int32) (v6 : Int32) (v7 : Int32) (v8 : Int32) (w0 : Int32) (S : Hs), m_X6_tries_J130 v3 v4 v6 v7 v8 w0 S = some ((r, S')) → J p l e rmX6_tries s m args below meth c g A 10 (MQ below (QC g A (some (.int r)) S') args s 0 0 A) 0 0 130 [(0, .ref (g.2.1 13)), (3, .int v3), (4, .int v4), (6, .int v6), (7, .int v7), (8, .int v8)] [.int w0] S := by
    intro v3 v4 v6 v7 v8 w0 S hm
    unfold m_X6_tries_J130 at hm
    refine j_istore F (lv' := [(9, .int w0), (0, .ref (g.2.1 13)), (3, .int v3), (4, .int v4), (6, .int v6), (7, .int v7), (8, .int v8)]) dX6_tries_130 (by decide) rfl ?_
    refine j_aload_n F 1 dX6_tries_132 rfl ?_
    refine j_iload F 6 dX6_tries_133 rfl ?_
    refine j_iload_n F 2 dX6_tries_135 rfl ?_
    refine j_iload F 3 dX6_tries_136 rfl ?_
    refine j_iload F 5 dX6_tries_138 rfl ?_
    refine j_iload F 4 dX6_tries_140 rfl ?_
    obtain ⟨r142, hc142, hm⟩ := Option.bind_eq_some_iff.mp hm
    refine j_callV F (n := 5) (As := [.int v8, .int v3, .int v4, .int v7, .int v6]) (rest := []) (c_X6_hinders l g hg v8 v3 v4 v7 v6 S r142 hc142) gw_X6_173 (by decide +kernel) ⟨Nat.le_of_ble_eq_true rfl, Nat.le_of_ble_eq_true rfl⟩ ⟨Nat.le_of_ble_eq_true rfl, Nat.le_of_ble_eq_true rfl⟩ rfl rfl rfl rfl (Nat.le_of_ble_eq_true rfl) dX6_tries_142 ?_
    show J p l e rmX6_tries s m args below meth c g A 10 (MQ below (QC g A (some (.int r)) S') args s 0 0 A) 0 0 145 [(9, .int w0), (0, .ref (g.2.1 13)), (3, .int v3), (4, .int v4), (6, .int v6), (7, .int v7), (8, .int v8)] [.int r142] S
    refine j_if_gt F (tgt := 170) dX6_tries_145 (by decide) hm (fun _ hm => ?_) (fun _ hm => ?_)
    · refine j_sub [] rfl ?_
      exact hj170 S  hm
    · refine j_aload_n F 1 dX6_tries_148 rfl ?_
      refine j_iload F 0 dX6_tries_149 rfl ?_
      refine j_iload F 5 dX6_tries_151 rfl ?_
      refine j_iload F 4 dX6_tries_153 rfl ?_
      obtain ⟨r155, hc155, hm⟩ := Option.bind_eq_some_iff.mp hm
      refine j_callV F (n := 3) (As := [.int w0, .int v7, .int v6]) (rest := []) (c_X6_has l g hg w0 v7 v6 S r155 hc155) gw_X6_94 (by decide +kernel) ⟨Nat.le_of_ble_eq_true rfl, Nat.le_of_ble_eq_true rfl⟩ ⟨Nat.le_of_ble_eq_true rfl, Nat.le_of_ble_eq_true rfl⟩ rfl rfl rfl rfl (Nat.le_of_ble_eq_true rfl) dX6_tries_155 ?_
      show J p l e rmX6_tries s m args below meth c g A 10 (MQ below (QC g A (some (.int r)) S') args s 0 0 A) 0 0 158 [(9, .int w0), (0, .ref (g.2.1 13)), (3, .int v3), (4, .int v4), (6, .int v6), (7, .int v7), (8, .int v8)] [.int r155] S
      refine j_if_ne F (tgt := 170) dX6_tries_158 (by decide) hm (fun _ hm => ?_) (fun _ hm => ?_)
      · refine j_sub [] rfl ?_
        exact hj170 S  hm
      · refine j_aload_n F 1 dX6_tries_161 rfl ?_
        obtain ⟨r162, hc162, hm⟩ := Option.bind_eq_some_iff.mp hm
        refine j_callV F (n := 0) (As := []) (rest := []) (c_X6_rightsMany l g hg S r162 hc162) gw_X6_64 (by decide +kernel) ⟨Nat.le_of_ble_eq_true rfl, Nat.le_of_ble_eq_true rfl⟩ ⟨Nat.le_of_ble_eq_true rfl, Nat.le_of_ble_eq_true rfl⟩ rfl rfl rfl rfl (Nat.le_of_ble_eq_true rfl) dX6_tries_162 ?_
        show J p l e rmX6_tries s m args below meth c g A 10 (MQ below (QC g A (some (.int r)) S') args s 0 0 A) 0 0 165 [(9, .int w0), (0, .ref (g.2.1 13)), (3, .int v3), (4, .int v4), (6, .int v6), (7, .int v7), (8, .int v8)] [.int r162] S
        refine j_bipush F (v := 30) dX6_tries_165 (by decide) ?_
        refine j_icmp_ne F (tgt := 172) dX6_tries_167 (by decide) hm (fun _ hm => ?_) (fun _ hm => ?_)
        · refine j_aload_n F 1 dX6_tries_172 rfl ?_
          refine j_iload F 0 dX6_tries_173 rfl ?_
          refine j_iload F 5 dX6_tries_175 rfl ?_
          refine j_iload F 4 dX6_tries_177 rfl ?_
          refine j_iconst F (v := 1) dX6_tries_179 (by decide) ?_
          obtain ⟨S180, hc180, hm⟩ := Option.bind_eq_some_iff.mp hm
          refine j_callV F (n := 4) (As := [.int w0, .int v7, .int v6, .int 1]) (rest := []) (c_X6_put l g hg w0 v7 v6 1 S S180 hc180) gw_X6_166 (by decide +kernel) ⟨Nat.le_of_ble_eq_true rfl, Nat.le_of_ble_eq_true rfl⟩ ⟨Nat.le_of_ble_eq_true rfl, Nat.le_of_ble_eq_true rfl⟩ rfl rfl rfl rfl (Nat.le_of_ble_eq_true rfl) dX6_tries_180 ?_
          show J p l e rmX6_tries s m args below meth c g A 10 (MQ below (QC g A (some (.int r)) S') args s 0 0 A) 0 0 183 [(9, .int w0), (0, .ref (g.2.1 13)), (3, .int v3), (4, .int v4), (6, .int v6), (7, .int v7), (8, .int v8)] [] S180
          refine j_iconst F (v := 1) dX6_tries_183 (by decide) ?_
          exact j_zret_e F rfl rfl dX6_tries_184 hm
        · refine j_sub [] rfl ?_
          exact hj170 S  hm
  have hj117 : ∀ (v3 : Int32) (v4 : Int32) (v6 : Int32) (v7 : Int32) (w0 : Int32) (S : Hs), m_X6_tries_J117 v3 v4 v6 v7 w0 S = some ((r, S')) → J p l e rmX6_tries s m args below meth c g A 10 (MQ below (QC g A (some (.int r)) S') args s 0 0 A) 0 0 117 [(0, .ref (g.2.1 13)), (3, .int v3), (4, .int v4), (6, .int v6), (7, .int v7)] [.int w0] S := by
    intro v3 v4 v6 v7 w0 S hm
    unfold m_X6_tries_J117 at hm
    refine j_istore F (lv' := [(8, .int w0), (0, .ref (g.2.1 13)), (3, .int v3), (4, .int v4), (6, .int v6), (7, .int v7)]) dX6_tries_117 (by decide) rfl ?_
    refine j_iload F 0 dX6_tries_119 rfl ?_
    refine j_if_eq F (tgt := 129) dX6_tries_121 (by decide) hm (fun _ hm => ?_) (fun _ hm => ?_)
    · refine j_iload_n F 2 dX6_tries_129 rfl ?_
      refine j_sub [1, 2, 3, 4, 5, 0] rfl ?_
      exact hj130 v3 v4 v6 v7 w0 v3 S  hm
    · refine j_iload F 3 dX6_tries_124 rfl ?_
      refine j_goto F (tgt := 130) dX6_tries_126 (by decide) ?_
      refine j_sub [1, 2, 3, 4, 5, 0] rfl ?_
      exact hj130 v3 v4 v6 v7 w0 v4 S  hm
  refine j_aload_n F 0 dX6_tries_0 rfl ?_
  refine j_getR F (k0 := 1) (C := RX6) (T := TX6) (N := 20) rfl rfl rfl inF6 (by decide) tw520 dX6_tries_1 ?_
  refine j_iconst F (v := 0) dX6_tries_4 (by decide) ?_
  refine j_iald F rfl dX6_tries_5 hm (fun hm => ?_)
  refine j_bnd hm (fun v2_6 hm => ?_)
  refine j_istore_n F (lv' := [(2, .int v2_6), (0, .ref (g.2.1 13)), (1, .int v1)]) dX6_tries_6 (by decide) rfl ?_
  refine j_iload_n F 0 dX6_tries_7 rfl ?_
  refine j_iconst F (v := 3) dX6_tries_8 (by decide) ?_
  refine j_icmp_ge F (tgt := 14) dX6_tries_9 (by decide) hm (fun _ hm => ?_) (fun _ hm => ?_)
  · refine j_iload_n F 2 dX6_tries_14 rfl ?_
    refine j_iconst F (v := 2) dX6_tries_15 (by decide) ?_
    refine j_idiv F dX6_tries_16 (by decide) ?_
    refine j_iload_n F 0 dX6_tries_17 rfl ?_
    obtain ⟨hz18, hm⟩ := gd_ok hm
    refine j_irem F dX6_tries_18 (of_decide_eq_true hz18) ?_
    refine j_bnd hm (fun v3_19 hm => ?_)
    refine j_istore_n F (lv' := [(3, .int v3_19), (2, .int v2_6), (0, .ref (g.2.1 13)), (1, .int v1)]) dX6_tries_19 (by decide) rfl ?_
    refine j_iload_n F 0 dX6_tries_20 rfl ?_
    refine j_iconst F (v := 1) dX6_tries_21 (by decide) ?_
    refine j_iadd F dX6_tries_22 ?_
    refine j_iload_n F 3 dX6_tries_23 rfl ?_
    refine j_bipush F (v := 16) dX6_tries_24 (by decide) ?_
    refine j_idiv F dX6_tries_26 (by decide) ?_
    refine j_iload_n F 1 dX6_tries_27 rfl ?_
    refine j_iconst F (v := 1) dX6_tries_28 (by decide) ?_
    refine j_isub F dX6_tries_29 ?_
    obtain ⟨hz30, hm⟩ := gd_ok hm
    refine j_irem F dX6_tries_30 (of_decide_eq_true hz30) ?_
    refine j_iadd F dX6_tries_31 ?_
    refine j_iload_n F 1 dX6_tries_32 rfl ?_
    obtain ⟨hz33, hm⟩ := gd_ok hm
    refine j_irem F dX6_tries_33 (of_decide_eq_true hz33) ?_
    refine j_bnd hm (fun v4_34 hm => ?_)
    refine j_istore F (lv' := [(4, .int v4_34), (3, .int v3_19), (2, .int v2_6), (0, .ref (g.2.1 13)), (1, .int v1)]) dX6_tries_34 (by decide) rfl ?_
    refine j_iload_n F 4 dX6_tries_36 rfl ?_
    refine j_sipush F (v := 128) dX6_tries_37 (by decide) ?_
    refine j_idiv F dX6_tries_40 (by decide) ?_
    refine j_iload_n F 2 dX6_tries_41 rfl ?_
    refine j_iconst F (v := 2) dX6_tries_42 (by decide) ?_
    refine j_isub F dX6_tries_43 ?_
    obtain ⟨hz44, hm⟩ := gd_ok hm
    refine j_irem F dX6_tries_44 (of_decide_eq_true hz44) ?_
    refine j_bnd hm (fun v5_45 hm => ?_)
    refine j_istore F (lv' := [(5, .int v5_45), (4, .int v4_34), (3, .int v3_19), (2, .int v2_6), (0, .ref (g.2.1 13)), (1, .int v1)]) dX6_tries_45 (by decide) rfl ?_
    refine j_bipush F (v := -9) dX6_tries_47 (by decide) ?_
    refine j_istore F (lv' := [(6, .int ((-9))), (5, .int v5_45), (4, .int v4_34), (3, .int v3_19), (2, .int v2_6), (0, .ref (g.2.1 13)), (1, .int v1)]) dX6_tries_49 (by decide) rfl ?_
    refine j_iconst F (v := 0) dX6_tries_51 (by decide) ?_
    refine j_istore F (lv' := [(7, .int 0), (6, .int ((-9))), (5, .int v5_45), (4, .int v4_34), (3, .int v3_19), (2, .int v2_6), (0, .ref (g.2.1 13)), (1, .int v1)]) dX6_tries_52 (by decide) rfl ?_
    refine j_sub [6, 7, 5, 4, 3, 2, 1, 0] rfl ?_
    obtain ⟨y54, hlp54, hm⟩ := Option.bind_eq_some_iff.mp hm
    refine loopO_walk (fun x => m_X6_tries_L54 v1 v2_6 v3_19 v4_34 S x.1 x.2.1 x.2.2) (fun x => J p l e rmX6_tries s m args below meth c g A 10 (MQ below (QC g A (some (.int r)) S') args s 0 0 A) 0 0 54 [(0, .ref (g.2.1 13)), (1, .int v1), (2, .int v2_6), (3, .int v3_19), (4, .int v4_34), (5, .int x.1), (6, .int x.2.1), (7, .int x.2.2)] [] S) (fun x => J p l e rmX6_tries s m args below meth c g A 10 (MQ below (QC g A (some (.int r)) S') args s 0 0 A) 0 0 96 [(0, .ref (g.2.1 13)), (1, .int v1), (3, .int v3_19), (4, .int v4_34), (6, .int x)] [] S) (fun x o1 hm hk1 => ?_) hlp54 ?_
    · obtain ⟨v5, v6, v7⟩ := x
      replace hm : m_X6_tries_L54 v1 v2_6 v3_19 v4_34 S v5 v6 v7 = some o1 := hm
      show J p l e rmX6_tries s m args below meth c g A 10 (MQ below (QC g A (some (.int r)) S') args s 0 0 A) 0 0 54 [(0, .ref (g.2.1 13)), (1, .int v1), (2, .int v2_6), (3, .int v3_19), (4, .int v4_34), (5, .int v5), (6, .int v6), (7, .int v7)] [] S
      unfold m_X6_tries_L54 at hm
      have hj90 : ∀ (v5 : Int32) (v6 : Int32) (v7 : Int32), m_X6_tries_J90 v1 v2_6 v3_19 v4_34 v5 v6 v7 S = some o1 → J p l e rmX6_tries s m args below meth c g A 10 (MQ below (QC g A (some (.int r)) S') args s 0 0 A) 0 0 90 [(0, .ref (g.2.1 13)), (1, .int v1), (2, .int v2_6), (3, .int v3_19), (4, .int v4_34), (5, .int v5), (6, .int v6), (7, .int v7)] [] S := by
        intro v5 v6 v7 hm
        unfold m_X6_tries_J90 at hm
        refine j_iinc F (v := v7 + 1) (lv' := [(7, .int (v7 + 1)), (0, .ref (g.2.1 13)), (1, .int v1), (2, .int v2_6), (3, .int v3_19), (4, .int v4_34), (5, .int v5), (6, .int v6)]) 7 dX6_tries_90 rfl rfl (by decide) rfl ?_
        refine j_goto F (tgt := 54) dX6_tries_93 (by decide) ?_
        cases hm
        refine j_sub [1, 2, 3, 4, 5, 6, 7, 0] rfl ?_
        exact hk1
      have hj85 : ∀ (v5 : Int32) (v7 : Int32) (w0 : Int32), m_X6_tries_J85 v1 v2_6 v3_19 v4_34 v5 v7 w0 S = some o1 → J p l e rmX6_tries s m args below meth c g A 10 (MQ below (QC g A (some (.int r)) S') args s 0 0 A) 0 0 85 [(0, .ref (g.2.1 13)), (1, .int v1), (2, .int v2_6), (3, .int v3_19), (4, .int v4_34), (5, .int v5), (7, .int v7)] [.int w0] S := by
        intro v5 v7 w0 hm
        unfold m_X6_tries_J85 at hm
        refine j_istore F (lv' := [(6, .int w0), (0, .ref (g.2.1 13)), (1, .int v1), (2, .int v2_6), (3, .int v3_19), (4, .int v4_34), (5, .int v5), (7, .int v7)]) dX6_tries_85 (by decide) rfl ?_
        refine j_iinc F (v := v5 + (-1)) (lv' := [(5, .int (v5 + (-1))), (6, .int w0), (0, .ref (g.2.1 13)), (1, .int v1), (2, .int v2_6), (3, .int v3_19), (4, .int v4_34), (7, .int v7)]) 6 dX6_tries_87 rfl rfl (by decide) rfl ?_
        refine j_sub [2, 3, 4, 5, 6, 0, 1, 7] rfl ?_
        exact hj90 (v5 + (-1)) w0 v7  hm
      refine j_iload F 7 dX6_tries_54 rfl ?_
      refine j_iload_n F 2 dX6_tries_56 rfl ?_
      refine j_icmp_ge F (tgt := 96) dX6_tries_57 (by decide) hm (fun _ hm => ?_) (fun _ hm => ?_)
      · cases hm
        refine j_sub [0, 1, 3, 4, 6] rfl ?_
        exact hk1
      · refine j_iload F 7 dX6_tries_60 rfl ?_
        refine j_iload_n F 3 dX6_tries_62 rfl ?_
        refine j_icmp_eq F (tgt := 90) dX6_tries_63 (by decide) hm (fun _ hm => ?_) (fun _ hm => ?_)
        · refine j_sub [0, 1, 2, 3, 4, 5, 6, 7] rfl ?_
          exact hj90 v5 v6 v7  hm
        · refine j_iload F 7 dX6_tries_66 rfl ?_
          refine j_iload F 4 dX6_tries_68 rfl ?_
          refine j_icmp_eq F (tgt := 90) dX6_tries_70 (by decide) hm (fun _ hm => ?_) (fun _ hm => ?_)
          · refine j_sub [0, 1, 2, 3, 4, 5, 6, 7] rfl ?_
            exact hj90 v5 v6 v7  hm
          · refine j_iload F 5 dX6_tries_73 rfl ?_
            refine j_if_ne F (tgt := 83) dX6_tries_75 (by decide) hm (fun _ hm => ?_) (fun _ hm => ?_)
            · refine j_iload F 6 dX6_tries_83 rfl ?_
              refine j_sub [0, 1, 2, 3, 4, 5, 7] rfl ?_
              exact hj85 v5 v7 v6  hm
            · refine j_iload F 7 dX6_tries_78 rfl ?_
              refine j_goto F (tgt := 85) dX6_tries_80 (by decide) ?_
              refine j_sub [0, 1, 2, 3, 4, 5, 7] rfl ?_
              exact hj85 v5 v7 v7  hm
    · show J p l e rmX6_tries s m args below meth c g A 10 (MQ below (QC g A (some (.int r)) S') args s 0 0 A) 0 0 96 [(0, .ref (g.2.1 13)), (1, .int v1), (3, .int v3_19), (4, .int v4_34), (6, .int y54)] [] S
      refine j_iload_n F 1 dX6_tries_96 rfl ?_
      refine j_sipush F (v := 1024) dX6_tries_97 (by decide) ?_
      refine j_idiv F dX6_tries_100 (by decide) ?_
      refine j_iconst F (v := 4) dX6_tries_101 (by decide) ?_
      refine j_irem F dX6_tries_102 (by decide) ?_
      refine j_bnd hm (fun v7_103 hm => ?_)
      refine j_istore F (lv' := [(7, .int v7_103), (0, .ref (g.2.1 13)), (1, .int v1), (3, .int v3_19), (4, .int v4_34), (6, .int y54)]) dX6_tries_103 (by decide) rfl ?_
      refine j_iload_n F 2 dX6_tries_105 rfl ?_
      refine j_iconst F (v := 2) dX6_tries_106 (by decide) ?_
      refine j_irem F dX6_tries_107 (by decide) ?_
      refine j_iconst F (v := 1) dX6_tries_108 (by decide) ?_
      refine j_icmp_ne F (tgt := 116) dX6_tries_109 (by decide) hm (fun _ hm => ?_) (fun _ hm => ?_)
      · refine j_iconst F (v := 0) dX6_tries_116 (by decide) ?_
        refine j_sub [1, 3, 4, 5, 0] rfl ?_
        exact hj117 v3_19 v4_34 y54 v7_103 0 S  hm
      · refine j_iconst F (v := 1) dX6_tries_112 (by decide) ?_
        refine j_goto F (tgt := 117) dX6_tries_113 (by decide) ?_
        refine j_sub [1, 3, 4, 5, 0] rfl ?_
        exact hj117 v3_19 v4_34 y54 v7_103 1 S  hm
  · refine j_iconst F (v := 0) dX6_tries_12 (by decide) ?_
    exact j_zret_e F rfl rfl dX6_tries_13 hm
def m_X6_simulate_J79 (v3 : Int32) (v4 : Int64) (v7 : Int32) (w0 : Int32) (w1 : Int32) (S : Hs) : Option ((Int64 × Int32 × Int32 × Hs) ⊕ (Int32 × Hs)) := bnd (w1 + w0) fun v6_80 => (some (.inl ((v4, v6_80, v7 + 1, S))))
noncomputable def m_X6_simulate_L41 (v3 : Int32) (v4 : Int64) (v6 : Int32) (v7 : Int32) (S : Hs) : Option ((Int64 × Int32 × Int32 × Hs) ⊕ (Int32 × Hs)) := if v3 ≤ v7 then (some (.inr ((v6, S)))) else (bnd ((v4 * 6364136223846793005) + 1442695040888963407) fun v4_57 => (bndE (m_X6_tries ((lushr v4_57 33).toInt32) S) fun r68 S68 => (if r68 = 0 then (m_X6_simulate_J79 v3 v4_57 v7 0 v6 S68) else (m_X6_simulate_J79 v3 v4_57 v7 1 v6 S68))))
noncomputable def m_X6_simulate_J16 (v1 : Int64) (v3 : Int32) (w0 : Int32) (S : Hs) : Option (Int32 × Hs) := bnd (sI S 13 0 w0) fun S16 => (if (gI S16 13 0) ≤ 0 then ((m_X6_putAside  S16).bind fun S29 => ((loopO (fun x => m_X6_simulate_L41 v3 x.1 x.2.1 x.2.2.1 x.2.2.2) ((v1, 0, 0, S29))).bind fun y41 => (m_X6_rightsMany  y41.2).bind fun r89 => ((m_X6_bringBack  y41.2).bind fun S95 => (some (((100 * y41.1) + r89, S95)))))) else (some ((0, S16))))
noncomputable def m_X6_simulate (v1 : Int64) (v3 : Int32) (S : Hs) : Option (Int32 × Hs) := (m_X6_in v3 1 99).bind fun r5 => (if r5 = 0 then (m_X6_simulate_J16 v1 v3 1 S) else (m_X6_simulate_J16 v1 v3 0 S))
set_option maxRecDepth 100000 in
set_option maxHeartbeats 4000000 in
theorem c_X6_simulate (l : Launch) (g : GG) (hg : Inj g) (v1 : Int64) (v3 : Int32)  (S : Hs) (r : Int32) (S' : Hs) (hm : m_X6_simulate v1 v3 S = some ((r, S'))) : CM l yX6_simulate [.code yX6_simulate cX6_simulate 8 (some .int)] rmX6_simulate [.ref (g.2.1 13), .long v1, .int v3] g S (some (.int r)) S' := by
  unfold m_X6_simulate at hm
  refine CM.of (cc := cX6_simulate) (nL := 8) (ret := (some .int)) (lv := [(0, .ref (g.2.1 13)), (1, .long v1), (3, .int v3)]) (by decide +kernel) hg (Nat.le_of_ble_eq_true rfl) rfl (fun p e s m args below meth c A F => ?_)
  replace F : Fx p s m meth c cX6_simulate RX6 8 (some .int) g A := F
  show J p l e rmX6_simulate s m args below meth c g A 8 (MQ below (QC g A (some (.int r)) S') args s 0 0 A) 0 0 0 [(0, .ref (g.2.1 13)), (1, .long v1), (3, .int v3)] [] S
  have hj16 : ∀ (v1 : Int64) (v3 : Int32) (w0 : Int32) (S : Hs), m_X6_simulate_J16 v1 v3 w0 S = some ((r, S')) → J p l e rmX6_simulate s m args below meth c g A 8 (MQ below (QC g A (some (.int r)) S') args s 0 0 A) 0 0 16 [(0, .ref (g.2.1 13)), (1, .long v1), (3, .int v3)] [.int w0, .ref (g.2.1 13)] S := by
    intro v1 v3 w0 S hm
    unfold m_X6_simulate_J16 at hm
    refine j_putI F (k0 := 0) (C := RX6) (T := TX6) (N := 20) tyX6 tyX6_ok nmX6 rfl rfl rfl inF6 (by decide) tw535 rfl (by decide +kernel) dX6_simulate_16 ?_
    refine j_bndS hm (fun S16 hm => ?_)
    refine j_aload_n F 0 dX6_simulate_19 rfl ?_
    refine j_getI F (k0 := 0) (C := RX6) (T := TX6) (N := 20) rfl rfl rfl inF6 (by decide) tw535 dX6_simulate_20 ?_
    refine j_if_le F (tgt := 28) dX6_simulate_23 (by decide) hm (fun _ hm => ?_) (fun _ hm => ?_)
    · refine j_aload_n F 0 dX6_simulate_28 rfl ?_
      obtain ⟨S29, hc29, hm⟩ := Option.bind_eq_some_iff.mp hm
      refine j_callV F (n := 0) (As := []) (rest := []) (c_X6_putAside l g hg S16 S29 hc29) gw_X6_208 (by decide +kernel) ⟨Nat.le_of_ble_eq_true rfl, Nat.le_of_ble_eq_true rfl⟩ ⟨Nat.le_of_ble_eq_true rfl, Nat.le_of_ble_eq_true rfl⟩ rfl rfl rfl rfl (Nat.le_of_ble_eq_true rfl) dX6_simulate_29 ?_
      show J p l e rmX6_simulate s m args below meth c g A 8 (MQ below (QC g A (some (.int r)) S') args s 0 0 A) 0 0 32 [(0, .ref (g.2.1 13)), (1, .long v1), (3, .int v3)] [] S29
      refine j_lload_n F 1 dX6_simulate_32 rfl ?_
      refine j_lstore F (lv' := [(4, .long v1), (0, .ref (g.2.1 13)), (1, .long v1), (3, .int v3)]) dX6_simulate_33 (by decide) rfl ?_
      refine j_iconst F (v := 0) dX6_simulate_35 (by decide) ?_
      refine j_istore F (lv' := [(6, .int 0), (4, .long v1), (0, .ref (g.2.1 13)), (1, .long v1), (3, .int v3)]) dX6_simulate_36 (by decide) rfl ?_
      refine j_iconst F (v := 0) dX6_simulate_38 (by decide) ?_
      refine j_istore F (lv' := [(7, .int 0), (6, .int 0), (4, .long v1), (0, .ref (g.2.1 13)), (1, .long v1), (3, .int v3)]) dX6_simulate_39 (by decide) rfl ?_
      refine j_sub [3, 5, 2, 1, 0] rfl ?_
      obtain ⟨y41, hlp41, hm⟩ := Option.bind_eq_some_iff.mp hm
      refine loopO_walk (fun x => m_X6_simulate_L41 v3 x.1 x.2.1 x.2.2.1 x.2.2.2) (fun x => J p l e rmX6_simulate s m args below meth c g A 8 (MQ below (QC g A (some (.int r)) S') args s 0 0 A) 0 0 41 [(0, .ref (g.2.1 13)), (3, .int v3), (4, .long x.1), (6, .int x.2.1), (7, .int x.2.2.1)] [] x.2.2.2) (fun x => J p l e rmX6_simulate s m args below meth c g A 8 (MQ below (QC g A (some (.int r)) S') args s 0 0 A) 0 0 88 [(0, .ref (g.2.1 13)), (6, .int x.1)] [] x.2) (fun x o1 hm hk1 => ?_) hlp41 ?_
      · obtain ⟨v4, v6, v7, S⟩ := x
        replace hm : m_X6_simulate_L41 v3 v4 v6 v7 S = some o1 := hm
        show J p l e rmX6_simulate s m args below meth c g A 8 (MQ below (QC g A (some (.int r)) S') args s 0 0 A) 0 0 41 [(0, .ref (g.2.1 13)), (3, .int v3), (4, .long v4), (6, .int v6), (7, .int v7)] [] S
        unfold m_X6_simulate_L41 at hm
        have hj79 : ∀ (v4 : Int64) (v7 : Int32) (w0 : Int32) (w1 : Int32) (S : Hs), m_X6_simulate_J79 v3 v4 v7 w0 w1 S = some o1 → J p l e rmX6_simulate s m args below meth c g A 8 (MQ below (QC g A (some (.int r)) S') args s 0 0 A) 0 0 79 [(0, .ref (g.2.1 13)), (3, .int v3), (4, .long v4), (7, .int v7)] [.int w0, .int w1] S := by
          intro v4 v7 w0 w1 S hm
          unfold m_X6_simulate_J79 at hm
          refine j_iadd F dX6_simulate_79 ?_
          refine j_bnd hm (fun v6_80 hm => ?_)
          refine j_istore F (lv' := [(6, .int v6_80), (0, .ref (g.2.1 13)), (3, .int v3), (4, .long v4), (7, .int v7)]) dX6_simulate_80 (by decide) rfl ?_
          refine j_iinc F (v := v7 + 1) (lv' := [(7, .int (v7 + 1)), (6, .int v6_80), (0, .ref (g.2.1 13)), (3, .int v3), (4, .long v4)]) 4 dX6_simulate_82 rfl rfl (by decide) rfl ?_
          refine j_goto F (tgt := 41) dX6_simulate_85 (by decide) ?_
          cases hm
          refine j_sub [2, 3, 4, 1, 0] rfl ?_
          exact hk1
        refine j_iload F 4 dX6_simulate_41 rfl ?_
        refine j_iload_n F 1 dX6_simulate_43 rfl ?_
        refine j_icmp_ge F (tgt := 88) dX6_simulate_44 (by decide) hm (fun _ hm => ?_) (fun _ hm => ?_)
        · cases hm
          refine j_sub [0, 3] rfl ?_
          exact hk1
        · refine j_lload F 2 dX6_simulate_47 rfl ?_
          refine j_ldc2 F (v := 6364136223846793005) dX6_simulate_49 tw733 ?_
          refine j_lmul F dX6_simulate_52 ?_
          refine j_ldc2 F (v := 1442695040888963407) dX6_simulate_53 tw734 ?_
          refine j_ladd F dX6_simulate_56 ?_
          refine j_bndl hm (fun v4_57 hm => ?_)
          refine j_lstore F (lv' := [(4, .long v4_57), (0, .ref (g.2.1 13)), (3, .int v3), (6, .int v6), (7, .int v7)]) dX6_simulate_57 (by decide) rfl ?_
          refine j_iload F 3 dX6_simulate_59 rfl ?_
          refine j_aload_n F 1 dX6_simulate_61 rfl ?_
          refine j_lload F 0 dX6_simulate_62 rfl ?_
          refine j_bipush F (v := 33) dX6_simulate_64 (by decide) ?_
          refine j_lushr F dX6_simulate_66 ?_
          refine j_l2i F dX6_simulate_67 ?_
          obtain ⟨r68, S68, hc68, hm⟩ := bndE_ok hm
          refine j_callV F (n := 1) (As := [.int ((lushr v4_57 33).toInt32)]) (rest := [.int v6]) (c_X6_tries l g hg ((lushr v4_57 33).toInt32) S r68 S68 hc68) gw_X6_221 (by decide +kernel) ⟨Nat.le_of_ble_eq_true rfl, Nat.le_of_ble_eq_true rfl⟩ ⟨Nat.le_of_ble_eq_true rfl, Nat.le_of_ble_eq_true rfl⟩ rfl rfl rfl rfl (Nat.le_of_ble_eq_true rfl) dX6_simulate_68 ?_
          show J p l e rmX6_simulate s m args below meth c g A 8 (MQ below (QC g A (some (.int r)) S') args s 0 0 A) 0 0 71 [(4, .long v4_57), (0, .ref (g.2.1 13)), (3, .int v3), (6, .int v6), (7, .int v7)] [.int r68, .int v6] S68
          refine j_if_eq F (tgt := 78) dX6_simulate_71 (by decide) hm (fun _ hm => ?_) (fun _ hm => ?_)
          · refine j_iconst F (v := 0) dX6_simulate_78 (by decide) ?_
            refine j_sub [1, 2, 0, 4] rfl ?_
            exact hj79 v4_57 v7 0 v6 S68  hm
          · refine j_iconst F (v := 1) dX6_simulate_74 (by decide) ?_
            refine j_goto F (tgt := 79) dX6_simulate_75 (by decide) ?_
            refine j_sub [1, 2, 0, 4] rfl ?_
            exact hj79 v4_57 v7 1 v6 S68  hm
      · show J p l e rmX6_simulate s m args below meth c g A 8 (MQ below (QC g A (some (.int r)) S') args s 0 0 A) 0 0 88 [(0, .ref (g.2.1 13)), (6, .int y41.1)] [] y41.2
        refine j_aload_n F 0 dX6_simulate_88 rfl ?_
        obtain ⟨r89, hc89, hm⟩ := Option.bind_eq_some_iff.mp hm
        refine j_callV F (n := 0) (As := []) (rest := []) (c_X6_rightsMany l g hg y41.2 r89 hc89) gw_X6_64 (by decide +kernel) ⟨Nat.le_of_ble_eq_true rfl, Nat.le_of_ble_eq_true rfl⟩ ⟨Nat.le_of_ble_eq_true rfl, Nat.le_of_ble_eq_true rfl⟩ rfl rfl rfl rfl (Nat.le_of_ble_eq_true rfl) dX6_simulate_89 ?_
        show J p l e rmX6_simulate s m args below meth c g A 8 (MQ below (QC g A (some (.int r)) S') args s 0 0 A) 0 0 92 [(0, .ref (g.2.1 13)), (6, .int y41.1)] [.int r89] y41.2
        refine j_istore F (lv' := [(7, .int r89), (0, .ref (g.2.1 13)), (6, .int y41.1)]) dX6_simulate_92 (by decide) rfl ?_
        refine j_aload_n F 1 dX6_simulate_94 rfl ?_
        obtain ⟨S95, hc95, hm⟩ := Option.bind_eq_some_iff.mp hm
        refine j_callV F (n := 0) (As := []) (rest := []) (c_X6_bringBack l g hg y41.2 S95 hc95) gw_X6_214 (by decide +kernel) ⟨Nat.le_of_ble_eq_true rfl, Nat.le_of_ble_eq_true rfl⟩ ⟨Nat.le_of_ble_eq_true rfl, Nat.le_of_ble_eq_true rfl⟩ rfl rfl rfl rfl (Nat.le_of_ble_eq_true rfl) dX6_simulate_95 ?_
        show J p l e rmX6_simulate s m args below meth c g A 8 (MQ below (QC g A (some (.int r)) S') args s 0 0 A) 0 0 98 [(7, .int r89), (0, .ref (g.2.1 13)), (6, .int y41.1)] [] S95
        refine j_bipush F (v := 100) dX6_simulate_98 (by decide) ?_
        refine j_iload F 2 dX6_simulate_100 rfl ?_
        refine j_imul F dX6_simulate_102 ?_
        refine j_iload F 0 dX6_simulate_103 rfl ?_
        refine j_iadd F dX6_simulate_105 ?_
        exact j_iret_e F rfl dX6_simulate_106 hm
    · refine j_iconst F (v := 0) dX6_simulate_26 (by decide) ?_
      exact j_iret_e F rfl dX6_simulate_27 hm
  refine j_aload_n F 0 dX6_simulate_0 rfl ?_
  refine j_iload_n F 2 dX6_simulate_1 rfl ?_
  refine j_iconst F (v := 1) dX6_simulate_2 (by decide) ?_
  refine j_bipush F (v := 99) dX6_simulate_3 (by decide) ?_
  obtain ⟨r5, hc5, hm⟩ := Option.bind_eq_some_iff.mp hm
  refine j_callS F (n := 3) (As := [.int v3, .int 1, .int 99]) (rest := [.ref (g.2.1 13)]) (c_X6_in l g hg v3 1 99 S r5 hc5) gw_X6_60 (by decide +kernel) ⟨Nat.le_of_ble_eq_true rfl, Nat.le_of_ble_eq_true rfl⟩ ⟨Nat.le_of_ble_eq_true rfl, Nat.le_of_ble_eq_true rfl⟩ rfl rfl (Nat.le_of_ble_eq_true rfl) dX6_simulate_5 ?_
  show J p l e rmX6_simulate s m args below meth c g A 8 (MQ below (QC g A (some (.int r)) S') args s 0 0 A) 0 0 8 [(0, .ref (g.2.1 13)), (1, .long v1), (3, .int v3)] [.int r5, .ref (g.2.1 13)] S
  refine j_if_eq F (tgt := 15) dX6_simulate_8 (by decide) hm (fun _ hm => ?_) (fun _ hm => ?_)
  · refine j_iconst F (v := 1) dX6_simulate_15 (by decide) ?_
    refine j_sub [0, 1, 2] rfl ?_
    exact hj16 v1 v3 1 S  hm
  · refine j_iconst F (v := 0) dX6_simulate_11 (by decide) ?_
    refine j_goto F (tgt := 16) dX6_simulate_12 (by decide) ?_
    refine j_sub [0, 1, 2] rfl ?_
    exact hj16 v1 v3 0 S  hm
