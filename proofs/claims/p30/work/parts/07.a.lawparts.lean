def m_L_cell_J19 (L : Nat) (xs : Nat → Int32) (w0 : Int32) (S : Hs) : Option (Int32) := some w0
def m_L_cell (L : Nat) (xs : Nat → Int32) (v1 : Int32) (S : Hs) : Option (Int32) := if (Int32.ofNat L) ≤ v1 then (m_L_cell_J19 L xs ((32452867 * v1) + 86028121) S) else (gd (inb v1 L) (m_L_cell_J19 L xs (xs v1.toNatClampNeg) S))
set_option maxRecDepth 100000 in
set_option maxHeartbeats 4000000 in
theorem c_L_cell (l : Launch) (g : GG) (hg : Inj g) (L : Nat) (xs : Nat → Int32) (hLx : g.2.2.2 = (L, xs)) (v1 : Int32)  (S : Hs) (r : Int32) (hm : m_L_cell L xs v1 S = some r) : CM l yL_cell [.code yL_cell cL_cell 2 (some .int)] rmL_cell [.ref (g.2.1 100), .int v1] g S (some (.int r)) S := by
  unfold m_L_cell at hm
  refine CM.of (cc := cL_cell) (nL := 2) (ret := (some .int)) (lv := [(0, .ref (g.2.1 100)), (1, .int v1)]) (by decide +kernel) hg (Nat.le_of_ble_eq_true rfl) rfl (fun p e s m args below meth c A F => ?_)
  replace F : Fx p s m meth c cL_cell RL 2 (some .int) g A := F
  show J p l e rmL_cell s m args below meth c g A 2 (MQ below (QC g A (some (.int r)) S) args s 0 0 A) 0 0 0 [(0, .ref (g.2.1 100)), (1, .int v1)] [] S
  have hj19 : ∀ (w0 : Int32) (S : Hs), m_L_cell_J19 L xs w0 S = some r → J p l e rmL_cell s m args below meth c g A 2 (MQ below (QC g A (some (.int r)) S) args s 0 0 A) 0 0 19 [] [.int w0] S := by
    intro w0 S hm
    unfold m_L_cell_J19 at hm
    exact j_iret_p F rfl dL_cell_19 hm
  refine j_iload_n F 1 dL_cell_0 rfl ?_
  refine j_aload_n F 0 dL_cell_1 rfl ?_
  refine j_slen F hLx dL_cell_2 ?_
  refine j_icmp_ge F (tgt := 12) dL_cell_3 (by decide) hm (fun _ hm => ?_) (fun _ hm => ?_)
  · refine j_ldc F (v := 32452867) dL_cell_12 tw307 ?_
    refine j_iload_n F 1 dL_cell_14 rfl ?_
    refine j_imul F dL_cell_15 ?_
    refine j_ldc F (v := 86028121) dL_cell_16 tw308 ?_
    refine j_iadd F dL_cell_18 ?_
    refine j_sub [] rfl ?_
    exact hj19 ((32452867 * v1) + 86028121) S  hm
  · refine j_aload_n F 0 dL_cell_6 rfl ?_
    refine j_iload_n F 1 dL_cell_7 rfl ?_
    obtain ⟨hin8, hm⟩ := gd_ok hm
    refine j_sld F hLx (inb_in hin8) dL_cell_8 ?_
    refine j_goto F (tgt := 19) dL_cell_9 (by decide) ?_
    refine j_sub [] rfl ?_
    exact hj19 (xs v1.toNatClampNeg) S  hm
def m_L_low (v0 : Int32) (v1 : Int32) : Option (Int32) := gd (decide (¬ v1 = 0)) (some (irm (v0 &&& 2147483647) v1))
set_option maxRecDepth 100000 in
set_option maxHeartbeats 4000000 in
theorem c_L_low (l : Launch) (g : GG) (hg : Inj g) (v0 : Int32) (v1 : Int32)  (S : Hs) (r : Int32) (hm : m_L_low v0 v1 = some r) : CM l yL_low [.code yL_low cL_low 2 (some .int)] rmL_low [.int v0, .int v1] g S (some (.int r)) S := by
  unfold m_L_low at hm
  refine CM.of (cc := cL_low) (nL := 2) (ret := (some .int)) (lv := [(0, .int v0), (1, .int v1)]) (by decide +kernel) hg (Nat.le_of_ble_eq_true rfl) rfl (fun p e s m args below meth c A F => ?_)
  replace F : Fx p s m meth c cL_low RL 2 (some .int) g A := F
  show J p l e rmL_low s m args below meth c g A 2 (MQ below (QC g A (some (.int r)) S) args s 0 0 A) 0 0 0 [(0, .int v0), (1, .int v1)] [] S
  refine j_iload_n F 0 dL_low_0 rfl ?_
  refine j_ldc F (v := 2147483647) dL_low_1 tw310 ?_
  refine j_iand F dL_low_3 ?_
  refine j_iload_n F 1 dL_low_4 rfl ?_
  obtain ⟨hz5, hm⟩ := gd_ok hm
  refine j_irem F dL_low_5 (of_decide_eq_true hz5) ?_
  exact j_iret_p F rfl dL_low_6 hm
def m_L_build_J114 (L : Nat) (xs : Nat → Int32) (v2 : Int32) (v3 : Int32) (v4 : Int32) (v5 : Int32) (S : Hs) : Option ((Int32 × Int32 × Hs) ⊕ (Int32 × Hs)) := some (.inl ((v3, v5 + 1, S)))
def m_L_build_J113 (L : Nat) (xs : Nat → Int32) (v2 : Int32) (v4 : Int32) (v5 : Int32) (w0 : Int32) (S : Hs) : Option ((Int32 × Int32 × Hs) ⊕ (Int32 × Hs)) := m_L_build_J114 L xs v2 w0 v4 v5 S
def m_L_build_J112 (L : Nat) (xs : Nat → Int32) (v2 : Int32) (v4 : Int32) (v5 : Int32) (S : Hs) : Option ((Int32 × Int32 × Hs) ⊕ (Int32 × Hs)) := m_L_build_J113 L xs v2 v4 v5 0 S
noncomputable def m_L_build_J55 (L : Nat) (xs : Nat → Int32) (v2 : Int32) (v4 : Int32) (v5 : Int32) (w0 : Int32) (S : Hs) : Option ((Int32 × Int32 × Hs) ⊕ (Int32 × Hs)) := (m_L_low (v4 >>> (((3 * v5) + 1) &&& 31)) 6).bind fun r67 => (if r67 = 0 then (bndX (m_X5_thing v5 0 S) (fun r77 S77 => (if r77 = 1 then (if w0 = 0 then (m_L_build_J112 L xs v2 v4 v5 S77) else (bndX (m_X5_wake v5 0 S77) (fun r92 S92 => (if r92 = 0 then (bndX (m_X5_thing v5 1 S92) (fun r102 S102 => (if r102 = 0 then (m_L_build_J113 L xs v2 v4 v5 1 S102) else (m_L_build_J112 L xs v2 v4 v5 S102))) (fun q S102 => none)) else (m_L_build_J112 L xs v2 v4 v5 S92))) (fun q S92 => none))) else (m_L_build_J114 L xs v2 w0 v4 v5 S77))) (fun q S77 => none)) else (m_L_build_J114 L xs v2 w0 v4 v5 S))
noncomputable def m_L_build_J42 (L : Nat) (xs : Nat → Int32) (v2 : Int32) (v4 : Int32) (v5 : Int32) (w0 : Int32) (S : Hs) : Option ((Int32 × Int32 × Hs) ⊕ (Int32 × Hs)) := bndX (m_X5_addThing w0 S) (fun r42 S42 => (if r42 = v5 then (m_L_build_J55 L xs v2 v4 v5 1 S42) else (m_L_build_J55 L xs v2 v4 v5 0 S42))) (fun q S42 => none)
noncomputable def m_L_build_L12 (L : Nat) (xs : Nat → Int32) (v2 : Int32) (v4 : Int32) (v3 : Int32) (v5 : Int32) (S : Hs) : Option ((Int32 × Int32 × Hs) ⊕ (Int32 × Hs)) := if v2 ≤ v5 then (some (.inr ((v3, S)))) else (if v3 = 0 then (some (.inr ((v3, S)))) else ((m_L_low (v4 >>> ((3 * v5) &&& 31)) 5).bind fun r31 => (if r31 ≤ 0 then (m_L_build_J42 L xs v2 v4 v5 0 S) else (m_L_build_J42 L xs v2 v4 v5 1 S))))
def m_L_build_J284 (L : Nat) (xs : Nat → Int32) (v2 : Int32) (v3 : Int32) (v5 : Int32) (v6 : Int32) (S : Hs) : Option ((Int32 × Int32 × Hs) ⊕ (Int32 × Hs)) := some (.inl ((v3, v6 + 1, S)))
def m_L_build_J283 (L : Nat) (xs : Nat → Int32) (v2 : Int32) (v5 : Int32) (v6 : Int32) (w0 : Int32) (S : Hs) : Option ((Int32 × Int32 × Hs) ⊕ (Int32 × Hs)) := m_L_build_J284 L xs v2 w0 v5 v6 S
def m_L_build_J282 (L : Nat) (xs : Nat → Int32) (v2 : Int32) (v5 : Int32) (v6 : Int32) (S : Hs) : Option ((Int32 × Int32 × Hs) ⊕ (Int32 × Hs)) := m_L_build_J283 L xs v2 v5 v6 0 S
noncomputable def m_L_build_J256 (L : Nat) (xs : Nat → Int32) (v2 : Int32) (v5 : Int32) (v6 : Int32) (v8 : Int32) (v9 : Int32) (v10 : Int32) (v11 : Int32) (w0 : Int32) (w1 : Int32) (S : Hs) : Option ((Int32 × Int32 × Hs) ⊕ (Int32 × Hs)) := if w1 = w0 then (bndX (m_X5_rights v8 v9 0 S) (fun r265 S265 => (if r265 = (v11 ||| (1 <<< (v10 &&& 31))) then (m_L_build_J283 L xs v2 v5 v6 1 S265) else (m_L_build_J282 L xs v2 v5 v6 S265))) (fun q S265 => none)) else (m_L_build_J282 L xs v2 v5 v6 S)
noncomputable def m_L_build_J209 (L : Nat) (xs : Nat → Int32) (v2 : Int32) (v3 : Int32) (v5 : Int32) (v6 : Int32) (v8 : Int32) (v9 : Int32) (w0 : Int32) (S : Hs) : Option ((Int32 × Int32 × Hs) ⊕ (Int32 × Hs)) := if v8 = v9 then (m_L_build_J284 L xs v2 v3 v5 v6 S) else (bndX (m_X5_rights v8 v9 0 S) (fun r224 S224 => (bndX (m_X5_set v8 w0 v9 1 S224) (fun r237 S237 => (if ((r224 >>> (w0 &&& 31)) &&& 1) = 1 then (m_L_build_J256 L xs v2 v5 v6 v8 v9 w0 r224 1 r237 S237) else (m_L_build_J256 L xs v2 v5 v6 v8 v9 w0 r224 0 r237 S237))) (fun q S237 => none))) (fun q S224 => none))
noncomputable def m_L_build_L137 (L : Nat) (xs : Nat → Int32) (v2 : Int32) (v5 : Int32) (v3 : Int32) (v6 : Int32) (S : Hs) : Option ((Int32 × Int32 × Hs) ⊕ (Int32 × Hs)) := if v5 ≤ v6 then (some (.inr ((v3, S)))) else (if v3 = 0 then (some (.inr ((v3, S)))) else ((m_L_cell L xs (4 + v6) S).bind fun r153 => ((m_L_low r153 v2).bind fun r161 => ((m_L_low (r153 >>> (4 &&& 31)) v2).bind fun r171 => ((m_L_low (r153 >>> (8 &&& 31)) 3).bind fun r182 => (if r182 ≤ 0 then ((m_L_low (r153 >>> (11 &&& 31)) 4).bind fun r206 => (m_L_build_J209 L xs v2 v3 v5 v6 r161 r171 r206 S)) else ((m_L_low (r153 >>> (11 &&& 31)) 2).bind fun r194 => (m_L_build_J209 L xs v2 v3 v5 v6 r161 r171 r194 S))))))))
def m_L_build_J290 (L : Nat) (xs : Nat → Int32) (v3 : Int32) (S : Hs) : Option (Int32 × Hs) := gd (decide (v3 = 0 ∨ v3 = 1)) (some ((v3, S)))
noncomputable def m_L_build_J120 (L : Nat) (xs : Nat → Int32) (v2 : Int32) (v3 : Int32) (S : Hs) : Option (Int32 × Hs) := (m_L_cell L xs 2 S).bind fun r123 => ((m_L_low r123 9).bind fun r128 => (bnd (3 + r128) fun v5_132 => ((loopO (fun x => m_L_build_L137 L xs v2 v5_132 x.1 x.2.1 x.2.2) ((v3, 0, S))).bind fun y137 => m_L_build_J290 L xs y137.1 y137.2)))
noncomputable def m_L_build (L : Nat) (xs : Nat → Int32) (v2 : Int32) (S : Hs) : Option (Int32 × Hs) := (m_L_cell L xs 1 S).bind fun r4 => ((loopO (fun x => m_L_build_L12 L xs v2 r4 x.1 x.2.1 x.2.2) ((1, 0, S))).bind fun y12 => m_L_build_J120 L xs v2 y12.1 y12.2)
set_option maxRecDepth 100000 in
set_option maxHeartbeats 4000000 in
theorem c_L_build (l : Launch) (g : GG) (hg : Inj g) (L : Nat) (xs : Nat → Int32) (hLx : g.2.2.2 = (L, xs)) (v2 : Int32)  (S : Hs) (r : Int32) (S' : Hs) (hm : m_L_build L xs v2 S = some ((r, S'))) : CM l yL_build [.code yL_build cL_build 12 (some .boolean)] rmL_build [.ref (g.2.1 0), .ref (g.2.1 100), .int v2] g S (some (.int r)) S' := by
  unfold m_L_build at hm
  refine CM.of (cc := cL_build) (nL := 12) (ret := (some .boolean)) (lv := [(0, .ref (g.2.1 0)), (1, .ref (g.2.1 100)), (2, .int v2)]) (by decide +kernel) hg (Nat.le_of_ble_eq_true rfl) rfl (fun p e s m args below meth c A F => ?_)
  replace F : Fx p s m meth c cL_build RL 12 (some .boolean) g A := F
  show J p l e rmL_build s m args below meth c g A 12 (MQ below (QC g A (some (.int r)) S') args s 0 0 A) 0 0 0 [(0, .ref (g.2.1 0)), (1, .ref (g.2.1 100)), (2, .int v2)] [] S
  have hj290 : ∀ (v3 : Int32) (S : Hs), m_L_build_J290 L xs v3 S = some ((r, S')) → J p l e rmL_build s m args below meth c g A 12 (MQ below (QC g A (some (.int r)) S') args s 0 0 A) 0 0 290 [(3, .int v3)] [] S := by
    intro v3 S hm
    unfold m_L_build_J290 at hm
    refine j_iload_n F 0 dL_build_290 rfl ?_
    obtain ⟨hb, hm⟩ := gd_ok hm
    exact j_zret_e F rfl (z_nar hb) dL_build_291 hm
  have hj120 : ∀ (v2 : Int32) (v3 : Int32) (S : Hs), m_L_build_J120 L xs v2 v3 S = some ((r, S')) → J p l e rmL_build s m args below meth c g A 12 (MQ below (QC g A (some (.int r)) S') args s 0 0 A) 0 0 120 [(0, .ref (g.2.1 0)), (1, .ref (g.2.1 100)), (2, .int v2), (3, .int v3)] [] S := by
    intro v2 v3 S hm
    unfold m_L_build_J120 at hm
    refine j_iconst F (v := 3) dL_build_120 (by decide) ?_
    refine j_aload_n F 1 dL_build_121 rfl ?_
    refine j_iconst F (v := 2) dL_build_122 (by decide) ?_
    obtain ⟨r123, hc123, hm⟩ := Option.bind_eq_some_iff.mp hm
    refine j_callS F (n := 2) (As := [.ref (g.2.1 100), .int 2]) (rest := [.int 3]) (c_L_cell l g hg L xs hLx 2 S r123 hc123) gw_L_10 (by decide +kernel) ⟨Nat.le_of_ble_eq_true rfl, Nat.le_of_ble_eq_true rfl⟩ ⟨Nat.le_of_ble_eq_true rfl, Nat.le_of_ble_eq_true rfl⟩ rfl rfl (Nat.le_of_ble_eq_true rfl) dL_build_123 ?_
    show J p l e rmL_build s m args below meth c g A 12 (MQ below (QC g A (some (.int r)) S') args s 0 0 A) 0 0 126 [(0, .ref (g.2.1 0)), (1, .ref (g.2.1 100)), (2, .int v2), (3, .int v3)] [.int r123, .int 3] S
    refine j_bipush F (v := 9) dL_build_126 (by decide) ?_
    obtain ⟨r128, hc128, hm⟩ := Option.bind_eq_some_iff.mp hm
    refine j_callS F (n := 2) (As := [.int r123, .int 9]) (rest := [.int 3]) (c_L_low l g hg r123 9 S r128 hc128) gw_L_16 (by decide +kernel) ⟨Nat.le_of_ble_eq_true rfl, Nat.le_of_ble_eq_true rfl⟩ ⟨Nat.le_of_ble_eq_true rfl, Nat.le_of_ble_eq_true rfl⟩ rfl rfl (Nat.le_of_ble_eq_true rfl) dL_build_128 ?_
    show J p l e rmL_build s m args below meth c g A 12 (MQ below (QC g A (some (.int r)) S') args s 0 0 A) 0 0 131 [(0, .ref (g.2.1 0)), (1, .ref (g.2.1 100)), (2, .int v2), (3, .int v3)] [.int r128, .int 3] S
    refine j_iadd F dL_build_131 ?_
    refine j_bnd hm (fun v5_132 hm => ?_)
    refine j_istore F (lv' := [(5, .int v5_132), (0, .ref (g.2.1 0)), (1, .ref (g.2.1 100)), (2, .int v2), (3, .int v3)]) dL_build_132 (by decide) rfl ?_
    refine j_iconst F (v := 0) dL_build_134 (by decide) ?_
    refine j_istore F (lv' := [(6, .int 0), (5, .int v5_132), (0, .ref (g.2.1 0)), (1, .ref (g.2.1 100)), (2, .int v2), (3, .int v3)]) dL_build_135 (by decide) rfl ?_
    refine j_sub [2, 3, 4, 5, 1, 0] rfl ?_
    obtain ⟨y137, hlp137, hm⟩ := Option.bind_eq_some_iff.mp hm
    refine loopO_walk (fun x => m_L_build_L137 L xs v2 v5_132 x.1 x.2.1 x.2.2) (fun x => J p l e rmL_build s m args below meth c g A 12 (MQ below (QC g A (some (.int r)) S') args s 0 0 A) 0 0 137 [(0, .ref (g.2.1 0)), (1, .ref (g.2.1 100)), (2, .int v2), (3, .int x.1), (5, .int v5_132), (6, .int x.2.1)] [] x.2.2) (fun x => J p l e rmL_build s m args below meth c g A 12 (MQ below (QC g A (some (.int r)) S') args s 0 0 A) 0 0 290 [(3, .int x.1)] [] x.2) (fun x o1 hm hk1 => ?_) hlp137 ?_
    · obtain ⟨v3, v6, S⟩ := x
      replace hm : m_L_build_L137 L xs v2 v5_132 v3 v6 S = some o1 := hm
      show J p l e rmL_build s m args below meth c g A 12 (MQ below (QC g A (some (.int r)) S') args s 0 0 A) 0 0 137 [(0, .ref (g.2.1 0)), (1, .ref (g.2.1 100)), (2, .int v2), (3, .int v3), (5, .int v5_132), (6, .int v6)] [] S
      unfold m_L_build_L137 at hm
      have hj284 : ∀ (v3 : Int32) (v6 : Int32) (S : Hs), m_L_build_J284 L xs v2 v3 v5_132 v6 S = some o1 → J p l e rmL_build s m args below meth c g A 12 (MQ below (QC g A (some (.int r)) S') args s 0 0 A) 0 0 284 [(0, .ref (g.2.1 0)), (1, .ref (g.2.1 100)), (2, .int v2), (3, .int v3), (5, .int v5_132), (6, .int v6)] [] S := by
        intro v3 v6 S hm
        unfold m_L_build_J284 at hm
        refine j_iinc F (v := v6 + 1) (lv' := [(6, .int (v6 + 1)), (0, .ref (g.2.1 0)), (1, .ref (g.2.1 100)), (2, .int v2), (3, .int v3), (5, .int v5_132)]) 5 dL_build_284 rfl rfl (by decide) rfl ?_
        refine j_goto F (tgt := 137) dL_build_287 (by decide) ?_
        cases hm
        refine j_sub [1, 2, 3, 4, 5, 0] rfl ?_
        exact hk1
      have hj283 : ∀ (v6 : Int32) (w0 : Int32) (S : Hs), m_L_build_J283 L xs v2 v5_132 v6 w0 S = some o1 → J p l e rmL_build s m args below meth c g A 12 (MQ below (QC g A (some (.int r)) S') args s 0 0 A) 0 0 283 [(0, .ref (g.2.1 0)), (1, .ref (g.2.1 100)), (2, .int v2), (5, .int v5_132), (6, .int v6)] [.int w0] S := by
        intro v6 w0 S hm
        unfold m_L_build_J283 at hm
        refine j_istore_n F (lv' := [(3, .int w0), (0, .ref (g.2.1 0)), (1, .ref (g.2.1 100)), (2, .int v2), (5, .int v5_132), (6, .int v6)]) dL_build_283 (by decide) rfl ?_
        refine j_sub [1, 2, 3, 0, 4, 5] rfl ?_
        exact hj284 w0 v6 S  hm
      have hj282 : ∀ (v6 : Int32) (S : Hs), m_L_build_J282 L xs v2 v5_132 v6 S = some o1 → J p l e rmL_build s m args below meth c g A 12 (MQ below (QC g A (some (.int r)) S') args s 0 0 A) 0 0 282 [(0, .ref (g.2.1 0)), (1, .ref (g.2.1 100)), (2, .int v2), (5, .int v5_132), (6, .int v6)] [] S := by
        intro v6 S hm
        unfold m_L_build_J282 at hm
        refine j_iconst F (v := 0) dL_build_282 (by decide) ?_
        refine j_sub [0, 1, 2, 3, 4] rfl ?_
        exact hj283 v6 0 S  hm
      have hj256 : ∀ (v6 : Int32) (v8 : Int32) (v9 : Int32) (v10 : Int32) (v11 : Int32) (w0 : Int32) (w1 : Int32) (S : Hs), m_L_build_J256 L xs v2 v5_132 v6 v8 v9 v10 v11 w0 w1 S = some o1 → J p l e rmL_build s m args below meth c g A 12 (MQ below (QC g A (some (.int r)) S') args s 0 0 A) 0 0 256 [(0, .ref (g.2.1 0)), (1, .ref (g.2.1 100)), (2, .int v2), (5, .int v5_132), (6, .int v6), (8, .int v8), (9, .int v9), (10, .int v10), (11, .int v11)] [.int w0, .int w1] S := by
        intro v6 v8 v9 v10 v11 w0 w1 S hm
        unfold m_L_build_J256 at hm
        refine j_icmp_ne F (tgt := 282) dL_build_256 (by decide) hm (fun _ hm => ?_) (fun _ hm => ?_)
        · refine j_sub [0, 1, 2, 3, 4] rfl ?_
          exact hj282 v6 S  hm
        · refine j_aload_n F 0 dL_build_259 rfl ?_
          refine j_iload F 5 dL_build_260 rfl ?_
          refine j_iload F 6 dL_build_262 rfl ?_
          refine j_iconst F (v := 0) dL_build_264 (by decide) ?_
          refine bndX_ok hm (fun r265 S265 hc265 hm => ?_) (fun q S265 hc265 hm => ?_)
          · refine j_callV F (n := 3) (As := [.int v8, .int v9, .int 0]) (rest := []) (c_X5_rights l g hg v8 v9 0 S r265 S265 hc265) gw_L_33 (by decide +kernel) ⟨Nat.le_of_ble_eq_true rfl, Nat.le_of_ble_eq_true rfl⟩ ⟨Nat.le_of_ble_eq_true rfl, Nat.le_of_ble_eq_true rfl⟩ lay_0 rfl rfl rfl (Nat.le_of_ble_eq_true rfl) dL_build_265 ?_
            show J p l e rmL_build s m args below meth c g A 12 (MQ below (QC g A (some (.int r)) S') args s 0 0 A) 0 0 268 [(0, .ref (g.2.1 0)), (1, .ref (g.2.1 100)), (2, .int v2), (5, .int v5_132), (6, .int v6), (8, .int v8), (9, .int v9), (10, .int v10), (11, .int v11)] [.int r265] S265
            refine j_iload F 8 dL_build_268 rfl ?_
            refine j_iconst F (v := 1) dL_build_270 (by decide) ?_
            refine j_iload F 7 dL_build_271 rfl ?_
            refine j_ishl F dL_build_273 ?_
            refine j_ior F dL_build_274 ?_
            refine j_icmp_ne F (tgt := 282) dL_build_275 (by decide) hm (fun _ hm => ?_) (fun _ hm => ?_)
            · refine j_sub [0, 1, 2, 3, 4] rfl ?_
              exact hj282 v6 S265  hm
            · refine j_iconst F (v := 1) dL_build_278 (by decide) ?_
              refine j_goto F (tgt := 283) dL_build_279 (by decide) ?_
              refine j_sub [0, 1, 2, 3, 4] rfl ?_
              exact hj283 v6 1 S265  hm
          · cases hm
      have hj209 : ∀ (v3 : Int32) (v6 : Int32) (v8 : Int32) (v9 : Int32) (w0 : Int32) (S : Hs), m_L_build_J209 L xs v2 v3 v5_132 v6 v8 v9 w0 S = some o1 → J p l e rmL_build s m args below meth c g A 12 (MQ below (QC g A (some (.int r)) S') args s 0 0 A) 0 0 209 [(0, .ref (g.2.1 0)), (1, .ref (g.2.1 100)), (2, .int v2), (3, .int v3), (5, .int v5_132), (6, .int v6), (8, .int v8), (9, .int v9)] [.int w0] S := by
        intro v3 v6 v8 v9 w0 S hm
        unfold m_L_build_J209 at hm
        refine j_istore F (lv' := [(10, .int w0), (0, .ref (g.2.1 0)), (1, .ref (g.2.1 100)), (2, .int v2), (3, .int v3), (5, .int v5_132), (6, .int v6), (8, .int v8), (9, .int v9)]) dL_build_209 (by decide) rfl ?_
        refine j_iload F 7 dL_build_211 rfl ?_
        refine j_iload F 8 dL_build_213 rfl ?_
        refine j_icmp_eq F (tgt := 284) dL_build_215 (by decide) hm (fun _ hm => ?_) (fun _ hm => ?_)
        · refine j_sub [1, 2, 3, 4, 5, 6] rfl ?_
          exact hj284 v3 v6 S  hm
        · refine j_aload_n F 1 dL_build_218 rfl ?_
          refine j_iload F 7 dL_build_219 rfl ?_
          refine j_iload F 8 dL_build_221 rfl ?_
          refine j_iconst F (v := 0) dL_build_223 (by decide) ?_
          refine bndX_ok hm (fun r224 S224 hc224 hm => ?_) (fun q S224 hc224 hm => ?_)
          · refine j_callV F (n := 3) (As := [.int v8, .int v9, .int 0]) (rest := []) (c_X5_rights l g hg v8 v9 0 S r224 S224 hc224) gw_L_33 (by decide +kernel) ⟨Nat.le_of_ble_eq_true rfl, Nat.le_of_ble_eq_true rfl⟩ ⟨Nat.le_of_ble_eq_true rfl, Nat.le_of_ble_eq_true rfl⟩ lay_0 rfl rfl rfl (Nat.le_of_ble_eq_true rfl) dL_build_224 ?_
            show J p l e rmL_build s m args below meth c g A 12 (MQ below (QC g A (some (.int r)) S') args s 0 0 A) 0 0 227 [(10, .int w0), (0, .ref (g.2.1 0)), (1, .ref (g.2.1 100)), (2, .int v2), (3, .int v3), (5, .int v5_132), (6, .int v6), (8, .int v8), (9, .int v9)] [.int r224] S224
            refine j_istore F (lv' := [(11, .int r224), (10, .int w0), (0, .ref (g.2.1 0)), (1, .ref (g.2.1 100)), (2, .int v2), (3, .int v3), (5, .int v5_132), (6, .int v6), (8, .int v8), (9, .int v9)]) dL_build_227 (by decide) rfl ?_
            refine j_aload_n F 2 dL_build_229 rfl ?_
            refine j_iload F 8 dL_build_230 rfl ?_
            refine j_iload F 1 dL_build_232 rfl ?_
            refine j_iload F 9 dL_build_234 rfl ?_
            refine j_iconst F (v := 1) dL_build_236 (by decide) ?_
            refine bndX_ok hm (fun r237 S237 hc237 hm => ?_) (fun q S237 hc237 hm => ?_)
            · refine j_callV F (n := 4) (As := [.int v8, .int w0, .int v9, .int 1]) (rest := []) (c_X5_set l g hg v8 w0 v9 1 S224 r237 S237 hc237) gw_L_37 (by decide +kernel) ⟨Nat.le_of_ble_eq_true rfl, Nat.le_of_ble_eq_true rfl⟩ ⟨Nat.le_of_ble_eq_true rfl, Nat.le_of_ble_eq_true rfl⟩ lay_0 rfl rfl rfl (Nat.le_of_ble_eq_true rfl) dL_build_237 ?_
              show J p l e rmL_build s m args below meth c g A 12 (MQ below (QC g A (some (.int r)) S') args s 0 0 A) 0 0 240 [(11, .int r224), (10, .int w0), (0, .ref (g.2.1 0)), (1, .ref (g.2.1 100)), (2, .int v2), (3, .int v3), (5, .int v5_132), (6, .int v6), (8, .int v8), (9, .int v9)] [.int r237] S237
              refine j_iload F 0 dL_build_240 rfl ?_
              refine j_iload F 1 dL_build_242 rfl ?_
              refine j_ishr F dL_build_244 ?_
              refine j_iconst F (v := 1) dL_build_245 (by decide) ?_
              refine j_iand F dL_build_246 ?_
              refine j_iconst F (v := 1) dL_build_247 (by decide) ?_
              refine j_icmp_ne F (tgt := 255) dL_build_248 (by decide) hm (fun _ hm => ?_) (fun _ hm => ?_)
              · refine j_iconst F (v := 0) dL_build_255 (by decide) ?_
                refine j_sub [2, 3, 4, 6, 7, 8, 9, 1, 0] rfl ?_
                exact hj256 v6 v8 v9 w0 r224 0 r237 S237  hm
              · refine j_iconst F (v := 1) dL_build_251 (by decide) ?_
                refine j_goto F (tgt := 256) dL_build_252 (by decide) ?_
                refine j_sub [2, 3, 4, 6, 7, 8, 9, 1, 0] rfl ?_
                exact hj256 v6 v8 v9 w0 r224 1 r237 S237  hm
            · cases hm
          · cases hm
      refine j_iload F 5 dL_build_137 rfl ?_
      refine j_iload F 4 dL_build_139 rfl ?_
      refine j_icmp_ge F (tgt := 290) dL_build_141 (by decide) hm (fun _ hm => ?_) (fun _ hm => ?_)
      · cases hm
        refine j_sub [3] rfl ?_
        exact hk1
      · refine j_iload_n F 3 dL_build_144 rfl ?_
        refine j_if_eq F (tgt := 290) dL_build_145 (by decide) hm (fun _ hm => ?_) (fun _ hm => ?_)
        · cases hm
          refine j_sub [3] rfl ?_
          exact hk1
        · refine j_aload_n F 1 dL_build_148 rfl ?_
          refine j_iconst F (v := 4) dL_build_149 (by decide) ?_
          refine j_iload F 5 dL_build_150 rfl ?_
          refine j_iadd F dL_build_152 ?_
          obtain ⟨r153, hc153, hm⟩ := Option.bind_eq_some_iff.mp hm
          refine j_callS F (n := 2) (As := [.ref (g.2.1 100), .int (4 + v6)]) (rest := []) (c_L_cell l g hg L xs hLx (4 + v6) S r153 hc153) gw_L_10 (by decide +kernel) ⟨Nat.le_of_ble_eq_true rfl, Nat.le_of_ble_eq_true rfl⟩ ⟨Nat.le_of_ble_eq_true rfl, Nat.le_of_ble_eq_true rfl⟩ rfl rfl (Nat.le_of_ble_eq_true rfl) dL_build_153 ?_
          show J p l e rmL_build s m args below meth c g A 12 (MQ below (QC g A (some (.int r)) S') args s 0 0 A) 0 0 156 [(0, .ref (g.2.1 0)), (1, .ref (g.2.1 100)), (2, .int v2), (3, .int v3), (5, .int v5_132), (6, .int v6)] [.int r153] S
          refine j_istore F (lv' := [(7, .int r153), (0, .ref (g.2.1 0)), (1, .ref (g.2.1 100)), (2, .int v2), (3, .int v3), (5, .int v5_132), (6, .int v6)]) dL_build_156 (by decide) rfl ?_
          refine j_iload F 0 dL_build_158 rfl ?_
          refine j_iload_n F 3 dL_build_160 rfl ?_
          obtain ⟨r161, hc161, hm⟩ := Option.bind_eq_some_iff.mp hm
          refine j_callS F (n := 2) (As := [.int r153, .int v2]) (rest := []) (c_L_low l g hg r153 v2 S r161 hc161) gw_L_16 (by decide +kernel) ⟨Nat.le_of_ble_eq_true rfl, Nat.le_of_ble_eq_true rfl⟩ ⟨Nat.le_of_ble_eq_true rfl, Nat.le_of_ble_eq_true rfl⟩ rfl rfl (Nat.le_of_ble_eq_true rfl) dL_build_161 ?_
          show J p l e rmL_build s m args below meth c g A 12 (MQ below (QC g A (some (.int r)) S') args s 0 0 A) 0 0 164 [(7, .int r153), (0, .ref (g.2.1 0)), (1, .ref (g.2.1 100)), (2, .int v2), (3, .int v3), (5, .int v5_132), (6, .int v6)] [.int r161] S
          refine j_istore F (lv' := [(8, .int r161), (7, .int r153), (0, .ref (g.2.1 0)), (1, .ref (g.2.1 100)), (2, .int v2), (3, .int v3), (5, .int v5_132), (6, .int v6)]) dL_build_164 (by decide) rfl ?_
          refine j_iload F 1 dL_build_166 rfl ?_
          refine j_iconst F (v := 4) dL_build_168 (by decide) ?_
          refine j_ishr F dL_build_169 ?_
          refine j_iload_n F 4 dL_build_170 rfl ?_
          obtain ⟨r171, hc171, hm⟩ := Option.bind_eq_some_iff.mp hm
          refine j_callS F (n := 2) (As := [.int (r153 >>> (4 &&& 31)), .int v2]) (rest := []) (c_L_low l g hg (r153 >>> (4 &&& 31)) v2 S r171 hc171) gw_L_16 (by decide +kernel) ⟨Nat.le_of_ble_eq_true rfl, Nat.le_of_ble_eq_true rfl⟩ ⟨Nat.le_of_ble_eq_true rfl, Nat.le_of_ble_eq_true rfl⟩ rfl rfl (Nat.le_of_ble_eq_true rfl) dL_build_171 ?_
          show J p l e rmL_build s m args below meth c g A 12 (MQ below (QC g A (some (.int r)) S') args s 0 0 A) 0 0 174 [(8, .int r161), (7, .int r153), (0, .ref (g.2.1 0)), (1, .ref (g.2.1 100)), (2, .int v2), (3, .int v3), (5, .int v5_132), (6, .int v6)] [.int r171] S
          refine j_istore F (lv' := [(9, .int r171), (8, .int r161), (7, .int r153), (0, .ref (g.2.1 0)), (1, .ref (g.2.1 100)), (2, .int v2), (3, .int v3), (5, .int v5_132), (6, .int v6)]) dL_build_174 (by decide) rfl ?_
          refine j_iload F 2 dL_build_176 rfl ?_
          refine j_bipush F (v := 8) dL_build_178 (by decide) ?_
          refine j_ishr F dL_build_180 ?_
          refine j_iconst F (v := 3) dL_build_181 (by decide) ?_
          obtain ⟨r182, hc182, hm⟩ := Option.bind_eq_some_iff.mp hm
          refine j_callS F (n := 2) (As := [.int (r153 >>> (8 &&& 31)), .int 3]) (rest := []) (c_L_low l g hg (r153 >>> (8 &&& 31)) 3 S r182 hc182) gw_L_16 (by decide +kernel) ⟨Nat.le_of_ble_eq_true rfl, Nat.le_of_ble_eq_true rfl⟩ ⟨Nat.le_of_ble_eq_true rfl, Nat.le_of_ble_eq_true rfl⟩ rfl rfl (Nat.le_of_ble_eq_true rfl) dL_build_182 ?_
          show J p l e rmL_build s m args below meth c g A 12 (MQ below (QC g A (some (.int r)) S') args s 0 0 A) 0 0 185 [(9, .int r171), (8, .int r161), (7, .int r153), (0, .ref (g.2.1 0)), (1, .ref (g.2.1 100)), (2, .int v2), (3, .int v3), (5, .int v5_132), (6, .int v6)] [.int r182] S
          refine j_if_le F (tgt := 200) dL_build_185 (by decide) hm (fun _ hm => ?_) (fun _ hm => ?_)
          · refine j_iload F 2 dL_build_200 rfl ?_
            refine j_bipush F (v := 11) dL_build_202 (by decide) ?_
            refine j_ishr F dL_build_204 ?_
            refine j_iconst F (v := 4) dL_build_205 (by decide) ?_
            obtain ⟨r206, hc206, hm⟩ := Option.bind_eq_some_iff.mp hm
            refine j_callS F (n := 2) (As := [.int (r153 >>> (11 &&& 31)), .int 4]) (rest := []) (c_L_low l g hg (r153 >>> (11 &&& 31)) 4 S r206 hc206) gw_L_16 (by decide +kernel) ⟨Nat.le_of_ble_eq_true rfl, Nat.le_of_ble_eq_true rfl⟩ ⟨Nat.le_of_ble_eq_true rfl, Nat.le_of_ble_eq_true rfl⟩ rfl rfl (Nat.le_of_ble_eq_true rfl) dL_build_206 ?_
            show J p l e rmL_build s m args below meth c g A 12 (MQ below (QC g A (some (.int r)) S') args s 0 0 A) 0 0 209 [(9, .int r171), (8, .int r161), (7, .int r153), (0, .ref (g.2.1 0)), (1, .ref (g.2.1 100)), (2, .int v2), (3, .int v3), (5, .int v5_132), (6, .int v6)] [.int r206] S
            refine j_sub [3, 4, 5, 6, 7, 8, 1, 0] rfl ?_
            exact hj209 v3 v6 r161 r171 r206 S  hm
          · refine j_iload F 2 dL_build_188 rfl ?_
            refine j_bipush F (v := 11) dL_build_190 (by decide) ?_
            refine j_ishr F dL_build_192 ?_
            refine j_iconst F (v := 2) dL_build_193 (by decide) ?_
            obtain ⟨r194, hc194, hm⟩ := Option.bind_eq_some_iff.mp hm
            refine j_callS F (n := 2) (As := [.int (r153 >>> (11 &&& 31)), .int 2]) (rest := []) (c_L_low l g hg (r153 >>> (11 &&& 31)) 2 S r194 hc194) gw_L_16 (by decide +kernel) ⟨Nat.le_of_ble_eq_true rfl, Nat.le_of_ble_eq_true rfl⟩ ⟨Nat.le_of_ble_eq_true rfl, Nat.le_of_ble_eq_true rfl⟩ rfl rfl (Nat.le_of_ble_eq_true rfl) dL_build_194 ?_
            show J p l e rmL_build s m args below meth c g A 12 (MQ below (QC g A (some (.int r)) S') args s 0 0 A) 0 0 197 [(9, .int r171), (8, .int r161), (7, .int r153), (0, .ref (g.2.1 0)), (1, .ref (g.2.1 100)), (2, .int v2), (3, .int v3), (5, .int v5_132), (6, .int v6)] [.int r194] S
            refine j_goto F (tgt := 209) dL_build_197 (by decide) ?_
            refine j_sub [3, 4, 5, 6, 7, 8, 1, 0] rfl ?_
            exact hj209 v3 v6 r161 r171 r194 S  hm
    · show J p l e rmL_build s m args below meth c g A 12 (MQ below (QC g A (some (.int r)) S') args s 0 0 A) 0 0 290 [(3, .int y137.1)] [] y137.2
      refine j_sub [0] rfl ?_
      exact hj290 y137.1 y137.2  hm
  refine j_iconst F (v := 1) dL_build_0 (by decide) ?_
  refine j_istore_n F (lv' := [(3, .int 1), (0, .ref (g.2.1 0)), (1, .ref (g.2.1 100)), (2, .int v2)]) dL_build_1 (by decide) rfl ?_
  refine j_aload_n F 2 dL_build_2 rfl ?_
  refine j_iconst F (v := 1) dL_build_3 (by decide) ?_
  obtain ⟨r4, hc4, hm⟩ := Option.bind_eq_some_iff.mp hm
  refine j_callS F (n := 2) (As := [.ref (g.2.1 100), .int 1]) (rest := []) (c_L_cell l g hg L xs hLx 1 S r4 hc4) gw_L_10 (by decide +kernel) ⟨Nat.le_of_ble_eq_true rfl, Nat.le_of_ble_eq_true rfl⟩ ⟨Nat.le_of_ble_eq_true rfl, Nat.le_of_ble_eq_true rfl⟩ rfl rfl (Nat.le_of_ble_eq_true rfl) dL_build_4 ?_
  show J p l e rmL_build s m args below meth c g A 12 (MQ below (QC g A (some (.int r)) S') args s 0 0 A) 0 0 7 [(3, .int 1), (0, .ref (g.2.1 0)), (1, .ref (g.2.1 100)), (2, .int v2)] [.int r4] S
  refine j_istore F (lv' := [(4, .int r4), (3, .int 1), (0, .ref (g.2.1 0)), (1, .ref (g.2.1 100)), (2, .int v2)]) dL_build_7 (by decide) rfl ?_
  refine j_iconst F (v := 0) dL_build_9 (by decide) ?_
  refine j_istore F (lv' := [(5, .int 0), (4, .int r4), (3, .int 1), (0, .ref (g.2.1 0)), (1, .ref (g.2.1 100)), (2, .int v2)]) dL_build_10 (by decide) rfl ?_
  refine j_sub [3, 4, 5, 2, 1, 0] rfl ?_
  obtain ⟨y12, hlp12, hm⟩ := Option.bind_eq_some_iff.mp hm
  refine loopO_walk (fun x => m_L_build_L12 L xs v2 r4 x.1 x.2.1 x.2.2) (fun x => J p l e rmL_build s m args below meth c g A 12 (MQ below (QC g A (some (.int r)) S') args s 0 0 A) 0 0 12 [(0, .ref (g.2.1 0)), (1, .ref (g.2.1 100)), (2, .int v2), (3, .int x.1), (4, .int r4), (5, .int x.2.1)] [] x.2.2) (fun x => J p l e rmL_build s m args below meth c g A 12 (MQ below (QC g A (some (.int r)) S') args s 0 0 A) 0 0 120 [(0, .ref (g.2.1 0)), (1, .ref (g.2.1 100)), (2, .int v2), (3, .int x.1)] [] x.2) (fun x o1 hm hk1 => ?_) hlp12 ?_
  · obtain ⟨v3, v5, S⟩ := x
    replace hm : m_L_build_L12 L xs v2 r4 v3 v5 S = some o1 := hm
    show J p l e rmL_build s m args below meth c g A 12 (MQ below (QC g A (some (.int r)) S') args s 0 0 A) 0 0 12 [(0, .ref (g.2.1 0)), (1, .ref (g.2.1 100)), (2, .int v2), (3, .int v3), (4, .int r4), (5, .int v5)] [] S
    unfold m_L_build_L12 at hm
    have hj114 : ∀ (v3 : Int32) (v5 : Int32) (S : Hs), m_L_build_J114 L xs v2 v3 r4 v5 S = some o1 → J p l e rmL_build s m args below meth c g A 12 (MQ below (QC g A (some (.int r)) S') args s 0 0 A) 0 0 114 [(0, .ref (g.2.1 0)), (1, .ref (g.2.1 100)), (2, .int v2), (3, .int v3), (4, .int r4), (5, .int v5)] [] S := by
      intro v3 v5 S hm
      unfold m_L_build_J114 at hm
      refine j_iinc F (v := v5 + 1) (lv' := [(5, .int (v5 + 1)), (0, .ref (g.2.1 0)), (1, .ref (g.2.1 100)), (2, .int v2), (3, .int v3), (4, .int r4)]) 5 dL_build_114 rfl rfl (by decide) rfl ?_
      refine j_goto F (tgt := 12) dL_build_117 (by decide) ?_
      cases hm
      refine j_sub [1, 2, 3, 4, 5, 0] rfl ?_
      exact hk1
    have hj113 : ∀ (v5 : Int32) (w0 : Int32) (S : Hs), m_L_build_J113 L xs v2 r4 v5 w0 S = some o1 → J p l e rmL_build s m args below meth c g A 12 (MQ below (QC g A (some (.int r)) S') args s 0 0 A) 0 0 113 [(0, .ref (g.2.1 0)), (1, .ref (g.2.1 100)), (2, .int v2), (4, .int r4), (5, .int v5)] [.int w0] S := by
      intro v5 w0 S hm
      unfold m_L_build_J113 at hm
      refine j_istore_n F (lv' := [(3, .int w0), (0, .ref (g.2.1 0)), (1, .ref (g.2.1 100)), (2, .int v2), (4, .int r4), (5, .int v5)]) dL_build_113 (by decide) rfl ?_
      refine j_sub [1, 2, 3, 0, 4, 5] rfl ?_
      exact hj114 w0 v5 S  hm
    have hj112 : ∀ (v5 : Int32) (S : Hs), m_L_build_J112 L xs v2 r4 v5 S = some o1 → J p l e rmL_build s m args below meth c g A 12 (MQ below (QC g A (some (.int r)) S') args s 0 0 A) 0 0 112 [(0, .ref (g.2.1 0)), (1, .ref (g.2.1 100)), (2, .int v2), (4, .int r4), (5, .int v5)] [] S := by
      intro v5 S hm
      unfold m_L_build_J112 at hm
      refine j_iconst F (v := 0) dL_build_112 (by decide) ?_
      refine j_sub [0, 1, 2, 3, 4] rfl ?_
      exact hj113 v5 0 S  hm
    have hj55 : ∀ (v5 : Int32) (w0 : Int32) (S : Hs), m_L_build_J55 L xs v2 r4 v5 w0 S = some o1 → J p l e rmL_build s m args below meth c g A 12 (MQ below (QC g A (some (.int r)) S') args s 0 0 A) 0 0 55 [(0, .ref (g.2.1 0)), (1, .ref (g.2.1 100)), (2, .int v2), (4, .int r4), (5, .int v5)] [.int w0] S := by
      intro v5 w0 S hm
      unfold m_L_build_J55 at hm
      refine j_istore_n F (lv' := [(3, .int w0), (0, .ref (g.2.1 0)), (1, .ref (g.2.1 100)), (2, .int v2), (4, .int r4), (5, .int v5)]) dL_build_55 (by decide) rfl ?_
      refine j_iload F 4 dL_build_56 rfl ?_
      refine j_iconst F (v := 3) dL_build_58 (by decide) ?_
      refine j_iload F 5 dL_build_59 rfl ?_
      refine j_imul F dL_build_61 ?_
      refine j_iconst F (v := 1) dL_build_62 (by decide) ?_
      refine j_iadd F dL_build_63 ?_
      refine j_ishr F dL_build_64 ?_
      refine j_bipush F (v := 6) dL_build_65 (by decide) ?_
      obtain ⟨r67, hc67, hm⟩ := Option.bind_eq_some_iff.mp hm
      refine j_callS F (n := 2) (As := [.int (r4 >>> (((3 * v5) + 1) &&& 31)), .int 6]) (rest := []) (c_L_low l g hg (r4 >>> (((3 * v5) + 1) &&& 31)) 6 S r67 hc67) gw_L_16 (by decide +kernel) ⟨Nat.le_of_ble_eq_true rfl, Nat.le_of_ble_eq_true rfl⟩ ⟨Nat.le_of_ble_eq_true rfl, Nat.le_of_ble_eq_true rfl⟩ rfl rfl (Nat.le_of_ble_eq_true rfl) dL_build_67 ?_
      show J p l e rmL_build s m args below meth c g A 12 (MQ below (QC g A (some (.int r)) S') args s 0 0 A) 0 0 70 [(3, .int w0), (0, .ref (g.2.1 0)), (1, .ref (g.2.1 100)), (2, .int v2), (4, .int r4), (5, .int v5)] [.int r67] S
      refine j_if_ne F (tgt := 114) dL_build_70 (by decide) hm (fun _ hm => ?_) (fun _ hm => ?_)
      · refine j_sub [1, 2, 3, 0, 4, 5] rfl ?_
        exact hj114 w0 v5 S  hm
      · refine j_aload_n F 1 dL_build_73 rfl ?_
        refine j_iload F 5 dL_build_74 rfl ?_
        refine j_iconst F (v := 0) dL_build_76 (by decide) ?_
        refine bndX_ok hm (fun r77 S77 hc77 hm => ?_) (fun q S77 hc77 hm => ?_)
        · refine j_callV F (n := 2) (As := [.int v5, .int 0]) (rest := []) (c_X5_thing l g hg v5 0 S r77 S77 hc77) gw_L_26 (by decide +kernel) ⟨Nat.le_of_ble_eq_true rfl, Nat.le_of_ble_eq_true rfl⟩ ⟨Nat.le_of_ble_eq_true rfl, Nat.le_of_ble_eq_true rfl⟩ lay_0 rfl rfl rfl (Nat.le_of_ble_eq_true rfl) dL_build_77 ?_
          show J p l e rmL_build s m args below meth c g A 12 (MQ below (QC g A (some (.int r)) S') args s 0 0 A) 0 0 80 [(3, .int w0), (0, .ref (g.2.1 0)), (1, .ref (g.2.1 100)), (2, .int v2), (4, .int r4), (5, .int v5)] [.int r77] S77
          refine j_iconst F (v := 1) dL_build_80 (by decide) ?_
          refine j_icmp_ne F (tgt := 114) dL_build_81 (by decide) hm (fun _ hm => ?_) (fun _ hm => ?_)
          · refine j_sub [1, 2, 3, 0, 4, 5] rfl ?_
            exact hj114 w0 v5 S77  hm
          · refine j_iload_n F 0 dL_build_84 rfl ?_
            refine j_if_eq F (tgt := 112) dL_build_85 (by decide) hm (fun _ hm => ?_) (fun _ hm => ?_)
            · refine j_sub [1, 2, 3, 4, 5] rfl ?_
              exact hj112 v5 S77  hm
            · refine j_aload_n F 1 dL_build_88 rfl ?_
              refine j_iload F 5 dL_build_89 rfl ?_
              refine j_iconst F (v := 0) dL_build_91 (by decide) ?_
              refine bndX_ok hm (fun r92 S92 hc92 hm => ?_) (fun q S92 hc92 hm => ?_)
              · refine j_callV F (n := 2) (As := [.int v5, .int 0]) (rest := []) (c_X5_wake l g hg v5 0 S77 r92 S92 hc92) gw_L_29 (by decide +kernel) ⟨Nat.le_of_ble_eq_true rfl, Nat.le_of_ble_eq_true rfl⟩ ⟨Nat.le_of_ble_eq_true rfl, Nat.le_of_ble_eq_true rfl⟩ lay_0 rfl rfl rfl (Nat.le_of_ble_eq_true rfl) dL_build_92 ?_
                show J p l e rmL_build s m args below meth c g A 12 (MQ below (QC g A (some (.int r)) S') args s 0 0 A) 0 0 95 [(3, .int w0), (0, .ref (g.2.1 0)), (1, .ref (g.2.1 100)), (2, .int v2), (4, .int r4), (5, .int v5)] [.int r92] S92
                refine j_if_ne F (tgt := 112) dL_build_95 (by decide) hm (fun _ hm => ?_) (fun _ hm => ?_)
                · refine j_sub [1, 2, 3, 4, 5] rfl ?_
                  exact hj112 v5 S92  hm
                · refine j_aload_n F 1 dL_build_98 rfl ?_
                  refine j_iload F 5 dL_build_99 rfl ?_
                  refine j_iconst F (v := 1) dL_build_101 (by decide) ?_
                  refine bndX_ok hm (fun r102 S102 hc102 hm => ?_) (fun q S102 hc102 hm => ?_)
                  · refine j_callV F (n := 2) (As := [.int v5, .int 1]) (rest := []) (c_X5_thing l g hg v5 1 S92 r102 S102 hc102) gw_L_26 (by decide +kernel) ⟨Nat.le_of_ble_eq_true rfl, Nat.le_of_ble_eq_true rfl⟩ ⟨Nat.le_of_ble_eq_true rfl, Nat.le_of_ble_eq_true rfl⟩ lay_0 rfl rfl rfl (Nat.le_of_ble_eq_true rfl) dL_build_102 ?_
                    show J p l e rmL_build s m args below meth c g A 12 (MQ below (QC g A (some (.int r)) S') args s 0 0 A) 0 0 105 [(3, .int w0), (0, .ref (g.2.1 0)), (1, .ref (g.2.1 100)), (2, .int v2), (4, .int r4), (5, .int v5)] [.int r102] S102
                    refine j_if_ne F (tgt := 112) dL_build_105 (by decide) hm (fun _ hm => ?_) (fun _ hm => ?_)
                    · refine j_sub [1, 2, 3, 4, 5] rfl ?_
                      exact hj112 v5 S102  hm
                    · refine j_iconst F (v := 1) dL_build_108 (by decide) ?_
                      refine j_goto F (tgt := 113) dL_build_109 (by decide) ?_
                      refine j_sub [1, 2, 3, 4, 5] rfl ?_
                      exact hj113 v5 1 S102  hm
                  · cases hm
              · cases hm
        · cases hm
    have hj42 : ∀ (v5 : Int32) (w0 : Int32) (S : Hs), m_L_build_J42 L xs v2 r4 v5 w0 S = some o1 → J p l e rmL_build s m args below meth c g A 12 (MQ below (QC g A (some (.int r)) S') args s 0 0 A) 0 0 42 [(0, .ref (g.2.1 0)), (1, .ref (g.2.1 100)), (2, .int v2), (4, .int r4), (5, .int v5)] [.int w0, .ref (g.2.1 0)] S := by
      intro v5 w0 S hm
      unfold m_L_build_J42 at hm
      refine bndX_ok hm (fun r42 S42 hc42 hm => ?_) (fun q S42 hc42 hm => ?_)
      · refine j_callV F (n := 1) (As := [.int w0]) (rest := []) (c_X5_addThing l g hg w0 S r42 S42 hc42) gw_L_20 (by decide +kernel) ⟨Nat.le_of_ble_eq_true rfl, Nat.le_of_ble_eq_true rfl⟩ ⟨Nat.le_of_ble_eq_true rfl, Nat.le_of_ble_eq_true rfl⟩ lay_0 rfl rfl rfl (Nat.le_of_ble_eq_true rfl) dL_build_42 ?_
        show J p l e rmL_build s m args below meth c g A 12 (MQ below (QC g A (some (.int r)) S') args s 0 0 A) 0 0 45 [(0, .ref (g.2.1 0)), (1, .ref (g.2.1 100)), (2, .int v2), (4, .int r4), (5, .int v5)] [.int r42] S42
        refine j_iload F 4 dL_build_45 rfl ?_
        refine j_icmp_ne F (tgt := 54) dL_build_47 (by decide) hm (fun _ hm => ?_) (fun _ hm => ?_)
        · refine j_iconst F (v := 0) dL_build_54 (by decide) ?_
          refine j_sub [0, 1, 2, 3, 4] rfl ?_
          exact hj55 v5 0 S42  hm
        · refine j_iconst F (v := 1) dL_build_50 (by decide) ?_
          refine j_goto F (tgt := 55) dL_build_51 (by decide) ?_
          refine j_sub [0, 1, 2, 3, 4] rfl ?_
          exact hj55 v5 1 S42  hm
      · cases hm
    refine j_iload F 5 dL_build_12 rfl ?_
    refine j_iload_n F 2 dL_build_14 rfl ?_
    refine j_icmp_ge F (tgt := 120) dL_build_15 (by decide) hm (fun _ hm => ?_) (fun _ hm => ?_)
    · cases hm
      refine j_sub [0, 1, 2, 3] rfl ?_
      exact hk1
    · refine j_iload_n F 3 dL_build_18 rfl ?_
      refine j_if_eq F (tgt := 120) dL_build_19 (by decide) hm (fun _ hm => ?_) (fun _ hm => ?_)
      · cases hm
        refine j_sub [0, 1, 2, 3] rfl ?_
        exact hk1
      · refine j_aload_n F 0 dL_build_22 rfl ?_
        refine j_iload F 4 dL_build_23 rfl ?_
        refine j_iconst F (v := 3) dL_build_25 (by decide) ?_
        refine j_iload F 5 dL_build_26 rfl ?_
        refine j_imul F dL_build_28 ?_
        refine j_ishr F dL_build_29 ?_
        refine j_iconst F (v := 5) dL_build_30 (by decide) ?_
        obtain ⟨r31, hc31, hm⟩ := Option.bind_eq_some_iff.mp hm
        refine j_callS F (n := 2) (As := [.int (r4 >>> ((3 * v5) &&& 31)), .int 5]) (rest := [.ref (g.2.1 0)]) (c_L_low l g hg (r4 >>> ((3 * v5) &&& 31)) 5 S r31 hc31) gw_L_16 (by decide +kernel) ⟨Nat.le_of_ble_eq_true rfl, Nat.le_of_ble_eq_true rfl⟩ ⟨Nat.le_of_ble_eq_true rfl, Nat.le_of_ble_eq_true rfl⟩ rfl rfl (Nat.le_of_ble_eq_true rfl) dL_build_31 ?_
        show J p l e rmL_build s m args below meth c g A 12 (MQ below (QC g A (some (.int r)) S') args s 0 0 A) 0 0 34 [(0, .ref (g.2.1 0)), (1, .ref (g.2.1 100)), (2, .int v2), (3, .int v3), (4, .int r4), (5, .int v5)] [.int r31, .ref (g.2.1 0)] S
        refine j_if_le F (tgt := 41) dL_build_34 (by decide) hm (fun _ hm => ?_) (fun _ hm => ?_)
        · refine j_iconst F (v := 0) dL_build_41 (by decide) ?_
          refine j_sub [0, 1, 2, 4, 5] rfl ?_
          exact hj42 v5 0 S  hm
        · refine j_iconst F (v := 1) dL_build_37 (by decide) ?_
          refine j_goto F (tgt := 42) dL_build_38 (by decide) ?_
          refine j_sub [0, 1, 2, 4, 5] rfl ?_
          exact hj42 v5 1 S  hm
  · show J p l e rmL_build s m args below meth c g A 12 (MQ below (QC g A (some (.int r)) S') args s 0 0 A) 0 0 120 [(0, .ref (g.2.1 0)), (1, .ref (g.2.1 100)), (2, .int v2), (3, .int y12.1)] [] y12.2
    refine j_sub [0, 1, 2, 3] rfl ?_
    exact hj120 v2 y12.1 y12.2  hm
def m_L_ends_J20 (w0 : Int32) (S : Hs) : Option (Int32 × Hs) := gd (decide (w0 = 0 ∨ w0 = 1)) (some ((w0, S)))
noncomputable def m_L_ends (v1 : Int32) (v2 : Int32) (v3 : Int32) (S : Hs) : Option (Int32 × Hs) := bndX (m_X5_rights v1 v3 1 S) (fun r4 S4 => (if ((r4 >>> (v2 &&& 31)) &&& 1) = 1 then (m_L_ends_J20 1 S4) else (m_L_ends_J20 0 S4))) (fun q S4 => none)
set_option maxRecDepth 100000 in
set_option maxHeartbeats 4000000 in
theorem c_L_ends (l : Launch) (g : GG) (hg : Inj g) (v1 : Int32) (v2 : Int32) (v3 : Int32)  (S : Hs) (r : Int32) (S' : Hs) (hm : m_L_ends v1 v2 v3 S = some ((r, S'))) : CM l yL_ends [.code yL_ends cL_ends 4 (some .boolean)] rmL_ends [.ref (g.2.1 0), .int v1, .int v2, .int v3] g S (some (.int r)) S' := by
  unfold m_L_ends at hm
  refine CM.of (cc := cL_ends) (nL := 4) (ret := (some .boolean)) (lv := [(0, .ref (g.2.1 0)), (1, .int v1), (2, .int v2), (3, .int v3)]) (by decide +kernel) hg (Nat.le_of_ble_eq_true rfl) rfl (fun p e s m args below meth c A F => ?_)
  replace F : Fx p s m meth c cL_ends RL 4 (some .boolean) g A := F
  show J p l e rmL_ends s m args below meth c g A 4 (MQ below (QC g A (some (.int r)) S') args s 0 0 A) 0 0 0 [(0, .ref (g.2.1 0)), (1, .int v1), (2, .int v2), (3, .int v3)] [] S
  have hj20 : ∀ (w0 : Int32) (S : Hs), m_L_ends_J20 w0 S = some ((r, S')) → J p l e rmL_ends s m args below meth c g A 4 (MQ below (QC g A (some (.int r)) S') args s 0 0 A) 0 0 20 [] [.int w0] S := by
    intro w0 S hm
    unfold m_L_ends_J20 at hm
    obtain ⟨hb, hm⟩ := gd_ok hm
    exact j_zret_e F rfl (z_nar hb) dL_ends_20 hm
  refine j_aload_n F 0 dL_ends_0 rfl ?_
  refine j_iload_n F 1 dL_ends_1 rfl ?_
  refine j_iload_n F 3 dL_ends_2 rfl ?_
  refine j_iconst F (v := 1) dL_ends_3 (by decide) ?_
  refine bndX_ok hm (fun r4 S4 hc4 hm => ?_) (fun q S4 hc4 hm => ?_)
  · refine j_callV F (n := 3) (As := [.int v1, .int v3, .int 1]) (rest := []) (c_X5_rights l g hg v1 v3 1 S r4 S4 hc4) gw_L_33 (by decide +kernel) ⟨Nat.le_of_ble_eq_true rfl, Nat.le_of_ble_eq_true rfl⟩ ⟨Nat.le_of_ble_eq_true rfl, Nat.le_of_ble_eq_true rfl⟩ lay_0 rfl rfl rfl (Nat.le_of_ble_eq_true rfl) dL_ends_4 ?_
    show J p l e rmL_ends s m args below meth c g A 4 (MQ below (QC g A (some (.int r)) S') args s 0 0 A) 0 0 7 [(0, .ref (g.2.1 0)), (1, .int v1), (2, .int v2), (3, .int v3)] [.int r4] S4
    refine j_iload_n F 2 dL_ends_7 rfl ?_
    refine j_ishr F dL_ends_8 ?_
    refine j_iconst F (v := 1) dL_ends_9 (by decide) ?_
    refine j_iand F dL_ends_10 ?_
    refine j_iconst F (v := 1) dL_ends_11 (by decide) ?_
    refine j_icmp_ne F (tgt := 19) dL_ends_12 (by decide) hm (fun _ hm => ?_) (fun _ hm => ?_)
    · refine j_iconst F (v := 0) dL_ends_19 (by decide) ?_
      refine j_sub [] rfl ?_
      exact hj20 0 S4  hm
    · refine j_iconst F (v := 1) dL_ends_15 (by decide) ?_
      refine j_goto F (tgt := 20) dL_ends_16 (by decide) ?_
      refine j_sub [] rfl ?_
      exact hj20 1 S4  hm
  · cases hm
def m_L_isClosed_J119 (v1 : Int32) (v2 : Int32) (v3 : Int32) (v4 : Int32) (S : Hs) : Option ((Int32 × Hs) ⊕ (Hs ⊕ (Int32 × Hs))) := some (.inl ((v4 + 1, S)))
def m_L_isClosed_J117 (S : Hs) : Option ((Int32 × Hs) ⊕ (Hs ⊕ (Int32 × Hs))) := some (.inr (.inr ((0, S))))
noncomputable def m_L_isClosed_J85 (v1 : Int32) (v2 : Int32) (v3 : Int32) (v4 : Int32) (S : Hs) : Option ((Int32 × Hs) ⊕ (Hs ⊕ (Int32 × Hs))) := bndE (m_L_ends v2 1 v3 S) fun r89 S89 => (if r89 = 0 then (m_L_isClosed_J119 v1 v2 v3 v4 S89) else (bndX (m_X5_rights v2 v4 1 S89) (fun r100 S100 => (bndX (m_X5_rights v3 v4 1 S100) (fun r108 S108 => (if (r100 &&& (r108 ^^^ ((-1)))) = 0 then (m_L_isClosed_J119 v1 v2 v3 v4 S108) else (m_L_isClosed_J117 S108))) (fun q S108 => none))) (fun q S100 => none)))
noncomputable def m_L_isClosed_L27 (v1 : Int32) (v2 : Int32) (v3 : Int32) (v4 : Int32) (S : Hs) : Option ((Int32 × Hs) ⊕ (Hs ⊕ (Int32 × Hs))) := if v1 ≤ v4 then (some (.inr (.inl S))) else (if v3 = v2 then (some (.inr (.inl S))) else (if v4 = v2 then (m_L_isClosed_J119 v1 v2 v3 v4 S) else (if v4 = v3 then (m_L_isClosed_J119 v1 v2 v3 v4 S) else (bndE (m_L_ends v2 0 v3 S) fun r57 S57 => (if r57 = 0 then (m_L_isClosed_J85 v1 v2 v3 v4 S57) else (bndX (m_X5_rights v3 v4 1 S57) (fun r68 S68 => (bndX (m_X5_rights v2 v4 1 S68) (fun r76 S76 => (if (r68 &&& (r76 ^^^ ((-1)))) = 0 then (m_L_isClosed_J85 v1 v2 v3 v4 S76) else (m_L_isClosed_J117 S76))) (fun q S76 => none))) (fun q S68 => none)))))))
def m_L_isClosed_J125 (v1 : Int32) (v2 : Int32) (v3 : Int32) (S : Hs) : Option ((Int32 × Hs) ⊕ (Hs ⊕ (Int32 × Hs))) := some (.inl ((v3 + 1, S)))
noncomputable def m_L_isClosed_L9 (v1 : Int32) (v2 : Int32) (v3 : Int32) (S : Hs) : Option ((Int32 × Hs) ⊕ (Hs ⊕ (Int32 × Hs))) := if v1 ≤ v3 then (some (.inr (.inl S))) else (bndX (m_X5_thing v2 1 S) (fun r17 S17 => (if r17 = 1 then ((loopO (fun x => m_L_isClosed_L27 v1 v2 v3 x.1 x.2) ((0, S17))).bind fun e27 => Sum.elim (fun y27 => m_L_isClosed_J125 v1 v2 v3 y27) (fun q => some (.inr (.inr q))) e27) else (some (.inr (.inl S17))))) (fun q S17 => none))
def m_L_isClosed_J131 (v1 : Int32) (v2 : Int32) (S : Hs) : Option ((Int32 × Hs) ⊕ (Hs ⊕ (Int32 × Hs))) := some (.inl ((v2 + 1, S)))
noncomputable def m_L_isClosed_L2 (v1 : Int32) (v2 : Int32) (S : Hs) : Option ((Int32 × Hs) ⊕ (Hs ⊕ (Int32 × Hs))) := if v1 ≤ v2 then (some (.inr (.inl S))) else ((loopO (fun x => m_L_isClosed_L9 v1 v2 x.1 x.2) ((0, S))).bind fun e9 => Sum.elim (fun y9 => m_L_isClosed_J131 v1 v2 y9) (fun q => some (.inr (.inr q))) e9)
noncomputable def m_L_isClosed (v1 : Int32) (S : Hs) : Option (Int32 × Hs) := (loopO (fun x => m_L_isClosed_L2 v1 x.1 x.2) ((0, S))).bind fun e2 => Sum.elim (fun y2 => some ((1, y2))) (fun q => some q) e2
set_option maxRecDepth 100000 in
set_option maxHeartbeats 4000000 in
theorem c_L_isClosed (l : Launch) (g : GG) (hg : Inj g) (v1 : Int32)  (S : Hs) (r : Int32) (S' : Hs) (hm : m_L_isClosed v1 S = some ((r, S'))) : CM l yL_isClosed [.code yL_isClosed cL_isClosed 5 (some .boolean)] rmL_isClosed [.ref (g.2.1 0), .int v1] g S (some (.int r)) S' := by
  unfold m_L_isClosed at hm
  refine CM.of (cc := cL_isClosed) (nL := 5) (ret := (some .boolean)) (lv := [(0, .ref (g.2.1 0)), (1, .int v1)]) (by decide +kernel) hg (Nat.le_of_ble_eq_true rfl) rfl (fun p e s m args below meth c A F => ?_)
  replace F : Fx p s m meth c cL_isClosed RL 5 (some .boolean) g A := F
  show J p l e rmL_isClosed s m args below meth c g A 5 (MQ below (QC g A (some (.int r)) S') args s 0 0 A) 0 0 0 [(0, .ref (g.2.1 0)), (1, .int v1)] [] S
  refine j_iconst F (v := 0) dL_isClosed_0 (by decide) ?_
  refine j_istore_n F (lv' := [(2, .int 0), (0, .ref (g.2.1 0)), (1, .int v1)]) dL_isClosed_1 (by decide) rfl ?_
  refine j_sub [1, 2, 0] rfl ?_
  obtain ⟨e2, hlp2, hm⟩ := Option.bind_eq_some_iff.mp hm
  refine loopO_walk (fun x => m_L_isClosed_L2 v1 x.1 x.2) (fun x => J p l e rmL_isClosed s m args below meth c g A 5 (MQ below (QC g A (some (.int r)) S') args s 0 0 A) 0 0 2 [(0, .ref (g.2.1 0)), (1, .int v1), (2, .int x.1)] [] x.2) (fun z => match z with | .inl x => J p l e rmL_isClosed s m args below meth c g A 5 (MQ below (QC g A (some (.int r)) S') args s 0 0 A) 0 0 137 [] [] x | .inr x => some x = some ((r, S'))) (fun x o1 hm hk1 => ?_) hlp2 ?_
  · obtain ⟨v2, S⟩ := x
    replace hm : m_L_isClosed_L2 v1 v2 S = some o1 := hm
    show J p l e rmL_isClosed s m args below meth c g A 5 (MQ below (QC g A (some (.int r)) S') args s 0 0 A) 0 0 2 [(0, .ref (g.2.1 0)), (1, .int v1), (2, .int v2)] [] S
    unfold m_L_isClosed_L2 at hm
    have hj131 : ∀ (v2 : Int32) (S : Hs), m_L_isClosed_J131 v1 v2 S = some o1 → J p l e rmL_isClosed s m args below meth c g A 5 (MQ below (QC g A (some (.int r)) S') args s 0 0 A) 0 0 131 [(0, .ref (g.2.1 0)), (1, .int v1), (2, .int v2)] [] S := by
      intro v2 S hm
      unfold m_L_isClosed_J131 at hm
      refine j_iinc F (v := v2 + 1) (lv' := [(2, .int (v2 + 1)), (0, .ref (g.2.1 0)), (1, .int v1)]) 2 dL_isClosed_131 rfl rfl (by decide) rfl ?_
      refine j_goto F (tgt := 2) dL_isClosed_134 (by decide) ?_
      cases hm
      refine j_sub [1, 2, 0] rfl ?_
      exact hk1
    refine j_iload_n F 2 dL_isClosed_2 rfl ?_
    refine j_iload_n F 1 dL_isClosed_3 rfl ?_
    refine j_icmp_ge F (tgt := 137) dL_isClosed_4 (by decide) hm (fun _ hm => ?_) (fun _ hm => ?_)
    · cases hm
      refine j_sub [] rfl ?_
      exact hk1
    · refine j_iconst F (v := 0) dL_isClosed_7 (by decide) ?_
      refine j_istore_n F (lv' := [(3, .int 0), (0, .ref (g.2.1 0)), (1, .int v1), (2, .int v2)]) dL_isClosed_8 (by decide) rfl ?_
      refine j_sub [1, 2, 3, 0] rfl ?_
      obtain ⟨e9, hlp9, hm⟩ := Option.bind_eq_some_iff.mp hm
      refine loopO_walk (fun x => m_L_isClosed_L9 v1 v2 x.1 x.2) (fun x => J p l e rmL_isClosed s m args below meth c g A 5 (MQ below (QC g A (some (.int r)) S') args s 0 0 A) 0 0 9 [(0, .ref (g.2.1 0)), (1, .int v1), (2, .int v2), (3, .int x.1)] [] x.2) (fun z => match z with | .inl x => J p l e rmL_isClosed s m args below meth c g A 5 (MQ below (QC g A (some (.int r)) S') args s 0 0 A) 0 0 131 [(0, .ref (g.2.1 0)), (1, .int v1), (2, .int v2)] [] x | .inr x => some (.inr (.inr x)) = some o1) (fun x o2 hm hk2 => ?_) hlp9 ?_
      · obtain ⟨v3, S⟩ := x
        replace hm : m_L_isClosed_L9 v1 v2 v3 S = some o2 := hm
        show J p l e rmL_isClosed s m args below meth c g A 5 (MQ below (QC g A (some (.int r)) S') args s 0 0 A) 0 0 9 [(0, .ref (g.2.1 0)), (1, .int v1), (2, .int v2), (3, .int v3)] [] S
        unfold m_L_isClosed_L9 at hm
        have hj125 : ∀ (v3 : Int32) (S : Hs), m_L_isClosed_J125 v1 v2 v3 S = some o2 → J p l e rmL_isClosed s m args below meth c g A 5 (MQ below (QC g A (some (.int r)) S') args s 0 0 A) 0 0 125 [(0, .ref (g.2.1 0)), (1, .int v1), (2, .int v2), (3, .int v3)] [] S := by
          intro v3 S hm
          unfold m_L_isClosed_J125 at hm
          refine j_iinc F (v := v3 + 1) (lv' := [(3, .int (v3 + 1)), (0, .ref (g.2.1 0)), (1, .int v1), (2, .int v2)]) 3 dL_isClosed_125 rfl rfl (by decide) rfl ?_
          refine j_goto F (tgt := 9) dL_isClosed_128 (by decide) ?_
          cases hm
          refine j_sub [1, 2, 3, 0] rfl ?_
          exact hk2
        refine j_iload_n F 3 dL_isClosed_9 rfl ?_
        refine j_iload_n F 1 dL_isClosed_10 rfl ?_
        refine j_icmp_ge F (tgt := 131) dL_isClosed_11 (by decide) hm (fun _ hm => ?_) (fun _ hm => ?_)
        · cases hm
          refine j_sub [0, 1, 2] rfl ?_
          exact hk2
        · refine j_aload_n F 0 dL_isClosed_14 rfl ?_
          refine j_iload_n F 2 dL_isClosed_15 rfl ?_
          refine j_iconst F (v := 1) dL_isClosed_16 (by decide) ?_
          refine bndX_ok hm (fun r17 S17 hc17 hm => ?_) (fun q S17 hc17 hm => ?_)
          · refine j_callV F (n := 2) (As := [.int v2, .int 1]) (rest := []) (c_X5_thing l g hg v2 1 S r17 S17 hc17) gw_L_26 (by decide +kernel) ⟨Nat.le_of_ble_eq_true rfl, Nat.le_of_ble_eq_true rfl⟩ ⟨Nat.le_of_ble_eq_true rfl, Nat.le_of_ble_eq_true rfl⟩ lay_0 rfl rfl rfl (Nat.le_of_ble_eq_true rfl) dL_isClosed_17 ?_
            show J p l e rmL_isClosed s m args below meth c g A 5 (MQ below (QC g A (some (.int r)) S') args s 0 0 A) 0 0 20 [(0, .ref (g.2.1 0)), (1, .int v1), (2, .int v2), (3, .int v3)] [.int r17] S17
            refine j_iconst F (v := 1) dL_isClosed_20 (by decide) ?_
            refine j_icmp_ne F (tgt := 131) dL_isClosed_21 (by decide) hm (fun _ hm => ?_) (fun _ hm => ?_)
            · cases hm
              refine j_sub [0, 1, 2] rfl ?_
              exact hk2
            · refine j_iconst F (v := 0) dL_isClosed_24 (by decide) ?_
              refine j_istore F (lv' := [(4, .int 0), (0, .ref (g.2.1 0)), (1, .int v1), (2, .int v2), (3, .int v3)]) dL_isClosed_25 (by decide) rfl ?_
              refine j_sub [1, 2, 3, 4, 0] rfl ?_
              obtain ⟨e27, hlp27, hm⟩ := Option.bind_eq_some_iff.mp hm
              refine loopO_walk (fun x => m_L_isClosed_L27 v1 v2 v3 x.1 x.2) (fun x => J p l e rmL_isClosed s m args below meth c g A 5 (MQ below (QC g A (some (.int r)) S') args s 0 0 A) 0 0 27 [(0, .ref (g.2.1 0)), (1, .int v1), (2, .int v2), (3, .int v3), (4, .int x.1)] [] x.2) (fun z => match z with | .inl x => J p l e rmL_isClosed s m args below meth c g A 5 (MQ below (QC g A (some (.int r)) S') args s 0 0 A) 0 0 125 [(0, .ref (g.2.1 0)), (1, .int v1), (2, .int v2), (3, .int v3)] [] x | .inr x => some (.inr (.inr x)) = some o2) (fun x o3 hm hk3 => ?_) hlp27 ?_
              · obtain ⟨v4, S⟩ := x
                replace hm : m_L_isClosed_L27 v1 v2 v3 v4 S = some o3 := hm
                show J p l e rmL_isClosed s m args below meth c g A 5 (MQ below (QC g A (some (.int r)) S') args s 0 0 A) 0 0 27 [(0, .ref (g.2.1 0)), (1, .int v1), (2, .int v2), (3, .int v3), (4, .int v4)] [] S
                unfold m_L_isClosed_L27 at hm
                have hj119 : ∀ (v4 : Int32) (S : Hs), m_L_isClosed_J119 v1 v2 v3 v4 S = some o3 → J p l e rmL_isClosed s m args below meth c g A 5 (MQ below (QC g A (some (.int r)) S') args s 0 0 A) 0 0 119 [(0, .ref (g.2.1 0)), (1, .int v1), (2, .int v2), (3, .int v3), (4, .int v4)] [] S := by
                  intro v4 S hm
                  unfold m_L_isClosed_J119 at hm
                  refine j_iinc F (v := v4 + 1) (lv' := [(4, .int (v4 + 1)), (0, .ref (g.2.1 0)), (1, .int v1), (2, .int v2), (3, .int v3)]) 4 dL_isClosed_119 rfl rfl (by decide) rfl ?_
                  refine j_goto F (tgt := 27) dL_isClosed_122 (by decide) ?_
                  cases hm
                  refine j_sub [1, 2, 3, 4, 0] rfl ?_
                  exact hk3
                have hj117 : ∀ (S : Hs), m_L_isClosed_J117 S = some o3 → J p l e rmL_isClosed s m args below meth c g A 5 (MQ below (QC g A (some (.int r)) S') args s 0 0 A) 0 0 117 [] [] S := by
                  intro S hm
                  unfold m_L_isClosed_J117 at hm
                  refine j_iconst F (v := 0) dL_isClosed_117 (by decide) ?_
                  cases hm
                  have hr3 : some _ = some (o2 : (Int32 × Hs) ⊕ (Hs ⊕ (Int32 × Hs))) := hk3
                  cases hr3
                  have hr2 : some _ = some (o1 : (Int32 × Hs) ⊕ (Hs ⊕ (Int32 × Hs))) := hk2
                  cases hr2
                  have hr1 : some _ = some ((r, S') : Int32 × Hs) := hk1
                  exact j_zret_e F rfl rfl dL_isClosed_118 hr1
                have hj85 : ∀ (v4 : Int32) (S : Hs), m_L_isClosed_J85 v1 v2 v3 v4 S = some o3 → J p l e rmL_isClosed s m args below meth c g A 5 (MQ below (QC g A (some (.int r)) S') args s 0 0 A) 0 0 85 [(0, .ref (g.2.1 0)), (1, .int v1), (2, .int v2), (3, .int v3), (4, .int v4)] [] S := by
                  intro v4 S hm
                  unfold m_L_isClosed_J85 at hm
                  refine j_aload_n F 0 dL_isClosed_85 rfl ?_
                  refine j_iload_n F 2 dL_isClosed_86 rfl ?_
                  refine j_iconst F (v := 1) dL_isClosed_87 (by decide) ?_
                  refine j_iload_n F 3 dL_isClosed_88 rfl ?_
                  obtain ⟨r89, S89, hc89, hm⟩ := bndE_ok hm
                  refine j_callS F (n := 4) (As := [.ref (g.2.1 0), .int v2, .int 1, .int v3]) (rest := []) (c_L_ends l g hg v2 1 v3 S r89 S89 hc89) gw_L_41 (by decide +kernel) ⟨Nat.le_of_ble_eq_true rfl, Nat.le_of_ble_eq_true rfl⟩ ⟨Nat.le_of_ble_eq_true rfl, Nat.le_of_ble_eq_true rfl⟩ rfl rfl (Nat.le_of_ble_eq_true rfl) dL_isClosed_89 ?_
                  show J p l e rmL_isClosed s m args below meth c g A 5 (MQ below (QC g A (some (.int r)) S') args s 0 0 A) 0 0 92 [(0, .ref (g.2.1 0)), (1, .int v1), (2, .int v2), (3, .int v3), (4, .int v4)] [.int r89] S89
                  refine j_if_eq F (tgt := 119) dL_isClosed_92 (by decide) hm (fun _ hm => ?_) (fun _ hm => ?_)
                  · refine j_sub [0, 1, 2, 3, 4] rfl ?_
                    exact hj119 v4 S89  hm
                  · refine j_aload_n F 0 dL_isClosed_95 rfl ?_
                    refine j_iload_n F 2 dL_isClosed_96 rfl ?_
                    refine j_iload F 4 dL_isClosed_97 rfl ?_
                    refine j_iconst F (v := 1) dL_isClosed_99 (by decide) ?_
                    refine bndX_ok hm (fun r100 S100 hc100 hm => ?_) (fun q S100 hc100 hm => ?_)
                    · refine j_callV F (n := 3) (As := [.int v2, .int v4, .int 1]) (rest := []) (c_X5_rights l g hg v2 v4 1 S89 r100 S100 hc100) gw_L_33 (by decide +kernel) ⟨Nat.le_of_ble_eq_true rfl, Nat.le_of_ble_eq_true rfl⟩ ⟨Nat.le_of_ble_eq_true rfl, Nat.le_of_ble_eq_true rfl⟩ lay_0 rfl rfl rfl (Nat.le_of_ble_eq_true rfl) dL_isClosed_100 ?_
                      show J p l e rmL_isClosed s m args below meth c g A 5 (MQ below (QC g A (some (.int r)) S') args s 0 0 A) 0 0 103 [(0, .ref (g.2.1 0)), (1, .int v1), (2, .int v2), (3, .int v3), (4, .int v4)] [.int r100] S100
                      refine j_aload_n F 0 dL_isClosed_103 rfl ?_
                      refine j_iload_n F 3 dL_isClosed_104 rfl ?_
                      refine j_iload F 4 dL_isClosed_105 rfl ?_
                      refine j_iconst F (v := 1) dL_isClosed_107 (by decide) ?_
                      refine bndX_ok hm (fun r108 S108 hc108 hm => ?_) (fun q S108 hc108 hm => ?_)
                      · refine j_callV F (n := 3) (As := [.int v3, .int v4, .int 1]) (rest := [.int r100]) (c_X5_rights l g hg v3 v4 1 S100 r108 S108 hc108) gw_L_33 (by decide +kernel) ⟨Nat.le_of_ble_eq_true rfl, Nat.le_of_ble_eq_true rfl⟩ ⟨Nat.le_of_ble_eq_true rfl, Nat.le_of_ble_eq_true rfl⟩ lay_0 rfl rfl rfl (Nat.le_of_ble_eq_true rfl) dL_isClosed_108 ?_
                        show J p l e rmL_isClosed s m args below meth c g A 5 (MQ below (QC g A (some (.int r)) S') args s 0 0 A) 0 0 111 [(0, .ref (g.2.1 0)), (1, .int v1), (2, .int v2), (3, .int v3), (4, .int v4)] [.int r108, .int r100] S108
                        refine j_iconst F (v := -1) dL_isClosed_111 (by decide) ?_
                        refine j_ixor F dL_isClosed_112 ?_
                        refine j_iand F dL_isClosed_113 ?_
                        refine j_if_eq F (tgt := 119) dL_isClosed_114 (by decide) hm (fun _ hm => ?_) (fun _ hm => ?_)
                        · refine j_sub [0, 1, 2, 3, 4] rfl ?_
                          exact hj119 v4 S108  hm
                        · refine j_sub [] rfl ?_
                          exact hj117 S108  hm
                      · cases hm
                    · cases hm
                refine j_iload F 4 dL_isClosed_27 rfl ?_
                refine j_iload_n F 1 dL_isClosed_29 rfl ?_
                refine j_icmp_ge F (tgt := 125) dL_isClosed_30 (by decide) hm (fun _ hm => ?_) (fun _ hm => ?_)
                · cases hm
                  refine j_sub [0, 1, 2, 3] rfl ?_
                  exact hk3
                · refine j_iload_n F 3 dL_isClosed_33 rfl ?_
                  refine j_iload_n F 2 dL_isClosed_34 rfl ?_
                  refine j_icmp_eq F (tgt := 125) dL_isClosed_35 (by decide) hm (fun _ hm => ?_) (fun _ hm => ?_)
                  · cases hm
                    refine j_sub [0, 1, 2, 3] rfl ?_
                    exact hk3
                  · refine j_iload F 4 dL_isClosed_38 rfl ?_
                    refine j_iload_n F 2 dL_isClosed_40 rfl ?_
                    refine j_icmp_eq F (tgt := 119) dL_isClosed_41 (by decide) hm (fun _ hm => ?_) (fun _ hm => ?_)
                    · refine j_sub [0, 1, 2, 3, 4] rfl ?_
                      exact hj119 v4 S  hm
                    · refine j_iload F 4 dL_isClosed_44 rfl ?_
                      refine j_iload_n F 3 dL_isClosed_46 rfl ?_
                      refine j_icmp_ne F (tgt := 53) dL_isClosed_47 (by decide) hm (fun _ hm => ?_) (fun _ hm => ?_)
                      · refine j_aload_n F 0 dL_isClosed_53 rfl ?_
                        refine j_iload_n F 2 dL_isClosed_54 rfl ?_
                        refine j_iconst F (v := 0) dL_isClosed_55 (by decide) ?_
                        refine j_iload_n F 3 dL_isClosed_56 rfl ?_
                        obtain ⟨r57, S57, hc57, hm⟩ := bndE_ok hm
                        refine j_callS F (n := 4) (As := [.ref (g.2.1 0), .int v2, .int 0, .int v3]) (rest := []) (c_L_ends l g hg v2 0 v3 S r57 S57 hc57) gw_L_41 (by decide +kernel) ⟨Nat.le_of_ble_eq_true rfl, Nat.le_of_ble_eq_true rfl⟩ ⟨Nat.le_of_ble_eq_true rfl, Nat.le_of_ble_eq_true rfl⟩ rfl rfl (Nat.le_of_ble_eq_true rfl) dL_isClosed_57 ?_
                        show J p l e rmL_isClosed s m args below meth c g A 5 (MQ below (QC g A (some (.int r)) S') args s 0 0 A) 0 0 60 [(0, .ref (g.2.1 0)), (1, .int v1), (2, .int v2), (3, .int v3), (4, .int v4)] [.int r57] S57
                        refine j_if_eq F (tgt := 85) dL_isClosed_60 (by decide) hm (fun _ hm => ?_) (fun _ hm => ?_)
                        · refine j_sub [0, 1, 2, 3, 4] rfl ?_
                          exact hj85 v4 S57  hm
                        · refine j_aload_n F 0 dL_isClosed_63 rfl ?_
                          refine j_iload_n F 3 dL_isClosed_64 rfl ?_
                          refine j_iload F 4 dL_isClosed_65 rfl ?_
                          refine j_iconst F (v := 1) dL_isClosed_67 (by decide) ?_
                          refine bndX_ok hm (fun r68 S68 hc68 hm => ?_) (fun q S68 hc68 hm => ?_)
                          · refine j_callV F (n := 3) (As := [.int v3, .int v4, .int 1]) (rest := []) (c_X5_rights l g hg v3 v4 1 S57 r68 S68 hc68) gw_L_33 (by decide +kernel) ⟨Nat.le_of_ble_eq_true rfl, Nat.le_of_ble_eq_true rfl⟩ ⟨Nat.le_of_ble_eq_true rfl, Nat.le_of_ble_eq_true rfl⟩ lay_0 rfl rfl rfl (Nat.le_of_ble_eq_true rfl) dL_isClosed_68 ?_
                            show J p l e rmL_isClosed s m args below meth c g A 5 (MQ below (QC g A (some (.int r)) S') args s 0 0 A) 0 0 71 [(0, .ref (g.2.1 0)), (1, .int v1), (2, .int v2), (3, .int v3), (4, .int v4)] [.int r68] S68
                            refine j_aload_n F 0 dL_isClosed_71 rfl ?_
                            refine j_iload_n F 2 dL_isClosed_72 rfl ?_
                            refine j_iload F 4 dL_isClosed_73 rfl ?_
                            refine j_iconst F (v := 1) dL_isClosed_75 (by decide) ?_
                            refine bndX_ok hm (fun r76 S76 hc76 hm => ?_) (fun q S76 hc76 hm => ?_)
                            · refine j_callV F (n := 3) (As := [.int v2, .int v4, .int 1]) (rest := [.int r68]) (c_X5_rights l g hg v2 v4 1 S68 r76 S76 hc76) gw_L_33 (by decide +kernel) ⟨Nat.le_of_ble_eq_true rfl, Nat.le_of_ble_eq_true rfl⟩ ⟨Nat.le_of_ble_eq_true rfl, Nat.le_of_ble_eq_true rfl⟩ lay_0 rfl rfl rfl (Nat.le_of_ble_eq_true rfl) dL_isClosed_76 ?_
                              show J p l e rmL_isClosed s m args below meth c g A 5 (MQ below (QC g A (some (.int r)) S') args s 0 0 A) 0 0 79 [(0, .ref (g.2.1 0)), (1, .int v1), (2, .int v2), (3, .int v3), (4, .int v4)] [.int r76, .int r68] S76
                              refine j_iconst F (v := -1) dL_isClosed_79 (by decide) ?_
                              refine j_ixor F dL_isClosed_80 ?_
                              refine j_iand F dL_isClosed_81 ?_
                              refine j_if_ne F (tgt := 117) dL_isClosed_82 (by decide) hm (fun _ hm => ?_) (fun _ hm => ?_)
                              · refine j_sub [] rfl ?_
                                exact hj117 S76  hm
                              · refine j_sub [0, 1, 2, 3, 4] rfl ?_
                                exact hj85 v4 S76  hm
                            · cases hm
                          · cases hm
                      · refine j_goto F (tgt := 119) dL_isClosed_50 (by decide) ?_
                        refine j_sub [0, 1, 2, 3, 4] rfl ?_
                        exact hj119 v4 S  hm
              · cases e27 with
                | inl y27 =>
                  dsimp only [Sum.elim_inl] at hm
                  show J p l e rmL_isClosed s m args below meth c g A 5 (MQ below (QC g A (some (.int r)) S') args s 0 0 A) 0 0 125 [(0, .ref (g.2.1 0)), (1, .int v1), (2, .int v2), (3, .int v3)] [] y27
                  refine j_sub [0, 1, 2, 3] rfl ?_
                  exact hj125 v3 y27  hm
                | inr q =>
                  exact hm
          · cases hm
      · cases e9 with
        | inl y9 =>
          dsimp only [Sum.elim_inl] at hm
          show J p l e rmL_isClosed s m args below meth c g A 5 (MQ below (QC g A (some (.int r)) S') args s 0 0 A) 0 0 131 [(0, .ref (g.2.1 0)), (1, .int v1), (2, .int v2)] [] y9
          refine j_sub [0, 1, 2] rfl ?_
          exact hj131 v2 y9  hm
        | inr q =>
          exact hm
  · cases e2 with
    | inl y2 =>
      dsimp only [Sum.elim_inl] at hm
      show J p l e rmL_isClosed s m args below meth c g A 5 (MQ below (QC g A (some (.int r)) S') args s 0 0 A) 0 0 137 [] [] y2
      refine j_iconst F (v := 1) dL_isClosed_137 (by decide) ?_
      exact j_zret_e F rfl rfl dL_isClosed_138 hm
    | inr q =>
      exact hm
def m_L_comes_J190 (S : Hs) : Option (Int32 × Hs) := some ((0, S))
def m_L_comes_J332 (w0 : Int32) (S : Hs) : Option (Int32 × Hs) := gd (decide (w0 = 0 ∨ w0 = 1)) (some ((w0, S)))
def m_L_comes_J331 (S : Hs) : Option (Int32 × Hs) := m_L_comes_J332 0 S
noncomputable def m_L_comes_J279 (v2 : Int32) (v3 : Int32) (v4 : Int32) (v6 : Int32) (v10 : Int32) (v11 : Int32) (v12 : Int32) (w0 : Int32) (w2 : Int32) (S : Hs) : Option (Int32 × Hs) := bndX (m_X5_proof w0 v2 v3 S) (fun r281 S281 => (bnd (w2 + r281) fun v13_285 => (if v10 < 0 then (m_L_comes_J331 S281) else (if v11 < 0 then (m_L_comes_J331 S281) else (if v12 = (v4 - 1) then (if v6 ≤ 0 then (m_L_comes_J331 S281) else (if (v13_285 + 1) < v6 then (m_L_comes_J331 S281) else (if v6 < v4 then (m_L_comes_J331 S281) else (m_L_comes_J332 1 S281)))) else (m_L_comes_J331 S281)))))) (fun q S281 => none)
noncomputable def m_L_comes_J261 (v2 : Int32) (v3 : Int32) (v4 : Int32) (v6 : Int32) (v7 : Int32) (v8 : Int32) (v9 : Int32) (v10 : Int32) (v11 : Int32) (v12 : Int32) (w0 : Int32) (w1 : Int32) (S : Hs) : Option (Int32 × Hs) := bndX (m_X5_proof w1 w0 v8 S) (fun r263 S263 => (if v9 = 0 then (m_L_comes_J279 v2 v3 v4 v6 v10 v11 v12 v8 r263 S263) else (m_L_comes_J279 v2 v3 v4 v6 v10 v11 v12 v7 r263 S263))) (fun q S263 => none)
noncomputable def m_L_comes_J246 (v2 : Int32) (v3 : Int32) (v4 : Int32) (v6 : Int32) (v7 : Int32) (v8 : Int32) (v9 : Int32) (v10 : Int32) (v11 : Int32) (w0 : Int32) (S : Hs) : Option (Int32 × Hs) := if v9 = 0 then (m_L_comes_J261 v2 v3 v4 v6 v7 v8 v9 v10 v11 w0 0 v7 S) else (m_L_comes_J261 v2 v3 v4 v6 v7 v8 v9 v10 v11 w0 1 v7 S)
noncomputable def m_L_comes_J225 (v2 : Int32) (v3 : Int32) (v4 : Int32) (v6 : Int32) (v7 : Int32) (v8 : Int32) (v9 : Int32) (v10 : Int32) (w0 : Int32) (S : Hs) : Option (Int32 × Hs) := bndX (m_X5_round w0 v2 v3 S) (fun r227 S227 => (if v10 ≤ r227 then (m_L_comes_J246 v2 v3 v4 v6 v7 v8 v9 v10 r227 r227 S227) else (m_L_comes_J246 v2 v3 v4 v6 v7 v8 v9 v10 r227 v10 S227))) (fun q S227 => none)
noncomputable def m_L_comes_J205 (v2 : Int32) (v3 : Int32) (v4 : Int32) (v6 : Int32) (v7 : Int32) (v8 : Int32) (v9 : Int32) (w0 : Int32) (w1 : Int32) (S : Hs) : Option (Int32 × Hs) := bndX (m_X5_round w1 w0 v8 S) (fun r207 S207 => (if v9 = 0 then (m_L_comes_J225 v2 v3 v4 v6 v7 v8 v9 r207 v8 S207) else (m_L_comes_J225 v2 v3 v4 v6 v7 v8 v9 r207 v7 S207))) (fun q S207 => none)
noncomputable def m_L_comes_J156 (v1 : Int32) (v2 : Int32) (v3 : Int32) (v4 : Int32) (v6 : Int32) (v7 : Int32) (v8 : Int32) (v9 : Int32) (w0 : Int32) (S : Hs) : Option (Int32 × Hs) := if w0 = v1 then (bndX (m_X5_thing v7 1 S) (fun r164 S164 => (if r164 = 1 then (if v7 = v8 then (m_L_comes_J190 S164) else (if v7 = v3 then (m_L_comes_J190 S164) else (if v8 = v3 then (m_L_comes_J190 S164) else (if v9 = 0 then (m_L_comes_J205 v2 v3 v4 v6 v7 v8 v9 0 v7 S164) else (m_L_comes_J205 v2 v3 v4 v6 v7 v8 v9 1 v7 S164))))) else (m_L_comes_J190 S164))) (fun q S164 => none)) else (m_L_comes_J190 S)
noncomputable def m_L_comes_J131 (v1 : Int32) (v2 : Int32) (v3 : Int32) (v4 : Int32) (v5 : Int32) (v6 : Int32) (v7 : Int32) (v8 : Int32) (w0 : Int32) (S : Hs) : Option (Int32 × Hs) := if v4 < 1 then (m_L_comes_J190 S) else (if v5 < 0 then (m_L_comes_J190 S) else (if w0 = 0 then (m_L_comes_J156 v1 v2 v3 v4 v6 v7 v8 w0 v7 S) else (m_L_comes_J156 v1 v2 v3 v4 v6 v7 v8 w0 v8 S)))
def m_L_comes_J101 (w0 : Int32) (S : Hs) : Option (Int32 × Hs) := gd (decide (w0 = 0 ∨ w0 = 1)) (some ((w0, S)))
def m_L_comes_J100 (S : Hs) : Option (Int32 × Hs) := m_L_comes_J101 0 S
def m_L_comes_J63 (w0 : Int32) (S : Hs) : Option (Int32 × Hs) := gd (decide (w0 = 0 ∨ w0 = 1)) (some ((w0, S)))
def m_L_comes_J62 (S : Hs) : Option (Int32 × Hs) := m_L_comes_J63 0 S
noncomputable def m_L_comes (v1 : Int32) (v2 : Int32) (v3 : Int32) (S : Hs) : Option (Int32 × Hs) := bndX (m_X5_round v1 v2 v3 S) (fun r4 S4 => (bndX (m_X5_way v1 v2 v3 S4) (fun r13 S13 => (bndX (m_X5_proof v1 v2 v3 S13) (fun r22 S22 => (bndE (m_L_ends v1 v2 v3 S22) fun r31 S31 => (if r31 = 0 then (if r4 = ((-9)) then (if r13 = ((-9)) then (if r22 = ((-9)) then (m_L_comes_J63 1 S31) else (m_L_comes_J62 S31)) else (m_L_comes_J62 S31)) else (m_L_comes_J62 S31)) else (bndX (m_X5_rights v1 v3 0 S31) (fun r68 S68 => (if ((r68 >>> (v2 &&& 31)) &&& 1) = 1 then (if r4 = 0 then (if r13 = ((-9)) then (if r22 = 0 then (m_L_comes_J101 1 S68) else (m_L_comes_J100 S68)) else (m_L_comes_J100 S68)) else (m_L_comes_J100 S68)) else (bnd (irm (r13 / 10) 10) fun v7_110 => (bnd (irm r13 10) fun v8_117 => (if r13 < 100 then (m_L_comes_J131 v1 v2 v3 r4 r13 r22 v7_110 v8_117 0 S68) else (m_L_comes_J131 v1 v2 v3 r4 r13 r22 v7_110 v8_117 1 S68)))))) (fun q S68 => none))))) (fun q S22 => none))) (fun q S13 => none))) (fun q S4 => none)
set_option maxRecDepth 100000 in
set_option maxHeartbeats 4000000 in
theorem c_L_comes (l : Launch) (g : GG) (hg : Inj g) (v1 : Int32) (v2 : Int32) (v3 : Int32)  (S : Hs) (r : Int32) (S' : Hs) (hm : m_L_comes v1 v2 v3 S = some ((r, S'))) : CM l yL_comes [.code yL_comes cL_comes 14 (some .boolean)] rmL_comes [.ref (g.2.1 0), .int v1, .int v2, .int v3] g S (some (.int r)) S' := by
  unfold m_L_comes at hm
  refine CM.of (cc := cL_comes) (nL := 14) (ret := (some .boolean)) (lv := [(0, .ref (g.2.1 0)), (1, .int v1), (2, .int v2), (3, .int v3)]) (by decide +kernel) hg (Nat.le_of_ble_eq_true rfl) rfl (fun p e s m args below meth c A F => ?_)
  replace F : Fx p s m meth c cL_comes RL 14 (some .boolean) g A := F
  show J p l e rmL_comes s m args below meth c g A 14 (MQ below (QC g A (some (.int r)) S') args s 0 0 A) 0 0 0 [(0, .ref (g.2.1 0)), (1, .int v1), (2, .int v2), (3, .int v3)] [] S
  have hj190 : ∀ (S : Hs), m_L_comes_J190 S = some ((r, S')) → J p l e rmL_comes s m args below meth c g A 14 (MQ below (QC g A (some (.int r)) S') args s 0 0 A) 0 0 190 [] [] S := by
    intro S hm
    unfold m_L_comes_J190 at hm
    refine j_iconst F (v := 0) dL_comes_190 (by decide) ?_
    exact j_zret_e F rfl rfl dL_comes_191 hm
  have hj332 : ∀ (w0 : Int32) (S : Hs), m_L_comes_J332 w0 S = some ((r, S')) → J p l e rmL_comes s m args below meth c g A 14 (MQ below (QC g A (some (.int r)) S') args s 0 0 A) 0 0 332 [] [.int w0] S := by
    intro w0 S hm
    unfold m_L_comes_J332 at hm
    obtain ⟨hb, hm⟩ := gd_ok hm
    exact j_zret_e F rfl (z_nar hb) dL_comes_332 hm
  have hj331 : ∀ (S : Hs), m_L_comes_J331 S = some ((r, S')) → J p l e rmL_comes s m args below meth c g A 14 (MQ below (QC g A (some (.int r)) S') args s 0 0 A) 0 0 331 [] [] S := by
    intro S hm
    unfold m_L_comes_J331 at hm
    refine j_iconst F (v := 0) dL_comes_331 (by decide) ?_
    refine j_sub [] rfl ?_
    exact hj332 0 S  hm
  have hj279 : ∀ (v2 : Int32) (v3 : Int32) (v4 : Int32) (v6 : Int32) (v10 : Int32) (v11 : Int32) (v12 : Int32) (w0 : Int32) (w2 : Int32) (S : Hs), m_L_comes_J279 v2 v3 v4 v6 v10 v11 v12 w0 w2 S = some ((r, S')) → J p l e rmL_comes s m args below meth c g A 14 (MQ below (QC g A (some (.int r)) S') args s 0 0 A) 0 0 279 [(2, .int v2), (3, .int v3), (4, .int v4), (6, .int v6), (10, .int v10), (11, .int v11), (12, .int v12)] [.int w0, .ref (g.2.1 0), .int w2] S := by
    intro v2 v3 v4 v6 v10 v11 v12 w0 w2 S hm
    unfold m_L_comes_J279 at hm
    refine j_iload_n F 0 dL_comes_279 rfl ?_
    refine j_iload_n F 1 dL_comes_280 rfl ?_
    refine bndX_ok hm (fun r281 S281 hc281 hm => ?_) (fun q S281 hc281 hm => ?_)
    · refine j_callV F (n := 3) (As := [.int w0, .int v2, .int v3]) (rest := [.int w2]) (c_X5_proof l g hg w0 v2 v3 S r281 S281 hc281) gw_L_52 (by decide +kernel) ⟨Nat.le_of_ble_eq_true rfl, Nat.le_of_ble_eq_true rfl⟩ ⟨Nat.le_of_ble_eq_true rfl, Nat.le_of_ble_eq_true rfl⟩ lay_0 rfl rfl rfl (Nat.le_of_ble_eq_true rfl) dL_comes_281 ?_
      show J p l e rmL_comes s m args below meth c g A 14 (MQ below (QC g A (some (.int r)) S') args s 0 0 A) 0 0 284 [(2, .int v2), (3, .int v3), (4, .int v4), (6, .int v6), (10, .int v10), (11, .int v11), (12, .int v12)] [.int r281, .int w2] S281
      refine j_iadd F dL_comes_284 ?_
      refine j_bnd hm (fun v13_285 hm => ?_)
      refine j_istore F (lv' := [(13, .int v13_285), (2, .int v2), (3, .int v3), (4, .int v4), (6, .int v6), (10, .int v10), (11, .int v11), (12, .int v12)]) dL_comes_285 (by decide) rfl ?_
      refine j_iload F 5 dL_comes_287 rfl ?_
      refine j_if_lt F (tgt := 331) dL_comes_289 (by decide) hm (fun _ hm => ?_) (fun _ hm => ?_)
      · refine j_sub [] rfl ?_
        exact hj331 S281  hm
      · refine j_iload F 6 dL_comes_292 rfl ?_
        refine j_if_lt F (tgt := 331) dL_comes_294 (by decide) hm (fun _ hm => ?_) (fun _ hm => ?_)
        · refine j_sub [] rfl ?_
          exact hj331 S281  hm
        · refine j_iload F 7 dL_comes_297 rfl ?_
          refine j_iload F 3 dL_comes_299 rfl ?_
          refine j_iconst F (v := 1) dL_comes_301 (by decide) ?_
          refine j_isub F dL_comes_302 ?_
          refine j_icmp_ne F (tgt := 331) dL_comes_303 (by decide) hm (fun _ hm => ?_) (fun _ hm => ?_)
          · refine j_sub [] rfl ?_
            exact hj331 S281  hm
          · refine j_iload F 4 dL_comes_306 rfl ?_
            refine j_if_le F (tgt := 331) dL_comes_308 (by decide) hm (fun _ hm => ?_) (fun _ hm => ?_)
            · refine j_sub [] rfl ?_
              exact hj331 S281  hm
            · refine j_iload F 4 dL_comes_311 rfl ?_
              refine j_iload F 0 dL_comes_313 rfl ?_
              refine j_iconst F (v := 1) dL_comes_315 (by decide) ?_
              refine j_iadd F dL_comes_316 ?_
              refine j_icmp_gt F (tgt := 331) dL_comes_317 (by decide) hm (fun _ hm => ?_) (fun _ hm => ?_)
              · refine j_sub [] rfl ?_
                exact hj331 S281  hm
              · refine j_iload F 4 dL_comes_320 rfl ?_
                refine j_iload F 3 dL_comes_322 rfl ?_
                refine j_icmp_lt F (tgt := 331) dL_comes_324 (by decide) hm (fun _ hm => ?_) (fun _ hm => ?_)
                · refine j_sub [] rfl ?_
                  exact hj331 S281  hm
                · refine j_iconst F (v := 1) dL_comes_327 (by decide) ?_
                  refine j_goto F (tgt := 332) dL_comes_328 (by decide) ?_
                  refine j_sub [] rfl ?_
                  exact hj332 1 S281  hm
    · cases hm
  have hj261 : ∀ (v2 : Int32) (v3 : Int32) (v4 : Int32) (v6 : Int32) (v7 : Int32) (v8 : Int32) (v9 : Int32) (v10 : Int32) (v11 : Int32) (v12 : Int32) (w0 : Int32) (w1 : Int32) (S : Hs), m_L_comes_J261 v2 v3 v4 v6 v7 v8 v9 v10 v11 v12 w0 w1 S = some ((r, S')) → J p l e rmL_comes s m args below meth c g A 14 (MQ below (QC g A (some (.int r)) S') args s 0 0 A) 0 0 261 [(0, .ref (g.2.1 0)), (2, .int v2), (3, .int v3), (4, .int v4), (6, .int v6), (7, .int v7), (8, .int v8), (9, .int v9), (10, .int v10), (11, .int v11), (12, .int v12)] [.int w0, .int w1, .ref (g.2.1 0)] S := by
    intro v2 v3 v4 v6 v7 v8 v9 v10 v11 v12 w0 w1 S hm
    unfold m_L_comes_J261 at hm
    refine j_iload F 6 dL_comes_261 rfl ?_
    refine bndX_ok hm (fun r263 S263 hc263 hm => ?_) (fun q S263 hc263 hm => ?_)
    · refine j_callV F (n := 3) (As := [.int w1, .int w0, .int v8]) (rest := []) (c_X5_proof l g hg w1 w0 v8 S r263 S263 hc263) gw_L_52 (by decide +kernel) ⟨Nat.le_of_ble_eq_true rfl, Nat.le_of_ble_eq_true rfl⟩ ⟨Nat.le_of_ble_eq_true rfl, Nat.le_of_ble_eq_true rfl⟩ lay_0 rfl rfl rfl (Nat.le_of_ble_eq_true rfl) dL_comes_263 ?_
      show J p l e rmL_comes s m args below meth c g A 14 (MQ below (QC g A (some (.int r)) S') args s 0 0 A) 0 0 266 [(0, .ref (g.2.1 0)), (2, .int v2), (3, .int v3), (4, .int v4), (6, .int v6), (7, .int v7), (8, .int v8), (9, .int v9), (10, .int v10), (11, .int v11), (12, .int v12)] [.int r263] S263
      refine j_aload_n F 0 dL_comes_266 rfl ?_
      refine j_iload F 7 dL_comes_267 rfl ?_
      refine j_if_eq F (tgt := 277) dL_comes_269 (by decide) hm (fun _ hm => ?_) (fun _ hm => ?_)
      · refine j_iload F 6 dL_comes_277 rfl ?_
        refine j_sub [1, 2, 3, 4, 8, 9, 10] rfl ?_
        exact hj279 v2 v3 v4 v6 v10 v11 v12 v8 r263 S263  hm
      · refine j_iload F 5 dL_comes_272 rfl ?_
        refine j_goto F (tgt := 279) dL_comes_274 (by decide) ?_
        refine j_sub [1, 2, 3, 4, 8, 9, 10] rfl ?_
        exact hj279 v2 v3 v4 v6 v10 v11 v12 v7 r263 S263  hm
    · cases hm
  have hj246 : ∀ (v2 : Int32) (v3 : Int32) (v4 : Int32) (v6 : Int32) (v7 : Int32) (v8 : Int32) (v9 : Int32) (v10 : Int32) (v11 : Int32) (w0 : Int32) (S : Hs), m_L_comes_J246 v2 v3 v4 v6 v7 v8 v9 v10 v11 w0 S = some ((r, S')) → J p l e rmL_comes s m args below meth c g A 14 (MQ below (QC g A (some (.int r)) S') args s 0 0 A) 0 0 246 [(0, .ref (g.2.1 0)), (2, .int v2), (3, .int v3), (4, .int v4), (6, .int v6), (7, .int v7), (8, .int v8), (9, .int v9), (10, .int v10), (11, .int v11)] [.int w0] S := by
    intro v2 v3 v4 v6 v7 v8 v9 v10 v11 w0 S hm
    unfold m_L_comes_J246 at hm
    refine j_istore F (lv' := [(12, .int w0), (0, .ref (g.2.1 0)), (2, .int v2), (3, .int v3), (4, .int v4), (6, .int v6), (7, .int v7), (8, .int v8), (9, .int v9), (10, .int v10), (11, .int v11)]) dL_comes_246 (by decide) rfl ?_
    refine j_aload_n F 1 dL_comes_248 rfl ?_
    refine j_iload F 6 dL_comes_249 rfl ?_
    refine j_iload F 8 dL_comes_251 rfl ?_
    refine j_if_eq F (tgt := 260) dL_comes_253 (by decide) hm (fun _ hm => ?_) (fun _ hm => ?_)
    · refine j_iconst F (v := 0) dL_comes_260 (by decide) ?_
      refine j_sub [1, 2, 3, 4, 5, 6, 7, 8, 9, 10, 0] rfl ?_
      exact hj261 v2 v3 v4 v6 v7 v8 v9 v10 v11 w0 0 v7 S  hm
    · refine j_iconst F (v := 1) dL_comes_256 (by decide) ?_
      refine j_goto F (tgt := 261) dL_comes_257 (by decide) ?_
      refine j_sub [1, 2, 3, 4, 5, 6, 7, 8, 9, 10, 0] rfl ?_
      exact hj261 v2 v3 v4 v6 v7 v8 v9 v10 v11 w0 1 v7 S  hm
  have hj225 : ∀ (v2 : Int32) (v3 : Int32) (v4 : Int32) (v6 : Int32) (v7 : Int32) (v8 : Int32) (v9 : Int32) (v10 : Int32) (w0 : Int32) (S : Hs), m_L_comes_J225 v2 v3 v4 v6 v7 v8 v9 v10 w0 S = some ((r, S')) → J p l e rmL_comes s m args below meth c g A 14 (MQ below (QC g A (some (.int r)) S') args s 0 0 A) 0 0 225 [(0, .ref (g.2.1 0)), (2, .int v2), (3, .int v3), (4, .int v4), (6, .int v6), (7, .int v7), (8, .int v8), (9, .int v9), (10, .int v10)] [.int w0, .ref (g.2.1 0)] S := by
    intro v2 v3 v4 v6 v7 v8 v9 v10 w0 S hm
    unfold m_L_comes_J225 at hm
    refine j_iload_n F 1 dL_comes_225 rfl ?_
    refine j_iload_n F 2 dL_comes_226 rfl ?_
    refine bndX_ok hm (fun r227 S227 hc227 hm => ?_) (fun q S227 hc227 hm => ?_)
    · refine j_callV F (n := 3) (As := [.int w0, .int v2, .int v3]) (rest := []) (c_X5_round l g hg w0 v2 v3 S r227 S227 hc227) gw_L_45 (by decide +kernel) ⟨Nat.le_of_ble_eq_true rfl, Nat.le_of_ble_eq_true rfl⟩ ⟨Nat.le_of_ble_eq_true rfl, Nat.le_of_ble_eq_true rfl⟩ lay_0 rfl rfl rfl (Nat.le_of_ble_eq_true rfl) dL_comes_227 ?_
      show J p l e rmL_comes s m args below meth c g A 14 (MQ below (QC g A (some (.int r)) S') args s 0 0 A) 0 0 230 [(0, .ref (g.2.1 0)), (2, .int v2), (3, .int v3), (4, .int v4), (6, .int v6), (7, .int v7), (8, .int v8), (9, .int v9), (10, .int v10)] [.int r227] S227
      refine j_istore F (lv' := [(11, .int r227), (0, .ref (g.2.1 0)), (2, .int v2), (3, .int v3), (4, .int v4), (6, .int v6), (7, .int v7), (8, .int v8), (9, .int v9), (10, .int v10)]) dL_comes_230 (by decide) rfl ?_
      refine j_iload F 9 dL_comes_232 rfl ?_
      refine j_iload F 0 dL_comes_234 rfl ?_
      refine j_icmp_le F (tgt := 244) dL_comes_236 (by decide) hm (fun _ hm => ?_) (fun _ hm => ?_)
      · refine j_iload F 0 dL_comes_244 rfl ?_
        refine j_sub [1, 2, 3, 4, 5, 6, 7, 8, 9, 0] rfl ?_
        exact hj246 v2 v3 v4 v6 v7 v8 v9 v10 r227 r227 S227  hm
      · refine j_iload F 9 dL_comes_239 rfl ?_
        refine j_goto F (tgt := 246) dL_comes_241 (by decide) ?_
        refine j_sub [1, 2, 3, 4, 5, 6, 7, 8, 9, 0] rfl ?_
        exact hj246 v2 v3 v4 v6 v7 v8 v9 v10 r227 v10 S227  hm
    · cases hm
  have hj205 : ∀ (v2 : Int32) (v3 : Int32) (v4 : Int32) (v6 : Int32) (v7 : Int32) (v8 : Int32) (v9 : Int32) (w0 : Int32) (w1 : Int32) (S : Hs), m_L_comes_J205 v2 v3 v4 v6 v7 v8 v9 w0 w1 S = some ((r, S')) → J p l e rmL_comes s m args below meth c g A 14 (MQ below (QC g A (some (.int r)) S') args s 0 0 A) 0 0 205 [(0, .ref (g.2.1 0)), (2, .int v2), (3, .int v3), (4, .int v4), (6, .int v6), (7, .int v7), (8, .int v8), (9, .int v9)] [.int w0, .int w1, .ref (g.2.1 0)] S := by
    intro v2 v3 v4 v6 v7 v8 v9 w0 w1 S hm
    unfold m_L_comes_J205 at hm
    refine j_iload F 6 dL_comes_205 rfl ?_
    refine bndX_ok hm (fun r207 S207 hc207 hm => ?_) (fun q S207 hc207 hm => ?_)
    · refine j_callV F (n := 3) (As := [.int w1, .int w0, .int v8]) (rest := []) (c_X5_round l g hg w1 w0 v8 S r207 S207 hc207) gw_L_45 (by decide +kernel) ⟨Nat.le_of_ble_eq_true rfl, Nat.le_of_ble_eq_true rfl⟩ ⟨Nat.le_of_ble_eq_true rfl, Nat.le_of_ble_eq_true rfl⟩ lay_0 rfl rfl rfl (Nat.le_of_ble_eq_true rfl) dL_comes_207 ?_
      show J p l e rmL_comes s m args below meth c g A 14 (MQ below (QC g A (some (.int r)) S') args s 0 0 A) 0 0 210 [(0, .ref (g.2.1 0)), (2, .int v2), (3, .int v3), (4, .int v4), (6, .int v6), (7, .int v7), (8, .int v8), (9, .int v9)] [.int r207] S207
      refine j_istore F (lv' := [(10, .int r207), (0, .ref (g.2.1 0)), (2, .int v2), (3, .int v3), (4, .int v4), (6, .int v6), (7, .int v7), (8, .int v8), (9, .int v9)]) dL_comes_210 (by decide) rfl ?_
      refine j_aload_n F 1 dL_comes_212 rfl ?_
      refine j_iload F 8 dL_comes_213 rfl ?_
      refine j_if_eq F (tgt := 223) dL_comes_215 (by decide) hm (fun _ hm => ?_) (fun _ hm => ?_)
      · refine j_iload F 7 dL_comes_223 rfl ?_
        refine j_sub [1, 2, 3, 4, 5, 6, 7, 8, 0] rfl ?_
        exact hj225 v2 v3 v4 v6 v7 v8 v9 r207 v8 S207  hm
      · refine j_iload F 6 dL_comes_218 rfl ?_
        refine j_goto F (tgt := 225) dL_comes_220 (by decide) ?_
        refine j_sub [1, 2, 3, 4, 5, 6, 7, 8, 0] rfl ?_
        exact hj225 v2 v3 v4 v6 v7 v8 v9 r207 v7 S207  hm
    · cases hm
  have hj156 : ∀ (v1 : Int32) (v2 : Int32) (v3 : Int32) (v4 : Int32) (v6 : Int32) (v7 : Int32) (v8 : Int32) (v9 : Int32) (w0 : Int32) (S : Hs), m_L_comes_J156 v1 v2 v3 v4 v6 v7 v8 v9 w0 S = some ((r, S')) → J p l e rmL_comes s m args below meth c g A 14 (MQ below (QC g A (some (.int r)) S') args s 0 0 A) 0 0 156 [(0, .ref (g.2.1 0)), (1, .int v1), (2, .int v2), (3, .int v3), (4, .int v4), (6, .int v6), (7, .int v7), (8, .int v8), (9, .int v9)] [.int w0] S := by
    intro v1 v2 v3 v4 v6 v7 v8 v9 w0 S hm
    unfold m_L_comes_J156 at hm
    refine j_iload_n F 1 dL_comes_156 rfl ?_
    refine j_icmp_ne F (tgt := 190) dL_comes_157 (by decide) hm (fun _ hm => ?_) (fun _ hm => ?_)
    · refine j_sub [] rfl ?_
      exact hj190 S  hm
    · refine j_aload_n F 0 dL_comes_160 rfl ?_
      refine j_iload F 6 dL_comes_161 rfl ?_
      refine j_iconst F (v := 1) dL_comes_163 (by decide) ?_
      refine bndX_ok hm (fun r164 S164 hc164 hm => ?_) (fun q S164 hc164 hm => ?_)
      · refine j_callV F (n := 2) (As := [.int v7, .int 1]) (rest := []) (c_X5_thing l g hg v7 1 S r164 S164 hc164) gw_L_26 (by decide +kernel) ⟨Nat.le_of_ble_eq_true rfl, Nat.le_of_ble_eq_true rfl⟩ ⟨Nat.le_of_ble_eq_true rfl, Nat.le_of_ble_eq_true rfl⟩ lay_0 rfl rfl rfl (Nat.le_of_ble_eq_true rfl) dL_comes_164 ?_
        show J p l e rmL_comes s m args below meth c g A 14 (MQ below (QC g A (some (.int r)) S') args s 0 0 A) 0 0 167 [(0, .ref (g.2.1 0)), (1, .int v1), (2, .int v2), (3, .int v3), (4, .int v4), (6, .int v6), (7, .int v7), (8, .int v8), (9, .int v9)] [.int r164] S164
        refine j_iconst F (v := 1) dL_comes_167 (by decide) ?_
        refine j_icmp_ne F (tgt := 190) dL_comes_168 (by decide) hm (fun _ hm => ?_) (fun _ hm => ?_)
        · refine j_sub [] rfl ?_
          exact hj190 S164  hm
        · refine j_iload F 6 dL_comes_171 rfl ?_
          refine j_iload F 7 dL_comes_173 rfl ?_
          refine j_icmp_eq F (tgt := 190) dL_comes_175 (by decide) hm (fun _ hm => ?_) (fun _ hm => ?_)
          · refine j_sub [] rfl ?_
            exact hj190 S164  hm
          · refine j_iload F 6 dL_comes_178 rfl ?_
            refine j_iload_n F 3 dL_comes_180 rfl ?_
            refine j_icmp_eq F (tgt := 190) dL_comes_181 (by decide) hm (fun _ hm => ?_) (fun _ hm => ?_)
            · refine j_sub [] rfl ?_
              exact hj190 S164  hm
            · refine j_iload F 7 dL_comes_184 rfl ?_
              refine j_iload_n F 3 dL_comes_186 rfl ?_
              refine j_icmp_ne F (tgt := 192) dL_comes_187 (by decide) hm (fun _ hm => ?_) (fun _ hm => ?_)
              · refine j_aload_n F 0 dL_comes_192 rfl ?_
                refine j_iload F 6 dL_comes_193 rfl ?_
                refine j_iload F 8 dL_comes_195 rfl ?_
                refine j_if_eq F (tgt := 204) dL_comes_197 (by decide) hm (fun _ hm => ?_) (fun _ hm => ?_)
                · refine j_iconst F (v := 0) dL_comes_204 (by decide) ?_
                  refine j_sub [0, 2, 3, 4, 5, 6, 7, 8] rfl ?_
                  exact hj205 v2 v3 v4 v6 v7 v8 v9 0 v7 S164  hm
                · refine j_iconst F (v := 1) dL_comes_200 (by decide) ?_
                  refine j_goto F (tgt := 205) dL_comes_201 (by decide) ?_
                  refine j_sub [0, 2, 3, 4, 5, 6, 7, 8] rfl ?_
                  exact hj205 v2 v3 v4 v6 v7 v8 v9 1 v7 S164  hm
              · refine j_sub [] rfl ?_
                exact hj190 S164  hm
      · cases hm
  have hj131 : ∀ (v1 : Int32) (v2 : Int32) (v3 : Int32) (v4 : Int32) (v5 : Int32) (v6 : Int32) (v7 : Int32) (v8 : Int32) (w0 : Int32) (S : Hs), m_L_comes_J131 v1 v2 v3 v4 v5 v6 v7 v8 w0 S = some ((r, S')) → J p l e rmL_comes s m args below meth c g A 14 (MQ below (QC g A (some (.int r)) S') args s 0 0 A) 0 0 131 [(0, .ref (g.2.1 0)), (1, .int v1), (2, .int v2), (3, .int v3), (4, .int v4), (5, .int v5), (6, .int v6), (7, .int v7), (8, .int v8)] [.int w0] S := by
    intro v1 v2 v3 v4 v5 v6 v7 v8 w0 S hm
    unfold m_L_comes_J131 at hm
    refine j_istore F (lv' := [(9, .int w0), (0, .ref (g.2.1 0)), (1, .int v1), (2, .int v2), (3, .int v3), (4, .int v4), (5, .int v5), (6, .int v6), (7, .int v7), (8, .int v8)]) dL_comes_131 (by decide) rfl ?_
    refine j_iload F 5 dL_comes_133 rfl ?_
    refine j_iconst F (v := 1) dL_comes_135 (by decide) ?_
    refine j_icmp_lt F (tgt := 190) dL_comes_136 (by decide) hm (fun _ hm => ?_) (fun _ hm => ?_)
    · refine j_sub [] rfl ?_
      exact hj190 S  hm
    · refine j_iload F 6 dL_comes_139 rfl ?_
      refine j_if_lt F (tgt := 190) dL_comes_141 (by decide) hm (fun _ hm => ?_) (fun _ hm => ?_)
      · refine j_sub [] rfl ?_
        exact hj190 S  hm
      · refine j_iload F 0 dL_comes_144 rfl ?_
        refine j_if_eq F (tgt := 154) dL_comes_146 (by decide) hm (fun _ hm => ?_) (fun _ hm => ?_)
        · refine j_iload F 8 dL_comes_154 rfl ?_
          refine j_sub [1, 2, 3, 4, 5, 7, 8, 9, 0] rfl ?_
          exact hj156 v1 v2 v3 v4 v6 v7 v8 w0 v7 S  hm
        · refine j_iload F 9 dL_comes_149 rfl ?_
          refine j_goto F (tgt := 156) dL_comes_151 (by decide) ?_
          refine j_sub [1, 2, 3, 4, 5, 7, 8, 9, 0] rfl ?_
          exact hj156 v1 v2 v3 v4 v6 v7 v8 w0 v8 S  hm
  have hj101 : ∀ (w0 : Int32) (S : Hs), m_L_comes_J101 w0 S = some ((r, S')) → J p l e rmL_comes s m args below meth c g A 14 (MQ below (QC g A (some (.int r)) S') args s 0 0 A) 0 0 101 [] [.int w0] S := by
    intro w0 S hm
    unfold m_L_comes_J101 at hm
    obtain ⟨hb, hm⟩ := gd_ok hm
    exact j_zret_e F rfl (z_nar hb) dL_comes_101 hm
  have hj100 : ∀ (S : Hs), m_L_comes_J100 S = some ((r, S')) → J p l e rmL_comes s m args below meth c g A 14 (MQ below (QC g A (some (.int r)) S') args s 0 0 A) 0 0 100 [] [] S := by
    intro S hm
    unfold m_L_comes_J100 at hm
    refine j_iconst F (v := 0) dL_comes_100 (by decide) ?_
    refine j_sub [] rfl ?_
    exact hj101 0 S  hm
  have hj63 : ∀ (w0 : Int32) (S : Hs), m_L_comes_J63 w0 S = some ((r, S')) → J p l e rmL_comes s m args below meth c g A 14 (MQ below (QC g A (some (.int r)) S') args s 0 0 A) 0 0 63 [] [.int w0] S := by
    intro w0 S hm
    unfold m_L_comes_J63 at hm
    obtain ⟨hb, hm⟩ := gd_ok hm
    exact j_zret_e F rfl (z_nar hb) dL_comes_63 hm
  have hj62 : ∀ (S : Hs), m_L_comes_J62 S = some ((r, S')) → J p l e rmL_comes s m args below meth c g A 14 (MQ below (QC g A (some (.int r)) S') args s 0 0 A) 0 0 62 [] [] S := by
    intro S hm
    unfold m_L_comes_J62 at hm
    refine j_iconst F (v := 0) dL_comes_62 (by decide) ?_
    refine j_sub [] rfl ?_
    exact hj63 0 S  hm
  refine j_aload_n F 0 dL_comes_0 rfl ?_
  refine j_iload_n F 1 dL_comes_1 rfl ?_
  refine j_iload_n F 2 dL_comes_2 rfl ?_
  refine j_iload_n F 3 dL_comes_3 rfl ?_
  refine bndX_ok hm (fun r4 S4 hc4 hm => ?_) (fun q S4 hc4 hm => ?_)
  · refine j_callV F (n := 3) (As := [.int v1, .int v2, .int v3]) (rest := []) (c_X5_round l g hg v1 v2 v3 S r4 S4 hc4) gw_L_45 (by decide +kernel) ⟨Nat.le_of_ble_eq_true rfl, Nat.le_of_ble_eq_true rfl⟩ ⟨Nat.le_of_ble_eq_true rfl, Nat.le_of_ble_eq_true rfl⟩ lay_0 rfl rfl rfl (Nat.le_of_ble_eq_true rfl) dL_comes_4 ?_
    show J p l e rmL_comes s m args below meth c g A 14 (MQ below (QC g A (some (.int r)) S') args s 0 0 A) 0 0 7 [(0, .ref (g.2.1 0)), (1, .int v1), (2, .int v2), (3, .int v3)] [.int r4] S4
    refine j_istore F (lv' := [(4, .int r4), (0, .ref (g.2.1 0)), (1, .int v1), (2, .int v2), (3, .int v3)]) dL_comes_7 (by decide) rfl ?_
    refine j_aload_n F 1 dL_comes_9 rfl ?_
    refine j_iload_n F 2 dL_comes_10 rfl ?_
    refine j_iload_n F 3 dL_comes_11 rfl ?_
    refine j_iload_n F 4 dL_comes_12 rfl ?_
    refine bndX_ok hm (fun r13 S13 hc13 hm => ?_) (fun q S13 hc13 hm => ?_)
    · refine j_callV F (n := 3) (As := [.int v1, .int v2, .int v3]) (rest := []) (c_X5_way l g hg v1 v2 v3 S4 r13 S13 hc13) gw_L_49 (by decide +kernel) ⟨Nat.le_of_ble_eq_true rfl, Nat.le_of_ble_eq_true rfl⟩ ⟨Nat.le_of_ble_eq_true rfl, Nat.le_of_ble_eq_true rfl⟩ lay_0 rfl rfl rfl (Nat.le_of_ble_eq_true rfl) dL_comes_13 ?_
      show J p l e rmL_comes s m args below meth c g A 14 (MQ below (QC g A (some (.int r)) S') args s 0 0 A) 0 0 16 [(4, .int r4), (0, .ref (g.2.1 0)), (1, .int v1), (2, .int v2), (3, .int v3)] [.int r13] S13
      refine j_istore F (lv' := [(5, .int r13), (4, .int r4), (0, .ref (g.2.1 0)), (1, .int v1), (2, .int v2), (3, .int v3)]) dL_comes_16 (by decide) rfl ?_
      refine j_aload_n F 2 dL_comes_18 rfl ?_
      refine j_iload_n F 3 dL_comes_19 rfl ?_
      refine j_iload_n F 4 dL_comes_20 rfl ?_
      refine j_iload_n F 5 dL_comes_21 rfl ?_
      refine bndX_ok hm (fun r22 S22 hc22 hm => ?_) (fun q S22 hc22 hm => ?_)
      · refine j_callV F (n := 3) (As := [.int v1, .int v2, .int v3]) (rest := []) (c_X5_proof l g hg v1 v2 v3 S13 r22 S22 hc22) gw_L_52 (by decide +kernel) ⟨Nat.le_of_ble_eq_true rfl, Nat.le_of_ble_eq_true rfl⟩ ⟨Nat.le_of_ble_eq_true rfl, Nat.le_of_ble_eq_true rfl⟩ lay_0 rfl rfl rfl (Nat.le_of_ble_eq_true rfl) dL_comes_22 ?_
        show J p l e rmL_comes s m args below meth c g A 14 (MQ below (QC g A (some (.int r)) S') args s 0 0 A) 0 0 25 [(5, .int r13), (4, .int r4), (0, .ref (g.2.1 0)), (1, .int v1), (2, .int v2), (3, .int v3)] [.int r22] S22
        refine j_istore F (lv' := [(6, .int r22), (5, .int r13), (4, .int r4), (0, .ref (g.2.1 0)), (1, .int v1), (2, .int v2), (3, .int v3)]) dL_comes_25 (by decide) rfl ?_
        refine j_aload_n F 3 dL_comes_27 rfl ?_
        refine j_iload_n F 4 dL_comes_28 rfl ?_
        refine j_iload_n F 5 dL_comes_29 rfl ?_
        refine j_iload_n F 6 dL_comes_30 rfl ?_
        obtain ⟨r31, S31, hc31, hm⟩ := bndE_ok hm
        refine j_callS F (n := 4) (As := [.ref (g.2.1 0), .int v1, .int v2, .int v3]) (rest := []) (c_L_ends l g hg v1 v2 v3 S22 r31 S31 hc31) gw_L_41 (by decide +kernel) ⟨Nat.le_of_ble_eq_true rfl, Nat.le_of_ble_eq_true rfl⟩ ⟨Nat.le_of_ble_eq_true rfl, Nat.le_of_ble_eq_true rfl⟩ rfl rfl (Nat.le_of_ble_eq_true rfl) dL_comes_31 ?_
        show J p l e rmL_comes s m args below meth c g A 14 (MQ below (QC g A (some (.int r)) S') args s 0 0 A) 0 0 34 [(6, .int r22), (5, .int r13), (4, .int r4), (0, .ref (g.2.1 0)), (1, .int v1), (2, .int v2), (3, .int v3)] [.int r31] S31
        refine j_if_ne F (tgt := 64) dL_comes_34 (by decide) hm (fun _ hm => ?_) (fun _ hm => ?_)
        · refine j_aload_n F 3 dL_comes_64 rfl ?_
          refine j_iload_n F 4 dL_comes_65 rfl ?_
          refine j_iload_n F 6 dL_comes_66 rfl ?_
          refine j_iconst F (v := 0) dL_comes_67 (by decide) ?_
          refine bndX_ok hm (fun r68 S68 hc68 hm => ?_) (fun q S68 hc68 hm => ?_)
          · refine j_callV F (n := 3) (As := [.int v1, .int v3, .int 0]) (rest := []) (c_X5_rights l g hg v1 v3 0 S31 r68 S68 hc68) gw_L_33 (by decide +kernel) ⟨Nat.le_of_ble_eq_true rfl, Nat.le_of_ble_eq_true rfl⟩ ⟨Nat.le_of_ble_eq_true rfl, Nat.le_of_ble_eq_true rfl⟩ lay_0 rfl rfl rfl (Nat.le_of_ble_eq_true rfl) dL_comes_68 ?_
            show J p l e rmL_comes s m args below meth c g A 14 (MQ below (QC g A (some (.int r)) S') args s 0 0 A) 0 0 71 [(6, .int r22), (5, .int r13), (4, .int r4), (0, .ref (g.2.1 0)), (1, .int v1), (2, .int v2), (3, .int v3)] [.int r68] S68
            refine j_iload_n F 5 dL_comes_71 rfl ?_
            refine j_ishr F dL_comes_72 ?_
            refine j_iconst F (v := 1) dL_comes_73 (by decide) ?_
            refine j_iand F dL_comes_74 ?_
            refine j_iconst F (v := 1) dL_comes_75 (by decide) ?_
            refine j_icmp_ne F (tgt := 102) dL_comes_76 (by decide) hm (fun _ hm => ?_) (fun _ hm => ?_)
            · refine j_iload F 1 dL_comes_102 rfl ?_
              refine j_bipush F (v := 10) dL_comes_104 (by decide) ?_
              refine j_idiv F dL_comes_106 (by decide) ?_
              refine j_bipush F (v := 10) dL_comes_107 (by decide) ?_
              refine j_irem F dL_comes_109 (by decide) ?_
              refine j_bnd hm (fun v7_110 hm => ?_)
              refine j_istore F (lv' := [(7, .int v7_110), (6, .int r22), (5, .int r13), (4, .int r4), (0, .ref (g.2.1 0)), (1, .int v1), (2, .int v2), (3, .int v3)]) dL_comes_110 (by decide) rfl ?_
              refine j_iload F 2 dL_comes_112 rfl ?_
              refine j_bipush F (v := 10) dL_comes_114 (by decide) ?_
              refine j_irem F dL_comes_116 (by decide) ?_
              refine j_bnd hm (fun v8_117 hm => ?_)
              refine j_istore F (lv' := [(8, .int v8_117), (7, .int v7_110), (6, .int r22), (5, .int r13), (4, .int r4), (0, .ref (g.2.1 0)), (1, .int v1), (2, .int v2), (3, .int v3)]) dL_comes_117 (by decide) rfl ?_
              refine j_iload F 3 dL_comes_119 rfl ?_
              refine j_bipush F (v := 100) dL_comes_121 (by decide) ?_
              refine j_icmp_lt F (tgt := 130) dL_comes_123 (by decide) hm (fun _ hm => ?_) (fun _ hm => ?_)
              · refine j_iconst F (v := 0) dL_comes_130 (by decide) ?_
                refine j_sub [5, 6, 7, 8, 4, 3, 2, 1, 0] rfl ?_
                exact hj131 v1 v2 v3 r4 r13 r22 v7_110 v8_117 0 S68  hm
              · refine j_iconst F (v := 1) dL_comes_126 (by decide) ?_
                refine j_goto F (tgt := 131) dL_comes_127 (by decide) ?_
                refine j_sub [5, 6, 7, 8, 4, 3, 2, 1, 0] rfl ?_
                exact hj131 v1 v2 v3 r4 r13 r22 v7_110 v8_117 1 S68  hm
            · refine j_iload F 2 dL_comes_79 rfl ?_
              refine j_if_ne F (tgt := 100) dL_comes_81 (by decide) hm (fun _ hm => ?_) (fun _ hm => ?_)
              · refine j_sub [] rfl ?_
                exact hj100 S68  hm
              · refine j_iload F 1 dL_comes_84 rfl ?_
                refine j_bipush F (v := -9) dL_comes_86 (by decide) ?_
                refine j_icmp_ne F (tgt := 100) dL_comes_88 (by decide) hm (fun _ hm => ?_) (fun _ hm => ?_)
                · refine j_sub [] rfl ?_
                  exact hj100 S68  hm
                · refine j_iload F 0 dL_comes_91 rfl ?_
                  refine j_if_ne F (tgt := 100) dL_comes_93 (by decide) hm (fun _ hm => ?_) (fun _ hm => ?_)
                  · refine j_sub [] rfl ?_
                    exact hj100 S68  hm
                  · refine j_iconst F (v := 1) dL_comes_96 (by decide) ?_
                    refine j_goto F (tgt := 101) dL_comes_97 (by decide) ?_
                    refine j_sub [] rfl ?_
                    exact hj101 1 S68  hm
          · cases hm
        · refine j_iload F 2 dL_comes_37 rfl ?_
          refine j_bipush F (v := -9) dL_comes_39 (by decide) ?_
          refine j_icmp_ne F (tgt := 62) dL_comes_41 (by decide) hm (fun _ hm => ?_) (fun _ hm => ?_)
          · refine j_sub [] rfl ?_
            exact hj62 S31  hm
          · refine j_iload F 1 dL_comes_44 rfl ?_
            refine j_bipush F (v := -9) dL_comes_46 (by decide) ?_
            refine j_icmp_ne F (tgt := 62) dL_comes_48 (by decide) hm (fun _ hm => ?_) (fun _ hm => ?_)
            · refine j_sub [] rfl ?_
              exact hj62 S31  hm
            · refine j_iload F 0 dL_comes_51 rfl ?_
              refine j_bipush F (v := -9) dL_comes_53 (by decide) ?_
              refine j_icmp_ne F (tgt := 62) dL_comes_55 (by decide) hm (fun _ hm => ?_) (fun _ hm => ?_)
              · refine j_sub [] rfl ?_
                exact hj62 S31  hm
              · refine j_iconst F (v := 1) dL_comes_58 (by decide) ?_
                refine j_goto F (tgt := 63) dL_comes_59 (by decide) ?_
                refine j_sub [] rfl ?_
                exact hj63 1 S31  hm
      · cases hm
    · cases hm
  · cases hm
def m_L_spread_J152 (v1 : Int32) (v2 : Int32) (v3 : Int32) (v5 : Int32) (v6 : Int32) (v7 : Int32) (v8 : Int32) (v9 : Int32) (v10 : Int32) (w0 : Int32) (S : Hs) : Option ((Int32 × Int32 × Int32 × Int32 × Int32 × Hs) ⊕ ((Int32 × Int32 × Int32 × Int32 × Hs) ⊕ (Int32 × Hs))) := some (.inl ((w0, v6, v7, v8, v10 + 1, S)))
noncomputable def m_L_spread_L37 (v1 : Int32) (v2 : Int32) (v3 : Int32) (v5 : Int32) (v9 : Int32) (v4 : Int32) (v6 : Int32) (v7 : Int32) (v8 : Int32) (v10 : Int32) (S : Hs) : Option ((Int32 × Int32 × Int32 × Int32 × Int32 × Hs) ⊕ ((Int32 × Int32 × Int32 × Int32 × Hs) ⊕ (Int32 × Hs))) := if 4 ≤ v10 then (some (.inr (.inl ((v4, v6, v7, v8, S))))) else (if v5 = v9 then (some (.inr (.inl ((v4, v6, v7, v8, S))))) else (bndE (m_L_comes v5 v10 v9 S) fun r57 S57 => (if r57 = 0 then (some (.inr (.inr ((0, S57))))) else (bndX (m_X5_rights v5 v9 0 S57) (fun r73 S73 => (bnd (v6 + ((r73 >>> (v10 &&& 31)) &&& 1)) fun v6_82 => (bndX (m_X5_rights v9 v5 0 S73) (fun r92 S92 => (bnd (v7 + ((r92 >>> (v10 &&& 31)) &&& 1)) fun v7_101 => (bndX (m_X5_rights v5 v9 1 S92) (fun r111 S111 => (bnd (v8 + ((r111 >>> (v10 &&& 31)) &&& 1)) fun v8_120 => (bndX (m_X5_round v5 v10 v9 S111) (fun r129 S129 => (if r129 ≤ v4 then (m_L_spread_J152 v1 v2 v3 v5 v6_82 v7_101 v8_120 v9 v10 v4 S129) else (bndX (m_X5_round v5 v10 v9 S129) (fun r144 S144 => (m_L_spread_J152 v1 v2 v3 v5 v6_82 v7_101 v8_120 v9 v10 r144 S144)) (fun q S144 => none)))) (fun q S129 => none)))) (fun q S111 => none)))) (fun q S92 => none)))) (fun q S73 => none)))))
def m_L_spread_J160 (v1 : Int32) (v2 : Int32) (v3 : Int32) (v4 : Int32) (v5 : Int32) (v6 : Int32) (v7 : Int32) (v8 : Int32) (v9 : Int32) (S : Hs) : Option ((Int32 × Int32 × Int32 × Int32 × Int32 × Hs) ⊕ ((Int32 × Int32 × Int32 × Int32 × Hs) ⊕ (Int32 × Hs))) := some (.inl ((v4, v6, v7, v8, v9 + 1, S)))
noncomputable def m_L_spread_L28 (v1 : Int32) (v2 : Int32) (v3 : Int32) (v5 : Int32) (v4 : Int32) (v6 : Int32) (v7 : Int32) (v8 : Int32) (v9 : Int32) (S : Hs) : Option ((Int32 × Int32 × Int32 × Int32 × Int32 × Hs) ⊕ ((Int32 × Int32 × Int32 × Int32 × Hs) ⊕ (Int32 × Hs))) := if v1 ≤ v9 then (some (.inr (.inl ((v4, v6, v7, v8, S))))) else ((loopO (fun x => m_L_spread_L37 v1 v2 v3 v5 v9 x.1 x.2.1 x.2.2.1 x.2.2.2.1 x.2.2.2.2.1 x.2.2.2.2.2) ((v4, v6, v7, v8, 0, S))).bind fun e37 => Sum.elim (fun y37 => m_L_spread_J160 v1 v2 v3 y37.1 v5 y37.2.1 y37.2.2.1 y37.2.2.2.1 v9 y37.2.2.2.2) (fun q => some (.inr (.inr q))) e37)
def m_L_spread_J203 (S : Hs) : Option ((Int32 × Int32 × Int32 × Int32 × Hs) ⊕ ((Int32 × Int32 × Int32 × Hs) ⊕ (Int32 × Hs))) := some (.inr (.inr ((0, S))))
noncomputable def m_L_spread_L10 (v1 : Int32) (v2 : Int32) (v3 : Int32) (v4 : Int32) (v5 : Int32) (S : Hs) : Option ((Int32 × Int32 × Int32 × Int32 × Hs) ⊕ ((Int32 × Int32 × Int32 × Hs) ⊕ (Int32 × Hs))) := if v1 ≤ v5 then (some (.inr (.inl ((v2, v3, v4, S))))) else ((loopO (fun x => m_L_spread_L28 v1 v2 v3 v5 x.1 x.2.1 x.2.2.1 x.2.2.2.1 x.2.2.2.2.1 x.2.2.2.2.2) ((v4, 0, 0, 0, 0, S))).bind fun e28 => Sum.elim (fun y28 => bndX (m_X5_thing v5 2 y28.2.2.2.2) (fun r170 S170 => (if r170 = y28.2.1 then (bndX (m_X5_thing v5 3 S170) (fun r182 S182 => (if r182 = y28.2.2.1 then (bndX (m_X5_thing v5 6 S182) (fun r195 S195 => (if r195 = y28.2.2.2.1 then (bnd (v2 + y28.2.1) fun v2_209 => (bnd (v3 + y28.2.2.2.1) fun v3_214 => (some (.inl ((v2_209, v3_214, y28.1, v5 + 1, S195)))))) else (m_L_spread_J203 S195))) (fun q S195 => none)) else (m_L_spread_J203 S182))) (fun q S182 => none)) else (m_L_spread_J203 S170))) (fun q S170 => none)) (fun q => some (.inr (.inr q))) e28)
def m_L_spread_J263 (w0 : Int32) (S : Hs) : Option (Int32 × Hs) := gd (decide (w0 = 0 ∨ w0 = 1)) (some ((w0, S)))
def m_L_spread_J262 (S : Hs) : Option (Int32 × Hs) := m_L_spread_J263 0 S
noncomputable def m_L_spread (v1 : Int32) (S : Hs) : Option (Int32 × Hs) := (loopO (fun x => m_L_spread_L10 v1 x.1 x.2.1 x.2.2.1 x.2.2.2.1 x.2.2.2.2) ((0, 0, 0, 0, S))).bind fun e10 => Sum.elim (fun y10 => bndX (m_X5_about 3 y10.2.2.2) (fun r223 S223 => (if r223 = y10.1 then (bndX (m_X5_about 4 S223) (fun r232 S232 => (if r232 = y10.2.1 then (bndX (m_X5_about 5 S232) (fun r241 S241 => (if r241 = y10.2.2.1 then (bndX (m_X5_about 0 S241) (fun r251 S251 => (if r251 = v1 then (m_L_spread_J263 1 S251) else (m_L_spread_J262 S251))) (fun q S251 => none)) else (m_L_spread_J262 S241))) (fun q S241 => none)) else (m_L_spread_J262 S232))) (fun q S232 => none)) else (m_L_spread_J262 S223))) (fun q S223 => none)) (fun q => some q) e10
set_option maxRecDepth 100000 in
set_option maxHeartbeats 4000000 in
theorem c_L_spread (l : Launch) (g : GG) (hg : Inj g) (v1 : Int32)  (S : Hs) (r : Int32) (S' : Hs) (hm : m_L_spread v1 S = some ((r, S'))) : CM l yL_spread [.code yL_spread cL_spread 11 (some .boolean)] rmL_spread [.ref (g.2.1 0), .int v1] g S (some (.int r)) S' := by
  unfold m_L_spread at hm
  refine CM.of (cc := cL_spread) (nL := 11) (ret := (some .boolean)) (lv := [(0, .ref (g.2.1 0)), (1, .int v1)]) (by decide +kernel) hg (Nat.le_of_ble_eq_true rfl) rfl (fun p e s m args below meth c A F => ?_)
  replace F : Fx p s m meth c cL_spread RL 11 (some .boolean) g A := F
  show J p l e rmL_spread s m args below meth c g A 11 (MQ below (QC g A (some (.int r)) S') args s 0 0 A) 0 0 0 [(0, .ref (g.2.1 0)), (1, .int v1)] [] S
  have hj263 : ∀ (w0 : Int32) (S : Hs), m_L_spread_J263 w0 S = some ((r, S')) → J p l e rmL_spread s m args below meth c g A 11 (MQ below (QC g A (some (.int r)) S') args s 0 0 A) 0 0 263 [] [.int w0] S := by
    intro w0 S hm
    unfold m_L_spread_J263 at hm
    obtain ⟨hb, hm⟩ := gd_ok hm
    exact j_zret_e F rfl (z_nar hb) dL_spread_263 hm
  have hj262 : ∀ (S : Hs), m_L_spread_J262 S = some ((r, S')) → J p l e rmL_spread s m args below meth c g A 11 (MQ below (QC g A (some (.int r)) S') args s 0 0 A) 0 0 262 [] [] S := by
    intro S hm
    unfold m_L_spread_J262 at hm
    refine j_iconst F (v := 0) dL_spread_262 (by decide) ?_
    refine j_sub [] rfl ?_
    exact hj263 0 S  hm
  refine j_iconst F (v := 0) dL_spread_0 (by decide) ?_
  refine j_istore_n F (lv' := [(2, .int 0), (0, .ref (g.2.1 0)), (1, .int v1)]) dL_spread_1 (by decide) rfl ?_
  refine j_iconst F (v := 0) dL_spread_2 (by decide) ?_
  refine j_istore_n F (lv' := [(3, .int 0), (2, .int 0), (0, .ref (g.2.1 0)), (1, .int v1)]) dL_spread_3 (by decide) rfl ?_
  refine j_iconst F (v := 0) dL_spread_4 (by decide) ?_
  refine j_istore F (lv' := [(4, .int 0), (3, .int 0), (2, .int 0), (0, .ref (g.2.1 0)), (1, .int v1)]) dL_spread_5 (by decide) rfl ?_
  refine j_iconst F (v := 0) dL_spread_7 (by decide) ?_
  refine j_istore F (lv' := [(5, .int 0), (4, .int 0), (3, .int 0), (2, .int 0), (0, .ref (g.2.1 0)), (1, .int v1)]) dL_spread_8 (by decide) rfl ?_
  refine j_sub [4, 5, 3, 2, 1, 0] rfl ?_
  obtain ⟨e10, hlp10, hm⟩ := Option.bind_eq_some_iff.mp hm
  refine loopO_walk (fun x => m_L_spread_L10 v1 x.1 x.2.1 x.2.2.1 x.2.2.2.1 x.2.2.2.2) (fun x => J p l e rmL_spread s m args below meth c g A 11 (MQ below (QC g A (some (.int r)) S') args s 0 0 A) 0 0 10 [(0, .ref (g.2.1 0)), (1, .int v1), (2, .int x.1), (3, .int x.2.1), (4, .int x.2.2.1), (5, .int x.2.2.2.1)] [] x.2.2.2.2) (fun z => match z with | .inl x => J p l e rmL_spread s m args below meth c g A 11 (MQ below (QC g A (some (.int r)) S') args s 0 0 A) 0 0 221 [(0, .ref (g.2.1 0)), (1, .int v1), (2, .int x.1), (3, .int x.2.1), (4, .int x.2.2.1)] [] x.2.2.2 | .inr x => some x = some ((r, S'))) (fun x o1 hm hk1 => ?_) hlp10 ?_
  · obtain ⟨v2, v3, v4, v5, S⟩ := x
    replace hm : m_L_spread_L10 v1 v2 v3 v4 v5 S = some o1 := hm
    show J p l e rmL_spread s m args below meth c g A 11 (MQ below (QC g A (some (.int r)) S') args s 0 0 A) 0 0 10 [(0, .ref (g.2.1 0)), (1, .int v1), (2, .int v2), (3, .int v3), (4, .int v4), (5, .int v5)] [] S
    unfold m_L_spread_L10 at hm
    have hj203 : ∀ (S : Hs), m_L_spread_J203 S = some o1 → J p l e rmL_spread s m args below meth c g A 11 (MQ below (QC g A (some (.int r)) S') args s 0 0 A) 0 0 203 [] [] S := by
      intro S hm
      unfold m_L_spread_J203 at hm
      refine j_iconst F (v := 0) dL_spread_203 (by decide) ?_
      cases hm
      have hr1 : some _ = some ((r, S') : Int32 × Hs) := hk1
      exact j_zret_e F rfl rfl dL_spread_204 hr1
    refine j_iload F 5 dL_spread_10 rfl ?_
    refine j_iload_n F 1 dL_spread_12 rfl ?_
    refine j_icmp_ge F (tgt := 221) dL_spread_13 (by decide) hm (fun _ hm => ?_) (fun _ hm => ?_)
    · cases hm
      refine j_sub [0, 1, 2, 3, 4] rfl ?_
      exact hk1
    · refine j_iconst F (v := 0) dL_spread_16 (by decide) ?_
      refine j_istore F (lv' := [(6, .int 0), (0, .ref (g.2.1 0)), (1, .int v1), (2, .int v2), (3, .int v3), (4, .int v4), (5, .int v5)]) dL_spread_17 (by decide) rfl ?_
      refine j_iconst F (v := 0) dL_spread_19 (by decide) ?_
      refine j_istore F (lv' := [(7, .int 0), (6, .int 0), (0, .ref (g.2.1 0)), (1, .int v1), (2, .int v2), (3, .int v3), (4, .int v4), (5, .int v5)]) dL_spread_20 (by decide) rfl ?_
      refine j_iconst F (v := 0) dL_spread_22 (by decide) ?_
      refine j_istore F (lv' := [(8, .int 0), (7, .int 0), (6, .int 0), (0, .ref (g.2.1 0)), (1, .int v1), (2, .int v2), (3, .int v3), (4, .int v4), (5, .int v5)]) dL_spread_23 (by decide) rfl ?_
      refine j_iconst F (v := 0) dL_spread_25 (by decide) ?_
      refine j_istore F (lv' := [(9, .int 0), (8, .int 0), (7, .int 0), (6, .int 0), (0, .ref (g.2.1 0)), (1, .int v1), (2, .int v2), (3, .int v3), (4, .int v4), (5, .int v5)]) dL_spread_26 (by decide) rfl ?_
      refine j_sub [4, 5, 6, 7, 8, 9, 3, 2, 1, 0] rfl ?_
      obtain ⟨e28, hlp28, hm⟩ := Option.bind_eq_some_iff.mp hm
      refine loopO_walk (fun x => m_L_spread_L28 v1 v2 v3 v5 x.1 x.2.1 x.2.2.1 x.2.2.2.1 x.2.2.2.2.1 x.2.2.2.2.2) (fun x => J p l e rmL_spread s m args below meth c g A 11 (MQ below (QC g A (some (.int r)) S') args s 0 0 A) 0 0 28 [(0, .ref (g.2.1 0)), (1, .int v1), (2, .int v2), (3, .int v3), (4, .int x.1), (5, .int v5), (6, .int x.2.1), (7, .int x.2.2.1), (8, .int x.2.2.2.1), (9, .int x.2.2.2.2.1)] [] x.2.2.2.2.2) (fun z => match z with | .inl x => J p l e rmL_spread s m args below meth c g A 11 (MQ below (QC g A (some (.int r)) S') args s 0 0 A) 0 0 166 [(0, .ref (g.2.1 0)), (1, .int v1), (2, .int v2), (3, .int v3), (4, .int x.1), (5, .int v5), (6, .int x.2.1), (7, .int x.2.2.1), (8, .int x.2.2.2.1)] [] x.2.2.2.2 | .inr x => some (.inr (.inr x)) = some o1) (fun x o2 hm hk2 => ?_) hlp28 ?_
      · obtain ⟨v4, v6, v7, v8, v9, S⟩ := x
        replace hm : m_L_spread_L28 v1 v2 v3 v5 v4 v6 v7 v8 v9 S = some o2 := hm
        show J p l e rmL_spread s m args below meth c g A 11 (MQ below (QC g A (some (.int r)) S') args s 0 0 A) 0 0 28 [(0, .ref (g.2.1 0)), (1, .int v1), (2, .int v2), (3, .int v3), (4, .int v4), (5, .int v5), (6, .int v6), (7, .int v7), (8, .int v8), (9, .int v9)] [] S
        unfold m_L_spread_L28 at hm
        have hj160 : ∀ (v4 : Int32) (v6 : Int32) (v7 : Int32) (v8 : Int32) (v9 : Int32) (S : Hs), m_L_spread_J160 v1 v2 v3 v4 v5 v6 v7 v8 v9 S = some o2 → J p l e rmL_spread s m args below meth c g A 11 (MQ below (QC g A (some (.int r)) S') args s 0 0 A) 0 0 160 [(0, .ref (g.2.1 0)), (1, .int v1), (2, .int v2), (3, .int v3), (4, .int v4), (5, .int v5), (6, .int v6), (7, .int v7), (8, .int v8), (9, .int v9)] [] S := by
          intro v4 v6 v7 v8 v9 S hm
          unfold m_L_spread_J160 at hm
          refine j_iinc F (v := v9 + 1) (lv' := [(9, .int (v9 + 1)), (0, .ref (g.2.1 0)), (1, .int v1), (2, .int v2), (3, .int v3), (4, .int v4), (5, .int v5), (6, .int v6), (7, .int v7), (8, .int v8)]) 9 dL_spread_160 rfl rfl (by decide) rfl ?_
          refine j_goto F (tgt := 28) dL_spread_163 (by decide) ?_
          cases hm
          refine j_sub [1, 2, 3, 4, 5, 6, 7, 8, 9, 0] rfl ?_
          exact hk2
        refine j_iload F 9 dL_spread_28 rfl ?_
        refine j_iload_n F 1 dL_spread_30 rfl ?_
        refine j_icmp_ge F (tgt := 166) dL_spread_31 (by decide) hm (fun _ hm => ?_) (fun _ hm => ?_)
        · cases hm
          refine j_sub [0, 1, 2, 3, 4, 5, 6, 7, 8] rfl ?_
          exact hk2
        · refine j_iconst F (v := 0) dL_spread_34 (by decide) ?_
          refine j_istore F (lv' := [(10, .int 0), (0, .ref (g.2.1 0)), (1, .int v1), (2, .int v2), (3, .int v3), (4, .int v4), (5, .int v5), (6, .int v6), (7, .int v7), (8, .int v8), (9, .int v9)]) dL_spread_35 (by decide) rfl ?_
          refine j_sub [1, 2, 3, 4, 5, 6, 7, 8, 9, 10, 0] rfl ?_
          obtain ⟨e37, hlp37, hm⟩ := Option.bind_eq_some_iff.mp hm
          refine loopO_walk (fun x => m_L_spread_L37 v1 v2 v3 v5 v9 x.1 x.2.1 x.2.2.1 x.2.2.2.1 x.2.2.2.2.1 x.2.2.2.2.2) (fun x => J p l e rmL_spread s m args below meth c g A 11 (MQ below (QC g A (some (.int r)) S') args s 0 0 A) 0 0 37 [(0, .ref (g.2.1 0)), (1, .int v1), (2, .int v2), (3, .int v3), (4, .int x.1), (5, .int v5), (6, .int x.2.1), (7, .int x.2.2.1), (8, .int x.2.2.2.1), (9, .int v9), (10, .int x.2.2.2.2.1)] [] x.2.2.2.2.2) (fun z => match z with | .inl x => J p l e rmL_spread s m args below meth c g A 11 (MQ below (QC g A (some (.int r)) S') args s 0 0 A) 0 0 160 [(0, .ref (g.2.1 0)), (1, .int v1), (2, .int v2), (3, .int v3), (4, .int x.1), (5, .int v5), (6, .int x.2.1), (7, .int x.2.2.1), (8, .int x.2.2.2.1), (9, .int v9)] [] x.2.2.2.2 | .inr x => some (.inr (.inr x)) = some o2) (fun x o3 hm hk3 => ?_) hlp37 ?_
          · obtain ⟨v4, v6, v7, v8, v10, S⟩ := x
            replace hm : m_L_spread_L37 v1 v2 v3 v5 v9 v4 v6 v7 v8 v10 S = some o3 := hm
            show J p l e rmL_spread s m args below meth c g A 11 (MQ below (QC g A (some (.int r)) S') args s 0 0 A) 0 0 37 [(0, .ref (g.2.1 0)), (1, .int v1), (2, .int v2), (3, .int v3), (4, .int v4), (5, .int v5), (6, .int v6), (7, .int v7), (8, .int v8), (9, .int v9), (10, .int v10)] [] S
            unfold m_L_spread_L37 at hm
            have hj152 : ∀ (v6 : Int32) (v7 : Int32) (v8 : Int32) (v10 : Int32) (w0 : Int32) (S : Hs), m_L_spread_J152 v1 v2 v3 v5 v6 v7 v8 v9 v10 w0 S = some o3 → J p l e rmL_spread s m args below meth c g A 11 (MQ below (QC g A (some (.int r)) S') args s 0 0 A) 0 0 152 [(0, .ref (g.2.1 0)), (1, .int v1), (2, .int v2), (3, .int v3), (5, .int v5), (6, .int v6), (7, .int v7), (8, .int v8), (9, .int v9), (10, .int v10)] [.int w0] S := by
              intro v6 v7 v8 v10 w0 S hm
              unfold m_L_spread_J152 at hm
              refine j_istore F (lv' := [(4, .int w0), (0, .ref (g.2.1 0)), (1, .int v1), (2, .int v2), (3, .int v3), (5, .int v5), (6, .int v6), (7, .int v7), (8, .int v8), (9, .int v9), (10, .int v10)]) dL_spread_152 (by decide) rfl ?_
              refine j_iinc F (v := v10 + 1) (lv' := [(10, .int (v10 + 1)), (4, .int w0), (0, .ref (g.2.1 0)), (1, .int v1), (2, .int v2), (3, .int v3), (5, .int v5), (6, .int v6), (7, .int v7), (8, .int v8), (9, .int v9)]) 10 dL_spread_154 rfl rfl (by decide) rfl ?_
              refine j_goto F (tgt := 37) dL_spread_157 (by decide) ?_
              cases hm
              refine j_sub [2, 3, 4, 5, 1, 6, 7, 8, 9, 10, 0] rfl ?_
              exact hk3
            refine j_iload F 10 dL_spread_37 rfl ?_
            refine j_iconst F (v := 4) dL_spread_39 (by decide) ?_
            refine j_icmp_ge F (tgt := 160) dL_spread_40 (by decide) hm (fun _ hm => ?_) (fun _ hm => ?_)
            · cases hm
              refine j_sub [0, 1, 2, 3, 4, 5, 6, 7, 8, 9] rfl ?_
              exact hk3
            · refine j_iload F 5 dL_spread_43 rfl ?_
              refine j_iload F 9 dL_spread_45 rfl ?_
              refine j_icmp_eq F (tgt := 160) dL_spread_47 (by decide) hm (fun _ hm => ?_) (fun _ hm => ?_)
              · cases hm
                refine j_sub [0, 1, 2, 3, 4, 5, 6, 7, 8, 9] rfl ?_
                exact hk3
              · refine j_aload_n F 0 dL_spread_50 rfl ?_
                refine j_iload F 5 dL_spread_51 rfl ?_
                refine j_iload F 10 dL_spread_53 rfl ?_
                refine j_iload F 9 dL_spread_55 rfl ?_
                obtain ⟨r57, S57, hc57, hm⟩ := bndE_ok hm
                refine j_callS F (n := 4) (As := [.ref (g.2.1 0), .int v5, .int v10, .int v9]) (rest := []) (c_L_comes l g hg v5 v10 v9 S r57 S57 hc57) gw_L_55 (by decide +kernel) ⟨Nat.le_of_ble_eq_true rfl, Nat.le_of_ble_eq_true rfl⟩ ⟨Nat.le_of_ble_eq_true rfl, Nat.le_of_ble_eq_true rfl⟩ rfl rfl (Nat.le_of_ble_eq_true rfl) dL_spread_57 ?_
                show J p l e rmL_spread s m args below meth c g A 11 (MQ below (QC g A (some (.int r)) S') args s 0 0 A) 0 0 60 [(0, .ref (g.2.1 0)), (1, .int v1), (2, .int v2), (3, .int v3), (4, .int v4), (5, .int v5), (6, .int v6), (7, .int v7), (8, .int v8), (9, .int v9), (10, .int v10)] [.int r57] S57
                refine j_if_ne F (tgt := 65) dL_spread_60 (by decide) hm (fun _ hm => ?_) (fun _ hm => ?_)
                · refine j_iload F 6 dL_spread_65 rfl ?_
                  refine j_aload_n F 0 dL_spread_67 rfl ?_
                  refine j_iload F 5 dL_spread_68 rfl ?_
                  refine j_iload F 9 dL_spread_70 rfl ?_
                  refine j_iconst F (v := 0) dL_spread_72 (by decide) ?_
                  refine bndX_ok hm (fun r73 S73 hc73 hm => ?_) (fun q S73 hc73 hm => ?_)
                  · refine j_callV F (n := 3) (As := [.int v5, .int v9, .int 0]) (rest := [.int v6]) (c_X5_rights l g hg v5 v9 0 S57 r73 S73 hc73) gw_L_33 (by decide +kernel) ⟨Nat.le_of_ble_eq_true rfl, Nat.le_of_ble_eq_true rfl⟩ ⟨Nat.le_of_ble_eq_true rfl, Nat.le_of_ble_eq_true rfl⟩ lay_0 rfl rfl rfl (Nat.le_of_ble_eq_true rfl) dL_spread_73 ?_
                    show J p l e rmL_spread s m args below meth c g A 11 (MQ below (QC g A (some (.int r)) S') args s 0 0 A) 0 0 76 [(0, .ref (g.2.1 0)), (1, .int v1), (2, .int v2), (3, .int v3), (4, .int v4), (5, .int v5), (6, .int v6), (7, .int v7), (8, .int v8), (9, .int v9), (10, .int v10)] [.int r73, .int v6] S73
                    refine j_iload F 10 dL_spread_76 rfl ?_
                    refine j_ishr F dL_spread_78 ?_
                    refine j_iconst F (v := 1) dL_spread_79 (by decide) ?_
                    refine j_iand F dL_spread_80 ?_
                    refine j_iadd F dL_spread_81 ?_
                    refine j_bnd hm (fun v6_82 hm => ?_)
                    refine j_istore F (lv' := [(6, .int v6_82), (0, .ref (g.2.1 0)), (1, .int v1), (2, .int v2), (3, .int v3), (4, .int v4), (5, .int v5), (7, .int v7), (8, .int v8), (9, .int v9), (10, .int v10)]) dL_spread_82 (by decide) rfl ?_
                    refine j_iload F 7 dL_spread_84 rfl ?_
                    refine j_aload_n F 1 dL_spread_86 rfl ?_
                    refine j_iload F 9 dL_spread_87 rfl ?_
                    refine j_iload F 6 dL_spread_89 rfl ?_
                    refine j_iconst F (v := 0) dL_spread_91 (by decide) ?_
                    refine bndX_ok hm (fun r92 S92 hc92 hm => ?_) (fun q S92 hc92 hm => ?_)
                    · refine j_callV F (n := 3) (As := [.int v9, .int v5, .int 0]) (rest := [.int v7]) (c_X5_rights l g hg v9 v5 0 S73 r92 S92 hc92) gw_L_33 (by decide +kernel) ⟨Nat.le_of_ble_eq_true rfl, Nat.le_of_ble_eq_true rfl⟩ ⟨Nat.le_of_ble_eq_true rfl, Nat.le_of_ble_eq_true rfl⟩ lay_0 rfl rfl rfl (Nat.le_of_ble_eq_true rfl) dL_spread_92 ?_
                      show J p l e rmL_spread s m args below meth c g A 11 (MQ below (QC g A (some (.int r)) S') args s 0 0 A) 0 0 95 [(6, .int v6_82), (0, .ref (g.2.1 0)), (1, .int v1), (2, .int v2), (3, .int v3), (4, .int v4), (5, .int v5), (7, .int v7), (8, .int v8), (9, .int v9), (10, .int v10)] [.int r92, .int v7] S92
                      refine j_iload F 10 dL_spread_95 rfl ?_
                      refine j_ishr F dL_spread_97 ?_
                      refine j_iconst F (v := 1) dL_spread_98 (by decide) ?_
                      refine j_iand F dL_spread_99 ?_
                      refine j_iadd F dL_spread_100 ?_
                      refine j_bnd hm (fun v7_101 hm => ?_)
                      refine j_istore F (lv' := [(7, .int v7_101), (6, .int v6_82), (0, .ref (g.2.1 0)), (1, .int v1), (2, .int v2), (3, .int v3), (4, .int v4), (5, .int v5), (8, .int v8), (9, .int v9), (10, .int v10)]) dL_spread_101 (by decide) rfl ?_
                      refine j_iload F 8 dL_spread_103 rfl ?_
                      refine j_aload_n F 2 dL_spread_105 rfl ?_
                      refine j_iload F 7 dL_spread_106 rfl ?_
                      refine j_iload F 9 dL_spread_108 rfl ?_
                      refine j_iconst F (v := 1) dL_spread_110 (by decide) ?_
                      refine bndX_ok hm (fun r111 S111 hc111 hm => ?_) (fun q S111 hc111 hm => ?_)
                      · refine j_callV F (n := 3) (As := [.int v5, .int v9, .int 1]) (rest := [.int v8]) (c_X5_rights l g hg v5 v9 1 S92 r111 S111 hc111) gw_L_33 (by decide +kernel) ⟨Nat.le_of_ble_eq_true rfl, Nat.le_of_ble_eq_true rfl⟩ ⟨Nat.le_of_ble_eq_true rfl, Nat.le_of_ble_eq_true rfl⟩ lay_0 rfl rfl rfl (Nat.le_of_ble_eq_true rfl) dL_spread_111 ?_
                        show J p l e rmL_spread s m args below meth c g A 11 (MQ below (QC g A (some (.int r)) S') args s 0 0 A) 0 0 114 [(7, .int v7_101), (6, .int v6_82), (0, .ref (g.2.1 0)), (1, .int v1), (2, .int v2), (3, .int v3), (4, .int v4), (5, .int v5), (8, .int v8), (9, .int v9), (10, .int v10)] [.int r111, .int v8] S111
                        refine j_iload F 10 dL_spread_114 rfl ?_
                        refine j_ishr F dL_spread_116 ?_
                        refine j_iconst F (v := 1) dL_spread_117 (by decide) ?_
                        refine j_iand F dL_spread_118 ?_
                        refine j_iadd F dL_spread_119 ?_
                        refine j_bnd hm (fun v8_120 hm => ?_)
                        refine j_istore F (lv' := [(8, .int v8_120), (7, .int v7_101), (6, .int v6_82), (0, .ref (g.2.1 0)), (1, .int v1), (2, .int v2), (3, .int v3), (4, .int v4), (5, .int v5), (9, .int v9), (10, .int v10)]) dL_spread_120 (by decide) rfl ?_
                        refine j_aload_n F 3 dL_spread_122 rfl ?_
                        refine j_iload F 8 dL_spread_123 rfl ?_
                        refine j_iload F 10 dL_spread_125 rfl ?_
                        refine j_iload F 9 dL_spread_127 rfl ?_
                        refine bndX_ok hm (fun r129 S129 hc129 hm => ?_) (fun q S129 hc129 hm => ?_)
                        · refine j_callV F (n := 3) (As := [.int v5, .int v10, .int v9]) (rest := []) (c_X5_round l g hg v5 v10 v9 S111 r129 S129 hc129) gw_L_45 (by decide +kernel) ⟨Nat.le_of_ble_eq_true rfl, Nat.le_of_ble_eq_true rfl⟩ ⟨Nat.le_of_ble_eq_true rfl, Nat.le_of_ble_eq_true rfl⟩ lay_0 rfl rfl rfl (Nat.le_of_ble_eq_true rfl) dL_spread_129 ?_
                          show J p l e rmL_spread s m args below meth c g A 11 (MQ below (QC g A (some (.int r)) S') args s 0 0 A) 0 0 132 [(8, .int v8_120), (7, .int v7_101), (6, .int v6_82), (0, .ref (g.2.1 0)), (1, .int v1), (2, .int v2), (3, .int v3), (4, .int v4), (5, .int v5), (9, .int v9), (10, .int v10)] [.int r129] S129
                          refine j_iload F 7 dL_spread_132 rfl ?_
                          refine j_icmp_le F (tgt := 150) dL_spread_134 (by decide) hm (fun _ hm => ?_) (fun _ hm => ?_)
                          · refine j_iload F 7 dL_spread_150 rfl ?_
                            refine j_sub [3, 4, 5, 6, 8, 2, 1, 0, 9, 10] rfl ?_
                            exact hj152 v6_82 v7_101 v8_120 v10 v4 S129  hm
                          · refine j_aload_n F 3 dL_spread_137 rfl ?_
                            refine j_iload F 8 dL_spread_138 rfl ?_
                            refine j_iload F 10 dL_spread_140 rfl ?_
                            refine j_iload F 9 dL_spread_142 rfl ?_
                            refine bndX_ok hm (fun r144 S144 hc144 hm => ?_) (fun q S144 hc144 hm => ?_)
                            · refine j_callV F (n := 3) (As := [.int v5, .int v10, .int v9]) (rest := []) (c_X5_round l g hg v5 v10 v9 S129 r144 S144 hc144) gw_L_45 (by decide +kernel) ⟨Nat.le_of_ble_eq_true rfl, Nat.le_of_ble_eq_true rfl⟩ ⟨Nat.le_of_ble_eq_true rfl, Nat.le_of_ble_eq_true rfl⟩ lay_0 rfl rfl rfl (Nat.le_of_ble_eq_true rfl) dL_spread_144 ?_
                              show J p l e rmL_spread s m args below meth c g A 11 (MQ below (QC g A (some (.int r)) S') args s 0 0 A) 0 0 147 [(8, .int v8_120), (7, .int v7_101), (6, .int v6_82), (0, .ref (g.2.1 0)), (1, .int v1), (2, .int v2), (3, .int v3), (4, .int v4), (5, .int v5), (9, .int v9), (10, .int v10)] [.int r144] S144
                              refine j_goto F (tgt := 152) dL_spread_147 (by decide) ?_
                              refine j_sub [3, 4, 5, 6, 8, 2, 1, 0, 9, 10] rfl ?_
                              exact hj152 v6_82 v7_101 v8_120 v10 r144 S144  hm
                            · cases hm
                        · cases hm
                      · cases hm
                    · cases hm
                  · cases hm
                · refine j_iconst F (v := 0) dL_spread_63 (by decide) ?_
                  cases hm
                  have hr3 : some _ = some (o2 : (Int32 × Int32 × Int32 × Int32 × Int32 × Hs) ⊕ ((Int32 × Int32 × Int32 × Int32 × Hs) ⊕ (Int32 × Hs))) := hk3
                  cases hr3
                  have hr2 : some _ = some (o1 : (Int32 × Int32 × Int32 × Int32 × Hs) ⊕ ((Int32 × Int32 × Int32 × Hs) ⊕ (Int32 × Hs))) := hk2
                  cases hr2
                  have hr1 : some _ = some ((r, S') : Int32 × Hs) := hk1
                  exact j_zret_e F rfl rfl dL_spread_64 hr1
          · cases e37 with
            | inl y37 =>
              dsimp only [Sum.elim_inl] at hm
              show J p l e rmL_spread s m args below meth c g A 11 (MQ below (QC g A (some (.int r)) S') args s 0 0 A) 0 0 160 [(0, .ref (g.2.1 0)), (1, .int v1), (2, .int v2), (3, .int v3), (4, .int y37.1), (5, .int v5), (6, .int y37.2.1), (7, .int y37.2.2.1), (8, .int y37.2.2.2.1), (9, .int v9)] [] y37.2.2.2.2
              refine j_sub [0, 1, 2, 3, 4, 5, 6, 7, 8, 9] rfl ?_
              exact hj160 y37.1 y37.2.1 y37.2.2.1 y37.2.2.2.1 v9 y37.2.2.2.2  hm
            | inr q =>
              exact hm
      · cases e28 with
        | inl y28 =>
          dsimp only [Sum.elim_inl] at hm
          show J p l e rmL_spread s m args below meth c g A 11 (MQ below (QC g A (some (.int r)) S') args s 0 0 A) 0 0 166 [(0, .ref (g.2.1 0)), (1, .int v1), (2, .int v2), (3, .int v3), (4, .int y28.1), (5, .int v5), (6, .int y28.2.1), (7, .int y28.2.2.1), (8, .int y28.2.2.2.1)] [] y28.2.2.2.2
          refine j_aload_n F 0 dL_spread_166 rfl ?_
          refine j_iload F 5 dL_spread_167 rfl ?_
          refine j_iconst F (v := 2) dL_spread_169 (by decide) ?_
          refine bndX_ok hm (fun r170 S170 hc170 hm => ?_) (fun q S170 hc170 hm => ?_)
          · refine j_callV F (n := 2) (As := [.int v5, .int 2]) (rest := []) (c_X5_thing l g hg v5 2 y28.2.2.2.2 r170 S170 hc170) gw_L_26 (by decide +kernel) ⟨Nat.le_of_ble_eq_true rfl, Nat.le_of_ble_eq_true rfl⟩ ⟨Nat.le_of_ble_eq_true rfl, Nat.le_of_ble_eq_true rfl⟩ lay_0 rfl rfl rfl (Nat.le_of_ble_eq_true rfl) dL_spread_170 ?_
            show J p l e rmL_spread s m args below meth c g A 11 (MQ below (QC g A (some (.int r)) S') args s 0 0 A) 0 0 173 [(0, .ref (g.2.1 0)), (1, .int v1), (2, .int v2), (3, .int v3), (4, .int y28.1), (5, .int v5), (6, .int y28.2.1), (7, .int y28.2.2.1), (8, .int y28.2.2.2.1)] [.int r170] S170
            refine j_iload F 6 dL_spread_173 rfl ?_
            refine j_icmp_ne F (tgt := 203) dL_spread_175 (by decide) hm (fun _ hm => ?_) (fun _ hm => ?_)
            · refine j_sub [] rfl ?_
              exact hj203 S170  hm
            · refine j_aload_n F 0 dL_spread_178 rfl ?_
              refine j_iload F 5 dL_spread_179 rfl ?_
              refine j_iconst F (v := 3) dL_spread_181 (by decide) ?_
              refine bndX_ok hm (fun r182 S182 hc182 hm => ?_) (fun q S182 hc182 hm => ?_)
              · refine j_callV F (n := 2) (As := [.int v5, .int 3]) (rest := []) (c_X5_thing l g hg v5 3 S170 r182 S182 hc182) gw_L_26 (by decide +kernel) ⟨Nat.le_of_ble_eq_true rfl, Nat.le_of_ble_eq_true rfl⟩ ⟨Nat.le_of_ble_eq_true rfl, Nat.le_of_ble_eq_true rfl⟩ lay_0 rfl rfl rfl (Nat.le_of_ble_eq_true rfl) dL_spread_182 ?_
                show J p l e rmL_spread s m args below meth c g A 11 (MQ below (QC g A (some (.int r)) S') args s 0 0 A) 0 0 185 [(0, .ref (g.2.1 0)), (1, .int v1), (2, .int v2), (3, .int v3), (4, .int y28.1), (5, .int v5), (6, .int y28.2.1), (7, .int y28.2.2.1), (8, .int y28.2.2.2.1)] [.int r182] S182
                refine j_iload F 7 dL_spread_185 rfl ?_
                refine j_icmp_ne F (tgt := 203) dL_spread_187 (by decide) hm (fun _ hm => ?_) (fun _ hm => ?_)
                · refine j_sub [] rfl ?_
                  exact hj203 S182  hm
                · refine j_aload_n F 0 dL_spread_190 rfl ?_
                  refine j_iload F 5 dL_spread_191 rfl ?_
                  refine j_bipush F (v := 6) dL_spread_193 (by decide) ?_
                  refine bndX_ok hm (fun r195 S195 hc195 hm => ?_) (fun q S195 hc195 hm => ?_)
                  · refine j_callV F (n := 2) (As := [.int v5, .int 6]) (rest := []) (c_X5_thing l g hg v5 6 S182 r195 S195 hc195) gw_L_26 (by decide +kernel) ⟨Nat.le_of_ble_eq_true rfl, Nat.le_of_ble_eq_true rfl⟩ ⟨Nat.le_of_ble_eq_true rfl, Nat.le_of_ble_eq_true rfl⟩ lay_0 rfl rfl rfl (Nat.le_of_ble_eq_true rfl) dL_spread_195 ?_
                    show J p l e rmL_spread s m args below meth c g A 11 (MQ below (QC g A (some (.int r)) S') args s 0 0 A) 0 0 198 [(0, .ref (g.2.1 0)), (1, .int v1), (2, .int v2), (3, .int v3), (4, .int y28.1), (5, .int v5), (6, .int y28.2.1), (7, .int y28.2.2.1), (8, .int y28.2.2.2.1)] [.int r195] S195
                    refine j_iload F 8 dL_spread_198 rfl ?_
                    refine j_icmp_eq F (tgt := 205) dL_spread_200 (by decide) hm (fun _ hm => ?_) (fun _ hm => ?_)
                    · refine j_iload_n F 2 dL_spread_205 rfl ?_
                      refine j_iload F 6 dL_spread_206 rfl ?_
                      refine j_iadd F dL_spread_208 ?_
                      refine j_bnd hm (fun v2_209 hm => ?_)
                      refine j_istore_n F (lv' := [(2, .int v2_209), (0, .ref (g.2.1 0)), (1, .int v1), (3, .int v3), (4, .int y28.1), (5, .int v5), (6, .int y28.2.1), (7, .int y28.2.2.1), (8, .int y28.2.2.2.1)]) dL_spread_209 (by decide) rfl ?_
                      refine j_iload_n F 3 dL_spread_210 rfl ?_
                      refine j_iload F 8 dL_spread_211 rfl ?_
                      refine j_iadd F dL_spread_213 ?_
                      refine j_bnd hm (fun v3_214 hm => ?_)
                      refine j_istore_n F (lv' := [(3, .int v3_214), (2, .int v2_209), (0, .ref (g.2.1 0)), (1, .int v1), (4, .int y28.1), (5, .int v5), (6, .int y28.2.1), (7, .int y28.2.2.1), (8, .int y28.2.2.2.1)]) dL_spread_214 (by decide) rfl ?_
                      refine j_iinc F (v := v5 + 1) (lv' := [(5, .int (v5 + 1)), (3, .int v3_214), (2, .int v2_209), (0, .ref (g.2.1 0)), (1, .int v1), (4, .int y28.1), (6, .int y28.2.1), (7, .int y28.2.2.1), (8, .int y28.2.2.2.1)]) 5 dL_spread_215 rfl rfl (by decide) rfl ?_
                      refine j_goto F (tgt := 10) dL_spread_218 (by decide) ?_
                      cases hm
                      refine j_sub [3, 4, 2, 1, 5, 0] rfl ?_
                      exact hk1
                    · refine j_sub [] rfl ?_
                      exact hj203 S195  hm
                  · cases hm
              · cases hm
          · cases hm
        | inr q =>
          exact hm
  · cases e10 with
    | inl y10 =>
      dsimp only [Sum.elim_inl] at hm
      show J p l e rmL_spread s m args below meth c g A 11 (MQ below (QC g A (some (.int r)) S') args s 0 0 A) 0 0 221 [(0, .ref (g.2.1 0)), (1, .int v1), (2, .int y10.1), (3, .int y10.2.1), (4, .int y10.2.2.1)] [] y10.2.2.2
      refine j_aload_n F 0 dL_spread_221 rfl ?_
      refine j_iconst F (v := 3) dL_spread_222 (by decide) ?_
      refine bndX_ok hm (fun r223 S223 hc223 hm => ?_) (fun q S223 hc223 hm => ?_)
      · refine j_callV F (n := 1) (As := [.int 3]) (rest := []) (c_X5_about l g hg 3 y10.2.2.2 r223 S223 hc223) gw_L_58 (by decide +kernel) ⟨Nat.le_of_ble_eq_true rfl, Nat.le_of_ble_eq_true rfl⟩ ⟨Nat.le_of_ble_eq_true rfl, Nat.le_of_ble_eq_true rfl⟩ lay_0 rfl rfl rfl (Nat.le_of_ble_eq_true rfl) dL_spread_223 ?_
        show J p l e rmL_spread s m args below meth c g A 11 (MQ below (QC g A (some (.int r)) S') args s 0 0 A) 0 0 226 [(0, .ref (g.2.1 0)), (1, .int v1), (2, .int y10.1), (3, .int y10.2.1), (4, .int y10.2.2.1)] [.int r223] S223
        refine j_iload_n F 2 dL_spread_226 rfl ?_
        refine j_icmp_ne F (tgt := 262) dL_spread_227 (by decide) hm (fun _ hm => ?_) (fun _ hm => ?_)
        · refine j_sub [] rfl ?_
          exact hj262 S223  hm
        · refine j_aload_n F 0 dL_spread_230 rfl ?_
          refine j_iconst F (v := 4) dL_spread_231 (by decide) ?_
          refine bndX_ok hm (fun r232 S232 hc232 hm => ?_) (fun q S232 hc232 hm => ?_)
          · refine j_callV F (n := 1) (As := [.int 4]) (rest := []) (c_X5_about l g hg 4 S223 r232 S232 hc232) gw_L_58 (by decide +kernel) ⟨Nat.le_of_ble_eq_true rfl, Nat.le_of_ble_eq_true rfl⟩ ⟨Nat.le_of_ble_eq_true rfl, Nat.le_of_ble_eq_true rfl⟩ lay_0 rfl rfl rfl (Nat.le_of_ble_eq_true rfl) dL_spread_232 ?_
            show J p l e rmL_spread s m args below meth c g A 11 (MQ below (QC g A (some (.int r)) S') args s 0 0 A) 0 0 235 [(0, .ref (g.2.1 0)), (1, .int v1), (2, .int y10.1), (3, .int y10.2.1), (4, .int y10.2.2.1)] [.int r232] S232
            refine j_iload_n F 3 dL_spread_235 rfl ?_
            refine j_icmp_ne F (tgt := 262) dL_spread_236 (by decide) hm (fun _ hm => ?_) (fun _ hm => ?_)
            · refine j_sub [] rfl ?_
              exact hj262 S232  hm
            · refine j_aload_n F 0 dL_spread_239 rfl ?_
              refine j_iconst F (v := 5) dL_spread_240 (by decide) ?_
              refine bndX_ok hm (fun r241 S241 hc241 hm => ?_) (fun q S241 hc241 hm => ?_)
              · refine j_callV F (n := 1) (As := [.int 5]) (rest := []) (c_X5_about l g hg 5 S232 r241 S241 hc241) gw_L_58 (by decide +kernel) ⟨Nat.le_of_ble_eq_true rfl, Nat.le_of_ble_eq_true rfl⟩ ⟨Nat.le_of_ble_eq_true rfl, Nat.le_of_ble_eq_true rfl⟩ lay_0 rfl rfl rfl (Nat.le_of_ble_eq_true rfl) dL_spread_241 ?_
                show J p l e rmL_spread s m args below meth c g A 11 (MQ below (QC g A (some (.int r)) S') args s 0 0 A) 0 0 244 [(0, .ref (g.2.1 0)), (1, .int v1), (2, .int y10.1), (3, .int y10.2.1), (4, .int y10.2.2.1)] [.int r241] S241
                refine j_iload F 4 dL_spread_244 rfl ?_
                refine j_icmp_ne F (tgt := 262) dL_spread_246 (by decide) hm (fun _ hm => ?_) (fun _ hm => ?_)
                · refine j_sub [] rfl ?_
                  exact hj262 S241  hm
                · refine j_aload_n F 0 dL_spread_249 rfl ?_
                  refine j_iconst F (v := 0) dL_spread_250 (by decide) ?_
                  refine bndX_ok hm (fun r251 S251 hc251 hm => ?_) (fun q S251 hc251 hm => ?_)
                  · refine j_callV F (n := 1) (As := [.int 0]) (rest := []) (c_X5_about l g hg 0 S241 r251 S251 hc251) gw_L_58 (by decide +kernel) ⟨Nat.le_of_ble_eq_true rfl, Nat.le_of_ble_eq_true rfl⟩ ⟨Nat.le_of_ble_eq_true rfl, Nat.le_of_ble_eq_true rfl⟩ lay_0 rfl rfl rfl (Nat.le_of_ble_eq_true rfl) dL_spread_251 ?_
                    show J p l e rmL_spread s m args below meth c g A 11 (MQ below (QC g A (some (.int r)) S') args s 0 0 A) 0 0 254 [(0, .ref (g.2.1 0)), (1, .int v1), (2, .int y10.1), (3, .int y10.2.1), (4, .int y10.2.2.1)] [.int r251] S251
                    refine j_iload_n F 1 dL_spread_254 rfl ?_
                    refine j_icmp_ne F (tgt := 262) dL_spread_255 (by decide) hm (fun _ hm => ?_) (fun _ hm => ?_)
                    · refine j_sub [] rfl ?_
                      exact hj262 S251  hm
                    · refine j_iconst F (v := 1) dL_spread_258 (by decide) ?_
                      refine j_goto F (tgt := 263) dL_spread_259 (by decide) ?_
                      refine j_sub [] rfl ?_
                      exact hj263 1 S251  hm
                  · cases hm
              · cases hm
          · cases hm
      · cases hm
    | inr q =>
      exact hm
def m_L_hears_J55 (w0 : Int32) (S : Hs) : Option (Int32 × Hs) := gd (decide (w0 = 0 ∨ w0 = 1)) (some ((w0, S)))
def m_L_hears_J54 (S : Hs) : Option (Int32 × Hs) := m_L_hears_J55 0 S
def m_L_hears_J50 (S : Hs) : Option (Int32 × Hs) := m_L_hears_J55 1 S
noncomputable def m_L_hears_J25 (v1 : Int32) (v2 : Int32) (v3 : Int32) (S : Hs) : Option (Int32 × Hs) := bndX (m_X5_thing v2 0 S) (fun r28 S28 => (if r28 = 1 then (bndX (m_X5_rights v2 v1 v3 S28) (fun r39 S39 => (if ((r39 >>> (3 &&& 31)) &&& 1) = 1 then (m_L_hears_J50 S39) else (m_L_hears_J54 S39))) (fun q S39 => none)) else (m_L_hears_J54 S28))) (fun q S28 => none)
noncomputable def m_L_hears (v1 : Int32) (v2 : Int32) (v3 : Int32) (S : Hs) : Option (Int32 × Hs) := bndX (m_X5_thing v1 0 S) (fun r3 S3 => (if r3 = 1 then (bndX (m_X5_rights v1 v2 v3 S3) (fun r14 S14 => (if ((r14 >>> (2 &&& 31)) &&& 1) = 1 then (m_L_hears_J50 S14) else (m_L_hears_J25 v1 v2 v3 S14))) (fun q S14 => none)) else (m_L_hears_J25 v1 v2 v3 S3))) (fun q S3 => none)
set_option maxRecDepth 100000 in
set_option maxHeartbeats 4000000 in
theorem c_L_hears (l : Launch) (g : GG) (hg : Inj g) (v1 : Int32) (v2 : Int32) (v3 : Int32)  (S : Hs) (r : Int32) (S' : Hs) (hm : m_L_hears v1 v2 v3 S = some ((r, S'))) : CM l yL_hears [.code yL_hears cL_hears 4 (some .boolean)] rmL_hears [.ref (g.2.1 0), .int v1, .int v2, .int v3] g S (some (.int r)) S' := by
  unfold m_L_hears at hm
  refine CM.of (cc := cL_hears) (nL := 4) (ret := (some .boolean)) (lv := [(0, .ref (g.2.1 0)), (1, .int v1), (2, .int v2), (3, .int v3)]) (by decide +kernel) hg (Nat.le_of_ble_eq_true rfl) rfl (fun p e s m args below meth c A F => ?_)
  replace F : Fx p s m meth c cL_hears RL 4 (some .boolean) g A := F
  show J p l e rmL_hears s m args below meth c g A 4 (MQ below (QC g A (some (.int r)) S') args s 0 0 A) 0 0 0 [(0, .ref (g.2.1 0)), (1, .int v1), (2, .int v2), (3, .int v3)] [] S
  have hj55 : ∀ (w0 : Int32) (S : Hs), m_L_hears_J55 w0 S = some ((r, S')) → J p l e rmL_hears s m args below meth c g A 4 (MQ below (QC g A (some (.int r)) S') args s 0 0 A) 0 0 55 [] [.int w0] S := by
    intro w0 S hm
    unfold m_L_hears_J55 at hm
    obtain ⟨hb, hm⟩ := gd_ok hm
    exact j_zret_e F rfl (z_nar hb) dL_hears_55 hm
  have hj54 : ∀ (S : Hs), m_L_hears_J54 S = some ((r, S')) → J p l e rmL_hears s m args below meth c g A 4 (MQ below (QC g A (some (.int r)) S') args s 0 0 A) 0 0 54 [] [] S := by
    intro S hm
    unfold m_L_hears_J54 at hm
    refine j_iconst F (v := 0) dL_hears_54 (by decide) ?_
    refine j_sub [] rfl ?_
    exact hj55 0 S  hm
  have hj50 : ∀ (S : Hs), m_L_hears_J50 S = some ((r, S')) → J p l e rmL_hears s m args below meth c g A 4 (MQ below (QC g A (some (.int r)) S') args s 0 0 A) 0 0 50 [] [] S := by
    intro S hm
    unfold m_L_hears_J50 at hm
    refine j_iconst F (v := 1) dL_hears_50 (by decide) ?_
    refine j_goto F (tgt := 55) dL_hears_51 (by decide) ?_
    refine j_sub [] rfl ?_
    exact hj55 1 S  hm
  have hj25 : ∀ (v1 : Int32) (v2 : Int32) (v3 : Int32) (S : Hs), m_L_hears_J25 v1 v2 v3 S = some ((r, S')) → J p l e rmL_hears s m args below meth c g A 4 (MQ below (QC g A (some (.int r)) S') args s 0 0 A) 0 0 25 [(0, .ref (g.2.1 0)), (1, .int v1), (2, .int v2), (3, .int v3)] [] S := by
    intro v1 v2 v3 S hm
    unfold m_L_hears_J25 at hm
    refine j_aload_n F 0 dL_hears_25 rfl ?_
    refine j_iload_n F 2 dL_hears_26 rfl ?_
    refine j_iconst F (v := 0) dL_hears_27 (by decide) ?_
    refine bndX_ok hm (fun r28 S28 hc28 hm => ?_) (fun q S28 hc28 hm => ?_)
    · refine j_callV F (n := 2) (As := [.int v2, .int 0]) (rest := []) (c_X5_thing l g hg v2 0 S r28 S28 hc28) gw_L_26 (by decide +kernel) ⟨Nat.le_of_ble_eq_true rfl, Nat.le_of_ble_eq_true rfl⟩ ⟨Nat.le_of_ble_eq_true rfl, Nat.le_of_ble_eq_true rfl⟩ lay_0 rfl rfl rfl (Nat.le_of_ble_eq_true rfl) dL_hears_28 ?_
      show J p l e rmL_hears s m args below meth c g A 4 (MQ below (QC g A (some (.int r)) S') args s 0 0 A) 0 0 31 [(0, .ref (g.2.1 0)), (1, .int v1), (2, .int v2), (3, .int v3)] [.int r28] S28
      refine j_iconst F (v := 1) dL_hears_31 (by decide) ?_
      refine j_icmp_ne F (tgt := 54) dL_hears_32 (by decide) hm (fun _ hm => ?_) (fun _ hm => ?_)
      · refine j_sub [] rfl ?_
        exact hj54 S28  hm
      · refine j_aload_n F 0 dL_hears_35 rfl ?_
        refine j_iload_n F 2 dL_hears_36 rfl ?_
        refine j_iload_n F 1 dL_hears_37 rfl ?_
        refine j_iload_n F 3 dL_hears_38 rfl ?_
        refine bndX_ok hm (fun r39 S39 hc39 hm => ?_) (fun q S39 hc39 hm => ?_)
        · refine j_callV F (n := 3) (As := [.int v2, .int v1, .int v3]) (rest := []) (c_X5_rights l g hg v2 v1 v3 S28 r39 S39 hc39) gw_L_33 (by decide +kernel) ⟨Nat.le_of_ble_eq_true rfl, Nat.le_of_ble_eq_true rfl⟩ ⟨Nat.le_of_ble_eq_true rfl, Nat.le_of_ble_eq_true rfl⟩ lay_0 rfl rfl rfl (Nat.le_of_ble_eq_true rfl) dL_hears_39 ?_
          show J p l e rmL_hears s m args below meth c g A 4 (MQ below (QC g A (some (.int r)) S') args s 0 0 A) 0 0 42 [(0, .ref (g.2.1 0)), (1, .int v1), (2, .int v2), (3, .int v3)] [.int r39] S39
          refine j_iconst F (v := 3) dL_hears_42 (by decide) ?_
          refine j_ishr F dL_hears_43 ?_
          refine j_iconst F (v := 1) dL_hears_44 (by decide) ?_
          refine j_iand F dL_hears_45 ?_
          refine j_iconst F (v := 1) dL_hears_46 (by decide) ?_
          refine j_icmp_ne F (tgt := 54) dL_hears_47 (by decide) hm (fun _ hm => ?_) (fun _ hm => ?_)
          · refine j_sub [] rfl ?_
            exact hj54 S39  hm
          · refine j_sub [] rfl ?_
            exact hj50 S39  hm
        · cases hm
    · cases hm
  refine j_aload_n F 0 dL_hears_0 rfl ?_
  refine j_iload_n F 1 dL_hears_1 rfl ?_
  refine j_iconst F (v := 0) dL_hears_2 (by decide) ?_
  refine bndX_ok hm (fun r3 S3 hc3 hm => ?_) (fun q S3 hc3 hm => ?_)
  · refine j_callV F (n := 2) (As := [.int v1, .int 0]) (rest := []) (c_X5_thing l g hg v1 0 S r3 S3 hc3) gw_L_26 (by decide +kernel) ⟨Nat.le_of_ble_eq_true rfl, Nat.le_of_ble_eq_true rfl⟩ ⟨Nat.le_of_ble_eq_true rfl, Nat.le_of_ble_eq_true rfl⟩ lay_0 rfl rfl rfl (Nat.le_of_ble_eq_true rfl) dL_hears_3 ?_
    show J p l e rmL_hears s m args below meth c g A 4 (MQ below (QC g A (some (.int r)) S') args s 0 0 A) 0 0 6 [(0, .ref (g.2.1 0)), (1, .int v1), (2, .int v2), (3, .int v3)] [.int r3] S3
    refine j_iconst F (v := 1) dL_hears_6 (by decide) ?_
    refine j_icmp_ne F (tgt := 25) dL_hears_7 (by decide) hm (fun _ hm => ?_) (fun _ hm => ?_)
    · refine j_sub [0, 1, 2, 3] rfl ?_
      exact hj25 v1 v2 v3 S3  hm
    · refine j_aload_n F 0 dL_hears_10 rfl ?_
      refine j_iload_n F 1 dL_hears_11 rfl ?_
      refine j_iload_n F 2 dL_hears_12 rfl ?_
      refine j_iload_n F 3 dL_hears_13 rfl ?_
      refine bndX_ok hm (fun r14 S14 hc14 hm => ?_) (fun q S14 hc14 hm => ?_)
      · refine j_callV F (n := 3) (As := [.int v1, .int v2, .int v3]) (rest := []) (c_X5_rights l g hg v1 v2 v3 S3 r14 S14 hc14) gw_L_33 (by decide +kernel) ⟨Nat.le_of_ble_eq_true rfl, Nat.le_of_ble_eq_true rfl⟩ ⟨Nat.le_of_ble_eq_true rfl, Nat.le_of_ble_eq_true rfl⟩ lay_0 rfl rfl rfl (Nat.le_of_ble_eq_true rfl) dL_hears_14 ?_
        show J p l e rmL_hears s m args below meth c g A 4 (MQ below (QC g A (some (.int r)) S') args s 0 0 A) 0 0 17 [(0, .ref (g.2.1 0)), (1, .int v1), (2, .int v2), (3, .int v3)] [.int r14] S14
        refine j_iconst F (v := 2) dL_hears_17 (by decide) ?_
        refine j_ishr F dL_hears_18 ?_
        refine j_iconst F (v := 1) dL_hears_19 (by decide) ?_
        refine j_iand F dL_hears_20 ?_
        refine j_iconst F (v := 1) dL_hears_21 (by decide) ?_
        refine j_icmp_eq F (tgt := 50) dL_hears_22 (by decide) hm (fun _ hm => ?_) (fun _ hm => ?_)
        · refine j_sub [] rfl ?_
          exact hj50 S14  hm
        · refine j_sub [0, 1, 2, 3] rfl ?_
          exact hj25 v1 v2 v3 S14  hm
      · cases hm
  · cases hm
def m_L_learning_J84 (v1 : Int32) (v2 : Int32) (v3 : Int32) (v4 : Int32) (v6 : Int32) (v7 : Int32) (v8 : Int32) (w0 : Int32) (w1 : Int32) (S : Hs) : Option ((Int32 × Int32 × Hs) ⊕ (Int32 × Hs)) := bnd (w1 ||| w0) fun v5_85 => (some (.inl ((v5_85, v8 + 1, S))))
def m_L_learning_J83 (v1 : Int32) (v2 : Int32) (v3 : Int32) (v4 : Int32) (v6 : Int32) (v7 : Int32) (v8 : Int32) (w0 : Int32) (S : Hs) : Option ((Int32 × Int32 × Hs) ⊕ (Int32 × Hs)) := m_L_learning_J84 v1 v2 v3 v4 v6 v7 v8 0 w0 S
noncomputable def m_L_learning_L38 (v1 : Int32) (v2 : Int32) (v3 : Int32) (v4 : Int32) (v6 : Int32) (v7 : Int32) (v5 : Int32) (v8 : Int32) (S : Hs) : Option ((Int32 × Int32 × Hs) ⊕ (Int32 × Hs)) := if v1 ≤ v8 then (some (.inr ((v5, S)))) else (if ((v5 >>> (v7 &&& 31)) &&& 1) = 1 then (if v8 = v7 then (m_L_learning_J83 v1 v2 v3 v4 v6 v7 v8 v5 S) else (bndE (m_L_hears v7 v8 v2 S) fun r70 S70 => (if r70 = 0 then (m_L_learning_J83 v1 v2 v3 v4 v6 v7 v8 v5 S70) else (m_L_learning_J84 v1 v2 v3 v4 v6 v7 v8 (1 <<< (v8 &&& 31)) v5 S70)))) else (some (.inr ((v5, S)))))
def m_L_learning_J93 (v1 : Int32) (v2 : Int32) (v3 : Int32) (v4 : Int32) (v5 : Int32) (v6 : Int32) (v7 : Int32) (S : Hs) : Option ((Int32 × Int32 × Hs) ⊕ (Int32 × Hs)) := some (.inl ((v5, v7 + 1, S)))
noncomputable def m_L_learning_L29 (v1 : Int32) (v2 : Int32) (v3 : Int32) (v4 : Int32) (v6 : Int32) (v5 : Int32) (v7 : Int32) (S : Hs) : Option ((Int32 × Int32 × Hs) ⊕ (Int32 × Hs)) := if v1 ≤ v7 then (some (.inr ((v5, S)))) else ((loopO (fun x => m_L_learning_L38 v1 v2 v3 v4 v6 v7 x.1 x.2.1 x.2.2) ((v5, 0, S))).bind fun y38 => m_L_learning_J93 v1 v2 v3 v4 y38.1 v6 v7 y38.2)
noncomputable def m_L_learning_L20 (v1 : Int32) (v2 : Int32) (v3 : Int32) (v4 : Int32) (v5 : Int32) (v6 : Int32) (S : Hs) : Option ((Int32 × Int32 × Hs) ⊕ (Int32 × Hs)) := if v1 ≤ v6 then (some (.inr ((v5, S)))) else ((loopO (fun x => m_L_learning_L29 v1 v2 v3 v4 v6 x.1 x.2.1 x.2.2) ((v5, 0, S))).bind fun y29 => some (.inl ((y29.1, v6 + 1, y29.2))))
def m_L_learning_L119 (v1 : Int32) (v2 : Int32) (v4 : Int32) (v5 : Int32) (S : Hs) (v3 : Int32) (v6 : Int32) : Option ((Int32 × Int32) ⊕ Int32) := if v1 ≤ v6 then (some (.inr v3)) else (bnd (v3 + ((v5 >>> (v6 &&& 31)) &&& 1)) fun v3_134 => (some (.inl ((v3_134, v6 + 1)))))
noncomputable def m_L_learning_J153 (v1 : Int32) (v2 : Int32) (v3 : Int32) (v4 : Int32) (v5 : Int32) (w0 : Int32) (w1 : Int32) (S : Hs) : Option ((Int32 × Int32 × Hs) ⊕ ((Int32 × Hs) ⊕ (Int32 × Hs))) := bndX (m_X5_thing w1 w0 S) (fun r153 S153 => (if r153 = v5 then (some (.inl ((v3, v4 + 1, S153)))) else (some (.inr (.inr ((0, S153))))))) (fun q S153 => none)
noncomputable def m_L_learning_L5 (v1 : Int32) (v2 : Int32) (v3 : Int32) (v4 : Int32) (S : Hs) : Option ((Int32 × Int32 × Hs) ⊕ ((Int32 × Hs) ⊕ (Int32 × Hs))) := if v1 ≤ v4 then (some (.inr (.inl ((v3, S))))) else (bnd (1 <<< (v4 &&& 31)) fun v5_15 => ((loopO (fun x => m_L_learning_L20 v1 v2 v3 v4 x.1 x.2.1 x.2.2) ((v5_15, 0, S))).bind fun y20 => bnd (y20.1 &&& ((1 <<< (v4 &&& 31)) ^^^ ((-1)))) fun v5_114 => ((loopO (fun x => m_L_learning_L119 v1 v2 v4 v5_114 y20.2 x.1 x.2) ((v3, 0))).bind fun y119 => if v2 = 0 then (m_L_learning_J153 v1 v2 y119 v4 v5_114 4 v4 y20.2) else (m_L_learning_J153 v1 v2 y119 v4 v5_114 5 v4 y20.2))))
def m_L_learning_J193 (w0 : Int32) (S : Hs) : Option (Int32 × Hs) := gd (decide (w0 = 0 ∨ w0 = 1)) (some ((w0, S)))
noncomputable def m_L_learning_J181 (v3 : Int32) (w0 : Int32) (S : Hs) : Option (Int32 × Hs) := bndX (m_X5_about w0 S) (fun r181 S181 => (if r181 = v3 then (m_L_learning_J193 1 S181) else (m_L_learning_J193 0 S181))) (fun q S181 => none)
noncomputable def m_L_learning (v1 : Int32) (v2 : Int32) (S : Hs) : Option (Int32 × Hs) := (loopO (fun x => m_L_learning_L5 v1 v2 x.1 x.2.1 x.2.2) ((0, 0, S))).bind fun e5 => Sum.elim (fun y5 => if v2 = 0 then (m_L_learning_J181 y5.1 6 y5.2) else (m_L_learning_J181 y5.1 7 y5.2)) (fun q => some q) e5
set_option maxRecDepth 100000 in
set_option maxHeartbeats 4000000 in
theorem c_L_learning (l : Launch) (g : GG) (hg : Inj g) (v1 : Int32) (v2 : Int32)  (S : Hs) (r : Int32) (S' : Hs) (hm : m_L_learning v1 v2 S = some ((r, S'))) : CM l yL_learning [.code yL_learning cL_learning 9 (some .boolean)] rmL_learning [.ref (g.2.1 0), .int v1, .int v2] g S (some (.int r)) S' := by
  unfold m_L_learning at hm
  refine CM.of (cc := cL_learning) (nL := 9) (ret := (some .boolean)) (lv := [(0, .ref (g.2.1 0)), (1, .int v1), (2, .int v2)]) (by decide +kernel) hg (Nat.le_of_ble_eq_true rfl) rfl (fun p e s m args below meth c A F => ?_)
  replace F : Fx p s m meth c cL_learning RL 9 (some .boolean) g A := F
  show J p l e rmL_learning s m args below meth c g A 9 (MQ below (QC g A (some (.int r)) S') args s 0 0 A) 0 0 0 [(0, .ref (g.2.1 0)), (1, .int v1), (2, .int v2)] [] S
  have hj193 : ∀ (w0 : Int32) (S : Hs), m_L_learning_J193 w0 S = some ((r, S')) → J p l e rmL_learning s m args below meth c g A 9 (MQ below (QC g A (some (.int r)) S') args s 0 0 A) 0 0 193 [] [.int w0] S := by
    intro w0 S hm
    unfold m_L_learning_J193 at hm
    obtain ⟨hb, hm⟩ := gd_ok hm
    exact j_zret_e F rfl (z_nar hb) dL_learning_193 hm
  have hj181 : ∀ (v3 : Int32) (w0 : Int32) (S : Hs), m_L_learning_J181 v3 w0 S = some ((r, S')) → J p l e rmL_learning s m args below meth c g A 9 (MQ below (QC g A (some (.int r)) S') args s 0 0 A) 0 0 181 [(3, .int v3)] [.int w0, .ref (g.2.1 0)] S := by
    intro v3 w0 S hm
    unfold m_L_learning_J181 at hm
    refine bndX_ok hm (fun r181 S181 hc181 hm => ?_) (fun q S181 hc181 hm => ?_)
    · refine j_callV F (n := 1) (As := [.int w0]) (rest := []) (c_X5_about l g hg w0 S r181 S181 hc181) gw_L_58 (by decide +kernel) ⟨Nat.le_of_ble_eq_true rfl, Nat.le_of_ble_eq_true rfl⟩ ⟨Nat.le_of_ble_eq_true rfl, Nat.le_of_ble_eq_true rfl⟩ lay_0 rfl rfl rfl (Nat.le_of_ble_eq_true rfl) dL_learning_181 ?_
      show J p l e rmL_learning s m args below meth c g A 9 (MQ below (QC g A (some (.int r)) S') args s 0 0 A) 0 0 184 [(3, .int v3)] [.int r181] S181
      refine j_iload_n F 0 dL_learning_184 rfl ?_
      refine j_icmp_ne F (tgt := 192) dL_learning_185 (by decide) hm (fun _ hm => ?_) (fun _ hm => ?_)
      · refine j_iconst F (v := 0) dL_learning_192 (by decide) ?_
        refine j_sub [] rfl ?_
        exact hj193 0 S181  hm
      · refine j_iconst F (v := 1) dL_learning_188 (by decide) ?_
        refine j_goto F (tgt := 193) dL_learning_189 (by decide) ?_
        refine j_sub [] rfl ?_
        exact hj193 1 S181  hm
    · cases hm
  refine j_iconst F (v := 0) dL_learning_0 (by decide) ?_
  refine j_istore_n F (lv' := [(3, .int 0), (0, .ref (g.2.1 0)), (1, .int v1), (2, .int v2)]) dL_learning_1 (by decide) rfl ?_
  refine j_iconst F (v := 0) dL_learning_2 (by decide) ?_
  refine j_istore F (lv' := [(4, .int 0), (3, .int 0), (0, .ref (g.2.1 0)), (1, .int v1), (2, .int v2)]) dL_learning_3 (by decide) rfl ?_
  refine j_sub [2, 3, 4, 1, 0] rfl ?_
  obtain ⟨e5, hlp5, hm⟩ := Option.bind_eq_some_iff.mp hm
  refine loopO_walk (fun x => m_L_learning_L5 v1 v2 x.1 x.2.1 x.2.2) (fun x => J p l e rmL_learning s m args below meth c g A 9 (MQ below (QC g A (some (.int r)) S') args s 0 0 A) 0 0 5 [(0, .ref (g.2.1 0)), (1, .int v1), (2, .int v2), (3, .int x.1), (4, .int x.2.1)] [] x.2.2) (fun z => match z with | .inl x => J p l e rmL_learning s m args below meth c g A 9 (MQ below (QC g A (some (.int r)) S') args s 0 0 A) 0 0 169 [(0, .ref (g.2.1 0)), (2, .int v2), (3, .int x.1)] [] x.2 | .inr x => some x = some ((r, S'))) (fun x o1 hm hk1 => ?_) hlp5 ?_
  · obtain ⟨v3, v4, S⟩ := x
    replace hm : m_L_learning_L5 v1 v2 v3 v4 S = some o1 := hm
    show J p l e rmL_learning s m args below meth c g A 9 (MQ below (QC g A (some (.int r)) S') args s 0 0 A) 0 0 5 [(0, .ref (g.2.1 0)), (1, .int v1), (2, .int v2), (3, .int v3), (4, .int v4)] [] S
    unfold m_L_learning_L5 at hm
    have hj153 : ∀ (v3 : Int32) (v4 : Int32) (v5 : Int32) (w0 : Int32) (w1 : Int32) (S : Hs), m_L_learning_J153 v1 v2 v3 v4 v5 w0 w1 S = some o1 → J p l e rmL_learning s m args below meth c g A 9 (MQ below (QC g A (some (.int r)) S') args s 0 0 A) 0 0 153 [(0, .ref (g.2.1 0)), (1, .int v1), (2, .int v2), (3, .int v3), (4, .int v4), (5, .int v5)] [.int w0, .int w1, .ref (g.2.1 0)] S := by
      intro v3 v4 v5 w0 w1 S hm
      unfold m_L_learning_J153 at hm
      refine bndX_ok hm (fun r153 S153 hc153 hm => ?_) (fun q S153 hc153 hm => ?_)
      · refine j_callV F (n := 2) (As := [.int w1, .int w0]) (rest := []) (c_X5_thing l g hg w1 w0 S r153 S153 hc153) gw_L_26 (by decide +kernel) ⟨Nat.le_of_ble_eq_true rfl, Nat.le_of_ble_eq_true rfl⟩ ⟨Nat.le_of_ble_eq_true rfl, Nat.le_of_ble_eq_true rfl⟩ lay_0 rfl rfl rfl (Nat.le_of_ble_eq_true rfl) dL_learning_153 ?_
        show J p l e rmL_learning s m args below meth c g A 9 (MQ below (QC g A (some (.int r)) S') args s 0 0 A) 0 0 156 [(0, .ref (g.2.1 0)), (1, .int v1), (2, .int v2), (3, .int v3), (4, .int v4), (5, .int v5)] [.int r153] S153
        refine j_iload F 5 dL_learning_156 rfl ?_
        refine j_icmp_eq F (tgt := 163) dL_learning_158 (by decide) hm (fun _ hm => ?_) (fun _ hm => ?_)
        · refine j_iinc F (v := v4 + 1) (lv' := [(4, .int (v4 + 1)), (0, .ref (g.2.1 0)), (1, .int v1), (2, .int v2), (3, .int v3), (5, .int v5)]) 4 dL_learning_163 rfl rfl (by decide) rfl ?_
          refine j_goto F (tgt := 5) dL_learning_166 (by decide) ?_
          cases hm
          refine j_sub [1, 2, 3, 4, 0] rfl ?_
          exact hk1
        · refine j_iconst F (v := 0) dL_learning_161 (by decide) ?_
          cases hm
          have hr1 : some _ = some ((r, S') : Int32 × Hs) := hk1
          exact j_zret_e F rfl rfl dL_learning_162 hr1
      · cases hm
    refine j_iload F 4 dL_learning_5 rfl ?_
    refine j_iload_n F 1 dL_learning_7 rfl ?_
    refine j_icmp_ge F (tgt := 169) dL_learning_8 (by decide) hm (fun _ hm => ?_) (fun _ hm => ?_)
    · cases hm
      refine j_sub [0, 2, 3] rfl ?_
      exact hk1
    · refine j_iconst F (v := 1) dL_learning_11 (by decide) ?_
      refine j_iload F 4 dL_learning_12 rfl ?_
      refine j_ishl F dL_learning_14 ?_
      refine j_bnd hm (fun v5_15 hm => ?_)
      refine j_istore F (lv' := [(5, .int v5_15), (0, .ref (g.2.1 0)), (1, .int v1), (2, .int v2), (3, .int v3), (4, .int v4)]) dL_learning_15 (by decide) rfl ?_
      refine j_iconst F (v := 0) dL_learning_17 (by decide) ?_
      refine j_istore F (lv' := [(6, .int 0), (5, .int v5_15), (0, .ref (g.2.1 0)), (1, .int v1), (2, .int v2), (3, .int v3), (4, .int v4)]) dL_learning_18 (by decide) rfl ?_
      refine j_sub [2, 3, 4, 5, 6, 1, 0] rfl ?_
      obtain ⟨y20, hlp20, hm⟩ := Option.bind_eq_some_iff.mp hm
      refine loopO_walk (fun x => m_L_learning_L20 v1 v2 v3 v4 x.1 x.2.1 x.2.2) (fun x => J p l e rmL_learning s m args below meth c g A 9 (MQ below (QC g A (some (.int r)) S') args s 0 0 A) 0 0 20 [(0, .ref (g.2.1 0)), (1, .int v1), (2, .int v2), (3, .int v3), (4, .int v4), (5, .int x.1), (6, .int x.2.1)] [] x.2.2) (fun x => J p l e rmL_learning s m args below meth c g A 9 (MQ below (QC g A (some (.int r)) S') args s 0 0 A) 0 0 105 [(0, .ref (g.2.1 0)), (1, .int v1), (2, .int v2), (3, .int v3), (4, .int v4), (5, .int x.1)] [] x.2) (fun x o2 hm hk2 => ?_) hlp20 ?_
      · obtain ⟨v5, v6, S⟩ := x
        replace hm : m_L_learning_L20 v1 v2 v3 v4 v5 v6 S = some o2 := hm
        show J p l e rmL_learning s m args below meth c g A 9 (MQ below (QC g A (some (.int r)) S') args s 0 0 A) 0 0 20 [(0, .ref (g.2.1 0)), (1, .int v1), (2, .int v2), (3, .int v3), (4, .int v4), (5, .int v5), (6, .int v6)] [] S
        unfold m_L_learning_L20 at hm
        refine j_iload F 6 dL_learning_20 rfl ?_
        refine j_iload_n F 1 dL_learning_22 rfl ?_
        refine j_icmp_ge F (tgt := 105) dL_learning_23 (by decide) hm (fun _ hm => ?_) (fun _ hm => ?_)
        · cases hm
          refine j_sub [0, 1, 2, 3, 4, 5] rfl ?_
          exact hk2
        · refine j_iconst F (v := 0) dL_learning_26 (by decide) ?_
          refine j_istore F (lv' := [(7, .int 0), (0, .ref (g.2.1 0)), (1, .int v1), (2, .int v2), (3, .int v3), (4, .int v4), (5, .int v5), (6, .int v6)]) dL_learning_27 (by decide) rfl ?_
          refine j_sub [1, 2, 3, 4, 5, 6, 7, 0] rfl ?_
          obtain ⟨y29, hlp29, hm⟩ := Option.bind_eq_some_iff.mp hm
          refine loopO_walk (fun x => m_L_learning_L29 v1 v2 v3 v4 v6 x.1 x.2.1 x.2.2) (fun x => J p l e rmL_learning s m args below meth c g A 9 (MQ below (QC g A (some (.int r)) S') args s 0 0 A) 0 0 29 [(0, .ref (g.2.1 0)), (1, .int v1), (2, .int v2), (3, .int v3), (4, .int v4), (5, .int x.1), (6, .int v6), (7, .int x.2.1)] [] x.2.2) (fun x => J p l e rmL_learning s m args below meth c g A 9 (MQ below (QC g A (some (.int r)) S') args s 0 0 A) 0 0 99 [(0, .ref (g.2.1 0)), (1, .int v1), (2, .int v2), (3, .int v3), (4, .int v4), (5, .int x.1), (6, .int v6)] [] x.2) (fun x o3 hm hk3 => ?_) hlp29 ?_
          · obtain ⟨v5, v7, S⟩ := x
            replace hm : m_L_learning_L29 v1 v2 v3 v4 v6 v5 v7 S = some o3 := hm
            show J p l e rmL_learning s m args below meth c g A 9 (MQ below (QC g A (some (.int r)) S') args s 0 0 A) 0 0 29 [(0, .ref (g.2.1 0)), (1, .int v1), (2, .int v2), (3, .int v3), (4, .int v4), (5, .int v5), (6, .int v6), (7, .int v7)] [] S
            unfold m_L_learning_L29 at hm
            have hj93 : ∀ (v5 : Int32) (v7 : Int32) (S : Hs), m_L_learning_J93 v1 v2 v3 v4 v5 v6 v7 S = some o3 → J p l e rmL_learning s m args below meth c g A 9 (MQ below (QC g A (some (.int r)) S') args s 0 0 A) 0 0 93 [(0, .ref (g.2.1 0)), (1, .int v1), (2, .int v2), (3, .int v3), (4, .int v4), (5, .int v5), (6, .int v6), (7, .int v7)] [] S := by
              intro v5 v7 S hm
              unfold m_L_learning_J93 at hm
              refine j_iinc F (v := v7 + 1) (lv' := [(7, .int (v7 + 1)), (0, .ref (g.2.1 0)), (1, .int v1), (2, .int v2), (3, .int v3), (4, .int v4), (5, .int v5), (6, .int v6)]) 7 dL_learning_93 rfl rfl (by decide) rfl ?_
              refine j_goto F (tgt := 29) dL_learning_96 (by decide) ?_
              cases hm
              refine j_sub [1, 2, 3, 4, 5, 6, 7, 0] rfl ?_
              exact hk3
            refine j_iload F 7 dL_learning_29 rfl ?_
            refine j_iload_n F 1 dL_learning_31 rfl ?_
            refine j_icmp_ge F (tgt := 99) dL_learning_32 (by decide) hm (fun _ hm => ?_) (fun _ hm => ?_)
            · cases hm
              refine j_sub [0, 1, 2, 3, 4, 5, 6] rfl ?_
              exact hk3
            · refine j_iconst F (v := 0) dL_learning_35 (by decide) ?_
              refine j_istore F (lv' := [(8, .int 0), (0, .ref (g.2.1 0)), (1, .int v1), (2, .int v2), (3, .int v3), (4, .int v4), (5, .int v5), (6, .int v6), (7, .int v7)]) dL_learning_36 (by decide) rfl ?_
              refine j_sub [1, 2, 3, 4, 5, 6, 7, 8, 0] rfl ?_
              obtain ⟨y38, hlp38, hm⟩ := Option.bind_eq_some_iff.mp hm
              refine loopO_walk (fun x => m_L_learning_L38 v1 v2 v3 v4 v6 v7 x.1 x.2.1 x.2.2) (fun x => J p l e rmL_learning s m args below meth c g A 9 (MQ below (QC g A (some (.int r)) S') args s 0 0 A) 0 0 38 [(0, .ref (g.2.1 0)), (1, .int v1), (2, .int v2), (3, .int v3), (4, .int v4), (5, .int x.1), (6, .int v6), (7, .int v7), (8, .int x.2.1)] [] x.2.2) (fun x => J p l e rmL_learning s m args below meth c g A 9 (MQ below (QC g A (some (.int r)) S') args s 0 0 A) 0 0 93 [(0, .ref (g.2.1 0)), (1, .int v1), (2, .int v2), (3, .int v3), (4, .int v4), (5, .int x.1), (6, .int v6), (7, .int v7)] [] x.2) (fun x o4 hm hk4 => ?_) hlp38 ?_
              · obtain ⟨v5, v8, S⟩ := x
                replace hm : m_L_learning_L38 v1 v2 v3 v4 v6 v7 v5 v8 S = some o4 := hm
                show J p l e rmL_learning s m args below meth c g A 9 (MQ below (QC g A (some (.int r)) S') args s 0 0 A) 0 0 38 [(0, .ref (g.2.1 0)), (1, .int v1), (2, .int v2), (3, .int v3), (4, .int v4), (5, .int v5), (6, .int v6), (7, .int v7), (8, .int v8)] [] S
                unfold m_L_learning_L38 at hm
                have hj84 : ∀ (v8 : Int32) (w0 : Int32) (w1 : Int32) (S : Hs), m_L_learning_J84 v1 v2 v3 v4 v6 v7 v8 w0 w1 S = some o4 → J p l e rmL_learning s m args below meth c g A 9 (MQ below (QC g A (some (.int r)) S') args s 0 0 A) 0 0 84 [(0, .ref (g.2.1 0)), (1, .int v1), (2, .int v2), (3, .int v3), (4, .int v4), (6, .int v6), (7, .int v7), (8, .int v8)] [.int w0, .int w1] S := by
                  intro v8 w0 w1 S hm
                  unfold m_L_learning_J84 at hm
                  refine j_ior F dL_learning_84 ?_
                  refine j_bnd hm (fun v5_85 hm => ?_)
                  refine j_istore F (lv' := [(5, .int v5_85), (0, .ref (g.2.1 0)), (1, .int v1), (2, .int v2), (3, .int v3), (4, .int v4), (6, .int v6), (7, .int v7), (8, .int v8)]) dL_learning_85 (by decide) rfl ?_
                  refine j_iinc F (v := v8 + 1) (lv' := [(8, .int (v8 + 1)), (5, .int v5_85), (0, .ref (g.2.1 0)), (1, .int v1), (2, .int v2), (3, .int v3), (4, .int v4), (6, .int v6), (7, .int v7)]) 8 dL_learning_87 rfl rfl (by decide) rfl ?_
                  refine j_goto F (tgt := 38) dL_learning_90 (by decide) ?_
                  cases hm
                  refine j_sub [2, 3, 4, 5, 6, 1, 7, 8, 0] rfl ?_
                  exact hk4
                have hj83 : ∀ (v8 : Int32) (w0 : Int32) (S : Hs), m_L_learning_J83 v1 v2 v3 v4 v6 v7 v8 w0 S = some o4 → J p l e rmL_learning s m args below meth c g A 9 (MQ below (QC g A (some (.int r)) S') args s 0 0 A) 0 0 83 [(0, .ref (g.2.1 0)), (1, .int v1), (2, .int v2), (3, .int v3), (4, .int v4), (6, .int v6), (7, .int v7), (8, .int v8)] [.int w0] S := by
                  intro v8 w0 S hm
                  unfold m_L_learning_J83 at hm
                  refine j_iconst F (v := 0) dL_learning_83 (by decide) ?_
                  refine j_sub [0, 1, 2, 3, 4, 5, 6, 7] rfl ?_
                  exact hj84 v8 0 w0 S  hm
                refine j_iload F 8 dL_learning_38 rfl ?_
                refine j_iload_n F 1 dL_learning_40 rfl ?_
                refine j_icmp_ge F (tgt := 93) dL_learning_41 (by decide) hm (fun _ hm => ?_) (fun _ hm => ?_)
                · cases hm
                  refine j_sub [0, 1, 2, 3, 4, 5, 6, 7] rfl ?_
                  exact hk4
                · refine j_iload F 5 dL_learning_44 rfl ?_
                  refine j_iload F 7 dL_learning_46 rfl ?_
                  refine j_ishr F dL_learning_48 ?_
                  refine j_iconst F (v := 1) dL_learning_49 (by decide) ?_
                  refine j_iand F dL_learning_50 ?_
                  refine j_iconst F (v := 1) dL_learning_51 (by decide) ?_
                  refine j_icmp_ne F (tgt := 93) dL_learning_52 (by decide) hm (fun _ hm => ?_) (fun _ hm => ?_)
                  · cases hm
                    refine j_sub [0, 1, 2, 3, 4, 5, 6, 7] rfl ?_
                    exact hk4
                  · refine j_iload F 5 dL_learning_55 rfl ?_
                    refine j_iload F 8 dL_learning_57 rfl ?_
                    refine j_iload F 7 dL_learning_59 rfl ?_
                    refine j_icmp_eq F (tgt := 83) dL_learning_61 (by decide) hm (fun _ hm => ?_) (fun _ hm => ?_)
                    · refine j_sub [0, 1, 2, 3, 4, 6, 7, 8] rfl ?_
                      exact hj83 v8 v5 S  hm
                    · refine j_aload_n F 0 dL_learning_64 rfl ?_
                      refine j_iload F 7 dL_learning_65 rfl ?_
                      refine j_iload F 8 dL_learning_67 rfl ?_
                      refine j_iload_n F 2 dL_learning_69 rfl ?_
                      obtain ⟨r70, S70, hc70, hm⟩ := bndE_ok hm
                      refine j_callS F (n := 4) (As := [.ref (g.2.1 0), .int v7, .int v8, .int v2]) (rest := [.int v5]) (c_L_hears l g hg v7 v8 v2 S r70 S70 hc70) gw_L_62 (by decide +kernel) ⟨Nat.le_of_ble_eq_true rfl, Nat.le_of_ble_eq_true rfl⟩ ⟨Nat.le_of_ble_eq_true rfl, Nat.le_of_ble_eq_true rfl⟩ rfl rfl (Nat.le_of_ble_eq_true rfl) dL_learning_70 ?_
                      show J p l e rmL_learning s m args below meth c g A 9 (MQ below (QC g A (some (.int r)) S') args s 0 0 A) 0 0 73 [(0, .ref (g.2.1 0)), (1, .int v1), (2, .int v2), (3, .int v3), (4, .int v4), (5, .int v5), (6, .int v6), (7, .int v7), (8, .int v8)] [.int r70, .int v5] S70
                      refine j_if_eq F (tgt := 83) dL_learning_73 (by decide) hm (fun _ hm => ?_) (fun _ hm => ?_)
                      · refine j_sub [0, 1, 2, 3, 4, 6, 7, 8] rfl ?_
                        exact hj83 v8 v5 S70  hm
                      · refine j_iconst F (v := 1) dL_learning_76 (by decide) ?_
                        refine j_iload F 8 dL_learning_77 rfl ?_
                        refine j_ishl F dL_learning_79 ?_
                        refine j_goto F (tgt := 84) dL_learning_80 (by decide) ?_
                        refine j_sub [0, 1, 2, 3, 4, 6, 7, 8] rfl ?_
                        exact hj84 v8 (1 <<< (v8 &&& 31)) v5 S70  hm
              · show J p l e rmL_learning s m args below meth c g A 9 (MQ below (QC g A (some (.int r)) S') args s 0 0 A) 0 0 93 [(0, .ref (g.2.1 0)), (1, .int v1), (2, .int v2), (3, .int v3), (4, .int v4), (5, .int y38.1), (6, .int v6), (7, .int v7)] [] y38.2
                refine j_sub [0, 1, 2, 3, 4, 5, 6, 7] rfl ?_
                exact hj93 y38.1 v7 y38.2  hm
          · show J p l e rmL_learning s m args below meth c g A 9 (MQ below (QC g A (some (.int r)) S') args s 0 0 A) 0 0 99 [(0, .ref (g.2.1 0)), (1, .int v1), (2, .int v2), (3, .int v3), (4, .int v4), (5, .int y29.1), (6, .int v6)] [] y29.2
            refine j_iinc F (v := v6 + 1) (lv' := [(6, .int (v6 + 1)), (0, .ref (g.2.1 0)), (1, .int v1), (2, .int v2), (3, .int v3), (4, .int v4), (5, .int y29.1)]) 6 dL_learning_99 rfl rfl (by decide) rfl ?_
            refine j_goto F (tgt := 20) dL_learning_102 (by decide) ?_
            cases hm
            refine j_sub [1, 2, 3, 4, 5, 6, 0] rfl ?_
            exact hk2
      · show J p l e rmL_learning s m args below meth c g A 9 (MQ below (QC g A (some (.int r)) S') args s 0 0 A) 0 0 105 [(0, .ref (g.2.1 0)), (1, .int v1), (2, .int v2), (3, .int v3), (4, .int v4), (5, .int y20.1)] [] y20.2
        refine j_iload F 5 dL_learning_105 rfl ?_
        refine j_iconst F (v := 1) dL_learning_107 (by decide) ?_
        refine j_iload F 4 dL_learning_108 rfl ?_
        refine j_ishl F dL_learning_110 ?_
        refine j_iconst F (v := -1) dL_learning_111 (by decide) ?_
        refine j_ixor F dL_learning_112 ?_
        refine j_iand F dL_learning_113 ?_
        refine j_bnd hm (fun v5_114 hm => ?_)
        refine j_istore F (lv' := [(5, .int v5_114), (0, .ref (g.2.1 0)), (1, .int v1), (2, .int v2), (3, .int v3), (4, .int v4)]) dL_learning_114 (by decide) rfl ?_
        refine j_iconst F (v := 0) dL_learning_116 (by decide) ?_
        refine j_istore F (lv' := [(6, .int 0), (5, .int v5_114), (0, .ref (g.2.1 0)), (1, .int v1), (2, .int v2), (3, .int v3), (4, .int v4)]) dL_learning_117 (by decide) rfl ?_
        refine j_sub [2, 3, 4, 5, 6, 1, 0] rfl ?_
        obtain ⟨y119, hlp119, hm⟩ := Option.bind_eq_some_iff.mp hm
        refine loopO_walk (fun x => m_L_learning_L119 v1 v2 v4 v5_114 y20.2 x.1 x.2) (fun x => J p l e rmL_learning s m args below meth c g A 9 (MQ below (QC g A (some (.int r)) S') args s 0 0 A) 0 0 119 [(0, .ref (g.2.1 0)), (1, .int v1), (2, .int v2), (3, .int x.1), (4, .int v4), (5, .int v5_114), (6, .int x.2)] [] y20.2) (fun x => J p l e rmL_learning s m args below meth c g A 9 (MQ below (QC g A (some (.int r)) S') args s 0 0 A) 0 0 141 [(0, .ref (g.2.1 0)), (1, .int v1), (2, .int v2), (3, .int x), (4, .int v4), (5, .int v5_114)] [] y20.2) (fun x o2 hm hk2 => ?_) hlp119 ?_
        · obtain ⟨v3, v6⟩ := x
          replace hm : m_L_learning_L119 v1 v2 v4 v5_114 y20.2 v3 v6 = some o2 := hm
          show J p l e rmL_learning s m args below meth c g A 9 (MQ below (QC g A (some (.int r)) S') args s 0 0 A) 0 0 119 [(0, .ref (g.2.1 0)), (1, .int v1), (2, .int v2), (3, .int v3), (4, .int v4), (5, .int v5_114), (6, .int v6)] [] y20.2
          unfold m_L_learning_L119 at hm
          refine j_iload F 6 dL_learning_119 rfl ?_
          refine j_iload_n F 1 dL_learning_121 rfl ?_
          refine j_icmp_ge F (tgt := 141) dL_learning_122 (by decide) hm (fun _ hm => ?_) (fun _ hm => ?_)
          · cases hm
            refine j_sub [0, 1, 2, 3, 4, 5] rfl ?_
            exact hk2
          · refine j_iload_n F 3 dL_learning_125 rfl ?_
            refine j_iload F 5 dL_learning_126 rfl ?_
            refine j_iload F 6 dL_learning_128 rfl ?_
            refine j_ishr F dL_learning_130 ?_
            refine j_iconst F (v := 1) dL_learning_131 (by decide) ?_
            refine j_iand F dL_learning_132 ?_
            refine j_iadd F dL_learning_133 ?_
            refine j_bnd hm (fun v3_134 hm => ?_)
            refine j_istore_n F (lv' := [(3, .int v3_134), (0, .ref (g.2.1 0)), (1, .int v1), (2, .int v2), (4, .int v4), (5, .int v5_114), (6, .int v6)]) dL_learning_134 (by decide) rfl ?_
            refine j_iinc F (v := v6 + 1) (lv' := [(6, .int (v6 + 1)), (3, .int v3_134), (0, .ref (g.2.1 0)), (1, .int v1), (2, .int v2), (4, .int v4), (5, .int v5_114)]) 6 dL_learning_135 rfl rfl (by decide) rfl ?_
            refine j_goto F (tgt := 119) dL_learning_138 (by decide) ?_
            cases hm
            refine j_sub [2, 3, 4, 1, 5, 6, 0] rfl ?_
            exact hk2
        · show J p l e rmL_learning s m args below meth c g A 9 (MQ below (QC g A (some (.int r)) S') args s 0 0 A) 0 0 141 [(0, .ref (g.2.1 0)), (1, .int v1), (2, .int v2), (3, .int y119), (4, .int v4), (5, .int v5_114)] [] y20.2
          refine j_aload_n F 0 dL_learning_141 rfl ?_
          refine j_iload F 4 dL_learning_142 rfl ?_
          refine j_iload_n F 2 dL_learning_144 rfl ?_
          refine j_if_eq F (tgt := 152) dL_learning_145 (by decide) hm (fun _ hm => ?_) (fun _ hm => ?_)
          · refine j_iconst F (v := 4) dL_learning_152 (by decide) ?_
            refine j_sub [0, 1, 2, 3, 4, 5] rfl ?_
            exact hj153 y119 v4 v5_114 4 v4 y20.2  hm
          · refine j_iconst F (v := 5) dL_learning_148 (by decide) ?_
            refine j_goto F (tgt := 153) dL_learning_149 (by decide) ?_
            refine j_sub [0, 1, 2, 3, 4, 5] rfl ?_
            exact hj153 y119 v4 v5_114 5 v4 y20.2  hm
  · cases e5 with
    | inl y5 =>
      dsimp only [Sum.elim_inl] at hm
      show J p l e rmL_learning s m args below meth c g A 9 (MQ below (QC g A (some (.int r)) S') args s 0 0 A) 0 0 169 [(0, .ref (g.2.1 0)), (2, .int v2), (3, .int y5.1)] [] y5.2
      refine j_aload_n F 0 dL_learning_169 rfl ?_
      refine j_iload_n F 1 dL_learning_170 rfl ?_
      refine j_if_eq F (tgt := 179) dL_learning_171 (by decide) hm (fun _ hm => ?_) (fun _ hm => ?_)
      · refine j_bipush F (v := 6) dL_learning_179 (by decide) ?_
        refine j_sub [2] rfl ?_
        exact hj181 y5.1 6 y5.2  hm
      · refine j_bipush F (v := 7) dL_learning_174 (by decide) ?_
        refine j_goto F (tgt := 181) dL_learning_176 (by decide) ?_
        refine j_sub [2] rfl ?_
        exact hj181 y5.1 7 y5.2  hm
    | inr q =>
      exact hm
def m_L_needed_J134 (v1 : Int32) (v2 : Int32) (v3 : Int32) (v4 : Int32) (v5 : Int32) (v6 : Int32) (v7 : Int32) (v8 : Int32) (S : Hs) : Option ((Int32 × Int32 × Int32 × Hs) ⊕ (Int32 × Int32 × Hs)) := some (.inl ((v6, v7, v8 + 1, S)))
def m_L_needed_J132 (v1 : Int32) (v2 : Int32) (v3 : Int32) (v4 : Int32) (v5 : Int32) (v7 : Int32) (v8 : Int32) (w0 : Int32) (S : Hs) : Option ((Int32 × Int32 × Int32 × Hs) ⊕ (Int32 × Int32 × Hs)) := m_L_needed_J134 v1 v2 v3 v4 v5 w0 v7 v8 S
noncomputable def m_L_needed_J105 (v1 : Int32) (v2 : Int32) (v3 : Int32) (v4 : Int32) (v5 : Int32) (v6 : Int32) (v7 : Int32) (v8 : Int32) (S : Hs) : Option ((Int32 × Int32 × Int32 × Hs) ⊕ (Int32 × Int32 × Hs)) := if ((v5 >>> (v8 &&& 31)) &&& 1) = 1 then (bndX (m_X5_thing v8 1 S) (fun r120 S120 => (if r120 = 1 then (m_L_needed_J132 v1 v2 v3 v4 v5 v7 v8 1 S120) else (m_L_needed_J132 v1 v2 v3 v4 v5 v7 v8 0 S120))) (fun q S120 => none)) else (m_L_needed_J134 v1 v2 v3 v4 v5 v6 v7 v8 S)
def m_L_needed_J97 (v1 : Int32) (v2 : Int32) (v3 : Int32) (v4 : Int32) (v5 : Int32) (v7 : Int32) (v8 : Int32) (w0 : Int32) (S : Hs) : Option ((Int32 × Int32 × Int32 × Hs) ⊕ (Int32 × Int32 × Hs)) := m_L_needed_J134 v1 v2 v3 v4 v5 w0 (v7 + 1) v8 S
noncomputable def m_L_needed_L50 (v1 : Int32) (v2 : Int32) (v3 : Int32) (v4 : Int32) (v5 : Int32) (v6 : Int32) (v7 : Int32) (v8 : Int32) (S : Hs) : Option ((Int32 × Int32 × Int32 × Hs) ⊕ (Int32 × Int32 × Hs)) := if v1 ≤ v8 then (some (.inr ((v6, v7, S)))) else (if v6 = 0 then (some (.inr ((v6, v7, S)))) else (bndX (m_X5_thing v8 1 S) (fun r65 S65 => (if r65 = 1 then (if ((v5 >>> (v8 &&& 31)) &&& 1) = 0 then (bndX (m_X5_wake v8 0 S65) (fun r86 S86 => (if r86 < 0 then (m_L_needed_J97 v1 v2 v3 v4 v5 v7 v8 0 S86) else (m_L_needed_J97 v1 v2 v3 v4 v5 v7 v8 1 S86))) (fun q S86 => none)) else (m_L_needed_J105 v1 v2 v3 v4 v5 v6 v7 v8 S65)) else (m_L_needed_J105 v1 v2 v3 v4 v5 v6 v7 v8 S65))) (fun q S65 => none)))
def m_L_needed_J220 (v1 : Int32) (v2 : Int32) (v3 : Int32) (v4 : Int32) (v5 : Int32) (v7 : Int32) (v8 : Int32) (w0 : Int32) (S : Hs) : Option ((Int32 × Int32 × Hs) ⊕ (Int32 × Hs)) := some (.inl ((w0, v8 + 1, S)))
def m_L_needed_J215 (v1 : Int32) (v2 : Int32) (v3 : Int32) (v4 : Int32) (v5 : Int32) (v7 : Int32) (v8 : Int32) (S : Hs) : Option ((Int32 × Int32 × Hs) ⊕ (Int32 × Hs)) := m_L_needed_J220 v1 v2 v3 v4 v5 v7 v8 1 S
def m_L_needed_J219 (v1 : Int32) (v2 : Int32) (v3 : Int32) (v4 : Int32) (v5 : Int32) (v7 : Int32) (v8 : Int32) (S : Hs) : Option ((Int32 × Int32 × Hs) ⊕ (Int32 × Hs)) := m_L_needed_J220 v1 v2 v3 v4 v5 v7 v8 0 S
noncomputable def m_L_needed_L166 (v1 : Int32) (v2 : Int32) (v3 : Int32) (v4 : Int32) (v5 : Int32) (v7 : Int32) (v6 : Int32) (v8 : Int32) (S : Hs) : Option ((Int32 × Int32 × Hs) ⊕ (Int32 × Hs)) := if v1 ≤ v8 then (some (.inr ((v6, S)))) else (if v6 = 0 then (some (.inr ((v6, S)))) else (if ((v5 >>> (v8 &&& 31)) &&& 1) = 0 then (m_L_needed_J215 v1 v2 v3 v4 v5 v7 v8 S) else (bndX (m_X5_wake v8 0 S) (fun r191 S191 => (if r191 < 0 then (m_L_needed_J219 v1 v2 v3 v4 v5 v7 v8 S191) else (bndE (m_L_ends v2 v3 v4 S191) fun r202 S202 => (if r202 = 0 then (bndX (m_X5_undo  S202) (fun r209 S209 => (if r209 < 0 then (m_L_needed_J219 v1 v2 v3 v4 v5 v7 v8 S209) else (m_L_needed_J215 v1 v2 v3 v4 v5 v7 v8 S209))) (fun q S209 => none)) else (m_L_needed_J219 v1 v2 v3 v4 v5 v7 v8 S202))))) (fun q S191 => none))))
def m_L_needed_J255 (v7 : Int32) (v8 : Int32) (w0 : Int32) (S : Hs) : Option ((Int32 × Int32 × Hs) ⊕ (Int32 × Hs)) := some (.inl ((w0, v8 + 1, S)))
noncomputable def m_L_needed_L231 (v7 : Int32) (v6 : Int32) (v8 : Int32) (S : Hs) : Option ((Int32 × Int32 × Hs) ⊕ (Int32 × Hs)) := if v7 ≤ v8 then (some (.inr ((v6, S)))) else (if v6 = 0 then (some (.inr ((v6, S)))) else (bndX (m_X5_undo  S) (fun r244 S244 => (if r244 < 0 then (m_L_needed_J255 v7 v8 0 S244) else (m_L_needed_J255 v7 v8 1 S244))) (fun q S244 => none)))
def m_L_needed_J263 (v6 : Int32) (S : Hs) : Option (Int32 × Hs) := gd (decide (v6 = 0 ∨ v6 = 1)) (some ((v6, S)))
noncomputable def m_L_needed_J228 (v6 : Int32) (v7 : Int32) (S : Hs) : Option (Int32 × Hs) := (loopO (fun x => m_L_needed_L231 v7 x.1 x.2.1 x.2.2) ((v6, 0, S))).bind fun y231 => m_L_needed_J263 y231.1 y231.2
noncomputable def m_L_needed_J161 (v1 : Int32) (v2 : Int32) (v3 : Int32) (v4 : Int32) (v5 : Int32) (v7 : Int32) (w0 : Int32) (S : Hs) : Option (Int32 × Hs) := (loopO (fun x => m_L_needed_L166 v1 v2 v3 v4 v5 v7 x.1 x.2.1 x.2.2) ((w0, 0, S))).bind fun y166 => m_L_needed_J228 y166.1 v7 y166.2
noncomputable def m_L_needed_J160 (v1 : Int32) (v2 : Int32) (v3 : Int32) (v4 : Int32) (v5 : Int32) (v7 : Int32) (S : Hs) : Option (Int32 × Hs) := m_L_needed_J161 v1 v2 v3 v4 v5 v7 0 S
noncomputable def m_L_needed_J140 (v1 : Int32) (v2 : Int32) (v3 : Int32) (v4 : Int32) (v5 : Int32) (v6 : Int32) (v7 : Int32) (S : Hs) : Option (Int32 × Hs) := if v6 = 0 then (m_L_needed_J160 v1 v2 v3 v4 v5 v7 S) else (bndE (m_L_ends v2 v3 v4 S) fun r150 S150 => (if r150 = 0 then (m_L_needed_J160 v1 v2 v3 v4 v5 v7 S150) else (m_L_needed_J161 v1 v2 v3 v4 v5 v7 1 S150)))
def m_L_needed_J33 (w0 : Int32) (S : Hs) : Option (Int32 × Hs) := gd (decide (w0 = 0 ∨ w0 = 1)) (some ((w0, S)))
noncomputable def m_L_needed (v1 : Int32) (v2 : Int32) (v3 : Int32) (v4 : Int32) (S : Hs) : Option (Int32 × Hs) := bndX (m_X5_needed v2 v3 v4 S) (fun r5 S5 => (if r5 = ((-9)) then (bndE (m_L_ends v2 v3 v4 S5) fun r22 S22 => (if r22 = 0 then (m_L_needed_J33 1 S22) else (m_L_needed_J33 0 S22))) else (bndE (m_L_ends v2 v3 v4 S5) fun r39 S39 => ((loopO (fun x => m_L_needed_L50 v1 v2 v3 v4 r5 x.1 x.2.1 x.2.2.1 x.2.2.2) ((r39, 0, 0, S39))).bind fun y50 => m_L_needed_J140 v1 v2 v3 v4 r5 y50.1 y50.2.1 y50.2.2)))) (fun q S5 => none)
set_option maxRecDepth 100000 in
set_option maxHeartbeats 4000000 in
theorem c_L_needed (l : Launch) (g : GG) (hg : Inj g) (v1 : Int32) (v2 : Int32) (v3 : Int32) (v4 : Int32)  (S : Hs) (r : Int32) (S' : Hs) (hm : m_L_needed v1 v2 v3 v4 S = some ((r, S'))) : CM l yL_needed [.code yL_needed cL_needed 9 (some .boolean)] rmL_needed [.ref (g.2.1 0), .int v1, .int v2, .int v3, .int v4] g S (some (.int r)) S' := by
  unfold m_L_needed at hm
  refine CM.of (cc := cL_needed) (nL := 9) (ret := (some .boolean)) (lv := [(0, .ref (g.2.1 0)), (1, .int v1), (2, .int v2), (3, .int v3), (4, .int v4)]) (by decide +kernel) hg (Nat.le_of_ble_eq_true rfl) rfl (fun p e s m args below meth c A F => ?_)
  replace F : Fx p s m meth c cL_needed RL 9 (some .boolean) g A := F
  show J p l e rmL_needed s m args below meth c g A 9 (MQ below (QC g A (some (.int r)) S') args s 0 0 A) 0 0 0 [(0, .ref (g.2.1 0)), (1, .int v1), (2, .int v2), (3, .int v3), (4, .int v4)] [] S
  have hj263 : ∀ (v6 : Int32) (S : Hs), m_L_needed_J263 v6 S = some ((r, S')) → J p l e rmL_needed s m args below meth c g A 9 (MQ below (QC g A (some (.int r)) S') args s 0 0 A) 0 0 263 [(6, .int v6)] [] S := by
    intro v6 S hm
    unfold m_L_needed_J263 at hm
    refine j_iload F 0 dL_needed_263 rfl ?_
    obtain ⟨hb, hm⟩ := gd_ok hm
    exact j_zret_e F rfl (z_nar hb) dL_needed_265 hm
  have hj228 : ∀ (v6 : Int32) (v7 : Int32) (S : Hs), m_L_needed_J228 v6 v7 S = some ((r, S')) → J p l e rmL_needed s m args below meth c g A 9 (MQ below (QC g A (some (.int r)) S') args s 0 0 A) 0 0 228 [(0, .ref (g.2.1 0)), (6, .int v6), (7, .int v7)] [] S := by
    intro v6 v7 S hm
    unfold m_L_needed_J228 at hm
    refine j_iconst F (v := 0) dL_needed_228 (by decide) ?_
    refine j_istore F (lv' := [(8, .int 0), (0, .ref (g.2.1 0)), (6, .int v6), (7, .int v7)]) dL_needed_229 (by decide) rfl ?_
    refine j_sub [1, 2, 3, 0] rfl ?_
    obtain ⟨y231, hlp231, hm⟩ := Option.bind_eq_some_iff.mp hm
    refine loopO_walk (fun x => m_L_needed_L231 v7 x.1 x.2.1 x.2.2) (fun x => J p l e rmL_needed s m args below meth c g A 9 (MQ below (QC g A (some (.int r)) S') args s 0 0 A) 0 0 231 [(0, .ref (g.2.1 0)), (6, .int x.1), (7, .int v7), (8, .int x.2.1)] [] x.2.2) (fun x => J p l e rmL_needed s m args below meth c g A 9 (MQ below (QC g A (some (.int r)) S') args s 0 0 A) 0 0 263 [(6, .int x.1)] [] x.2) (fun x o1 hm hk1 => ?_) hlp231 ?_
    · obtain ⟨v6, v8, S⟩ := x
      replace hm : m_L_needed_L231 v7 v6 v8 S = some o1 := hm
      show J p l e rmL_needed s m args below meth c g A 9 (MQ below (QC g A (some (.int r)) S') args s 0 0 A) 0 0 231 [(0, .ref (g.2.1 0)), (6, .int v6), (7, .int v7), (8, .int v8)] [] S
      unfold m_L_needed_L231 at hm
      have hj255 : ∀ (v8 : Int32) (w0 : Int32) (S : Hs), m_L_needed_J255 v7 v8 w0 S = some o1 → J p l e rmL_needed s m args below meth c g A 9 (MQ below (QC g A (some (.int r)) S') args s 0 0 A) 0 0 255 [(0, .ref (g.2.1 0)), (7, .int v7), (8, .int v8)] [.int w0] S := by
        intro v8 w0 S hm
        unfold m_L_needed_J255 at hm
        refine j_istore F (lv' := [(6, .int w0), (0, .ref (g.2.1 0)), (7, .int v7), (8, .int v8)]) dL_needed_255 (by decide) rfl ?_
        refine j_iinc F (v := v8 + 1) (lv' := [(8, .int (v8 + 1)), (6, .int w0), (0, .ref (g.2.1 0)), (7, .int v7)]) 3 dL_needed_257 rfl rfl (by decide) rfl ?_
        refine j_goto F (tgt := 231) dL_needed_260 (by decide) ?_
        cases hm
        refine j_sub [2, 1, 3, 0] rfl ?_
        exact hk1
      refine j_iload F 3 dL_needed_231 rfl ?_
      refine j_iload F 2 dL_needed_233 rfl ?_
      refine j_icmp_ge F (tgt := 263) dL_needed_235 (by decide) hm (fun _ hm => ?_) (fun _ hm => ?_)
      · cases hm
        refine j_sub [1] rfl ?_
        exact hk1
      · refine j_iload F 1 dL_needed_238 rfl ?_
        refine j_if_eq F (tgt := 263) dL_needed_240 (by decide) hm (fun _ hm => ?_) (fun _ hm => ?_)
        · cases hm
          refine j_sub [1] rfl ?_
          exact hk1
        · refine j_aload_n F 0 dL_needed_243 rfl ?_
          refine bndX_ok hm (fun r244 S244 hc244 hm => ?_) (fun q S244 hc244 hm => ?_)
          · refine j_callV F (n := 0) (As := []) (rest := []) (c_X5_undo l g hg S r244 S244 hc244) gw_L_69 (by decide +kernel) ⟨Nat.le_of_ble_eq_true rfl, Nat.le_of_ble_eq_true rfl⟩ ⟨Nat.le_of_ble_eq_true rfl, Nat.le_of_ble_eq_true rfl⟩ lay_0 rfl rfl rfl (Nat.le_of_ble_eq_true rfl) dL_needed_244 ?_
            show J p l e rmL_needed s m args below meth c g A 9 (MQ below (QC g A (some (.int r)) S') args s 0 0 A) 0 0 247 [(0, .ref (g.2.1 0)), (6, .int v6), (7, .int v7), (8, .int v8)] [.int r244] S244
            refine j_if_lt F (tgt := 254) dL_needed_247 (by decide) hm (fun _ hm => ?_) (fun _ hm => ?_)
            · refine j_iconst F (v := 0) dL_needed_254 (by decide) ?_
              refine j_sub [0, 2, 3] rfl ?_
              exact hj255 v8 0 S244  hm
            · refine j_iconst F (v := 1) dL_needed_250 (by decide) ?_
              refine j_goto F (tgt := 255) dL_needed_251 (by decide) ?_
              refine j_sub [0, 2, 3] rfl ?_
              exact hj255 v8 1 S244  hm
          · cases hm
    · show J p l e rmL_needed s m args below meth c g A 9 (MQ below (QC g A (some (.int r)) S') args s 0 0 A) 0 0 263 [(6, .int y231.1)] [] y231.2
      refine j_sub [0] rfl ?_
      exact hj263 y231.1 y231.2  hm
  have hj161 : ∀ (v1 : Int32) (v2 : Int32) (v3 : Int32) (v4 : Int32) (v5 : Int32) (v7 : Int32) (w0 : Int32) (S : Hs), m_L_needed_J161 v1 v2 v3 v4 v5 v7 w0 S = some ((r, S')) → J p l e rmL_needed s m args below meth c g A 9 (MQ below (QC g A (some (.int r)) S') args s 0 0 A) 0 0 161 [(0, .ref (g.2.1 0)), (1, .int v1), (2, .int v2), (3, .int v3), (4, .int v4), (5, .int v5), (7, .int v7)] [.int w0] S := by
    intro v1 v2 v3 v4 v5 v7 w0 S hm
    unfold m_L_needed_J161 at hm
    refine j_istore F (lv' := [(6, .int w0), (0, .ref (g.2.1 0)), (1, .int v1), (2, .int v2), (3, .int v3), (4, .int v4), (5, .int v5), (7, .int v7)]) dL_needed_161 (by decide) rfl ?_
    refine j_iconst F (v := 0) dL_needed_163 (by decide) ?_
    refine j_istore F (lv' := [(8, .int 0), (6, .int w0), (0, .ref (g.2.1 0)), (1, .int v1), (2, .int v2), (3, .int v3), (4, .int v4), (5, .int v5), (7, .int v7)]) dL_needed_164 (by decide) rfl ?_
    refine j_sub [2, 3, 4, 5, 6, 7, 1, 8, 0] rfl ?_
    obtain ⟨y166, hlp166, hm⟩ := Option.bind_eq_some_iff.mp hm
    refine loopO_walk (fun x => m_L_needed_L166 v1 v2 v3 v4 v5 v7 x.1 x.2.1 x.2.2) (fun x => J p l e rmL_needed s m args below meth c g A 9 (MQ below (QC g A (some (.int r)) S') args s 0 0 A) 0 0 166 [(0, .ref (g.2.1 0)), (1, .int v1), (2, .int v2), (3, .int v3), (4, .int v4), (5, .int v5), (6, .int x.1), (7, .int v7), (8, .int x.2.1)] [] x.2.2) (fun x => J p l e rmL_needed s m args below meth c g A 9 (MQ below (QC g A (some (.int r)) S') args s 0 0 A) 0 0 228 [(0, .ref (g.2.1 0)), (6, .int x.1), (7, .int v7)] [] x.2) (fun x o1 hm hk1 => ?_) hlp166 ?_
    · obtain ⟨v6, v8, S⟩ := x
      replace hm : m_L_needed_L166 v1 v2 v3 v4 v5 v7 v6 v8 S = some o1 := hm
      show J p l e rmL_needed s m args below meth c g A 9 (MQ below (QC g A (some (.int r)) S') args s 0 0 A) 0 0 166 [(0, .ref (g.2.1 0)), (1, .int v1), (2, .int v2), (3, .int v3), (4, .int v4), (5, .int v5), (6, .int v6), (7, .int v7), (8, .int v8)] [] S
      unfold m_L_needed_L166 at hm
      have hj220 : ∀ (v8 : Int32) (w0 : Int32) (S : Hs), m_L_needed_J220 v1 v2 v3 v4 v5 v7 v8 w0 S = some o1 → J p l e rmL_needed s m args below meth c g A 9 (MQ below (QC g A (some (.int r)) S') args s 0 0 A) 0 0 220 [(0, .ref (g.2.1 0)), (1, .int v1), (2, .int v2), (3, .int v3), (4, .int v4), (5, .int v5), (7, .int v7), (8, .int v8)] [.int w0] S := by
        intro v8 w0 S hm
        unfold m_L_needed_J220 at hm
        refine j_istore F (lv' := [(6, .int w0), (0, .ref (g.2.1 0)), (1, .int v1), (2, .int v2), (3, .int v3), (4, .int v4), (5, .int v5), (7, .int v7), (8, .int v8)]) dL_needed_220 (by decide) rfl ?_
        refine j_iinc F (v := v8 + 1) (lv' := [(8, .int (v8 + 1)), (6, .int w0), (0, .ref (g.2.1 0)), (1, .int v1), (2, .int v2), (3, .int v3), (4, .int v4), (5, .int v5), (7, .int v7)]) 8 dL_needed_222 rfl rfl (by decide) rfl ?_
        refine j_goto F (tgt := 166) dL_needed_225 (by decide) ?_
        cases hm
        refine j_sub [2, 3, 4, 5, 6, 7, 1, 8, 0] rfl ?_
        exact hk1
      have hj215 : ∀ (v8 : Int32) (S : Hs), m_L_needed_J215 v1 v2 v3 v4 v5 v7 v8 S = some o1 → J p l e rmL_needed s m args below meth c g A 9 (MQ below (QC g A (some (.int r)) S') args s 0 0 A) 0 0 215 [(0, .ref (g.2.1 0)), (1, .int v1), (2, .int v2), (3, .int v3), (4, .int v4), (5, .int v5), (7, .int v7), (8, .int v8)] [] S := by
        intro v8 S hm
        unfold m_L_needed_J215 at hm
        refine j_iconst F (v := 1) dL_needed_215 (by decide) ?_
        refine j_goto F (tgt := 220) dL_needed_216 (by decide) ?_
        refine j_sub [0, 1, 2, 3, 4, 5, 6, 7] rfl ?_
        exact hj220 v8 1 S  hm
      have hj219 : ∀ (v8 : Int32) (S : Hs), m_L_needed_J219 v1 v2 v3 v4 v5 v7 v8 S = some o1 → J p l e rmL_needed s m args below meth c g A 9 (MQ below (QC g A (some (.int r)) S') args s 0 0 A) 0 0 219 [(0, .ref (g.2.1 0)), (1, .int v1), (2, .int v2), (3, .int v3), (4, .int v4), (5, .int v5), (7, .int v7), (8, .int v8)] [] S := by
        intro v8 S hm
        unfold m_L_needed_J219 at hm
        refine j_iconst F (v := 0) dL_needed_219 (by decide) ?_
        refine j_sub [0, 1, 2, 3, 4, 5, 6, 7] rfl ?_
        exact hj220 v8 0 S  hm
      refine j_iload F 8 dL_needed_166 rfl ?_
      refine j_iload_n F 1 dL_needed_168 rfl ?_
      refine j_icmp_ge F (tgt := 228) dL_needed_169 (by decide) hm (fun _ hm => ?_) (fun _ hm => ?_)
      · cases hm
        refine j_sub [0, 6, 7] rfl ?_
        exact hk1
      · refine j_iload F 6 dL_needed_172 rfl ?_
        refine j_if_eq F (tgt := 228) dL_needed_174 (by decide) hm (fun _ hm => ?_) (fun _ hm => ?_)
        · cases hm
          refine j_sub [0, 6, 7] rfl ?_
          exact hk1
        · refine j_iload F 5 dL_needed_177 rfl ?_
          refine j_iload F 8 dL_needed_179 rfl ?_
          refine j_ishr F dL_needed_181 ?_
          refine j_iconst F (v := 1) dL_needed_182 (by decide) ?_
          refine j_iand F dL_needed_183 ?_
          refine j_if_eq F (tgt := 215) dL_needed_184 (by decide) hm (fun _ hm => ?_) (fun _ hm => ?_)
          · refine j_sub [0, 1, 2, 3, 4, 5, 7, 8] rfl ?_
            exact hj215 v8 S  hm
          · refine j_aload_n F 0 dL_needed_187 rfl ?_
            refine j_iload F 8 dL_needed_188 rfl ?_
            refine j_iconst F (v := 0) dL_needed_190 (by decide) ?_
            refine bndX_ok hm (fun r191 S191 hc191 hm => ?_) (fun q S191 hc191 hm => ?_)
            · refine j_callV F (n := 2) (As := [.int v8, .int 0]) (rest := []) (c_X5_wake l g hg v8 0 S r191 S191 hc191) gw_L_29 (by decide +kernel) ⟨Nat.le_of_ble_eq_true rfl, Nat.le_of_ble_eq_true rfl⟩ ⟨Nat.le_of_ble_eq_true rfl, Nat.le_of_ble_eq_true rfl⟩ lay_0 rfl rfl rfl (Nat.le_of_ble_eq_true rfl) dL_needed_191 ?_
              show J p l e rmL_needed s m args below meth c g A 9 (MQ below (QC g A (some (.int r)) S') args s 0 0 A) 0 0 194 [(0, .ref (g.2.1 0)), (1, .int v1), (2, .int v2), (3, .int v3), (4, .int v4), (5, .int v5), (6, .int v6), (7, .int v7), (8, .int v8)] [.int r191] S191
              refine j_if_lt F (tgt := 219) dL_needed_194 (by decide) hm (fun _ hm => ?_) (fun _ hm => ?_)
              · refine j_sub [0, 1, 2, 3, 4, 5, 7, 8] rfl ?_
                exact hj219 v8 S191  hm
              · refine j_aload_n F 0 dL_needed_197 rfl ?_
                refine j_iload_n F 2 dL_needed_198 rfl ?_
                refine j_iload_n F 3 dL_needed_199 rfl ?_
                refine j_iload F 4 dL_needed_200 rfl ?_
                obtain ⟨r202, S202, hc202, hm⟩ := bndE_ok hm
                refine j_callS F (n := 4) (As := [.ref (g.2.1 0), .int v2, .int v3, .int v4]) (rest := []) (c_L_ends l g hg v2 v3 v4 S191 r202 S202 hc202) gw_L_41 (by decide +kernel) ⟨Nat.le_of_ble_eq_true rfl, Nat.le_of_ble_eq_true rfl⟩ ⟨Nat.le_of_ble_eq_true rfl, Nat.le_of_ble_eq_true rfl⟩ rfl rfl (Nat.le_of_ble_eq_true rfl) dL_needed_202 ?_
                show J p l e rmL_needed s m args below meth c g A 9 (MQ below (QC g A (some (.int r)) S') args s 0 0 A) 0 0 205 [(0, .ref (g.2.1 0)), (1, .int v1), (2, .int v2), (3, .int v3), (4, .int v4), (5, .int v5), (6, .int v6), (7, .int v7), (8, .int v8)] [.int r202] S202
                refine j_if_ne F (tgt := 219) dL_needed_205 (by decide) hm (fun _ hm => ?_) (fun _ hm => ?_)
                · refine j_sub [0, 1, 2, 3, 4, 5, 7, 8] rfl ?_
                  exact hj219 v8 S202  hm
                · refine j_aload_n F 0 dL_needed_208 rfl ?_
                  refine bndX_ok hm (fun r209 S209 hc209 hm => ?_) (fun q S209 hc209 hm => ?_)
                  · refine j_callV F (n := 0) (As := []) (rest := []) (c_X5_undo l g hg S202 r209 S209 hc209) gw_L_69 (by decide +kernel) ⟨Nat.le_of_ble_eq_true rfl, Nat.le_of_ble_eq_true rfl⟩ ⟨Nat.le_of_ble_eq_true rfl, Nat.le_of_ble_eq_true rfl⟩ lay_0 rfl rfl rfl (Nat.le_of_ble_eq_true rfl) dL_needed_209 ?_
                    show J p l e rmL_needed s m args below meth c g A 9 (MQ below (QC g A (some (.int r)) S') args s 0 0 A) 0 0 212 [(0, .ref (g.2.1 0)), (1, .int v1), (2, .int v2), (3, .int v3), (4, .int v4), (5, .int v5), (6, .int v6), (7, .int v7), (8, .int v8)] [.int r209] S209
                    refine j_if_lt F (tgt := 219) dL_needed_212 (by decide) hm (fun _ hm => ?_) (fun _ hm => ?_)
                    · refine j_sub [0, 1, 2, 3, 4, 5, 7, 8] rfl ?_
                      exact hj219 v8 S209  hm
                    · refine j_sub [0, 1, 2, 3, 4, 5, 7, 8] rfl ?_
                      exact hj215 v8 S209  hm
                  · cases hm
            · cases hm
    · show J p l e rmL_needed s m args below meth c g A 9 (MQ below (QC g A (some (.int r)) S') args s 0 0 A) 0 0 228 [(0, .ref (g.2.1 0)), (6, .int y166.1), (7, .int v7)] [] y166.2
      refine j_sub [0, 1, 2] rfl ?_
      exact hj228 y166.1 v7 y166.2  hm
  have hj160 : ∀ (v1 : Int32) (v2 : Int32) (v3 : Int32) (v4 : Int32) (v5 : Int32) (v7 : Int32) (S : Hs), m_L_needed_J160 v1 v2 v3 v4 v5 v7 S = some ((r, S')) → J p l e rmL_needed s m args below meth c g A 9 (MQ below (QC g A (some (.int r)) S') args s 0 0 A) 0 0 160 [(0, .ref (g.2.1 0)), (1, .int v1), (2, .int v2), (3, .int v3), (4, .int v4), (5, .int v5), (7, .int v7)] [] S := by
    intro v1 v2 v3 v4 v5 v7 S hm
    unfold m_L_needed_J160 at hm
    refine j_iconst F (v := 0) dL_needed_160 (by decide) ?_
    refine j_sub [0, 1, 2, 3, 4, 5, 6] rfl ?_
    exact hj161 v1 v2 v3 v4 v5 v7 0 S  hm
  have hj140 : ∀ (v1 : Int32) (v2 : Int32) (v3 : Int32) (v4 : Int32) (v5 : Int32) (v6 : Int32) (v7 : Int32) (S : Hs), m_L_needed_J140 v1 v2 v3 v4 v5 v6 v7 S = some ((r, S')) → J p l e rmL_needed s m args below meth c g A 9 (MQ below (QC g A (some (.int r)) S') args s 0 0 A) 0 0 140 [(0, .ref (g.2.1 0)), (1, .int v1), (2, .int v2), (3, .int v3), (4, .int v4), (5, .int v5), (6, .int v6), (7, .int v7)] [] S := by
    intro v1 v2 v3 v4 v5 v6 v7 S hm
    unfold m_L_needed_J140 at hm
    refine j_iload F 6 dL_needed_140 rfl ?_
    refine j_if_eq F (tgt := 160) dL_needed_142 (by decide) hm (fun _ hm => ?_) (fun _ hm => ?_)
    · refine j_sub [0, 1, 2, 3, 4, 5, 7] rfl ?_
      exact hj160 v1 v2 v3 v4 v5 v7 S  hm
    · refine j_aload_n F 0 dL_needed_145 rfl ?_
      refine j_iload_n F 2 dL_needed_146 rfl ?_
      refine j_iload_n F 3 dL_needed_147 rfl ?_
      refine j_iload F 4 dL_needed_148 rfl ?_
      obtain ⟨r150, S150, hc150, hm⟩ := bndE_ok hm
      refine j_callS F (n := 4) (As := [.ref (g.2.1 0), .int v2, .int v3, .int v4]) (rest := []) (c_L_ends l g hg v2 v3 v4 S r150 S150 hc150) gw_L_41 (by decide +kernel) ⟨Nat.le_of_ble_eq_true rfl, Nat.le_of_ble_eq_true rfl⟩ ⟨Nat.le_of_ble_eq_true rfl, Nat.le_of_ble_eq_true rfl⟩ rfl rfl (Nat.le_of_ble_eq_true rfl) dL_needed_150 ?_
      show J p l e rmL_needed s m args below meth c g A 9 (MQ below (QC g A (some (.int r)) S') args s 0 0 A) 0 0 153 [(0, .ref (g.2.1 0)), (1, .int v1), (2, .int v2), (3, .int v3), (4, .int v4), (5, .int v5), (6, .int v6), (7, .int v7)] [.int r150] S150
      refine j_if_eq F (tgt := 160) dL_needed_153 (by decide) hm (fun _ hm => ?_) (fun _ hm => ?_)
      · refine j_sub [0, 1, 2, 3, 4, 5, 7] rfl ?_
        exact hj160 v1 v2 v3 v4 v5 v7 S150  hm
      · refine j_iconst F (v := 1) dL_needed_156 (by decide) ?_
        refine j_goto F (tgt := 161) dL_needed_157 (by decide) ?_
        refine j_sub [0, 1, 2, 3, 4, 5, 7] rfl ?_
        exact hj161 v1 v2 v3 v4 v5 v7 1 S150  hm
  have hj33 : ∀ (w0 : Int32) (S : Hs), m_L_needed_J33 w0 S = some ((r, S')) → J p l e rmL_needed s m args below meth c g A 9 (MQ below (QC g A (some (.int r)) S') args s 0 0 A) 0 0 33 [] [.int w0] S := by
    intro w0 S hm
    unfold m_L_needed_J33 at hm
    obtain ⟨hb, hm⟩ := gd_ok hm
    exact j_zret_e F rfl (z_nar hb) dL_needed_33 hm
  refine j_aload_n F 0 dL_needed_0 rfl ?_
  refine j_iload_n F 2 dL_needed_1 rfl ?_
  refine j_iload_n F 3 dL_needed_2 rfl ?_
  refine j_iload F 4 dL_needed_3 rfl ?_
  refine bndX_ok hm (fun r5 S5 hc5 hm => ?_) (fun q S5 hc5 hm => ?_)
  · refine j_callV F (n := 3) (As := [.int v2, .int v3, .int v4]) (rest := []) (c_X5_needed l g hg v2 v3 v4 S r5 S5 hc5) gw_L_66 (by decide +kernel) ⟨Nat.le_of_ble_eq_true rfl, Nat.le_of_ble_eq_true rfl⟩ ⟨Nat.le_of_ble_eq_true rfl, Nat.le_of_ble_eq_true rfl⟩ lay_0 rfl rfl rfl (Nat.le_of_ble_eq_true rfl) dL_needed_5 ?_
    show J p l e rmL_needed s m args below meth c g A 9 (MQ below (QC g A (some (.int r)) S') args s 0 0 A) 0 0 8 [(0, .ref (g.2.1 0)), (1, .int v1), (2, .int v2), (3, .int v3), (4, .int v4)] [.int r5] S5
    refine j_istore F (lv' := [(5, .int r5), (0, .ref (g.2.1 0)), (1, .int v1), (2, .int v2), (3, .int v3), (4, .int v4)]) dL_needed_8 (by decide) rfl ?_
    refine j_iload F 0 dL_needed_10 rfl ?_
    refine j_bipush F (v := -9) dL_needed_12 (by decide) ?_
    refine j_icmp_ne F (tgt := 34) dL_needed_14 (by decide) hm (fun _ hm => ?_) (fun _ hm => ?_)
    · refine j_aload_n F 1 dL_needed_34 rfl ?_
      refine j_iload_n F 3 dL_needed_35 rfl ?_
      refine j_iload_n F 4 dL_needed_36 rfl ?_
      refine j_iload F 5 dL_needed_37 rfl ?_
      obtain ⟨r39, S39, hc39, hm⟩ := bndE_ok hm
      refine j_callS F (n := 4) (As := [.ref (g.2.1 0), .int v2, .int v3, .int v4]) (rest := []) (c_L_ends l g hg v2 v3 v4 S5 r39 S39 hc39) gw_L_41 (by decide +kernel) ⟨Nat.le_of_ble_eq_true rfl, Nat.le_of_ble_eq_true rfl⟩ ⟨Nat.le_of_ble_eq_true rfl, Nat.le_of_ble_eq_true rfl⟩ rfl rfl (Nat.le_of_ble_eq_true rfl) dL_needed_39 ?_
      show J p l e rmL_needed s m args below meth c g A 9 (MQ below (QC g A (some (.int r)) S') args s 0 0 A) 0 0 42 [(5, .int r5), (0, .ref (g.2.1 0)), (1, .int v1), (2, .int v2), (3, .int v3), (4, .int v4)] [.int r39] S39
      refine j_istore F (lv' := [(6, .int r39), (5, .int r5), (0, .ref (g.2.1 0)), (1, .int v1), (2, .int v2), (3, .int v3), (4, .int v4)]) dL_needed_42 (by decide) rfl ?_
      refine j_iconst F (v := 0) dL_needed_44 (by decide) ?_
      refine j_istore F (lv' := [(7, .int 0), (6, .int r39), (5, .int r5), (0, .ref (g.2.1 0)), (1, .int v1), (2, .int v2), (3, .int v3), (4, .int v4)]) dL_needed_45 (by decide) rfl ?_
      refine j_iconst F (v := 0) dL_needed_47 (by decide) ?_
      refine j_istore F (lv' := [(8, .int 0), (7, .int 0), (6, .int r39), (5, .int r5), (0, .ref (g.2.1 0)), (1, .int v1), (2, .int v2), (3, .int v3), (4, .int v4)]) dL_needed_48 (by decide) rfl ?_
      refine j_sub [4, 5, 6, 7, 8, 3, 2, 1, 0] rfl ?_
      obtain ⟨y50, hlp50, hm⟩ := Option.bind_eq_some_iff.mp hm
      refine loopO_walk (fun x => m_L_needed_L50 v1 v2 v3 v4 r5 x.1 x.2.1 x.2.2.1 x.2.2.2) (fun x => J p l e rmL_needed s m args below meth c g A 9 (MQ below (QC g A (some (.int r)) S') args s 0 0 A) 0 0 50 [(0, .ref (g.2.1 0)), (1, .int v1), (2, .int v2), (3, .int v3), (4, .int v4), (5, .int r5), (6, .int x.1), (7, .int x.2.1), (8, .int x.2.2.1)] [] x.2.2.2) (fun x => J p l e rmL_needed s m args below meth c g A 9 (MQ below (QC g A (some (.int r)) S') args s 0 0 A) 0 0 140 [(0, .ref (g.2.1 0)), (1, .int v1), (2, .int v2), (3, .int v3), (4, .int v4), (5, .int r5), (6, .int x.1), (7, .int x.2.1)] [] x.2.2) (fun x o1 hm hk1 => ?_) hlp50 ?_
      · obtain ⟨v6, v7, v8, S⟩ := x
        replace hm : m_L_needed_L50 v1 v2 v3 v4 r5 v6 v7 v8 S = some o1 := hm
        show J p l e rmL_needed s m args below meth c g A 9 (MQ below (QC g A (some (.int r)) S') args s 0 0 A) 0 0 50 [(0, .ref (g.2.1 0)), (1, .int v1), (2, .int v2), (3, .int v3), (4, .int v4), (5, .int r5), (6, .int v6), (7, .int v7), (8, .int v8)] [] S
        unfold m_L_needed_L50 at hm
        have hj134 : ∀ (v6 : Int32) (v7 : Int32) (v8 : Int32) (S : Hs), m_L_needed_J134 v1 v2 v3 v4 r5 v6 v7 v8 S = some o1 → J p l e rmL_needed s m args below meth c g A 9 (MQ below (QC g A (some (.int r)) S') args s 0 0 A) 0 0 134 [(0, .ref (g.2.1 0)), (1, .int v1), (2, .int v2), (3, .int v3), (4, .int v4), (5, .int r5), (6, .int v6), (7, .int v7), (8, .int v8)] [] S := by
          intro v6 v7 v8 S hm
          unfold m_L_needed_J134 at hm
          refine j_iinc F (v := v8 + 1) (lv' := [(8, .int (v8 + 1)), (0, .ref (g.2.1 0)), (1, .int v1), (2, .int v2), (3, .int v3), (4, .int v4), (5, .int r5), (6, .int v6), (7, .int v7)]) 8 dL_needed_134 rfl rfl (by decide) rfl ?_
          refine j_goto F (tgt := 50) dL_needed_137 (by decide) ?_
          cases hm
          refine j_sub [1, 2, 3, 4, 5, 6, 7, 8, 0] rfl ?_
          exact hk1
        have hj132 : ∀ (v7 : Int32) (v8 : Int32) (w0 : Int32) (S : Hs), m_L_needed_J132 v1 v2 v3 v4 r5 v7 v8 w0 S = some o1 → J p l e rmL_needed s m args below meth c g A 9 (MQ below (QC g A (some (.int r)) S') args s 0 0 A) 0 0 132 [(0, .ref (g.2.1 0)), (1, .int v1), (2, .int v2), (3, .int v3), (4, .int v4), (5, .int r5), (7, .int v7), (8, .int v8)] [.int w0] S := by
          intro v7 v8 w0 S hm
          unfold m_L_needed_J132 at hm
          refine j_istore F (lv' := [(6, .int w0), (0, .ref (g.2.1 0)), (1, .int v1), (2, .int v2), (3, .int v3), (4, .int v4), (5, .int r5), (7, .int v7), (8, .int v8)]) dL_needed_132 (by decide) rfl ?_
          refine j_sub [1, 2, 3, 4, 5, 6, 0, 7, 8] rfl ?_
          exact hj134 w0 v7 v8 S  hm
        have hj105 : ∀ (v6 : Int32) (v7 : Int32) (v8 : Int32) (S : Hs), m_L_needed_J105 v1 v2 v3 v4 r5 v6 v7 v8 S = some o1 → J p l e rmL_needed s m args below meth c g A 9 (MQ below (QC g A (some (.int r)) S') args s 0 0 A) 0 0 105 [(0, .ref (g.2.1 0)), (1, .int v1), (2, .int v2), (3, .int v3), (4, .int v4), (5, .int r5), (6, .int v6), (7, .int v7), (8, .int v8)] [] S := by
          intro v6 v7 v8 S hm
          unfold m_L_needed_J105 at hm
          refine j_iload F 5 dL_needed_105 rfl ?_
          refine j_iload F 8 dL_needed_107 rfl ?_
          refine j_ishr F dL_needed_109 ?_
          refine j_iconst F (v := 1) dL_needed_110 (by decide) ?_
          refine j_iand F dL_needed_111 ?_
          refine j_iconst F (v := 1) dL_needed_112 (by decide) ?_
          refine j_icmp_ne F (tgt := 134) dL_needed_113 (by decide) hm (fun _ hm => ?_) (fun _ hm => ?_)
          · refine j_sub [0, 1, 2, 3, 4, 5, 6, 7, 8] rfl ?_
            exact hj134 v6 v7 v8 S  hm
          · refine j_aload_n F 0 dL_needed_116 rfl ?_
            refine j_iload F 8 dL_needed_117 rfl ?_
            refine j_iconst F (v := 1) dL_needed_119 (by decide) ?_
            refine bndX_ok hm (fun r120 S120 hc120 hm => ?_) (fun q S120 hc120 hm => ?_)
            · refine j_callV F (n := 2) (As := [.int v8, .int 1]) (rest := []) (c_X5_thing l g hg v8 1 S r120 S120 hc120) gw_L_26 (by decide +kernel) ⟨Nat.le_of_ble_eq_true rfl, Nat.le_of_ble_eq_true rfl⟩ ⟨Nat.le_of_ble_eq_true rfl, Nat.le_of_ble_eq_true rfl⟩ lay_0 rfl rfl rfl (Nat.le_of_ble_eq_true rfl) dL_needed_120 ?_
              show J p l e rmL_needed s m args below meth c g A 9 (MQ below (QC g A (some (.int r)) S') args s 0 0 A) 0 0 123 [(0, .ref (g.2.1 0)), (1, .int v1), (2, .int v2), (3, .int v3), (4, .int v4), (5, .int r5), (6, .int v6), (7, .int v7), (8, .int v8)] [.int r120] S120
              refine j_iconst F (v := 1) dL_needed_123 (by decide) ?_
              refine j_icmp_ne F (tgt := 131) dL_needed_124 (by decide) hm (fun _ hm => ?_) (fun _ hm => ?_)
              · refine j_iconst F (v := 0) dL_needed_131 (by decide) ?_
                refine j_sub [0, 1, 2, 3, 4, 5, 7, 8] rfl ?_
                exact hj132 v7 v8 0 S120  hm
              · refine j_iconst F (v := 1) dL_needed_127 (by decide) ?_
                refine j_goto F (tgt := 132) dL_needed_128 (by decide) ?_
                refine j_sub [0, 1, 2, 3, 4, 5, 7, 8] rfl ?_
                exact hj132 v7 v8 1 S120  hm
            · cases hm
        have hj97 : ∀ (v7 : Int32) (v8 : Int32) (w0 : Int32) (S : Hs), m_L_needed_J97 v1 v2 v3 v4 r5 v7 v8 w0 S = some o1 → J p l e rmL_needed s m args below meth c g A 9 (MQ below (QC g A (some (.int r)) S') args s 0 0 A) 0 0 97 [(0, .ref (g.2.1 0)), (1, .int v1), (2, .int v2), (3, .int v3), (4, .int v4), (5, .int r5), (7, .int v7), (8, .int v8)] [.int w0] S := by
          intro v7 v8 w0 S hm
          unfold m_L_needed_J97 at hm
          refine j_istore F (lv' := [(6, .int w0), (0, .ref (g.2.1 0)), (1, .int v1), (2, .int v2), (3, .int v3), (4, .int v4), (5, .int r5), (7, .int v7), (8, .int v8)]) dL_needed_97 (by decide) rfl ?_
          refine j_iinc F (v := v7 + 1) (lv' := [(7, .int (v7 + 1)), (6, .int w0), (0, .ref (g.2.1 0)), (1, .int v1), (2, .int v2), (3, .int v3), (4, .int v4), (5, .int r5), (8, .int v8)]) 7 dL_needed_99 rfl rfl (by decide) rfl ?_
          refine j_goto F (tgt := 134) dL_needed_102 (by decide) ?_
          refine j_sub [2, 3, 4, 5, 6, 7, 1, 0, 8] rfl ?_
          exact hj134 w0 (v7 + 1) v8 S  hm
        refine j_iload F 8 dL_needed_50 rfl ?_
        refine j_iload_n F 1 dL_needed_52 rfl ?_
        refine j_icmp_ge F (tgt := 140) dL_needed_53 (by decide) hm (fun _ hm => ?_) (fun _ hm => ?_)
        · cases hm
          refine j_sub [0, 1, 2, 3, 4, 5, 6, 7] rfl ?_
          exact hk1
        · refine j_iload F 6 dL_needed_56 rfl ?_
          refine j_if_eq F (tgt := 140) dL_needed_58 (by decide) hm (fun _ hm => ?_) (fun _ hm => ?_)
          · cases hm
            refine j_sub [0, 1, 2, 3, 4, 5, 6, 7] rfl ?_
            exact hk1
          · refine j_aload_n F 0 dL_needed_61 rfl ?_
            refine j_iload F 8 dL_needed_62 rfl ?_
            refine j_iconst F (v := 1) dL_needed_64 (by decide) ?_
            refine bndX_ok hm (fun r65 S65 hc65 hm => ?_) (fun q S65 hc65 hm => ?_)
            · refine j_callV F (n := 2) (As := [.int v8, .int 1]) (rest := []) (c_X5_thing l g hg v8 1 S r65 S65 hc65) gw_L_26 (by decide +kernel) ⟨Nat.le_of_ble_eq_true rfl, Nat.le_of_ble_eq_true rfl⟩ ⟨Nat.le_of_ble_eq_true rfl, Nat.le_of_ble_eq_true rfl⟩ lay_0 rfl rfl rfl (Nat.le_of_ble_eq_true rfl) dL_needed_65 ?_
              show J p l e rmL_needed s m args below meth c g A 9 (MQ below (QC g A (some (.int r)) S') args s 0 0 A) 0 0 68 [(0, .ref (g.2.1 0)), (1, .int v1), (2, .int v2), (3, .int v3), (4, .int v4), (5, .int r5), (6, .int v6), (7, .int v7), (8, .int v8)] [.int r65] S65
              refine j_iconst F (v := 1) dL_needed_68 (by decide) ?_
              refine j_icmp_ne F (tgt := 105) dL_needed_69 (by decide) hm (fun _ hm => ?_) (fun _ hm => ?_)
              · refine j_sub [0, 1, 2, 3, 4, 5, 6, 7, 8] rfl ?_
                exact hj105 v6 v7 v8 S65  hm
              · refine j_iload F 5 dL_needed_72 rfl ?_
                refine j_iload F 8 dL_needed_74 rfl ?_
                refine j_ishr F dL_needed_76 ?_
                refine j_iconst F (v := 1) dL_needed_77 (by decide) ?_
                refine j_iand F dL_needed_78 ?_
                refine j_if_ne F (tgt := 105) dL_needed_79 (by decide) hm (fun _ hm => ?_) (fun _ hm => ?_)
                · refine j_sub [0, 1, 2, 3, 4, 5, 6, 7, 8] rfl ?_
                  exact hj105 v6 v7 v8 S65  hm
                · refine j_aload_n F 0 dL_needed_82 rfl ?_
                  refine j_iload F 8 dL_needed_83 rfl ?_
                  refine j_iconst F (v := 0) dL_needed_85 (by decide) ?_
                  refine bndX_ok hm (fun r86 S86 hc86 hm => ?_) (fun q S86 hc86 hm => ?_)
                  · refine j_callV F (n := 2) (As := [.int v8, .int 0]) (rest := []) (c_X5_wake l g hg v8 0 S65 r86 S86 hc86) gw_L_29 (by decide +kernel) ⟨Nat.le_of_ble_eq_true rfl, Nat.le_of_ble_eq_true rfl⟩ ⟨Nat.le_of_ble_eq_true rfl, Nat.le_of_ble_eq_true rfl⟩ lay_0 rfl rfl rfl (Nat.le_of_ble_eq_true rfl) dL_needed_86 ?_
                    show J p l e rmL_needed s m args below meth c g A 9 (MQ below (QC g A (some (.int r)) S') args s 0 0 A) 0 0 89 [(0, .ref (g.2.1 0)), (1, .int v1), (2, .int v2), (3, .int v3), (4, .int v4), (5, .int r5), (6, .int v6), (7, .int v7), (8, .int v8)] [.int r86] S86
                    refine j_if_lt F (tgt := 96) dL_needed_89 (by decide) hm (fun _ hm => ?_) (fun _ hm => ?_)
                    · refine j_iconst F (v := 0) dL_needed_96 (by decide) ?_
                      refine j_sub [0, 1, 2, 3, 4, 5, 7, 8] rfl ?_
                      exact hj97 v7 v8 0 S86  hm
                    · refine j_iconst F (v := 1) dL_needed_92 (by decide) ?_
                      refine j_goto F (tgt := 97) dL_needed_93 (by decide) ?_
                      refine j_sub [0, 1, 2, 3, 4, 5, 7, 8] rfl ?_
                      exact hj97 v7 v8 1 S86  hm
                  · cases hm
            · cases hm
      · show J p l e rmL_needed s m args below meth c g A 9 (MQ below (QC g A (some (.int r)) S') args s 0 0 A) 0 0 140 [(0, .ref (g.2.1 0)), (1, .int v1), (2, .int v2), (3, .int v3), (4, .int v4), (5, .int r5), (6, .int y50.1), (7, .int y50.2.1)] [] y50.2.2
        refine j_sub [0, 1, 2, 3, 4, 5, 6, 7] rfl ?_
        exact hj140 v1 v2 v3 v4 r5 y50.1 y50.2.1 y50.2.2  hm
    · refine j_aload_n F 1 dL_needed_17 rfl ?_
      refine j_iload_n F 3 dL_needed_18 rfl ?_
      refine j_iload_n F 4 dL_needed_19 rfl ?_
      refine j_iload F 5 dL_needed_20 rfl ?_
      obtain ⟨r22, S22, hc22, hm⟩ := bndE_ok hm
      refine j_callS F (n := 4) (As := [.ref (g.2.1 0), .int v2, .int v3, .int v4]) (rest := []) (c_L_ends l g hg v2 v3 v4 S5 r22 S22 hc22) gw_L_41 (by decide +kernel) ⟨Nat.le_of_ble_eq_true rfl, Nat.le_of_ble_eq_true rfl⟩ ⟨Nat.le_of_ble_eq_true rfl, Nat.le_of_ble_eq_true rfl⟩ rfl rfl (Nat.le_of_ble_eq_true rfl) dL_needed_22 ?_
      show J p l e rmL_needed s m args below meth c g A 9 (MQ below (QC g A (some (.int r)) S') args s 0 0 A) 0 0 25 [(5, .int r5), (0, .ref (g.2.1 0)), (1, .int v1), (2, .int v2), (3, .int v3), (4, .int v4)] [.int r22] S22
      refine j_if_ne F (tgt := 32) dL_needed_25 (by decide) hm (fun _ hm => ?_) (fun _ hm => ?_)
      · refine j_iconst F (v := 0) dL_needed_32 (by decide) ?_
        refine j_sub [] rfl ?_
        exact hj33 0 S22  hm
      · refine j_iconst F (v := 1) dL_needed_28 (by decide) ?_
        refine j_goto F (tgt := 33) dL_needed_29 (by decide) ?_
        refine j_sub [] rfl ?_
        exact hj33 1 S22  hm
  · cases hm
def m_L_cut_J88 (w0 : Int32) (S : Hs) : Option (Int32 × Hs) := gd (decide (w0 = 0 ∨ w0 = 1)) (some ((w0, S)))
def m_L_cut_J87 (S : Hs) : Option (Int32 × Hs) := m_L_cut_J88 0 S
def m_L_cut_J66 (v5 : Int32) (v6 : Int32) (w0 : Int32) (w1 : Int32) (S : Hs) : Option (Int32 × Hs) := if w1 = w0 then (if v5 = ((-9)) then (if v6 = ((-9)) then (m_L_cut_J88 1 S) else (m_L_cut_J87 S)) else (m_L_cut_J87 S)) else (m_L_cut_J87 S)
noncomputable def m_L_cut_J51 (v1 : Int32) (v2 : Int32) (v3 : Int32) (v5 : Int32) (v6 : Int32) (w0 : Int32) (S : Hs) : Option (Int32 × Hs) := bndE (m_L_ends v1 v2 v3 S) fun r55 S55 => (if r55 = 0 then (m_L_cut_J66 v5 v6 1 w0 S55) else (m_L_cut_J66 v5 v6 0 w0 S55))
noncomputable def m_L_cut_J41 (v1 : Int32) (v2 : Int32) (v3 : Int32) (v4 : Int32) (v5 : Int32) (v6 : Int32) (S : Hs) : Option (Int32 × Hs) := if v4 = 0 then (m_L_cut_J51 v1 v2 v3 v5 v6 1 S) else (m_L_cut_J51 v1 v2 v3 v5 v6 0 S)
def m_L_cut_J133 (S : Hs) : Option (Int32 × Hs) := some ((0, S))
def m_L_cut_J277 (w0 : Int32) (S : Hs) : Option (Int32 × Hs) := gd (decide (w0 = 0 ∨ w0 = 1)) (some ((w0, S)))
def m_L_cut_J276 (S : Hs) : Option (Int32 × Hs) := m_L_cut_J277 0 S
noncomputable def m_L_cut_J250 (v1 : Int32) (v2 : Int32) (v3 : Int32) (v7 : Int32) (S : Hs) : Option (Int32 × Hs) := if v7 = 0 then (m_L_cut_J276 S) else (bndX (m_X5_undo  S) (fun r256 S256 => (if r256 < 0 then (m_L_cut_J276 S256) else (bndE (m_L_ends v1 v2 v3 S256) fun r266 S266 => (if r266 = 0 then (m_L_cut_J276 S266) else (m_L_cut_J277 1 S266))))) (fun q S256 => none))
noncomputable def m_L_cut_J248 (v1 : Int32) (v2 : Int32) (v3 : Int32) (w0 : Int32) (S : Hs) : Option (Int32 × Hs) := m_L_cut_J250 v1 v2 v3 w0 S
noncomputable def m_L_cut_J247 (v1 : Int32) (v2 : Int32) (v3 : Int32) (S : Hs) : Option (Int32 × Hs) := m_L_cut_J248 v1 v2 v3 0 S
noncomputable def m_L_cut_J187 (v1 : Int32) (v2 : Int32) (v3 : Int32) (v4 : Int32) (v6 : Int32) (w0 : Int32) (S : Hs) : Option (Int32 × Hs) := if w0 = 0 then (m_L_cut_J250 v1 v2 v3 w0 S) else (if v4 = 2 then (bndX (m_X5_set (v6 / 100) (irm (v6 / 10) 10) (irm v6 10) 0 S) (fun r220 S220 => (if r220 = 0 then (m_L_cut_J247 v1 v2 v3 S220) else (bndE (m_L_ends v1 v2 v3 S220) fun r230 S230 => (if r230 = 0 then (bndX (m_X5_undo  S230) (fun r237 S237 => (if r237 < 0 then (m_L_cut_J247 v1 v2 v3 S237) else (m_L_cut_J248 v1 v2 v3 1 S237))) (fun q S237 => none)) else (m_L_cut_J247 v1 v2 v3 S230))))) (fun q S220 => none)) else (m_L_cut_J250 v1 v2 v3 w0 S))
noncomputable def m_L_cut_J186 (v1 : Int32) (v2 : Int32) (v3 : Int32) (v4 : Int32) (v6 : Int32) (S : Hs) : Option (Int32 × Hs) := m_L_cut_J187 v1 v2 v3 v4 v6 0 S
noncomputable def m_L_cut_J179 (v1 : Int32) (v2 : Int32) (v3 : Int32) (v4 : Int32) (v6 : Int32) (w0 : Int32) (w1 : Int32) (S : Hs) : Option (Int32 × Hs) := if w1 = w0 then (m_L_cut_J187 v1 v2 v3 v4 v6 1 S) else (m_L_cut_J186 v1 v2 v3 v4 v6 S)
noncomputable def m_L_cut_J135 (v1 : Int32) (v2 : Int32) (v3 : Int32) (v4 : Int32) (v5 : Int32) (v6 : Int32) (S : Hs) : Option (Int32 × Hs) := bndX (m_X5_set (v5 / 100) (irm (v5 / 10) 10) (irm v5 10) 0 S) (fun r155 S155 => (if r155 = 0 then (m_L_cut_J186 v1 v2 v3 v4 v6 S155) else (bndE (m_L_ends v1 v2 v3 S155) fun r165 S165 => (if v4 = 2 then (m_L_cut_J179 v1 v2 v3 v4 v6 1 r165 S165) else (m_L_cut_J179 v1 v2 v3 v4 v6 0 r165 S165))))) (fun q S155 => none)
noncomputable def m_L_cut_J112 (v1 : Int32) (v2 : Int32) (v3 : Int32) (v4 : Int32) (v5 : Int32) (v6 : Int32) (w0 : Int32) (w1 : Int32) (S : Hs) : Option (Int32 × Hs) := if w1 = w0 then (if v5 < 0 then (m_L_cut_J133 S) else (if v4 = 2 then (if v5 < v6 then (m_L_cut_J135 v1 v2 v3 v4 v5 v6 S) else (m_L_cut_J133 S)) else (m_L_cut_J135 v1 v2 v3 v4 v5 v6 S))) else (m_L_cut_J133 S)
noncomputable def m_L_cut_J100 (v1 : Int32) (v2 : Int32) (v3 : Int32) (v4 : Int32) (v5 : Int32) (v6 : Int32) (w0 : Int32) (S : Hs) : Option (Int32 × Hs) := if v6 = ((-9)) then (m_L_cut_J112 v1 v2 v3 v4 v5 v6 1 w0 S) else (m_L_cut_J112 v1 v2 v3 v4 v5 v6 0 w0 S)
noncomputable def m_L_cut (v1 : Int32) (v2 : Int32) (v3 : Int32) (S : Hs) : Option (Int32 × Hs) := bndX (m_X5_cut v1 v2 v3 S) (fun r4 S4 => (bndX (m_X5_cutAt v1 v2 v3 0 S4) (fun r14 S14 => (bndX (m_X5_cutAt v1 v2 v3 1 S14) (fun r24 S24 => (if r4 = ((-9)) then (m_L_cut_J41 v1 v2 v3 r4 r14 r24 S24) else (if r4 = 0 then (m_L_cut_J41 v1 v2 v3 r4 r14 r24 S24) else (if r4 = 1 then (m_L_cut_J100 v1 v2 v3 r4 r14 r24 1 S24) else (m_L_cut_J100 v1 v2 v3 r4 r14 r24 0 S24))))) (fun q S24 => none))) (fun q S14 => none))) (fun q S4 => none)
set_option maxRecDepth 100000 in
set_option maxHeartbeats 4000000 in
theorem c_L_cut (l : Launch) (g : GG) (hg : Inj g) (v1 : Int32) (v2 : Int32) (v3 : Int32)  (S : Hs) (r : Int32) (S' : Hs) (hm : m_L_cut v1 v2 v3 S = some ((r, S'))) : CM l yL_cut [.code yL_cut cL_cut 8 (some .boolean)] rmL_cut [.ref (g.2.1 0), .int v1, .int v2, .int v3] g S (some (.int r)) S' := by
  unfold m_L_cut at hm
  refine CM.of (cc := cL_cut) (nL := 8) (ret := (some .boolean)) (lv := [(0, .ref (g.2.1 0)), (1, .int v1), (2, .int v2), (3, .int v3)]) (by decide +kernel) hg (Nat.le_of_ble_eq_true rfl) rfl (fun p e s m args below meth c A F => ?_)
  replace F : Fx p s m meth c cL_cut RL 8 (some .boolean) g A := F
  show J p l e rmL_cut s m args below meth c g A 8 (MQ below (QC g A (some (.int r)) S') args s 0 0 A) 0 0 0 [(0, .ref (g.2.1 0)), (1, .int v1), (2, .int v2), (3, .int v3)] [] S
  have hj88 : ∀ (w0 : Int32) (S : Hs), m_L_cut_J88 w0 S = some ((r, S')) → J p l e rmL_cut s m args below meth c g A 8 (MQ below (QC g A (some (.int r)) S') args s 0 0 A) 0 0 88 [] [.int w0] S := by
    intro w0 S hm
    unfold m_L_cut_J88 at hm
    obtain ⟨hb, hm⟩ := gd_ok hm
    exact j_zret_e F rfl (z_nar hb) dL_cut_88 hm
  have hj87 : ∀ (S : Hs), m_L_cut_J87 S = some ((r, S')) → J p l e rmL_cut s m args below meth c g A 8 (MQ below (QC g A (some (.int r)) S') args s 0 0 A) 0 0 87 [] [] S := by
    intro S hm
    unfold m_L_cut_J87 at hm
    refine j_iconst F (v := 0) dL_cut_87 (by decide) ?_
    refine j_sub [] rfl ?_
    exact hj88 0 S  hm
  have hj66 : ∀ (v5 : Int32) (v6 : Int32) (w0 : Int32) (w1 : Int32) (S : Hs), m_L_cut_J66 v5 v6 w0 w1 S = some ((r, S')) → J p l e rmL_cut s m args below meth c g A 8 (MQ below (QC g A (some (.int r)) S') args s 0 0 A) 0 0 66 [(5, .int v5), (6, .int v6)] [.int w0, .int w1] S := by
    intro v5 v6 w0 w1 S hm
    unfold m_L_cut_J66 at hm
    refine j_icmp_ne F (tgt := 87) dL_cut_66 (by decide) hm (fun _ hm => ?_) (fun _ hm => ?_)
    · refine j_sub [] rfl ?_
      exact hj87 S  hm
    · refine j_iload F 0 dL_cut_69 rfl ?_
      refine j_bipush F (v := -9) dL_cut_71 (by decide) ?_
      refine j_icmp_ne F (tgt := 87) dL_cut_73 (by decide) hm (fun _ hm => ?_) (fun _ hm => ?_)
      · refine j_sub [] rfl ?_
        exact hj87 S  hm
      · refine j_iload F 1 dL_cut_76 rfl ?_
        refine j_bipush F (v := -9) dL_cut_78 (by decide) ?_
        refine j_icmp_ne F (tgt := 87) dL_cut_80 (by decide) hm (fun _ hm => ?_) (fun _ hm => ?_)
        · refine j_sub [] rfl ?_
          exact hj87 S  hm
        · refine j_iconst F (v := 1) dL_cut_83 (by decide) ?_
          refine j_goto F (tgt := 88) dL_cut_84 (by decide) ?_
          refine j_sub [] rfl ?_
          exact hj88 1 S  hm
  have hj51 : ∀ (v1 : Int32) (v2 : Int32) (v3 : Int32) (v5 : Int32) (v6 : Int32) (w0 : Int32) (S : Hs), m_L_cut_J51 v1 v2 v3 v5 v6 w0 S = some ((r, S')) → J p l e rmL_cut s m args below meth c g A 8 (MQ below (QC g A (some (.int r)) S') args s 0 0 A) 0 0 51 [(0, .ref (g.2.1 0)), (1, .int v1), (2, .int v2), (3, .int v3), (5, .int v5), (6, .int v6)] [.int w0] S := by
    intro v1 v2 v3 v5 v6 w0 S hm
    unfold m_L_cut_J51 at hm
    refine j_aload_n F 0 dL_cut_51 rfl ?_
    refine j_iload_n F 1 dL_cut_52 rfl ?_
    refine j_iload_n F 2 dL_cut_53 rfl ?_
    refine j_iload_n F 3 dL_cut_54 rfl ?_
    obtain ⟨r55, S55, hc55, hm⟩ := bndE_ok hm
    refine j_callS F (n := 4) (As := [.ref (g.2.1 0), .int v1, .int v2, .int v3]) (rest := [.int w0]) (c_L_ends l g hg v1 v2 v3 S r55 S55 hc55) gw_L_41 (by decide +kernel) ⟨Nat.le_of_ble_eq_true rfl, Nat.le_of_ble_eq_true rfl⟩ ⟨Nat.le_of_ble_eq_true rfl, Nat.le_of_ble_eq_true rfl⟩ rfl rfl (Nat.le_of_ble_eq_true rfl) dL_cut_55 ?_
    show J p l e rmL_cut s m args below meth c g A 8 (MQ below (QC g A (some (.int r)) S') args s 0 0 A) 0 0 58 [(0, .ref (g.2.1 0)), (1, .int v1), (2, .int v2), (3, .int v3), (5, .int v5), (6, .int v6)] [.int r55, .int w0] S55
    refine j_if_ne F (tgt := 65) dL_cut_58 (by decide) hm (fun _ hm => ?_) (fun _ hm => ?_)
    · refine j_iconst F (v := 0) dL_cut_65 (by decide) ?_
      refine j_sub [4, 5] rfl ?_
      exact hj66 v5 v6 0 w0 S55  hm
    · refine j_iconst F (v := 1) dL_cut_61 (by decide) ?_
      refine j_goto F (tgt := 66) dL_cut_62 (by decide) ?_
      refine j_sub [4, 5] rfl ?_
      exact hj66 v5 v6 1 w0 S55  hm
  have hj41 : ∀ (v1 : Int32) (v2 : Int32) (v3 : Int32) (v4 : Int32) (v5 : Int32) (v6 : Int32) (S : Hs), m_L_cut_J41 v1 v2 v3 v4 v5 v6 S = some ((r, S')) → J p l e rmL_cut s m args below meth c g A 8 (MQ below (QC g A (some (.int r)) S') args s 0 0 A) 0 0 41 [(0, .ref (g.2.1 0)), (1, .int v1), (2, .int v2), (3, .int v3), (4, .int v4), (5, .int v5), (6, .int v6)] [] S := by
    intro v1 v2 v3 v4 v5 v6 S hm
    unfold m_L_cut_J41 at hm
    refine j_iload F 4 dL_cut_41 rfl ?_
    refine j_if_ne F (tgt := 50) dL_cut_43 (by decide) hm (fun _ hm => ?_) (fun _ hm => ?_)
    · refine j_iconst F (v := 0) dL_cut_50 (by decide) ?_
      refine j_sub [0, 1, 2, 3, 5, 6] rfl ?_
      exact hj51 v1 v2 v3 v5 v6 0 S  hm
    · refine j_iconst F (v := 1) dL_cut_46 (by decide) ?_
      refine j_goto F (tgt := 51) dL_cut_47 (by decide) ?_
      refine j_sub [0, 1, 2, 3, 5, 6] rfl ?_
      exact hj51 v1 v2 v3 v5 v6 1 S  hm
  have hj133 : ∀ (S : Hs), m_L_cut_J133 S = some ((r, S')) → J p l e rmL_cut s m args below meth c g A 8 (MQ below (QC g A (some (.int r)) S') args s 0 0 A) 0 0 133 [] [] S := by
    intro S hm
    unfold m_L_cut_J133 at hm
    refine j_iconst F (v := 0) dL_cut_133 (by decide) ?_
    exact j_zret_e F rfl rfl dL_cut_134 hm
  have hj277 : ∀ (w0 : Int32) (S : Hs), m_L_cut_J277 w0 S = some ((r, S')) → J p l e rmL_cut s m args below meth c g A 8 (MQ below (QC g A (some (.int r)) S') args s 0 0 A) 0 0 277 [] [.int w0] S := by
    intro w0 S hm
    unfold m_L_cut_J277 at hm
    obtain ⟨hb, hm⟩ := gd_ok hm
    exact j_zret_e F rfl (z_nar hb) dL_cut_277 hm
  have hj276 : ∀ (S : Hs), m_L_cut_J276 S = some ((r, S')) → J p l e rmL_cut s m args below meth c g A 8 (MQ below (QC g A (some (.int r)) S') args s 0 0 A) 0 0 276 [] [] S := by
    intro S hm
    unfold m_L_cut_J276 at hm
    refine j_iconst F (v := 0) dL_cut_276 (by decide) ?_
    refine j_sub [] rfl ?_
    exact hj277 0 S  hm
  have hj250 : ∀ (v1 : Int32) (v2 : Int32) (v3 : Int32) (v7 : Int32) (S : Hs), m_L_cut_J250 v1 v2 v3 v7 S = some ((r, S')) → J p l e rmL_cut s m args below meth c g A 8 (MQ below (QC g A (some (.int r)) S') args s 0 0 A) 0 0 250 [(0, .ref (g.2.1 0)), (1, .int v1), (2, .int v2), (3, .int v3), (7, .int v7)] [] S := by
    intro v1 v2 v3 v7 S hm
    unfold m_L_cut_J250 at hm
    refine j_iload F 4 dL_cut_250 rfl ?_
    refine j_if_eq F (tgt := 276) dL_cut_252 (by decide) hm (fun _ hm => ?_) (fun _ hm => ?_)
    · refine j_sub [] rfl ?_
      exact hj276 S  hm
    · refine j_aload_n F 0 dL_cut_255 rfl ?_
      refine bndX_ok hm (fun r256 S256 hc256 hm => ?_) (fun q S256 hc256 hm => ?_)
      · refine j_callV F (n := 0) (As := []) (rest := []) (c_X5_undo l g hg S r256 S256 hc256) gw_L_69 (by decide +kernel) ⟨Nat.le_of_ble_eq_true rfl, Nat.le_of_ble_eq_true rfl⟩ ⟨Nat.le_of_ble_eq_true rfl, Nat.le_of_ble_eq_true rfl⟩ lay_0 rfl rfl rfl (Nat.le_of_ble_eq_true rfl) dL_cut_256 ?_
        show J p l e rmL_cut s m args below meth c g A 8 (MQ below (QC g A (some (.int r)) S') args s 0 0 A) 0 0 259 [(0, .ref (g.2.1 0)), (1, .int v1), (2, .int v2), (3, .int v3), (7, .int v7)] [.int r256] S256
        refine j_if_lt F (tgt := 276) dL_cut_259 (by decide) hm (fun _ hm => ?_) (fun _ hm => ?_)
        · refine j_sub [] rfl ?_
          exact hj276 S256  hm
        · refine j_aload_n F 0 dL_cut_262 rfl ?_
          refine j_iload_n F 1 dL_cut_263 rfl ?_
          refine j_iload_n F 2 dL_cut_264 rfl ?_
          refine j_iload_n F 3 dL_cut_265 rfl ?_
          obtain ⟨r266, S266, hc266, hm⟩ := bndE_ok hm
          refine j_callS F (n := 4) (As := [.ref (g.2.1 0), .int v1, .int v2, .int v3]) (rest := []) (c_L_ends l g hg v1 v2 v3 S256 r266 S266 hc266) gw_L_41 (by decide +kernel) ⟨Nat.le_of_ble_eq_true rfl, Nat.le_of_ble_eq_true rfl⟩ ⟨Nat.le_of_ble_eq_true rfl, Nat.le_of_ble_eq_true rfl⟩ rfl rfl (Nat.le_of_ble_eq_true rfl) dL_cut_266 ?_
          show J p l e rmL_cut s m args below meth c g A 8 (MQ below (QC g A (some (.int r)) S') args s 0 0 A) 0 0 269 [(0, .ref (g.2.1 0)), (1, .int v1), (2, .int v2), (3, .int v3), (7, .int v7)] [.int r266] S266
          refine j_if_eq F (tgt := 276) dL_cut_269 (by decide) hm (fun _ hm => ?_) (fun _ hm => ?_)
          · refine j_sub [] rfl ?_
            exact hj276 S266  hm
          · refine j_iconst F (v := 1) dL_cut_272 (by decide) ?_
            refine j_goto F (tgt := 277) dL_cut_273 (by decide) ?_
            refine j_sub [] rfl ?_
            exact hj277 1 S266  hm
      · cases hm
  have hj248 : ∀ (v1 : Int32) (v2 : Int32) (v3 : Int32) (w0 : Int32) (S : Hs), m_L_cut_J248 v1 v2 v3 w0 S = some ((r, S')) → J p l e rmL_cut s m args below meth c g A 8 (MQ below (QC g A (some (.int r)) S') args s 0 0 A) 0 0 248 [(0, .ref (g.2.1 0)), (1, .int v1), (2, .int v2), (3, .int v3)] [.int w0] S := by
    intro v1 v2 v3 w0 S hm
    unfold m_L_cut_J248 at hm
    refine j_istore F (lv' := [(7, .int w0), (0, .ref (g.2.1 0)), (1, .int v1), (2, .int v2), (3, .int v3)]) dL_cut_248 (by decide) rfl ?_
    refine j_sub [1, 2, 3, 4, 0] rfl ?_
    exact hj250 v1 v2 v3 w0 S  hm
  have hj247 : ∀ (v1 : Int32) (v2 : Int32) (v3 : Int32) (S : Hs), m_L_cut_J247 v1 v2 v3 S = some ((r, S')) → J p l e rmL_cut s m args below meth c g A 8 (MQ below (QC g A (some (.int r)) S') args s 0 0 A) 0 0 247 [(0, .ref (g.2.1 0)), (1, .int v1), (2, .int v2), (3, .int v3)] [] S := by
    intro v1 v2 v3 S hm
    unfold m_L_cut_J247 at hm
    refine j_iconst F (v := 0) dL_cut_247 (by decide) ?_
    refine j_sub [0, 1, 2, 3] rfl ?_
    exact hj248 v1 v2 v3 0 S  hm
  have hj187 : ∀ (v1 : Int32) (v2 : Int32) (v3 : Int32) (v4 : Int32) (v6 : Int32) (w0 : Int32) (S : Hs), m_L_cut_J187 v1 v2 v3 v4 v6 w0 S = some ((r, S')) → J p l e rmL_cut s m args below meth c g A 8 (MQ below (QC g A (some (.int r)) S') args s 0 0 A) 0 0 187 [(0, .ref (g.2.1 0)), (1, .int v1), (2, .int v2), (3, .int v3), (4, .int v4), (6, .int v6)] [.int w0] S := by
    intro v1 v2 v3 v4 v6 w0 S hm
    unfold m_L_cut_J187 at hm
    refine j_istore F (lv' := [(7, .int w0), (0, .ref (g.2.1 0)), (1, .int v1), (2, .int v2), (3, .int v3), (4, .int v4), (6, .int v6)]) dL_cut_187 (by decide) rfl ?_
    refine j_iload F 0 dL_cut_189 rfl ?_
    refine j_if_eq F (tgt := 250) dL_cut_191 (by decide) hm (fun _ hm => ?_) (fun _ hm => ?_)
    · refine j_sub [1, 2, 3, 4, 0] rfl ?_
      exact hj250 v1 v2 v3 w0 S  hm
    · refine j_iload F 5 dL_cut_194 rfl ?_
      refine j_iconst F (v := 2) dL_cut_196 (by decide) ?_
      refine j_icmp_ne F (tgt := 250) dL_cut_197 (by decide) hm (fun _ hm => ?_) (fun _ hm => ?_)
      · refine j_sub [1, 2, 3, 4, 0] rfl ?_
        exact hj250 v1 v2 v3 w0 S  hm
      · refine j_aload_n F 1 dL_cut_200 rfl ?_
        refine j_iload F 6 dL_cut_201 rfl ?_
        refine j_bipush F (v := 100) dL_cut_203 (by decide) ?_
        refine j_idiv F dL_cut_205 (by decide) ?_
        refine j_iload F 6 dL_cut_206 rfl ?_
        refine j_bipush F (v := 10) dL_cut_208 (by decide) ?_
        refine j_idiv F dL_cut_210 (by decide) ?_
        refine j_bipush F (v := 10) dL_cut_211 (by decide) ?_
        refine j_irem F dL_cut_213 (by decide) ?_
        refine j_iload F 6 dL_cut_214 rfl ?_
        refine j_bipush F (v := 10) dL_cut_216 (by decide) ?_
        refine j_irem F dL_cut_218 (by decide) ?_
        refine j_iconst F (v := 0) dL_cut_219 (by decide) ?_
        refine bndX_ok hm (fun r220 S220 hc220 hm => ?_) (fun q S220 hc220 hm => ?_)
        · refine j_callV F (n := 4) (As := [.int (v6 / 100), .int (irm (v6 / 10) 10), .int (irm v6 10), .int 0]) (rest := []) (c_X5_set l g hg (v6 / 100) (irm (v6 / 10) 10) (irm v6 10) 0 S r220 S220 hc220) gw_L_37 (by decide +kernel) ⟨Nat.le_of_ble_eq_true rfl, Nat.le_of_ble_eq_true rfl⟩ ⟨Nat.le_of_ble_eq_true rfl, Nat.le_of_ble_eq_true rfl⟩ lay_0 rfl rfl rfl (Nat.le_of_ble_eq_true rfl) dL_cut_220 ?_
          show J p l e rmL_cut s m args below meth c g A 8 (MQ below (QC g A (some (.int r)) S') args s 0 0 A) 0 0 223 [(7, .int w0), (0, .ref (g.2.1 0)), (1, .int v1), (2, .int v2), (3, .int v3), (4, .int v4), (6, .int v6)] [.int r220] S220
          refine j_if_eq F (tgt := 247) dL_cut_223 (by decide) hm (fun _ hm => ?_) (fun _ hm => ?_)
          · refine j_sub [1, 2, 3, 4] rfl ?_
            exact hj247 v1 v2 v3 S220  hm
          · refine j_aload_n F 1 dL_cut_226 rfl ?_
            refine j_iload_n F 2 dL_cut_227 rfl ?_
            refine j_iload_n F 3 dL_cut_228 rfl ?_
            refine j_iload_n F 4 dL_cut_229 rfl ?_
            obtain ⟨r230, S230, hc230, hm⟩ := bndE_ok hm
            refine j_callS F (n := 4) (As := [.ref (g.2.1 0), .int v1, .int v2, .int v3]) (rest := []) (c_L_ends l g hg v1 v2 v3 S220 r230 S230 hc230) gw_L_41 (by decide +kernel) ⟨Nat.le_of_ble_eq_true rfl, Nat.le_of_ble_eq_true rfl⟩ ⟨Nat.le_of_ble_eq_true rfl, Nat.le_of_ble_eq_true rfl⟩ rfl rfl (Nat.le_of_ble_eq_true rfl) dL_cut_230 ?_
            show J p l e rmL_cut s m args below meth c g A 8 (MQ below (QC g A (some (.int r)) S') args s 0 0 A) 0 0 233 [(7, .int w0), (0, .ref (g.2.1 0)), (1, .int v1), (2, .int v2), (3, .int v3), (4, .int v4), (6, .int v6)] [.int r230] S230
            refine j_if_ne F (tgt := 247) dL_cut_233 (by decide) hm (fun _ hm => ?_) (fun _ hm => ?_)
            · refine j_sub [1, 2, 3, 4] rfl ?_
              exact hj247 v1 v2 v3 S230  hm
            · refine j_aload_n F 1 dL_cut_236 rfl ?_
              refine bndX_ok hm (fun r237 S237 hc237 hm => ?_) (fun q S237 hc237 hm => ?_)
              · refine j_callV F (n := 0) (As := []) (rest := []) (c_X5_undo l g hg S230 r237 S237 hc237) gw_L_69 (by decide +kernel) ⟨Nat.le_of_ble_eq_true rfl, Nat.le_of_ble_eq_true rfl⟩ ⟨Nat.le_of_ble_eq_true rfl, Nat.le_of_ble_eq_true rfl⟩ lay_0 rfl rfl rfl (Nat.le_of_ble_eq_true rfl) dL_cut_237 ?_
                show J p l e rmL_cut s m args below meth c g A 8 (MQ below (QC g A (some (.int r)) S') args s 0 0 A) 0 0 240 [(7, .int w0), (0, .ref (g.2.1 0)), (1, .int v1), (2, .int v2), (3, .int v3), (4, .int v4), (6, .int v6)] [.int r237] S237
                refine j_if_lt F (tgt := 247) dL_cut_240 (by decide) hm (fun _ hm => ?_) (fun _ hm => ?_)
                · refine j_sub [1, 2, 3, 4] rfl ?_
                  exact hj247 v1 v2 v3 S237  hm
                · refine j_iconst F (v := 1) dL_cut_243 (by decide) ?_
                  refine j_goto F (tgt := 248) dL_cut_244 (by decide) ?_
                  refine j_sub [1, 2, 3, 4] rfl ?_
                  exact hj248 v1 v2 v3 1 S237  hm
              · cases hm
        · cases hm
  have hj186 : ∀ (v1 : Int32) (v2 : Int32) (v3 : Int32) (v4 : Int32) (v6 : Int32) (S : Hs), m_L_cut_J186 v1 v2 v3 v4 v6 S = some ((r, S')) → J p l e rmL_cut s m args below meth c g A 8 (MQ below (QC g A (some (.int r)) S') args s 0 0 A) 0 0 186 [(0, .ref (g.2.1 0)), (1, .int v1), (2, .int v2), (3, .int v3), (4, .int v4), (6, .int v6)] [] S := by
    intro v1 v2 v3 v4 v6 S hm
    unfold m_L_cut_J186 at hm
    refine j_iconst F (v := 0) dL_cut_186 (by decide) ?_
    refine j_sub [0, 1, 2, 3, 4, 5] rfl ?_
    exact hj187 v1 v2 v3 v4 v6 0 S  hm
  have hj179 : ∀ (v1 : Int32) (v2 : Int32) (v3 : Int32) (v4 : Int32) (v6 : Int32) (w0 : Int32) (w1 : Int32) (S : Hs), m_L_cut_J179 v1 v2 v3 v4 v6 w0 w1 S = some ((r, S')) → J p l e rmL_cut s m args below meth c g A 8 (MQ below (QC g A (some (.int r)) S') args s 0 0 A) 0 0 179 [(0, .ref (g.2.1 0)), (1, .int v1), (2, .int v2), (3, .int v3), (4, .int v4), (6, .int v6)] [.int w0, .int w1] S := by
    intro v1 v2 v3 v4 v6 w0 w1 S hm
    unfold m_L_cut_J179 at hm
    refine j_icmp_ne F (tgt := 186) dL_cut_179 (by decide) hm (fun _ hm => ?_) (fun _ hm => ?_)
    · refine j_sub [0, 1, 2, 3, 4, 5] rfl ?_
      exact hj186 v1 v2 v3 v4 v6 S  hm
    · refine j_iconst F (v := 1) dL_cut_182 (by decide) ?_
      refine j_goto F (tgt := 187) dL_cut_183 (by decide) ?_
      refine j_sub [0, 1, 2, 3, 4, 5] rfl ?_
      exact hj187 v1 v2 v3 v4 v6 1 S  hm
  have hj135 : ∀ (v1 : Int32) (v2 : Int32) (v3 : Int32) (v4 : Int32) (v5 : Int32) (v6 : Int32) (S : Hs), m_L_cut_J135 v1 v2 v3 v4 v5 v6 S = some ((r, S')) → J p l e rmL_cut s m args below meth c g A 8 (MQ below (QC g A (some (.int r)) S') args s 0 0 A) 0 0 135 [(0, .ref (g.2.1 0)), (1, .int v1), (2, .int v2), (3, .int v3), (4, .int v4), (5, .int v5), (6, .int v6)] [] S := by
    intro v1 v2 v3 v4 v5 v6 S hm
    unfold m_L_cut_J135 at hm
    refine j_aload_n F 0 dL_cut_135 rfl ?_
    refine j_iload F 5 dL_cut_136 rfl ?_
    refine j_bipush F (v := 100) dL_cut_138 (by decide) ?_
    refine j_idiv F dL_cut_140 (by decide) ?_
    refine j_iload F 5 dL_cut_141 rfl ?_
    refine j_bipush F (v := 10) dL_cut_143 (by decide) ?_
    refine j_idiv F dL_cut_145 (by decide) ?_
    refine j_bipush F (v := 10) dL_cut_146 (by decide) ?_
    refine j_irem F dL_cut_148 (by decide) ?_
    refine j_iload F 5 dL_cut_149 rfl ?_
    refine j_bipush F (v := 10) dL_cut_151 (by decide) ?_
    refine j_irem F dL_cut_153 (by decide) ?_
    refine j_iconst F (v := 0) dL_cut_154 (by decide) ?_
    refine bndX_ok hm (fun r155 S155 hc155 hm => ?_) (fun q S155 hc155 hm => ?_)
    · refine j_callV F (n := 4) (As := [.int (v5 / 100), .int (irm (v5 / 10) 10), .int (irm v5 10), .int 0]) (rest := []) (c_X5_set l g hg (v5 / 100) (irm (v5 / 10) 10) (irm v5 10) 0 S r155 S155 hc155) gw_L_37 (by decide +kernel) ⟨Nat.le_of_ble_eq_true rfl, Nat.le_of_ble_eq_true rfl⟩ ⟨Nat.le_of_ble_eq_true rfl, Nat.le_of_ble_eq_true rfl⟩ lay_0 rfl rfl rfl (Nat.le_of_ble_eq_true rfl) dL_cut_155 ?_
      show J p l e rmL_cut s m args below meth c g A 8 (MQ below (QC g A (some (.int r)) S') args s 0 0 A) 0 0 158 [(0, .ref (g.2.1 0)), (1, .int v1), (2, .int v2), (3, .int v3), (4, .int v4), (5, .int v5), (6, .int v6)] [.int r155] S155
      refine j_if_eq F (tgt := 186) dL_cut_158 (by decide) hm (fun _ hm => ?_) (fun _ hm => ?_)
      · refine j_sub [0, 1, 2, 3, 4, 6] rfl ?_
        exact hj186 v1 v2 v3 v4 v6 S155  hm
      · refine j_aload_n F 0 dL_cut_161 rfl ?_
        refine j_iload_n F 1 dL_cut_162 rfl ?_
        refine j_iload_n F 2 dL_cut_163 rfl ?_
        refine j_iload_n F 3 dL_cut_164 rfl ?_
        obtain ⟨r165, S165, hc165, hm⟩ := bndE_ok hm
        refine j_callS F (n := 4) (As := [.ref (g.2.1 0), .int v1, .int v2, .int v3]) (rest := []) (c_L_ends l g hg v1 v2 v3 S155 r165 S165 hc165) gw_L_41 (by decide +kernel) ⟨Nat.le_of_ble_eq_true rfl, Nat.le_of_ble_eq_true rfl⟩ ⟨Nat.le_of_ble_eq_true rfl, Nat.le_of_ble_eq_true rfl⟩ rfl rfl (Nat.le_of_ble_eq_true rfl) dL_cut_165 ?_
        show J p l e rmL_cut s m args below meth c g A 8 (MQ below (QC g A (some (.int r)) S') args s 0 0 A) 0 0 168 [(0, .ref (g.2.1 0)), (1, .int v1), (2, .int v2), (3, .int v3), (4, .int v4), (5, .int v5), (6, .int v6)] [.int r165] S165
        refine j_iload F 4 dL_cut_168 rfl ?_
        refine j_iconst F (v := 2) dL_cut_170 (by decide) ?_
        refine j_icmp_ne F (tgt := 178) dL_cut_171 (by decide) hm (fun _ hm => ?_) (fun _ hm => ?_)
        · refine j_iconst F (v := 0) dL_cut_178 (by decide) ?_
          refine j_sub [0, 1, 2, 3, 4, 6] rfl ?_
          exact hj179 v1 v2 v3 v4 v6 0 r165 S165  hm
        · refine j_iconst F (v := 1) dL_cut_174 (by decide) ?_
          refine j_goto F (tgt := 179) dL_cut_175 (by decide) ?_
          refine j_sub [0, 1, 2, 3, 4, 6] rfl ?_
          exact hj179 v1 v2 v3 v4 v6 1 r165 S165  hm
    · cases hm
  have hj112 : ∀ (v1 : Int32) (v2 : Int32) (v3 : Int32) (v4 : Int32) (v5 : Int32) (v6 : Int32) (w0 : Int32) (w1 : Int32) (S : Hs), m_L_cut_J112 v1 v2 v3 v4 v5 v6 w0 w1 S = some ((r, S')) → J p l e rmL_cut s m args below meth c g A 8 (MQ below (QC g A (some (.int r)) S') args s 0 0 A) 0 0 112 [(0, .ref (g.2.1 0)), (1, .int v1), (2, .int v2), (3, .int v3), (4, .int v4), (5, .int v5), (6, .int v6)] [.int w0, .int w1] S := by
    intro v1 v2 v3 v4 v5 v6 w0 w1 S hm
    unfold m_L_cut_J112 at hm
    refine j_icmp_ne F (tgt := 133) dL_cut_112 (by decide) hm (fun _ hm => ?_) (fun _ hm => ?_)
    · refine j_sub [] rfl ?_
      exact hj133 S  hm
    · refine j_iload F 5 dL_cut_115 rfl ?_
      refine j_if_lt F (tgt := 133) dL_cut_117 (by decide) hm (fun _ hm => ?_) (fun _ hm => ?_)
      · refine j_sub [] rfl ?_
        exact hj133 S  hm
      · refine j_iload F 4 dL_cut_120 rfl ?_
        refine j_iconst F (v := 2) dL_cut_122 (by decide) ?_
        refine j_icmp_ne F (tgt := 135) dL_cut_123 (by decide) hm (fun _ hm => ?_) (fun _ hm => ?_)
        · refine j_sub [0, 1, 2, 3, 4, 5, 6] rfl ?_
          exact hj135 v1 v2 v3 v4 v5 v6 S  hm
        · refine j_iload F 6 dL_cut_126 rfl ?_
          refine j_iload F 5 dL_cut_128 rfl ?_
          refine j_icmp_gt F (tgt := 135) dL_cut_130 (by decide) hm (fun _ hm => ?_) (fun _ hm => ?_)
          · refine j_sub [0, 1, 2, 3, 4, 5, 6] rfl ?_
            exact hj135 v1 v2 v3 v4 v5 v6 S  hm
          · refine j_sub [] rfl ?_
            exact hj133 S  hm
  have hj100 : ∀ (v1 : Int32) (v2 : Int32) (v3 : Int32) (v4 : Int32) (v5 : Int32) (v6 : Int32) (w0 : Int32) (S : Hs), m_L_cut_J100 v1 v2 v3 v4 v5 v6 w0 S = some ((r, S')) → J p l e rmL_cut s m args below meth c g A 8 (MQ below (QC g A (some (.int r)) S') args s 0 0 A) 0 0 100 [(0, .ref (g.2.1 0)), (1, .int v1), (2, .int v2), (3, .int v3), (4, .int v4), (5, .int v5), (6, .int v6)] [.int w0] S := by
    intro v1 v2 v3 v4 v5 v6 w0 S hm
    unfold m_L_cut_J100 at hm
    refine j_iload F 6 dL_cut_100 rfl ?_
    refine j_bipush F (v := -9) dL_cut_102 (by decide) ?_
    refine j_icmp_ne F (tgt := 111) dL_cut_104 (by decide) hm (fun _ hm => ?_) (fun _ hm => ?_)
    · refine j_iconst F (v := 0) dL_cut_111 (by decide) ?_
      refine j_sub [0, 1, 2, 3, 4, 5, 6] rfl ?_
      exact hj112 v1 v2 v3 v4 v5 v6 0 w0 S  hm
    · refine j_iconst F (v := 1) dL_cut_107 (by decide) ?_
      refine j_goto F (tgt := 112) dL_cut_108 (by decide) ?_
      refine j_sub [0, 1, 2, 3, 4, 5, 6] rfl ?_
      exact hj112 v1 v2 v3 v4 v5 v6 1 w0 S  hm
  refine j_aload_n F 0 dL_cut_0 rfl ?_
  refine j_iload_n F 1 dL_cut_1 rfl ?_
  refine j_iload_n F 2 dL_cut_2 rfl ?_
  refine j_iload_n F 3 dL_cut_3 rfl ?_
  refine bndX_ok hm (fun r4 S4 hc4 hm => ?_) (fun q S4 hc4 hm => ?_)
  · refine j_callV F (n := 3) (As := [.int v1, .int v2, .int v3]) (rest := []) (c_X5_cut l g hg v1 v2 v3 S r4 S4 hc4) gw_L_73 (by decide +kernel) ⟨Nat.le_of_ble_eq_true rfl, Nat.le_of_ble_eq_true rfl⟩ ⟨Nat.le_of_ble_eq_true rfl, Nat.le_of_ble_eq_true rfl⟩ lay_0 rfl rfl rfl (Nat.le_of_ble_eq_true rfl) dL_cut_4 ?_
    show J p l e rmL_cut s m args below meth c g A 8 (MQ below (QC g A (some (.int r)) S') args s 0 0 A) 0 0 7 [(0, .ref (g.2.1 0)), (1, .int v1), (2, .int v2), (3, .int v3)] [.int r4] S4
    refine j_istore F (lv' := [(4, .int r4), (0, .ref (g.2.1 0)), (1, .int v1), (2, .int v2), (3, .int v3)]) dL_cut_7 (by decide) rfl ?_
    refine j_aload_n F 1 dL_cut_9 rfl ?_
    refine j_iload_n F 2 dL_cut_10 rfl ?_
    refine j_iload_n F 3 dL_cut_11 rfl ?_
    refine j_iload_n F 4 dL_cut_12 rfl ?_
    refine j_iconst F (v := 0) dL_cut_13 (by decide) ?_
    refine bndX_ok hm (fun r14 S14 hc14 hm => ?_) (fun q S14 hc14 hm => ?_)
    · refine j_callV F (n := 4) (As := [.int v1, .int v2, .int v3, .int 0]) (rest := []) (c_X5_cutAt l g hg v1 v2 v3 0 S4 r14 S14 hc14) gw_L_76 (by decide +kernel) ⟨Nat.le_of_ble_eq_true rfl, Nat.le_of_ble_eq_true rfl⟩ ⟨Nat.le_of_ble_eq_true rfl, Nat.le_of_ble_eq_true rfl⟩ lay_0 rfl rfl rfl (Nat.le_of_ble_eq_true rfl) dL_cut_14 ?_
      show J p l e rmL_cut s m args below meth c g A 8 (MQ below (QC g A (some (.int r)) S') args s 0 0 A) 0 0 17 [(4, .int r4), (0, .ref (g.2.1 0)), (1, .int v1), (2, .int v2), (3, .int v3)] [.int r14] S14
      refine j_istore F (lv' := [(5, .int r14), (4, .int r4), (0, .ref (g.2.1 0)), (1, .int v1), (2, .int v2), (3, .int v3)]) dL_cut_17 (by decide) rfl ?_
      refine j_aload_n F 2 dL_cut_19 rfl ?_
      refine j_iload_n F 3 dL_cut_20 rfl ?_
      refine j_iload_n F 4 dL_cut_21 rfl ?_
      refine j_iload_n F 5 dL_cut_22 rfl ?_
      refine j_iconst F (v := 1) dL_cut_23 (by decide) ?_
      refine bndX_ok hm (fun r24 S24 hc24 hm => ?_) (fun q S24 hc24 hm => ?_)
      · refine j_callV F (n := 4) (As := [.int v1, .int v2, .int v3, .int 1]) (rest := []) (c_X5_cutAt l g hg v1 v2 v3 1 S14 r24 S24 hc24) gw_L_76 (by decide +kernel) ⟨Nat.le_of_ble_eq_true rfl, Nat.le_of_ble_eq_true rfl⟩ ⟨Nat.le_of_ble_eq_true rfl, Nat.le_of_ble_eq_true rfl⟩ lay_0 rfl rfl rfl (Nat.le_of_ble_eq_true rfl) dL_cut_24 ?_
        show J p l e rmL_cut s m args below meth c g A 8 (MQ below (QC g A (some (.int r)) S') args s 0 0 A) 0 0 27 [(5, .int r14), (4, .int r4), (0, .ref (g.2.1 0)), (1, .int v1), (2, .int v2), (3, .int v3)] [.int r24] S24
        refine j_istore F (lv' := [(6, .int r24), (5, .int r14), (4, .int r4), (0, .ref (g.2.1 0)), (1, .int v1), (2, .int v2), (3, .int v3)]) dL_cut_27 (by decide) rfl ?_
        refine j_iload F 2 dL_cut_29 rfl ?_
        refine j_bipush F (v := -9) dL_cut_31 (by decide) ?_
        refine j_icmp_eq F (tgt := 41) dL_cut_33 (by decide) hm (fun _ hm => ?_) (fun _ hm => ?_)
        · refine j_sub [3, 4, 5, 6, 2, 1, 0] rfl ?_
          exact hj41 v1 v2 v3 r4 r14 r24 S24  hm
        · refine j_iload F 2 dL_cut_36 rfl ?_
          refine j_if_ne F (tgt := 89) dL_cut_38 (by decide) hm (fun _ hm => ?_) (fun _ hm => ?_)
          · refine j_iload F 2 dL_cut_89 rfl ?_
            refine j_iconst F (v := 1) dL_cut_91 (by decide) ?_
            refine j_icmp_ne F (tgt := 99) dL_cut_92 (by decide) hm (fun _ hm => ?_) (fun _ hm => ?_)
            · refine j_iconst F (v := 0) dL_cut_99 (by decide) ?_
              refine j_sub [3, 4, 5, 6, 2, 1, 0] rfl ?_
              exact hj100 v1 v2 v3 r4 r14 r24 0 S24  hm
            · refine j_iconst F (v := 1) dL_cut_95 (by decide) ?_
              refine j_goto F (tgt := 100) dL_cut_96 (by decide) ?_
              refine j_sub [3, 4, 5, 6, 2, 1, 0] rfl ?_
              exact hj100 v1 v2 v3 r4 r14 r24 1 S24  hm
          · refine j_sub [3, 4, 5, 6, 2, 1, 0] rfl ?_
            exact hj41 v1 v2 v3 r4 r14 r24 S24  hm
      · cases hm
    · cases hm
  · cases hm
