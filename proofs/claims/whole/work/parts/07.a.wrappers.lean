def m_L_append (v1 : Int32) (S : Hs) : Option (Int32 × Hs) := bndX (m_X5_append v1 S) (fun r4 S4 => (gd (inb 0 1) (bnd (sO S4 (0 : Int32).toNatClampNeg r4.toInt64) fun S8 => (some ((0, S8)))))) (fun q S4 => if q = 1 then (some ((1, S4))) else (if q = 2 then (some ((2, S4))) else (none)))
set_option maxRecDepth 100000 in
set_option maxHeartbeats 4000000 in
theorem c_L_append (l : Launch) (hst : l.stackTraces = false) (g : GG) (hg : Inj g) (v1 : Int32)  (S : Hs) (r : Int32) (S' : Hs) (hm : m_L_append v1 S = some ((r, S'))) : CT l yL_append [.codeWith yL_append cL_append 4 (some .int) [(0, 9, 12, 13), (0, 9, 15, 15)]] rmL_append [.ref (g.2.1 0), .int v1, .ref (g.2.1 28)] g S (some (.int r)) S' := by
  unfold m_L_append at hm
  refine CT.of (cc := cL_append) (nL := 4) (ret := (some .int)) (lv := [(0, .ref (g.2.1 0)), (1, .int v1), (2, .ref (g.2.1 28))]) (by decide +kernel) hg (Nat.le_of_ble_eq_true rfl) rfl rfl rfl hst (fun p e s m args below meth c A F FT => ?_)
  replace F : Fx p s m meth c cL_append RL 4 (some .int) g A := F
  replace FT : FT9 l s c A [(0, 9, 12, 13), (0, 9, 15, 15)] := FT
  show J p l e rmL_append s m args below meth c g A 4 (MQ below (QC g A (some (.int r)) S') args s 1 6 A) 0 0 0 [(0, .ref (g.2.1 0)), (1, .int v1), (2, .ref (g.2.1 28))] [] S
  refine j_aload_n F 2 dL_append_0 rfl ?_
  refine j_iconst F (v := 0) dL_append_1 (by decide) ?_
  refine j_aload_n F 0 dL_append_2 rfl ?_
  refine j_iload_n F 1 dL_append_3 rfl ?_
  refine bndX_ok hm (fun r4 S4 hc4 hm => ?_) (fun q S4 hc4 hm => ?_)
  · refine j_callV F (n := 1) (As := [.int v1]) (rest := [.int 0, .ref (g.2.1 28)]) (c_X5_append l g hg v1 S r4 S4 hc4) gw_L_7 (by decide +kernel) ⟨Nat.le_of_ble_eq_true rfl, Nat.le_of_ble_eq_true rfl⟩ ⟨Nat.le_of_ble_eq_true rfl, Nat.le_of_ble_eq_true rfl⟩ rfl rfl rfl rfl (Nat.le_of_ble_eq_true rfl) dL_append_4 ?_
    show J p l e rmL_append s m args below meth c g A 4 (MQ below (QC g A (some (.int r)) S') args s 1 6 A) 0 0 7 [(0, .ref (g.2.1 0)), (1, .int v1), (2, .ref (g.2.1 28))] [.int r4, .int 0, .ref (g.2.1 28)] S4
    refine j_i2l F dL_append_7 ?_
    refine j_last F dL_append_8 hm (fun hm => ?_)
    refine j_bndS hm (fun S8 hm => ?_)
    refine j_goto F (tgt := 18) dL_append_9 (by decide) ?_
    refine j_iconst F (v := 0) dL_append_18 (by decide) ?_
    refine j_widen (k := 1) (n := 6) (by decide) (by decide) ?_
    exact j_iret_e F rfl dL_append_19 hm
  · refine swn_if hm (fun eqn hm => ?_) (fun _ hm => ?_)
    · subst eqn
      refine j_catch F FT (n := 1) 0 rfl rfl (by decide) tw741 (castOK _ (by decide)) (by decide) (by intro z hz; simp at hz) (k := 1) (As := [.int v1]) (rest := [.int 0, .ref (g.2.1 28)]) (x_X5_append l hst g hg v1 S _ _ hc4) gw_L_7 (by decide +kernel) ⟨Nat.le_of_ble_eq_true rfl, Nat.le_of_ble_eq_true rfl⟩ ⟨Nat.le_of_ble_eq_true rfl, Nat.le_of_ble_eq_true rfl⟩ rfl rfl rfl rfl (Nat.le_of_ble_eq_true rfl) dL_append_4 (fun q9 => ?_)
      show J p l e rmL_append s m args below meth c g A 4 (MQ below (QC g A (some (.int r)) S') args s 1 6 A) 1 6 12 [(0, .ref (g.2.1 0)), (1, .int v1), (2, .ref (g.2.1 28))] [.ref q9] S4
      refine j_astore_n F (lv' := [(3, .ref q9), (0, .ref (g.2.1 0)), (1, .int v1), (2, .ref (g.2.1 28))]) dL_append_12 (by decide) rfl ?_
      refine j_iconst F (v := 1) dL_append_13 (by decide) ?_
      exact j_iret_e F rfl dL_append_14 hm
    · refine swn_if hm (fun eqn hm => ?_) (fun _ hm => ?_)
      · subst eqn
        have hp1 : ∀ z ∈ ([(0, 9, 12, 13)] : List (Nat × Nat × Nat × Nat)), z.2.2.2 ≠ 0 ∧ ∃ n' ∈ [1, 2, 3], 2 ≠ n' ∧ Cond.classLink RL z.2.2.2 (exN n') ∈ tblG := List.forall_mem_cons.mpr ⟨⟨by decide, 1, by decide, by decide, tw741⟩, fun _ h => nomatch h⟩
        refine j_catch F FT (n := 2) 1 rfl rfl (by decide) tw742 (castOK _ (by decide)) (by decide) hp1 (k := 1) (As := [.int v1]) (rest := [.int 0, .ref (g.2.1 28)]) (x_X5_append l hst g hg v1 S _ _ hc4) gw_L_7 (by decide +kernel) ⟨Nat.le_of_ble_eq_true rfl, Nat.le_of_ble_eq_true rfl⟩ ⟨Nat.le_of_ble_eq_true rfl, Nat.le_of_ble_eq_true rfl⟩ rfl rfl rfl rfl (Nat.le_of_ble_eq_true rfl) dL_append_4 (fun q9 => ?_)
        show J p l e rmL_append s m args below meth c g A 4 (MQ below (QC g A (some (.int r)) S') args s 1 6 A) 1 6 15 [(0, .ref (g.2.1 0)), (1, .int v1), (2, .ref (g.2.1 28))] [.ref q9] S4
        refine j_astore_n F (lv' := [(3, .ref q9), (0, .ref (g.2.1 0)), (1, .int v1), (2, .ref (g.2.1 28))]) dL_append_15 (by decide) rfl ?_
        refine j_iconst F (v := 2) dL_append_16 (by decide) ?_
        exact j_iret_e F rfl dL_append_17 hm
      · cases hm
noncomputable def m_L_load (S : Hs) : Option (Int32 × Hs) := bndX (m_X5_load  S) (fun r3 S3 => (gd (inb 0 1) (bnd (sO S3 (0 : Int32).toNatClampNeg r3.toInt64) fun S7 => (some ((0, S7)))))) (fun q S3 => if q = 2 then (some ((1, S3))) else (none))
set_option maxRecDepth 100000 in
set_option maxHeartbeats 4000000 in
theorem c_L_load (l : Launch) (hst : l.stackTraces = false) (g : GG) (hg : Inj g)   (S : Hs) (r : Int32) (S' : Hs) (hm : m_L_load S = some ((r, S'))) : CT l yL_load [.codeWith yL_load cL_load 3 (some .int) [(0, 8, 11, 15)]] rmL_load [.ref (g.2.1 0), .ref (g.2.1 28)] g S (some (.int r)) S' := by
  unfold m_L_load at hm
  refine CT.of (cc := cL_load) (nL := 3) (ret := (some .int)) (lv := [(0, .ref (g.2.1 0)), (1, .ref (g.2.1 28))]) (by decide +kernel) hg (Nat.le_of_ble_eq_true rfl) rfl rfl rfl hst (fun p e s m args below meth c A F FT => ?_)
  replace F : Fx p s m meth c cL_load RL 3 (some .int) g A := F
  replace FT : FT9 l s c A [(0, 8, 11, 15)] := FT
  show J p l e rmL_load s m args below meth c g A 3 (MQ below (QC g A (some (.int r)) S') args s 1 6 A) 0 0 0 [(0, .ref (g.2.1 0)), (1, .ref (g.2.1 28))] [] S
  refine j_aload_n F 1 dL_load_0 rfl ?_
  refine j_iconst F (v := 0) dL_load_1 (by decide) ?_
  refine j_aload_n F 0 dL_load_2 rfl ?_
  refine bndX_ok hm (fun r3 S3 hc3 hm => ?_) (fun q S3 hc3 hm => ?_)
  · refine j_callV F (n := 0) (As := []) (rest := [.int 0, .ref (g.2.1 28)]) (c_X5_load l g hg S r3 S3 hc3) gw_L_17 (by decide +kernel) ⟨Nat.le_of_ble_eq_true rfl, Nat.le_of_ble_eq_true rfl⟩ ⟨Nat.le_of_ble_eq_true rfl, Nat.le_of_ble_eq_true rfl⟩ rfl rfl rfl rfl (Nat.le_of_ble_eq_true rfl) dL_load_3 ?_
    show J p l e rmL_load s m args below meth c g A 3 (MQ below (QC g A (some (.int r)) S') args s 1 6 A) 0 0 6 [(0, .ref (g.2.1 0)), (1, .ref (g.2.1 28))] [.int r3, .int 0, .ref (g.2.1 28)] S3
    refine j_i2l F dL_load_6 ?_
    refine j_last F dL_load_7 hm (fun hm => ?_)
    refine j_bndS hm (fun S7 hm => ?_)
    refine j_goto F (tgt := 14) dL_load_8 (by decide) ?_
    refine j_iconst F (v := 0) dL_load_14 (by decide) ?_
    refine j_widen (k := 1) (n := 6) (by decide) (by decide) ?_
    exact j_iret_e F rfl dL_load_15 hm
  · refine swn_if hm (fun eqn hm => ?_) (fun _ hm => ?_)
    · subst eqn
      refine j_catch F FT (n := 2) 0 rfl rfl (by decide) tw742 (castOK _ (by decide)) (by decide) (by intro z hz; simp at hz) (k := 0) (As := []) (rest := [.int 0, .ref (g.2.1 28)]) (x_X5_load l hst g hg S _ _ hc3) gw_L_17 (by decide +kernel) ⟨Nat.le_of_ble_eq_true rfl, Nat.le_of_ble_eq_true rfl⟩ ⟨Nat.le_of_ble_eq_true rfl, Nat.le_of_ble_eq_true rfl⟩ rfl rfl rfl rfl (Nat.le_of_ble_eq_true rfl) dL_load_3 (fun q9 => ?_)
      show J p l e rmL_load s m args below meth c g A 3 (MQ below (QC g A (some (.int r)) S') args s 1 6 A) 1 6 11 [(0, .ref (g.2.1 0)), (1, .ref (g.2.1 28))] [.ref q9] S3
      refine j_astore_n F (lv' := [(2, .ref q9), (0, .ref (g.2.1 0)), (1, .ref (g.2.1 28))]) dL_load_11 (by decide) rfl ?_
      refine j_iconst F (v := 1) dL_load_12 (by decide) ?_
      exact j_iret_e F rfl dL_load_13 hm
    · cases hm
noncomputable def m_L_about (v1 : Int32) (S : Hs) : Option (Int32 × Hs) := bndX (m_X5_about v1 S) (fun r4 S4 => (gd (inb 0 1) (bnd (sO S4 (0 : Int32).toNatClampNeg r4.toInt64) fun S8 => (some ((0, S8)))))) (fun q S4 => if q = 1 then (some ((1, S4))) else (none))
set_option maxRecDepth 100000 in
set_option maxHeartbeats 4000000 in
theorem c_L_about (l : Launch) (hst : l.stackTraces = false) (g : GG) (hg : Inj g) (v1 : Int32)  (S : Hs) (r : Int32) (S' : Hs) (hm : m_L_about v1 S = some ((r, S'))) : CT l yL_about [.codeWith yL_about cL_about 4 (some .int) [(0, 9, 12, 13)]] rmL_about [.ref (g.2.1 0), .int v1, .ref (g.2.1 28)] g S (some (.int r)) S' := by
  unfold m_L_about at hm
  refine CT.of (cc := cL_about) (nL := 4) (ret := (some .int)) (lv := [(0, .ref (g.2.1 0)), (1, .int v1), (2, .ref (g.2.1 28))]) (by decide +kernel) hg (Nat.le_of_ble_eq_true rfl) rfl rfl rfl hst (fun p e s m args below meth c A F FT => ?_)
  replace F : Fx p s m meth c cL_about RL 4 (some .int) g A := F
  replace FT : FT9 l s c A [(0, 9, 12, 13)] := FT
  show J p l e rmL_about s m args below meth c g A 4 (MQ below (QC g A (some (.int r)) S') args s 1 6 A) 0 0 0 [(0, .ref (g.2.1 0)), (1, .int v1), (2, .ref (g.2.1 28))] [] S
  refine j_aload_n F 2 dL_about_0 rfl ?_
  refine j_iconst F (v := 0) dL_about_1 (by decide) ?_
  refine j_aload_n F 0 dL_about_2 rfl ?_
  refine j_iload_n F 1 dL_about_3 rfl ?_
  refine bndX_ok hm (fun r4 S4 hc4 hm => ?_) (fun q S4 hc4 hm => ?_)
  · refine j_callV F (n := 1) (As := [.int v1]) (rest := [.int 0, .ref (g.2.1 28)]) (c_X5_about l g hg v1 S r4 S4 hc4) gw_L_21 (by decide +kernel) ⟨Nat.le_of_ble_eq_true rfl, Nat.le_of_ble_eq_true rfl⟩ ⟨Nat.le_of_ble_eq_true rfl, Nat.le_of_ble_eq_true rfl⟩ rfl rfl rfl rfl (Nat.le_of_ble_eq_true rfl) dL_about_4 ?_
    show J p l e rmL_about s m args below meth c g A 4 (MQ below (QC g A (some (.int r)) S') args s 1 6 A) 0 0 7 [(0, .ref (g.2.1 0)), (1, .int v1), (2, .ref (g.2.1 28))] [.int r4, .int 0, .ref (g.2.1 28)] S4
    refine j_i2l F dL_about_7 ?_
    refine j_last F dL_about_8 hm (fun hm => ?_)
    refine j_bndS hm (fun S8 hm => ?_)
    refine j_goto F (tgt := 15) dL_about_9 (by decide) ?_
    refine j_iconst F (v := 0) dL_about_15 (by decide) ?_
    refine j_widen (k := 1) (n := 6) (by decide) (by decide) ?_
    exact j_iret_e F rfl dL_about_16 hm
  · refine swn_if hm (fun eqn hm => ?_) (fun _ hm => ?_)
    · subst eqn
      refine j_catch F FT (n := 1) 0 rfl rfl (by decide) tw741 (castOK _ (by decide)) (by decide) (by intro z hz; simp at hz) (k := 1) (As := [.int v1]) (rest := [.int 0, .ref (g.2.1 28)]) (x_X5_about l hst g hg v1 S _ _ hc4) gw_L_21 (by decide +kernel) ⟨Nat.le_of_ble_eq_true rfl, Nat.le_of_ble_eq_true rfl⟩ ⟨Nat.le_of_ble_eq_true rfl, Nat.le_of_ble_eq_true rfl⟩ rfl rfl rfl rfl (Nat.le_of_ble_eq_true rfl) dL_about_4 (fun q9 => ?_)
      show J p l e rmL_about s m args below meth c g A 4 (MQ below (QC g A (some (.int r)) S') args s 1 6 A) 1 6 12 [(0, .ref (g.2.1 0)), (1, .int v1), (2, .ref (g.2.1 28))] [.ref q9] S4
      refine j_astore_n F (lv' := [(3, .ref q9), (0, .ref (g.2.1 0)), (1, .int v1), (2, .ref (g.2.1 28))]) dL_about_12 (by decide) rfl ?_
      refine j_iconst F (v := 1) dL_about_13 (by decide) ?_
      exact j_iret_e F rfl dL_about_14 hm
    · cases hm
noncomputable def m_L_thing (v1 : Int32) (v2 : Int32) (S : Hs) : Option (Int32 × Hs) := bndX (m_X5_thing v1 v2 S) (fun r5 S5 => (gd (inb 0 1) (bnd (sO S5 (0 : Int32).toNatClampNeg r5.toInt64) fun S9 => (some ((0, S9)))))) (fun q S5 => if q = 3 then (some ((1, S5))) else (if q = 1 then (some ((2, S5))) else (none)))
set_option maxRecDepth 100000 in
set_option maxHeartbeats 4000000 in
theorem c_L_thing (l : Launch) (hst : l.stackTraces = false) (g : GG) (hg : Inj g) (v1 : Int32) (v2 : Int32)  (S : Hs) (r : Int32) (S' : Hs) (hm : m_L_thing v1 v2 S = some ((r, S'))) : CT l yL_thing [.codeWith yL_thing cL_thing 5 (some .int) [(0, 10, 13, 28), (0, 10, 17, 13)]] rmL_thing [.ref (g.2.1 0), .int v1, .int v2, .ref (g.2.1 28)] g S (some (.int r)) S' := by
  unfold m_L_thing at hm
  refine CT.of (cc := cL_thing) (nL := 5) (ret := (some .int)) (lv := [(0, .ref (g.2.1 0)), (1, .int v1), (2, .int v2), (3, .ref (g.2.1 28))]) (by decide +kernel) hg (Nat.le_of_ble_eq_true rfl) rfl rfl rfl hst (fun p e s m args below meth c A F FT => ?_)
  replace F : Fx p s m meth c cL_thing RL 5 (some .int) g A := F
  replace FT : FT9 l s c A [(0, 10, 13, 28), (0, 10, 17, 13)] := FT
  show J p l e rmL_thing s m args below meth c g A 5 (MQ below (QC g A (some (.int r)) S') args s 1 6 A) 0 0 0 [(0, .ref (g.2.1 0)), (1, .int v1), (2, .int v2), (3, .ref (g.2.1 28))] [] S
  refine j_aload_n F 3 dL_thing_0 rfl ?_
  refine j_iconst F (v := 0) dL_thing_1 (by decide) ?_
  refine j_aload_n F 0 dL_thing_2 rfl ?_
  refine j_iload_n F 1 dL_thing_3 rfl ?_
  refine j_iload_n F 2 dL_thing_4 rfl ?_
  refine bndX_ok hm (fun r5 S5 hc5 hm => ?_) (fun q S5 hc5 hm => ?_)
  · refine j_callV F (n := 2) (As := [.int v1, .int v2]) (rest := [.int 0, .ref (g.2.1 28)]) (c_X5_thing l g hg v1 v2 S r5 S5 hc5) gw_L_24 (by decide +kernel) ⟨Nat.le_of_ble_eq_true rfl, Nat.le_of_ble_eq_true rfl⟩ ⟨Nat.le_of_ble_eq_true rfl, Nat.le_of_ble_eq_true rfl⟩ rfl rfl rfl rfl (Nat.le_of_ble_eq_true rfl) dL_thing_5 ?_
    show J p l e rmL_thing s m args below meth c g A 5 (MQ below (QC g A (some (.int r)) S') args s 1 6 A) 0 0 8 [(0, .ref (g.2.1 0)), (1, .int v1), (2, .int v2), (3, .ref (g.2.1 28))] [.int r5, .int 0, .ref (g.2.1 28)] S5
    refine j_i2l F dL_thing_8 ?_
    refine j_last F dL_thing_9 hm (fun hm => ?_)
    refine j_bndS hm (fun S9 hm => ?_)
    refine j_goto F (tgt := 21) dL_thing_10 (by decide) ?_
    refine j_iconst F (v := 0) dL_thing_21 (by decide) ?_
    refine j_widen (k := 1) (n := 6) (by decide) (by decide) ?_
    exact j_iret_e F rfl dL_thing_22 hm
  · refine swn_if hm (fun eqn hm => ?_) (fun _ hm => ?_)
    · subst eqn
      refine j_catch F FT (n := 3) 0 rfl rfl (by decide) tw755 (castOK _ (by decide)) (by decide) (by intro z hz; simp at hz) (k := 2) (As := [.int v1, .int v2]) (rest := [.int 0, .ref (g.2.1 28)]) (x_X5_thing l hst g hg v1 v2 S _ _ hc5) gw_L_24 (by decide +kernel) ⟨Nat.le_of_ble_eq_true rfl, Nat.le_of_ble_eq_true rfl⟩ ⟨Nat.le_of_ble_eq_true rfl, Nat.le_of_ble_eq_true rfl⟩ rfl rfl rfl rfl (Nat.le_of_ble_eq_true rfl) dL_thing_5 (fun q9 => ?_)
      show J p l e rmL_thing s m args below meth c g A 5 (MQ below (QC g A (some (.int r)) S') args s 1 6 A) 1 6 13 [(0, .ref (g.2.1 0)), (1, .int v1), (2, .int v2), (3, .ref (g.2.1 28))] [.ref q9] S5
      refine j_astore F (lv' := [(4, .ref q9), (0, .ref (g.2.1 0)), (1, .int v1), (2, .int v2), (3, .ref (g.2.1 28))]) dL_thing_13 (by decide) rfl ?_
      refine j_iconst F (v := 1) dL_thing_15 (by decide) ?_
      exact j_iret_e F rfl dL_thing_16 hm
    · refine swn_if hm (fun eqn hm => ?_) (fun _ hm => ?_)
      · subst eqn
        have hp1 : ∀ z ∈ ([(0, 10, 13, 28)] : List (Nat × Nat × Nat × Nat)), z.2.2.2 ≠ 0 ∧ ∃ n' ∈ [1, 2, 3], 1 ≠ n' ∧ Cond.classLink RL z.2.2.2 (exN n') ∈ tblG := List.forall_mem_cons.mpr ⟨⟨by decide, 3, by decide, by decide, tw755⟩, fun _ h => nomatch h⟩
        refine j_catch F FT (n := 1) 1 rfl rfl (by decide) tw741 (castOK _ (by decide)) (by decide) hp1 (k := 2) (As := [.int v1, .int v2]) (rest := [.int 0, .ref (g.2.1 28)]) (x_X5_thing l hst g hg v1 v2 S _ _ hc5) gw_L_24 (by decide +kernel) ⟨Nat.le_of_ble_eq_true rfl, Nat.le_of_ble_eq_true rfl⟩ ⟨Nat.le_of_ble_eq_true rfl, Nat.le_of_ble_eq_true rfl⟩ rfl rfl rfl rfl (Nat.le_of_ble_eq_true rfl) dL_thing_5 (fun q9 => ?_)
        show J p l e rmL_thing s m args below meth c g A 5 (MQ below (QC g A (some (.int r)) S') args s 1 6 A) 1 6 17 [(0, .ref (g.2.1 0)), (1, .int v1), (2, .int v2), (3, .ref (g.2.1 28))] [.ref q9] S5
        refine j_astore F (lv' := [(4, .ref q9), (0, .ref (g.2.1 0)), (1, .int v1), (2, .int v2), (3, .ref (g.2.1 28))]) dL_thing_17 (by decide) rfl ?_
        refine j_iconst F (v := 2) dL_thing_19 (by decide) ?_
        exact j_iret_e F rfl dL_thing_20 hm
      · cases hm
noncomputable def m_L_rights (v1 : Int32) (v2 : Int32) (v3 : Int32) (S : Hs) : Option (Int32 × Hs) := bndX (m_X5_rights v1 v2 v3 S) (fun r7 S7 => (gd (inb 0 1) (bnd (sO S7 (0 : Int32).toNatClampNeg r7.toInt64) fun S11 => (some ((0, S11)))))) (fun q S7 => if q = 3 then (some ((1, S7))) else (if q = 1 then (some ((2, S7))) else (none)))
set_option maxRecDepth 100000 in
set_option maxHeartbeats 4000000 in
theorem c_L_rights (l : Launch) (hst : l.stackTraces = false) (g : GG) (hg : Inj g) (v1 : Int32) (v2 : Int32) (v3 : Int32)  (S : Hs) (r : Int32) (S' : Hs) (hm : m_L_rights v1 v2 v3 S = some ((r, S'))) : CT l yL_rights [.codeWith yL_rights cL_rights 6 (some .int) [(0, 12, 15, 28), (0, 12, 19, 13)]] rmL_rights [.ref (g.2.1 0), .int v1, .int v2, .int v3, .ref (g.2.1 28)] g S (some (.int r)) S' := by
  unfold m_L_rights at hm
  refine CT.of (cc := cL_rights) (nL := 6) (ret := (some .int)) (lv := [(0, .ref (g.2.1 0)), (1, .int v1), (2, .int v2), (3, .int v3), (4, .ref (g.2.1 28))]) (by decide +kernel) hg (Nat.le_of_ble_eq_true rfl) rfl rfl rfl hst (fun p e s m args below meth c A F FT => ?_)
  replace F : Fx p s m meth c cL_rights RL 6 (some .int) g A := F
  replace FT : FT9 l s c A [(0, 12, 15, 28), (0, 12, 19, 13)] := FT
  show J p l e rmL_rights s m args below meth c g A 6 (MQ below (QC g A (some (.int r)) S') args s 1 6 A) 0 0 0 [(0, .ref (g.2.1 0)), (1, .int v1), (2, .int v2), (3, .int v3), (4, .ref (g.2.1 28))] [] S
  refine j_aload F 4 dL_rights_0 rfl ?_
  refine j_iconst F (v := 0) dL_rights_2 (by decide) ?_
  refine j_aload_n F 0 dL_rights_3 rfl ?_
  refine j_iload_n F 1 dL_rights_4 rfl ?_
  refine j_iload_n F 2 dL_rights_5 rfl ?_
  refine j_iload_n F 3 dL_rights_6 rfl ?_
  refine bndX_ok hm (fun r7 S7 hc7 hm => ?_) (fun q S7 hc7 hm => ?_)
  · refine j_callV F (n := 3) (As := [.int v1, .int v2, .int v3]) (rest := [.int 0, .ref (g.2.1 28)]) (c_X5_rights l g hg v1 v2 v3 S r7 S7 hc7) gw_L_30 (by decide +kernel) ⟨Nat.le_of_ble_eq_true rfl, Nat.le_of_ble_eq_true rfl⟩ ⟨Nat.le_of_ble_eq_true rfl, Nat.le_of_ble_eq_true rfl⟩ rfl rfl rfl rfl (Nat.le_of_ble_eq_true rfl) dL_rights_7 ?_
    show J p l e rmL_rights s m args below meth c g A 6 (MQ below (QC g A (some (.int r)) S') args s 1 6 A) 0 0 10 [(0, .ref (g.2.1 0)), (1, .int v1), (2, .int v2), (3, .int v3), (4, .ref (g.2.1 28))] [.int r7, .int 0, .ref (g.2.1 28)] S7
    refine j_i2l F dL_rights_10 ?_
    refine j_last F dL_rights_11 hm (fun hm => ?_)
    refine j_bndS hm (fun S11 hm => ?_)
    refine j_goto F (tgt := 23) dL_rights_12 (by decide) ?_
    refine j_iconst F (v := 0) dL_rights_23 (by decide) ?_
    refine j_widen (k := 1) (n := 6) (by decide) (by decide) ?_
    exact j_iret_e F rfl dL_rights_24 hm
  · refine swn_if hm (fun eqn hm => ?_) (fun _ hm => ?_)
    · subst eqn
      refine j_catch F FT (n := 3) 0 rfl rfl (by decide) tw755 (castOK _ (by decide)) (by decide) (by intro z hz; simp at hz) (k := 3) (As := [.int v1, .int v2, .int v3]) (rest := [.int 0, .ref (g.2.1 28)]) (x_X5_rights l hst g hg v1 v2 v3 S _ _ hc7) gw_L_30 (by decide +kernel) ⟨Nat.le_of_ble_eq_true rfl, Nat.le_of_ble_eq_true rfl⟩ ⟨Nat.le_of_ble_eq_true rfl, Nat.le_of_ble_eq_true rfl⟩ rfl rfl rfl rfl (Nat.le_of_ble_eq_true rfl) dL_rights_7 (fun q9 => ?_)
      show J p l e rmL_rights s m args below meth c g A 6 (MQ below (QC g A (some (.int r)) S') args s 1 6 A) 1 6 15 [(0, .ref (g.2.1 0)), (1, .int v1), (2, .int v2), (3, .int v3), (4, .ref (g.2.1 28))] [.ref q9] S7
      refine j_astore F (lv' := [(5, .ref q9), (0, .ref (g.2.1 0)), (1, .int v1), (2, .int v2), (3, .int v3), (4, .ref (g.2.1 28))]) dL_rights_15 (by decide) rfl ?_
      refine j_iconst F (v := 1) dL_rights_17 (by decide) ?_
      exact j_iret_e F rfl dL_rights_18 hm
    · refine swn_if hm (fun eqn hm => ?_) (fun _ hm => ?_)
      · subst eqn
        have hp1 : ∀ z ∈ ([(0, 12, 15, 28)] : List (Nat × Nat × Nat × Nat)), z.2.2.2 ≠ 0 ∧ ∃ n' ∈ [1, 2, 3], 1 ≠ n' ∧ Cond.classLink RL z.2.2.2 (exN n') ∈ tblG := List.forall_mem_cons.mpr ⟨⟨by decide, 3, by decide, by decide, tw755⟩, fun _ h => nomatch h⟩
        refine j_catch F FT (n := 1) 1 rfl rfl (by decide) tw741 (castOK _ (by decide)) (by decide) hp1 (k := 3) (As := [.int v1, .int v2, .int v3]) (rest := [.int 0, .ref (g.2.1 28)]) (x_X5_rights l hst g hg v1 v2 v3 S _ _ hc7) gw_L_30 (by decide +kernel) ⟨Nat.le_of_ble_eq_true rfl, Nat.le_of_ble_eq_true rfl⟩ ⟨Nat.le_of_ble_eq_true rfl, Nat.le_of_ble_eq_true rfl⟩ rfl rfl rfl rfl (Nat.le_of_ble_eq_true rfl) dL_rights_7 (fun q9 => ?_)
        show J p l e rmL_rights s m args below meth c g A 6 (MQ below (QC g A (some (.int r)) S') args s 1 6 A) 1 6 19 [(0, .ref (g.2.1 0)), (1, .int v1), (2, .int v2), (3, .int v3), (4, .ref (g.2.1 28))] [.ref q9] S7
        refine j_astore F (lv' := [(5, .ref q9), (0, .ref (g.2.1 0)), (1, .int v1), (2, .int v2), (3, .int v3), (4, .ref (g.2.1 28))]) dL_rights_19 (by decide) rfl ?_
        refine j_iconst F (v := 2) dL_rights_21 (by decide) ?_
        exact j_iret_e F rfl dL_rights_22 hm
      · cases hm
noncomputable def m_L_round (v1 : Int32) (v2 : Int32) (v3 : Int32) (S : Hs) : Option (Int32 × Hs) := bndX (m_X5_round v1 v2 v3 S) (fun r7 S7 => (gd (inb 0 1) (bnd (sO S7 (0 : Int32).toNatClampNeg r7.toInt64) fun S11 => (some ((0, S11)))))) (fun q S7 => if q = 3 then (some ((1, S7))) else (if q = 1 then (some ((2, S7))) else (none)))
set_option maxRecDepth 100000 in
set_option maxHeartbeats 4000000 in
theorem c_L_round (l : Launch) (hst : l.stackTraces = false) (g : GG) (hg : Inj g) (v1 : Int32) (v2 : Int32) (v3 : Int32)  (S : Hs) (r : Int32) (S' : Hs) (hm : m_L_round v1 v2 v3 S = some ((r, S'))) : CT l yL_round [.codeWith yL_round cL_round 6 (some .int) [(0, 12, 15, 28), (0, 12, 19, 13)]] rmL_round [.ref (g.2.1 0), .int v1, .int v2, .int v3, .ref (g.2.1 28)] g S (some (.int r)) S' := by
  unfold m_L_round at hm
  refine CT.of (cc := cL_round) (nL := 6) (ret := (some .int)) (lv := [(0, .ref (g.2.1 0)), (1, .int v1), (2, .int v2), (3, .int v3), (4, .ref (g.2.1 28))]) (by decide +kernel) hg (Nat.le_of_ble_eq_true rfl) rfl rfl rfl hst (fun p e s m args below meth c A F FT => ?_)
  replace F : Fx p s m meth c cL_round RL 6 (some .int) g A := F
  replace FT : FT9 l s c A [(0, 12, 15, 28), (0, 12, 19, 13)] := FT
  show J p l e rmL_round s m args below meth c g A 6 (MQ below (QC g A (some (.int r)) S') args s 1 6 A) 0 0 0 [(0, .ref (g.2.1 0)), (1, .int v1), (2, .int v2), (3, .int v3), (4, .ref (g.2.1 28))] [] S
  refine j_aload F 4 dL_round_0 rfl ?_
  refine j_iconst F (v := 0) dL_round_2 (by decide) ?_
  refine j_aload_n F 0 dL_round_3 rfl ?_
  refine j_iload_n F 1 dL_round_4 rfl ?_
  refine j_iload_n F 2 dL_round_5 rfl ?_
  refine j_iload_n F 3 dL_round_6 rfl ?_
  refine bndX_ok hm (fun r7 S7 hc7 hm => ?_) (fun q S7 hc7 hm => ?_)
  · refine j_callV F (n := 3) (As := [.int v1, .int v2, .int v3]) (rest := [.int 0, .ref (g.2.1 28)]) (c_X5_round l g hg v1 v2 v3 S r7 S7 hc7) gw_L_34 (by decide +kernel) ⟨Nat.le_of_ble_eq_true rfl, Nat.le_of_ble_eq_true rfl⟩ ⟨Nat.le_of_ble_eq_true rfl, Nat.le_of_ble_eq_true rfl⟩ rfl rfl rfl rfl (Nat.le_of_ble_eq_true rfl) dL_round_7 ?_
    show J p l e rmL_round s m args below meth c g A 6 (MQ below (QC g A (some (.int r)) S') args s 1 6 A) 0 0 10 [(0, .ref (g.2.1 0)), (1, .int v1), (2, .int v2), (3, .int v3), (4, .ref (g.2.1 28))] [.int r7, .int 0, .ref (g.2.1 28)] S7
    refine j_i2l F dL_round_10 ?_
    refine j_last F dL_round_11 hm (fun hm => ?_)
    refine j_bndS hm (fun S11 hm => ?_)
    refine j_goto F (tgt := 23) dL_round_12 (by decide) ?_
    refine j_iconst F (v := 0) dL_round_23 (by decide) ?_
    refine j_widen (k := 1) (n := 6) (by decide) (by decide) ?_
    exact j_iret_e F rfl dL_round_24 hm
  · refine swn_if hm (fun eqn hm => ?_) (fun _ hm => ?_)
    · subst eqn
      refine j_catch F FT (n := 3) 0 rfl rfl (by decide) tw755 (castOK _ (by decide)) (by decide) (by intro z hz; simp at hz) (k := 3) (As := [.int v1, .int v2, .int v3]) (rest := [.int 0, .ref (g.2.1 28)]) (x_X5_round l hst g hg v1 v2 v3 S _ _ hc7) gw_L_34 (by decide +kernel) ⟨Nat.le_of_ble_eq_true rfl, Nat.le_of_ble_eq_true rfl⟩ ⟨Nat.le_of_ble_eq_true rfl, Nat.le_of_ble_eq_true rfl⟩ rfl rfl rfl rfl (Nat.le_of_ble_eq_true rfl) dL_round_7 (fun q9 => ?_)
      show J p l e rmL_round s m args below meth c g A 6 (MQ below (QC g A (some (.int r)) S') args s 1 6 A) 1 6 15 [(0, .ref (g.2.1 0)), (1, .int v1), (2, .int v2), (3, .int v3), (4, .ref (g.2.1 28))] [.ref q9] S7
      refine j_astore F (lv' := [(5, .ref q9), (0, .ref (g.2.1 0)), (1, .int v1), (2, .int v2), (3, .int v3), (4, .ref (g.2.1 28))]) dL_round_15 (by decide) rfl ?_
      refine j_iconst F (v := 1) dL_round_17 (by decide) ?_
      exact j_iret_e F rfl dL_round_18 hm
    · refine swn_if hm (fun eqn hm => ?_) (fun _ hm => ?_)
      · subst eqn
        have hp1 : ∀ z ∈ ([(0, 12, 15, 28)] : List (Nat × Nat × Nat × Nat)), z.2.2.2 ≠ 0 ∧ ∃ n' ∈ [1, 2, 3], 1 ≠ n' ∧ Cond.classLink RL z.2.2.2 (exN n') ∈ tblG := List.forall_mem_cons.mpr ⟨⟨by decide, 3, by decide, by decide, tw755⟩, fun _ h => nomatch h⟩
        refine j_catch F FT (n := 1) 1 rfl rfl (by decide) tw741 (castOK _ (by decide)) (by decide) hp1 (k := 3) (As := [.int v1, .int v2, .int v3]) (rest := [.int 0, .ref (g.2.1 28)]) (x_X5_round l hst g hg v1 v2 v3 S _ _ hc7) gw_L_34 (by decide +kernel) ⟨Nat.le_of_ble_eq_true rfl, Nat.le_of_ble_eq_true rfl⟩ ⟨Nat.le_of_ble_eq_true rfl, Nat.le_of_ble_eq_true rfl⟩ rfl rfl rfl rfl (Nat.le_of_ble_eq_true rfl) dL_round_7 (fun q9 => ?_)
        show J p l e rmL_round s m args below meth c g A 6 (MQ below (QC g A (some (.int r)) S') args s 1 6 A) 1 6 19 [(0, .ref (g.2.1 0)), (1, .int v1), (2, .int v2), (3, .int v3), (4, .ref (g.2.1 28))] [.ref q9] S7
        refine j_astore F (lv' := [(5, .ref q9), (0, .ref (g.2.1 0)), (1, .int v1), (2, .int v2), (3, .int v3), (4, .ref (g.2.1 28))]) dL_round_19 (by decide) rfl ?_
        refine j_iconst F (v := 2) dL_round_21 (by decide) ?_
        exact j_iret_e F rfl dL_round_22 hm
      · cases hm
noncomputable def m_L_way (v1 : Int32) (v2 : Int32) (v3 : Int32) (S : Hs) : Option (Int32 × Hs) := bndX (m_X5_way v1 v2 v3 S) (fun r7 S7 => (gd (inb 0 1) (bnd (sO S7 (0 : Int32).toNatClampNeg r7.toInt64) fun S11 => (some ((0, S11)))))) (fun q S7 => if q = 3 then (some ((1, S7))) else (if q = 1 then (some ((2, S7))) else (none)))
set_option maxRecDepth 100000 in
set_option maxHeartbeats 4000000 in
theorem c_L_way (l : Launch) (hst : l.stackTraces = false) (g : GG) (hg : Inj g) (v1 : Int32) (v2 : Int32) (v3 : Int32)  (S : Hs) (r : Int32) (S' : Hs) (hm : m_L_way v1 v2 v3 S = some ((r, S'))) : CT l yL_way [.codeWith yL_way cL_way 6 (some .int) [(0, 12, 15, 28), (0, 12, 19, 13)]] rmL_way [.ref (g.2.1 0), .int v1, .int v2, .int v3, .ref (g.2.1 28)] g S (some (.int r)) S' := by
  unfold m_L_way at hm
  refine CT.of (cc := cL_way) (nL := 6) (ret := (some .int)) (lv := [(0, .ref (g.2.1 0)), (1, .int v1), (2, .int v2), (3, .int v3), (4, .ref (g.2.1 28))]) (by decide +kernel) hg (Nat.le_of_ble_eq_true rfl) rfl rfl rfl hst (fun p e s m args below meth c A F FT => ?_)
  replace F : Fx p s m meth c cL_way RL 6 (some .int) g A := F
  replace FT : FT9 l s c A [(0, 12, 15, 28), (0, 12, 19, 13)] := FT
  show J p l e rmL_way s m args below meth c g A 6 (MQ below (QC g A (some (.int r)) S') args s 1 6 A) 0 0 0 [(0, .ref (g.2.1 0)), (1, .int v1), (2, .int v2), (3, .int v3), (4, .ref (g.2.1 28))] [] S
  refine j_aload F 4 dL_way_0 rfl ?_
  refine j_iconst F (v := 0) dL_way_2 (by decide) ?_
  refine j_aload_n F 0 dL_way_3 rfl ?_
  refine j_iload_n F 1 dL_way_4 rfl ?_
  refine j_iload_n F 2 dL_way_5 rfl ?_
  refine j_iload_n F 3 dL_way_6 rfl ?_
  refine bndX_ok hm (fun r7 S7 hc7 hm => ?_) (fun q S7 hc7 hm => ?_)
  · refine j_callV F (n := 3) (As := [.int v1, .int v2, .int v3]) (rest := [.int 0, .ref (g.2.1 28)]) (c_X5_way l g hg v1 v2 v3 S r7 S7 hc7) gw_L_38 (by decide +kernel) ⟨Nat.le_of_ble_eq_true rfl, Nat.le_of_ble_eq_true rfl⟩ ⟨Nat.le_of_ble_eq_true rfl, Nat.le_of_ble_eq_true rfl⟩ rfl rfl rfl rfl (Nat.le_of_ble_eq_true rfl) dL_way_7 ?_
    show J p l e rmL_way s m args below meth c g A 6 (MQ below (QC g A (some (.int r)) S') args s 1 6 A) 0 0 10 [(0, .ref (g.2.1 0)), (1, .int v1), (2, .int v2), (3, .int v3), (4, .ref (g.2.1 28))] [.int r7, .int 0, .ref (g.2.1 28)] S7
    refine j_i2l F dL_way_10 ?_
    refine j_last F dL_way_11 hm (fun hm => ?_)
    refine j_bndS hm (fun S11 hm => ?_)
    refine j_goto F (tgt := 23) dL_way_12 (by decide) ?_
    refine j_iconst F (v := 0) dL_way_23 (by decide) ?_
    refine j_widen (k := 1) (n := 6) (by decide) (by decide) ?_
    exact j_iret_e F rfl dL_way_24 hm
  · refine swn_if hm (fun eqn hm => ?_) (fun _ hm => ?_)
    · subst eqn
      refine j_catch F FT (n := 3) 0 rfl rfl (by decide) tw755 (castOK _ (by decide)) (by decide) (by intro z hz; simp at hz) (k := 3) (As := [.int v1, .int v2, .int v3]) (rest := [.int 0, .ref (g.2.1 28)]) (x_X5_way l hst g hg v1 v2 v3 S _ _ hc7) gw_L_38 (by decide +kernel) ⟨Nat.le_of_ble_eq_true rfl, Nat.le_of_ble_eq_true rfl⟩ ⟨Nat.le_of_ble_eq_true rfl, Nat.le_of_ble_eq_true rfl⟩ rfl rfl rfl rfl (Nat.le_of_ble_eq_true rfl) dL_way_7 (fun q9 => ?_)
      show J p l e rmL_way s m args below meth c g A 6 (MQ below (QC g A (some (.int r)) S') args s 1 6 A) 1 6 15 [(0, .ref (g.2.1 0)), (1, .int v1), (2, .int v2), (3, .int v3), (4, .ref (g.2.1 28))] [.ref q9] S7
      refine j_astore F (lv' := [(5, .ref q9), (0, .ref (g.2.1 0)), (1, .int v1), (2, .int v2), (3, .int v3), (4, .ref (g.2.1 28))]) dL_way_15 (by decide) rfl ?_
      refine j_iconst F (v := 1) dL_way_17 (by decide) ?_
      exact j_iret_e F rfl dL_way_18 hm
    · refine swn_if hm (fun eqn hm => ?_) (fun _ hm => ?_)
      · subst eqn
        have hp1 : ∀ z ∈ ([(0, 12, 15, 28)] : List (Nat × Nat × Nat × Nat)), z.2.2.2 ≠ 0 ∧ ∃ n' ∈ [1, 2, 3], 1 ≠ n' ∧ Cond.classLink RL z.2.2.2 (exN n') ∈ tblG := List.forall_mem_cons.mpr ⟨⟨by decide, 3, by decide, by decide, tw755⟩, fun _ h => nomatch h⟩
        refine j_catch F FT (n := 1) 1 rfl rfl (by decide) tw741 (castOK _ (by decide)) (by decide) hp1 (k := 3) (As := [.int v1, .int v2, .int v3]) (rest := [.int 0, .ref (g.2.1 28)]) (x_X5_way l hst g hg v1 v2 v3 S _ _ hc7) gw_L_38 (by decide +kernel) ⟨Nat.le_of_ble_eq_true rfl, Nat.le_of_ble_eq_true rfl⟩ ⟨Nat.le_of_ble_eq_true rfl, Nat.le_of_ble_eq_true rfl⟩ rfl rfl rfl rfl (Nat.le_of_ble_eq_true rfl) dL_way_7 (fun q9 => ?_)
        show J p l e rmL_way s m args below meth c g A 6 (MQ below (QC g A (some (.int r)) S') args s 1 6 A) 1 6 19 [(0, .ref (g.2.1 0)), (1, .int v1), (2, .int v2), (3, .int v3), (4, .ref (g.2.1 28))] [.ref q9] S7
        refine j_astore F (lv' := [(5, .ref q9), (0, .ref (g.2.1 0)), (1, .int v1), (2, .int v2), (3, .int v3), (4, .ref (g.2.1 28))]) dL_way_19 (by decide) rfl ?_
        refine j_iconst F (v := 2) dL_way_21 (by decide) ?_
        exact j_iret_e F rfl dL_way_22 hm
      · cases hm
noncomputable def m_L_proof (v1 : Int32) (v2 : Int32) (v3 : Int32) (S : Hs) : Option (Int32 × Hs) := bndX (m_X5_proof v1 v2 v3 S) (fun r7 S7 => (gd (inb 0 1) (bnd (sO S7 (0 : Int32).toNatClampNeg r7.toInt64) fun S11 => (some ((0, S11)))))) (fun q S7 => if q = 3 then (some ((1, S7))) else (if q = 1 then (some ((2, S7))) else (none)))
set_option maxRecDepth 100000 in
set_option maxHeartbeats 4000000 in
theorem c_L_proof (l : Launch) (hst : l.stackTraces = false) (g : GG) (hg : Inj g) (v1 : Int32) (v2 : Int32) (v3 : Int32)  (S : Hs) (r : Int32) (S' : Hs) (hm : m_L_proof v1 v2 v3 S = some ((r, S'))) : CT l yL_proof [.codeWith yL_proof cL_proof 6 (some .int) [(0, 12, 15, 28), (0, 12, 19, 13)]] rmL_proof [.ref (g.2.1 0), .int v1, .int v2, .int v3, .ref (g.2.1 28)] g S (some (.int r)) S' := by
  unfold m_L_proof at hm
  refine CT.of (cc := cL_proof) (nL := 6) (ret := (some .int)) (lv := [(0, .ref (g.2.1 0)), (1, .int v1), (2, .int v2), (3, .int v3), (4, .ref (g.2.1 28))]) (by decide +kernel) hg (Nat.le_of_ble_eq_true rfl) rfl rfl rfl hst (fun p e s m args below meth c A F FT => ?_)
  replace F : Fx p s m meth c cL_proof RL 6 (some .int) g A := F
  replace FT : FT9 l s c A [(0, 12, 15, 28), (0, 12, 19, 13)] := FT
  show J p l e rmL_proof s m args below meth c g A 6 (MQ below (QC g A (some (.int r)) S') args s 1 6 A) 0 0 0 [(0, .ref (g.2.1 0)), (1, .int v1), (2, .int v2), (3, .int v3), (4, .ref (g.2.1 28))] [] S
  refine j_aload F 4 dL_proof_0 rfl ?_
  refine j_iconst F (v := 0) dL_proof_2 (by decide) ?_
  refine j_aload_n F 0 dL_proof_3 rfl ?_
  refine j_iload_n F 1 dL_proof_4 rfl ?_
  refine j_iload_n F 2 dL_proof_5 rfl ?_
  refine j_iload_n F 3 dL_proof_6 rfl ?_
  refine bndX_ok hm (fun r7 S7 hc7 hm => ?_) (fun q S7 hc7 hm => ?_)
  · refine j_callV F (n := 3) (As := [.int v1, .int v2, .int v3]) (rest := [.int 0, .ref (g.2.1 28)]) (c_X5_proof l g hg v1 v2 v3 S r7 S7 hc7) gw_L_41 (by decide +kernel) ⟨Nat.le_of_ble_eq_true rfl, Nat.le_of_ble_eq_true rfl⟩ ⟨Nat.le_of_ble_eq_true rfl, Nat.le_of_ble_eq_true rfl⟩ rfl rfl rfl rfl (Nat.le_of_ble_eq_true rfl) dL_proof_7 ?_
    show J p l e rmL_proof s m args below meth c g A 6 (MQ below (QC g A (some (.int r)) S') args s 1 6 A) 0 0 10 [(0, .ref (g.2.1 0)), (1, .int v1), (2, .int v2), (3, .int v3), (4, .ref (g.2.1 28))] [.int r7, .int 0, .ref (g.2.1 28)] S7
    refine j_i2l F dL_proof_10 ?_
    refine j_last F dL_proof_11 hm (fun hm => ?_)
    refine j_bndS hm (fun S11 hm => ?_)
    refine j_goto F (tgt := 23) dL_proof_12 (by decide) ?_
    refine j_iconst F (v := 0) dL_proof_23 (by decide) ?_
    refine j_widen (k := 1) (n := 6) (by decide) (by decide) ?_
    exact j_iret_e F rfl dL_proof_24 hm
  · refine swn_if hm (fun eqn hm => ?_) (fun _ hm => ?_)
    · subst eqn
      refine j_catch F FT (n := 3) 0 rfl rfl (by decide) tw755 (castOK _ (by decide)) (by decide) (by intro z hz; simp at hz) (k := 3) (As := [.int v1, .int v2, .int v3]) (rest := [.int 0, .ref (g.2.1 28)]) (x_X5_proof l hst g hg v1 v2 v3 S _ _ hc7) gw_L_41 (by decide +kernel) ⟨Nat.le_of_ble_eq_true rfl, Nat.le_of_ble_eq_true rfl⟩ ⟨Nat.le_of_ble_eq_true rfl, Nat.le_of_ble_eq_true rfl⟩ rfl rfl rfl rfl (Nat.le_of_ble_eq_true rfl) dL_proof_7 (fun q9 => ?_)
      show J p l e rmL_proof s m args below meth c g A 6 (MQ below (QC g A (some (.int r)) S') args s 1 6 A) 1 6 15 [(0, .ref (g.2.1 0)), (1, .int v1), (2, .int v2), (3, .int v3), (4, .ref (g.2.1 28))] [.ref q9] S7
      refine j_astore F (lv' := [(5, .ref q9), (0, .ref (g.2.1 0)), (1, .int v1), (2, .int v2), (3, .int v3), (4, .ref (g.2.1 28))]) dL_proof_15 (by decide) rfl ?_
      refine j_iconst F (v := 1) dL_proof_17 (by decide) ?_
      exact j_iret_e F rfl dL_proof_18 hm
    · refine swn_if hm (fun eqn hm => ?_) (fun _ hm => ?_)
      · subst eqn
        have hp1 : ∀ z ∈ ([(0, 12, 15, 28)] : List (Nat × Nat × Nat × Nat)), z.2.2.2 ≠ 0 ∧ ∃ n' ∈ [1, 2, 3], 1 ≠ n' ∧ Cond.classLink RL z.2.2.2 (exN n') ∈ tblG := List.forall_mem_cons.mpr ⟨⟨by decide, 3, by decide, by decide, tw755⟩, fun _ h => nomatch h⟩
        refine j_catch F FT (n := 1) 1 rfl rfl (by decide) tw741 (castOK _ (by decide)) (by decide) hp1 (k := 3) (As := [.int v1, .int v2, .int v3]) (rest := [.int 0, .ref (g.2.1 28)]) (x_X5_proof l hst g hg v1 v2 v3 S _ _ hc7) gw_L_41 (by decide +kernel) ⟨Nat.le_of_ble_eq_true rfl, Nat.le_of_ble_eq_true rfl⟩ ⟨Nat.le_of_ble_eq_true rfl, Nat.le_of_ble_eq_true rfl⟩ rfl rfl rfl rfl (Nat.le_of_ble_eq_true rfl) dL_proof_7 (fun q9 => ?_)
        show J p l e rmL_proof s m args below meth c g A 6 (MQ below (QC g A (some (.int r)) S') args s 1 6 A) 1 6 19 [(0, .ref (g.2.1 0)), (1, .int v1), (2, .int v2), (3, .int v3), (4, .ref (g.2.1 28))] [.ref q9] S7
        refine j_astore F (lv' := [(5, .ref q9), (0, .ref (g.2.1 0)), (1, .int v1), (2, .int v2), (3, .int v3), (4, .ref (g.2.1 28))]) dL_proof_19 (by decide) rfl ?_
        refine j_iconst F (v := 2) dL_proof_21 (by decide) ?_
        exact j_iret_e F rfl dL_proof_22 hm
      · cases hm
noncomputable def m_L_addThing (v1 : Int32) (S : Hs) : Option (Int32 × Hs) := bndX (m_X5_addThing v1 S) (fun r4 S4 => (gd (inb 0 1) (bnd (sO S4 (0 : Int32).toNatClampNeg r4.toInt64) fun S8 => (some ((0, S8)))))) (fun q S4 => if q = 2 then (some ((1, S4))) else (none))
set_option maxRecDepth 100000 in
set_option maxHeartbeats 4000000 in
theorem c_L_addThing (l : Launch) (hst : l.stackTraces = false) (g : GG) (hg : Inj g) (v1 : Int32)  (S : Hs) (r : Int32) (S' : Hs) (hm : m_L_addThing v1 S = some ((r, S'))) : CT l yL_addThing [.codeWith yL_addThing cL_addThing 4 (some .int) [(0, 9, 12, 15)]] rmL_addThing [.ref (g.2.1 0), .int v1, .ref (g.2.1 28)] g S (some (.int r)) S' := by
  unfold m_L_addThing at hm
  refine CT.of (cc := cL_addThing) (nL := 4) (ret := (some .int)) (lv := [(0, .ref (g.2.1 0)), (1, .int v1), (2, .ref (g.2.1 28))]) (by decide +kernel) hg (Nat.le_of_ble_eq_true rfl) rfl rfl rfl hst (fun p e s m args below meth c A F FT => ?_)
  replace F : Fx p s m meth c cL_addThing RL 4 (some .int) g A := F
  replace FT : FT9 l s c A [(0, 9, 12, 15)] := FT
  show J p l e rmL_addThing s m args below meth c g A 4 (MQ below (QC g A (some (.int r)) S') args s 1 6 A) 0 0 0 [(0, .ref (g.2.1 0)), (1, .int v1), (2, .ref (g.2.1 28))] [] S
  refine j_aload_n F 2 dL_addThing_0 rfl ?_
  refine j_iconst F (v := 0) dL_addThing_1 (by decide) ?_
  refine j_aload_n F 0 dL_addThing_2 rfl ?_
  refine j_iload_n F 1 dL_addThing_3 rfl ?_
  refine bndX_ok hm (fun r4 S4 hc4 hm => ?_) (fun q S4 hc4 hm => ?_)
  · refine j_callV F (n := 1) (As := [.int v1]) (rest := [.int 0, .ref (g.2.1 28)]) (c_X5_addThing l g hg v1 S r4 S4 hc4) gw_L_44 (by decide +kernel) ⟨Nat.le_of_ble_eq_true rfl, Nat.le_of_ble_eq_true rfl⟩ ⟨Nat.le_of_ble_eq_true rfl, Nat.le_of_ble_eq_true rfl⟩ rfl rfl rfl rfl (Nat.le_of_ble_eq_true rfl) dL_addThing_4 ?_
    show J p l e rmL_addThing s m args below meth c g A 4 (MQ below (QC g A (some (.int r)) S') args s 1 6 A) 0 0 7 [(0, .ref (g.2.1 0)), (1, .int v1), (2, .ref (g.2.1 28))] [.int r4, .int 0, .ref (g.2.1 28)] S4
    refine j_i2l F dL_addThing_7 ?_
    refine j_last F dL_addThing_8 hm (fun hm => ?_)
    refine j_bndS hm (fun S8 hm => ?_)
    refine j_goto F (tgt := 15) dL_addThing_9 (by decide) ?_
    refine j_iconst F (v := 0) dL_addThing_15 (by decide) ?_
    refine j_widen (k := 1) (n := 6) (by decide) (by decide) ?_
    exact j_iret_e F rfl dL_addThing_16 hm
  · refine swn_if hm (fun eqn hm => ?_) (fun _ hm => ?_)
    · subst eqn
      refine j_catch F FT (n := 2) 0 rfl rfl (by decide) tw742 (castOK _ (by decide)) (by decide) (by intro z hz; simp at hz) (k := 1) (As := [.int v1]) (rest := [.int 0, .ref (g.2.1 28)]) (x_X5_addThing l hst g hg v1 S _ _ hc4) gw_L_44 (by decide +kernel) ⟨Nat.le_of_ble_eq_true rfl, Nat.le_of_ble_eq_true rfl⟩ ⟨Nat.le_of_ble_eq_true rfl, Nat.le_of_ble_eq_true rfl⟩ rfl rfl rfl rfl (Nat.le_of_ble_eq_true rfl) dL_addThing_4 (fun q9 => ?_)
      show J p l e rmL_addThing s m args below meth c g A 4 (MQ below (QC g A (some (.int r)) S') args s 1 6 A) 1 6 12 [(0, .ref (g.2.1 0)), (1, .int v1), (2, .ref (g.2.1 28))] [.ref q9] S4
      refine j_astore_n F (lv' := [(3, .ref q9), (0, .ref (g.2.1 0)), (1, .int v1), (2, .ref (g.2.1 28))]) dL_addThing_12 (by decide) rfl ?_
      refine j_iconst F (v := 1) dL_addThing_13 (by decide) ?_
      exact j_iret_e F rfl dL_addThing_14 hm
    · cases hm
noncomputable def m_L_removeThing (v1 : Int32) (S : Hs) : Option (Int32 × Hs) := bndX (m_X5_removeThing v1 S) (fun r4 S4 => (gd (inb 0 1) (bnd (sO S4 (0 : Int32).toNatClampNeg r4.toInt64) fun S8 => (some ((0, S8)))))) (fun q S4 => if q = 3 then (some ((1, S4))) else (none))
set_option maxRecDepth 100000 in
set_option maxHeartbeats 4000000 in
theorem c_L_removeThing (l : Launch) (hst : l.stackTraces = false) (g : GG) (hg : Inj g) (v1 : Int32)  (S : Hs) (r : Int32) (S' : Hs) (hm : m_L_removeThing v1 S = some ((r, S'))) : CT l yL_removeThing [.codeWith yL_removeThing cL_removeThing 4 (some .int) [(0, 9, 12, 28)]] rmL_removeThing [.ref (g.2.1 0), .int v1, .ref (g.2.1 28)] g S (some (.int r)) S' := by
  unfold m_L_removeThing at hm
  refine CT.of (cc := cL_removeThing) (nL := 4) (ret := (some .int)) (lv := [(0, .ref (g.2.1 0)), (1, .int v1), (2, .ref (g.2.1 28))]) (by decide +kernel) hg (Nat.le_of_ble_eq_true rfl) rfl rfl rfl hst (fun p e s m args below meth c A F FT => ?_)
  replace F : Fx p s m meth c cL_removeThing RL 4 (some .int) g A := F
  replace FT : FT9 l s c A [(0, 9, 12, 28)] := FT
  show J p l e rmL_removeThing s m args below meth c g A 4 (MQ below (QC g A (some (.int r)) S') args s 1 6 A) 0 0 0 [(0, .ref (g.2.1 0)), (1, .int v1), (2, .ref (g.2.1 28))] [] S
  refine j_aload_n F 2 dL_removeThing_0 rfl ?_
  refine j_iconst F (v := 0) dL_removeThing_1 (by decide) ?_
  refine j_aload_n F 0 dL_removeThing_2 rfl ?_
  refine j_iload_n F 1 dL_removeThing_3 rfl ?_
  refine bndX_ok hm (fun r4 S4 hc4 hm => ?_) (fun q S4 hc4 hm => ?_)
  · refine j_callV F (n := 1) (As := [.int v1]) (rest := [.int 0, .ref (g.2.1 28)]) (c_X5_removeThing l g hg v1 S r4 S4 hc4) gw_L_48 (by decide +kernel) ⟨Nat.le_of_ble_eq_true rfl, Nat.le_of_ble_eq_true rfl⟩ ⟨Nat.le_of_ble_eq_true rfl, Nat.le_of_ble_eq_true rfl⟩ rfl rfl rfl rfl (Nat.le_of_ble_eq_true rfl) dL_removeThing_4 ?_
    show J p l e rmL_removeThing s m args below meth c g A 4 (MQ below (QC g A (some (.int r)) S') args s 1 6 A) 0 0 7 [(0, .ref (g.2.1 0)), (1, .int v1), (2, .ref (g.2.1 28))] [.int r4, .int 0, .ref (g.2.1 28)] S4
    refine j_i2l F dL_removeThing_7 ?_
    refine j_last F dL_removeThing_8 hm (fun hm => ?_)
    refine j_bndS hm (fun S8 hm => ?_)
    refine j_goto F (tgt := 15) dL_removeThing_9 (by decide) ?_
    refine j_iconst F (v := 0) dL_removeThing_15 (by decide) ?_
    refine j_widen (k := 1) (n := 6) (by decide) (by decide) ?_
    exact j_iret_e F rfl dL_removeThing_16 hm
  · refine swn_if hm (fun eqn hm => ?_) (fun _ hm => ?_)
    · subst eqn
      refine j_catch F FT (n := 3) 0 rfl rfl (by decide) tw755 (castOK _ (by decide)) (by decide) (by intro z hz; simp at hz) (k := 1) (As := [.int v1]) (rest := [.int 0, .ref (g.2.1 28)]) (x_X5_removeThing l hst g hg v1 S _ _ hc4) gw_L_48 (by decide +kernel) ⟨Nat.le_of_ble_eq_true rfl, Nat.le_of_ble_eq_true rfl⟩ ⟨Nat.le_of_ble_eq_true rfl, Nat.le_of_ble_eq_true rfl⟩ rfl rfl rfl rfl (Nat.le_of_ble_eq_true rfl) dL_removeThing_4 (fun q9 => ?_)
      show J p l e rmL_removeThing s m args below meth c g A 4 (MQ below (QC g A (some (.int r)) S') args s 1 6 A) 1 6 12 [(0, .ref (g.2.1 0)), (1, .int v1), (2, .ref (g.2.1 28))] [.ref q9] S4
      refine j_astore_n F (lv' := [(3, .ref q9), (0, .ref (g.2.1 0)), (1, .int v1), (2, .ref (g.2.1 28))]) dL_removeThing_12 (by decide) rfl ?_
      refine j_iconst F (v := 1) dL_removeThing_13 (by decide) ?_
      exact j_iret_e F rfl dL_removeThing_14 hm
    · cases hm
noncomputable def m_L_wake (v1 : Int32) (v2 : Int32) (S : Hs) : Option (Int32 × Hs) := bndX (m_X5_wake v1 v2 S) (fun r5 S5 => (gd (inb 0 1) (bnd (sO S5 (0 : Int32).toNatClampNeg r5.toInt64) fun S9 => (some ((0, S9)))))) (fun q S5 => if q = 3 then (some ((1, S5))) else (if q = 2 then (some ((2, S5))) else (none)))
set_option maxRecDepth 100000 in
set_option maxHeartbeats 4000000 in
theorem c_L_wake (l : Launch) (hst : l.stackTraces = false) (g : GG) (hg : Inj g) (v1 : Int32) (v2 : Int32)  (S : Hs) (r : Int32) (S' : Hs) (hm : m_L_wake v1 v2 S = some ((r, S'))) : CT l yL_wake [.codeWith yL_wake cL_wake 5 (some .int) [(0, 10, 13, 28), (0, 10, 17, 15)]] rmL_wake [.ref (g.2.1 0), .int v1, .int v2, .ref (g.2.1 28)] g S (some (.int r)) S' := by
  unfold m_L_wake at hm
  refine CT.of (cc := cL_wake) (nL := 5) (ret := (some .int)) (lv := [(0, .ref (g.2.1 0)), (1, .int v1), (2, .int v2), (3, .ref (g.2.1 28))]) (by decide +kernel) hg (Nat.le_of_ble_eq_true rfl) rfl rfl rfl hst (fun p e s m args below meth c A F FT => ?_)
  replace F : Fx p s m meth c cL_wake RL 5 (some .int) g A := F
  replace FT : FT9 l s c A [(0, 10, 13, 28), (0, 10, 17, 15)] := FT
  show J p l e rmL_wake s m args below meth c g A 5 (MQ below (QC g A (some (.int r)) S') args s 1 6 A) 0 0 0 [(0, .ref (g.2.1 0)), (1, .int v1), (2, .int v2), (3, .ref (g.2.1 28))] [] S
  refine j_aload_n F 3 dL_wake_0 rfl ?_
  refine j_iconst F (v := 0) dL_wake_1 (by decide) ?_
  refine j_aload_n F 0 dL_wake_2 rfl ?_
  refine j_iload_n F 1 dL_wake_3 rfl ?_
  refine j_iload_n F 2 dL_wake_4 rfl ?_
  refine bndX_ok hm (fun r5 S5 hc5 hm => ?_) (fun q S5 hc5 hm => ?_)
  · refine j_callV F (n := 2) (As := [.int v1, .int v2]) (rest := [.int 0, .ref (g.2.1 28)]) (c_X5_wake l g hg v1 v2 S r5 S5 hc5) gw_L_51 (by decide +kernel) ⟨Nat.le_of_ble_eq_true rfl, Nat.le_of_ble_eq_true rfl⟩ ⟨Nat.le_of_ble_eq_true rfl, Nat.le_of_ble_eq_true rfl⟩ rfl rfl rfl rfl (Nat.le_of_ble_eq_true rfl) dL_wake_5 ?_
    show J p l e rmL_wake s m args below meth c g A 5 (MQ below (QC g A (some (.int r)) S') args s 1 6 A) 0 0 8 [(0, .ref (g.2.1 0)), (1, .int v1), (2, .int v2), (3, .ref (g.2.1 28))] [.int r5, .int 0, .ref (g.2.1 28)] S5
    refine j_i2l F dL_wake_8 ?_
    refine j_last F dL_wake_9 hm (fun hm => ?_)
    refine j_bndS hm (fun S9 hm => ?_)
    refine j_goto F (tgt := 21) dL_wake_10 (by decide) ?_
    refine j_iconst F (v := 0) dL_wake_21 (by decide) ?_
    refine j_widen (k := 1) (n := 6) (by decide) (by decide) ?_
    exact j_iret_e F rfl dL_wake_22 hm
  · refine swn_if hm (fun eqn hm => ?_) (fun _ hm => ?_)
    · subst eqn
      refine j_catch F FT (n := 3) 0 rfl rfl (by decide) tw755 (castOK _ (by decide)) (by decide) (by intro z hz; simp at hz) (k := 2) (As := [.int v1, .int v2]) (rest := [.int 0, .ref (g.2.1 28)]) (x_X5_wake l hst g hg v1 v2 S _ _ hc5) gw_L_51 (by decide +kernel) ⟨Nat.le_of_ble_eq_true rfl, Nat.le_of_ble_eq_true rfl⟩ ⟨Nat.le_of_ble_eq_true rfl, Nat.le_of_ble_eq_true rfl⟩ rfl rfl rfl rfl (Nat.le_of_ble_eq_true rfl) dL_wake_5 (fun q9 => ?_)
      show J p l e rmL_wake s m args below meth c g A 5 (MQ below (QC g A (some (.int r)) S') args s 1 6 A) 1 6 13 [(0, .ref (g.2.1 0)), (1, .int v1), (2, .int v2), (3, .ref (g.2.1 28))] [.ref q9] S5
      refine j_astore F (lv' := [(4, .ref q9), (0, .ref (g.2.1 0)), (1, .int v1), (2, .int v2), (3, .ref (g.2.1 28))]) dL_wake_13 (by decide) rfl ?_
      refine j_iconst F (v := 1) dL_wake_15 (by decide) ?_
      exact j_iret_e F rfl dL_wake_16 hm
    · refine swn_if hm (fun eqn hm => ?_) (fun _ hm => ?_)
      · subst eqn
        have hp1 : ∀ z ∈ ([(0, 10, 13, 28)] : List (Nat × Nat × Nat × Nat)), z.2.2.2 ≠ 0 ∧ ∃ n' ∈ [1, 2, 3], 2 ≠ n' ∧ Cond.classLink RL z.2.2.2 (exN n') ∈ tblG := List.forall_mem_cons.mpr ⟨⟨by decide, 3, by decide, by decide, tw755⟩, fun _ h => nomatch h⟩
        refine j_catch F FT (n := 2) 1 rfl rfl (by decide) tw742 (castOK _ (by decide)) (by decide) hp1 (k := 2) (As := [.int v1, .int v2]) (rest := [.int 0, .ref (g.2.1 28)]) (x_X5_wake l hst g hg v1 v2 S _ _ hc5) gw_L_51 (by decide +kernel) ⟨Nat.le_of_ble_eq_true rfl, Nat.le_of_ble_eq_true rfl⟩ ⟨Nat.le_of_ble_eq_true rfl, Nat.le_of_ble_eq_true rfl⟩ rfl rfl rfl rfl (Nat.le_of_ble_eq_true rfl) dL_wake_5 (fun q9 => ?_)
        show J p l e rmL_wake s m args below meth c g A 5 (MQ below (QC g A (some (.int r)) S') args s 1 6 A) 1 6 17 [(0, .ref (g.2.1 0)), (1, .int v1), (2, .int v2), (3, .ref (g.2.1 28))] [.ref q9] S5
        refine j_astore F (lv' := [(4, .ref q9), (0, .ref (g.2.1 0)), (1, .int v1), (2, .int v2), (3, .ref (g.2.1 28))]) dL_wake_17 (by decide) rfl ?_
        refine j_iconst F (v := 2) dL_wake_19 (by decide) ?_
        exact j_iret_e F rfl dL_wake_20 hm
      · cases hm
def m_L_set_J20 (w0 : Int64) (w1 : Int32) (S : Hs) : Option (Int32 × Hs) := gd (inb w1 1) (bnd (sO S w1.toNatClampNeg w0) fun S20 => (some ((0, S20))))
noncomputable def m_L_set (v1 : Int32) (v2 : Int32) (v3 : Int32) (v4 : Int32) (S : Hs) : Option (Int32 × Hs) := bndX (m_X5_set v1 v2 v3 v4 S) (fun r9 S9 => (if r9 = 0 then (m_L_set_J20 0 0 S9) else (m_L_set_J20 1 0 S9))) (fun q S9 => if q = 3 then (some ((1, S9))) else (if q = 1 then (some ((2, S9))) else (if q = 2 then (some ((3, S9))) else (none))))
set_option maxRecDepth 100000 in
set_option maxHeartbeats 4000000 in
theorem c_L_set (l : Launch) (hst : l.stackTraces = false) (g : GG) (hg : Inj g) (v1 : Int32) (v2 : Int32) (v3 : Int32) (v4 : Int32)  (S : Hs) (r : Int32) (S' : Hs) (hm : m_L_set v1 v2 v3 v4 S = some ((r, S'))) : CT l yL_set [.codeWith yL_set cL_set 7 (some .int) [(0, 21, 24, 28), (0, 21, 28, 13), (0, 21, 32, 15)]] rmL_set [.ref (g.2.1 0), .int v1, .int v2, .int v3, .int v4, .ref (g.2.1 28)] g S (some (.int r)) S' := by
  unfold m_L_set at hm
  refine CT.of (cc := cL_set) (nL := 7) (ret := (some .int)) (lv := [(0, .ref (g.2.1 0)), (1, .int v1), (2, .int v2), (3, .int v3), (4, .int v4), (5, .ref (g.2.1 28))]) (by decide +kernel) hg (Nat.le_of_ble_eq_true rfl) rfl rfl rfl hst (fun p e s m args below meth c A F FT => ?_)
  replace F : Fx p s m meth c cL_set RL 7 (some .int) g A := F
  replace FT : FT9 l s c A [(0, 21, 24, 28), (0, 21, 28, 13), (0, 21, 32, 15)] := FT
  show J p l e rmL_set s m args below meth c g A 7 (MQ below (QC g A (some (.int r)) S') args s 1 6 A) 0 0 0 [(0, .ref (g.2.1 0)), (1, .int v1), (2, .int v2), (3, .int v3), (4, .int v4), (5, .ref (g.2.1 28))] [] S
  have hj20 : ∀ (w0 : Int64) (w1 : Int32) (S : Hs), m_L_set_J20 w0 w1 S = some ((r, S')) → J p l e rmL_set s m args below meth c g A 7 (MQ below (QC g A (some (.int r)) S') args s 1 6 A) 0 0 20 [] [.long w0, .int w1, .ref (g.2.1 28)] S := by
    intro w0 w1 S hm
    unfold m_L_set_J20 at hm
    refine j_last F dL_set_20 hm (fun hm => ?_)
    refine j_bndS hm (fun S20 hm => ?_)
    refine j_goto F (tgt := 36) dL_set_21 (by decide) ?_
    refine j_iconst F (v := 0) dL_set_36 (by decide) ?_
    refine j_widen (k := 1) (n := 6) (by decide) (by decide) ?_
    exact j_iret_e F rfl dL_set_37 hm
  refine j_aload F 5 dL_set_0 rfl ?_
  refine j_iconst F (v := 0) dL_set_2 (by decide) ?_
  refine j_aload_n F 0 dL_set_3 rfl ?_
  refine j_iload_n F 1 dL_set_4 rfl ?_
  refine j_iload_n F 2 dL_set_5 rfl ?_
  refine j_iload_n F 3 dL_set_6 rfl ?_
  refine j_iload F 4 dL_set_7 rfl ?_
  refine bndX_ok hm (fun r9 S9 hc9 hm => ?_) (fun q S9 hc9 hm => ?_)
  · refine j_callV F (n := 4) (As := [.int v1, .int v2, .int v3, .int v4]) (rest := [.int 0, .ref (g.2.1 28)]) (c_X5_set l g hg v1 v2 v3 v4 S r9 S9 hc9) gw_L_55 (by decide +kernel) ⟨Nat.le_of_ble_eq_true rfl, Nat.le_of_ble_eq_true rfl⟩ ⟨Nat.le_of_ble_eq_true rfl, Nat.le_of_ble_eq_true rfl⟩ rfl rfl rfl rfl (Nat.le_of_ble_eq_true rfl) dL_set_9 ?_
    show J p l e rmL_set s m args below meth c g A 7 (MQ below (QC g A (some (.int r)) S') args s 1 6 A) 0 0 12 [(0, .ref (g.2.1 0)), (1, .int v1), (2, .int v2), (3, .int v3), (4, .int v4), (5, .ref (g.2.1 28))] [.int r9, .int 0, .ref (g.2.1 28)] S9
    refine j_if_eq F (tgt := 19) dL_set_12 (by decide) hm (fun _ hm => ?_) (fun _ hm => ?_)
    · refine j_lconst F (v := 0) dL_set_19 (by decide) ?_
      refine j_sub [] rfl ?_
      exact hj20 0 0 S9  hm
    · refine j_lconst F (v := 1) dL_set_15 (by decide) ?_
      refine j_goto F (tgt := 20) dL_set_16 (by decide) ?_
      refine j_sub [] rfl ?_
      exact hj20 1 0 S9  hm
  · refine swn_if hm (fun eqn hm => ?_) (fun _ hm => ?_)
    · subst eqn
      refine j_catch F FT (n := 3) 0 rfl rfl (by decide) tw755 (castOK _ (by decide)) (by decide) (by intro z hz; simp at hz) (k := 4) (As := [.int v1, .int v2, .int v3, .int v4]) (rest := [.int 0, .ref (g.2.1 28)]) (x_X5_set l hst g hg v1 v2 v3 v4 S _ _ hc9) gw_L_55 (by decide +kernel) ⟨Nat.le_of_ble_eq_true rfl, Nat.le_of_ble_eq_true rfl⟩ ⟨Nat.le_of_ble_eq_true rfl, Nat.le_of_ble_eq_true rfl⟩ rfl rfl rfl rfl (Nat.le_of_ble_eq_true rfl) dL_set_9 (fun q9 => ?_)
      show J p l e rmL_set s m args below meth c g A 7 (MQ below (QC g A (some (.int r)) S') args s 1 6 A) 1 6 24 [(0, .ref (g.2.1 0)), (1, .int v1), (2, .int v2), (3, .int v3), (4, .int v4), (5, .ref (g.2.1 28))] [.ref q9] S9
      refine j_astore F (lv' := [(6, .ref q9), (0, .ref (g.2.1 0)), (1, .int v1), (2, .int v2), (3, .int v3), (4, .int v4), (5, .ref (g.2.1 28))]) dL_set_24 (by decide) rfl ?_
      refine j_iconst F (v := 1) dL_set_26 (by decide) ?_
      exact j_iret_e F rfl dL_set_27 hm
    · refine swn_if hm (fun eqn hm => ?_) (fun _ hm => ?_)
      · subst eqn
        have hp1 : ∀ z ∈ ([(0, 21, 24, 28)] : List (Nat × Nat × Nat × Nat)), z.2.2.2 ≠ 0 ∧ ∃ n' ∈ [1, 2, 3], 1 ≠ n' ∧ Cond.classLink RL z.2.2.2 (exN n') ∈ tblG := List.forall_mem_cons.mpr ⟨⟨by decide, 3, by decide, by decide, tw755⟩, fun _ h => nomatch h⟩
        refine j_catch F FT (n := 1) 1 rfl rfl (by decide) tw741 (castOK _ (by decide)) (by decide) hp1 (k := 4) (As := [.int v1, .int v2, .int v3, .int v4]) (rest := [.int 0, .ref (g.2.1 28)]) (x_X5_set l hst g hg v1 v2 v3 v4 S _ _ hc9) gw_L_55 (by decide +kernel) ⟨Nat.le_of_ble_eq_true rfl, Nat.le_of_ble_eq_true rfl⟩ ⟨Nat.le_of_ble_eq_true rfl, Nat.le_of_ble_eq_true rfl⟩ rfl rfl rfl rfl (Nat.le_of_ble_eq_true rfl) dL_set_9 (fun q9 => ?_)
        show J p l e rmL_set s m args below meth c g A 7 (MQ below (QC g A (some (.int r)) S') args s 1 6 A) 1 6 28 [(0, .ref (g.2.1 0)), (1, .int v1), (2, .int v2), (3, .int v3), (4, .int v4), (5, .ref (g.2.1 28))] [.ref q9] S9
        refine j_astore F (lv' := [(6, .ref q9), (0, .ref (g.2.1 0)), (1, .int v1), (2, .int v2), (3, .int v3), (4, .int v4), (5, .ref (g.2.1 28))]) dL_set_28 (by decide) rfl ?_
        refine j_iconst F (v := 2) dL_set_30 (by decide) ?_
        exact j_iret_e F rfl dL_set_31 hm
      · refine swn_if hm (fun eqn hm => ?_) (fun _ hm => ?_)
        · subst eqn
          have hp2 : ∀ z ∈ ([(0, 21, 24, 28), (0, 21, 28, 13)] : List (Nat × Nat × Nat × Nat)), z.2.2.2 ≠ 0 ∧ ∃ n' ∈ [1, 2, 3], 2 ≠ n' ∧ Cond.classLink RL z.2.2.2 (exN n') ∈ tblG := List.forall_mem_cons.mpr ⟨⟨by decide, 3, by decide, by decide, tw755⟩, List.forall_mem_cons.mpr ⟨⟨by decide, 1, by decide, by decide, tw741⟩, fun _ h => nomatch h⟩⟩
          refine j_catch F FT (n := 2) 2 rfl rfl (by decide) tw742 (castOK _ (by decide)) (by decide) hp2 (k := 4) (As := [.int v1, .int v2, .int v3, .int v4]) (rest := [.int 0, .ref (g.2.1 28)]) (x_X5_set l hst g hg v1 v2 v3 v4 S _ _ hc9) gw_L_55 (by decide +kernel) ⟨Nat.le_of_ble_eq_true rfl, Nat.le_of_ble_eq_true rfl⟩ ⟨Nat.le_of_ble_eq_true rfl, Nat.le_of_ble_eq_true rfl⟩ rfl rfl rfl rfl (Nat.le_of_ble_eq_true rfl) dL_set_9 (fun q9 => ?_)
          show J p l e rmL_set s m args below meth c g A 7 (MQ below (QC g A (some (.int r)) S') args s 1 6 A) 1 6 32 [(0, .ref (g.2.1 0)), (1, .int v1), (2, .int v2), (3, .int v3), (4, .int v4), (5, .ref (g.2.1 28))] [.ref q9] S9
          refine j_astore F (lv' := [(6, .ref q9), (0, .ref (g.2.1 0)), (1, .int v1), (2, .int v2), (3, .int v3), (4, .int v4), (5, .ref (g.2.1 28))]) dL_set_32 (by decide) rfl ?_
          refine j_iconst F (v := 3) dL_set_34 (by decide) ?_
          exact j_iret_e F rfl dL_set_35 hm
        · cases hm
noncomputable def m_L_take (v1 : Int32) (v2 : Int32) (v3 : Int32) (v4 : Int32) (S : Hs) : Option (Int32 × Hs) := bndX (m_X5_take v1 v2 v3 v4 S) (fun r9 S9 => (gd (inb 0 1) (bnd (sO S9 (0 : Int32).toNatClampNeg r9.toInt64) fun S13 => (some ((0, S13)))))) (fun q S9 => if q = 3 then (some ((1, S9))) else (if q = 1 then (some ((2, S9))) else (if q = 2 then (some ((3, S9))) else (none))))
set_option maxRecDepth 100000 in
set_option maxHeartbeats 4000000 in
theorem c_L_take (l : Launch) (hst : l.stackTraces = false) (g : GG) (hg : Inj g) (v1 : Int32) (v2 : Int32) (v3 : Int32) (v4 : Int32)  (S : Hs) (r : Int32) (S' : Hs) (hm : m_L_take v1 v2 v3 v4 S = some ((r, S'))) : CT l yL_take [.codeWith yL_take cL_take 7 (some .int) [(0, 14, 17, 28), (0, 14, 21, 13), (0, 14, 25, 15)]] rmL_take [.ref (g.2.1 0), .int v1, .int v2, .int v3, .int v4, .ref (g.2.1 28)] g S (some (.int r)) S' := by
  unfold m_L_take at hm
  refine CT.of (cc := cL_take) (nL := 7) (ret := (some .int)) (lv := [(0, .ref (g.2.1 0)), (1, .int v1), (2, .int v2), (3, .int v3), (4, .int v4), (5, .ref (g.2.1 28))]) (by decide +kernel) hg (Nat.le_of_ble_eq_true rfl) rfl rfl rfl hst (fun p e s m args below meth c A F FT => ?_)
  replace F : Fx p s m meth c cL_take RL 7 (some .int) g A := F
  replace FT : FT9 l s c A [(0, 14, 17, 28), (0, 14, 21, 13), (0, 14, 25, 15)] := FT
  show J p l e rmL_take s m args below meth c g A 7 (MQ below (QC g A (some (.int r)) S') args s 1 6 A) 0 0 0 [(0, .ref (g.2.1 0)), (1, .int v1), (2, .int v2), (3, .int v3), (4, .int v4), (5, .ref (g.2.1 28))] [] S
  refine j_aload F 5 dL_take_0 rfl ?_
  refine j_iconst F (v := 0) dL_take_2 (by decide) ?_
  refine j_aload_n F 0 dL_take_3 rfl ?_
  refine j_iload_n F 1 dL_take_4 rfl ?_
  refine j_iload_n F 2 dL_take_5 rfl ?_
  refine j_iload_n F 3 dL_take_6 rfl ?_
  refine j_iload F 4 dL_take_7 rfl ?_
  refine bndX_ok hm (fun r9 S9 hc9 hm => ?_) (fun q S9 hc9 hm => ?_)
  · refine j_callV F (n := 4) (As := [.int v1, .int v2, .int v3, .int v4]) (rest := [.int 0, .ref (g.2.1 28)]) (c_X5_take l g hg v1 v2 v3 v4 S r9 S9 hc9) gw_L_59 (by decide +kernel) ⟨Nat.le_of_ble_eq_true rfl, Nat.le_of_ble_eq_true rfl⟩ ⟨Nat.le_of_ble_eq_true rfl, Nat.le_of_ble_eq_true rfl⟩ rfl rfl rfl rfl (Nat.le_of_ble_eq_true rfl) dL_take_9 ?_
    show J p l e rmL_take s m args below meth c g A 7 (MQ below (QC g A (some (.int r)) S') args s 1 6 A) 0 0 12 [(0, .ref (g.2.1 0)), (1, .int v1), (2, .int v2), (3, .int v3), (4, .int v4), (5, .ref (g.2.1 28))] [.int r9, .int 0, .ref (g.2.1 28)] S9
    refine j_i2l F dL_take_12 ?_
    refine j_last F dL_take_13 hm (fun hm => ?_)
    refine j_bndS hm (fun S13 hm => ?_)
    refine j_goto F (tgt := 29) dL_take_14 (by decide) ?_
    refine j_iconst F (v := 0) dL_take_29 (by decide) ?_
    refine j_widen (k := 1) (n := 6) (by decide) (by decide) ?_
    exact j_iret_e F rfl dL_take_30 hm
  · refine swn_if hm (fun eqn hm => ?_) (fun _ hm => ?_)
    · subst eqn
      refine j_catch F FT (n := 3) 0 rfl rfl (by decide) tw755 (castOK _ (by decide)) (by decide) (by intro z hz; simp at hz) (k := 4) (As := [.int v1, .int v2, .int v3, .int v4]) (rest := [.int 0, .ref (g.2.1 28)]) (x_X5_take l hst g hg v1 v2 v3 v4 S _ _ hc9) gw_L_59 (by decide +kernel) ⟨Nat.le_of_ble_eq_true rfl, Nat.le_of_ble_eq_true rfl⟩ ⟨Nat.le_of_ble_eq_true rfl, Nat.le_of_ble_eq_true rfl⟩ rfl rfl rfl rfl (Nat.le_of_ble_eq_true rfl) dL_take_9 (fun q9 => ?_)
      show J p l e rmL_take s m args below meth c g A 7 (MQ below (QC g A (some (.int r)) S') args s 1 6 A) 1 6 17 [(0, .ref (g.2.1 0)), (1, .int v1), (2, .int v2), (3, .int v3), (4, .int v4), (5, .ref (g.2.1 28))] [.ref q9] S9
      refine j_astore F (lv' := [(6, .ref q9), (0, .ref (g.2.1 0)), (1, .int v1), (2, .int v2), (3, .int v3), (4, .int v4), (5, .ref (g.2.1 28))]) dL_take_17 (by decide) rfl ?_
      refine j_iconst F (v := 1) dL_take_19 (by decide) ?_
      exact j_iret_e F rfl dL_take_20 hm
    · refine swn_if hm (fun eqn hm => ?_) (fun _ hm => ?_)
      · subst eqn
        have hp1 : ∀ z ∈ ([(0, 14, 17, 28)] : List (Nat × Nat × Nat × Nat)), z.2.2.2 ≠ 0 ∧ ∃ n' ∈ [1, 2, 3], 1 ≠ n' ∧ Cond.classLink RL z.2.2.2 (exN n') ∈ tblG := List.forall_mem_cons.mpr ⟨⟨by decide, 3, by decide, by decide, tw755⟩, fun _ h => nomatch h⟩
        refine j_catch F FT (n := 1) 1 rfl rfl (by decide) tw741 (castOK _ (by decide)) (by decide) hp1 (k := 4) (As := [.int v1, .int v2, .int v3, .int v4]) (rest := [.int 0, .ref (g.2.1 28)]) (x_X5_take l hst g hg v1 v2 v3 v4 S _ _ hc9) gw_L_59 (by decide +kernel) ⟨Nat.le_of_ble_eq_true rfl, Nat.le_of_ble_eq_true rfl⟩ ⟨Nat.le_of_ble_eq_true rfl, Nat.le_of_ble_eq_true rfl⟩ rfl rfl rfl rfl (Nat.le_of_ble_eq_true rfl) dL_take_9 (fun q9 => ?_)
        show J p l e rmL_take s m args below meth c g A 7 (MQ below (QC g A (some (.int r)) S') args s 1 6 A) 1 6 21 [(0, .ref (g.2.1 0)), (1, .int v1), (2, .int v2), (3, .int v3), (4, .int v4), (5, .ref (g.2.1 28))] [.ref q9] S9
        refine j_astore F (lv' := [(6, .ref q9), (0, .ref (g.2.1 0)), (1, .int v1), (2, .int v2), (3, .int v3), (4, .int v4), (5, .ref (g.2.1 28))]) dL_take_21 (by decide) rfl ?_
        refine j_iconst F (v := 2) dL_take_23 (by decide) ?_
        exact j_iret_e F rfl dL_take_24 hm
      · refine swn_if hm (fun eqn hm => ?_) (fun _ hm => ?_)
        · subst eqn
          have hp2 : ∀ z ∈ ([(0, 14, 17, 28), (0, 14, 21, 13)] : List (Nat × Nat × Nat × Nat)), z.2.2.2 ≠ 0 ∧ ∃ n' ∈ [1, 2, 3], 2 ≠ n' ∧ Cond.classLink RL z.2.2.2 (exN n') ∈ tblG := List.forall_mem_cons.mpr ⟨⟨by decide, 3, by decide, by decide, tw755⟩, List.forall_mem_cons.mpr ⟨⟨by decide, 1, by decide, by decide, tw741⟩, fun _ h => nomatch h⟩⟩
          refine j_catch F FT (n := 2) 2 rfl rfl (by decide) tw742 (castOK _ (by decide)) (by decide) hp2 (k := 4) (As := [.int v1, .int v2, .int v3, .int v4]) (rest := [.int 0, .ref (g.2.1 28)]) (x_X5_take l hst g hg v1 v2 v3 v4 S _ _ hc9) gw_L_59 (by decide +kernel) ⟨Nat.le_of_ble_eq_true rfl, Nat.le_of_ble_eq_true rfl⟩ ⟨Nat.le_of_ble_eq_true rfl, Nat.le_of_ble_eq_true rfl⟩ rfl rfl rfl rfl (Nat.le_of_ble_eq_true rfl) dL_take_9 (fun q9 => ?_)
          show J p l e rmL_take s m args below meth c g A 7 (MQ below (QC g A (some (.int r)) S') args s 1 6 A) 1 6 25 [(0, .ref (g.2.1 0)), (1, .int v1), (2, .int v2), (3, .int v3), (4, .int v4), (5, .ref (g.2.1 28))] [.ref q9] S9
          refine j_astore F (lv' := [(6, .ref q9), (0, .ref (g.2.1 0)), (1, .int v1), (2, .int v2), (3, .int v3), (4, .int v4), (5, .ref (g.2.1 28))]) dL_take_25 (by decide) rfl ?_
          refine j_iconst F (v := 3) dL_take_27 (by decide) ?_
          exact j_iret_e F rfl dL_take_28 hm
        · cases hm
noncomputable def m_L_give (v1 : Int32) (v2 : Int32) (v3 : Int32) (v4 : Int32) (S : Hs) : Option (Int32 × Hs) := bndX (m_X5_give v1 v2 v3 v4 S) (fun r9 S9 => (gd (inb 0 1) (bnd (sO S9 (0 : Int32).toNatClampNeg r9.toInt64) fun S13 => (some ((0, S13)))))) (fun q S9 => if q = 3 then (some ((1, S9))) else (if q = 1 then (some ((2, S9))) else (if q = 2 then (some ((3, S9))) else (none))))
set_option maxRecDepth 100000 in
set_option maxHeartbeats 4000000 in
theorem c_L_give (l : Launch) (hst : l.stackTraces = false) (g : GG) (hg : Inj g) (v1 : Int32) (v2 : Int32) (v3 : Int32) (v4 : Int32)  (S : Hs) (r : Int32) (S' : Hs) (hm : m_L_give v1 v2 v3 v4 S = some ((r, S'))) : CT l yL_give [.codeWith yL_give cL_give 7 (some .int) [(0, 14, 17, 28), (0, 14, 21, 13), (0, 14, 25, 15)]] rmL_give [.ref (g.2.1 0), .int v1, .int v2, .int v3, .int v4, .ref (g.2.1 28)] g S (some (.int r)) S' := by
  unfold m_L_give at hm
  refine CT.of (cc := cL_give) (nL := 7) (ret := (some .int)) (lv := [(0, .ref (g.2.1 0)), (1, .int v1), (2, .int v2), (3, .int v3), (4, .int v4), (5, .ref (g.2.1 28))]) (by decide +kernel) hg (Nat.le_of_ble_eq_true rfl) rfl rfl rfl hst (fun p e s m args below meth c A F FT => ?_)
  replace F : Fx p s m meth c cL_give RL 7 (some .int) g A := F
  replace FT : FT9 l s c A [(0, 14, 17, 28), (0, 14, 21, 13), (0, 14, 25, 15)] := FT
  show J p l e rmL_give s m args below meth c g A 7 (MQ below (QC g A (some (.int r)) S') args s 1 6 A) 0 0 0 [(0, .ref (g.2.1 0)), (1, .int v1), (2, .int v2), (3, .int v3), (4, .int v4), (5, .ref (g.2.1 28))] [] S
  refine j_aload F 5 dL_give_0 rfl ?_
  refine j_iconst F (v := 0) dL_give_2 (by decide) ?_
  refine j_aload_n F 0 dL_give_3 rfl ?_
  refine j_iload_n F 1 dL_give_4 rfl ?_
  refine j_iload_n F 2 dL_give_5 rfl ?_
  refine j_iload_n F 3 dL_give_6 rfl ?_
  refine j_iload F 4 dL_give_7 rfl ?_
  refine bndX_ok hm (fun r9 S9 hc9 hm => ?_) (fun q S9 hc9 hm => ?_)
  · refine j_callV F (n := 4) (As := [.int v1, .int v2, .int v3, .int v4]) (rest := [.int 0, .ref (g.2.1 28)]) (c_X5_give l g hg v1 v2 v3 v4 S r9 S9 hc9) gw_L_63 (by decide +kernel) ⟨Nat.le_of_ble_eq_true rfl, Nat.le_of_ble_eq_true rfl⟩ ⟨Nat.le_of_ble_eq_true rfl, Nat.le_of_ble_eq_true rfl⟩ rfl rfl rfl rfl (Nat.le_of_ble_eq_true rfl) dL_give_9 ?_
    show J p l e rmL_give s m args below meth c g A 7 (MQ below (QC g A (some (.int r)) S') args s 1 6 A) 0 0 12 [(0, .ref (g.2.1 0)), (1, .int v1), (2, .int v2), (3, .int v3), (4, .int v4), (5, .ref (g.2.1 28))] [.int r9, .int 0, .ref (g.2.1 28)] S9
    refine j_i2l F dL_give_12 ?_
    refine j_last F dL_give_13 hm (fun hm => ?_)
    refine j_bndS hm (fun S13 hm => ?_)
    refine j_goto F (tgt := 29) dL_give_14 (by decide) ?_
    refine j_iconst F (v := 0) dL_give_29 (by decide) ?_
    refine j_widen (k := 1) (n := 6) (by decide) (by decide) ?_
    exact j_iret_e F rfl dL_give_30 hm
  · refine swn_if hm (fun eqn hm => ?_) (fun _ hm => ?_)
    · subst eqn
      refine j_catch F FT (n := 3) 0 rfl rfl (by decide) tw755 (castOK _ (by decide)) (by decide) (by intro z hz; simp at hz) (k := 4) (As := [.int v1, .int v2, .int v3, .int v4]) (rest := [.int 0, .ref (g.2.1 28)]) (x_X5_give l hst g hg v1 v2 v3 v4 S _ _ hc9) gw_L_63 (by decide +kernel) ⟨Nat.le_of_ble_eq_true rfl, Nat.le_of_ble_eq_true rfl⟩ ⟨Nat.le_of_ble_eq_true rfl, Nat.le_of_ble_eq_true rfl⟩ rfl rfl rfl rfl (Nat.le_of_ble_eq_true rfl) dL_give_9 (fun q9 => ?_)
      show J p l e rmL_give s m args below meth c g A 7 (MQ below (QC g A (some (.int r)) S') args s 1 6 A) 1 6 17 [(0, .ref (g.2.1 0)), (1, .int v1), (2, .int v2), (3, .int v3), (4, .int v4), (5, .ref (g.2.1 28))] [.ref q9] S9
      refine j_astore F (lv' := [(6, .ref q9), (0, .ref (g.2.1 0)), (1, .int v1), (2, .int v2), (3, .int v3), (4, .int v4), (5, .ref (g.2.1 28))]) dL_give_17 (by decide) rfl ?_
      refine j_iconst F (v := 1) dL_give_19 (by decide) ?_
      exact j_iret_e F rfl dL_give_20 hm
    · refine swn_if hm (fun eqn hm => ?_) (fun _ hm => ?_)
      · subst eqn
        have hp1 : ∀ z ∈ ([(0, 14, 17, 28)] : List (Nat × Nat × Nat × Nat)), z.2.2.2 ≠ 0 ∧ ∃ n' ∈ [1, 2, 3], 1 ≠ n' ∧ Cond.classLink RL z.2.2.2 (exN n') ∈ tblG := List.forall_mem_cons.mpr ⟨⟨by decide, 3, by decide, by decide, tw755⟩, fun _ h => nomatch h⟩
        refine j_catch F FT (n := 1) 1 rfl rfl (by decide) tw741 (castOK _ (by decide)) (by decide) hp1 (k := 4) (As := [.int v1, .int v2, .int v3, .int v4]) (rest := [.int 0, .ref (g.2.1 28)]) (x_X5_give l hst g hg v1 v2 v3 v4 S _ _ hc9) gw_L_63 (by decide +kernel) ⟨Nat.le_of_ble_eq_true rfl, Nat.le_of_ble_eq_true rfl⟩ ⟨Nat.le_of_ble_eq_true rfl, Nat.le_of_ble_eq_true rfl⟩ rfl rfl rfl rfl (Nat.le_of_ble_eq_true rfl) dL_give_9 (fun q9 => ?_)
        show J p l e rmL_give s m args below meth c g A 7 (MQ below (QC g A (some (.int r)) S') args s 1 6 A) 1 6 21 [(0, .ref (g.2.1 0)), (1, .int v1), (2, .int v2), (3, .int v3), (4, .int v4), (5, .ref (g.2.1 28))] [.ref q9] S9
        refine j_astore F (lv' := [(6, .ref q9), (0, .ref (g.2.1 0)), (1, .int v1), (2, .int v2), (3, .int v3), (4, .int v4), (5, .ref (g.2.1 28))]) dL_give_21 (by decide) rfl ?_
        refine j_iconst F (v := 2) dL_give_23 (by decide) ?_
        exact j_iret_e F rfl dL_give_24 hm
      · refine swn_if hm (fun eqn hm => ?_) (fun _ hm => ?_)
        · subst eqn
          have hp2 : ∀ z ∈ ([(0, 14, 17, 28), (0, 14, 21, 13)] : List (Nat × Nat × Nat × Nat)), z.2.2.2 ≠ 0 ∧ ∃ n' ∈ [1, 2, 3], 2 ≠ n' ∧ Cond.classLink RL z.2.2.2 (exN n') ∈ tblG := List.forall_mem_cons.mpr ⟨⟨by decide, 3, by decide, by decide, tw755⟩, List.forall_mem_cons.mpr ⟨⟨by decide, 1, by decide, by decide, tw741⟩, fun _ h => nomatch h⟩⟩
          refine j_catch F FT (n := 2) 2 rfl rfl (by decide) tw742 (castOK _ (by decide)) (by decide) hp2 (k := 4) (As := [.int v1, .int v2, .int v3, .int v4]) (rest := [.int 0, .ref (g.2.1 28)]) (x_X5_give l hst g hg v1 v2 v3 v4 S _ _ hc9) gw_L_63 (by decide +kernel) ⟨Nat.le_of_ble_eq_true rfl, Nat.le_of_ble_eq_true rfl⟩ ⟨Nat.le_of_ble_eq_true rfl, Nat.le_of_ble_eq_true rfl⟩ rfl rfl rfl rfl (Nat.le_of_ble_eq_true rfl) dL_give_9 (fun q9 => ?_)
          show J p l e rmL_give s m args below meth c g A 7 (MQ below (QC g A (some (.int r)) S') args s 1 6 A) 1 6 25 [(0, .ref (g.2.1 0)), (1, .int v1), (2, .int v2), (3, .int v3), (4, .int v4), (5, .ref (g.2.1 28))] [.ref q9] S9
          refine j_astore F (lv' := [(6, .ref q9), (0, .ref (g.2.1 0)), (1, .int v1), (2, .int v2), (3, .int v3), (4, .int v4), (5, .ref (g.2.1 28))]) dL_give_25 (by decide) rfl ?_
          refine j_iconst F (v := 3) dL_give_27 (by decide) ?_
          exact j_iret_e F rfl dL_give_28 hm
        · cases hm
noncomputable def m_L_undo (S : Hs) : Option (Int32 × Hs) := bndX (m_X5_undo  S) (fun r3 S3 => (gd (inb 0 1) (bnd (sO S3 (0 : Int32).toNatClampNeg r3.toInt64) fun S7 => (some ((0, S7)))))) (fun q S3 => if q = 2 then (some ((1, S3))) else (none))
set_option maxRecDepth 100000 in
set_option maxHeartbeats 4000000 in
theorem c_L_undo (l : Launch) (hst : l.stackTraces = false) (g : GG) (hg : Inj g)   (S : Hs) (r : Int32) (S' : Hs) (hm : m_L_undo S = some ((r, S'))) : CT l yL_undo [.codeWith yL_undo cL_undo 3 (some .int) [(0, 8, 11, 15)]] rmL_undo [.ref (g.2.1 0), .ref (g.2.1 28)] g S (some (.int r)) S' := by
  unfold m_L_undo at hm
  refine CT.of (cc := cL_undo) (nL := 3) (ret := (some .int)) (lv := [(0, .ref (g.2.1 0)), (1, .ref (g.2.1 28))]) (by decide +kernel) hg (Nat.le_of_ble_eq_true rfl) rfl rfl rfl hst (fun p e s m args below meth c A F FT => ?_)
  replace F : Fx p s m meth c cL_undo RL 3 (some .int) g A := F
  replace FT : FT9 l s c A [(0, 8, 11, 15)] := FT
  show J p l e rmL_undo s m args below meth c g A 3 (MQ below (QC g A (some (.int r)) S') args s 1 6 A) 0 0 0 [(0, .ref (g.2.1 0)), (1, .ref (g.2.1 28))] [] S
  refine j_aload_n F 1 dL_undo_0 rfl ?_
  refine j_iconst F (v := 0) dL_undo_1 (by decide) ?_
  refine j_aload_n F 0 dL_undo_2 rfl ?_
  refine bndX_ok hm (fun r3 S3 hc3 hm => ?_) (fun q S3 hc3 hm => ?_)
  · refine j_callV F (n := 0) (As := []) (rest := [.int 0, .ref (g.2.1 28)]) (c_X5_undo l g hg S r3 S3 hc3) gw_L_66 (by decide +kernel) ⟨Nat.le_of_ble_eq_true rfl, Nat.le_of_ble_eq_true rfl⟩ ⟨Nat.le_of_ble_eq_true rfl, Nat.le_of_ble_eq_true rfl⟩ rfl rfl rfl rfl (Nat.le_of_ble_eq_true rfl) dL_undo_3 ?_
    show J p l e rmL_undo s m args below meth c g A 3 (MQ below (QC g A (some (.int r)) S') args s 1 6 A) 0 0 6 [(0, .ref (g.2.1 0)), (1, .ref (g.2.1 28))] [.int r3, .int 0, .ref (g.2.1 28)] S3
    refine j_i2l F dL_undo_6 ?_
    refine j_last F dL_undo_7 hm (fun hm => ?_)
    refine j_bndS hm (fun S7 hm => ?_)
    refine j_goto F (tgt := 14) dL_undo_8 (by decide) ?_
    refine j_iconst F (v := 0) dL_undo_14 (by decide) ?_
    refine j_widen (k := 1) (n := 6) (by decide) (by decide) ?_
    exact j_iret_e F rfl dL_undo_15 hm
  · refine swn_if hm (fun eqn hm => ?_) (fun _ hm => ?_)
    · subst eqn
      refine j_catch F FT (n := 2) 0 rfl rfl (by decide) tw742 (castOK _ (by decide)) (by decide) (by intro z hz; simp at hz) (k := 0) (As := []) (rest := [.int 0, .ref (g.2.1 28)]) (x_X5_undo l hst g hg S _ _ hc3) gw_L_66 (by decide +kernel) ⟨Nat.le_of_ble_eq_true rfl, Nat.le_of_ble_eq_true rfl⟩ ⟨Nat.le_of_ble_eq_true rfl, Nat.le_of_ble_eq_true rfl⟩ rfl rfl rfl rfl (Nat.le_of_ble_eq_true rfl) dL_undo_3 (fun q9 => ?_)
      show J p l e rmL_undo s m args below meth c g A 3 (MQ below (QC g A (some (.int r)) S') args s 1 6 A) 1 6 11 [(0, .ref (g.2.1 0)), (1, .ref (g.2.1 28))] [.ref q9] S3
      refine j_astore_n F (lv' := [(2, .ref q9), (0, .ref (g.2.1 0)), (1, .ref (g.2.1 28))]) dL_undo_11 (by decide) rfl ?_
      refine j_iconst F (v := 1) dL_undo_12 (by decide) ?_
      exact j_iret_e F rfl dL_undo_13 hm
    · cases hm
def m_L_whyNot (v1 : Int32) (v2 : Int32) (v3 : Int32) (v4 : Int32) (v5 : Int32) (S : Hs) : Option (Int32 × Hs) := bndP (m_X5_whyNot v1 v2 v3 v4 v5 S) (fun r11 => (gd (inb 0 1) (bnd (sO S (0 : Int32).toNatClampNeg r11.toInt64) fun S15 => (some ((0, S15)))))) (fun q => if q = 3 then (some ((1, S))) else (if q = 1 then (some ((2, S))) else (none)))
set_option maxRecDepth 100000 in
set_option maxHeartbeats 4000000 in
theorem c_L_whyNot (l : Launch) (hst : l.stackTraces = false) (g : GG) (hg : Inj g) (v1 : Int32) (v2 : Int32) (v3 : Int32) (v4 : Int32) (v5 : Int32)  (S : Hs) (r : Int32) (S' : Hs) (hm : m_L_whyNot v1 v2 v3 v4 v5 S = some ((r, S'))) : CT l yL_whyNot [.codeWith yL_whyNot cL_whyNot 8 (some .int) [(0, 16, 19, 28), (0, 16, 23, 13)]] rmL_whyNot [.ref (g.2.1 0), .int v1, .int v2, .int v3, .int v4, .int v5, .ref (g.2.1 28)] g S (some (.int r)) S' := by
  unfold m_L_whyNot at hm
  refine CT.of (cc := cL_whyNot) (nL := 8) (ret := (some .int)) (lv := [(0, .ref (g.2.1 0)), (1, .int v1), (2, .int v2), (3, .int v3), (4, .int v4), (5, .int v5), (6, .ref (g.2.1 28))]) (by decide +kernel) hg (Nat.le_of_ble_eq_true rfl) rfl rfl rfl hst (fun p e s m args below meth c A F FT => ?_)
  replace F : Fx p s m meth c cL_whyNot RL 8 (some .int) g A := F
  replace FT : FT9 l s c A [(0, 16, 19, 28), (0, 16, 23, 13)] := FT
  show J p l e rmL_whyNot s m args below meth c g A 8 (MQ below (QC g A (some (.int r)) S') args s 1 6 A) 0 0 0 [(0, .ref (g.2.1 0)), (1, .int v1), (2, .int v2), (3, .int v3), (4, .int v4), (5, .int v5), (6, .ref (g.2.1 28))] [] S
  refine j_aload F 6 dL_whyNot_0 rfl ?_
  refine j_iconst F (v := 0) dL_whyNot_2 (by decide) ?_
  refine j_aload_n F 0 dL_whyNot_3 rfl ?_
  refine j_iload_n F 1 dL_whyNot_4 rfl ?_
  refine j_iload_n F 2 dL_whyNot_5 rfl ?_
  refine j_iload_n F 3 dL_whyNot_6 rfl ?_
  refine j_iload F 4 dL_whyNot_7 rfl ?_
  refine j_iload F 5 dL_whyNot_9 rfl ?_
  refine bndP_ok hm (fun r11 hc11 hm => ?_) (fun q hc11 hm => ?_)
  · refine j_callV F (n := 5) (As := [.int v1, .int v2, .int v3, .int v4, .int v5]) (rest := [.int 0, .ref (g.2.1 28)]) (c_X5_whyNot l g hg v1 v2 v3 v4 v5 S r11 hc11) gw_L_69 (by decide +kernel) ⟨Nat.le_of_ble_eq_true rfl, Nat.le_of_ble_eq_true rfl⟩ ⟨Nat.le_of_ble_eq_true rfl, Nat.le_of_ble_eq_true rfl⟩ rfl rfl rfl rfl (Nat.le_of_ble_eq_true rfl) dL_whyNot_11 ?_
    show J p l e rmL_whyNot s m args below meth c g A 8 (MQ below (QC g A (some (.int r)) S') args s 1 6 A) 0 0 14 [(0, .ref (g.2.1 0)), (1, .int v1), (2, .int v2), (3, .int v3), (4, .int v4), (5, .int v5), (6, .ref (g.2.1 28))] [.int r11, .int 0, .ref (g.2.1 28)] S
    refine j_i2l F dL_whyNot_14 ?_
    refine j_last F dL_whyNot_15 hm (fun hm => ?_)
    refine j_bndS hm (fun S15 hm => ?_)
    refine j_goto F (tgt := 27) dL_whyNot_16 (by decide) ?_
    refine j_iconst F (v := 0) dL_whyNot_27 (by decide) ?_
    refine j_widen (k := 1) (n := 6) (by decide) (by decide) ?_
    exact j_iret_e F rfl dL_whyNot_28 hm
  · refine swn_if hm (fun eqn hm => ?_) (fun _ hm => ?_)
    · subst eqn
      refine j_catch F FT (n := 3) 0 rfl rfl (by decide) tw755 (castOK _ (by decide)) (by decide) (by intro z hz; simp at hz) (k := 5) (As := [.int v1, .int v2, .int v3, .int v4, .int v5]) (rest := [.int 0, .ref (g.2.1 28)]) (x_X5_whyNot l hst g hg v1 v2 v3 v4 v5 S _ hc11) gw_L_69 (by decide +kernel) ⟨Nat.le_of_ble_eq_true rfl, Nat.le_of_ble_eq_true rfl⟩ ⟨Nat.le_of_ble_eq_true rfl, Nat.le_of_ble_eq_true rfl⟩ rfl rfl rfl rfl (Nat.le_of_ble_eq_true rfl) dL_whyNot_11 (fun q9 => ?_)
      show J p l e rmL_whyNot s m args below meth c g A 8 (MQ below (QC g A (some (.int r)) S') args s 1 6 A) 1 6 19 [(0, .ref (g.2.1 0)), (1, .int v1), (2, .int v2), (3, .int v3), (4, .int v4), (5, .int v5), (6, .ref (g.2.1 28))] [.ref q9] S
      refine j_astore F (lv' := [(7, .ref q9), (0, .ref (g.2.1 0)), (1, .int v1), (2, .int v2), (3, .int v3), (4, .int v4), (5, .int v5), (6, .ref (g.2.1 28))]) dL_whyNot_19 (by decide) rfl ?_
      refine j_iconst F (v := 1) dL_whyNot_21 (by decide) ?_
      exact j_iret_e F rfl dL_whyNot_22 hm
    · refine swn_if hm (fun eqn hm => ?_) (fun _ hm => ?_)
      · subst eqn
        have hp1 : ∀ z ∈ ([(0, 16, 19, 28)] : List (Nat × Nat × Nat × Nat)), z.2.2.2 ≠ 0 ∧ ∃ n' ∈ [1, 2, 3], 1 ≠ n' ∧ Cond.classLink RL z.2.2.2 (exN n') ∈ tblG := List.forall_mem_cons.mpr ⟨⟨by decide, 3, by decide, by decide, tw755⟩, fun _ h => nomatch h⟩
        refine j_catch F FT (n := 1) 1 rfl rfl (by decide) tw741 (castOK _ (by decide)) (by decide) hp1 (k := 5) (As := [.int v1, .int v2, .int v3, .int v4, .int v5]) (rest := [.int 0, .ref (g.2.1 28)]) (x_X5_whyNot l hst g hg v1 v2 v3 v4 v5 S _ hc11) gw_L_69 (by decide +kernel) ⟨Nat.le_of_ble_eq_true rfl, Nat.le_of_ble_eq_true rfl⟩ ⟨Nat.le_of_ble_eq_true rfl, Nat.le_of_ble_eq_true rfl⟩ rfl rfl rfl rfl (Nat.le_of_ble_eq_true rfl) dL_whyNot_11 (fun q9 => ?_)
        show J p l e rmL_whyNot s m args below meth c g A 8 (MQ below (QC g A (some (.int r)) S') args s 1 6 A) 1 6 23 [(0, .ref (g.2.1 0)), (1, .int v1), (2, .int v2), (3, .int v3), (4, .int v4), (5, .int v5), (6, .ref (g.2.1 28))] [.ref q9] S
        refine j_astore F (lv' := [(7, .ref q9), (0, .ref (g.2.1 0)), (1, .int v1), (2, .int v2), (3, .int v3), (4, .int v4), (5, .int v5), (6, .ref (g.2.1 28))]) dL_whyNot_23 (by decide) rfl ?_
        refine j_iconst F (v := 2) dL_whyNot_25 (by decide) ?_
        exact j_iret_e F rfl dL_whyNot_26 hm
      · cases hm
noncomputable def m_L_needed (v1 : Int32) (v2 : Int32) (v3 : Int32) (S : Hs) : Option (Int32 × Hs) := bndX (m_X5_needed v1 v2 v3 S) (fun r7 S7 => (gd (inb 0 1) (bnd (sO S7 (0 : Int32).toNatClampNeg r7.toInt64) fun S11 => (some ((0, S11)))))) (fun q S7 => if q = 3 then (some ((1, S7))) else (if q = 1 then (some ((2, S7))) else (none)))
set_option maxRecDepth 100000 in
set_option maxHeartbeats 4000000 in
theorem c_L_needed (l : Launch) (hst : l.stackTraces = false) (g : GG) (hg : Inj g) (v1 : Int32) (v2 : Int32) (v3 : Int32)  (S : Hs) (r : Int32) (S' : Hs) (hm : m_L_needed v1 v2 v3 S = some ((r, S'))) : CT l yL_needed [.codeWith yL_needed cL_needed 6 (some .int) [(0, 12, 15, 28), (0, 12, 19, 13)]] rmL_needed [.ref (g.2.1 0), .int v1, .int v2, .int v3, .ref (g.2.1 28)] g S (some (.int r)) S' := by
  unfold m_L_needed at hm
  refine CT.of (cc := cL_needed) (nL := 6) (ret := (some .int)) (lv := [(0, .ref (g.2.1 0)), (1, .int v1), (2, .int v2), (3, .int v3), (4, .ref (g.2.1 28))]) (by decide +kernel) hg (Nat.le_of_ble_eq_true rfl) rfl rfl rfl hst (fun p e s m args below meth c A F FT => ?_)
  replace F : Fx p s m meth c cL_needed RL 6 (some .int) g A := F
  replace FT : FT9 l s c A [(0, 12, 15, 28), (0, 12, 19, 13)] := FT
  show J p l e rmL_needed s m args below meth c g A 6 (MQ below (QC g A (some (.int r)) S') args s 1 6 A) 0 0 0 [(0, .ref (g.2.1 0)), (1, .int v1), (2, .int v2), (3, .int v3), (4, .ref (g.2.1 28))] [] S
  refine j_aload F 4 dL_needed_0 rfl ?_
  refine j_iconst F (v := 0) dL_needed_2 (by decide) ?_
  refine j_aload_n F 0 dL_needed_3 rfl ?_
  refine j_iload_n F 1 dL_needed_4 rfl ?_
  refine j_iload_n F 2 dL_needed_5 rfl ?_
  refine j_iload_n F 3 dL_needed_6 rfl ?_
  refine bndX_ok hm (fun r7 S7 hc7 hm => ?_) (fun q S7 hc7 hm => ?_)
  · refine j_callV F (n := 3) (As := [.int v1, .int v2, .int v3]) (rest := [.int 0, .ref (g.2.1 28)]) (c_X5_needed l g hg v1 v2 v3 S r7 S7 hc7) gw_L_73 (by decide +kernel) ⟨Nat.le_of_ble_eq_true rfl, Nat.le_of_ble_eq_true rfl⟩ ⟨Nat.le_of_ble_eq_true rfl, Nat.le_of_ble_eq_true rfl⟩ rfl rfl rfl rfl (Nat.le_of_ble_eq_true rfl) dL_needed_7 ?_
    show J p l e rmL_needed s m args below meth c g A 6 (MQ below (QC g A (some (.int r)) S') args s 1 6 A) 0 0 10 [(0, .ref (g.2.1 0)), (1, .int v1), (2, .int v2), (3, .int v3), (4, .ref (g.2.1 28))] [.int r7, .int 0, .ref (g.2.1 28)] S7
    refine j_i2l F dL_needed_10 ?_
    refine j_last F dL_needed_11 hm (fun hm => ?_)
    refine j_bndS hm (fun S11 hm => ?_)
    refine j_goto F (tgt := 23) dL_needed_12 (by decide) ?_
    refine j_iconst F (v := 0) dL_needed_23 (by decide) ?_
    refine j_widen (k := 1) (n := 6) (by decide) (by decide) ?_
    exact j_iret_e F rfl dL_needed_24 hm
  · refine swn_if hm (fun eqn hm => ?_) (fun _ hm => ?_)
    · subst eqn
      refine j_catch F FT (n := 3) 0 rfl rfl (by decide) tw755 (castOK _ (by decide)) (by decide) (by intro z hz; simp at hz) (k := 3) (As := [.int v1, .int v2, .int v3]) (rest := [.int 0, .ref (g.2.1 28)]) (x_X5_needed l hst g hg v1 v2 v3 S _ _ hc7) gw_L_73 (by decide +kernel) ⟨Nat.le_of_ble_eq_true rfl, Nat.le_of_ble_eq_true rfl⟩ ⟨Nat.le_of_ble_eq_true rfl, Nat.le_of_ble_eq_true rfl⟩ rfl rfl rfl rfl (Nat.le_of_ble_eq_true rfl) dL_needed_7 (fun q9 => ?_)
      show J p l e rmL_needed s m args below meth c g A 6 (MQ below (QC g A (some (.int r)) S') args s 1 6 A) 1 6 15 [(0, .ref (g.2.1 0)), (1, .int v1), (2, .int v2), (3, .int v3), (4, .ref (g.2.1 28))] [.ref q9] S7
      refine j_astore F (lv' := [(5, .ref q9), (0, .ref (g.2.1 0)), (1, .int v1), (2, .int v2), (3, .int v3), (4, .ref (g.2.1 28))]) dL_needed_15 (by decide) rfl ?_
      refine j_iconst F (v := 1) dL_needed_17 (by decide) ?_
      exact j_iret_e F rfl dL_needed_18 hm
    · refine swn_if hm (fun eqn hm => ?_) (fun _ hm => ?_)
      · subst eqn
        have hp1 : ∀ z ∈ ([(0, 12, 15, 28)] : List (Nat × Nat × Nat × Nat)), z.2.2.2 ≠ 0 ∧ ∃ n' ∈ [1, 2, 3], 1 ≠ n' ∧ Cond.classLink RL z.2.2.2 (exN n') ∈ tblG := List.forall_mem_cons.mpr ⟨⟨by decide, 3, by decide, by decide, tw755⟩, fun _ h => nomatch h⟩
        refine j_catch F FT (n := 1) 1 rfl rfl (by decide) tw741 (castOK _ (by decide)) (by decide) hp1 (k := 3) (As := [.int v1, .int v2, .int v3]) (rest := [.int 0, .ref (g.2.1 28)]) (x_X5_needed l hst g hg v1 v2 v3 S _ _ hc7) gw_L_73 (by decide +kernel) ⟨Nat.le_of_ble_eq_true rfl, Nat.le_of_ble_eq_true rfl⟩ ⟨Nat.le_of_ble_eq_true rfl, Nat.le_of_ble_eq_true rfl⟩ rfl rfl rfl rfl (Nat.le_of_ble_eq_true rfl) dL_needed_7 (fun q9 => ?_)
        show J p l e rmL_needed s m args below meth c g A 6 (MQ below (QC g A (some (.int r)) S') args s 1 6 A) 1 6 19 [(0, .ref (g.2.1 0)), (1, .int v1), (2, .int v2), (3, .int v3), (4, .ref (g.2.1 28))] [.ref q9] S7
        refine j_astore F (lv' := [(5, .ref q9), (0, .ref (g.2.1 0)), (1, .int v1), (2, .int v2), (3, .int v3), (4, .ref (g.2.1 28))]) dL_needed_19 (by decide) rfl ?_
        refine j_iconst F (v := 2) dL_needed_21 (by decide) ?_
        exact j_iret_e F rfl dL_needed_22 hm
      · cases hm
noncomputable def m_L_cut (v1 : Int32) (v2 : Int32) (v3 : Int32) (S : Hs) : Option (Int32 × Hs) := bndX (m_X5_cut v1 v2 v3 S) (fun r7 S7 => (gd (inb 0 1) (bnd (sO S7 (0 : Int32).toNatClampNeg r7.toInt64) fun S11 => (some ((0, S11)))))) (fun q S7 => if q = 3 then (some ((1, S7))) else (if q = 1 then (some ((2, S7))) else (none)))
set_option maxRecDepth 100000 in
set_option maxHeartbeats 4000000 in
theorem c_L_cut (l : Launch) (hst : l.stackTraces = false) (g : GG) (hg : Inj g) (v1 : Int32) (v2 : Int32) (v3 : Int32)  (S : Hs) (r : Int32) (S' : Hs) (hm : m_L_cut v1 v2 v3 S = some ((r, S'))) : CT l yL_cut [.codeWith yL_cut cL_cut 6 (some .int) [(0, 12, 15, 28), (0, 12, 19, 13)]] rmL_cut [.ref (g.2.1 0), .int v1, .int v2, .int v3, .ref (g.2.1 28)] g S (some (.int r)) S' := by
  unfold m_L_cut at hm
  refine CT.of (cc := cL_cut) (nL := 6) (ret := (some .int)) (lv := [(0, .ref (g.2.1 0)), (1, .int v1), (2, .int v2), (3, .int v3), (4, .ref (g.2.1 28))]) (by decide +kernel) hg (Nat.le_of_ble_eq_true rfl) rfl rfl rfl hst (fun p e s m args below meth c A F FT => ?_)
  replace F : Fx p s m meth c cL_cut RL 6 (some .int) g A := F
  replace FT : FT9 l s c A [(0, 12, 15, 28), (0, 12, 19, 13)] := FT
  show J p l e rmL_cut s m args below meth c g A 6 (MQ below (QC g A (some (.int r)) S') args s 1 6 A) 0 0 0 [(0, .ref (g.2.1 0)), (1, .int v1), (2, .int v2), (3, .int v3), (4, .ref (g.2.1 28))] [] S
  refine j_aload F 4 dL_cut_0 rfl ?_
  refine j_iconst F (v := 0) dL_cut_2 (by decide) ?_
  refine j_aload_n F 0 dL_cut_3 rfl ?_
  refine j_iload_n F 1 dL_cut_4 rfl ?_
  refine j_iload_n F 2 dL_cut_5 rfl ?_
  refine j_iload_n F 3 dL_cut_6 rfl ?_
  refine bndX_ok hm (fun r7 S7 hc7 hm => ?_) (fun q S7 hc7 hm => ?_)
  · refine j_callV F (n := 3) (As := [.int v1, .int v2, .int v3]) (rest := [.int 0, .ref (g.2.1 28)]) (c_X5_cut l g hg v1 v2 v3 S r7 S7 hc7) gw_L_76 (by decide +kernel) ⟨Nat.le_of_ble_eq_true rfl, Nat.le_of_ble_eq_true rfl⟩ ⟨Nat.le_of_ble_eq_true rfl, Nat.le_of_ble_eq_true rfl⟩ rfl rfl rfl rfl (Nat.le_of_ble_eq_true rfl) dL_cut_7 ?_
    show J p l e rmL_cut s m args below meth c g A 6 (MQ below (QC g A (some (.int r)) S') args s 1 6 A) 0 0 10 [(0, .ref (g.2.1 0)), (1, .int v1), (2, .int v2), (3, .int v3), (4, .ref (g.2.1 28))] [.int r7, .int 0, .ref (g.2.1 28)] S7
    refine j_i2l F dL_cut_10 ?_
    refine j_last F dL_cut_11 hm (fun hm => ?_)
    refine j_bndS hm (fun S11 hm => ?_)
    refine j_goto F (tgt := 23) dL_cut_12 (by decide) ?_
    refine j_iconst F (v := 0) dL_cut_23 (by decide) ?_
    refine j_widen (k := 1) (n := 6) (by decide) (by decide) ?_
    exact j_iret_e F rfl dL_cut_24 hm
  · refine swn_if hm (fun eqn hm => ?_) (fun _ hm => ?_)
    · subst eqn
      refine j_catch F FT (n := 3) 0 rfl rfl (by decide) tw755 (castOK _ (by decide)) (by decide) (by intro z hz; simp at hz) (k := 3) (As := [.int v1, .int v2, .int v3]) (rest := [.int 0, .ref (g.2.1 28)]) (x_X5_cut l hst g hg v1 v2 v3 S _ _ hc7) gw_L_76 (by decide +kernel) ⟨Nat.le_of_ble_eq_true rfl, Nat.le_of_ble_eq_true rfl⟩ ⟨Nat.le_of_ble_eq_true rfl, Nat.le_of_ble_eq_true rfl⟩ rfl rfl rfl rfl (Nat.le_of_ble_eq_true rfl) dL_cut_7 (fun q9 => ?_)
      show J p l e rmL_cut s m args below meth c g A 6 (MQ below (QC g A (some (.int r)) S') args s 1 6 A) 1 6 15 [(0, .ref (g.2.1 0)), (1, .int v1), (2, .int v2), (3, .int v3), (4, .ref (g.2.1 28))] [.ref q9] S7
      refine j_astore F (lv' := [(5, .ref q9), (0, .ref (g.2.1 0)), (1, .int v1), (2, .int v2), (3, .int v3), (4, .ref (g.2.1 28))]) dL_cut_15 (by decide) rfl ?_
      refine j_iconst F (v := 1) dL_cut_17 (by decide) ?_
      exact j_iret_e F rfl dL_cut_18 hm
    · refine swn_if hm (fun eqn hm => ?_) (fun _ hm => ?_)
      · subst eqn
        have hp1 : ∀ z ∈ ([(0, 12, 15, 28)] : List (Nat × Nat × Nat × Nat)), z.2.2.2 ≠ 0 ∧ ∃ n' ∈ [1, 2, 3], 1 ≠ n' ∧ Cond.classLink RL z.2.2.2 (exN n') ∈ tblG := List.forall_mem_cons.mpr ⟨⟨by decide, 3, by decide, by decide, tw755⟩, fun _ h => nomatch h⟩
        refine j_catch F FT (n := 1) 1 rfl rfl (by decide) tw741 (castOK _ (by decide)) (by decide) hp1 (k := 3) (As := [.int v1, .int v2, .int v3]) (rest := [.int 0, .ref (g.2.1 28)]) (x_X5_cut l hst g hg v1 v2 v3 S _ _ hc7) gw_L_76 (by decide +kernel) ⟨Nat.le_of_ble_eq_true rfl, Nat.le_of_ble_eq_true rfl⟩ ⟨Nat.le_of_ble_eq_true rfl, Nat.le_of_ble_eq_true rfl⟩ rfl rfl rfl rfl (Nat.le_of_ble_eq_true rfl) dL_cut_7 (fun q9 => ?_)
        show J p l e rmL_cut s m args below meth c g A 6 (MQ below (QC g A (some (.int r)) S') args s 1 6 A) 1 6 19 [(0, .ref (g.2.1 0)), (1, .int v1), (2, .int v2), (3, .int v3), (4, .ref (g.2.1 28))] [.ref q9] S7
        refine j_astore F (lv' := [(5, .ref q9), (0, .ref (g.2.1 0)), (1, .int v1), (2, .int v2), (3, .int v3), (4, .ref (g.2.1 28))]) dL_cut_19 (by decide) rfl ?_
        refine j_iconst F (v := 2) dL_cut_21 (by decide) ?_
        exact j_iret_e F rfl dL_cut_22 hm
      · cases hm
noncomputable def m_L_cutAt (v1 : Int32) (v2 : Int32) (v3 : Int32) (v4 : Int32) (S : Hs) : Option (Int32 × Hs) := bndX (m_X5_cutAt v1 v2 v3 v4 S) (fun r9 S9 => (gd (inb 0 1) (bnd (sO S9 (0 : Int32).toNatClampNeg r9.toInt64) fun S13 => (some ((0, S13)))))) (fun q S9 => if q = 3 then (some ((1, S9))) else (if q = 1 then (some ((2, S9))) else (none)))
set_option maxRecDepth 100000 in
set_option maxHeartbeats 4000000 in
theorem c_L_cutAt (l : Launch) (hst : l.stackTraces = false) (g : GG) (hg : Inj g) (v1 : Int32) (v2 : Int32) (v3 : Int32) (v4 : Int32)  (S : Hs) (r : Int32) (S' : Hs) (hm : m_L_cutAt v1 v2 v3 v4 S = some ((r, S'))) : CT l yL_cutAt [.codeWith yL_cutAt cL_cutAt 7 (some .int) [(0, 14, 17, 28), (0, 14, 21, 13)]] rmL_cutAt [.ref (g.2.1 0), .int v1, .int v2, .int v3, .int v4, .ref (g.2.1 28)] g S (some (.int r)) S' := by
  unfold m_L_cutAt at hm
  refine CT.of (cc := cL_cutAt) (nL := 7) (ret := (some .int)) (lv := [(0, .ref (g.2.1 0)), (1, .int v1), (2, .int v2), (3, .int v3), (4, .int v4), (5, .ref (g.2.1 28))]) (by decide +kernel) hg (Nat.le_of_ble_eq_true rfl) rfl rfl rfl hst (fun p e s m args below meth c A F FT => ?_)
  replace F : Fx p s m meth c cL_cutAt RL 7 (some .int) g A := F
  replace FT : FT9 l s c A [(0, 14, 17, 28), (0, 14, 21, 13)] := FT
  show J p l e rmL_cutAt s m args below meth c g A 7 (MQ below (QC g A (some (.int r)) S') args s 1 6 A) 0 0 0 [(0, .ref (g.2.1 0)), (1, .int v1), (2, .int v2), (3, .int v3), (4, .int v4), (5, .ref (g.2.1 28))] [] S
  refine j_aload F 5 dL_cutAt_0 rfl ?_
  refine j_iconst F (v := 0) dL_cutAt_2 (by decide) ?_
  refine j_aload_n F 0 dL_cutAt_3 rfl ?_
  refine j_iload_n F 1 dL_cutAt_4 rfl ?_
  refine j_iload_n F 2 dL_cutAt_5 rfl ?_
  refine j_iload_n F 3 dL_cutAt_6 rfl ?_
  refine j_iload F 4 dL_cutAt_7 rfl ?_
  refine bndX_ok hm (fun r9 S9 hc9 hm => ?_) (fun q S9 hc9 hm => ?_)
  · refine j_callV F (n := 4) (As := [.int v1, .int v2, .int v3, .int v4]) (rest := [.int 0, .ref (g.2.1 28)]) (c_X5_cutAt l g hg v1 v2 v3 v4 S r9 S9 hc9) gw_L_79 (by decide +kernel) ⟨Nat.le_of_ble_eq_true rfl, Nat.le_of_ble_eq_true rfl⟩ ⟨Nat.le_of_ble_eq_true rfl, Nat.le_of_ble_eq_true rfl⟩ rfl rfl rfl rfl (Nat.le_of_ble_eq_true rfl) dL_cutAt_9 ?_
    show J p l e rmL_cutAt s m args below meth c g A 7 (MQ below (QC g A (some (.int r)) S') args s 1 6 A) 0 0 12 [(0, .ref (g.2.1 0)), (1, .int v1), (2, .int v2), (3, .int v3), (4, .int v4), (5, .ref (g.2.1 28))] [.int r9, .int 0, .ref (g.2.1 28)] S9
    refine j_i2l F dL_cutAt_12 ?_
    refine j_last F dL_cutAt_13 hm (fun hm => ?_)
    refine j_bndS hm (fun S13 hm => ?_)
    refine j_goto F (tgt := 25) dL_cutAt_14 (by decide) ?_
    refine j_iconst F (v := 0) dL_cutAt_25 (by decide) ?_
    refine j_widen (k := 1) (n := 6) (by decide) (by decide) ?_
    exact j_iret_e F rfl dL_cutAt_26 hm
  · refine swn_if hm (fun eqn hm => ?_) (fun _ hm => ?_)
    · subst eqn
      refine j_catch F FT (n := 3) 0 rfl rfl (by decide) tw755 (castOK _ (by decide)) (by decide) (by intro z hz; simp at hz) (k := 4) (As := [.int v1, .int v2, .int v3, .int v4]) (rest := [.int 0, .ref (g.2.1 28)]) (x_X5_cutAt l hst g hg v1 v2 v3 v4 S _ _ hc9) gw_L_79 (by decide +kernel) ⟨Nat.le_of_ble_eq_true rfl, Nat.le_of_ble_eq_true rfl⟩ ⟨Nat.le_of_ble_eq_true rfl, Nat.le_of_ble_eq_true rfl⟩ rfl rfl rfl rfl (Nat.le_of_ble_eq_true rfl) dL_cutAt_9 (fun q9 => ?_)
      show J p l e rmL_cutAt s m args below meth c g A 7 (MQ below (QC g A (some (.int r)) S') args s 1 6 A) 1 6 17 [(0, .ref (g.2.1 0)), (1, .int v1), (2, .int v2), (3, .int v3), (4, .int v4), (5, .ref (g.2.1 28))] [.ref q9] S9
      refine j_astore F (lv' := [(6, .ref q9), (0, .ref (g.2.1 0)), (1, .int v1), (2, .int v2), (3, .int v3), (4, .int v4), (5, .ref (g.2.1 28))]) dL_cutAt_17 (by decide) rfl ?_
      refine j_iconst F (v := 1) dL_cutAt_19 (by decide) ?_
      exact j_iret_e F rfl dL_cutAt_20 hm
    · refine swn_if hm (fun eqn hm => ?_) (fun _ hm => ?_)
      · subst eqn
        have hp1 : ∀ z ∈ ([(0, 14, 17, 28)] : List (Nat × Nat × Nat × Nat)), z.2.2.2 ≠ 0 ∧ ∃ n' ∈ [1, 2, 3], 1 ≠ n' ∧ Cond.classLink RL z.2.2.2 (exN n') ∈ tblG := List.forall_mem_cons.mpr ⟨⟨by decide, 3, by decide, by decide, tw755⟩, fun _ h => nomatch h⟩
        refine j_catch F FT (n := 1) 1 rfl rfl (by decide) tw741 (castOK _ (by decide)) (by decide) hp1 (k := 4) (As := [.int v1, .int v2, .int v3, .int v4]) (rest := [.int 0, .ref (g.2.1 28)]) (x_X5_cutAt l hst g hg v1 v2 v3 v4 S _ _ hc9) gw_L_79 (by decide +kernel) ⟨Nat.le_of_ble_eq_true rfl, Nat.le_of_ble_eq_true rfl⟩ ⟨Nat.le_of_ble_eq_true rfl, Nat.le_of_ble_eq_true rfl⟩ rfl rfl rfl rfl (Nat.le_of_ble_eq_true rfl) dL_cutAt_9 (fun q9 => ?_)
        show J p l e rmL_cutAt s m args below meth c g A 7 (MQ below (QC g A (some (.int r)) S') args s 1 6 A) 1 6 21 [(0, .ref (g.2.1 0)), (1, .int v1), (2, .int v2), (3, .int v3), (4, .int v4), (5, .ref (g.2.1 28))] [.ref q9] S9
        refine j_astore F (lv' := [(6, .ref q9), (0, .ref (g.2.1 0)), (1, .int v1), (2, .int v2), (3, .int v3), (4, .int v4), (5, .ref (g.2.1 28))]) dL_cutAt_21 (by decide) rfl ?_
        refine j_iconst F (v := 2) dL_cutAt_23 (by decide) ?_
        exact j_iret_e F rfl dL_cutAt_24 hm
      · cases hm
noncomputable def m_L_runScript (v1 : Int32) (v2 : Int64) (S : Hs) : Option (Int32 × Hs) := bndX (m_X5_runScript v1 v2 S) (fun r6 S6 => (gd (inb 0 1) (bnd (sO S6 (0 : Int32).toNatClampNeg r6.toInt64) fun S10 => (some ((0, S10)))))) (fun q S6 => if q = 1 then (some ((1, S6))) else (none))
set_option maxRecDepth 100000 in
set_option maxHeartbeats 4000000 in
theorem c_L_runScript (l : Launch) (hst : l.stackTraces = false) (g : GG) (hg : Inj g) (v1 : Int32) (v2 : Int64)  (S : Hs) (r : Int32) (S' : Hs) (hm : m_L_runScript v1 v2 S = some ((r, S'))) : CT l yL_runScript [.codeWith yL_runScript cL_runScript 6 (some .int) [(0, 11, 14, 13)]] rmL_runScript [.ref (g.2.1 0), .int v1, .long v2, .ref (g.2.1 28)] g S (some (.int r)) S' := by
  unfold m_L_runScript at hm
  refine CT.of (cc := cL_runScript) (nL := 6) (ret := (some .int)) (lv := [(0, .ref (g.2.1 0)), (1, .int v1), (2, .long v2), (4, .ref (g.2.1 28))]) (by decide +kernel) hg (Nat.le_of_ble_eq_true rfl) rfl rfl rfl hst (fun p e s m args below meth c A F FT => ?_)
  replace F : Fx p s m meth c cL_runScript RL 6 (some .int) g A := F
  replace FT : FT9 l s c A [(0, 11, 14, 13)] := FT
  show J p l e rmL_runScript s m args below meth c g A 6 (MQ below (QC g A (some (.int r)) S') args s 1 6 A) 0 0 0 [(0, .ref (g.2.1 0)), (1, .int v1), (2, .long v2), (4, .ref (g.2.1 28))] [] S
  refine j_aload F 3 dL_runScript_0 rfl ?_
  refine j_iconst F (v := 0) dL_runScript_2 (by decide) ?_
  refine j_aload_n F 0 dL_runScript_3 rfl ?_
  refine j_iload_n F 1 dL_runScript_4 rfl ?_
  refine j_lload_n F 2 dL_runScript_5 rfl ?_
  refine bndX_ok hm (fun r6 S6 hc6 hm => ?_) (fun q S6 hc6 hm => ?_)
  · refine j_callV F (n := 2) (As := [.int v1, .long v2]) (rest := [.int 0, .ref (g.2.1 28)]) (c_X5_runScript l g hg v1 v2 S r6 S6 hc6) gw_L_82 (by decide +kernel) ⟨Nat.le_of_ble_eq_true rfl, Nat.le_of_ble_eq_true rfl⟩ ⟨Nat.le_of_ble_eq_true rfl, Nat.le_of_ble_eq_true rfl⟩ rfl rfl rfl rfl (Nat.le_of_ble_eq_true rfl) dL_runScript_6 ?_
    show J p l e rmL_runScript s m args below meth c g A 6 (MQ below (QC g A (some (.int r)) S') args s 1 6 A) 0 0 9 [(0, .ref (g.2.1 0)), (1, .int v1), (2, .long v2), (4, .ref (g.2.1 28))] [.int r6, .int 0, .ref (g.2.1 28)] S6
    refine j_i2l F dL_runScript_9 ?_
    refine j_last F dL_runScript_10 hm (fun hm => ?_)
    refine j_bndS hm (fun S10 hm => ?_)
    refine j_goto F (tgt := 18) dL_runScript_11 (by decide) ?_
    refine j_iconst F (v := 0) dL_runScript_18 (by decide) ?_
    refine j_widen (k := 1) (n := 6) (by decide) (by decide) ?_
    exact j_iret_e F rfl dL_runScript_19 hm
  · refine swn_if hm (fun eqn hm => ?_) (fun _ hm => ?_)
    · subst eqn
      refine j_catch F FT (n := 1) 0 rfl rfl (by decide) tw741 (castOK _ (by decide)) (by decide) (by intro z hz; simp at hz) (k := 2) (As := [.int v1, .long v2]) (rest := [.int 0, .ref (g.2.1 28)]) (x_X5_runScript l hst g hg v1 v2 S _ _ hc6) gw_L_82 (by decide +kernel) ⟨Nat.le_of_ble_eq_true rfl, Nat.le_of_ble_eq_true rfl⟩ ⟨Nat.le_of_ble_eq_true rfl, Nat.le_of_ble_eq_true rfl⟩ rfl rfl rfl rfl (Nat.le_of_ble_eq_true rfl) dL_runScript_6 (fun q9 => ?_)
      show J p l e rmL_runScript s m args below meth c g A 6 (MQ below (QC g A (some (.int r)) S') args s 1 6 A) 1 6 14 [(0, .ref (g.2.1 0)), (1, .int v1), (2, .long v2), (4, .ref (g.2.1 28))] [.ref q9] S6
      refine j_astore F (lv' := [(5, .ref q9), (0, .ref (g.2.1 0)), (1, .int v1), (2, .long v2), (4, .ref (g.2.1 28))]) dL_runScript_14 (by decide) rfl ?_
      refine j_iconst F (v := 1) dL_runScript_16 (by decide) ?_
      exact j_iret_e F rfl dL_runScript_17 hm
    · cases hm
noncomputable def m_L_simulate (v1 : Int64) (v3 : Int32) (S : Hs) : Option (Int32 × Hs) := bndX (m_X5_simulate v1 v3 S) (fun r6 S6 => (gd (inb 0 1) (bnd (sO S6 (0 : Int32).toNatClampNeg r6.toInt64) fun S10 => (some ((0, S10)))))) (fun q S6 => if q = 1 then (some ((1, S6))) else (none))
set_option maxRecDepth 100000 in
set_option maxHeartbeats 4000000 in
theorem c_L_simulate (l : Launch) (hst : l.stackTraces = false) (g : GG) (hg : Inj g) (v1 : Int64) (v3 : Int32)  (S : Hs) (r : Int32) (S' : Hs) (hm : m_L_simulate v1 v3 S = some ((r, S'))) : CT l yL_simulate [.codeWith yL_simulate cL_simulate 6 (some .int) [(0, 11, 14, 13)]] rmL_simulate [.ref (g.2.1 0), .long v1, .int v3, .ref (g.2.1 28)] g S (some (.int r)) S' := by
  unfold m_L_simulate at hm
  refine CT.of (cc := cL_simulate) (nL := 6) (ret := (some .int)) (lv := [(0, .ref (g.2.1 0)), (1, .long v1), (3, .int v3), (4, .ref (g.2.1 28))]) (by decide +kernel) hg (Nat.le_of_ble_eq_true rfl) rfl rfl rfl hst (fun p e s m args below meth c A F FT => ?_)
  replace F : Fx p s m meth c cL_simulate RL 6 (some .int) g A := F
  replace FT : FT9 l s c A [(0, 11, 14, 13)] := FT
  show J p l e rmL_simulate s m args below meth c g A 6 (MQ below (QC g A (some (.int r)) S') args s 1 6 A) 0 0 0 [(0, .ref (g.2.1 0)), (1, .long v1), (3, .int v3), (4, .ref (g.2.1 28))] [] S
  refine j_aload F 3 dL_simulate_0 rfl ?_
  refine j_iconst F (v := 0) dL_simulate_2 (by decide) ?_
  refine j_aload_n F 0 dL_simulate_3 rfl ?_
  refine j_lload_n F 1 dL_simulate_4 rfl ?_
  refine j_iload_n F 2 dL_simulate_5 rfl ?_
  refine bndX_ok hm (fun r6 S6 hc6 hm => ?_) (fun q S6 hc6 hm => ?_)
  · refine j_callV F (n := 2) (As := [.long v1, .int v3]) (rest := [.int 0, .ref (g.2.1 28)]) (c_X5_simulate l g hg v1 v3 S r6 S6 hc6) gw_L_86 (by decide +kernel) ⟨Nat.le_of_ble_eq_true rfl, Nat.le_of_ble_eq_true rfl⟩ ⟨Nat.le_of_ble_eq_true rfl, Nat.le_of_ble_eq_true rfl⟩ rfl rfl rfl rfl (Nat.le_of_ble_eq_true rfl) dL_simulate_6 ?_
    show J p l e rmL_simulate s m args below meth c g A 6 (MQ below (QC g A (some (.int r)) S') args s 1 6 A) 0 0 9 [(0, .ref (g.2.1 0)), (1, .long v1), (3, .int v3), (4, .ref (g.2.1 28))] [.int r6, .int 0, .ref (g.2.1 28)] S6
    refine j_i2l F dL_simulate_9 ?_
    refine j_last F dL_simulate_10 hm (fun hm => ?_)
    refine j_bndS hm (fun S10 hm => ?_)
    refine j_goto F (tgt := 18) dL_simulate_11 (by decide) ?_
    refine j_iconst F (v := 0) dL_simulate_18 (by decide) ?_
    refine j_widen (k := 1) (n := 6) (by decide) (by decide) ?_
    exact j_iret_e F rfl dL_simulate_19 hm
  · refine swn_if hm (fun eqn hm => ?_) (fun _ hm => ?_)
    · subst eqn
      refine j_catch F FT (n := 1) 0 rfl rfl (by decide) tw741 (castOK _ (by decide)) (by decide) (by intro z hz; simp at hz) (k := 2) (As := [.long v1, .int v3]) (rest := [.int 0, .ref (g.2.1 28)]) (x_X5_simulate l hst g hg v1 v3 S _ _ hc6) gw_L_86 (by decide +kernel) ⟨Nat.le_of_ble_eq_true rfl, Nat.le_of_ble_eq_true rfl⟩ ⟨Nat.le_of_ble_eq_true rfl, Nat.le_of_ble_eq_true rfl⟩ rfl rfl rfl rfl (Nat.le_of_ble_eq_true rfl) dL_simulate_6 (fun q9 => ?_)
      show J p l e rmL_simulate s m args below meth c g A 6 (MQ below (QC g A (some (.int r)) S') args s 1 6 A) 1 6 14 [(0, .ref (g.2.1 0)), (1, .long v1), (3, .int v3), (4, .ref (g.2.1 28))] [.ref q9] S6
      refine j_astore F (lv' := [(5, .ref q9), (0, .ref (g.2.1 0)), (1, .long v1), (3, .int v3), (4, .ref (g.2.1 28))]) dL_simulate_14 (by decide) rfl ?_
      refine j_iconst F (v := 1) dL_simulate_16 (by decide) ?_
      exact j_iret_e F rfl dL_simulate_17 hm
    · cases hm
noncomputable def m_L_save (v1 : Int32) (S : Hs) : Option (Int32 × Hs) := bndX (m_X5_save v1 S) (fun r4 S4 => (gd (inb 0 1) (bnd (sO S4 (0 : Int32).toNatClampNeg r4.toInt64) fun S8 => (some ((0, S8)))))) (fun q S4 => if q = 3 then (some ((1, S4))) else (none))
set_option maxRecDepth 100000 in
set_option maxHeartbeats 4000000 in
theorem c_L_save (l : Launch) (hst : l.stackTraces = false) (g : GG) (hg : Inj g) (v1 : Int32)  (S : Hs) (r : Int32) (S' : Hs) (hm : m_L_save v1 S = some ((r, S'))) : CT l yL_save [.codeWith yL_save cL_save 4 (some .int) [(0, 9, 12, 28)]] rmL_save [.ref (g.2.1 0), .int v1, .ref (g.2.1 28)] g S (some (.int r)) S' := by
  unfold m_L_save at hm
  refine CT.of (cc := cL_save) (nL := 4) (ret := (some .int)) (lv := [(0, .ref (g.2.1 0)), (1, .int v1), (2, .ref (g.2.1 28))]) (by decide +kernel) hg (Nat.le_of_ble_eq_true rfl) rfl rfl rfl hst (fun p e s m args below meth c A F FT => ?_)
  replace F : Fx p s m meth c cL_save RL 4 (some .int) g A := F
  replace FT : FT9 l s c A [(0, 9, 12, 28)] := FT
  show J p l e rmL_save s m args below meth c g A 4 (MQ below (QC g A (some (.int r)) S') args s 1 6 A) 0 0 0 [(0, .ref (g.2.1 0)), (1, .int v1), (2, .ref (g.2.1 28))] [] S
  refine j_aload_n F 2 dL_save_0 rfl ?_
  refine j_iconst F (v := 0) dL_save_1 (by decide) ?_
  refine j_aload_n F 0 dL_save_2 rfl ?_
  refine j_iload_n F 1 dL_save_3 rfl ?_
  refine bndX_ok hm (fun r4 S4 hc4 hm => ?_) (fun q S4 hc4 hm => ?_)
  · refine j_callV F (n := 1) (As := [.int v1]) (rest := [.int 0, .ref (g.2.1 28)]) (c_X5_save l g hg v1 S r4 S4 hc4) gw_L_90 (by decide +kernel) ⟨Nat.le_of_ble_eq_true rfl, Nat.le_of_ble_eq_true rfl⟩ ⟨Nat.le_of_ble_eq_true rfl, Nat.le_of_ble_eq_true rfl⟩ rfl rfl rfl rfl (Nat.le_of_ble_eq_true rfl) dL_save_4 ?_
    show J p l e rmL_save s m args below meth c g A 4 (MQ below (QC g A (some (.int r)) S') args s 1 6 A) 0 0 7 [(0, .ref (g.2.1 0)), (1, .int v1), (2, .ref (g.2.1 28))] [.int r4, .int 0, .ref (g.2.1 28)] S4
    refine j_i2l F dL_save_7 ?_
    refine j_last F dL_save_8 hm (fun hm => ?_)
    refine j_bndS hm (fun S8 hm => ?_)
    refine j_goto F (tgt := 15) dL_save_9 (by decide) ?_
    refine j_iconst F (v := 0) dL_save_15 (by decide) ?_
    refine j_widen (k := 1) (n := 6) (by decide) (by decide) ?_
    exact j_iret_e F rfl dL_save_16 hm
  · refine swn_if hm (fun eqn hm => ?_) (fun _ hm => ?_)
    · subst eqn
      refine j_catch F FT (n := 3) 0 rfl rfl (by decide) tw755 (castOK _ (by decide)) (by decide) (by intro z hz; simp at hz) (k := 1) (As := [.int v1]) (rest := [.int 0, .ref (g.2.1 28)]) (x_X5_save l hst g hg v1 S _ _ hc4) gw_L_90 (by decide +kernel) ⟨Nat.le_of_ble_eq_true rfl, Nat.le_of_ble_eq_true rfl⟩ ⟨Nat.le_of_ble_eq_true rfl, Nat.le_of_ble_eq_true rfl⟩ rfl rfl rfl rfl (Nat.le_of_ble_eq_true rfl) dL_save_4 (fun q9 => ?_)
      show J p l e rmL_save s m args below meth c g A 4 (MQ below (QC g A (some (.int r)) S') args s 1 6 A) 1 6 12 [(0, .ref (g.2.1 0)), (1, .int v1), (2, .ref (g.2.1 28))] [.ref q9] S4
      refine j_astore_n F (lv' := [(3, .ref q9), (0, .ref (g.2.1 0)), (1, .int v1), (2, .ref (g.2.1 28))]) dL_save_12 (by decide) rfl ?_
      refine j_iconst F (v := 1) dL_save_13 (by decide) ?_
      exact j_iret_e F rfl dL_save_14 hm
    · cases hm
noncomputable def m_L_restore (v1 : Int32) (S : Hs) : Option (Int32 × Hs) := bndX (m_X5_restore v1 S) (fun r4 S4 => (gd (inb 0 1) (bnd (sO S4 (0 : Int32).toNatClampNeg r4.toInt64) fun S8 => (some ((0, S8)))))) (fun q S4 => if q = 3 then (some ((1, S4))) else (if q = 2 then (some ((2, S4))) else (none)))
set_option maxRecDepth 100000 in
set_option maxHeartbeats 4000000 in
theorem c_L_restore (l : Launch) (hst : l.stackTraces = false) (g : GG) (hg : Inj g) (v1 : Int32)  (S : Hs) (r : Int32) (S' : Hs) (hm : m_L_restore v1 S = some ((r, S'))) : CT l yL_restore [.codeWith yL_restore cL_restore 4 (some .int) [(0, 9, 12, 28), (0, 9, 15, 15)]] rmL_restore [.ref (g.2.1 0), .int v1, .ref (g.2.1 28)] g S (some (.int r)) S' := by
  unfold m_L_restore at hm
  refine CT.of (cc := cL_restore) (nL := 4) (ret := (some .int)) (lv := [(0, .ref (g.2.1 0)), (1, .int v1), (2, .ref (g.2.1 28))]) (by decide +kernel) hg (Nat.le_of_ble_eq_true rfl) rfl rfl rfl hst (fun p e s m args below meth c A F FT => ?_)
  replace F : Fx p s m meth c cL_restore RL 4 (some .int) g A := F
  replace FT : FT9 l s c A [(0, 9, 12, 28), (0, 9, 15, 15)] := FT
  show J p l e rmL_restore s m args below meth c g A 4 (MQ below (QC g A (some (.int r)) S') args s 1 6 A) 0 0 0 [(0, .ref (g.2.1 0)), (1, .int v1), (2, .ref (g.2.1 28))] [] S
  refine j_aload_n F 2 dL_restore_0 rfl ?_
  refine j_iconst F (v := 0) dL_restore_1 (by decide) ?_
  refine j_aload_n F 0 dL_restore_2 rfl ?_
  refine j_iload_n F 1 dL_restore_3 rfl ?_
  refine bndX_ok hm (fun r4 S4 hc4 hm => ?_) (fun q S4 hc4 hm => ?_)
  · refine j_callV F (n := 1) (As := [.int v1]) (rest := [.int 0, .ref (g.2.1 28)]) (c_X5_restore l g hg v1 S r4 S4 hc4) gw_L_93 (by decide +kernel) ⟨Nat.le_of_ble_eq_true rfl, Nat.le_of_ble_eq_true rfl⟩ ⟨Nat.le_of_ble_eq_true rfl, Nat.le_of_ble_eq_true rfl⟩ rfl rfl rfl rfl (Nat.le_of_ble_eq_true rfl) dL_restore_4 ?_
    show J p l e rmL_restore s m args below meth c g A 4 (MQ below (QC g A (some (.int r)) S') args s 1 6 A) 0 0 7 [(0, .ref (g.2.1 0)), (1, .int v1), (2, .ref (g.2.1 28))] [.int r4, .int 0, .ref (g.2.1 28)] S4
    refine j_i2l F dL_restore_7 ?_
    refine j_last F dL_restore_8 hm (fun hm => ?_)
    refine j_bndS hm (fun S8 hm => ?_)
    refine j_goto F (tgt := 18) dL_restore_9 (by decide) ?_
    refine j_iconst F (v := 0) dL_restore_18 (by decide) ?_
    refine j_widen (k := 1) (n := 6) (by decide) (by decide) ?_
    exact j_iret_e F rfl dL_restore_19 hm
  · refine swn_if hm (fun eqn hm => ?_) (fun _ hm => ?_)
    · subst eqn
      refine j_catch F FT (n := 3) 0 rfl rfl (by decide) tw755 (castOK _ (by decide)) (by decide) (by intro z hz; simp at hz) (k := 1) (As := [.int v1]) (rest := [.int 0, .ref (g.2.1 28)]) (x_X5_restore l hst g hg v1 S _ _ hc4) gw_L_93 (by decide +kernel) ⟨Nat.le_of_ble_eq_true rfl, Nat.le_of_ble_eq_true rfl⟩ ⟨Nat.le_of_ble_eq_true rfl, Nat.le_of_ble_eq_true rfl⟩ rfl rfl rfl rfl (Nat.le_of_ble_eq_true rfl) dL_restore_4 (fun q9 => ?_)
      show J p l e rmL_restore s m args below meth c g A 4 (MQ below (QC g A (some (.int r)) S') args s 1 6 A) 1 6 12 [(0, .ref (g.2.1 0)), (1, .int v1), (2, .ref (g.2.1 28))] [.ref q9] S4
      refine j_astore_n F (lv' := [(3, .ref q9), (0, .ref (g.2.1 0)), (1, .int v1), (2, .ref (g.2.1 28))]) dL_restore_12 (by decide) rfl ?_
      refine j_iconst F (v := 1) dL_restore_13 (by decide) ?_
      exact j_iret_e F rfl dL_restore_14 hm
    · refine swn_if hm (fun eqn hm => ?_) (fun _ hm => ?_)
      · subst eqn
        have hp1 : ∀ z ∈ ([(0, 9, 12, 28)] : List (Nat × Nat × Nat × Nat)), z.2.2.2 ≠ 0 ∧ ∃ n' ∈ [1, 2, 3], 2 ≠ n' ∧ Cond.classLink RL z.2.2.2 (exN n') ∈ tblG := List.forall_mem_cons.mpr ⟨⟨by decide, 3, by decide, by decide, tw755⟩, fun _ h => nomatch h⟩
        refine j_catch F FT (n := 2) 1 rfl rfl (by decide) tw742 (castOK _ (by decide)) (by decide) hp1 (k := 1) (As := [.int v1]) (rest := [.int 0, .ref (g.2.1 28)]) (x_X5_restore l hst g hg v1 S _ _ hc4) gw_L_93 (by decide +kernel) ⟨Nat.le_of_ble_eq_true rfl, Nat.le_of_ble_eq_true rfl⟩ ⟨Nat.le_of_ble_eq_true rfl, Nat.le_of_ble_eq_true rfl⟩ rfl rfl rfl rfl (Nat.le_of_ble_eq_true rfl) dL_restore_4 (fun q9 => ?_)
        show J p l e rmL_restore s m args below meth c g A 4 (MQ below (QC g A (some (.int r)) S') args s 1 6 A) 1 6 15 [(0, .ref (g.2.1 0)), (1, .int v1), (2, .ref (g.2.1 28))] [.ref q9] S4
        refine j_astore_n F (lv' := [(3, .ref q9), (0, .ref (g.2.1 0)), (1, .int v1), (2, .ref (g.2.1 28))]) dL_restore_15 (by decide) rfl ?_
        refine j_iconst F (v := 2) dL_restore_16 (by decide) ?_
        exact j_iret_e F rfl dL_restore_17 hm
      · cases hm
