/-! the law's own methods: they call and catch -/
def NC (U : State) : Prop := ∀ a b : Nat, a ∈ [1, 2, 3] → b ∈ [1, 2, 3] → a ≠ b → va_Nc (exN a) (exN b) U
def PT (g : GG) (av : List Value) (S : Hs) (sz : Nat) : Array Value → State → Prop := va_Pc av (fun U => U.heap.size = sz ∧ va_P g.1 vwCl (wC g S) U.heap ∧ va_K g.1 vwCl (tysC g) U ∧ TB U ∧ SF g (va_A (wC g S) sz) U ∧ NC U)
def CT (l : Launch) (y : MethodName) (ws : List Cond) (rm : Room) (av : List Value) (g : GG) (S : Hs) (ov : Option Value) (S' : Hs) : Prop :=
  ∀ sz : Nat, Met l y ws rm (PT g av S sz) (QC g (va_A (wC g S) sz) ov S') rm.cells rm.slots (va_A (wC g S) sz)
def FT9 (l : Launch) (s : State) (c : Code) (A : Nat → Prop) (hh : List (Nat × Nat × Nat × Nat)) : Prop := l.stackTraces = false ∧ c.exceptionTable.toList = tableOf hh ∧ NC s
section JT
variable {p : Program} {l : Launch} {e : Env} {R : Room} {s : State} {m : MethodId} {args : Array Value} {below : List Frame} {meth : Method} {c : Code} {g : GG} {A : Nat → Prop} {nL : Nat} {Q : State → Prop} {cells slots pc : Nat} {lv lv' : List (Nat × Value)} {st : List Value} {S S' : Hs} {cc : ByteArray} {own : String} {ret : Option FieldType} {hh : List (Nat × Nat × Nat × Nat)}
theorem wC_extL (g : GG) (S S' : Hs) (i : Nat) {d : Ld} (h : lay[i]? = some d) (e : va_E) (h1 : e = celV g S' i d) (h2 : ∀ j d', lay[j]? = some d' → j ≠ i → celV g S' j d' = celV g S j d') : (wC g S).set i (g.2.1 i, e) = wC g S' := by
  refine List.ext_getElem? fun j => ?_
  rw [List.getElem?_set]
  by_cases hj : i = j
  · subst hj
    have hl : i < (wC g S).length := (List.getElem?_eq_some_iff.mp (wC_get g S h)).1
    rw [if_pos rfl, if_pos hl, wC_get g S' h, h1]
  · rw [if_neg hj]
    unfold wC
    rw [List.getElem?_mapIdx, List.getElem?_mapIdx]
    cases hd : lay[j]? with
    | none => rfl
    | some d' => simp [h2 j d' hd (fun q => hj q.symm)]
theorem lay_28 : (List.range 73).all (fun i => match lay[i]? with | some (.inl (t, _)) => decide (t = 4 → i = 28) | _ => true) = true := by decide +kernel
theorem lay_long {i t n : Nat} (h : lay[i]? = some (.inl (t, n))) (ht : t = 4) : i = 28 := by
  have := List.all_eq_true.mp lay_28 i (List.mem_range.mpr (lay_lt h))
  rw [h] at this
  exact of_decide_eq_true this ht
theorem wC_sO (g : GG) (S : Hs) {k : Nat} (v : Int64) : (wC g S).set 28 (g.2.1 28, .inl (g.2.2 4, 1, .inr (.inl (vp_updL S.2.2.2 k v)))) = wC g (sO S k v) := by
  have e : vp_updL S.2.2.2 k v = (sO S k v).2.2.2 := by funext b; simp [sO, vp_updL]
  refine wC_extL g S _ 28 (d := .inl (4, 1)) rfl _ ?_ ?_
  · rw [e]; rfl
  · intro j d' hd hj
    cases d' with
    | inr x => rfl
    | inl x =>
      obtain ⟨t, n⟩ := x
      have h4 : t ≠ 4 := fun q => hj (lay_long hd q)
      show Sum.inl (g.2.2 t, n, arrC g.2.1 (sO S k v) j t) = Sum.inl (g.2.2 t, n, arrC g.2.1 S j t)
      unfold arrC
      rw [if_neg h4, if_neg h4]
      rfl
theorem j_last (F : Fx p s m meth c cc own nL ret g A) {ix : Int32} {v : Int64} {ρ : Type} {X : Option ρ} {r : ρ} (d : decode cc pc = .ok (.lastore, 1)) (hm : gd (inb ix 1) X = some r) (k : X = some r → J p l e R s m args below meth c g A nL Q cells slots (pc + 1) lv st (sO S ix.toNatClampNeg v)) : J p l e R s m args below meth c g A nL Q cells slots pc lv (.long v :: .int ix :: .ref (g.2.1 28) :: st) S := fun H locs ls hl hP hS =>
  va_last F.1 F.2.1 F.K hP (F.D S) hS 28 4 (n := 1) (f := S.2.2.2) (wC_get g S (d := .inl (4, 1)) rfl) rfl (inb_in (gd_ok hm).1) d (fun H1 locs1 hP1 _ hS1 => k (gd_ok hm).2 H1 locs1 ls hl (by rw [wC_sO g S] at hP1; exact hP1) hS1)
theorem j_lald (F : Fx p s m meth c cc own nL ret g A) {ix : Int32} {ρ : Type} {X : Option ρ} {r : ρ} (d : decode cc pc = .ok (.laload, 1)) (hm : gd (inb ix 1) X = some r) (k : X = some r → J p l e R s m args below meth c g A nL Q cells slots (pc + 1) lv (.long (gO S ix.toNatClampNeg) :: st) S) : J p l e R s m args below meth c g A nL Q cells slots pc lv (.int ix :: .ref (g.2.1 28) :: st) S := fun H locs ls hl hP hS =>
  va_lald F.1 F.2.1 F.K hP 28 4 (n := 1) (f := S.2.2.2) (wC_get g S (d := .inl (4, 1)) rfl) rfl (inb_in (gd_ok hm).1) d (k (gd_ok hm).2 H locs ls hl hP hS)
theorem FT9.preT (F : Fx p s m meth c cc own nL ret g A) (FT : FT9 l s c A hh) (av : List Value) {H : Heap} {locs : List Loc} (hP : va_P g.1 vwCl (wC g S) H) (hS : va_S A s.heap H locs) : ∀ U : State, U.heap = H → s.WarmedH U.vm → PT g av S H.size av.toArray U := by
  intro U hU hW
  obtain ⟨a1, a2, a3, a4, a5, a6⟩ := F.pre av hP hS U hU hW
  exact ⟨a1, a2, a3, a4, a5, a6, fun a b ha hb hne => (FT.2.2 a b ha hb hne).moved hW.alike⟩
theorem PT_blind {av : List Value} {sz : Nat} : FrameBlind (PT g av S sz) := fun a U g' mk q => by
  obtain ⟨q0, q1, qP, qK, qT, qS, qn⟩ := q
  exact ⟨q0, q1, qP, va_K.moved (u := U) (U := U.calling g' mk a) (Vm.Alike.refl U.vm) qK, qT.warm (U := U.calling g' mk a) (State.WarmedH.refl U), qS.pre (U := U.calling g' mk a) (State.WarmedH.refl U) (fun _ _ _ => rfl) (fun _ h => h), fun a' b ha hb hne => va_Nc.moved (u := U) (U := U.calling g' mk a) (Vm.Alike.refl U.vm) (qn a' b ha hb hne)⟩
theorem Met.ofWH {y : MethodName} {ws ws' : List Cond} {rm : Room} {Pc : Array Value → State → Prop} {Qc : Array Value → State → Outcome → State → Prop} {mc ms : Nat} {free : Addr → Prop} {cc : ByteArray} {maxL : Nat} {ret : Option FieldType} (hy : plainName y.cls = true) (hw : ws = Cond.codeWith y cc maxL ret hh :: ws')
    (body : ∀ p e s m args below meth c s₁, BodyLoose p l y (headSpec ws rm) cc maxL ret e s m args below meth c s₁ → c.maxLocals = maxL → Pc args s → W p l e (headSpec ws rm).room s m args below meth c s.heap [] 0 0 (MQ below Qc args s mc ms free) (entryFrame m args maxL)) : Met l y ws rm Pc Qc mc ms free := by
  refine MetFree.of_bodyS (code := cc) (maxLocals := maxL) (ret := ret) hy ?_ ?_
  · intro args s m h hn
    obtain ⟨m9, meth, c, hn9, h1, h2, h3, h4, -, h5, h6, -⟩ := Cond.codeWith_spec (atoms_spec (ws := ws) h _ (by rw [hw]; exact List.mem_cons_self))
    cases hn.symm.trans hn9
    exact ⟨meth, c, h1, h2, h3, h4, h5, h6⟩
  · intro p e s m args below meth c s₁ B hml hP _
    have hh0 : s₁.heap = s.heap := by rw [B.state]; rfl
    obtain ⟨t, a1, o, b1, b2, b3⟩ := body p e s m args below meth c s₁ B hml hP s₁ hh0 (Stand.of_body B)
    exact ⟨t, o, a1, b1, b2, ⟨b3.1, b3.2⟩⟩
theorem CT.of {y : MethodName} {rm : Room} {av : List Value} {ov : Option Value} (hy : plainName y.cls = true) (hg : Inj g) (hn : (lg_sl av).length ≤ nL) (hlv : lv_args 0 av = lv) (hc1 : rm.cells = 1) (hs6 : rm.slots = 6) (hst : l.stackTraces = false)
    (body : ∀ (p : Program) (e : Env) (s : State) (m : MethodId) (args : Array Value) (below : List Frame) (meth : Method) (c : Code) (A : Nat → Prop), Fx p s m meth c cc y.cls nL ret g A → FT9 l s c A hh → J p l e rm s m args below meth c g A nL (MQ below (QC g A ov S') args s 1 6 A) 0 0 0 lv [] S) : CT l y [.codeWith y cc nL ret hh] rm av g S ov S' := by
  intro sz
  rw [hc1, hs6]
  refine Met.ofWH (cc := cc) (maxL := nL) (ret := ret) hy rfl ?_
  intro p e s m args below meth c s₁ B hml hv
  obtain ⟨rfl, hsz, hP, hK, hT, hSF, hNC⟩ := hv
  subst hsz
  have hw := atoms_spec (ws := [Cond.codeWith y cc nL ret hh]) B.pre _ List.mem_cons_self
  have htab := vx_table (x := y) B hw
  rw [lg_entry_eq]
  have hl := lv_entry av (n := nL) hn
  rw [hlv] at hl
  refine body p e s m _ below meth c (va_A (wC g S) s.heap.size) ⟨B.exec, B.bytes, hml, findClass_of_methodNamed B.named, hT, hK, ⟨hg, fun i hi => ?_⟩, fun q h => Or.inr h, B.returns, B.notSynchronized, hSF⟩ ⟨hst, htab, hNC⟩ s.heap [] _ hl hP va_S.rf
  obtain ⟨d, hd⟩ : ∃ d, lay[i]? = some d := ⟨_, List.getElem?_eq_getElem (by rw [lay_len]; exact hi)⟩
  exact va_A.in (wC_get g S hd)
theorem j_catch (F : Fx p s m meth c cc own nL ret g A) (FT : FT9 l s c A hh) {y : MethodName} {bytes : ByteArray} {maxL k ix b ci n : Nat} {r : Option FieldType} {rm : Room} {C : String} {T : u_T} {N : Nat} {fs : List (Option Nat)} {As rest : List Value} (i : Nat) {a1 a2 h4 ct : Nat} (hi : hh[i]? = some (a1, a2, h4, ct)) (hcov : covers ⟨a1, a2, h4, ct⟩ pc = true) (hct : ct ≠ 0) (w1 : Cond.classLink own ct (exN n) ∈ tblG) (w2 : Cond.castable (exN n) (exN n) ∈ tblG) (hn3 : n ∈ [1, 2, 3]) (hpre : ∀ z ∈ hh.take i, z.2.2.2 ≠ 0 ∧ ∃ n' ∈ [1, 2, 3], n ≠ n' ∧ Cond.classLink own z.2.2.2 (exN n') ∈ tblG)
    (hM : CX l y [.code y bytes maxL r] rm (.ref (g.2.1 b) :: As) g S n S') (gW : GoodIn tblG (wsV own ix C y [.code y bytes maxL r]))
    (hd : y.cls = C ∧ y.cls ≠ "java/lang/invoke/MethodHandle" ∧ y.cls ≠ "java/lang/invoke/VarHandle" ∧ (parseMethodDescriptor y.desc).map (fun d => d.parameters.length) = some k) (hR : rm.frames + 1 ≤ R.frames ∧ 8 + (maxL + 11) + rm.locals ≤ R.locals) (hf : cells + rm.cells ≤ R.cells ∧ slots + rm.slots ≤ R.slots) (hy : lay[b]? = some (.inr (ci, fs))) (hc : vwCl[ci]? = some (C, T, N)) (hn : As.length = k) (hst : st = As.reverse ++ .ref (g.2.1 b) :: rest) (hW : (rest.map fun v => v.category).sum ≤ 8) (d : decode cc pc = .ok (.invokevirtual ix, 3))
    (kk : ∀ q9 : Nat, J p l e R s m args below meth c g A nL Q (cells + rm.cells) (slots + rm.slots) h4 lv [.ref q9] S') : J p l e R s m args below meth c g A nL Q cells slots pc lv st S := by
  intro H locs ls hl hP hS T0 hT X
  have hF := F.free S hS
  have hrun : vx_Run p l e R s m args below meth c H locs cells slots rm.cells rm.slots (F0 m pc ls st) rest (QF (Value.ref (g.2.1 b) :: As).toArray) (XQ g (va_A (wC g S) H.size) n S') (va_A (wC g S) H.size) := vx_runV F.fix (hM H.size) (cwV k F.hts gW rfl rfl rfl hd hR) ⟨PC_blind, va_recv F.K hP hc (wC_get g S hy), F.pre _ hP hS⟩ rfl hn hl.1 hst (lv_room hW) d hf
  rcases hrun T0 hT X with ⟨v, st₀, t, T', L, h0, X', hL, e1, e2, hq, stp⟩ | ⟨q, st₀, t, T', L, E, ce, h0, X', hL, e1, e2, ⟨hE, hp, hb⟩, hce, hcv, hcl, stp⟩
  · exact hq.elim
  · obtain ⟨k1, k2, k3⟩ := vx_keep h0 e1 hS (fun q _ h => hF q h) hF hL hb
    have hsplit : c.exceptionTable.toList = tableOf (hh.take i) ++ ⟨a1, a2, h4, ct⟩ :: tableOf (hh.drop (i + 1)) := by
      rw [FT.2.1]
      have : hh = hh.take i ++ (a1, a2, h4, ct) :: hh.drop (i + 1) := by
        have hlt := (List.getElem?_eq_some_iff.mp hi).1
        rw [← (List.getElem?_eq_some_iff.mp hi).2, List.getElem_cons_drop, List.take_append_drop]
      conv => lhs; rw [this]
      simp [tableOf]
    subst hE
    obtain ⟨t2, b1, b2⟩ := vx_catch (H := T'.heap) (locs := locs ++ L) (ls := ls) (rest := rest) (pc := pc) F.ow (tableOf (hh.take i)) ⟨a1, a2, h4, ct⟩ (tableOf (hh.drop (i + 1))) hsplit (fun z hz => by
      obtain ⟨w, hw, rfl⟩ := List.mem_map.mp hz
      obtain ⟨x1, n', x2, x3, x4⟩ := hpre w hw
      exact Or.inr ⟨x1, exN n', F.hts _ x4, FT.2.2 n n' hn3 x2 x3⟩) hcov hct (F.hts _ w1) (F.hts _ w2) (by rw [e1]; exact hce) hcv hcl (kk q T'.heap (locs ++ L) ls hl (by rw [e1]; exact hp) k3) T' rfl X'
    exact ⟨t2, stp.trans b1, b2⟩
theorem swn_if {ρ : Type} {x n : Nat} {X Y : Option ρ} {r : ρ} {C : Prop} (hm : (if x = n then X else Y) = some r) (kt : x = n → X = some r → C) (kf : ¬ x = n → Y = some r → C) : C := by
  by_cases h : x = n
  · exact kt h ((if_pos h).symm.trans hm)
  · exact kf h ((if_neg h).symm.trans hm)
theorem j_callT (F : Fx p s m meth c cc own nL ret g A) (FT : FT9 l s c A hh) {y : MethodName} {bytes : ByteArray} {maxL n ix : Nat} {r : Option FieldType} {rm : Room} {As rest : List Value} {ov : Option Value} {h2 : List (Nat × Nat × Nat × Nat)} (hM : CT l y [.codeWith y bytes maxL r h2] rm As g S ov S') (gW : GoodIn tblG (va_wsS own ix y [.codeWith y bytes maxL r h2]))
    (hd : y.cls ≠ "java/lang/invoke/MethodHandle" ∧ y.cls ≠ "java/lang/invoke/VarHandle" ∧ (parseMethodDescriptor y.desc).map (fun d => d.parameters.length) = some n) (hR : rm.frames + 1 ≤ R.frames ∧ 8 + (maxL + 11) + rm.locals ≤ R.locals) (hf : cells + rm.cells ≤ R.cells ∧ slots + rm.slots ≤ R.slots) (hn : As.length = n) (hst : st = As.reverse ++ rest) (hW : (rest.map fun v => v.category).sum ≤ 8) (d : decode cc pc = .ok (.invokestatic ix, 3))
    (k : J p l e R s m args below meth c g A nL Q (cells + rm.cells) (slots + rm.slots) (pc + 3) lv (ov.toList ++ rest) S') : J p l e R s m args below meth c g A nL Q cells slots pc lv st S :=
  j_callG F (fun H locs ls hl hP hS => vx_runSW F.fix (hM H.size) (vx_cwSW n F.hts gW rfl rfl rfl hd hR) ⟨PT_blind, FT9.preT F FT _ hP hS⟩ rfl hn hl.1 hst (lv_room hW) d hf) k
theorem j_sld (F : Fx p s m meth c cc own nL ret g A) {b L : Nat} {xs : Nat → Int32} (hX : va_X b L xs s s.heap) (hbl : b < s.heap.size) (hbA : ¬ A b) {ix : Int32} (hin : vp_in ix L) (d : decode cc pc = .ok (.iaload, 1)) (k : J p l e R s m args below meth c g A nL Q cells slots (pc + 1) lv (.int (xs ix.toNatClampNeg) :: st) S) : J p l e R s m args below meth c g A nL Q cells slots pc lv (.int ix :: .ref b :: st) S := fun H locs ls hl hP hS => va_sld F.1 F.2.1 hX hbl hbA hS hin d (k H locs ls hl hP hS)
theorem j_slen (F : Fx p s m meth c cc own nL ret g A) {b L : Nat} {xs : Nat → Int32} (hX : va_X b L xs s s.heap) (hbl : b < s.heap.size) (hbA : ¬ A b) (d : decode cc pc = .ok (.arraylength, 1)) (k : J p l e R s m args below meth c g A nL Q cells slots (pc + 1) lv (.int (Int32.ofNat L) :: st) S) : J p l e R s m args below meth c g A nL Q cells slots pc lv (.ref b :: st) S := fun H locs ls hl hP hS => va_slen F.1 F.2.1 hX hbl hbA hS d (k H locs ls hl hP hS)
theorem castOK : ∀ n ∈ [1, 2, 3], Cond.castable (exN n) (exN n) ∈ tblG := by
  intro n hn
  rcases List.mem_cons.mp hn with h | h
  · subst h; exact inX1 _ (by decide +kernel)
  · rcases List.mem_cons.mp h with h | h
    · subst h; exact inX2 _ (by decide +kernel)
    · rcases List.mem_cons.mp h with h | h
      · subst h; exact inX3 _ (by decide +kernel)
      · cases h
end JT
