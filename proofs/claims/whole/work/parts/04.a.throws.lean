/-! methods that throw: a contract for the calls that do -/
def exNames : List String := ["java/lang/RuntimeException", "java/lang/Exception"]
def exN : Nat → String
  | 1 => "java/lang/IllegalArgumentException"
  | 2 => "java/lang/IllegalStateException"
  | _ => "java/lang/IndexOutOfBoundsException"
def QF : Array Value → State → Outcome → State → Prop := fun _ _ _ _ => False
def XQ (g : GG) (A : Nat → Prop) (n : Nat) (S' : Hs) : String → State → State → Prop := fun E st t => E = exN n ∧ va_P g.1 vwCl (wC g S') t.heap ∧ va_F A st t
/-- at arguments av and the world S the method throws the n-th exception and leaves the world S' -/
def CX (l : Launch) (y : MethodName) (ws : List Cond) (rm : Room) (av : List Value) (g : GG) (S : Hs) (n : Nat) (S' : Hs) : Prop :=
  ∀ sz : Nat, vx_Met l y ws rm (PC g av S sz) QF (XQ g (va_A (wC g S) sz) n S') rm.cells rm.slots (va_A (wC g S) sz)
def FX9 (l : Launch) (s : State) (c : Code) (A : Nat → Prop) : Prop := l.stackTraces = false ∧ (∀ x ∈ c.exceptionTable.toList, False)
def ExOK (ik ic n : Nat) : Prop := (Bundle.fit (exN n) = true ∧ ∀ nm ∈ exNames, Bundle.fit nm = true) ∧ ∀ w ∈ Cond.classLink RX5 ik (exN n) :: Cond.initialized (exN n) :: vx_atS RX5 ic (exN n) exNames, w ∈ tblG ∧ vx_ot w = true
theorem inl_p {α : Type} {v o : α} (h : some (Sum.inl v : α ⊕ Nat) = some (Sum.inl o)) : some v = some o := by cases h; rfl
theorem inl_e {α β : Type} {v o : α} {S T : β} (h : some ((Sum.inl v : α ⊕ Nat), S) = some (Sum.inl o, T)) : some (v, S) = some (o, T) := by cases h; rfl
theorem inl_v {α β : Type} {v o : α} {S T : β} (h : some ((Sum.inl v : α ⊕ Nat), S) = some (Sum.inl o, T)) : some S = some T := by cases h; rfl
section JX
variable {p : Program} {l : Launch} {e : Env} {R : Room} {s : State} {m : MethodId} {args : Array Value} {below : List Frame} {meth : Method} {c : Code} {g : GG} {A : Nat → Prop} {nL : Nat} {Q : State → Prop} {cells slots pc : Nat} {lv lv' : List (Nat × Value)} {st : List Value} {S S' : Hs} {cc : ByteArray} {own : String} {ret : Option FieldType}
theorem CX.of {y : MethodName} {rm : Room} {av : List Value} {n : Nat} (hy : plainName y.cls = true) (hg : Inj g) (hn : (lg_sl av).length ≤ nL) (hlv : lv_args 0 av = lv) (hc1 : rm.cells = 1) (hs6 : rm.slots = 6) (hst : l.stackTraces = false)
    (body : ∀ (p : Program) (e : Env) (s : State) (m : MethodId) (args : Array Value) (below : List Frame) (meth : Method) (c : Code) (A : Nat → Prop), Fx p s m meth c cc y.cls nL ret g A → FX9 l s c A → J p l e rm s m args below meth c g A nL (vx_MQ below QF (XQ g A n S') args s 1 6 A) 0 0 0 lv [] S) : CX l y [.code y cc nL ret] rm av g S n S' := by
  intro sz
  rw [hc1, hs6]
  refine vx_ofW (cc := cc) (maxL := nL) (ret := ret) hy rfl ?_
  intro p e s m args below meth c s₁ B hml ht hv
  obtain ⟨rfl, hsz, hP, hK, hT, hSF⟩ := hv
  subst hsz
  rw [lg_entry_eq]
  have hl := lv_entry av (n := nL) hn
  rw [hlv] at hl
  refine body p e s m _ below meth c (va_A (wC g S) s.heap.size) ⟨B.exec, B.bytes, hml, findClass_of_methodNamed B.named, hT, hK, ⟨hg, fun i hi => ?_⟩, fun q h => Or.inr h, B.returns, B.notSynchronized, hSF⟩ ⟨hst, ht⟩ s.heap [] _ hl hP va_S.rf
  obtain ⟨d, hd⟩ : ∃ d, lay[i]? = some d := ⟨_, List.getElem?_eq_getElem (by rw [lay_len]; exact hi)⟩
  exact va_A.in (wC_get g S hd)
theorem j_throw (F : Fx p s m meth c cc own nL ret g A) (FS : FX9 l s c A) {ik is ic n : Nat} {text : String} (i : Nat) (ex : ExOK ik ic n) (hs : strs[i]? = some (is, text)) (ho : own = RX5) (d0 : decode cc pc = .ok (.new ik, 3)) (d3 : decode cc (pc + 3) = .ok (.dup, 1)) (d4 : decode cc (pc + 4) = .ok (.ldc is, 2)) (d6 : decode cc (pc + 6) = .ok (.invokespecial ic, 3)) (d9 : decode cc (pc + 9) = .ok (.athrow, 1)) (hR : 5 < R.frames ∧ (st.map fun v => v.category).sum + 82 ≤ R.locals) (hC : 1 ≤ R.cells ∧ 6 ≤ R.slots) : J p l e R s m args below meth c g A nL (vx_MQ below QF (XQ g A n S) args s 1 6 A) 0 0 pc lv st S := by
  subst ho
  intro H locs ls hl hP hS
  obtain ⟨sa, hsa⟩ := F.sf.2.2.1 _ (List.mem_of_getElem? hs)
  exact vx_throwS (names := exNames) F.1 F.2.1 FS.1 F.ow ex.1.1 ex.1.2 (F.hts _ (ex.2 _ List.mem_cons_self).1) (F.hts _ (ex.2 _ (List.mem_cons_of_mem _ List.mem_cons_self)).1) hsa (fun w hw => F.hts _ (ex.2 _ (List.mem_cons_of_mem _ (List.mem_cons_of_mem _ hw))).1) (fun w hw => (ex.2 w hw).2) F.sf.1 F.sf.2.1 hS (hl.1.trans F.2.2.1.symm) d0 d3 d4 d6 d9 (fun x hx => (FS.2 x hx).elim) hR.1 hR.2 (by have := hC.1; omega) (by have := hC.2; omega) F.locks
    (fun t hv hz hk => ⟨rfl, fun k q hq => (hP k q hq).kept (hk q.1 (hP k q hq).lt), Nat.le_trans hS.1 hz, fun q h1 h2 => (hk q (Nat.lt_of_lt_of_le h1 hS.1)).trans (hS.2.1 q h1 h2)⟩) hS.2.2 (Nat.le_refl _) (Nat.le_refl _)
theorem j_throwW (F : Fx p s m meth c cc own nL ret g A) (FS : FX9 l s c A) {ik is ic n : Nat} {text : String} (i : Nat) (ex : ExOK ik ic n) (hs : strs[i]? = some (is, text)) (ho : own = RX5) (d0 : decode cc pc = .ok (.new ik, 3)) (d3 : decode cc (pc + 3) = .ok (.dup, 1)) (d4 : decode cc (pc + 4) = .ok (.ldc_w is, 3)) (d6 : decode cc (pc + 7) = .ok (.invokespecial ic, 3)) (d9 : decode cc (pc + 10) = .ok (.athrow, 1)) (hR : 5 < R.frames ∧ (st.map fun v => v.category).sum + 82 ≤ R.locals) (hC : 1 ≤ R.cells ∧ 6 ≤ R.slots) : J p l e R s m args below meth c g A nL (vx_MQ below QF (XQ g A n S) args s 1 6 A) 0 0 pc lv st S := by
  subst ho
  intro H locs ls hl hP hS
  obtain ⟨sa, hsa⟩ := F.sf.2.2.1 _ (List.mem_of_getElem? hs)
  exact vx_throwSW (names := exNames) F.1 F.2.1 FS.1 F.ow ex.1.1 ex.1.2 (F.hts _ (ex.2 _ List.mem_cons_self).1) (F.hts _ (ex.2 _ (List.mem_cons_of_mem _ List.mem_cons_self)).1) hsa (fun w hw => F.hts _ (ex.2 _ (List.mem_cons_of_mem _ (List.mem_cons_of_mem _ hw))).1) (fun w hw => (ex.2 w hw).2) F.sf.1 F.sf.2.1 hS (hl.1.trans F.2.2.1.symm) d0 d3 d4 d6 d9 (fun x hx => (FS.2 x hx).elim) hR.1 hR.2 (by have := hC.1; omega) (by have := hC.2; omega) F.locks
    (fun t hv hz hk => ⟨rfl, fun k q hq => (hP k q hq).kept (hk q.1 (hP k q hq).lt), Nat.le_trans hS.1 hz, fun q h1 h2 => (hk q (Nat.lt_of_lt_of_le h1 hS.1)).trans (hS.2.1 q h1 h2)⟩) hS.2.2 (Nat.le_refl _) (Nat.le_refl _)
theorem j_callXG (F : Fx p s m meth c cc own nL ret g A) (FS : FX9 l s c A) {n mc ms : Nat} {st0 rest : List Value} {a : Array Value} (hmc : mc ≤ 1) (hms : ms ≤ 6)
    (hr : ∀ (H : Heap) (locs : List Loc) (ls : Array Slot), lv_has ls nL lv → va_P g.1 vwCl (wC g S) H → va_S A s.heap H locs → vx_Run p l e R s m args below meth c H locs 0 0 mc ms (F0 m pc ls st0) rest (QF a) (XQ g (va_A (wC g S) H.size) n S') (va_A (wC g S) H.size)) : J p l e R s m args below meth c g A nL (vx_MQ below QF (XQ g A n S') args s 1 6 A) 0 0 pc lv st0 S := by
  intro H locs ls hl hP hS T hT X
  have hF := F.free S hS
  rcases hr H locs ls hl hP hS T hT X with ⟨v, st₀, t, T', L, h0, X', hL, e1, e2, hq, stp⟩ | ⟨q, st₀, t, T', L, E, ce, h0, X', hL, e1, e2, ⟨hE, hp, hb⟩, hce, hcv, hcl, stp⟩
  · exact hq.elim
  · obtain ⟨k1, k2, k3⟩ := vx_keep h0 e1 hS (fun q _ h => hF q h) hF hL hb
    obtain ⟨t2, a1, b1⟩ := vx_out (free := A) (Qc := QF) (XC := XQ g A n S') (ls := ls) (rest := rest) (pc := pc) (fun x hx => (FS.2 x hx).elim) F.locks (by rw [e1]; exact hce) hcv hcl (fun t' ht' _ => ⟨hE, by rw [ht', e1]; exact hp, k3.F ht'⟩) k3.2.2 (by omega : 0 + mc ≤ 1) (by omega : 0 + ms ≤ 6) T' rfl X'
    exact ⟨t2, stp.trans a1, b1⟩
theorem j_callXV (F : Fx p s m meth c cc own nL ret g A) (FS : FX9 l s c A) {y : MethodName} {bytes : ByteArray} {maxL k ix b ci n : Nat} {r : Option FieldType} {rm : Room} {C : String} {T : u_T} {N : Nat} {fs : List (Option Nat)} {As rest : List Value} (hM : CX l y [.code y bytes maxL r] rm (.ref (g.2.1 b) :: As) g S n S') (gW : GoodIn tblG (wsV own ix C y [.code y bytes maxL r]))
    (hd : y.cls = C ∧ y.cls ≠ "java/lang/invoke/MethodHandle" ∧ y.cls ≠ "java/lang/invoke/VarHandle" ∧ (parseMethodDescriptor y.desc).map (fun d => d.parameters.length) = some k) (hR : rm.frames + 1 ≤ R.frames ∧ 8 + (maxL + 11) + rm.locals ≤ R.locals) (hf : 0 + rm.cells ≤ R.cells ∧ 0 + rm.slots ≤ R.slots) (hy : lay[b]? = some (.inr (ci, fs))) (hc : vwCl[ci]? = some (C, T, N)) (hn : As.length = k) (hst : st = As.reverse ++ .ref (g.2.1 b) :: rest) (hW : (rest.map fun v => v.category).sum ≤ 8) (d : decode cc pc = .ok (.invokevirtual ix, 3)) (h1 : rm.cells ≤ 1) (h6 : rm.slots ≤ 6) : J p l e R s m args below meth c g A nL (vx_MQ below QF (XQ g A n S') args s 1 6 A) 0 0 pc lv st S :=
  j_callXG F FS h1 h6 (fun H locs ls hl hP hS => vx_runV F.fix (hM H.size) (cwV k F.hts gW rfl rfl rfl hd hR) ⟨PC_blind, va_recv F.K hP hc (wC_get g S hy), F.pre _ hP hS⟩ rfl hn hl.1 hst (lv_room hW) d hf)
theorem j_callXS (F : Fx p s m meth c cc own nL ret g A) (FS : FX9 l s c A) {y : MethodName} {bytes : ByteArray} {maxL k ix n : Nat} {r : Option FieldType} {rm : Room} {As rest : List Value} (hM : CX l y [.code y bytes maxL r] rm As g S n S') (gW : GoodIn tblG (va_wsS own ix y [.code y bytes maxL r]))
    (hd : y.cls ≠ "java/lang/invoke/MethodHandle" ∧ y.cls ≠ "java/lang/invoke/VarHandle" ∧ (parseMethodDescriptor y.desc).map (fun d => d.parameters.length) = some k) (hR : rm.frames + 1 ≤ R.frames ∧ 8 + (maxL + 11) + rm.locals ≤ R.locals) (hf : 0 + rm.cells ≤ R.cells ∧ 0 + rm.slots ≤ R.slots) (hn : As.length = k) (hst : st = As.reverse ++ rest) (hW : (rest.map fun v => v.category).sum ≤ 8) (d : decode cc pc = .ok (.invokestatic ix, 3)) (h1 : rm.cells ≤ 1) (h6 : rm.slots ≤ 6) : J p l e R s m args below meth c g A nL (vx_MQ below QF (XQ g A n S') args s 1 6 A) 0 0 pc lv st S :=
  j_callXG F FS h1 h6 (fun H locs ls hl hP hS => vx_runS F.fix (hM H.size) (va_cwS k F.hts gW rfl rfl rfl hd hR) ⟨PC_blind, F.pre _ hP hS⟩ rfl hn hl.1 hst (lv_room hW) d hf)
end JX
theorem exFit (n : Nat) : Bundle.fit (exN n) = true ∧ ∀ nm ∈ exNames, Bundle.fit nm = true := by
  refine ⟨?_, by decide +kernel⟩
  unfold exN
  split <;> decide +kernel
theorem ex1 : ExOK 61 65 1 := by
  refine ⟨exFit 1, fun w hw => ⟨?_, List.all_eq_true.mp (show (Cond.classLink RX5 61 (exN 1) :: Cond.initialized (exN 1) :: vx_atS RX5 65 (exN 1) exNames).all vx_ot = true by decide +kernel) w hw⟩⟩
  rcases List.mem_cons.mp hw with h | h
  · rw [h]; exact tw336
  · rcases List.mem_cons.mp h with h | h
    · rw [h]; exact tw337
    · exact inX1 w h
theorem ex2 : ExOK 72 76 2 := by
  refine ⟨exFit 2, fun w hw => ⟨?_, List.all_eq_true.mp (show (Cond.classLink RX5 72 (exN 2) :: Cond.initialized (exN 2) :: vx_atS RX5 76 (exN 2) exNames).all vx_ot = true by decide +kernel) w hw⟩⟩
  rcases List.mem_cons.mp hw with h | h
  · rw [h]; exact tw338
  · rcases List.mem_cons.mp h with h | h
    · rw [h]; exact tw339
    · exact inX2 w h
theorem ex3 : ExOK 277 281 3 := by
  refine ⟨exFit 3, fun w hw => ⟨?_, List.all_eq_true.mp (show (Cond.classLink RX5 277 (exN 3) :: Cond.initialized (exN 3) :: vx_atS RX5 281 (exN 3) exNames).all vx_ot = true by decide +kernel) w hw⟩⟩
  rcases List.mem_cons.mp hw with h | h
  · rw [h]; exact tw374
  · rcases List.mem_cons.mp h with h | h
    · rw [h]; exact tw375
    · exact inX3 w h
