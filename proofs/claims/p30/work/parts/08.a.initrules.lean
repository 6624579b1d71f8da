/-! constructors: worlds that grow -/
def tysY (cy : Nat → ClassId) : List (ClassId × FieldType) := [(cy 0, .char), (cy 1, .int), (cy 2, .boolean), (cy 3, .object "AccessSpread$State")]
def FI (p : Program) (s : State) (m : MethodId) (meth : Method) (c : Code) (cc : ByteArray) (own : String) (nL : Nat) (D : va_G) (cy : Nat → ClassId) (A : Nat → Prop) : Prop :=
  p.tables.exec = Jvm.exec ∧ c.code = cc ∧ c.maxLocals = nL ∧ s.vm.findClass own = some m.cls ∧ TB s ∧ va_K D vwCl (tysY cy) s ∧ (∀ q, s.heap.size ≤ q → A q) ∧ meth.locks = false ∧ va_AO "AccessSpread$State" s
def JC (p : Program) (l : Launch) (e : Env) (R : Room) (s : State) (m : MethodId) (args : Array Value) (below : List Frame) (meth : Method) (c : Code) (D : va_G) (A : Nat → Prop) (nL : Nat) (Q : State → Prop) (cells slots pc : Nat) (lv : List (Nat × Value)) (st : List Value) (ws : va_W) : Prop :=
  ∀ (H : Heap) (locs : List Loc) (ls : Array Slot), lv_has ls nL lv → va_P D vwCl ws H → va_D A ws → va_S A s.heap H locs → W p l e R s m args below meth c H locs cells slots Q (F0 m pc ls st)
def QI (D : va_G) (w0 : va_W) (sz : Nat) (post : va_W → Prop) : Array Value → State → Outcome → State → Prop := fun _ st oc t => oc = .returned none ∧ (∃ w1, post w1 ∧ va_P D vwCl w1 t.heap ∧ va_D (va_A w0 sz) w1) ∧ va_F (va_A w0 sz) st t
def PI (D : va_G) (cy : Nat → ClassId) (av : List Value) (w0 : va_W) (sz : Nat) : Array Value → State → Prop := va_Pc av (fun U => U.heap.size = sz ∧ va_P D vwCl w0 U.heap ∧ va_K D vwCl (tysY cy) U ∧ va_D (fun _ => True) w0 ∧ TB U ∧ va_AO "AccessSpread$State" U)
/-- a constructor's contract: at the object of the world w0 it returns and leaves a world of that form -/
def CI (l : Launch) (y : MethodName) (ws : List Cond) (rm : Room) (av : List Value) (D : va_G) (cy : Nat → ClassId) (w0 : va_W) (post : va_W → Prop) : Prop :=
  ∀ sz : Nat, Met l y ws rm (PI D cy av w0 sz) (QI D w0 sz post) rm.cells rm.slots (va_A w0 sz)
section JI
variable {p : Program} {l : Launch} {e : Env} {R : Room} {s : State} {m : MethodId} {args : Array Value} {below : List Frame} {meth : Method} {c : Code} {D : va_G} {cy : Nat → ClassId} {A : Nat → Prop} {nL : Nat} {Q : State → Prop} {cells slots pc : Nat} {lv lv' : List (Nat × Value)} {st : List Value} {ws ws' : va_W} {cc : ByteArray} {own : String}
theorem FI.hts (F : FI p s m meth c cc own nL D cy A) : ∀ w ∈ tblG, w.before args s = true := fun _ hw => F.2.2.2.2.1.use hw
theorem FI.fix (F : FI p s m meth c cc own nL D cy A) : CallFix p m c cc nL s args tblG own := ⟨F.1, F.2.1, F.2.2.1, F.2.2.2.1, F.hts⟩
theorem FI.K (F : FI p s m meth c cc own nL D cy A) : va_K D vwCl (tysY cy) s := F.2.2.2.2.2.1
theorem FI.hA (F : FI p s m meth c cc own nL D cy A) : ∀ q, s.heap.size ≤ q → A q := F.2.2.2.2.2.2.1
theorem CI.of {y : MethodName} {rm : Room} {h0 : Nat} {e0 : va_E} {post : va_W → Prop} (hy : plainName y.cls = true) (hn : 1 ≤ nL) (hi : y.name = "<init>")
    (body : ∀ (p : Program) (e : Env) (s : State) (m : MethodId) (args : Array Value) (below : List Frame) (meth : Method) (c : Code) (A : Nat → Prop), FI p s m meth c cc y.cls nL D cy A → meth.name = "<init>" → meth.sig.returnType = none → A = va_A [(h0, e0)] s.heap.size → JC p l e rm s m args below meth c D A nL (MQ below (QI D [(h0, e0)] s.heap.size post) args s rm.cells rm.slots A) 0 0 0 [(0, .ref h0)] [] [(h0, e0)]) : CI l y [.code y cc nL none] rm [.ref h0] D cy [(h0, e0)] post := by
  intro sz
  refine Met.ofW (cc := cc) (maxL := nL) (ret := none) hy rfl ?_
  intro p e s m args below meth c s₁ B hml hv
  obtain ⟨rfl, hsz, hP, hK, hD, hT, hAO⟩ := hv
  subst hsz
  rw [lg_entry_eq]
  have hl := lv_entry ([.ref h0]) (n := nL) hn
  exact body p e s m _ below meth c (va_A [(h0, e0)] s.heap.size) ⟨B.exec, B.bytes, hml, findClass_of_methodNamed B.named, hT, hK, fun q h => Or.inr h, B.notSynchronized, hAO⟩ (hi ▸ (name_of_methodNamed B.named B.method).1) B.returns rfl s.heap [] _ hl hP hD.self va_S.rf
theorem jc_eq (h : ws = ws') (k : JC p l e R s m args below meth c D A nL Q cells slots pc lv st ws') : JC p l e R s m args below meth c D A nL Q cells slots pc lv st ws := h ▸ k
theorem jc_iconst (F : FI p s m meth c cc own nL D cy A) {n : Int} {v : Int32} (d : decode cc pc = .ok (.iconst n, 1)) (hv : Int32.ofInt n = v) (k : JC p l e R s m args below meth c D A nL Q cells slots (pc + 1) lv (.int v :: st) ws) : JC p l e R s m args below meth c D A nL Q cells slots pc lv (st) ws := fun H locs ls hl hP hD hS => lv_iconst F.1 F.2.1 d hv (k H locs ls hl hP hD hS)
theorem jc_bipush (F : FI p s m meth c cc own nL D cy A) {n : Int} {v : Int32} (d : decode cc pc = .ok (.bipush n, 2)) (hv : (Int8.ofInt n).toInt32 = v) (k : JC p l e R s m args below meth c D A nL Q cells slots (pc + 2) lv (.int v :: st) ws) : JC p l e R s m args below meth c D A nL Q cells slots pc lv (st) ws := fun H locs ls hl hP hD hS => lv_bipush F.1 F.2.1 d hv (k H locs ls hl hP hD hS)
theorem jc_sipush (F : FI p s m meth c cc own nL D cy A) {n : Int} {v : Int32} (d : decode cc pc = .ok (.sipush n, 3)) (hv : (Int16.ofInt n).toInt32 = v) (k : JC p l e R s m args below meth c D A nL Q cells slots (pc + 3) lv (.int v :: st) ws) : JC p l e R s m args below meth c D A nL Q cells slots pc lv (st) ws := fun H locs ls hl hP hD hS => lv_sipush F.1 F.2.1 d hv (k H locs ls hl hP hD hS)
theorem jc_iload_n (F : FI p s m meth c cc own nL D cy A) {k0 : Fin 4} {x : Int32} (q : Nat) (d : decode cc pc = .ok (.iload_n k0, 1)) (hq : lv[q]? = some ((k0 : Nat), .int x)) (k : JC p l e R s m args below meth c D A nL Q cells slots (pc + 1) lv (.int x :: st) ws) : JC p l e R s m args below meth c D A nL Q cells slots pc lv (st) ws := fun H locs ls hl hP hD hS => lv_iload_n F.1 F.2.1 d rfl (lv_at hl q hq) (k H locs ls hl hP hD hS)
theorem jc_aload_n (F : FI p s m meth c cc own nL D cy A) {k0 : Fin 4} {x : Nat} (q : Nat) (d : decode cc pc = .ok (.aload_n k0, 1)) (hq : lv[q]? = some ((k0 : Nat), .ref x)) (k : JC p l e R s m args below meth c D A nL Q cells slots (pc + 1) lv (.ref x :: st) ws) : JC p l e R s m args below meth c D A nL Q cells slots pc lv (st) ws := fun H locs ls hl hP hD hS => lv_aload_n F.1 F.2.1 d rfl (lv_at hl q hq) (k H locs ls hl hP hD hS)
theorem jc_istore_n (F : FI p s m meth c cc own nL D cy A) {k0 : Fin 4} {x : Int32} (d : decode cc pc = .ok (.istore_n k0, 1)) (hn : (k0 : Nat) < nL) (hl : ((k0 : Nat), Value.int x) :: lv.filter (fun q => !(q.1 == (k0 : Nat)) && !(q.1 + 1 == (k0 : Nat) && q.2.category == 2)) = lv') (k : JC p l e R s m args below meth c D A nL Q cells slots (pc + 1) lv' st ws) : JC p l e R s m args below meth c D A nL Q cells slots pc lv (.int x :: st) ws := fun H locs ls h hP hD hS => lv_istore_n F.1 F.2.1 d rfl h hn hl (fun ls h => k H locs ls h hP hD hS)
theorem jc_astore_n (F : FI p s m meth c cc own nL D cy A) {k0 : Fin 4} {x : Nat} (d : decode cc pc = .ok (.astore_n k0, 1)) (hn : (k0 : Nat) < nL) (hl : ((k0 : Nat), Value.ref x) :: lv.filter (fun q => !(q.1 == (k0 : Nat)) && !(q.1 + 1 == (k0 : Nat) && q.2.category == 2)) = lv') (k : JC p l e R s m args below meth c D A nL Q cells slots (pc + 1) lv' st ws) : JC p l e R s m args below meth c D A nL Q cells slots pc lv (.ref x :: st) ws := fun H locs ls h hP hD hS => lv_astore_n F.1 F.2.1 d rfl h hn hl (fun ls h => k H locs ls h hP hD hS)
theorem jc_iinc (F : FI p s m meth c cc own nL D cy A) {i : Nat} {n : Int} {x v : Int32} (q : Nat) (d : decode cc pc = .ok (.iinc i n, 3)) (hq : lv[q]? = some (i, .int x)) (hv : x + Int32.ofInt n = v) (hn : i < nL) (hl : (i, Value.int v) :: lv.filter (fun q => !(q.1 == i) && !(q.1 + 1 == i && q.2.category == 2)) = lv') (k : JC p l e R s m args below meth c D A nL Q cells slots (pc + 3) lv' st ws) : JC p l e R s m args below meth c D A nL Q cells slots pc lv st ws := fun H locs ls h hP hD hS => lv_iinc F.1 F.2.1 d h hq hv hn hl (fun ls h => k H locs ls h hP hD hS)
theorem jc_goto (F : FI p s m meth c cc own nL D cy A) {off : Int} {tgt : Nat} (d : decode cc pc = .ok (.goto off, 3)) (ht : (pc : Int) + off = (tgt : Int)) (k : JC p l e R s m args below meth c D A nL Q cells slots tgt lv st ws) : JC p l e R s m args below meth c D A nL Q cells slots pc lv st ws := fun H locs ls hl hP hD hS => lv_goto F.1 F.2.1 d ht (k H locs ls hl hP hD hS)
theorem jc_ge (F : FI p s m meth c cc own nL D cy A) {x y : Int32} {off : Int} {tgt : Nat} (d : decode cc pc = .ok (.if_icmp .ge off, 3)) (ht : (pc : Int) + off = (tgt : Int)) (h : y ≤ x) (k : JC p l e R s m args below meth c D A nL Q cells slots tgt lv st ws) : JC p l e R s m args below meth c D A nL Q cells slots pc lv (.int y :: .int x :: st) ws := fun H locs ls hl hP hD hS => lv_icmp_ge F.1 F.2.1 d ht (fun _ => k H locs ls hl hP hD hS) (fun q => absurd h q)
theorem jc_lt (F : FI p s m meth c cc own nL D cy A) {x y : Int32} {off : Int} {tgt : Nat} (d : decode cc pc = .ok (.if_icmp .ge off, 3)) (ht : (pc : Int) + off = (tgt : Int)) (h : ¬ y ≤ x) (k : JC p l e R s m args below meth c D A nL Q cells slots (pc + 3) lv st ws) : JC p l e R s m args below meth c D A nL Q cells slots pc lv (.int y :: .int x :: st) ws := fun H locs ls hl hP hD hS => lv_icmp_ge F.1 F.2.1 d ht (fun q => absurd q h) (fun _ => k H locs ls hl hP hD hS)
theorem jc_dup (F : FI p s m meth c cc own nL D cy A) {v : Value} (d : decode cc pc = .ok (.dup, 1)) (hv : v.category = 1) (k : JC p l e R s m args below meth c D A nL Q cells slots (pc + 1) lv (v :: v :: st) ws) : JC p l e R s m args below meth c D A nL Q cells slots pc lv (v :: st) ws := fun H locs ls hl hP hD hS => lv_dup F.1 F.2.1 d hv (k H locs ls hl hP hD hS)
theorem jc_obj (F : FI p s m meth c cc own nL D cy A) {a ix : Nat} (w1 : Cond.methodLink own ix Lib.objectInit ∈ tblG) (w2 : Cond.instanceMethod Lib.objectInit ∈ tblG) (w3 : Cond.code Lib.objectInit ⟨#[0xb1]⟩ 1 none ∈ tblG) (d : decode cc pc = .ok (.invokespecial ix, 3)) (hR : 1 ≤ R.frames ∧ (st.map fun v => v.category).sum + 12 ≤ R.locals) (k : JC p l e R s m args below meth c D A nL Q cells slots (pc + 3) lv st ws) : JC p l e R s m args below meth c D A nL Q cells slots pc lv (.ref a :: st) ws := fun H locs ls hl hP hD hS =>
  W.objInit F.1 F.2.1 F.2.2.2.1 (F.hts _ w1) (F.hts _ w2) (F.hts _ w3) rfl (hl.1.trans F.2.2.1.symm) rfl d hR.1 (by show 2 * 0 + _ + 12 ≤ _; have := hR.2; omega) (k H locs ls hl hP hD hS)
theorem jc_new (F : FI p s m meth c cc own nL D cy A) {C : String} {T : u_T} {N ci ix : Nat} {fs : List Value} (ty : Nat → FieldType) (hty : ∀ k, k < N → parseFieldDescriptor (T k).2.2.1 = some (ty k)) (hin : ∀ w ∈ u_ws C T N, w ∈ tblG) (w1 : Cond.classLink own ix C ∈ tblG) (w2 : Cond.instantiable C N ∈ tblG) (w3 : Cond.initialized C ∈ tblG) (hc : vwCl[ci]? = some (C, T, N)) (hfs : ∀ j, j < N → defaultValue (ty j) = vp_V fs j) (hR : cells + 1 ≤ R.cells ∧ slots + N ≤ R.slots) (d : decode cc pc = .ok (.new ix, 3)) (k : ∀ q : Nat, JC p l e R s m args below meth c D A nL Q (cells + 1) (slots + N) (pc + 3) lv (.ref q :: st) (ws ++ [(q, .inr (ci, fs))])) : JC p l e R s m args below meth c D A nL Q cells slots pc lv st ws := fun H locs ls hl hP hD hS =>
  va_new (c0 := c) F.1 F.2.1 F.hts hin ty hty F.2.2.2.1 (F.hts _ w1) (F.hts _ w2) (F.hts _ w3) F.K hP hD hS F.hA hc hfs hR.1 hR.2 d (fun q H1 hP1 hD1 hS1 => k q H1 locs ls hl hP1 hD1 hS1)
theorem tysY_uniq {cA : ClassId} {ty : FieldType} {k : Nat} (hK : va_K D vwCl (tysY cy ++ [(cA, ty)]) s) (hk : (tysY cy)[k]? = some (cy k, ty)) : cA = cy k := by
  have hl := (List.getElem?_eq_some_iff.mp hk).1
  have h1 := (hK.2 k (cy k, ty) (by rw [List.getElem?_append_left hl]; exact hk)).2
  have h2 := (hK.2 (tysY cy).length (cA, ty) (by rw [List.getElem?_append_right (Nat.le_refl _)]; simp)).2
  cases ty with
  | object C =>
    obtain ⟨_, _, -, -, -, g1⟩ := h1
    obtain ⟨_, _, -, -, -, g2⟩ := h2
    exact Option.some.inj (g2.symm.trans g1)
  | _ => exact Option.some.inj ((show s.vm.findClass _ = some cA from h2).symm.trans h1)
theorem jc_newa (F : FI p s m meth c cc own nL D cy A) {atype : ArrayType} {ty : FieldType} {k0 N' : Nat} {a0 : vp_A} {n : Int32} (w1 : Cond.arrayClass (newarray.typeOf atype) ∈ tblG) (hty : newarray.typeOf atype = ty) (hk : (tysY cy)[k0]? = some (cy k0, ty)) (ha : ∀ cA : ClassId, vp_cell cA a0 = arrV cA N' (fun _ => defaultValue ty)) (hn : ¬ n < 0) (hN : n.toNatClampNeg = N') (hb : N' * componentBytes ty ≤ 536870912) (hR : cells + 1 ≤ R.cells ∧ slots + N' ≤ R.slots) (d : decode cc pc = .ok (.newarray atype, 2)) (k : ∀ q : Nat, JC p l e R s m args below meth c D A nL Q (cells + 1) (slots + N') (pc + 2) lv (.ref q :: st) (ws ++ [(q, .inl (cy k0, a0))])) : JC p l e R s m args below meth c D A nL Q cells slots pc lv (.int n :: st) ws := fun H locs ls hl hP hD hS =>
  va_newa F.1 F.2.1 (F.hts _ w1) hty F.K hP hD hS F.hA ha hn hN hb hR.1 hR.2 d (fun q cA H1 hK1 hP1 hD1 hS1 => by
    have e := tysY_uniq hK1 hk
    subst e
    exact k q H1 locs ls hl hP1 hD1 hS1)
theorem jc_newq (F : FI p s m meth c cc own nL D cy A) {N' ix : Nat} {n : Int32} (w1 : Cond.classLink own ix "AccessSpread$State" ∈ tblG) (hn : ¬ n < 0) (hN : n.toNatClampNeg = N') (hb : N' * 4 ≤ 536870912) (hR : cells + 1 ≤ R.cells ∧ slots + N' ≤ R.slots) (d : decode cc pc = .ok (.anewarray ix, 3)) (k : ∀ q : Nat, JC p l e R s m args below meth c D A nL Q (cells + 1) (slots + N') (pc + 3) lv (.ref q :: st) (ws ++ [(q, .inl (cy 3, N', .inr (.inr (.inr (.inr (fun _ => none))))))])) : JC p l e R s m args below meth c D A nL Q cells slots pc lv (.int n :: st) ws := fun H locs ls hl hP hD hS =>
  va_newq F.1 F.2.1 F.2.2.2.1 (F.hts _ w1) F.2.2.2.2.2.2.2.2 F.K hP hD hS F.hA hn hN hb hR.1 hR.2 d (fun q cA H1 hK1 hP1 hD1 hS1 => by
    have e : cA = cy 3 := tysY_uniq hK1 rfl
    subst e
    exact k q H1 locs ls hl hP1 hD1 hS1)
theorem jc_putF (F : FI p s m meth c cc own nL D cy A) {C : String} {T : u_T} {N ci k0 ix a v : Nat} {fs : List Value} (q0 : Nat) (ty0 : Nat → FieldType) (hty : ∀ k, k < N → parseFieldDescriptor (T k).2.2.1 = some (ty0 k)) (hnm : ∀ a, a < N → ∀ b, b < N → a ≠ b → (T a).2.1 ≠ (T b).2.1) (he : ws[q0]? = some (a, .inr (ci, fs))) (hc : vwCl[ci]? = some (C, T, N)) (hin : ∀ w ∈ u_ws C T N, w ∈ tblG) (hkN : k0 < N) (hw : Cond.fieldLink own ix (T k0).1 (T k0).2.1 (T k0).2.2.1 ∈ tblG) (hfin : (T k0).2.2.2 = true) (hin2 : meth.name = "<init>") (hdecl : (T k0).1 = own) {ty : FieldType} (hd : parseFieldDescriptor (T k0).2.2.1 = some ty) (hnr : narrow ty (.ref v) = .ref v) (hfit : fits ty (.ref v) = true) (hl0 : k0 < fs.length) (d : decode cc pc = .ok (.putfield ix, 3)) (k : JC p l e R s m args below meth c D A nL Q cells slots (pc + 3) lv st (ws.set q0 (a, .inr (ci, fs.set k0 (.ref v))))) : JC p l e R s m args below meth c D A nL Q cells slots pc lv (.ref v :: .ref a :: st) ws := fun H locs ls hl hP hD hS =>
  va_putF F.1 F.2.1 F.hts hin ty0 hty hnm F.2.2.2.1 F.K hP hD hS q0 he hc k0 hkN (F.hts _ hw) (fun _ h => h) hfin hin2 hdecl hd hnr hfit hl0 d (fun H1 locs1 hP1 hD1 hS1 => k H1 locs1 ls hl hP1 hD1 hS1)
theorem jc_getR (F : FI p s m meth c cc own nL D cy A) {C : String} {T : u_T} {N ci k0 ix a v : Nat} {fs : List Value} (q0 : Nat) (he : ws[q0]? = some (a, .inr (ci, fs))) (hv : fs[k0]? = some (.ref v)) (hc : vwCl[ci]? = some (C, T, N)) (hin : ∀ w ∈ u_ws C T N, w ∈ tblG) (hkN : k0 < N) (hw : Cond.fieldLink own ix (T k0).1 (T k0).2.1 (T k0).2.2.1 ∈ tblG) (d : decode cc pc = .ok (.getfield ix, 3)) (k : JC p l e R s m args below meth c D A nL Q cells slots (pc + 3) lv (.ref v :: st) ws) : JC p l e R s m args below meth c D A nL Q cells slots pc lv (.ref a :: st) ws := fun H locs ls hl hP hD hS =>
  va_get F.1 F.2.1 F.hts hin F.2.2.2.1 F.K hP q0 he hc k0 hkN (F.hts _ hw) (fun _ h => h) hv d (k H locs ls hl hP hD hS)
theorem jc_aast (F : FI p s m meth c cc own nL D cy A) {a n v : Nat} {vs : List Value} {f : Nat → Option Nat} {i : Int32} (q0 qk : Nat) (ha : ws[q0]? = some (a, .inl (cy 3, n, .inr (.inr (.inr (.inr f)))))) (hv : ws[qk]? = some (v, .inr (3, vs))) (hin : vp_in i n) (d : decode cc pc = .ok (.aastore, 1)) (k : JC p l e R s m args below meth c D A nL Q cells slots (pc + 1) lv st (ws.set q0 (a, .inl (cy 3, n, .inr (.inr (.inr (.inr (va_up f i.toNatClampNeg (some v))))))))) : JC p l e R s m args below meth c D A nL Q cells slots pc lv (.ref v :: .int i :: .ref a :: st) ws := fun H locs ls hl hP hD hS =>
  va_astq F.1 F.2.1 F.K hP hD hS q0 3 qk 3 ha (r := (RX3, TX3, 4)) rfl hv rfl hin d (fun H1 locs1 hP1 hD1 hS1 => k H1 locs1 ls hl hP1 hD1 hS1)
theorem jc_call (F : FI p s m meth c cc own nL D cy A) {y : MethodName} {bytes : ByteArray} {maxL ix b : Nat} {rm : Room} {rest : List Value} {w0 wr : va_W} {post : va_W → Prop} (isC isR : List Nat) (hC : isC.map (fun i => ws[i]?) = w0.map some) (hRr : isR.map (fun i => ws[i]?) = wr.map some) (hnd : va_nd isR = true) (hdis : ∀ i ∈ isR, i ∉ isC) (hnC : va_nd isC = true)
    (hM : CI l y [.code y bytes maxL none] rm [.ref b] D cy w0 post) (hlink : (Cond.methodLink own ix y ∈ tblG) ∨ ∃ host, Cond.methodLinkNest own ix y host ∈ tblG) (gW : GoodIn tblG [.code y bytes maxL none]) (hi0 : Cond.initialized y.cls ∈ tblG) (hi1 : Cond.instanceMethod y ∈ tblG) (hyn : y.name = "<init>")
    (hd : y.cls ≠ "java/lang/invoke/MethodHandle" ∧ y.cls ≠ "java/lang/invoke/VarHandle" ∧ (parseMethodDescriptor y.desc).map (fun d => d.parameters.length) = some 0) (hR : rm.frames + 1 ≤ R.frames ∧ 8 + (maxL + 11) + rm.locals ≤ R.locals) (hf : cells + rm.cells ≤ R.cells ∧ slots + rm.slots ≤ R.slots) (hst : st = .ref b :: rest) (hW : (rest.map fun v => v.category).sum ≤ 8) (d : decode cc pc = .ok (.invokespecial ix, 3))
    (k : ∀ w1, post w1 → JC p l e R s m args below meth c D A nL Q (cells + rm.cells) (slots + rm.slots) (pc + 3) lv rest (wr ++ w1)) : JC p l e R s m args below meth c D A nL Q cells slots pc lv st ws := by
  intro H locs ls hl hP hD hS T hT X
  have hF := va_free (wc := w0) hD hS F.hA isC hC
  have hP0 : va_P D vwCl w0 H := by
    intro k' q hq
    have h1 : (isC.map (fun i => ws[i]?))[k']? = some (some q) := by rw [hC, List.getElem?_map, hq]; rfl
    rw [List.getElem?_map] at h1
    cases hi : isC[k']? with
    | none => rw [hi] at h1; cases h1
    | some i => rw [hi] at h1; exact hP i q (Option.some.inj h1)
  have hD0 : va_D A w0 := hD.sub isC hnC hC
  have hpre : PreS s H (PI D cy [.ref b] w0 H.size) [.ref b] := ⟨fun a U g mk q => by obtain ⟨q0, q1, qP, qK, qD, qT, qO⟩ := q; exact ⟨q0, q1, qP, va_K.moved (u := U) (U := U.calling g mk a) (Vm.Alike.refl U.vm) qK, qD, qT.warm (U := U.calling g mk a) (State.WarmedH.refl U), va_AO.moved (u := U) (U := U.calling g mk a) (Vm.Alike.refl U.vm) qO⟩,
    fun U hU hW => ⟨rfl, by rw [hU], by rw [hU]; exact hP0, va_K.moved hW.alike F.K, hD0.weaken (fun _ _ _ _ => trivial), F.2.2.2.2.1.warm hW, va_AO.moved hW.alike F.2.2.2.2.2.2.2.2⟩⟩
  have hrun : va_Run p l e R s m args below meth c H locs cells slots rm.cells rm.slots (F0 m pc ls st) rest (QI D w0 H.size post [Value.ref b].toArray) (va_A w0 H.size) := by
    rcases hlink with hlink | ⟨host, hlink⟩
    · exact va_runI (As := []) F.fix (hM H.size) (cwI 0 F.hts gW rfl rfl rfl (F.hts _ hi0) (F.hts _ hlink) (F.hts _ hi1) hyn hd hR) hpre rfl rfl hl.1 hst (lv_room hW) d hf
    · exact va_runIN (As := []) F.fix (hM H.size) ⟨va_cnB 0 F.hts gW rfl rfl rfl (F.2.2.2.2.1 _ hlink) (F.hts _ hi0) hd hR, hyn, F.hts _ hi1⟩ hpre rfl rfl hl.1 hst (lv_room hW) d hf
  obtain ⟨v, st₀, t, T', L, h0, X', hL, e1, e2, ⟨hv, ⟨w1, hpost, hP1, hD1⟩, hz, hk⟩, stp⟩ := hrun T hT X
  cases hv
  rw [h0] at hz hk
  rw [← e1] at hP1 hz
  have hk1 : ∀ q : Nat, q < H.size → ¬ va_A w0 H.size q → T'.heap[q]? = H[q]? := fun q h1 h2 => by rw [e1]; exact hk q h1 h2
  obtain ⟨hP2, hD2⟩ := va_join (wr := wr) (w1 := w1) hP hD isC isR hC hRr hnd hdis hk1 hF hP1 hD1
  obtain ⟨t2, a1, b1⟩ := k w1 hpost T'.heap (locs ++ L) ls hl hP2 hD2 ⟨Nat.le_trans hS.1 hz, fun q h1 h2 => (hk1 q (Nat.lt_of_lt_of_le h1 hS.1) (fun z => h2 (hF q z))).trans (hS.2.1 q h1 h2), fun q hq => by
      rcases List.mem_append.mp hq with h | h
      · exact hS.2.2 q h
      · exact hF _ (hL q h)⟩ T' rfl X'
  exact ⟨t2, stp t2 a1, b1⟩
theorem jc_ret (F : FI p s m meth c cc own nL D cy A) {w0 : va_W} {post : va_W → Prop} (hr : meth.sig.returnType = none) (hAe : A = va_A w0 s.heap.size) (hp : post ws) (d : decode cc pc = .ok (.return_, 1)) : JC p l e R s m args below meth c D A nL (MQ below (QI D w0 s.heap.size post) args s cells slots A) cells slots pc lv [] ws := fun H locs ls hl hP hD hS =>
  W.vret F.1 F.2.1 hr (fun t ht hW => ⟨rfl, ⟨ws, hp, by rw [ht]; exact hP, hAe ▸ hD⟩, hAe ▸ hS.F ht⟩) hS.2.2 d F.2.2.2.2.2.2.2.1
end JI
