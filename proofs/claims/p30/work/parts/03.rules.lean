/-! one contract a method, one judgement a walk -/
def TB (U : State) : Prop := ∀ w ∈ tblG, w.before #[] U = true
theorem TB.use {U : State} (h : TB U) {w : Cond} (hw : w ∈ tblG) {A : Array Value} : w.before A U = true := by
  have h0 := h w hw
  have hok := List.all_eq_true.mp tblG_ok w hw
  rw [Bool.or_eq_true] at hok
  rcases hok with hg | hg
  · exact word_at (State.WarmedH.refl U) (good_of_word hg) h0
  · cases w <;> first | exact va_Nw.use rfl h0 | exact absurd hg (by simp [isNest])
theorem TB.warm {s U : State} (hW : s.WarmedH U.vm) (h : TB s) : TB U := by
  intro w hw
  have h0 := h w hw
  have hok := List.all_eq_true.mp tblG_ok w hw
  rw [Bool.or_eq_true] at hok
  rcases hok with hg | hg
  · exact word_at hW (good_of_word hg) h0
  · cases w <;> first | exact va_Nw.warmM hW h0 | exact va_Nw.warmC hW h0 | exact va_Nw.warmD hW h0 | exact absurd hg (by simp [isNest])
/-- what lies outside of the world and stays: the script -/
def SF (g : GG) (A : Nat → Prop) (U : State) : Prop := va_X (g.2.1 100) g.2.2.2.1 g.2.2.2.2 U U.heap ∧ g.2.1 100 < U.heap.size ∧ ¬ A (g.2.1 100)
theorem SF.pre {g : GG} {A B : Nat → Prop} {s U : State} (h : SF g A s) (hW : s.WarmedH U.vm) (hk : ∀ a : Nat, a < s.heap.size → ¬ A a → U.heap[a]? = s.heap[a]?) (hAB : ∀ q, B q → A q) : SF g B U := by
  obtain ⟨h1, h2, h3⟩ := h
  have hX := (h1.kept (hk _ h2 h3)).moved hW.alike
  refine ⟨hX, ?_, fun q => h3 (hAB _ q)⟩
  obtain ⟨scr, hs, -⟩ := hX
  exact (Array.getElem?_eq_some_iff.mp hs).1
/-- what a method answers: outcome, world behind it, frame -/
def QC (g : GG) (A : Nat → Prop) (ov : Option Value) (S' : Hs) : Array Value → State → Outcome → State → Prop := fun _ st oc t => oc = .returned ov ∧ va_P g.1 vwCl (wC g S') t.heap ∧ va_F A st t
def PC (g : GG) (av : List Value) (S : Hs) (sz : Nat) : Array Value → State → Prop := va_Pc av (fun U => U.heap.size = sz ∧ va_P g.1 vwCl (wC g S) U.heap ∧ va_K g.1 vwCl (tysC g) U ∧ TB U ∧ SF g (va_A (wC g S) sz) U)
/-- a method's contract: at arguments av and the world S it returns ov and leaves the world S' -/
def CM (l : Launch) (y : MethodName) (ws : List Cond) (rm : Room) (av : List Value) (g : GG) (S : Hs) (ov : Option Value) (S' : Hs) : Prop :=
  ∀ sz : Nat, Met l y ws rm (PC g av S sz) (QC g (va_A (wC g S) sz) ov S') rm.cells rm.slots (va_A (wC g S) sz)
def Fx (p : Program) (s : State) (m : MethodId) (meth : Method) (c : Code) (cc : ByteArray) (own : String) (nL : Nat) (ret : Option FieldType) (g : GG) (A : Nat → Prop) : Prop :=
  p.tables.exec = Jvm.exec ∧ c.code = cc ∧ c.maxLocals = nL ∧ s.vm.findClass own = some m.cls ∧ TB s ∧ va_K g.1 vwCl (tysC g) s ∧ (Inj g ∧ ∀ i d, lay i = some d → A (g.2.1 i)) ∧ (∀ q, s.heap.size ≤ q → A q) ∧ meth.sig.returnType = ret ∧ meth.locks = false ∧ SF g A s
def J (p : Program) (l : Launch) (e : Env) (R : Room) (s : State) (m : MethodId) (args : Array Value) (below : List Frame) (meth : Method) (c : Code) (g : GG) (A : Nat → Prop) (nL : Nat) (Q : State → Prop) (cells slots pc : Nat) (lv : List (Nat × Value)) (st : List Value) (S : Hs) : Prop :=
  ∀ (H : Heap) (locs : List Loc) (ls : Array Slot), lv_has ls nL lv → va_P g.1 vwCl (wC g S) H → va_S A s.heap H locs → W p l e R s m args below meth c H locs cells slots Q (F0 m pc ls st)
section JR
variable {p : Program} {l : Launch} {e : Env} {R : Room} {s : State} {m : MethodId} {args : Array Value} {below : List Frame} {meth : Method} {c : Code} {g : GG} {A : Nat → Prop} {nL : Nat} {Q : State → Prop} {cells slots pc : Nat} {lv lv' : List (Nat × Value)} {st : List Value} {S S' : Hs} {cc : ByteArray} {own : String} {ret : Option FieldType}
theorem Fx.tb (F : Fx p s m meth c cc own nL ret g A) : TB s := F.2.2.2.2.1
theorem Fx.hts (F : Fx p s m meth c cc own nL ret g A) : ∀ w ∈ tblG, w.before args s = true := fun _ hw => F.tb.use hw
theorem Fx.ow (F : Fx p s m meth c cc own nL ret g A) : s.vm.findClass own = some m.cls := F.2.2.2.1
theorem Fx.K (F : Fx p s m meth c cc own nL ret g A) : va_K g.1 vwCl (tysC g) s := F.2.2.2.2.2.1
theorem Fx.D (F : Fx p s m meth c cc own nL ret g A) (S : Hs) : va_D A (wC g S) := wC_D F.2.2.2.2.2.2.1.1 F.2.2.2.2.2.2.1.2 S
theorem Fx.hA (F : Fx p s m meth c cc own nL ret g A) : ∀ q, s.heap.size ≤ q → A q := F.2.2.2.2.2.2.2.1
theorem Fx.rt (F : Fx p s m meth c cc own nL ret g A) : meth.sig.returnType = ret := F.2.2.2.2.2.2.2.2.1
theorem Fx.locks (F : Fx p s m meth c cc own nL ret g A) : meth.locks = false := F.2.2.2.2.2.2.2.2.2.1
theorem Fx.sf (F : Fx p s m meth c cc own nL ret g A) : SF g A s := F.2.2.2.2.2.2.2.2.2.2
theorem Fx.fix (F : Fx p s m meth c cc own nL ret g A) : CallFix p m c cc nL s args tblG own := ⟨F.1, F.2.1, F.2.2.1, F.ow, F.hts⟩
theorem Fx.free (F : Fx p s m meth c cc own nL ret g A) (S : Hs) {H : Heap} {locs : List Loc} (hS : va_S A s.heap H locs) : ∀ q, va_A (wC g S) H.size q → A q := by
  intro q h
  rcases h with ⟨k, e, h⟩ | h
  · exact (F.D S).2 k (q, e) h
  · exact F.hA q (Nat.le_trans hS.1 h)
theorem CM.of {y : MethodName} {rm : Room} {av : List Value} {ov : Option Value} (hy : plainName y.cls = true) (hg : Inj g) (hn : (lg_sl av).length ≤ nL) (hlv : lv_args 0 av = lv)
    (body : ∀ (p : Program) (e : Env) (s : State) (m : MethodId) (args : Array Value) (below : List Frame) (meth : Method) (c : Code) (A : Nat → Prop), Fx p s m meth c cc y.cls nL ret g A → J p l e rm s m args below meth c g A nL (MQ below (QC g A ov S') args s rm.cells rm.slots A) 0 0 0 lv [] S) : CM l y [.code y cc nL ret] rm av g S ov S' := by
  intro sz
  refine Met.ofW (cc := cc) (maxL := nL) (ret := ret) hy rfl ?_
  intro p e s m args below meth c s₁ B hml hv
  obtain ⟨rfl, hsz, hP, hK, hT, hSF⟩ := hv
  subst hsz
  rw [lg_entry_eq]
  have hl := lv_entry av (n := nL) hn
  rw [hlv] at hl
  refine body p e s m _ below meth c (va_A (wC g S) s.heap.size) ⟨B.exec, B.bytes, hml, findClass_of_methodNamed B.named, hT, hK, ⟨hg, fun i d hd => va_A.in (wC_get g S hd)⟩, fun q h => Or.inr h, B.returns, B.notSynchronized, hSF⟩ s.heap [] _ hl hP va_S.rf
theorem j_sub (ks : List Nat) (h : lv_pick lv ks = lv') (k : J p l e R s m args below meth c g A nL Q cells slots pc lv' st S) : J p l e R s m args below meth c g A nL Q cells slots pc lv st S := fun H locs ls hl hP hS => k H locs ls (lv_sub hl ks h) hP hS
theorem j_widen {k n : Nat} (h1 : cells ≤ k) (h2 : slots ≤ n) (kk : J p l e R s m args below meth c g A nL Q k n pc lv st S) : J p l e R s m args below meth c g A nL Q cells slots pc lv st S := fun H locs ls hl hP hS => W.widen h1 h2 (kk H locs ls hl hP hS)
/-! texts: a guard, a name, a loop -/
def gd {α : Type} (b : Bool) (k : Option α) : Option α := if b = true then k else none
def bnd {α β : Type} (x : α) (f : α → β) : β := f x
def inb (i : Int32) (n : Nat) : Bool := decide (¬ (i < 0 ∨ n ≤ i.toNatClampNeg))
theorem gd_ok {α : Type} {b : Bool} {k : Option α} {r : α} (h : gd b k = some r) : b = true ∧ k = some r := by
  unfold gd at h
  by_cases hb : b = true
  · rw [if_pos hb] at h; exact ⟨hb, h⟩
  · rw [if_neg hb] at h; cases h
theorem inb_in {i : Int32} {n : Nat} (h : inb i n = true) : vp_in i n := (of_decide_eq_true h : ¬ (i < 0 ∨ n ≤ i.toNatClampNeg))
def itr {σ ρ : Type} (f : σ → Option (σ ⊕ ρ)) : Nat → σ → Option ρ
  | 0, _ => none
  | n + 1, s => match f s with
    | none => none
    | some (.inr r) => some r
    | some (.inl t) => itr f n t
noncomputable def loopO {σ ρ : Type} (f : σ → Option (σ ⊕ ρ)) (s : σ) : Option ρ := @dite _ (∃ n r, itr f n s = some r) (Classical.propDecidable _) (fun h => some (Classical.choose (Classical.choose_spec h))) (fun _ => none)
theorem itr_uniq {σ ρ : Type} (f : σ → Option (σ ⊕ ρ)) : ∀ (n k : Nat) (s : σ) (r q : ρ), itr f n s = some r → itr f k s = some q → r = q
  | 0, _, _, _, _, h, _ => by cases h
  | _ + 1, 0, _, _, _, _, h => by cases h
  | n + 1, k + 1, s, r, q, h1, h2 => by
    unfold itr at h1 h2
    cases hf : f s with
    | none => rw [hf] at h1; cases h1
    | some x =>
      rw [hf] at h1 h2
      cases x with
      | inr z => exact (Option.some.inj h1).symm.trans (Option.some.inj h2)
      | inl t => exact itr_uniq f n k t r q h1 h2
theorem loopO_of {σ ρ : Type} {f : σ → Option (σ ⊕ ρ)} {n : Nat} {s : σ} {r : ρ} (h : itr f n s = some r) : loopO f s = some r := by
  have hh : ∃ n r, itr f n s = some r := ⟨n, r, h⟩
  unfold loopO
  rw [dif_pos hh]
  exact congrArg some (itr_uniq f _ n s _ r (Classical.choose_spec (Classical.choose_spec hh)) h)
theorem loopO_itr {σ ρ : Type} {f : σ → Option (σ ⊕ ρ)} {s : σ} {r : ρ} (h : loopO f s = some r) : ∃ n, itr f n s = some r := by
  unfold loopO at h
  by_cases hh : ∃ n r, itr f n s = some r
  · rw [dif_pos hh] at h
    have := Classical.choose_spec (Classical.choose_spec hh)
    rw [Option.some.inj h] at this
    exact ⟨_, this⟩
  · rw [dif_neg hh] at h; cases h
theorem loopO_eq {σ ρ : Type} (f : σ → Option (σ ⊕ ρ)) (s : σ) : loopO f s = match f s with | none => none | some (.inr r) => some r | some (.inl t) => loopO f t := by
  cases hf : f s with
  | none =>
    cases hl : loopO f s with
    | none => rfl
    | some r =>
      obtain ⟨n, hn⟩ := loopO_itr hl
      cases n with
      | zero => cases hn
      | succ n => unfold itr at hn; rw [hf] at hn; cases hn
  | some x =>
    cases x with
    | inr r => exact loopO_of (n := 1) (by unfold itr; rw [hf])
    | inl t =>
      show loopO f s = loopO f t
      cases hl : loopO f t with
      | some r =>
        obtain ⟨n, hn⟩ := loopO_itr hl
        exact loopO_of (n := n + 1) (by unfold itr; rw [hf]; exact hn)
      | none =>
        cases hs : loopO f s with
        | none => rfl
        | some r =>
          obtain ⟨n, hn⟩ := loopO_itr hs
          cases n with
          | zero => cases hn
          | succ n =>
            unfold itr at hn
            rw [hf] at hn
            rw [loopO_of hn] at hl
            cases hl
/-- a loop's walk: if one turn's text leads on, all turns do -/
theorem loopO_walk {σ ρ : Type} (f : σ → Option (σ ⊕ ρ)) (I : σ → Prop) (E : ρ → Prop) (hb : ∀ s o, f s = some o → (match o with | .inl t => I t | .inr r => E r) → I s) {s : σ} {r : ρ} (h : loopO f s = some r) (he : E r) : I s := by
  obtain ⟨n, hn⟩ := loopO_itr h
  induction n generalizing s with
  | zero => cases hn
  | succ n ih =>
    unfold itr at hn
    cases hf : f s with
    | none => rw [hf] at hn; cases hn
    | some x =>
      rw [hf] at hn
      cases x with
      | inr z =>
        cases hn
        exact hb s _ hf he
      | inl t => exact hb s _ hf (ih (loopO_of hn) hn)
def bndE {α γ : Type} (o : Option (α × Hs)) (f : α → Hs → Option γ) : Option γ := o.bind fun e => f e.1 e.2
def bndP {α γ : Type} (o : Option (α ⊕ Nat)) (f : α → Option γ) (h : Nat → Option γ) : Option γ := o.bind fun e => Sum.elim f h e
def bndX {α γ : Type} (o : Option ((α ⊕ Nat) × Hs)) (f : α → Hs → Option γ) (h : Nat → Hs → Option γ) : Option γ := o.bind fun e => Sum.elim (fun v => f v e.2) (fun q => h q e.2) e.1
theorem bndE_ok {α γ : Type} {o : Option (α × Hs)} {f : α → Hs → Option γ} {r : γ} (h : bndE o f = some r) : ∃ v S, o = some (v, S) ∧ f v S = some r := by
  obtain ⟨⟨v, S⟩, h1, h2⟩ := Option.bind_eq_some_iff.mp h
  exact ⟨v, S, h1, h2⟩
theorem bndP_ok {α γ : Type} {o : Option (α ⊕ Nat)} {f : α → Option γ} {h : Nat → Option γ} {r : γ} {C : Prop} (hm : bndP o f h = some r) (kl : ∀ v, o = some (.inl v) → f v = some r → C) (kr : ∀ q, o = some (.inr q) → h q = some r → C) : C := by
  obtain ⟨v | q, h1, h2⟩ := Option.bind_eq_some_iff.mp hm
  · exact kl v h1 h2
  · exact kr q h1 h2
theorem bndX_ok {α γ : Type} {o : Option ((α ⊕ Nat) × Hs)} {f : α → Hs → Option γ} {h : Nat → Hs → Option γ} {r : γ} {C : Prop} (hm : bndX o f h = some r) (kl : ∀ v S, o = some (.inl v, S) → f v S = some r → C) (kr : ∀ q S, o = some (.inr q, S) → h q S = some r → C) : C := by
  obtain ⟨⟨v | q, S⟩, h1, h2⟩ := Option.bind_eq_some_iff.mp hm
  · exact kl v S h1 h2
  · exact kr q S h1 h2
theorem j_bnd {α : Type} {x : Int32} {f : Int32 → Option α} {r : α} (hm : bnd x f = some r) (k : ∀ y : Int32, f y = some r → J p l e R s m args below meth c g A nL Q cells slots pc lv (.int y :: st) S) : J p l e R s m args below meth c g A nL Q cells slots pc lv (.int x :: st) S := k x hm
theorem j_bndl {α : Type} {x : Int64} {f : Int64 → Option α} {r : α} (hm : bnd x f = some r) (k : ∀ y : Int64, f y = some r → J p l e R s m args below meth c g A nL Q cells slots pc lv (.long y :: st) S) : J p l e R s m args below meth c g A nL Q cells slots pc lv (.long x :: st) S := k x hm
theorem j_bndr {α : Type} {x : Nat} {f : Nat → Option α} {r : α} (hm : bnd x f = some r) (k : ∀ y : Nat, f y = some r → J p l e R s m args below meth c g A nL Q cells slots pc lv (.ref (g.2.1 y) :: st) S) : J p l e R s m args below meth c g A nL Q cells slots pc lv (.ref (g.2.1 x) :: st) S := k x hm
theorem j_bndS {α : Type} {f : Hs → Option α} {r : α} (hm : bnd S f = some r) (k : ∀ T : Hs, f T = some r → J p l e R s m args below meth c g A nL Q cells slots pc lv st T) : J p l e R s m args below meth c g A nL Q cells slots pc lv st S := k S hm
def iushr (x y : Int32) : Int32 := (x.toUInt32 >>> (y.toUInt32 &&& Int32.toUInt32 31)).toInt32
def lushr (x : Int64) (y : Int32) : Int64 := (x.toUInt64 >>> (y.toInt64.toUInt64 &&& Int64.toUInt64 63)).toInt64
def lshl (x : Int64) (y : Int32) : Int64 := x <<< (y.toInt64 &&& 63)
def imin (x y : Int32) : Int32 := if y < x then y else x
def imax (x y : Int32) : Int32 := if x < y then y else x
def irm (x y : Int32) : Int32 := x - x / y * y
def lrm (x y : Int64) : Int64 := x - x / y * y
def i2c (x : Int32) : Int32 := (x.toUInt32 % 65536).toInt32

theorem j_iconst (F : Fx p s m meth c cc own nL ret g A) {n : Int} {v : Int32} (d : decode cc pc = .ok (.iconst n, 1)) (hv : Int32.ofInt n = v) (k : J p l e R s m args below meth c g A nL Q cells slots (pc + 1) lv (.int v :: st) S) : J p l e R s m args below meth c g A nL Q cells slots pc lv (st) S := fun H locs ls hl hP hS => lv_iconst F.1 F.2.1 d hv (k H locs ls hl hP hS)
theorem j_bipush (F : Fx p s m meth c cc own nL ret g A) {n : Int} {v : Int32} (d : decode cc pc = .ok (.bipush n, 2)) (hv : (Int8.ofInt n).toInt32 = v) (k : J p l e R s m args below meth c g A nL Q cells slots (pc + 2) lv (.int v :: st) S) : J p l e R s m args below meth c g A nL Q cells slots pc lv (st) S := fun H locs ls hl hP hS => lv_bipush F.1 F.2.1 d hv (k H locs ls hl hP hS)
theorem j_sipush (F : Fx p s m meth c cc own nL ret g A) {n : Int} {v : Int32} (d : decode cc pc = .ok (.sipush n, 3)) (hv : (Int16.ofInt n).toInt32 = v) (k : J p l e R s m args below meth c g A nL Q cells slots (pc + 3) lv (.int v :: st) S) : J p l e R s m args below meth c g A nL Q cells slots pc lv (st) S := fun H locs ls hl hP hS => lv_sipush F.1 F.2.1 d hv (k H locs ls hl hP hS)
theorem j_lconst (F : Fx p s m meth c cc own nL ret g A) {n : Fin 2} {v : Int64} (d : decode cc pc = .ok (.lconst n, 1)) (hv : Int64.ofNat (n : Nat) = v) (k : J p l e R s m args below meth c g A nL Q cells slots (pc + 1) lv (.long v :: st) S) : J p l e R s m args below meth c g A nL Q cells slots pc lv (st) S := fun H locs ls hl hP hS => lv_lconst F.1 F.2.1 d hv (k H locs ls hl hP hS)
theorem j_iload_n (F : Fx p s m meth c cc own nL ret g A) {k0 : Fin 4} {x : Int32} (q : Nat) (d : decode cc pc = .ok (.iload_n k0, 1)) (hq : lv[q]? = some ((k0 : Nat), .int x)) (k : J p l e R s m args below meth c g A nL Q cells slots (pc + 1) lv (.int x :: st) S) : J p l e R s m args below meth c g A nL Q cells slots pc lv (st) S := fun H locs ls hl hP hS => lv_iload_n F.1 F.2.1 d rfl (lv_at hl q hq) (k H locs ls hl hP hS)
theorem j_iload (F : Fx p s m meth c cc own nL ret g A) {i : Nat} {x : Int32} (q : Nat) (d : decode cc pc = .ok (.iload i, 2)) (hq : lv[q]? = some (i, .int x)) (k : J p l e R s m args below meth c g A nL Q cells slots (pc + 2) lv (.int x :: st) S) : J p l e R s m args below meth c g A nL Q cells slots pc lv (st) S := fun H locs ls hl hP hS => lv_iload F.1 F.2.1 d (lv_at hl q hq) (k H locs ls hl hP hS)
theorem j_istore_n (F : Fx p s m meth c cc own nL ret g A) {k0 : Fin 4} {x : Int32} (d : decode cc pc = .ok (.istore_n k0, 1)) (hn : (k0 : Nat) < nL) (hl : ((k0 : Nat), Value.int x) :: lv.filter (fun q => !(q.1 == (k0 : Nat)) && !(q.1 + 1 == (k0 : Nat) && q.2.category == 2)) = lv') (k : J p l e R s m args below meth c g A nL Q cells slots (pc + 1) lv' st S) : J p l e R s m args below meth c g A nL Q cells slots pc lv (.int x :: st) S := fun H locs ls h hP hS => lv_istore_n F.1 F.2.1 d rfl h hn hl (fun ls h => k H locs ls h hP hS)
theorem j_istore (F : Fx p s m meth c cc own nL ret g A) {i : Nat} {x : Int32} (d : decode cc pc = .ok (.istore i, 2)) (hn : i < nL) (hl : (i, Value.int x) :: lv.filter (fun q => !(q.1 == i) && !(q.1 + 1 == i && q.2.category == 2)) = lv') (k : J p l e R s m args below meth c g A nL Q cells slots (pc + 2) lv' st S) : J p l e R s m args below meth c g A nL Q cells slots pc lv (.int x :: st) S := fun H locs ls h hP hS => lv_istore F.1 F.2.1 d h hn hl (fun ls h => k H locs ls h hP hS)
theorem j_lload_n (F : Fx p s m meth c cc own nL ret g A) {k0 : Fin 4} {x : Int64} (q : Nat) (d : decode cc pc = .ok (.lload_n k0, 1)) (hq : lv[q]? = some ((k0 : Nat), .long x)) (k : J p l e R s m args below meth c g A nL Q cells slots (pc + 1) lv (.long x :: st) S) : J p l e R s m args below meth c g A nL Q cells slots pc lv (st) S := fun H locs ls hl hP hS => lv_lload_n F.1 F.2.1 d rfl (lv_at hl q hq) (k H locs ls hl hP hS)
theorem j_lload (F : Fx p s m meth c cc own nL ret g A) {i : Nat} {x : Int64} (q : Nat) (d : decode cc pc = .ok (.lload i, 2)) (hq : lv[q]? = some (i, .long x)) (k : J p l e R s m args below meth c g A nL Q cells slots (pc + 2) lv (.long x :: st) S) : J p l e R s m args below meth c g A nL Q cells slots pc lv (st) S := fun H locs ls hl hP hS => lv_lload F.1 F.2.1 d (lv_at hl q hq) (k H locs ls hl hP hS)
theorem j_lstore_n (F : Fx p s m meth c cc own nL ret g A) {k0 : Fin 4} {x : Int64} (d : decode cc pc = .ok (.lstore_n k0, 1)) (hn : (k0 : Nat) + 1 < nL) (hl : ((k0 : Nat), Value.long x) :: lv.filter (fun q => !(q.1 == (k0 : Nat)) && (!(q.1 == (k0 : Nat) + 1) && !(q.1 + 1 == (k0 : Nat) && q.2.category == 2))) = lv') (k : J p l e R s m args below meth c g A nL Q cells slots (pc + 1) lv' st S) : J p l e R s m args below meth c g A nL Q cells slots pc lv (.long x :: st) S := fun H locs ls h hP hS => lv_lstore_n F.1 F.2.1 d rfl h hn hl (fun ls h => k H locs ls h hP hS)
theorem j_lstore (F : Fx p s m meth c cc own nL ret g A) {i : Nat} {x : Int64} (d : decode cc pc = .ok (.lstore i, 2)) (hn : i + 1 < nL) (hl : (i, Value.long x) :: lv.filter (fun q => !(q.1 == i) && (!(q.1 == i + 1) && !(q.1 + 1 == i && q.2.category == 2))) = lv') (k : J p l e R s m args below meth c g A nL Q cells slots (pc + 2) lv' st S) : J p l e R s m args below meth c g A nL Q cells slots pc lv (.long x :: st) S := fun H locs ls h hP hS => lv_lstore F.1 F.2.1 d h hn hl (fun ls h => k H locs ls h hP hS)
theorem j_aload_n (F : Fx p s m meth c cc own nL ret g A) {k0 : Fin 4} {x : Nat} (q : Nat) (d : decode cc pc = .ok (.aload_n k0, 1)) (hq : lv[q]? = some ((k0 : Nat), .ref x)) (k : J p l e R s m args below meth c g A nL Q cells slots (pc + 1) lv (.ref x :: st) S) : J p l e R s m args below meth c g A nL Q cells slots pc lv (st) S := fun H locs ls hl hP hS => lv_aload_n F.1 F.2.1 d rfl (lv_at hl q hq) (k H locs ls hl hP hS)
theorem j_aload (F : Fx p s m meth c cc own nL ret g A) {i : Nat} {x : Nat} (q : Nat) (d : decode cc pc = .ok (.aload i, 2)) (hq : lv[q]? = some (i, .ref x)) (k : J p l e R s m args below meth c g A nL Q cells slots (pc + 2) lv (.ref x :: st) S) : J p l e R s m args below meth c g A nL Q cells slots pc lv (st) S := fun H locs ls hl hP hS => lv_aload F.1 F.2.1 d (lv_at hl q hq) (k H locs ls hl hP hS)
theorem j_astore_n (F : Fx p s m meth c cc own nL ret g A) {k0 : Fin 4} {x : Nat} (d : decode cc pc = .ok (.astore_n k0, 1)) (hn : (k0 : Nat) < nL) (hl : ((k0 : Nat), Value.ref x) :: lv.filter (fun q => !(q.1 == (k0 : Nat)) && !(q.1 + 1 == (k0 : Nat) && q.2.category == 2)) = lv') (k : J p l e R s m args below meth c g A nL Q cells slots (pc + 1) lv' st S) : J p l e R s m args below meth c g A nL Q cells slots pc lv (.ref x :: st) S := fun H locs ls h hP hS => lv_astore_n F.1 F.2.1 d rfl h hn hl (fun ls h => k H locs ls h hP hS)
theorem j_astore (F : Fx p s m meth c cc own nL ret g A) {i : Nat} {x : Nat} (d : decode cc pc = .ok (.astore i, 2)) (hn : i < nL) (hl : (i, Value.ref x) :: lv.filter (fun q => !(q.1 == i) && !(q.1 + 1 == i && q.2.category == 2)) = lv') (k : J p l e R s m args below meth c g A nL Q cells slots (pc + 2) lv' st S) : J p l e R s m args below meth c g A nL Q cells slots pc lv (.ref x :: st) S := fun H locs ls h hP hS => lv_astore F.1 F.2.1 d h hn hl (fun ls h => k H locs ls h hP hS)
theorem j_iinc (F : Fx p s m meth c cc own nL ret g A) {i : Nat} {n : Int} {x v : Int32} (q : Nat) (d : decode cc pc = .ok (.iinc i n, 3)) (hq : lv[q]? = some (i, .int x)) (hv : x + Int32.ofInt n = v) (hn : i < nL) (hl : (i, Value.int v) :: lv.filter (fun q => !(q.1 == i) && !(q.1 + 1 == i && q.2.category == 2)) = lv') (k : J p l e R s m args below meth c g A nL Q cells slots (pc + 3) lv' st S) : J p l e R s m args below meth c g A nL Q cells slots pc lv st S := fun H locs ls h hP hS => lv_iinc F.1 F.2.1 d h hq hv hn hl (fun ls h => k H locs ls h hP hS)
theorem j_iadd (F : Fx p s m meth c cc own nL ret g A) {x y : Int32} (d : decode cc pc = .ok (.iadd, 1))  (k : J p l e R s m args below meth c g A nL Q cells slots (pc + 1) lv (.int (x + y) :: st) S) : J p l e R s m args below meth c g A nL Q cells slots pc lv (.int y :: .int x :: st) S := fun H locs ls hl hP hS => lv_iadd F.1 F.2.1 d (k H locs ls hl hP hS)
theorem j_isub (F : Fx p s m meth c cc own nL ret g A) {x y : Int32} (d : decode cc pc = .ok (.isub, 1))  (k : J p l e R s m args below meth c g A nL Q cells slots (pc + 1) lv (.int (x - y) :: st) S) : J p l e R s m args below meth c g A nL Q cells slots pc lv (.int y :: .int x :: st) S := fun H locs ls hl hP hS => lv_isub F.1 F.2.1 d (k H locs ls hl hP hS)
theorem j_imul (F : Fx p s m meth c cc own nL ret g A) {x y : Int32} (d : decode cc pc = .ok (.imul, 1))  (k : J p l e R s m args below meth c g A nL Q cells slots (pc + 1) lv (.int (x * y) :: st) S) : J p l e R s m args below meth c g A nL Q cells slots pc lv (.int y :: .int x :: st) S := fun H locs ls hl hP hS => lv_imul F.1 F.2.1 d (k H locs ls hl hP hS)
theorem j_iand (F : Fx p s m meth c cc own nL ret g A) {x y : Int32} (d : decode cc pc = .ok (.iand, 1))  (k : J p l e R s m args below meth c g A nL Q cells slots (pc + 1) lv (.int (x &&& y) :: st) S) : J p l e R s m args below meth c g A nL Q cells slots pc lv (.int y :: .int x :: st) S := fun H locs ls hl hP hS => lv_iand F.1 F.2.1 d (k H locs ls hl hP hS)
theorem j_ior (F : Fx p s m meth c cc own nL ret g A) {x y : Int32} (d : decode cc pc = .ok (.ior, 1))  (k : J p l e R s m args below meth c g A nL Q cells slots (pc + 1) lv (.int (x ||| y) :: st) S) : J p l e R s m args below meth c g A nL Q cells slots pc lv (.int y :: .int x :: st) S := fun H locs ls hl hP hS => lv_ior F.1 F.2.1 d (k H locs ls hl hP hS)
theorem j_ixor (F : Fx p s m meth c cc own nL ret g A) {x y : Int32} (d : decode cc pc = .ok (.ixor, 1))  (k : J p l e R s m args below meth c g A nL Q cells slots (pc + 1) lv (.int (x ^^^ y) :: st) S) : J p l e R s m args below meth c g A nL Q cells slots pc lv (.int y :: .int x :: st) S := fun H locs ls hl hP hS => lv_ixor F.1 F.2.1 d (k H locs ls hl hP hS)
theorem j_ladd (F : Fx p s m meth c cc own nL ret g A) {x y : Int64} (d : decode cc pc = .ok (.ladd, 1))  (k : J p l e R s m args below meth c g A nL Q cells slots (pc + 1) lv (.long (x + y) :: st) S) : J p l e R s m args below meth c g A nL Q cells slots pc lv (.long y :: .long x :: st) S := fun H locs ls hl hP hS => lv_ladd F.1 F.2.1 d (k H locs ls hl hP hS)
theorem j_lmul (F : Fx p s m meth c cc own nL ret g A) {x y : Int64} (d : decode cc pc = .ok (.lmul, 1))  (k : J p l e R s m args below meth c g A nL Q cells slots (pc + 1) lv (.long (x * y) :: st) S) : J p l e R s m args below meth c g A nL Q cells slots pc lv (.long y :: .long x :: st) S := fun H locs ls hl hP hS => lv_lmul F.1 F.2.1 d (k H locs ls hl hP hS)
theorem j_land (F : Fx p s m meth c cc own nL ret g A) {x y : Int64} (d : decode cc pc = .ok (.land, 1))  (k : J p l e R s m args below meth c g A nL Q cells slots (pc + 1) lv (.long (x &&& y) :: st) S) : J p l e R s m args below meth c g A nL Q cells slots pc lv (.long y :: .long x :: st) S := fun H locs ls hl hP hS => lv_land F.1 F.2.1 d (k H locs ls hl hP hS)
theorem j_lor (F : Fx p s m meth c cc own nL ret g A) {x y : Int64} (d : decode cc pc = .ok (.lor, 1))  (k : J p l e R s m args below meth c g A nL Q cells slots (pc + 1) lv (.long (x ||| y) :: st) S) : J p l e R s m args below meth c g A nL Q cells slots pc lv (.long y :: .long x :: st) S := fun H locs ls hl hP hS => lv_lor F.1 F.2.1 d (k H locs ls hl hP hS)
theorem j_idiv (F : Fx p s m meth c cc own nL ret g A) {x y : Int32} (d : decode cc pc = .ok (.idiv, 1)) (hne : ¬ y = 0) (k : J p l e R s m args below meth c g A nL Q cells slots (pc + 1) lv (.int (x / y) :: st) S) : J p l e R s m args below meth c g A nL Q cells slots pc lv (.int y :: .int x :: st) S := fun H locs ls hl hP hS => lv_idiv F.1 F.2.1 d hne (k H locs ls hl hP hS)
theorem j_irem (F : Fx p s m meth c cc own nL ret g A) {x y : Int32} (d : decode cc pc = .ok (.irem, 1)) (hne : ¬ y = 0) (k : J p l e R s m args below meth c g A nL Q cells slots (pc + 1) lv (.int (irm x y) :: st) S) : J p l e R s m args below meth c g A nL Q cells slots pc lv (.int y :: .int x :: st) S := fun H locs ls hl hP hS => lv_irem F.1 F.2.1 d hne (k H locs ls hl hP hS)
theorem j_ldiv (F : Fx p s m meth c cc own nL ret g A) {x y : Int64} (d : decode cc pc = .ok (.ldiv, 1)) (hne : ¬ y = 0) (k : J p l e R s m args below meth c g A nL Q cells slots (pc + 1) lv (.long (x / y) :: st) S) : J p l e R s m args below meth c g A nL Q cells slots pc lv (.long y :: .long x :: st) S := fun H locs ls hl hP hS => lv_ldiv F.1 F.2.1 d hne (k H locs ls hl hP hS)
theorem j_lrem (F : Fx p s m meth c cc own nL ret g A) {x y : Int64} (d : decode cc pc = .ok (.lrem, 1)) (hne : ¬ y = 0) (k : J p l e R s m args below meth c g A nL Q cells slots (pc + 1) lv (.long (lrm x y) :: st) S) : J p l e R s m args below meth c g A nL Q cells slots pc lv (.long y :: .long x :: st) S := fun H locs ls hl hP hS => lv_lrem F.1 F.2.1 d hne (k H locs ls hl hP hS)
theorem j_ishl (F : Fx p s m meth c cc own nL ret g A) {x y : Int32} (d : decode cc pc = .ok (.ishl, 1))  (k : J p l e R s m args below meth c g A nL Q cells slots (pc + 1) lv (.int (x <<< (y &&& 31)) :: st) S) : J p l e R s m args below meth c g A nL Q cells slots pc lv (.int y :: .int x :: st) S := fun H locs ls hl hP hS => lv_ishl F.1 F.2.1 d (k H locs ls hl hP hS)
theorem j_ishr (F : Fx p s m meth c cc own nL ret g A) {x y : Int32} (d : decode cc pc = .ok (.ishr, 1))  (k : J p l e R s m args below meth c g A nL Q cells slots (pc + 1) lv (.int (x >>> (y &&& 31)) :: st) S) : J p l e R s m args below meth c g A nL Q cells slots pc lv (.int y :: .int x :: st) S := fun H locs ls hl hP hS => lv_ishr F.1 F.2.1 d (k H locs ls hl hP hS)
theorem j_iushr (F : Fx p s m meth c cc own nL ret g A) {x y : Int32} (d : decode cc pc = .ok (.iushr, 1))  (k : J p l e R s m args below meth c g A nL Q cells slots (pc + 1) lv (.int (iushr x y) :: st) S) : J p l e R s m args below meth c g A nL Q cells slots pc lv (.int y :: .int x :: st) S := fun H locs ls hl hP hS => lv_iushr F.1 F.2.1 d rfl (k H locs ls hl hP hS)
theorem j_lushr (F : Fx p s m meth c cc own nL ret g A) {x : Int64} {y : Int32} (d : decode cc pc = .ok (.lushr, 1))  (k : J p l e R s m args below meth c g A nL Q cells slots (pc + 1) lv (.long (lushr x y) :: st) S) : J p l e R s m args below meth c g A nL Q cells slots pc lv (.int y :: .long x :: st) S := fun H locs ls hl hP hS => lv_lushr F.1 F.2.1 d rfl (k H locs ls hl hP hS)
theorem j_lshl (F : Fx p s m meth c cc own nL ret g A) {x : Int64} {y : Int32} (d : decode cc pc = .ok (.lshl, 1))  (k : J p l e R s m args below meth c g A nL Q cells slots (pc + 1) lv (.long (lshl x y) :: st) S) : J p l e R s m args below meth c g A nL Q cells slots pc lv (.int y :: .long x :: st) S := fun H locs ls hl hP hS => lv_lshl F.1 F.2.1 d rfl (k H locs ls hl hP hS)
theorem j_i2l (F : Fx p s m meth c cc own nL ret g A) {x : Int32} (d : decode cc pc = .ok (.i2l, 1))  (k : J p l e R s m args below meth c g A nL Q cells slots (pc + 1) lv (.long x.toInt64 :: st) S) : J p l e R s m args below meth c g A nL Q cells slots pc lv (.int x :: st) S := fun H locs ls hl hP hS => lv_i2l F.1 F.2.1 d rfl (k H locs ls hl hP hS)
theorem j_l2i (F : Fx p s m meth c cc own nL ret g A) {x : Int64} (d : decode cc pc = .ok (.l2i, 1))  (k : J p l e R s m args below meth c g A nL Q cells slots (pc + 1) lv (.int x.toInt32 :: st) S) : J p l e R s m args below meth c g A nL Q cells slots pc lv (.long x :: st) S := fun H locs ls hl hP hS => lv_l2i F.1 F.2.1 d rfl (k H locs ls hl hP hS)
theorem j_i2b (F : Fx p s m meth c cc own nL ret g A) {x : Int32} (d : decode cc pc = .ok (.i2b, 1))  (k : J p l e R s m args below meth c g A nL Q cells slots (pc + 1) lv (.int x.toInt8.toInt32 :: st) S) : J p l e R s m args below meth c g A nL Q cells slots pc lv (.int x :: st) S := fun H locs ls hl hP hS => lv_i2b F.1 F.2.1 d rfl (k H locs ls hl hP hS)
theorem j_i2c (F : Fx p s m meth c cc own nL ret g A) {x : Int32} (d : decode cc pc = .ok (.i2c, 1))  (k : J p l e R s m args below meth c g A nL Q cells slots (pc + 1) lv (.int (i2c x) :: st) S) : J p l e R s m args below meth c g A nL Q cells slots pc lv (.int x :: st) S := fun H locs ls hl hP hS => lv_i2c F.1 F.2.1 d rfl (k H locs ls hl hP hS)
theorem j_lcmp (F : Fx p s m meth c cc own nL ret g A) {x y : Int64} (d : decode cc pc = .ok (.lcmp, 1))  (k : J p l e R s m args below meth c g A nL Q cells slots (pc + 1) lv (.int (lg_cmp x y) :: st) S) : J p l e R s m args below meth c g A nL Q cells slots pc lv (.long y :: .long x :: st) S := fun H locs ls hl hP hS => W.lcmp F.1 F.2.1 d (k H locs ls hl hP hS)
theorem j_dup (F : Fx p s m meth c cc own nL ret g A) {v : Value} (d : decode cc pc = .ok (.dup, 1)) (hv : v.category = 1) (k : J p l e R s m args below meth c g A nL Q cells slots (pc + 1) lv (v :: v :: st) S) : J p l e R s m args below meth c g A nL Q cells slots pc lv (v :: st) S := fun H locs ls hl hP hS => lv_dup F.1 F.2.1 d hv (k H locs ls hl hP hS)
theorem j_dup2 (F : Fx p s m meth c cc own nL ret g A) {v w : Value} (d : decode cc pc = .ok (.dup2, 1)) (hv : v.category = 1) (hw : w.category = 1) (k : J p l e R s m args below meth c g A nL Q cells slots (pc + 1) lv (v :: w :: v :: w :: st) S) : J p l e R s m args below meth c g A nL Q cells slots pc lv (v :: w :: st) S := fun H locs ls hl hP hS => lv_dup2_11 F.1 F.2.1 d hv hw (k H locs ls hl hP hS)
theorem j_pop (F : Fx p s m meth c cc own nL ret g A) {v : Value} (d : decode cc pc = .ok (.pop, 1)) (hv : v.category = 1) (k : J p l e R s m args below meth c g A nL Q cells slots (pc + 1) lv (st) S) : J p l e R s m args below meth c g A nL Q cells slots pc lv (v :: st) S := fun H locs ls hl hP hS => lv_pop F.1 F.2.1 d hv (k H locs ls hl hP hS)
theorem j_ldc2 (F : Fx p s m meth c cc own nL ret g A) {ix : Nat} {v : Int64} (d : decode cc pc = .ok (.ldc2_w ix, 3)) (hw : Cond.constantLong own ix v ∈ tblG) (k : J p l e R s m args below meth c g A nL Q cells slots (pc + 3) lv (.long v :: st) S) : J p l e R s m args below meth c g A nL Q cells slots pc lv (st) S := fun H locs ls hl hP hS => lv_ldc2 F.1 F.2.1 F.ow (F.hts _ hw) d (k H locs ls hl hP hS)
theorem j_ldcw (F : Fx p s m meth c cc own nL ret g A) {ix : Nat} {v : Int32} (d : decode cc pc = .ok (.ldc_w ix, 3)) (hw : Cond.constant own ix v ∈ tblG) (k : J p l e R s m args below meth c g A nL Q cells slots (pc + 3) lv (.int v :: st) S) : J p l e R s m args below meth c g A nL Q cells slots pc lv (st) S := fun H locs ls hl hP hS => lv_ldcw F.1 F.2.1 F.ow (F.hts _ hw) d (k H locs ls hl hP hS)
theorem j_ldc (F : Fx p s m meth c cc own nL ret g A) {ix : Nat} {v : Int32} (d : decode cc pc = .ok (.ldc ix, 2)) (hw : Cond.constant own ix v ∈ tblG) (k : J p l e R s m args below meth c g A nL Q cells slots (pc + 2) lv (.int v :: st) S) : J p l e R s m args below meth c g A nL Q cells slots pc lv (st) S := fun H locs ls hl hP hS => lv_ldc F.1 F.2.1 F.ow (F.hts _ hw) d (k H locs ls hl hP hS)
theorem j_goto (F : Fx p s m meth c cc own nL ret g A) {off : Int} {tgt : Nat} (d : decode cc pc = .ok (.goto off, 3)) (ht : (pc : Int) + off = (tgt : Int)) (k : J p l e R s m args below meth c g A nL Q cells slots tgt lv st S) : J p l e R s m args below meth c g A nL Q cells slots pc lv st S := fun H locs ls hl hP hS => lv_goto F.1 F.2.1 d ht (k H locs ls hl hP hS)
theorem j_if_eq (F : Fx p s m meth c cc own nL ret g A) {x : Int32} {ρ : Type} {X Y : Option ρ} {r : ρ} {off : Int} {tgt : Nat} (d : decode cc pc = .ok (.ifCond .eq off, 3)) (ht : (pc : Int) + off = (tgt : Int)) (hm : (if x = 0 then X else Y) = some r) (kt : x = 0 → X = some r → J p l e R s m args below meth c g A nL Q cells slots tgt lv st S) (kf : ¬ x = 0 → Y = some r → J p l e R s m args below meth c g A nL Q cells slots (pc + 3) lv st S) : J p l e R s m args below meth c g A nL Q cells slots pc lv (.int x :: st) S := fun H locs ls hl hP hS => lv_if_eq F.1 F.2.1 d ht (fun q => kt q ((if_pos q).symm.trans hm) H locs ls hl hP hS) (fun q => kf q ((if_neg q).symm.trans hm) H locs ls hl hP hS)
theorem j_if_ne (F : Fx p s m meth c cc own nL ret g A) {x : Int32} {ρ : Type} {X Y : Option ρ} {r : ρ} {off : Int} {tgt : Nat} (d : decode cc pc = .ok (.ifCond .ne off, 3)) (ht : (pc : Int) + off = (tgt : Int)) (hm : (if x = 0 then Y else X) = some r) (kt : ¬ x = 0 → X = some r → J p l e R s m args below meth c g A nL Q cells slots tgt lv st S) (kf : x = 0 → Y = some r → J p l e R s m args below meth c g A nL Q cells slots (pc + 3) lv st S) : J p l e R s m args below meth c g A nL Q cells slots pc lv (.int x :: st) S := fun H locs ls hl hP hS => lv_if_ne F.1 F.2.1 d ht (fun q => kt q ((if_neg q).symm.trans hm) H locs ls hl hP hS) (fun q => kf q ((if_pos q).symm.trans hm) H locs ls hl hP hS)
theorem j_if_lt (F : Fx p s m meth c cc own nL ret g A) {x : Int32} {ρ : Type} {X Y : Option ρ} {r : ρ} {off : Int} {tgt : Nat} (d : decode cc pc = .ok (.ifCond .lt off, 3)) (ht : (pc : Int) + off = (tgt : Int)) (hm : (if x < 0 then X else Y) = some r) (kt : x < 0 → X = some r → J p l e R s m args below meth c g A nL Q cells slots tgt lv st S) (kf : ¬ x < 0 → Y = some r → J p l e R s m args below meth c g A nL Q cells slots (pc + 3) lv st S) : J p l e R s m args below meth c g A nL Q cells slots pc lv (.int x :: st) S := fun H locs ls hl hP hS => lv_if_lt F.1 F.2.1 d ht (fun q => kt q ((if_pos q).symm.trans hm) H locs ls hl hP hS) (fun q => kf q ((if_neg q).symm.trans hm) H locs ls hl hP hS)
theorem j_if_ge (F : Fx p s m meth c cc own nL ret g A) {x : Int32} {ρ : Type} {X Y : Option ρ} {r : ρ} {off : Int} {tgt : Nat} (d : decode cc pc = .ok (.ifCond .ge off, 3)) (ht : (pc : Int) + off = (tgt : Int)) (hm : (if 0 ≤ x then X else Y) = some r) (kt : 0 ≤ x → X = some r → J p l e R s m args below meth c g A nL Q cells slots tgt lv st S) (kf : ¬ 0 ≤ x → Y = some r → J p l e R s m args below meth c g A nL Q cells slots (pc + 3) lv st S) : J p l e R s m args below meth c g A nL Q cells slots pc lv (.int x :: st) S := fun H locs ls hl hP hS => lv_if_ge F.1 F.2.1 d ht (fun q => kt q ((if_pos q).symm.trans hm) H locs ls hl hP hS) (fun q => kf q ((if_neg q).symm.trans hm) H locs ls hl hP hS)
theorem j_if_gt (F : Fx p s m meth c cc own nL ret g A) {x : Int32} {ρ : Type} {X Y : Option ρ} {r : ρ} {off : Int} {tgt : Nat} (d : decode cc pc = .ok (.ifCond .gt off, 3)) (ht : (pc : Int) + off = (tgt : Int)) (hm : (if 0 < x then X else Y) = some r) (kt : 0 < x → X = some r → J p l e R s m args below meth c g A nL Q cells slots tgt lv st S) (kf : ¬ 0 < x → Y = some r → J p l e R s m args below meth c g A nL Q cells slots (pc + 3) lv st S) : J p l e R s m args below meth c g A nL Q cells slots pc lv (.int x :: st) S := fun H locs ls hl hP hS => lv_if_gt F.1 F.2.1 d ht (fun q => kt q ((if_pos q).symm.trans hm) H locs ls hl hP hS) (fun q => kf q ((if_neg q).symm.trans hm) H locs ls hl hP hS)
theorem j_if_le (F : Fx p s m meth c cc own nL ret g A) {x : Int32} {ρ : Type} {X Y : Option ρ} {r : ρ} {off : Int} {tgt : Nat} (d : decode cc pc = .ok (.ifCond .le off, 3)) (ht : (pc : Int) + off = (tgt : Int)) (hm : (if x ≤ 0 then X else Y) = some r) (kt : x ≤ 0 → X = some r → J p l e R s m args below meth c g A nL Q cells slots tgt lv st S) (kf : ¬ x ≤ 0 → Y = some r → J p l e R s m args below meth c g A nL Q cells slots (pc + 3) lv st S) : J p l e R s m args below meth c g A nL Q cells slots pc lv (.int x :: st) S := fun H locs ls hl hP hS => lv_if_le F.1 F.2.1 d ht (fun q => kt q ((if_pos q).symm.trans hm) H locs ls hl hP hS) (fun q => kf q ((if_neg q).symm.trans hm) H locs ls hl hP hS)
theorem j_icmp_eq (F : Fx p s m meth c cc own nL ret g A) {x y : Int32} {ρ : Type} {X Y : Option ρ} {r : ρ} {off : Int} {tgt : Nat} (d : decode cc pc = .ok (.if_icmp .eq off, 3)) (ht : (pc : Int) + off = (tgt : Int)) (hm : (if x = y then X else Y) = some r) (kt : x = y → X = some r → J p l e R s m args below meth c g A nL Q cells slots tgt lv st S) (kf : ¬ x = y → Y = some r → J p l e R s m args below meth c g A nL Q cells slots (pc + 3) lv st S) : J p l e R s m args below meth c g A nL Q cells slots pc lv (.int y :: .int x :: st) S := fun H locs ls hl hP hS => lv_icmp_eq F.1 F.2.1 d ht (fun q => kt q ((if_pos q).symm.trans hm) H locs ls hl hP hS) (fun q => kf q ((if_neg q).symm.trans hm) H locs ls hl hP hS)
theorem j_icmp_ne (F : Fx p s m meth c cc own nL ret g A) {x y : Int32} {ρ : Type} {X Y : Option ρ} {r : ρ} {off : Int} {tgt : Nat} (d : decode cc pc = .ok (.if_icmp .ne off, 3)) (ht : (pc : Int) + off = (tgt : Int)) (hm : (if x = y then Y else X) = some r) (kt : ¬ x = y → X = some r → J p l e R s m args below meth c g A nL Q cells slots tgt lv st S) (kf : x = y → Y = some r → J p l e R s m args below meth c g A nL Q cells slots (pc + 3) lv st S) : J p l e R s m args below meth c g A nL Q cells slots pc lv (.int y :: .int x :: st) S := fun H locs ls hl hP hS => lv_icmp_ne F.1 F.2.1 d ht (fun q => kt q ((if_neg q).symm.trans hm) H locs ls hl hP hS) (fun q => kf q ((if_pos q).symm.trans hm) H locs ls hl hP hS)
theorem j_icmp_lt (F : Fx p s m meth c cc own nL ret g A) {x y : Int32} {ρ : Type} {X Y : Option ρ} {r : ρ} {off : Int} {tgt : Nat} (d : decode cc pc = .ok (.if_icmp .lt off, 3)) (ht : (pc : Int) + off = (tgt : Int)) (hm : (if x < y then X else Y) = some r) (kt : x < y → X = some r → J p l e R s m args below meth c g A nL Q cells slots tgt lv st S) (kf : ¬ x < y → Y = some r → J p l e R s m args below meth c g A nL Q cells slots (pc + 3) lv st S) : J p l e R s m args below meth c g A nL Q cells slots pc lv (.int y :: .int x :: st) S := fun H locs ls hl hP hS => lv_icmp_lt F.1 F.2.1 d ht (fun q => kt q ((if_pos q).symm.trans hm) H locs ls hl hP hS) (fun q => kf q ((if_neg q).symm.trans hm) H locs ls hl hP hS)
theorem j_icmp_ge (F : Fx p s m meth c cc own nL ret g A) {x y : Int32} {ρ : Type} {X Y : Option ρ} {r : ρ} {off : Int} {tgt : Nat} (d : decode cc pc = .ok (.if_icmp .ge off, 3)) (ht : (pc : Int) + off = (tgt : Int)) (hm : (if y ≤ x then X else Y) = some r) (kt : y ≤ x → X = some r → J p l e R s m args below meth c g A nL Q cells slots tgt lv st S) (kf : ¬ y ≤ x → Y = some r → J p l e R s m args below meth c g A nL Q cells slots (pc + 3) lv st S) : J p l e R s m args below meth c g A nL Q cells slots pc lv (.int y :: .int x :: st) S := fun H locs ls hl hP hS => lv_icmp_ge F.1 F.2.1 d ht (fun q => kt q ((if_pos q).symm.trans hm) H locs ls hl hP hS) (fun q => kf q ((if_neg q).symm.trans hm) H locs ls hl hP hS)
theorem j_icmp_gt (F : Fx p s m meth c cc own nL ret g A) {x y : Int32} {ρ : Type} {X Y : Option ρ} {r : ρ} {off : Int} {tgt : Nat} (d : decode cc pc = .ok (.if_icmp .gt off, 3)) (ht : (pc : Int) + off = (tgt : Int)) (hm : (if y < x then X else Y) = some r) (kt : y < x → X = some r → J p l e R s m args below meth c g A nL Q cells slots tgt lv st S) (kf : ¬ y < x → Y = some r → J p l e R s m args below meth c g A nL Q cells slots (pc + 3) lv st S) : J p l e R s m args below meth c g A nL Q cells slots pc lv (.int y :: .int x :: st) S := fun H locs ls hl hP hS => lv_icmp_gt F.1 F.2.1 d ht (fun q => kt q ((if_pos q).symm.trans hm) H locs ls hl hP hS) (fun q => kf q ((if_neg q).symm.trans hm) H locs ls hl hP hS)
theorem j_icmp_le (F : Fx p s m meth c cc own nL ret g A) {x y : Int32} {ρ : Type} {X Y : Option ρ} {r : ρ} {off : Int} {tgt : Nat} (d : decode cc pc = .ok (.if_icmp .le off, 3)) (ht : (pc : Int) + off = (tgt : Int)) (hm : (if x ≤ y then X else Y) = some r) (kt : x ≤ y → X = some r → J p l e R s m args below meth c g A nL Q cells slots tgt lv st S) (kf : ¬ x ≤ y → Y = some r → J p l e R s m args below meth c g A nL Q cells slots (pc + 3) lv st S) : J p l e R s m args below meth c g A nL Q cells slots pc lv (.int y :: .int x :: st) S := fun H locs ls hl hP hS => lv_icmp_le F.1 F.2.1 d ht (fun q => kt q ((if_pos q).symm.trans hm) H locs ls hl hP hS) (fun q => kf q ((if_neg q).symm.trans hm) H locs ls hl hP hS)
theorem sw_if {ρ : Type} {x n : Int32} {X Y : Option ρ} {r : ρ} {C : Prop} (hm : (if x = n then X else Y) = some r) (kt : x = n → X = some r → C) (kf : ¬ x = n → Y = some r → C) : C := by
  by_cases h : x = n
  · exact kt h ((if_pos h).symm.trans hm)
  · exact kf h ((if_neg h).symm.trans hm)
theorem ne_z {x n : Int32} {z : Int} (h : ¬ x = n) (e : n.toInt = z) : x.toInt ≠ z := fun q => h (Int32.toInt_inj.mp (q.trans e.symm))
theorem z_nar {v : Int32} (hb : decide (v = 0 ∨ v = 1) = true) : narrow .boolean (.int v) = .int v := by
  rcases of_decide_eq_true hb with h | h <;> subst h <;> rfl
theorem b_nar {v : Int32} (hb : decide (v = 0 ∨ v = 1) = true) : narrow .byte (.int v) = .int v := by
  rcases of_decide_eq_true hb with h | h <;> subst h <;> rfl
theorem j_swIn (F : Fx p s m meth c cc own nL ret g A) {x n : Int32} {dflt lo hi : Int} {offs : Array Int} {len tgt : Nat} {off : Int} (d : decode cc pc = .ok (.tableswitch dflt lo hi offs, len)) (ex : x = n) (h1 : ¬ n.toInt < lo) (h2 : ¬ hi < n.toInt) (ho : offs[(n.toInt - lo).toNat]? = some off) (ht : (pc : Int) + off = (tgt : Int)) (k : J p l e R s m args below meth c g A nL Q cells slots tgt lv st S) : J p l e R s m args below meth c g A nL Q cells slots pc lv (.int x :: st) S := by
  subst ex
  exact fun H locs ls hl hP hS => lv_tableIn F.1 F.2.1 d h1 h2 ho ht (k H locs ls hl hP hS)
theorem j_swOut (F : Fx p s m meth c cc own nL ret g A) {x : Int32} {dflt lo hi : Int} {offs : Array Int} {len tgt : Nat} (d : decode cc pc = .ok (.tableswitch dflt lo hi offs, len)) (h : x.toInt < lo ∨ hi < x.toInt) (ht : (pc : Int) + dflt = (tgt : Int)) (k : J p l e R s m args below meth c g A nL Q cells slots tgt lv st S) : J p l e R s m args below meth c g A nL Q cells slots pc lv (.int x :: st) S := fun H locs ls hl hP hS => lv_tableOut F.1 F.2.1 d h ht (k H locs ls hl hP hS)
theorem j_getI (F : Fx p s m meth c cc own nL ret g A) {C : String} {T : u_T} {N ci i k0 ix : Nat} {fs : List (Option Nat)} (hy : lay i = some (.inr (ci, fs))) (hk : fs[k0]? = some none) (hc : vwCl[ci]? = some (C, T, N)) (hin : ∀ w ∈ u_ws C T N, w ∈ tblG) (hkN : k0 < N) (hw : Cond.fieldLink own ix (T k0).1 (T k0).2.1 (T k0).2.2.1 ∈ tblG) (d : decode cc pc = .ok (.getfield ix, 3)) (k : J p l e R s m args below meth c g A nL Q cells slots (pc + 3) lv (.int (gI S i k0) :: st) S) : J p l e R s m args below meth c g A nL Q cells slots pc lv (.ref (g.2.1 i) :: st) S := fun H locs ls hl hP hS =>
  va_get F.1 F.2.1 F.hts hin F.ow F.K hP (pl i) (fs := fldV g.2.1 (S.1 i) 0 fs) (wC_get g S hy) hc k0 hkN (F.hts _ hw) (fun _ h => h) (v := .int (gI S i k0)) (by have := fldV_get g.2.1 (S.1 i) fs 0 k0 none hk; rw [Nat.zero_add] at this; exact this) d (k H locs ls hl hP hS)
theorem j_getR (F : Fx p s m meth c cc own nL ret g A) {C : String} {T : u_T} {N ci i k0 ix r : Nat} {fs : List (Option Nat)} (hy : lay i = some (.inr (ci, fs))) (hk : fs[k0]? = some (some r)) (hc : vwCl[ci]? = some (C, T, N)) (hin : ∀ w ∈ u_ws C T N, w ∈ tblG) (hkN : k0 < N) (hw : Cond.fieldLink own ix (T k0).1 (T k0).2.1 (T k0).2.2.1 ∈ tblG) (d : decode cc pc = .ok (.getfield ix, 3)) (k : J p l e R s m args below meth c g A nL Q cells slots (pc + 3) lv (.ref (g.2.1 r) :: st) S) : J p l e R s m args below meth c g A nL Q cells slots pc lv (.ref (g.2.1 i) :: st) S := fun H locs ls hl hP hS =>
  va_get F.1 F.2.1 F.hts hin F.ow F.K hP (pl i) (fs := fldV g.2.1 (S.1 i) 0 fs) (wC_get g S hy) hc k0 hkN (F.hts _ hw) (fun _ h => h) (v := .ref (g.2.1 r)) (by have := fldV_get g.2.1 (S.1 i) fs 0 k0 (some r) hk; exact this) d (k H locs ls hl hP hS)
theorem j_putI (F : Fx p s m meth c cc own nL ret g A) {C : String} {T : u_T} {N ci i k0 ix : Nat} {fs : List (Option Nat)} {v : Int32} (ty0 : Nat → FieldType) (hty : ∀ k, k < N → parseFieldDescriptor (T k).2.2.1 = some (ty0 k)) (hnm : ∀ a, a < N → ∀ b, b < N → a ≠ b → (T a).2.1 ≠ (T b).2.1) (hy : lay i = some (.inr (ci, fs))) (hk : fs[k0]? = some none) (hc : vwCl[ci]? = some (C, T, N)) (hin : ∀ w ∈ u_ws C T N, w ∈ tblG) (hkN : k0 < N) (hw : Cond.fieldLink own ix (T k0).1 (T k0).2.1 (T k0).2.2.1 ∈ tblG) (hfin : (T k0).2.2.2 = false) (hd : parseFieldDescriptor (T k0).2.2.1 = some .int) (d : decode cc pc = .ok (.putfield ix, 3)) (k : J p l e R s m args below meth c g A nL Q cells slots (pc + 3) lv st (sI S i k0 v)) : J p l e R s m args below meth c g A nL Q cells slots pc lv (.int v :: .ref (g.2.1 i) :: st) S := fun H locs ls hl hP hS =>
  va_put F.1 F.2.1 F.hts hin ty0 hty hnm F.ow F.K hP (F.D S) hS (pl i) (fs := fldV g.2.1 (S.1 i) 0 fs) (wC_get g S hy) hc k0 hkN (F.hts _ hw) (fun _ h => h) hfin (ty := .int) hd rfl rfl (by have := fldV_get g.2.1 (S.1 i) fs 0 k0 none hk; exact (List.getElem?_eq_some_iff.mp this).1) d (fun H1 locs1 hP1 _ hS1 => k H1 locs1 ls hl (by rw [wC_sI g S hy hk v] at hP1; exact hP1) hS1)
theorem j_iald (F : Fx p s m meth c cc own nL ret g A) {i n : Nat} {ix : Int32} {ρ : Type} {X : Option ρ} {r : ρ} (hy : lay i = some (.inl (1, n))) (d : decode cc pc = .ok (.iaload, 1)) (hm : gd (inb ix n) X = some r) (k : X = some r → J p l e R s m args below meth c g A nL Q cells slots (pc + 1) lv (.int (gA S i ix.toNatClampNeg) :: st) S) : J p l e R s m args below meth c g A nL Q cells slots pc lv (.int ix :: .ref (g.2.1 i) :: st) S := fun H locs ls hl hP hS =>
  va_iald F.1 F.2.1 F.K hP (pl i) 1 (n := n) (f := S.2.1 i) (wC_get g S hy) rfl (inb_in (gd_ok hm).1) d (k (gd_ok hm).2 H locs ls hl hP hS)
theorem j_zald (F : Fx p s m meth c cc own nL ret g A) {i n : Nat} {ix : Int32} {ρ : Type} {X : Option ρ} {r : ρ} (hy : lay i = some (.inl (2, n))) (d : decode cc pc = .ok (.baload, 1)) (hm : gd (inb ix n) X = some r) (k : X = some r → J p l e R s m args below meth c g A nL Q cells slots (pc + 1) lv (.int (gA S i ix.toNatClampNeg) :: st) S) : J p l e R s m args below meth c g A nL Q cells slots pc lv (.int ix :: .ref (g.2.1 i) :: st) S := fun H locs ls hl hP hS =>
  va_zald F.1 F.2.1 F.K hP (pl i) 2 (n := n) (f := S.2.1 i) (wC_get g S hy) rfl (inb_in (gd_ok hm).1) d (k (gd_ok hm).2 H locs ls hl hP hS)
theorem j_cald (F : Fx p s m meth c cc own nL ret g A) {i n : Nat} {ix : Int32} {ρ : Type} {X : Option ρ} {r : ρ} (hy : lay i = some (.inl (0, n))) (d : decode cc pc = .ok (.caload, 1)) (hm : gd (inb ix n) X = some r) (k : X = some r → J p l e R s m args below meth c g A nL Q cells slots (pc + 1) lv (.int (gA S i ix.toNatClampNeg) :: st) S) : J p l e R s m args below meth c g A nL Q cells slots pc lv (.int ix :: .ref (g.2.1 i) :: st) S := fun H locs ls hl hP hS =>
  va_cald F.1 F.2.1 F.K hP (pl i) 0 (n := n) (f := S.2.1 i) (wC_get g S hy) rfl (inb_in (gd_ok hm).1) d (k (gd_ok hm).2 H locs ls hl hP hS)
theorem j_aald (F : Fx p s m meth c cc own nL ret g A) {i n : Nat} {ix : Int32} {ρ : Type} {X : Option ρ} {r : ρ} (hy : lay i = some (.inl (3, n))) (d : decode cc pc = .ok (.aaload, 1)) (hm : gd (inb ix n) X = some r) (k : X = some r → J p l e R s m args below meth c g A nL Q cells slots (pc + 1) lv (.ref (g.2.1 (gQ S i ix.toNatClampNeg)) :: st) S) : J p l e R s m args below meth c g A nL Q cells slots pc lv (.int ix :: .ref (g.2.1 i) :: st) S := fun H locs ls hl hP hS =>
  va_aldq F.1 F.2.1 F.K hP (pl i) 3 (n := n) (f := fun j => some (g.2.1 (S.2.2.1 i j))) (wC_get g S hy) rfl (inb_in (gd_ok hm).1) d (k (gd_ok hm).2 H locs ls hl hP hS)
theorem j_iast (F : Fx p s m meth c cc own nL ret g A) {i n : Nat} {ix v : Int32} {ρ : Type} {X : Option ρ} {r : ρ} (hy : lay i = some (.inl (1, n))) (d : decode cc pc = .ok (.iastore, 1)) (hm : gd (inb ix n) X = some r) (k : X = some r → J p l e R s m args below meth c g A nL Q cells slots (pc + 1) lv st (sA S i ix.toNatClampNeg (v))) : J p l e R s m args below meth c g A nL Q cells slots pc lv (.int v :: .int ix :: .ref (g.2.1 i) :: st) S := fun H locs ls hl hP hS =>
  va_iast F.1 F.2.1 F.K hP (F.D S) hS (pl i) 1 (n := n) (f := S.2.1 i) (wC_get g S hy) rfl (inb_in (gd_ok hm).1) d (fun H1 locs1 hP1 _ hS1 => k (gd_ok hm).2 H1 locs1 ls hl (by rw [wC_sA g S hy (by decide)] at hP1; exact hP1) hS1)
theorem j_zast (F : Fx p s m meth c cc own nL ret g A) {i n : Nat} {ix v : Int32} {ρ : Type} {X : Option ρ} {r : ρ} (hy : lay i = some (.inl (2, n))) (d : decode cc pc = .ok (.bastore, 1)) (hm : gd (inb ix n) X = some r) (k : X = some r → J p l e R s m args below meth c g A nL Q cells slots (pc + 1) lv st (sA S i ix.toNatClampNeg (vp_nar .boolean v))) : J p l e R s m args below meth c g A nL Q cells slots pc lv (.int v :: .int ix :: .ref (g.2.1 i) :: st) S := fun H locs ls hl hP hS =>
  va_zast F.1 F.2.1 F.K hP (F.D S) hS (pl i) 2 (n := n) (f := S.2.1 i) (wC_get g S hy) rfl (inb_in (gd_ok hm).1) d (fun H1 locs1 hP1 _ hS1 => k (gd_ok hm).2 H1 locs1 ls hl (by rw [wC_sA g S hy (by decide)] at hP1; exact hP1) hS1)
theorem j_cast (F : Fx p s m meth c cc own nL ret g A) {i n : Nat} {ix v : Int32} {ρ : Type} {X : Option ρ} {r : ρ} (hy : lay i = some (.inl (0, n))) (d : decode cc pc = .ok (.castore, 1)) (hm : gd (inb ix n) X = some r) (k : X = some r → J p l e R s m args below meth c g A nL Q cells slots (pc + 1) lv st (sA S i ix.toNatClampNeg (vp_nar .char v))) : J p l e R s m args below meth c g A nL Q cells slots pc lv (.int v :: .int ix :: .ref (g.2.1 i) :: st) S := fun H locs ls hl hP hS =>
  va_cast F.1 F.2.1 F.K hP (F.D S) hS (pl i) 0 (n := n) (f := S.2.1 i) (wC_get g S hy) rfl (inb_in (gd_ok hm).1) d (fun H1 locs1 hP1 _ hS1 => k (gd_ok hm).2 H1 locs1 ls hl (by rw [wC_sA g S hy (by decide)] at hP1; exact hP1) hS1)
theorem j_aast (F : Fx p s m meth c cc own nL ret g A) {i n : Nat} {ix : Int32} {v : Nat} {ρ : Type} {X : Option ρ} {r : ρ} (hy : lay i = some (.inl (3, n))) (hv : isSt v = true) (d : decode cc pc = .ok (.aastore, 1)) (hm : gd (inb ix n) X = some r) (k : X = some r → J p l e R s m args below meth c g A nL Q cells slots (pc + 1) lv st (sQ S i ix.toNatClampNeg v)) : J p l e R s m args below meth c g A nL Q cells slots pc lv (.ref (g.2.1 v) :: .int ix :: .ref (g.2.1 i) :: st) S := fun H locs ls hl hP hS =>
  va_astq F.1 F.2.1 F.K hP (F.D S) hS (pl i) 3 (pl v) 3 (n := n) (f := fun j => some (g.2.1 (S.2.2.1 i j))) (wC_get g S hy) (r := (RX3, TX3, 4)) rfl (wC_get g S (isSt_lay hv).1) rfl (inb_in (gd_ok hm).1) d (fun H1 locs1 hP1 _ hS1 => k (gd_ok hm).2 H1 locs1 ls hl (by rw [wC_sQ g S hy] at hP1; exact hP1) hS1)
theorem j_iret_p (F : Fx p s m meth c cc own nL ret g A) {v o : Int32} (hr : ret = some .int) (d : decode cc pc = .ok (.ireturn, 1)) (hm : some v = some o) : J p l e R s m args below meth c g A nL (MQ below (QC g A (some (.int o)) S) args s cells slots A) cells slots pc lv ([.int v]) S := by
  cases hm
  exact fun H locs ls hl hP hS => W.iret F.1 F.2.1 (F.rt.trans hr) (fun t ht hW => ⟨rfl, by rw [ht]; exact hP, hS.F ht⟩) hS.2.2 d F.locks
theorem j_iret_e (F : Fx p s m meth c cc own nL ret g A) {v o : Int32} (hr : ret = some .int) (d : decode cc pc = .ok (.ireturn, 1)) (hm : some (v, S) = some (o, S')) : J p l e R s m args below meth c g A nL (MQ below (QC g A (some (.int o)) S') args s cells slots A) cells slots pc lv ([.int v]) S := by
  cases hm
  exact fun H locs ls hl hP hS => W.iret F.1 F.2.1 (F.rt.trans hr) (fun t ht hW => ⟨rfl, by rw [ht]; exact hP, hS.F ht⟩) hS.2.2 d F.locks
theorem j_zret_p (F : Fx p s m meth c cc own nL ret g A) {v o : Int32} (hr : ret = some .boolean) (hn : narrow .boolean (.int v) = .int v) (d : decode cc pc = .ok (.ireturn, 1)) (hm : some v = some o) : J p l e R s m args below meth c g A nL (MQ below (QC g A (some (.int o)) S) args s cells slots A) cells slots pc lv ([.int v]) S := by
  cases hm
  exact fun H locs ls hl hP hS => W.zret F.1 F.2.1 (F.rt.trans hr) hn (fun t ht hW => ⟨rfl, by rw [ht]; exact hP, hS.F ht⟩) hS.2.2 d F.locks
theorem j_zret_e (F : Fx p s m meth c cc own nL ret g A) {v o : Int32} (hr : ret = some .boolean) (hn : narrow .boolean (.int v) = .int v) (d : decode cc pc = .ok (.ireturn, 1)) (hm : some (v, S) = some (o, S')) : J p l e R s m args below meth c g A nL (MQ below (QC g A (some (.int o)) S') args s cells slots A) cells slots pc lv ([.int v]) S := by
  cases hm
  exact fun H locs ls hl hP hS => W.zret F.1 F.2.1 (F.rt.trans hr) hn (fun t ht hW => ⟨rfl, by rw [ht]; exact hP, hS.F ht⟩) hS.2.2 d F.locks
theorem j_bret_p (F : Fx p s m meth c cc own nL ret g A) {v o : Int32} (hr : ret = some .byte) (hn : narrow .byte (.int v) = .int v) (d : decode cc pc = .ok (.ireturn, 1)) (hm : some v = some o) : J p l e R s m args below meth c g A nL (MQ below (QC g A (some (.int o)) S) args s cells slots A) cells slots pc lv ([.int v]) S := by
  cases hm
  exact fun H locs ls hl hP hS => W.zret F.1 F.2.1 (F.rt.trans hr) hn (fun t ht hW => ⟨rfl, by rw [ht]; exact hP, hS.F ht⟩) hS.2.2 d F.locks
theorem j_bret_e (F : Fx p s m meth c cc own nL ret g A) {v o : Int32} (hr : ret = some .byte) (hn : narrow .byte (.int v) = .int v) (d : decode cc pc = .ok (.ireturn, 1)) (hm : some (v, S) = some (o, S')) : J p l e R s m args below meth c g A nL (MQ below (QC g A (some (.int o)) S') args s cells slots A) cells slots pc lv ([.int v]) S := by
  cases hm
  exact fun H locs ls hl hP hS => W.zret F.1 F.2.1 (F.rt.trans hr) hn (fun t ht hW => ⟨rfl, by rw [ht]; exact hP, hS.F ht⟩) hS.2.2 d F.locks
theorem j_lret_p (F : Fx p s m meth c cc own nL ret g A) {v o : Int64} (hr : ret = some .long) (d : decode cc pc = .ok (.lreturn, 1)) (hm : some v = some o) : J p l e R s m args below meth c g A nL (MQ below (QC g A (some (.long o)) S) args s cells slots A) cells slots pc lv ([.long v]) S := by
  cases hm
  exact fun H locs ls hl hP hS => W.lret F.1 F.2.1 (F.rt.trans hr) (fun t ht hW => ⟨rfl, by rw [ht]; exact hP, hS.F ht⟩) hS.2.2 d F.locks
theorem j_lret_e (F : Fx p s m meth c cc own nL ret g A) {v o : Int64} (hr : ret = some .long) (d : decode cc pc = .ok (.lreturn, 1)) (hm : some (v, S) = some (o, S')) : J p l e R s m args below meth c g A nL (MQ below (QC g A (some (.long o)) S') args s cells slots A) cells slots pc lv ([.long v]) S := by
  cases hm
  exact fun H locs ls hl hP hS => W.lret F.1 F.2.1 (F.rt.trans hr) (fun t ht hW => ⟨rfl, by rw [ht]; exact hP, hS.F ht⟩) hS.2.2 d F.locks
theorem j_aret_p (F : Fx p s m meth c cc own nL ret g A) {v o : Nat} {C : String} (hr : ret = some (.object C)) (d : decode cc pc = .ok (.areturn, 1)) (hm : some v = some o) : J p l e R s m args below meth c g A nL (MQ below (QC g A (some (.ref (g.2.1 o))) S) args s cells slots A) cells slots pc lv ([.ref (g.2.1 v)]) S := by
  cases hm
  exact fun H locs ls hl hP hS => W.aret F.1 F.2.1 (F.rt.trans hr) (Or.inl ⟨C, rfl⟩) (Or.inr ⟨_, rfl⟩) (fun t ht hW => ⟨rfl, by rw [ht]; exact hP, hS.F ht⟩) hS.2.2 d F.locks
theorem j_aret_e (F : Fx p s m meth c cc own nL ret g A) {v o : Nat} {C : String} (hr : ret = some (.object C)) (d : decode cc pc = .ok (.areturn, 1)) (hm : some (v, S) = some (o, S')) : J p l e R s m args below meth c g A nL (MQ below (QC g A (some (.ref (g.2.1 o))) S') args s cells slots A) cells slots pc lv ([.ref (g.2.1 v)]) S := by
  cases hm
  exact fun H locs ls hl hP hS => W.aret F.1 F.2.1 (F.rt.trans hr) (Or.inl ⟨C, rfl⟩) (Or.inr ⟨_, rfl⟩) (fun t ht hW => ⟨rfl, by rw [ht]; exact hP, hS.F ht⟩) hS.2.2 d F.locks
theorem j_vret_e (F : Fx p s m meth c cc own nL ret g A) (hr : ret = none) (d : decode cc pc = .ok (.return_, 1)) (hm : some S = some S') : J p l e R s m args below meth c g A nL (MQ below (QC g A none S') args s cells slots A) cells slots pc lv [] S := by
  cases hm
  exact fun H locs ls hl hP hS => W.vret F.1 F.2.1 (F.rt.trans hr) (fun t ht hW => ⟨rfl, by rw [ht]; exact hP, hS.F ht⟩) hS.2.2 d F.locks
theorem j_callG (F : Fx p s m meth c cc own nL ret g A) {mc ms : Nat} {st0 rest : List Value} {ov : Option Value} {a : Array Value}
    (hr : ∀ (H : Heap) (locs : List Loc) (ls : Array Slot), lv_has ls nL lv → va_P g.1 vwCl (wC g S) H → va_S A s.heap H locs → va_Run p l e R s m args below meth c H locs cells slots mc ms (F0 m pc ls st0) rest (QC g (va_A (wC g S) H.size) ov S' a) (va_A (wC g S) H.size))
    (k : J p l e R s m args below meth c g A nL Q (cells + mc) (slots + ms) (pc + 3) lv (ov.toList ++ rest) S') : J p l e R s m args below meth c g A nL Q cells slots pc lv st0 S := by
  intro H locs ls hl hP hS T hT X
  have hF := F.free S hS
  obtain ⟨v, st₀, t, T', L, h0, X', hL, e1, e2, ⟨hv, hp, hz, hk⟩, stp⟩ := hr H locs ls hl hP hS T hT X
  cases hv
  rw [h0] at hz hk
  obtain ⟨t2, a1, b1⟩ := k T'.heap (locs ++ L) ls hl (by rw [e1]; exact hp) ⟨Nat.le_trans hS.1 (by rw [e1]; exact hz), fun q h1 h2 => by rw [e1, hk q (Nat.lt_of_lt_of_le h1 hS.1) (fun z => h2 (hF q z))]; exact hS.2.1 q h1 h2, fun q hq => by
      rcases List.mem_append.mp hq with h | h
      · exact hS.2.2 q h
      · exact hF _ (hL q h)⟩ T' rfl X'
  exact ⟨t2, stp t2 a1, b1⟩
theorem PC_blind {av : List Value} {sz : Nat} : FrameBlind (PC g av S sz) := fun a U g' mk q => by
  obtain ⟨q0, q1, qP, qK, qT, qS⟩ := q
  exact ⟨q0, q1, qP, va_K.moved (u := U) (U := U.calling g' mk a) (Vm.Alike.refl U.vm) qK, qT.warm (U := U.calling g' mk a) (State.WarmedH.refl U), qS.pre (U := U.calling g' mk a) (State.WarmedH.refl U) (fun _ _ _ => rfl) (fun _ h => h)⟩
theorem Fx.pre (F : Fx p s m meth c cc own nL ret g A) (av : List Value) {H : Heap} {locs : List Loc} (hP : va_P g.1 vwCl (wC g S) H) (hS : va_S A s.heap H locs) : ∀ U : State, U.heap = H → s.WarmedH U.vm → PC g av S H.size av.toArray U := fun U hU hW => ⟨rfl, by rw [hU], by rw [hU]; exact hP, va_K.moved hW.alike F.K, F.tb.warm hW, F.sf.pre hW (fun a h1 h2 => by rw [hU]; exact hS.2.1 a h1 h2) (F.free S hS)⟩
theorem j_callV (F : Fx p s m meth c cc own nL ret g A) {y : MethodName} {bytes : ByteArray} {maxL n ix b ci : Nat} {r : Option FieldType} {rm : Room} {C : String} {T : u_T} {N : Nat} {fs : List (Option Nat)} {As rest : List Value} {ov : Option Value} (hM : CM l y [.code y bytes maxL r] rm (.ref (g.2.1 b) :: As) g S ov S') (gW : GoodIn tblG (wsV own ix C y [.code y bytes maxL r]))
    (hd : y.cls = C ∧ y.cls ≠ "java/lang/invoke/MethodHandle" ∧ y.cls ≠ "java/lang/invoke/VarHandle" ∧ (parseMethodDescriptor y.desc).map (fun d => d.parameters.length) = some n) (hR : rm.frames + 1 ≤ R.frames ∧ 8 + (maxL + 11) + rm.locals ≤ R.locals) (hf : cells + rm.cells ≤ R.cells ∧ slots + rm.slots ≤ R.slots) (hy : lay b = some (.inr (ci, fs))) (hc : vwCl[ci]? = some (C, T, N)) (hn : As.length = n) (hst : st = As.reverse ++ .ref (g.2.1 b) :: rest) (hW : (rest.map fun v => v.category).sum ≤ 8) (d : decode cc pc = .ok (.invokevirtual ix, 3))
    (k : J p l e R s m args below meth c g A nL Q (cells + rm.cells) (slots + rm.slots) (pc + 3) lv (ov.toList ++ rest) S') : J p l e R s m args below meth c g A nL Q cells slots pc lv st S :=
  j_callG F (fun H locs ls hl hP hS => va_runV F.fix (hM H.size) (cwV n F.hts gW rfl rfl rfl hd hR) ⟨PC_blind, va_recv F.K hP hc (wC_get g S hy), F.pre _ hP hS⟩ rfl hn hl.1 hst (lv_room hW) d hf) k
theorem j_callS (F : Fx p s m meth c cc own nL ret g A) {y : MethodName} {bytes : ByteArray} {maxL n ix : Nat} {r : Option FieldType} {rm : Room} {As rest : List Value} {ov : Option Value} (hM : CM l y [.code y bytes maxL r] rm As g S ov S') (gW : GoodIn tblG (va_wsS own ix y [.code y bytes maxL r]))
    (hd : y.cls ≠ "java/lang/invoke/MethodHandle" ∧ y.cls ≠ "java/lang/invoke/VarHandle" ∧ (parseMethodDescriptor y.desc).map (fun d => d.parameters.length) = some n) (hR : rm.frames + 1 ≤ R.frames ∧ 8 + (maxL + 11) + rm.locals ≤ R.locals) (hf : cells + rm.cells ≤ R.cells ∧ slots + rm.slots ≤ R.slots) (hn : As.length = n) (hst : st = As.reverse ++ rest) (hW : (rest.map fun v => v.category).sum ≤ 8) (d : decode cc pc = .ok (.invokestatic ix, 3))
    (k : J p l e R s m args below meth c g A nL Q (cells + rm.cells) (slots + rm.slots) (pc + 3) lv (ov.toList ++ rest) S') : J p l e R s m args below meth c g A nL Q cells slots pc lv st S :=
  j_callG F (fun H locs ls hl hP hS => va_runS F.fix (hM H.size) (va_cwS n F.hts gW rfl rfl rfl hd hR) ⟨PC_blind, F.pre _ hP hS⟩ rfl hn hl.1 hst (lv_room hW) d hf) k
theorem j_callSN (F : Fx p s m meth c cc own nL ret g A) {y : MethodName} {bytes : ByteArray} {maxL n ix : Nat} {host : String} {r : Option FieldType} {rm : Room} {As rest : List Value} {ov : Option Value} (hM : CM l y [.code y bytes maxL r] rm As g S ov S') (gW : GoodIn tblG [.code y bytes maxL r]) (hl0 : Cond.methodLinkNest own ix y host ∈ tblG) (hi0 : Cond.initialized y.cls ∈ tblG) (hs0 : Cond.static y ∈ tblG)
    (hd : y.cls ≠ "java/lang/invoke/MethodHandle" ∧ y.cls ≠ "java/lang/invoke/VarHandle" ∧ (parseMethodDescriptor y.desc).map (fun d => d.parameters.length) = some n) (hR : rm.frames + 1 ≤ R.frames ∧ 8 + (maxL + 11) + rm.locals ≤ R.locals) (hf : cells + rm.cells ≤ R.cells ∧ slots + rm.slots ≤ R.slots) (hn : As.length = n) (hst : st = As.reverse ++ rest) (hW : (rest.map fun v => v.category).sum ≤ 8) (d : decode cc pc = .ok (.invokestatic ix, 3))
    (k : J p l e R s m args below meth c g A nL Q (cells + rm.cells) (slots + rm.slots) (pc + 3) lv (ov.toList ++ rest) S') : J p l e R s m args below meth c g A nL Q cells slots pc lv st S :=
  j_callG F (fun H locs ls hl hP hS => va_runSN F.fix (hM H.size) ⟨va_cnB n F.hts gW rfl rfl rfl (F.tb _ hl0) (F.hts _ hi0) hd hR, F.hts _ hs0, trivial⟩ ⟨PC_blind, F.pre _ hP hS⟩ rfl hn hl.1 hst (lv_room hW) d hf) k
theorem j_sld (F : Fx p s m meth c cc own nL ret g A) {L : Nat} {xs : Nat → Int32} (hLx : g.2.2.2 = (L, xs)) {ix : Int32} (hin : vp_in ix L) (d : decode cc pc = .ok (.iaload, 1)) (k : J p l e R s m args below meth c g A nL Q cells slots (pc + 1) lv (.int (xs ix.toNatClampNeg) :: st) S) : J p l e R s m args below meth c g A nL Q cells slots pc lv (.int ix :: .ref (g.2.1 100) :: st) S := fun H locs ls hl hP hS => by
  have h1 : va_X (g.2.1 100) L xs s s.heap := by have := F.sf.1; rw [hLx] at this; exact this
  exact va_sld F.1 F.2.1 h1 F.sf.2.1 F.sf.2.2 hS hin d (k H locs ls hl hP hS)
theorem j_slen (F : Fx p s m meth c cc own nL ret g A) {L : Nat} {xs : Nat → Int32} (hLx : g.2.2.2 = (L, xs)) (d : decode cc pc = .ok (.arraylength, 1)) (k : J p l e R s m args below meth c g A nL Q cells slots (pc + 1) lv (.int (Int32.ofNat L) :: st) S) : J p l e R s m args below meth c g A nL Q cells slots pc lv (.ref (g.2.1 100) :: st) S := fun H locs ls hl hP hS => by
  have h1 : va_X (g.2.1 100) L xs s s.heap := by have := F.sf.1; rw [hLx] at this; exact this
  exact va_slen F.1 F.2.1 h1 F.sf.2.1 F.sf.2.2 hS d (k H locs ls hl hP hS)
theorem swn_if {ρ : Type} {x n : Nat} {X Y : Option ρ} {r : ρ} {C : Prop} (hm : (if x = n then X else Y) = some r) (kt : x = n → X = some r → C) (kf : ¬ x = n → Y = some r → C) : C := by
  by_cases h : x = n
  · exact kt h ((if_pos h).symm.trans hm)
  · exact kf h ((if_neg h).symm.trans hm)
end JR
theorem inl_p {α : Type} {v o : α} (h : some (Sum.inl v : α ⊕ Nat) = some (Sum.inl o)) : some v = some o := by cases h; rfl
theorem inl_e {α β : Type} {v o : α} {S T : β} (h : some ((Sum.inl v : α ⊕ Nat), S) = some (Sum.inl o, T)) : some (v, S) = some (o, T) := by cases h; rfl
theorem inl_v {α β : Type} {v o : α} {S T : β} (h : some ((Sum.inl v : α ⊕ Nat), S) = some (Sum.inl o, T)) : some S = some T := by cases h; rfl
