/-! own rows for what the printed rows take from the library's shelf 42: a throw that is caught by a class not yet resolved, a static method that the named class inherits, int[n][k] -/
section XZ
variable {p : Program} {l : Launch} {e : Env} {R : Room} {s : State} {m : MethodId} {args : Array Value} {below : List Frame} {meth : Method} {c : Code} {T : State} {locs : List Loc} {cells slots : Nat}
/-- one instruction, whose end is known by a property alone -/
theorem xz_step {P : State → Prop} {g : JFrame} {i : Instr} {len : Nat} (X : Stand p l e R s m args below meth c T locs cells slots) (hx : p.tables.exec = Jvm.exec) (hg : g.method = m) (hd : decode c.code g.pc = .ok (i, len))
    (hw : wp (Jvm.exec i) (fun _ _ _ u => ∃ (U : State) (f : JFrame), u = U.setTop f ∧ ∃ t, Steps p.tables e below (U.setTop { f with pc := f.pc + len }) t ∧ P t) (fun q _ u => ∃ (k : MethodId) (a : Array Value), q = .invoke k a ∧ ∃ t, (∀ acts, Steps p.tables e below (doInvoke e u acts k a).1 t) ∧ P t) e false [] (T.setTop g)) :
    ∃ t, Steps p.tables e below (T.setTop g) t ∧ P t := by
  subst hg
  have hr := (wpRun_iff_run (Jvm.exec i) (fun _ u _ => ∃ (U : State) (f : JFrame), u = U.setTop f ∧ ∃ t, Steps p.tables e below (U.setTop { f with pc := f.pc + len }) t ∧ P t) (fun q u _ => ∃ (k : MethodId) (a : Array Value), q = .invoke k a ∧ ∃ t, (∀ acts, Steps p.tables e below (doInvoke e u acts k a).1 t) ∧ P t) e (T.setTop g)).mp hw
  have go : ∀ t, wpRun (Jvm.exec i) (fun _ u _ => ∀ acts, Steps p.tables e below (afterInstr e len (.ok () u acts)).1 t) (fun q u _ => ∀ acts, Steps p.tables e below (afterInstr e len (.ctl q u acts)).1 t) e (T.setTop g) → Steps p.tables e below (T.setTop g) t := fun t h => Steps.instr X.here (by rw [hd, hx]; exact h)
  cases hc : (Jvm.exec i).run e (T.setTop g) with
  | ok a u as =>
    rw [hc] at hr
    obtain ⟨U, f, rfl, t, h1, h2⟩ := hr
    refine ⟨t, go t ((wpRun_iff_run _ _ _ _ _).mpr ?_), h2⟩
    rw [hc]
    intro acts
    rw [afterInstr_ok]
    exact h1
  | ctl q u as =>
    rw [hc] at hr
    have hq : ∃ (k : MethodId) (a : Array Value), q = .invoke k a ∧ ∃ t, (∀ acts, Steps p.tables e below (doInvoke e u acts k a).1 t) ∧ P t := by
      cases q <;> first | exact hr | exact hr.elim
    obtain ⟨k, a, rfl, t, h1, h2⟩ := hq
    refine ⟨t, go t ((wpRun_iff_run _ _ _ _ _).mpr ?_), h2⟩
    rw [hc]
    intro acts
    exact h1 acts
/-- the search of a table of one row, whose class is named by an entry that links: found, and the entry noted -/
theorem xz_find {S : State} {f : JFrame} {a : Addr} {x : ExceptionTableEntry} {ct : ClassId} {cell : Cell} {v : Vm} (hm : S.vm.method? f.method = some meth) (hc : meth.code = some c) (ht : c.exceptionTable.toList = [x]) (hx : covers x f.pc = true) (h0 : x.catchType ≠ 0)
    (hg : (Jvm.resolveClass f.method.cls x.catchType).Gives e.toSetting S.vm (.ok ct) v) (hv : v.classReady f.method.cls x.catchType ct) (hz : v.classes.size ≤ S.vm.classes.size) (hcell : S.heap[a]? = some cell) (hn : cell.vm = .none)
    (hk : ∃ k, v.classes[cell.cls]? = some k) (hk2 : ∃ k, v.classes[ct]? = some k) (fit : v.assignable cell.cls ct = true) {Q : Handler → Pre} {E : CtlPost} {d : Bool} {acts : List Action} (hQ : Q (.found x.handlerPc) d acts (S.setVm v)) :
    wp (findHandler f a) Q E e d acts S := by
  have warm : wp (findHandler.go f a [x]) Q E e d acts (S.setVm v) := (W.findHandler_go_class (s := S.setVm v) hx h0 hv hcell (fun k w => by rw [hn] at w; cases w) hk hk2).mpr (by rw [if_pos (show (S.setVm v).vm.assignable cell.cls ct = true from fit)]; exact hQ)
  rw [W.findHandler_eq hm hc, ht]
  obtain ⟨q1, q2⟩ := hg.op (op := VmOp.resolveClass f.method.cls x.catchType) rfl
  obtain ⟨k3, z3, z4⟩ := hv
  have q3 := resolveClass_memo (vm := v) e z3 z4
  simp only [covers] at hx
  simp [findHandler.go, hx, h0, q3, VmOp.dirties, VmOp.acts] at warm
  simp [findHandler.go, hx, h0, q1, q2, hz, VmOp.dirties, VmOp.acts]
  exact warm
/-- a throw that the one row of the table catches -/
theorem xz_catch (X : Stand p l e R s m args below meth c T locs cells slots) {g : JFrame} (hg : g.method = m) {a : Addr} {x : ExceptionTableEntry} {ct : ClassId} {cell : Cell} (ht : c.exceptionTable.toList = [x]) (hx : covers x g.pc = true) (h0 : x.catchType ≠ 0)
    (hl : s.vm.ClassLinks e.platform m.cls x.catchType ct) (hcell : T.heap[a]? = some cell) (hn : cell.vm = .none) (hk : ∃ k, s.vm.classes[cell.cls]? = some k) (fit : s.vm.assignable cell.cls ct = true) :
    ∃ v, Stand p l e R s m args below meth c (T.setVm v) locs cells slots ∧ Steps p.tables e below ((T.setTop g).pushFrame (.throwing a)) ((T.setVm v).setTop { g with pc := x.handlerPc, stack := [.ref a] }) := by
  subst hg
  obtain ⟨e1, e2, e3⟩ := State.classEntry (e := e) X.warmed hl
  generalize hv : T.vm.noted g.method.cls x.catchType (.cls ct) = v at e1 e2 e3
  have hz : v.classes.size ≤ T.vm.classes.size := by rw [e2.alike.2.1, ← X.warmed.alike.2.1]; exact Nat.le_refl _
  refine ⟨v, X.noted e2, ?_⟩
  obtain ⟨k1, hk1⟩ := hk
  obtain ⟨k2, hk2, -⟩ := e2.alike.2.2 _ _ hk1
  obtain ⟨-, -, -, kt, -, -, -, -, -, hkt, -⟩ := hl.here
  obtain ⟨k4, hk4, -⟩ := e2.alike.2.2 _ _ hkt
  have vmS : ((T.setTop g).pushFrame (.throwing a)).vm = T.vm := Stand.throwing_vm T g a
  have heS : ((T.setTop g).pushFrame (.throwing a)).heap = T.heap := Stand.throwing_heap T g a
  have top := frames_entered (g := g) X.here.top (.throwing a)
  obtain ⟨g0, hT⟩ := X.frames_eq
  have hS : (T.setTop g).pushFrame (.throwing a) = T.setFrames (.throwing a :: .java g :: below) := by
    rw [State.pushFrame, State.setTop_of_frames _ hT, State.setFrames_setFrames, State.frames_setFrames _ (State.cur_lt_of_frames hT)]
  rw [hT, List.tail_cons] at top
  obtain ⟨go, inside⟩ := X.here.throwing a
  refine Steps.head go inside ?_
  rw [stepThread_throwing top]
  have found : (stepThrowing e ((T.setTop g).pushFrame (.throwing a)) a (.java g :: below)).1 = (((T.setTop g).pushFrame (.throwing a)).setVm v).setFrames (.java { g with pc := x.handlerPc, stack := [.ref a] } :: below) := by
    simp only [stepThrowing, searchFrame, vmDo]
    split
    all_goals
      rename_i hr
      obtain ⟨b1, b2, b3, b4, b5, b6⟩ := First.eq_ok_of' (P := fun h u => h = Handler.found x.handlerPc ∧ u = ((T.setTop g).pushFrame (.throwing a)).setVm v) hr (by
        rw [wp_bind']
        refine xz_find (meth := meth) (c := c) (v := v) (by rw [vmS]; exact X.method') X.code ht hx h0 (by rw [vmS]; exact e1) e3 (by rw [vmS]; exact hz) (by rw [heS]; exact hcell) hn ⟨k2, hk2⟩ ⟨k4, hk4⟩ (by rw [e2.alike.assignable]; exact fit) ?_
        simp)
      first
        | (cases b4; subst b5; subst b6; rfl)
        | cases b4
  rw [found, hS, First.setVm_setFrames, State.setTop_of_frames (s := T.setVm v) _ hT]
  exact Steps.refl _
/-- invokestatic by a name whose class entry and method entry link, one behind the other, as far as the invocation -/
theorem xz_static {S : State} {f : JFrame} {idx ci : Nat} {nm ds : String} {via : Bool} {cn : ClassId} {ck k : Class} {v1 v2 : Vm} {k1 : MethodId} {me : Method} {As rest : List Value} (hs : S.topJava?.isSome) (hp : e.platform.polymorphicOnlyByInvokevirtual = true)
    (r1 : ((memberRef f.method.cls idx).ask e.toSetting S.vm).1 = .ok (ci, nm, ds, via)) (g1 : (Jvm.resolveClass f.method.cls ci).Gives e.toSetting S.vm (.ok cn) v1) (z1 : v1.classes.size ≤ S.vm.classes.size) (c1 : v1.classes[cn]? = some ck) (n1 : ∀ y, signaturePolymorphic ck y = false)
    (g2 : (Jvm.resolveMethod f.method.cls idx).Gives e.toSetting v1 (.ok k1) v2) (z2 : v2.classes.size ≤ v1.classes.size) (m2 : v2.method? k1 = some me) (c2 : v2.classes[k1.cls]? = some k) (n2 : signaturePolymorphic k me = false) (st : me.isStatic = true) (ini : k.init = .initialized)
    (len : As.length = me.sig.parameters.length) (stk : f.stack = As.reverse ++ rest) {Q : Unit → Pre} {E : CtlPost} {d : Bool} {acts : List Action} (hE : ∀ as, E (.invoke k1 As.toArray) as ((S.setVm v2).setTop { f with stack := rest })) :
    wp (Op.invokestatic.sem idx) Q E e d acts (S.setTop f) := by
  have hm : (S.setTop f).method? = some f.method := State.method?_setTop f hs
  have a1 : ∀ {Q' : ClassId → Pre} {d' : Bool} {as : List Action}, wp (Jvm.resolveClassAt ci) Q' E e d' as (S.setTop f) ↔ Q' cn d' as ((S.setVm v1).setTop f) := W.resolveClassAt_links (t := S.setTop f) hm g1 z1
  have a2 : ∀ {Q' : MethodId → Pre} {d' : Bool} {as : List Action}, wp (Jvm.resolveMethodAt idx) Q' E e d' as ((S.setVm v1).setTop f) ↔ Q' k1 d' as ((S.setVm v2).setTop f) := W.resolveMethodAt_links (t := (S.setVm v1).setTop f) (State.method?_setTop f hs) g2 z2
  have a3 : ∀ {Q' : Unit → Pre} {d' : Bool} {as : List Action}, wp (ensureInit k1.cls) Q' E e d' as ((S.setVm v2).setTop f) ↔ Q' () d' (.initLock k1.cls false :: as) ((S.setVm v2).setTop f) := W.ensureInit_ready (s := (S.setVm v2).setTop f) ⟨k, c2, ini⟩
  simp [Op.invokestatic.sem, hp, Seam.memberRefOf, hm, r1, a1, c1, n1, a2, m2, c2, Seam.isPolymorphic, n2, st, a3, Jvm.popArgs, ← len]
  exact (Op.popN_top (s := S.setVm v2) hs stk).mpr (by rw [W.invoke]; exact hE _)
/-- the same for a method that the named class inherits -/
theorem xz_up (X : Stand p l e R s m args below meth c T locs cells slots) (hx : p.tables.exec = Jvm.exec) {own owner : String} {idx : Nat} {y : MethodName} {k1 : MethodId} {me : Method} {k : Class} {g : JFrame} {As rest : List Value} (hg : g.method = m) (hd : decode c.code g.pc = .ok (.invokestatic idx, 3))
    (w0 : s.vm.findClass own = some m.cls) (w1 : (Cond.methodLink own idx y).before args s = true) (w2 : (Cond.sameMethod y.cls owner y.name y.desc).before args s = true) (nh : owner ≠ "java/lang/invoke/MethodHandle" ∧ owner ≠ "java/lang/invoke/VarHandle")
    (hn : s.methodNamed? ⟨owner, y.name, y.desc⟩ = some k1) (hm : s.vm.method? k1 = some me) (hk : s.vm.classes[k1.cls]? = some k) (st : me.isStatic = true) (ini : k.init = .initialized) (len : As.length = me.sig.parameters.length) (stk : g.stack = As.reverse ++ rest) :
    ∃ v, Stand p l e R s m args below meth c (T.setVm v) locs cells slots ∧ ∀ t, (∀ as, Steps p.tables e below (doInvoke e ((T.setVm v).setTop { g with stack := rest }) as k1 As.toArray).1 t) → Steps p.tables e below (T.setTop g) t := by
  subst hg
  obtain ⟨cn, ck, r, f1, f2, f3, f4, f5⟩ := Cond.sameMethod_found w2
  obtain rfl : k1 = r := Option.some.inj (hn.symm.trans f5)
  obtain ⟨ci, L, right⟩ := Cond.methodLink_specUp w0 f1 f2 f3 f4 w1 e.platform (by rw [X.admits.platform]) (by rw [X.admits.platform])
  have N := State.methodEntryUp (e := e) X.warmed L right
  obtain ⟨g1, -, W1, g2⟩ := N.classFirst
  have W2 := N.warmed
  obtain ⟨dk, cf, nt, nm, ds, ck', -, -, d1, d2, d3, d4, -, -, d5, -, d6, -⟩ := L.here
  obtain rfl : ck = ck' := Option.some.inj (f2.symm.trans d5)
  obtain ⟨dk0, x1, x2⟩ := X.warmed.alike.2.2 _ _ d1
  obtain ⟨ck1, y1, y2⟩ := W1.alike.2.2 _ _ f2
  obtain ⟨kk, z1, z2⟩ := W2.alike.2.2 _ _ hk
  obtain ⟨kn, n1, n2⟩ := className_of_methodNamed hn
  obtain rfl : k = kn := Option.some.inj (hk.symm.trans n1)
  have poly : ∀ q, signaturePolymorphic ck1 q = false := fun q => by
    have := d6 q
    rw [y2]
    exact this
  have poly2 : signaturePolymorphic kk me = false := signaturePolymorphic_of_name (by rw [z2]; show k.name ≠ _ ∧ k.name ≠ _; rw [n2]; exact nh) me
  refine ⟨_, X.noted W2, fun t ht => Steps.instr X.here ?_⟩
  rw [hd, hx]
  exact xz_static (via := false) X.here.top (by rw [X.admits.platform]) (memberRef_ask_via (via := false) x1 (by rw [x2]; exact d2) d3 d4) g1 (by rw [W1.alike.2.1, ← X.warmed.alike.2.1]; exact Nat.le_refl _) y1 poly g2 (by rw [W2.alike.2.1, ← W1.alike.2.1]; exact Nat.le_refl _) (by rw [W2.alike.method?]; exact hm) z1 poly2 st (by rw [z2]; exact ini) len stk (fun _ as => ht as)
end XZ
section XY
variable {p : Program} {l : Launch} {e : Env} {R : Room} {s : State} {m : MethodId} {args : Array Value} {below : List Frame} {meth : Method} {c : Code} {T U : State} {locs : List Loc} {cells slots : Nat}
/-- a new row -/
theorem xz_new {S : State} {cA comp : ClassId} {k : Class} {ty : FieldType} {n : Nat} {x : Value} (hk : S.vm.classes[cA]? = some k) (kd : k.kind = .array comp ty) (h1 : n ≤ e.platform.arrayLengthLimit) (h2 : n * componentBytes ty ≤ e.platform.maxHeapBytes) (r1 : S.heap.size + 1 ≤ e.platform.maxCells) (r2 : S.slotsUsed + n ≤ e.platform.maxSlots) (hf : fits ty x = true)
    {Q : Addr → Pre} {E : CtlPost} {d : Bool} {acts : List Action} (hQ : ∀ as, Q S.heap.size d as (S.pushCell (arrV cA n fun _ => x))) : wp (Jvm.newArray cA n x) Q E e d acts S := by
  have r3 : ¬ n > e.platform.maxSlots := by omega
  have h3 : ¬ n > e.platform.arrayLengthLimit := by omega
  have h4 : ¬ n * componentBytes ty > e.platform.maxHeapBytes := by omega
  rw [Jvm.newArray]
  simp only [Jvm.arrayFits, wp_bind', W.ask, W.ite, h3, if_false, wp_pure', W.theClass, hk, Option.some.injEq, exists_eq_left', kd, h4, r3, W.alloc]
  refine ⟨by omega, by rw [Array.size_replicate]; exact r2, fun i v hv => ?_, by rw [arrV_new]; exact hQ _⟩
  obtain ⟨-, rfl⟩ : i < n ∧ x = v := by
    have hv := Array.getElem?_eq_some_iff.mp hv
    obtain ⟨hi, hv⟩ := hv
    rw [Array.getElem_replicate] at hv
    exact ⟨by rw [Array.size_replicate] at hi; exact hi, hv⟩
  simp [State.fitsSlot, State.slotType?, hk, kd, hf]
def xz_I (p : Program) (l : Launch) (e : Env) (R : Room) (s : State) (m : MethodId) (args : Array Value) (below : List Frame) (meth : Method) (c : Code) (locs : List Loc) (cells slots : Nat) (T : State) (cO cI : ClassId) (N K i : Nat) (U : State) : Prop :=
  (∃ J : List Loc, Stand p l e R s m args below meth c U (locs ++ J) (cells + 1 + i) (slots + N + i * K) ∧ ∀ x ∈ J, x.base = T.heap.size) ∧ U.vm = T.vm ∧ U.heap.size = T.heap.size + 1 + i ∧
    U.heap[T.heap.size]? = some (arrV cO N (fun j => va_rf (if j < i then some (T.heap.size + 1 + j) else none))) ∧ (∀ j : Nat, j < i → U.heap[T.heap.size + 1 + j]? = some (arrV cI K (fun _ => .int 0))) ∧ ∀ a : Nat, a < T.heap.size → U.heap[a]? = T.heap[a]?
theorem xz_I.first {cO cI : ClassId} {N K : Nat} (X : Stand p l e R s m args below meth c T locs cells slots) : xz_I p l e R s m args below meth c locs cells slots T cO cI N K 0 (T.pushCell (arrV cO N fun _ => .null)) := by
  refine ⟨⟨[], ?_, fun x hx => nomatch hx⟩, rfl, by simp, ?_, fun j hj => absurd hj (Nat.not_lt_zero j), fun a ha => ?_⟩
  · have := X.pushed (arrV cO N fun _ => .null)
    rw [arrV_size] at this
    simpa using this
  · simp [va_rf]
  · simp [Array.getElem?_push, Nat.ne_of_lt ha]
theorem xz_I.next {cO cI : ClassId} {N K i : Nat} (h : xz_I p l e R s m args below meth c locs cells slots T cO cI N K i U) :
    xz_I p l e R s m args below meth c locs cells slots T cO cI N K (i + 1) ((U.pushCell (arrV cI K fun _ => .int 0)).setCell T.heap.size ((arrV cO N (fun j => va_rf (if j < i then some (T.heap.size + 1 + j) else none))).setSlot i (.ref U.heap.size))) := by
  obtain ⟨⟨J, X, hJ⟩, h1, h2, h3, h4, h5⟩ := h
  have new : (U.pushCell (arrV cI K fun _ => .int 0)).heap[T.heap.size]? = some (arrV cO N (fun j => va_rf (if j < i then some (T.heap.size + 1 + j) else none))) := by
    rw [State.heap_pushCell, Array.getElem?_push, if_neg (by omega)]
    exact h3
  have X2 := (X.pushed (arrV cI K fun _ => .int 0)).stored new i (.ref U.heap.size)
  rw [arrV_size, List.append_assoc] at X2
  refine ⟨⟨J ++ [⟨T.heap.size, i⟩], ?_, fun x hx => ?_⟩, h1, ?_, ?_, fun j hj => ?_, fun a ha => ?_⟩
  · rw [Nat.succ_mul, ← Nat.add_assoc (slots + N), ← Nat.add_assoc (cells + 1)]
    exact X2
  · rcases List.mem_append.mp hx with q | q
    · exact hJ x q
    · rw [List.mem_singleton.mp q]
  · simp [h2]
    omega
  · rw [State.heap_setCell, Array.getElem?_setIfInBounds, if_pos rfl, if_pos (by rw [State.heap_pushCell, Array.size_push]; omega), arrV_store]
    refine congrArg (fun z => some (arrV cO N z)) (funext fun j => ?_)
    unfold updV
    by_cases q : j = i
    · subst q
      simp [va_rf, h2]
    · rw [if_neg q]
      by_cases q2 : j < i
      · simp [q2, Nat.lt_succ_of_lt q2]
      · simp [q2, show ¬ j < i + 1 by omega]
  · rw [State.heap_setCell, Array.getElem?_setIfInBounds, if_neg (by omega), State.heap_pushCell, Array.getElem?_push]
    by_cases q : j = i
    · subst q
      rw [if_pos h2.symm]
    · rw [if_neg (by omega)]
      exact h4 j (by omega)
  · rw [State.heap_setCell, Array.getElem?_setIfInBounds, if_neg (by omega), State.heap_pushCell, Array.getElem?_push, if_neg (by omega)]
    exact h5 a ha
/-- rows of an int[n][k], one behind the other -/
theorem xz_make {cO cI q : ClassId} {kO kI : Class} {n k : Int32} (X : Stand p l e R s m args below meth c T locs cells slots) (c1 : T.vm.classes[cO]? = some kO) (c2 : kO.kind = .array cI (.array .int)) (c3 : T.vm.classes[cI]? = some kI) (c4 : kI.kind = .array q .int) (hn : ¬ n < 0) (hk : ¬ k < 0) (n1 : n.toNatClampNeg ≤ 1000) (k1 : k.toNatClampNeg ≤ 1000)
    (r1 : cells + 1 + n.toNatClampNeg ≤ R.cells) (r2 : slots + n.toNatClampNeg + n.toNatClampNeg * k.toNatClampNeg ≤ R.slots) {f : JFrame} {Q : Addr → Pre} {E : CtlPost} {d : Bool} {acts : List Action}
    (hQ : ∀ (U : State) (d' : Bool) (as : List Action), xz_I p l e R s m args below meth c locs cells slots T cO cI n.toNatClampNeg k.toNatClampNeg n.toNatClampNeg U → Q T.heap.size d' as (U.setTop f)) : wp (Op.multianewarray.make cO [n, k]) Q E e d acts (T.setTop f) := by
  have lim : e.platform.arrayLengthLimit = _ := Launch.admits_arrayLengthLimit X.admits
  have big : e.platform.maxHeapBytes = _ := Launch.admits_maxHeapBytes X.admits
  obtain ⟨a1, a2⟩ := X.roomAbove (a := 1) (b := n.toNatClampNeg) (by omega) (by omega)
  rw [Op.multianewarray.make]
  simp only [wp_bind', W.ite, hn, if_false, wp_pure', W.theClass, State.vm_setTop, c1, Option.some.injEq, exists_eq_left', c2]
  refine xz_new (S := T.setTop f) c1 c2 (by rw [lim]; omega) (by rw [big]; show _ * 4 ≤ _; omega) a1 a2 rfl (fun as => ?_)
  have nobad : List.find? (fun x : Int32 => decide (x < 0)) [k] = none := by simp [hk]
  have loop : wp (do
      forIn [:n.toNatClampNeg] PUnit.unit fun i _ => do
        writeLoc T.heap.size i (.ref (← Op.multianewarray.make cI [k]))
        Pure.pure (ForInStep.yield PUnit.unit)
      Pure.pure T.heap.size) Q E e d as ((T.pushCell (arrV cO n.toNatClampNeg fun _ => .null)).setTop f) := by
    rw [wp_bind', Std.Legacy.Range.forIn_eq_forIn_range']
    refine wp_forIn_inv (fun rest u => ∃ (U : State) (i : Nat), u = U.setTop f ∧ xz_I p l e R s m args below meth c locs cells slots T cO cI n.toNatClampNeg k.toNatClampNeg i U ∧ rest = List.range' i (n.toNatClampNeg - i) ∧ i ≤ n.toNatClampNeg) _ _ ⟨_, 0, rfl, xz_I.first X, by simp [Std.Legacy.Range.size], Nat.zero_le _⟩ ?_ ?_
    · intro x rest u d' as' Q' ⟨U, i, hu, h, hr, hi⟩ hq
      subst hu
      obtain ⟨j, hj⟩ : ∃ j, n.toNatClampNeg - i = j + 1 := by
        cases z : n.toNatClampNeg - i with
        | zero => rw [z] at hr; cases hr
        | succ j => exact ⟨j, rfl⟩
      rw [hj, List.range'_succ] at hr
      injection hr with hx hrest
      subst hx
      have h' := h
      obtain ⟨⟨J, Y, -⟩, hv, hz, ho, -, -⟩ := h'
      have le : (x + 1) * k.toNatClampNeg ≤ n.toNatClampNeg * k.toNatClampNeg := Nat.mul_le_mul_right _ (by omega)
      rw [Nat.succ_mul] at le
      obtain ⟨b1, b2⟩ := Y.roomAbove (a := 1) (b := k.toNatClampNeg) (by omega) (by omega)
      rw [wp_bind', Op.multianewarray.make]
      simp only [wp_bind', W.ite, hk, if_false, wp_pure', W.theClass, State.vm_setTop, hv, c3, Option.some.injEq, exists_eq_left', c4]
      refine xz_new (S := U.setTop f) (by rw [State.vm_setTop, hv]; exact c3) c4 (by rw [lim]; omega) (by rw [big]; show _ * 4 ≤ _; omega) b1 b2 rfl (fun as2 => ?_)
      rw [wp_bind', W.writeLoc]
      refine ⟨arrV cO n.toNatClampNeg (fun j => va_rf (if j < x then some (T.heap.size + 1 + j) else none)), ?_, fun w => (nomatch w), by rw [arrV_size]; omega, ?_, ?_⟩
      · show ((U.pushCell _).heap)[T.heap.size]? = _
        rw [State.heap_pushCell, Array.getElem?_push, if_neg (by omega)]
        exact ho
      · show State.fitsSlot _ cO .none x (.ref _) = true
        simp [State.fitsSlot, State.slotType?, hv, c1, c2, fits]
      · exact hq _ _ _ ⟨_, x + 1, rfl, h.next, by rw [hrest]; congr 1; omega, by omega⟩
    · intro u d' as' ⟨U, i, hu, h, hr, hi⟩
      subst hu
      have : n.toNatClampNeg - i = 0 := by
        cases z : n.toNatClampNeg - i with
        | zero => rfl
        | succ j => rw [z] at hr; cases hr
      obtain rfl : i = n.toNatClampNeg := by omega
      exact hQ U d' as' h
  split
  · rw [nobad]
    exact loop
  · exact loop
/-- what the word of int[][] says of its class -/
theorem xz_over {as : Array Value} (h : (Cond.arrayOver (.array .int)).before as s = true) : ∃ (cO cI : ClassId) (kO : Class), s.vm.findClass "[[I" = some cO ∧ s.vm.findClass "[I" = some cI ∧ s.vm.classes[cO]? = some kO ∧ kO.kind = .array cI (.array .int) := by
  simp only [Cond.before, Cond.holds, Cond.value] at h
  obtain ⟨cI, h1, h⟩ := Option.bind_eq_some_iff.mp (eq_of_beq h)
  obtain ⟨cO, h2, h⟩ := Option.bind_eq_some_iff.mp h
  obtain ⟨kO, h3, h⟩ := Option.map_eq_some_iff.mp h
  obtain ⟨lt, h4, -⟩ := Array.findIdx?_eq_some_iff_getElem.mp h2
  rw [Array.getElem?_eq_getElem lt] at h3
  have h3' := Option.some.inj h3
  rw [h3'] at h4
  refine ⟨cO, cI, kO, ?_, h1, by rw [Array.getElem?_eq_getElem lt]; exact h3, ?_⟩
  · split at h
    · exact of_decide_eq_true (Bool.and_eq_true_iff.mp h).2
    · cases h
  · split at h
    · rename_i q ty hq
      rw [hq] at h4
      rw [hq, of_decide_eq_true (Bool.and_eq_true_iff.mp h).1, eq_of_beq h4]
    · cases h
/-- int[n][k] -/
theorem xz_mna {P : State → Prop} {own : String} {idx : Nat} {g : JFrame} {n k : Int32} {rest : List Value} {as : Array Value} (X : Stand p l e R s m args below meth c T locs cells slots) (hx : p.tables.exec = Jvm.exec) (hg : g.method = m) (hd : decode c.code g.pc = .ok (.multianewarray idx 2, 4)) (w0 : s.vm.findClass own = some m.cls)
    (w1 : (Cond.classLink own idx "[[I").before args s = true) (w2 : (Cond.arrayOver (.array .int)).before as s = true) (w3 : (Cond.arrayClass .int).before args s = true) (stk : g.stack = .int k :: .int n :: rest) (hn : ¬ n < 0) (hk : ¬ k < 0) (n1 : n.toNatClampNeg ≤ 1000) (k1 : k.toNatClampNeg ≤ 1000)
    (r1 : cells + 1 + n.toNatClampNeg ≤ R.cells) (r2 : slots + n.toNatClampNeg + n.toNatClampNeg * k.toNatClampNeg ≤ R.slots)
    (kk : ∀ (U : State) (cO cI : ClassId), s.vm.findClass "[[I" = some cO → s.vm.findClass "[I" = some cI → Stand p l e R s m args below meth c U locs (cells + 1 + n.toNatClampNeg) (slots + n.toNatClampNeg + n.toNatClampNeg * k.toNatClampNeg) → U.heap.size = T.heap.size + 1 + n.toNatClampNeg →
      U.heap[T.heap.size]? = some (arrV cO n.toNatClampNeg (fun j => va_rf (if j < n.toNatClampNeg then some (T.heap.size + 1 + j) else none))) → (∀ j : Nat, j < n.toNatClampNeg → U.heap[T.heap.size + 1 + j]? = some (arrV cI k.toNatClampNeg (fun _ => .int 0))) → (∀ a : Nat, a < T.heap.size → U.heap[a]? = T.heap[a]?) →
      ∃ t, Steps p.tables e below (U.setTop { g with pc := g.pc + 4, stack := .ref T.heap.size :: rest }) t ∧ P t) : ∃ t, Steps p.tables e below (T.setTop g) t ∧ P t := by
  refine xz_step X hx hg hd ?_
  subst hg
  obtain ⟨cO, cI, kO, f1, f2, f3, f4⟩ := xz_over w2
  obtain ⟨cI', kI, q, f5, f6, f7⟩ := Cond.arrayClass_spec w3
  obtain rfl : cI = cI' := Option.some.inj (f2.symm.trans f5)
  obtain ⟨cO', f8, link⟩ := Cond.classLink_spec w0 w1 e.platform (by rw [X.admits.platform])
  obtain rfl : cO = cO' := Option.some.inj (f1.symm.trans f8)
  obtain ⟨e1, e2, -⟩ := State.classEntry (e := e) X.warmed link
  generalize T.vm.noted g.method.cls idx (.cls cO) = v at e1 e2
  have hz : v.classes.size ≤ T.vm.classes.size := by rw [e2.alike.2.1, ← X.warmed.alike.2.1]; exact Nat.le_refl _
  obtain ⟨kO2, a1, a2⟩ := e2.alike.2.2 _ _ f3
  obtain ⟨kI2, a3, a4⟩ := e2.alike.2.2 _ _ f6
  show wp (Op.multianewarray.sem idx 2) _ _ e false [] (T.setTop g)
  rw [Op.multianewarray.sem, wp_bind', W.resolveClassAt_links (t := T.setTop g) (State.method?_setTop g X.here.top) e1 hz, wp_bind']
  refine (Op.popN_top (s := T.setVm v) (args := [.int n, .int k]) X.here.top stk).mpr ?_
  simp only [List.mapM_cons, List.mapM_nil, wp_bind', wp_pure']
  refine xz_make (X.noted e2) a1 (by rw [a2]; exact f4) a3 (by rw [a4]; exact f7) hn hk n1 k1 r1 r2 (fun U d' as' h => ?_)
  obtain ⟨⟨J, Y, hJ⟩, h1, h2, h3, h4, h5⟩ := h
  rw [wp_bind', W.mark, W.pushRef]
  refine ⟨_, State.topJava?_setTop' _ Y.here.top, U, { g with stack := .ref T.heap.size :: rest }, State.setTop_setTop .., ?_⟩
  exact kk U cO cI f1 f2 (Y.dropFresh (fun x hx => by rw [hJ x hx]; exact X.heapGrown)) h2 h3 h4 h5
end XY
/-! stores into a told row; a pushed cell -/
theorem xi_lt {x : ClassId} {n : Nat} {f : Nat → Value} {i : Int32} (h : vp_in i n) : ¬ (i < 0 ∨ (arrV x n f).slots.size ≤ i.toNatClampNeg) := fun q => h (q.imp id fun z => arrV_size x n f ▸ z)
theorem xi_si {x : ClassId} {n i : Nat} {f : Nat → Int32} {v : Int32} : (vp_cell x (n, .inl f)).setSlot i (.int v) = vp_cell x (n, .inl (upd f i v)) := by
  simp only [vp_cell_i, arrV_store]
  refine congrArg (arrV x n) (funext fun j => ?_)
  unfold updV upd
  split <;> rfl
theorem xi_sl {x : ClassId} {n i : Nat} {f : Nat → Int64} {v : Int64} : (vp_cell x (n, .inr (.inl f))).setSlot i (.long v) = vp_cell x (n, .inr (.inl (vp_updL f i v))) := by
  simp only [vp_cell_l, arrV_store]
  refine congrArg (arrV x n) (funext fun j => ?_)
  unfold updV vp_updL
  split <;> rfl
theorem xi_push (H : Heap) (x : Cell) : (H.push x)[H.size]? = some x ∧ (H.push x).size = H.size + 1 ∧ ∀ q : Nat, q < H.size → (H.push x)[q]? = H[q]? := by
  refine ⟨by simp, by simp, fun q lt => ?_⟩
  simp [Array.getElem?_push, Nat.ne_of_lt lt]
/-- a static method of a class that is ready, by the three words of it -/
theorem xi_ready {s : State} {args : Array Value} {y : MethodName} {bytes : ByteArray} {n : Nat} {ret : Option FieldType} (w1 : (Cond.code y bytes n ret).before args s = true) (w2 : (Cond.static y).before args s = true) (w3 : (Cond.initialized y.cls).before args s = true) :
    ∃ (k : MethodId) (me : Method) (K : Class), s.methodNamed? y = some k ∧ s.vm.method? k = some me ∧ s.vm.classes[k.cls]? = some K ∧ me.isStatic = true ∧ K.init = .initialized ∧ parseMethodDescriptor y.desc = some me.sig := by
  obtain ⟨k, a⟩ := Cond.code_named w1
  have b := Cond.code_spec a w1
  obtain ⟨K, d, -⟩ := className_of_methodNamed a
  obtain ⟨me, -, b1, -, -, -, -, -, -, b2⟩ := b
  exact ⟨k, me, K, a, b1, d, Cond.static_spec a b1 w2, Cond.initialized_spec (findClass_of_methodNamed a) d w3, b2⟩
