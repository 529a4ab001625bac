/-! the exception's constructor and the throw: own rows over the library's laws -/
section NXA
variable {p : Program} {l : Launch} {e : Env} {R : Room} {s : State} {m₀ : MethodId} {args : Array Value} {below : List Frame} {meth : Method} {c : Code} {W : State} {cells slots : Nat}
/-- field f lies in the objects of class number x -/
def nx_Fd (s : State) (x : ClassId) (k : Class) (f : Field) : Prop := k.instanceTypes[f.slot]? = some f.type ∧ ∃ d : Class × Field, Jmm.declares? s.vm f.slot (x + 1) x = some d ∧ d.2.name = f.name
theorem nx_Fd.ne {x : ClassId} {k : Class} {f g : Field} (hf : nx_Fd s x k f) (hg : nx_Fd s x k g) (h : f.name ≠ g.name) : f.slot ≠ g.slot :=
  hf.2.elim fun _ a => hg.2.elim fun _ b => Cond.laysApart a.1 b.1 a.2 b.2 h
theorem nx_Fd.of {x y : ClassId} {i : Nat} {k k' : Class} {f : Field} {q : String × String} (hl : ∀ w ∈ nx_f.map (fun q => Cond.lays nxE Bundle.tN q.1 q.2), w.before args s = true) (hq : q ∈ nx_f) (hx : s.vm.findClass nxE = some x) (hk : s.vm.classes[x]? = some k) (hf : s.fieldFound? Bundle.tN q.1 q.2 = some (y, k', i, f)) : nx_Fd s x k f :=
  Cond.laysAt (args := args) (first := s) (o := none) (idx := []) hx hk hf (hl _ (List.mem_map.mpr ⟨q, hq, rfl⟩))
theorem nx_keep {x : Cell} {i j : Nat} {v : Value} (h : i ≠ j) : (x.setSlot i v).slots[j]? = x.slots[j]? := by
  simp [Cell.setSlot, Array.getElem?_setIfInBounds, h]
/-- a method of Throwable's that is called on the exception is Throwable's own -/
theorem nx_sel {y : MethodName} {r : MethodId} {x : ClassId} (ha : l.admits e) (hc : y.cls = Bundle.tN) (hw : (Cond.selects nxE y y).before args s = true) (hx : s.vm.findClass nxE = some x) (hy : s.methodNamed? y = some r) : selectMethod e.platform s.vm x r = .method r := by
  obtain ⟨x', r', r'', h1, h2, h3, h4, -⟩ := Cond.selects_spec (args := args) (first := s) (o := none) (idx := []) hw
  have hfd := State.methodFound?_of_named hy (by rw [hc]; decide)
  rw [hx] at h1
  rw [hfd] at h2
  rw [hy] at h3
  rw [Launch.admits_selectMethod ha, Option.some.inj h1, Option.some.inj h2, h4, ← Option.some.inj h3, ← Option.some.inj h2]
/-- the three constructors between the class and Throwable's own -/
theorem nx_chain {pl : Platform} (hpl : pl.magicAccessors = ({} : Platform).magicAccessors) {top : MethodId} (ht : s.methodNamed? (Bundle.initS Bundle.tN) = some top)
    (h1 : ∀ w ∈ Bundle.passSAtoms nxE nxRT 13 nx_by, w.before args s = true) (h2 : ∀ w ∈ Bundle.chainSAtoms nxRT ["java/lang/Exception"], w.before args s = true) :
    ∃ Ps : List PassC, Ps.length = 3 ∧ (∀ P, P ∈ Ps → P.LinksS pl s) ∧ PassesOn top (Ps.map (·.toPassT)) ∧ s.methodNamed? (Bundle.initS nxE) = some (firstOf top (Ps.map (·.toPassT))) := by
  obtain ⟨A, LA, hA, hsup⟩ := PassC.ofS_atoms (args := args) hpl (X := nxE) (Y := nxRT) (by decide +kernel) (by decide +kernel) nx_0 nx_1 nx_2 nx_5 h1
  obtain ⟨B, Bs, hn, LB, LBs, hB, hto⟩ := Bundle.chainS (args := args) hpl ht ["java/lang/Exception"] nxRT (by decide +kernel) (by decide +kernel) h2
  rw [hsup] at hB
  refine ⟨A :: B :: Bs, congrArg (· + 2) hn, List.forall_mem_cons.mpr ⟨LA, List.forall_mem_cons.mpr ⟨LB, LBs⟩⟩, ⟨Option.some.inj hB, hto⟩, hA⟩
/-- the two static references of Throwable, where no old cell has changed -/
theorem nx_stat (X : Stand p l e R s m₀ args below meth c W [] cells slots) {T : ThrowableC} {Z : Init0T} (L : T.Links e.platform s) (Y : Bundle.Ties T Z s)
    (hN : (Cond.isRef (.static Bundle.tN "SUPPRESSED_SENTINEL" Bundle.listD)).before args s = true) (hU : (Cond.isRef (.static Bundle.tN "UNASSIGNED_STACK" Bundle.steD)).before args s = true) :
    ∃ (cs : Cell) (u v : RefV), W.heap[T.aS]? = some cs ∧ T.aS < s.heap.size ∧ cs.vm ≠ .unknown ∧ cs.slots[T.fUnassigned.slot]? = some u.v ∧ cs.slots[T.fSentinel.slot]? = some v.v := by
  obtain ⟨cs, h1, h2⟩ := Y.statics
  have hlt := (Array.getElem?_eq_some_iff.mp h1).1
  obtain ⟨u, hu⟩ := Cond.staticRefV (args := args) (first := s) (o := none) (idx := []) Y.unassigned L.unassignedStatic L.statics h1 h2 hU
  obtain ⟨v, hv⟩ := Cond.staticRefV (args := args) (first := s) (o := none) (idx := []) Y.sentinel L.sentinelStatic L.statics h1 h2 hN
  refine ⟨cs, u, v, ((vx_frame (U := W) X.same).2 _ hlt (fun z hz => nomatch hz)).trans h1, hlt, fun z => ?_, hu, hv⟩
  rw [z] at h2
  cases h2
/-- no trace is on the exception yet -/
theorem nx_skip {T : ThrowableC} {Z : Init0T} {pl : Platform} (hpl : pl.magicAccessors = ({} : Platform).magicAccessors) (L : T.Links pl s) (Y : Bundle.Ties T Z s) {x : ClassId} {k : Class} (hx : s.vm.findClass nxE = some x) (hk : s.vm.classes[x]? = some k)
    (hw : ∀ w ∈ nx_w, w.before args s = true) (hl : ∀ w ∈ nx_f.map (fun q => Cond.lays nxE Bundle.tN q.1 q.2), w.before args s = true) (fC : nx_Fd s x k T.fCause) (fS : nx_Fd s x k T.fStack) (fP : nx_Fd s x k T.fSupp) (a : Addr) (u v : RefV) (t : ThreadId) :
    SkipFacts T pl s (fun z => z) u ((preparedCellV T.toThrowableT (freshCell x k) a u v).withEntry t) := by
  obtain ⟨ci, i, f, b1, b2, b3, b4, -, b5, b6, b7⟩ := Cond.ownField (args := args) (first := s) (o := none) (idx := []) (t := .object "java/lang/Object") Y.found L.cls (by decide +kernel) (hw _ (List.mem_of_getElem? (i := 4) rfl)) (hw _ (List.mem_of_getElem? (i := 5) rfl)) pl hpl
  have fB : nx_Fd s x k f := nx_Fd.of hl (q := ("backtrace", "Ljava/lang/Object;")) (List.mem_of_getElem? (i := 4) rfl) hx hk b7
  have n1 : T.fCause.name ≠ f.name := by rw [b5, Y.causeName]; decide
  have n2 : T.fStack.name ≠ f.name := by rw [b5, Y.stackName]; decide
  have n3 : T.fSupp.name ≠ f.name := by rw [b5, Y.suppName]; decide
  have hnull : (preparedCellV T.toThrowableT (freshCell x k) a u v).slots[f.slot]? = some .null := by
    refine (nx_keep (fP.ne fB n3)).trans ((nx_keep (fS.ne fB n2)).trans ((nx_keep (fC.ne fB n1)).trans ?_))
    rw [fresh_default fB.1, b6]
    rfl
  exact ⟨⟨ci, i, f⟩, ⟨b1, b2, b3, b4⟩, hnull, fun _ _ => rfl⟩
set_option maxHeartbeats 1000000 in
theorem nx_ctor (X : Stand p l e R s m₀ args below meth c W [] cells slots) (hexec : p.tables.exec = Jvm.exec) (htr : e.platform.stackTraces = false) (hown : s.vm.findClass "CrossedFavours" = some m₀.cls) (h : ∀ w ∈ nx_all, w.before args s = true)
    {a q : Addr} {x : ClassId} {k : Class} (hx : s.vm.findClass nxE = some x) (hk : s.vm.classes[x]? = some k) (hcell : W.heap[a]? = some (freshCell x k)) (hnew : s.heap.size ≤ a)
    {g : JFrame} {rest : List Value} (hg : g.method = m₀) (hz : g.locals.size = c.maxLocals) (hfree : g.locked = none ∧ g.entered = []) (hst : g.stack = .ref q :: .ref a :: .ref a :: rest)
    (hd : decode c.code g.pc = .ok (.invokespecial 165, 3)) (hd' : decode c.code (g.pc + 3) = .ok (.athrow, 1)) (hno : ∀ y ∈ c.exceptionTable.toList, False)
    (hRf : 5 < R.frames) (hRl : 2 * g.monitorRoom + ((Value.ref a :: rest).map fun v => v.category).sum + 81 ≤ R.locals) (hlocks : meth.locks = false) :
    ∃ U : State, Steps p.tables e below (W.setTop g) U ∧ U.status = .running ∧ Ended U below (.threw a) ∧ s.WarmedH U.vm ∧ s.sameButNew ({ U with vm := s.vm } : State) [] cells slots ∧ U.heap.size = W.heap.size ∧ ∃ ce, U.heap[a]? = some ce ∧ ce.cls = x ∧ ce.vm = .none := by
  have hP := X.admits.platform
  have hpl : e.platform.magicAccessors = ({} : Platform).magicAccessors := by rw [hP]
  have hw : ∀ w ∈ nx_w, w.before args s = true := fun w m => h w (List.mem_append_left _ m)
  have hr := fun w m => h w (List.mem_append_right _ m)
  have hl := fun w m => hr w (List.mem_append_left _ m)
  have hr2 := fun w m => hr w (List.mem_append_right _ m)
  have hp1 := fun w m => hr2 w (List.mem_append_left _ m)
  have hr3 := fun w m => hr2 w (List.mem_append_right _ m)
  have hp2 := fun w m => hr3 w (List.mem_append_left _ m)
  have hr4 := fun w m => hr3 w (List.mem_append_right _ m)
  obtain ⟨T, Z0, L, -, Y⟩ := ThrowableC.of_atoms (pl := e.platform) (by rw [hP]) (by rw [hP]) hpl (fun w m => hr4 w (List.mem_append_right _ m))
  obtain ⟨Z, M, LZ, LM, hZ⟩ := Init0T.ofS_atoms hpl L Y (fun w m => hr4 w (List.mem_append_left _ m))
  obtain ⟨Ps, hn, hLs, hto, hfirst⟩ := nx_chain hpl hZ hp1 hp2
  obtain ⟨x', k', i1, i2, hord, -⟩ := Cond.instantiable_spec (args := args) (first := s) (o := none) (idx := []) (hw _ (List.mem_of_getElem? (i := 0) rfl))
  rw [hx] at i1
  rw [← Option.some.inj i1, hk] at i2
  rw [← Option.some.inj i2] at hord
  obtain ⟨iM, hM⟩ := Y.msg
  have fC := nx_Fd.of hl (q := ("cause", "Ljava/lang/Throwable;")) (List.mem_of_getElem? (i := 0) rfl) hx hk Y.cause
  have fS := nx_Fd.of hl (q := ("stackTrace", Bundle.steD)) (List.mem_of_getElem? (i := 1) rfl) hx hk Y.stack
  have fP := nx_Fd.of hl (q := ("suppressedExceptions", Bundle.listD)) (List.mem_of_getElem? (i := 2) rfl) hx hk Y.supp
  have fM := nx_Fd.of hl (q := ("detailMessage", "Ljava/lang/String;")) (List.mem_of_getElem? (i := 3) rfl) hx hk hM
  obtain ⟨cs, u, v, hcs, hlt, hkn, hu, hv⟩ := nx_stat X L Y (hw _ (List.mem_of_getElem? (i := 6) rfl)) (hw _ (List.mem_of_getElem? (i := 7) rfl))
  have take : ∀ {f : Field} {y : Value}, nx_Fd s x k f → fits f.type y = true → Takes s (freshCell x k) f y := fun hf hy => Takes.of_laid hk hord hf.1 hy
  obtain ⟨tm, mC, cC, kC, vm1, htm, -, -, -, -, -, -, -, hW1, go1⟩ := Steps.initColdS (tb := p.tables) (e := e) (below := below) X.here hexec X.warmed hpl hown (t := Bundle.initS nxE) (bytes := nx_by) (maxL := 2) rfl rfl (by decide +kernel)
    (hw _ (List.mem_of_getElem? (i := 1) rfl)) (hp1 _ (List.mem_of_getElem? (i := 0) rfl)) (hp1 _ (List.mem_of_getElem? (i := 1) rfl)) hg hst hd
  have etm : tm = firstOf (Z.m T.toThrowableT) (Ps.map (·.toPassT)) := Option.some.inj (htm.symm.trans hfirst)
  obtain ⟨vm2, X2, go2⟩ := (X.noted hW1).ctorMessageOffV hexec (g := { g with stack := .ref a :: rest }) hg hz T L Z LZ M LM Ps hLs hto (u0 := u) (sen := v) (self := a) (msg := .ref q) rfl hcell (fun _ => by simp) (by simp) rfl rfl
    (nx_sel X.admits rfl (hw _ (List.mem_of_getElem? (i := 3) rfl)) hx Y.fill0) (nx_sel X.admits rfl (hw _ (List.mem_of_getElem? (i := 2) rfl)) hx Y.fill) hcs (fun z => absurd hlt (by rw [z]; exact Nat.not_lt.mpr hnew)) hkn hu hv
    (take fC (by rw [Y.causeType]; rfl)) (take fS (by rw [Y.stackType]; exact fits_refV_array _ u)) (take fP (by rw [Y.suppType]; exact fits_refV_object _ v)) (take fM (by rw [Y.msgType]; rfl)) Y.objLocals
    (nx_skip hpl L Y hx hk hw hl fC fS fP a u v _) htr [] hd (by rw [hn]; exact hRf) (by rw [hn]; exact hRl)
  obtain ⟨go3, e1, e2, e3, e4⟩ := X2.athrowLeaves hexec (g := { g with stack := .ref a :: rest, pc := g.pc + 3 }) hg hfree.1 hfree.2 (fun y hy => (hno y hy).elim) (a := a) (rest := rest) rfl hd' hlocks
  have hin : a < ((W.setVm vm1).setVm vm2).heap.size := (Array.getElem?_eq_some_iff.mp hcell).1
  refine ⟨_, go1 _ fun acts => ?_, e1, e2, e3, e4.weaken (fun y hy hb => ?_) (Nat.le_refl _) (Nat.le_refl _), ?_, _, heapAt_setCell_self _ hin, rfl, rfl⟩
  · rw [etm, doInvoke_state]
    exact go2 _ go3
  · have hb2 : y.base = a := by
      rw [List.nil_append] at hy
      repeat first
        | (cases hy; done)
        | (rcases List.mem_cons.mp hy with e | hy; · rw [e])
    exact absurd hb (by rw [hb2]; exact Nat.not_lt.mpr hnew)
  · simp [State.setFrames, State.setCell]
end NXA
