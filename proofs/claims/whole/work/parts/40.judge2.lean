/-! a second judgement: counters and room told, any end Z; P0: what the walk knows of its start -/
def xa_A2 (G : xa_G) (M : xa_M) (P0 : State → Code → Prop) (p : Program) (s : State) (m : MethodId) (args : Array Value) (meth : Method) (c : Code) : Prop :=
  p.tables.exec = Jvm.exec ∧ c.code = M.2.1 ∧ meth.sig.returnType = M.2.2.2 ∧ c.maxLocals = M.2.2.1 ∧ s.vm.findClass M.1.cls = some m.cls ∧ meth.locks = false ∧ P0 s c ∧ (∀ w ∈ gws, w.before args s = true) ∧ xa_En G s
def xa_L (G : xa_G) (M : xa_M) (P0 : State → Code → Prop) (R : Room) (cn sl pc : Nat) (loc : List (Option Value)) (st : List Value) (h : xa_H) (Z : State → List Frame → Array Value → State → Prop) : Prop :=
  ∀ (p : Program) (e : Env) (s : State) (m : MethodId) (args : Array Value) (below : List Frame) (meth : Method) (c : Code) (H : Heap) (locs : List Loc) (ls : Array Slot),
    xa_A2 G M P0 p s m args meth c → xa_Wd G h H → (∀ q ∈ locs, xa_b G ≤ q.base) → xa_lh G ls M.2.2.1 loc → W p G.1 e R s m args below meth c H locs cn sl (Z s below args) (F0 m pc ls (st.map (xa_sh G)))
section YA
variable {G : xa_G} {M : xa_M} {P0 : State → Code → Prop} {R : Room} {cn sl pc : Nat} {loc loc' loc2 : List (Option Value)} {st : List Value} {h h2 : xa_H} {Z : State → List Frame → Array Value → State → Prop}
theorem xl_go {pc2 : Nat} {loc2 : List (Option Value)} {st2 : List Value} (k : xa_L G M P0 R cn sl pc2 loc2 st2 h Z)
    (f : ∀ (p : Program) (e : Env) (s : State) (m : MethodId) (args : Array Value) (below : List Frame) (meth : Method) (c : Code) (H : Heap) (locs : List Loc) (Q : State → Prop) (ls : Array Slot), xa_A2 G M P0 p s m args meth c → xa_lh G ls M.2.2.1 loc → xa_Wd G h H →
      (∀ ls2 : Array Slot, xa_lh G ls2 M.2.2.1 loc2 → W p G.1 e R s m args below meth c H locs cn sl Q (F0 m pc2 ls2 (st2.map (xa_sh G)))) → W p G.1 e R s m args below meth c H locs cn sl Q (F0 m pc ls (st.map (xa_sh G)))) : xa_L G M P0 R cn sl pc loc st h Z :=
  fun p e s m args below meth c H locs ls A hW hL hl => f p e s m args below meth c H locs _ ls A hl hW (fun ls2 hl2 => k p e s m args below meth c H locs ls2 A hW hL hl2)
theorem xl_go1 {pc2 : Nat} {st2 : List Value} (k : xa_L G M P0 R cn sl pc2 loc st2 h Z)
    (f : ∀ (p : Program) (e : Env) (s : State) (m : MethodId) (args : Array Value) (below : List Frame) (meth : Method) (c : Code) (H : Heap) (locs : List Loc) (Q : State → Prop) (ls : Array Slot), xa_A2 G M P0 p s m args meth c → xa_lh G ls M.2.2.1 loc → xa_Wd G h H →
      W p G.1 e R s m args below meth c H locs cn sl Q (F0 m pc2 ls (st2.map (xa_sh G))) → W p G.1 e R s m args below meth c H locs cn sl Q (F0 m pc ls (st.map (xa_sh G)))) : xa_L G M P0 R cn sl pc loc st h Z :=
  xl_go k (fun p e s m args below meth c H locs Q ls A hl hW kk => f p e s m args below meth c H locs Q ls A hl hW (kk ls hl))
theorem xl_goW {pc2 : Nat} {st2 : List Value} (k : xa_L G M P0 R cn sl pc2 loc st2 h2 Z) (hn : h2.2 = h.2)
    (f : ∀ (p : Program) (e : Env) (s : State) (m : MethodId) (args : Array Value) (below : List Frame) (meth : Method) (c : Code) (H : Heap) (locs : List Loc) (Q : State → Prop) (ls : Array Slot), xa_A2 G M P0 p s m args meth c → xa_lh G ls M.2.2.1 loc → xa_Wd G h H → (∀ q ∈ locs, xa_b G ≤ q.base) →
      (∀ (H1 : Heap) (l1 : Loc), xa_Wd G h2 H1 → xa_b G ≤ l1.base → W p G.1 e R s m args below meth c H1 (locs ++ [l1]) cn sl Q (F0 m pc2 ls (st2.map (xa_sh G)))) → W p G.1 e R s m args below meth c H locs cn sl Q (F0 m pc ls (st.map (xa_sh G)))) : xa_L G M P0 R cn sl pc loc st h Z := by
  intro p e s m args below meth c H locs ls A hW hL hl
  refine f p e s m args below meth c H locs _ ls A hl hW hL (fun H1 l1 hW1 hl1 => ?_)
  refine k p e s m args below meth c H1 (locs ++ [l1]) ls A hW1 (fun q hq => ?_) hl
  rcases List.mem_append.mp hq with z | z
  · exact hL q z
  · rw [List.mem_singleton.mp z]
    exact hl1
theorem xl_weak (hl : xa_le loc loc2) (k : xa_L G M P0 R cn sl pc loc st h Z) : xa_L G M P0 R cn sl pc loc2 st h Z :=
  fun p e s m args below meth c H locs ls A hW hL hl2 => k p e s m args below meth c H locs ls A hW hL ⟨hl2.1, hl2.2.1, fun i v hi => hl2.2.2 i v (xa_le_at _ _ hl i v hi)⟩
theorem xl_widen {cn2 sl2 : Nat} (h1 : cn ≤ cn2) (h2 : sl ≤ sl2) (k : xa_L G M P0 R cn2 sl2 pc loc st h Z) : xa_L G M P0 R cn sl pc loc st h Z :=
  fun p e s m args below meth c H locs ls A hW hL hl => W.widen h1 h2 (k p e s m args below meth c H locs ls A hW hL hl)
theorem l_iconst {n : Int} {v : Int32} (hd : decode M.2.1 pc = .ok (.iconst n, 1)) (hv : Int32.ofInt n = v) (k : xa_L G M P0 R cn sl (pc + 1) loc (.int v :: st) h Z) : xa_L G M P0 R cn sl pc loc st h Z :=
  xl_go1 k (fun _ _ _ _ _ _ _ _ _ _ _ _ A _ _ kk => lv_iconst A.1 A.2.1 hd hv kk)
theorem l_bipush {n : Int} {v : Int32} (hd : decode M.2.1 pc = .ok (.bipush n, 2)) (hv : (Int8.ofInt n).toInt32 = v) (k : xa_L G M P0 R cn sl (pc + 2) loc (.int v :: st) h Z) : xa_L G M P0 R cn sl pc loc st h Z :=
  xl_go1 k (fun _ _ _ _ _ _ _ _ _ _ _ _ A _ _ kk => lv_bipush A.1 A.2.1 hd hv kk)
theorem l_sipush {n : Int} {v : Int32} (hd : decode M.2.1 pc = .ok (.sipush n, 3)) (hv : (Int16.ofInt n).toInt32 = v) (k : xa_L G M P0 R cn sl (pc + 3) loc (.int v :: st) h Z) : xa_L G M P0 R cn sl pc loc st h Z :=
  xl_go1 k (fun _ _ _ _ _ _ _ _ _ _ _ _ A _ _ kk => lv_sipush A.1 A.2.1 hd hv kk)
theorem l_lconst {n : Fin 2} {v : Int64} (hd : decode M.2.1 pc = .ok (.lconst n, 1)) (hv : Int64.ofNat (n : Nat) = v) (k : xa_L G M P0 R cn sl (pc + 1) loc (.long v :: st) h Z) : xa_L G M P0 R cn sl pc loc st h Z :=
  xl_go1 k (fun _ _ _ _ _ _ _ _ _ _ _ _ A _ _ kk => lv_lconst A.1 A.2.1 hd hv kk)
theorem l_ldc2 {own : String} {i : Nat} {v : Int64} (hd : decode M.2.1 pc = .ok (.ldc2_w i, 3)) (ho : M.1.cls = own) (hw : Cond.constantLong own i v ∈ gws) (k : xa_L G M P0 R cn sl (pc + 3) loc (.long v :: st) h Z) : xa_L G M P0 R cn sl pc loc st h Z :=
  xl_go1 k (fun _ _ _ _ _ _ _ _ _ _ _ _ A _ _ kk => lv_ldc2 A.1 A.2.1 (own := own) (by rw [← ho]; exact A.2.2.2.2.1) (A.2.2.2.2.2.2.2.1 _ hw) hd kk)
theorem l_iload_n {i : Fin 4} {x : Int32} (hd : decode M.2.1 pc = .ok (.iload_n i, 1)) (hl : loc[(i : Nat)]? = some (some (.int x))) (k : xa_L G M P0 R cn sl (pc + 1) loc (.int x :: st) h Z) : xa_L G M P0 R cn sl pc loc st h Z :=
  xl_go1 k (fun _ _ _ _ _ _ _ _ _ _ _ _ A L _ kk => lv_iload_n A.1 A.2.1 hd rfl (L.2.2 _ _ hl) kk)
theorem l_iload {i : Nat} {x : Int32} (hd : decode M.2.1 pc = .ok (.iload i, 2)) (hl : loc[i]? = some (some (.int x))) (k : xa_L G M P0 R cn sl (pc + 2) loc (.int x :: st) h Z) : xa_L G M P0 R cn sl pc loc st h Z :=
  xl_go1 k (fun _ _ _ _ _ _ _ _ _ _ _ _ A L _ kk => lv_iload A.1 A.2.1 hd (L.2.2 _ _ hl) kk)
theorem l_lload_n {i : Fin 4} {x : Int64} (hd : decode M.2.1 pc = .ok (.lload_n i, 1)) (hl : loc[(i : Nat)]? = some (some (.long x))) (k : xa_L G M P0 R cn sl (pc + 1) loc (.long x :: st) h Z) : xa_L G M P0 R cn sl pc loc st h Z :=
  xl_go1 k (fun _ _ _ _ _ _ _ _ _ _ _ _ A L _ kk => lv_lload_n A.1 A.2.1 hd rfl (L.2.2 _ _ hl) kk)
theorem l_lload {i : Nat} {x : Int64} (hd : decode M.2.1 pc = .ok (.lload i, 2)) (hl : loc[i]? = some (some (.long x))) (k : xa_L G M P0 R cn sl (pc + 2) loc (.long x :: st) h Z) : xa_L G M P0 R cn sl pc loc st h Z :=
  xl_go1 k (fun _ _ _ _ _ _ _ _ _ _ _ _ A L _ kk => lv_lload A.1 A.2.1 hd (L.2.2 _ _ hl) kk)
theorem l_aload_n {i : Fin 4} {x : Nat} (hd : decode M.2.1 pc = .ok (.aload_n i, 1)) (hl : loc[(i : Nat)]? = some (some (.ref x))) (k : xa_L G M P0 R cn sl (pc + 1) loc (.ref x :: st) h Z) : xa_L G M P0 R cn sl pc loc st h Z :=
  xl_go1 k (fun _ _ _ _ _ _ _ _ _ _ _ _ A L _ kk => lv_aload_n A.1 A.2.1 hd rfl (L.2.2 _ _ hl) kk)
theorem l_aload {i : Nat} {x : Nat} (hd : decode M.2.1 pc = .ok (.aload i, 2)) (hl : loc[i]? = some (some (.ref x))) (k : xa_L G M P0 R cn sl (pc + 2) loc (.ref x :: st) h Z) : xa_L G M P0 R cn sl pc loc st h Z :=
  xl_go1 k (fun _ _ _ _ _ _ _ _ _ _ _ _ A L _ kk => lv_aload A.1 A.2.1 hd (L.2.2 _ _ hl) kk)
theorem l_iadd {x y : Int32} (hd : decode M.2.1 pc = .ok (.iadd, 1)) (k : xa_L G M P0 R cn sl (pc + 1) loc (.int (x + y) :: st) h Z) : xa_L G M P0 R cn sl pc loc (.int y :: .int x :: st) h Z :=
  xl_go1 k (fun _ _ _ _ _ _ _ _ _ _ _ _ A _ _ kk => lv_iadd A.1 A.2.1 hd kk)
theorem l_isub {x y : Int32} (hd : decode M.2.1 pc = .ok (.isub, 1)) (k : xa_L G M P0 R cn sl (pc + 1) loc (.int (x - y) :: st) h Z) : xa_L G M P0 R cn sl pc loc (.int y :: .int x :: st) h Z :=
  xl_go1 k (fun _ _ _ _ _ _ _ _ _ _ _ _ A _ _ kk => lv_isub A.1 A.2.1 hd kk)
theorem l_iand {x y : Int32} (hd : decode M.2.1 pc = .ok (.iand, 1)) (k : xa_L G M P0 R cn sl (pc + 1) loc (.int (x &&& y) :: st) h Z) : xa_L G M P0 R cn sl pc loc (.int y :: .int x :: st) h Z :=
  xl_go1 k (fun _ _ _ _ _ _ _ _ _ _ _ _ A _ _ kk => lv_iand A.1 A.2.1 hd kk)
theorem l_land {x y : Int64} (hd : decode M.2.1 pc = .ok (.land, 1)) (k : xa_L G M P0 R cn sl (pc + 1) loc (.long (x &&& y) :: st) h Z) : xa_L G M P0 R cn sl pc loc (.long y :: .long x :: st) h Z :=
  xl_go1 k (fun _ _ _ _ _ _ _ _ _ _ _ _ A _ _ kk => lv_land A.1 A.2.1 hd kk)
theorem l_lor {x y : Int64} (hd : decode M.2.1 pc = .ok (.lor, 1)) (k : xa_L G M P0 R cn sl (pc + 1) loc (.long (x ||| y) :: st) h Z) : xa_L G M P0 R cn sl pc loc (.long y :: .long x :: st) h Z :=
  xl_go1 k (fun _ _ _ _ _ _ _ _ _ _ _ _ A _ _ kk => lv_lor A.1 A.2.1 hd kk)
theorem l_lshl {x : Int64} {y : Int32} (hd : decode M.2.1 pc = .ok (.lshl, 1)) (k : xa_L G M P0 R cn sl (pc + 1) loc (.long (x <<< (y.toInt64 &&& 63)) :: st) h Z) : xa_L G M P0 R cn sl pc loc (.int y :: .long x :: st) h Z :=
  xl_go1 k (fun _ _ _ _ _ _ _ _ _ _ _ _ A _ _ kk => lv_lshl A.1 A.2.1 hd rfl kk)
theorem l_i2l {x : Int32} (hd : decode M.2.1 pc = .ok (.i2l, 1)) (k : xa_L G M P0 R cn sl (pc + 1) loc (.long (x.toInt64) :: st) h Z) : xa_L G M P0 R cn sl pc loc (.int x :: st) h Z :=
  xl_go1 k (fun _ _ _ _ _ _ _ _ _ _ _ _ A _ _ kk => lv_i2l A.1 A.2.1 hd rfl kk)
theorem l_lcmp {x y : Int64} (hd : decode M.2.1 pc = .ok (.lcmp, 1)) (k : xa_L G M P0 R cn sl (pc + 1) loc (.int (lg_cmp x y) :: st) h Z) : xa_L G M P0 R cn sl pc loc (.long y :: .long x :: st) h Z :=
  xl_go1 k (fun _ _ _ _ _ _ _ _ _ _ _ _ A _ _ kk => W.lcmp A.1 A.2.1 hd kk)
theorem l_dup {v : Value} (hd : decode M.2.1 pc = .ok (.dup, 1)) (hc : v.category = 1) (k : xa_L G M P0 R cn sl (pc + 1) loc (v :: v :: st) h Z) : xa_L G M P0 R cn sl pc loc (v :: st) h Z :=
  xl_go1 k (fun _ _ _ _ _ _ _ _ _ _ _ _ A _ _ kk => lv_dup A.1 A.2.1 hd ((xa_cat _ _).trans hc) kk)
theorem l_pop {v : Value} (hd : decode M.2.1 pc = .ok (.pop, 1)) (hc : v.category = 1) (k : xa_L G M P0 R cn sl (pc + 1) loc st h Z) : xa_L G M P0 R cn sl pc loc (v :: st) h Z :=
  xl_go1 k (fun _ _ _ _ _ _ _ _ _ _ _ _ A _ _ kk => lv_pop A.1 A.2.1 hd ((xa_cat _ _).trans hc) kk)
theorem l_goto {off : Int} {tgt : Nat} (hd : decode M.2.1 pc = .ok (.goto off, 3)) (ht : (pc : Int) + off = (tgt : Int)) (k : xa_L G M P0 R cn sl tgt loc st h Z) : xa_L G M P0 R cn sl pc loc st h Z :=
  xl_go1 k (fun _ _ _ _ _ _ _ _ _ _ _ _ A _ _ kk => lv_goto A.1 A.2.1 hd ht kk)
theorem l_icmp_eq {x y : Int32} {off : Int} {tgt : Nat} (hd : decode M.2.1 pc = .ok (.if_icmp .eq off, 3)) (ht : (pc : Int) + off = (tgt : Int)) (kt : x = y → xa_L G M P0 R cn sl tgt loc st h Z) (kf : ¬ x = y → xa_L G M P0 R cn sl (pc + 3) loc st h Z) : xa_L G M P0 R cn sl pc loc (.int y :: .int x :: st) h Z := by
  by_cases q : x = y
  · exact xl_go1 (kt q) (fun _ _ _ _ _ _ _ _ _ _ _ _ A _ _ kk => lv_icmp_eq A.1 A.2.1 hd ht (fun _ => kk) (fun z => absurd q z))
  · exact xl_go1 (kf q) (fun _ _ _ _ _ _ _ _ _ _ _ _ A _ _ kk => lv_icmp_eq A.1 A.2.1 hd ht (fun z => absurd z q) (fun _ => kk))
theorem l_icmp_ne {x y : Int32} {off : Int} {tgt : Nat} (hd : decode M.2.1 pc = .ok (.if_icmp .ne off, 3)) (ht : (pc : Int) + off = (tgt : Int)) (kt : ¬ x = y → xa_L G M P0 R cn sl tgt loc st h Z) (kf : x = y → xa_L G M P0 R cn sl (pc + 3) loc st h Z) : xa_L G M P0 R cn sl pc loc (.int y :: .int x :: st) h Z := by
  by_cases q : x = y
  · exact xl_go1 (kf q) (fun _ _ _ _ _ _ _ _ _ _ _ _ A _ _ kk => lv_icmp_ne A.1 A.2.1 hd ht (fun z => absurd q z) (fun _ => kk))
  · exact xl_go1 (kt q) (fun _ _ _ _ _ _ _ _ _ _ _ _ A _ _ kk => lv_icmp_ne A.1 A.2.1 hd ht (fun _ => kk) (fun z => absurd z q))
theorem l_icmp_lt {x y : Int32} {off : Int} {tgt : Nat} (hd : decode M.2.1 pc = .ok (.if_icmp .lt off, 3)) (ht : (pc : Int) + off = (tgt : Int)) (kt : x < y → xa_L G M P0 R cn sl tgt loc st h Z) (kf : ¬ x < y → xa_L G M P0 R cn sl (pc + 3) loc st h Z) : xa_L G M P0 R cn sl pc loc (.int y :: .int x :: st) h Z := by
  by_cases q : x < y
  · exact xl_go1 (kt q) (fun _ _ _ _ _ _ _ _ _ _ _ _ A _ _ kk => lv_icmp_lt A.1 A.2.1 hd ht (fun _ => kk) (fun z => absurd q z))
  · exact xl_go1 (kf q) (fun _ _ _ _ _ _ _ _ _ _ _ _ A _ _ kk => lv_icmp_lt A.1 A.2.1 hd ht (fun z => absurd z q) (fun _ => kk))
theorem l_icmp_ge {x y : Int32} {off : Int} {tgt : Nat} (hd : decode M.2.1 pc = .ok (.if_icmp .ge off, 3)) (ht : (pc : Int) + off = (tgt : Int)) (kt : y ≤ x → xa_L G M P0 R cn sl tgt loc st h Z) (kf : ¬ y ≤ x → xa_L G M P0 R cn sl (pc + 3) loc st h Z) : xa_L G M P0 R cn sl pc loc (.int y :: .int x :: st) h Z := by
  by_cases q : y ≤ x
  · exact xl_go1 (kt q) (fun _ _ _ _ _ _ _ _ _ _ _ _ A _ _ kk => lv_icmp_ge A.1 A.2.1 hd ht (fun _ => kk) (fun z => absurd q z))
  · exact xl_go1 (kf q) (fun _ _ _ _ _ _ _ _ _ _ _ _ A _ _ kk => lv_icmp_ge A.1 A.2.1 hd ht (fun z => absurd z q) (fun _ => kk))
theorem l_icmp_gt {x y : Int32} {off : Int} {tgt : Nat} (hd : decode M.2.1 pc = .ok (.if_icmp .gt off, 3)) (ht : (pc : Int) + off = (tgt : Int)) (kt : y < x → xa_L G M P0 R cn sl tgt loc st h Z) (kf : ¬ y < x → xa_L G M P0 R cn sl (pc + 3) loc st h Z) : xa_L G M P0 R cn sl pc loc (.int y :: .int x :: st) h Z := by
  by_cases q : y < x
  · exact xl_go1 (kt q) (fun _ _ _ _ _ _ _ _ _ _ _ _ A _ _ kk => lv_icmp_gt A.1 A.2.1 hd ht (fun _ => kk) (fun z => absurd q z))
  · exact xl_go1 (kf q) (fun _ _ _ _ _ _ _ _ _ _ _ _ A _ _ kk => lv_icmp_gt A.1 A.2.1 hd ht (fun z => absurd z q) (fun _ => kk))
theorem l_icmp_le {x y : Int32} {off : Int} {tgt : Nat} (hd : decode M.2.1 pc = .ok (.if_icmp .le off, 3)) (ht : (pc : Int) + off = (tgt : Int)) (kt : x ≤ y → xa_L G M P0 R cn sl tgt loc st h Z) (kf : ¬ x ≤ y → xa_L G M P0 R cn sl (pc + 3) loc st h Z) : xa_L G M P0 R cn sl pc loc (.int y :: .int x :: st) h Z := by
  by_cases q : x ≤ y
  · exact xl_go1 (kt q) (fun _ _ _ _ _ _ _ _ _ _ _ _ A _ _ kk => lv_icmp_le A.1 A.2.1 hd ht (fun _ => kk) (fun z => absurd q z))
  · exact xl_go1 (kf q) (fun _ _ _ _ _ _ _ _ _ _ _ _ A _ _ kk => lv_icmp_le A.1 A.2.1 hd ht (fun z => absurd z q) (fun _ => kk))
theorem l_if_eq {x : Int32} {off : Int} {tgt : Nat} (hd : decode M.2.1 pc = .ok (.ifCond .eq off, 3)) (ht : (pc : Int) + off = (tgt : Int)) (kt : x = 0 → xa_L G M P0 R cn sl tgt loc st h Z) (kf : ¬ x = 0 → xa_L G M P0 R cn sl (pc + 3) loc st h Z) : xa_L G M P0 R cn sl pc loc (.int x :: st) h Z := by
  by_cases q : x = 0
  · exact xl_go1 (kt q) (fun _ _ _ _ _ _ _ _ _ _ _ _ A _ _ kk => lv_if_eq A.1 A.2.1 hd ht (fun _ => kk) (fun z => absurd q z))
  · exact xl_go1 (kf q) (fun _ _ _ _ _ _ _ _ _ _ _ _ A _ _ kk => lv_if_eq A.1 A.2.1 hd ht (fun z => absurd z q) (fun _ => kk))
theorem l_if_ne {x : Int32} {off : Int} {tgt : Nat} (hd : decode M.2.1 pc = .ok (.ifCond .ne off, 3)) (ht : (pc : Int) + off = (tgt : Int)) (kt : ¬ x = 0 → xa_L G M P0 R cn sl tgt loc st h Z) (kf : x = 0 → xa_L G M P0 R cn sl (pc + 3) loc st h Z) : xa_L G M P0 R cn sl pc loc (.int x :: st) h Z := by
  by_cases q : x = 0
  · exact xl_go1 (kf q) (fun _ _ _ _ _ _ _ _ _ _ _ _ A _ _ kk => lv_if_ne A.1 A.2.1 hd ht (fun z => absurd q z) (fun _ => kk))
  · exact xl_go1 (kt q) (fun _ _ _ _ _ _ _ _ _ _ _ _ A _ _ kk => lv_if_ne A.1 A.2.1 hd ht (fun _ => kk) (fun z => absurd z q))
theorem l_if_lt {x : Int32} {off : Int} {tgt : Nat} (hd : decode M.2.1 pc = .ok (.ifCond .lt off, 3)) (ht : (pc : Int) + off = (tgt : Int)) (kt : x < 0 → xa_L G M P0 R cn sl tgt loc st h Z) (kf : ¬ x < 0 → xa_L G M P0 R cn sl (pc + 3) loc st h Z) : xa_L G M P0 R cn sl pc loc (.int x :: st) h Z := by
  by_cases q : x < 0
  · exact xl_go1 (kt q) (fun _ _ _ _ _ _ _ _ _ _ _ _ A _ _ kk => lv_if_lt A.1 A.2.1 hd ht (fun _ => kk) (fun z => absurd q z))
  · exact xl_go1 (kf q) (fun _ _ _ _ _ _ _ _ _ _ _ _ A _ _ kk => lv_if_lt A.1 A.2.1 hd ht (fun z => absurd z q) (fun _ => kk))
theorem l_if_ge {x : Int32} {off : Int} {tgt : Nat} (hd : decode M.2.1 pc = .ok (.ifCond .ge off, 3)) (ht : (pc : Int) + off = (tgt : Int)) (kt : 0 ≤ x → xa_L G M P0 R cn sl tgt loc st h Z) (kf : ¬ 0 ≤ x → xa_L G M P0 R cn sl (pc + 3) loc st h Z) : xa_L G M P0 R cn sl pc loc (.int x :: st) h Z := by
  by_cases q : 0 ≤ x
  · exact xl_go1 (kt q) (fun _ _ _ _ _ _ _ _ _ _ _ _ A _ _ kk => lv_if_ge A.1 A.2.1 hd ht (fun _ => kk) (fun z => absurd q z))
  · exact xl_go1 (kf q) (fun _ _ _ _ _ _ _ _ _ _ _ _ A _ _ kk => lv_if_ge A.1 A.2.1 hd ht (fun z => absurd z q) (fun _ => kk))
theorem l_if_gt {x : Int32} {off : Int} {tgt : Nat} (hd : decode M.2.1 pc = .ok (.ifCond .gt off, 3)) (ht : (pc : Int) + off = (tgt : Int)) (kt : 0 < x → xa_L G M P0 R cn sl tgt loc st h Z) (kf : ¬ 0 < x → xa_L G M P0 R cn sl (pc + 3) loc st h Z) : xa_L G M P0 R cn sl pc loc (.int x :: st) h Z := by
  by_cases q : 0 < x
  · exact xl_go1 (kt q) (fun _ _ _ _ _ _ _ _ _ _ _ _ A _ _ kk => lv_if_gt A.1 A.2.1 hd ht (fun _ => kk) (fun z => absurd q z))
  · exact xl_go1 (kf q) (fun _ _ _ _ _ _ _ _ _ _ _ _ A _ _ kk => lv_if_gt A.1 A.2.1 hd ht (fun z => absurd z q) (fun _ => kk))
theorem l_if_le {x : Int32} {off : Int} {tgt : Nat} (hd : decode M.2.1 pc = .ok (.ifCond .le off, 3)) (ht : (pc : Int) + off = (tgt : Int)) (kt : x ≤ 0 → xa_L G M P0 R cn sl tgt loc st h Z) (kf : ¬ x ≤ 0 → xa_L G M P0 R cn sl (pc + 3) loc st h Z) : xa_L G M P0 R cn sl pc loc (.int x :: st) h Z := by
  by_cases q : x ≤ 0
  · exact xl_go1 (kt q) (fun _ _ _ _ _ _ _ _ _ _ _ _ A _ _ kk => lv_if_le A.1 A.2.1 hd ht (fun _ => kk) (fun z => absurd q z))
  · exact xl_go1 (kf q) (fun _ _ _ _ _ _ _ _ _ _ _ _ A _ _ kk => lv_if_le A.1 A.2.1 hd ht (fun z => absurd z q) (fun _ => kk))
theorem l_tabIn {dflt lo hi : Int} {offs : Array Int} {len : Nat} {x : Int32} {off : Int} {tgt : Nat} (hd : decode M.2.1 pc = .ok (.tableswitch dflt lo hi offs, len)) (kk0 : Int32) (hx : x = kk0) (h1 : ¬ kk0.toInt < lo) (h2 : ¬ hi < kk0.toInt) (ho : offs[(kk0.toInt - lo).toNat]? = some off) (ht : (pc : Int) + off = (tgt : Int)) (k : xa_L G M P0 R cn sl tgt loc st h Z) : xa_L G M P0 R cn sl pc loc (.int x :: st) h Z := by
  subst hx
  exact xl_go1 k (fun _ _ _ _ _ _ _ _ _ _ _ _ A _ _ kk => lv_tableIn A.1 A.2.1 hd h1 h2 ho ht kk)
theorem l_tabOut {dflt lo hi : Int} {offs : Array Int} {len : Nat} {x : Int32} {tgt : Nat} (hd : decode M.2.1 pc = .ok (.tableswitch dflt lo hi offs, len)) (hx : x.toInt < lo ∨ hi < x.toInt) (ht : (pc : Int) + dflt = (tgt : Int)) (k : xa_L G M P0 R cn sl tgt loc st h Z) : xa_L G M P0 R cn sl pc loc (.int x :: st) h Z :=
  xl_go1 k (fun _ _ _ _ _ _ _ _ _ _ _ _ A _ _ kk => lv_tableOut A.1 A.2.1 hd hx ht kk)
theorem l_istore {i : Nat} {x : Int32} (hd : decode M.2.1 pc = .ok (.istore i, 2)) (hn : i < M.2.2.1) (hl : xa_st1 loc i (.int x) = loc') (k : xa_L G M P0 R cn sl (pc + 2) loc' st h Z) : xa_L G M P0 R cn sl pc loc (.int x :: st) h Z :=
  xl_go k (fun _ _ _ _ _ _ _ _ _ _ _ _ A L _ kk => lv_istore A.1 A.2.1 hd L.has hn rfl (fun ls' hl' => kk ls' (hl ▸ xa_lh.st1 hl')))
theorem l_istore_n {i : Nat} {j : Fin 4} (hj : (j : Nat) = i) {x : Int32} (hd : decode M.2.1 pc = .ok (.istore_n j, 1)) (hn : i < M.2.2.1) (hl : xa_st1 loc i (.int x) = loc') (k : xa_L G M P0 R cn sl (pc + 1) loc' st h Z) : xa_L G M P0 R cn sl pc loc (.int x :: st) h Z :=
  xl_go k (fun _ _ _ _ _ _ _ _ _ _ _ _ A L _ kk => lv_istore_n A.1 A.2.1 hd hj L.has hn rfl (fun ls' hl' => kk ls' (hl ▸ xa_lh.st1 hl')))
theorem l_astore {i : Nat} {x : Nat} (hd : decode M.2.1 pc = .ok (.astore i, 2)) (hn : i < M.2.2.1) (hl : xa_st1 loc i (.ref x) = loc') (k : xa_L G M P0 R cn sl (pc + 2) loc' st h Z) : xa_L G M P0 R cn sl pc loc (.ref x :: st) h Z :=
  xl_go k (fun _ _ _ _ _ _ _ _ _ _ _ _ A L _ kk => lv_astore A.1 A.2.1 hd L.has hn rfl (fun ls' hl' => kk ls' (hl ▸ xa_lh.st1 hl')))
theorem l_astore_n {i : Nat} {j : Fin 4} (hj : (j : Nat) = i) {x : Nat} (hd : decode M.2.1 pc = .ok (.astore_n j, 1)) (hn : i < M.2.2.1) (hl : xa_st1 loc i (.ref x) = loc') (k : xa_L G M P0 R cn sl (pc + 1) loc' st h Z) : xa_L G M P0 R cn sl pc loc (.ref x :: st) h Z :=
  xl_go k (fun _ _ _ _ _ _ _ _ _ _ _ _ A L _ kk => lv_astore_n A.1 A.2.1 hd hj L.has hn rfl (fun ls' hl' => kk ls' (hl ▸ xa_lh.st1 hl')))
theorem l_lstore {i : Nat} {x : Int64} (hd : decode M.2.1 pc = .ok (.lstore i, 2)) (hn : i + 1 < M.2.2.1) (hl : xa_st2 loc i (.long x) = loc') (k : xa_L G M P0 R cn sl (pc + 2) loc' st h Z) : xa_L G M P0 R cn sl pc loc (.long x :: st) h Z :=
  xl_go k (fun _ _ _ _ _ _ _ _ _ _ _ _ A L _ kk => lv_lstore A.1 A.2.1 hd L.has hn rfl (fun ls' hl' => kk ls' (hl ▸ xa_lh.st2 hl')))
theorem l_lstore_n {i : Nat} {j : Fin 4} (hj : (j : Nat) = i) {x : Int64} (hd : decode M.2.1 pc = .ok (.lstore_n j, 1)) (hn : i + 1 < M.2.2.1) (hl : xa_st2 loc i (.long x) = loc') (k : xa_L G M P0 R cn sl (pc + 1) loc' st h Z) : xa_L G M P0 R cn sl pc loc (.long x :: st) h Z :=
  xl_go k (fun _ _ _ _ _ _ _ _ _ _ _ _ A L _ kk => lv_lstore_n A.1 A.2.1 hd hj L.has hn rfl (fun ls' hl' => kk ls' (hl ▸ xa_lh.st2 hl')))
theorem l_iinc {i : Nat} {n : Int} {x v : Int32} (hd : decode M.2.1 pc = .ok (.iinc i n, 3)) (hx : loc[i]? = some (some (.int x))) (hv : x + Int32.ofInt n = v) (hn : i < M.2.2.1) (hl : xa_st1 loc i (.int v) = loc') (k : xa_L G M P0 R cn sl (pc + 3) loc' st h Z) : xa_L G M P0 R cn sl pc loc st h Z := by
  refine xl_go k (fun _ _ _ _ _ _ _ _ _ _ _ _ A L _ kk => ?_)
  obtain ⟨j, hj⟩ := List.getElem?_of_mem (xa_asl_mem (G := G).mpr ⟨_, hx, rfl⟩)
  exact lv_iinc A.1 A.2.1 hd L.has hj hv hn rfl (fun ls' hl' => kk ls' (hl ▸ xa_lh.st1 hl'))
theorem l_getV {a k idx : Nat} {cs : List Nat} {v : Value} (hd : decode M.2.1 pc = .ok (.getfield idx, 3)) (hF : ∀ ci ∈ cs, xa_FL M.1.cls idx ci k) (e : xg cs k h a = some v) (kk : xa_L G M P0 R cn sl (pc + 3) loc (v :: st) h Z) : xa_L G M P0 R cn sl pc loc (.ref a :: st) h Z := by
  obtain ⟨ci, fs, hc, hci, hv⟩ := xg_of e
  obtain ⟨C, T, N, ref, q1, q2, q3, q4, q5⟩ := hF ci hci
  refine xl_go1 kk (fun p e s m args below meth c H locs Q ls A _ hW kk => ?_)
  obtain ⟨h1, h2⟩ := xa_at_ad hW hc
  have hsame : ∀ x, s.fieldFound? (T k).1 (T k).2.1 (T k).2.2.1 = some x → s.fieldFound? ref (T k).2.1 (T k).2.2.1 = some x := by
    rcases q5 with rfl | q5
    · exact fun _ q => q
    · exact fun x q => u_same (A.2.2.2.2.2.2.2.1 _ q5) x q
  have hP : va_P G.2.1 xclasses [(xa_ad G a, xa_cv G (.inr (ci, fs)))] H := by
    intro j q hq
    have hj : j = 0 := by
      have := (List.getElem?_eq_some_iff.mp hq).1
      simpa using this
    subst hj
    cases hq
    exact h2
  exact va_get A.1 A.2.1 (Ts := gws) A.2.2.2.2.2.2.2.1 q3 A.2.2.2.2.1 A.2.2.2.2.2.2.2.2.1 hP 0 rfl q1 k q2 (A.2.2.2.2.2.2.2.1 _ q4) hsame (by rw [List.getElem?_map, hv]; rfl) hd kk
theorem l_getI {a k idx : Nat} {cs : List Nat} {x : Int32} (hd : decode M.2.1 pc = .ok (.getfield idx, 3)) (hF : ∀ ci ∈ cs, xa_FL M.1.cls idx ci k) (e : gI cs k h a = some x) (kk : xa_L G M P0 R cn sl (pc + 3) loc (.int x :: st) h Z) : xa_L G M P0 R cn sl pc loc (.ref a :: st) h Z := by
  obtain ⟨v, e1, e2⟩ := ob e
  cases vI_of e2
  exact l_getV hd hF e1 kk
theorem l_getR {a k idx : Nat} {cs : List Nat} {x : Nat} (hd : decode M.2.1 pc = .ok (.getfield idx, 3)) (hF : ∀ ci ∈ cs, xa_FL M.1.cls idx ci k) (e : gR cs k h a = some x) (kk : xa_L G M P0 R cn sl (pc + 3) loc (.ref x :: st) h Z) : xa_L G M P0 R cn sl pc loc (.ref a :: st) h Z := by
  obtain ⟨v, e1, e2⟩ := ob e
  cases vR_of e2
  exact l_getV hd hF e1 kk
theorem l_laloadL {a : Nat} {i : Int32} {x : Int64} (hd : decode M.2.1 pc = .ok (.laload, 1)) (e : aL h a i = some x) (kk : xa_L G M P0 R cn sl (pc + 1) loc (.long x :: st) h Z) : xa_L G M P0 R cn sl pc loc (.int i :: .ref a :: st) h Z := by
  obtain ⟨n, f, hc, hin, rfl⟩ := aL_of e
  refine xl_go1 kk (fun p e s m args below meth c H locs Q ls A _ hW kk => ?_)
  exact va_lald A.1 A.2.1 A.2.2.2.2.2.2.2.2.1 (xa_single (xa_at_ad hW hc).2) 0 3 rfl rfl hin hd kk
theorem l_lastoreL {a : Nat} {i : Int32} {x : Int64} {h2 : xa_H} (hd : decode M.2.1 pc = .ok (.lastore, 1)) (e : pL h a i x = some h2) (kk : xa_L G M P0 R cn sl (pc + 1) loc st h2 Z) : xa_L G M P0 R cn sl pc loc (.long x :: .int i :: .ref a :: st) h Z := by
  obtain ⟨n, f, hc, hin, rfl⟩ := pL_of e
  refine xl_goW kk rfl (fun p e s m args below meth c H locs Q ls A _ hW hL kk => ?_)
  obtain ⟨h1, h2⟩ := xa_at_ad hW hc
  have hK := A.2.2.2.2.2.2.2.2.1
  refine W.last A.1 A.2.1 h2 ((hK.2 3 _ rfl).1 n (fun j => .long (f j))) (fun q => (nomatch q)) (xi_lt hin) rfl rfl hd fun H1 e z oq => ?_
  exact kk H1 _ (hW.put hc (e.trans (congrArg some xi_sl)) z oq) (by show xa_b G ≤ xa_ad G a; omega)
end YA
section YB
variable {G : xa_G} {M M1 : xa_M} {P0 : State → Code → Prop} {R : Room} {cn sl d1 pc idx n : Nat} {loc : List (Option Value)} {st st0 st1 : List Value} {h h1 : xa_H} {o1 : Option Value} {As : List Value} {Z : State → List Frame → Array Value → State → Prop}
theorem xl_call (hs1 : o1.toList ++ st = st1) (k : xa_L G M P0 R (cn + (h1.2.1 - h.2.1)) (sl + (h1.2.2 - h.2.2)) (pc + 3) loc st1 h1 Z)
    (f : ∀ (p : Program) (e : Env) (s : State) (m : MethodId) (args : Array Value) (below : List Frame) (meth : Method) (c : Code) (H : Heap) (locs : List Loc) (ls : Array Slot), xa_A2 G M P0 p s m args meth c → xa_lh G ls M.2.2.1 loc → xa_Wd G h H →
      ∃ a, va_Run p G.1 e R s m args below meth c H locs cn sl (h1.2.1 - h.2.1) (h1.2.2 - h.2.2) (F0 m pc ls (st0.map (xa_sh G))) (st.map (xa_sh G)) (xa_Q G o1 h1 a) (fun q => xa_b G ≤ q)) : xa_L G M P0 R cn sl pc loc st0 h Z := by
  intro p e s m args below meth c H locs ls A hW hL hl
  obtain ⟨a, hr⟩ := f p e s m args below meth c H locs ls A hl hW
  refine xa_callk hr hL (fun H1 locs1 hW1 hL1 => ?_)
  have key := k p e s m args below meth c H1 locs1 ls A hW1 hL1 hl
  rw [← hs1, List.map_append] at key
  cases o1 <;> exact key
theorem l_callS (hd : decode M.2.1 pc = .ok (.invokestatic idx, 3)) (hC : xa_CB M1 n ∧ Cond.methodLink M.1.cls idx M1.1 ∈ gws ∧ Cond.static M1.1 ∈ gws) (hE : xa_Ev G M1 d1 As h o1 h1) (hR : d1 + 1 ≤ R.frames ∧ 8 + (M1.2.2.1 + 11) + d1 * 64 ≤ R.locals) (hf : cn + (h1.2.1 - h.2.1) ≤ R.cells ∧ sl + (h1.2.2 - h.2.2) ≤ R.slots) (hn : As.length = n) (hs : st0 = As.reverse ++ st) (hcat : (st.map fun v => v.category).sum ≤ 8) (hs1 : o1.toList ++ st = st1) (k : xa_L G M P0 R (cn + (h1.2.1 - h.2.1)) (sl + (h1.2.2 - h.2.2)) (pc + 3) loc st1 h1 Z) : xa_L G M P0 R cn sl pc loc st0 h Z := by
  refine xl_call hs1 k (fun p e s m args below meth c H locs ls A hl hW => ⟨(As.map (xa_sh G)).toArray, ?_⟩)
  have hts := A.2.2.2.2.2.2.2.1
  refine va_runS (As := As.map (xa_sh G)) ⟨A.1, A.2.1, A.2.2.2.1, A.2.2.2.2.1, hts⟩ hE.2.2 ⟨callB_of n hts (gws_sub hC.1.1) rfl rfl rfl (hts _ hC.1.2.1) (hts _ hC.2.1) hC.1.2.2.1 hR, hts _ hC.2.2⟩ ⟨xa_blind, xa_prec hW A.2.2.2.2.2.2.2.2⟩ rfl (by rw [List.length_map]; exact hn) hl.1 ?_ (xa_catR hcat) hd hf
  show st0.map (xa_sh G) = _
  rw [hs, List.map_append, List.map_reverse]
theorem l_callV {a : Nat} {cl : List Nat} {u : Unit} (hd : decode M.2.1 pc = .ok (.invokevirtual idx, 3)) (hC : xa_CB M1 n ∧ Cond.methodLink M.1.cls idx M1.1 ∈ gws ∧ Cond.instanceMethod M1.1 ∈ gws) (hsel : ∀ ci ∈ cl, ∃ (C : String) (T : u_T) (N : Nat), xclasses[ci]? = some (C, T, N) ∧ Cond.selects C M1.1 M1.1 ∈ gws) (hck : ck cl h a = some u) (hE : xa_Ev G M1 d1 (.ref a :: As) h o1 h1) (hR : d1 + 1 ≤ R.frames ∧ 8 + (M1.2.2.1 + 11) + d1 * 64 ≤ R.locals) (hf : cn + (h1.2.1 - h.2.1) ≤ R.cells ∧ sl + (h1.2.2 - h.2.2) ≤ R.slots) (hn : As.length = n) (hs : st0 = As.reverse ++ .ref a :: st) (hcat : (st.map fun v => v.category).sum ≤ 8) (hs1 : o1.toList ++ st = st1) (k : xa_L G M P0 R (cn + (h1.2.1 - h.2.1)) (sl + (h1.2.2 - h.2.2)) (pc + 3) loc st1 h1 Z) : xa_L G M P0 R cn sl pc loc st0 h Z := by
  obtain ⟨ci, fs, hc, hci⟩ := xa_ckof hck
  obtain ⟨C, T, N, hcl, hse⟩ := hsel ci hci
  refine xl_call hs1 k (fun p e s m args below meth c H locs ls A hl hW => ⟨(Value.ref (xa_ad G a) :: As.map (xa_sh G)).toArray, ?_⟩)
  have hts := A.2.2.2.2.2.2.2.1
  have hEn := A.2.2.2.2.2.2.2.2
  refine va_runV (As := As.map (xa_sh G)) (C := C) ⟨A.1, A.2.1, A.2.2.2.1, A.2.2.2.2.1, hts⟩ hE.2.2 ⟨callB_of n hts (gws_sub hC.1.1) rfl rfl rfl (hts _ hC.1.2.1) (hts _ hC.2.1) hC.1.2.2.1 hR, hts _ hC.2.2, hts _ hse⟩ ⟨xa_blind, xa_recv hW hEn hc hcl, xa_prec (av := .ref a :: As) hW hEn⟩ rfl (by rw [List.length_map]; exact hn) hl.1 ?_ (xa_catR hcat) hd hf
  show st0.map (xa_sh G) = _
  rw [hs, List.map_append, List.map_reverse]
  rfl
theorem l_callI {a : Nat} (hd : decode M.2.1 pc = .ok (.invokespecial idx, 3)) (hC : xa_CB M1 n ∧ Cond.methodLink M.1.cls idx M1.1 ∈ gws ∧ Cond.instanceMethod M1.1 ∈ gws ∧ M1.1.name = "<init>" ∧ M1.2.2.2 = none) (hE : xa_Ev G M1 d1 (.ref a :: As) h o1 h1) (hR : d1 + 1 ≤ R.frames ∧ 8 + (M1.2.2.1 + 11) + d1 * 64 ≤ R.locals) (hf : cn + (h1.2.1 - h.2.1) ≤ R.cells ∧ sl + (h1.2.2 - h.2.2) ≤ R.slots) (hn : As.length = n) (hs : st0 = As.reverse ++ .ref a :: st) (hcat : (st.map fun v => v.category).sum ≤ 8) (hs1 : o1.toList ++ st = st1) (k : xa_L G M P0 R (cn + (h1.2.1 - h.2.1)) (sl + (h1.2.2 - h.2.2)) (pc + 3) loc st1 h1 Z) : xa_L G M P0 R cn sl pc loc st0 h Z := by
  refine xl_call hs1 k (fun p e s m args below meth c H locs ls A hl hW => ⟨(Value.ref (xa_ad G a) :: As.map (xa_sh G)).toArray, ?_⟩)
  have hts := A.2.2.2.2.2.2.2.1
  have hEn := A.2.2.2.2.2.2.2.2
  obtain ⟨y1, b1, l1, r1⟩ := M1
  obtain rfl : r1 = none := hC.2.2.2.2
  refine va_runI (As := As.map (xa_sh G)) ⟨A.1, A.2.1, A.2.2.2.1, A.2.2.2.2.1, hts⟩ hE.2.2 ⟨callB_of n hts (gws_sub hC.1.1) rfl rfl rfl (hts _ hC.1.2.1) (hts _ hC.2.1) hC.1.2.2.1 hR, hC.2.2.2.1, hts _ hC.2.2.1⟩ ⟨xa_blind, xa_prec (av := .ref a :: As) hW hEn⟩ rfl (by rw [List.length_map]; exact hn) hl.1 ?_ (xa_catR hcat) hd hf
  show st0.map (xa_sh G) = _
  rw [hs, List.map_append, List.map_reverse]
  rfl
end YB
