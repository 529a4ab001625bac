/-! A PLAIN MACHINE OVER THE KIT: a heap of told cells at relative addresses, locals by place, and a judgement xa_V that each instruction moves. -/
def gws : List Cond := lw_tbl.filter goodWord
theorem gws_of {w : Cond} (h : w ∈ lw_tbl) (g : goodWord w = true) : w ∈ gws := List.mem_filter.mpr ⟨h, g⟩
theorem gws_good {w : Cond} (h : w ∈ gws) : goodWord w = true := (List.mem_filter.mp h).2
theorem gws_at (i : Nat) {w : Cond} (h : lw_tbl[i]? = some w) (g : goodWord w = true) : w ∈ gws := gws_of (List.mem_of_getElem? h) g
/-- an array (sort, length and contents) or an object (class, fields) -/
abbrev xa_C : Type := (Nat × vp_A) ⊕ (Nat × List Value)
/-- the cells, how many there are, how many slots they have -/
abbrev xa_H : Type := (Nat → Option xa_C) × Nat × Nat
/-- launch, class ids and slots, array class ids, base, outer addresses, the heap at the start -/
abbrev xa_G : Type := Launch × va_G × (Nat → ClassId) × Nat × (Nat → Nat) × Heap
abbrev xa_M : Type := MethodName × ByteArray × Nat × Option FieldType
def xa_b (G : xa_G) : Nat := G.2.2.2.1
def xa_ad (G : xa_G) (a : Nat) : Nat := if a < 1000000000 then xa_b G + a else G.2.2.2.2.1 (a - 1000000000)
def xa_sh (G : xa_G) : Value → Value
  | .ref a => .ref (xa_ad G a)
  | v => v
def xa_ca (G : xa_G) : vp_A → vp_A
  | (n, .inr (.inr (.inr (.inr f)))) => (n, .inr (.inr (.inr (.inr (fun i => (f i).map (xa_ad G))))))
  | a => a
def xa_cv (G : xa_G) : xa_C → va_E
  | .inl a => .inl (G.2.2.1 a.1, xa_ca G a.2)
  | .inr o => .inr (o.1, o.2.map (xa_sh G))
def xa_Wd (G : xa_G) (h : xa_H) (H : Heap) : Prop :=
  H.size = xa_b G + h.2.1 ∧ h.2.1 < 1000000000 ∧ (∀ q : Nat, q < xa_b G → H[q]? = G.2.2.2.2.2[q]?) ∧ ∀ (k : Nat) (e : xa_C), h.1 k = some e → k < h.2.1 ∧ va_at G.2.1 xclasses (xa_b G + k, xa_cv G e) H
def xa_tys (G : xa_G) : List (ClassId × FieldType) := [(G.2.2.1 0, .int), (G.2.2.1 1, .byte), (G.2.2.1 2, .boolean), (G.2.2.1 3, .long), (G.2.2.1 4, .object "CrossedFavours$Board"), (G.2.2.1 5, .array .int)]
def xa_nest : List Cond := lw_tbl.filter (fun w => match w with | .methodLinkNest .. => true | .castable .. => true | .declares .. => true | _ => false)
/-- static arrays of the class: place, name, contents -/
def xa_sta : List (Nat × String × List Int32) := [(1, "LOWEST", [0, 1, 1, 0, 0, 0, 0, 1]), (2, "HIGHEST", [99, 99, 9, 9, 1, 5, 5, 9]), (3, "USUAL", [20, 20, 1, 2, 0, 0, 1, 1])]
def xa_A (G : xa_G) : Nat → Prop := fun q => xa_b G ≤ q
def xa_AOA (U : State) : Prop := (Cond.arrayOver (.array .int)).before #[] U = true
/-- what the word says of the class of int[][] -/
theorem xa_AOA.cls {s : State} (h : xa_AOA s) : ∃ (c : ClassId) (k : Class) (q : ClassId), s.vm.classes[c]? = some k ∧ k.kind = .array q (.array .int) ∧ s.vm.findClass ("[" ++ (FieldType.array .int).toString) = some c := by
  simp only [xa_AOA, Cond.before, Cond.holds, Cond.value] at h
  obtain ⟨x, -, h⟩ := Option.bind_eq_some_iff.mp (eq_of_beq h)
  obtain ⟨c, -, h⟩ := Option.bind_eq_some_iff.mp h
  obtain ⟨k, hk, h⟩ := Option.map_eq_some_iff.mp h
  split at h
  · rename_i q ty hkd
    have h2 := Bool.and_eq_true_iff.mp h
    exact ⟨c, k, q, hk, by rw [hkd, of_decide_eq_true h2.1], of_decide_eq_true h2.2⟩
  · cases h
theorem xa_AOA.moved {u U : State} (hvm : u.vm.Alike U.vm) (h : xa_AOA u) : xa_AOA U := by
  have h1 := (Cond.arrayOver_setVmC (args := #[]) hvm (.array .int)).trans h
  simp only [xa_AOA, Cond.before, Cond.holds, Cond.value, State.vm_setVm] at h1 ⊢
  exact h1
/-- the String constants: their bytes; where they are named -/
def xs_tab : List (List Int32) := [[105, 111, 116, 110, 119, 100], [99, 109, 119, 116, 107, 97, 98, 110], [124, 124, 38, 38, 32, 32, 43, 45, 42, 47], [110, 111, 32, 115, 117, 99, 104, 32, 104, 111, 117, 115, 101], [110, 111, 32, 115, 117, 99, 104, 32, 119, 104, 97, 116], [121], [99, 109], [119, 116, 107], [97, 98, 110]]
def xs_ref : List (String × Nat × String × Nat) := [("CrossedFavours$LawReader", 11, "iotnwd", 0), ("CrossedFavours$VillageReader", 107, "cmwtkabn", 1), ("CrossedFavours$LawReader", 76, "||&&  +-*/", 2), ("CrossedFavours", 163, "no such house", 3), ("CrossedFavours", 189, "no such what", 4), ("CrossedFavoursModel", 26, "y", 5), ("CrossedFavoursModel", 32, "iotnwd", 0), ("CrossedFavoursModel", 266, "cm", 6), ("CrossedFavoursModel", 272, "wtk", 7), ("CrossedFavoursModel", 274, "abn", 8)]
/-- String j stands at 10 + j, its bytes at 40 + j -/
def xa_Es (G : xa_G) (s : State) : Prop :=
  (∀ j : Nat, j < 9 → va_O "java/lang/String" (G.2.2.2.2.1 (10 + j)) (xa_A G) s G.2.2.2.2.2 ∧ va_OF "java/lang/String" "coder" "B" (.int 0) (G.2.2.2.2.1 (10 + j)) (xa_A G) s G.2.2.2.2.2 ∧ va_OF "java/lang/String" "value" "[B" (.ref (G.2.2.2.2.1 (40 + j))) (G.2.2.2.2.1 (10 + j)) (xa_A G) s G.2.2.2.2.2 ∧ va_T .byte (G.2.2.2.2.1 (40 + j)) (xs_tab.getD j []).length (fun i => .int ((xs_tab.getD j []).getD i 0)) (xa_A G) s G.2.2.2.2.2) ∧
  (∀ q ∈ xs_ref, vk_R q.1 q.2.1 q.2.2.1 (G.2.2.2.2.1 (10 + q.2.2.2)) s) ∧ va_Z "java/lang/String" "COMPACT_STRINGS" "Z" (.int 1) (xa_A G) s G.2.2.2.2.2 ∧ (va_Z "jdk/internal/util/Preconditions" "SIOOBE_FORMATTER" "Ljava/util/function/BiFunction;" .null (xa_A G) s G.2.2.2.2.2 ∨ va_Z "jdk/internal/util/Preconditions" "SIOOBE_FORMATTER" "Ljava/util/function/BiFunction;" (.ref (G.2.2.2.2.1 5)) (xa_A G) s G.2.2.2.2.2) ∧
  vx_Zq Bundle.tN "UNASSIGNED_STACK" Bundle.steD (xa_A G) s G.2.2.2.2.2 ∧ vx_Zq Bundle.tN "SUPPRESSED_SENTINEL" Bundle.listD (xa_A G) s G.2.2.2.2.2
theorem xa_Es.go {G : xa_G} {s U : State} (hA : s.vm.Alike U.vm) (hR : ∀ own k tx a, vk_R own k tx a s → vk_R own k tx a U) (h : xa_Es G s) : xa_Es G U :=
  ⟨fun j hj => ⟨va_O.moved hA (h.1 j hj).1, va_OF.moved hA (h.1 j hj).2.1, va_OF.moved hA (h.1 j hj).2.2.1, va_T.moved hA (h.1 j hj).2.2.2⟩, fun q hq => hR _ _ _ _ (h.2.1 q hq), va_Z.moved hA h.2.2.1, h.2.2.2.1.imp (va_Z.moved hA) (va_Z.moved hA), vx_Zq.moved hA h.2.2.2.2.1, vx_Zq.moved hA h.2.2.2.2.2⟩
/-- what the tables and the start say at a method's own start -/
def xa_En (G : xa_G) (s : State) : Prop := va_K G.2.1 xclasses (xa_tys G) s ∧ (∀ w ∈ xa_nest, va_Nw w s) ∧
  (∀ q ∈ xa_sta, va_Z "CrossedFavours$VillageReader" q.2.1 "[I" (.ref (G.2.2.2.2.1 q.1)) (xa_A G) s G.2.2.2.2.2 ∧ va_T .int (G.2.2.2.2.1 q.1) q.2.2.length (fun j => .int (q.2.2.getD j 0)) (xa_A G) s G.2.2.2.2.2) ∧ xa_Es G s ∧ va_AO "CrossedFavours$Board" s ∧ xa_AOA s
theorem xa_En.warm {G : xa_G} {s U : State} (hW : s.WarmedH U.vm) (h : xa_En G s) : xa_En G U := by
  refine ⟨va_K.moved hW.alike h.1, fun w hw => ?_, fun q hq => ⟨va_Z.moved hW.alike (h.2.2.1 q hq).1, va_T.moved hW.alike (h.2.2.1 q hq).2⟩, xa_Es.go hW.alike (fun _ _ _ _ => vk_R.warm hW) h.2.2.2.1, va_AO.moved hW.alike h.2.2.2.2.1, xa_AOA.moved hW.alike h.2.2.2.2.2⟩
  have h1 := h.2.1 w hw
  have h2 := (List.mem_filter.mp hw).2
  cases w <;> first | (cases h2; done) | exact va_Nw.warmM hW h1 | exact va_Nw.warmC hW h1 | exact va_Nw.warmD hW h1
theorem xa_En.same {G : xa_G} {s U : State} (hv : s.vm = U.vm) (h : xa_En G s) : xa_En G U := by
  have hA : s.vm.Alike U.vm := by rw [hv]; exact Vm.Alike.refl _
  refine ⟨va_K.moved hA h.1, fun w hw => ?_, fun q hq => ⟨va_Z.moved hA (h.2.2.1 q hq).1, va_T.moved hA (h.2.2.1 q hq).2⟩, xa_Es.go hA (fun _ _ _ _ => vk_R.same hv.symm) h.2.2.2.1, va_AO.moved hA h.2.2.2.2.1, xa_AOA.moved hA h.2.2.2.2.2⟩
  have h1 := h.2.1 w hw
  have h2 := (List.mem_filter.mp hw).2
  cases w <;> first | (cases h2; done) | exact va_Nw.same rfl hv h1
/-- the locals that are told -/
def xa_lh (G : xa_G) (ls : Array Slot) (nL : Nat) (loc : List (Option Value)) : Prop := ls.size = nL ∧ lv_wf ls ∧ ∀ (i : Nat) (v : Value), loc[i]? = some (some v) → ls[i]? = some (.val (xa_sh G v))
def xa_At (G : xa_G) (M : xa_M) (p : Program) (s : State) (m : MethodId) (args : Array Value) (meth : Method) (c : Code) : Prop :=
  p.tables.exec = Jvm.exec ∧ c.code = M.2.1 ∧ meth.sig.returnType = M.2.2.2 ∧ c.maxLocals = M.2.2.1 ∧ s.vm.findClass M.1.cls = some m.cls ∧ meth.locks = false ∧ meth.name = M.1.name ∧ (∀ w ∈ gws, w.before args s = true) ∧ xa_En G s
def xa_Q (G : xa_G) (o : Option Value) (h' : xa_H) : Array Value → State → Outcome → State → Prop := fun _ _ oc t => oc = .returned (o.map (xa_sh G)) ∧ xa_Wd G h' t.heap
/-- from here the method returns o, with the cells h' -/
def xa_V (G : xa_G) (M : xa_M) (d pc : Nat) (loc : List (Option Value)) (st : List Value) (h : xa_H) (o : Option Value) (h' : xa_H) : Prop :=
  h.2.1 ≤ h'.2.1 ∧ h.2.2 ≤ h'.2.2 ∧ ∀ (p : Program) (e : Env) (R : Room) (s : State) (m : MethodId) (args : Array Value) (below : List Frame) (meth : Method) (c : Code) (H : Heap) (locs : List Loc) (cells slots : Nat) (ls : Array Slot),
    xa_At G M p s m args meth c → d ≤ R.frames → d * 64 ≤ R.locals → cells + (h'.2.1 - h.2.1) ≤ R.cells → slots + (h'.2.2 - h.2.2) ≤ R.slots → xa_Wd G h H → (∀ q ∈ locs, xa_b G ≤ q.base) → xa_lh G ls M.2.2.1 loc →
    W p G.1 e R s m args below meth c H locs cells slots (MQ below (xa_Q G o h') args s (cells + (h'.2.1 - h.2.1)) (slots + (h'.2.2 - h.2.2)) (fun q => xa_b G ≤ q)) (F0 m pc ls (st.map (xa_sh G)))
/-- a method's contract -/
def xa_Ev (G : xa_G) (M : xa_M) (d : Nat) (av : List Value) (h : xa_H) (o : Option Value) (h' : xa_H) : Prop :=
  h.2.1 ≤ h'.2.1 ∧ h.2.2 ≤ h'.2.2 ∧ Met G.1 M.1 (.code M.1 M.2.1 M.2.2.1 M.2.2.2 :: gws) { frames := d, cells := h'.2.1 - h.2.1, slots := h'.2.2 - h.2.2, locals := d * 64 } (fun a U => a = (av.map (xa_sh G)).toArray ∧ xa_Wd G h U.heap ∧ xa_En G U) (xa_Q G o h') (h'.2.1 - h.2.1) (h'.2.2 - h.2.2) (fun q => xa_b G ≤ q)
theorem xa_cat (G : xa_G) (v : Value) : (xa_sh G v).category = v.category := by cases v <;> rfl
theorem xa_ad_lo {G : xa_G} {a : Nat} (h : a < 1000000000) : xa_ad G a = xa_b G + a := if_pos h
section XA
variable {G : xa_G} {M : xa_M} {d pc : Nat} {loc loc' : List (Option Value)} {st : List Value} {h h' : xa_H} {o : Option Value}
/-- an instruction that moves the machine alone -/
theorem xa_go {pc2 : Nat} {loc2 : List (Option Value)} {st2 : List Value} (k : xa_V G M d pc2 loc2 st2 h o h')
    (f : ∀ (p : Program) (e : Env) (R : Room) (s : State) (m : MethodId) (args : Array Value) (below : List Frame) (meth : Method) (c : Code) (H : Heap) (locs : List Loc) (cells slots : Nat) (Q : State → Prop) (ls : Array Slot), xa_At G M p s m args meth c → xa_lh G ls M.2.2.1 loc → xa_Wd G h H →
      (∀ ls2 : Array Slot, xa_lh G ls2 M.2.2.1 loc2 → W p G.1 e R s m args below meth c H locs cells slots Q (F0 m pc2 ls2 (st2.map (xa_sh G)))) → W p G.1 e R s m args below meth c H locs cells slots Q (F0 m pc ls (st.map (xa_sh G)))) : xa_V G M d pc loc st h o h' :=
  ⟨k.1, k.2.1, fun p e R s m args below meth c H locs cells slots ls A h1 h2 h3 h4 hW hL hl => f p e R s m args below meth c H locs cells slots _ ls A hl hW (fun ls2 hl2 => k.2.2 p e R s m args below meth c H locs cells slots ls2 A h1 h2 h3 h4 hW hL hl2)⟩
/-- .. and leaves the locals -/
theorem xa_go1 {pc2 : Nat} {st2 : List Value} (k : xa_V G M d pc2 loc st2 h o h')
    (f : ∀ (p : Program) (e : Env) (R : Room) (s : State) (m : MethodId) (args : Array Value) (below : List Frame) (meth : Method) (c : Code) (H : Heap) (locs : List Loc) (cells slots : Nat) (Q : State → Prop) (ls : Array Slot), xa_At G M p s m args meth c → xa_lh G ls M.2.2.1 loc → xa_Wd G h H →
      W p G.1 e R s m args below meth c H locs cells slots Q (F0 m pc2 ls (st2.map (xa_sh G))) → W p G.1 e R s m args below meth c H locs cells slots Q (F0 m pc ls (st.map (xa_sh G)))) : xa_V G M d pc loc st h o h' :=
  xa_go k (fun p e R s m args below meth c H locs cells slots Q ls A hl hW kk => f p e R s m args below meth c H locs cells slots Q ls A hl hW (kk ls hl))
theorem v_iconst {n : Int} {v : Int32} (hd : decode M.2.1 pc = .ok (.iconst n, 1)) (hv : Int32.ofInt n = v) (k : xa_V G M d (pc + 1) loc (.int v :: st) h o h') : xa_V G M d pc loc st h o h' :=
  xa_go1 k (fun _ _ _ _ _ _ _ _ _ _ _ _ _ _ _ A _ _ kk => lv_iconst A.1 A.2.1 hd hv kk)
theorem v_bipush {n : Int} {v : Int32} (hd : decode M.2.1 pc = .ok (.bipush n, 2)) (hv : (Int8.ofInt n).toInt32 = v) (k : xa_V G M d (pc + 2) loc (.int v :: st) h o h') : xa_V G M d pc loc st h o h' :=
  xa_go1 k (fun _ _ _ _ _ _ _ _ _ _ _ _ _ _ _ A _ _ kk => lv_bipush A.1 A.2.1 hd hv kk)
theorem v_sipush {n : Int} {v : Int32} (hd : decode M.2.1 pc = .ok (.sipush n, 3)) (hv : (Int16.ofInt n).toInt32 = v) (k : xa_V G M d (pc + 3) loc (.int v :: st) h o h') : xa_V G M d pc loc st h o h' :=
  xa_go1 k (fun _ _ _ _ _ _ _ _ _ _ _ _ _ _ _ A _ _ kk => lv_sipush A.1 A.2.1 hd hv kk)
theorem v_lconst {n : Fin 2} {v : Int64} (hd : decode M.2.1 pc = .ok (.lconst n, 1)) (hv : Int64.ofNat (n : Nat) = v) (k : xa_V G M d (pc + 1) loc (.long v :: st) h o h') : xa_V G M d pc loc st h o h' :=
  xa_go1 k (fun _ _ _ _ _ _ _ _ _ _ _ _ _ _ _ A _ _ kk => lv_lconst A.1 A.2.1 hd hv kk)
theorem v_ldc {own : String} {i : Nat} {v : Int32} (hd : decode M.2.1 pc = .ok (.ldc i, 2)) (ho : M.1.cls = own) (hw : Cond.constant own i v ∈ gws) (k : xa_V G M d (pc + 2) loc (.int v :: st) h o h') : xa_V G M d pc loc st h o h' :=
  xa_go1 k (fun _ _ _ _ _ _ _ _ _ _ _ _ _ _ _ A _ _ kk => lv_ldc A.1 A.2.1 (own := own) (by rw [← ho]; exact A.2.2.2.2.1) (A.2.2.2.2.2.2.2.1 _ hw) hd kk)
theorem v_ldcw {own : String} {i : Nat} {v : Int32} (hd : decode M.2.1 pc = .ok (.ldc_w i, 3)) (ho : M.1.cls = own) (hw : Cond.constant own i v ∈ gws) (k : xa_V G M d (pc + 3) loc (.int v :: st) h o h') : xa_V G M d pc loc st h o h' :=
  xa_go1 k (fun _ _ _ _ _ _ _ _ _ _ _ _ _ _ _ A _ _ kk => lv_ldcw A.1 A.2.1 (own := own) (by rw [← ho]; exact A.2.2.2.2.1) (A.2.2.2.2.2.2.2.1 _ hw) hd kk)
theorem v_ldc2 {own : String} {i : Nat} {v : Int64} (hd : decode M.2.1 pc = .ok (.ldc2_w i, 3)) (ho : M.1.cls = own) (hw : Cond.constantLong own i v ∈ gws) (k : xa_V G M d (pc + 3) loc (.long v :: st) h o h') : xa_V G M d pc loc st h o h' :=
  xa_go1 k (fun _ _ _ _ _ _ _ _ _ _ _ _ _ _ _ A _ _ kk => lv_ldc2 A.1 A.2.1 (own := own) (by rw [← ho]; exact A.2.2.2.2.1) (A.2.2.2.2.2.2.2.1 _ hw) hd kk)
theorem v_iload_n {i : Fin 4} {x : Int32} (hd : decode M.2.1 pc = .ok (.iload_n i, 1)) (hl : loc[(i : Nat)]? = some (some (.int x))) (k : xa_V G M d (pc + 1) loc (.int x :: st) h o h') : xa_V G M d pc loc st h o h' :=
  xa_go1 k (fun _ _ _ _ _ _ _ _ _ _ _ _ _ _ _ A L _ kk => lv_iload_n A.1 A.2.1 hd rfl (L.2.2 _ _ hl) kk)
theorem v_iload {i : Nat} {x : Int32} (hd : decode M.2.1 pc = .ok (.iload i, 2)) (hl : loc[i]? = some (some (.int x))) (k : xa_V G M d (pc + 2) loc (.int x :: st) h o h') : xa_V G M d pc loc st h o h' :=
  xa_go1 k (fun _ _ _ _ _ _ _ _ _ _ _ _ _ _ _ A L _ kk => lv_iload A.1 A.2.1 hd (L.2.2 _ _ hl) kk)
theorem v_lload_n {i : Fin 4} {x : Int64} (hd : decode M.2.1 pc = .ok (.lload_n i, 1)) (hl : loc[(i : Nat)]? = some (some (.long x))) (k : xa_V G M d (pc + 1) loc (.long x :: st) h o h') : xa_V G M d pc loc st h o h' :=
  xa_go1 k (fun _ _ _ _ _ _ _ _ _ _ _ _ _ _ _ A L _ kk => lv_lload_n A.1 A.2.1 hd rfl (L.2.2 _ _ hl) kk)
theorem v_lload {i : Nat} {x : Int64} (hd : decode M.2.1 pc = .ok (.lload i, 2)) (hl : loc[i]? = some (some (.long x))) (k : xa_V G M d (pc + 2) loc (.long x :: st) h o h') : xa_V G M d pc loc st h o h' :=
  xa_go1 k (fun _ _ _ _ _ _ _ _ _ _ _ _ _ _ _ A L _ kk => lv_lload A.1 A.2.1 hd (L.2.2 _ _ hl) kk)
theorem v_aload_n {i : Fin 4} {x : Nat} (hd : decode M.2.1 pc = .ok (.aload_n i, 1)) (hl : loc[(i : Nat)]? = some (some (.ref x))) (k : xa_V G M d (pc + 1) loc (.ref x :: st) h o h') : xa_V G M d pc loc st h o h' :=
  xa_go1 k (fun _ _ _ _ _ _ _ _ _ _ _ _ _ _ _ A L _ kk => lv_aload_n A.1 A.2.1 hd rfl (L.2.2 _ _ hl) kk)
theorem v_aload {i : Nat} {x : Nat} (hd : decode M.2.1 pc = .ok (.aload i, 2)) (hl : loc[i]? = some (some (.ref x))) (k : xa_V G M d (pc + 2) loc (.ref x :: st) h o h') : xa_V G M d pc loc st h o h' :=
  xa_go1 k (fun _ _ _ _ _ _ _ _ _ _ _ _ _ _ _ A L _ kk => lv_aload A.1 A.2.1 hd (L.2.2 _ _ hl) kk)
end XA
