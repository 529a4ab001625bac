/-! returns, a method's entry, calls -/
section XF
variable {G : xa_G} {M : xa_M} {d pc : Nat} {loc loc' : List (Option Value)} {st : List Value} {h h' : xa_H} {o : Option Value}
theorem aR_of {t a : Nat} {i : Int32} {x : Nat} (e : aR t h a i = some x) : ∃ (n : Nat) (f : Nat → Option Nat), h.1 a = some (.inl (t, n, .inr (.inr (.inr (.inr f))))) ∧ vp_in i n ∧ f i.toNatClampNeg = some x := by
  unfold aR at e
  split at e
  · rename_i t' n f q
    split at e
    · cases e
    · rename_i c
      have c1 : t' = t := Classical.byContradiction fun z => c (Or.inl z)
      subst c1
      exact ⟨n, f, q, fun z => c (Or.inr z), e⟩
  · cases e
theorem v_aaload {t a : Nat} {i : Int32} {x : Nat} (hd : decode M.2.1 pc = .ok (.aaload, 1)) (ht : t = 4 ∨ t = 5) (e : aR t h a i = some x) (kk : xa_V G M d (pc + 1) loc (.ref x :: st) h o h') : xa_V G M d pc loc (.int i :: .ref a :: st) h o h' := by
  obtain ⟨n, f, hc, hin, hf⟩ := aR_of e
  refine xa_go1 kk (fun p e R s m args below meth c H locs cells slots Q ls A _ hW kk => ?_)
  have hK := A.2.2.2.2.2.2.2.2.1
  have hlt : i.toNatClampNeg < n := Nat.not_le.mp fun q => hin (Or.inr q)
  have key : ∀ (ty : FieldType), (xa_tys G)[t]? = some (G.2.2.1 t, ty) → refKind ty = true → W p G.1 e R s m args below meth c H locs cells slots Q (F0 m pc ls ((.int i :: .ref a :: st : List Value).map (xa_sh G))) := by
    intro ty h1 h2
    refine W.aald (v := .ref (xa_ad G x)) (ty := ty) A.1 A.2.1 (xa_at_ad hW hc).2 ((hK.2 t _ h1).1 n (fun j => va_rf ((f j).map (xa_ad G)))) h2 (fun q => (nomatch q)) (xi_lt hin) (by show (arrV (G.2.2.1 t) n (fun j => va_rf ((f j).map (xa_ad G)))).slots[i.toNatClampNeg]? = _; rw [arrV_read _ _ hlt, hf]; rfl) rfl rfl hd kk
  rcases ht with rfl | rfl
  · exact key _ rfl rfl
  · exact key _ rfl rfl
theorem v_alen {a : Nat} {v : Int32} (hd : decode M.2.1 pc = .ok (.arraylength, 1)) (e : aN h a = some v) (kk : xa_V G M d (pc + 1) loc (.int v :: st) h o h') : xa_V G M d pc loc (.ref a :: st) h o h' := by
  unfold aN at e
  split at e
  · rename_i t n f hc
    split at e
    · rename_i ht
      cases e
      refine xa_go1 kk (fun p e R s m args below meth c H locs cells slots Q ls A _ hW kk => ?_)
      have hK := A.2.2.2.2.2.2.2.2.1
      have key : ∀ (ty : FieldType), (xa_tys G)[t]? = some (G.2.2.1 t, ty) → W p G.1 e R s m args below meth c H locs cells slots Q (F0 m pc ls ((.ref a :: st : List Value).map (xa_sh G))) := by
        intro ty h1
        refine va_alen A.1 A.2.1 hK (xa_single (xa_at_ad hW hc).2) 0 t rfl h1 (v := Int32.ofNat n) ?_ hd kk
        rcases f with f | f | f | f | f <;> rfl
      have hc6 : t = 0 ∨ t = 1 ∨ t = 2 ∨ t = 3 ∨ t = 4 ∨ t = 5 := by omega
      rcases hc6 with rfl | rfl | rfl | rfl | rfl | rfl <;> exact key _ rfl
    · cases e
  · cases e
theorem xa_ret (f : ∀ (p : Program) (e : Env) (R : Room) (s : State) (m : MethodId) (args : Array Value) (below : List Frame) (meth : Method) (c : Code) (H : Heap) (locs : List Loc) (cells slots : Nat) (ls : Array Slot), xa_At G M p s m args meth c → (∀ q ∈ locs, xa_b G ≤ q.base) → (∀ t : State, t.heap = H → xa_Q G o h args s (.returned (o.map (xa_sh G))) t) → W p G.1 e R s m args below meth c H locs cells slots (MQ below (xa_Q G o h) args s cells slots (fun q => xa_b G ≤ q)) (F0 m pc ls (st.map (xa_sh G)))) : xa_V G M d pc loc st h o h := by
  refine ⟨Nat.le_refl _, Nat.le_refl _, fun p e R s m args below meth c H locs cells slots ls A h1 h2 h3 h4 hW hL hl => ?_⟩
  rw [Nat.sub_self, Nat.sub_self, Nat.add_zero, Nat.add_zero]
  exact f p e R s m args below meth c H locs cells slots ls A hL (fun t ht => ⟨rfl, by rw [ht]; exact hW⟩)
theorem v_iret {x : Int32} (hd : decode M.2.1 pc = .ok (.ireturn, 1)) (hr : M.2.2.2 = some .int) : xa_V G M d pc loc [.int x] h (some (.int x)) h :=
  xa_ret (fun p e R s m args below meth c H locs cells slots ls A hL hq => W.iret A.1 A.2.1 (A.2.2.1.trans hr) (fun t ht _ => hq t ht) hL hd A.2.2.2.2.2.1)
theorem v_zret {x : Int32} (hd : decode M.2.1 pc = .ok (.ireturn, 1)) (hr : M.2.2.2 = some .boolean) (hx : x = 0 ∨ x = 1) : xa_V G M d pc loc [.int x] h (some (.int x)) h :=
  xa_ret (fun p e R s m args below meth c H locs cells slots ls A hL hq => W.zret A.1 A.2.1 (A.2.2.1.trans hr) (by rcases hx with rfl | rfl <;> rfl) (fun t ht _ => hq t ht) hL hd A.2.2.2.2.2.1)
theorem v_lret {x : Int64} (hd : decode M.2.1 pc = .ok (.lreturn, 1)) (hr : M.2.2.2 = some .long) : xa_V G M d pc loc [.long x] h (some (.long x)) h :=
  xa_ret (fun p e R s m args below meth c H locs cells slots ls A hL hq => W.lret A.1 A.2.1 (A.2.2.1.trans hr) (fun t ht _ => hq t ht) hL hd A.2.2.2.2.2.1)
theorem v_vret (hd : decode M.2.1 pc = .ok (.return_, 1)) (hr : M.2.2.2 = none) : xa_V G M d pc loc [] h none h :=
  xa_ret (fun p e R s m args below meth c H locs cells slots ls A hL hq => W.vret A.1 A.2.1 (A.2.2.1.trans hr) (fun t ht _ => hq t ht) hL hd A.2.2.2.2.2.1)
end XF
def xa_ent : List Value → List (Option Value)
  | [] => []
  | v :: vs => if v.category = 2 then some v :: none :: xa_ent vs else some v :: xa_ent vs
theorem xa_ent_at {G : xa_G} : ∀ (av : List Value) (b i : Nat) (v : Value), (xa_ent av)[i]? = some (some v) → (b + i, xa_sh G v) ∈ lv_args b (av.map (xa_sh G))
  | [], b, i, v, h => by simp [xa_ent] at h
  | u :: vs, b, i, v, h => by
    unfold xa_ent at h
    by_cases c : u.category = 2
    · rw [if_pos c] at h
      have c' : (xa_sh G u).category = 2 := (xa_cat G u).trans c
      show _ ∈ (b, xa_sh G u) :: lv_args (if (xa_sh G u).category = 2 then b + 2 else b + 1) (vs.map (xa_sh G))
      rw [if_pos c']
      match i, h with
      | 0, h => cases h; exact List.mem_cons_self
      | 1, h => cases h
      | i + 2, h =>
        have := xa_ent_at (G := G) vs (b + 2) i v h
        rw [show b + (i + 2) = b + 2 + i by omega]
        exact List.mem_cons_of_mem _ this
    · rw [if_neg c] at h
      have c' : ¬ (xa_sh G u).category = 2 := by rw [xa_cat]; exact c
      show _ ∈ (b, xa_sh G u) :: lv_args (if (xa_sh G u).category = 2 then b + 2 else b + 1) (vs.map (xa_sh G))
      rw [if_neg c']
      match i, h with
      | 0, h => cases h; exact List.mem_cons_self
      | i + 1, h =>
        have := xa_ent_at (G := G) vs (b + 1) i v h
        rw [show b + (i + 1) = b + 1 + i by omega]
        exact List.mem_cons_of_mem _ this
theorem xa_ent_len {G : xa_G} : ∀ (av : List Value), (lg_sl (av.map (xa_sh G))).length = (xa_ent av).length
  | [] => rfl
  | u :: vs => by
    have ih := xa_ent_len (G := G) vs
    unfold lg_sl at ih ⊢
    rw [List.map_cons, List.flatMap_cons, List.length_append, ih, xa_cat]
    show _ = (if u.category = 2 then some u :: none :: xa_ent vs else some u :: xa_ent vs).length
    by_cases c : u.category = 2
    · simp [c]; omega
    · simp [c]; omega
/-- a method by its body -/
theorem xa_entry {G : xa_G} {M : xa_M} {d : Nat} {av : List Value} {loc : List (Option Value)} {h h' : xa_H} {o : Option Value} (hy : plainName M.1.cls = true) (hl : xa_ent av ++ List.replicate (M.2.2.1 - (xa_ent av).length) none = loc) (hn : (xa_ent av).length ≤ M.2.2.1) (k : xa_V G M d 0 loc [] h o h') : xa_Ev G M d av h o h' := by
  refine ⟨k.1, k.2.1, ?_⟩
  refine Met.ofW (cc := M.2.1) (maxL := M.2.2.1) (ret := M.2.2.2) hy rfl ?_
  intro p e s m args below meth c s₁ B hml hv
  obtain ⟨rfl, hW, hE⟩ := hv
  have hts := atoms_spec (ws := .code M.1 M.2.1 M.2.2.1 M.2.2.2 :: gws) B.pre
  have hown : s.vm.findClass M.1.cls = some m.cls := findClass_of_methodNamed B.named
  have hnm : meth.name = M.1.name := (name_of_methodNamed B.named B.method).1
  rw [lg_entry_eq]
  have hl0 := lv_entry (av.map (xa_sh G)) (n := M.2.2.1) (by rw [xa_ent_len]; exact hn)
  have key := k.2.2 p e (headSpec (.code M.1 M.2.1 M.2.2.1 M.2.2.2 :: gws) { frames := d, cells := h'.2.1 - h.2.1, slots := h'.2.2 - h.2.2, locals := d * 64 }).room s m (av.map (xa_sh G)).toArray below meth c s.heap [] 0 0 _ ⟨B.exec, B.bytes, B.returns, hml, hown, B.notSynchronized, hnm, fun w hw => hts w (List.mem_cons_of_mem _ hw), hE⟩ (Nat.le_refl d) (Nat.le_refl _) (by rw [Nat.zero_add]; exact Nat.le_refl _) (by rw [Nat.zero_add]; exact Nat.le_refl _) hW (fun q hq => by cases hq)
    ⟨hl0.1, hl0.2.1, fun i v hi => by
      rw [← hl] at hi
      by_cases c : i < (xa_ent av).length
      · rw [List.getElem?_append_left c] at hi
        have := xa_ent_at (G := G) av 0 i v hi
        rw [Nat.zero_add] at this
        exact hl0.2.2 _ this
      · rw [List.getElem?_append_right (by omega), List.getElem?_replicate] at hi
        split at hi <;> cases hi⟩
  rw [Nat.zero_add, Nat.zero_add] at key
  exact key

theorem gws_sub {y : MethodName} {cc : ByteArray} {n : Nat} {r : Option FieldType} (h : Cond.code y cc n r ∈ gws) : GoodIn gws (.code y cc n r :: gws) := fun w hw => by
  have h1 : w ∈ gws := by
    rcases List.mem_cons.mp hw with rfl | q
    · exact h
    · exact q
  exact ⟨h1, good_of_word (gws_good h1)⟩
/-- a is an object of one of the classes cs -/
def ck (cs : List Nat) (h : xa_H) (a : Nat) : Option Unit := match h.1 a with
  | some (.inr (ci, _)) => if ci ∈ cs then some () else none
  | _ => none
/-- what every callee has -/
def xa_CB (M1 : xa_M) (n : Nat) : Prop := Cond.code M1.1 M1.2.1 M1.2.2.1 M1.2.2.2 ∈ gws ∧ Cond.initialized M1.1.cls ∈ gws ∧ (M1.1.cls ≠ "java/lang/invoke/MethodHandle" ∧ M1.1.cls ≠ "java/lang/invoke/VarHandle" ∧ (parseMethodDescriptor M1.1.desc).map (fun d => d.parameters.length) = some n) ∧ M1.2.2.1 ≤ 45
section XG
variable {G : xa_G} {M M1 : xa_M} {d d1 pc idx n : Nat} {loc loc' : List (Option Value)} {st st0 st1 : List Value} {h h1 h' : xa_H} {o o1 : Option Value} {As : List Value}
theorem xa_blind {av : List Value} {h : xa_H} : FrameBlind (fun a U => a = (av.map (xa_sh G)).toArray ∧ xa_Wd G h U.heap ∧ xa_En G U) := fun a U g mk q => ⟨q.1, q.2.1, xa_En.same (s := U) (U := U.calling g mk a) rfl q.2.2⟩
theorem xa_prec {s : State} {H : Heap} {av : List Value} {h : xa_H} (hW : xa_Wd G h H) (hE : xa_En G s) : ∀ U : State, U.heap = H → s.WarmedH U.vm → (av.map (xa_sh G)).toArray = (av.map (xa_sh G)).toArray ∧ xa_Wd G h U.heap ∧ xa_En G U := fun U hU hw => ⟨rfl, by rw [hU]; exact hW, xa_En.warm hw hE⟩
theorem xa_room {R : Room} (hdd : d1 + 1 ≤ d) (h1 : d ≤ R.frames) (h2 : d * 64 ≤ R.locals) {m : Nat} (hm : m ≤ 45) : d1 + 1 ≤ R.frames ∧ 8 + (m + 11) + d1 * 64 ≤ R.locals := by
  refine ⟨Nat.le_trans hdd h1, ?_⟩
  have : (d1 + 1) * 64 ≤ d * 64 := Nat.mul_le_mul_right 64 hdd
  omega
/-- behind a call -/
theorem xa_callk {p : Program} {e : Env} {R : Room} {s : State} {m : MethodId} {args a : Array Value} {below : List Frame} {meth : Method} {c : Code} {H : Heap} {locs : List Loc} {cells slots mc ms : Nat} {Q : State → Prop} {ls : Array Slot} {mst rest : List Value} (hr : va_Run p G.1 e R s m args below meth c H locs cells slots mc ms (F0 m pc ls mst) rest (xa_Q G o1 h1 a) (fun q => xa_b G ≤ q)) (hL : ∀ q ∈ locs, xa_b G ≤ q.base)
    (kk : ∀ (H1 : Heap) (locs1 : List Loc), xa_Wd G h1 H1 → (∀ q ∈ locs1, xa_b G ≤ q.base) → W p G.1 e R s m args below meth c H1 locs1 (cells + mc) (slots + ms) Q (F0 m (pc + 3) ls ((o1.map (xa_sh G)).toList ++ rest))) : W p G.1 e R s m args below meth c H locs cells slots Q (F0 m pc ls mst) := by
  intro T hT X
  obtain ⟨v, st₀, t, T', L, h0, X', hL', e1, e2, ⟨hv, hW1⟩, st⟩ := hr T hT X
  cases hv
  obtain ⟨t2, a1, b1⟩ := kk T'.heap (locs ++ L) (by rw [e1]; exact hW1) (fun q hq => by
    rcases List.mem_append.mp hq with z | z
    · exact hL q z
    · exact hL' q z) T' rfl X'
  exact ⟨t2, st t2 a1, b1⟩
/-- a call, however it is run -/
theorem xa_call (hE : xa_Ev G M1 d1 As h o1 h1) (hs1 : o1.toList ++ st = st1) (k : xa_V G M d (pc + 3) loc st1 h1 o h')
    (f : ∀ (p : Program) (e : Env) (R : Room) (s : State) (m : MethodId) (args : Array Value) (below : List Frame) (meth : Method) (c : Code) (H : Heap) (locs : List Loc) (cells slots : Nat) (ls : Array Slot), xa_At G M p s m args meth c → d ≤ R.frames → d * 64 ≤ R.locals → xa_lh G ls M.2.2.1 loc → xa_Wd G h H → cells + (h1.2.1 - h.2.1) ≤ R.cells ∧ slots + (h1.2.2 - h.2.2) ≤ R.slots →
      ∃ a, va_Run p G.1 e R s m args below meth c H locs cells slots (h1.2.1 - h.2.1) (h1.2.2 - h.2.2) (F0 m pc ls (st0.map (xa_sh G))) (st.map (xa_sh G)) (xa_Q G o1 h1 a) (fun q => xa_b G ≤ q)) : xa_V G M d pc loc st0 h o h' := by
  refine ⟨Nat.le_trans hE.1 k.1, Nat.le_trans hE.2.1 k.2.1, fun p e R s m args below meth c H locs cells slots ls A q1 q2 q3 q4 hW hL hl => ?_⟩
  have m1 := hE.1
  have m2 := hE.2.1
  have m3 := k.1
  have m4 := k.2.1
  obtain ⟨a, hr⟩ := f p e R s m args below meth c H locs cells slots ls A q1 q2 hl hW ⟨by omega, by omega⟩
  refine xa_callk hr hL (fun H1 locs1 hW1 hL1 => ?_)
  have key := k.2.2 p e R s m args below meth c H1 locs1 (cells + (h1.2.1 - h.2.1)) (slots + (h1.2.2 - h.2.2)) ls A q1 q2 (by omega) (by omega) hW1 hL1 hl
  rw [show cells + (h1.2.1 - h.2.1) + (h'.2.1 - h1.2.1) = cells + (h'.2.1 - h.2.1) by omega, show slots + (h1.2.2 - h.2.2) + (h'.2.2 - h1.2.2) = slots + (h'.2.2 - h.2.2) by omega, ← hs1, List.map_append] at key
  cases o1 <;> exact key
theorem v_callS (hd : decode M.2.1 pc = .ok (.invokestatic idx, 3)) (hC : xa_CB M1 n ∧ Cond.methodLink M.1.cls idx M1.1 ∈ gws ∧ Cond.static M1.1 ∈ gws) (hE : xa_Ev G M1 d1 As h o1 h1) (hdd : d1 + 1 ≤ d) (hn : As.length = n) (hs : st0 = As.reverse ++ st) (hcat : (st.map fun v => v.category).sum ≤ 8) (hs1 : o1.toList ++ st = st1) (k : xa_V G M d (pc + 3) loc st1 h1 o h') : xa_V G M d pc loc st0 h o h' := by
  refine xa_call hE hs1 k (fun p e R s m args below meth c H locs cells slots ls A q1 q2 hl hW hf => ⟨(As.map (xa_sh G)).toArray, ?_⟩)
  have hts := A.2.2.2.2.2.2.2.1
  refine va_runS (As := As.map (xa_sh G)) ⟨A.1, A.2.1, A.2.2.2.1, A.2.2.2.2.1, hts⟩ hE.2.2 ⟨callB_of n hts (gws_sub hC.1.1) rfl rfl rfl (hts _ hC.1.2.1) (hts _ hC.2.1) hC.1.2.2.1 (xa_room hdd q1 q2 hC.1.2.2.2), hts _ hC.2.2⟩ ⟨xa_blind, xa_prec hW A.2.2.2.2.2.2.2.2⟩ rfl (by rw [List.length_map]; exact hn) hl.1 ?_ ?_ hd hf
  · show st0.map (xa_sh G) = _
    rw [hs, List.map_append, List.map_reverse]
  · rw [List.map_map, show ((fun v => v.category) ∘ xa_sh G) = (fun v : Value => v.category) from funext (xa_cat G)]
    exact lv_room hcat
theorem xa_catR (hcat : (st.map fun v => v.category).sum ≤ 8) {m : MethodId} {ls : Array Slot} {rest : List Value} : 2 * (F0 m pc ls rest).monitorRoom + ((st.map (xa_sh G)).map fun v => v.category).sum ≤ 8 := by
  rw [List.map_map, show ((fun v => v.category) ∘ xa_sh G) = (fun v : Value => v.category) from funext (xa_cat G)]
  exact lv_room hcat
theorem xa_ckof {cs : List Nat} {a : Nat} {u : Unit} (e : ck cs h a = some u) : ∃ ci fs, h.1 a = some (.inr (ci, fs)) ∧ ci ∈ cs := by
  unfold ck at e
  split at e
  · rename_i ci fs q
    split at e
    · exact ⟨ci, fs, q, by assumption⟩
    · cases e
  · cases e
theorem xa_recv {s : State} {H : Heap} {a ci : Nat} {fs : List Value} {C : String} {T : u_T} {N : Nat} (hW : xa_Wd G h H) (hE : xa_En G s) (hc : h.1 a = some (.inr (ci, fs))) (hC : xclasses[ci]? = some (C, T, N)) : ∃ cell : Cell, H[xa_ad G a]? = some cell ∧ cell.vm.isStatics = false ∧ s.vm.findClass C = some cell.cls :=
  va_recv hE.1 (xa_single (xa_at_ad hW hc).2) hC (q0 := 0) rfl
theorem v_callV {a : Nat} {cs : List Nat} {u : Unit} (hd : decode M.2.1 pc = .ok (.invokevirtual idx, 3)) (hC : xa_CB M1 n ∧ Cond.methodLink M.1.cls idx M1.1 ∈ gws ∧ Cond.instanceMethod M1.1 ∈ gws) (hsel : ∀ ci ∈ cs, ∃ (C : String) (T : u_T) (N : Nat), xclasses[ci]? = some (C, T, N) ∧ Cond.selects C M1.1 M1.1 ∈ gws) (hck : ck cs h a = some u) (hE : xa_Ev G M1 d1 (.ref a :: As) h o1 h1) (hdd : d1 + 1 ≤ d) (hn : As.length = n) (hs : st0 = As.reverse ++ .ref a :: st) (hcat : (st.map fun v => v.category).sum ≤ 8) (hs1 : o1.toList ++ st = st1) (k : xa_V G M d (pc + 3) loc st1 h1 o h') : xa_V G M d pc loc st0 h o h' := by
  obtain ⟨ci, fs, hc, hci⟩ := xa_ckof hck
  obtain ⟨C, T, N, hcl, hse⟩ := hsel ci hci
  refine xa_call hE hs1 k (fun p e R s m args below meth c H locs cells slots ls A q1 q2 hl hW hf => ⟨(Value.ref (xa_ad G a) :: As.map (xa_sh G)).toArray, ?_⟩)
  have hts := A.2.2.2.2.2.2.2.1
  have hEn := A.2.2.2.2.2.2.2.2
  refine va_runV (As := As.map (xa_sh G)) (C := C) ⟨A.1, A.2.1, A.2.2.2.1, A.2.2.2.2.1, hts⟩ hE.2.2 ⟨callB_of n hts (gws_sub hC.1.1) rfl rfl rfl (hts _ hC.1.2.1) (hts _ hC.2.1) hC.1.2.2.1 (xa_room hdd q1 q2 hC.1.2.2.2), hts _ hC.2.2, hts _ hse⟩ ⟨xa_blind, xa_recv hW hEn hc hcl, xa_prec (av := .ref a :: As) hW hEn⟩ rfl (by rw [List.length_map]; exact hn) hl.1 ?_ (xa_catR hcat) hd hf
  show st0.map (xa_sh G) = _
  rw [hs, List.map_append, List.map_reverse]
  rfl
/-- a method that the named class x inherits from its owner -/
theorem v_callU {a : Nat} {cs : List Nat} {u : Unit} {x : MethodName} {owner : String} (hd : decode M.2.1 pc = .ok (.invokevirtual idx, 3)) (hC : xa_CB M1 n ∧ Cond.methodLink M.1.cls idx x ∈ gws ∧ Cond.instanceMethod M1.1 ∈ gws ∧ Cond.sameMethod x.cls owner x.name x.desc ∈ gws ∧ M1.1 = ⟨owner, x.name, x.desc⟩ ∧ owner ≠ "java/lang/invoke/MethodHandle" ∧ owner ≠ "java/lang/invoke/VarHandle" ∧ (parseMethodDescriptor x.desc).map (fun d => d.parameters.length) = some n) (hsel : ∀ ci ∈ cs, ∃ (C : String) (T : u_T) (N : Nat), xclasses[ci]? = some (C, T, N) ∧ Cond.selects C x M1.1 ∈ gws) (hck : ck cs h a = some u) (hE : xa_Ev G M1 d1 (.ref a :: As) h o1 h1) (hdd : d1 + 1 ≤ d) (hn : As.length = n) (hs : st0 = As.reverse ++ .ref a :: st) (hcat : (st.map fun v => v.category).sum ≤ 8) (hs1 : o1.toList ++ st = st1) (k : xa_V G M d (pc + 3) loc st1 h1 o h') : xa_V G M d pc loc st0 h o h' := by
  obtain ⟨ci, fs, hc, hci⟩ := xa_ckof hck
  obtain ⟨C, T, N, hcl, hse⟩ := hsel ci hci
  refine xa_call hE hs1 k (fun p e R s m args below meth c H locs cells slots ls A q1 q2 hl hW hf => ⟨(Value.ref (xa_ad G a) :: As.map (xa_sh G)).toArray, ?_⟩)
  have hts := A.2.2.2.2.2.2.2.1
  have hEn := A.2.2.2.2.2.2.2.2
  have hgood : GoodIn gws (va_wsU M.1.cls idx C owner x M1.1 (.code M1.1 M1.2.1 M1.2.2.1 M1.2.2.2 :: gws)) := by
    intro w hw
    have hm : w ∈ gws := by
      rcases List.mem_append.mp hw with z | z
      · simp only [List.mem_cons, List.not_mem_nil, or_false] at z
        rcases z with rfl | rfl | rfl | rfl | rfl
        · exact hC.2.1
        · exact hC.2.2.2.1
        · exact hse
        · exact hC.2.2.1
        · exact hC.1.2.1
      · exact (gws_sub hC.1.1 w z).1
    exact ⟨hm, good_of_word (gws_good hm)⟩
  refine va_runU (As := As.map (xa_sh G)) (C := C) ⟨A.1, A.2.1, A.2.2.2.1, A.2.2.2.2.1, hts⟩ hE.2.2 (va_cwU n hts hgood rfl rfl rfl hC.2.2.2.2.1 hC.2.2.2.2.2 (xa_room hdd q1 q2 hC.1.2.2.2)) ⟨xa_blind, xa_recv hW hEn hc hcl, xa_prec (av := .ref a :: As) hW hEn⟩ rfl (by rw [List.length_map]; exact hn) hl.1 ?_ (xa_catR hcat) hd hf
  show st0.map (xa_sh G) = _
  rw [hs, List.map_append, List.map_reverse]
  rfl
theorem v_callI {a : Nat} (hd : decode M.2.1 pc = .ok (.invokespecial idx, 3)) (hC : xa_CB M1 n ∧ Cond.methodLink M.1.cls idx M1.1 ∈ gws ∧ Cond.instanceMethod M1.1 ∈ gws ∧ M1.1.name = "<init>" ∧ M1.2.2.2 = none) (hE : xa_Ev G M1 d1 (.ref a :: As) h o1 h1) (hdd : d1 + 1 ≤ d) (hn : As.length = n) (hs : st0 = As.reverse ++ .ref a :: st) (hcat : (st.map fun v => v.category).sum ≤ 8) (hs1 : o1.toList ++ st = st1) (k : xa_V G M d (pc + 3) loc st1 h1 o h') : xa_V G M d pc loc st0 h o h' := by
  refine xa_call hE hs1 k (fun p e R s m args below meth c H locs cells slots ls A q1 q2 hl hW hf => ⟨(Value.ref (xa_ad G a) :: As.map (xa_sh G)).toArray, ?_⟩)
  have hts := A.2.2.2.2.2.2.2.1
  have hEn := A.2.2.2.2.2.2.2.2
  obtain ⟨y1, b1, l1, r1⟩ := M1
  obtain rfl : r1 = none := hC.2.2.2.2
  refine va_runI (As := As.map (xa_sh G)) ⟨A.1, A.2.1, A.2.2.2.1, A.2.2.2.2.1, hts⟩ hE.2.2 ⟨callB_of n hts (gws_sub hC.1.1) rfl rfl rfl (hts _ hC.1.2.1) (hts _ hC.2.1) hC.1.2.2.1 (xa_room hdd q1 q2 hC.1.2.2.2), hC.2.2.2.1, hts _ hC.2.2.1⟩ ⟨xa_blind, xa_prec (av := .ref a :: As) hW hEn⟩ rfl (by rw [List.length_map]; exact hn) hl.1 ?_ (xa_catR hcat) hd hf
  show st0.map (xa_sh G) = _
  rw [hs, List.map_append, List.map_reverse]
  rfl
/-- a nest mate's constructor -/
theorem v_callIN {a : Nat} {host : String} (hd : decode M.2.1 pc = .ok (.invokespecial idx, 3)) (hC : xa_CB M1 n ∧ Cond.methodLinkNest M.1.cls idx M1.1 host ∈ xa_nest ∧ Cond.instanceMethod M1.1 ∈ gws ∧ M1.1.name = "<init>" ∧ M1.2.2.2 = none) (hE : xa_Ev G M1 d1 (.ref a :: As) h o1 h1) (hdd : d1 + 1 ≤ d) (hn : As.length = n) (hs : st0 = As.reverse ++ .ref a :: st) (hcat : (st.map fun v => v.category).sum ≤ 8) (hs1 : o1.toList ++ st = st1) (k : xa_V G M d (pc + 3) loc st1 h1 o h') : xa_V G M d pc loc st0 h o h' := by
  refine xa_call hE hs1 k (fun p e R s m args below meth c H locs cells slots ls A q1 q2 hl hW hf => ⟨(Value.ref (xa_ad G a) :: As.map (xa_sh G)).toArray, ?_⟩)
  have hts := A.2.2.2.2.2.2.2.1
  have hEn := A.2.2.2.2.2.2.2.2
  obtain ⟨y1, b1, l1, r1⟩ := M1
  obtain rfl : r1 = none := hC.2.2.2.2
  refine va_runIN (As := As.map (xa_sh G)) (host := host) ⟨A.1, A.2.1, A.2.2.2.1, A.2.2.2.2.1, hts⟩ hE.2.2 ⟨va_cnB n hts (gws_sub hC.1.1) rfl rfl rfl (hEn.2.1 _ hC.2.1) (hts _ hC.1.2.1) hC.1.2.2.1 (xa_room hdd q1 q2 hC.1.2.2.2), hC.2.2.2.1, hts _ hC.2.2.1⟩ ⟨xa_blind, xa_prec (av := .ref a :: As) hW hEn⟩ rfl (by rw [List.length_map]; exact hn) hl.1 ?_ (xa_catR hcat) hd hf
  show st0.map (xa_sh G) = _
  rw [hs, List.map_append, List.map_reverse]
  rfl
end XG
