/-! a static method that the named class inherits; what is made -/
section XU
variable {G : xa_G} {M M1 : xa_M} {d d1 pc idx n : Nat} {loc : List (Option Value)} {st st0 st1 : List Value} {h h1 h' : xa_H} {o o1 : Option Value} {As : List Value}
theorem v_callSU {x : MethodName} {owner : String} (hd : decode M.2.1 pc = .ok (.invokestatic idx, 3)) (hC : xa_CB M1 n ∧ Cond.methodLink M.1.cls idx x ∈ gws ∧ Cond.static M1.1 ∈ gws ∧ Cond.sameMethod x.cls owner x.name x.desc ∈ gws ∧ M1.1 = ⟨owner, x.name, x.desc⟩ ∧ owner ≠ "java/lang/invoke/MethodHandle" ∧ owner ≠ "java/lang/invoke/VarHandle") (hE : xa_Ev G M1 d1 As h o1 h1) (hdd : d1 + 1 ≤ d) (hn : As.length = n) (hs : st0 = As.reverse ++ st) (hcat : (st.map fun v => v.category).sum ≤ 8) (hs1 : o1.toList ++ st = st1) (k : xa_V G M d (pc + 3) loc st1 h1 o h') : xa_V G M d pc loc st0 h o h' := by
  refine xa_call hE hs1 k (fun p e R s m args below meth c H locs cells slots ls A q1 q2 hl hW hf => ⟨(As.map (xa_sh G)).toArray, ?_⟩)
  have hts := A.2.2.2.2.2.2.2.1
  have hEn := A.2.2.2.2.2.2.2.2
  obtain ⟨⟨c1, c2, c3, c4⟩, hlk, hst, hsm, hM1, hw1, hw2⟩ := hC
  have hroom := xa_room hdd q1 q2 c4
  have hK : Back G.1 R p e below s args M1.1 3 8 (PreOf R (h1.2.1 - h.2.1) (h1.2.2 - h.2.2) (fun a U => a = (As.map (xa_sh G)).toArray ∧ xa_Wd G h U.heap ∧ xa_En G U)) (PostOf (xa_Q G o1 h1) (h1.2.1 - h.2.1) (h1.2.2 - h.2.2) (fun q => xa_b G ≤ q)) :=
    back_of (bytes := M1.2.1) (maxL := M1.2.2.1) (ret := M1.2.2.2) hE.2.2 xa_blind rfl rfl hroom.1 hroom.2 (pay_in hts (gws_sub c1)) List.mem_cons_self (fun a' U hWm => word_at hWm (good_of_word (gws_good c2)) (hts _ c2))
  intro T hT X
  obtain ⟨mk, me, K, named, meth1, cls1, stat, ini, sig⟩ := xi_ready (hts _ c1) (hts _ hst) (hts _ c2)
  have hlen : (As.map (xa_sh G)).length = me.sig.parameters.length := by
    have h2 := c3.2.2
    rw [sig] at h2
    rw [List.length_map, hn]
    exact (Option.some.inj h2).symm
  have hstack : (F0 m pc ls (st0.map (xa_sh G))).stack = (As.map (xa_sh G)).reverse ++ st.map (xa_sh G) := by
    show st0.map (xa_sh G) = _
    rw [hs, List.map_append, List.map_reverse]
  have named2 := named
  rw [hM1] at named2
  obtain ⟨vm₁, X₁, hstep₁⟩ := xz_up X A.1 (g := F0 m pc ls (st0.map (xa_sh G))) rfl (by rw [A.2.1]; exact hd) A.2.2.2.2.1 (hts _ hlk) (hts _ hsm) ⟨hw1, hw2⟩ named2 meth1 cls1 stat ini hlen hstack
  obtain ⟨v, ⟨U', l2, cc2, s2⟩, X', ⟨g', mk', t, L, e1, e2, hq, w1, hL, w2, w3⟩, hsteps⟩ := hK m meth c ⟨T.setVm vm₁, locs, cells, slots⟩ { F0 m pc ls (st0.map (xa_sh G)) with stack := st.map (xa_sh G) } (.invokestatic idx) mk (As.map (xa_sh G)).toArray X₁ rfl (hl.1.trans A.2.2.2.1.symm) (by rw [A.2.1]; exact hd) (xa_catR hcat) (X₁.named named) ⟨hf.1, hf.2, rfl, by show xa_Wd G h T.heap; rw [hT]; exact hW, xa_En.warm X₁.warmed hEn⟩
  dsimp only [Pt.U, Pt.locs, Pt.cells, Pt.slots] at X' e1 e2 w1 w2 w3 hsteps
  subst w1; subst w2; subst w3
  exact ⟨v, (T.setVm vm₁).calling g' mk' (As.map (xa_sh G)).toArray, t, U', L, hT, X', hL, e1, e2, hq, fun target ht => hstep₁ _ fun acts => by rw [doInvoke_state]; exact hsteps.trans ht⟩
end XU
/-- one more cell -/
def xn (h : xa_H) (c : xa_C) (sl : Nat) : xa_H := (fun j => if j = h.2.1 then some c else h.1 j, h.2.1 + 1, h.2.2 + sl)
def nC (h : xa_H) (c : xa_C) (sl : Nat) : Option xa_H := if h.2.1 < 100000000 then some (xn h c sl) else none
theorem nC_of {h h2 : xa_H} {c : xa_C} {sl : Nat} (e : nC h c sl = some h2) : h.2.1 < 100000000 ∧ h2 = xn h c sl := by
  unfold nC at e
  split at e
  · rename_i q
    exact ⟨q, (Option.some.inj e).symm⟩
  · cases e
theorem xa_Wd.push {G : xa_G} {h : xa_H} {H H1 : Heap} {e1 : xa_C} {sl : Nat} (hW : xa_Wd G h H) (hn : h.2.1 < 100000000) (he : va_at G.2.1 xclasses (H.size, xa_cv G e1) H1) (hz : H1.size = H.size + 1) (hq : ∀ q : Nat, q < H.size → H1[q]? = H[q]?) : xa_Wd G (xn h e1 sl) H1 := by
  have h1 := hW.1
  refine ⟨by rw [hz, h1]; rfl, by show h.2.1 + 1 < _; omega, fun q hq1 => ?_, fun k e hk => ?_⟩
  · rw [hq q (by omega)]
    exact hW.2.2.1 q hq1
  · unfold xn at hk
    dsimp only at hk
    by_cases c : k = h.2.1
    · rw [if_pos c] at hk
      cases hk
      subst c
      rw [← h1]
      exact ⟨Nat.lt_succ_self _, he⟩
    · rw [if_neg c] at hk
      have h2 := hW.2.2.2 k e hk
      refine ⟨Nat.lt_succ_of_lt h2.1, h2.2.kept (hq _ ?_)⟩
      show xa_b G + k < H.size
      have := h2.1
      omega
section XV
variable {G : xa_G} {M : xa_M} {d pc idx : Nat} {loc : List (Option Value)} {st : List Value} {h h2 h' : xa_H} {o : Option Value}
/-- an instruction that makes one cell -/
theorem xa_goM {pc2 sl : Nat} {st2 : List Value} {c1 : xa_C} (e0 : nC h c1 sl = some h2) (k : xa_V G M d pc2 loc st2 h2 o h')
    (f : ∀ (p : Program) (e : Env) (R : Room) (s : State) (m : MethodId) (args : Array Value) (below : List Frame) (meth : Method) (c : Code) (H : Heap) (locs : List Loc) (cells slots : Nat) (Q : State → Prop) (ls : Array Slot), xa_At G M p s m args meth c → xa_lh G ls M.2.2.1 loc → xa_Wd G h H → cells + 1 ≤ R.cells → slots + sl ≤ R.slots → H.size = xa_b G + h.2.1 → xa_ad G h.2.1 = H.size →
      (∀ (H1 : Heap), va_at G.2.1 xclasses (H.size, xa_cv G c1) H1 → H1.size = H.size + 1 → (∀ q : Nat, q < H.size → H1[q]? = H[q]?) → W p G.1 e R s m args below meth c H1 locs (cells + 1) (slots + sl) Q (F0 m pc2 ls (st2.map (xa_sh G)))) → W p G.1 e R s m args below meth c H locs cells slots Q (F0 m pc ls (st.map (xa_sh G)))) : xa_V G M d pc loc st h o h' := by
  obtain ⟨hn, rfl⟩ := nC_of e0
  have k1 := k.1
  have k2 := k.2.1
  have z1 : (xn h c1 sl).2.1 = h.2.1 + 1 := rfl
  have z2 : (xn h c1 sl).2.2 = h.2.2 + sl := rfl
  rw [z1] at k1
  rw [z2] at k2
  refine ⟨by omega, by omega, fun p e R s m args below meth c H locs cells slots ls A h1 h2 h3 h4 hW hL hl => ?_⟩
  refine f p e R s m args below meth c H locs cells slots _ ls A hl hW (by omega) (by omega) hW.1 (by rw [xa_ad_lo (by omega)]; exact hW.1.symm) (fun H1 a1 a2 a3 => ?_)
  have key := k.2.2 p e R s m args below meth c H1 locs (cells + 1) (slots + sl) ls A h1 h2 (by rw [z1]; omega) (by rw [z2]; omega) (hW.push hn a1 a2 a3) hL hl
  rw [z1, z2, show cells + 1 + (h'.2.1 - (h.2.1 + 1)) = cells + (h'.2.1 - h.2.1) by omega, show slots + sl + (h'.2.2 - (h.2.2 + sl)) = slots + (h'.2.2 - h.2.2) by omega] at key
  exact key
def xa_NW (own : String) (idx ci : Nat) (fs : List Value) : Prop := ∃ (C : String) (T : u_T) (N : Nat) (ty : Nat → FieldType), xclasses[ci]? = some (C, T, N) ∧ (∀ w ∈ u_ws C T N, w ∈ gws) ∧ (∀ k, k < N → parseFieldDescriptor (T k).2.2.1 = some (ty k)) ∧ Cond.classLink own idx C ∈ gws ∧ Cond.instantiable C N ∈ gws ∧ Cond.initialized C ∈ gws ∧ fs.length = N ∧ ∀ (G : xa_G) (j : Nat), j < N → defaultValue (ty j) = vp_V (fs.map (xa_sh G)) j
theorem v_new {ci : Nat} {fs : List Value} (hd : decode M.2.1 pc = .ok (.new idx, 3)) (hN : xa_NW M.1.cls idx ci fs) (e : nC h (.inr (ci, fs)) fs.length = some h2) (k : xa_V G M d (pc + 3) loc (.ref h.2.1 :: st) h2 o h') : xa_V G M d pc loc st h o h' := by
  obtain ⟨C, T, N, ty, q1, q2, q3, q4, q5, q6, q7, q8⟩ := hN
  refine xa_goM e k (fun p e R s m args below meth c H locs cells slots Q ls A L hW r1 r2 hz had kk => ?_)
  have hts := A.2.2.2.2.2.2.2.1
  have hK := A.2.2.2.2.2.2.2.2.1
  have hKn := hK.1 ci _ q1
  subst q7
  refine W.newcK A.1 A.2.1 A.2.2.2.2.1 (hts _ q4) (hts _ q5) (hts _ q6) rfl hd r1 r2 hKn.2.1 rfl fun H1 kC hkC e1 z1 o1 => ?_
  have key := kk H1 ⟨_, q1, (u_born ty hts q2 hKn hkC e1 q3).to (q8 G)⟩ z1 o1
  rw [List.map_cons, show xa_sh G (.ref h.2.1) = .ref H.size from congrArg Value.ref had] at key
  exact key
theorem xa_aid {s : State} {t : Nat} {ty : FieldType} {cA : ClassId} (hK : va_K G.2.1 xclasses (xa_tys G) s) (ht : (xa_tys G)[t]? = some (G.2.2.1 t, ty)) (hp : ∀ C, ty ≠ .object C) (hf : s.vm.findClass ("[" ++ ty.toString) = some cA) : cA = G.2.2.1 t := by
  have h1 := (hK.2 t _ ht).2
  have h2 : s.vm.findClass ("[" ++ ty.toString) = some (G.2.2.1 t) := by
    cases ty with
    | object C => exact absurd rfl (hp C)
    | _ => exact h1
  exact Option.some.inj (hf.symm.trans h2)
theorem v_newaI {n : Int32} {N : Nat} (hd : decode M.2.1 pc = .ok (.newarray .int, 2)) (hw : Cond.arrayClass .int ∈ gws) (hn : ¬ n < 0) (hN : n.toNatClampNeg = N) (hb : N * 4 ≤ 536870912) (e : nC h (.inl (0, N, .inl (fun _ => 0))) N = some h2) (k : xa_V G M d (pc + 2) loc (.ref h.2.1 :: st) h2 o h') : xa_V G M d pc loc (.int n :: st) h o h' := by
  refine xa_goM e k (fun p e R s m args below meth c H locs cells slots Q ls A L hW r1 r2 hz had kk => ?_)
  refine va_newaK (atype := .int) A.1 A.2.1 (A.2.2.2.2.2.2.2.1 _ hw) (g := F0 m pc ls (.int n :: st.map (xa_sh G))) rfl hd rfl hn hN hb r1 r2 rfl fun H1 cA e1 z1 o1 hAr hNm => ?_
  have hc := xa_aid A.2.2.2.2.2.2.2.2.1 (t := 0) rfl (fun C q => by cases q) hNm
  subst hc
  have key := kk H1 (show H1[H.size]? = some (vp_cell (G.2.2.1 0) (N, .inl (fun _ => 0))) by rw [vp_cell_i]; exact e1) z1 o1
  rw [List.map_cons, show xa_sh G (.ref h.2.1) = .ref H.size from congrArg Value.ref had] at key
  exact key
theorem v_newaB {n : Int32} {N : Nat} (hd : decode M.2.1 pc = .ok (.newarray .byte, 2)) (hw : Cond.arrayClass .byte ∈ gws) (hn : ¬ n < 0) (hN : n.toNatClampNeg = N) (hb : N * 1 ≤ 536870912) (e : nC h (.inl (1, N, .inl (fun _ => 0))) N = some h2) (k : xa_V G M d (pc + 2) loc (.ref h.2.1 :: st) h2 o h') : xa_V G M d pc loc (.int n :: st) h o h' := by
  refine xa_goM e k (fun p e R s m args below meth c H locs cells slots Q ls A L hW r1 r2 hz had kk => ?_)
  refine va_newaK (atype := .byte) A.1 A.2.1 (A.2.2.2.2.2.2.2.1 _ hw) (g := F0 m pc ls (.int n :: st.map (xa_sh G))) rfl hd rfl hn hN hb r1 r2 rfl fun H1 cA e1 z1 o1 hAr hNm => ?_
  have hc := xa_aid A.2.2.2.2.2.2.2.2.1 (t := 1) rfl (fun C q => by cases q) hNm
  subst hc
  have key := kk H1 (show H1[H.size]? = some (vp_cell (G.2.2.1 1) (N, .inl (fun _ => 0))) by rw [vp_cell_i]; exact e1) z1 o1
  rw [List.map_cons, show xa_sh G (.ref h.2.1) = .ref H.size from congrArg Value.ref had] at key
  exact key
theorem v_newaZ {n : Int32} {N : Nat} (hd : decode M.2.1 pc = .ok (.newarray .boolean, 2)) (hw : Cond.arrayClass .boolean ∈ gws) (hn : ¬ n < 0) (hN : n.toNatClampNeg = N) (hb : N * 1 ≤ 536870912) (e : nC h (.inl (2, N, .inl (fun _ => 0))) N = some h2) (k : xa_V G M d (pc + 2) loc (.ref h.2.1 :: st) h2 o h') : xa_V G M d pc loc (.int n :: st) h o h' := by
  refine xa_goM e k (fun p e R s m args below meth c H locs cells slots Q ls A L hW r1 r2 hz had kk => ?_)
  refine va_newaK (atype := .boolean) A.1 A.2.1 (A.2.2.2.2.2.2.2.1 _ hw) (g := F0 m pc ls (.int n :: st.map (xa_sh G))) rfl hd rfl hn hN hb r1 r2 rfl fun H1 cA e1 z1 o1 hAr hNm => ?_
  have hc := xa_aid A.2.2.2.2.2.2.2.2.1 (t := 2) rfl (fun C q => by cases q) hNm
  subst hc
  have key := kk H1 (show H1[H.size]? = some (vp_cell (G.2.2.1 2) (N, .inl (fun _ => 0))) by rw [vp_cell_i]; exact e1) z1 o1
  rw [List.map_cons, show xa_sh G (.ref h.2.1) = .ref H.size from congrArg Value.ref had] at key
  exact key
theorem v_newaL {n : Int32} {N : Nat} (hd : decode M.2.1 pc = .ok (.newarray .long, 2)) (hw : Cond.arrayClass .long ∈ gws) (hn : ¬ n < 0) (hN : n.toNatClampNeg = N) (hb : N * 8 ≤ 536870912) (e : nC h (.inl (3, N, .inr (.inl (fun _ => 0)))) N = some h2) (k : xa_V G M d (pc + 2) loc (.ref h.2.1 :: st) h2 o h') : xa_V G M d pc loc (.int n :: st) h o h' := by
  refine xa_goM e k (fun p e R s m args below meth c H locs cells slots Q ls A L hW r1 r2 hz had kk => ?_)
  refine va_newaK (atype := .long) A.1 A.2.1 (A.2.2.2.2.2.2.2.1 _ hw) (g := F0 m pc ls (.int n :: st.map (xa_sh G))) rfl hd rfl hn hN hb r1 r2 rfl fun H1 cA e1 z1 o1 hAr hNm => ?_
  have hc := xa_aid A.2.2.2.2.2.2.2.2.1 (t := 3) rfl (fun C q => by cases q) hNm
  subst hc
  have key := kk H1 (show H1[H.size]? = some (vp_cell (G.2.2.1 3) (N, .inr (.inl (fun _ => 0)))) by rw [vp_cell_l]; exact e1) z1 o1
  rw [List.map_cons, show xa_sh G (.ref h.2.1) = .ref H.size from congrArg Value.ref had] at key
  exact key
theorem v_anew {n : Int32} {N : Nat} (hd : decode M.2.1 pc = .ok (.anewarray idx, 3)) (hw : Cond.classLink M.1.cls idx "CrossedFavours$Board" ∈ gws) (hn : ¬ n < 0) (hN : n.toNatClampNeg = N) (hb : N * 4 ≤ 536870912) (e : nC h (.inl (4, N, .inr (.inr (.inr (.inr (fun _ => none)))))) N = some h2) (k : xa_V G M d (pc + 3) loc (.ref h.2.1 :: st) h2 o h') : xa_V G M d pc loc (.int n :: st) h o h' := by
  refine xa_goM e k (fun p e R s m args below meth c H locs cells slots Q ls A L hW r1 r2 hz had kk => ?_)
  subst hN
  have hEn := A.2.2.2.2.2.2.2.2
  refine W.anew A.1 A.2.1 A.2.2.2.2.1 (A.2.2.2.2.2.2.2.1 _ hw) (va_AO.use hEn.2.2.2.2.1) (g := F0 m pc ls (.int n :: st.map (xa_sh G))) rfl hd rfl hn hb r1 r2 fun cA kA comp f1 f2 f3 f4 => ?_
  have hc : cA = G.2.2.1 4 := by
    obtain ⟨kA', comp', g1, g2, g3, g4⟩ := (hEn.1.2 4 (G.2.2.1 4, .object "CrossedFavours$Board") rfl).2
    first | exact Option.some.inj (f1.symm.trans g4) | exact Option.some.inj (f4.symm.trans g4)
  subst hc
  rw [arrV_new]
  obtain ⟨p1, p2, p3⟩ := xi_push H (arrV (G.2.2.1 4) n.toNatClampNeg fun _ => .null)
  have key := kk (H.push (arrV (G.2.2.1 4) n.toNatClampNeg fun _ => .null)) p1 p2 p3
  rw [List.map_cons, show xa_sh G (.ref h.2.1) = .ref H.size from congrArg Value.ref had] at key
  exact key
/-- a Board into an array of Boards -/
def pR (h : xa_H) (a : Nat) (i : Int32) (v : Nat) : Option xa_H := match h.1 a, h.1 v with
  | some (.inl (4, n, .inr (.inr (.inr (.inr f))))), some (.inr (0, _)) => if i < 0 ∨ n ≤ i.toNatClampNeg then none else some (xu h a (.inl (4, n, .inr (.inr (.inr (.inr (va_up f i.toNatClampNeg (some v))))))))
  | _, _ => none
/-- a row of references with one put anew -/
theorem xi_rf {G : xa_G} {x : ClassId} {n i v : Nat} {f : Nat → Option Nat} : (vp_cell x (n, .inr (.inr (.inr (.inr (fun j => (f j).map (xa_ad G))))))).setSlot i (.ref (xa_ad G v)) = vp_cell x (n, .inr (.inr (.inr (.inr (fun j => (va_up f i (some v) j).map (xa_ad G)))))) := by
  simp only [vp_cell_q, arrV_store]
  refine congrArg (arrV x n) (funext fun j => ?_)
  unfold updV va_up
  split <;> rfl
theorem v_aastore {a v : Nat} {i : Int32} (hd : decode M.2.1 pc = .ok (.aastore, 1)) (e : pR h a i v = some h2) (kk : xa_V G M d (pc + 1) loc st h2 o h') : xa_V G M d pc loc (.ref v :: .int i :: .ref a :: st) h o h' := by
  unfold pR at e
  split at e
  · rename_i n f vs ha hv
    split at e
    · cases e
    · rename_i hin
      simp only [not_or, Nat.not_le] at hin
      cases e
      refine xa_goW kk rfl (fun p e R s m args below meth c H locs cells slots Q ls A _ hW hL kk => ?_)
      obtain ⟨hcl, har⟩ := A.2.2.2.2.2.2.2.2.1
      obtain ⟨lo, row⟩ := xa_at_ad hW ha
      obtain ⟨-, w, hw0, ob, b1, b2, b3, -⟩ := xa_at_ad hW hv
      cases hw0
      obtain ⟨y1, y2, y3, y4, y5, -⟩ := (har 4 (G.2.2.1 4, .object "CrossedFavours$Board") rfl).2
      have board := (hcl 0 _ rfl).2
      obtain ⟨kB, isB, -⟩ := board.2
      have hy2 : y2 = G.2.1.1 0 := Option.some.inj (y5.symm.trans board.1)
      rw [hy2] at y4
      have size : (vp_cell (G.2.2.1 4) (n, .inr (.inr (.inr (.inr (fun j => (f j).map (xa_ad G))))))).slots.size = n := arrV_size ..
      have ofB : s.vm.classes[ob.cls]? = some kB ∧ s.vm.assignable ob.cls (G.2.1.1 0) = true := by
        rw [b2]
        exact ⟨isB, va_assign board⟩
      refine W.aast A.1 A.2.1 row (fun _ w => (nomatch w)) (fun w => (nomatch w)) y3 y4 rfl isB ⟨hin.1, size.symm ▸ hin.2⟩ b1 (fun _ w => by rw [b3] at w; cases w) ofB.1 ofB.2 rfl rfl hd fun H1 w1 w2 w3 => ?_
      exact kk H1 _ (hW.put ha (w1.trans (congrArg some xi_rf)) w2 w3) (by show xa_b G ≤ xa_ad G a; omega)
  · cases e
/-- int[n][k] -/
def xm (h : xa_H) (n k : Nat) : xa_H := (fun j => if j = h.2.1 then some (.inl (5, n, .inr (.inr (.inr (.inr (fun i => if i < n then some (h.2.1 + 1 + i) else none)))))) else if h.2.1 < j ∧ j < h.2.1 + 1 + n then some (.inl (0, k, .inl (fun _ => 0))) else h.1 j, h.2.1 + 1 + n, h.2.2 + n + n * k)
def nM (h : xa_H) (n k : Int32) : Option xa_H := if n < 0 ∨ k < 0 ∨ 1000 < n.toNatClampNeg ∨ 1000 < k.toNatClampNeg ∨ 100000000 ≤ h.2.1 then none else some (xm h n.toNatClampNeg k.toNatClampNeg)
theorem v_mna {n k : Int32} (hd : decode M.2.1 pc = .ok (.multianewarray idx 2, 4)) (hw : Cond.classLink M.1.cls idx "[[I" ∈ gws ∧ Cond.arrayClass .int ∈ gws) (e : nM h n k = some h2) (kk : xa_V G M d (pc + 4) loc (.ref h.2.1 :: st) h2 o h') : xa_V G M d pc loc (.int k :: .int n :: st) h o h' := by
  unfold nM at e
  split at e
  · cases e
  · rename_i hc
    have e := Option.some.inj e
    subst e
    have hn0 : ¬ n < 0 := fun z => hc (Or.inl z)
    have hk0 : ¬ k < 0 := fun z => hc (Or.inr (Or.inl z))
    have hn1 : n.toNatClampNeg ≤ 1000 := Nat.not_lt.mp fun z => hc (Or.inr (Or.inr (Or.inl z)))
    have hk1 : k.toNatClampNeg ≤ 1000 := Nat.not_lt.mp fun z => hc (Or.inr (Or.inr (Or.inr (Or.inl z))))
    have hsz : h.2.1 < 100000000 := Nat.not_le.mp fun z => hc (Or.inr (Or.inr (Or.inr (Or.inr z))))
    have k1 : h.2.1 + 1 + n.toNatClampNeg ≤ h'.2.1 := kk.1
    have k2 : h.2.2 + n.toNatClampNeg + n.toNatClampNeg * k.toNatClampNeg ≤ h'.2.2 := kk.2.1
    refine ⟨by omega, by omega, fun p e R s m args below meth c H locs cells slots ls A h1 h2 h3 h4 hW hL hl => ?_⟩
    have hts := A.2.2.2.2.2.2.2.1
    have hEn := A.2.2.2.2.2.2.2.2
    intro T hT X
    refine xz_mna X A.1 (g := F0 m pc ls (.int k :: .int n :: st.map (xa_sh G))) rfl (by rw [A.2.1]; exact hd) A.2.2.2.2.1 (hts _ hw.1) hEn.2.2.2.2.2 (hts _ hw.2) rfl hn0 hk0 hn1 hk1 (by omega) (by omega) (fun F cA comp fA fC X' f1 f2 hrow hold => ?_)
    have hc5 : cA = G.2.2.1 5 := xa_aid hEn.1 (t := 5) (ty := .array .int) rfl (fun C q => by cases q) fA
    have hc0 : comp = G.2.2.1 0 := xa_aid hEn.1 (t := 0) (ty := .int) rfl (fun C q => by cases q) fC
    subst hc5
    subst hc0
    rw [hT] at f1 f2 hrow hold
    have hs1 := hW.1
    have hW1 : xa_Wd G (xm h n.toNatClampNeg k.toNatClampNeg) F.heap := by
      refine ⟨by rw [f1, hs1]; show _ = xa_b G + (h.2.1 + 1 + n.toNatClampNeg); omega, by show h.2.1 + 1 + n.toNatClampNeg < _; omega, fun q hq => by rw [hold q (by omega)]; exact hW.2.2.1 q hq, fun j e he => ?_⟩
      unfold xm at he
      dsimp only at he
      by_cases c1 : j = h.2.1
      · rw [if_pos c1] at he
        cases he
        subst c1
        refine ⟨by show h.2.1 < h.2.1 + 1 + n.toNatClampNeg; omega, ?_⟩
        show F.heap[xa_b G + h.2.1]? = some (vp_cell (G.2.2.1 5) (n.toNatClampNeg, .inr (.inr (.inr (.inr (fun i => (if i < n.toNatClampNeg then some (h.2.1 + 1 + i) else none).map (xa_ad G)))))))
        rw [← hs1, f2, vp_cell_q]
        congr 2
        funext i
        by_cases ci : i < n.toNatClampNeg
        · rw [if_pos ci, if_pos ci, Option.map_some, xa_ad_lo (by omega)]
          congr 1
          rw [hs1]
          congr 1
          omega
        · rw [if_neg ci, if_neg ci]
          rfl
      · rw [if_neg c1] at he
        by_cases c2 : h.2.1 < j ∧ j < h.2.1 + 1 + n.toNatClampNeg
        · rw [if_pos c2] at he
          cases he
          refine ⟨c2.2, ?_⟩
          have := hrow (j - h.2.1 - 1) (by omega)
          rw [show H.size + 1 + (j - h.2.1 - 1) = xa_b G + j by omega] at this
          exact this
        · rw [if_neg c2] at he
          have q := hW.2.2.2 j e he
          refine ⟨by show j < h.2.1 + 1 + n.toNatClampNeg; omega, q.2.kept (hold _ ?_)⟩
          show xa_b G + j < H.size
          omega
    have z1 : (xm h n.toNatClampNeg k.toNatClampNeg).2.1 = h.2.1 + 1 + n.toNatClampNeg := rfl
    have z2 : (xm h n.toNatClampNeg k.toNatClampNeg).2.2 = h.2.2 + n.toNatClampNeg + n.toNatClampNeg * k.toNatClampNeg := rfl
    have key := kk.2.2 p e R s m args below meth c F.heap locs (cells + 1 + n.toNatClampNeg) (slots + n.toNatClampNeg + n.toNatClampNeg * k.toNatClampNeg) ls A h1 h2 (by rw [z1]; omega) (by rw [z2]; omega) hW1 hL hl
    rw [z1, z2, show cells + 1 + n.toNatClampNeg + (h'.2.1 - (h.2.1 + 1 + n.toNatClampNeg)) = cells + (h'.2.1 - h.2.1) by omega, show slots + n.toNatClampNeg + n.toNatClampNeg * k.toNatClampNeg + (h'.2.2 - (h.2.2 + n.toNatClampNeg + n.toNatClampNeg * k.toNatClampNeg)) = slots + (h'.2.2 - h.2.2) by omega] at key
    obtain ⟨t, a1, b1⟩ := key F rfl X'
    refine ⟨t, ?_, b1⟩
    have had : xa_ad G h.2.1 = T.heap.size := by rw [xa_ad_lo (by omega), hT, hs1]
    rw [List.map_cons, show xa_sh G (.ref h.2.1) = .ref T.heap.size from congrArg Value.ref had] at a1
    exact a1
theorem v_objInit {a : Nat} (hd : decode M.2.1 pc = .ok (.invokespecial idx, 3)) (hw : Cond.methodLink M.1.cls idx objectInit ∈ gws ∧ Cond.instanceMethod objectInit ∈ gws ∧ Cond.code objectInit ⟨#[0xb1]⟩ 1 none ∈ gws) (h1 : 1 ≤ d) (hcat : (st.map fun v => v.category).sum ≤ 8) (k : xa_V G M d (pc + 3) loc st h o h') : xa_V G M d pc loc (.ref a :: st) h o h' := by
  refine xa_go2 k (fun p e R s m args below meth c H locs cells slots Q ls A L _ r1 r2 r3 r4 kk => ?_)
  have hts := A.2.2.2.2.2.2.2.1
  refine W.objInit A.1 A.2.1 A.2.2.2.2.1 (hts _ hw.1) (hts _ hw.2.1) (hts _ hw.2.2) rfl (by rw [A.2.2.2.1]; exact L.1) rfl hd (Nat.le_trans h1 r1) ?_ kk
  show 2 * 0 + _ + 12 ≤ R.locals
  have : 64 ≤ d * 64 := by have := Nat.mul_le_mul_right 64 h1; omega
  rw [xa_catS]
  omega
end XV
