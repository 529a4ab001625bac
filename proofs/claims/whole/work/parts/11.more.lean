def nAI (h : xa_H) (n : Int32) : Option xa_H := if n < 0 ∨ 1000000 < n.toNatClampNeg then none else nC h (.inl (0, n.toNatClampNeg, .inl (fun _ => 0))) n.toNatClampNeg
def nAB (h : xa_H) (n : Int32) : Option xa_H := if n < 0 ∨ 1000000 < n.toNatClampNeg then none else nC h (.inl (1, n.toNatClampNeg, .inl (fun _ => 0))) n.toNatClampNeg
def nAZ (h : xa_H) (n : Int32) : Option xa_H := if n < 0 ∨ 1000000 < n.toNatClampNeg then none else nC h (.inl (2, n.toNatClampNeg, .inl (fun _ => 0))) n.toNatClampNeg
def nAL (h : xa_H) (n : Int32) : Option xa_H := if n < 0 ∨ 1000000 < n.toNatClampNeg then none else nC h (.inl (3, n.toNatClampNeg, .inr (.inl (fun _ => 0)))) n.toNatClampNeg
def nAR (h : xa_H) (n : Int32) : Option xa_H := if n < 0 ∨ 1000000 < n.toNatClampNeg then none else nC h (.inl (4, n.toNatClampNeg, .inr (.inr (.inr (.inr (fun _ => none)))))) n.toNatClampNeg
section XW
variable {G : xa_G} {M : xa_M} {d pc idx : Nat} {loc : List (Option Value)} {st : List Value} {h h2 h' : xa_H} {o : Option Value} {n : Int32}
theorem w_newaI (hd : decode M.2.1 pc = .ok (.newarray .int, 2)) (hw : Cond.arrayClass .int ∈ gws) (e : nAI h n = some h2) (k : xa_V G M d (pc + 2) loc (.ref h.2.1 :: st) h2 o h') : xa_V G M d pc loc (.int n :: st) h o h' := by
  unfold nAI at e
  split at e
  · cases e
  · rename_i c
    exact v_newaI hd hw (fun z => c (Or.inl z)) rfl (by have := Nat.not_lt.mp fun z => c (Or.inr z); omega) e k
theorem w_newaB (hd : decode M.2.1 pc = .ok (.newarray .byte, 2)) (hw : Cond.arrayClass .byte ∈ gws) (e : nAB h n = some h2) (k : xa_V G M d (pc + 2) loc (.ref h.2.1 :: st) h2 o h') : xa_V G M d pc loc (.int n :: st) h o h' := by
  unfold nAB at e
  split at e
  · cases e
  · rename_i c
    exact v_newaB hd hw (fun z => c (Or.inl z)) rfl (by have := Nat.not_lt.mp fun z => c (Or.inr z); omega) e k
theorem w_newaZ (hd : decode M.2.1 pc = .ok (.newarray .boolean, 2)) (hw : Cond.arrayClass .boolean ∈ gws) (e : nAZ h n = some h2) (k : xa_V G M d (pc + 2) loc (.ref h.2.1 :: st) h2 o h') : xa_V G M d pc loc (.int n :: st) h o h' := by
  unfold nAZ at e
  split at e
  · cases e
  · rename_i c
    exact v_newaZ hd hw (fun z => c (Or.inl z)) rfl (by have := Nat.not_lt.mp fun z => c (Or.inr z); omega) e k
theorem w_newaL (hd : decode M.2.1 pc = .ok (.newarray .long, 2)) (hw : Cond.arrayClass .long ∈ gws) (e : nAL h n = some h2) (k : xa_V G M d (pc + 2) loc (.ref h.2.1 :: st) h2 o h') : xa_V G M d pc loc (.int n :: st) h o h' := by
  unfold nAL at e
  split at e
  · cases e
  · rename_i c
    exact v_newaL hd hw (fun z => c (Or.inl z)) rfl (by have := Nat.not_lt.mp fun z => c (Or.inr z); omega) e k
theorem w_anew (hd : decode M.2.1 pc = .ok (.anewarray idx, 3)) (hw : Cond.classLink M.1.cls idx "CrossedFavours$Board" ∈ gws) (e : nAR h n = some h2) (k : xa_V G M d (pc + 3) loc (.ref h.2.1 :: st) h2 o h') : xa_V G M d pc loc (.int n :: st) h o h' := by
  unfold nAR at e
  split at e
  · cases e
  · rename_i c
    exact v_anew hd hw (fun z => c (Or.inl z)) rfl (by have := Nat.not_lt.mp fun z => c (Or.inr z); omega) e k
end XW
theorem xa_dflt {fs : List Value} {ty : Nat → FieldType} {N : Nat} (h1 : ∀ G : xa_G, fs.map (xa_sh G) = fs) (h2 : ∀ j, j < N → defaultValue (ty j) = vp_V fs j) : ∀ (G : xa_G) (j : Nat), j < N → defaultValue (ty j) = vp_V (fs.map (xa_sh G)) j := fun G j hj => by
  rw [h1 G]
  exact h2 j hj
theorem xa_nest_at (i : Nat) {a : String} {k : Nat} {y : MethodName} {b : String} (h : lw_tbl[i]? = some (.methodLinkNest a k y b)) : Cond.methodLinkNest a k y b ∈ xa_nest := List.mem_filter.mpr ⟨List.mem_of_getElem? h, rfl⟩
theorem v_ldcsw {G : xa_G} {M : xa_M} {d pc : Nat} {loc : List (Option Value)} {st : List Value} {h h' : xa_H} {o : Option Value} {tx : String} {i jj : Nat} (hd : decode M.2.1 pc = .ok (.ldc_w i, 3)) (hm : (M.1.cls, i, tx, jj) ∈ xs_ref) (k : xa_V G M d (pc + 3) loc (.ref (1000000010 + jj) :: st) h o h') : xa_V G M d pc loc st h o h' := by
  refine xa_go1 k (fun p e R s m args below meth c H locs cells slots Q ls A _ hW kk => ?_)
  have hz := A.2.2.2.2.2.2.2.2.2.2.2.1.2.1 _ hm
  rw [List.map_cons, show xa_sh G (.ref (1000000010 + jj)) = .ref (G.2.2.2.2.1 (10 + jj)) from congrArg Value.ref (xa_adS jj)] at kk
  intro T hT X
  obtain ⟨t, a1, b1⟩ := kk T hT X
  refine ⟨t, ?_, b1⟩
  have hzT : vk_R M.1.cls i tx (G.2.2.2.2.1 (10 + jj)) T := vk_R.warm X.warmed hz
  obtain ⟨kT, cf, q, b, w1, w2, w3, -, w4, w5⟩ := Cond.stringRef_spec ((X.warmed.alike.findClass _ _).trans A.2.2.2.2.1) hzT.1
  have hb : b = G.2.2.2.2.1 (10 + jj) := Value.ref.inj (Option.some.inj (w5.symm.trans hzT.2))
  rw [hb] at w4
  have hdc : decode c.code (F0 m pc ls (st.map (xa_sh G))).pc = .ok (.ldc_w i, 3) := by rw [A.2.1]; exact hd
  jvm_step X.here [A.1, hdc, Op.ldc_w.wp_string (e := e) (s := T) (f := F0 m pc ls (st.map (xa_sh G))) X.here.top w1 w2 w3 w4]
  exact a1
