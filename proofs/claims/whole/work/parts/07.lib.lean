/-! Math, arraycopy, static arrays -/
section XH
variable {G : xa_G} {M : xa_M} {d pc idx : Nat} {loc loc' : List (Option Value)} {st : List Value} {h h2 h' : xa_H} {o : Option Value}
theorem xa_go2 {pc2 : Nat} {st2 : List Value} (k : xa_V G M d pc2 loc st2 h o h')
    (f : ∀ (p : Program) (e : Env) (R : Room) (s : State) (m : MethodId) (args : Array Value) (below : List Frame) (meth : Method) (c : Code) (H : Heap) (locs : List Loc) (cells slots : Nat) (Q : State → Prop) (ls : Array Slot), xa_At G M p s m args meth c → xa_lh G ls M.2.2.1 loc → xa_Wd G h H → d ≤ R.frames → d * 64 ≤ R.locals → cells ≤ R.cells → slots ≤ R.slots →
      W p G.1 e R s m args below meth c H locs cells slots Q (F0 m pc2 ls (st2.map (xa_sh G))) → W p G.1 e R s m args below meth c H locs cells slots Q (F0 m pc ls (st.map (xa_sh G)))) : xa_V G M d pc loc st h o h' :=
  ⟨k.1, k.2.1, fun p e R s m args below meth c H locs cells slots ls A h1 h2 h3 h4 hW hL hl => f p e R s m args below meth c H locs cells slots _ ls A hl hW h1 h2 (Nat.le_trans (Nat.le_add_right _ _) h3) (Nat.le_trans (Nat.le_add_right _ _) h4) (k.2.2 p e R s m args below meth c H locs cells slots ls A h1 h2 h3 h4 hW hL hl)⟩
theorem xa_catS : ((st.map (xa_sh G)).map fun v => v.category).sum = (st.map fun v => v.category).sum := by
  rw [List.map_map, show ((fun v => v.category) ∘ xa_sh G) = (fun v : Value => v.category) from funext (xa_cat G)]
theorem v_mmax {x y : Int32} (hd : decode M.2.1 pc = .ok (.invokestatic idx, 3)) (hw : Cond.methodLink M.1.cls idx Lib.Math.max.name ∈ gws ∧ Cond.static Lib.Math.max.name ∈ gws ∧ Cond.initialized "java/lang/Math" ∈ gws ∧ Cond.code Lib.Math.max.name Lib.Math.max.code 2 (some .int) ∈ gws) (h1 : 1 ≤ d) (hcat : (st.map fun v => v.category).sum ≤ 8) (k : xa_V G M d (pc + 3) loc (.int (if x < y then y else x) :: st) h o h') : xa_V G M d pc loc (.int y :: .int x :: st) h o h' :=
  xa_go2 k (fun p e R s m args below meth c H locs cells slots Q ls A L _ r1 r2 r3 r4 kk => va_mmax A.1 A.2.1 (A.2.2.2.1.trans L.1.symm) A.2.2.2.2.1 (A.2.2.2.2.2.2.2.1 _ hw.1) (A.2.2.2.2.2.2.2.1 _ hw.2.1) (A.2.2.2.2.2.2.2.1 _ hw.2.2.1) (A.2.2.2.2.2.2.2.1 _ hw.2.2.2) (Nat.le_trans h1 r1) (by rw [xa_catS]; omega) r3 r4 hd kk)
theorem v_mmin {x y : Int32} (hd : decode M.2.1 pc = .ok (.invokestatic idx, 3)) (hw : Cond.methodLink M.1.cls idx Lib.Math.min.name ∈ gws ∧ Cond.static Lib.Math.min.name ∈ gws ∧ Cond.initialized "java/lang/Math" ∈ gws ∧ Cond.code Lib.Math.min.name Lib.Math.min.code 2 (some .int) ∈ gws) (h1 : 1 ≤ d) (hcat : (st.map fun v => v.category).sum ≤ 8) (k : xa_V G M d (pc + 3) loc (.int (if y < x then y else x) :: st) h o h') : xa_V G M d pc loc (.int y :: .int x :: st) h o h' :=
  xa_go2 k (fun p e R s m args below meth c H locs cells slots Q ls A L _ r1 r2 r3 r4 kk => va_mmin A.1 A.2.1 (A.2.2.2.1.trans L.1.symm) A.2.2.2.2.1 (A.2.2.2.2.2.2.2.1 _ hw.1) (A.2.2.2.2.2.2.2.1 _ hw.2.1) (A.2.2.2.2.2.2.2.1 _ hw.2.2.1) (A.2.2.2.2.2.2.2.1 _ hw.2.2.2) (Nat.le_trans h1 r1) (by rw [xa_catS]; omega) r3 r4 hd kk)
theorem v_mabs {x : Int32} (hd : decode M.2.1 pc = .ok (.invokestatic idx, 3)) (hw : Cond.methodLink M.1.cls idx Lib.Math.abs.name ∈ gws ∧ Cond.static Lib.Math.abs.name ∈ gws ∧ Cond.initialized "java/lang/Math" ∈ gws ∧ Cond.code Lib.Math.abs.name Lib.Math.abs.code 1 (some .int) ∈ gws) (h1 : 1 ≤ d) (hcat : (st.map fun v => v.category).sum ≤ 8) (k : xa_V G M d (pc + 3) loc (.int (if 0 ≤ x then x else 0 - x) :: st) h o h') : xa_V G M d pc loc (.int x :: st) h o h' :=
  xa_go2 k (fun p e R s m args below meth c H locs cells slots Q ls A L _ r1 r2 r3 r4 kk => va_mabs A.1 A.2.1 (A.2.2.2.1.trans L.1.symm) A.2.2.2.2.1 (A.2.2.2.2.2.2.2.1 _ hw.1) (A.2.2.2.2.2.2.2.1 _ hw.2.1) (A.2.2.2.2.2.2.2.1 _ hw.2.2.1) (A.2.2.2.2.2.2.2.1 _ hw.2.2.2) (Nat.le_trans h1 r1) (by rw [xa_catS]; omega) r3 r4 hd kk)
theorem v_mmaxL {x y : Int64} (hd : decode M.2.1 pc = .ok (.invokestatic idx, 3)) (hw : Cond.methodLink M.1.cls idx Lib.MathLoose.max_long.x ∈ gws ∧ Cond.static Lib.MathLoose.max_long.x ∈ gws ∧ Cond.initialized "java/lang/Math" ∈ gws ∧ Cond.code Lib.MathLoose.max_long.x Lib.MathLoose.max_long.code 4 (some .long) ∈ gws) (h1 : 1 ≤ d) (hcat : (st.map fun v => v.category).sum ≤ 8) (k : xa_V G M d (pc + 3) loc (.long (if y < x then x else y) :: st) h o h') : xa_V G M d pc loc (.long y :: .long x :: st) h o h' :=
  xa_go2 k (fun p e R s m args below meth c H locs cells slots Q ls A L _ r1 r2 r3 r4 kk => va_mmax_long A.1 A.2.1 (A.2.2.2.1.trans L.1.symm) A.2.2.2.2.1 (A.2.2.2.2.2.2.2.1 _ hw.1) (A.2.2.2.2.2.2.2.1 _ hw.2.1) (A.2.2.2.2.2.2.2.1 _ hw.2.2.1) (A.2.2.2.2.2.2.2.1 _ hw.2.2.2) (Nat.le_trans h1 r1) (by rw [xa_catS]; omega) r3 r4 hd kk)
theorem v_mminL {x y : Int64} (hd : decode M.2.1 pc = .ok (.invokestatic idx, 3)) (hw : Cond.methodLink M.1.cls idx Lib.MathLoose.min_long.x ∈ gws ∧ Cond.static Lib.MathLoose.min_long.x ∈ gws ∧ Cond.initialized "java/lang/Math" ∈ gws ∧ Cond.code Lib.MathLoose.min_long.x Lib.MathLoose.min_long.code 4 (some .long) ∈ gws) (h1 : 1 ≤ d) (hcat : (st.map fun v => v.category).sum ≤ 8) (k : xa_V G M d (pc + 3) loc (.long (if y < x then y else x) :: st) h o h') : xa_V G M d pc loc (.long y :: .long x :: st) h o h' :=
  xa_go2 k (fun p e R s m args below meth c H locs cells slots Q ls A L _ r1 r2 r3 r4 kk => va_mmin_long A.1 A.2.1 (A.2.2.2.1.trans L.1.symm) A.2.2.2.2.1 (A.2.2.2.2.2.2.2.1 _ hw.1) (A.2.2.2.2.2.2.2.1 _ hw.2.1) (A.2.2.2.2.2.2.2.1 _ hw.2.2.1) (A.2.2.2.2.2.2.2.1 _ hw.2.2.2) (Nat.le_trans h1 r1) (by rw [xa_catS]; omega) r3 r4 hd kk)
theorem xa_goN {pc2 : Nat} {st2 : List Value} (k : xa_V G M d pc2 loc st2 h2 o h') (hn : h2.2 = h.2)
    (f : ∀ (p : Program) (e : Env) (R : Room) (s : State) (m : MethodId) (args : Array Value) (below : List Frame) (meth : Method) (c : Code) (H : Heap) (locs : List Loc) (cells slots : Nat) (Q : State → Prop) (ls : Array Slot), xa_At G M p s m args meth c → xa_lh G ls M.2.2.1 loc → xa_Wd G h H → d ≤ R.frames → d * 64 ≤ R.locals →
      (∀ (H1 : Heap) (l1 : List Loc), xa_Wd G h2 H1 → (∀ q ∈ l1, xa_b G ≤ q.base) → W p G.1 e R s m args below meth c H1 (locs ++ l1) cells slots Q (F0 m pc2 ls (st2.map (xa_sh G)))) → W p G.1 e R s m args below meth c H locs cells slots Q (F0 m pc ls (st.map (xa_sh G)))) : xa_V G M d pc loc st h o h' := by
  refine ⟨by rw [← hn]; exact k.1, by rw [← hn]; exact k.2.1, fun p e R s m args below meth c H locs cells slots ls A h1 h2 h3 h4 hW hL hl => ?_⟩
  refine f p e R s m args below meth c H locs cells slots _ ls A hl hW h1 h2 (fun H1 l1 hW1 hl1 => ?_)
  rw [← hn] at h3 h4 ⊢
  refine k.2.2 p e R s m args below meth c H1 (locs ++ l1) cells slots ls A h1 h2 h3 h4 hW1 (fun q hq => ?_) hl
  rcases List.mem_append.mp hq with z | z
  · exact hL q z
  · exact hl1 q z
def cpI (h : xa_H) (a0 : Nat) (sp : Int32) (a : Nat) (dp n : Int32) : Option xa_H := match h.1 a0, h.1 a with
  | some (.inl (0, n0, .inl f)), some (.inl (0, n1, .inl g)) => if sp < 0 ∨ dp < 0 ∨ n < 0 ∨ n0 < sp.toNatClampNeg + n.toNatClampNeg ∨ n1 < dp.toNatClampNeg + n.toNatClampNeg then none else some (xu h a (.inl (0, n1, .inl (va_cpy f g sp.toNatClampNeg dp.toNatClampNeg n.toNatClampNeg))))
  | _, _ => none
/-- a number that isn't negative -/
theorem xi_nn {z : Int32} (h : ¬ z < 0) : z.toInt = (z.toNatClampNeg : Int) := by
  have h0 : (0 : Int) ≤ z.toInt := Int32.le_iff_toInt_le.mp (Int32.not_lt.mp h)
  exact (Int.toNat_of_nonneg h0).symm
theorem xi_in {x : ClassId} {N : Nat} {f : Nat → Int32} {b w : Int32} (hb : ¬ b < 0) (hw : ¬ w < 0) (h : b.toNatClampNeg + w.toNatClampNeg ≤ N) : ¬ b.toInt + w.toInt > ((vp_cell x (N, .inl f)).slots.size : Int) := by
  rw [xi_nn hb, xi_nn hw, vp_cell_i, arrV_size]
  omega
theorem xi_el {x : ClassId} {N i : Nat} {f : Nat → Int32} (h : i < N) : (vp_cell x (N, .inl f)).slots.getD i .null = .int (f i) := by
  have := arrV_read x (fun j => Value.int (f j)) h
  rw [← vp_cell_i] at this
  rw [Array.getD_eq_getD_getElem?, this, Option.getD_some]
/-- one place of a row put anew -/
theorem xi_put {α : Type} {r : Array α} {i : Nat} {x : α} (h : i < r.size) : (r.setIfInBounds i x)[i]? = some x ∧ (r.setIfInBounds i x).size = r.size ∧ ∀ q, q ≠ i → (r.setIfInBounds i x)[q]? = r[q]? :=
  ⟨Array.getElem?_setIfInBounds_self_of_lt h, Array.size_setIfInBounds .., fun _ hq => Array.getElem?_setIfInBounds_ne (Ne.symm hq)⟩
theorem v_copy {a0 a : Nat} {sp dp n : Int32} (hd : decode M.2.1 pc = .ok (.invokestatic idx, 3)) (hw : Cond.methodLink M.1.cls idx arraycopyName ∈ gws ∧ Cond.native arraycopyName ∈ gws ∧ Cond.static arraycopyName ∈ gws ∧ Cond.initialized "java/lang/System" ∈ gws) (h1 : 1 ≤ d) (hcat : (st.map fun v => v.category).sum ≤ 8) (hnf : nativeFrameWords "java/lang/System" "arraycopy" 5 + 19 ≤ 64) (e : cpI h a0 sp a dp n = some h2) (k : xa_V G M d (pc + 3) loc st h2 o h') : xa_V G M d pc loc (.int n :: .int dp :: .ref a :: .int sp :: .ref a0 :: st) h o h' := by
  unfold cpI at e
  split at e
  · rename_i n0 f n1 g c0 c1
    split at e
    · cases e
    · rename_i hcn
      cases e
      simp only [not_or, Nat.not_lt] at hcn
      obtain ⟨p1, p2, p3, p4, p5⟩ := hcn
      refine xa_goN k rfl (fun p e R s m args below meth c H locs cells slots Q ls A L hW r1 r2 kk => ?_)
      have wd := A.2.2.2.2.2.2.2.1
      have ty := (A.2.2.2.2.2.2.2.2.1.2 0 (G.2.2.1 0, .int) rfl).1
      obtain ⟨-, x0, y0, z0, t0⟩ := ty n0 (fun j => .int (f j))
      obtain ⟨-, x1, y1, z1, t1⟩ := ty n1 (fun j => .int (g j))
      obtain ⟨-, o0⟩ := xa_at_ad hW c0
      obtain ⟨lo, o1⟩ := xa_at_ad hW c1
      have o0' : H[xa_ad G a0]? = some (vp_cell (G.2.2.1 0) (n0, .inl f)) := o0
      have o1' : H[xa_ad G a]? = some (vp_cell (G.2.2.1 0) (n1, .inl g)) := o1
      have room : 2 * 0 + ((st.map (xa_sh G)).map fun v => v.category).sum + (nativeFrameWords "java/lang/System" "arraycopy" 5 + 11) ≤ R.locals := by
        rw [xa_catS]
        have := Nat.mul_le_mul_right 64 h1
        omega
      have same : copied (vp_cell (G.2.2.1 0) (n0, .inl f)) (vp_cell (G.2.2.1 0) (n1, .inl g)) sp dp n = vp_cell (G.2.2.1 0) (n1, .inl (va_cpy f g sp.toNatClampNeg dp.toNatClampNeg n.toNatClampNeg)) := va_copied Value.int _ _ f g p4
      intro T hT X
      rw [← hT] at o0' o1'
      have plain : ∀ (N : Nat) (u : Nat → Int32), (∀ q, (vp_cell (G.2.2.1 0) (N, .inl u)).vm ≠ .statics q) ∧ (vp_cell (G.2.2.1 0) (N, .inl u)).vm ≠ .unknown := fun _ _ => ⟨fun _ w => (nomatch w), fun w => (nomatch w)⟩
      obtain ⟨vm', X', step⟩ := X.arraycopy A.1 A.2.2.2.2.1 (wd _ hw.1) (wd _ hw.2.1) (wd _ hw.2.2.1) (wd _ hw.2.2.2) o0' o1' (plain n0 f).1 (plain n1 g).1 (plain n0 f).2 (plain n1 g).2 y0 y1 t0 t1 (by simp [refKind]) p1 p2 p3 (xi_in p1 p3 p4) (xi_in p2 p3 p5)
        (fun _ _ i hi => by rw [xi_el (show sp.toNatClampNeg + i < n0 by omega)]; exact ⟨rfl, trivial⟩)
        (g := F0 m pc ls ((.int n :: .int dp :: .ref a :: .int sp :: .ref a0 :: st).map (xa_sh G))) rfl (L.1.trans A.2.2.2.1.symm) (rest := st.map (xa_sh G)) rfl (by rw [A.2.1]; exact hd) (Nat.le_trans h1 r1) room
      rw [same] at X' step
      obtain ⟨w1, w2, w3⟩ := xi_put (x := vp_cell (G.2.2.1 0) (n1, .inl (va_cpy f g sp.toNatClampNeg dp.toNatClampNeg n.toNatClampNeg))) (Array.getElem?_eq_some_iff.mp o1').1
      rw [hT] at w1 w2 w3
      obtain ⟨t, a1, b1⟩ := kk _ _ (hW.put c1 w1 w2 w3) (fun q hq => by
          obtain ⟨z, -, hz⟩ := List.mem_map.mp hq
          rw [← hz]
          show xa_b G ≤ xa_ad G a
          omega) _ (congrArg (fun r : Heap => r.setIfInBounds _ _) hT) X'
      exact ⟨t, step t a1, b1⟩
  · cases e
theorem v_gets {j : Nat} {nm : String} {cs : List Int32} (hd : decode M.2.1 pc = .ok (.getstatic idx, 3)) (hm : (j, nm, cs) ∈ xa_sta) (hw : Cond.fieldLink M.1.cls idx "CrossedFavours$VillageReader" nm "[I" ∈ gws) (k : xa_V G M d (pc + 3) loc (.ref (1000000000 + j) :: st) h o h') : xa_V G M d pc loc st h o h' := by
  refine xa_go1 k (fun p e R s m args below meth c H locs cells slots Q ls A _ hW kk => ?_)
  obtain ⟨cf, kf, fi, f, a, cell, g1, g2, g3, g4, g5, g6, g7, g8⟩ := (A.2.2.2.2.2.2.2.2.2.2.1 _ hm).1
  have ha : a < xa_b G := Nat.not_le.mp g8
  refine W.gets A.1 A.2.1 A.2.2.2.2.1 (A.2.2.2.2.2.2.2.1 _ hw) g1 g2 g3 g4 (by rw [hW.2.2.1 a ha]; exact g5) (fun e => by rw [e] at g6; cases g6) g7 rfl hd ?_
  have : xa_ad G (1000000000 + j) = G.2.2.2.2.1 j := by
    unfold xa_ad
    rw [if_neg (by omega), show 1000000000 + j - 1000000000 = j by omega]
  show W p G.1 e R s m args below meth c H locs cells slots Q (F0 m (pc + 3) ls (.ref (G.2.2.2.2.1 j) :: st.map (xa_sh G)))
  rw [← this]
  exact kk
def aS (j : Nat) (i : Int32) : Option Int32 := match xa_sta.find? (fun q => q.1 == j) with
  | some q => if i < 0 ∨ q.2.2.length ≤ i.toNatClampNeg then none else some (q.2.2.getD i.toNatClampNeg 0)
  | none => none
theorem v_ialoadS {j : Nat} {i x : Int32} (hd : decode M.2.1 pc = .ok (.iaload, 1)) (e : aS j i = some x) (kk : xa_V G M d (pc + 1) loc (.int x :: st) h o h') : xa_V G M d pc loc (.int i :: .ref (1000000000 + j) :: st) h o h' := by
  unfold aS at e
  split at e
  · rename_i q hq
    split at e
    · cases e
    · rename_i hin
      cases e
      have hm := List.mem_of_find?_eq_some hq
      have hj : q.1 = j := by simpa using List.find?_some hq
      refine xa_go1 kk (fun p e R s m args below meth c H locs cells slots Q ls A _ hW kk => ?_)
      obtain ⟨cell, g1, g2, g3, g4, g5, g6, g7⟩ := (A.2.2.2.2.2.2.2.2.2.2.1 _ hm).2
      have ha : G.2.2.2.2.1 q.1 < xa_b G := Nat.not_le.mp g7
      have hlt : i.toNatClampNeg < q.2.2.length := Nat.not_le.mp fun z => hin (Or.inr z)
      have had : xa_ad G (1000000000 + j) = G.2.2.2.2.1 q.1 := by
        unfold xa_ad
        rw [if_neg (by omega), show 1000000000 + j - 1000000000 = j by omega, hj]
      exact W.iald (v := .int (q.2.2.getD i.toNatClampNeg 0)) A.1 A.2.1 (by rw [had, hW.2.2.1 _ ha]; exact g1) g2 g3 (fun z => by
        rcases z with z | z
        · exact hin (Or.inl z)
        · omega) (g6 _ hlt) rfl rfl hd kk
  · cases e
end XH
