/-! what the written-out methods use -/
def imax (x y : Int32) : Int32 := if x < y then y else x
def imin (x y : Int32) : Int32 := if y < x then y else x
def iabs (x : Int32) : Int32 := if 0 ≤ x then x else 0 - x
def lmax (x y : Int64) : Int64 := if y < x then x else y
def lmin (x y : Int64) : Int64 := if y < x then y else x
def irem (x y : Int32) : Int32 := x - x / y * y
def lrem (x y : Int64) : Int64 := x - x / y * y
def shl (x y : Int32) : Int32 := x <<< (y &&& 31)
def shr (x y : Int32) : Int32 := x >>> (y &&& 31)
def ushr (x y : Int32) : Int32 := (x.toUInt32 >>> (y.toUInt32 &&& Int32.toUInt32 31)).toInt32
def lshl (x : Int64) (y : Int32) : Int64 := x <<< (y.toInt64 &&& 63)
def lushr (x : Int64) (y : Int32) : Int64 := (x.toUInt64 >>> (y.toInt64.toUInt64 &&& Int64.toUInt64 63)).toInt64
def zq (x : Int32) : Option Int32 := if x = 0 ∨ x = 1 then some x else none
theorem zq_of {x y : Int32} (h : zq x = some y) : y = x ∧ (x = 0 ∨ x = 1) := by
  unfold zq at h
  split at h
  · cases h
    exact ⟨rfl, by assumption⟩
  · cases h
def xa_le : List (Option Value) → List (Option Value) → Prop
  | [], _ => True
  | none :: l, _ :: l' => xa_le l l'
  | some v :: l, some w :: l' => v = w ∧ xa_le l l'
  | _, _ => False
theorem xa_le_at : ∀ (l l' : List (Option Value)), xa_le l l' → ∀ (i : Nat) (v : Value), l[i]? = some (some v) → l'[i]? = some (some v)
  | [], _, _, i, v, h => by simp at h
  | none :: l, [], h0, i, v, h => by cases h0
  | none :: l, w :: l', h0, 0, v, h => by cases h
  | none :: l, w :: l', h0, i + 1, v, h => xa_le_at l l' h0 i v h
  | some u :: l, [], h0, i, v, h => by cases h0
  | some u :: l, none :: l', h0, i, v, h => by cases h0
  | some u :: l, some w :: l', h0, 0, v, h => by
    cases h
    rw [h0.1]
    rfl
  | some u :: l, some w :: l', h0, i + 1, v, h => xa_le_at l l' h0.2 i v h
theorem tsx {x k : Int32} {n : Int} (hk : k.toInt = n) (c : ¬ x = k) : x.toInt ≠ n := fun q => c (Int32.toInt_inj.mp (q.trans hk.symm))
theorem gws_pl (ws : List Cond) (ps : List Nat) (hp : ws = ps.filterMap (fun i => lw_tbl[i]?)) (h : ws.all goodWord = true) : ∀ w ∈ ws, w ∈ gws := by
  intro w hw
  have h1 := List.all_eq_true.mp h w hw
  rw [hp] at hw
  obtain ⟨i, -, hi⟩ := List.mem_filterMap.mp hw
  exact gws_at i hi h1
section XI
variable {G : xa_G} {M : xa_M} {d pc idx : Nat} {loc loc2 : List (Option Value)} {st : List Value} {h h2 h' : xa_H} {o : Option Value}
theorem xa_weak (hl : xa_le loc loc2) (k : xa_V G M d pc loc st h o h') : xa_V G M d pc loc2 st h o h' :=
  ⟨k.1, k.2.1, fun p e R s m args below meth c H locs cells slots ls A h1 h2 h3 h4 hW hL hl2 => k.2.2 p e R s m args below meth c H locs cells slots ls A h1 h2 h3 h4 hW hL ⟨hl2.1, hl2.2.1, fun i v hi => hl2.2.2 i v (xa_le_at _ _ hl i v hi)⟩⟩
theorem w_irem {x y : Int32} (hd : decode M.2.1 pc = .ok (.irem, 1)) (hne : ¬ y = 0) (k : xa_V G M d (pc + 1) loc (.int (irem x y) :: st) h o h') : xa_V G M d pc loc (.int y :: .int x :: st) h o h' := v_irem hd hne k
theorem w_lrem {x y : Int64} (hd : decode M.2.1 pc = .ok (.lrem, 1)) (hne : ¬ y = 0) (k : xa_V G M d (pc + 1) loc (.long (lrem x y) :: st) h o h') : xa_V G M d pc loc (.long y :: .long x :: st) h o h' := v_lrem hd hne k
theorem w_ishl {x y : Int32} (hd : decode M.2.1 pc = .ok (.ishl, 1)) (k : xa_V G M d (pc + 1) loc (.int (shl x y) :: st) h o h') : xa_V G M d pc loc (.int y :: .int x :: st) h o h' := v_ishl hd k
theorem w_ishr {x y : Int32} (hd : decode M.2.1 pc = .ok (.ishr, 1)) (k : xa_V G M d (pc + 1) loc (.int (shr x y) :: st) h o h') : xa_V G M d pc loc (.int y :: .int x :: st) h o h' := v_ishr hd k
theorem w_iushr {x y : Int32} (hd : decode M.2.1 pc = .ok (.iushr, 1)) (k : xa_V G M d (pc + 1) loc (.int (ushr x y) :: st) h o h') : xa_V G M d pc loc (.int y :: .int x :: st) h o h' := v_iushr hd k
theorem w_lshl {x : Int64} {y : Int32} (hd : decode M.2.1 pc = .ok (.lshl, 1)) (k : xa_V G M d (pc + 1) loc (.long (lshl x y) :: st) h o h') : xa_V G M d pc loc (.int y :: .long x :: st) h o h' := v_lshl hd k
theorem w_lushr {x : Int64} {y : Int32} (hd : decode M.2.1 pc = .ok (.lushr, 1)) (k : xa_V G M d (pc + 1) loc (.long (lushr x y) :: st) h o h') : xa_V G M d pc loc (.int y :: .long x :: st) h o h' := v_lushr hd k
def xa_mw (own : String) (idx : Nat) (y : MethodName) (cc : ByteArray) (ml : Nat) (r : Option FieldType) : Prop := Cond.methodLink own idx y ∈ gws ∧ Cond.static y ∈ gws ∧ Cond.initialized "java/lang/Math" ∈ gws ∧ Cond.code y cc ml r ∈ gws
theorem w_mmax {x y : Int32} (hd : decode M.2.1 pc = .ok (.invokestatic idx, 3)) (hw : xa_mw M.1.cls idx Lib.Math.max.name Lib.Math.max.code 2 (some .int)) (h1 : 1 ≤ d) (hcat : (st.map fun v => v.category).sum ≤ 8) (k : xa_V G M d (pc + 3) loc (.int (imax x y) :: st) h o h') : xa_V G M d pc loc (.int y :: .int x :: st) h o h' := v_mmax hd hw h1 hcat k
theorem w_mmin {x y : Int32} (hd : decode M.2.1 pc = .ok (.invokestatic idx, 3)) (hw : xa_mw M.1.cls idx Lib.Math.min.name Lib.Math.min.code 2 (some .int)) (h1 : 1 ≤ d) (hcat : (st.map fun v => v.category).sum ≤ 8) (k : xa_V G M d (pc + 3) loc (.int (imin x y) :: st) h o h') : xa_V G M d pc loc (.int y :: .int x :: st) h o h' := v_mmin hd hw h1 hcat k
theorem w_mabs {x : Int32} (hd : decode M.2.1 pc = .ok (.invokestatic idx, 3)) (hw : xa_mw M.1.cls idx Lib.Math.abs.name Lib.Math.abs.code 1 (some .int)) (h1 : 1 ≤ d) (hcat : (st.map fun v => v.category).sum ≤ 8) (k : xa_V G M d (pc + 3) loc (.int (iabs x) :: st) h o h') : xa_V G M d pc loc (.int x :: st) h o h' := v_mabs hd hw h1 hcat k
theorem w_mmaxL {x y : Int64} (hd : decode M.2.1 pc = .ok (.invokestatic idx, 3)) (hw : xa_mw M.1.cls idx Lib.MathLoose.max_long.x Lib.MathLoose.max_long.code 4 (some .long)) (h1 : 1 ≤ d) (hcat : (st.map fun v => v.category).sum ≤ 8) (k : xa_V G M d (pc + 3) loc (.long (lmax x y) :: st) h o h') : xa_V G M d pc loc (.long y :: .long x :: st) h o h' := v_mmaxL hd hw h1 hcat k
theorem w_mminL {x y : Int64} (hd : decode M.2.1 pc = .ok (.invokestatic idx, 3)) (hw : xa_mw M.1.cls idx Lib.MathLoose.min_long.x Lib.MathLoose.min_long.code 4 (some .long)) (h1 : 1 ≤ d) (hcat : (st.map fun v => v.category).sum ≤ 8) (k : xa_V G M d (pc + 3) loc (.long (lmin x y) :: st) h o h') : xa_V G M d pc loc (.long y :: .long x :: st) h o h' := v_mminL hd hw h1 hcat k
theorem pz_put {x : Int32} (hx : x = 0 ∨ x = 1) : (∀ G : xa_G, narrow .boolean (xa_sh G (.int x)) = xa_sh G (.int x)) ∧ (∀ G : xa_G, fits .boolean (xa_sh G (.int x)) = true) := by
  rcases hx with rfl | rfl <;> exact ⟨fun _ => rfl, fun _ => rfl⟩
end XI
