/-! the cells: what is read and written -/
def xu (h : xa_H) (a : Nat) (c : xa_C) : xa_H := (fun j => if j = a then some c else h.1 j, h.2)
def vI : Value → Option Int32
  | .int x => some x
  | _ => none
def vL : Value → Option Int64
  | .long x => some x
  | _ => none
def vR : Value → Option Nat
  | .ref a => some a
  | _ => none
/-- a field k of an object of one of the classes cs -/
def xg (cs : List Nat) (k : Nat) (h : xa_H) (a : Nat) : Option Value := match h.1 a with
  | some (.inr (ci, fs)) => if ci ∈ cs then fs[k]? else none
  | _ => none
def gI (cs : List Nat) (k : Nat) (h : xa_H) (a : Nat) : Option Int32 := (xg cs k h a).bind vI
def gL (cs : List Nat) (k : Nat) (h : xa_H) (a : Nat) : Option Int64 := (xg cs k h a).bind vL
def gR (cs : List Nat) (k : Nat) (h : xa_H) (a : Nat) : Option Nat := (xg cs k h a).bind vR
def xp (cs : List Nat) (k : Nat) (h : xa_H) (a : Nat) (v : Value) : Option xa_H := match h.1 a with
  | some (.inr (ci, fs)) => if ci ∈ cs ∧ k < fs.length then some (xu h a (.inr (ci, fs.set k v))) else none
  | _ => none
def aI (h : xa_H) (a : Nat) (i : Int32) : Option Int32 := match h.1 a with
  | some (.inl (0, n, .inl f)) => if i < 0 ∨ n ≤ i.toNatClampNeg then none else some (f i.toNatClampNeg)
  | _ => none
def aB (h : xa_H) (a : Nat) (i : Int32) : Option Int32 := match h.1 a with
  | some (.inl (1, n, .inl f)) => if i < 0 ∨ n ≤ i.toNatClampNeg then none else some (f i.toNatClampNeg)
  | _ => none
def aZ (h : xa_H) (a : Nat) (i : Int32) : Option Int32 := match h.1 a with
  | some (.inl (2, n, .inl f)) => if i < 0 ∨ n ≤ i.toNatClampNeg then none else some (f i.toNatClampNeg)
  | _ => none
def aL (h : xa_H) (a : Nat) (i : Int32) : Option Int64 := match h.1 a with
  | some (.inl (3, n, .inr (.inl f))) => if i < 0 ∨ n ≤ i.toNatClampNeg then none else some (f i.toNatClampNeg)
  | _ => none
/-- an array of references of sort t (4, 5) -/
def aR (t : Nat) (h : xa_H) (a : Nat) (i : Int32) : Option Nat := match h.1 a with
  | some (.inl (t', n, .inr (.inr (.inr (.inr f))))) => if t' ≠ t ∨ i < 0 ∨ n ≤ i.toNatClampNeg then none else f i.toNatClampNeg
  | _ => none
def pI (h : xa_H) (a : Nat) (i x : Int32) : Option xa_H := match h.1 a with
  | some (.inl (0, n, .inl f)) => if i < 0 ∨ n ≤ i.toNatClampNeg then none else some (xu h a (.inl (0, n, .inl (upd f i.toNatClampNeg x))))
  | _ => none
def pB (h : xa_H) (a : Nat) (i x : Int32) : Option xa_H := match h.1 a with
  | some (.inl (1, n, .inl f)) => if i < 0 ∨ n ≤ i.toNatClampNeg then none else some (xu h a (.inl (1, n, .inl (upd f i.toNatClampNeg (vp_nar .byte x)))))
  | _ => none
def pZ (h : xa_H) (a : Nat) (i x : Int32) : Option xa_H := match h.1 a with
  | some (.inl (2, n, .inl f)) => if i < 0 ∨ n ≤ i.toNatClampNeg then none else some (xu h a (.inl (2, n, .inl (upd f i.toNatClampNeg (vp_nar .boolean x)))))
  | _ => none
def pL (h : xa_H) (a : Nat) (i : Int32) (x : Int64) : Option xa_H := match h.1 a with
  | some (.inl (3, n, .inr (.inl f))) => if i < 0 ∨ n ≤ i.toNatClampNeg then none else some (xu h a (.inl (3, n, .inr (.inl (vp_updL f i.toNatClampNeg x)))))
  | _ => none
def aN (h : xa_H) (a : Nat) : Option Int32 := match h.1 a with
  | some (.inl (t, n, _)) => if t < 6 then some (Int32.ofNat n) else none
  | _ => none
theorem ob {α β : Type} {x : Option α} {f : α → Option β} {r : β} (h : x.bind f = some r) : ∃ a, x = some a ∧ f a = some r := by
  cases x with
  | none => cases h
  | some a => exact ⟨a, rfl, h⟩
theorem vI_of {v : Value} {x : Int32} (h : vI v = some x) : v = .int x := by cases v <;> first | (cases h; rfl) | cases h
theorem vL_of {v : Value} {x : Int64} (h : vL v = some x) : v = .long x := by cases v <;> first | (cases h; rfl) | cases h
theorem vR_of {v : Value} {x : Nat} (h : vR v = some x) : v = .ref x := by cases v <;> first | (cases h; rfl) | cases h
theorem xg_of {cs : List Nat} {k : Nat} {h : xa_H} {a : Nat} {v : Value} (e : xg cs k h a = some v) : ∃ ci fs, h.1 a = some (.inr (ci, fs)) ∧ ci ∈ cs ∧ fs[k]? = some v := by
  unfold xg at e
  split at e
  · rename_i ci fs q
    split at e
    · exact ⟨ci, fs, q, by assumption, e⟩
    · cases e
  · cases e
/-- how a field is linked: from the class own by its entry idx, of an object of class ci its k-th -/
def xa_FL (own : String) (idx ci k : Nat) : Prop := ∃ (C : String) (T : u_T) (N : Nat) (ref : String), xclasses[ci]? = some (C, T, N) ∧ k < N ∧ (∀ w ∈ u_ws C T N, w ∈ gws) ∧ Cond.fieldLink own idx ref (T k).2.1 (T k).2.2.1 ∈ gws ∧ (ref = (T k).1 ∨ Cond.sameField ref (T k).1 (T k).2.1 (T k).2.2.1 ∈ gws)
section XD
variable {G : xa_G} {M : xa_M} {d pc : Nat} {loc loc' : List (Option Value)} {st : List Value} {h h' : xa_H} {o : Option Value}
theorem xa_at_ad {G : xa_G} {h : xa_H} {H : Heap} {a : Nat} {e : xa_C} (hW : xa_Wd G h H) (hc : h.1 a = some e) : xa_ad G a = xa_b G + a ∧ va_at G.2.1 xclasses (xa_ad G a, xa_cv G e) H := by
  have h1 := hW.2.2.2 a e hc
  have h2 : xa_ad G a = xa_b G + a := xa_ad_lo (Nat.lt_trans h1.1 hW.2.1)
  exact ⟨h2, by rw [h2]; exact h1.2⟩
theorem v_getV {a k idx : Nat} {cs : List Nat} {v : Value} (hd : decode M.2.1 pc = .ok (.getfield idx, 3)) (hF : ∀ ci ∈ cs, xa_FL M.1.cls idx ci k) (e : xg cs k h a = some v) (kk : xa_V G M d (pc + 3) loc (v :: st) h o h') : xa_V G M d pc loc (.ref a :: st) h o h' := by
  obtain ⟨ci, fs, hc, hci, hv⟩ := xg_of e
  obtain ⟨C, T, N, ref, q1, q2, q3, q4, q5⟩ := hF ci hci
  refine xa_go1 kk (fun p e R s m args below meth c H locs cells slots Q ls A _ hW kk => ?_)
  obtain ⟨h1, h2⟩ := xa_at_ad hW hc
  have hsame : ∀ x, s.fieldFound? (T k).1 (T k).2.1 (T k).2.2.1 = some x → s.fieldFound? ref (T k).2.1 (T k).2.2.1 = some x := by
    rcases q5 with rfl | q5
    · exact fun _ q => q
    · exact fun x q => u_same (A.2.2.2.2.2.2.2.1 _ q5) x q
  have hP : va_P G.2.1 xclasses [(xa_ad G a, xa_cv G (.inr (ci, fs)))] H := by
    intro j q hq
    have hj : j = 0 := by
      have := (List.getElem?_eq_some_iff.mp hq).1
      simpa using this
    subst hj
    cases hq
    exact h2
  exact va_get A.1 A.2.1 (Ts := gws) A.2.2.2.2.2.2.2.1 q3 A.2.2.2.2.1 A.2.2.2.2.2.2.2.2.1 hP 0 rfl q1 k q2 (A.2.2.2.2.2.2.2.1 _ q4) hsame (by rw [List.getElem?_map, hv]; rfl) hd kk
theorem v_getI {a k idx : Nat} {cs : List Nat} {x : Int32} (hd : decode M.2.1 pc = .ok (.getfield idx, 3)) (hF : ∀ ci ∈ cs, xa_FL M.1.cls idx ci k) (e : gI cs k h a = some x) (kk : xa_V G M d (pc + 3) loc (.int x :: st) h o h') : xa_V G M d pc loc (.ref a :: st) h o h' := by
  obtain ⟨v, e1, e2⟩ := ob e
  cases vI_of e2
  exact v_getV hd hF e1 kk
theorem v_getL {a k idx : Nat} {cs : List Nat} {x : Int64} (hd : decode M.2.1 pc = .ok (.getfield idx, 3)) (hF : ∀ ci ∈ cs, xa_FL M.1.cls idx ci k) (e : gL cs k h a = some x) (kk : xa_V G M d (pc + 3) loc (.long x :: st) h o h') : xa_V G M d pc loc (.ref a :: st) h o h' := by
  obtain ⟨v, e1, e2⟩ := ob e
  cases vL_of e2
  exact v_getV hd hF e1 kk
theorem v_getR {a k idx : Nat} {cs : List Nat} {x : Nat} (hd : decode M.2.1 pc = .ok (.getfield idx, 3)) (hF : ∀ ci ∈ cs, xa_FL M.1.cls idx ci k) (e : gR cs k h a = some x) (kk : xa_V G M d (pc + 3) loc (.ref x :: st) h o h') : xa_V G M d pc loc (.ref a :: st) h o h' := by
  obtain ⟨v, e1, e2⟩ := ob e
  cases vR_of e2
  exact v_getV hd hF e1 kk
end XD
