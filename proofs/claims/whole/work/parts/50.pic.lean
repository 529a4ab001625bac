/-! PICTURES: cells as the methods find them -/
abbrev ia (n : Nat) (f : Nat → Int32) : xa_C := .inl (0, n, .inl f)
theorem xu_same {h : xa_H} {a : Nat} {c : xa_C} : (xu h a c).1 a = some c := if_pos rfl
theorem xu_ne {h : xa_H} {a j : Nat} {c : xa_C} (hne : j ≠ a) : (xu h a c).1 j = h.1 j := if_neg hne
theorem xu_2 {h : xa_H} {a : Nat} {c : xa_C} : (xu h a c).2 = h.2 := rfl
theorem xu_xu {h : xa_H} {a : Nat} {c c' : xa_C} : xu (xu h a c) a c' = xu h a c' := by
  unfold xu
  congr 1
  funext j
  dsimp only
  by_cases e : j = a
  · rw [if_pos e, if_pos e]
  · rw [if_neg e, if_neg e, if_neg e]
theorem xu_self {h : xa_H} {a : Nat} {c : xa_C} (hc : h.1 a = some c) : xu h a c = h := by
  obtain ⟨f, n⟩ := h
  unfold xu
  congr 1
  funext j
  dsimp only
  by_cases e : j = a
  · rw [if_pos e, e]
    exact hc.symm
  · rw [if_neg e]
theorem xg_in {h : xa_H} {a ci k : Nat} {fs : List Value} {cs : List Nat} {v : Value} (hc : h.1 a = some (.inr (ci, fs))) (hm : ci ∈ cs) (hv : fs[k]? = some v) : xg cs k h a = some v := by
  unfold xg
  rw [hc]
  dsimp only
  rw [if_pos hm]
  exact hv
theorem gI_in {h : xa_H} {a ci k : Nat} {fs : List Value} {cs : List Nat} {x : Int32} (hc : h.1 a = some (.inr (ci, fs))) (hm : ci ∈ cs) (hv : fs[k]? = some (.int x)) : gI cs k h a = some x := by
  unfold gI
  rw [xg_in hc hm hv]
  rfl
theorem gR_in {h : xa_H} {a ci k : Nat} {fs : List Value} {cs : List Nat} {x : Nat} (hc : h.1 a = some (.inr (ci, fs))) (hm : ci ∈ cs) (hv : fs[k]? = some (.ref x)) : gR cs k h a = some x := by
  unfold gR
  rw [xg_in hc hm hv]
  rfl
theorem xp_in {h : xa_H} {a ci k : Nat} {fs : List Value} {cs : List Nat} {v : Value} (hc : h.1 a = some (.inr (ci, fs))) (hm : ci ∈ cs) (hk : k < fs.length) : xp cs k h a v = some (xu h a (.inr (ci, fs.set k v))) := by
  unfold xp
  rw [hc]
  dsimp only
  rw [if_pos ⟨hm, hk⟩]
theorem ck_in {h : xa_H} {a ci : Nat} {fs : List Value} {cs : List Nat} (hc : h.1 a = some (.inr (ci, fs))) (hm : ci ∈ cs) : ck cs h a = some () := by
  unfold ck
  rw [hc]
  dsimp only
  rw [if_pos hm]
theorem nI_inb {k n : Nat} (hk : k < n) (hn : n < 2 ^ 31) : ¬ (nI k < 0 ∨ n ≤ (nI k).toNatClampNeg) := nI_in hk hn
theorem aI_in {h : xa_H} {a n k : Nat} {f : Nat → Int32} (hc : h.1 a = some (ia n f)) (hk : k < n) (hn : n < 2 ^ 31) : aI h a (nI k) = some (f k) := by
  unfold aI
  rw [hc]
  show (if nI k < 0 ∨ n ≤ (nI k).toNatClampNeg then none else some (f (nI k).toNatClampNeg)) = _
  rw [if_neg (nI_inb hk hn), nI_clamp (by omega)]
theorem pI_in {h : xa_H} {a n k : Nat} {f : Nat → Int32} {x : Int32} (hc : h.1 a = some (ia n f)) (hk : k < n) (hn : n < 2 ^ 31) : pI h a (nI k) x = some (xu h a (ia n (upd f k x))) := by
  unfold pI
  rw [hc]
  show (if nI k < 0 ∨ n ≤ (nI k).toNatClampNeg then none else some (xu h a (ia n (upd f (nI k).toNatClampNeg x)))) = _
  rw [if_neg (nI_inb hk hn), nI_clamp (by omega)]
theorem ix6 (a c : Nat) : (6 : Int32) * nI a + nI c = nI (6 * a + c) := by
  rw [show (6 : Int32) = nI 6 from rfl, pk_mul, nI_add]
/-- what comes to a house, from the first k -/
def sIn (D : Nat → Int32) (y : Nat) : Nat → Int32
  | 0 => 0
  | k + 1 => sIn D y k + imax 0 (D (6 * k + y))
def sOut (D : Nat → Int32) (x : Nat) : Nat → Int32
  | 0 => 0
  | k + 1 => sOut D x k + imax 0 (D (6 * x + k))
