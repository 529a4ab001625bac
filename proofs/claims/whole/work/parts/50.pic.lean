/-! PICTURES: cells as the methods find them -/
abbrev ia (n : Nat) (f : Nat → Int32) : xa_C := .inl (0, n, .inl f)
theorem xu_same {h : xa_H} {a : Nat} {c : xa_C} : (xu h a c).1 a = some c := if_pos rfl
theorem xu_ne {h : xa_H} {a j : Nat} {c : xa_C} (hne : j ≠ a) : (xu h a c).1 j = h.1 j := if_neg hne
theorem xu_2 {h : xa_H} {a : Nat} {c : xa_C} : (xu h a c).2 = h.2 := rfl
theorem xu_xu {h : xa_H} {a : Nat} {c c' : xa_C} : xu (xu h a c) a c' = xu h a c' := by
  unfold xu
  congr 1
  funext j
  dsimp only
  by_cases e : j = a
  · rw [if_pos e, if_pos e]
  · rw [if_neg e, if_neg e, if_neg e]
theorem xu_self {h : xa_H} {a : Nat} {c : xa_C} (hc : h.1 a = some c) : xu h a c = h := by
  obtain ⟨f, n⟩ := h
  unfold xu
  congr 1
  funext j
  dsimp only
  by_cases e : j = a
  · rw [if_pos e, e]
    exact hc.symm
  · rw [if_neg e]
theorem xg_in {h : xa_H} {a ci k : Nat} {fs : List Value} {cs : List Nat} {v : Value} (hc : h.1 a = some (.inr (ci, fs))) (hm : ci ∈ cs) (hv : fs[k]? = some v) : xg cs k h a = some v := by
  unfold xg
  rw [hc]
  dsimp only
  rw [if_pos hm]
  exact hv
theorem gI_in {h : xa_H} {a ci k : Nat} {fs : List Value} {cs : List Nat} {x : Int32} (hc : h.1 a = some (.inr (ci, fs))) (hm : ci ∈ cs) (hv : fs[k]? = some (.int x)) : gI cs k h a = some x := by
  unfold gI
  rw [xg_in hc hm hv]
  rfl
theorem gR_in {h : xa_H} {a ci k : Nat} {fs : List Value} {cs : List Nat} {x : Nat} (hc : h.1 a = some (.inr (ci, fs))) (hm : ci ∈ cs) (hv : fs[k]? = some (.ref x)) : gR cs k h a = some x := by
  unfold gR
  rw [xg_in hc hm hv]
  rfl
theorem xp_in {h : xa_H} {a ci k : Nat} {fs : List Value} {cs : List Nat} {v : Value} (hc : h.1 a = some (.inr (ci, fs))) (hm : ci ∈ cs) (hk : k < fs.length) : xp cs k h a v = some (xu h a (.inr (ci, fs.set k v))) := by
  unfold xp
  rw [hc]
  dsimp only
  rw [if_pos ⟨hm, hk⟩]
theorem ck_in {h : xa_H} {a ci : Nat} {fs : List Value} {cs : List Nat} (hc : h.1 a = some (.inr (ci, fs))) (hm : ci ∈ cs) : ck cs h a = some () := by
  unfold ck
  rw [hc]
  dsimp only
  rw [if_pos hm]
theorem nI_inb {k n : Nat} (hk : k < n) (hn : n < 2 ^ 31) : ¬ (nI k < 0 ∨ n ≤ (nI k).toNatClampNeg) := nI_in hk hn
theorem aI_in {h : xa_H} {a n k : Nat} {f : Nat → Int32} (hc : h.1 a = some (ia n f)) (hk : k < n) (hn : n < 2 ^ 31) : aI h a (nI k) = some (f k) := by
  unfold aI
  rw [hc]
  show (if nI k < 0 ∨ n ≤ (nI k).toNatClampNeg then none else some (f (nI k).toNatClampNeg)) = _
  rw [if_neg (nI_inb hk hn), nI_clamp (by omega)]
theorem pI_in {h : xa_H} {a n k : Nat} {f : Nat → Int32} {x : Int32} (hc : h.1 a = some (ia n f)) (hk : k < n) (hn : n < 2 ^ 31) : pI h a (nI k) x = some (xu h a (ia n (upd f k x))) := by
  unfold pI
  rw [hc]
  show (if nI k < 0 ∨ n ≤ (nI k).toNatClampNeg then none else some (xu h a (ia n (upd f (nI k).toNatClampNeg x)))) = _
  rw [if_neg (nI_inb hk hn), nI_clamp (by omega)]
theorem ix6 (a c : Nat) : (6 : Int32) * nI a + nI c = nI (6 * a + c) := by
  rw [show (6 : Int32) = nI 6 from rfl, pk_mul, nI_add]
/-- a Board at b -/
def Bd (h : xa_H) (b : Nat) (D Wt Tm Us : Nat → Int32) (hs lim kp co cr : Int32) : Prop :=
  h.1 b = some (.inr (0, [.ref (b + 1), .ref (b + 2), .ref (b + 3), .ref (b + 4), .int hs, .int lim, .int kp, .int co, .int cr])) ∧ h.1 (b + 1) = some (ia 36 D) ∧ h.1 (b + 2) = some (ia 6 Wt) ∧ h.1 (b + 3) = some (ia 6 Tm) ∧ h.1 (b + 4) = some (ia 6 Us)
section BD
variable {h : xa_H} {b : Nat} {D Wt Tm Us : Nat → Int32} {hs lim kp co cr : Int32}
theorem Bd.ck (B : Bd h b D Wt Tm Us hs lim kp co cr) : ck [0] h b = some () := ck_in B.1 (by decide)
theorem Bd.g0 (B : Bd h b D Wt Tm Us hs lim kp co cr) : gR [0] 0 h b = some (b + 1) := gR_in B.1 (by decide) rfl
theorem Bd.g1 (B : Bd h b D Wt Tm Us hs lim kp co cr) : gR [0] 1 h b = some (b + 2) := gR_in B.1 (by decide) rfl
theorem Bd.g2 (B : Bd h b D Wt Tm Us hs lim kp co cr) : gR [0] 2 h b = some (b + 3) := gR_in B.1 (by decide) rfl
theorem Bd.g3 (B : Bd h b D Wt Tm Us hs lim kp co cr) : gR [0] 3 h b = some (b + 4) := gR_in B.1 (by decide) rfl
theorem Bd.g4 (B : Bd h b D Wt Tm Us hs lim kp co cr) : gI [0] 4 h b = some hs := gI_in B.1 (by decide) rfl
theorem Bd.g5 (B : Bd h b D Wt Tm Us hs lim kp co cr) : gI [0] 5 h b = some lim := gI_in B.1 (by decide) rfl
theorem Bd.g6 (B : Bd h b D Wt Tm Us hs lim kp co cr) : gI [0] 6 h b = some kp := gI_in B.1 (by decide) rfl
theorem Bd.g7 (B : Bd h b D Wt Tm Us hs lim kp co cr) : gI [0] 7 h b = some co := gI_in B.1 (by decide) rfl
theorem Bd.g8 (B : Bd h b D Wt Tm Us hs lim kp co cr) : gI [0] 8 h b = some cr := gI_in B.1 (by decide) rfl
theorem Bd.debt (B : Bd h b D Wt Tm Us hs lim kp co cr) {x y : Nat} (hx : x < 6) (hy : y < 6) : f_X0_debt h b (nI x) (nI y) = some (D (6 * x + y)) := by
  unfold f_X0_debt
  rw [B.ck, Option.bind_some, B.g0, Option.bind_some, ix6, aI_in B.2.1 (by omega) (by decide), Option.bind_some]
theorem Bd.setD (B : Bd h b D Wt Tm Us hs lim kp co cr) (D' : Nat → Int32) : Bd (xu h (b + 1) (ia 36 D')) b D' Wt Tm Us hs lim kp co cr :=
  ⟨by rw [xu_ne (by omega)]; exact B.1, xu_same, by rw [xu_ne (by omega)]; exact B.2.2.1, by rw [xu_ne (by omega)]; exact B.2.2.2.1, by rw [xu_ne (by omega)]; exact B.2.2.2.2⟩
theorem Bd.setDebt (B : Bd h b D Wt Tm Us hs lim kp co cr) {x y : Nat} (hx : x < 6) (hy : y < 6) (v : Int32) : f_X0_setDebt h b (nI x) (nI y) v = some (xu h (b + 1) (ia 36 (upd (upd D (6 * x + y) v) (6 * y + x) (-v)))) := by
  unfold f_X0_setDebt
  rw [B.ck, Option.bind_some, B.g0, Option.bind_some, ix6, pI_in B.2.1 (by omega) (by decide), Option.bind_some]
  have B' := B.setD (upd D (6 * x + y) v)
  rw [B'.g0, Option.bind_some, ix6, pI_in B'.2.1 (by omega) (by decide), Option.bind_some, xu_xu]
/-- what comes to a house, from the first k -/
def sIn (D : Nat → Int32) (y : Nat) : Nat → Int32
  | 0 => 0
  | k + 1 => sIn D y k + imax 0 (D (6 * k + y))
def sOut (D : Nat → Int32) (x : Nat) : Nat → Int32
  | 0 => 0
  | k + 1 => sOut D x k + imax 0 (D (6 * x + k))
theorem Bd.incoming_loop {N : Nat} (B : Bd h b D Wt Tm Us (nI N) lim kp co cr) (hN : N ≤ 6) {y : Nat} (hy : y < 6) : ∀ (m k n : Nat), k + m = N → m < n → f_X0_incoming_b4 n h b (nI y) (sIn D y k) (nI k) = some (sIn D y N)
  | 0, k, 0, _, hn => by omega
  | 0, k, n + 1, hk, _ => by
    rw [f_X0_incoming_b4, B.g4, Option.bind_some, if_pos (by rw [show k = N by omega]; exact nI_le (Nat.le_refl _) (by omega)), show k = N by omega]
  | m + 1, k, 0, _, hn => by omega
  | m + 1, k, n + 1, hk, hn => by
    rw [f_X0_incoming_b4, B.g4, Option.bind_some, if_neg (nI_ge (by omega) (by omega)), B.debt (by omega) hy, Option.bind_some, nI_1]
    exact Bd.incoming_loop B hN hy m (k + 1) n (by omega) (by omega)
theorem Bd.incoming {N : Nat} (B : Bd h b D Wt Tm Us (nI N) lim kp co cr) (hN : N ≤ 6) {y : Nat} (hy : y < 6) : f_X0_incoming h b (nI y) = some (sIn D y N) := by
  unfold f_X0_incoming
  rw [B.ck, Option.bind_some]
  exact B.incoming_loop hN hy N 0 1048576 (by omega) (by omega)
end BD
