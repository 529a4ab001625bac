/-! what stays as it must be over a crossing; songs -/
theorem zi {v : Int32} {z : Int} (h : v = Int32.ofInt z) (h1 : -2147483648 ≤ z) (h2 : z < 2147483648) : v.toInt = z := by
  rw [h, Int32.toInt_ofInt_of_le (by omega) (by omega)]
theorem zi_neg {v : Int32} (h : -2147483648 < v.toInt) : (-v).toInt = -v.toInt := zi (by rw [Int32.ofInt_neg, Int32.ofInt_toInt]) (by have := Int32.toInt_lt v; omega) (by omega)
theorem zi_mul {t f : Int32} (h1 : t.toInt ≤ 99) (h2 : -99 ≤ t.toInt) (h3 : f.toInt ≤ 99) (h4 : -99 ≤ f.toInt) : -9801 ≤ t.toInt * f.toInt ∧ t.toInt * f.toInt ≤ 9801 := by
  have : (t.toInt * f.toInt).natAbs ≤ 9801 := by
    rw [Int.natAbs_mul]
    exact Nat.mul_le_mul (by omega : t.toInt.natAbs ≤ 99) (by omega : f.toInt.natAbs ≤ 99)
  omega
theorem zi_addmul {v t f : Int32} (h1 : t.toInt ≤ 99) (h2 : -99 ≤ t.toInt) (h3 : f.toInt ≤ 99) (h4 : -99 ≤ f.toInt) (h5 : v.toInt ≤ 99) (h6 : -99 ≤ v.toInt) : (v + t * f).toInt = v.toInt + t.toInt * f.toInt := by
  have := zi_mul h1 h2 h3 h4
  exact zi (by rw [Int32.ofInt_add, Int32.ofInt_mul, Int32.ofInt_toInt, Int32.ofInt_toInt, Int32.ofInt_toInt]) (by omega) (by omega)
theorem zi_submul {v t f : Int32} (h1 : t.toInt ≤ 99) (h2 : -99 ≤ t.toInt) (h3 : f.toInt ≤ 99) (h4 : -99 ≤ f.toInt) (h5 : v.toInt ≤ 99) (h6 : -99 ≤ v.toInt) : (v - t * f).toInt = v.toInt - t.toInt * f.toInt := by
  have := zi_mul h1 h2 h3 h4
  exact zi (by rw [Int32.ofInt_sub, Int32.ofInt_mul, Int32.ofInt_toInt, Int32.ofInt_toInt, Int32.ofInt_toInt]) (by omega) (by omega)
theorem zi_abs {u : Int32} (h : -2147483648 < u.toInt) : (iabs u).toInt = u.toInt.natAbs := by
  unfold iabs
  by_cases c : 0 ≤ u
  · have : (0 : Int) ≤ u.toInt := Int32.le_iff_toInt_le.mp c
    rw [if_pos c]
    omega
  · have c1 : ¬ (0 : Int) ≤ u.toInt := fun z => c (Int32.le_iff_toInt_le.mpr z)
    rw [if_neg c]
    have : (0 - u).toInt = -u.toInt := zi (by rw [Int32.ofInt_neg, Int32.ofInt_toInt, Int32.zero_sub]) (by omega) (by omega)
    omega
theorem An.lo {D : Nat → Int32} (A : An D) {a b : Nat} (ha : a < 6) (hb : b < 6) : -99 ≤ (D (6 * a + b)).toInt := by
  have h1 := (A a b ha hb).1
  have h2 := (A b a hb ha).2
  omega
theorem An.hi {D : Nat → Int32} (A : An D) {a b : Nat} (ha : a < 6) (hb : b < 6) : (D (6 * a + b)).toInt ≤ 99 := (A a b ha hb).2
def nxZ (N : Nat) (d : Nat → Nat → Int) (x a b : Nat) : Int :=
  if a < N ∧ b < N then (if a = x ∨ b = x then -d a b else if 0 < d a x ∧ 0 < d x b then d a b + d a x * d x b else if d a x < 0 ∧ d x b < 0 then d a b - d a x * d x b else d a b) else d a b
theorem nx_toInt {D : Nat → Int32} {N x a b : Nat} (A : An D) (hx : x < 6) (ha : a < 6) (hb : b < 6) : (nx N D x a b).toInt = nxZ N (fun a b => (D (6 * a + b)).toInt) x a b := by
  unfold nx nxZ
  dsimp only
  have l1 := A.lo ha hx
  have l2 := A.hi ha hx
  have l3 := A.lo hx hb
  have l4 := A.hi hx hb
  have l5 := A.lo ha hb
  have l6 := A.hi ha hb
  by_cases c : a < N ∧ b < N
  · rw [if_pos c, if_pos c]
    by_cases c1 : a = x ∨ b = x
    · rw [if_pos c1, if_pos c1, zi_neg (by omega)]
    · rw [if_neg c1, if_neg c1]
      by_cases c2 : 0 < D (6 * a + x) ∧ 0 < D (6 * x + b)
      · rw [if_pos c2, if_pos ⟨pos_i.mp c2.1, pos_i.mp c2.2⟩, zi_addmul (by omega) (by omega) (by omega) (by omega) (by omega) (by omega)]
      · rw [if_neg c2, if_neg (c := 0 < (D (6 * a + x)).toInt ∧ 0 < (D (6 * x + b)).toInt) (fun z => c2 ⟨pos_i.mpr z.1, pos_i.mpr z.2⟩)]
        by_cases c3 : D (6 * a + x) < 0 ∧ D (6 * x + b) < 0
        · rw [if_pos c3, if_pos ⟨negt_i.mp c3.1, negt_i.mp c3.2⟩, zi_submul (by omega) (by omega) (by omega) (by omega) (by omega) (by omega)]
        · rw [if_neg c3, if_neg (c := (D (6 * a + x)).toInt < 0 ∧ (D (6 * x + b)).toInt < 0) (fun z => c3 ⟨negt_i.mpr z.1, negt_i.mpr z.2⟩)]
  · rw [if_neg c, if_neg c]
theorem nxZ_anti {N x a b : Nat} {d : Nat → Nat → Int} (h1 : d a b = -d b a) (h2 : d a x = -d x a) (h3 : d b x = -d x b) : nxZ N d x a b = -nxZ N d x b a := by
  unfold nxZ
  have hm : d b x * d x a = d a x * d x b := by
    rw [h3, h2, Int.neg_mul, Int.neg_mul, Int.mul_comm]
  by_cases c : a < N ∧ b < N
  · rw [if_pos c, if_pos (c := b < N ∧ a < N) ⟨c.2, c.1⟩]
    by_cases c1 : a = x ∨ b = x
    · rw [if_pos c1, if_pos (c := b = x ∨ a = x) c1.symm]
      omega
    · rw [if_neg c1, if_neg (c := b = x ∨ a = x) (fun z => c1 z.symm), hm]
      generalize d a x * d x b = m
      split <;> split <;> first | omega | (split <;> first | omega | (split <;> omega))
  · rw [if_neg c, if_neg (c := b < N ∧ a < N) (fun z => c ⟨z.2, z.1⟩)]
    omega
theorem ful_no {D : Nat → Int32} {lim : Int32} {N x : Nat} (h : ful D lim N x = false) {k j : Nat} (hk : k < N) (hj : j < N) (p1 : 0 < D (6 * k + x)) (p2 : 0 < D (6 * x + j)) : ¬ lim < iabs (D (6 * k + j) + D (6 * k + x) * D (6 * x + j)) := by
  have h1 := anyB_no.mp h k hk
  rw [decide_eq_true p1, Bool.true_and] at h1
  have h2 := anyB_no.mp h1 j hj
  rw [decide_eq_true p2, Bool.true_and] at h2
  exact of_decide_eq_false h2
theorem nx_le {D : Nat → Int32} {lim : Int32} {N x a b : Nat} (A : An D) (h6 : N ≤ 6) (hx : x < N) (hl : ∀ a b, a < 6 → b < 6 → (D (6 * a + b)).toInt ≤ lim.toInt) (hf : ful D lim N x = false) (ha : a < 6) (hb : b < 6) : nxZ N (fun a b => (D (6 * a + b)).toInt) x a b ≤ lim.toInt := by
  have hx6 : x < 6 := by omega
  have l1 := A.lo ha hx6
  have l2 := A.hi ha hx6
  have l3 := A.lo hx6 hb
  have l4 := A.hi hx6 hb
  have l5 := A.lo ha hb
  have l6 := A.hi ha hb
  unfold nxZ
  dsimp only
  by_cases c : a < N ∧ b < N
  · rw [if_pos c]
    by_cases c1 : a = x ∨ b = x
    · rw [if_pos c1]
      have := (A a b ha hb).1
      have := hl b a hb ha
      omega
    · rw [if_neg c1]
      by_cases c2 : 0 < (D (6 * a + x)).toInt ∧ 0 < (D (6 * x + b)).toInt
      · rw [if_pos c2]
        have g := ful_no hf c.1 c.2 (pos_i.mpr c2.1) (pos_i.mpr c2.2)
        have e := zi_addmul l2 l1 l4 l3 l6 l5
        have m := zi_mul l2 l1 l4 l3
        have g2 : ¬ lim.toInt < (iabs (D (6 * a + b) + D (6 * a + x) * D (6 * x + b))).toInt := fun z => g (Int32.lt_iff_toInt_lt.mpr z)
        rw [zi_abs (by omega), e] at g2
        omega
      · rw [if_neg c2]
        by_cases c3 : (D (6 * a + x)).toInt < 0 ∧ (D (6 * x + b)).toInt < 0
        · rw [if_pos c3]
          have q1 := (A b x hb hx6).1
          have q2 := (A x a hx6 ha).1
          have q3 := (A b a hb ha).1
          have g := ful_no hf c.2 c.1 (pos_i.mpr (by omega : 0 < (D (6 * b + x)).toInt)) (pos_i.mpr (by omega : 0 < (D (6 * x + a)).toInt))
          have e := zi_addmul (A.hi hb hx6) (A.lo hb hx6) (A.hi hx6 ha) (A.lo hx6 ha) (A.hi hb ha) (A.lo hb ha)
          have m := zi_mul l2 l1 l4 l3
          have m2 : (D (6 * b + x)).toInt * (D (6 * x + a)).toInt = (D (6 * a + x)).toInt * (D (6 * x + b)).toInt := by
            rw [q1, q2, Int.neg_mul, Int.mul_neg, Int.neg_neg, Int.mul_comm]
          rw [m2, q3] at e
          have g2 : ¬ lim.toInt < (iabs (D (6 * b + a) + D (6 * b + x) * D (6 * x + a))).toInt := fun z => g (Int32.lt_iff_toInt_lt.mpr z)
          rw [zi_abs (by omega), e] at g2
          omega
        · rw [if_neg c3]
          exact hl a b ha hb
  · rw [if_neg c]
    exact hl a b ha hb
/-- what all owe, within the limit; the worths -/
abbrev BS : Type := (Nat → Int32) × (Nat → Int32)
def Li (lim : Int32) (D : Nat → Int32) : Prop := ∀ a b, a < 6 → b < 6 → (D (6 * a + b)).toInt ≤ lim.toInt
def Vb (lim : Int32) (Q : BS) : Prop := An Q.1 ∧ Li lim Q.1 ∧ Wo Q.2
def crs (N : Nat) (Q : BS) (x : Nat) : BS := (nxF N Q.1 x, upd Q.2 x (nI (fw N Q.1 Q.2 x)))
def can (N : Nat) (kp lim : Int32) (Q : BS) (x : Nat) : Bool := decide (x < N) && canT N Q.1 Q.2 kp lim x
theorem can_x {N : Nat} {kp lim : Int32} {Q : BS} {x : Nat} (h : can N kp lim Q x = true) : x < N ∧ kep kp x = false ∧ Q.2 x ≠ 0 ∧ ful Q.1 lim N x = false := by
  unfold can canT at h
  simp at h
  exact ⟨h.1, h.2.1.1, h.2.1.2, h.2.2⟩
theorem Vb_crs {N : Nat} {kp lim : Int32} {Q : BS} {x : Nat} (V : Vb lim Q) (h6 : N ≤ 6) (hl : lim.toInt ≤ 99) (h : can N kp lim Q x = true) : Vb lim (crs N Q x) := by
  obtain ⟨h1, h2, h3, h4⟩ := can_x h
  obtain ⟨A, L, hW⟩ := V
  have hx6 : x < 6 := by omega
  refine ⟨fun a b ha hb => ?_, fun a b ha hb => ?_, fun k hk => ?_⟩
  · show (nxF N Q.1 x (6 * a + b)).toInt = -(nxF N Q.1 x (6 * b + a)).toInt ∧ (nxF N Q.1 x (6 * a + b)).toInt ≤ 99
    rw [nxF_at ha hb, nxF_at hb ha, nx_toInt A hx6 ha hb, nx_toInt A hx6 hb ha]
    exact ⟨nxZ_anti (A a b ha hb).1 (A a x ha hx6).1 (A b x hb hx6).1, Int.le_trans (nx_le A h6 h1 L h4 ha hb) hl⟩
  · show (nxF N Q.1 x (6 * a + b)).toInt ≤ lim.toInt
    rw [nxF_at ha hb, nx_toInt A hx6 ha hb]
    exact nx_le A h6 h1 L h4 ha hb
  · show ∃ w, w < 1000003 ∧ upd Q.2 x (nI (fw N Q.1 Q.2 x)) k = nI w
    by_cases e : k = x
    · subst e
      exact ⟨fw N Q.1 Q.2 k, fw_lt, upd_same⟩
    · rw [upd_ne e]
      exact hW k hk
def fol (N : Nat) (kp lim : Int32) (dg : Nat → Nat) : Nat → Nat → BS → Bool × BS
  | 0, _, Q => (true, Q)
  | m + 1, k, Q => if can N kp lim Q (dg k) then fol N kp lim dg m (k + 1) (crs N Q (dg k)) else (false, Q)
theorem Vb_fol {N : Nat} {kp lim : Int32} {dg : Nat → Nat} (h6 : N ≤ 6) (hl : lim.toInt ≤ 99) : ∀ (m k : Nat) (Q : BS), Vb lim Q → Vb lim (fol N kp lim dg m k Q).2
  | 0, _, Q, V => V
  | m + 1, k, Q, V => by
    show Vb lim (if can N kp lim Q (dg k) then fol N kp lim dg m (k + 1) (crs N Q (dg k)) else (false, Q)).2
    split
    · rename_i h
      exact Vb_fol h6 hl m (k + 1) _ (Vb_crs V h6 hl h)
    · exact V
