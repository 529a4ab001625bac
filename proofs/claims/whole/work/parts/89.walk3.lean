/-! WALK: how many unlike tables -/
/-- what one owes another, held within a byte -/
def hN (D : Nat → Int32) (x y : Nat) : Nat := ((D (6 * x + y)).toInt + 128).toNat
theorem hN_lt {D : Nat → Int32} (A : An D) {x y : Nat} (hx : x < 6) (hy : y < 6) : hN D x y < 256 := by
  have := A.hi hx hy
  unfold hN
  omega
theorem hN_eq {D : Nat → Int32} (A : An D) {x y : Nat} (hx : x < 6) (hy : y < 6) : D (6 * x + y) + 128 = nI (hN D x y) := by
  have h1 := A.hi hx hy
  have h2 := A.lo hx hy
  refine Int32.toInt_inj.mp ?_
  rw [zi (z := (D (6 * x + y)).toInt + 128) (by rw [Int32.ofInt_add, Int32.ofInt_toInt]; rfl) (by omega) (by omega), nI_toInt (by unfold hN; omega)]
  unfold hN
  omega
theorem lN_nt {n : Nat} (h : n < 2 ^ 64) : (lN n).toBitVec.toNat = n := by
  show (BitVec.ofNat 64 n).toNat = n
  rw [BitVec.toNat_ofNat, Nat.mod_eq_of_lt h]
theorem lsh8 {a h : Nat} (ha : a < 2 ^ 56) (hh : h < 256) : lshl (lN a) (8 : Int32) ||| (nI h).toInt64 = lN (a * 256 + h) := by
  rw [nI_l (by omega)]
  refine Int64.toBitVec_inj.mp (BitVec.eq_of_toNat_eq ?_)
  have e1 : (lshl (lN a) (8 : Int32)).toBitVec = BitVec.ofNat 64 a <<< 8 := by
    unfold lshl
    rfl
  rw [Int64.toBitVec_or, BitVec.toNat_or, e1, BitVec.toNat_shiftLeft, lN_nt (n := h) (by omega), lN_nt (n := a * 256 + h) (by omega), BitVec.toNat_ofNat, Nat.mod_eq_of_lt (show a < 2 ^ 64 by omega), Nat.shiftLeft_eq, Nat.mod_eq_of_lt (by omega), ← Nat.shiftLeft_eq, ← Nat.shiftLeft_add_eq_or_of_lt (show h < 2 ^ 8 from hh), Nat.shiftLeft_eq]
def pkL (D : Nat → Int32) : List (Nat × Nat) → Nat → Nat
  | [], a => a
  | q :: t, a => pkL D t (a * 256 + hN D q.1 q.2)
def PA : List (Nat × Nat) := [(0, 1), (0, 2), (0, 3), (0, 4), (0, 5), (1, 2), (1, 3), (1, 4)]
def PB : List (Nat × Nat) := [(1, 5), (2, 3), (2, 4), (2, 5), (3, 4), (3, 5), (4, 5)]
theorem pkL_inj {D D' : Nat → Int32} (A : An D) (A' : An D') : ∀ (l : List (Nat × Nat)) (a a' : Nat), (∀ q, q ∈ l → q.1 < 6 ∧ q.2 < 6) → pkL D l a = pkL D' l a' → a = a' ∧ ∀ q, q ∈ l → hN D q.1 q.2 = hN D' q.1 q.2
  | [], a, a', _, h => ⟨h, fun q hq => by cases hq⟩
  | q :: t, a, a', hl, h => by
    obtain ⟨h1, h2⟩ := pkL_inj A A' t _ _ (fun q hq => hl q (List.mem_cons_of_mem _ hq)) h
    have b1 := hl q List.mem_cons_self
    have c1 := hN_lt A b1.1 b1.2
    have c2 := hN_lt A' b1.1 b1.2
    refine ⟨by omega, fun r hr => ?_⟩
    rcases List.mem_cons.mp hr with z | z
    · rw [z]
      omega
    · exact h2 r z
theorem pkL_lt {D : Nat → Int32} (A : An D) : ∀ (l : List (Nat × Nat)) (a m : Nat), (∀ q, q ∈ l → q.1 < 6 ∧ q.2 < 6) → a < 256 ^ m → pkL D l a < 256 ^ (m + l.length)
  | [], a, m, _, h => h
  | q :: t, a, m, hl, h => by
    have b1 := hl q List.mem_cons_self
    have c1 := hN_lt A b1.1 b1.2
    have := pkL_lt A t (a * 256 + hN D q.1 q.2) (m + 1) (fun q hq => hl q (List.mem_cons_of_mem _ hq)) (by rw [Nat.pow_succ]; omega)
    show pkL D t _ < _
    rw [List.length_cons, show m + (t.length + 1) = m + 1 + t.length by omega]
    exact this
def keyT (D : Nat → Int32) : Int64 × Int64 := (lN (pkL D PA 0), lN (pkL D PB 0))
theorem lN_inj {a b : Nat} (ha : a < 2 ^ 64) (hb : b < 2 ^ 64) (h : lN a = lN b) : a = b := by
  have := congrArg (fun v : Int64 => v.toBitVec.toNat) h
  rw [lN_nt ha, lN_nt hb] at this
  exact this
theorem PAB : ∀ x, x < 6 → ∀ y, y < 6 → x < y → (x, y) ∈ PA ∨ (x, y) ∈ PB := by
  intro x hx y hy h
  unfold PA PB
  rcases (by omega : x = 0 ∨ x = 1 ∨ x = 2 ∨ x = 3 ∨ x = 4 ∨ x = 5) with rfl | rfl | rfl | rfl | rfl | rfl <;> rcases (by omega : y = 0 ∨ y = 1 ∨ y = 2 ∨ y = 3 ∨ y = 4 ∨ y = 5) with rfl | rfl | rfl | rfl | rfl | rfl <;> first | (exfalso; omega) | decide
theorem PA6 : ∀ q, q ∈ PA → q.1 < 6 ∧ q.2 < 6 := by decide
theorem PB6 : ∀ q, q ∈ PB → q.1 < 6 ∧ q.2 < 6 := by decide
theorem keyT_inj {D D' : Nat → Int32} (A : An D) (A' : An D') (h : keyT D = keyT D') : ∀ k, k < 36 → D k = D' k := by
  have p1 := pkL_lt A PA 0 0 PA6 (by decide)
  have p1' := pkL_lt A' PA 0 0 PA6 (by decide)
  have p2 := pkL_lt A PB 0 0 PB6 (by decide)
  have p2' := pkL_lt A' PB 0 0 PB6 (by decide)
  have e8 : 256 ^ (0 + PA.length) = 2 ^ 64 := by decide
  have e7 : 256 ^ (0 + PB.length) ≤ 2 ^ 64 := by decide
  have i1 := (pkL_inj A A' PA 0 0 PA6 (lN_inj (by omega) (by omega) (congrArg Prod.fst h))).2
  have i2 := (pkL_inj A A' PB 0 0 PB6 (lN_inj (by omega) (by omega) (congrArg Prod.snd h))).2
  have up : ∀ x y, x < 6 → y < 6 → x < y → (D (6 * x + y)).toInt = (D' (6 * x + y)).toInt := by
    intro x y hx hy hlt
    have e : hN D x y = hN D' x y := by
      rcases PAB x hx y hy hlt with z | z
      · exact i1 _ z
      · exact i2 _ z
    have a1 := A.lo hx hy
    have a2 := A'.lo hx hy
    unfold hN at e
    omega
  intro k hk
  have ek : 6 * (k / 6) + k % 6 = k := by omega
  generalize hx : k / 6 = x at *
  generalize hy : k % 6 = y at *
  have x6 : x < 6 := by omega
  have y6 : y < 6 := by omega
  rw [← ek]
  refine Int32.toInt_inj.mp ?_
  rcases Nat.lt_trichotomy x y with z | z | z
  · exact up x y x6 y6 z
  · subst z
    rw [A.diag x6, A'.diag x6]
  · rw [(A x y x6 y6).1, (A' x y x6 y6).1, up y x y6 x6 z]
section W3
variable {S : XS} {c : Nat × Nat} {b : Nat}
theorem at_row {n pr x : Nat} {u v : Int64} (hn : 0 < n) (hx : x < 6) : f_X10_addTable_b11 n (hp S c) 271 b u v (nI pr) (nI x) = f_X10_addTable_b24 (fun h l0 l1 l2 l4 l6 l7 => f_X10_addTable_b11 (n - 1) h l0 l1 l2 l4 l6 l7) 1048576 (hp S c) 271 b u v (nI pr) (nI x) (nI (x + 1)) := by
  obtain ⟨n, rfl⟩ : ∃ q, n = q + 1 := ⟨n - 1, by omega⟩
  rw [f_X10_addTable_b11, if_neg (by rw [show (6 : Int32) = nI 6 from rfl]; exact nI_ge hx (by decide)), nI_1]
  rfl
theorem at_end {n pr : Nat} {u v : Int64} (hn : 0 < n) : f_X10_addTable_b11 n (hp S c) 271 b u v (nI pr) (nI 6) = (f_X10_fillIn (hp S c) 271 u v).bind fun q2 => some q2 := by
  obtain ⟨n, rfl⟩ : ∃ q, n = q + 1 := ⟨n - 1, by omega⟩
  rw [f_X10_addTable_b11, if_pos (by decide)]
theorem at_out {k11 : xa_H → Nat → Nat → Int64 → Int64 → Int32 → Int32 → Option xa_H} {n pr x : Nat} {u v : Int64} (hn : 0 < n) : f_X10_addTable_b24 k11 n (hp S c) 271 b u v (nI pr) (nI x) (nI 6) = k11 (hp S c) 271 b u v (nI pr) (nI (x + 1)) := by
  obtain ⟨n, rfl⟩ : ∃ q, n = q + 1 := ⟨n - 1, by omega⟩
  rw [f_X10_addTable_b24, if_pos (by decide), nI_1]
theorem at_inA {k11 : xa_H → Nat → Nat → Int64 → Int64 → Int32 → Int32 → Option xa_H} {n pr x y a : Nat} {v : Int64} (hb : isB b ∧ An (S.1 (b + 1))) (hn : 0 < n) (hx : x < 6) (hy : y < 6) (hpr : pr < 8) (ha : a < 2 ^ 56) : f_X10_addTable_b24 k11 n (hp S c) 271 b (lN a) v (nI pr) (nI x) (nI y) = f_X10_addTable_b24 k11 (n - 1) (hp S c) 271 b (lN (a * 256 + hN (S.1 (b + 1)) x y)) v (nI (pr + 1)) (nI x) (nI (y + 1)) := by
  obtain ⟨n, rfl⟩ : ∃ q, n = q + 1 := ⟨n - 1, by omega⟩
  rw [f_X10_addTable_b24, if_neg (by rw [show (6 : Int32) = nI 6 from rfl]; exact nI_ge hy (by decide)), hb.1.debt hx hy, Option.bind_some, if_neg (by rw [show (8 : Int32) = nI 8 from rfl]; exact nI_ge hpr (by decide)), hN_eq hb.2 hx hy, lsh8 ha (hN_lt hb.2 hx hy)]
  unfold f_X10_addTable_b75
  rw [nI_1, nI_1]
  rfl
theorem at_inB {k11 : xa_H → Nat → Nat → Int64 → Int64 → Int32 → Int32 → Option xa_H} {n pr x y a : Nat} {v : Int64} (hb : isB b ∧ An (S.1 (b + 1))) (hn : 0 < n) (hx : x < 6) (hy : y < 6) (hpr : 8 ≤ pr) (hp2 : pr < 100) (ha : a < 2 ^ 56) : f_X10_addTable_b24 k11 n (hp S c) 271 b v (lN a) (nI pr) (nI x) (nI y) = f_X10_addTable_b24 k11 (n - 1) (hp S c) 271 b v (lN (a * 256 + hN (S.1 (b + 1)) x y)) (nI (pr + 1)) (nI x) (nI (y + 1)) := by
  obtain ⟨n, rfl⟩ : ∃ q, n = q + 1 := ⟨n - 1, by omega⟩
  rw [f_X10_addTable_b24, if_neg (by rw [show (6 : Int32) = nI 6 from rfl]; exact nI_ge hy (by decide)), hb.1.debt hx hy, Option.bind_some, if_pos (by rw [show (8 : Int32) = nI 8 from rfl]; exact nI_le hpr (by omega)), hN_eq hb.2 hx hy, lsh8 ha (hN_lt hb.2 hx hy)]
  unfold f_X10_addTable_b75
  rw [nI_1, nI_1]
  rfl
theorem X10_addTable (B : isB b) (A : An (S.1 (b + 1))) : f_X10_addTable (hp S c) 271 b = (f_X10_fillIn (hp S c) 271 (keyT (S.1 (b + 1))).1 (keyT (S.1 (b + 1))).2).bind fun q2 => some q2 := by
  have hb := And.intro B A
  have h01 := hN_lt A (show 0 < 6 by decide) (show 1 < 6 by decide)
  have h02 := hN_lt A (show 0 < 6 by decide) (show 2 < 6 by decide)
  have h03 := hN_lt A (show 0 < 6 by decide) (show 3 < 6 by decide)
  have h04 := hN_lt A (show 0 < 6 by decide) (show 4 < 6 by decide)
  have h05 := hN_lt A (show 0 < 6 by decide) (show 5 < 6 by decide)
  have h12 := hN_lt A (show 1 < 6 by decide) (show 2 < 6 by decide)
  have h13 := hN_lt A (show 1 < 6 by decide) (show 3 < 6 by decide)
  have h14 := hN_lt A (show 1 < 6 by decide) (show 4 < 6 by decide)
  have h15 := hN_lt A (show 1 < 6 by decide) (show 5 < 6 by decide)
  have h23 := hN_lt A (show 2 < 6 by decide) (show 3 < 6 by decide)
  have h24 := hN_lt A (show 2 < 6 by decide) (show 4 < 6 by decide)
  have h25 := hN_lt A (show 2 < 6 by decide) (show 5 < 6 by decide)
  have h34 := hN_lt A (show 3 < 6 by decide) (show 4 < 6 by decide)
  have h35 := hN_lt A (show 3 < 6 by decide) (show 5 < 6 by decide)
  have h45 := hN_lt A (show 4 < 6 by decide) (show 5 < 6 by decide)
  unfold f_X10_addTable
  rw [k271, Option.bind_some, show f_X10_addTable_b11 1048576 (hp S c) 271 b 0 0 0 0 = f_X10_addTable_b11 1048576 (hp S c) 271 b (lN 0) (lN 0) (nI 0) (nI 0) from rfl]
  rw [at_row (pr := 0) (x := 0) (by decide) (by decide),
    at_inA (pr := 0) (x := 0) (y := 1) hb (by decide) (by decide) (by decide) (by decide) (by omega),
    at_inA (pr := 1) (x := 0) (y := 2) hb (by decide) (by decide) (by decide) (by decide) (by omega),
    at_inA (pr := 2) (x := 0) (y := 3) hb (by decide) (by decide) (by decide) (by decide) (by omega),
    at_inA (pr := 3) (x := 0) (y := 4) hb (by decide) (by decide) (by decide) (by decide) (by omega),
    at_inA (pr := 4) (x := 0) (y := 5) hb (by decide) (by decide) (by decide) (by decide) (by omega),
    at_out (pr := 5) (x := 0) (by decide),
    at_row (pr := 5) (x := 1) (by decide) (by decide),
    at_inA (pr := 5) (x := 1) (y := 2) hb (by decide) (by decide) (by decide) (by decide) (by omega),
    at_inA (pr := 6) (x := 1) (y := 3) hb (by decide) (by decide) (by decide) (by decide) (by omega),
    at_inA (pr := 7) (x := 1) (y := 4) hb (by decide) (by decide) (by decide) (by decide) (by omega),
    at_inB (pr := 8) (x := 1) (y := 5) hb (by decide) (by decide) (by decide) (by decide) (by decide) (by omega),
    at_out (pr := 9) (x := 1) (by decide),
    at_row (pr := 9) (x := 2) (by decide) (by decide),
    at_inB (pr := 9) (x := 2) (y := 3) hb (by decide) (by decide) (by decide) (by decide) (by decide) (by omega),
    at_inB (pr := 10) (x := 2) (y := 4) hb (by decide) (by decide) (by decide) (by decide) (by decide) (by omega),
    at_inB (pr := 11) (x := 2) (y := 5) hb (by decide) (by decide) (by decide) (by decide) (by decide) (by omega),
    at_out (pr := 12) (x := 2) (by decide),
    at_row (pr := 12) (x := 3) (by decide) (by decide),
    at_inB (pr := 12) (x := 3) (y := 4) hb (by decide) (by decide) (by decide) (by decide) (by decide) (by omega),
    at_inB (pr := 13) (x := 3) (y := 5) hb (by decide) (by decide) (by decide) (by decide) (by decide) (by omega),
    at_out (pr := 14) (x := 3) (by decide),
    at_row (pr := 14) (x := 4) (by decide) (by decide),
    at_inB (pr := 14) (x := 4) (y := 5) hb (by decide) (by decide) (by decide) (by decide) (by decide) (by omega),
    at_out (pr := 15) (x := 4) (by decide),
    at_row (pr := 15) (x := 5) (by decide) (by decide),
    at_out (pr := 15) (x := 5) (by decide),
    at_end (pr := 15) (by decide)]
  rfl
end W3
