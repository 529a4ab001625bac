/-! THE BOARD: what its methods answer -/
def sF (D : Nat → Int32) : Nat → Int32
  | 0 => 0
  | k + 1 => sF D k + imax 0 (D k)
def pF (D : Nat → Int32) : Nat → Int32
  | 0 => 0
  | k + 1 => if D k ≤ 0 then pF D k else pF D k + 1
def mF (D : Nat → Int32) : Nat → Int32
  | 0 => 0
  | k + 1 => imax (mF D k) (D k)
def kep (kp : Int32) (x : Nat) : Bool := decide ((shr kp (nI x)) &&& (1 : Int32) = 1)
def ful (D : Nat → Int32) (lim : Int32) (N x : Nat) : Bool := anyB (fun k => decide (0 < D (6 * k + x)) && anyB (fun j => decide (0 < D (6 * x + j)) && decide (lim < iabs (D (6 * k + j) + D (6 * k + x) * D (6 * x + j)))) N) N
def canT (N : Nat) (D W : Nat → Int32) (kp lim : Int32) (x : Nat) : Bool := !kep kp x && !decide (W x = 0) && !ful D lim N x
/-- whom one owes, as bits -/
def ow (D : Nat → Int32) (N x : Nat) : Nat := bsN (fun k => decide (0 < D (6 * x + k))) N
def nxM (o : Nat → Nat) (e : Nat) : Nat → Nat
  | 0 => 0
  | k + 1 => if e.testBit k then nxM o e k ||| o k else nxM o e k
def lvR (o : Nat → Nat) (N : Nat) : Nat → Nat → Nat → Int32
  | 0, _, _ => -1
  | f + 1, m, n => if m = 0 then nI n else lvR o N f (m &&& (63 ^^^ bsN (fun h => m.testBit h && decide (o h &&& m = 0)) N)) (n + 1)
def stR (o : Nat → Nat) (N t : Nat) : Nat → Nat → Nat → Nat → Int32
  | 0, _, _, _ => -1
  | f + 1, e, cm, n => if e.testBit t then nI n else stR o N t f (nxM o e N &&& (63 ^^^ (cm ||| e))) (cm ||| e) (n + 1)
theorem fI {F : Type} {c d : Prop} {x y : F} [Decidable c] [Decidable d] (h : c ↔ d) : (if c then x else y) = if d then x else y := by
  by_cases q : c
  · rw [if_pos q, if_pos (h.mp q)]
  · rw [if_neg q, if_neg (fun z => q (h.mpr z))]
section BS
variable {S : XS} {c : Nat × Nat} {b N x y : Nat}
theorem isB.debt (B : isB b) (hx : x < 6) (hy : y < 6) : f_X0_debt (hp S c) b (nI x) (nI y) = some (S.1 (b + 1) (6 * x + y)) := by
  unfold f_X0_debt
  rw [B.ck, Option.bind_some, B.g0, Option.bind_some, ix6, B.a1 (by omega), Option.bind_some]
theorem isB.setDebt (B : isB b) (hx : x < 6) (hy : y < 6) (v : Int32) : f_X0_setDebt (hp S c) b (nI x) (nI y) v = some (hp (wA S (b + 1) (upd (upd (S.1 (b + 1)) (6 * x + y) v) (6 * y + x) (-v))) c) := by
  unfold f_X0_setDebt
  rw [B.ck, Option.bind_some, B.g0, Option.bind_some, ix6, B.q1 (by omega), Option.bind_some, B.g0, Option.bind_some, ix6, B.q1 (by omega), Option.bind_some, wA_wA, wA_same]
theorem isB.incoming (B : isB b) (hN : S.1 b 4 = nI N) (h6 : N ≤ 6) (hy : y < 6) : f_X0_incoming (hp S c) b (nI y) = some (sIn (S.1 (b + 1)) y N) := by
  unfold f_X0_incoming
  rw [B.ck, Option.bind_some]
  refine lp (N := N) (fun n k => f_X0_incoming_b4 n (hp S c) b (nI y) (sIn (S.1 (b + 1)) y k) (nI k)) (fun n => ?_) (fun n k hk => ?_) N 0 1048576 (by omega) (by omega)
  · show f_X0_incoming_b4 (n + 1) (hp S c) b (nI y) (sIn (S.1 (b + 1)) y N) (nI N) = _
    rw [f_X0_incoming_b4, B.g4, Option.bind_some, hN, if_pos (nI_le (Nat.le_refl _) (by omega))]
  · show f_X0_incoming_b4 (n + 1) (hp S c) b (nI y) (sIn (S.1 (b + 1)) y k) (nI k) = _
    rw [f_X0_incoming_b4, B.g4, Option.bind_some, hN, if_neg (nI_ge (by omega) (by omega)), B.debt (by omega) hy, Option.bind_some, nI_1]
    rfl
theorem isB.outgoing (B : isB b) (hN : S.1 b 4 = nI N) (h6 : N ≤ 6) (hy : y < 6) : f_X0_outgoing (hp S c) b (nI y) = some (sOut (S.1 (b + 1)) y N) := by
  unfold f_X0_outgoing
  rw [B.ck, Option.bind_some]
  refine lp (N := N) (fun n k => f_X0_outgoing_b4 n (hp S c) b (nI y) (sOut (S.1 (b + 1)) y k) (nI k)) (fun n => ?_) (fun n k hk => ?_) N 0 1048576 (by omega) (by omega)
  · show f_X0_outgoing_b4 (n + 1) (hp S c) b (nI y) (sOut (S.1 (b + 1)) y N) (nI N) = _
    rw [f_X0_outgoing_b4, B.g4, Option.bind_some, hN, if_pos (nI_le (Nat.le_refl _) (by omega))]
  · show f_X0_outgoing_b4 (n + 1) (hp S c) b (nI y) (sOut (S.1 (b + 1)) y k) (nI k) = _
    rw [f_X0_outgoing_b4, B.g4, Option.bind_some, hN, if_neg (nI_ge (by omega) (by omega)), B.debt hy (by omega), Option.bind_some, nI_1]
    rfl
theorem isB.favours (B : isB b) : f_X0_favours (hp S c) b = some (sF (S.1 (b + 1)) 36) := by
  unfold f_X0_favours
  rw [B.ck, Option.bind_some]
  refine lp (N := 36) (fun n k => f_X0_favours_b4 n (hp S c) b (sF (S.1 (b + 1)) k) (nI k)) (fun n => ?_) (fun n k hk => ?_) 36 0 1048576 (by omega) (by omega)
  · show f_X0_favours_b4 (n + 1) (hp S c) b (sF (S.1 (b + 1)) 36) (nI 36) = _
    rw [f_X0_favours_b4, B.g0, Option.bind_some, B.n1, Option.bind_some, if_pos (nI_le (Nat.le_refl _) (by omega))]
  · show f_X0_favours_b4 (n + 1) (hp S c) b (sF (S.1 (b + 1)) k) (nI k) = _
    rw [f_X0_favours_b4, B.g0, Option.bind_some, B.n1, Option.bind_some, if_neg (nI_ge (by omega) (by omega)), Option.bind_some, B.a1 hk, Option.bind_some, nI_1]
    rfl
theorem isB.mostBetween (B : isB b) : f_X0_mostBetweenTwo (hp S c) b = some (mF (S.1 (b + 1)) 36) := by
  unfold f_X0_mostBetweenTwo
  rw [B.ck, Option.bind_some]
  refine lp (N := 36) (fun n k => f_X0_mostBetweenTwo_b4 n (hp S c) b (mF (S.1 (b + 1)) k) (nI k)) (fun n => ?_) (fun n k hk => ?_) 36 0 1048576 (by omega) (by omega)
  · show f_X0_mostBetweenTwo_b4 (n + 1) (hp S c) b (mF (S.1 (b + 1)) 36) (nI 36) = _
    rw [f_X0_mostBetweenTwo_b4, B.g0, Option.bind_some, B.n1, Option.bind_some, if_pos (nI_le (Nat.le_refl _) (by omega))]
  · show f_X0_mostBetweenTwo_b4 (n + 1) (hp S c) b (mF (S.1 (b + 1)) k) (nI k) = _
    rw [f_X0_mostBetweenTwo_b4, B.g0, Option.bind_some, B.n1, Option.bind_some, if_neg (nI_ge (by omega) (by omega)), Option.bind_some, B.a1 hk, Option.bind_some, nI_1]
    rfl
theorem isB.pairs (B : isB b) : f_X0_pairs (hp S c) b = some (pF (S.1 (b + 1)) 36) := by
  unfold f_X0_pairs
  rw [B.ck, Option.bind_some]
  refine lp (N := 36) (fun n k => f_X0_pairs_b4 n (hp S c) b (pF (S.1 (b + 1)) k) (nI k)) (fun n => ?_) (fun n k hk => ?_) 36 0 1048576 (by omega) (by omega)
  · show f_X0_pairs_b4 (n + 1) (hp S c) b (pF (S.1 (b + 1)) 36) (nI 36) = _
    rw [f_X0_pairs_b4, B.g0, Option.bind_some, B.n1, Option.bind_some, if_pos (nI_le (Nat.le_refl _) (by omega))]
  · show f_X0_pairs_b4 (n + 1) (hp S c) b (pF (S.1 (b + 1)) k) (nI k) = f_X0_pairs_b4 n (hp S c) b (if S.1 (b + 1) k ≤ 0 then pF (S.1 (b + 1)) k else pF (S.1 (b + 1)) k + 1) (nI (k + 1))
    rw [f_X0_pairs_b4, B.g0, Option.bind_some, B.n1, Option.bind_some, if_neg (nI_ge (by omega) (by omega)), Option.bind_some, B.a1 hk, Option.bind_some]
    unfold f_X0_pairs_b25
    rw [nI_1]
    by_cases e : S.1 (b + 1) k ≤ 0
    · rw [if_pos e, if_pos e]
    · rw [if_neg e, if_neg e]
theorem isB.has_in (B : isB b) (hN : S.1 b 4 = nI N) (h6 : N ≤ 6) (hx : x < N) : f_X0_has (hp S c) b (nI x) = some 1 := by
  unfold f_X0_has
  rw [B.ck, Option.bind_some, if_neg (nI_pos (by omega)), B.g4, Option.bind_some, hN, if_neg (nI_ge hx (by omega))]
theorem isB.has_out {i : Int32} (B : isB b) (hN : S.1 b 4 = nI N) (hx : i < 0 ∨ (¬ i < 0 ∧ nI N ≤ i)) : f_X0_has (hp S c) b i = some 0 := by
  unfold f_X0_has
  rw [B.ck, Option.bind_some]
  rcases hx with h | ⟨h, h1⟩
  · rw [if_pos h]
  · rw [if_neg h, B.g4, Option.bind_some, hN, if_pos h1]
theorem isB.isKept (B : isB b) : f_X0_isKept (hp S c) b (nI x) = some (bI (kep (S.1 b 6) x)) := by
  unfold f_X0_isKept kep
  rw [B.ck, Option.bind_some, B.g6, Option.bind_some]
  by_cases e : (shr (S.1 b 6) (nI x)) &&& (1 : Int32) = 1
  · rw [if_pos e, decide_eq_true e]
    rfl
  · rw [if_neg e, decide_eq_false e]
    rfl
theorem isB.isFull (B : isB b) (hN : S.1 b 4 = nI N) (h6 : N ≤ 6) (hx : x < 6) : f_X0_isFull (hp S c) b (nI x) = some (bI (ful (S.1 (b + 1)) (S.1 b 5) N x)) := by
  unfold f_X0_isFull ful
  rw [B.ck, Option.bind_some, ← fst_bI]
  refine lpx (N := N) (fun n k => f_X0_isFull_b2 n (hp S c) b (nI x) (nI k)) (fun n => ?_) (fun n k hk => ?_) N 0 1048576 (by omega) (by omega)
  · show f_X0_isFull_b2 (n + 1) (hp S c) b (nI x) (nI N) = _
    rw [f_X0_isFull_b2, B.g4, Option.bind_some, hN, if_pos (nI_le (Nat.le_refl _) (by omega))]
  · show f_X0_isFull_b2 (n + 1) (hp S c) b (nI x) (nI k) = _
    rw [f_X0_isFull_b2, B.g4, Option.bind_some, hN, if_neg (nI_ge (by omega) (by omega)), B.debt (by omega) hx, Option.bind_some]
    by_cases e : 0 < S.1 (b + 1) (6 * k + x)
    · rw [if_pos e, decide_eq_true e, Bool.true_and, ← fst_0]
      refine lpx (N := N) (fun m j => f_X0_isFull_b27 (fun h l0 l1 l2 => f_X0_isFull_b2 n h l0 l1 l2) m (hp S c) b (nI x) (nI k) (S.1 (b + 1) (6 * k + x)) (nI j)) (fun m => ?_) (fun m j hj => ?_) N 0 1048576 (by omega) (by omega)
      · show f_X0_isFull_b27 _ (m + 1) (hp S c) b (nI x) (nI k) _ (nI N) = _
        rw [f_X0_isFull_b27, B.g4, Option.bind_some, hN, if_pos (nI_le (Nat.le_refl _) (by omega))]
        unfold f_X0_isFull_b80
        rw [nI_1]
      · show f_X0_isFull_b27 _ (m + 1) (hp S c) b (nI x) (nI k) _ (nI j) = _
        rw [f_X0_isFull_b27, B.g4, Option.bind_some, hN, if_neg (nI_ge (by omega) (by omega)), B.debt hx (by omega), Option.bind_some]
        unfold f_X0_isFull_b74
        rw [nI_1]
        by_cases e1 : S.1 (b + 1) (6 * x + j) ≤ 0
        · rw [if_pos e1, decide_eq_false (Int32.not_lt.mpr e1), Bool.false_and]
          rfl
        · rw [if_neg e1, decide_eq_true (Int32.not_le.mp e1), Bool.true_and, B.debt (by omega) (by omega), Option.bind_some, B.g5, Option.bind_some]
          by_cases e2 : iabs (S.1 (b + 1) (6 * k + j) + S.1 (b + 1) (6 * k + x) * S.1 (b + 1) (6 * x + j)) ≤ S.1 b 5
          · rw [if_pos e2, decide_eq_false (Int32.not_lt.mpr e2)]
            rfl
          · rw [if_neg e2, decide_eq_true (Int32.not_le.mp e2)]
            rfl
    · rw [if_neg e, decide_eq_false e, Bool.false_and]
      unfold f_X0_isFull_b80
      rw [nI_1]
      rfl
theorem isB.canTurn (B : isB b) (hN : S.1 b 4 = nI N) (h6 : N ≤ 6) (hx : x < N) : f_X0_canTurn (hp S c) b (nI x) = some (bI (canT N (S.1 (b + 1)) (S.1 (b + 2)) (S.1 b 6) (S.1 b 5) x)) := by
  unfold f_X0_canTurn canT
  rw [B.ck, Option.bind_some, B.has_in hN h6 hx, Option.bind_some, if_neg (by decide), B.isKept, Option.bind_some]
  cases kep (S.1 b 6) x with
  | true => rw [if_neg (by decide)]; rfl
  | false =>
    rw [if_pos bI_f, B.g1, Option.bind_some, B.a2 (by omega), Option.bind_some]
    by_cases e : S.1 (b + 2) x = 0
    · rw [if_pos e, decide_eq_true e]
      rfl
    · rw [if_neg e, decide_eq_false e, B.isFull hN h6 (by omega), Option.bind_some]
      cases ful (S.1 (b + 1)) (S.1 b 5) N x with
      | true => rw [if_neg (by decide)]; rfl
      | false => rw [if_pos bI_f]; rfl
theorem isB.canTurn_out {i : Int32} (B : isB b) (hN : S.1 b 4 = nI N) (hx : i < 0 ∨ (¬ i < 0 ∧ nI N ≤ i)) : f_X0_canTurn (hp S c) b i = some 0 := by
  unfold f_X0_canTurn
  rw [B.ck, Option.bind_some, B.has_out hN hx, Option.bind_some, if_pos rfl]
theorem isB.owedBy (B : isB b) (hN : S.1 b 4 = nI N) (h6 : N ≤ 6) (hx : x < 6) : f_X0_owedBy (hp S c) b (nI x) = some (nI (ow (S.1 (b + 1)) N x)) := by
  unfold f_X0_owedBy ow
  rw [B.ck, Option.bind_some]
  refine lp (N := N) (fun n k => f_X0_owedBy_b4 n (hp S c) b (nI x) (nI (bsN (fun k => decide (0 < S.1 (b + 1) (6 * x + k))) k)) (nI k)) (fun n => ?_) (fun n k hk => ?_) N 0 1048576 (by omega) (by omega)
  · show f_X0_owedBy_b4 (n + 1) (hp S c) b (nI x) _ (nI N) = _
    rw [f_X0_owedBy_b4, B.g4, Option.bind_some, hN, if_pos (nI_le (Nat.le_refl _) (by omega))]
  · show f_X0_owedBy_b4 (n + 1) (hp S c) b (nI x) _ (nI k) = f_X0_owedBy_b4 n (hp S c) b (nI x) (nI (if decide (0 < S.1 (b + 1) (6 * x + k)) = true then bsN (fun k => decide (0 < S.1 (b + 1) (6 * x + k))) k ||| 2 ^ k else bsN (fun k => decide (0 < S.1 (b + 1) (6 * x + k))) k)) (nI (k + 1))
    rw [f_X0_owedBy_b4, B.g4, Option.bind_some, hN, if_neg (nI_ge (by omega) (by omega)), B.debt hx (by omega), Option.bind_some]
    unfold f_X0_owedBy_b27
    rw [nI_1]
    by_cases e : S.1 (b + 1) (6 * x + k) ≤ 0
    · rw [if_pos e, if_neg (fun z => Int32.not_lt.mpr e (of_decide_eq_true z))]
    · rw [if_neg e, if_pos (decide_eq_true (Int32.not_le.mp e)), bit_1 k (by omega), bit_or]
theorem nxM_lt {o : Nat → Nat} {e : Nat} (ho : ∀ k, k < 6 → o k < 64) : ∀ n, n ≤ 6 → nxM o e n < 64
  | 0, _ => Nat.succ_pos 63
  | n + 1, h => by
    have ih := nxM_lt (e := e) ho n (by omega)
    show (if e.testBit n then nxM o e n ||| o n else nxM o e n) < 64
    split
    · exact Nat.or_lt_two_pow (n := 6) ih (ho n (by omega))
    · exact ih
theorem ow_lt {D : Nat → Int32} (h6 : N ≤ 6) : ow D N x < 64 := bsN_64 _ h6
theorem and_lt64 {a b : Nat} (h : a < 64) : a &&& b < 64 := Nat.lt_of_le_of_lt Nat.and_le_left h
theorem isB.levels_loop (B : isB b) (hN : S.1 b 4 = nI N) (h6 : N ≤ 6) : ∀ (f m n k : Nat), m < 64 → n + f = N + 1 → f < k → f_X0_levels_b11 k (hp S c) b (nI m) (nI n) = some (lvR (ow (S.1 (b + 1)) N) N f m n)
  | 0, m, n, 0, _, _, h => by omega
  | 0, m, n, k + 1, hm, hn, _ => by
    rw [f_X0_levels_b11, B.g4, Option.bind_some, hN, if_pos (nI_lt (by omega) (by omega))]
    rfl
  | f + 1, m, n, 0, _, _, h => by omega
  | f + 1, m, n, k + 1, hm, hn, hk => by
    rw [f_X0_levels_b11, B.g4, Option.bind_some, hN, if_neg (nI_nlt (by omega) (by omega))]
    show _ = some (if m = 0 then nI n else lvR (ow (S.1 (b + 1)) N) N f (m &&& (63 ^^^ bsN (fun h => m.testBit h && decide (ow (S.1 (b + 1)) N h &&& m = 0)) N)) (n + 1))
    by_cases e : m = 0
    · rw [if_pos e, if_pos (by rw [e]; rfl)]
    · rw [if_neg e, if_neg (nI_ne0 (by omega) (by omega)), ← isB.levels_loop B hN h6 f _ (n + 1) k (and_lt64 hm) (by omega) (by omega)]
      refine lp (N := N) (fun q j => f_X0_levels_b30 (fun h l0 l1 l2 => f_X0_levels_b11 k h l0 l1 l2) q (hp S c) b (nI m) (nI n) (nI (bsN (fun h => m.testBit h && decide (ow (S.1 (b + 1)) N h &&& m = 0)) j)) (nI j)) (fun q => ?_) (fun q j hj => ?_) N 0 1048576 (by omega) (by omega)
      · show f_X0_levels_b30 _ (q + 1) (hp S c) b (nI m) (nI n) _ (nI N) = _
        rw [f_X0_levels_b30, B.g4, Option.bind_some, hN, if_pos (nI_le (Nat.le_refl _) (by omega)), bit_no m hm _ (bsN_64 _ h6), nI_1]
      · show f_X0_levels_b30 _ (q + 1) (hp S c) b (nI m) (nI n) _ (nI j) = f_X0_levels_b30 _ q (hp S c) b (nI m) (nI n) (nI (if (m.testBit j && decide (ow (S.1 (b + 1)) N j &&& m = 0)) = true then bsN (fun h => m.testBit h && decide (ow (S.1 (b + 1)) N h &&& m = 0)) j ||| 2 ^ j else bsN (fun h => m.testBit h && decide (ow (S.1 (b + 1)) N h &&& m = 0)) j)) (nI (j + 1))
        rw [f_X0_levels_b30, B.g4, Option.bind_some, hN, if_neg (nI_ge (by omega) (by omega))]
        unfold f_X0_levels_b67
        rw [nI_1]
        by_cases e1 : m.testBit j = true
        · rw [if_pos ((bit_t m hm j (by omega)).mpr e1), B.owedBy hN h6 (by omega), Option.bind_some, bit_and, e1, Bool.true_and]
          by_cases e2 : ow (S.1 (b + 1)) N j &&& m = 0
          · rw [if_pos (by rw [e2]; rfl), if_pos (decide_eq_true e2), bit_1 j (by omega), bit_or]
          · rw [if_neg (nI_ne0 (by omega) (Nat.lt_trans (and_lt64 (ow_lt h6)) (by decide))), if_neg (fun z => e2 (of_decide_eq_true z))]
        · rw [if_neg (fun z => e1 ((bit_t m hm j (by omega)).mp z)), (Bool.not_eq_true _).mp e1, Bool.false_and, if_neg (by decide)]
theorem isB.levels (B : isB b) (hN : S.1 b 4 = nI N) (h6 : N ≤ 6) : f_X0_levels (hp S c) b = some (lvR (ow (S.1 (b + 1)) N) N (N + 1) (2 ^ N - 1) 0) := by
  unfold f_X0_levels
  rw [B.ck, Option.bind_some, B.g4, Option.bind_some, hN, bit_full N h6]
  exact isB.levels_loop B hN h6 (N + 1) (2 ^ N - 1) 0 1048576 (by have := pow_le6 h6; have := Nat.two_pow_pos N; omega) (by omega) (by omega)
theorem isB.steps_loop {t : Nat} (B : isB b) (hN : S.1 b 4 = nI N) (h6 : N ≤ 6) (ht : t < 6) : ∀ (f e cm n k : Nat), e < 64 → cm < 64 → n + f = N + 1 → f < k → f_X0_steps_b12 k (hp S c) b (nI t) (nI e) (nI cm) (nI n) = some (stR (ow (S.1 (b + 1)) N) N t f e cm n)
  | 0, e, cm, n, 0, _, _, _, h => by omega
  | 0, e, cm, n, k + 1, _, _, hn, _ => by
    rw [f_X0_steps_b12, B.g4, Option.bind_some, hN, if_pos (nI_lt (by omega) (by omega))]
    rfl
  | f + 1, e, cm, n, 0, _, _, _, h => by omega
  | f + 1, e, cm, n, k + 1, he, hc, hn, hk => by
    rw [f_X0_steps_b12, B.g4, Option.bind_some, hN, if_neg (nI_nlt (by omega) (by omega))]
    show _ = some (if e.testBit t then nI n else stR (ow (S.1 (b + 1)) N) N t f (nxM (ow (S.1 (b + 1)) N) e N &&& (63 ^^^ (cm ||| e))) (cm ||| e) (n + 1))
    by_cases q : e.testBit t = true
    · rw [if_pos q, if_pos ((bit_t e he t ht).mpr q)]
    · have hce : cm ||| e < 64 := Nat.or_lt_two_pow (n := 6) hc he
      rw [if_neg q, if_neg (fun z => q ((bit_t e he t ht).mp z)), bit_or, ← isB.steps_loop B hN h6 ht f _ (cm ||| e) (n + 1) k (and_lt64 (nxM_lt (fun k _ => ow_lt h6) N h6)) hce (by omega) (by omega)]
      refine lp (N := N) (fun p j => f_X0_steps_b45 (fun h l0 l2 l3 l4 l5 => f_X0_steps_b12 k h l0 l2 l3 l4 l5) p (hp S c) b (nI t) (nI e) (nI (cm ||| e)) (nI n) (nI (nxM (ow (S.1 (b + 1)) N) e j)) (nI j)) (fun p => ?_) (fun p j hj => ?_) N 0 1048576 (by omega) (by omega)
      · show f_X0_steps_b45 _ (p + 1) (hp S c) b (nI t) (nI e) (nI (cm ||| e)) (nI n) _ (nI N) = _
        rw [f_X0_steps_b45, B.g4, Option.bind_some, hN, if_pos (nI_le (Nat.le_refl _) (by omega)), bit_no _ (nxM_lt (fun k _ => ow_lt h6) N h6) _ hce, nI_1]
      · show f_X0_steps_b45 _ (p + 1) (hp S c) b (nI t) (nI e) (nI (cm ||| e)) (nI n) _ (nI j) = f_X0_steps_b45 _ p (hp S c) b (nI t) (nI e) (nI (cm ||| e)) (nI n) (nI (if e.testBit j then nxM (ow (S.1 (b + 1)) N) e j ||| ow (S.1 (b + 1)) N j else nxM (ow (S.1 (b + 1)) N) e j)) (nI (j + 1))
        rw [f_X0_steps_b45, B.g4, Option.bind_some, hN, if_neg (nI_ge (by omega) (by omega))]
        unfold f_X0_steps_b75
        rw [nI_1]
        by_cases e1 : e.testBit j = true
        · rw [if_pos ((bit_t e he j (by omega)).mpr e1), B.owedBy hN h6 (by omega), Option.bind_some, bit_or, if_pos e1]
        · rw [if_neg (fun z => e1 ((bit_t e he j (by omega)).mp z)), if_neg e1]
theorem isB.steps {t : Nat} (B : isB b) (hN : S.1 b 4 = nI N) (h6 : N ≤ 6) (hx : x < 6) (ht : t < 6) : f_X0_steps (hp S c) b (nI x) (nI t) = some (stR (ow (S.1 (b + 1)) N) N t N (ow (S.1 (b + 1)) N x) 0 1) := by
  unfold f_X0_steps
  rw [B.ck, Option.bind_some, B.owedBy hN h6 hx, Option.bind_some]
  exact isB.steps_loop B hN h6 ht N _ 0 1 1048576 (ow_lt h6) (by decide) (by omega) (by omega)
theorem isB.hasDebtsOf {b' : Nat} (B : isB b) (B' : isB b') : f_X0_hasDebtsOf (hp S c) b b' = some (bI (!anyB (fun k => !decide (S.1 (b + 1) k = S.1 (b' + 1) k)) 36)) := by
  unfold f_X0_hasDebtsOf
  rw [B.ck, Option.bind_some, ← fst_nbI]
  refine lpx (N := 36) (fun n k => f_X0_hasDebtsOf_b2 n (hp S c) b b' (nI k)) (fun n => ?_) (fun n k hk => ?_) 36 0 1048576 (by omega) (by omega)
  · show f_X0_hasDebtsOf_b2 (n + 1) (hp S c) b b' (nI 36) = _
    rw [f_X0_hasDebtsOf_b2, B.g0, Option.bind_some, B.n1, Option.bind_some, if_pos (nI_le (Nat.le_refl _) (by omega))]
  · show f_X0_hasDebtsOf_b2 (n + 1) (hp S c) b b' (nI k) = _
    rw [f_X0_hasDebtsOf_b2, B.g0, Option.bind_some, B.n1, Option.bind_some, if_neg (nI_ge (by omega) (by omega)), Option.bind_some, B.a1 hk, Option.bind_some, B'.g0, Option.bind_some, B'.a1 hk, Option.bind_some, nI_1]
    by_cases e : S.1 (b + 1) k = S.1 (b' + 1) k
    · rw [if_pos e, decide_eq_true e]
      rfl
    · rw [if_neg e, decide_eq_false e]
      rfl
theorem isB.hasWorthsOf {b' : Nat} (B : isB b) (B' : isB b') (hN : S.1 b 4 = nI N) (h6 : N ≤ 6) : f_X0_hasWorthsOf (hp S c) b b' = some (bI (!anyB (fun k => !decide (S.1 (b + 2) k = S.1 (b' + 2) k)) N)) := by
  unfold f_X0_hasWorthsOf
  rw [B.ck, Option.bind_some, ← fst_nbI]
  refine lpx (N := N) (fun n k => f_X0_hasWorthsOf_b2 n (hp S c) b b' (nI k)) (fun n => ?_) (fun n k hk => ?_) N 0 1048576 (by omega) (by omega)
  · show f_X0_hasWorthsOf_b2 (n + 1) (hp S c) b b' (nI N) = _
    rw [f_X0_hasWorthsOf_b2, B.g4, Option.bind_some, hN, if_pos (nI_le (Nat.le_refl _) (by omega))]
  · show f_X0_hasWorthsOf_b2 (n + 1) (hp S c) b b' (nI k) = _
    rw [f_X0_hasWorthsOf_b2, B.g4, Option.bind_some, hN, if_neg (nI_ge (by omega) (by omega)), B.g1, Option.bind_some, B.a2 (by omega), Option.bind_some, B'.g1, Option.bind_some, B'.a2 (by omega), Option.bind_some, nI_1]
    by_cases e : S.1 (b + 2) k = S.1 (b' + 2) k
    · rw [if_pos e, decide_eq_true e]
      rfl
    · rw [if_neg e, decide_eq_false e]
      rfl
end BS
