/-! THE REFERENCE: crossing a row -/
/-- a row of the reference: now or trial -/
def isR (a : Nat) : Prop := a = 364 ∨ a = 365
def fil (N : Nat) (f o : Nat → Int32) (k j : Nat) : Nat → Int32 := fun i => if i < 36 ∧ i % 6 < N ∧ (i / 6 < k ∨ (i / 6 = k ∧ i % 6 < j)) then f i else o i
theorem fil_0 {N : Nat} {f o : Nat → Int32} : fil N f o 0 0 = o := by
  funext i
  unfold fil
  rw [if_neg (by omega)]
theorem fil_row {N : Nat} {f o : Nat → Int32} {k : Nat} : fil N f o k N = fil N f o (k + 1) 0 := by
  funext i
  unfold fil
  exact fI (by omega)
theorem fil_step {N : Nat} {f o : Nat → Int32} {k j : Nat} (hk : k < 6) (hj : j < N) (h6 : N ≤ 6) : upd (fil N f o k j) (6 * k + j) (f (6 * k + j)) = fil N f o k (j + 1) := by
  funext i
  show (if i = 6 * k + j then f (6 * k + j) else fil N f o k j i) = _
  unfold fil
  by_cases e : i = 6 * k + j
  · rw [if_pos e, if_pos (by omega), e]
  · rw [if_neg e]
    exact fI (by omega)
section R1
variable {S : XS} {c : Nat × Nat} {a N x y : Nat}
theorem isR.ar (R : isR a) {k : Nat} (hk : k < 51) : aI (hp S c) a (nI k) = some (S.1 a k) := by
  rcases R with rfl | rfl
  · exact a364 (by omega)
  · exact a365 hk
theorem isR.st (R : isR a) {k : Nat} {v : Int32} (hk : k < 51) : pI (hp S c) a (nI k) v = some (hp (wA S a (upd (S.1 a) k v)) c) := by
  rcases R with rfl | rfl
  · exact q364 (by omega)
  · exact q365 hk
theorem r_isHouse_in (hN : S.1 351 26 = nI N) (h6 : N ≤ 6) (hx : x < N) : f_X12_isHouse (hp S c) 351 (nI x) = some 1 := by
  unfold f_X12_isHouse
  rw [k351, Option.bind_some, if_neg (nI_pos (by omega)), g351_26, Option.bind_some, hN, if_neg (nI_ge hx (by omega))]
theorem r_isHouse_out {i : Int32} (hN : S.1 351 26 = nI N) (hx : i < 0 ∨ (¬ i < 0 ∧ nI N ≤ i)) : f_X12_isHouse (hp S c) 351 i = some 0 := by
  unfold f_X12_isHouse
  rw [k351, Option.bind_some]
  rcases hx with h | ⟨h, h1⟩
  · rw [if_pos h]
  · rw [if_neg h, g351_26, Option.bind_some, hN, if_pos h1]
theorem r_has {h : xa_H} {kp : Int32} : f_X12_has h kp (nI x) = some (bI (kep kp x)) := by
  unfold f_X12_has kep
  by_cases e : (shr kp (nI x)) &&& (1 : Int32) = 1
  · rw [if_pos e, decide_eq_true e]
    rfl
  · rw [if_neg e, decide_eq_false e]
    rfl
theorem r_in (R : isR a) (hN : S.1 351 26 = nI N) (h6 : N ≤ 6) (hy : y < 6) : f_X12_in (hp S c) 351 a (nI y) = some (sIn (S.1 a) y N) := by
  unfold f_X12_in
  rw [k351, Option.bind_some]
  refine lp (N := N) (fun n k => f_X12_in_b5 n (hp S c) 351 a (nI y) (sIn (S.1 a) y k) (nI k)) (fun n => ?_) (fun n k hk => ?_) N 0 1048576 (by omega) (by omega)
  · show f_X12_in_b5 (n + 1) (hp S c) 351 a (nI y) (sIn (S.1 a) y N) (nI N) = _
    rw [f_X12_in_b5, g351_26, Option.bind_some, hN, if_pos (nI_le (Nat.le_refl _) (by omega))]
  · show f_X12_in_b5 (n + 1) (hp S c) 351 a (nI y) (sIn (S.1 a) y k) (nI k) = _
    rw [f_X12_in_b5, g351_26, Option.bind_some, hN, if_neg (nI_ge (by omega) (by omega)), ix6, R.ar (by omega), Option.bind_some, nI_1]
    rfl
theorem r_out (R : isR a) (hN : S.1 351 26 = nI N) (h6 : N ≤ 6) (hy : y < 6) : f_X12_out (hp S c) 351 a (nI y) = some (sOut (S.1 a) y N) := by
  unfold f_X12_out
  rw [k351, Option.bind_some]
  refine lp (N := N) (fun n k => f_X12_out_b5 n (hp S c) 351 a (nI y) (sOut (S.1 a) y k) (nI k)) (fun n => ?_) (fun n k hk => ?_) N 0 1048576 (by omega) (by omega)
  · show f_X12_out_b5 (n + 1) (hp S c) 351 a (nI y) (sOut (S.1 a) y N) (nI N) = _
    rw [f_X12_out_b5, g351_26, Option.bind_some, hN, if_pos (nI_le (Nat.le_refl _) (by omega))]
  · show f_X12_out_b5 (n + 1) (hp S c) 351 a (nI y) (sOut (S.1 a) y k) (nI k) = _
    rw [f_X12_out_b5, g351_26, Option.bind_some, hN, if_neg (nI_ge (by omega) (by omega)), ix6, R.ar (by omega), Option.bind_some, nI_1]
    rfl
/-- what goes from the first k -/
def sAll (D : Nat → Int32) (N : Nat) : Nat → Int32
  | 0 => 0
  | k + 1 => sAll D N k + sOut D k N
theorem r_all (R : isR a) (hN : S.1 351 26 = nI N) (h6 : N ≤ 6) : f_X12_allFavours (hp S c) 351 a = some (sAll (S.1 a) N N) := by
  unfold f_X12_allFavours
  rw [k351, Option.bind_some]
  refine lp (N := N) (fun n k => f_X12_allFavours_b4 n (hp S c) 351 a (sAll (S.1 a) N k) (nI k)) (fun n => ?_) (fun n k hk => ?_) N 0 1048576 (by omega) (by omega)
  · show f_X12_allFavours_b4 (n + 1) (hp S c) 351 a (sAll (S.1 a) N N) (nI N) = _
    rw [f_X12_allFavours_b4, g351_26, Option.bind_some, hN, if_pos (nI_le (Nat.le_refl _) (by omega))]
  · show f_X12_allFavours_b4 (n + 1) (hp S c) 351 a (sAll (S.1 a) N k) (nI k) = _
    rw [f_X12_allFavours_b4, g351_26, Option.bind_some, hN, if_neg (nI_ge (by omega) (by omega)), r_out R hN h6 (by omega), Option.bind_some, nI_1]
    rfl
theorem r_laysNext (R : isR a) (hN : S.1 351 26 = nI N) (h6 : N ≤ 6) (hx : x < 6) : f_X12_laysNext (hp S c) 351 a (nI x) = some (hp (wA S 367 (fil N (fun i => nx N (S.1 a) x (i / 6) (i % 6)) (S.1 367) N 0)) c) := by
  have h367 : a ≠ 367 := by rcases R with rfl | rfl <;> decide
  unfold f_X12_laysNext
  rw [k351, Option.bind_some]
  refine (lp (N := N) (r := some (hp (wA S 367 (fil N (fun i => nx N (S.1 a) x (i / 6) (i % 6)) (S.1 367) N 0)) c)) (fun n k => f_X12_laysNext_b2 n (hp (wA S 367 (fil N (fun i => nx N (S.1 a) x (i / 6) (i % 6)) (S.1 367) k 0)) c) 351 a (nI x) (nI k)) (fun n => ?_) (fun n k hk => ?_) N 0 1048576 (by omega) (by omega)) ▸ ?_
  · show f_X12_laysNext_b2 (n + 1) (hp (wA S 367 _) c) 351 a (nI x) (nI N) = _
    rw [f_X12_laysNext_b2, g351_26, Option.bind_some, wA_ne (by decide), hN, if_pos (nI_le (Nat.le_refl _) (by omega))]
  · show f_X12_laysNext_b2 (n + 1) (hp (wA S 367 _) c) 351 a (nI x) (nI k) = _
    rw [f_X12_laysNext_b2, g351_26, Option.bind_some, wA_ne (by decide), hN, if_neg (nI_ge (by omega) (by omega))]
    refine lp (N := N) (fun m j => f_X12_laysNext_b13 (fun h l0 l1 l2 l3 => f_X12_laysNext_b2 n h l0 l1 l2 l3) m (hp (wA S 367 (fil N (fun i => nx N (S.1 a) x (i / 6) (i % 6)) (S.1 367) k j)) c) 351 a (nI x) (nI k) (nI j)) (fun m => ?_) (fun m j hj => ?_) N 0 1048576 (by omega) (by omega)
    · show f_X12_laysNext_b13 _ (m + 1) (hp (wA S 367 _) c) 351 a (nI x) (nI k) (nI N) = _
      rw [f_X12_laysNext_b13, g351_26, Option.bind_some, wA_ne (by decide), hN, if_pos (nI_le (Nat.le_refl _) (by omega)), nI_1, fil_row]
    · show f_X12_laysNext_b13 _ (m + 1) (hp (wA S 367 _) c) 351 a (nI x) (nI k) (nI j) = f_X12_laysNext_b13 _ m (hp (wA S 367 (fil N (fun i => nx N (S.1 a) x (i / 6) (i % 6)) (S.1 367) k (j + 1))) c) 351 a (nI x) (nI k) (nI (j + 1))
      rw [f_X12_laysNext_b13, g351_26, Option.bind_some, wA_ne (by decide), hN, if_neg (nI_ge (by omega) (by omega)), ix6, R.ar (by omega), Option.bind_some, ix6, R.ar (by omega), Option.bind_some, ix6, R.ar (by omega), Option.bind_some, wA_ne h367]
      have key : ∀ v : Int32, v = nx N (S.1 a) x k j → f_X12_laysNext_b116 (fun h l0 l1 l2 l3 => f_X12_laysNext_b2 n h l0 l1 l2 l3) (fun h l0 l1 l2 l3 l4 => f_X12_laysNext_b13 (fun h l0 l1 l2 l3 => f_X12_laysNext_b2 n h l0 l1 l2 l3) m h l0 l1 l2 l3 l4) (hp (wA S 367 (fil N (fun i => nx N (S.1 a) x (i / 6) (i % 6)) (S.1 367) k j)) c) 351 a (nI x) (nI k) (nI j) v = f_X12_laysNext_b13 (fun h l0 l1 l2 l3 => f_X12_laysNext_b2 n h l0 l1 l2 l3) m (hp (wA S 367 (fil N (fun i => nx N (S.1 a) x (i / 6) (i % 6)) (S.1 367) k (j + 1))) c) 351 a (nI x) (nI k) (nI (j + 1)) := by
        intro v hv
        unfold f_X12_laysNext_b116
        rw [g351_37, Option.bind_some, ix6, q367 (by omega), Option.bind_some, wA_wA, wA_same, nI_1, hv]
        have := fil_step (N := N) (f := fun i => nx N (S.1 a) x (i / 6) (i % 6)) (o := S.1 367) (k := k) (j := j) (by omega) hj h6
        rw [show (6 * k + j) / 6 = k by omega, show (6 * k + j) % 6 = j by omega] at this
        rw [this]
      unfold f_X12_laysNext_b65 f_X12_laysNext_b96
      unfold nx at key
      rw [if_pos (c := k < N ∧ j < N) ⟨hk, hj⟩] at key
      by_cases c1 : k = x
      · rw [if_pos (by rw [c1])]
        exact key _ (by rw [if_pos (Or.inl c1)])
      · rw [if_neg (fun z => c1 ((nI_eq (by omega) (by omega)).mp z))]
        by_cases c2 : j = x
        · rw [if_pos (by rw [c2])]
          exact key _ (by rw [if_pos (Or.inr c2)])
        · rw [if_neg (fun z => c2 ((nI_eq (by omega) (by omega)).mp z))]
          rw [if_neg (c := k = x ∨ j = x) (fun z => z.elim c1 c2)] at key
          by_cases p1 : S.1 a (6 * k + x) ≤ 0
          · rw [if_pos p1]
            rw [if_neg (c := 0 < S.1 a (6 * k + x) ∧ 0 < S.1 a (6 * x + j)) (fun z => Int32.not_lt.mpr p1 z.1)] at key
            by_cases p3 : 0 ≤ S.1 a (6 * k + x)
            · rw [if_pos p3]
              exact key _ (by rw [if_neg (fun z => Int32.not_lt.mpr p3 z.1)])
            · rw [if_neg p3]
              by_cases p4 : 0 ≤ S.1 a (6 * x + j)
              · rw [if_pos p4]
                exact key _ (by rw [if_neg (fun z => Int32.not_lt.mpr p4 z.2)])
              · rw [if_neg p4]
                exact key _ (by rw [if_pos ⟨Int32.not_le.mp p3, Int32.not_le.mp p4⟩])
          · rw [if_neg p1]
            by_cases p2 : S.1 a (6 * x + j) ≤ 0
            · rw [if_pos p2]
              rw [if_neg (c := 0 < S.1 a (6 * k + x) ∧ 0 < S.1 a (6 * x + j)) (fun z => Int32.not_lt.mpr p2 z.2)] at key
              have p3 : 0 ≤ S.1 a (6 * k + x) := Int32.le_of_lt (Int32.not_le.mp p1)
              rw [if_pos p3]
              exact key _ (by rw [if_neg (fun z => Int32.not_lt.mpr p3 z.1)])
            · rw [if_neg p2]
              exact key _ (by rw [if_pos ⟨Int32.not_le.mp p1, Int32.not_le.mp p2⟩])
  · show f_X12_laysNext_b2 1048576 (hp S c) 351 a (nI x) (0 : Int32) = f_X12_laysNext_b2 1048576 (hp (wA S 367 (fil N _ (S.1 367) 0 0)) c) 351 a (nI x) (nI 0)
    rw [fil_0, wA_self]
    rfl
end R1
