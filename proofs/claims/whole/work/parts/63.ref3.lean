/-! THE REFERENCE: steps from one to all, rings -/
theorem kep_bit {m k : Nat} (hm : m < 64) (hk : k < 6) : kep (nI m) k = m.testBit k := by
  unfold kep
  rw [Bool.eq_iff_iff, decide_eq_true_eq]
  exact bit_t m hm k hk
theorem nxM_t {o : Nat → Nat} {e b : Nat} : ∀ {n : Nat}, (nxM o e n).testBit b = true ↔ ∃ k, k < n ∧ e.testBit k = true ∧ (o k).testBit b = true
  | 0 => by
    show (0 : Nat).testBit b = true ↔ _
    rw [Nat.zero_testBit]
    exact ⟨fun h => (by cases h), fun ⟨k, h, _⟩ => (by omega)⟩
  | n + 1 => by
    show (if e.testBit n then nxM o e n ||| o n else nxM o e n).testBit b = true ↔ _
    by_cases q : e.testBit n = true
    · rw [if_pos q, Nat.testBit_or, Bool.or_eq_true, nxM_t (n := n)]
      constructor
      · rintro (⟨k, h, r⟩ | r)
        · exact ⟨k, by omega, r⟩
        · exact ⟨n, by omega, q, r⟩
      · rintro ⟨k, h, r1, r2⟩
        by_cases e1 : k = n
        · subst e1
          exact Or.inr r2
        · exact Or.inl ⟨k, by omega, r1, r2⟩
    · rw [if_neg q, nxM_t (n := n)]
      constructor
      · rintro ⟨k, h, r⟩
        exact ⟨k, by omega, r⟩
      · rintro ⟨k, h, r1, r2⟩
        by_cases e1 : k = n
        · subst e1
          exact absurd r1 q
        · exact ⟨k, by omega, r1, r2⟩
theorem t63 : ∀ b, b < 6 → (63 : Nat).testBit b = true := by decide
theorem bits_ext {m n : Nat} (hm : m < 64) (hn : n < 64) (h : ∀ b, b < 6 → m.testBit b = n.testBit b) : m = n := by
  refine Nat.eq_of_testBit_eq fun b => ?_
  by_cases q : b < 6
  · exact h b q
  · have h64 : 2 ^ 6 ≤ 2 ^ b := Nat.pow_le_pow_right (by decide) (by omega)
    rw [Nat.testBit_lt_two_pow (Nat.lt_of_lt_of_le hm h64), Nat.testBit_lt_two_pow (Nat.lt_of_lt_of_le hn h64)]
theorem ow_t {D : Nat → Int32} {N x b : Nat} : (ow D N x).testBit b = true ↔ b < N ∧ 0 < D (6 * x + b) := by
  unfold ow
  rw [bsN_t, Bool.and_eq_true, decide_eq_true_eq, decide_eq_true_eq]
theorem xor63_t {v b : Nat} (hb : b < 6) : (63 ^^^ v).testBit b = !v.testBit b := by
  rw [Nat.testBit_xor, t63 b hb]
  cases v.testBit b <;> rfl
/-- the next edge, as the reference gathers it -/
def toF (D st : Nat → Int32) (N e : Nat) : Nat := nxM (fun a => bsN (fun b => decide (0 < D (6 * a + b)) && decide (st b = -1)) N) e N
def vis (st : Nat → Int32) : Nat := bsN (fun b => !decide (st b = -1)) 6
theorem vis_lt {st : Nat → Int32} : vis st < 64 := bsN_64 _ (Nat.le_refl 6)
theorem toF_eq {D st : Nat → Int32} {N e : Nat} (h6 : N ≤ 6) : toF D st N e = nxM (ow D N) e N &&& (63 ^^^ vis st) := by
  refine bits_ext (nxM_lt (fun k _ => bsN_64 _ h6) N h6) (and_lt64 (nxM_lt (fun k _ => ow_lt h6) N h6)) fun b hb => ?_
  rw [Bool.eq_iff_iff, Nat.testBit_and, Bool.and_eq_true, xor63_t hb]
  unfold toF
  rw [nxM_t, nxM_t]
  unfold vis
  rw [bsN_t, decide_eq_true hb, Bool.true_and, Bool.not_not, decide_eq_true_eq]
  constructor
  · rintro ⟨k, hk, h1, h2⟩
    rw [bsN_t, Bool.and_eq_true, Bool.and_eq_true, decide_eq_true_eq, decide_eq_true_eq, decide_eq_true_eq] at h2
    exact ⟨⟨k, hk, h1, ow_t.mpr ⟨h2.1, h2.2.1⟩⟩, h2.2.2⟩
  · rintro ⟨⟨k, hk, h1, h2⟩, h3⟩
    refine ⟨k, hk, h1, ?_⟩
    rw [bsN_t, Bool.and_eq_true, Bool.and_eq_true, decide_eq_true_eq, decide_eq_true_eq, decide_eq_true_eq]
    exact ⟨(ow_t.mp h2).1, (ow_t.mp h2).2, h3⟩
def stN (st : Nat → Int32) (N to n : Nat) : Nat → Int32 := fun b => if b < N ∧ to.testBit b = true then nI n else st b
theorem m1_ne {n : Nat} (h : n < 2 ^ 31) : nI n ≠ -1 := fun z => by
  have h1 := nI_pos (n := n) h
  rw [z] at h1
  exact h1 (by decide)
section R3
variable {S : XS} {c : Nat × Nat} {a N x y : Nat}
theorem a368' {k : Nat} (hk : k < 6) : aI (hp S c) 368 (nI k) = some (S.1 368 k) := a368 hk
theorem r_steps_loop (R : isR a) (hN : S.1 351 26 = nI N) (h6 : N ≤ 6) : ∀ (f e n k : Nat) (st : Nat → Int32), n + f = N + 1 → e < 64 → f < k → ∃ st', f_X12_laysSteps_b28 k (hp (wA S 368 st) c) 351 a (nI e) (nI n) = some (hp (wA S 368 st') c) ∧ ∀ t, t < N → st' t = if st t = -1 then stR (ow (S.1 a) N) N t f (nxM (ow (S.1 a) N) e N &&& (63 ^^^ vis st)) (vis st) n else st t
  | 0, e, n, 0, st, _, _, h => by omega
  | 0, e, n, k + 1, st, hn, he, _ => by
    refine ⟨st, ?_, fun t ht => ?_⟩
    · rw [f_X12_laysSteps_b28, g351_26, Option.bind_some, wA_ne (by decide), hN, if_pos (nI_lt (by omega) (by omega))]
    · show st t = if st t = -1 then -1 else st t
      by_cases q : st t = -1
      · rw [if_pos q, q]
      · rw [if_neg q]
  | f + 1, e, n, 0, st, _, _, h => by omega
  | f + 1, e, n, k + 1, st, hn, he, hk => by
    have a368n : a ≠ 368 := by rcases R with rfl | rfl <;> decide
    have hto : toF (S.1 a) st N e < 64 := nxM_lt (fun k _ => bsN_64 _ h6) N h6
    obtain ⟨st', e1, e2⟩ := r_steps_loop R hN h6 f (toF (S.1 a) st N e) (n + 1) k (stN st N (toF (S.1 a) st N e) n) (by omega) hto (by omega)
    refine ⟨st', ?_, fun t ht => ?_⟩
    · rw [f_X12_laysSteps_b28, g351_26, Option.bind_some, wA_ne (by decide), hN, if_neg (nI_nlt (by omega) (by omega)), ← e1]
      have tail : f_X12_laysSteps_b121 (fun h l0 l1 l3 l4 => f_X12_laysSteps_b28 k h l0 l1 l3 l4) 1048576 (hp (wA S 368 st) c) 351 a (nI n) (nI (toF (S.1 a) st N e)) (0 : Int32) = f_X12_laysSteps_b28 k (hp (wA S 368 (stN st N (toF (S.1 a) st N e) n)) c) 351 a (nI (toF (S.1 a) st N e)) (nI (n + 1)) := by
        have l0 : f_X12_laysSteps_b121 (fun h l0 l1 l3 l4 => f_X12_laysSteps_b28 k h l0 l1 l3 l4) 1048576 (hp (wA S 368 (stN st 0 (toF (S.1 a) st N e) n)) c) 351 a (nI n) (nI (toF (S.1 a) st N e)) (nI 0) = f_X12_laysSteps_b28 k (hp (wA S 368 (stN st N (toF (S.1 a) st N e) n)) c) 351 a (nI (toF (S.1 a) st N e)) (nI (n + 1)) := by
          refine lp (N := N) (fun q j => f_X12_laysSteps_b121 (fun h l0 l1 l3 l4 => f_X12_laysSteps_b28 k h l0 l1 l3 l4) q (hp (wA S 368 (stN st j (toF (S.1 a) st N e) n)) c) 351 a (nI n) (nI (toF (S.1 a) st N e)) (nI j)) (fun q => ?_) (fun q j hj => ?_) N 0 1048576 (by omega) (by omega)
          · show f_X12_laysSteps_b121 _ (q + 1) (hp (wA S 368 _) c) 351 a (nI n) _ (nI N) = _
            rw [f_X12_laysSteps_b121, g351_26, Option.bind_some, wA_ne (by decide), hN, if_pos (nI_le (Nat.le_refl _) (by omega)), nI_1]
          · show f_X12_laysSteps_b121 _ (q + 1) (hp (wA S 368 _) c) 351 a (nI n) _ (nI j) = f_X12_laysSteps_b121 _ q (hp (wA S 368 (stN st (j + 1) (toF (S.1 a) st N e) n)) c) 351 a (nI n) _ (nI (j + 1))
            rw [f_X12_laysSteps_b121, g351_26, Option.bind_some, wA_ne (by decide), hN, if_neg (nI_ge (by omega) (by omega)), r_has, Option.bind_some, kep_bit hto (by omega)]
            unfold f_X12_laysSteps_b149
            rw [nI_1]
            cases hb : (toF (S.1 a) st N e).testBit j with
            | false =>
              rw [if_pos bI_f]
              have : stN st j (toF (S.1 a) st N e) n = stN st (j + 1) (toF (S.1 a) st N e) n := by
                funext b
                unfold stN
                refine fI ⟨fun z => ⟨by omega, z.2⟩, fun z => ⟨?_, z.2⟩⟩
                rcases Nat.lt_or_ge b j with w | w
                · exact w
                · have : b = j := by omega
                  rw [this, hb] at z
                  exact absurd z.2 (by decide)
              rw [this]
            | true =>
              rw [if_neg (by decide), g351_38, Option.bind_some, q368 (by omega), Option.bind_some, wA_wA, wA_same]
              have : upd (stN st j (toF (S.1 a) st N e) n) j (nI n) = stN st (j + 1) (toF (S.1 a) st N e) n := by
                funext b
                unfold upd stN
                by_cases w : b = j
                · rw [if_pos w, if_pos ⟨by omega, by rw [w]; exact hb⟩]
                · rw [if_neg w]
                  exact fI ⟨fun z => ⟨by omega, z.2⟩, fun z => ⟨by omega, z.2⟩⟩
              rw [this]
        have s0 : stN st 0 (toF (S.1 a) st N e) n = st := by
          funext b
          unfold stN
          rw [if_neg (fun z => by omega)]
        rw [s0] at l0
        exact l0
      rw [← tail]
      refine lp (N := N) (fun q i => f_X12_laysSteps_b43 (fun h l0 l1 l3 l4 => f_X12_laysSteps_b28 k h l0 l1 l3 l4) q (hp (wA S 368 st) c) 351 a (nI e) (nI n) (nI (nxM (fun a' => bsN (fun b => decide (0 < S.1 a (6 * a' + b)) && decide (st b = -1)) N) e i)) (nI i)) (fun q => ?_) (fun q i hi => ?_) N 0 1048576 (by omega) (by omega)
      · show f_X12_laysSteps_b43 _ (q + 1) (hp (wA S 368 st) c) 351 a (nI e) (nI n) _ (nI N) = _
        rw [f_X12_laysSteps_b43, g351_26, Option.bind_some, wA_ne (by decide), hN, if_pos (nI_le (Nat.le_refl _) (by omega))]
        rfl
      · show f_X12_laysSteps_b43 _ (q + 1) (hp (wA S 368 st) c) 351 a (nI e) (nI n) (nI (nxM _ e i)) (nI i) = f_X12_laysSteps_b43 _ q (hp (wA S 368 st) c) 351 a (nI e) (nI n) (nI (if e.testBit i then nxM (fun a' => bsN (fun b => decide (0 < S.1 a (6 * a' + b)) && decide (st b = -1)) N) e i ||| bsN (fun b => decide (0 < S.1 a (6 * i + b)) && decide (st b = -1)) N else nxM (fun a' => bsN (fun b => decide (0 < S.1 a (6 * a' + b)) && decide (st b = -1)) N) e i)) (nI (i + 1))
        generalize nxM (fun a' => bsN (fun b => decide (0 < S.1 a (6 * a' + b)) && decide (st b = -1)) N) e i = acc
        rw [f_X12_laysSteps_b43, g351_26, Option.bind_some, wA_ne (by decide), hN, if_neg (nI_ge (by omega) (by omega))]
        refine Eq.trans ?_ (lp (N := N) (fun r j => f_X12_laysSteps_b55 (fun h l0 l1 l3 l4 => f_X12_laysSteps_b28 k h l0 l1 l3 l4) (fun h l0 l1 l3 l4 l5 l6 => f_X12_laysSteps_b43 (fun h l0 l1 l3 l4 => f_X12_laysSteps_b28 k h l0 l1 l3 l4) q h l0 l1 l3 l4 l5 l6) r (hp (wA S 368 st) c) 351 a (nI e) (nI n) (nI (if e.testBit i then acc ||| bsN (fun b => decide (0 < S.1 a (6 * i + b)) && decide (st b = -1)) j else acc)) (nI i) (nI j)) (fun r => ?_) (fun r j hj => ?_) N 0 1048576 (by omega) (by omega))
        · show f_X12_laysSteps_b55 _ _ 1048576 (hp (wA S 368 st) c) 351 a (nI e) (nI n) (nI acc) (nI i) (0 : Int32) = f_X12_laysSteps_b55 _ _ 1048576 (hp (wA S 368 st) c) 351 a (nI e) (nI n) (nI (if e.testBit i then acc ||| 0 else acc)) (nI i) (nI 0)
          rw [Nat.or_zero, ite_self]
          rfl
        · show f_X12_laysSteps_b55 _ _ (r + 1) (hp (wA S 368 st) c) 351 a (nI e) (nI n) _ (nI i) (nI N) = _
          rw [f_X12_laysSteps_b55, g351_26, Option.bind_some, wA_ne (by decide), hN, if_pos (nI_le (Nat.le_refl _) (by omega)), nI_1]
        · show f_X12_laysSteps_b55 _ _ (r + 1) (hp (wA S 368 st) c) 351 a (nI e) (nI n) _ (nI i) (nI j) = f_X12_laysSteps_b55 _ _ r (hp (wA S 368 st) c) 351 a (nI e) (nI n) (nI (if e.testBit i then acc ||| (if (decide (0 < S.1 a (6 * i + j)) && decide (st j = -1)) = true then bsN (fun b => decide (0 < S.1 a (6 * i + b)) && decide (st b = -1)) j ||| 2 ^ j else bsN (fun b => decide (0 < S.1 a (6 * i + b)) && decide (st b = -1)) j) else acc)) (nI i) (nI (j + 1))
          generalize bsN (fun b => decide (0 < S.1 a (6 * i + b)) && decide (st b = -1)) j = br
          rw [f_X12_laysSteps_b55, g351_26, Option.bind_some, wA_ne (by decide), hN, if_neg (nI_ge (by omega) (by omega)), r_has, Option.bind_some, kep_bit he (by omega)]
          unfold f_X12_laysSteps_b106
          rw [nI_1]
          cases he' : e.testBit i with
          | false => rw [if_pos bI_f, if_neg (by decide), if_neg (by decide)]
          | true =>
            rw [if_neg (by decide), if_pos rfl, if_pos rfl, ix6, R.ar (by omega), Option.bind_some, wA_ne a368n]
            by_cases p1 : S.1 a (6 * i + j) ≤ 0
            · rw [if_pos p1, decide_eq_false (Int32.not_lt.mpr p1), Bool.false_and, if_neg (by decide)]
            · rw [if_neg p1, decide_eq_true (Int32.not_le.mp p1), Bool.true_and, g351_38, Option.bind_some, a368 (by omega), Option.bind_some, wA_same]
              by_cases p2 : st j = -1
              · rw [if_pos p2, if_pos (decide_eq_true p2), bit_1 j (by omega), bit_or, Nat.or_assoc]
              · rw [if_neg p2, if_neg (fun z => p2 (of_decide_eq_true z))]
    · rw [e2 t ht]
      have hv : vis (stN st N (toF (S.1 a) st N e) n) = vis st ||| toF (S.1 a) st N e := by
        refine bits_ext vis_lt (Nat.or_lt_two_pow (n := 6) vis_lt hto) fun b hb => ?_
        rw [Nat.testBit_or]
        unfold vis
        rw [bsN_t, bsN_t, decide_eq_true hb, Bool.true_and, Bool.true_and]
        unfold stN
        by_cases q : b < N ∧ (toF (S.1 a) st N e).testBit b = true
        · rw [if_pos q, q.2, Bool.or_true, decide_eq_false (m1_ne (by omega))]
          rfl
        · rw [if_neg q]
          have : (toF (S.1 a) st N e).testBit b = false := by
            cases hz : (toF (S.1 a) st N e).testBit b with
            | false => rfl
            | true =>
              exfalso
              have hz' := hz
              rw [toF_eq h6, Nat.testBit_and, Bool.and_eq_true, nxM_t] at hz'
              obtain ⟨⟨k, hk, -, h3⟩, -⟩ := hz'
              exact q ⟨(ow_t.mp h3).1, hz⟩
          rw [this, Bool.or_false]
      show _ = if st t = -1 then (if (nxM (ow (S.1 a) N) e N &&& (63 ^^^ vis st)).testBit t then nI n else stR (ow (S.1 a) N) N t f (nxM (ow (S.1 a) N) (nxM (ow (S.1 a) N) e N &&& (63 ^^^ vis st)) N &&& (63 ^^^ (vis st ||| (nxM (ow (S.1 a) N) e N &&& (63 ^^^ vis st))))) (vis st ||| (nxM (ow (S.1 a) N) e N &&& (63 ^^^ vis st))) (n + 1)) else st t
      rw [← toF_eq (D := S.1 a) (st := st) (e := e) h6, ← hv]
      have hst : stN st N (toF (S.1 a) st N e) n t = if (toF (S.1 a) st N e).testBit t = true then nI n else st t := by
        unfold stN
        exact fI ⟨fun z => z.2, fun z => ⟨ht, z⟩⟩
      cases hb : (toF (S.1 a) st N e).testBit t with
      | true =>
        have : st t = -1 := by
          rw [toF_eq h6, Nat.testBit_and, Bool.and_eq_true, xor63_t (by omega)] at hb
          have h2 := hb.2
          unfold vis at h2
          rw [bsN_t, decide_eq_true (by omega : t < 6), Bool.true_and, Bool.not_not] at h2
          exact of_decide_eq_true h2
        rw [hst, hb, if_pos rfl, if_neg (m1_ne (by omega)), if_pos this, if_pos rfl]
      | false =>
        simp only [hst, hb, Bool.false_eq_true, ↓reduceIte]
theorem r_laysSteps (R : isR a) (hN : S.1 351 26 = nI N) (h6 : N ≤ 6) (hx : x < N) : ∃ st, f_X12_laysSteps (hp S c) 351 a (nI x) = some (hp (wA S 368 st) c) ∧ ∀ t, t < N → st t = stR (ow (S.1 a) N) N t N (ow (S.1 a) N x) 0 1 := by
  unfold f_X12_laysSteps
  rw [k351, Option.bind_some]
  have l0 : f_X12_laysSteps_b2 1048576 (hp (wA S 368 (fun i => if i < 0 then -1 else S.1 368 i)) c) 351 a (nI x) (nI 0) = f_X12_laysSteps_b28 1048576 (hp (wA S 368 (fun i => if i < 6 then -1 else S.1 368 i)) c) 351 a (nI (2 ^ x)) (nI 1) := by
    refine lp (N := 6) (fun q j => f_X12_laysSteps_b2 q (hp (wA S 368 (fun i => if i < j then -1 else S.1 368 i)) c) 351 a (nI x) (nI j)) (fun q => ?_) (fun q j hj => ?_) 6 0 1048576 (by omega) (by omega)
    · show f_X12_laysSteps_b2 (q + 1) (hp (wA S 368 _) c) 351 a (nI x) (nI 6) = _
      rw [f_X12_laysSteps_b2, show (6 : Int32) = nI 6 from rfl, if_pos (nI_le (Nat.le_refl _) (by omega)), bit_1 x (by omega)]
      rfl
    · show f_X12_laysSteps_b2 (q + 1) (hp (wA S 368 (fun i => if i < j then -1 else S.1 368 i)) c) 351 a (nI x) (nI j) = f_X12_laysSteps_b2 q (hp (wA S 368 (fun i => if i < j + 1 then -1 else S.1 368 i)) c) 351 a (nI x) (nI (j + 1))
      rw [f_X12_laysSteps_b2, show (6 : Int32) = nI 6 from rfl, if_neg (nI_ge (by omega) (by omega)), g351_38, Option.bind_some, q368 (by omega), Option.bind_some, wA_wA, wA_same, nI_1]
      congr 3
      funext i
      unfold upd
      by_cases w : i = j
      · rw [if_pos w, if_pos (by omega)]
      · rw [if_neg w]
        exact fI (by omega)
  have s0 : (fun i => if i < 0 then (-1 : Int32) else S.1 368 i) = S.1 368 := by
    funext i
    rw [if_neg (by omega)]
  rw [s0, wA_self] at l0
  have hxb : 2 ^ x < 64 := Nat.pow_lt_pow_right (by decide) (by omega : x < 6)
  obtain ⟨st', e1, e2⟩ := r_steps_loop (c := c) R hN h6 N (2 ^ x) 1 1048576 (fun i => if i < 6 then -1 else S.1 368 i) (by omega) hxb (by omega)
  refine ⟨st', l0.trans e1, fun t ht => ?_⟩
  rw [e2 t ht, if_pos (if_pos (by omega))]
  have hv : vis (fun i => if i < 6 then (-1 : Int32) else S.1 368 i) = 0 := by
    refine bits_ext vis_lt (by decide) fun b hb => ?_
    unfold vis
    rw [bsN_t, Nat.zero_testBit]
    show (decide (b < 6) && !decide ((if b < 6 then (-1 : Int32) else S.1 368 b) = -1)) = false
    rw [if_pos hb]
    simp
  have hn : nxM (ow (S.1 a) N) (2 ^ x) N = ow (S.1 a) N x := by
    refine bits_ext (nxM_lt (fun k _ => ow_lt h6) N h6) (ow_lt h6) fun b hb => ?_
    rw [Bool.eq_iff_iff, nxM_t]
    constructor
    · rintro ⟨k, hk, h1, h2⟩
      rw [Nat.testBit_two_pow, decide_eq_true_eq] at h1
      rw [h1]
      exact h2
    · intro h
      exact ⟨x, hx, by rw [Nat.testBit_two_pow, decide_eq_true_eq], h⟩
  rw [hv, hn]
  have : ow (S.1 a) N x &&& (63 ^^^ 0) = ow (S.1 a) N x := bits_ext (and_lt64 (ow_lt h6)) (ow_lt h6) fun b hb => by
    rw [Nat.testBit_and, xor63_t hb, Nat.zero_testBit]
    simp
  rw [this]
/-- the fewest steps from a house to itself, of the first k; none: -1 -/
def rgR (D : Nat → Int32) (N : Nat) : Nat → Int32
  | 0 => -1
  | k + 1 => if stR (ow D N) N k N (ow D N k) 0 1 = -1 then rgR D N k else if rgR D N k = -1 then stR (ow D N) N k N (ow D N k) 0 1 else if rgR D N k ≤ stR (ow D N) N k N (ow D N k) 0 1 then rgR D N k else stR (ow D N) N k N (ow D N k) 0 1
theorem r_shortest_loop (R : isR a) (hN : S.1 351 26 = nI N) (h6 : N ≤ 6) : ∀ (m k n : Nat) (g : Nat → Int32), k + m = N → m < n → ∃ st, f_X12_shortestRing_b4 n (hp (wA S 368 g) c) 351 a (rgR (S.1 a) N k) (nI k) = some (rgR (S.1 a) N N, hp (wA S 368 st) c)
  | m, k, 0, g, _, h => by omega
  | 0, k, n + 1, g, hk, _ => by
    refine ⟨g, ?_⟩
    rw [f_X12_shortestRing_b4, g351_26, Option.bind_some, wA_ne (by decide), hN, if_pos (nI_le (by omega) (by omega)), show k = N by omega]
  | m + 1, k, n + 1, g, hk, hn => by
    have a368n : a ≠ 368 := by rcases R with rfl | rfl <;> decide
    have hN' : (wA S 368 g).1 351 26 = nI N := by
      rw [wA_ne (by decide)]
      exact hN
    obtain ⟨st, e1, e2⟩ := r_laysSteps (S := wA S 368 g) (c := c) R hN' h6 (show k < N by omega)
    rw [wA_ne a368n] at e2
    rw [wA_wA] at e1
    obtain ⟨st', e3⟩ := r_shortest_loop R hN h6 m (k + 1) n st (by omega) (by omega)
    refine ⟨st', ?_⟩
    rw [f_X12_shortestRing_b4, g351_26, Option.bind_some, hN', if_neg (nI_ge (by omega) (by omega)), e1, Option.bind_some, g351_38, Option.bind_some, a368 (by omega), Option.bind_some, wA_same, e2 k (by omega)]
    unfold f_X12_shortestRing_b43 f_X12_shortestRing_b50
    rw [nI_1, ← e3, g351_38, Option.bind_some, a368 (by omega), Option.bind_some, wA_same, e2 k (by omega)]
    show _ = f_X12_shortestRing_b4 n (hp (wA S 368 st) c) 351 a (if stR (ow (S.1 a) N) N k N (ow (S.1 a) N k) 0 1 = -1 then rgR (S.1 a) N k else if rgR (S.1 a) N k = -1 then stR (ow (S.1 a) N) N k N (ow (S.1 a) N k) 0 1 else if rgR (S.1 a) N k ≤ stR (ow (S.1 a) N) N k N (ow (S.1 a) N k) 0 1 then rgR (S.1 a) N k else stR (ow (S.1 a) N) N k N (ow (S.1 a) N k) 0 1) (nI (k + 1))
    by_cases c1 : stR (ow (S.1 a) N) N k N (ow (S.1 a) N k) 0 1 = -1
    · rw [if_pos c1, if_pos c1]
    · rw [if_neg c1, if_neg c1]
      by_cases c2 : rgR (S.1 a) N k = -1
      · rw [if_pos c2, if_pos c2]
      · rw [if_neg c2, if_neg c2, Option.bind_some, a368 (by omega), Option.bind_some, wA_same, e2 k (by omega)]
        by_cases c3 : rgR (S.1 a) N k ≤ stR (ow (S.1 a) N) N k N (ow (S.1 a) N k) 0 1
        · rw [if_pos c3, if_pos c3]
        · rw [if_neg c3, if_neg c3]
theorem r_shortest (R : isR a) (hN : S.1 351 26 = nI N) (h6 : N ≤ 6) : ∃ st, f_X12_shortestRing (hp S c) 351 a = some (rgR (S.1 a) N N, hp (wA S 368 st) c) := by
  unfold f_X12_shortestRing
  rw [k351, Option.bind_some]
  obtain ⟨st, e⟩ := r_shortest_loop (c := c) R hN h6 N 0 1048576 (S.1 368) (by omega) (by omega)
  rw [wA_self] at e
  exact ⟨st, e⟩
def rng (D : Nat → Int32) (N : Nat) : Bool := !decide (rgR D N N = -1)
theorem r_hasRing (R : isR a) (hN : S.1 351 26 = nI N) (h6 : N ≤ 6) : ∃ st, f_X12_hasRing (hp S c) 351 a = some (bI (rng (S.1 a) N), hp (wA S 368 st) c) := by
  obtain ⟨st, e⟩ := r_shortest (c := c) R hN h6
  refine ⟨st, ?_⟩
  unfold f_X12_hasRing rng
  rw [k351, Option.bind_some, e, Option.bind_some]
  by_cases q : rgR (S.1 a) N N = -1
  · rw [if_pos q, decide_eq_true q]
    rfl
  · rw [if_neg q, decide_eq_false q]
    rfl
end R3
