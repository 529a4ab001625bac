/-! ALL: amounts, masks, pairs -/
section AL1
variable {S : XS} {c : Nat × Nat} {n N : Nat} {kp lim : Int32} {D : Nat → Int32}
def av (S : XS) (N kd x : Nat) : Int32 := if kd = 0 then sIn (S.1 364) x N else if kd = 1 then sOut (S.1 364) x N else if kd = 2 then S.1 364 (36 + x) else if kd = 3 then S.1 364 (42 + x) else S.1 358 (3 * x + 1)
def mst (f : Nat → Int32) : Nat → Nat → Nat → Nat
  | 0, _, b => b
  | r + 1, k, b => if f k ≤ f b then mst f r (k + 1) b else mst f r (k + 1) k
theorem c_amount {kd x : Nat} (W : TW S S N lim kp) (hk : kd < 5) (hx : x < N) : f_X11_amountOf (hp S c) 0 (nI x) (nI kd) = some (av S N kd x) := by
  obtain ⟨t1, t2, t3, t4, t5, t6, t7, t8, t9, tE, tV, tZ, t49, tc, t34, t33⟩ := W
  have hx6 : x < 6 := by omega
  unfold f_X11_amountOf av
  rw [k0, Option.bind_some]
  rcases (by omega : kd = 0 ∨ kd = 1 ∨ kd = 2 ∨ kd = 3 ∨ kd = 4) with rfl | rfl | rfl | rfl | rfl
  · rw [if_pos (show nI 0 = 0 from rfl), if_pos rfl, g0_6, Option.bind_some, B30.incoming t6 t2 hx6, Option.bind_some, sIn_cg hx6 (D := S.1 (30 + 1)) (D' := S.1 364) tE.1 N t2]
  · rw [if_neg (show ¬ nI 1 = 0 by decide), if_pos (show nI 1 = 1 from rfl), if_neg (by decide), if_pos rfl, g0_6, Option.bind_some, B30.outgoing t6 t2 hx6, Option.bind_some, sOut_cg hx6 (D := S.1 (30 + 1)) (D' := S.1 364) tE.1 N t2]
  · rw [if_neg (show ¬ nI 2 = 0 by decide), if_neg (show ¬ nI 2 = 1 by decide), if_pos (show nI 2 = 2 from rfl), if_neg (by decide), if_neg (by decide), if_pos rfl, g0_6, Option.bind_some, B30.g1, Option.bind_some, B30.a2 hx6, Option.bind_some]
    exact congrArg some (tE.2 x hx6)
  · rw [if_neg (show ¬ nI 3 = 0 by decide), if_neg (show ¬ nI 3 = 1 by decide), if_neg (show ¬ nI 3 = 2 by decide), if_pos (show nI 3 = 3 from rfl), if_neg (by decide), if_neg (by decide), if_neg (by decide), if_pos rfl, g0_6, Option.bind_some, B30.g3, Option.bind_some, B30.a4 hx6, Option.bind_some]
    exact congrArg some (t34 x hx6)
  · rw [if_neg (show ¬ nI 4 = 0 by decide), if_neg (show ¬ nI 4 = 1 by decide), if_neg (show ¬ nI 4 = 2 by decide), if_neg (show ¬ nI 4 = 3 by decide), if_neg (by decide), if_neg (by decide), if_neg (by decide), if_neg (by decide), g0_6, Option.bind_some, B30.g2, Option.bind_some, B30.a3 hx6, Option.bind_some]
    exact congrArg some (t33 x hx).1
theorem r_value {U : XS} {kd x : Nat} (h6 : N ≤ 6) (h26 : U.1 351 26 = nI N) (h4 : U.1 364 = S.1 364) (h8 : U.1 358 = S.1 358) (hk : kd < 5) (hx : x < N) : f_X12_valueOf (hp U c) 351 (nI kd) (nI x) = some (av S N kd x) := by
  have hx6 : x < 6 := by omega
  unfold f_X12_valueOf av
  rw [k351, Option.bind_some]
  rcases (by omega : kd = 0 ∨ kd = 1 ∨ kd = 2 ∨ kd = 3 ∨ kd = 4) with rfl | rfl | rfl | rfl | rfl
  · rw [if_pos (show nI 0 = 0 from rfl), if_pos rfl, g351_32, Option.bind_some, r_in (Or.inl rfl) h26 h6 hx6, Option.bind_some, h4]
  · rw [if_neg (show ¬ nI 1 = 0 by decide), if_pos (show nI 1 = 1 from rfl), if_neg (by decide), if_pos rfl, g351_32, Option.bind_some, r_out (Or.inl rfl) h26 h6 hx6, Option.bind_some, h4]
  · rw [if_neg (show ¬ nI 2 = 0 by decide), if_neg (show ¬ nI 2 = 1 by decide), if_pos (show nI 2 = 2 from rfl), if_neg (by decide), if_neg (by decide), if_pos rfl, g351_32, Option.bind_some, i36, a364 (by omega), Option.bind_some, h4]
  · rw [if_neg (show ¬ nI 3 = 0 by decide), if_neg (show ¬ nI 3 = 1 by decide), if_neg (show ¬ nI 3 = 2 by decide), if_pos (show nI 3 = 3 from rfl), if_neg (by decide), if_neg (by decide), if_neg (by decide), if_pos rfl, g351_32, Option.bind_some, i42, a364 (by omega), Option.bind_some, h4]
  · rw [if_neg (show ¬ nI 4 = 0 by decide), if_neg (show ¬ nI 4 = 1 by decide), if_neg (show ¬ nI 4 = 2 by decide), if_neg (show ¬ nI 4 = 3 by decide), if_neg (by decide), if_neg (by decide), if_neg (by decide), if_neg (by decide), g351_20, Option.bind_some, i358, a358 (by omega), Option.bind_some, h8]
theorem c_most {kd : Nat} (W : TW S S N lim kp) (hk : kd < 5) (h0 : 0 < N) : ∀ (r k f b : Nat), k + r = N → r < f → b < N → f_X11_houseWithMost_b4 f (hp S c) 0 (nI kd) (nI b) (nI k) = some (nI (mst (av S N kd) r k b))
  | 0, k, f, b, hr, hf, hb => by
    obtain ⟨f, rfl⟩ : ∃ g, f = g + 1 := ⟨f - 1, by omega⟩
    have h6 := W.2.1
    rw [f_X11_houseWithMost_b4, g0_6, Option.bind_some, B30.g4, Option.bind_some, W.2.2.2.2.2.1, if_pos (nI_le (by omega) (by omega))]
    rfl
  | r + 1, k, f, b, hr, hf, hb => by
    obtain ⟨f, rfl⟩ : ∃ g, f = g + 1 := ⟨f - 1, by omega⟩
    have h6 := W.2.1
    rw [f_X11_houseWithMost_b4, g0_6, Option.bind_some, B30.g4, Option.bind_some, W.2.2.2.2.2.1, if_neg (nI_ge (by omega) (by omega)), c_amount W hk (by omega), Option.bind_some, c_amount W hk hb, Option.bind_some]
    unfold f_X11_houseWithMost_b32
    show _ = some (nI (if av S N kd k ≤ av S N kd b then mst (av S N kd) r (k + 1) b else mst (av S N kd) r (k + 1) k))
    rw [nI_1]
    by_cases e : av S N kd k ≤ av S N kd b
    · rw [if_pos e, if_pos e]
      exact c_most W hk h0 r (k + 1) f b (by omega) (by omega) hb
    · rw [if_neg e, if_neg e]
      exact c_most W hk h0 r (k + 1) f k (by omega) (by omega) (by omega)
theorem r_most {U : XS} {kd : Nat} (h6 : N ≤ 6) (h26 : U.1 351 26 = nI N) (h4 : U.1 364 = S.1 364) (h8 : U.1 358 = S.1 358) (hk : kd < 5) : ∀ (r k f b : Nat), k + r = N → r < f → b < N → f_X12_greatest_b4 f (hp U c) 351 (nI kd) (nI b) (nI k) = some (nI (mst (av S N kd) r k b))
  | 0, k, f, b, hr, hf, hb => by
    obtain ⟨f, rfl⟩ : ∃ g, f = g + 1 := ⟨f - 1, by omega⟩
    rw [f_X12_greatest_b4, g351_26, Option.bind_some, h26, if_pos (nI_le (by omega) (by omega))]
    rfl
  | r + 1, k, f, b, hr, hf, hb => by
    obtain ⟨f, rfl⟩ : ∃ g, f = g + 1 := ⟨f - 1, by omega⟩
    rw [f_X12_greatest_b4, g351_26, Option.bind_some, h26, if_neg (nI_ge (by omega) (by omega)), r_value h6 h26 h4 h8 hk (by omega), Option.bind_some, r_value h6 h26 h4 h8 hk hb, Option.bind_some]
    unfold f_X12_greatest_b32
    show _ = some (nI (if av S N kd k ≤ av S N kd b then mst (av S N kd) r (k + 1) b else mst (av S N kd) r (k + 1) k))
    rw [nI_1]
    by_cases e : av S N kd k ≤ av S N kd b
    · rw [if_pos e, if_pos e]
      exact r_most h6 h26 h4 h8 hk r (k + 1) f b (by omega) (by omega) hb
    · rw [if_neg e, if_neg e]
      exact r_most h6 h26 h4 h8 hk r (k + 1) f k (by omega) (by omega) (by omega)
/-- which houses -/
def wh (S : XS) (N : Nat) (o i : Bool) (x : Nat) : Bool := (decide (0 < sOut (S.1 364) x N) == o) && (decide (0 < sIn (S.1 364) x N) == i)
def fb (S : XS) (N kd x : Nat) : Bool := if kd = 7 then wh S N true false x else if kd = 8 then wh S N false true x else if kd = 9 then wh S N false false x else if kd = 10 then kep (S.1 364 48) x else can N (S.1 364 48) (S.1 356 1) (rwB (S.1 364)) x
theorem zq_b (b : Bool) : zq (bI b) = some (bI b) := by cases b <;> rfl
theorem c_such {kd x : Nat} (W : TW S S N lim kp) (h7 : 7 ≤ kd) (h11 : kd ≤ 11) (hx : x < N) : f_X11_isSuch (hp S c) 0 (nI x) (nI kd) = some (bI (fb S N kd x)) := by
  obtain ⟨t1, t2, t3, t4, t5, t6, t7, t8, t9, tE, tV, tZ, t49, tc, t34, t33⟩ := W
  have hx6 : x < 6 := by omega
  have hin : f_X0_incoming (hp S c) 30 (nI x) = some (sIn (S.1 364) x N) := by rw [B30.incoming t6 t2 hx6, sIn_cg hx6 (D := S.1 (30 + 1)) (D' := S.1 364) tE.1 N t2]
  have hout : f_X0_outgoing (hp S c) 30 (nI x) = some (sOut (S.1 364) x N) := by rw [B30.outgoing t6 t2 hx6, sOut_cg hx6 (D := S.1 (30 + 1)) (D' := S.1 364) tE.1 N t2]
  have e1 : f_X11_isSuch (hp S c) 0 (nI x) (nI kd) = f_X11_isSuch_b33 (hp S c) 0 (nI x) (nI kd) (bI (decide (0 < sIn (S.1 364) x N))) (bI (decide (0 < sOut (S.1 364) x N))) := by
    unfold f_X11_isSuch f_X11_isSuch_b16
    rw [k0, Option.bind_some, g0_6, Option.bind_some, hin, Option.bind_some]
    by_cases a : 0 < sIn (S.1 364) x N
    · rw [if_neg (Int32.not_le.mpr a), decide_eq_true a, Option.bind_some, hout, Option.bind_some]
      by_cases b : 0 < sOut (S.1 364) x N
      · rw [if_neg (Int32.not_le.mpr b), decide_eq_true b]
        rfl
      · rw [if_pos (Int32.not_lt.mp b), decide_eq_false b]
        rfl
    · rw [if_pos (Int32.not_lt.mp a), decide_eq_false a, Option.bind_some, hout, Option.bind_some]
      by_cases b : 0 < sOut (S.1 364) x N
      · rw [if_neg (Int32.not_le.mpr b), decide_eq_true b]
        rfl
      · rw [if_pos (Int32.not_lt.mp b), decide_eq_false b]
        rfl
  rw [e1]
  unfold f_X11_isSuch_b33
  rcases (by omega : kd = 7 ∨ kd = 8 ∨ kd = 9 ∨ kd = 10 ∨ kd = 11) with rfl | rfl | rfl | rfl | rfl
  · rw [if_pos (show nI 7 = 7 from rfl)]
    show _ = some (bI ((decide (0 < sOut (S.1 364) x N) == true) && (decide (0 < sIn (S.1 364) x N) == false)))
    cases decide (0 < sOut (S.1 364) x N) <;> cases decide (0 < sIn (S.1 364) x N) <;> rfl
  · rw [if_neg (show ¬ nI 8 = 7 by decide), if_pos (show nI 8 = 8 from rfl)]
    show _ = some (bI ((decide (0 < sOut (S.1 364) x N) == false) && (decide (0 < sIn (S.1 364) x N) == true)))
    cases decide (0 < sOut (S.1 364) x N) <;> cases decide (0 < sIn (S.1 364) x N) <;> rfl
  · rw [if_neg (show ¬ nI 9 = 7 by decide), if_neg (show ¬ nI 9 = 8 by decide), if_pos (show nI 9 = 9 from rfl)]
    show _ = some (bI ((decide (0 < sOut (S.1 364) x N) == false) && (decide (0 < sIn (S.1 364) x N) == false)))
    cases decide (0 < sOut (S.1 364) x N) <;> cases decide (0 < sIn (S.1 364) x N) <;> rfl
  · rw [if_neg (show ¬ nI 10 = 7 by decide), if_neg (show ¬ nI 10 = 8 by decide), if_neg (show ¬ nI 10 = 9 by decide), if_pos (show nI 10 = 10 from rfl), g0_6, Option.bind_some, B30.isKept, Option.bind_some, t8, zq_b, Option.bind_some, ← t9]
    rfl
  · rw [if_neg (show ¬ nI 11 = 7 by decide), if_neg (show ¬ nI 11 = 8 by decide), if_neg (show ¬ nI 11 = 9 by decide), if_neg (show ¬ nI 11 = 10 by decide), g0_6, Option.bind_some, B30.canTurn t6 t2 hx, Option.bind_some, t7, t8, zq_b, Option.bind_some]
    show _ = some (bI (can N (S.1 364 48) (S.1 356 1) (rwB (S.1 364)) x))
    rw [t9, t4, ← can_congr t2 tE]
    unfold can
    rw [decide_eq_true hx]
    rfl
theorem c_mask {kd : Nat} (W : TW S S N lim kp) (h7 : 7 ≤ kd) (h11 : kd ≤ 11) : ∀ (r k f : Nat), k + r = N → r < f → f_X11_housesThatAre_b4 f (hp S c) 0 (nI kd) (nI (mkN (fb S N kd) k)) (nI k) = some (nI (mkN (fb S N kd) N))
  | 0, k, f, hr, hf => by
    obtain ⟨f, rfl⟩ : ∃ g, f = g + 1 := ⟨f - 1, by omega⟩
    have h6 := W.2.1
    rw [f_X11_housesThatAre_b4, g0_6, Option.bind_some, B30.g4, Option.bind_some, W.2.2.2.2.2.1, if_pos (nI_le (by omega) (by omega)), show k = N by omega]
  | r + 1, k, f, hr, hf => by
    obtain ⟨f, rfl⟩ : ∃ g, f = g + 1 := ⟨f - 1, by omega⟩
    have h6 := W.2.1
    have hmk := mkN_c (fb := fb S N kd) (k := k) (by omega)
    have ih := c_mask W h7 h11 r (k + 1) f (by omega) (by omega)
    rw [f_X11_housesThatAre_b4, g0_6, Option.bind_some, B30.g4, Option.bind_some, W.2.2.2.2.2.1, if_neg (nI_ge (by omega) (by omega)), c_such W h7 h11 (by omega), Option.bind_some]
    unfold f_X11_housesThatAre_b30
    cases hb : fb S N kd k with
    | true =>
      rw [hb, if_pos rfl] at hmk
      rw [if_neg (show ¬ bI true = 0 by decide), hmk, nI_1]
      exact ih
    | false =>
      rw [hb, if_neg (show ¬ false = true by decide)] at hmk
      rw [if_pos (show bI false = 0 from rfl), hmk, nI_1]
      exact ih
theorem r_those {U : XS} {kd : Nat} {o i : Bool} (h6 : N ≤ 6) (h26 : U.1 351 26 = nI N) (h4 : U.1 364 = S.1 364) (hfb : ∀ x, fb S N kd x = wh S N o i x) : ∀ (r k f : Nat), k + r = N → r < f → f_X12_thoseWho_b5 f (hp U c) 351 (bI o) (bI i) (nI (mkN (fb S N kd) k)) (nI k) = some (nI (mkN (fb S N kd) N))
  | 0, k, f, hr, hf => by
    obtain ⟨f, rfl⟩ : ∃ g, f = g + 1 := ⟨f - 1, by omega⟩
    rw [f_X12_thoseWho_b5, g351_26, Option.bind_some, h26, if_pos (nI_le (by omega) (by omega)), show k = N by omega]
  | r + 1, k, f, hr, hf => by
    obtain ⟨f, rfl⟩ : ∃ g, f = g + 1 := ⟨f - 1, by omega⟩
    have hmk := mkN_c (fb := fb S N kd) (k := k) (by omega)
    have ih := r_those h6 h26 h4 hfb r (k + 1) f (by omega) (by omega)
    have b66 : wh S N o i k = false → f_X12_thoseWho_b66 (fun h l0 l1 l2 l3 l4 => f_X12_thoseWho_b5 f h l0 l1 l2 l3 l4) (hp U c) 351 (bI o) (bI i) (nI k) (nI (mkN (fb S N kd) k)) = some (nI (mkN (fb S N kd) N)) := fun hw => by
      rw [hfb k, hw, if_neg (show ¬ false = true by decide)] at hmk
      unfold f_X12_thoseWho_b66 f_X12_thoseWho_b67
      rw [Int32.or_zero, hmk, nI_1]
      exact ih
    have b33 : ∀ s : Bool, s = decide (0 < sOut (S.1 364) k N) → f_X12_thoseWho_b33 (fun h l0 l1 l2 l3 l4 => f_X12_thoseWho_b5 f h l0 l1 l2 l3 l4) (hp U c) 351 (bI o) (bI i) (nI k) (bI s) (nI (mkN (fb S N kd) k)) = some (nI (mkN (fb S N kd) N)) := fun s hs => by
      unfold f_X12_thoseWho_b33
      by_cases e : bI s = bI o
      · have eo : s = o := by cases s <;> cases o <;> first | rfl | exact absurd e (by decide)
        rw [if_pos e, g351_32, Option.bind_some, r_in (Or.inl rfl) h26 h6 (by omega), Option.bind_some, h4]
        have b55 : ∀ t : Bool, t = decide (0 < sIn (S.1 364) k N) → f_X12_thoseWho_b55 (fun h l0 l1 l2 l3 l4 => f_X12_thoseWho_b5 f h l0 l1 l2 l3 l4) (hp U c) 351 (bI o) (bI i) (nI k) (bI t) (nI (mkN (fb S N kd) k)) = some (nI (mkN (fb S N kd) N)) := fun t ht => by
          unfold f_X12_thoseWho_b55
          by_cases e2 : bI t = bI i
          · have ei : t = i := by cases t <;> cases i <;> first | rfl | exact absurd e2 (by decide)
            have hw : wh S N o i k = true := by
              unfold wh
              rw [← hs, ← ht, eo, ei]
              cases o <;> cases i <;> rfl
            rw [hfb k, hw, if_pos rfl] at hmk
            rw [if_pos e2]
            unfold f_X12_thoseWho_b67
            rw [hmk, nI_1]
            exact ih
          · rw [if_neg e2]
            refine b66 ?_
            unfold wh
            rw [← hs, ← ht]
            cases t <;> cases i <;> first | exact absurd rfl e2 | (cases s <;> cases o <;> rfl)
        by_cases a : 0 < sIn (S.1 364) k N
        · rw [if_neg (Int32.not_le.mpr a)]
          exact b55 true (by rw [decide_eq_true a])
        · rw [if_pos (Int32.not_lt.mp a)]
          exact b55 false (by rw [decide_eq_false a])
      · rw [if_neg e]
        refine b66 ?_
        unfold wh
        rw [← hs]
        cases s <;> cases o <;> first | exact absurd rfl e | rfl
    rw [f_X12_thoseWho_b5, g351_26, Option.bind_some, h26, if_neg (nI_ge (by omega) (by omega)), g351_32, Option.bind_some, r_out (Or.inl rfl) h26 h6 (by omega), Option.bind_some, h4]
    by_cases a : 0 < sOut (S.1 364) k N
    · rw [if_neg (Int32.not_le.mpr a)]
      exact b33 true (by rw [decide_eq_true a])
    · rw [if_pos (Int32.not_lt.mp a)]
      exact b33 false (by rw [decide_eq_false a])
theorem r_cans (W : TW S S N lim kp) : ∀ (r k f : Nat) (U : XS), k + r = N → r < f → U.1 351 26 = nI N → (∀ a, a = 356 ∨ a = 364 → U.1 a = S.1 a) → ∃ U', f_X12_thoseThatCan_b4 f (hp U c) 351 (nI (mkN (fb S N 11) k)) (nI k) = some (nI (mkN (fb S N 11) N), hp U' c) ∧ frS U' U
  | 0, k, f, U, hr, hf, h26, hu => by
    obtain ⟨f, rfl⟩ : ∃ g, f = g + 1 := ⟨f - 1, by omega⟩
    have h6 := W.2.1
    refine ⟨U, ?_, fun _ _ _ => rfl⟩
    rw [f_X12_thoseThatCan_b4, g351_26, Option.bind_some, h26, if_pos (nI_le (by omega) (by omega)), show k = N by omega]
  | r + 1, k, f, U, hr, hf, h26, hu => by
    obtain ⟨f, rfl⟩ : ∃ g, f = g + 1 := ⟨f - 1, by omega⟩
    have h6 := W.2.1
    have tV := W.2.2.2.2.2.2.2.2.2.2.1
    have t4 := W.2.2.2.1
    have hmk := mkN_c (fb := fb S N 11) (k := k) (by omega)
    obtain ⟨g, hg⟩ := r_can (S := U) (c := c) (a := 364) (x := k) (Or.inl rfl) h26 h6 (by omega) (by rw [hu 364 (by decide)]; exact tV.1) (by rw [hu 356 (by decide), hu 364 (by decide), t4]; exact tV.2.1)
    rw [hu 364 (by decide), hu 356 (by decide)] at hg
    have hg' : f_X12_can (hp U c) 351 364 (nI k) = some (bI (fb S N 11 k), hp (wA U 367 g) c) := hg
    obtain ⟨U', z1, z2⟩ := r_cans W r (k + 1) f (wA U 367 g) (by omega) (by omega) (by rw [wA_ne (by decide)]; exact h26) (fun a ha => by rw [wA_ne (by omega)]; exact hu a ha)
    refine ⟨U', ?_, fun a h1 h2 => by rw [z2 a h1 h2, wA_ne h2]⟩
    rw [f_X12_thoseThatCan_b4, g351_26, Option.bind_some, h26, if_neg (nI_ge (by omega) (by omega)), g351_32, Option.bind_some, hg', Option.bind_some]
    unfold f_X12_thoseThatCan_b32
    cases hb : fb S N 11 k with
    | true =>
      rw [hb, if_pos rfl] at hmk
      rw [if_neg (show ¬ bI true = 0 by decide), hmk, nI_1]
      exact z1
    | false =>
      rw [hb, if_neg (show ¬ false = true by decide)] at hmk
      rw [if_pos (show bI false = 0 from rfl), Int32.or_zero, hmk, nI_1]
      exact z1
theorem mkN_bits {m : Nat} (h6 : N ≤ 6) (hm : m < 2 ^ N) : mkN (fun x => m.testBit x) N = m := by
  have : ∀ N, N < 7 → ∀ m, m < 64 → m < 2 ^ N → mkN (fun x => m.testBit x) N = m := by decide +kernel
  have h64 : 2 ^ N ≤ 64 := Nat.pow_le_pow_right (n := 2) (by decide) h6
  exact this N (by omega) m (by omega) hm
theorem mkN_cg {f g : Nat → Bool} : ∀ k, (∀ x, x < k → f x = g x) → mkN f k = mkN g k
  | 0, _ => rfl
  | k + 1, h => by
    show (if f k then mkN f k ||| 2 ^ k else mkN f k) = if g k then mkN g k ||| 2 ^ k else mkN g k
    rw [h k (by omega), mkN_cg k (fun x hx => h x (by omega))]
end AL1
