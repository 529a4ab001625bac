/-! HOUSE -/
section HOU
variable {S : XS} {c : Nat × Nat} {n : Nat}
theorem xp0 {v : Int32} : xp [12] 0 (hp S c) 351 (.int v) = some (hp (wA S 351 (upd (S.1 351) 0 v)) c) := p351_0
theorem g0T : gI [12] 0 (hp (T0 S) c) 351 = some 0 := by
  rw [g351_0]
  unfold T0
  rw [wA_same, upd_same]
/-- it throws: the reference notes it -/
theorem house_no (R : RR n (pj S)) {N : Nat} (hN : S.1 351 26 = nI N) (h6 : N ≤ 6) {x k : Int32} (h : inN N x = false ∨ inN 7 k = false) : ∃ V, f_X12_house (hp S c) 351 x k = some (0, hp V c) ∧ V.1 351 0 = 1 ∧ RR (n + 1) (pj V) := by
  refine ⟨wA S 351 (upd (S.1 351) 0 1), ?_, by rw [wA_same, upd_same], by rw [pj_up (S := S) (a := 351) (k := 0) rfl]; exact R.mono (by omega)⟩
  have b25 : f_X12_house_b25 (hp S c) 351 x k 351 = some (0, hp (wA S 351 (upd (S.1 351) 0 1)) c) := by
    unfold f_X12_house_b25 f_X12_house_b26
    rw [xp0, Option.bind_some, g351_0, Option.bind_some, wA_same, upd_same, if_neg (by decide)]
  unfold f_X12_house
  rw [k351, Option.bind_some, house_b hN h6, Option.bind_some]
  cases q1 : inN N x with
  | false => rw [if_pos (show bI false = 0 from rfl), b25]
  | true =>
    rw [if_neg (show ¬ bI true = 0 by decide), isIn_b (m := 6) (u := 6) (by decide) rfl, Option.bind_some]
    have q2 : inN 7 k = false := h.resolve_left (fun z => by rw [q1] at z; cases z)
    rw [q2, if_pos (show bI false = 0 from rfl), b25]
theorem house_ref {N x kd : Nat} (hN : S.1 351 26 = nI N) (h6 : N ≤ 6) (hx : x < N) (hk : kd < 7) : f_X12_house (hp S c) 351 (nI x) (nI kd) = (if nI kd = (0 : Int32) then (gR [12] 32 (hp (T0 S) c) 351).bind fun x5 => (aI (hp (T0 S) c) x5 ((36 : Int32) + nI x)).bind fun x6 => some (x6, hp (T0 S) c) else if nI kd = (1 : Int32) then (gR [12] 20 (hp (T0 S) c) 351).bind fun x8 => (aI (hp (T0 S) c) x8 (((3 : Int32) * nI x) + (1 : Int32))).bind fun x9 => some (x9, hp (T0 S) c) else if nI kd = (2 : Int32) then (gR [12] 32 (hp (T0 S) c) 351).bind fun x11 => (aI (hp (T0 S) c) x11 (48 : Int32)).bind fun x12 => some (((shr x12 (nI x)) &&& (1 : Int32)), hp (T0 S) c) else if nI kd = (3 : Int32) then (gR [12] 32 (hp (T0 S) c) 351).bind fun x14 => (aI (hp (T0 S) c) x14 ((42 : Int32) + nI x)).bind fun x15 => some (x15, hp (T0 S) c) else if nI kd = (4 : Int32) then (gR [12] 32 (hp (T0 S) c) 351).bind fun x17 => (f_X12_in (hp (T0 S) c) 351 x17 (nI x)).bind fun q18 => some (q18, hp (T0 S) c) else if nI kd = (5 : Int32) then (gR [12] 32 (hp (T0 S) c) 351).bind fun x20 => (f_X12_out (hp (T0 S) c) 351 x20 (nI x)).bind fun q21 => some (q21, hp (T0 S) c) else (f_X12_cost (hp (T0 S) c) 351 (nI x)).bind fun q22 => some (q22.1, q22.2)) := by
  unfold f_X12_house f_X12_house_b26
  rw [k351, Option.bind_some, house_b hN h6, Option.bind_some, inN_i hx (by omega), if_neg (show ¬ bI true = 0 by decide), isIn_b (m := 6) (u := 6) (by decide) rfl, Option.bind_some, inN_i hk (by decide), if_neg (show ¬ bI true = 0 by decide), T0_p, Option.bind_some, g0T, Option.bind_some, if_pos (show (0 : Int32) ≤ 0 by decide)]
/-- both answer -/
theorem house_ok (R : RR n (pj S)) {N x kd : Nat} (hN : S.1 30 4 = nI N) (h6 : N ≤ 6) (hx : x < N) (hk : kd < 7) : ∃ v S1 S2, f_X11_house (hp S c) 0 (nI x) (nI kd) = some (v, hp S1 c) ∧ f_X12_house (hp S1 c) 351 (nI x) (nI kd) = some (v, hp S2 c) ∧ S2.1 351 0 = 0 ∧ RR (n + 1) (pj S2) := by
  have RS := mg_in R
  obtain ⟨N', lim, kp, W⟩ := RS.tw
  have eN := W.eqN hN h6
  subst eN
  have Wc := W
  obtain ⟨t1, t2, t3, t4, t5, t6, t7, t8, t9, tE, tV, tZ, t49, tc, t34, t33⟩ := Wc
  have hx6 : x < 6 := by omega
  have t0 : (T0 S).1 351 0 = 0 := by
    unfold T0
    rw [wA_same, upd_same]
  have fin : ∀ v : Int32, f_X11_house (hp S c) 0 (nI x) (nI kd) = some (v, hp S c) → f_X12_house (hp S c) 351 (nI x) (nI kd) = some (v, hp (T0 S) c) → ∃ v S1 S2, f_X11_house (hp S c) 0 (nI x) (nI kd) = some (v, hp S1 c) ∧ f_X12_house (hp S1 c) 351 (nI x) (nI kd) = some (v, hp S2 c) ∧ S2.1 351 0 = 0 ∧ RR (n + 1) (pj S2) := fun v h1 h2 => ⟨v, S, T0 S, h1, h2, t0, by rw [T0_pj]; exact R.mono (by omega)⟩
  have cls : ∀ {w : Option (Int32 × xa_H)}, (if nI kd = (0 : Int32) then (gR [11] 6 (hp S c) 0).bind fun x5 => (gR [0] 1 (hp S c) x5).bind fun x6 => (aI (hp S c) x6 (nI x)).bind fun x7 => some (x7, hp S c) else if nI kd = (1 : Int32) then (gR [11] 6 (hp S c) 0).bind fun x9 => (gR [0] 2 (hp S c) x9).bind fun x10 => (aI (hp S c) x10 (nI x)).bind fun x11 => some (x11, hp S c) else if nI kd = (2 : Int32) then (gR [11] 6 (hp S c) 0).bind fun x13 => (f_X0_isKept (hp S c) x13 (nI x)).bind fun q14 => if q14 = 0 then some ((0 : Int32), hp S c) else some ((1 : Int32), hp S c) else if nI kd = (3 : Int32) then (gR [11] 6 (hp S c) 0).bind fun x17 => (gR [0] 3 (hp S c) x17).bind fun x18 => (aI (hp S c) x18 (nI x)).bind fun x19 => some (x19, hp S c) else if nI kd = (4 : Int32) then (gR [11] 6 (hp S c) 0).bind fun x21 => (f_X0_incoming (hp S c) x21 (nI x)).bind fun q22 => some (q22, hp S c) else if nI kd = (5 : Int32) then (gR [11] 6 (hp S c) 0).bind fun x24 => (f_X0_outgoing (hp S c) x24 (nI x)).bind fun q25 => some (q25, hp S c) else if nI kd = (6 : Int32) then (f_X11_costOf (hp S c) 0 (nI x)).bind fun q27 => some (q27.1, q27.2) else none) = w → f_X11_house (hp S c) 0 (nI x) (nI kd) = w := fun hw => by
    unfold f_X11_house
    rw [k0, Option.bind_some, g0_6, Option.bind_some, B30.has_in hN h6 hx, Option.bind_some, if_neg (show ¬ (1 : Int32) = 0 by decide)]
    rw [g0_6] at hw
    exact hw
  have t364 : (T0 S).1 364 = S.1 364 := T0_ne (by decide)
  have hT : (T0 S).1 351 26 = nI N' := by rw [T0_351 (by decide)]; exact t3
  rcases (by omega : kd = 0 ∨ kd = 1 ∨ kd = 2 ∨ kd = 3 ∨ kd = 4 ∨ kd = 5 ∨ kd = 6) with rfl | rfl | rfl | rfl | rfl | rfl | rfl
  · refine fin (S.1 364 (36 + x)) (cls ?_) ?_
    · rw [if_pos (show nI 0 = 0 from rfl), g0_6, Option.bind_some, B30.g1, Option.bind_some, B30.a2 hx6, Option.bind_some]
      exact congrArg (fun w => some (w, hp S c)) (tE.2 x hx6)
    · rw [house_ref t3 h6 hx hk, if_pos (show nI 0 = 0 from rfl), g351_32, Option.bind_some, i36, a364 (by omega), Option.bind_some, t364]
  · refine fin (S.1 358 (3 * x + 1)) (cls ?_) ?_
    · rw [if_neg (show ¬ nI 1 = 0 by decide), if_pos (show nI 1 = 1 from rfl), g0_6, Option.bind_some, B30.g2, Option.bind_some, B30.a3 hx6, Option.bind_some]
      exact congrArg (fun w => some (w, hp S c)) (t33 x hx).1
    · rw [house_ref t3 h6 hx hk, if_neg (show ¬ nI 1 = 0 by decide), if_pos (show nI 1 = 1 from rfl), g351_20, Option.bind_some, i358, a358 (by omega), Option.bind_some, T0_ne (by decide)]
  · obtain ⟨m, m1, m2⟩ : ∃ m, m < 2 ^ N' ∧ S.1 364 48 = nI m := by
      obtain ⟨⟨N2, F2, v1, v2, -⟩, -⟩ := R
      obtain ⟨-, -, m, m1, m2⟩ := v2.2.2
      have : S.1 30 4 = nI N2 := v2.1.1
      rw [hN] at this
      have hb := v1.2.1
      rw [← (nI_eq (by omega) (by omega)).mp this] at m1
      exact ⟨m, m1, m2⟩
    have h64 : 2 ^ N' ≤ 64 := Nat.pow_le_pow_right (n := 2) (by decide) h6
    refine fin (bI (m.testBit x)) (cls ?_) ?_
    · rw [if_neg (show ¬ nI 2 = 0 by decide), if_neg (show ¬ nI 2 = 1 by decide), if_pos (show nI 2 = 2 from rfl), g0_6, Option.bind_some, B30.isKept, Option.bind_some, t8, ← t9, m2, kep_bit (by omega) hx6]
      cases m.testBit x <;> rfl
    · rw [house_ref t3 h6 hx hk, if_neg (show ¬ nI 2 = 0 by decide), if_neg (show ¬ nI 2 = 1 by decide), if_pos (show nI 2 = 2 from rfl), g351_32, Option.bind_some, a364n (j := 48) (k := 48) rfl (by decide), Option.bind_some, t364, m2, bit_tab (by omega) hx6]
  · refine fin (S.1 364 (42 + x)) (cls ?_) ?_
    · rw [if_neg (show ¬ nI 3 = 0 by decide), if_neg (show ¬ nI 3 = 1 by decide), if_neg (show ¬ nI 3 = 2 by decide), if_pos (show nI 3 = 3 from rfl), g0_6, Option.bind_some, B30.g3, Option.bind_some, B30.a4 hx6, Option.bind_some]
      exact congrArg (fun w => some (w, hp S c)) (t34 x hx6)
    · rw [house_ref t3 h6 hx hk, if_neg (show ¬ nI 3 = 0 by decide), if_neg (show ¬ nI 3 = 1 by decide), if_neg (show ¬ nI 3 = 2 by decide), if_pos (show nI 3 = 3 from rfl), g351_32, Option.bind_some, i42, a364 (by omega), Option.bind_some, t364]
  · refine fin (sIn (S.1 364) x N') (cls ?_) ?_
    · rw [if_neg (show ¬ nI 4 = 0 by decide), if_neg (show ¬ nI 4 = 1 by decide), if_neg (show ¬ nI 4 = 2 by decide), if_neg (show ¬ nI 4 = 3 by decide), if_pos (show nI 4 = 4 from rfl), g0_6, Option.bind_some, B30.incoming hN h6 hx6, Option.bind_some, sIn_cg hx6 (D := S.1 (30 + 1)) (D' := S.1 364) tE.1 N' h6]
    · rw [house_ref t3 h6 hx hk, if_neg (show ¬ nI 4 = 0 by decide), if_neg (show ¬ nI 4 = 1 by decide), if_neg (show ¬ nI 4 = 2 by decide), if_neg (show ¬ nI 4 = 3 by decide), if_pos (show nI 4 = 4 from rfl), g351_32, Option.bind_some, r_in (Or.inl rfl) hT h6 hx6, Option.bind_some, t364]
  · refine fin (sOut (S.1 364) x N') (cls ?_) ?_
    · rw [if_neg (show ¬ nI 5 = 0 by decide), if_neg (show ¬ nI 5 = 1 by decide), if_neg (show ¬ nI 5 = 2 by decide), if_neg (show ¬ nI 5 = 3 by decide), if_neg (show ¬ nI 5 = 4 by decide), if_pos (show nI 5 = 5 from rfl), g0_6, Option.bind_some, B30.outgoing hN h6 hx6, Option.bind_some, sOut_cg hx6 (D := S.1 (30 + 1)) (D' := S.1 364) tE.1 N' h6]
    · rw [house_ref t3 h6 hx hk, if_neg (show ¬ nI 5 = 0 by decide), if_neg (show ¬ nI 5 = 1 by decide), if_neg (show ¬ nI 5 = 2 by decide), if_neg (show ¬ nI 5 = 3 by decide), if_neg (show ¬ nI 5 = 4 by decide), if_pos (show nI 5 = 5 from rfl), g351_32, Option.bind_some, r_out (Or.inl rfl) hT h6 hx6, Option.bind_some, t364]
  · obtain ⟨S1, e1, e2, e3⟩ := RS.costC (c := c) hN h6 hx
    have R1 : RR n (pj (mg S1 (T0 S1))) := mg_to (e3 S RS) fun a ha => by
      rw [T0_pj]
      exact pj_eq (e2 a (by omega) (by omega))
    have RS1 : RR n (pj (mg S (T0 S1))) := mg_to RS fun a ha => by
      rw [T0_pj]
      exact pj_eq (e2 a (by omega) (by omega))
    obtain ⟨V, f1, f2, f3, f4⟩ := RS1.costR (c := c) hN h6 hx
    have f5 := e3 V f4
    have t01 : (T0 S1).1 351 0 = 0 := by
      unfold T0
      rw [wA_same, upd_same]
    refine ⟨cc S N' x, S1, V, cls ?_, ?_, by rw [f3 0 rfl]; exact t01, (mg_out f5 fun a ha => by rw [f2 a (by omega) (by omega), T0_ne (by omega)]).mono (by omega)⟩
    · rw [if_neg (show ¬ nI 6 = 0 by decide), if_neg (show ¬ nI 6 = 1 by decide), if_neg (show ¬ nI 6 = 2 by decide), if_neg (show ¬ nI 6 = 3 by decide), if_neg (show ¬ nI 6 = 4 by decide), if_neg (show ¬ nI 6 = 5 by decide), if_pos (show nI 6 = 6 from rfl), e1, Option.bind_some]
    · rw [house_ref (by rw [e2 351 (by decide) (by decide)]; exact t3) h6 hx hk, if_neg (show ¬ nI 6 = 0 by decide), if_neg (show ¬ nI 6 = 1 by decide), if_neg (show ¬ nI 6 = 2 by decide), if_neg (show ¬ nI 6 = 3 by decide), if_neg (show ¬ nI 6 = 4 by decide), if_neg (show ¬ nI 6 = 5 by decide), f1, Option.bind_some]
end HOU
