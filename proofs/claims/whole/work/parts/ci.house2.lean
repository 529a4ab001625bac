/-! house once more: what the law keeps of the answer lies between the two calls -/
section HOU
variable {S : XS} {c : Nat × Nat} {n : Nat}
theorem house_ok2 (R : RR n (pj S)) {N x kd : Nat} (hN : S.1 30 4 = nI N) (h6 : N ≤ 6) (hx : x < N) (hk : kd < 7) : ∃ v S1, f_X11_house (hp S c) 0 (nI x) (nI kd) = some (v, hp S1 c) ∧ ∀ Sg : XS, Sg.1 = S1.1 → ∃ S2, f_X12_house (hp Sg c) 351 (nI x) (nI kd) = some (v, hp S2 c) ∧ S2.1 351 0 = 0 ∧ RR (n + 1) (pj S2) := by
  have RS := mg_in R
  obtain ⟨N', lim, kp, W⟩ := RS.tw
  have eN := W.eqN hN h6
  subst eN
  have Wc := W
  obtain ⟨t1, t2, t3, t4, t5, t6, t7, t8, t9, tE, tV, tZ, t49, tc, t34, t33⟩ := Wc
  have hx6 : x < 6 := by omega
  have t0 : ∀ Z : XS, (T0 Z).1 351 0 = 0 := fun Z => by
    unfold T0
    rw [wA_same, upd_same]
  have pg : ∀ {A B : XS}, A.1 = B.1 → pj A = pj B := fun {A B} h => by unfold pj; rw [h]
  have fin : ∀ v : Int32, f_X11_house (hp S c) 0 (nI x) (nI kd) = some (v, hp S c) → (∀ Sg : XS, Sg.1 = S.1 → f_X12_house (hp Sg c) 351 (nI x) (nI kd) = some (v, hp (T0 Sg) c)) → ∃ v S1, f_X11_house (hp S c) 0 (nI x) (nI kd) = some (v, hp S1 c) ∧ ∀ Sg : XS, Sg.1 = S1.1 → ∃ S2, f_X12_house (hp Sg c) 351 (nI x) (nI kd) = some (v, hp S2 c) ∧ S2.1 351 0 = 0 ∧ RR (n + 1) (pj S2) := fun v h1 h2 => ⟨v, S, h1, fun Sg hg => ⟨T0 Sg, h2 Sg hg, t0 Sg, by rw [T0_pj, pg hg]; exact R.mono (by omega)⟩⟩
  have cls : ∀ {w : Option (Int32 × xa_H)}, (if nI kd = (0 : Int32) then (gR [11] 6 (hp S c) 0).bind fun x5 => (gR [0] 1 (hp S c) x5).bind fun x6 => (aI (hp S c) x6 (nI x)).bind fun x7 => some (x7, hp S c) else if nI kd = (1 : Int32) then (gR [11] 6 (hp S c) 0).bind fun x9 => (gR [0] 2 (hp S c) x9).bind fun x10 => (aI (hp S c) x10 (nI x)).bind fun x11 => some (x11, hp S c) else if nI kd = (2 : Int32) then (gR [11] 6 (hp S c) 0).bind fun x13 => (f_X0_isKept (hp S c) x13 (nI x)).bind fun q14 => if q14 = 0 then some ((0 : Int32), hp S c) else some ((1 : Int32), hp S c) else if nI kd = (3 : Int32) then (gR [11] 6 (hp S c) 0).bind fun x17 => (gR [0] 3 (hp S c) x17).bind fun x18 => (aI (hp S c) x18 (nI x)).bind fun x19 => some (x19, hp S c) else if nI kd = (4 : Int32) then (gR [11] 6 (hp S c) 0).bind fun x21 => (f_X0_incoming (hp S c) x21 (nI x)).bind fun q22 => some (q22, hp S c) else if nI kd = (5 : Int32) then (gR [11] 6 (hp S c) 0).bind fun x24 => (f_X0_outgoing (hp S c) x24 (nI x)).bind fun q25 => some (q25, hp S c) else if nI kd = (6 : Int32) then (f_X11_costOf (hp S c) 0 (nI x)).bind fun q27 => some (q27.1, q27.2) else none) = w → f_X11_house (hp S c) 0 (nI x) (nI kd) = w := fun hw => by
    unfold f_X11_house
    rw [k0, Option.bind_some, g0_6, Option.bind_some, B30.has_in hN h6 hx, Option.bind_some, if_neg (show ¬ (1 : Int32) = 0 by decide)]
    rw [g0_6] at hw
    exact hw
  have t364 : ∀ Sg : XS, Sg.1 = S.1 → (T0 Sg).1 364 = S.1 364 := fun Sg hg => by rw [T0_ne (by decide), hg]
  have t358 : ∀ Sg : XS, Sg.1 = S.1 → (T0 Sg).1 358 = S.1 358 := fun Sg hg => by rw [T0_ne (by decide), hg]
  have hT : ∀ Sg : XS, Sg.1 = S.1 → (T0 Sg).1 351 26 = nI N' := fun Sg hg => by rw [T0_351 (by decide), hg]; exact t3
  have t3g : ∀ Sg : XS, Sg.1 = S.1 → Sg.1 351 26 = nI N' := fun Sg hg => by rw [hg]; exact t3
  rcases (by omega : kd = 0 ∨ kd = 1 ∨ kd = 2 ∨ kd = 3 ∨ kd = 4 ∨ kd = 5 ∨ kd = 6) with rfl | rfl | rfl | rfl | rfl | rfl | rfl
  · refine fin (S.1 364 (36 + x)) (cls ?_) ?_
    · rw [if_pos (show nI 0 = 0 from rfl), g0_6, Option.bind_some, B30.g1, Option.bind_some, B30.a2 hx6, Option.bind_some]
      exact congrArg (fun w => some (w, hp S c)) (tE.2 x hx6)
    · intro Sg hg
      rw [house_ref (t3g Sg hg) h6 hx hk, if_pos (show nI 0 = 0 from rfl), g351_32, Option.bind_some, i36, a364 (by omega), Option.bind_some, t364 Sg hg]
  · refine fin (S.1 358 (3 * x + 1)) (cls ?_) ?_
    · rw [if_neg (show ¬ nI 1 = 0 by decide), if_pos (show nI 1 = 1 from rfl), g0_6, Option.bind_some, B30.g2, Option.bind_some, B30.a3 hx6, Option.bind_some]
      exact congrArg (fun w => some (w, hp S c)) (t33 x hx).1
    · intro Sg hg
      rw [house_ref (t3g Sg hg) h6 hx hk, if_neg (show ¬ nI 1 = 0 by decide), if_pos (show nI 1 = 1 from rfl), g351_20, Option.bind_some, i358, a358 (by omega), Option.bind_some, t358 Sg hg]
  · obtain ⟨m, m1, m2⟩ : ∃ m, m < 2 ^ N' ∧ S.1 364 48 = nI m := by
      obtain ⟨⟨N2, F2, v1, v2, -⟩, -⟩ := R
      obtain ⟨-, -, m, m1, m2⟩ := v2.2.2
      have : S.1 30 4 = nI N2 := v2.1.1
      rw [hN] at this
      have hb := v1.2.1
      rw [← (nI_eq (by omega) (by omega)).mp this] at m1
      exact ⟨m, m1, m2⟩
    have h64 : 2 ^ N' ≤ 64 := Nat.pow_le_pow_right (n := 2) (by decide) h6
    refine fin (bI (m.testBit x)) (cls ?_) ?_
    · rw [if_neg (show ¬ nI 2 = 0 by decide), if_neg (show ¬ nI 2 = 1 by decide), if_pos (show nI 2 = 2 from rfl), g0_6, Option.bind_some, B30.isKept, Option.bind_some, t8, ← t9, m2, kep_bit (by omega) hx6]
      cases m.testBit x <;> rfl
    · intro Sg hg
      rw [house_ref (t3g Sg hg) h6 hx hk, if_neg (show ¬ nI 2 = 0 by decide), if_neg (show ¬ nI 2 = 1 by decide), if_pos (show nI 2 = 2 from rfl), g351_32, Option.bind_some, a364n (j := 48) (k := 48) rfl (by decide), Option.bind_some, t364 Sg hg, m2, bit_tab (by omega) hx6]
  · refine fin (S.1 364 (42 + x)) (cls ?_) ?_
    · rw [if_neg (show ¬ nI 3 = 0 by decide), if_neg (show ¬ nI 3 = 1 by decide), if_neg (show ¬ nI 3 = 2 by decide), if_pos (show nI 3 = 3 from rfl), g0_6, Option.bind_some, B30.g3, Option.bind_some, B30.a4 hx6, Option.bind_some]
      exact congrArg (fun w => some (w, hp S c)) (t34 x hx6)
    · intro Sg hg
      rw [house_ref (t3g Sg hg) h6 hx hk, if_neg (show ¬ nI 3 = 0 by decide), if_neg (show ¬ nI 3 = 1 by decide), if_neg (show ¬ nI 3 = 2 by decide), if_pos (show nI 3 = 3 from rfl), g351_32, Option.bind_some, i42, a364 (by omega), Option.bind_some, t364 Sg hg]
  · refine fin (sIn (S.1 364) x N') (cls ?_) ?_
    · rw [if_neg (show ¬ nI 4 = 0 by decide), if_neg (show ¬ nI 4 = 1 by decide), if_neg (show ¬ nI 4 = 2 by decide), if_neg (show ¬ nI 4 = 3 by decide), if_pos (show nI 4 = 4 from rfl), g0_6, Option.bind_some, B30.incoming hN h6 hx6, Option.bind_some, sIn_cg hx6 (D := S.1 (30 + 1)) (D' := S.1 364) tE.1 N' h6]
    · intro Sg hg
      rw [house_ref (t3g Sg hg) h6 hx hk, if_neg (show ¬ nI 4 = 0 by decide), if_neg (show ¬ nI 4 = 1 by decide), if_neg (show ¬ nI 4 = 2 by decide), if_neg (show ¬ nI 4 = 3 by decide), if_pos (show nI 4 = 4 from rfl), g351_32, Option.bind_some, r_in (Or.inl rfl) (hT Sg hg) h6 hx6, Option.bind_some, t364 Sg hg]
  · refine fin (sOut (S.1 364) x N') (cls ?_) ?_
    · rw [if_neg (show ¬ nI 5 = 0 by decide), if_neg (show ¬ nI 5 = 1 by decide), if_neg (show ¬ nI 5 = 2 by decide), if_neg (show ¬ nI 5 = 3 by decide), if_neg (show ¬ nI 5 = 4 by decide), if_pos (show nI 5 = 5 from rfl), g0_6, Option.bind_some, B30.outgoing hN h6 hx6, Option.bind_some, sOut_cg hx6 (D := S.1 (30 + 1)) (D' := S.1 364) tE.1 N' h6]
    · intro Sg hg
      rw [house_ref (t3g Sg hg) h6 hx hk, if_neg (show ¬ nI 5 = 0 by decide), if_neg (show ¬ nI 5 = 1 by decide), if_neg (show ¬ nI 5 = 2 by decide), if_neg (show ¬ nI 5 = 3 by decide), if_neg (show ¬ nI 5 = 4 by decide), if_pos (show nI 5 = 5 from rfl), g351_32, Option.bind_some, r_out (Or.inl rfl) (hT Sg hg) h6 hx6, Option.bind_some, t364 Sg hg]
  · obtain ⟨S1, e1, e2, e3⟩ := RS.costC (c := c) hN h6 hx
    refine ⟨cc S N' x, S1, cls ?_, fun Sg hg => ?_⟩
    · rw [if_neg (show ¬ nI 6 = 0 by decide), if_neg (show ¬ nI 6 = 1 by decide), if_neg (show ¬ nI 6 = 2 by decide), if_neg (show ¬ nI 6 = 3 by decide), if_neg (show ¬ nI 6 = 4 by decide), if_neg (show ¬ nI 6 = 5 by decide), if_pos (show nI 6 = 6 from rfl), e1, Option.bind_some]
    · have eg : ∀ a : Nat, Sg.1 a = S1.1 a := fun a => by rw [hg]
      have RS1 : RR n (pj (mg S (T0 Sg))) := mg_to RS fun a ha => by
        rw [T0_pj, pg hg]
        exact pj_eq (e2 a (by omega) (by omega))
      obtain ⟨V, f1, f2, f3, f4⟩ := RS1.costR (c := c) hN h6 hx
      have f5 := e3 V f4
      refine ⟨V, ?_, by rw [f3 0 rfl]; exact t0 Sg, (mg_out f5 fun a ha => by rw [f2 a (by omega) (by omega), T0_ne (by omega), eg]).mono (by omega)⟩
      rw [house_ref (by rw [eg, e2 351 (by decide) (by decide)]; exact t3) h6 hx hk, if_neg (show ¬ nI 6 = 0 by decide), if_neg (show ¬ nI 6 = 1 by decide), if_neg (show ¬ nI 6 = 2 by decide), if_neg (show ¬ nI 6 = 3 by decide), if_neg (show ¬ nI 6 = 4 by decide), if_neg (show ¬ nI 6 = 5 by decide), f1, Option.bind_some]
/-- when it throws: the class's own test -/
theorem house_has (R : RR n (pj S)) {N : Nat} (hN : S.1 30 4 = nI N) (h6 : N ≤ 6) {x k : Int32} (h : inN N x = false ∨ inN 7 k = false) : ∃ q2, f_X0_has (hp S c) 30 x = some q2 ∧ (q2 = 0 ∨ (¬ q2 = 0 ∧ ¬ k = 0 ∧ ¬ k = 1 ∧ ¬ k = 2 ∧ ¬ k = 3 ∧ ¬ k = 4 ∧ ¬ k = 5 ∧ ¬ k = 6)) := by
  refine ⟨bI (inN N x), has_b B30 hN h6 x, ?_⟩
  cases q1 : inN N x with
  | false => exact Or.inl rfl
  | true =>
    refine Or.inr ⟨by decide, ?_⟩
    have q2 : inN 7 k = false := h.resolve_left (fun z => by rw [q1] at z; cases z)
    refine ⟨?_, ?_, ?_, ?_, ?_, ?_, ?_⟩ <;> (intro z; rw [z] at q2; revert q2; decide)
end HOU
