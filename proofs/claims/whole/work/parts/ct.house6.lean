/-! the same, and that nothing is written where the law keeps the answer -/
section COR
variable {S : XS} {c : Nat × Nat} {N x l L : Nat} {q : Int32} {T : Nat → Int32}
theorem r_cost2 (hN : S.1 351 26 = nI N) (h6 : N ≤ 6) (hx : x < N) (hq : S.1 351 35 = q) (hl : q = -1 ∨ (q = nI l ∧ l < 4 ∧ S.1 354 l = nI L ∧ L ≤ 240 ∧ (∀ k, k < L → byR (T k) (S.1 353 (240 * l + k))) ∧ ∃ g, pLaw T L = .inr g)) (hs : ∀ j, j < 6 → smal (rlf S N x j)) : ∃ S', f_X12_cost (hp S c) 351 (nI x) = some (CV q T L (rlf S N x), hp S' c) ∧ (∀ a, a ≠ 351 → a ≠ 355 → S'.1 a = S.1 a) ∧ (∀ k, lk k = false → S'.1 351 k = S.1 351 k) ∧ (S'.1 355 = S.1 355 ∨ ∀ k, k < 6 → S'.1 355 (ltc k) = rlf S N x k) ∧ S'.2.1 = S.2.1 := by
  have hx6 : x < 6 := by omega
  rcases hl with e | ⟨e, hl4, h17, hL, hT, g, hg⟩
  · refine ⟨S, ?_, fun _ _ _ => rfl, fun _ _ => rfl, Or.inl rfl, rfl⟩
    unfold f_X12_cost
    rw [k351, Option.bind_some, g351_35, Option.bind_some, hq, e, if_pos rfl]
    rfl
  · obtain ⟨W, hW⟩ : ∃ W, W = wA S 355 (upd (upd (upd (upd (upd (upd (S.1 355) 105 (sIn (S.1 364) x N)) 111 (sOut (S.1 364) x N)) 116 (S.1 358 (3 * x + 1))) 110 (irem (S.1 364 (42 + x)) 100)) 119 (irem (S.1 364 (36 + x)) 100)) 100 (irem (S.1 364 50) 100)) := ⟨_, rfl⟩
    have W355 : ∀ k, k < 6 → W.1 355 (ltc k) = rlf S N x k := fun k hk => by
      rw [hW, wA_same]
      exact rlfU k hk
    have Wo : ∀ a, a ≠ 355 → W.1 a = S.1 a := fun a ha => by rw [hW, wA_ne ha]
    have hlt : ltS W := fun j => by
      unfold lt
      obtain ⟨k, hk, ek⟩ := ltc_5 (j := j)
      rw [ek, W355 k hk]
      exact hs k hk
    have h := X12_go (S := W) (c := c) (T := T) (tb := 353) (bg := 240 * l) hL s353 (by omega) (by decide) (by decide) hlt (fun k hk => by rw [Wo 353 (by decide)]; exact hT k hk)
    rw [hg] at h
    obtain ⟨F, h1, -, h2, h3⟩ := h
    have eg : g (lt (wT W 351 353)) = g (rlf S N x) := pLaw_dp hg _ _ (fun k hk => by
      show W.1 355 (ltc k) = _
      exact W355 k hk)
    rw [eg] at h2
    refine ⟨wA (wT W 351 353) 351 F, ?_, fun a h1 h2 => ?_, fun k hk => ?_, Or.inr fun k hk => ?_, by rw [hW]; rfl⟩
    · have n26 : ∀ f, (wA S 355 f).1 351 26 = nI N := fun f => by rw [wA_ne (by decide)]; exact hN
      have oo : ∀ f, f_X12_out (hp (wA S 355 f) c) 351 364 (nI x) = some (sOut (S.1 364) x N) := fun f => by rw [r_out (Or.inl rfl) (n26 f) h6 hx6, wA_ne (by decide)]
      have e58 : ∀ f, aI (hp (wA S 355 f) c) 358 (nI (3 * x + 1)) = some (S.1 358 (3 * x + 1)) := fun f => by rw [a358 (by omega), wA_ne (by decide)]
      have e42 : ∀ f, aI (hp (wA S 355 f) c) 364 (nI (42 + x)) = some (S.1 364 (42 + x)) := fun f => by rw [a364 (by omega), wA_ne (by decide)]
      have e36 : ∀ f, aI (hp (wA S 355 f) c) 364 (nI (36 + x)) = some (S.1 364 (36 + x)) := fun f => by rw [a364 (by omega), wA_ne (by decide)]
      have e50 : ∀ f, aI (hp (wA S 355 f) c) 364 (50 : Int32) = some (S.1 364 50) := fun f => by rw [a364n (j := 50) (k := 50) rfl (by decide), wA_ne (by decide)]
      unfold f_X12_cost
      rw [k351, Option.bind_some, g351_35, Option.bind_some, hq, e, if_neg (m1_ne (by omega)), g351_4, Option.bind_some, g351_32, Option.bind_some, r_in (Or.inl rfl) hN h6 hx6, Option.bind_some, q355n (j := 105) (k := 105) rfl (by decide), Option.bind_some, g351_4, Option.bind_some, g351_32, Option.bind_some, oo, Option.bind_some, q355n (j := 111) (k := 111) rfl (by decide), Option.bind_some, wA_wA, wA_same, g351_4, Option.bind_some, g351_20, Option.bind_some, i358, e58, Option.bind_some, q355n (j := 116) (k := 116) rfl (by decide), Option.bind_some, wA_wA, wA_same, g351_4, Option.bind_some, g351_32, Option.bind_some, i42, e42, Option.bind_some, q355n (j := 110) (k := 110) rfl (by decide), Option.bind_some, wA_wA, wA_same, g351_4, Option.bind_some, g351_32, Option.bind_some, i36, e36, Option.bind_some, q355n (j := 119) (k := 119) rfl (by decide), Option.bind_some, wA_wA, wA_same, g351_4, Option.bind_some, g351_32, Option.bind_some, e50, Option.bind_some, q355n (j := 100) (k := 100) rfl (by decide), Option.bind_some, wA_wA, wA_same, ← hW, g351_2, Option.bind_some, g351_35, Option.bind_some, Wo 351 (by decide), hq, e, g351_3, Option.bind_some, Option.bind_some, a354 hl4, Option.bind_some, Wo 354 (by decide), h17, i240, h1, Option.bind_some, g351_14, Option.bind_some, wA_same, h2]
      unfold CV
      rw [if_neg (m1_ne (by omega)), hg]
    · rw [wA_ne h1, wT_1, Wo a h2]
    · rw [wA_same, h3 k hk, wT_1, Wo 351 (by decide)]
    · rw [wA_ne (by decide), wT_1]
      exact W355 k hk
end COR
section CO3
variable {S V S' V' : XS} {c : Nat × Nat} {n N x : Nat}
theorem RR.costR2 (R : RR n (pj (mg S V))) (hN : S.1 30 4 = nI N) (h6 : N ≤ 6) (hx : x < N) : ∃ V0, f_X12_cost (hp V c) 351 (nI x) = some (cc S N x, hp V0 c) ∧ (∀ a, a ≠ 351 → a ≠ 355 → V0.1 a = V.1 a) ∧ (∀ k, lk k = false → V0.1 351 k = V.1 351 k) ∧ RR n (pj (mg S V0)) ∧ V0.2.1 = V.2.1 := by
  obtain ⟨l1, l2⟩ := R.lawS
  obtain ⟨N', lim, kp, W⟩ := R.tw
  have eN : N' = N := by
    have := W.2.2.2.2.2.1
    rw [hN] at this
    have h2 := W.2.1
    exact ((nI_eq (by omega) (by omega)).mp this).symm
  subst eN
  have hs := rlf_sm W hx
  have hc := clf_eq W hx
  have h26 := W.2.2.1
  obtain ⟨V0, e1, e2, e3, e4, e5⟩ : ∃ S', f_X12_cost (hp V c) 351 (nI x) = some (cc S N' x, hp S' c) ∧ (∀ a, a ≠ 351 → a ≠ 355 → S'.1 a = V.1 a) ∧ (∀ k, lk k = false → S'.1 351 k = V.1 351 k) ∧ (S'.1 355 = V.1 355 ∨ ∀ k, k < 6 → S'.1 355 (ltc k) = rlf V N' x k) ∧ S'.2.1 = V.2.1 := by
    unfold cc
    rw [hc]
    rcases l2 with e | ⟨l, nl, L, e, hl, hnl, h16, h17, hL, h354, hb, hg⟩
    · exact r_cost2 (l := 0) h26 h6 hx l1.symm (Or.inl e) hs
    · have et : tn (S.1 0 17) = l := by rw [e, tn_nI (by omega)]
      rw [et, h17, tn_nI (by omega)]
      exact r_cost2 (l := l) h26 h6 hx l1.symm (Or.inr ⟨e, by omega, h354, hL, hb, hg⟩) hs
  refine ⟨V0, e1, e2, e3, ?_, e5⟩
  obtain ⟨s1, s2⟩ := R.ltS
  refine RR_ltr R (fun a h1 h2 => ?_) (fun k hk => ?_) (fun k hk => ?_)
  · by_cases h : a < 351
    · rw [pj_lo h, pj_lo h]
    · rw [pj_hi (by omega), pj_hi (by omega)]
      by_cases h51 : a = 351
      · subst h51
        funext k
        unfold pj
        by_cases q : pers 351 k = true
        · rw [if_pos q, if_pos q, e3 k (lk_pers q)]
        · rw [if_neg q, if_neg q]
      · exact pj_eq (e2 a h51 h2)
  · show smal (S.1 12 k)
    exact s1 k hk
  · rw [pj_hi (by decide), show pj V0 355 = V0.1 355 from pj_cell fun _ => rfl]
    rcases e4 with e | e
    · rw [e]
      exact s2 k hk
    · rw [e k hk]
      exact hs k hk
end CO3
section HOU
variable {S : XS} {c : Nat × Nat} {n : Nat}
theorem house_ok3 (R : RR n (pj S)) {N x kd : Nat} (hN : S.1 30 4 = nI N) (h6 : N ≤ 6) (hx : x < N) (hk : kd < 7) : ∃ v S1, f_X11_house (hp S c) 0 (nI x) (nI kd) = some (v, hp S1 c) ∧ ∀ Sg : XS, Sg.1 = S1.1 → ∃ S2, f_X12_house (hp Sg c) 351 (nI x) (nI kd) = some (v, hp S2 c) ∧ S2.1 351 0 = 0 ∧ RR (n + 1) (pj S2) ∧ S2.2.1 = Sg.2.1 := by
  have RS := mg_in R
  obtain ⟨N', lim, kp, W⟩ := RS.tw
  have eN := W.eqN hN h6
  subst eN
  have Wc := W
  obtain ⟨t1, t2, t3, t4, t5, t6, t7, t8, t9, tE, tV, tZ, t49, tc, t34, t33⟩ := Wc
  have hx6 : x < 6 := by omega
  have t0 : ∀ Z : XS, (T0 Z).1 351 0 = 0 := fun Z => by
    unfold T0
    rw [wA_same, upd_same]
  have pg : ∀ {A B : XS}, A.1 = B.1 → pj A = pj B := fun {A B} h => by unfold pj; rw [h]
  have fin : ∀ v : Int32, f_X11_house (hp S c) 0 (nI x) (nI kd) = some (v, hp S c) → (∀ Sg : XS, Sg.1 = S.1 → f_X12_house (hp Sg c) 351 (nI x) (nI kd) = some (v, hp (T0 Sg) c)) → ∃ v S1, f_X11_house (hp S c) 0 (nI x) (nI kd) = some (v, hp S1 c) ∧ ∀ Sg : XS, Sg.1 = S1.1 → ∃ S2, f_X12_house (hp Sg c) 351 (nI x) (nI kd) = some (v, hp S2 c) ∧ S2.1 351 0 = 0 ∧ RR (n + 1) (pj S2) ∧ S2.2.1 = Sg.2.1 := fun v h1 h2 => ⟨v, S, h1, fun Sg hg => ⟨T0 Sg, h2 Sg hg, t0 Sg, by rw [T0_pj, pg hg]; exact R.mono (by omega), rfl⟩⟩
  have cls : ∀ {w : Option (Int32 × xa_H)}, (if nI kd = (0 : Int32) then (gR [11] 6 (hp S c) 0).bind fun x5 => (gR [0] 1 (hp S c) x5).bind fun x6 => (aI (hp S c) x6 (nI x)).bind fun x7 => some (x7, hp S c) else if nI kd = (1 : Int32) then (gR [11] 6 (hp S c) 0).bind fun x9 => (gR [0] 2 (hp S c) x9).bind fun x10 => (aI (hp S c) x10 (nI x)).bind fun x11 => some (x11, hp S c) else if nI kd = (2 : Int32) then (gR [11] 6 (hp S c) 0).bind fun x13 => (f_X0_isKept (hp S c) x13 (nI x)).bind fun q14 => if q14 = 0 then some ((0 : Int32), hp S c) else some ((1 : Int32), hp S c) else if nI kd = (3 : Int32) then (gR [11] 6 (hp S c) 0).bind fun x17 => (gR [0] 3 (hp S c) x17).bind fun x18 => (aI (hp S c) x18 (nI x)).bind fun x19 => some (x19, hp S c) else if nI kd = (4 : Int32) then (gR [11] 6 (hp S c) 0).bind fun x21 => (f_X0_incoming (hp S c) x21 (nI x)).bind fun q22 => some (q22, hp S c) else if nI kd = (5 : Int32) then (gR [11] 6 (hp S c) 0).bind fun x24 => (f_X0_outgoing (hp S c) x24 (nI x)).bind fun q25 => some (q25, hp S c) else if nI kd = (6 : Int32) then (f_X11_costOf (hp S c) 0 (nI x)).bind fun q27 => some (q27.1, q27.2) else none) = w → f_X11_house (hp S c) 0 (nI x) (nI kd) = w := fun hw => by
    unfold f_X11_house
    rw [k0, Option.bind_some, g0_6, Option.bind_some, B30.has_in hN h6 hx, Option.bind_some, if_neg (show ¬ (1 : Int32) = 0 by decide)]
    rw [g0_6] at hw
    exact hw
  have t364 : ∀ Sg : XS, Sg.1 = S.1 → (T0 Sg).1 364 = S.1 364 := fun Sg hg => by rw [T0_ne (by decide), hg]
  have t358 : ∀ Sg : XS, Sg.1 = S.1 → (T0 Sg).1 358 = S.1 358 := fun Sg hg => by rw [T0_ne (by decide), hg]
  have hT : ∀ Sg : XS, Sg.1 = S.1 → (T0 Sg).1 351 26 = nI N' := fun Sg hg => by rw [T0_351 (by decide), hg]; exact t3
  have t3g : ∀ Sg : XS, Sg.1 = S.1 → Sg.1 351 26 = nI N' := fun Sg hg => by rw [hg]; exact t3
  rcases (by omega : kd = 0 ∨ kd = 1 ∨ kd = 2 ∨ kd = 3 ∨ kd = 4 ∨ kd = 5 ∨ kd = 6) with rfl | rfl | rfl | rfl | rfl | rfl | rfl
  · refine fin (S.1 364 (36 + x)) (cls ?_) ?_
    · rw [if_pos (show nI 0 = 0 from rfl), g0_6, Option.bind_some, B30.g1, Option.bind_some, B30.a2 hx6, Option.bind_some]
      exact congrArg (fun w => some (w, hp S c)) (tE.2 x hx6)
    · intro Sg hg
      rw [house_ref (t3g Sg hg) h6 hx hk, if_pos (show nI 0 = 0 from rfl), g351_32, Option.bind_some, i36, a364 (by omega), Option.bind_some, t364 Sg hg]
  · refine fin (S.1 358 (3 * x + 1)) (cls ?_) ?_
    · rw [if_neg (show ¬ nI 1 = 0 by decide), if_pos (show nI 1 = 1 from rfl), g0_6, Option.bind_some, B30.g2, Option.bind_some, B30.a3 hx6, Option.bind_some]
      exact congrArg (fun w => some (w, hp S c)) (t33 x hx).1
    · intro Sg hg
      rw [house_ref (t3g Sg hg) h6 hx hk, if_neg (show ¬ nI 1 = 0 by decide), if_pos (show nI 1 = 1 from rfl), g351_20, Option.bind_some, i358, a358 (by omega), Option.bind_some, t358 Sg hg]
  · obtain ⟨m, m1, m2⟩ : ∃ m, m < 2 ^ N' ∧ S.1 364 48 = nI m := by
      obtain ⟨⟨N2, F2, v1, v2, -⟩, -⟩ := R
      obtain ⟨-, -, m, m1, m2⟩ := v2.2.2
      have : S.1 30 4 = nI N2 := v2.1.1
      rw [hN] at this
      have hb := v1.2.1
      rw [← (nI_eq (by omega) (by omega)).mp this] at m1
      exact ⟨m, m1, m2⟩
    have h64 : 2 ^ N' ≤ 64 := Nat.pow_le_pow_right (n := 2) (by decide) h6
    refine fin (bI (m.testBit x)) (cls ?_) ?_
    · rw [if_neg (show ¬ nI 2 = 0 by decide), if_neg (show ¬ nI 2 = 1 by decide), if_pos (show nI 2 = 2 from rfl), g0_6, Option.bind_some, B30.isKept, Option.bind_some, t8, ← t9, m2, kep_bit (by omega) hx6]
      cases m.testBit x <;> rfl
    · intro Sg hg
      rw [house_ref (t3g Sg hg) h6 hx hk, if_neg (show ¬ nI 2 = 0 by decide), if_neg (show ¬ nI 2 = 1 by decide), if_pos (show nI 2 = 2 from rfl), g351_32, Option.bind_some, a364n (j := 48) (k := 48) rfl (by decide), Option.bind_some, t364 Sg hg, m2, bit_tab (by omega) hx6]
  · refine fin (S.1 364 (42 + x)) (cls ?_) ?_
    · rw [if_neg (show ¬ nI 3 = 0 by decide), if_neg (show ¬ nI 3 = 1 by decide), if_neg (show ¬ nI 3 = 2 by decide), if_pos (show nI 3 = 3 from rfl), g0_6, Option.bind_some, B30.g3, Option.bind_some, B30.a4 hx6, Option.bind_some]
      exact congrArg (fun w => some (w, hp S c)) (t34 x hx6)
    · intro Sg hg
      rw [house_ref (t3g Sg hg) h6 hx hk, if_neg (show ¬ nI 3 = 0 by decide), if_neg (show ¬ nI 3 = 1 by decide), if_neg (show ¬ nI 3 = 2 by decide), if_pos (show nI 3 = 3 from rfl), g351_32, Option.bind_some, i42, a364 (by omega), Option.bind_some, t364 Sg hg]
  · refine fin (sIn (S.1 364) x N') (cls ?_) ?_
    · rw [if_neg (show ¬ nI 4 = 0 by decide), if_neg (show ¬ nI 4 = 1 by decide), if_neg (show ¬ nI 4 = 2 by decide), if_neg (show ¬ nI 4 = 3 by decide), if_pos (show nI 4 = 4 from rfl), g0_6, Option.bind_some, B30.incoming hN h6 hx6, Option.bind_some, sIn_cg hx6 (D := S.1 (30 + 1)) (D' := S.1 364) tE.1 N' h6]
    · intro Sg hg
      rw [house_ref (t3g Sg hg) h6 hx hk, if_neg (show ¬ nI 4 = 0 by decide), if_neg (show ¬ nI 4 = 1 by decide), if_neg (show ¬ nI 4 = 2 by decide), if_neg (show ¬ nI 4 = 3 by decide), if_pos (show nI 4 = 4 from rfl), g351_32, Option.bind_some, r_in (Or.inl rfl) (hT Sg hg) h6 hx6, Option.bind_some, t364 Sg hg]
  · refine fin (sOut (S.1 364) x N') (cls ?_) ?_
    · rw [if_neg (show ¬ nI 5 = 0 by decide), if_neg (show ¬ nI 5 = 1 by decide), if_neg (show ¬ nI 5 = 2 by decide), if_neg (show ¬ nI 5 = 3 by decide), if_neg (show ¬ nI 5 = 4 by decide), if_pos (show nI 5 = 5 from rfl), g0_6, Option.bind_some, B30.outgoing hN h6 hx6, Option.bind_some, sOut_cg hx6 (D := S.1 (30 + 1)) (D' := S.1 364) tE.1 N' h6]
    · intro Sg hg
      rw [house_ref (t3g Sg hg) h6 hx hk, if_neg (show ¬ nI 5 = 0 by decide), if_neg (show ¬ nI 5 = 1 by decide), if_neg (show ¬ nI 5 = 2 by decide), if_neg (show ¬ nI 5 = 3 by decide), if_neg (show ¬ nI 5 = 4 by decide), if_pos (show nI 5 = 5 from rfl), g351_32, Option.bind_some, r_out (Or.inl rfl) (hT Sg hg) h6 hx6, Option.bind_some, t364 Sg hg]
  · obtain ⟨S1, e1, e2, e3⟩ := RS.costC (c := c) hN h6 hx
    refine ⟨cc S N' x, S1, cls ?_, fun Sg hg => ?_⟩
    · rw [if_neg (show ¬ nI 6 = 0 by decide), if_neg (show ¬ nI 6 = 1 by decide), if_neg (show ¬ nI 6 = 2 by decide), if_neg (show ¬ nI 6 = 3 by decide), if_neg (show ¬ nI 6 = 4 by decide), if_neg (show ¬ nI 6 = 5 by decide), if_pos (show nI 6 = 6 from rfl), e1, Option.bind_some]
    · have eg : ∀ a : Nat, Sg.1 a = S1.1 a := fun a => by rw [hg]
      have RS1 : RR n (pj (mg S (T0 Sg))) := mg_to RS fun a ha => by
        rw [T0_pj, pg hg]
        exact pj_eq (e2 a (by omega) (by omega))
      obtain ⟨V, f1, f2, f3, f4, f6⟩ := RS1.costR2 (c := c) hN h6 hx
      have f5 := e3 V f4
      refine ⟨V, ?_, by rw [f3 0 rfl]; exact t0 Sg, (mg_out f5 fun a ha => by rw [f2 a (by omega) (by omega), T0_ne (by omega), eg]).mono (by omega), f6⟩
      rw [house_ref (by rw [eg, e2 351 (by decide) (by decide)]; exact t3) h6 hx hk, if_neg (show ¬ nI 6 = 0 by decide), if_neg (show ¬ nI 6 = 1 by decide), if_neg (show ¬ nI 6 = 2 by decide), if_neg (show ¬ nI 6 = 3 by decide), if_neg (show ¬ nI 6 = 4 by decide), if_neg (show ¬ nI 6 = 5 by decide), f1, Option.bind_some]
end HOU
