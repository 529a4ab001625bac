/-! a year -/
section YR2
variable {S V V0 : XS} {c : Nat × Nat} {n N : Nat} {x : Int64}
theorem hstir (h : xa_H) (x : Int64) : f_X11_stir h x = some (stir x) := rfl
theorem c_drawn10 {h : xa_H} : f_X11_drawn h x (10 : Int32) = some (nI (dr x 10)) := c_drawn (j := 10) (by decide) (by decide)
theorem r_draw10 (hx : V.2.1 351 41 = x) : f_X12_draw (hp V c) 351 (10 : Int32) = some (nI (dr (stir x) 10), hp (wL V 351 (vp_updL (V.2.1 351) 41 (stir x))) c) := r_draw (j := 10) (by decide) (by decide) hx
theorem yrB (R0 : RR n (pj (mg S V0))) (hN : S.1 30 4 = nI N) (h6 : N ≤ 6) (h0 : 0 < N) : ∃ S' x', f_X11_pass_b47 (hp S c) 0 x = some (x', hp S' c) ∧ (∀ a, a ≠ 31 → S'.1 a = S.1 a) ∧ ∀ V, RR n (pj (mg S V)) → V.2.1 351 41 = x → ∃ V', (∀ kk l1 l4, f_X12_years_b98 kk (hp V c) 351 l1 l4 = kk (hp V' c) 351 l1 (l4 + 1)) ∧ V'.2.1 351 41 = x' ∧ (∀ a, a ≠ 364 → V'.1 a = V.1 a) ∧ RR n (pj (mg S' V')) := by
  have hg : ∀ V, RR n (pj (mg S V)) → V.1 351 36 = S.1 0 18 := fun V R => R.2.2.2.2.1.symm
  have h26 : ∀ V, RR n (pj (mg S V)) → V.1 351 26 = nI N := fun V R => by
    obtain ⟨N', lim, kp, W⟩ := R.tw
    have eN := W.eqN hN h6
    subst eN
    exact W.2.2.1
  by_cases hd : S.1 0 18 ≤ nI (dr (stir x) 10)
  · refine ⟨S, stir x, ?_, fun _ _ => rfl, fun V R hV => ⟨wL V 351 (vp_updL (V.2.1 351) 41 (stir x)), fun kk l1 l4 => ?_, ?_, fun _ _ => rfl, R⟩⟩
    · unfold f_X11_pass_b47 f_X11_pass_b113
      rw [hstir, Option.bind_some, c_drawn10, Option.bind_some, g0_18, Option.bind_some, if_pos hd]
    · unfold f_X12_years_b98 f_X12_years_b142
      rw [r_draw10 hV, Option.bind_some, g351_36, Option.bind_some, wL_1, hg V R, if_pos hd]
    · rw [wL_same, updL_same]
  · have a6 : dr (stir (stir x)) N < 6 := Nat.lt_of_lt_of_le (dr_lt h0) h6
    have b6 : dr (stir (stir (stir x))) N < 6 := Nat.lt_of_lt_of_le (dr_lt h0) h6
    refine ⟨wA S 31 (sdF (S.1 31) (dr (stir (stir x)) N) (dr (stir (stir (stir x))) N) 0), stir (stir (stir x)), ?_, fun a ha => wA_ne ha, fun V R hV => ⟨wA (wL (wL (wL V 351 (vp_updL (V.2.1 351) 41 (stir x))) 351 (vp_updL ((wL V 351 (vp_updL (V.2.1 351) 41 (stir x))).2.1 351) 41 (stir (stir x)))) 351 (vp_updL ((wL (wL V 351 (vp_updL (V.2.1 351) 41 (stir x))) 351 (vp_updL ((wL V 351 (vp_updL (V.2.1 351) 41 (stir x))).2.1 351) 41 (stir (stir x)))).2.1 351) 41 (stir (stir (stir x))))) 364 (sdF (V.1 364) (dr (stir (stir x)) N) (dr (stir (stir (stir x))) N) 0), fun kk l1 l4 => ?_, ?_, fun a ha => wA_ne ha, ?_⟩⟩
    · unfold f_X11_pass_b47 f_X11_pass_b113
      rw [hstir, Option.bind_some, c_drawn10, Option.bind_some, g0_18, Option.bind_some, if_neg hd, hstir, Option.bind_some, g0_6, Option.bind_some, B30.g4, Option.bind_some, hN, c_drawn h0 (by omega), Option.bind_some, hstir, Option.bind_some, Option.bind_some, B30.g4, Option.bind_some, hN, c_drawn h0 (by omega), Option.bind_some, Option.bind_some, B30.setDebt a6 b6, Option.bind_some]
      rfl
    · unfold f_X12_years_b98 f_X12_years_b142
      rw [r_draw10 hV, Option.bind_some, g351_36, Option.bind_some, wL_1, hg V R, if_neg hd, g351_26, Option.bind_some, wL_1, h26 V R, r_draw (x := stir x) h0 (by omega) (by rw [wL_same, updL_same]), Option.bind_some, g351_26, Option.bind_some, wL_1, wL_1, h26 V R, r_draw (x := stir (stir x)) h0 (by omega) (by rw [wL_same, updL_same]), Option.bind_some, g351_32, Option.bind_some, r_clears a6 b6, Option.bind_some]
      rfl
    · rw [wA_2, wL_same, updL_same]
    · exact RR_clear (V := V) R hN h6 (dr_lt h0) (dr_lt h0)
/-- remembering alone -/
theorem rem_pair (R0 : RR n (pj (mg S V0))) : ∃ q A S1, q < 40 ∧ f_X3_remember (hp S c) 49 30 = some (hp S1 c) ∧ rmC S S1 q A ∧ S.1 49 3 = nI q ∧ S.1 49 4 = nI A ∧ A ≤ 40 ∧ ∀ V, RR n (pj (mg S V)) → ∃ V1, f_X12_remember (hp V c) 351 = some (hp V1 c) ∧ V1.2 = V.2 ∧ rmR V V1 A ∧ RR n (pj (mg S1 V1)) := by
  obtain ⟨q, A, S1, hq, e1, rc, h3, h4, hA⟩ := R0.memC (c := c)
  refine ⟨q, A, S1, hq, e1, rc, h3, h4, hA, fun V R => ?_⟩
  obtain ⟨V1, f1, f2, rr⟩ := R.memR (c := c) h4 hA
  refine ⟨V1, f1, f2, rr, ?_⟩
  obtain ⟨⟨N, F, v1, v2, v3, ⟨A', q', cr', v4⟩, v5, m, v6⟩, rest⟩ := R
  have R : RR n (pj (mg S V)) := ⟨⟨N, F, v1, v2, v3, ⟨A', q', cr', v4⟩, v5, m, v6⟩, rest⟩
  have hA' := v4.1
  have hq' := v4.2.1
  have b4 : S.1 49 4 = nI A' := v4.2.2.2.1
  have b3 : S.1 49 3 = nI q' := v4.2.2.2.2.1
  rw [h4] at b4
  rw [h3] at b3
  have x1 := (nI_eq (by omega) (by omega)).mp b4
  have x2 := (nI_eq (by omega) (by omega)).mp b3
  subst x1 x2
  have i46 : S1.1 46 = S.1 46 := rc.2.2 46 (by decide) (by omega)
  have i47 : S1.1 47 = S.1 47 := rc.2.2 47 (by decide) (by omega)
  have i48 : S1.1 48 = S.1 48 := rc.2.2 48 (by decide) (by omega)
  have lo : ∀ a, 30 ≤ a → a < 35 → pj (mg S1 V1) a = pj (mg S V) a := fun a h1 h2 => by
    rw [pj_lo (by omega), pj_lo (by omega)]
    exact pj_eq (rc.2.2 a (by omega) (by omega))
  have hi : ∀ a, 351 < a → a ≠ 369 → pj (mg S1 V1) a = pj (mg S V) a := fun a h1 h2 => by
    rw [pj_hi (by omega), pj_hi (by omega)]
    exact pj_eq (rr.2.1 a (by omega) h2)
  refine mg_act (c' := cr' A) (q := q) (A := A) (cr := cr') (m := m) (S1 := S1) (V1 := V1) R v1 v2 v3 v4 v5 v6 rc rr (fun _ _ _ _ => rfl) (fun _ _ _ => rfl) ?_ ?_ (Nat.le_refl _) (by omega) ?_
  · exact v2.cg (lo 30 (by decide) (by decide)) (lo 31 (by decide) (by decide)) (lo 32 (by decide) (by decide)) (lo 33 (by decide) (by decide)) (lo 34 (by decide) (by decide)) (hi 364 (by decide) (by decide)) (congrFun (hi 356 (by decide) (by decide)) 1) (hi 358 (by decide) (by decide))
  · rw [i46, i47, i48, rr.2.1 364 (by decide) (by decide)]
    exact v4.2.2.2.2.2.1
  · intro row c0 _ _ h
    rw [i46, i47, i48]
    exact h
def ryB (kk : xa_H → Nat → Int32 → Int32 → Option (Int32 × xa_H)) (h : xa_H) (l1 l4 : Int32) : Option (Int32 × xa_H) := (f_X12_remember h 351).bind fun q4 => (gI [12] 26 q4 351).bind fun x5 => (f_X12_draw q4 351 x5).bind fun q6 => (gR [12] 32 q6.2 351).bind fun x7 => (f_X12_can q6.2 351 x7 q6.1).bind fun q8 => if q8.1 = 0 then f_X12_years_b98 kk q8.2 351 l1 l4 else (gR [12] 32 q8.2 351).bind fun x10 => (f_X12_crosses q8.2 351 x10 q6.1).bind fun q11 => (f_X12_tells q11 351 q6.1).bind fun q12 => f_X12_years_b98 kk q12 351 l1 l4
theorem yr_pair {cN : Nat} (R0 : RR n (pj (mg S V0))) (hN : S.1 30 4 = nI N) (h6 : N ≤ 6) (h0 : 0 < N) (h8 : S.1 30 8 = nI cN) (hcr : cN < 9999) : ∃ S' x' cN', f_X11_pass (hp S c) 0 x = some (x', hp S' c) ∧ (∀ a, a < 30 ∨ 351 ≤ a → S'.1 a = S.1 a) ∧ S'.1 30 4 = nI N ∧ S'.1 30 8 = nI cN' ∧ cN' ≤ cN + 1 ∧ ∀ V, RR n (pj (mg S V)) → V.2.1 351 41 = x → ∃ V', (∀ kk l1 l4, ryB kk (hp V c) l1 l4 = kk (hp V' c) 351 l1 (l4 + 1)) ∧ V'.2.1 351 41 = x' ∧ (∀ a, a < 351 → V'.1 a = V.1 a) ∧ RR n (pj (mg S' V')) := by
  have hd : dr (stir x) N < N := dr_lt h0
  have hd6 : dr (stir x) N < 6 := by omega
  obtain ⟨q, A, S1, hq, e1, rc, h3, h4, hA, e2⟩ := rem_pair (c := c) R0
  obtain ⟨V01, -, -, -, R01⟩ := e2 V0 R0
  obtain ⟨N', lim, kp, W⟩ := R01.tw
  have i30 : S1.1 30 = S.1 30 := rc.2.2 30 (by decide) (by omega)
  have hN1 : S1.1 30 4 = nI N := by rw [i30]; exact hN
  have h81 : S1.1 30 8 = nI cN := by rw [i30]; exact h8
  have fS1 : ∀ a, a < 30 ∨ 351 ≤ a → S1.1 a = S.1 a := fun a ha => rc.2.2 a (by omega) (by omega)
  have eN := (W.eqN hN1 h6).symm
  subst eN
  have VB0 : Vb lim (S1.1 31, S1.1 32) := Vb_congr W.2.2.2.2.2.2.2.2.2.1 W.2.2.2.2.2.2.2.2.2.2.1
  have hlim : S1.1 30 5 = lim := W.2.2.2.2.2.2.1
  have hct : f_X0_canTurn (hp S1 c) 30 (nI (dr (stir x) N)) = some (bI (can N (S1.1 30 6) (S1.1 30 5) (S1.1 31, S1.1 32) (dr (stir x) N))) := by
    rw [B30.canTurn hN1 h6 hd]
    unfold can
    rw [decide_eq_true hd]
    rfl
  have pass1 : f_X11_pass (hp S c) 0 x = if bI (can N (S1.1 30 6) (S1.1 30 5) (S1.1 31, S1.1 32) (dr (stir x) N)) = 0 then f_X11_pass_b47 (hp S1 c) 0 (stir x) else (f_X11_crossAndLog (hp S1 c) 0 (nI (dr (stir x) N))).bind fun q11 => f_X11_pass_b47 q11 0 (stir x) := by
    unfold f_X11_pass
    rw [k0, Option.bind_some, g0_10, Option.bind_some, g0_6, Option.bind_some, e1, Option.bind_some, hstir, Option.bind_some, g0_6, Option.bind_some, B30.g4, Option.bind_some, hN1, c_drawn h0 (by omega), Option.bind_some, Option.bind_some, hct, Option.bind_some]
  -- the reference up to its first draw
  have ref1 : ∀ V, RR n (pj (mg S V)) → V.2.1 351 41 = x → ∃ V1 g, V1.1 = V1.1 ∧ rmR V V1 A ∧ RR n (pj (mg S1 V1)) ∧ (wA (wL V1 351 (vp_updL (V1.2.1 351) 41 (stir x))) 367 g).2.1 351 41 = stir x ∧ RR n (pj (mg S1 (wA (wL V1 351 (vp_updL (V1.2.1 351) 41 (stir x))) 367 g))) ∧ ∀ kk l1 l4, ryB kk (hp V c) l1 l4 = if bI (can N (S1.1 30 6) (S1.1 30 5) (S1.1 31, S1.1 32) (dr (stir x) N)) = 0 then f_X12_years_b98 kk (hp (wA (wL V1 351 (vp_updL (V1.2.1 351) 41 (stir x))) 367 g) c) 351 l1 l4 else (f_X12_crosses (hp (wA (wL V1 351 (vp_updL (V1.2.1 351) 41 (stir x))) 367 g) c) 351 364 (nI (dr (stir x) N))).bind fun q11 => (f_X12_tells q11 351 (nI (dr (stir x) N))).bind fun q12 => f_X12_years_b98 kk q12 351 l1 l4 := fun V R hV => by
    obtain ⟨V1, f1, f2, rr, R1⟩ := e2 V R
    have x1 : V1.2.1 351 41 = x := by rw [f2]; exact hV
    have R1w : RR n (pj (mg S1 (wL V1 351 (vp_updL (V1.2.1 351) 41 (stir x))))) := R1
    obtain ⟨g, f3, f4⟩ := can_r (c := c) (x := dr (stir x) N) R1w hN1 h6 (by omega)
    refine ⟨V1, g, rfl, rr, R1, by rw [wA_2, wL_same, updL_same], f4, fun kk l1 l4 => ?_⟩
    obtain ⟨N', lim, kp, W⟩ := R1.tw
    have eN := (W.eqN hN1 h6).symm
    subst eN
    unfold ryB
    rw [f1, Option.bind_some, g351_26, Option.bind_some, W.2.2.1, r_draw (x := x) h0 (by omega) x1, Option.bind_some, g351_32, Option.bind_some, f3, Option.bind_some]
    cases can N (S1.1 30 6) (S1.1 30 5) (S1.1 31, S1.1 32) (dr (stir x) N) with
    | false => rw [if_pos (show bI false = 0 from rfl), if_pos (show bI false = 0 from rfl)]
    | true => rw [if_neg (show ¬ bI true = 0 by decide), if_neg (show ¬ bI true = 0 by decide), g351_32, Option.bind_some]
  cases hc : can N (S1.1 30 6) (S1.1 30 5) (S1.1 31, S1.1 32) (dr (stir x) N) with
  | false =>
    rw [hc, if_pos (show bI false = 0 from rfl)] at pass1
    obtain ⟨S', x', b1, b2, b3⟩ := yrB (c := c) (x := stir x) R01 hN1 h6 h0
    refine ⟨S', x', cN, pass1.trans b1, fun a ha => ?_, ?_, ?_, by omega, fun V R hV => ?_⟩
    · rw [b2 a (by omega), fS1 a ha]
    · rw [b2 30 (by decide)]; exact hN1
    · rw [b2 30 (by decide)]; exact h81
    · obtain ⟨V1, g, -, rr, R1, g1, g2, g3⟩ := ref1 V R hV
      obtain ⟨V', d1, d2, d3, d4⟩ := b3 _ g2 g1
      refine ⟨V', fun kk l1 l4 => ?_, d2, fun a ha => ?_, d4⟩
      · rw [g3, hc, if_pos (show bI false = 0 from rfl)]
        exact d1 kk l1 l4
      · rw [d3 a (by omega), wA_ne (by omega), wL_1, rr.2.1 a (by omega) (by omega)]
  | true =>
    rw [hc, if_neg (show ¬ bI true = 0 by decide)] at pass1
    obtain ⟨S2, k1, cC, c33⟩ := c_crossLog (S := S1) (c := c) (N := N) (x := dr (stir x) N) (cr := cN) (kp := S1.1 30 6) (lim := lim) hN1 h6 VB0 (by rw [← hlim]; exact hc) hcr h81
    have fS2 : ∀ a, a < 30 ∨ 351 ≤ a → S2.1 a = S.1 a := fun a ha => by rw [cC.2.2.2.2.2.2.2 a (by omega) (by omega), fS1 a ha]
    have hN2 : S2.1 30 4 = nI N := by rw [cC.2.2.2.1, upd_ne (by decide)]; exact hN1
    have h82 : S2.1 30 8 = nI (cN + 1) := by rw [cC.2.2.2.1, upd_same]
    -- the reference's crossing
    have ref2 : ∀ V, RR n (pj (mg S V)) → V.2.1 351 41 = x → ∃ V', (∀ kk l1 l4, ryB kk (hp V c) l1 l4 = f_X12_years_b98 kk (hp V' c) 351 l1 l4) ∧ V'.2.1 351 41 = stir x ∧ (∀ a, a < 351 → V'.1 a = V.1 a) ∧ RR n (pj (mg S2 V')) := fun V R hV => by
      obtain ⟨V1, g, -, rr, R1, g1, g2, g3⟩ := ref1 V R hV
      have w364 : (wA (wL V1 351 (vp_updL (V1.2.1 351) 41 (stir x))) 367 g).1 364 = V.1 364 := by rw [wA_ne (by decide), wL_1, rr.2.1 364 (by decide) (by decide)]
      have wpj : ∀ a, pj (wA (wL V1 351 (vp_updL (V1.2.1 351) 41 (stir x))) 367 g) a = pj V1 a := fun a => by
        by_cases e : a = 367
        · subst e
          exact pj_no sc367
        · exact pj_eq (wA_ne e)
      have wlo : ∀ a, a < 351 → (wA (wL V1 351 (vp_updL (V1.2.1 351) 41 (stir x))) 367 g).1 a = V.1 a := fun a ha => by rw [wA_ne (by omega), wL_1, rr.2.1 a (by omega) (by omega)]
      generalize wA (wL V1 351 (vp_updL (V1.2.1 351) 41 (stir x))) 367 g = V2 at g1 g2 g3 w364 wpj wlo
      obtain ⟨N', lim', kp', W⟩ := g2.tw
      have eN := (W.eqN hN1 h6).symm
      subst eN
      obtain ⟨t1, t2, t3, t4, t5, t6, t7, t8, t9, tE, tV, tZ, t49, ⟨cr, u1, u2, u3, u4⟩, t34, t33⟩ := W
      have ecr : cr = cN := by
        rw [h81] at u2
        exact ((nI_eq (by omega) (by omega)).mp u2).symm
      subst ecr
      have hc2 : can N (V2.1 364 48) (V2.1 356 1) (rwB (V2.1 364)) (dr (stir x) N) = true := by
        rw [t9, t4, can_congr h6 tE.symm, ← t8, ← t7]
        exact hc
      obtain ⟨g', h1⟩ := r_crosses (S := V2) (c := c) (a := 364) (x := dr (stir x) N) (Or.inl rfl) t3 h6 hd tV.1 tV.2.2
      obtain ⟨V3, hV3⟩ : ∃ V3, V3 = wA (wA V2 367 g') 364 (crR N (V2.1 364) (dr (stir x) N)) := ⟨_, rfl⟩
      rw [← hV3] at h1
      have k364 : V3.1 364 = crR N (V2.1 364) (dr (stir x) N) := by rw [hV3, wA_same]
      have ko : ∀ a, a ≠ 364 → a ≠ 367 → V3.1 a = V2.1 a := fun a h1 h2 => by rw [hV3, wA_ne h1, wA_ne h2]
      have k2 : V3.2 = V2.2 := by rw [hV3, wA_2, wA_2]
      have z3 : Zo N (V3.1 364) := by
        rw [k364]
        exact Zo_congr (D := crR N (V2.1 364) (dr (stir x) N)) (crR_rw (N := N) (row := V2.1 364) hd6).1 (Zo_crs (Q := rwB (V2.1 364)) tZ)
      obtain ⟨st, row', h2, U⟩ := r_tells (S := V3) (c := c) (x := dr (stir x) N) (m := min cr 60) (by rw [ko 351 (by decide) (by decide)]; exact t3) h6 (by rw [k364, crR_far (by decide) (by decide) hd6]; exact u4) (Nat.min_le_right _ _) z3
      rw [k364] at U
      refine ⟨wA (wA V3 368 st) 364 row', fun kk l1 l4 => ?_, ?_, fun a ha => ?_, ?_⟩
      · rw [g3, hc, if_neg (show ¬ bI true = 0 by decide), h1, Option.bind_some, h2, Option.bind_some]
      · rw [wA_2, wA_2, k2]
        exact g1
      · rw [wA_ne (by omega), wA_ne (by omega), ko a (by omega) (by omega), wlo a ha]
      · obtain ⟨⟨N3, F, v1, v2, v3, ⟨A', q', cr', v4⟩, v5, m, v6⟩, rest⟩ := R
        have R : RR n (pj (mg S V)) := ⟨⟨N3, F, v1, v2, v3, ⟨A', q', cr', v4⟩, v5, m, v6⟩, rest⟩
        have hA' := v4.1
        have hq' := v4.2.1
        have b4 : S.1 49 4 = nI A' := v4.2.2.2.1
        have b3 : S.1 49 3 = nI q' := v4.2.2.2.2.1
        rw [h4] at b4
        rw [h3] at b3
        have x1 := (nI_eq (by omega) (by omega)).mp b4
        have x2 := (nI_eq (by omega) (by omega)).mp b3
        subst x1 x2
        have h63 := v1.2.1
        have x3 : N = N3 := by
          have : S.1 30 4 = nI N3 := v2.1.1
          rw [hN] at this
          exact (nI_eq (by omega) (by omega)).mp this
        subst x3
        have x4 : cr' A = cr := by
          have l2 := v4.2.2.2.2.2.1.2.1
          have l1 : V.1 364 50 = nI (cr' A) := v4.2.2.2.2.2.1.1
          rw [← w364, u3] at l1
          exact ((nI_eq (by omega) (by omega)).mp l1).symm
        have lo : ∀ a, 30 ≤ a → a < 35 → pj (mg S1 V2) a = pj (mg S V) a := fun a h1 h2 => by
          rw [pj_lo (by omega), pj_lo (by omega)]
          exact pj_eq (rc.2.2 a (by omega) (by omega))
        have hi : ∀ a, 351 < a → a ≠ 369 → pj (mg S1 V2) a = pj (mg S V) a := fun a h1 h2 => by
          rw [pj_hi (by omega), pj_hi (by omega), wpj a]
          exact pj_eq (rr.2.1 a (by omega) h2)
        refine cr_end (S := S) (V := V) (S1 := S1) (S2 := S1) (V1 := V1) (V2 := V2) (V3 := V3) (x := dr (stir x) N) (row' := row') R v1 v2 v3 v4 v5 v6 rc rr x4 hcr ?_ (fun _ _ => rfl) (fun a b1 b2 => wpj a) (fun i hi => by rw [w364]) hc2 cC c33 (fun a b1 b2 => ?_) (by rw [wA_same]) U
        · exact v2.cg (lo 30 (by decide) (by decide)) (lo 31 (by decide) (by decide)) (lo 32 (by decide) (by decide)) (lo 33 (by decide) (by decide)) (lo 34 (by decide) (by decide)) (hi 364 (by decide) (by decide)) (congrFun (hi 356 (by decide) (by decide)) 1) (hi 358 (by decide) (by decide))
        · by_cases e7 : a = 367
          · subst e7
            exact pj_no sc367
          · by_cases e8 : a = 368
            · subst e8
              exact pj_no sc368
            · refine pj_eq ?_
              rw [wA_ne b2, wA_ne e8, ko a b2 e7]
    obtain ⟨V02, -, -, -, R02⟩ : ∃ V', True ∧ True ∧ True ∧ RR n (pj (mg S2 V')) := by
      obtain ⟨V', -, -, -, h⟩ := ref2 (wL V0 351 (vp_updL (V0.2.1 351) 41 x)) R0 (by rw [wL_same, updL_same])
      exact ⟨V', trivial, trivial, trivial, h⟩
    obtain ⟨S', x', b1, b2, b3⟩ := yrB (c := c) (x := stir x) R02 hN2 h6 h0
    refine ⟨S', x', cN + 1, ?_, fun a ha => ?_, ?_, ?_, by omega, fun V R hV => ?_⟩
    · rw [pass1, k1, Option.bind_some]
      exact b1
    · rw [b2 a (by omega), fS2 a ha]
    · rw [b2 30 (by decide)]; exact hN2
    · rw [b2 30 (by decide)]; exact h82
    · obtain ⟨V1, g1, g2, g3, g4⟩ := ref2 V R hV
      obtain ⟨V', d1, d2, d3, d4⟩ := b3 _ g4 g2
      refine ⟨V', fun kk l1 l4 => ?_, d2, fun a ha => ?_, d4⟩
      · rw [g1]
        exact d1 kk l1 l4
      · rw [d3 a (by omega), g3 a ha]
end YR2
