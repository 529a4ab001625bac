/-! A CROSSING that is paid for: class and reference -/
section CR2
variable {S V : XS} {c : Nat × Nat} {n N x : Nat}
theorem TW.eqN {V : XS} {N' : Nat} {lim kp : Int32} (W : TW S V N' lim kp) (hN : S.1 30 4 = nI N) (h6 : N ≤ 6) : N' = N := by
  have := W.2.2.2.2.2.1
  rw [hN] at this
  have h2 := W.2.1
  exact ((nI_eq (by omega) (by omega)).mp this).symm
/-- the end of an act that crosses: coins may have changed before (S2, V2), the rest is the crossing and its log -/
theorem cr_end {S1 S2 S' V1 V2 V3 V' : XS} {A q F m cN : Nat} {cr : Nat → Nat} {row' : Nat → Int32} (R : RR n (pj (mg S V))) (v1 : Rvil (pj (mg S V)) N F) (v2 : Rnow (pj (mg S V)) N) (v3 : Rtold (pj (mg S V)) N F) (v4 : Rmem (pj (mg S V)) N A q cr) (v5 : Rimg (pj (mg S V)) N) (v6 : Rseen (pj (mg S V)) N m) (rc : rmC S S1 q A) (rr : rmR V V1 A) (hcN : cr A = cN) (hcr : cN < 9999)
    (now2 : Rnow (pj (mg S2 V2)) N) (s2 : ∀ a, a < 30 ∨ 34 < a → S2.1 a = S1.1 a) (w2 : ∀ a, 351 ≤ a → a ≠ 364 → pj V2 a = pj V1 a) (w2r : ∀ i, 50 ≤ i → V2.1 364 i = V.1 364 i)
    (hc : can N (V2.1 364 48) (V2.1 356 1) (rwB (V2.1 364)) x = true) (cC : cCr N x cN S2 S') (c33 : S'.1 33 = S2.1 33)
    (w3 : ∀ a, 351 ≤ a → a ≠ 364 → pj V' a = pj V2 a) (hr' : V'.1 364 = row') (U : lgU (crR N (V2.1 364) x) row' N x (min cN 60)) : RR n (pj (mg S' V')) := by
  have h6 := v1.2.1
  have hl : (V2.1 356 1).toInt ≤ 99 := by
    have e1 : pj V2 356 = pj V1 356 := w2 356 (by decide) (by decide)
    rw [c356, c356, rr.2.1 356 (by decide) (by decide)] at e1
    rw [e1]
    exact v1.2.2.2.2.2.2.1
  obtain ⟨k1, k2, k4, k0, k46, k47, k48, kf⟩ := cC
  have hx : x < N := (can_x hc).1
  have hx6 : x < 6 := by omega
  have lg := v4.2.2.2.2.2.1
  have p46 : ∀ T : XS, pj T 46 = T.1 46 := fun T => pj_cell fun _ => rfl
  have p47 : ∀ T : XS, pj T 47 = T.1 47 := fun T => pj_cell fun _ => rfl
  have p48 : ∀ T : XS, pj T 48 = T.1 48 := fun T => pj_cell fun _ => rfl
  rw [pj_lo (by decide), pj_lo (by decide), pj_lo (by decide), pj_hi (by decide), p46, p47, p48, c364, hcN] at lg
  have i46 : S2.1 46 = S.1 46 := by rw [s2 46 (by decide), rc.2.2 46 (by decide) (by omega)]
  have i47 : S2.1 47 = S.1 47 := by rw [s2 47 (by decide), rc.2.2 47 (by decide) (by omega)]
  have i48 : S2.1 48 = S.1 48 := by rw [s2 48 (by decide), rc.2.2 48 (by decide) (by omega)]
  rw [i46] at k46
  rw [i47] at k47
  rw [i48] at k48
  have E2 : eqB (S2.1 31, S2.1 32) (rwB (V2.1 364)) := by
    obtain ⟨-, ⟨r1, r2, -⟩, -⟩ := now2
    exact ⟨fun k hk => r1 k hk, fun k hk => r2 k hk⟩
  have E4 : ∀ k, k < 36 → (crs N (S2.1 31, S2.1 32) x).1 k = crR N (V2.1 364) x k := fun k hk => by
    rw [(crs_congr (x := x) h6 hx6 E2).1 k hk]
    exact ((crR_rw (N := N) (row := V2.1 364) hx6).1 k hk).symm
  have far : ∀ i, 51 ≤ i → crR N (V2.1 364) x i = V.1 364 i := fun i hi => by rw [crR_far (by omega) (by omega) hx6, w2r i (by omega)]
  have h50 : V2.1 364 50 = nI cN := by rw [w2r 50 (by decide)]; exact lg.1
  have r50 : row' 50 = nI (cN + 1) := by
    obtain ⟨s, -, -, -, -, -, -, -, -, u6⟩ := U
    rw [u6 50 (by decide)]
    unfold crR
    rw [if_neg (by decide), if_neg (by omega), if_neg (by omega), if_pos rfl, h50, nI_1]
  have rlo : ∀ i, i < 51 → row' i = crR N (V2.1 364) x i := by
    obtain ⟨s, -, -, -, -, -, -, -, -, u6⟩ := U
    exact u6
  refine mg_act (c' := cN + 1) (q := q) (A := A) (cr := cr) (m := m) (S1 := S1) (V1 := V1) R v1 v2 v3 v4 v5 v6 rc rr (fun a h0 h1 h2 => ?_) (fun a h0 h1 => ?_) ?_ ?_ (by omega) (by omega) ?_
  · refine pj_eq ?_
    rw [kf a h1 h2, s2 a h1]
  · rw [w3 a h0 h1, w2 a h0 h1]
  · refine Rnow_crs (p := pj (mg S2 V2)) (x := x) (cr := cN) now2 h6 ?_ ?_ ?_ ?_ ?_ ?_ ?_ ?_ (fun i hi => ?_) ?_ ?_
    · rw [pj_hi (by decide), c356]
      exact hl
    · rw [pj_hi (by decide), pj_hi (by decide), c356, c364]
      exact hc
    · rw [pj_hi (by decide), c364]
      exact h50
    · rw [pj_lo (by decide), pj_lo (by decide), pj_lo (by decide), c31, c31, c32, k1]
    · rw [pj_lo (by decide), pj_lo (by decide), pj_lo (by decide), c31, c32, c32, k2]
    · rw [pj_lo (by decide), pj_lo (by decide)]
      exact pj_eq c33
    · rw [pj_lo (by decide), pj_lo (by decide), c34, c34, k4]
    · rw [pj_lo (by decide), pj_lo (by decide), c30, c30, k0]
    · rw [pj_hi (by decide), pj_hi (by decide), c364, c364, hr', rlo i hi]
    · rw [pj_hi (by decide), pj_hi (by decide), w3 356 (by decide) (by decide)]
    · rw [pj_hi (by decide), pj_hi (by decide), w3 358 (by decide) (by decide)]
  · rw [hr']
    refine lgR_u (row0 := V.1 364) (row := crR N (V2.1 364) x) lg far U hcr r50 k46 ?_ ?_
    · rw [k47, sF_N, fvN_congr E4]
    · rw [k48, rng_congr h6 E4]
  · intro row c0 h1 h2 h
    rw [k46, k47, k48]
    rw [hcN] at h1 h2
    exact lgR_old h h1 h2
theorem cr_pair {V0 : XS} {cN : Nat} (R0 : RR n (pj (mg S V0))) (hN : S.1 30 4 = nI N) (h6 : N ≤ 6) (hc : can N (S.1 30 6) (S.1 30 5) (S.1 31, S.1 32) x = true) (h8 : S.1 30 8 = nI cN) (hcr : cN < 9999) : ∃ S', f_X11_crossFor (hp S c) 0 (nI x) (cc S N x) = some (hp S' c) ∧ (∀ a, a < 30 ∨ 351 ≤ a → S'.1 a = S.1 a) ∧ S'.1 30 4 = nI N ∧ ∀ V, RR n (pj (mg S V)) → ∃ V', f_X12_pays (hp V c) 351 (nI x) = some (hp V' c) ∧ (∀ a, a ≠ 351 → a ≠ 355 → a ≠ 364 → a ≠ 367 → a ≠ 368 → a ≠ 369 → V'.1 a = V.1 a) ∧ (∀ k, k ≠ 40 → lk k = false → V'.1 351 k = V.1 351 k) ∧ V'.1 364 (36 + x) = S'.1 32 x ∧ RR n (pj (mg S' V')) := by
  have hx : x < N := (can_x hc).1
  have hx6 : x < 6 := by omega
  obtain ⟨N', lim, kp, W0⟩ := R0.tw
  have eN := W0.eqN hN h6
  subst eN
  have VB0 : Vb lim (S.1 31, S.1 32) := Vb_congr W0.2.2.2.2.2.2.2.2.2.1 W0.2.2.2.2.2.2.2.2.2.2.1
  have hlim : S.1 30 5 = lim := W0.2.2.2.2.2.2.1
  obtain ⟨q, A, S1, hq, e1, rc, h3, h4, hA⟩ := R0.memC (c := c)
  obtain ⟨S2, hS2⟩ : ∃ S2, S2 = wA S1 30 (upd (S.1 30) 7 (S.1 30 7 - cc S N' x)) := ⟨_, rfl⟩
  have i30 : S1.1 30 = S.1 30 := rc.2.2 30 (by decide) (by omega)
  have s2 : ∀ a, a ≠ 30 → S2.1 a = S1.1 a := fun a ha => by rw [hS2, wA_ne ha]
  have i31 : S2.1 31 = S.1 31 := by rw [s2 31 (by decide), rc.2.2 31 (by decide) (by omega)]
  have i32 : S2.1 32 = S.1 32 := by rw [s2 32 (by decide), rc.2.2 32 (by decide) (by omega)]
  have i30' : S2.1 30 = upd (S.1 30) 7 (S.1 30 7 - cc S N' x) := by rw [hS2, wA_same]
  obtain ⟨S', e2, cC, c33⟩ := c_crossLog (S := S2) (c := c) (N := N') (x := x) (cr := cN) (kp := S.1 30 6) (lim := lim) (by rw [i30', upd_ne (by decide)]; exact hN) h6 (by rw [i31, i32]; exact VB0) (by rw [i31, i32, ← hlim]; exact hc) hcr (by rw [i30', upd_ne (by decide)]; exact h8)
  have fS : ∀ a, a < 30 ∨ 351 ≤ a → S'.1 a = S.1 a := fun a ha => by
    rw [cC.2.2.2.2.2.2.2 a (by omega) (by omega), s2 a (by omega), rc.2.2 a (by omega) (by omega)]
  refine ⟨S', ?_, fS, ?_, fun V R => ?_⟩
  · unfold f_X11_crossFor
    rw [k0, Option.bind_some, g0_10, Option.bind_some, g0_6, Option.bind_some, e1, Option.bind_some, g0_6, Option.bind_some, B30.g7, Option.bind_some, B30.p7, Option.bind_some, i30, ← hS2, e2, Option.bind_some]
  · rw [cC.2.2.2.1, upd_ne (by decide), i30', upd_ne (by decide)]
    exact hN
  · obtain ⟨Va, f1, f2, f3, R1⟩ := R.costR (c := c) hN h6 hx
    obtain ⟨V1, g1, -, rr⟩ := R1.memR (c := c) h4 hA
    obtain ⟨N'', lim', kp', W⟩ := R1.tw
    have eN := W.eqN hN h6
    subst eN
    obtain ⟨t1, t2, t3, t4, t5, t6, t7, t8, t9, tE, tV, tZ, t49, ⟨cr, u1, u2, u3, u4⟩, t34, t33⟩ := W
    have ecr : cr = cN := by
      rw [h8] at u2
      exact ((nI_eq (by omega) (by omega)).mp u2).symm
    subst ecr
    have r364 : V1.1 364 = Va.1 364 := rr.2.1 364 (by decide) (by decide)
    obtain ⟨V2, hV2⟩ : ∃ V2, V2 = wA V1 364 (upd (Va.1 364) 49 (Va.1 364 49 - cc S N'' x)) := ⟨_, rfl⟩
    have j364 : V2.1 364 = upd (Va.1 364) 49 (Va.1 364 49 - cc S N'' x) := by rw [hV2, wA_same]
    have jo : ∀ a, a ≠ 364 → V2.1 a = V1.1 a := fun a ha => by rw [hV2, wA_ne ha]
    have j26 : V2.1 351 26 = nI N'' := by rw [jo 351 (by decide), rr.1, upd_ne (by decide)]; exact t3
    have j356 : V2.1 356 = Va.1 356 := by rw [jo 356 (by decide), rr.2.1 356 (by decide) (by decide)]
    have jlo : ∀ k, k < 49 → V2.1 364 k = Va.1 364 k := fun k hk => by rw [j364, upd_ne (by omega)]
    have eB2 : eqB (rwB (V2.1 364)) (rwB (Va.1 364)) := ⟨fun k hk => jlo k (by omega), fun k hk => jlo (36 + k) (by omega)⟩
    have V2b : Vb lim' (rwB (V2.1 364)) := Vb_congr eB2 tV
    have hc2 : can N'' (V2.1 364 48) (V2.1 356 1) (rwB (V2.1 364)) x = true := by
      rw [jlo 48 (by decide), j356, can_congr h6 (eB2.trans tE.symm), t9, t4, ← t8, ← t7]
      exact hc
    obtain ⟨g, h1⟩ := r_crosses (S := V2) (c := c) (a := 364) (x := x) (Or.inl rfl) j26 h6 hx V2b.1 V2b.2.2
    obtain ⟨V3, hV3⟩ : ∃ V3, V3 = wA (wA V2 367 g) 364 (crR N'' (V2.1 364) x) := ⟨_, rfl⟩
    rw [← hV3] at h1
    have k364 : V3.1 364 = crR N'' (V2.1 364) x := by rw [hV3, wA_same]
    have ko : ∀ a, a ≠ 364 → a ≠ 367 → V3.1 a = V2.1 a := fun a h1 h2 => by rw [hV3, wA_ne h1, wA_ne h2]
    have z3 : Zo N'' (V3.1 364) := by
      rw [k364]
      refine Zo_congr (D := crR N'' (V2.1 364) x) (crR_rw (N := N'') (row := V2.1 364) hx6).1 (Zo_crs (Q := rwB (V2.1 364)) (Zo_congr (D' := Va.1 364) (fun k hk => jlo k (by omega)) tZ))
    obtain ⟨st, row', h2, U⟩ := r_tells (S := V3) (c := c) (x := x) (m := min cr 60) (by rw [ko 351 (by decide) (by decide)]; exact j26) h6 (by rw [k364, crR_far (by decide) (by decide) hx6, j364, upd_ne (by decide)]; exact u4) (Nat.min_le_right _ _) z3
    rw [k364] at U
    obtain ⟨V', hV'⟩ : ∃ V', V' = wA (wA V3 368 st) 364 row' := ⟨_, rfl⟩
    rw [← hV'] at h2
    have l364 : V'.1 364 = row' := by rw [hV', wA_same]
    have lo : ∀ a, a ≠ 364 → a ≠ 367 → a ≠ 368 → V'.1 a = V1.1 a := fun a h1 h2 h3 => by rw [hV', wA_ne h1, wA_ne h3, ko a h1 h2, jo a h1]
    refine ⟨V', ?_, fun a b1 b2 b3 b4 b5 b6 => ?_, fun k b1 b2 => ?_, ?_, ?_⟩
    · unfold f_X12_pays
      rw [k351, Option.bind_some, f1, Option.bind_some, g1, Option.bind_some, g351_32, Option.bind_some, a364n (j := 49) (k := 49) rfl (by decide), Option.bind_some, q364n (j := 49) (k := 49) rfl (by decide), Option.bind_some, r364, ← hV2, g351_32, Option.bind_some, h1, Option.bind_some, h2, Option.bind_some]
    · rw [lo a b3 b4 b5, rr.2.1 a b1 b6, f2 a b1 b2]
    · rw [lo 351 (by decide) (by decide) (by decide), rr.1, upd_ne b1, f3 k b2]
    · rw [l364]
      obtain ⟨s, -, -, -, -, -, -, -, -, u6⟩ := U
      rw [u6 (36 + x) (by omega), cC.2.1, i31, i32]
      have a1 := (crR_rw (N := N'') (row := V2.1 364) hx6).2 x hx6
      have a2 := (crs_congr (x := x) h6 hx6 (eB2.trans tE.symm)).2 x hx6
      exact a1.trans a2
    · obtain ⟨⟨N3, F, v1, v2, v3, ⟨A', q', cr', v4⟩, v5, m, v6⟩, rest⟩ := R1
      have R1 : RR n (pj (mg S Va)) := ⟨⟨N3, F, v1, v2, v3, ⟨A', q', cr', v4⟩, v5, m, v6⟩, rest⟩
      have hA' := v4.1
      have hq' := v4.2.1
      have b4 : S.1 49 4 = nI A' := v4.2.2.2.1
      have b3 : S.1 49 3 = nI q' := v4.2.2.2.2.1
      rw [h4] at b4
      rw [h3] at b3
      have x1 := (nI_eq (by omega) (by omega)).mp b4
      have x2 := (nI_eq (by omega) (by omega)).mp b3
      subst x1 x2
      have h63 := v1.2.1
      have x3 : N3 = N'' := by
        have : S.1 30 4 = nI N3 := v2.1.1
        rw [hN] at this
        exact ((nI_eq (by omega) (by omega)).mp this).symm
      subst x3
      have x4 : cr' A = cr := by
        have l1 := v4.2.2.2.2.2.1.1
        have l2 := v4.2.2.2.2.2.1.2.1
        have : Va.1 364 50 = nI (cr' A) := l1
        rw [u3] at this
        exact ((nI_eq (by omega) (by omega)).mp this).symm
      refine cr_end (S := S) (V := Va) (S1 := S1) (S2 := S2) (V1 := V1) (V2 := V2) (V3 := V3) (x := x) (row' := row') R1 v1 v2 v3 v4 v5 v6 rc rr x4 hcr ?_ (fun a h => s2 a (by omega)) (fun a b1 b2 => pj_eq (jo a b2)) (fun i hi => ?_) hc2 cC c33 (fun a b1 b2 => ?_) l364 U
      · obtain ⟨⟨k1, k2, k3⟩, ⟨r1, r2, r3, r4, r5, r6⟩, ok⟩ := v2
        have V30 : pj (mg S2 V2) 30 = upd (pj (mg S Va) 30) 7 (S.1 30 7 - cc S N3 x) := by
          rw [pj_lo (by decide), pj_lo (by decide), c30, c30, i30']
        have VO : ∀ a, 31 ≤ a → a ≤ 34 → pj (mg S2 V2) a = pj (mg S Va) a := fun a h1 h2 => by
          rw [pj_lo (by omega), pj_lo (by omega)]
          exact pj_eq (by rw [s2 a (by omega), rc.2.2 a (by omega) (by omega)])
        have V364 : pj (mg S2 V2) 364 = upd (pj (mg S Va) 364) 49 (Va.1 364 49 - cc S N3 x) := by
          rw [pj_hi (by decide), pj_hi (by decide), c364, c364, j364]
        have e356 : pj (mg S2 V2) 356 = pj (mg S Va) 356 := by
          rw [pj_hi (by decide), pj_hi (by decide)]
          exact pj_eq j356
        have e358 : pj (mg S2 V2) 358 = pj (mg S Va) 358 := by
          rw [pj_hi (by decide), pj_hi (by decide)]
          exact pj_eq (by rw [jo 358 (by decide), rr.2.1 358 (by decide) (by decide)])
        refine ⟨⟨?_, ?_, fun k hk => ?_⟩, ⟨fun k hk => ?_, fun k hk => ?_, fun k hk => ?_, ?_, ?_, ?_⟩, ?_⟩
        · rw [V30, upd_ne (by decide)]; exact k1
        · rw [V30, upd_ne (by decide), e356]; exact k2
        · rw [VO _ (by decide) (by decide), e358]; exact k3 k hk
        · rw [VO _ (by decide) (by decide), V364, upd_ne (by omega)]; exact r1 k hk
        · rw [VO _ (by decide) (by decide), V364, upd_ne (by omega)]; exact r2 k hk
        · rw [VO _ (by decide) (by decide), V364, upd_ne (by omega)]; exact r3 k hk
        · rw [V30, V364, upd_ne (by decide), upd_ne (by decide)]; exact r4
        · rw [V30, V364, upd_same, upd_same, t49]
        · rw [V30, V364, upd_ne (by decide), upd_ne (by decide)]; exact r6
        · rw [e356, V364]
          exact rOk_cg (fun i hi => upd_ne (by omega)) (upd_ne (by decide)) ok
      · rw [j364, upd_ne (by omega)]
      · by_cases e7 : a = 367
        · subst e7
          exact pj_no sc367
        · by_cases e8 : a = 368
          · subst e8
            exact pj_no sc368
          · refine pj_eq ?_
            rw [lo a b2 e7 e8, jo a b2]
end CR2
