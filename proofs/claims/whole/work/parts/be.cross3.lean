/-! CROSS -/
section CR3
variable {S V S0 : XS} {c : Nat × Nat} {n N x : Nat}
theorem stp_cg {kp lim : Int32} {Q Q' : BS} (h6 : N ≤ 6) (hx : x < 6) (h : eqB Q Q') : stp N kp lim Q x = stp N kp lim Q' x := by
  unfold stp
  rw [h.2 x hx, ful_congr h6 hx h.1]
theorem cc_eq (h : ∀ a, a ≠ 10 → a ≠ 12 → S0.1 a = S.1 a) : cc S0 N x = cc S N x := by
  have : clf S0 N x = clf S N x := by
    funext j
    unfold clf
    rw [h 31 (by decide) (by decide), h 33 (by decide) (by decide), h 34 (by decide) (by decide), h 32 (by decide) (by decide), h 30 (by decide) (by decide)]
  unfold cc
  rw [h 0 (by decide) (by decide), h (19 + tn (S.1 0 17)) (by omega) (by omega), h 17 (by decide) (by decide), this]
theorem refuse_mg {Vx : XS} {r : Nat} (R : RR n (pj (mg S0 Vx))) (hr : r < 6) (hV : ∀ a, a < 351 → Vx.1 a = (cfx S0 r).1 a) : RR (n + 1) (pj (rfx Vx r)) := by
  refine RR_refuse (r := r) R hr (fun a h1 h2 => ?_) ?_ ?_
  · by_cases h : a < 351
    · rw [pj_lo h]
      refine pj_eq ?_
      unfold rfx
      rw [wA_ne h2, hV a h]
      unfold cfx
      rw [wA_ne h1]
    · rw [pj_hi (by omega)]
      refine pj_eq ?_
      unfold rfx
      rw [wA_ne h2]
  · rw [pj_lo (by decide), show pj (rfx Vx r) 349 = (rfx Vx r).1 349 from pj_cell fun _ => rfl, show pj S0 349 = S0.1 349 from pj_cell fun _ => rfl]
    unfold rfx
    rw [wA_ne (by decide), hV 349 (by decide)]
    unfold cfx
    rw [wA_same]
  · rw [pj_hi (by decide), show pj (rfx Vx r) 366 = (rfx Vx r).1 366 from pj_cell fun _ => rfl, show pj Vx 366 = Vx.1 366 from pj_cell fun _ => rfl]
    unfold rfx
    rw [wA_same]
theorem mg_to {V V' : XS} (R : RR n (pj (mg S V))) (h : ∀ a, 351 ≤ a → pj V' a = pj V a) : RR n (pj (mg S V')) := by
  rw [pj_mg (S' := S) (V' := V') (S := S) (V := V) (fun _ _ => rfl) h]
  exact R
theorem mg_out {S' V' : XS} (R : RR n (pj (mg S' V'))) (h : ∀ a, a < 351 → V'.1 a = S'.1 a) : RR n (pj V') := by
  have : pj V' = pj (mg S' V') := by
    funext a
    by_cases ha : a < 351
    · rw [pj_lo ha]
      exact pj_eq (h a ha)
    · rw [pj_hi (by omega)]
  rw [this]
  exact R
theorem mg_in (R : RR n (pj S)) : RR n (pj (mg S S)) := by
  rw [mg_self]
  exact R
/-- what is tried before a crossing: the class -/
theorem hur_c (R : RR n (pj (mg S V))) (hN : S.1 30 4 = nI N) (h6 : N ≤ 6) (hx : x < N) : ∃ S0, f_X11_costOf (hp S c) 0 (nI x) = some (cc S N x, hp S0 c) ∧ (∀ a, a ≠ 10 → a ≠ 12 → S0.1 a = S.1 a) ∧ (∀ V, RR n (pj (mg S V)) → RR n (pj (mg S0 V))) ∧ f_X11_hurdleOf (hp S0 c) 0 (nI x) (cc S N x) = some (hdl (stp N (S.1 30 6) (S.1 30 5) (S.1 31, S.1 32) x) (cc S N x) (S.1 30 7) (S.1 30 8)) := by
  obtain ⟨S0, e1, e2, e3⟩ := R.costC (c := c) hN h6 hx
  refine ⟨S0, e1, e2, e3, ?_⟩
  have e30 := e2 30 (by decide) (by decide)
  rw [c_hurdle (N := N) (by rw [e30]; exact hN) h6 hx, e30, e2 31 (by decide) (by decide), e2 32 (by decide) (by decide)]
/-- and the reference: what stops -/
theorem stop_r (R : RR n (pj (mg S V))) (hN : S.1 30 4 = nI N) (h6 : N ≤ 6) (hx : x < N) : ∃ g, f_X12_stops (hp V c) 351 364 (nI x) = some (stp N (S.1 30 6) (S.1 30 5) (S.1 31, S.1 32) x, hp (wA V 367 g) c) ∧ RR n (pj (mg S (wA V 367 g))) := by
  obtain ⟨N', lim, kp, W⟩ := R.tw
  have eN := W.eqN hN h6
  subst eN
  obtain ⟨t1, t2, t3, t4, t5, t6, t7, t8, t9, tE, tV, tZ, t49, tc, t34, t33⟩ := W
  obtain ⟨g, hg⟩ := r_stops (S := V) (c := c) (a := 364) (x := x) (Or.inl rfl) t3 h6 hx tV.1 (by rw [t4]; exact tV.2.1)
  refine ⟨g, ?_, mg_to R fun a ha => ?_⟩
  · rw [hg, t9, t4, t8, t7, stp_cg h6 (by omega) tE]
  · by_cases e : a = 367
    · subst e
      exact pj_no sc367
    · exact pj_eq (wA_ne e)
theorem pr_cross (R : RR n (pj S)) (i : Int32) : PQ n c (fun h => f_X11_cross h 0 i) (fun h => f_X12_cross h 351 i) S := by
  have RS := mg_in R
  obtain ⟨N, lim, kp, W⟩ := RS.tw
  have h6 := W.2.1
  have hN := W.2.2.2.2.2.1
  have h26 := W.2.2.1
  rcases ix_of (x := i) (N := N) (by omega) with ⟨x, hx, rfl⟩ | hx
  · obtain ⟨S0, e1, e2, e3, e4⟩ := hur_c (c := c) RS hN h6 hx
    have e30 := e2 30 (by decide) (by decide)
    have nm1 : ∀ r : Nat, r < 6 → nI r ≠ -1 := fun r hr => m1_ne (by omega)
    have cls_no : ∀ r : Nat, r < 6 → hdl (stp N (S.1 30 6) (S.1 30 5) (S.1 31, S.1 32) x) (cc S N x) (S.1 30 7) (S.1 30 8) = nI r → f_X11_cross (hp S c) 0 (nI x) = some (-1, hp (cfx S0 r) c) := fun r hr he => by
      unfold f_X11_cross
      rw [k0, Option.bind_some, e1, Option.bind_some, e4, Option.bind_some, he, if_neg (nm1 r hr), X11_refuse hr, Option.bind_some]
    have hi : f_X12_isHouse (hp (T0 S) c) 351 (nI x) = some 1 := r_isHouse_in (by rw [T0_351 (by decide)]; exact h26) h6 hx
    have hT : ∀ U : XS, (∀ a, 351 ≤ a → U.1 a = S.1 a) → RR n (pj (mg S (T0 U))) := fun U hU => mg_to RS fun a ha => by
      rw [T0_pj]
      exact pj_eq (hU a ha)
    have hiU : ∀ U : XS, (∀ a, 351 ≤ a → U.1 a = S.1 a) → f_X12_isHouse (hp (T0 U) c) 351 (nI x) = some 1 := fun U hU => r_isHouse_in (by rw [T0_351 (by decide), hU 351 (by decide)]; exact h26) h6 hx
    have cU : ∀ r a, 351 ≤ a → (cfx S0 r).1 a = S.1 a := fun r a ha => by
      unfold cfx
      rw [wA_ne (by omega), e2 a (by omega) (by omega)]
    by_cases hs : stp N (S.1 30 6) (S.1 30 5) (S.1 31, S.1 32) x = -1
    · obtain ⟨cr, q1, q2, q3, q4⟩ := W.2.2.2.2.2.2.2.2.2.2.2.2.2.1
      have q7 := W.2.2.2.2.2.2.2.2.2.2.2.2.1
      by_cases hv : cc S N x ≤ S.1 30 7
      · by_cases h9 : cr = 9999
        · have he : hdl (stp N (S.1 30 6) (S.1 30 5) (S.1 31, S.1 32) x) (cc S N x) (S.1 30 7) (S.1 30 8) = nI 5 := by
            unfold hdl
            rw [if_pos hs, if_pos hv, q2, h9, if_neg (show ¬ nI 9999 < (9999 : Int32) by decide)]
            rfl
          obtain ⟨g, f1, f2⟩ := stop_r (c := c) (hT (cfx S0 5) (cU 5)) hN h6 hx
          rw [hs] at f1
          obtain ⟨Vx, f3, f4, f5, f6⟩ := f2.costR (c := c) hN h6 hx
          have o364 : (wA (T0 (cfx S0 5)) 367 g).1 364 = S.1 364 := by rw [wA_ne (by decide), T0_ne (by decide), cU 5 364 (by decide)]
          refine ⟨-1, cfx S0 5, rfx Vx 5, cls_no 5 (by decide) he, ?_, refuse_mg (S0 := S0) (e3 _ f6) (by decide) (fun a ha => ?_)⟩
          · show f_X12_cross (hp (cfx S0 5) c) 351 (nI x) = _
            unfold f_X12_cross
            rw [k351, Option.bind_some, T0_p, Option.bind_some, hiU _ (cU 5), Option.bind_some, if_neg (show ¬ (1 : Int32) = 0 by decide), g351_32, Option.bind_some, f1, Option.bind_some, if_pos rfl, g351_32, Option.bind_some, a364n (j := 49) (k := 49) rfl (by decide), Option.bind_some, o364, ← q7, f3, Option.bind_some, if_pos hv, g351_32, Option.bind_some, a364n (j := 50) (k := 50) rfl (by decide), Option.bind_some, f4 364 (by decide) (by decide), o364, q3, h9, if_pos (show nI 9999 = (9999 : Int32) from rfl), show f_X12_refused (hp Vx c) 351 5 (-1) = some (-1, hp (rfx Vx 5) c) from X12_refused (r := 5) (by decide), Option.bind_some]
          · rw [f4 a (by omega) (by omega), wA_ne (by omega), T0_ne (by omega)]
        · have he : hdl (stp N (S.1 30 6) (S.1 30 5) (S.1 31, S.1 32) x) (cc S N x) (S.1 30 7) (S.1 30 8) = -1 := by
            unfold hdl
            rw [if_pos hs, if_pos hv, q2, if_pos (show nI cr < (9999 : Int32) from nI_lt (b := 9999) (by omega) (by decide))]
          have hcan : can N (S0.1 30 6) (S0.1 30 5) (S0.1 31, S0.1 32) x = true := by
            rw [e30, e2 31 (by decide) (by decide), e2 32 (by decide) (by decide), stp_can hx, decide_eq_true hs]
          obtain ⟨S', y1, y2, y3, y4⟩ := cr_pair (c := c) (V0 := S) (e3 _ RS) (by rw [e30]; exact hN) h6 hcan (by rw [e30]; exact q2) (by omega)
          rw [cc_eq e2] at y1
          have sU : ∀ a, 351 ≤ a → S'.1 a = S.1 a := fun a ha => by rw [y2 a (by omega), e2 a (by omega) (by omega)]
          obtain ⟨g, f1, f2⟩ := stop_r (c := c) (hT S' sU) hN h6 hx
          rw [hs] at f1
          obtain ⟨Vx, f3, f4, f5, f6⟩ := f2.costR (c := c) hN h6 hx
          have o364 : (wA (T0 S') 367 g).1 364 = S.1 364 := by rw [wA_ne (by decide), T0_ne (by decide), sU 364 (by decide)]
          obtain ⟨V', z1, z2, z3, z4, z5⟩ := y4 Vx (e3 _ f6)
          refine ⟨S'.1 32 x, S', V', ?_, ?_, (mg_out z5 fun a ha => ?_).mono (by omega)⟩
          · show f_X11_cross (hp S c) 0 (nI x) = _
            unfold f_X11_cross
            rw [k0, Option.bind_some, e1, Option.bind_some, e4, Option.bind_some, he, if_pos rfl, y1, Option.bind_some, g0_6, Option.bind_some, B30.g1, Option.bind_some, B30.a2 (by omega), Option.bind_some]
          · show f_X12_cross (hp S' c) 351 (nI x) = _
            unfold f_X12_cross
            rw [k351, Option.bind_some, T0_p, Option.bind_some, hiU _ sU, Option.bind_some, if_neg (show ¬ (1 : Int32) = 0 by decide), g351_32, Option.bind_some, f1, Option.bind_some, if_pos rfl, g351_32, Option.bind_some, a364n (j := 49) (k := 49) rfl (by decide), Option.bind_some, o364, ← q7, f3, Option.bind_some, if_pos hv, g351_32, Option.bind_some, a364n (j := 50) (k := 50) rfl (by decide), Option.bind_some, f4 364 (by decide) (by decide), o364, q3, if_neg (show ¬ nI cr = (9999 : Int32) from fun z => h9 ((nI_eq (b := 9999) (by omega) (by decide)).mp z)), z1, Option.bind_some, g351_32, Option.bind_some, i36, a364 (by omega), Option.bind_some, z4]
          · rw [z2 a (by omega) (by omega) (by omega) (by omega) (by omega) (by omega), f4 a (by omega) (by omega), wA_ne (by omega), T0_ne (by omega)]
      · have he : hdl (stp N (S.1 30 6) (S.1 30 5) (S.1 31, S.1 32) x) (cc S N x) (S.1 30 7) (S.1 30 8) = nI 4 := by
          unfold hdl
          rw [if_pos hs, if_neg hv]
          rfl
        obtain ⟨g, f1, f2⟩ := stop_r (c := c) (hT (cfx S0 4) (cU 4)) hN h6 hx
        rw [hs] at f1
        obtain ⟨Vx, f3, f4, f5, f6⟩ := f2.costR (c := c) hN h6 hx
        have o364 : (wA (T0 (cfx S0 4)) 367 g).1 364 = S.1 364 := by rw [wA_ne (by decide), T0_ne (by decide), cU 4 364 (by decide)]
        refine ⟨-1, cfx S0 4, rfx Vx 4, cls_no 4 (by decide) he, ?_, refuse_mg (S0 := S0) (e3 _ f6) (by decide) (fun a ha => ?_)⟩
        · show f_X12_cross (hp (cfx S0 4) c) 351 (nI x) = _
          unfold f_X12_cross
          rw [k351, Option.bind_some, T0_p, Option.bind_some, hiU _ (cU 4), Option.bind_some, if_neg (show ¬ (1 : Int32) = 0 by decide), g351_32, Option.bind_some, f1, Option.bind_some, if_pos rfl, g351_32, Option.bind_some, a364n (j := 49) (k := 49) rfl (by decide), Option.bind_some, o364, ← q7, f3, Option.bind_some, if_neg hv, show f_X12_refused (hp Vx c) 351 4 (-1) = some (-1, hp (rfx Vx 4) c) from X12_refused (r := 4) (by decide), Option.bind_some]
        · rw [f4 a (by omega) (by omega), wA_ne (by omega), T0_ne (by omega)]
    · obtain ⟨r, hr, er⟩ : ∃ r, r < 6 ∧ stp N (S.1 30 6) (S.1 30 5) (S.1 31, S.1 32) x = nI r := by
        unfold stp at hs ⊢
        by_cases h1 : kep (S.1 30 6) x = true
        · rw [if_pos h1]
          exact ⟨2, by decide, rfl⟩
        · rw [if_neg h1] at hs ⊢
          by_cases h2 : (S.1 31, S.1 32).2 x = 0
          · rw [if_pos h2]
            exact ⟨3, by decide, rfl⟩
          · rw [if_neg h2] at hs ⊢
            by_cases h3 : ful (S.1 31, S.1 32).1 (S.1 30 5) N x = true
            · rw [if_pos h3]
              exact ⟨3, by decide, rfl⟩
            · rw [if_neg h3] at hs
              exact absurd rfl hs
      have he : hdl (stp N (S.1 30 6) (S.1 30 5) (S.1 31, S.1 32) x) (cc S N x) (S.1 30 7) (S.1 30 8) = nI r := by
        unfold hdl
        rw [if_neg hs, er]
      obtain ⟨g, f1, f2⟩ := stop_r (c := c) (hT (cfx S0 r) (cU r)) hN h6 hx
      rw [er] at f1
      refine ⟨-1, cfx S0 r, rfx (wA (T0 (cfx S0 r)) 367 g) r, cls_no r hr he, ?_, refuse_mg (S0 := S0) (e3 _ f2) hr (fun a ha => ?_)⟩
      · show f_X12_cross (hp (cfx S0 r) c) 351 (nI x) = _
        unfold f_X12_cross
        rw [k351, Option.bind_some, T0_p, Option.bind_some, hiU _ (cU r), Option.bind_some, if_neg (show ¬ (1 : Int32) = 0 by decide), g351_32, Option.bind_some, f1, Option.bind_some, if_neg (nm1 r hr), X12_refused hr, Option.bind_some]
      · rw [wA_ne (by omega), T0_ne (by omega)]
  · refine PQ.refuse (r := 0) (v := -1) R (by decide) ?_ (fun U hU => ?_)
    · unfold f_X11_cross f_X11_costOf f_X11_hurdleOf
      have hh : f_X0_has (hp S c) 30 i = some 0 := B30.has_out hN hx
      rw [k0, Option.bind_some, Option.bind_some, g0_6, Option.bind_some, hh, Option.bind_some, if_pos rfl, Option.bind_some, k0, Option.bind_some, g0_6, Option.bind_some, hh, Option.bind_some, if_pos rfl, Option.bind_some, if_neg (show ¬ (0 : Int32) = -1 by decide), show f_X11_refuse (hp S c) 0 0 (-1) = some (-1, hp (cfx S 0) c) from X11_refuse (r := 0) (by decide), Option.bind_some]
    · subst hU
      have h26' : (T0 (cfx S 0)).1 351 26 = nI N := by
        rw [T0_351 (by decide)]
        unfold cfx
        rw [wA_ne (by decide)]
        exact h26
      unfold f_X12_cross
      rw [k351, Option.bind_some, T0_p, Option.bind_some, r_isHouse_out h26' hx, Option.bind_some, if_pos rfl, show f_X12_refused (hp (T0 (cfx S 0)) c) 351 0 (-1) = some (-1, hp (rfx (T0 (cfx S 0)) 0) c) from X12_refused (r := 0) (by decide), Option.bind_some]
end CR3
