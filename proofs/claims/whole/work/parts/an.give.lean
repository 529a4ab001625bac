/-! GIVE (coins) -/
theorem rOk_cg {N : Nat} {lim : Int32} {row row' : Nat → Int32} (h : ∀ i, i < 42 → row i = row' i) (h48 : row 48 = row' 48) (r : rOk N lim row') : rOk N lim row := by
  obtain ⟨⟨a, b, d⟩, e, m, m1, m2⟩ := r
  refine ⟨⟨An.congr (D := (rwB row').1) a (fun k hk => h k (by omega)), fun x y hx hy => ?_, fun k hk => ?_⟩, fun x y hx hy o => ?_, m, m1, by rw [h48]; exact m2⟩
  · show (row (6 * x + y)).toInt ≤ _
    rw [h _ (by omega)]
    exact b x y hx hy
  · show ∃ w, w < 1000003 ∧ row (36 + k) = nI w
    rw [h _ (by omega)]
    exact d k hk
  · rw [h _ (by omega)]
    exact e x y hx hy o
section GV
variable {S : XS} {c : Nat × Nat} {n : Nat}
theorem NW.cfx {N r : Nat} {lim kp : Int32} {Q : BS} (W : NW S N lim kp Q) : NW (cfx S r) N lim kp Q := W.of (by unfold _root_.Jvm.Pilot.CCrossedFavoursLaw_law_r8854_e27671.cfx; rw [wA_ne (by decide)]) (wA_ne (by decide)) (wA_ne (by decide)) (wA_ne (by decide)) (wA_ne (by decide)) (wA_ne (by decide))
theorem isIn_1 {h : xa_H} {x : Int32} {m : Nat} {u : Int64} (hm : m + 1 < 2 ^ 31) (hu : u = (nI m).toInt64) : f_X12_isIn h x.toInt64 (1 : Int64) u = some (bI (!decide (x < 1) && !decide (nI m < x))) := by
  rw [hu, show (1 : Int64) = (1 : Int32).toInt64 from rfl, X12_isIn]
theorem pr_give (R : RR n (pj S)) (x : Int32) : PQ n c (fun h => f_X11_give h 0 x) (fun h => f_X12_give h 351 x) S := by
  obtain ⟨N, W⟩ := R.now
  have h6 := W.2.1
  have hB := W.2.2.2.2.2.2.1
  obtain ⟨cr, c1, c2, c3, c4, c5, -⟩ := R.log
  by_cases hN : N = 0
  · subst hN
    refine PQ.refuse (r := 0) (v := -1) R (by decide) ?_ (fun U hU => ?_)
    · unfold f_X11_give
      rw [k0, Option.bind_some, g0_6, Option.bind_some, B30.g4, Option.bind_some, hB, if_pos (show nI 0 = 0 from rfl), show f_X11_refuse (hp S c) 0 0 (-1) = some (-1, hp (cfx S 0) c) from X11_refuse (r := 0) (by decide), Option.bind_some]
    · subst hU
      unfold f_X12_give
      rw [k351, Option.bind_some, T0_p, Option.bind_some, g351_26, Option.bind_some, W.cfx.t0.2.2.1, if_pos (show nI 0 = 0 from rfl), show f_X12_refused (hp (T0 (cfx S 0)) c) 351 0 (-1) = some (-1, hp (rfx (T0 (cfx S 0)) 0) c) from X12_refused (r := 0) (by decide), Option.bind_some]
  · have nz : ¬ nI N = 0 := nI_ne0 (by omega) (by omega)
    by_cases hx : x < 1 ∨ nI 50 < x
    · refine PQ.refuse (r := 1) (v := -1) R (by decide) ?_ (fun U hU => ?_)
      · unfold f_X11_give f_X11_give_b28
        rw [k0, Option.bind_some, g0_6, Option.bind_some, B30.g4, Option.bind_some, hB, if_neg nz, show f_X11_refuse (hp S c) 0 1 (-1) = some (-1, hp (cfx S 1) c) from X11_refuse (r := 1) (by decide), Option.bind_some]
        by_cases h1 : x < 1
        · rw [if_pos h1]
        · rw [if_neg h1, if_neg (show ¬ x ≤ (50 : Int32) from Int32.not_le.mpr (hx.resolve_left h1))]
      · subst hU
        unfold f_X12_give
        have : (!decide (x < 1) && !decide (nI 50 < x)) = false := by
          rcases hx with z | z
          · rw [decide_eq_true z]; rfl
          · rw [decide_eq_true z, Bool.and_comm]; rfl
        rw [k351, Option.bind_some, T0_p, Option.bind_some, g351_26, Option.bind_some, W.cfx.t0.2.2.1, if_neg nz, isIn_1 (u := 50) (m := 50) (by decide) rfl, this, Option.bind_some, if_pos (show bI false = 0 from rfl), show f_X12_refused (hp (T0 (cfx S 1)) c) 351 1 (-1) = some (-1, hp (rfx (T0 (cfx S 1)) 1) c) from X12_refused (r := 1) (by decide), Option.bind_some]
    · have h1 : ¬ x < 1 := fun z => hx (Or.inl z)
      have h2 : ¬ nI 50 < x := fun z => hx (Or.inr z)
      have hin : (!decide (x < 1) && !decide (nI 50 < x)) = true := by rw [decide_eq_false h1, decide_eq_false h2]; rfl
      by_cases hc : S.1 364 49 + x ≤ 999
      · refine act_pair (v := S.1 364 49 + x) R (fun S1 s1 e1 => ?_)
        refine ⟨wA S1 30 (upd (S1.1 30) 7 (S.1 364 49 + x)), ?_, fun a h => wA_ne (by omega), fun U1 u1 u2 u3 e2 => ?_⟩
        · unfold f_X11_give
          rw [k0, Option.bind_some, g0_6, Option.bind_some, B30.g4, Option.bind_some, hB, if_neg nz, if_neg h1, if_pos (show x ≤ (50 : Int32) from Int32.not_lt.mp h2), Option.bind_some, B30.g7, Option.bind_some, c5, if_pos hc, g0_10, Option.bind_some, Option.bind_some, e1, Option.bind_some, g0_6, Option.bind_some, B30.g7, Option.bind_some, s1 30 (by decide) (by decide), c5, B30.p7, Option.bind_some, g0_6, Option.bind_some, B30.g7, Option.bind_some, wA_same, upd_same, s1 30 (by decide) (by decide)]
        · have U364 : U1.1 364 = S.1 364 := by rw [u1 364 (by decide) (by decide), wA_ne (by decide), s1 364 (by decide) (by decide)]
          have t26 : (T0 (wA S1 30 (upd (S1.1 30) 7 (S.1 364 49 + x)))).1 351 26 = nI N := by rw [T0_351 (by decide), u3]; exact W.2.2.1
          have t49 : (T0 (wA S1 30 (upd (S1.1 30) 7 (S.1 364 49 + x)))).1 364 49 = S.1 364 49 := by rw [T0_ne (by decide), wA_ne (by decide), s1 364 (by decide) (by decide)]
          refine ⟨wA U1 364 (upd (S.1 364) 49 (S.1 364 49 + x)), ?_, fun a h => wA_ne h, fun i h1 h2 => ?_, fun N F v1 v2 e356 e358 => ?_⟩
          · unfold f_X12_give
            rw [k351, Option.bind_some, T0_p, Option.bind_some, g351_26, Option.bind_some, t26, if_neg nz, isIn_1 (u := 50) (m := 50) (by decide) rfl, hin, Option.bind_some, if_neg (show ¬ bI true = 0 by decide), g351_32, Option.bind_some, show (49 : Int32) = nI 49 from rfl, a364 (by decide), Option.bind_some, t49, if_pos hc, e2, Option.bind_some, g351_32, Option.bind_some, a364 (by decide), Option.bind_some, U364, q364 (by decide), Option.bind_some, g351_32, Option.bind_some, a364 (by decide), Option.bind_some, wA_same, upd_same, U364]
          · rw [wA_same, upd_ne (by omega)]
          · obtain ⟨⟨k1, k2, k3⟩, ⟨r1, r2, r3, r4, r5, r6⟩, ok⟩ := v2
            rw [c364] at r1 r2 r3 r4 r5 r6 ok
            have V30 : pj (wA U1 364 (upd (S.1 364) 49 (S.1 364 49 + x))) 30 = upd (pj S 30) 7 (S.1 364 49 + x) := by
              rw [pc_all (by decide), pc_all (by decide), wA_ne (by decide), u1 30 (by decide) (by decide), wA_same, s1 30 (by decide) (by decide)]
            have VO : ∀ a, 31 ≤ a → a ≤ 34 → pj (wA U1 364 (upd (S.1 364) 49 (S.1 364 49 + x))) a = pj S a := fun a h1 h2 => pj_eq (by rw [wA_ne (by omega), u1 a (by omega) (by omega), wA_ne (by omega), s1 a (by omega) (by omega)])
            have V364 : pj (wA U1 364 (upd (S.1 364) 49 (S.1 364 49 + x))) 364 = upd (S.1 364) 49 (S.1 364 49 + x) := by rw [c364, wA_same]
            refine ⟨⟨?_, ?_, fun k hk => ?_⟩, ⟨fun k hk => ?_, fun k hk => ?_, fun k hk => ?_, ?_, ?_, ?_⟩, ?_⟩
            · rw [V30, upd_ne (by decide)]; exact k1
            · rw [V30, upd_ne (by decide), e356]; exact k2
            · rw [VO _ (by decide) (by decide), e358]; exact k3 k hk
            · rw [VO _ (by decide) (by decide), V364, upd_ne (by omega)]; exact r1 k hk
            · rw [VO _ (by decide) (by decide), V364, upd_ne (by omega)]; exact r2 k hk
            · rw [VO _ (by decide) (by decide), V364, upd_ne (by omega)]; exact r3 k hk
            · rw [V30, V364, upd_ne (by decide), upd_ne (by decide)]; exact r4
            · rw [V30, V364, upd_same, upd_same]
            · rw [V30, V364, upd_ne (by decide), upd_ne (by decide)]; exact r6
            · rw [e356, V364]
              exact rOk_cg (fun i hi => upd_ne (by omega)) (upd_ne (by decide)) ok
      · refine PQ.refuse (r := 3) (v := -1) R (by decide) ?_ (fun U hU => ?_)
        · unfold f_X11_give
          rw [k0, Option.bind_some, g0_6, Option.bind_some, B30.g4, Option.bind_some, hB, if_neg nz, if_neg h1, if_pos (show x ≤ (50 : Int32) from Int32.not_lt.mp h2), Option.bind_some, B30.g7, Option.bind_some, c5, if_neg hc, show f_X11_refuse (hp S c) 0 3 (-1) = some (-1, hp (cfx S 3) c) from X11_refuse (r := 3) (by decide), Option.bind_some]
        · subst hU
          have q364 : (T0 (cfx S 3)).1 364 49 = S.1 364 49 := by
            rw [T0_ne (by decide)]
            unfold _root_.Jvm.Pilot.CCrossedFavoursLaw_law_r8854_e27671.cfx
            rw [wA_ne (by decide)]
          unfold f_X12_give
          rw [k351, Option.bind_some, T0_p, Option.bind_some, g351_26, Option.bind_some, W.cfx.t0.2.2.1, if_neg nz, isIn_1 (u := 50) (m := 50) (by decide) rfl, hin, Option.bind_some, if_neg (show ¬ bI true = 0 by decide), g351_32, Option.bind_some, show aI (hp (T0 (cfx S 3)) c) 364 (49 : Int32) = some ((T0 (cfx S 3)).1 364 49) from a364 (k := 49) (by decide), Option.bind_some, q364, if_neg hc, show f_X12_refused (hp (T0 (cfx S 3)) c) 351 3 (-1) = some (-1, hp (rfx (T0 (cfx S 3)) 3) c) from X12_refused (r := 3) (by decide), Option.bind_some]
end GV
