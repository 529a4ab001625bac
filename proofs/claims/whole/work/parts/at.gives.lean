/-! GIVES -/
section GI
variable {S : XS} {c : Nat × Nat} {n : Nat}
theorem pr_gives (R : RR n (pj S)) (x y w : Int32) : PQ n c (fun h => f_X11_gives h 0 x y w) (fun h => f_X12_gives h 351 x y w) S := by
  obtain ⟨N, W⟩ := R.now
  have h6 := W.2.1
  have hB := W.2.2.2.2.2.2.1
  have hB5 := W.2.2.2.2.2.2.2.1
  have rf : ∀ r, r < 6 → f_X12_refused (hp (T0 (cfx S r)) c) 351 (nI r) (-1000000) = some (-1000000, hp (rfx (T0 (cfx S r)) r) c) := fun r hr => X12_refused hr
  have M := fun r => (W.cfx (r := r)).t0.2.2.1
  rcases ix_of (x := x) (N := N) (by omega) with ⟨i, hi, rfl⟩ | hx
  · rcases ix_of (x := y) (N := N) (by omega) with ⟨j, hj, rfl⟩ | hy
    · by_cases e : i = j
      · subst e
        refine PQ.refuse (r := 1) (v := -1000000) R (by decide) ?_ (fun U hU => ?_)
        · unfold f_X11_gives f_X11_gives_b46
          rw [k0, Option.bind_some, g0_6, Option.bind_some, B30.has_in hB h6 hi, Option.bind_some, if_neg (by decide), Option.bind_some, B30.has_in hB h6 hi, Option.bind_some, if_neg (by decide), if_pos rfl, show f_X11_refuse (hp S c) 0 1 (-1000000) = some (-1000000, hp (cfx S 1) c) from X11_refuse (r := 1) (by decide), Option.bind_some]
        · subst hU
          unfold f_X12_gives f_X12_gives_b47
          rw [k351, Option.bind_some, T0_p, Option.bind_some, r_isHouse_in (M 1) h6 hi, Option.bind_some, if_neg (by decide), Option.bind_some, if_neg (by decide), if_pos rfl, show f_X12_refused (hp (T0 (cfx S 1)) c) 351 1 (-1000000) = some (-1000000, hp (rfx (T0 (cfx S 1)) 1) c) from rf 1 (by decide), Option.bind_some]
      · have ne : ¬ nI i = nI j := fun z => e ((nI_eq (by omega) (by omega)).mp z)
        have hd : S.1 31 (6 * i + j) = S.1 364 (6 * i + j) := W.D _ (by omega)
        by_cases hw : w < 1 ∨ nI 9 < w
        · refine PQ.refuse (r := 1) (v := -1000000) R (by decide) ?_ (fun U hU => ?_)
          · unfold f_X11_gives f_X11_gives_b46
            rw [k0, Option.bind_some, g0_6, Option.bind_some, B30.has_in hB h6 hi, Option.bind_some, if_neg (by decide), Option.bind_some, B30.has_in hB h6 hj, Option.bind_some, if_neg (by decide), if_neg ne, show f_X11_refuse (hp S c) 0 1 (-1000000) = some (-1000000, hp (cfx S 1) c) from X11_refuse (r := 1) (by decide), Option.bind_some]
            by_cases h1 : w < 1
            · rw [if_pos h1]
            · rw [if_neg h1, if_neg (show ¬ w ≤ (9 : Int32) from Int32.not_le.mpr (hw.resolve_left h1))]
          · subst hU
            have : (!decide (w < 1) && !decide (nI 9 < w)) = false := by
              rcases hw with z | z
              · rw [decide_eq_true z]; rfl
              · rw [decide_eq_true z, Bool.and_comm]; rfl
            unfold f_X12_gives f_X12_gives_b47
            rw [k351, Option.bind_some, T0_p, Option.bind_some, r_isHouse_in (M 1) h6 hi, Option.bind_some, if_neg (by decide), r_isHouse_in (M 1) h6 hj, Option.bind_some, if_neg (by decide), if_neg ne, isIn_1 (u := 9) (m := 9) (by decide) rfl, this, Option.bind_some, if_pos (show bI false = 0 from rfl), show f_X12_refused (hp (T0 (cfx S 1)) c) 351 1 (-1000000) = some (-1000000, hp (rfx (T0 (cfx S 1)) 1) c) from rf 1 (by decide), Option.bind_some]
        · have w1 : ¬ w < 1 := fun z => hw (Or.inl z)
          have w2 : ¬ nI 9 < w := fun z => hw (Or.inr z)
          have hin : (!decide (w < 1) && !decide (nI 9 < w)) = true := by rw [decide_eq_false w1, decide_eq_false w2]; rfl
          by_cases z : S.1 364 (6 * i + j) + w ≤ S.1 356 1
          · refine act_pair (v := S.1 364 (6 * i + j) + w) R (fun S1 s1 e1 => ?_)
            refine ⟨wA S1 31 (sdF (S1.1 31) i j (S.1 364 (6 * i + j) + w)), ?_, fun a h => wA_ne (by omega), fun U1 u1 u2 u3 e2 => ?_⟩
            · unfold f_X11_gives
              rw [k0, Option.bind_some, g0_6, Option.bind_some, B30.has_in hB h6 hi, Option.bind_some, if_neg (by decide), Option.bind_some, B30.has_in hB h6 hj, Option.bind_some, if_neg (by decide), if_neg ne, if_neg w1, if_pos (show w ≤ (9 : Int32) from Int32.not_lt.mp w2), Option.bind_some, B30.debt (by omega) (by omega), Option.bind_some, hd, Option.bind_some, B30.g5, Option.bind_some, hB5, if_pos z, g0_10, Option.bind_some, Option.bind_some, e1, Option.bind_some, g0_6, Option.bind_some, B30.setDebt (by omega) (by omega), Option.bind_some]
              rfl
            · have U364 : U1.1 364 = S.1 364 := by rw [u1 364 (by decide) (by decide), wA_ne (by decide), s1 364 (by decide) (by decide)]
              have t26 : (T0 (wA S1 31 (sdF (S1.1 31) i j (S.1 364 (6 * i + j) + w)))).1 351 26 = nI N := by rw [T0_351 (by decide), u3]; exact W.2.2.1
              have t364 : (T0 (wA S1 31 (sdF (S1.1 31) i j (S.1 364 (6 * i + j) + w)))).1 364 = S.1 364 := by rw [T0_ne (by decide), wA_ne (by decide), s1 364 (by decide) (by decide)]
              have t356 : (T0 (wA S1 31 (sdF (S1.1 31) i j (S.1 364 (6 * i + j) + w)))).1 356 = S.1 356 := by rw [T0_ne (by decide), wA_ne (by decide), s1 356 (by decide) (by decide)]
              refine ⟨wA U1 364 (sdF (S.1 364) i j (S.1 364 (6 * i + j) + w)), ?_, fun a h => wA_ne h, fun k h1 h2 => ?_, fun N' F v1 v2 e356 e358 => ?_⟩
              · unfold f_X12_gives
                rw [k351, Option.bind_some, T0_p, Option.bind_some, r_isHouse_in t26 h6 hi, Option.bind_some, if_neg (by decide), r_isHouse_in t26 h6 hj, Option.bind_some, if_neg (by decide), if_neg ne, isIn_1 (u := 9) (m := 9) (by decide) rfl, hin, Option.bind_some, if_neg (show ¬ bI true = 0 by decide), g351_32, Option.bind_some, ix6, a364 (by omega), Option.bind_some, t364, g351_18, Option.bind_some, show aI (hp (T0 (wA S1 31 (sdF (S1.1 31) i j (S.1 364 (6 * i + j) + w)))) c) 356 (1 : Int32) = some ((T0 (wA S1 31 (sdF (S1.1 31) i j (S.1 364 (6 * i + j) + w)))).1 356 1) from a356 (k := 1) (by decide), Option.bind_some, t356, if_pos z, e2, Option.bind_some, g351_32, Option.bind_some, q364 (by omega), Option.bind_some, g351_32, Option.bind_some, ix6, q364 (by omega), Option.bind_some, wA_wA, wA_same, U364]
                rfl
              · rw [wA_same, sdF_far (by omega) (by omega) (by omega)]
              · have eN : N' = N := by
                  have q1 : S.1 351 26 = nI N' := v1.2.2.1
                  exact (nI_eq (by have := v1.2.1; omega) (by omega)).mp (q1.symm.trans W.2.2.1)
                subst eN
                have hl := W.2.2.2.2.1
                have hl9 := W.2.2.2.2.2.1
                have V := W.V
                have q1 : (S.1 364 (6 * i + j)).toInt = -(S.1 364 (6 * j + i)).toInt ∧ _ := V.1 i j (by omega) (by omega)
                have q2 : (S.1 364 (6 * i + j)).toInt ≤ (S.1 356 1).toInt := V.2.1 i j (by omega) (by omega)
                have q3 : (S.1 364 (6 * j + i)).toInt ≤ (S.1 356 1).toInt := V.2.1 j i (by omega) (by omega)
                have ww1 : (1 : Int) ≤ w.toInt := Int32.le_iff_toInt_le.mp (Int32.not_lt.mp w1)
                have ww2 : w.toInt ≤ 9 := Int32.le_iff_toInt_le.mp (Int32.not_lt.mp w2)
                have es : (S.1 364 (6 * i + j) + w).toInt = (S.1 364 (6 * i + j)).toInt + w.toInt := by
                  rw [Int32.toInt_add]
                  exact Int.bmod_eq_of_le (by omega) (by omega)
                exact Rnow_sd s1 u1 v1 v2 e356 e358 hi hj e (Int32.le_iff_toInt_le.mp z) (by rw [es]; omega)
          · refine PQ.refuse (r := 3) (v := -1000000) R (by decide) ?_ (fun U hU => ?_)
            · unfold f_X11_gives
              rw [k0, Option.bind_some, g0_6, Option.bind_some, B30.has_in hB h6 hi, Option.bind_some, if_neg (by decide), Option.bind_some, B30.has_in hB h6 hj, Option.bind_some, if_neg (by decide), if_neg ne, if_neg w1, if_pos (show w ≤ (9 : Int32) from Int32.not_lt.mp w2), Option.bind_some, B30.debt (by omega) (by omega), Option.bind_some, hd, Option.bind_some, B30.g5, Option.bind_some, hB5, if_neg z, show f_X11_refuse (hp S c) 0 3 (-1000000) = some (-1000000, hp (cfx S 3) c) from X11_refuse (r := 3) (by decide), Option.bind_some]
            · subst hU
              have q : (T0 (cfx S 3)).1 364 = S.1 364 := by
                rw [T0_ne (by decide)]
                exact wA_ne (by decide)
              have q5 : (T0 (cfx S 3)).1 356 = S.1 356 := by
                rw [T0_ne (by decide)]
                exact wA_ne (by decide)
              unfold f_X12_gives
              rw [k351, Option.bind_some, T0_p, Option.bind_some, r_isHouse_in (M 3) h6 hi, Option.bind_some, if_neg (by decide), r_isHouse_in (M 3) h6 hj, Option.bind_some, if_neg (by decide), if_neg ne, isIn_1 (u := 9) (m := 9) (by decide) rfl, hin, Option.bind_some, if_neg (show ¬ bI true = 0 by decide), g351_32, Option.bind_some, ix6, a364 (by omega), Option.bind_some, q, g351_18, Option.bind_some, show aI (hp (T0 (cfx S 3)) c) 356 (1 : Int32) = some ((T0 (cfx S 3)).1 356 1) from a356 (k := 1) (by decide), Option.bind_some, q5, if_neg z, show f_X12_refused (hp (T0 (cfx S 3)) c) 351 3 (-1000000) = some (-1000000, hp (rfx (T0 (cfx S 3)) 3) c) from rf 3 (by decide), Option.bind_some]
    · refine PQ.refuse (r := 0) (v := -1000000) R (by decide) ?_ (fun U hU => ?_)
      · unfold f_X11_gives f_X11_gives_b22
        rw [k0, Option.bind_some, g0_6, Option.bind_some, B30.has_in hB h6 hi, Option.bind_some, if_neg (by decide), Option.bind_some, B30.has_out hB hy, Option.bind_some, if_pos rfl, show f_X11_refuse (hp S c) 0 0 (-1000000) = some (-1000000, hp (cfx S 0) c) from X11_refuse (r := 0) (by decide), Option.bind_some]
      · subst hU
        unfold f_X12_gives f_X12_gives_b21
        rw [k351, Option.bind_some, T0_p, Option.bind_some, r_isHouse_in (M 0) h6 hi, Option.bind_some, if_neg (by decide), r_isHouse_out (M 0) hy, Option.bind_some, if_pos rfl, show f_X12_refused (hp (T0 (cfx S 0)) c) 351 0 (-1000000) = some (-1000000, hp (rfx (T0 (cfx S 0)) 0) c) from rf 0 (by decide), Option.bind_some]
  · refine PQ.refuse (r := 0) (v := -1000000) R (by decide) ?_ (fun U hU => ?_)
    · unfold f_X11_gives f_X11_gives_b22
      rw [k0, Option.bind_some, g0_6, Option.bind_some, B30.has_out hB hx, Option.bind_some, if_pos rfl, show f_X11_refuse (hp S c) 0 0 (-1000000) = some (-1000000, hp (cfx S 0) c) from X11_refuse (r := 0) (by decide), Option.bind_some]
    · subst hU
      unfold f_X12_gives f_X12_gives_b21
      rw [k351, Option.bind_some, T0_p, Option.bind_some, r_isHouse_out (M 0) hx, Option.bind_some, if_pos rfl, show f_X12_refused (hp (T0 (cfx S 0)) c) 351 0 (-1000000) = some (-1000000, hp (rfx (T0 (cfx S 0)) 0) c) from rf 0 (by decide), Option.bind_some]
end GI
