/-! FORGIVES -/
section FG
variable {S : XS} {c : Nat × Nat} {n : Nat}
theorem Rnow_sd {S1 U1 : XS} {N F x y : Nat} {v : Int32} (s1 : ∀ a, a < 60 ∨ 259 < a → a ≠ 49 → S1.1 a = S.1 a) (u1 : ∀ a, a ≠ 351 → a ≠ 369 → U1.1 a = (wA S1 31 (sdF (S1.1 31) x y v)).1 a) (v1 : Rvil (pj S) N F) (v2 : Rnow (pj S) N) (e356 : pj (wA U1 364 (sdF (S.1 364) x y v)) 356 = pj S 356) (e358 : pj (wA U1 364 (sdF (S.1 364) x y v)) 358 = pj S 358) (hx : x < N) (hy : y < N) (hne : x ≠ y) (h1 : v.toInt ≤ (S.1 356 1).toInt) (h2 : -(S.1 356 1).toInt ≤ v.toInt) : Rnow (pj (wA U1 364 (sdF (S.1 364) x y v))) N := by
  have h6 := v1.2.1
  have h99 := v1.2.2.2.2.2.2.1
  rw [c356] at h99
  obtain ⟨⟨k1, k2, k3⟩, ⟨r1, r2, r3, r4, r5, r6⟩, ok⟩ := v2
  rw [c364] at r1 r2 r3 r4 r5 r6 ok
  have V31 : pj (wA U1 364 (sdF (S.1 364) x y v)) 31 = sdF (pj S 31) x y v := by
    rw [pc_all (by decide), pc_all (by decide), wA_ne (by decide), u1 31 (by decide) (by decide), wA_same, s1 31 (by decide) (by decide)]
  have VO : ∀ a, 30 ≤ a → a ≤ 34 → a ≠ 31 → pj (wA U1 364 (sdF (S.1 364) x y v)) a = pj S a := fun a h1 h2 h3 => pj_eq (by rw [wA_ne (by omega), u1 a (by omega) (by omega), wA_ne h3, s1 a (by omega) (by omega)])
  have V364 : pj (wA U1 364 (sdF (S.1 364) x y v)) 364 = sdF (S.1 364) x y v := by rw [c364, wA_same]
  refine ⟨⟨?_, ?_, fun k hk => ?_⟩, ⟨fun k hk => ?_, fun k hk => ?_, fun k hk => ?_, ?_, ?_, ?_⟩, ?_⟩
  · rw [VO _ (by decide) (by decide) (by decide)]; exact k1
  · rw [VO _ (by decide) (by decide) (by decide), e356]; exact k2
  · rw [VO _ (by decide) (by decide) (by decide), e358]; exact k3 k hk
  · rw [V364]
    show pj (wA U1 364 (sdF (S.1 364) x y v)) 31 k = _
    rw [V31]
    have q : pj S 31 k = S.1 364 k := r1 k hk
    unfold sdF upd
    by_cases c1 : k = 6 * y + x
    · rw [if_pos c1, if_pos c1]
    · rw [if_neg c1, if_neg c1]
      by_cases c2 : k = 6 * x + y
      · rw [if_pos c2, if_pos c2]
      · rw [if_neg c2, if_neg c2]
        exact q
  · rw [VO _ (by decide) (by decide) (by decide), V364, sdF_far (by omega) (by omega) (by omega)]; exact r2 k hk
  · rw [VO _ (by decide) (by decide) (by decide), V364, sdF_far (by omega) (by omega) (by omega)]; exact r3 k hk
  · rw [VO _ (by decide) (by decide) (by decide), V364, sdF_far (by omega) (by omega) (by omega)]; exact r4
  · rw [VO _ (by decide) (by decide) (by decide), V364, sdF_far (by omega) (by omega) (by omega)]; exact r5
  · rw [VO _ (by decide) (by decide) (by decide), V364, sdF_far (by omega) (by omega) (by omega)]; exact r6
  · rw [e356, V364, c356]
    rw [c356] at ok
    exact rOk_sd ok h6 hx hy hne h99 h1 h2
theorem pr_forgives (R : RR n (pj S)) (x y : Int32) : PQ n c (fun h => f_X11_forgives h 0 x y) (fun h => f_X12_forgives h 351 x y) S := by
  obtain ⟨N, W⟩ := R.now
  have h6 := W.2.1
  have hB := W.2.2.2.2.2.2.1
  have rf : ∀ r, r < 6 → f_X12_refused (hp (T0 (cfx S r)) c) 351 (nI r) (-1000000) = some (-1000000, hp (rfx (T0 (cfx S r)) r) c) := fun r hr => X12_refused hr
  have M := fun r => (W.cfx (r := r)).t0.2.2.1
  rcases ix_of (x := x) (N := N) (by omega) with ⟨i, hi, rfl⟩ | hx
  · rcases ix_of (x := y) (N := N) (by omega) with ⟨j, hj, rfl⟩ | hy
    · by_cases e : i = j
      · subst e
        refine PQ.refuse (r := 1) (v := -1000000) R (by decide) ?_ (fun U hU => ?_)
        · unfold f_X11_forgives
          rw [k0, Option.bind_some, g0_6, Option.bind_some, B30.has_in hB h6 hi, Option.bind_some, if_neg (by decide), Option.bind_some, B30.has_in hB h6 hi, Option.bind_some, if_neg (by decide), if_pos rfl, show f_X11_refuse (hp S c) 0 1 (-1000000) = some (-1000000, hp (cfx S 1) c) from X11_refuse (r := 1) (by decide), Option.bind_some]
        · subst hU
          unfold f_X12_forgives
          rw [k351, Option.bind_some, T0_p, Option.bind_some, r_isHouse_in (M 1) h6 hi, Option.bind_some, if_neg (by decide), Option.bind_some, if_neg (by decide), if_pos rfl, show f_X12_refused (hp (T0 (cfx S 1)) c) 351 1 (-1000000) = some (-1000000, hp (rfx (T0 (cfx S 1)) 1) c) from rf 1 (by decide), Option.bind_some]
      · have ne : ¬ nI i = nI j := fun z => e ((nI_eq (by omega) (by omega)).mp z)
        have hd : S.1 31 (6 * i + j) = S.1 364 (6 * i + j) := W.D _ (by omega)
        by_cases z : S.1 364 (6 * i + j) = 0
        · refine PQ.refuse (r := 2) (v := -1000000) R (by decide) ?_ (fun U hU => ?_)
          · unfold f_X11_forgives
            rw [k0, Option.bind_some, g0_6, Option.bind_some, B30.has_in hB h6 hi, Option.bind_some, if_neg (by decide), Option.bind_some, B30.has_in hB h6 hj, Option.bind_some, if_neg (by decide), if_neg ne, Option.bind_some, B30.debt (by omega) (by omega), Option.bind_some, hd, if_pos z, show f_X11_refuse (hp S c) 0 2 (-1000000) = some (-1000000, hp (cfx S 2) c) from X11_refuse (r := 2) (by decide), Option.bind_some]
          · subst hU
            have q : (T0 (cfx S 2)).1 364 = S.1 364 := by
              rw [T0_ne (by decide)]
              exact wA_ne (by decide)
            unfold f_X12_forgives
            rw [k351, Option.bind_some, T0_p, Option.bind_some, r_isHouse_in (M 2) h6 hi, Option.bind_some, if_neg (by decide), r_isHouse_in (M 2) h6 hj, Option.bind_some, if_neg (by decide), if_neg ne, g351_32, Option.bind_some, ix6, a364 (by omega), Option.bind_some, q, if_pos z, show f_X12_refused (hp (T0 (cfx S 2)) c) 351 2 (-1000000) = some (-1000000, hp (rfx (T0 (cfx S 2)) 2) c) from rf 2 (by decide), Option.bind_some]
        · refine act_pair (v := S.1 364 (6 * i + j)) R (fun S1 s1 e1 => ?_)
          refine ⟨wA S1 31 (sdF (S1.1 31) i j 0), ?_, fun a h => wA_ne (by omega), fun U1 u1 u2 u3 e2 => ?_⟩
          · unfold f_X11_forgives
            rw [k0, Option.bind_some, g0_6, Option.bind_some, B30.has_in hB h6 hi, Option.bind_some, if_neg (by decide), Option.bind_some, B30.has_in hB h6 hj, Option.bind_some, if_neg (by decide), if_neg ne, Option.bind_some, B30.debt (by omega) (by omega), Option.bind_some, hd, if_neg z, g0_10, Option.bind_some, Option.bind_some, e1, Option.bind_some, g0_6, Option.bind_some, B30.setDebt (by omega) (by omega), Option.bind_some]
            rfl
          · have U364 : U1.1 364 = S.1 364 := by rw [u1 364 (by decide) (by decide), wA_ne (by decide), s1 364 (by decide) (by decide)]
            have t26 : (T0 (wA S1 31 (sdF (S1.1 31) i j 0))).1 351 26 = nI N := by rw [T0_351 (by decide), u3]; exact W.2.2.1
            have t364 : (T0 (wA S1 31 (sdF (S1.1 31) i j 0))).1 364 = S.1 364 := by rw [T0_ne (by decide), wA_ne (by decide), s1 364 (by decide) (by decide)]
            refine ⟨wA U1 364 (sdF (S.1 364) i j 0), ?_, fun a h => wA_ne h, fun k h1 h2 => ?_, fun N' F v1 v2 e356 e358 => ?_⟩
            · unfold f_X12_forgives f_X12_clears
              rw [k351, Option.bind_some, T0_p, Option.bind_some, r_isHouse_in t26 h6 hi, Option.bind_some, if_neg (by decide), r_isHouse_in t26 h6 hj, Option.bind_some, if_neg (by decide), if_neg ne, g351_32, Option.bind_some, ix6, a364 (by omega), Option.bind_some, t364, if_neg z, e2, Option.bind_some, g351_32, Option.bind_some, q364 (by omega), Option.bind_some, ix6, q364 (by omega), Option.bind_some, Option.bind_some, wA_wA, wA_same, U364]
              rfl
            · rw [wA_same, sdF_far (by omega) (by omega) (by omega)]
            · have eN : N' = N := by
                have q1 : S.1 351 26 = nI N' := v1.2.2.1
                exact (nI_eq (by have := v1.2.1; omega) (by omega)).mp (q1.symm.trans W.2.2.1)
              subst eN
              have hl := W.2.2.2.2.1
              exact Rnow_sd s1 u1 v1 v2 e356 e358 hi hj e (by show (0 : Int) ≤ _; omega) (by show _ ≤ (0 : Int); omega)
    · refine PQ.refuse (r := 0) (v := -1000000) R (by decide) ?_ (fun U hU => ?_)
      · unfold f_X11_forgives f_X11_forgives_b22
        rw [k0, Option.bind_some, g0_6, Option.bind_some, B30.has_in hB h6 hi, Option.bind_some, if_neg (by decide), Option.bind_some, B30.has_out hB hy, Option.bind_some, if_pos rfl, show f_X11_refuse (hp S c) 0 0 (-1000000) = some (-1000000, hp (cfx S 0) c) from X11_refuse (r := 0) (by decide), Option.bind_some]
      · subst hU
        unfold f_X12_forgives f_X12_forgives_b21
        rw [k351, Option.bind_some, T0_p, Option.bind_some, r_isHouse_in (M 0) h6 hi, Option.bind_some, if_neg (by decide), r_isHouse_out (M 0) hy, Option.bind_some, if_pos rfl, show f_X12_refused (hp (T0 (cfx S 0)) c) 351 0 (-1000000) = some (-1000000, hp (rfx (T0 (cfx S 0)) 0) c) from rf 0 (by decide), Option.bind_some]
  · refine PQ.refuse (r := 0) (v := -1000000) R (by decide) ?_ (fun U hU => ?_)
    · unfold f_X11_forgives f_X11_forgives_b22
      rw [k0, Option.bind_some, g0_6, Option.bind_some, B30.has_out hB hx, Option.bind_some, if_pos rfl, show f_X11_refuse (hp S c) 0 0 (-1000000) = some (-1000000, hp (cfx S 0) c) from X11_refuse (r := 0) (by decide), Option.bind_some]
    · subst hU
      unfold f_X12_forgives f_X12_forgives_b21
      rw [k351, Option.bind_some, T0_p, Option.bind_some, r_isHouse_out (M 0) hx, Option.bind_some, if_pos rfl, show f_X12_refused (hp (T0 (cfx S 0)) c) 351 0 (-1000000) = some (-1000000, hp (rfx (T0 (cfx S 0)) 0) c) from rf 0 (by decide), Option.bind_some]
end FG
