/-! IMAGE: class and reference -/
section IM2
variable {S : XS} {c : Nat × Nat} {n : Nat}
theorem pc51 {a : Nat} (h : (30 ≤ a ∧ a < 40) ∨ (45 ≤ a ∧ a < 60)) : pj S a = S.1 a := by
  refine pj_cell fun k => ?_
  rcases (by omega : a = 30 ∨ a = 31 ∨ a = 32 ∨ a = 33 ∨ a = 34 ∨ a = 35 ∨ a = 36 ∨ a = 37 ∨ a = 38 ∨ a = 39 ∨ a = 45 ∨ a = 46 ∨ a = 47 ∨ a = 48 ∨ a = 49 ∨ a = 50 ∨ a = 51 ∨ a = 52 ∨ a = 53 ∨ a = 54 ∨ a = 55 ∨ a = 56 ∨ a = 57 ∨ a = 58 ∨ a = 59) with rfl | rfl | rfl | rfl | rfl | rfl | rfl | rfl | rfl | rfl | rfl | rfl | rfl | rfl | rfl | rfl | rfl | rfl | rfl | rfl | rfl | rfl | rfl | rfl | rfl <;> rfl
theorem pr_image (R : RR n (pj S)) : PQ n c (fun h => f_X11_image h 0) (fun h => f_X12_image h 351) S := by
  obtain ⟨N, W⟩ := R.now
  have h6 := W.2.1
  by_cases hN : N = 0
  · subst hN
    refine PQ.same (v := -1) (S1 := S) (S2 := T0 S) R ?_ ?_ rfl T0_pj
    · unfold f_X11_image
      rw [k0, Option.bind_some, g0_6, Option.bind_some, B30.g4, Option.bind_some, W.2.2.2.2.2.2.1, if_pos (show nI 0 = 0 from rfl)]
    · unfold f_X12_image
      rw [k351, Option.bind_some, T0_p, Option.bind_some, g351_26, Option.bind_some, W.t0.2.2.1, if_pos (show nI 0 = 0 from rfl)]
  · have nz : ¬ nI N = 0 := nI_ne0 (by omega) (by omega)
    obtain ⟨cr, c1, c2, c3, -⟩ := R.log
    obtain ⟨S1, e1, e2, e3⟩ := B51.become (S := S) (c := c) B30 (by decide)
    obtain ⟨S2, y1, y2, y3⟩ := X1_becomeI (S := S1) (c := c)
    have put : f_X11_image (hp S c) 0 = some (nI cr, hp (wA S2 49 (upd (S2.1 49) 5 1)) c) := by
      unfold f_X11_image f_X3_takeImage
      rw [k0, Option.bind_some, g0_6, Option.bind_some, B30.g4, Option.bind_some, W.2.2.2.2.2.2.1, if_neg nz, g0_10, Option.bind_some, Option.bind_some, g0_9, Option.bind_some, k49, Option.bind_some, g49_1, Option.bind_some, e1, Option.bind_some, g49_2, Option.bind_some, y1, Option.bind_some, p49_5, Option.bind_some, Option.bind_some, g0_6, Option.bind_some, B30.g8, Option.bind_some, wA_ne (by decide), y3.1 30 (by decide), e3.1 30 (by decide), c2]
    have U49 : (wA S2 49 (upd (S2.1 49) 5 1)).1 49 = upd (S.1 49) 5 1 := by rw [wA_same, y3.1 49 (by decide), e3.1 49 (by decide)]
    have UX : ∀ a, a ≠ 49 → a < 51 ∨ 59 < a → (wA S2 49 (upd (S2.1 49) 5 1)).1 a = S.1 a := fun a h1 h2 => by rw [wA_ne h1, y3.1 a (by omega), e3.1 a (by omega)]
    have U51 : ∀ a, 51 ≤ a → a < 56 → (wA S2 49 (upd (S2.1 49) 5 1)).1 a = S1.1 a := fun a h1 h2 => by rw [wA_ne (by omega), y3.1 a (by omega)]
    have U57 : ∀ k, k < 128 → (wA S2 49 (upd (S2.1 49) 5 1)).1 57 k = S.1 46 k ∧ (wA S2 49 (upd (S2.1 49) 5 1)).1 58 k = S.1 47 k ∧ (wA S2 49 (upd (S2.1 49) 5 1)).1 59 k = S.1 48 k := by
      intro k hk
      obtain ⟨a1, a2, a3⟩ := y2 k hk
      refine ⟨?_, ?_, ?_⟩
      · rw [wA_ne (by decide), show (57 : Nat) = 56 + 1 from rfl, a1, e3.1 46 (by decide)]
      · rw [wA_ne (by decide), show (58 : Nat) = 56 + 2 from rfl, a2, e3.1 47 (by decide)]
      · rw [wA_ne (by decide), show (59 : Nat) = 56 + 3 from rfl, a3, e3.1 48 (by decide)]
    generalize wA S2 49 (upd (S2.1 49) 5 1) = U at put U49 UX U51 U57
    have ref : f_X12_image (hp U c) 351 = some (nI cr, hp (wA (wA (T0 U) 377 (cpR ((T0 U).1 364) ((T0 U).1 377) 232)) 351 (upd ((T0 U).1 351) 56 1)) c) := by
      unfold f_X12_image
      rw [k351, Option.bind_some, T0_p, Option.bind_some, g351_26, Option.bind_some, T0_351 (by decide), UX 351 (by decide) (by decide), W.2.2.1, if_neg nz, r_image, T0_ne (by decide), UX 364 (by decide) (by decide), c3]
    have W351 : (wA (wA (T0 U) 377 (cpR ((T0 U).1 364) ((T0 U).1 377) 232)) 351 (upd ((T0 U).1 351) 56 1)).1 351 = upd ((T0 U).1 351) 56 1 := wA_same
    have W377 : (wA (wA (T0 U) 377 (cpR ((T0 U).1 364) ((T0 U).1 377) 232)) 351 (upd ((T0 U).1 351) 56 1)).1 377 = cpR (S.1 364) (U.1 377) 232 := by rw [wA_ne (by decide), wA_same, T0_ne (by decide), T0_ne (by decide), UX 364 (by decide) (by decide)]
    have WX : ∀ a, a ≠ 351 → a ≠ 377 → (wA (wA (T0 U) 377 (cpR ((T0 U).1 364) ((T0 U).1 377) 232)) 351 (upd ((T0 U).1 351) 56 1)).1 a = U.1 a := fun a h1 h2 => by rw [wA_ne h1, wA_ne h2, T0_ne h1]
    generalize wA (wA (T0 U) 377 (cpR ((T0 U).1 364) ((T0 U).1 377) 232)) 351 (upd ((T0 U).1 351) 56 1) = V at ref W351 W377 WX
    refine PQ.mk (nI cr) U V put ref (RR_image R ?_ ?_ ?_ ?_ ?_ ?_ ?_ ?_ ?_ ?_ ?_ ?_)
    · intro a h1 h2 h3 h4
      exact pj_eq (by rw [WX a h3 h4, UX a h1 h2])
    · intro j hj
      show V.1 49 j = S.1 49 j
      rw [WX 49 (by decide) (by decide), U49, upd_ne hj]
    · show V.1 49 5 = 1
      rw [WX 49 (by decide) (by decide), U49, upd_same]
    · intro j hj
      by_cases h : pers 351 j = true
      · have n0 : j ≠ 0 := by rintro rfl; exact absurd h (by decide)
        rw [pj_at h, pj_at h, W351, upd_ne hj, T0_351 n0, UX 351 (by decide) (by decide)]
      · unfold pj
        rw [if_neg h, if_neg h]
    · show V.1 351 56 = 1
      rw [W351, upd_same]
    · intro k hk
      rw [pc51 (by decide), pc51 (by decide), WX 52 (by decide) (by decide), U51 52 (by decide) (by decide)]
      exact e2.1 k hk
    · intro k hk
      rw [pc51 (by decide), pc51 (by decide), WX 53 (by decide) (by decide), U51 53 (by decide) (by decide)]
      exact e2.2.1 k hk
    · intro k hk
      rw [pc51 (by decide), pc51 (by decide), WX 54 (by decide) (by decide), U51 54 (by decide) (by decide)]
      exact e2.2.2.1 k hk
    · intro k hk
      rw [pc51 (by decide), pc51 (by decide), WX 55 (by decide) (by decide), U51 55 (by decide) (by decide)]
      exact e2.2.2.2.1 k hk
    · intro k h4 h9
      rw [pc51 (by decide), pc51 (by decide), WX 51 (by decide) (by decide), U51 51 (by decide) (by decide)]
      exact e2.2.2.2.2 k h4 h9
    · intro k hk
      rw [pc51 (by decide), pc51 (by decide), pc51 (by decide), pc51 (by decide), pc51 (by decide), pc51 (by decide), WX 57 (by decide) (by decide), WX 58 (by decide) (by decide), WX 59 (by decide) (by decide)]
      exact U57 k hk
    · intro i hi
      rw [show pj V 377 = V.1 377 from pj_cell fun _ => rfl, c364, W377]
      exact if_pos hi
end IM2
