/-! BACK -/
section BK
variable {S : XS} {c : Nat × Nat} {n : Nat}
theorem r_back : f_X12_back_b16 1048576 (hp S c) 351 0 = some (S.1 377 50, hp (wA (wA S 364 (cpR (S.1 377) (S.1 364) 232)) 351 (upd (S.1 351) 40 0)) c) := by
  have h0 : S = wA S 364 (cpR (S.1 377) (S.1 364) 0) := by rw [cpR_0, wA_self]
  have l0 : f_X12_back_b16 1048576 (hp (wA S 364 (cpR (S.1 377) (S.1 364) 0)) c) 351 (nI 0) = some (S.1 377 50, hp (wA (wA S 364 (cpR (S.1 377) (S.1 364) 232)) 351 (upd (S.1 351) 40 0)) c) := by
    refine lp (N := 232) (fun n k => f_X12_back_b16 n (hp (wA S 364 (cpR (S.1 377) (S.1 364) k)) c) 351 (nI k)) (fun n => ?_) (fun n k hk => ?_) 232 0 1048576 (by omega) (by omega)
    · show f_X12_back_b16 (n + 1) _ 351 (nI 232) = _
      rw [f_X12_back_b16, if_pos (by decide), p351_40, Option.bind_some, g351_32, Option.bind_some, show (50 : Int32) = nI 50 from rfl, a364 (by decide), Option.bind_some, wA_ne (show 364 ≠ 351 by decide), wA_same, wA_ne (show 351 ≠ 364 by decide)]
      rfl
    · show f_X12_back_b16 (n + 1) _ 351 (nI k) = _
      rw [f_X12_back_b16, if_neg (by rw [show (232 : Int32) = nI 232 from rfl]; exact nI_ge hk (by decide)), g351_32, Option.bind_some, g351_55, Option.bind_some, a377 hk, Option.bind_some, q364 hk, Option.bind_some, nI_1, wA_wA, wA_same, wA_ne (show (377 : Nat) ≠ 364 by decide), cpR_step]
  rw [← h0] at l0
  exact l0
theorem RR_back {p p' : PJ} (R : RR n p) (h5 : p 49 5 = 1) (C : ∀ a, a ≠ 49 → a < 30 ∨ 34 < a → a < 46 ∨ 48 < a → a ≠ 351 → a ≠ 364 → p' a = p a) (y : p' 49 5 = p 49 5) (y3 : p' 49 3 = nI 0) (y4 : p' 49 4 = nI 0) (K : ∀ j, j ≠ 40 → p' 351 j = p 351 j) (K40 : p' 351 40 = nI 0) (b1 : ∀ k, k < 36 → p' 31 k = p 52 k) (b2 : ∀ k, k < 6 → p' 32 k = p 53 k) (b3 : ∀ k, k < 6 → p' 33 k = p 54 k) (b4 : ∀ k, k < 6 → p' 34 k = p 55 k) (b5 : ∀ k, 4 ≤ k → k < 9 → p' 30 k = p 51 k) (cc : ∀ k, k < 128 → p' 46 k = p 57 k ∧ p' 47 k = p 58 k ∧ p' 48 k = p 59 k) (x : ∀ i, i < 232 → p' 364 i = p 377 i) : RR (n + 1) p' := by
  obtain ⟨⟨N, F, v1, v2, v3, ⟨A, q, cr, v4⟩, v5, m, v6⟩, ⟨tl, t1⟩, ⟨ns, sl, dg, s1⟩, ⟨nl, ll, l1⟩, mi⟩ := R
  have h6 := v1.2.1
  have D : ∀ a j, a ≠ 49 → a < 30 ∨ 34 < a → a < 46 ∨ 48 < a → a ≠ 351 → a ≠ 364 → p' a j = p a j := fun a j h1 h2 h3 h4 h5 => congrFun (C a h1 h2 h3 h4 h5) j
  have v5' : Rimg p' N := v5.cg y (K _ (by decide)) (fun a _ _ => C _ (by omega) (by omega) (by omega) (by omega) (by omega)) (C _ (by decide) (by decide) (by decide) (by decide) (by decide)) (D _ _ (by decide) (by decide) (by decide) (by decide) (by decide)) (C _ (by decide) (by decide) (by decide) (by decide) (by decide))
  obtain ⟨i1, i2, ⟨k1, k2, k3⟩, ⟨r1, r2, r3, r4, r5, r6⟩, ok, ci, lg⟩ : p 49 5 = 1 ∧ p 351 56 = 1 ∧ bKo p 51 N ∧ bRo p 51 (p 377) ∧ rOk N (p 356 1) (p 377) ∧ ∃ cr, lgR (p 57) (p 58) (p 59) (p 377) cr := by
    rcases v5 with ⟨z, -⟩ | z
    · rw [z] at h5
      exact absurd h5 (by decide)
    · exact z
  have now : Rnow p' N := by
    refine ⟨⟨?_, ?_, fun k hk => ?_⟩, ⟨fun k hk => ?_, fun k hk => ?_, fun k hk => ?_, ?_, ?_, ?_⟩, ?_⟩
    · rw [b5 4 (by decide) (by decide)]; exact k1
    · rw [b5 5 (by decide) (by decide), D 356 1 (by decide) (by decide) (by decide) (by decide) (by decide)]; exact k2
    · rw [b3 k (by omega), D 358 _ (by decide) (by decide) (by decide) (by decide) (by decide)]; exact k3 k hk
    · rw [b1 k hk, x _ (by omega)]; exact r1 k hk
    · rw [b2 k hk, x _ (by omega)]; exact r2 k hk
    · rw [b4 k hk, x _ (by omega)]; exact r3 k hk
    · rw [b5 6 (by decide) (by decide), x _ (by omega)]; exact r4
    · rw [b5 7 (by decide) (by decide), x _ (by omega)]; exact r5
    · rw [b5 8 (by decide) (by decide), x _ (by omega)]; exact r6
    · rw [D 356 1 (by decide) (by decide) (by decide) (by decide) (by decide)]
      exact rOk_congr (fun i hi => x i (by omega)) ok
  refine RR.mono (n := n) ⟨⟨N, F, v1.cg (K _ (by decide)) (K _ (by decide)) (D _ _ (by decide) (by decide) (by decide) (by decide) (by decide)) (C _ (by decide) (by decide) (by decide) (by decide) (by decide)) (C _ (by decide) (by decide) (by decide) (by decide) (by decide)), now, v3.cg (C _ (by decide) (by decide) (by decide) (by decide) (by decide)) (C _ (by decide) (by decide) (by decide) (by decide) (by decide)) (C _ (by decide) (by decide) (by decide) (by decide) (by decide)) (C _ (by decide) (by decide) (by decide) (by decide) (by decide)) (C _ (by decide) (by decide) (by decide) (by decide) (by decide)) (C _ (by decide) (by decide) (by decide) (by decide) (by decide)) (C _ (by decide) (by decide) (by decide) (by decide) (by decide)) (C _ (by decide) (by decide) (by decide) (by decide) (by decide)), ⟨0, 0, fun _ => ci, by decide, by decide, K40, y4, y3, lgR_congr lg (fun k hk => (cc k hk).1) (fun k hk => (cc k hk).2.1) (fun k hk => (cc k hk).2.2) x, fun i hi => by omega⟩, v5', m, v6.cg (K _ (by decide)) (fun a _ _ => C _ (by omega) (by omega) (by omega) (by omega) (by omega)) (C _ (by decide) (by decide) (by decide) (by decide) (by decide))⟩, ⟨tl, t1.cg (D _ _ (by decide) (by decide) (by decide) (by decide) (by decide)) (K _ (by decide)) (C _ (by decide) (by decide) (by decide) (by decide) (by decide)) (C _ (by decide) (by decide) (by decide) (by decide) (by decide))⟩, ⟨ns, sl, dg, s1.cg (C _ (by decide) (by decide) (by decide) (by decide) (by decide)) (K _ (by decide)) (C _ (by decide) (by decide) (by decide) (by decide) (by decide)) (fun j _ => D _ _ (by decide) (by decide) (by decide) (by decide) (by decide)) (fun a _ _ => C _ (by omega) (by omega) (by omega) (by omega) (by omega)) (fun j _ => D _ _ (by decide) (by decide) (by decide) (by decide) (by decide))⟩, ⟨nl, ll, l1.cg (C _ (by decide) (by decide) (by decide) (by decide) (by decide)) (C _ (by decide) (by decide) (by decide) (by decide) (by decide)) (K _ (by decide)) (D _ _ (by decide) (by decide) (by decide) (by decide) (by decide)) (K _ (by decide)) (C _ (by decide) (by decide) (by decide) (by decide) (by decide)) (C _ (by decide) (by decide) (by decide) (by decide) (by decide)) (fun a _ _ => C _ (by omega) (by omega) (by omega) (by omega) (by omega))⟩, mi.cg (D _ _ (by decide) (by decide) (by decide) (by decide) (by decide)) (K _ (by decide)) (C _ (by decide) (by decide) (by decide) (by decide) (by decide)) (C _ (by decide) (by decide) (by decide) (by decide) (by decide)) (C _ (by decide) (by decide) (by decide) (by decide) (by decide)) (C _ (by decide) (by decide) (by decide) (by decide) (by decide)) (C _ (by decide) (by decide) (by decide) (by decide) (by decide)) (C _ (by decide) (by decide) (by decide) (by decide) (by decide))⟩ (by omega)
theorem pr_back (R : RR n (pj S)) : PQ n c (fun h => f_X11_back h 0) (fun h => f_X12_back h 351) S := by
  have im := R.1
  obtain ⟨N, F, v1, v2, v3, v4, v5, v6⟩ := im
  by_cases h5 : S.1 49 5 = 0
  · have h56 : S.1 351 56 = 0 := by
      rcases v5 with ⟨-, z⟩ | ⟨z, -⟩
      · exact z
      · have z' : S.1 49 5 = 1 := z
        rw [h5] at z'
        exact absurd z' (by decide)
    refine PQ.same (v := -1) (S1 := S) (S2 := T0 S) R ?_ ?_ rfl T0_pj
    · unfold f_X11_back f_X3_bringBack
      rw [k0, Option.bind_some, g0_10, Option.bind_some, g0_6, Option.bind_some, g0_9, Option.bind_some, k49, Option.bind_some, g49_5, Option.bind_some, if_pos h5, Option.bind_some, if_pos rfl]
    · unfold f_X12_back
      rw [k351, Option.bind_some, T0_p, Option.bind_some, g351_56, Option.bind_some, T0_351 (by decide), if_pos h56]
  · obtain ⟨z5, z56, -, ⟨-, -, -, -, -, r6⟩, -⟩ : S.1 49 5 = 1 ∧ S.1 351 56 = 1 ∧ bKo (pj S) 51 N ∧ bRo (pj S) 51 (pj S 377) ∧ rOk N (pj S 356 1) (pj S 377) ∧ ∃ cr, lgR (pj S 57) (pj S 58) (pj S 59) (pj S 377) cr := by
      rcases v5 with ⟨z, -⟩ | z
      · exact absurd z h5
      · exact z
    have r6' : S.1 51 8 = S.1 377 50 := by
      rw [pc51 (by decide), show pj S 377 = S.1 377 from pj_cell fun _ => rfl] at r6
      exact r6
    obtain ⟨S1, e1, e2, e3⟩ := B30.become (S := S) (c := c) B51 (by decide)
    obtain ⟨S2, y1, y2, y3⟩ := X1_becomeB (S := S1) (c := c)
    have put : f_X11_back (hp S c) 0 = some (S.1 377 50, hp (wA S2 49 (upd (upd (S2.1 49) 3 0) 4 0)) c) := by
      unfold f_X11_back f_X3_bringBack f_X3_forgetActs
      rw [k0, Option.bind_some, g0_10, Option.bind_some, g0_6, Option.bind_some, g0_9, Option.bind_some, k49, Option.bind_some, g49_5, Option.bind_some, if_neg h5, g49_1, Option.bind_some, e1, Option.bind_some, g49_2, Option.bind_some, y1, Option.bind_some, k49, Option.bind_some, p49_3, Option.bind_some, p49_4, Option.bind_some, wA_wA, wA_same, Option.bind_some, Option.bind_some, if_neg (show ¬ (1 : Int32) = 0 by decide), g0_6, Option.bind_some, B30.g8, Option.bind_some, wA_ne (by decide), y3.1 30 (by decide), e2.2.2.2.2 8 (by decide) (by decide), r6']
    have U49 : (wA S2 49 (upd (upd (S2.1 49) 3 0) 4 0)).1 49 = upd (upd (S.1 49) 3 0) 4 0 := by rw [wA_same, y3.1 49 (by decide), e3.1 49 (by decide)]
    have UX : ∀ a, a ≠ 49 → a < 30 ∨ 34 < a → a < 46 ∨ 48 < a → (wA S2 49 (upd (upd (S2.1 49) 3 0) 4 0)).1 a = S.1 a := fun a h1 h2 h3 => by rw [wA_ne h1, y3.1 a (by omega), e3.1 a (by omega)]
    have U30 : ∀ a, 30 ≤ a → a < 35 → (wA S2 49 (upd (upd (S2.1 49) 3 0) 4 0)).1 a = S1.1 a := fun a h1 h2 => by rw [wA_ne (by omega), y3.1 a (by omega)]
    have U46 : ∀ k, k < 128 → (wA S2 49 (upd (upd (S2.1 49) 3 0) 4 0)).1 46 k = S.1 57 k ∧ (wA S2 49 (upd (upd (S2.1 49) 3 0) 4 0)).1 47 k = S.1 58 k ∧ (wA S2 49 (upd (upd (S2.1 49) 3 0) 4 0)).1 48 k = S.1 59 k := by
      intro k hk
      obtain ⟨a1, a2, a3⟩ := y2 k hk
      refine ⟨?_, ?_, ?_⟩
      · rw [wA_ne (by decide), show (46 : Nat) = 45 + 1 from rfl, a1, e3.1 57 (by decide)]
      · rw [wA_ne (by decide), show (47 : Nat) = 45 + 2 from rfl, a2, e3.1 58 (by decide)]
      · rw [wA_ne (by decide), show (48 : Nat) = 45 + 3 from rfl, a3, e3.1 59 (by decide)]
    generalize wA S2 49 (upd (upd (S2.1 49) 3 0) 4 0) = U at put U49 UX U30 U46
    have ref : f_X12_back (hp U c) 351 = some (S.1 377 50, hp (wA (wA (T0 U) 364 (cpR ((T0 U).1 377) ((T0 U).1 364) 232)) 351 (upd ((T0 U).1 351) 40 0)) c) := by
      unfold f_X12_back
      rw [k351, Option.bind_some, T0_p, Option.bind_some, g351_56, Option.bind_some, T0_351 (by decide), UX 351 (by decide) (by decide) (by decide), z56, if_neg (show ¬ (1 : Int32) = 0 by decide), r_back, T0_ne (show 377 ≠ 351 by decide), UX 377 (by decide) (by decide) (by decide)]
    have W351 : (wA (wA (T0 U) 364 (cpR ((T0 U).1 377) ((T0 U).1 364) 232)) 351 (upd ((T0 U).1 351) 40 0)).1 351 = upd ((T0 U).1 351) 40 0 := wA_same
    have W364 : (wA (wA (T0 U) 364 (cpR ((T0 U).1 377) ((T0 U).1 364) 232)) 351 (upd ((T0 U).1 351) 40 0)).1 364 = cpR (S.1 377) (U.1 364) 232 := by rw [wA_ne (by decide), wA_same, T0_ne (by decide), T0_ne (by decide), UX 377 (by decide) (by decide) (by decide)]
    have WX : ∀ a, a ≠ 351 → a ≠ 364 → (wA (wA (T0 U) 364 (cpR ((T0 U).1 377) ((T0 U).1 364) 232)) 351 (upd ((T0 U).1 351) 40 0)).1 a = U.1 a := fun a h1 h2 => by rw [wA_ne h1, wA_ne h2, T0_ne h1]
    generalize wA (wA (T0 U) 364 (cpR ((T0 U).1 377) ((T0 U).1 364) 232)) 351 (upd ((T0 U).1 351) 40 0) = V at ref W351 W364 WX
    refine PQ.mk (S.1 377 50) U V put ref (RR_back R z5 ?_ ?_ ?_ ?_ ?_ ?_ ?_ ?_ ?_ ?_ ?_ ?_ ?_)
    · intro a h1 h2 h3 h4 h5
      exact pj_eq (by rw [WX a h4 h5, UX a h1 h2 h3])
    · show V.1 49 5 = S.1 49 5
      rw [WX 49 (by decide) (by decide), U49]
      rfl
    · show V.1 49 3 = nI 0
      rw [WX 49 (by decide) (by decide), U49]
      rfl
    · show V.1 49 4 = nI 0
      rw [WX 49 (by decide) (by decide), U49]
      rfl
    · intro j hj
      by_cases h : pers 351 j = true
      · have n0 : j ≠ 0 := by rintro rfl; exact absurd h (by decide)
        rw [pj_at h, pj_at h, W351, upd_ne hj, T0_351 n0, UX 351 (by decide) (by decide) (by decide)]
      · unfold pj
        rw [if_neg h, if_neg h]
    · show V.1 351 40 = nI 0
      rw [W351, upd_same]
      rfl
    · intro k hk
      rw [pc51 (by decide), pc51 (by decide), WX 31 (by decide) (by decide), U30 31 (by decide) (by decide)]
      exact e2.1 k hk
    · intro k hk
      rw [pc51 (by decide), pc51 (by decide), WX 32 (by decide) (by decide), U30 32 (by decide) (by decide)]
      exact e2.2.1 k hk
    · intro k hk
      rw [pc51 (by decide), pc51 (by decide), WX 33 (by decide) (by decide), U30 33 (by decide) (by decide)]
      exact e2.2.2.1 k hk
    · intro k hk
      rw [pc51 (by decide), pc51 (by decide), WX 34 (by decide) (by decide), U30 34 (by decide) (by decide)]
      exact e2.2.2.2.1 k hk
    · intro k h4 h9
      rw [pc51 (by decide), pc51 (by decide), WX 30 (by decide) (by decide), U30 30 (by decide) (by decide)]
      exact e2.2.2.2.2 k h4 h9
    · intro k hk
      rw [pc51 (by decide), pc51 (by decide), pc51 (by decide), pc51 (by decide), pc51 (by decide), pc51 (by decide), WX 46 (by decide) (by decide), WX 47 (by decide) (by decide), WX 48 (by decide) (by decide)]
      exact U46 k hk
    · intro i hi
      rw [show pj S 377 = S.1 377 from pj_cell fun _ => rfl, c364, W364]
      exact if_pos hi
end BK
