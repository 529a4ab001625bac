/-! UNDO: class and reference -/
section UN2
variable {S : XS} {c : Nat × Nat} {n : Nat}
theorem pr_undo (R : RR n (pj S)) : PQ n c (fun h => f_X11_undo h 0) (fun h => f_X12_undo h 351) S := by
  obtain ⟨⟨N, F, v1, v2, v3, ⟨A, q, cr, v4⟩, v5, m, v6⟩, rest⟩ := R
  have R : RR n (pj S) := ⟨⟨N, F, v1, v2, v3, ⟨A, q, cr, v4⟩, v5, m, v6⟩, rest⟩
  have hA := v4.1
  have hq := v4.2.1
  have h40 : S.1 351 40 = nI A := v4.2.2.1
  have h4 : S.1 49 4 = nI A := v4.2.2.2.1
  have h3 : S.1 49 3 = nI q := v4.2.2.2.2.1
  by_cases e : A = 0
  · subst e
    refine PQ.same (v := -1) (S1 := S) (S2 := T0 S) R ?_ ?_ rfl T0_pj
    · unfold f_X11_undo f_X3_recall
      rw [k0, Option.bind_some, g0_10, Option.bind_some, g0_6, Option.bind_some, k49, Option.bind_some, g49_4, Option.bind_some, h4, if_neg (show ¬ (0 : Int32) < nI 0 by decide), Option.bind_some, if_pos rfl]
    · unfold f_X12_undo
      rw [k351, Option.bind_some, T0_p, Option.bind_some, g351_40, Option.bind_some, T0_351 (by decide), h40, if_pos (show nI 0 = 0 from rfl)]
  · obtain ⟨A, rfl⟩ : ∃ B, A = B + 1 := ⟨A - 1, by omega⟩
    have qm : (q + 39) % 40 < 40 := Nat.mod_lt _ (by decide)
    have im : irem (nI q + 40 - 1) 40 = nI ((q + 39) % 40) := by
      have : ∀ q, q < 40 → irem (nI q + 40 - 1) 40 = nI ((q + 39) % 40) := by decide +kernel
      exact this q hq
    have p0 : (0 : Int32) < nI (A + 1) := show nI 0 < nI (A + 1) from nI_lt (by omega) (by omega)
    obtain ⟨S2, e1, e2, e3⟩ := B30.become (S := wA S 49 (upd (upd (S.1 49) 3 (nI ((q + 39) % 40))) 4 (nI A))) (c := c) (B60 qm) (by omega)
    have put : f_X11_undo (hp S c) 0 = some (nI A, hp S2 c) := by
      unfold f_X11_undo f_X3_recall
      rw [k0, Option.bind_some, g0_10, Option.bind_some, g0_6, Option.bind_some, k49, Option.bind_some, g49_4, Option.bind_some, h4, if_pos p0, g49_3, Option.bind_some, h3, im, p49_3, Option.bind_some, g49_4, Option.bind_some, wA_same, upd_ne (by decide), h4, nI_prd (by omega), p49_4, Option.bind_some, wA_wA, wA_same, g49_0, Option.bind_some, g49_3, Option.bind_some, wA_same, upd_ne (by decide), upd_same, a50 qm, Option.bind_some, show A + 1 - 1 = A from rfl, e1, Option.bind_some, Option.bind_some, if_neg (show ¬ (1 : Int32) = 0 by decide), g0_10, Option.bind_some, g49_4, Option.bind_some, e3.1 49 (by omega), wA_same, upd_same]
    have U49 : S2.1 49 = upd (upd (S.1 49) 3 (nI ((q + 39) % 40))) 4 (nI A) := by rw [e3.1 49 (by omega), wA_same]
    have UX : ∀ a, a < 30 ∨ 34 < a → a ≠ 49 → S2.1 a = S.1 a := fun a h1 h2 => by rw [e3.1 a (by omega), wA_ne h2]
    obtain ⟨b1, b2, b3, b4, b5⟩ := e2
    rw [wA_ne (by omega)] at b1 b2 b3 b4 b5
    have ref : f_X12_undo (hp S2 c) 351 = some (nI A, hp (wA (wA (T0 S2) 351 (upd ((T0 S2).1 351) 40 (nI A))) 364 (cpR (fun k => S.1 369 (232 * A + k)) (S.1 364) 232)) c) := by
      unfold f_X12_undo
      rw [k351, Option.bind_some, T0_p, Option.bind_some, g351_40, Option.bind_some, T0_351 (by decide), UX 351 (by omega) (by omega), h40, if_neg (nI_ne0 (by omega) (by omega)), Option.bind_some, nI_prd (by omega), p351_40, Option.bind_some, show A + 1 - 1 = A from rfl, r_undo (A := A) (by omega) (by rw [wA_same, upd_same]), wA_ne (show 369 ≠ 351 by decide), wA_ne (show 364 ≠ 351 by decide), T0_ne (show 369 ≠ 351 by decide), T0_ne (show 364 ≠ 351 by decide), UX 369 (by omega) (by omega), UX 364 (by omega) (by omega)]
    have W351 : (wA (wA (T0 S2) 351 (upd ((T0 S2).1 351) 40 (nI A))) 364 (cpR (fun k => S.1 369 (232 * A + k)) (S.1 364) 232)).1 351 = upd ((T0 S2).1 351) 40 (nI A) := by rw [wA_ne (by decide), wA_same]
    have W364 : (wA (wA (T0 S2) 351 (upd ((T0 S2).1 351) 40 (nI A))) 364 (cpR (fun k => S.1 369 (232 * A + k)) (S.1 364) 232)).1 364 = cpR (fun k => S.1 369 (232 * A + k)) (S.1 364) 232 := wA_same
    have WX : ∀ a, a ≠ 351 → a ≠ 364 → (wA (wA (T0 S2) 351 (upd ((T0 S2).1 351) 40 (nI A))) 364 (cpR (fun k => S.1 369 (232 * A + k)) (S.1 364) 232)).1 a = S2.1 a := fun a h1 h2 => by rw [wA_ne h2, wA_ne h1, T0_ne h1]
    generalize wA (wA (T0 S2) 351 (upd ((T0 S2).1 351) 40 (nI A))) 364 (cpR (fun k => S.1 369 (232 * A + k)) (S.1 364) 232) = V at ref W351 W364 WX
    refine PQ.mk (nI A) S2 V put ref (RR_undo (A := A) (q := q) (cr := cr) (m := m) R v1 v2 v3 v4 v5 v6 ?_ ?_ ?_ ?_ ?_ ?_ ?_ ?_ ?_ ?_ ?_ ?_)
    · intro a h1 h2 h3 h4
      exact pj_eq (by rw [WX a h3 h4, UX a h1 h2])
    · show V.1 49 5 = S.1 49 5
      rw [WX 49 (by decide) (by decide), U49]
      rfl
    · show V.1 49 3 = _
      rw [WX 49 (by decide) (by decide), U49]
      rfl
    · show V.1 49 4 = _
      rw [WX 49 (by decide) (by decide), U49]
      rfl
    · intro k hk
      rw [pc_all (by omega), pc_all (by omega), WX 31 (by decide) (by decide)]
      exact b1 k hk
    · intro k hk
      rw [pc_all (by omega), pc_all (by omega), WX 32 (by decide) (by decide)]
      exact b2 k hk
    · intro k hk
      rw [pc_all (by omega), pc_all (by omega), WX 33 (by decide) (by decide)]
      exact b3 k hk
    · intro k hk
      rw [pc_all (by omega), pc_all (by omega), WX 34 (by decide) (by decide)]
      exact b4 k hk
    · intro k h4 h9
      rw [pc_all (by omega), pc_all (by omega), WX 30 (by decide) (by decide)]
      exact b5 k h4 h9
    · intro j hj
      by_cases h : pers 351 j = true
      · have n0 : j ≠ 0 := by rintro rfl; exact absurd h (by decide)
        rw [pj_at h, pj_at h, W351, upd_ne hj, T0_351 n0, UX 351 (by omega) (by omega)]
      · unfold pj
        rw [if_neg h, if_neg h]
    · show V.1 351 40 = nI A
      rw [W351, upd_same]
    · intro k hk
      rw [c364, show pj S 369 = S.1 369 from pj_cell fun _ => rfl, W364]
      exact if_pos hk
end UN2
