/-! COUNT -/
section CT2
variable {S : XS} {c : Nat × Nat} {n : Nat}
theorem pr_count (R : RR n (pj S)) (x : Int32) : PP n c (fun h => f_X11_count h 0 x) (fun h => f_X12_count h 351 x) S := by
  obtain ⟨cr, c1, c2, c3, c4, c5, -⟩ := R.log
  have hl := X11_logLen (c := c) c1 c2
  obtain ⟨N, W⟩ := R.now
  have w26 := W.2.2.1
  have w30 := W.2.2.2.2.2.2.1
  have w5 := W.2.2.2.2.2.2.2.1
  obtain ⟨⟨N', F, v1, v2, v3, ⟨A, q, cr', v4⟩, v5, m, v6⟩, ⟨tl, t⟩, ⟨ns, sl, dg, s⟩, ⟨nl, ll, l⟩, mi⟩ := R
  have R : RR n (pj S) := ⟨⟨N', F, v1, v2, v3, ⟨A, q, cr', v4⟩, v5, m, v6⟩, ⟨tl, t⟩, ⟨ns, sl, dg, s⟩, ⟨nl, ll, l⟩, mi⟩
  have l2 : S.1 16 3 = nI nl := l.2.1
  have l4 : S.1 351 7 = nI nl := l.2.2.2.1
  have l5 : S.1 0 17 = S.1 351 35 := l.2.2.2.2.1
  have s2 : S.1 23 3 = nI ns := s.2.1
  have s4 : S.1 351 30 = nI ns := s.2.2.2.1
  have t2 : S.1 0 16 = nI tl := t.2.1
  have t3 : S.1 351 6 = nI tl := t.2.2.1
  have m1 : S.1 0 18 = S.1 351 36 := mi.1
  have v62 : S.1 260 6 = nI m := v6.2.1
  have v63 : S.1 351 51 = nI m := v6.2.2.1
  have v43 : S.1 351 40 = nI A := v4.2.2.1
  have v44 : S.1 49 4 = nI A := v4.2.2.2.1
  have rr : ∀ v, f_X12_count (hp S c) 351 x = some (v, hp (T0 S) c) → f_X11_count (hp S c) 0 x = some v → PP n c (fun h => f_X11_count h 0 x) (fun h => f_X12_count h 351 x) S := fun v h1 h2 => PP.mk v (T0 S) R h2 h1 T0_pj
  by_cases x0 : x = 0
  · subst x0
    refine rr (nI N) ?_ ?_
    · unfold f_X12_count
      rw [k351, Option.bind_some, T0_p, Option.bind_some, if_pos rfl, g351_26, Option.bind_some, T0_351 (by decide), w26]
    · unfold f_X11_count
      rw [k0, Option.bind_some, if_pos rfl, g0_6, Option.bind_some, B30.g4, Option.bind_some, w30]
  by_cases x1 : x = 1
  · subst x1
    refine rr (S.1 356 1) ?_ ?_
    · unfold f_X12_count
      rw [k351, Option.bind_some, T0_p, Option.bind_some, if_neg x0, if_pos rfl, g351_18, Option.bind_some, show aI (hp (T0 S) c) 356 (1 : Int32) = some ((T0 S).1 356 1) from a356 (k := 1) (by decide), Option.bind_some, T0_ne (by decide)]
    · unfold f_X11_count
      rw [k0, Option.bind_some, if_neg x0, if_pos rfl, g0_6, Option.bind_some, B30.g5, Option.bind_some, w5]
  by_cases x2 : x = 2
  · subst x2
    refine rr (nI nl) ?_ ?_
    · unfold f_X12_count
      rw [k351, Option.bind_some, T0_p, Option.bind_some, if_neg x0, if_neg x1, if_pos rfl, g351_7, Option.bind_some, T0_351 (by decide), l4]
    · unfold f_X11_count
      rw [k0, Option.bind_some, if_neg x0, if_neg x1, if_pos rfl, g0_4, Option.bind_some, g16_3, Option.bind_some, l2]
  by_cases x3 : x = 3
  · subst x3
    refine rr (nI ns) ?_ ?_
    · unfold f_X12_count
      rw [k351, Option.bind_some, T0_p, Option.bind_some, if_neg x0, if_neg x1, if_neg x2, if_pos rfl, g351_30, Option.bind_some, T0_351 (by decide), s4]
    · unfold f_X11_count
      rw [k0, Option.bind_some, if_neg x0, if_neg x1, if_neg x2, if_pos rfl, g0_5, Option.bind_some, g23_3, Option.bind_some, s2]
  by_cases x4 : x = 4
  · subst x4
    refine rr (nI tl) ?_ ?_
    · unfold f_X12_count
      rw [k351, Option.bind_some, T0_p, Option.bind_some, if_neg x0, if_neg x1, if_neg x2, if_neg x3, if_pos rfl, g351_6, Option.bind_some, T0_351 (by decide), t3]
    · unfold f_X11_count
      rw [k0, Option.bind_some, if_neg x0, if_neg x1, if_neg x2, if_neg x3, if_pos rfl, g0_16, Option.bind_some, t2]
  by_cases x5 : x = 5
  · subst x5
    refine rr (S.1 351 35) ?_ ?_
    · unfold f_X12_count
      rw [k351, Option.bind_some, T0_p, Option.bind_some, if_neg x0, if_neg x1, if_neg x2, if_neg x3, if_neg x4, if_pos rfl, g351_35, Option.bind_some, T0_351 (by decide)]
    · unfold f_X11_count
      rw [k0, Option.bind_some, if_neg x0, if_neg x1, if_neg x2, if_neg x3, if_neg x4, if_pos rfl, g0_17, Option.bind_some, l5]
  by_cases x6 : x = 6
  · subst x6
    refine rr (nI cr) ?_ ?_
    · unfold f_X12_count
      rw [k351, Option.bind_some, T0_p, Option.bind_some, if_neg x0, if_neg x1, if_neg x2, if_neg x3, if_neg x4, if_neg x5, if_pos rfl, g351_32, Option.bind_some, show aI (hp (T0 S) c) 364 (50 : Int32) = some ((T0 S).1 364 50) from a364 (k := 50) (by decide), Option.bind_some, T0_ne (by decide), c3]
    · unfold f_X11_count
      rw [k0, Option.bind_some, if_neg x0, if_neg x1, if_neg x2, if_neg x3, if_neg x4, if_neg x5, if_pos rfl, g0_6, Option.bind_some, B30.g8, Option.bind_some, c2]
  by_cases x7 : x = 7
  · subst x7
    refine rr (S.1 364 49) ?_ ?_
    · unfold f_X12_count
      rw [k351, Option.bind_some, T0_p, Option.bind_some, if_neg x0, if_neg x1, if_neg x2, if_neg x3, if_neg x4, if_neg x5, if_neg x6, if_pos rfl, g351_32, Option.bind_some, show aI (hp (T0 S) c) 364 (49 : Int32) = some ((T0 S).1 364 49) from a364 (k := 49) (by decide), Option.bind_some, T0_ne (by decide)]
    · unfold f_X11_count
      rw [k0, Option.bind_some, if_neg x0, if_neg x1, if_neg x2, if_neg x3, if_neg x4, if_neg x5, if_neg x6, if_pos rfl, g0_6, Option.bind_some, B30.g7, Option.bind_some, c5]
  by_cases x8 : x = 8
  · subst x8
    refine rr (S.1 351 36) ?_ ?_
    · unfold f_X12_count
      rw [k351, Option.bind_some, T0_p, Option.bind_some, if_neg x0, if_neg x1, if_neg x2, if_neg x3, if_neg x4, if_neg x5, if_neg x6, if_neg x7, if_pos rfl, g351_36, Option.bind_some, T0_351 (by decide)]
    · unfold f_X11_count
      rw [k0, Option.bind_some, if_neg x0, if_neg x1, if_neg x2, if_neg x3, if_neg x4, if_neg x5, if_neg x6, if_neg x7, if_pos rfl, g0_18, Option.bind_some, m1]
  by_cases x9 : x = 9
  · subst x9
    refine rr (nI m) ?_ ?_
    · unfold f_X12_count
      rw [k351, Option.bind_some, T0_p, Option.bind_some, if_neg x0, if_neg x1, if_neg x2, if_neg x3, if_neg x4, if_neg x5, if_neg x6, if_neg x7, if_neg x8, if_pos rfl, g351_51, Option.bind_some, T0_351 (by decide), v63]
    · unfold f_X11_count
      rw [k0, Option.bind_some, if_neg x0, if_neg x1, if_neg x2, if_neg x3, if_neg x4, if_neg x5, if_neg x6, if_neg x7, if_neg x8, if_pos rfl, g0_11, Option.bind_some, g260_6, Option.bind_some, v62]
  by_cases x10 : x = 10
  · subst x10
    refine rr (nI (min cr 60)) ?_ ?_
    · unfold f_X12_count
      rw [k351, Option.bind_some, T0_p, Option.bind_some, if_neg x0, if_neg x1, if_neg x2, if_neg x3, if_neg x4, if_neg x5, if_neg x6, if_neg x7, if_neg x8, if_neg x9, if_pos rfl, g351_32, Option.bind_some, show aI (hp (T0 S) c) 364 (51 : Int32) = some ((T0 S).1 364 51) from a364 (k := 51) (by decide), Option.bind_some, T0_ne (by decide), c4]
    · unfold f_X11_count
      rw [k0, Option.bind_some, if_neg x0, if_neg x1, if_neg x2, if_neg x3, if_neg x4, if_neg x5, if_neg x6, if_neg x7, if_neg x8, if_neg x9, if_pos rfl, hl, Option.bind_some]
  by_cases x11 : x = 11
  · subst x11
    refine rr (nI A) ?_ ?_
    · unfold f_X12_count
      rw [k351, Option.bind_some, T0_p, Option.bind_some, if_neg x0, if_neg x1, if_neg x2, if_neg x3, if_neg x4, if_neg x5, if_neg x6, if_neg x7, if_neg x8, if_neg x9, if_neg x10, if_pos rfl, g351_40, Option.bind_some, T0_351 (by decide), v43]
    · unfold f_X11_count
      rw [k0, Option.bind_some, if_neg x0, if_neg x1, if_neg x2, if_neg x3, if_neg x4, if_neg x5, if_neg x6, if_neg x7, if_neg x8, if_neg x9, if_neg x10, if_pos rfl, g0_10, Option.bind_some, g49_4, Option.bind_some, v44]
  refine rr (-1000000) ?_ ?_
  · unfold f_X12_count
    rw [k351, Option.bind_some, T0_p, Option.bind_some, if_neg x0, if_neg x1, if_neg x2, if_neg x3, if_neg x4, if_neg x5, if_neg x6, if_neg x7, if_neg x8, if_neg x9, if_neg x10, if_neg x11]
  · unfold f_X11_count
    rw [k0, Option.bind_some, if_neg x0, if_neg x1, if_neg x2, if_neg x3, if_neg x4, if_neg x5, if_neg x6, if_neg x7, if_neg x8, if_neg x9, if_neg x10, if_neg x11]
end CT2
