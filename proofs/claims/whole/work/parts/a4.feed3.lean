/-! FEED: class and reference -/
section FD3
variable {S : XS} {c : Nat × Nat} {n : Nat}
theorem RR_feed {tl : Nat} {l : List (Int32 × Int32)} (R : RR n (pj S)) (t1 : Rtape (pj S) tl) (hl : tl + l.length ≤ 240) (hb : ∀ q, q ∈ l → byR q.1 q.2) : RR (n + 1) (pj (psh2 (T0 (psh1 S tl l)) tl l)) := by
  have hc : ∀ a, a ≠ 0 → a ≠ 1 → a ≠ 351 → a ≠ 352 → pj (psh2 (T0 (psh1 S tl l)) tl l) a = pj S a := by
    intro a h0 h1 h2 h3
    funext k
    unfold pj psh2 T0 psh1
    rw [wA_ne h2, wA_ne h3, wA_ne h2, wA_ne h0, wA_ne h1]
  have k0' : ∀ k, k ≠ 16 → pj (psh2 (T0 (psh1 S tl l)) tl l) 0 k = pj S 0 k := by
    intro k hk
    show (psh2 (T0 (psh1 S tl l)) tl l).1 0 k = S.1 0 k
    unfold psh2 T0 psh1
    rw [wA_ne (by decide), wA_ne (by decide), wA_ne (by decide), wA_same, upd_ne hk]
  have k1' : ∀ k, k ≠ 6 → pj (psh2 (T0 (psh1 S tl l)) tl l) 351 k = pj S 351 k := by
    intro k hk
    by_cases h : pers 351 k = true
    · rw [pj_at h, pj_at h]
      unfold psh2
      rw [wA_same, upd_ne hk]
      have n0 : k ≠ 0 := by rintro rfl; exact absurd h (by decide)
      rw [T0_351 n0]
      unfold psh1
      rw [wA_ne (by decide), wA_ne (by decide)]
    · unfold pj
      rw [if_neg h, if_neg h]
  obtain ⟨⟨N, F, v1, v2, v3, ⟨A, q, cr, v4⟩, v5, m, v6⟩, -, ⟨ns, sl, dg, s1⟩, ⟨nl, ll, l1⟩, mi⟩ := R
  have cc := fun a (h0 : a ≠ 0) (h1 : a ≠ 1) (h2 : a ≠ 351) (h3 : a ≠ 352) (k : Nat) => congrFun (hc a h0 h1 h2 h3) k
  have C : ∀ a, 2 ≤ a → a < 351 ∨ 352 < a → pj (psh2 (T0 (psh1 S tl l)) tl l) a = pj S a := fun a h h' => hc a (by omega) (by omega) (by omega) (by omega)
  have D : ∀ a k, 2 ≤ a → a < 351 ∨ 352 < a → pj (psh2 (T0 (psh1 S tl l)) tl l) a k = pj S a k := fun a k h h' => congrFun (C a h h') k
  refine RR.mono (n := n) ⟨⟨N, F, v1.cg (k1' _ (by decide)) (k1' _ (by decide)) (D _ _ (by decide) (by decide)) (C _ (by decide) (by decide)) (C _ (by decide) (by decide)), v2.cg (C _ (by decide) (by decide)) (C _ (by decide) (by decide)) (C _ (by decide) (by decide)) (C _ (by decide) (by decide)) (C _ (by decide) (by decide)) (C _ (by decide) (by decide)) (D _ _ (by decide) (by decide)) (C _ (by decide) (by decide)), v3.cg (C _ (by decide) (by decide)) (C _ (by decide) (by decide)) (C _ (by decide) (by decide)) (C _ (by decide) (by decide)) (C _ (by decide) (by decide)) (C _ (by decide) (by decide)) (C _ (by decide) (by decide)) (C _ (by decide) (by decide)), ⟨A, q, cr, v4.cg (k1' _ (by decide)) (C _ (by decide) (by decide)) (C _ (by decide) (by decide)) (C _ (by decide) (by decide)) (C _ (by decide) (by decide)) (C _ (by decide) (by decide)) (C _ (by decide) (by decide)) (D _ _ (by decide) (by decide)) (C _ (by decide) (by decide)) (fun a _ _ => C _ (by omega) (by omega))⟩, v5.cg (D _ _ (by decide) (by decide)) (k1' _ (by decide)) (fun a _ _ => C _ (by omega) (by omega)) (C _ (by decide) (by decide)) (D _ _ (by decide) (by decide)) (C _ (by decide) (by decide)), m, v6.cg (k1' _ (by decide)) (fun a _ _ => C _ (by omega) (by omega)) (C _ (by decide) (by decide))⟩, ⟨tl + l.length, ?_⟩, ⟨ns, sl, dg, s1.cg (C _ (by decide) (by decide)) (k1' _ (by decide)) (C _ (by decide) (by decide)) (fun k _ => D _ _ (by decide) (by decide)) (fun a _ _ => C _ (by omega) (by omega)) (fun k _ => D _ _ (by decide) (by decide))⟩, ⟨nl, ll, l1.cg (C _ (by decide) (by decide)) (C _ (by decide) (by decide)) (k1' _ (by decide)) (k0' _ (by decide)) (k1' _ (by decide)) (C _ (by decide) (by decide)) (C _ (by decide) (by decide)) (fun a _ _ => C _ (by omega) (by omega))⟩, mi.cg (k0' _ (by decide)) (k1' _ (by decide)) (C _ (by decide) (by decide)) (C _ (by decide) (by decide)) (C _ (by decide) (by decide)) (C _ (by decide) (by decide)) (C _ (by decide) (by decide)) (C _ (by decide) (by decide))⟩ (by omega)
  obtain ⟨a1, a2, a3, a4⟩ := t1
  have p1 : pj (psh2 (T0 (psh1 S tl l)) tl l) 1 = pshL (S.1 1) tl (l.map Prod.fst) := by
    rw [show pj (psh2 (T0 (psh1 S tl l)) tl l) 1 = (psh2 (T0 (psh1 S tl l)) tl l).1 1 from pj_cell fun _ => rfl]
    unfold psh2 T0 psh1
    rw [wA_ne (by decide), wA_ne (by decide), wA_ne (by decide), wA_ne (by decide), wA_same]
  have p2 : pj (psh2 (T0 (psh1 S tl l)) tl l) 352 = pshL (S.1 352) tl (l.map Prod.snd) := by
    rw [show pj (psh2 (T0 (psh1 S tl l)) tl l) 352 = (psh2 (T0 (psh1 S tl l)) tl l).1 352 from pj_cell fun _ => rfl]
    unfold psh2 T0 psh1
    rw [wA_ne (by decide), wA_same, wA_ne (by decide), wA_ne (by decide), wA_ne (by decide)]
  refine ⟨hl, ?_, ?_, fun k hk => ?_⟩
  · show (psh2 (T0 (psh1 S tl l)) tl l).1 0 16 = _
    unfold psh2 T0
    rw [wA_ne (by decide), wA_ne (by decide), wA_ne (by decide), psh1_t]
  · show (psh2 (T0 (psh1 S tl l)) tl l).1 351 6 = _
    exact psh2_t
  · rw [p1, p2]
    refine psh_by l tl (S.1 1) (S.1 352) hb (fun j hj => ?_) k hk
    have := a4 j hj
    rw [show pj S 1 = S.1 1 from pj_cell fun _ => rfl, show pj S 352 = S.1 352 from pj_cell fun _ => rfl] at this
    exact this
theorem pr_feed (R : RR n (pj S)) (x1 x2 x3 x4 x5 : Int32) : PQ n c (fun h => f_X11_feed h 0 x1 x2 x3 x4 x5) (fun h => f_X12_feed h 351 x1 x2 x3 x4 x5) S := by
  obtain ⟨tl, t⟩ := R.2.1
  have t1 := t.1
  have t2 : S.1 0 16 = nI tl := t.2.1
  have t3 : S.1 351 6 = nI tl := t.2.2.1
  have l1 := bp_len (v := x1)
  have l2 := bp_len (v := x2)
  have l3 := bp_len (v := x3)
  have l4 := bp_len (v := x4)
  have l5 := bp_len (v := x5)
  by_cases e : tl + ((bp x1).length + (bp x2).length + (bp x3).length + (bp x4).length + (bp x5).length) ≤ 240
  · have hl : tl + (bp x1 ++ bp x2 ++ bp x3 ++ bp x4 ++ bp x5).length ≤ 240 := by
      simp only [List.length_append]
      omega
    refine PQ.mk (nI (tl + (bp x1 ++ bp x2 ++ bp x3 ++ bp x4 ++ bp x5).length)) (psh1 S tl (bp x1 ++ bp x2 ++ bp x3 ++ bp x4 ++ bp x5)) (psh2 (T0 (psh1 S tl (bp x1 ++ bp x2 ++ bp x3 ++ bp x4 ++ bp x5))) tl (bp x1 ++ bp x2 ++ bp x3 ++ bp x4 ++ bp x5)) ?_ ?_ (RR_feed R t hl (fun q hq => ?_))
    · unfold f_X11_feed
      rw [k0, Option.bind_some, X11_bytesIn, Option.bind_some, X11_bytesIn, Option.bind_some, X11_bytesIn, Option.bind_some, X11_bytesIn, Option.bind_some, X11_bytesIn, Option.bind_some, g0_16, Option.bind_some, t2, nI_add, nI_add, nI_add, nI_add, nI_add, if_pos (le_lit (u := 240) (m := 240) rfl e (by decide)), X11_append t2 (by omega), Option.bind_some, X11_append psh1_t (by omega), psh1_app, Option.bind_some, X11_append psh1_t (by simp only [List.length_append]; omega), psh1_app, Option.bind_some, X11_append psh1_t (by simp only [List.length_append]; omega), psh1_app, Option.bind_some, X11_append psh1_t (by simp only [List.length_append]; omega), psh1_app, Option.bind_some, g0_16, Option.bind_some, psh1_t]
    · have t3' : (T0 (psh1 S tl (bp x1 ++ bp x2 ++ bp x3 ++ bp x4 ++ bp x5))).1 351 6 = nI tl := by
        rw [T0_351 (by decide)]
        unfold psh1
        rw [wA_ne (by decide), wA_ne (by decide)]
        exact t3
      unfold f_X12_feed
      rw [k351, Option.bind_some, T0_p, Option.bind_some, g351_6, Option.bind_some, t3', X12_bytesIn, Option.bind_some, X12_bytesIn, Option.bind_some, X12_bytesIn, Option.bind_some, X12_bytesIn, Option.bind_some, X12_bytesIn, Option.bind_some, nI_add, nI_add, nI_add, nI_add, nI_add, if_pos (show nI (tl + (bp x1).length + (bp x2).length + (bp x3).length + (bp x4).length + (bp x5).length) ≤ (240 : Int32) from le_lit (m := 240) rfl (by omega) (by decide)), X12_put t3' (by omega), Option.bind_some, X12_put psh2_t (by omega), psh2_app, Option.bind_some, X12_put psh2_t (by simp only [List.length_append]; omega), psh2_app, Option.bind_some, X12_put psh2_t (by simp only [List.length_append]; omega), psh2_app, Option.bind_some, X12_put psh2_t (by simp only [List.length_append]; omega), psh2_app, Option.bind_some, g351_6, Option.bind_some, psh2_t]
    · simp only [List.mem_append] at hq
      rcases hq with (((h | h) | h) | h) | h <;> exact bp_by q h
  · refine PQ.same (v := -1) (S1 := S) (S2 := T0 S) R ?_ ?_ rfl T0_pj
    · unfold f_X11_feed
      rw [k0, Option.bind_some, X11_bytesIn, Option.bind_some, X11_bytesIn, Option.bind_some, X11_bytesIn, Option.bind_some, X11_bytesIn, Option.bind_some, X11_bytesIn, Option.bind_some, g0_16, Option.bind_some, t2, nI_add, nI_add, nI_add, nI_add, nI_add, if_neg (fun z => e ?_)]
      rw [show (240 : Int32) = nI 240 from rfl, nI_leI (by omega) (by omega)] at z
      exact z
    · unfold f_X12_feed
      rw [k351, Option.bind_some, T0_p, Option.bind_some, g351_6, Option.bind_some, T0_351 (by decide), t3, X12_bytesIn, Option.bind_some, X12_bytesIn, Option.bind_some, X12_bytesIn, Option.bind_some, X12_bytesIn, Option.bind_some, X12_bytesIn, Option.bind_some, nI_add, nI_add, nI_add, nI_add, nI_add, if_neg (fun z => e ?_)]
      rw [show (240 : Int32) = nI 240 from rfl, nI_leI (by omega) (by omega)] at z
      omega
end FD3
