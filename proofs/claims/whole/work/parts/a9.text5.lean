/-! TEXT: a song, class and reference -/
section TX5
variable {S : XS} {c : Nat × Nat} {n : Nat}
theorem pr_text2 (R : RR n (pj S)) : PQ n c (fun h => f_X11_text h 0 2) (fun h => f_X12_text h 351 2) S := by
  obtain ⟨tl, t1, t2, t3, t4⟩ := R.tape
  obtain ⟨ns, sl, dg, l⟩ := R.2.2.1
  have l1 := l.1
  have l2 : S.1 23 3 = nI ns := l.2.1
  have l3 : S.1 23 2 = nI 16 := l.2.2.1
  have l4 : S.1 351 30 = nI ns := l.2.2.2.1
  have hc := X8_read (S := S) (c := c) (T := S.1 1) (ta := 1) (D := fun _ => 0) t1 s1 t1 (by decide) (by decide) (fun k _ => rfl)
  rw [← t2, ← cf2] at hc
  have hr : ∀ U : XS, U.1 352 = S.1 352 → U.1 351 6 = nI tl → rsR (wT (T0 U) 351 352) c (f_X12_readSong (hp (T0 U) c) 351) (sgF (S.1 1) tl (tl + 1) 0 (fun _ => 0) 0) := by
    intro U u1 u2
    exact X12_song (S := T0 U) (c := c) (T := S.1 1) t1 (by rw [T0_351 (by decide)]; exact u2) (fun k hk => by rw [T0_ne (by decide), u1]; exact t4 k hk)
  have rb : ∀ U : XS, U.1 351 30 = nI ns → f_X12_text (hp U c) 351 2 = if ns = 4 then some (-1, hp (T0 U) c) else f_X12_text_b43 (hp (T0 U) c) 351 2 := by
    intro U u
    unfold f_X12_text f_X12_text_b30
    rw [k351, Option.bind_some, T0_p, Option.bind_some, show f_X12_isIn (hp (T0 U) c) (2 : Int32).toInt64 (0 : Int64) (2 : Int64) = some 1 from isIn_in (k := 2) (m := 2) (by decide) (by decide) rfl, Option.bind_some, if_neg (by decide), if_neg (by decide), if_pos rfl, g351_30, Option.bind_some, T0_351 (by decide), u]
    by_cases e : ns = 4
    · rw [if_pos (by rw [e]; rfl), if_pos e]
    · rw [if_neg (show ¬ nI ns = (4 : Int32) from fun z => e ((nI_eq (b := 4) (by omega) (by decide)).mp z)), if_neg e]
  have ctx : ∀ (v : Int32) (S1 : XS), f_X11_fault (hp S c) 0 2 = some (v, hp S1 c) → v ≠ -1 → f_X11_text (hp S c) 0 2 = some (-1, hp S1 c) := by
    intro v S1 h1 h2
    unfold f_X11_text
    rw [k0, Option.bind_some, h1, Option.bind_some, if_neg h2]
  cases hv : sgF (S.1 1) tl (tl + 1) 0 (fun _ => 0) 0 with
  | inl f =>
    have f240 := sgF_mono (T := S.1 1) (L := tl) (tl + 1) 0 (fun _ => 0) 0 (Nat.zero_le _) f hv
    have nf : nI f ≠ -1 := m1_ne (by omega)
    obtain ⟨S1, e1, e2⟩ := hc.1 f hv
    have u30 : S1.1 351 30 = nI ns := by rw [e2.1 351 (by omega)]; exact l4
    obtain ⟨S2, y1, y2, y3⟩ := (hr (T0 S1) (by rw [T0_ne (by decide), e2.1 352 (by omega)]; rfl) (by rw [T0_351 (by decide), e2.1 351 (by omega)]; exact t3)).1 f hv
    by_cases e4 : ns = 4
    · refine PQ.same (v := -1) R (ctx _ _ e1 nf) ?_ ((pj_fr13 e2).trans pj_wT) T0_pj
      rw [rb _ u30, if_pos e4]
    · refine PQ.same (v := -1) R (ctx _ _ e1 nf) ?_ ((pj_fr13 e2).trans pj_wT) (((pj_frG y3).trans T0_pj).trans T0_pj)
      rw [rb _ u30, if_neg e4]
      unfold f_X12_text_b43
      rw [rf2 y1, Option.bind_some, y2, if_neg nf]
  | inr r =>
    obtain ⟨m, D⟩ := r
    obtain ⟨S1, e1, e2, m1, m2, m3, m4⟩ := hc.2 m D hv
    have u30 : S1.1 351 30 = nI ns := by rw [e2.1 351 (by omega)]; exact l4
    have u23 : S1.1 23 = S.1 23 := e2.1 23 (by omega)
    have cl : ∀ (v : Int32) (S2 : XS), f_X5_put (hp S1 c) 23 15 (nI m) = some (v, hp S2 c) → f_X11_text (hp S c) 0 2 = f_X11_text_b89 (hp S2 c) 0 v := by
      intro v S2 h
      unfold f_X11_text
      rw [k0, Option.bind_some, e1, Option.bind_some, if_pos rfl, if_neg (by decide), if_neg (by decide), g0_5, Option.bind_some, g0_3, Option.bind_some, g13_4, Option.bind_some, Option.bind_some, g13_5, Option.bind_some, m3, h, Option.bind_some]
    by_cases e4 : ns = 4
    · refine PQ.same (v := -1) (S1 := S1) (S2 := T0 S1) R ?_ ?_ ((pj_fr13 e2).trans pj_wT) T0_pj
      · rw [cl _ _ (X5_putGn (by rw [u23, l2, e4]))]
        unfold f_X11_text_b89 f_X11_text_b99
        rw [if_pos rfl]
      · rw [rb _ u30, if_pos e4]
    · have hk : ns < 4 := by omega
      have put : f_X11_text (hp S c) 0 2 = some (nI ns, hp (wA (putG S1 ns m) 0 (upd ((putG S1 ns m).1 0) 16 0)) c) := by
        rw [cl _ _ (X5_putG (by rw [u23]; exact l2) (by rw [u23]; exact l3) hk m2)]
        unfold f_X11_text_b89 f_X11_text_b99
        rw [if_neg (m1_ne (by omega)), p0_16, Option.bind_some]
      have U0 : (wA (putG S1 ns m) 0 (upd ((putG S1 ns m).1 0) 16 0)).1 0 = upd (S.1 0) 16 0 := by
        rw [wA_same]
        unfold putG
        rw [wA_ne (by decide), wA_ne (by decide), wA_ne (show 0 ≠ 26 + ns by omega), e2.1 0 (by omega)]
        rfl
      have U23 : (wA (putG S1 ns m) 0 (upd ((putG S1 ns m).1 0) 16 0)).1 23 = upd (S.1 23) 3 (nI (ns + 1)) := by
        rw [wA_ne (by decide)]
        unfold putG
        rw [wA_same, u23]
      have U24 : (wA (putG S1 ns m) 0 (upd ((putG S1 ns m).1 0) 16 0)).1 24 = upd (S.1 24) ns (nI m) := by
        rw [wA_ne (by decide)]
        unfold putG
        rw [wA_ne (by decide), wA_same, e2.1 24 (by omega)]
        rfl
      have U26 : ∀ j, j < m → (wA (putG S1 ns m) 0 (upd ((putG S1 ns m).1 0) 16 0)).1 (26 + ns) j = nI (D j) := by
        intro j hj
        rw [wA_ne (by omega)]
        unfold putG
        rw [wA_ne (by omega), wA_ne (by omega), wA_same, cpy0 hj]
        exact (m4 j hj).2
      have UX : ∀ a, a ≠ 0 → a < 13 ∨ 15 < a → a ≠ 23 → a ≠ 24 → a ≠ 26 + ns → (wA (putG S1 ns m) 0 (upd ((putG S1 ns m).1 0) 16 0)).1 a = S.1 a := by
        intro a h0 h1 h2 h3 h4
        rw [wA_ne h0]
        unfold putG
        rw [wA_ne h2, wA_ne h3, wA_ne h4, e2.1 a (by omega)]
        rfl
      generalize wA (putG S1 ns m) 0 (upd ((putG S1 ns m).1 0) 16 0) = U at put U0 U23 U24 U26 UX
      have U351 := UX 351 (by decide) (by decide) (by decide) (by decide) (by omega)
      obtain ⟨G, y1, y2, y3, y4, y5⟩ := (hr (T0 U) (by rw [T0_ne (by decide), UX 352 (by decide) (by decide) (by decide) (by decide) (by omega)]) (by rw [T0_351 (by decide), U351]; exact t3)).2 m D hv
      have pG : pj G = pj U := ((pj_frG y3).trans T0_pj).trans T0_pj
      have G351 : ∀ k, pers 351 k = true → G.1 351 k = S.1 351 k := by
        intro k hk
        have := congrFun (congrFun pG 351) k
        rw [pj_at hk, pj_at hk, U351] at this
        exact this
      have GX : ∀ a, a ≠ 351 → a ≠ 362 → a ≠ 363 → G.1 a = U.1 a := by
        intro a h1 h2 h3
        rw [y3.1 a h1 h2 h3]
        show (T0 (T0 U)).1 a = U.1 a
        rw [T0_ne h1, T0_ne h1]
      have G362 : ∀ k, k < 64 → G.1 362 k = S.1 362 k := by
        intro k hk
        rw [y3.2.2.2.1 k hk]
        show (T0 (T0 U)).1 362 k = _
        rw [T0_ne (by decide), T0_ne (by decide), UX 362 (by decide) (by decide) (by decide) (by decide) (by omega)]
      have G363 : ∀ k, k < 4 → G.1 363 k = S.1 363 k := by
        intro k hk
        rw [y3.2.2.2.2 k hk]
        show (T0 (T0 U)).1 363 k = _
        rw [T0_ne (by decide), T0_ne (by decide), UX 363 (by decide) (by decide) (by decide) (by decide) (by omega)]
      have e4' : f_X12_text (hp U c) 351 2 = f_X12_text_b137 1048576 (hp (wA G 351 (upd (G.1 351) 6 0)) c) 351 0 := by
        rw [rb U (by rw [U351]; exact l4), if_neg e4]
        unfold f_X12_text_b43
        rw [rf2 y1, Option.bind_some, y2, if_pos rfl, g351_6, Option.bind_some, p351_6, Option.bind_some, if_neg (by decide), if_pos rfl]
      rw [rt_song (c := c) (by rw [wA_same, upd_ne (by decide), G351 30 (by decide)]; exact l4) hk] at e4'
      have W351 : (wA (wA (wA (wA G 351 (upd (G.1 351) 6 0)) 362 (sgT (wA G 351 (upd (G.1 351) 6 0)) ns 16)) 363 (upd ((wA G 351 (upd (G.1 351) 6 0)).1 363) ns ((wA G 351 (upd (G.1 351) 6 0)).1 363 4))) 351 (upd ((wA G 351 (upd (G.1 351) 6 0)).1 351) 30 (nI (ns + 1)))).1 351 = upd (upd (G.1 351) 6 0) 30 (nI (ns + 1)) := by rw [wA_same, wA_same]
      have W363 : (wA (wA (wA (wA G 351 (upd (G.1 351) 6 0)) 362 (sgT (wA G 351 (upd (G.1 351) 6 0)) ns 16)) 363 (upd ((wA G 351 (upd (G.1 351) 6 0)).1 363) ns ((wA G 351 (upd (G.1 351) 6 0)).1 363 4))) 351 (upd ((wA G 351 (upd (G.1 351) 6 0)).1 351) 30 (nI (ns + 1)))).1 363 = upd (G.1 363) ns (nI m) := by
        rw [wA_ne (by decide), wA_same, wA_ne (by decide), y4]
      have W362 : (wA (wA (wA (wA G 351 (upd (G.1 351) 6 0)) 362 (sgT (wA G 351 (upd (G.1 351) 6 0)) ns 16)) 363 (upd ((wA G 351 (upd (G.1 351) 6 0)).1 363) ns ((wA G 351 (upd (G.1 351) 6 0)).1 363 4))) 351 (upd ((wA G 351 (upd (G.1 351) 6 0)).1 351) 30 (nI (ns + 1)))).1 362 = sgT G ns 16 := by
        rw [wA_ne (by decide), wA_ne (by decide), wA_same]
        unfold sgT
        rw [wA_ne (by decide)]
      have WX : ∀ a, a ≠ 351 → a ≠ 362 → a ≠ 363 → (wA (wA (wA (wA G 351 (upd (G.1 351) 6 0)) 362 (sgT (wA G 351 (upd (G.1 351) 6 0)) ns 16)) 363 (upd ((wA G 351 (upd (G.1 351) 6 0)).1 363) ns ((wA G 351 (upd (G.1 351) 6 0)).1 363 4))) 351 (upd ((wA G 351 (upd (G.1 351) 6 0)).1 351) 30 (nI (ns + 1)))).1 a = U.1 a := fun a h1 h2 h3 => by rw [wA_ne h1, wA_ne h3, wA_ne h2, wA_ne h1, GX a h1 h2 h3]
      generalize wA (wA (wA (wA G 351 (upd (G.1 351) 6 0)) 362 (sgT (wA G 351 (upd (G.1 351) 6 0)) ns 16)) 363 (upd ((wA G 351 (upd (G.1 351) 6 0)).1 363) ns ((wA G 351 (upd (G.1 351) 6 0)).1 363 4))) 351 (upd ((wA G 351 (upd (G.1 351) 6 0)).1 351) 30 (nI (ns + 1))) = W at e4' W351 W363 W362 WX
      refine PQ.mk (nI ns) U W put e4' (RR_putsong (sl := sl) (dg := dg) (D := D) (k := ns) (L := m) R l hk m1 m2 (fun j hj => (m4 j hj).1) ?_ ?_ ?_ ?_ ?_ ?_ ?_ ?_ ?_ ?_ ?_ ?_)
      · intro a h0 h1 h2 h3 h4 h5 h6
        by_cases e13 : a < 13 ∨ 15 < a
        · exact pj_eq (by rw [WX a h4 h5 h6, UX a h0 e13 h1 h2 h3])
        · refine pj_no fun k => ?_
          rcases (by omega : a = 13 ∨ a = 14 ∨ a = 15) with rfl | rfl | rfl <;> rfl
      · intro j hj
        show W.1 0 j = S.1 0 j
        rw [WX 0 (by decide) (by decide) (by decide), U0, upd_ne hj]
      · show W.1 0 16 = nI 0
        rw [WX 0 (by decide) (by decide) (by decide), U0, upd_same]
        rfl
      · show W.1 23 2 = S.1 23 2
        rw [WX 23 (by decide) (by decide) (by decide), U23, upd_ne (by decide)]
      · show W.1 23 3 = nI (ns + 1)
        rw [WX 23 (by decide) (by decide) (by decide), U23, upd_same]
      · rw [show pj W 24 = W.1 24 from pj_cell fun _ => rfl, show pj S 24 = S.1 24 from pj_cell fun _ => rfl, WX 24 (by decide) (by decide) (by decide), U24]
      · intro j hj
        rw [pc26 hk, WX _ (by omega) (by omega) (by omega)]
        exact U26 j hj
      · intro j h6 h7
        by_cases h : pers 351 j = true
        · rw [pj_at h, pj_at h, W351, upd_ne h7, upd_ne h6]
          exact G351 j h
        · unfold pj
          rw [if_neg h, if_neg h]
      · show W.1 351 6 = nI 0
        rw [W351, upd_ne (by decide), upd_same]
        rfl
      · show W.1 351 30 = nI (ns + 1)
        rw [W351, upd_same]
      · intro i hi
        rw [pj_at (show pers 362 i = true from decide_eq_true hi), pj_at (show pers 362 i = true from decide_eq_true hi), W362]
        unfold sgT
        refine ⟨fun h1 h2 => ?_, fun h1 => ?_⟩
        · rw [if_pos (by omega)]
          exact y5 (i - 16 * ns) (by omega)
        · rw [if_neg (by omega)]
          exact G362 i hi
      · intro i hi
        rw [pj_at (show pers 363 i = true from decide_eq_true hi), pj_at (show pers 363 i = true from decide_eq_true hi), W363]
        unfold upd
        by_cases e : i = ns
        · rw [if_pos e, if_pos e]
        · rw [if_neg e, if_neg e]
          exact G363 i hi
end TX5
