/-! TEXT: all three, class and reference -/
section TX8
variable {S : XS} {c : Nat × Nat} {n : Nat}
theorem pr_text0 (R : RR n (pj S)) : PQ n c (fun h => f_X11_text h 0 0) (fun h => f_X12_text h 351 0) S := by
  obtain ⟨tl, t1, t2, t3, t4⟩ := R.tape
  have hc := X9_read (S := S) (c := c) (T := S.1 1) (td := S.1 359) (fv := S.1 361) (ta := 1) t1 s1 t1 (by decide) (by decide) (fun k _ => rfl)
  rw [← t2, ← cf0] at hc
  have hr : ∀ U : XS, U.1 352 = S.1 352 → U.1 359 = S.1 359 → U.1 361 = S.1 361 → U.1 351 6 = nI tl → rvR (wT (T0 U) 351 352) c (f_X12_readVillage (hp (T0 U) c) 351) (spVl (S.1 1) tl (tl + 1) (V0 (S.1 359) (S.1 361)) 0) := by
    intro U u1 u2 u3 u4
    have := X12_vil (S := T0 U) (c := c) (T := S.1 1) t1 (by rw [T0_351 (by decide)]; exact u4) (fun k hk => by rw [T0_ne (by decide), u1]; exact t4 k hk)
    rw [T0_ne (by decide), T0_ne (by decide), u2, u3] at this
    exact this
  have rb : ∀ U : XS, f_X12_text (hp U c) 351 0 = f_X12_text_b43 (hp (T0 U) c) 351 0 := by
    intro U
    unfold f_X12_text f_X12_text_b30
    rw [k351, Option.bind_some, T0_p, Option.bind_some, show f_X12_isIn (hp (T0 U) c) (0 : Int32).toInt64 (0 : Int64) (2 : Int64) = some 1 from isIn_in (k := 0) (m := 2) (by decide) (by decide) rfl, Option.bind_some, if_neg (by decide), if_neg (by decide), if_neg (by decide)]
  cases hv : spVl (S.1 1) tl (tl + 1) (V0 (S.1 359) (S.1 361)) 0 with
  | inl f =>
    have f240 := spVl_mono (T := S.1 1) (L := tl) (tl + 1) _ 0 (Nat.zero_le _) f hv
    have nf : nI f ≠ -1 := m1_ne (by omega)
    rw [hv] at hc
    obtain ⟨S1, e1, e2⟩ := hc
    obtain ⟨S2, y1, y2, y3⟩ := (hr (T0 S1) (by rw [T0_ne (by decide), e2.1 352 (by omega)]; rfl) (by rw [T0_ne (by decide), e2.1 359 (by omega)]; rfl) (by rw [T0_ne (by decide), e2.1 361 (by omega)]; rfl) (by rw [T0_351 (by decide), e2.1 351 (by omega)]; exact t3)).1 f hv
    refine PQ.same (v := -1) (S1 := S1) (S2 := S2) R ?_ ?_ ((pj_fr2 e2).trans pj_wT) (((pj_frV y3).trans T0_pj).trans T0_pj)
    · unfold f_X11_text
      rw [k0, Option.bind_some, e1, Option.bind_some, if_neg nf]
    · rw [rb]
      unfold f_X12_text_b43
      rw [rf0 y1, Option.bind_some, y2, if_neg nf]
  | inr V =>
    have hw := spVl_whl (T := S.1 1) (L := tl) (tl + 1) _ 0 V hv
    rw [hv] at hc
    obtain ⟨S1, e1, e2, cv, hV⟩ := hc
    obtain ⟨v1, v2, v3, v4, v5, v6, v7, v8⟩ := vl_ok hV hw
    obtain ⟨S2, d1, d2, d3, d4, d5, d6⟩ := X11_settle (c := c) cv
    have put : f_X11_text (hp S c) 0 0 = some (nI V.2.1.1, hp (wA S2 0 (upd (S2.1 0) 16 0)) c) := by
      unfold f_X11_text f_X11_text_b89 f_X11_text_b99
      rw [k0, Option.bind_some, e1, Option.bind_some, if_pos rfl, if_pos rfl, d1, Option.bind_some, if_neg (m1_ne (by omega)), p0_16, Option.bind_some]
    have E1 : ∀ a, a < 2 ∨ 9 < a → S1.1 a = S.1 a := fun a h => by
      rw [e2.1 a (by omega)]
      rfl
    have U0 : (wA S2 0 (upd (S2.1 0) 16 0)).1 0 = upd (S.1 0) 16 0 := by rw [wA_same, d6 0 (by decide) (by decide) (by decide), E1 0 (by decide)]
    have UX : ∀ a, a ≠ 0 → a < 2 ∨ 9 < a → a < 30 ∨ 39 < a → a ≠ 49 → a ≠ 260 → (wA S2 0 (upd (S2.1 0) 16 0)).1 a = S.1 a := fun a h0 h1 h2 h3 h4 => by rw [wA_ne h0, d6 a h2 h3 h4, E1 a h1]
    have U49 : (wA S2 0 (upd (S2.1 0) 16 0)).1 49 = upd (upd (upd (S.1 49) 3 0) 4 0) 5 0 := by rw [wA_ne (by decide), d4, E1 49 (by decide)]
    have U260 : (wA S2 0 (upd (S2.1 0) 16 0)).1 260 = upd (S.1 260) 6 0 := by rw [wA_ne (by decide), d5, E1 260 (by decide)]
    have UB : ∀ b, b = 30 ∨ b = 35 → cpB (wA S2 0 (upd (S2.1 0) 16 0)) b S1 4 := by
      intro b hb
      have q : ∀ a, a ≠ 0 → (wA S2 0 (upd (S2.1 0) 16 0)).1 a = S2.1 a := fun a h => wA_ne h
      have g : cpB S2 b S1 4 := by
        rcases hb with rfl | rfl
        · exact d2
        · exact d3
      unfold cpB at g ⊢
      rw [q b (by omega), q (b + 1) (by omega), q (b + 2) (by omega), q (b + 3) (by omega), q (b + 4) (by omega)]
      exact g
    generalize wA S2 0 (upd (S2.1 0) 16 0) = U at put U0 UX U49 U260 UB
    have U351 := UX 351 (by decide) (by decide) (by decide) (by decide) (by decide)
    obtain ⟨G, y1, y2, y3, y4⟩ := (hr (T0 U) (by rw [T0_ne (by decide), UX 352 (by decide) (by decide) (by decide) (by decide) (by decide)]) (by rw [T0_ne (by decide), UX 359 (by decide) (by decide) (by decide) (by decide) (by decide)]) (by rw [T0_ne (by decide), UX 361 (by decide) (by decide) (by decide) (by decide) (by decide)]) (by rw [T0_351 (by decide), U351]; exact t3)).2 V hv
    have pG : pj G = pj U := ((pj_frV y4).trans T0_pj).trans T0_pj
    have G351 : ∀ k, pers 351 k = true → G.1 351 k = S.1 351 k := by
      intro k hk
      have := congrFun (congrFun pG 351) k
      rw [pj_at hk, pj_at hk, U351] at this
      exact this
    have GX : ∀ a, a ≠ 351 → a ≠ 357 → a ≠ 359 → a ≠ 361 → G.1 a = U.1 a := by
      intro a h1 h2 h3 h4
      rw [y4.1 a h1 h2 h3 h4]
      show (T0 (T0 U)).1 a = U.1 a
      rw [T0_ne h1, T0_ne h1]
    obtain ⟨g28, g29, -, g0, g1, g359, g361⟩ := y3
    have e4 : f_X12_text (hp U c) 351 0 = f_X12_text_b222 1048576 (hp (wA G 351 (upd (upd (upd (G.1 351) 6 0) 26 (nI V.2.1.1)) 27 (nI V.2.2.1.1))) c) 351 0 := by
      rw [rb]
      unfold f_X12_text_b43
      rw [rf0 y1, Option.bind_some, y2, if_pos rfl, g351_6, Option.bind_some, p351_6, Option.bind_some, if_neg (by decide), if_neg (by decide), g351_28, Option.bind_some, wA_same, upd_ne (by decide), g28, p351_26, Option.bind_some, wA_wA, wA_same, g351_29, Option.bind_some, wA_same, upd_ne (by decide), upd_ne (by decide), g29, p351_27, Option.bind_some, wA_wA, wA_same]
    have H351 : (wA G 351 (upd (upd (upd (G.1 351) 6 0) 26 (nI V.2.1.1)) 27 (nI V.2.2.1.1))).1 351 = upd (upd (upd (G.1 351) 6 0) 26 (nI V.2.1.1)) 27 (nI V.2.2.1.1) := wA_same
    have HX : ∀ a, a ≠ 351 → (wA G 351 (upd (upd (upd (G.1 351) 6 0) 26 (nI V.2.1.1)) 27 (nI V.2.2.1.1))).1 a = G.1 a := fun a h => wA_ne h
    generalize wA G 351 (upd (upd (upd (G.1 351) 6 0) 26 (nI V.2.1.1)) 27 (nI V.2.2.1.1)) = H at e4 H351 HX
    rw [rt_222, rt_247] at e4
    have J351 : (wA (wA H 356 (cpR (H.1 357) (H.1 356) 2)) 358 (cpR ((wA H 356 (cpR (H.1 357) (H.1 356) 2)).1 359) ((wA H 356 (cpR (H.1 357) (H.1 356) 2)).1 358) 18)).1 351 = upd (upd (upd (G.1 351) 6 0) 26 (nI V.2.1.1)) 27 (nI V.2.2.1.1) := by rw [wA_ne (by decide), wA_ne (by decide), H351]
    have J356 : (wA (wA H 356 (cpR (H.1 357) (H.1 356) 2)) 358 (cpR ((wA H 356 (cpR (H.1 357) (H.1 356) 2)).1 359) ((wA H 356 (cpR (H.1 357) (H.1 356) 2)).1 358) 18)).1 356 = cpR (G.1 357) (H.1 356) 2 := by rw [wA_ne (by decide), wA_same, HX 357 (by decide)]
    have J358 : (wA (wA H 356 (cpR (H.1 357) (H.1 356) 2)) 358 (cpR ((wA H 356 (cpR (H.1 357) (H.1 356) 2)).1 359) ((wA H 356 (cpR (H.1 357) (H.1 356) 2)).1 358) 18)).1 358 = cpR (G.1 359) (H.1 358) 18 := by rw [wA_same, wA_ne (by decide), wA_ne (by decide), HX 359 (by decide)]
    have JX : ∀ a, a ≠ 351 → a ≠ 356 → a ≠ 358 → (wA (wA H 356 (cpR (H.1 357) (H.1 356) 2)) 358 (cpR ((wA H 356 (cpR (H.1 357) (H.1 356) 2)).1 359) ((wA H 356 (cpR (H.1 357) (H.1 356) 2)).1 358) 18)).1 a = G.1 a := fun a h1 h2 h3 => by rw [wA_ne h3, wA_ne h2, HX a h1]
    generalize wA (wA H 356 (cpR (H.1 357) (H.1 356) 2)) 358 (cpR ((wA H 356 (cpR (H.1 357) (H.1 356) 2)).1 359) ((wA H 356 (cpR (H.1 357) (H.1 356) 2)).1 358) 18) = J at e4 J351 J356 J358 JX
    obtain ⟨row, r1, r2⟩ := rt_273 (S := J) (c := c) (N := V.2.1.1) (F := V.2.2.1.1) (by rw [J351]; rfl) v2 (by rw [J351]; rfl) v3 (fun k hk => by
      obtain ⟨a, b, m, a1, a2, -, -, -, a3, a4, -⟩ := v6 k hk
      refine ⟨a, b, by omega, by omega, ?_, ?_⟩
      · rw [JX 361 (by decide) (by decide) (by decide), g361 _ (by omega), a3]
      · rw [JX 361 (by decide) (by decide) (by decide), g361 _ (by omega), a4])
    rw [r1] at e4
    have W351 : (t273 (wA J 360 (cpR (J.1 361) (J.1 360) 36)) row).1 351 = upd (upd (upd (upd (upd (upd (G.1 351) 6 0) 26 (nI V.2.1.1)) 27 (nI V.2.2.1.1)) 51 0) 40 0) 56 0 := by
      unfold t273
      rw [wA_same, wA_ne (by decide), J351]
    have W364 : (t273 (wA J 360 (cpR (J.1 361) (J.1 360) 36)) row).1 364 = row := by
      unfold t273
      rw [wA_ne (by decide), wA_same]
    have W360 : (t273 (wA J 360 (cpR (J.1 361) (J.1 360) 36)) row).1 360 = cpR (J.1 361) (J.1 360) 36 := by
      unfold t273
      rw [wA_ne (by decide), wA_ne (by decide), wA_same]
    have WX : ∀ a, a ≠ 351 → a ≠ 360 → a ≠ 364 → (t273 (wA J 360 (cpR (J.1 361) (J.1 360) 36)) row).1 a = J.1 a := fun a h1 h2 h3 => by
      unfold t273
      rw [wA_ne h1, wA_ne h3, wA_ne h2]
    generalize t273 (wA J 360 (cpR (J.1 361) (J.1 360) 36)) row = W at e4 W351 W364 W360 WX
    have WU : ∀ a, a ≠ 351 → a ≠ 356 → a ≠ 357 → a ≠ 358 → a ≠ 359 → a ≠ 360 → a ≠ 361 → a ≠ 364 → W.1 a = U.1 a := fun a h1 h2 h3 h4 h5 h6 h7 h8 => by rw [WX a h1 h6 h8, JX a h1 h2 h4, GX a h1 h3 h5 h7]
    have P : ∀ a, a ≠ 2 → (∀ k, pers a k = true) → pj W a = W.1 a := fun a _ h => pj_cell h
    have w356 : pj W 356 = W.1 356 := c356
    have w358 : pj W 358 = W.1 358 := c358
    have w360 : pj W 360 = W.1 360 := c360
    have w364 : pj W 364 = W.1 364 := c364
    refine PQ.mk (nI V.2.1.1) U W put e4 (RR_settle (V := V) R hV hw ?_ ?_ ?_ ?_ ?_ ?_ ?_ ?_ ?_ ?_ ?_ ?_ ?_ ?_ ?_ ?_ ?_ ?_ ?_ ?_)
    · intro a h0 h1 h2 h3 h4 h5 h6 h7 h8
      by_cases s1 : 2 ≤ a ∧ a ≤ 9
      · refine pj_no fun k => ?_
        rcases (by omega : a = 2 ∨ a = 3 ∨ a = 4 ∨ a = 5 ∨ a = 6 ∨ a = 7 ∨ a = 8 ∨ a = 9) with rfl | rfl | rfl | rfl | rfl | rfl | rfl | rfl <;> rfl
      · by_cases s2 : a = 357 ∨ a = 359 ∨ a = 361
        · refine pj_no fun k => ?_
          rcases s2 with rfl | rfl | rfl <;> rfl
        · exact pj_eq (by rw [WU a h4 h5 (by omega) h6 (by omega) h7 (by omega) h8, UX a h0 (by omega) h1 h2 h3])
    · intro j hj
      show W.1 0 j = S.1 0 j
      rw [WU 0 (by decide) (by decide) (by decide) (by decide) (by decide) (by decide) (by decide) (by decide), U0, upd_ne hj]
    · show W.1 0 16 = nI 0
      rw [WU 0 (by decide) (by decide) (by decide) (by decide) (by decide) (by decide) (by decide) (by decide), U0, upd_same]
      rfl
    · intro j k6 k26 k27 k40 k51 k56
      by_cases h : pers 351 j = true
      · rw [pj_at h, pj_at h, W351, upd_ne k56, upd_ne k40, upd_ne k51, upd_ne k27, upd_ne k26, upd_ne k6]
        exact G351 j h
      · unfold pj
        rw [if_neg h, if_neg h]
    · show W.1 351 6 = nI 0
      rw [W351]
      rfl
    · show W.1 351 26 = nI V.2.1.1
      rw [W351]
      rfl
    · show W.1 351 27 = nI V.2.2.1.1
      rw [W351]
      rfl
    · show W.1 351 40 = nI 0
      rw [W351]
      rfl
    · show W.1 351 51 = nI 0
      rw [W351]
      rfl
    · show W.1 351 56 = 0
      rw [W351]
      rfl
    · rw [w356, WX 356 (by decide) (by decide) (by decide), J356]
      exact g0
    · rw [w356, WX 356 (by decide) (by decide) (by decide), J356]
      exact g1
    · intro i hi
      rw [w358, WX 358 (by decide) (by decide) (by decide), J358]
      show (if i < 18 then _ else _) = _
      rw [if_pos hi, g359 i hi]
    · intro i hi
      rw [w360, W360]
      show (if i < 36 then _ else _) = _
      rw [if_pos hi, JX 361 (by decide) (by decide) (by decide), g361 i hi]
    · intro i hi
      rw [w364, w360, w358, w356, W364, W360, WX 358 (by decide) (by decide) (by decide), WX 356 (by decide) (by decide) (by decide)]
      exact r2 i hi
    · intro b hb
      have g := UB b hb
      obtain ⟨b1, b2, b3, b4, b5⟩ := g
      obtain ⟨-, -, -, -, q5, q6, q7, q8, q9, q10, q11, q12, q13⟩ := cv
      have Pb : ∀ a k, b ≤ a → a ≤ b + 4 → pj W a k = U.1 a k := by
        intro a k ha1 ha2
        rw [pj_cell (a := a) (fun k => by
          rcases (by omega : a = 30 ∨ a = 31 ∨ a = 32 ∨ a = 33 ∨ a = 34 ∨ a = 35 ∨ a = 36 ∨ a = 37 ∨ a = 38 ∨ a = 39) with rfl | rfl | rfl | rfl | rfl | rfl | rfl | rfl | rfl | rfl <;> rfl), WU a (by omega) (by omega) (by omega) (by omega) (by omega) (by omega) (by omega) (by omega)]
      refine ⟨?_, ?_, ?_, ?_, ?_, fun k hk => ?_, fun k hk => ?_, fun k hk => ?_, fun k hk => ?_⟩
      · rw [Pb b _ (by omega) (by omega), b5 4 (by decide) (by decide)]; exact q5
      · rw [Pb b _ (by omega) (by omega), b5 5 (by decide) (by decide)]; exact q6
      · rw [Pb b _ (by omega) (by omega), b5 6 (by decide) (by decide)]; exact q7
      · rw [Pb b _ (by omega) (by omega), b5 7 (by decide) (by decide)]; exact q8
      · rw [Pb b _ (by omega) (by omega), b5 8 (by decide) (by decide)]; exact q9
      · rw [Pb _ _ (by omega) (by omega), b1 k hk]; exact q10 k hk
      · rw [Pb _ _ (by omega) (by omega), b2 k hk]; exact q11 k hk
      · rw [Pb _ _ (by omega) (by omega), b3 k (by omega)]; exact q12 k hk
      · rw [Pb _ _ (by omega) (by omega), b4 k hk]; exact q13 k hk
    · show W.1 49 3 = nI 0
      rw [WU 49 (by decide) (by decide) (by decide) (by decide) (by decide) (by decide) (by decide) (by decide), U49]
      rfl
    · show W.1 49 4 = nI 0
      rw [WU 49 (by decide) (by decide) (by decide) (by decide) (by decide) (by decide) (by decide) (by decide), U49]
      rfl
    · show W.1 49 5 = 0
      rw [WU 49 (by decide) (by decide) (by decide) (by decide) (by decide) (by decide) (by decide) (by decide), U49]
      rfl
    · show W.1 260 6 = nI 0
      rw [WU 260 (by decide) (by decide) (by decide) (by decide) (by decide) (by decide) (by decide) (by decide), U260]
      rfl
theorem pr_text (R : RR n (pj S)) (x : Int32) : PQ n c (fun h => f_X11_text h 0 x) (fun h => f_X12_text h 351 x) S := by
  by_cases x0 : x = 0
  · subst x0
    exact pr_text0 R
  · by_cases x1 : x = 1
    · subst x1
      exact pr_text1 R
    · by_cases x2 : x = 2
      · subst x2
        exact pr_text2 R
      · refine PQ.same (v := -1) (S1 := S) (S2 := T0 S) R ?_ ?_ rfl T0_pj
        · unfold f_X11_text f_X11_fault
          rw [k0, Option.bind_some, Option.bind_some, if_neg x0, if_neg x1, if_neg x2, Option.bind_some, if_neg (show ¬ (-2 : Int32) = -1 by decide)]
        · unfold f_X12_text
          have hx : x < 0 ∨ (¬ x < 0 ∧ nI 3 ≤ x) := by
            rcases ix_of (x := x) (N := 3) (by decide) with ⟨j, hj, z⟩ | z
            · rcases (by omega : j = 0 ∨ j = 1 ∨ j = 2) with rfl | rfl | rfl
              · exact absurd z x0
              · exact absurd z x1
              · exact absurd z x2
            · exact z
          rw [k351, Option.bind_some, T0_p, Option.bind_some, isIn_out (u := 2) (m := 2) hx (by decide) rfl, Option.bind_some, if_pos rfl]
end TX8
