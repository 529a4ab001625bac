/-! AFTER, WORTHAFTER -/
section AFT
variable {S : XS} {c : Nat × Nat} {n N j : Nat} {kp lim : Int32}
theorem ap_begin (W : NW S N lim kp (rwB (S.1 364))) : ∃ S1, f_X0_become (hp S c) 40 30 = some (hp S1 c) ∧ fr 40 44 S1 S ∧ S1.1 40 4 = nI N ∧ S1.1 40 5 = lim ∧ S1.1 40 6 = kp ∧ eqB (S1.1 41, S1.1 42) (rwB (S.1 364)) ∧ Vb lim (S1.1 41, S1.1 42) := by
  obtain ⟨S1, e1, e2, e3⟩ := B40.become (S := S) (c := c) B30 (by decide)
  have hV := W.V
  have hD := W.D
  have hU := W.U
  obtain ⟨w1, w2, w3, w4, w5, w6, w7, w8, w9, w10, -⟩ := W
  obtain ⟨b1, b2, b3, b4, b5⟩ := e2
  have eQ : eqB (S1.1 41, S1.1 42) (rwB (S.1 364)) := ⟨fun k hk => (b1 k hk).trans (hD k hk), fun k hk => (b2 k hk).trans (hU k hk)⟩
  exact ⟨S1, e1, e3, (b5 4 (by decide) (by decide)).trans w7, (b5 5 (by decide) (by decide)).trans w8, (b5 6 (by decide) (by decide)).trans w9, eQ, Vb_congr eQ hV⟩
theorem rf_begin {U : XS} {Q : BS} (W : NW S N lim kp (rwB (S.1 364))) (h1 : U.1 351 26 = S.1 351 26) (h2 : ∀ a, 352 ≤ a → U.1 a = S.1 a) (hQ : eqB Q (rwB (S.1 364))) : ∃ U1, f_X12_copy (hp U c) 364 365 = some (hp U1 c) ∧ prR U1 N kp lim Q ∧ frS U1 U := by
  obtain ⟨-, -, w3, w4, -, -, -, -, -, w10, -⟩ := W
  refine ⟨_, r_copy, ⟨?_, ?_, ?_, ?_⟩, fun a h1 h2 => wA_ne h1⟩
  · rw [wA_ne (by decide), h1]; exact w3
  · rw [wA_ne (by decide), h2 356 (by decide)]; exact w4
  · rw [wA_same, h2 364 (by decide)]
    show cpR (S.1 364) (U.1 365) 51 48 = _
    exact (if_pos (by decide)).trans w10
  · rw [wA_same, h2 364 (by decide)]
    refine eqB.trans ⟨fun k hk => ?_, fun k hk => ?_⟩ hQ.symm
    · show cpR (S.1 364) (U.1 365) 51 k = S.1 364 k
      exact if_pos (by omega)
    · show cpR (S.1 364) (U.1 365) 51 (36 + k) = S.1 364 (36 + k)
      exact if_pos (by omega)
theorem ap_pair {t ns : Nat} {sl : Nat → Nat} {dg : Nat → Nat → Nat} (G : SG S ns sl dg) (hj : j < ns) (ht : t ≤ 60) (W : NW S N lim kp (rwB (S.1 364))) : ∃ (b : Bool) (Q : BS) (S1 : XS), f_X11_sungApart (hp S c) 0 (nI j) (nI t) = some (bI b, hp S1 c) ∧ fr 40 44 S1 S ∧ S1.1 40 4 = nI N ∧ S1.1 41 = Q.1 ∧ S1.1 42 = Q.2 ∧ ∀ U : XS, U.1 351 26 = S.1 351 26 → (∀ a, 352 ≤ a → U.1 a = S.1 a) → ∃ U', f_X12_singsOften (hp U c) 351 (nI j) (nI t) = some (bI b, hp U' c) ∧ frS U' U ∧ eqB (rwB (U'.1 365)) Q := by
  obtain ⟨S0, e1, e2, e3, e4, e5, e6, e7⟩ := ap_begin (c := c) W
  have h6 := W.2.1
  have hl := W.2.2.2.2.2.1
  obtain ⟨g1, g2, g3, g4⟩ := G
  obtain ⟨l1, l2, l3, l4, l5⟩ := g4 j hj
  have sc : sgU S0 j (sl j) (dg j) := ⟨by rw [e2.1 24 (by omega)]; exact l3, fun k hk => ⟨(l5 k hk).1, by rw [e2.1 (26 + j) (by omega)]; exact (l5 k hk).2.1⟩⟩
  have h := cls_apart (c := c) ht (by omega) l2 e3 h6 (by rw [e4]; exact hl) sc t 0 1048576 (S0.1 41, S0.1 42) (by omega) (by omega) (by rw [e4]; exact e7)
  rw [e4, e5, show wB S0 40 (S0.1 41, S0.1 42) = S0 from wB_self] at h
  refine ⟨(fT N kp lim (dg j) (sl j) t (S0.1 41, S0.1 42)).1, (fT N kp lim (dg j) (sl j) t (S0.1 41, S0.1 42)).2, wB S0 40 (fT N kp lim (dg j) (sl j) t (S0.1 41, S0.1 42)).2, ?_, e2.trans wB_fr, ?_, wB_1, wB_2, fun U u1 u2 => ?_⟩
  · unfold f_X11_sungApart
    rw [k0, Option.bind_some, g0_5, Option.bind_some, song_c g2 g1, Option.bind_some, inN_i hj (by omega), if_neg (show ¬ bI true = 0 by decide), if_neg (nI_nneg (by omega)), if_pos (show nI t ≤ (60 : Int32) from nI_le (b := 60) ht (by decide)), g0_8, Option.bind_some, g0_6, Option.bind_some, e1, Option.bind_some]
    exact h
  · rw [wB_ne (by decide) (by decide)]; exact e3
  · obtain ⟨U1, y1, y2, y3⟩ := rf_begin (c := c) W u1 u2 e6
    obtain ⟨U', z1, z2, z3⟩ := r_often (c := c) (kp := kp) (dg := dg j) (j := j) ht (by omega) l2 (fun k hk => (l5 k hk).1) h6 hl t 0 1048576 U1 _ (by omega) (by omega) y2 e7 (by
      unfold sgV
      rw [y3 363 (by decide) (by decide), y3 362 (by decide) (by decide), u2 363 (by decide), u2 362 (by decide)]
      exact ⟨l4, fun k hk => (l5 k hk).2.2⟩)
    refine ⟨U', ?_, fun a h1 h2 => by rw [z3 a h1 h2, y3 a h1 h2], z2.2.2.2⟩
    unfold f_X12_singsOften
    rw [k351, Option.bind_some, g351_32, Option.bind_some, g351_33, Option.bind_some, y1, Option.bind_some]
    exact z1
theorem ap_no {ns : Nat} {i t : Int32} (g1 : ns ≤ 4) (g2 : S.1 23 3 = nI ns) (h : inN ns i = false ∨ inN 61 t = false) : f_X11_sungApart (hp S c) 0 i t = some (0, hp S c) := by
  unfold f_X11_sungApart
  rw [k0, Option.bind_some, g0_5, Option.bind_some, song_c g2 g1, Option.bind_some]
  cases hs : inN ns i with
  | false => rw [if_pos (show bI false = 0 from rfl)]
  | true =>
    rw [if_neg (show ¬ bI true = 0 by decide)]
    have ht : inN 61 t = false := h.resolve_left (fun z => by rw [hs] at z; cases z)
    unfold inN at ht
    by_cases a : t < 0
    · rw [if_pos a]
    · rw [if_neg a]
      rw [decide_eq_false a] at ht
      by_cases b : nI 61 ≤ t
      · rw [if_neg (show ¬ t ≤ (60 : Int32) from fun z => ?_)]
        rw [Int32.le_iff_toInt_le] at b z
        rw [nI_toInt (by decide)] at b
        rw [show (60 : Int32).toInt = 60 from rfl] at z
        omega
      · rw [decide_eq_false b] at ht
        cases ht
theorem pr_after (R : RR n (pj S)) (i t a b : Int32) : PQ n c (fun h => f_X11_after h 0 i t a b) (fun h => f_X12_after h 351 i t a b) S := by
  obtain ⟨N, W⟩ := R.now
  have h6 := W.2.1
  have hN := W.2.2.2.2.2.2.1
  have h26 := W.2.2.1
  obtain ⟨ns, sl, dg, G⟩ := R.songs
  have g1 := G.1
  have g2 := G.2.1
  have g3 := G.2.2.1
  by_cases hall : inN ns i = true ∧ inN 61 t = true ∧ inN N a = true ∧ inN N b = true
  · obtain ⟨q1, q2, q3, q4⟩ := hall
    obtain ⟨j, hj, rfl⟩ := inN_x q1 (by omega)
    obtain ⟨k, hk, rfl⟩ := inN_x q2 (by decide)
    obtain ⟨x, hx, rfl⟩ := inN_x q3 (by omega)
    obtain ⟨y, hy, rfl⟩ := inN_x q4 (by omega)
    obtain ⟨v, Q, S1, e1, e2, e3, e4, e5, e6⟩ := ap_pair (c := c) G hj (t := k) (by omega) W
    obtain ⟨U', z1, z2, z3⟩ := e6 (T0 S1) (by rw [T0_351 (by decide), e2.1 351 (by omega)]) (fun a ha => by rw [T0_ne (by omega), e2.1 a (by omega)])
    refine PQ.same (S1 := S1) (S2 := U') (v := if v then Q.1 (6 * x + y) else -1000000) R ?_ ?_ (pj_fr e2 sc40) (by rw [frS_pj z2, T0_pj])
    · show f_X11_after (hp S c) 0 (nI j) (nI k) (nI x) (nI y) = _
      unfold f_X11_after
      rw [k0, Option.bind_some, g0_6, Option.bind_some, has_b B30 hN h6, Option.bind_some, q3, if_neg (show ¬ bI true = 0 by decide), Option.bind_some, has_b B30 hN h6, Option.bind_some, q4, if_neg (show ¬ bI true = 0 by decide), e1, Option.bind_some]
      cases v with
      | true => rw [if_neg (show ¬ bI true = 0 by decide), g0_8, Option.bind_some, B40.debt (by omega) (by omega), Option.bind_some, show S1.1 (40 + 1) = Q.1 from e4, if_pos rfl]
      | false => rw [if_pos (show bI false = 0 from rfl), if_neg (show ¬ false = true by decide)]
    · show f_X12_after (hp S1 c) 351 (nI j) (nI k) (nI x) (nI y) = _
      have hT : (T0 S1).1 351 26 = nI N := by rw [T0_351 (by decide), e2.1 351 (by omega)]; exact h26
      unfold f_X12_after
      rw [k351, Option.bind_some, T0_p, Option.bind_some, song_r (by rw [T0_351 (by decide), e2.1 351 (by omega)]; exact g3) g1, Option.bind_some, q1, if_neg (show ¬ bI true = 0 by decide), isIn_b (m := 60) (u := 60) (by decide) rfl, Option.bind_some, q2, if_neg (show ¬ bI true = 0 by decide), house_b hT h6, Option.bind_some, q3, if_neg (show ¬ bI true = 0 by decide), house_b hT h6, Option.bind_some, q4, if_neg (show ¬ bI true = 0 by decide), z1, Option.bind_some]
      cases v with
      | true =>
        rw [if_neg (show ¬ bI true = 0 by decide), g351_33, Option.bind_some, ix6, a365 (by omega), Option.bind_some, if_pos rfl]
        exact congrArg (fun w => some (w, hp U' c)) (z3.1 (6 * x + y) (by omega))
      | false => rw [if_pos (show bI false = 0 from rfl), if_neg (show ¬ false = true by decide)]
  · have hT : (T0 S).1 351 26 = nI N := by rw [T0_351 (by decide)]; exact h26
    refine PQ.same (S1 := S) (S2 := T0 S) (v := -1000000) R ?_ ?_ rfl T0_pj
    · show f_X11_after (hp S c) 0 i t a b = _
      unfold f_X11_after
      rw [k0, Option.bind_some, g0_6, Option.bind_some, has_b B30 hN h6, Option.bind_some]
      cases q3 : inN N a with
      | false => rw [if_pos (show bI false = 0 from rfl)]
      | true =>
        rw [if_neg (show ¬ bI true = 0 by decide), Option.bind_some, has_b B30 hN h6, Option.bind_some]
        cases q4 : inN N b with
        | false => rw [if_pos (show bI false = 0 from rfl)]
        | true =>
          rw [if_neg (show ¬ bI true = 0 by decide), ap_no g1 g2 ?_, Option.bind_some, if_pos rfl]
          cases q1 : inN ns i with
          | false => exact Or.inl rfl
          | true =>
            cases q2 : inN 61 t with
            | false => exact Or.inr rfl
            | true => exact absurd ⟨q1, q2, q3, q4⟩ hall
    · show f_X12_after (hp S c) 351 i t a b = _
      unfold f_X12_after
      rw [k351, Option.bind_some, T0_p, Option.bind_some, song_r (by rw [T0_351 (by decide)]; exact g3) g1, Option.bind_some]
      cases q1 : inN ns i with
      | false => rw [if_pos (show bI false = 0 from rfl)]
      | true =>
        rw [if_neg (show ¬ bI true = 0 by decide), isIn_b (m := 60) (u := 60) (by decide) rfl, Option.bind_some]
        cases q2 : inN 61 t with
        | false => rw [if_pos (show bI false = 0 from rfl)]
        | true =>
          rw [if_neg (show ¬ bI true = 0 by decide), house_b hT h6, Option.bind_some]
          cases q3 : inN N a with
          | false => rw [if_pos (show bI false = 0 from rfl)]
          | true =>
            rw [if_neg (show ¬ bI true = 0 by decide), house_b hT h6, Option.bind_some]
            cases q4 : inN N b with
            | false => rw [if_pos (show bI false = 0 from rfl)]
            | true => exact absurd ⟨q1, q2, q3, q4⟩ hall
theorem pr_worthAfter (R : RR n (pj S)) (i t a : Int32) : PQ n c (fun h => f_X11_worthAfter h 0 i t a) (fun h => f_X12_worthAfter h 351 i t a) S := by
  obtain ⟨N, W⟩ := R.now
  have h6 := W.2.1
  have hN := W.2.2.2.2.2.2.1
  have h26 := W.2.2.1
  obtain ⟨ns, sl, dg, G⟩ := R.songs
  have g1 := G.1
  have g2 := G.2.1
  have g3 := G.2.2.1
  by_cases hall : inN ns i = true ∧ inN 61 t = true ∧ inN N a = true
  · obtain ⟨q1, q2, q3⟩ := hall
    obtain ⟨j, hj, rfl⟩ := inN_x q1 (by omega)
    obtain ⟨k, hk, rfl⟩ := inN_x q2 (by decide)
    obtain ⟨x, hx, rfl⟩ := inN_x q3 (by omega)
    obtain ⟨v, Q, S1, e1, e2, e3, e4, e5, e6⟩ := ap_pair (c := c) G hj (t := k) (by omega) W
    obtain ⟨U', z1, z2, z3⟩ := e6 (T0 S1) (by rw [T0_351 (by decide), e2.1 351 (by omega)]) (fun a ha => by rw [T0_ne (by omega), e2.1 a (by omega)])
    refine PQ.same (S1 := S1) (S2 := U') (v := if v then Q.2 x else -1000000) R ?_ ?_ (pj_fr e2 sc40) (by rw [frS_pj z2, T0_pj])
    · show f_X11_worthAfter (hp S c) 0 (nI j) (nI k) (nI x) = _
      unfold f_X11_worthAfter
      rw [k0, Option.bind_some, g0_6, Option.bind_some, has_b B30 hN h6, Option.bind_some, q3, if_neg (show ¬ bI true = 0 by decide), e1, Option.bind_some]
      cases v with
      | true => rw [if_neg (show ¬ bI true = 0 by decide), g0_8, Option.bind_some, B40.g1, Option.bind_some, B40.a2 (by omega), Option.bind_some, show S1.1 (40 + 2) = Q.2 from e5, if_pos rfl]
      | false => rw [if_pos (show bI false = 0 from rfl), if_neg (show ¬ false = true by decide)]
    · show f_X12_worthAfter (hp S1 c) 351 (nI j) (nI k) (nI x) = _
      have hT : (T0 S1).1 351 26 = nI N := by rw [T0_351 (by decide), e2.1 351 (by omega)]; exact h26
      unfold f_X12_worthAfter
      rw [k351, Option.bind_some, T0_p, Option.bind_some, song_r (by rw [T0_351 (by decide), e2.1 351 (by omega)]; exact g3) g1, Option.bind_some, q1, if_neg (show ¬ bI true = 0 by decide), isIn_b (m := 60) (u := 60) (by decide) rfl, Option.bind_some, q2, if_neg (show ¬ bI true = 0 by decide), house_b hT h6, Option.bind_some, q3, if_neg (show ¬ bI true = 0 by decide), z1, Option.bind_some]
      cases v with
      | true =>
        rw [if_neg (show ¬ bI true = 0 by decide), g351_33, Option.bind_some, i36, a365 (by omega), Option.bind_some, if_pos rfl]
        exact congrArg (fun w => some (w, hp U' c)) (z3.2 x (by omega))
      | false => rw [if_pos (show bI false = 0 from rfl), if_neg (show ¬ false = true by decide)]
  · have hT : (T0 S).1 351 26 = nI N := by rw [T0_351 (by decide)]; exact h26
    refine PQ.same (S1 := S) (S2 := T0 S) (v := -1000000) R ?_ ?_ rfl T0_pj
    · show f_X11_worthAfter (hp S c) 0 i t a = _
      unfold f_X11_worthAfter
      rw [k0, Option.bind_some, g0_6, Option.bind_some, has_b B30 hN h6, Option.bind_some]
      cases q3 : inN N a with
      | false => rw [if_pos (show bI false = 0 from rfl)]
      | true =>
        rw [if_neg (show ¬ bI true = 0 by decide), ap_no g1 g2 ?_, Option.bind_some, if_pos rfl]
        cases q1 : inN ns i with
        | false => exact Or.inl rfl
        | true =>
          cases q2 : inN 61 t with
          | false => exact Or.inr rfl
          | true => exact absurd ⟨q1, q2, q3⟩ hall
    · show f_X12_worthAfter (hp S c) 351 i t a = _
      unfold f_X12_worthAfter
      rw [k351, Option.bind_some, T0_p, Option.bind_some, song_r (by rw [T0_351 (by decide)]; exact g3) g1, Option.bind_some]
      cases q1 : inN ns i with
      | false => rw [if_pos (show bI false = 0 from rfl)]
      | true =>
        rw [if_neg (show ¬ bI true = 0 by decide), isIn_b (m := 60) (u := 60) (by decide) rfl, Option.bind_some]
        cases q2 : inN 61 t with
        | false => rw [if_pos (show bI false = 0 from rfl)]
        | true =>
          rw [if_neg (show ¬ bI true = 0 by decide), house_b hT h6, Option.bind_some]
          cases q3 : inN N a with
          | false => rw [if_pos (show bI false = 0 from rfl)]
          | true => exact absurd ⟨q1, q2, q3⟩ hall
end AFT
