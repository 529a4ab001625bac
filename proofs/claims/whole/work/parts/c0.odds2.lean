/-! ODDS: the class, all ways -/
section OD2
variable {S : XS} {c : Nat × Nat} {n N j L ch : Nat} {kp lim : Int32} {dg : Nat → Nat}
theorem c_quiet (hj : j < 4) (h6 : N ≤ 6) (h0 : 0 < N) (hl : lim.toInt ≤ 99) (hc : ch ≤ 100) (hL : L ≤ 8) : ∀ (r q i : Nat), i + r = L → 2 * r + 1 ≤ q → CQ c N kp lim dg L ch j q r i
  | 0, q, i, hi, hq => fun S p hp' B s => by
    obtain ⟨q, rfl⟩ : ∃ g, q = g + 1 := ⟨q - 1, by omega⟩
    refine ⟨S, ?_, fun _ _ => rfl, rfl⟩
    have eb : f_X7_quiet (q + 1) = g_X7_quiet (f_X7_branch q) (f_X7_quiet q) := rfl
    rw [eb]
    unfold g_X7_quiet
    rw [k301, Option.bind_some, g301_0, Option.bind_some, a302 (by omega), Option.bind_some, g301_2, Option.bind_some, s.1, if_neg (nI_nlt (by omega) (by omega)), (B304 (i := i) (by omega)).levels B.1 h6, Option.bind_some]
    have hlr := lv_ring (D := S.1 (304 + 5 * i + 1)) h6
    show _ = some (lN (if rng (S.1 (304 + 5 * i + 1)) N then 0 else p), hp S c)
    cases hr : rng (S.1 (304 + 5 * i + 1)) N with
    | true =>
      rw [if_pos (hlr.mpr hr), if_pos rfl]
      rfl
    | false => rw [if_neg (fun z => by rw [hlr, hr] at z; cases z), if_neg (show ¬ false = true by decide)]
  | r + 1, q, i, hi, hq => fun S p hp' B s => by
    obtain ⟨q, rfl⟩ : ∃ g, q = g + 2 := ⟨q - 2, by omega⟩
    have ih := c_quiet hj h6 h0 hl hc hL r q (i + 1) (by omega) (by omega)
    have eb : f_X7_quiet (q + 2) = g_X7_quiet (f_X7_branch (q + 1)) (f_X7_quiet (q + 1)) := rfl
    obtain ⟨s1, s2, s3, s4⟩ := s
    obtain ⟨d1, d2⟩ := s4 i (by omega)
    obtain ⟨sl1, sl2⟩ := slip_c (p := p) hp' hc
    obtain ⟨S1, y1, y2, y3⟩ := c_branch (x := dg i) hj h6 hl hc (by omega) (by omega) ih S (p - p * ch / 100) (by omega) B ⟨s1, s2, s3, s4⟩ false
    rw [if_neg (show ¬ false = true by decide), if_neg (show ¬ false = true by decide)] at y1
    have B1 : BQ S1 N kp lim i := by
      unfold BQ
      rw [y2 _ (by omega), y2 _ (by omega), y2 _ (by omega)]
      exact B
    have sl' : SL S1 L ch j dg := SL.of ⟨s1, s2, s3, s4⟩ hj (fun a ha => y2 a (by omega)) y3
    have e1 : S1.1 (304 + 5 * i + 1) = S.1 (304 + 5 * i + 1) := y2 _ (by omega)
    have e2 : S1.1 (304 + 5 * i + 2) = S.1 (304 + 5 * i + 2) := y2 _ (by omega)
    show ∃ S', _ = some (lN (od N kp lim dg ch r (i + 1) (ph N kp lim true (S.1 (304 + 5 * i + 1), S.1 (304 + 5 * i + 2)) (dg i)) (p - p * ch / 100) + od N kp lim dg ch r (i + 1) (slp N kp lim (S.1 (304 + 5 * i + 1), S.1 (304 + 5 * i + 2)) (dg i)) (p * ch / 100)), hp S' c) ∧ _
    have fin : ∀ nx : Int32, (dg i < N → nx = nI ((dg i + 1) % N)) → ∃ S', f_X7_quiet_b72 (f_X7_branch (q + 1)) (f_X7_quiet (q + 1)) (hp S c) 301 (nI i) (lN p) (304 + 5 * i) (nI (dg i)) (lN (p * ch / 100)) nx = some (lN (od N kp lim dg ch r (i + 1) (ph N kp lim true (S.1 (304 + 5 * i + 1), S.1 (304 + 5 * i + 2)) (dg i)) (p - p * ch / 100) + od N kp lim dg ch r (i + 1) (slp N kp lim (S.1 (304 + 5 * i + 1), S.1 (304 + 5 * i + 2)) (dg i)) (p * ch / 100)), hp S' c) ∧ (∀ a, a < 304 + 5 * (i + 1) ∨ 348 < a → S'.1 a = S.1 a) ∧ S'.2 = S.2 := fun nx hnx => by
      unfold f_X7_quiet_b72 f_X7_quiet_b107
      rw [lN_sub sl2, y1, Option.bind_some, has_b (B304 (i := i) (by omega)) B1.1 h6, Option.bind_some]
      by_cases hd : dg i < N
      · have hm : (dg i + 1) % N < N := Nat.mod_lt _ h0
        obtain ⟨S', z1, z2, z3⟩ := c_branch (x := (dg i + 1) % N) hj h6 hl hc (by omega) (by omega) ih S1 (p * ch / 100) (by omega) B1 sl' false
        rw [if_neg (show ¬ false = true by decide), if_neg (show ¬ false = true by decide), e1, e2] at z1
        refine ⟨S', ?_, fun a ha => by rw [z2 a ha, y2 a ha], by rw [z3, y3]⟩
        rw [inN_i hd (by omega), if_neg (show ¬ bI true = 0 by decide), hnx hd, z1, Option.bind_some, lN_add]
        unfold slp
        rw [if_pos hd]
      · obtain ⟨S', z1, z2, z3⟩ := c_branch (x := 0) hj h6 hl hc (by omega) (by omega) ih S1 (p * ch / 100) (by omega) B1 sl' true
        rw [if_pos rfl, if_pos rfl, e1, e2] at z1
        refine ⟨S', ?_, fun a ha => by rw [z2 a ha, y2 a ha], by rw [z3, y3]⟩
        rw [inN_o (Or.inr ⟨nI_nneg (by omega), nI_le (by omega) (by omega)⟩), if_pos (show bI false = 0 from rfl), z1, Option.bind_some, lN_add]
        unfold slp
        rw [if_neg hd]
    rw [eb]
    unfold g_X7_quiet
    rw [k301, Option.bind_some, g301_0, Option.bind_some, a302 (by omega), Option.bind_some, g301_2, Option.bind_some, s1, if_pos (nI_lt (by omega) (by omega)), g301_1, Option.bind_some, s3, a26s hj (by omega), Option.bind_some, d1, g301_3, Option.bind_some, s2, (B304 (i := i) (by omega)).g4, Option.bind_some, B.1, sl1, nI_1]
    by_cases e : dg i + 1 = N
    · rw [if_pos (by rw [e])]
      exact fin 0 (fun _ => by rw [e, Nat.mod_self]; rfl)
    · rw [if_neg (fun z => e ((nI_eq (by omega) (by omega)).mp z))]
      exact fin _ (fun hd => by rw [Nat.mod_eq_of_lt (by omega)])
theorem X7_quiet {Lj : Nat} (hj : j < 4) (W : NW S N lim kp (rwB (S.1 364))) (h0 : 0 < N) (hc : ch ≤ 100) (hL : Lj ≤ 8) (hs : ∀ k, k < Lj → S.1 (26 + j) k = nI (dg k) ∧ dg k < 10) : ∃ S', f_X7_quietParts (hp S c) 301 30 (26 + j) (nI Lj) (nI ch) = some (nI (od N kp lim dg ch Lj 0 (S.1 31, S.1 32) 1000000000), hp S' c) ∧ ∀ a, a < 301 ∨ 348 < a → S'.1 a = S.1 a := by
  have h6 := W.2.1
  have hl := W.2.2.2.2.2.1
  have eW : eqB (S.1 31, S.1 32) (rwB (S.1 364)) := ⟨W.D, W.U⟩
  have hV := W.V
  obtain ⟨w1, w2, w3, w4, w5, w6, w7, w8, w9, w10, -⟩ := W
  obtain ⟨T, hT⟩ : ∃ T, T = wA (wT S 301 (26 + j)) 301 (upd (upd (S.1 301) 2 (nI Lj)) 3 (nI ch)) := ⟨_, rfl⟩
  have To : ∀ a, a ≠ 301 → T.1 a = S.1 a := fun a ha => by rw [hT, wA_ne ha, wT_1]
  obtain ⟨S1, e1, e2, e3⟩ := (B304 (i := 0) (by decide)).become (S := T) (c := c) B30 (by decide)
  obtain ⟨b1, b2, b3, b4, b5⟩ := e2
  have eQ : eqB (S1.1 (304 + 5 * 0 + 1), S1.1 (304 + 5 * 0 + 2)) (S.1 31, S.1 32) := ⟨fun k hk => by
    have := b1 k hk
    rw [To (30 + 1) (by decide)] at this
    exact this, fun k hk => by
    have := b2 k hk
    rw [To (30 + 2) (by decide)] at this
    exact this⟩
  have B : BQ S1 N kp lim 0 := ⟨(b5 4 (by decide) (by decide)).trans (by rw [To 30 (by decide)]; exact w7), (b5 5 (by decide) (by decide)).trans (by rw [To 30 (by decide)]; exact w8), (b5 6 (by decide) (by decide)).trans (by rw [To 30 (by decide)]; exact w9), Vb_congr (eQ.trans eW) hV⟩
  have s : SL S1 Lj ch j dg := by
    refine ⟨?_, ?_, ?_, fun k hk => ?_⟩
    · rw [e3.1 301 (by omega), hT, wA_same, upd_ne (by decide), upd_same]
    · rw [e3.1 301 (by omega), hT, wA_same, upd_same]
    · rw [e3.2, hT, wA_2]
      exact wT_same
    · rw [e3.1 (26 + j) (by omega), To (26 + j) (by omega)]
      exact hs k hk
  obtain ⟨S', y1, y2, y3⟩ := c_quiet (c := c) (kp := kp) hj h6 h0 hl hc hL Lj 24 0 (by omega) (by omega) S1 1000000000 (by decide) B s
  have ole := od_le (N := N) (kp := kp) (lim := lim) (dg := dg) hc Lj 0 (S.1 31, S.1 32) 1000000000
  rw [od_cg h6 Lj 0 _ _ _ eQ] at y1
  refine ⟨S', ?_, fun a ha => by rw [y2 a (by omega), e3.1 a (by omega), To a (by omega)]⟩
  have im : imax (0 : Int32) (imin (imin (nI Lj) (8 : Int32)) (nI 16)) = nI Lj := by
    rw [show (8 : Int32) = nI 8 from rfl, imin_nI (by omega) (by decide), imin_nI (by omega) (by decide), show (0 : Int32) = nI 0 from rfl, imax_nI (by decide) (by omega)]
    congr 1
    omega
  unfold f_X7_quietParts
  rw [k301, Option.bind_some, p301_1, Option.bind_some, aN_hp (s26l hj) (by decide), Option.bind_some, im, p301_2, Option.bind_some, p301_3, Option.bind_some, wA_wA, wA_same, wT_1, ← hT, g301_0, Option.bind_some, show (0 : Int32) = nI 0 from rfl, a302 (by decide), Option.bind_some, e1, Option.bind_some, show (1000000000 : Int64) = lN 1000000000 from rfl, y1, Option.bind_some, lN_i32 (by omega)]
end OD2
