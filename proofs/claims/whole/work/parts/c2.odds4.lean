/-! ODDS, SHARES: both -/
section OD4
variable {S : XS} {c : Nat × Nat} {n : Nat}
theorem inN_ge {m : Nat} {w : Int32} (hm : m + 1 < 2 ^ 31) (h1 : ¬ w < 0) (h2 : w ≤ nI m) : inN (m + 1) w = true := by
  unfold inN
  rw [decide_eq_false h1, decide_eq_false (fun z => ?_)]
  · rfl
  · rw [Int32.le_iff_toInt_le] at h2 z
    rw [nI_toInt (by omega)] at z
    rw [nI_toInt (by omega)] at h2
    omega
theorem pr_odds (R : RR n (pj S)) (i w : Int32) : PQ n c (fun h => f_X11_odds h 0 i w) (fun h => f_X12_odds h 351 i w) S := by
  obtain ⟨N, W⟩ := R.now
  have h6 := W.2.1
  have hl := W.2.2.2.2.2.1
  have hN := W.2.2.2.2.2.2.1
  have h26 := W.2.2.1
  obtain ⟨ns, sl, dg, G⟩ := R.songs
  have g1 := G.1
  have g2 := G.2.1
  have g3 := G.2.2.1
  have no : f_X11_odds (hp S c) 0 i w = some (-1, hp S c) → f_X12_odds (hp S c) 351 i w = some (-1, hp (T0 S) c) → PQ n c (fun h => f_X11_odds h 0 i w) (fun h => f_X12_odds h 351 i w) S := fun z1 z2 => PQ.same (S1 := S) (S2 := T0 S) (v := -1) R z1 z2 rfl T0_pj
  have hT : (T0 S).1 351 26 = nI N := by rw [T0_351 (by decide)]; exact h26
  have hT3 : (T0 S).1 351 30 = nI ns := by rw [T0_351 (by decide)]; exact g3
  cases q1 : inN ns i with
  | false =>
    refine no ?_ ?_
    · unfold f_X11_odds
      rw [k0, Option.bind_some, g0_5, Option.bind_some, song_c g2 g1, Option.bind_some, q1, if_pos (show bI false = 0 from rfl)]
    · unfold f_X12_odds
      rw [k351, Option.bind_some, T0_p, Option.bind_some, song_r hT3 g1, Option.bind_some, q1, if_pos (show bI false = 0 from rfl)]
  | true =>
    obtain ⟨j, hj, rfl⟩ := inN_x q1 (by omega)
    obtain ⟨l1, l2, l3, l4, l5⟩ := G.2.2.2 j hj
    by_cases hN0 : N = 0
    · subst hN0
      refine no ?_ ?_
      · unfold f_X11_odds
        rw [k0, Option.bind_some, g0_5, Option.bind_some, song_c g2 g1, Option.bind_some, q1, if_neg (show ¬ bI true = 0 by decide), g0_6, Option.bind_some, B30.g4, Option.bind_some, hN, if_pos (show nI 0 = 0 from rfl)]
      · unfold f_X12_odds
        rw [k351, Option.bind_some, T0_p, Option.bind_some, song_r hT3 g1, Option.bind_some, q1, if_neg (show ¬ bI true = 0 by decide), g351_26, Option.bind_some, hT, if_pos (show nI 0 = 0 from rfl)]
    · have nz : ¬ nI N = 0 := nI_ne0 (by omega) (by omega)
      by_cases h8 : sl j ≤ 8
      · have c8 : nI (sl j) ≤ (8 : Int32) := (nI_le h8 (by decide) : nI (sl j) ≤ nI 8)
        have r8 : ¬ (8 : Int32) < nI (sl j) := Int32.not_lt.mpr c8
        cases q2 : inN 101 w with
        | true =>
          obtain ⟨ch, hch, rfl⟩ := inN_x q2 (by decide)
          obtain ⟨S1, y1, y2⟩ := X7_quiet (c := c) (j := j) (ch := ch) (Lj := sl j) (dg := dg j) (by omega) W (by omega) (by omega) h8 (fun k hk => ⟨(l5 k hk).2.1, (l5 k hk).1⟩)
          have eS : eqB (S.1 31, S.1 32) (rwB (S.1 364)) := ⟨W.D, W.U⟩
          have hT' : (T0 S1).1 351 26 = S.1 351 26 := by rw [T0_351 (by decide), y2 351 (by omega)]
          have ha : ∀ a, 352 ≤ a → (T0 S1).1 a = S.1 a := fun a h => by rw [T0_ne (by omega), y2 a (by omega)]
          obtain ⟨U1, z1, z2, z3⟩ := rf_begin (c := c) (U := T0 S1) W hT' ha eS
          have rn : RN U1 N (S.1 356 1) j (sl j) (dg j) := ⟨z2.1, z2.2.1, by rw [z3 363 (by decide) (by decide), ha 363 (by decide)]; exact l4, fun k hk => by rw [z3 362 (by decide) (by decide), ha 362 (by decide)]; exact (l5 k hk).2.2⟩
          obtain ⟨U2, x1, x2⟩ := r_odds (c := c) (kp := S.1 364 48) (ch := ch) (by omega) h6 (by omega) hl (by omega) h8 (fun k hk => (l5 k hk).1) (sl j) 12 0 (by omega) (by omega) U1 (S.1 31, S.1 32) 1000000000 (by decide) z2 (Vb_congr eS W.V) rn
          refine PQ.same (S1 := S1) (S2 := U2) R ?_ ?_ (pj_ext fun a k q => ?_) (by rw [frO_pj x2, frS_pj z3, T0_pj]) (v := nI (od N (S.1 364 48) (S.1 356 1) (dg j) ch (sl j) 0 (S.1 31, S.1 32) 1000000000))
          · show f_X11_odds (hp S c) 0 (nI j) (nI ch) = _
            unfold f_X11_odds
            rw [k0, Option.bind_some, g0_5, Option.bind_some, song_c g2 g1, Option.bind_some, q1, if_neg (show ¬ bI true = 0 by decide), g0_6, Option.bind_some, B30.g4, Option.bind_some, hN, if_neg nz, if_neg (nI_nneg (by omega)), if_pos (show nI ch ≤ (100 : Int32) from (nI_le (by omega) (by decide) : nI ch ≤ nI 100)), Option.bind_some, g23_1, Option.bind_some, a24 (by omega), Option.bind_some, l3, if_pos c8, g0_13, Option.bind_some, Option.bind_some, Option.bind_some, g23_0, Option.bind_some, a25 (by omega), Option.bind_some, Option.bind_some, g23_1, Option.bind_some, a24 (by omega), Option.bind_some, l3, Nat.one_mul, y1, Option.bind_some]
          · show f_X12_odds (hp S1 c) 351 (nI j) (nI ch) = _
            unfold f_X12_odds
            rw [k351, Option.bind_some, T0_p, Option.bind_some, song_r (by rw [T0_351 (by decide), y2 351 (by omega)]; exact g3) g1, Option.bind_some, q1, if_neg (show ¬ bI true = 0 by decide), g351_26, Option.bind_some, hT', h26, if_neg nz, g351_25, Option.bind_some, a363 (by omega), Option.bind_some, ha 363 (by decide), l4, if_neg r8, isIn_b (m := 100) (u := 100) (by decide) rfl, Option.bind_some, q2, if_neg (show ¬ bI true = 0 by decide), g351_32, Option.bind_some, g351_33, Option.bind_some, z1, Option.bind_some, show f_X12_oddsFrom 12 (hp U1 c) 351 (nI j) 0 (nI ch) 1000000000 = _ from x1, Option.bind_some]
          · by_cases e : a < 301 ∨ 348 < a
            · rw [y2 a e]
            · rw [sc276 a (by omega) (by omega) k] at q
              cases q
        | false =>
          refine no ?_ ?_
          · unfold f_X11_odds
            rw [k0, Option.bind_some, g0_5, Option.bind_some, song_c g2 g1, Option.bind_some, q1, if_neg (show ¬ bI true = 0 by decide), g0_6, Option.bind_some, B30.g4, Option.bind_some, hN, if_neg nz]
            by_cases a : w < 0
            · rw [if_pos a]
            · rw [if_neg a, if_neg (fun z => by rw [inN_ge (m := 100) (by decide) a z] at q2; cases q2)]
          · unfold f_X12_odds
            rw [k351, Option.bind_some, T0_p, Option.bind_some, song_r hT3 g1, Option.bind_some, q1, if_neg (show ¬ bI true = 0 by decide), g351_26, Option.bind_some, hT, if_neg nz, g351_25, Option.bind_some, a363 (by omega), Option.bind_some, T0_ne (by decide), l4, if_neg r8, isIn_b (m := 100) (u := 100) (by decide) rfl, Option.bind_some, q2, if_pos (show bI false = 0 from rfl)]
      · have r8 : (8 : Int32) < nI (sl j) := (nI_lt (by omega) (by omega) : nI 8 < nI (sl j))
        refine no ?_ ?_
        · unfold f_X11_odds
          rw [k0, Option.bind_some, g0_5, Option.bind_some, song_c g2 g1, Option.bind_some, q1, if_neg (show ¬ bI true = 0 by decide), g0_6, Option.bind_some, B30.g4, Option.bind_some, hN, if_neg nz, Option.bind_some, g23_1, Option.bind_some, a24 (by omega), Option.bind_some, l3, if_neg (Int32.not_le.mpr r8)]
          by_cases a : w < 0
          · rw [if_pos a]
          · rw [if_neg a]
            split <;> rfl
        · unfold f_X12_odds
          rw [k351, Option.bind_some, T0_p, Option.bind_some, song_r hT3 g1, Option.bind_some, q1, if_neg (show ¬ bI true = 0 by decide), g351_26, Option.bind_some, hT, if_neg nz, g351_25, Option.bind_some, a363 (by omega), Option.bind_some, T0_ne (by decide), l4, if_pos r8]
theorem pr_shares (R : RR n (pj S)) (a w : Int32) : PP n c (fun h => f_X11_shares h 0 a w) (fun h => f_X12_shares h 351 a w) S := by
  obtain ⟨N, W⟩ := R.now
  have h6 := W.2.1
  have hl := W.2.2.2.2.2.1
  have hN := W.2.2.2.2.2.2.1
  have h26 := W.2.2.1
  have hT : (T0 S).1 351 26 = nI N := by rw [T0_351 (by decide)]; exact h26
  have t364 : (T0 S).1 364 = S.1 364 := T0_ne (by decide)
  have hfv : fvN (S.1 31) 36 = fvN (S.1 364) 36 := fvN_congr W.D
  have hle : fvN (S.1 364) 36 ≤ 99 * 36 := fvN_le (fun k hk => by
    have A : An (S.1 364) := W.V.1
    have := A.hi (a := k / 6) (b := k % 6) (by omega) (by omega)
    rw [show 6 * (k / 6) + k % 6 = k by omega] at this
    exact this)
  cases q1 : inN N a with
  | false =>
    refine PP.mk (-1) (T0 S) R ?_ ?_ T0_pj
    · unfold f_X11_shares
      rw [k0, Option.bind_some, g0_6, Option.bind_some, has_b B30 hN h6, Option.bind_some, q1, if_pos (show bI false = 0 from rfl)]
    · unfold f_X12_shares
      rw [k351, Option.bind_some, T0_p, Option.bind_some, house_b hT h6, Option.bind_some, q1, if_pos (show bI false = 0 from rfl)]
  | true =>
    obtain ⟨x, hx, rfl⟩ := inN_x q1 (by omega)
    cases q2 : inN 1000 w with
    | false =>
      refine PP.mk (-1) (T0 S) R ?_ ?_ T0_pj
      · unfold f_X11_shares
        rw [k0, Option.bind_some, g0_6, Option.bind_some, has_b B30 hN h6, Option.bind_some, q1, if_neg (show ¬ bI true = 0 by decide)]
        by_cases a : w < 0
        · rw [if_pos a]
        · rw [if_neg a, if_neg (fun z => by rw [inN_ge (m := 999) (by decide) a z] at q2; cases q2)]
      · unfold f_X12_shares
        rw [k351, Option.bind_some, T0_p, Option.bind_some, house_b hT h6, Option.bind_some, q1, if_neg (show ¬ bI true = 0 by decide), isIn_b (m := 999) (u := 999) (by decide) rfl, Option.bind_some, q2, if_pos (show bI false = 0 from rfl)]
    | true =>
      obtain ⟨k, hk, rfl⟩ := inN_x q2 (by decide)
      have kk : nI k ≤ (999 : Int32) := (nI_le (by omega) (by decide) : nI k ≤ nI 999)
      by_cases h0 : fvN (S.1 364) 36 = 0
      · refine PP.mk 0 (T0 S) R ?_ ?_ T0_pj
        · unfold f_X11_shares
          rw [k0, Option.bind_some, g0_6, Option.bind_some, has_b B30 hN h6, Option.bind_some, q1, if_neg (show ¬ bI true = 0 by decide), if_neg (nI_nneg (by omega)), if_pos kk, Option.bind_some, B30.favours, Option.bind_some, sF_N, show fvN (S.1 (30 + 1)) 36 = fvN (S.1 364) 36 from hfv, h0, if_pos (show nI 0 ≤ 0 by decide)]
        · unfold f_X12_shares
          rw [k351, Option.bind_some, T0_p, Option.bind_some, house_b hT h6, Option.bind_some, q1, if_neg (show ¬ bI true = 0 by decide), isIn_b (m := 999) (u := 999) (by decide) rfl, Option.bind_some, q2, if_neg (show ¬ bI true = 0 by decide), g351_32, Option.bind_some, r_all (Or.inl rfl) hT h6, Option.bind_some, t364, sAll_fv (D := S.1 364) h6 W.Z, h0, if_pos (show nI 0 = 0 from rfl)]
      · have nz : ¬ nI (fvN (S.1 364) 36) = 0 := nI_ne0 (by omega) (by omega)
        refine PP.mk (nI k * sIn (S.1 364) x N / nI (fvN (S.1 364) 36)) (T0 S) R ?_ ?_ T0_pj
        · unfold f_X11_shares
          rw [k0, Option.bind_some, g0_6, Option.bind_some, has_b B30 hN h6, Option.bind_some, q1, if_neg (show ¬ bI true = 0 by decide), if_neg (nI_nneg (by omega)), if_pos kk, Option.bind_some, B30.favours, Option.bind_some, sF_N, show fvN (S.1 (30 + 1)) 36 = fvN (S.1 364) 36 from hfv, if_neg (fun z => by rw [le0 (by omega)] at z; omega), Option.bind_some, B30.incoming hN h6 (by omega), Option.bind_some, if_neg nz, sIn_cg (D := S.1 (30 + 1)) (D' := S.1 364) (by omega) W.D N h6]
        · unfold f_X12_shares
          rw [k351, Option.bind_some, T0_p, Option.bind_some, house_b hT h6, Option.bind_some, q1, if_neg (show ¬ bI true = 0 by decide), isIn_b (m := 999) (u := 999) (by decide) rfl, Option.bind_some, q2, if_neg (show ¬ bI true = 0 by decide), g351_32, Option.bind_some, r_all (Or.inl rfl) hT h6, Option.bind_some, t364, sAll_fv (D := S.1 364) h6 W.Z, if_neg nz, Option.bind_some, r_in (Or.inl rfl) hT h6 (by omega), Option.bind_some, if_neg nz, t364]
end OD4
