/-! ALL -/
section AL4
variable {S : XS} {c : Nat × Nat} {n : Nat}
theorem ra_0 {N : Nat} (hT : (T0 S).1 351 26 = nI N) (nz : ¬ nI N = 0) : f_X12_all (hp S c) 351 (nI 0) = ((f_X12_greatest (hp (T0 S) c) 351 (nI 0)).bind fun q5 => some (q5, hp (T0 S) c)) := by
  unfold f_X12_all
  rw [k351, Option.bind_some, T0_p, Option.bind_some, g351_26, Option.bind_some, hT, if_neg nz, if_pos (show nI 0 = (0 : Int32) from rfl)]
theorem ra_1 {N : Nat} (hT : (T0 S).1 351 26 = nI N) (nz : ¬ nI N = 0) : f_X12_all (hp S c) 351 (nI 1) = ((f_X12_greatest (hp (T0 S) c) 351 (nI 1)).bind fun q5 => some (q5, hp (T0 S) c)) := by
  unfold f_X12_all
  rw [k351, Option.bind_some, T0_p, Option.bind_some, g351_26, Option.bind_some, hT, if_neg nz, if_neg (show ¬ nI 1 = (0 : Int32) by decide), if_pos (show nI 1 = (1 : Int32) from rfl)]
theorem ra_2 {N : Nat} (hT : (T0 S).1 351 26 = nI N) (nz : ¬ nI N = 0) : f_X12_all (hp S c) 351 (nI 2) = ((f_X12_greatest (hp (T0 S) c) 351 (nI 2)).bind fun q5 => some (q5, hp (T0 S) c)) := by
  unfold f_X12_all
  rw [k351, Option.bind_some, T0_p, Option.bind_some, g351_26, Option.bind_some, hT, if_neg nz, if_neg (show ¬ nI 2 = (0 : Int32) by decide), if_neg (show ¬ nI 2 = (1 : Int32) by decide), if_pos (show nI 2 = (2 : Int32) from rfl)]
theorem ra_3 {N : Nat} (hT : (T0 S).1 351 26 = nI N) (nz : ¬ nI N = 0) : f_X12_all (hp S c) 351 (nI 3) = ((f_X12_greatest (hp (T0 S) c) 351 (nI 3)).bind fun q5 => some (q5, hp (T0 S) c)) := by
  unfold f_X12_all
  rw [k351, Option.bind_some, T0_p, Option.bind_some, g351_26, Option.bind_some, hT, if_neg nz, if_neg (show ¬ nI 3 = (0 : Int32) by decide), if_neg (show ¬ nI 3 = (1 : Int32) by decide), if_neg (show ¬ nI 3 = (2 : Int32) by decide), if_pos (show nI 3 = (3 : Int32) from rfl)]
theorem ra_4 {N : Nat} (hT : (T0 S).1 351 26 = nI N) (nz : ¬ nI N = 0) : f_X12_all (hp S c) 351 (nI 4) = ((f_X12_greatest (hp (T0 S) c) 351 (nI 4)).bind fun q5 => some (q5, hp (T0 S) c)) := by
  unfold f_X12_all
  rw [k351, Option.bind_some, T0_p, Option.bind_some, g351_26, Option.bind_some, hT, if_neg nz, if_neg (show ¬ nI 4 = (0 : Int32) by decide), if_neg (show ¬ nI 4 = (1 : Int32) by decide), if_neg (show ¬ nI 4 = (2 : Int32) by decide), if_neg (show ¬ nI 4 = (3 : Int32) by decide), if_pos (show nI 4 = (4 : Int32) from rfl)]
theorem ra_5 {N : Nat} (hT : (T0 S).1 351 26 = nI N) (nz : ¬ nI N = 0) : f_X12_all (hp S c) 351 (nI 5) = ((gR [12] 32 (hp (T0 S) c) 351).bind fun x15 => (f_X12_allFavours (hp (T0 S) c) 351 x15).bind fun q16 => some (q16, hp (T0 S) c)) := by
  unfold f_X12_all
  rw [k351, Option.bind_some, T0_p, Option.bind_some, g351_26, Option.bind_some, hT, if_neg nz, if_neg (show ¬ nI 5 = (0 : Int32) by decide), if_neg (show ¬ nI 5 = (1 : Int32) by decide), if_neg (show ¬ nI 5 = (2 : Int32) by decide), if_neg (show ¬ nI 5 = (3 : Int32) by decide), if_neg (show ¬ nI 5 = (4 : Int32) by decide), if_pos (show nI 5 = (5 : Int32) from rfl)]
theorem ra_6 {N : Nat} (hT : (T0 S).1 351 26 = nI N) (nz : ¬ nI N = 0) : f_X12_all (hp S c) 351 (nI 6) = ((f_X12_pairs (hp (T0 S) c) 351).bind fun q18 => some (q18, hp (T0 S) c)) := by
  unfold f_X12_all
  rw [k351, Option.bind_some, T0_p, Option.bind_some, g351_26, Option.bind_some, hT, if_neg nz, if_neg (show ¬ nI 6 = (0 : Int32) by decide), if_neg (show ¬ nI 6 = (1 : Int32) by decide), if_neg (show ¬ nI 6 = (2 : Int32) by decide), if_neg (show ¬ nI 6 = (3 : Int32) by decide), if_neg (show ¬ nI 6 = (4 : Int32) by decide), if_neg (show ¬ nI 6 = (5 : Int32) by decide), if_pos (show nI 6 = (6 : Int32) from rfl)]
theorem ra_7 {N : Nat} (hT : (T0 S).1 351 26 = nI N) (nz : ¬ nI N = 0) : f_X12_all (hp S c) 351 (nI 7) = ((f_X12_thoseWho (hp (T0 S) c) 351 (1 : Int32) (0 : Int32)).bind fun q20 => some (q20, hp (T0 S) c)) := by
  unfold f_X12_all
  rw [k351, Option.bind_some, T0_p, Option.bind_some, g351_26, Option.bind_some, hT, if_neg nz, if_neg (show ¬ nI 7 = (0 : Int32) by decide), if_neg (show ¬ nI 7 = (1 : Int32) by decide), if_neg (show ¬ nI 7 = (2 : Int32) by decide), if_neg (show ¬ nI 7 = (3 : Int32) by decide), if_neg (show ¬ nI 7 = (4 : Int32) by decide), if_neg (show ¬ nI 7 = (5 : Int32) by decide), if_neg (show ¬ nI 7 = (6 : Int32) by decide), if_pos (show nI 7 = (7 : Int32) from rfl)]
theorem ra_8 {N : Nat} (hT : (T0 S).1 351 26 = nI N) (nz : ¬ nI N = 0) : f_X12_all (hp S c) 351 (nI 8) = ((f_X12_thoseWho (hp (T0 S) c) 351 (0 : Int32) (1 : Int32)).bind fun q22 => some (q22, hp (T0 S) c)) := by
  unfold f_X12_all
  rw [k351, Option.bind_some, T0_p, Option.bind_some, g351_26, Option.bind_some, hT, if_neg nz, if_neg (show ¬ nI 8 = (0 : Int32) by decide), if_neg (show ¬ nI 8 = (1 : Int32) by decide), if_neg (show ¬ nI 8 = (2 : Int32) by decide), if_neg (show ¬ nI 8 = (3 : Int32) by decide), if_neg (show ¬ nI 8 = (4 : Int32) by decide), if_neg (show ¬ nI 8 = (5 : Int32) by decide), if_neg (show ¬ nI 8 = (6 : Int32) by decide), if_neg (show ¬ nI 8 = (7 : Int32) by decide), if_pos (show nI 8 = (8 : Int32) from rfl)]
theorem ra_9 {N : Nat} (hT : (T0 S).1 351 26 = nI N) (nz : ¬ nI N = 0) : f_X12_all (hp S c) 351 (nI 9) = ((f_X12_thoseWho (hp (T0 S) c) 351 (0 : Int32) (0 : Int32)).bind fun q24 => some (q24, hp (T0 S) c)) := by
  unfold f_X12_all
  rw [k351, Option.bind_some, T0_p, Option.bind_some, g351_26, Option.bind_some, hT, if_neg nz, if_neg (show ¬ nI 9 = (0 : Int32) by decide), if_neg (show ¬ nI 9 = (1 : Int32) by decide), if_neg (show ¬ nI 9 = (2 : Int32) by decide), if_neg (show ¬ nI 9 = (3 : Int32) by decide), if_neg (show ¬ nI 9 = (4 : Int32) by decide), if_neg (show ¬ nI 9 = (5 : Int32) by decide), if_neg (show ¬ nI 9 = (6 : Int32) by decide), if_neg (show ¬ nI 9 = (7 : Int32) by decide), if_neg (show ¬ nI 9 = (8 : Int32) by decide), if_pos (show nI 9 = (9 : Int32) from rfl)]
theorem ra_10 {N : Nat} (hT : (T0 S).1 351 26 = nI N) (nz : ¬ nI N = 0) : f_X12_all (hp S c) 351 (nI 10) = ((gR [12] 32 (hp (T0 S) c) 351).bind fun x26 => (aI (hp (T0 S) c) x26 (48 : Int32)).bind fun x27 => some (x27, hp (T0 S) c)) := by
  unfold f_X12_all
  rw [k351, Option.bind_some, T0_p, Option.bind_some, g351_26, Option.bind_some, hT, if_neg nz, if_neg (show ¬ nI 10 = (0 : Int32) by decide), if_neg (show ¬ nI 10 = (1 : Int32) by decide), if_neg (show ¬ nI 10 = (2 : Int32) by decide), if_neg (show ¬ nI 10 = (3 : Int32) by decide), if_neg (show ¬ nI 10 = (4 : Int32) by decide), if_neg (show ¬ nI 10 = (5 : Int32) by decide), if_neg (show ¬ nI 10 = (6 : Int32) by decide), if_neg (show ¬ nI 10 = (7 : Int32) by decide), if_neg (show ¬ nI 10 = (8 : Int32) by decide), if_neg (show ¬ nI 10 = (9 : Int32) by decide), if_pos (show nI 10 = (10 : Int32) from rfl)]
theorem ra_11 {N : Nat} (hT : (T0 S).1 351 26 = nI N) (nz : ¬ nI N = 0) : f_X12_all (hp S c) 351 (nI 11) = ((f_X12_thoseThatCan (hp (T0 S) c) 351).bind fun q29 => some (q29.1, q29.2)) := by
  unfold f_X12_all
  rw [k351, Option.bind_some, T0_p, Option.bind_some, g351_26, Option.bind_some, hT, if_neg nz, if_neg (show ¬ nI 11 = (0 : Int32) by decide), if_neg (show ¬ nI 11 = (1 : Int32) by decide), if_neg (show ¬ nI 11 = (2 : Int32) by decide), if_neg (show ¬ nI 11 = (3 : Int32) by decide), if_neg (show ¬ nI 11 = (4 : Int32) by decide), if_neg (show ¬ nI 11 = (5 : Int32) by decide), if_neg (show ¬ nI 11 = (6 : Int32) by decide), if_neg (show ¬ nI 11 = (7 : Int32) by decide), if_neg (show ¬ nI 11 = (8 : Int32) by decide), if_neg (show ¬ nI 11 = (9 : Int32) by decide), if_neg (show ¬ nI 11 = (10 : Int32) by decide), if_pos (show nI 11 = (11 : Int32) from rfl)]
theorem ra_12 {N : Nat} (hT : (T0 S).1 351 26 = nI N) (nz : ¬ nI N = 0) : f_X12_all (hp S c) 351 (nI 12) = ((f_X12_levels (hp (T0 S) c) 351).bind fun q31 => some (q31.1, q31.2)) := by
  unfold f_X12_all
  rw [k351, Option.bind_some, T0_p, Option.bind_some, g351_26, Option.bind_some, hT, if_neg nz, if_neg (show ¬ nI 12 = (0 : Int32) by decide), if_neg (show ¬ nI 12 = (1 : Int32) by decide), if_neg (show ¬ nI 12 = (2 : Int32) by decide), if_neg (show ¬ nI 12 = (3 : Int32) by decide), if_neg (show ¬ nI 12 = (4 : Int32) by decide), if_neg (show ¬ nI 12 = (5 : Int32) by decide), if_neg (show ¬ nI 12 = (6 : Int32) by decide), if_neg (show ¬ nI 12 = (7 : Int32) by decide), if_neg (show ¬ nI 12 = (8 : Int32) by decide), if_neg (show ¬ nI 12 = (9 : Int32) by decide), if_neg (show ¬ nI 12 = (10 : Int32) by decide), if_neg (show ¬ nI 12 = (11 : Int32) by decide), if_pos (show nI 12 = (12 : Int32) from rfl)]
theorem ra_13 {N : Nat} (hT : (T0 S).1 351 26 = nI N) (nz : ¬ nI N = 0) : f_X12_all (hp S c) 351 (nI 13) = ((f_X12_mostBetween (hp (T0 S) c) 351).bind fun q33 => some (q33, hp (T0 S) c)) := by
  unfold f_X12_all
  rw [k351, Option.bind_some, T0_p, Option.bind_some, g351_26, Option.bind_some, hT, if_neg nz, if_neg (show ¬ nI 13 = (0 : Int32) by decide), if_neg (show ¬ nI 13 = (1 : Int32) by decide), if_neg (show ¬ nI 13 = (2 : Int32) by decide), if_neg (show ¬ nI 13 = (3 : Int32) by decide), if_neg (show ¬ nI 13 = (4 : Int32) by decide), if_neg (show ¬ nI 13 = (5 : Int32) by decide), if_neg (show ¬ nI 13 = (6 : Int32) by decide), if_neg (show ¬ nI 13 = (7 : Int32) by decide), if_neg (show ¬ nI 13 = (8 : Int32) by decide), if_neg (show ¬ nI 13 = (9 : Int32) by decide), if_neg (show ¬ nI 13 = (10 : Int32) by decide), if_neg (show ¬ nI 13 = (11 : Int32) by decide), if_neg (show ¬ nI 13 = (12 : Int32) by decide), if_pos (show nI 13 = (13 : Int32) from rfl)]
theorem all_cls {N : Nat} {lim kp : Int32} (W : TW S S N lim kp) (hN0 : N ≠ 0) {x : Int32} : f_X11_all (hp S c) 0 x = if x < 0 then f_X11_all_b28 (hp S c) 0 x else if (4 : Int32) < x then f_X11_all_b28 (hp S c) 0 x else (f_X11_houseWithMost (hp S c) 0 x).bind fun q6 => some q6 := by
  have h6 := W.2.1
  have hN := W.2.2.2.2.2.1
  have nz : ¬ nI N = 0 := nI_ne0 (by omega) (by omega)
  unfold f_X11_all
  rw [k0, Option.bind_some, g0_6, Option.bind_some, B30.g4, Option.bind_some, hN, if_neg nz]
theorem all_out (R : RR n (pj S)) {N : Nat} {lim kp : Int32} (W : TW S S N lim kp) (hN0 : N ≠ 0) {x : Int32} (hin : inN 14 x = false) : PP n c (fun h => f_X11_all h 0 x) (fun h => f_X12_all h 351 x) S := by
  have h6 := W.2.1
  have hN := W.2.2.2.2.2.1
  have h26 := W.2.2.1
  have hT : (T0 S).1 351 26 = nI N := by rw [T0_351 (by decide)]; exact h26
  have t364 : (T0 S).1 364 = S.1 364 := T0_ne (by decide)
  have t358 : (T0 S).1 358 = S.1 358 := T0_ne (by decide)
  have tE := W.2.2.2.2.2.2.2.2.2.1
  have tV := W.2.2.2.2.2.2.2.2.2.2.1
  have tZ := W.2.2.2.2.2.2.2.2.2.2.2.1
  have nz : ¬ nI N = 0 := nI_ne0 (by omega) (by omega)
  have hne : ∀ k, k < 14 → ¬ x = nI k := fun k hk z => by
    rw [z, inN_i hk (by decide)] at hin
    cases hin
  have b46 : f_X11_all_b46 (hp S c) 0 x = some (-1000000) := by
    unfold f_X11_all_b46
    rw [if_neg (show ¬ x = 5 from hne 5 (by decide)), if_neg (show ¬ x = 6 from hne 6 (by decide)), if_neg (show ¬ x = 7 from hne 7 (by decide)), if_neg (show ¬ x = 8 from hne 8 (by decide)), if_neg (show ¬ x = 9 from hne 9 (by decide)), if_neg (show ¬ x = 10 from hne 10 (by decide)), if_neg (show ¬ x = 11 from hne 11 (by decide)), if_neg (show ¬ x = 12 from hne 12 (by decide)), if_neg (show ¬ x = 13 from hne 13 (by decide))]
  refine PP.mk (-1000000) (T0 S) R ?_ ?_ T0_pj
  · show f_X11_all (hp S c) 0 x = _
    rw [all_cls W hN0]
    unfold f_X11_all_b28
    rw [b46]
    by_cases a : x < 0
    · have : x < 7 := by
        rw [Int32.lt_iff_toInt_lt] at a ⊢
        rw [show (0 : Int32).toInt = 0 from rfl] at a
        rw [show (7 : Int32).toInt = 7 from rfl]
        omega
      rw [if_pos a, if_pos this]
    · have b : nI 14 ≤ x := by
        unfold inN at hin
        rw [decide_eq_false a] at hin
        by_cases b : nI 14 ≤ x
        · exact b
        · rw [decide_eq_false b] at hin
          cases hin
      rw [Int32.le_iff_toInt_le, nI_toInt (by decide)] at b
      have g4 : (4 : Int32) < x := by
        rw [Int32.lt_iff_toInt_lt, show (4 : Int32).toInt = 4 from rfl]
        omega
      have g7 : ¬ x < 7 := by
        rw [Int32.lt_iff_toInt_lt, show (7 : Int32).toInt = 7 from rfl]
        omega
      have g11 : (11 : Int32) < x := by
        rw [Int32.lt_iff_toInt_lt, show (11 : Int32).toInt = 11 from rfl]
        omega
      rw [if_neg a, if_pos g4, if_neg g7, if_pos g11]
  · show f_X12_all (hp S c) 351 x = _
    unfold f_X12_all
    rw [k351, Option.bind_some, T0_p, Option.bind_some, g351_26, Option.bind_some, hT, if_neg nz, if_neg (show ¬ x = 0 from hne 0 (by decide)), if_neg (show ¬ x = 1 from hne 1 (by decide)), if_neg (show ¬ x = 2 from hne 2 (by decide)), if_neg (show ¬ x = 3 from hne 3 (by decide)), if_neg (show ¬ x = 4 from hne 4 (by decide)), if_neg (show ¬ x = 5 from hne 5 (by decide)), if_neg (show ¬ x = 6 from hne 6 (by decide)), if_neg (show ¬ x = 7 from hne 7 (by decide)), if_neg (show ¬ x = 8 from hne 8 (by decide)), if_neg (show ¬ x = 9 from hne 9 (by decide)), if_neg (show ¬ x = 10 from hne 10 (by decide)), if_neg (show ¬ x = 11 from hne 11 (by decide)), if_neg (show ¬ x = 12 from hne 12 (by decide)), if_neg (show ¬ x = 13 from hne 13 (by decide))]
theorem all_most (R : RR n (pj S)) {N : Nat} {lim kp : Int32} (W : TW S S N lim kp) (hN0 : N ≠ 0) {kd : Nat} (h5 : kd < 5) : PP n c (fun h => f_X11_all h 0 (nI kd)) (fun h => f_X12_all h 351 (nI kd)) S := by
  have h6 := W.2.1
  have hN := W.2.2.2.2.2.1
  have h26 := W.2.2.1
  have hT : (T0 S).1 351 26 = nI N := by rw [T0_351 (by decide)]; exact h26
  have t364 : (T0 S).1 364 = S.1 364 := T0_ne (by decide)
  have t358 : (T0 S).1 358 = S.1 358 := T0_ne (by decide)
  have tE := W.2.2.2.2.2.2.2.2.2.1
  have tV := W.2.2.2.2.2.2.2.2.2.2.1
  have tZ := W.2.2.2.2.2.2.2.2.2.2.2.1
  have nz : ¬ nI N = 0 := nI_ne0 (by omega) (by omega)
  have cm := c_most (c := c) W h5 (by omega) (N - 1) 1 1048576 0 (by omega) (by omega) (by omega)
  have rm := r_most (c := c) (U := T0 S) (S := S) h6 hT t364 t358 h5 (N - 1) 1 1048576 0 (by omega) (by omega) (by omega)
  have hg : f_X12_greatest (hp (T0 S) c) 351 (nI kd) = some (nI (mst (av S N kd) (N - 1) 1 0)) := by
    unfold f_X12_greatest
    rw [k351, Option.bind_some]
    exact rm
  refine PP.mk (nI (mst (av S N kd) (N - 1) 1 0)) (T0 S) R ?_ ?_ T0_pj
  · show f_X11_all (hp S c) 0 (nI kd) = _
    rw [all_cls W hN0, if_neg (nI_nneg (by omega)), if_neg (show ¬ (4 : Int32) < nI kd from (nI_nlt (by omega) (by decide) : ¬ nI 4 < nI kd))]
    unfold f_X11_houseWithMost
    rw [k0, Option.bind_some, show f_X11_houseWithMost_b4 1048576 (hp S c) 0 (nI kd) 0 1 = _ from cm, Option.bind_some]
  · show f_X12_all (hp S c) 351 (nI kd) = _
    rcases (by omega : kd = 0 ∨ kd = 1 ∨ kd = 2 ∨ kd = 3 ∨ kd = 4) with rfl | rfl | rfl | rfl | rfl
    · rw [ra_0 hT nz, hg, Option.bind_some]
    · rw [ra_1 hT nz, hg, Option.bind_some]
    · rw [ra_2 hT nz, hg, Option.bind_some]
    · rw [ra_3 hT nz, hg, Option.bind_some]
    · rw [ra_4 hT nz, hg, Option.bind_some]
theorem all_cls2 {N : Nat} {lim kp : Int32} (W : TW S S N lim kp) (hN0 : N ≠ 0) {kd : Nat} (h5 : 5 ≤ kd) (hk : kd < 14) : f_X11_all (hp S c) 0 (nI kd) = f_X11_all_b28 (hp S c) 0 (nI kd) := by
  have c4 : (4 : Int32) < nI kd := (nI_lt (by omega) (by omega) : nI 4 < nI kd)
  rw [all_cls W hN0, if_neg (nI_nneg (by omega)), if_pos c4]
theorem all_m3 {N : Nat} {lim kp : Int32} (W : TW S S N lim kp) (hN0 : N ≠ 0) {kd : Nat} (h7 : 7 ≤ kd ∧ kd ≤ 11) : f_X11_all (hp S c) 0 (nI kd) = some (nI (mkN (fb S N kd) N)) := by
  have h6 := W.2.1
  have cmk := c_mask (c := c) W h7.1 h7.2 N 0 1048576 (by omega) (by omega)
  rw [all_cls2 W hN0 (by omega) (by omega)]
  unfold f_X11_all_b28
  rw [if_neg (show ¬ nI kd < (7 : Int32) from (nI_nlt h7.1 (by omega) : ¬ nI kd < nI 7)), if_neg (show ¬ (11 : Int32) < nI kd from (nI_nlt h7.2 (by decide) : ¬ nI 11 < nI kd))]
  unfold f_X11_housesThatAre
  rw [k0, Option.bind_some, show f_X11_housesThatAre_b4 1048576 (hp S c) 0 (nI kd) 0 0 = _ from cmk, Option.bind_some]
theorem all_c3 {N : Nat} {lim kp : Int32} (W : TW S S N lim kp) (hN0 : N ≠ 0) {kd : Nat} (h5 : 5 ≤ kd) (hk : kd < 14) (h7 : ¬ (7 ≤ kd ∧ kd ≤ 11)) : f_X11_all (hp S c) 0 (nI kd) = f_X11_all_b46 (hp S c) 0 (nI kd) := by
  rw [all_cls2 W hN0 h5 hk]
  unfold f_X11_all_b28
  by_cases q : kd < 7
  · rw [if_pos (show nI kd < (7 : Int32) from (nI_lt q (by decide) : nI kd < nI 7))]
  · rw [if_neg (show ¬ nI kd < (7 : Int32) from (nI_nlt (by omega) (by omega) : ¬ nI kd < nI 7)), if_pos (show (11 : Int32) < nI kd from (nI_lt (by omega) (by omega) : nI 11 < nI kd))]
theorem all_7 (R : RR n (pj S)) {N : Nat} {lim kp : Int32} (W : TW S S N lim kp) (hN0 : N ≠ 0) : PP n c (fun h => f_X11_all h 0 (nI 7)) (fun h => f_X12_all h 351 (nI 7)) S := by
  have h6 := W.2.1
  have hN := W.2.2.2.2.2.1
  have h26 := W.2.2.1
  have hT : (T0 S).1 351 26 = nI N := by rw [T0_351 (by decide)]; exact h26
  have t364 : (T0 S).1 364 = S.1 364 := T0_ne (by decide)
  have t358 : (T0 S).1 358 = S.1 358 := T0_ne (by decide)
  have tE := W.2.2.2.2.2.2.2.2.2.1
  have tV := W.2.2.2.2.2.2.2.2.2.2.1
  have tZ := W.2.2.2.2.2.2.2.2.2.2.2.1
  have nz : ¬ nI N = 0 := nI_ne0 (by omega) (by omega)
  have cl3 := all_m3 (c := c) W hN0 (kd := 7) (by decide)
  have h := r_those (c := c) (U := T0 S) (S := S) (kd := 7) (o := true) (i := false) h6 hT t364 (fun _ => rfl) N 0 1048576 (by omega) (by omega)
  refine PP.mk _ (T0 S) R cl3 ((ra_7 hT nz).trans ?_) T0_pj
  unfold f_X12_thoseWho
  rw [k351, Option.bind_some, show f_X12_thoseWho_b5 1048576 (hp (T0 S) c) 351 1 0 0 0 = _ from h, Option.bind_some]
theorem all_8 (R : RR n (pj S)) {N : Nat} {lim kp : Int32} (W : TW S S N lim kp) (hN0 : N ≠ 0) : PP n c (fun h => f_X11_all h 0 (nI 8)) (fun h => f_X12_all h 351 (nI 8)) S := by
  have h6 := W.2.1
  have hN := W.2.2.2.2.2.1
  have h26 := W.2.2.1
  have hT : (T0 S).1 351 26 = nI N := by rw [T0_351 (by decide)]; exact h26
  have t364 : (T0 S).1 364 = S.1 364 := T0_ne (by decide)
  have t358 : (T0 S).1 358 = S.1 358 := T0_ne (by decide)
  have tE := W.2.2.2.2.2.2.2.2.2.1
  have tV := W.2.2.2.2.2.2.2.2.2.2.1
  have tZ := W.2.2.2.2.2.2.2.2.2.2.2.1
  have nz : ¬ nI N = 0 := nI_ne0 (by omega) (by omega)
  have cl3 := all_m3 (c := c) W hN0 (kd := 8) (by decide)
  have h := r_those (c := c) (U := T0 S) (S := S) (kd := 8) (o := false) (i := true) h6 hT t364 (fun _ => rfl) N 0 1048576 (by omega) (by omega)
  refine PP.mk _ (T0 S) R cl3 ((ra_8 hT nz).trans ?_) T0_pj
  unfold f_X12_thoseWho
  rw [k351, Option.bind_some, show f_X12_thoseWho_b5 1048576 (hp (T0 S) c) 351 0 1 0 0 = _ from h, Option.bind_some]
theorem all_9 (R : RR n (pj S)) {N : Nat} {lim kp : Int32} (W : TW S S N lim kp) (hN0 : N ≠ 0) : PP n c (fun h => f_X11_all h 0 (nI 9)) (fun h => f_X12_all h 351 (nI 9)) S := by
  have h6 := W.2.1
  have hN := W.2.2.2.2.2.1
  have h26 := W.2.2.1
  have hT : (T0 S).1 351 26 = nI N := by rw [T0_351 (by decide)]; exact h26
  have t364 : (T0 S).1 364 = S.1 364 := T0_ne (by decide)
  have t358 : (T0 S).1 358 = S.1 358 := T0_ne (by decide)
  have tE := W.2.2.2.2.2.2.2.2.2.1
  have tV := W.2.2.2.2.2.2.2.2.2.2.1
  have tZ := W.2.2.2.2.2.2.2.2.2.2.2.1
  have nz : ¬ nI N = 0 := nI_ne0 (by omega) (by omega)
  have cl3 := all_m3 (c := c) W hN0 (kd := 9) (by decide)
  have h := r_those (c := c) (U := T0 S) (S := S) (kd := 9) (o := false) (i := false) h6 hT t364 (fun _ => rfl) N 0 1048576 (by omega) (by omega)
  refine PP.mk _ (T0 S) R cl3 ((ra_9 hT nz).trans ?_) T0_pj
  unfold f_X12_thoseWho
  rw [k351, Option.bind_some, show f_X12_thoseWho_b5 1048576 (hp (T0 S) c) 351 0 0 0 0 = _ from h, Option.bind_some]
theorem all_10 (R : RR n (pj S)) {N : Nat} {lim kp : Int32} (W : TW S S N lim kp) (hN0 : N ≠ 0) : PP n c (fun h => f_X11_all h 0 (nI 10)) (fun h => f_X12_all h 351 (nI 10)) S := by
  have h6 := W.2.1
  have hN := W.2.2.2.2.2.1
  have h26 := W.2.2.1
  have hT : (T0 S).1 351 26 = nI N := by rw [T0_351 (by decide)]; exact h26
  have t364 : (T0 S).1 364 = S.1 364 := T0_ne (by decide)
  have t358 : (T0 S).1 358 = S.1 358 := T0_ne (by decide)
  have tE := W.2.2.2.2.2.2.2.2.2.1
  have tV := W.2.2.2.2.2.2.2.2.2.2.1
  have tZ := W.2.2.2.2.2.2.2.2.2.2.2.1
  have nz : ¬ nI N = 0 := nI_ne0 (by omega) (by omega)
  have cl3 := all_m3 (c := c) W hN0 (kd := 10) (by decide)
  refine PP.mk _ (T0 S) R cl3 ((ra_10 hT nz).trans ?_) T0_pj
  obtain ⟨m, m1, m2⟩ : ∃ m, m < 2 ^ N ∧ S.1 364 48 = nI m := by
    obtain ⟨⟨N2, F2, v1, v2, -⟩, -⟩ := R
    obtain ⟨-, -, m, m1, m2⟩ := v2.2.2
    have : S.1 30 4 = nI N2 := v2.1.1
    rw [hN] at this
    have hb := v1.2.1
    rw [← (nI_eq (by omega) (by omega)).mp this] at m1
    exact ⟨m, m1, m2⟩
  have h64 : 2 ^ N ≤ 64 := Nat.pow_le_pow_right (n := 2) (by decide) h6
  have e10 : mkN (fb S N 10) N = m := by
    rw [mkN_cg (g := fun x => m.testBit x) N (fun x hx => ?_), mkN_bits h6 m1]
    show kep (S.1 364 48) x = _
    rw [m2, kep_bit (by omega) (by omega)]
  rw [e10, ← m2, g351_32, Option.bind_some, a364n (j := 48) (k := 48) rfl (by decide), Option.bind_some, t364]
theorem all_11 (R : RR n (pj S)) {N : Nat} {lim kp : Int32} (W : TW S S N lim kp) (hN0 : N ≠ 0) : PP n c (fun h => f_X11_all h 0 (nI 11)) (fun h => f_X12_all h 351 (nI 11)) S := by
  have h6 := W.2.1
  have hN := W.2.2.2.2.2.1
  have h26 := W.2.2.1
  have hT : (T0 S).1 351 26 = nI N := by rw [T0_351 (by decide)]; exact h26
  have t364 : (T0 S).1 364 = S.1 364 := T0_ne (by decide)
  have t358 : (T0 S).1 358 = S.1 358 := T0_ne (by decide)
  have tE := W.2.2.2.2.2.2.2.2.2.1
  have tV := W.2.2.2.2.2.2.2.2.2.2.1
  have tZ := W.2.2.2.2.2.2.2.2.2.2.2.1
  have nz : ¬ nI N = 0 := nI_ne0 (by omega) (by omega)
  have cl3 := all_m3 (c := c) W hN0 (kd := 11) (by decide)
  obtain ⟨U', z1, z2⟩ := r_cans (c := c) W N 0 1048576 (T0 S) (by omega) (by omega) hT (fun a ha => T0_ne (by omega))
  refine PP.mk _ U' R cl3 ((ra_11 hT nz).trans ?_) (by rw [frS_pj z2, T0_pj])
  unfold f_X12_thoseThatCan
  rw [k351, Option.bind_some, show f_X12_thoseThatCan_b4 1048576 (hp (T0 S) c) 351 0 0 = _ from z1, Option.bind_some]
theorem all_5 (R : RR n (pj S)) {N : Nat} {lim kp : Int32} (W : TW S S N lim kp) (hN0 : N ≠ 0) : PP n c (fun h => f_X11_all h 0 (nI 5)) (fun h => f_X12_all h 351 (nI 5)) S := by
  have h6 := W.2.1
  have hN := W.2.2.2.2.2.1
  have h26 := W.2.2.1
  have hT : (T0 S).1 351 26 = nI N := by rw [T0_351 (by decide)]; exact h26
  have t364 : (T0 S).1 364 = S.1 364 := T0_ne (by decide)
  have t358 : (T0 S).1 358 = S.1 358 := T0_ne (by decide)
  have tE := W.2.2.2.2.2.2.2.2.2.1
  have tV := W.2.2.2.2.2.2.2.2.2.2.1
  have tZ := W.2.2.2.2.2.2.2.2.2.2.2.1
  have nz : ¬ nI N = 0 := nI_ne0 (by omega) (by omega)
  have cl3 := all_c3 (c := c) W hN0 (kd := 5) (by decide) (by decide) (by decide)
  refine PP.mk (nI (fvN (S.1 364) 36)) (T0 S) R ?_ ((ra_5 hT nz).trans ?_) T0_pj
  · refine cl3.trans ?_
    unfold f_X11_all_b46
    rw [if_pos (show nI 5 = 5 from rfl), g0_6, Option.bind_some, B30.favours, Option.bind_some, sF_N, fvN_congr (D := S.1 (30 + 1)) (D' := S.1 364) tE.1]
  · rw [g351_32, Option.bind_some, r_all (Or.inl rfl) hT h6, t364, sAll_fv (D := S.1 364) h6 tZ, Option.bind_some]
theorem all_6 (R : RR n (pj S)) {N : Nat} {lim kp : Int32} (W : TW S S N lim kp) (hN0 : N ≠ 0) : PP n c (fun h => f_X11_all h 0 (nI 6)) (fun h => f_X12_all h 351 (nI 6)) S := by
  have h6 := W.2.1
  have hN := W.2.2.2.2.2.1
  have h26 := W.2.2.1
  have hT : (T0 S).1 351 26 = nI N := by rw [T0_351 (by decide)]; exact h26
  have t364 : (T0 S).1 364 = S.1 364 := T0_ne (by decide)
  have t358 : (T0 S).1 358 = S.1 358 := T0_ne (by decide)
  have tE := W.2.2.2.2.2.2.2.2.2.1
  have tV := W.2.2.2.2.2.2.2.2.2.2.1
  have tZ := W.2.2.2.2.2.2.2.2.2.2.2.1
  have nz : ¬ nI N = 0 := nI_ne0 (by omega) (by omega)
  have cl3 := all_c3 (c := c) W hN0 (kd := 6) (by decide) (by decide) (by decide)
  have h := r_pairs_a (c := c) (U := T0 S) (D := S.1 364) h6 hT t364 N 0 1048576 (by omega) (by omega)
  refine PP.mk (nI (pcA (S.1 364) N)) (T0 S) R ?_ ((ra_6 hT nz).trans ?_) T0_pj
  · refine cl3.trans ?_
    have A31 : An (S.1 31) := An.congr (D := S.1 364) tV.1 tE.1
    have Z31 : Zo N (S.1 31) := Zo_congr (D := S.1 31) (D' := S.1 364) tE.1 tZ
    have e1 : pfN (S.1 31) 36 = pfN (S.1 364) 36 := by
      have : ∀ k, k ≤ 36 → pfN (S.1 31) k = pfN (S.1 364) k := by
        intro k
        induction k with
        | zero => intro _; rfl
        | succ k ih =>
          intro hk
          show pfN (S.1 31) k + qz (S.1 31) k = pfN (S.1 364) k + qz (S.1 364) k
          rw [ih (by omega)]
          unfold qz
          rw [show S.1 31 k = S.1 364 k from tE.1 k (by omega)]
      exact this 36 (by decide)
    unfold f_X11_all_b46
    rw [if_neg (show ¬ nI 6 = 5 by decide), if_pos (show nI 6 = 6 from rfl), g0_6, Option.bind_some, B30.pairs, Option.bind_some, pF_N, show pfN (S.1 (30 + 1)) 36 = pfN (S.1 364) 36 from e1, pairs_eq (D := S.1 364) tV.1 tZ h6]
  · unfold f_X12_pairs
    rw [k351, Option.bind_some, show f_X12_pairs_b4 1048576 (hp (T0 S) c) 351 0 0 = _ from h, Option.bind_some]
theorem lv_cg {N : Nat} {D D' : Nat → Int32} (h6 : N ≤ 6) (h : ∀ k, k < 36 → D k = D' k) : lvR (ow D N) N (N + 1) (2 ^ N - 1) 0 = lvR (ow D' N) N (N + 1) (2 ^ N - 1) 0 := by
  have hr : rng D N = rng D' N := rng_congr h6 h
  cases hq : rng D' N with
  | true => rw [(lv_ring (D := D) h6).mpr (hr.trans hq), (lv_ring (D := D') h6).mpr hq]
  | false =>
    obtain ⟨k, a1, a2, a3, a4⟩ := lv_val (D := D) h6 (hr.trans hq)
    obtain ⟨k', b1, b2, b3, b4⟩ := lv_val (D := D') h6 hq
    have gE_iff : ∀ a b, gE D N a b ↔ gE D' N a b := fun a b => by
      unfold gE
      constructor
      · rintro ⟨x1, x2, x3⟩
        exact ⟨x1, x2, by rw [← h _ (by omega)]; exact x3⟩
      · rintro ⟨x1, x2, x3⟩
        exact ⟨x1, x2, by rw [h _ (by omega)]; exact x3⟩
    have gWi : ∀ n v, gW D N n v ↔ gW D' N n v := fun n v => ⟨fun w i hi => (gE_iff _ _).mp (w i hi), fun w i hi => (gE_iff _ _).mpr (w i hi)⟩
    have : k = k' := by
      rcases Nat.lt_trichotomy k k' with q | q | q
      · obtain ⟨v, v0, w⟩ := b4 k q
        exact absurd ((gWi k v).mpr w) (a3 v v0)
      · exact q
      · obtain ⟨v, v0, w⟩ := a4 k' q
        exact absurd ((gWi k' v).mp w) (b3 v v0)
    rw [a2, b2, this]
theorem all_12c {N : Nat} {lim kp : Int32} (W : TW S S N lim kp) (hN0 : N ≠ 0) : f_X11_all (hp S c) 0 (nI 12) = some (lvR (ow (S.1 364) N) N (N + 1) (2 ^ N - 1) 0) := by
  have h6 := W.2.1
  have hN := W.2.2.2.2.2.1
  have tE := W.2.2.2.2.2.2.2.2.2.1
  have el : lvR (ow (S.1 31) N) N (N + 1) (2 ^ N - 1) 0 = lvR (ow (S.1 364) N) N (N + 1) (2 ^ N - 1) 0 := lv_cg h6 tE.1
  rw [all_c3 W hN0 (kd := 12) (by decide) (by decide) (by decide)]
  unfold f_X11_all_b46
  rw [if_neg (show ¬ nI 12 = 5 by decide), if_neg (show ¬ nI 12 = 6 by decide), if_neg (show ¬ nI 12 = 7 by decide), if_neg (show ¬ nI 12 = 8 by decide), if_neg (show ¬ nI 12 = 9 by decide), if_neg (show ¬ nI 12 = 10 by decide), if_neg (show ¬ nI 12 = 11 by decide), if_pos (show nI 12 = 12 from rfl), g0_6, Option.bind_some, B30.levels hN h6, Option.bind_some, el]
theorem all_12r {N : Nat} {lim kp : Int32} (W : TW S S N lim kp) (hN0 : N ≠ 0) : ∃ U', f_X12_all (hp S c) 351 (nI 12) = some (lvR (ow (S.1 364) N) N (N + 1) (2 ^ N - 1) 0, hp U' c) ∧ pj U' = pj S := by
  have h6 := W.2.1
  have hT : (T0 S).1 351 26 = nI N := by rw [T0_351 (by decide)]; exact W.2.2.1
  have t364 : (T0 S).1 364 = S.1 364 := T0_ne (by decide)
  obtain ⟨U', z1, z2⟩ := r_levels (c := c) (U := T0 S) h6 (by omega) hT
  rw [t364] at z1
  refine ⟨U', ?_, ?_⟩
  · rw [ra_12 hT (nI_ne0 (by omega) (by omega)), z1, Option.bind_some]
  · rw [← T0_pj (S := S)]
    refine pj_ext fun a k q => ?_
    by_cases e1 : a = 368
    · subst e1; rw [sc368 k] at q; cases q
    · by_cases e2 : a = 376
      · subst e2; rw [sc376 k] at q; cases q
      · rw [z2 a e1 e2]
theorem all_12 (R : RR n (pj S)) {N : Nat} {lim kp : Int32} (W : TW S S N lim kp) (hN0 : N ≠ 0) : PP n c (fun h => f_X11_all h 0 (nI 12)) (fun h => f_X12_all h 351 (nI 12)) S := by
  obtain ⟨U', z1, z2⟩ := all_12r (c := c) W hN0
  have z0 := all_12c (c := c) W hN0
  generalize lvR (ow (S.1 364) N) N (N + 1) (2 ^ N - 1) 0 = w at z0 z1
  exact PP.mk w U' R z0 z1 z2
theorem all_13 (R : RR n (pj S)) {N : Nat} {lim kp : Int32} (W : TW S S N lim kp) (hN0 : N ≠ 0) : PP n c (fun h => f_X11_all h 0 (nI 13)) (fun h => f_X12_all h 351 (nI 13)) S := by
  have h6 := W.2.1
  have hN := W.2.2.2.2.2.1
  have h26 := W.2.2.1
  have hT : (T0 S).1 351 26 = nI N := by rw [T0_351 (by decide)]; exact h26
  have t364 : (T0 S).1 364 = S.1 364 := T0_ne (by decide)
  have t358 : (T0 S).1 358 = S.1 358 := T0_ne (by decide)
  have tE := W.2.2.2.2.2.2.2.2.2.1
  have tV := W.2.2.2.2.2.2.2.2.2.2.1
  have tZ := W.2.2.2.2.2.2.2.2.2.2.2.1
  have nz : ¬ nI N = 0 := nI_ne0 (by omega) (by omega)
  have cl3 := all_c3 (c := c) W hN0 (kd := 13) (by decide) (by decide) (by decide)
  have h := r_mostB (c := c) (U := T0 S) (D := S.1 364) t364 36 0 1048576 (by decide) (by decide)
  refine PP.mk (mF (S.1 364) 36) (T0 S) R ?_ ((ra_13 hT nz).trans ?_) T0_pj
  · refine cl3.trans ?_
    unfold f_X11_all_b46
    rw [if_neg (show ¬ nI 13 = 5 by decide), if_neg (show ¬ nI 13 = 6 by decide), if_neg (show ¬ nI 13 = 7 by decide), if_neg (show ¬ nI 13 = 8 by decide), if_neg (show ¬ nI 13 = 9 by decide), if_neg (show ¬ nI 13 = 10 by decide), if_neg (show ¬ nI 13 = 11 by decide), if_neg (show ¬ nI 13 = 12 by decide), if_pos (show nI 13 = 13 from rfl), g0_6, Option.bind_some, B30.mostBetween, Option.bind_some, mF_cg (D := S.1 (30 + 1)) (D' := S.1 364) 36 (fun x hx => tE.1 x hx)]
  · unfold f_X12_mostBetween
    rw [k351, Option.bind_some, show f_X12_mostBetween_b4 1048576 (hp (T0 S) c) 351 0 0 = _ from h, Option.bind_some]
theorem pr_all (R : RR n (pj S)) (x : Int32) : PP n c (fun h => f_X11_all h 0 x) (fun h => f_X12_all h 351 x) S := by
  obtain ⟨N, lim, kp, W⟩ := (mg_in R).tw
  have hN := W.2.2.2.2.2.1
  have h26 := W.2.2.1
  by_cases hN0 : N = 0
  · subst hN0
    refine PP.mk (-1000000) (T0 S) R ?_ ?_ T0_pj
    · unfold f_X11_all
      rw [k0, Option.bind_some, g0_6, Option.bind_some, B30.g4, Option.bind_some, hN, if_pos (show nI 0 = 0 from rfl)]
    · unfold f_X12_all
      rw [k351, Option.bind_some, T0_p, Option.bind_some, g351_26, Option.bind_some, T0_351 (by decide), h26, if_pos (show nI 0 = 0 from rfl)]
  · cases hin : inN 14 x with
    | false => exact all_out R W hN0 hin
    | true =>
      obtain ⟨kd, hk, rfl⟩ := inN_x hin (by decide)
      by_cases h5 : kd < 5
      · exact all_most R W hN0 h5
      · rcases (by omega : kd = 5 ∨ kd = 6 ∨ kd = 7 ∨ kd = 8 ∨ kd = 9 ∨ kd = 10 ∨ kd = 11 ∨ kd = 12 ∨ kd = 13) with rfl | rfl | rfl | rfl | rfl | rfl | rfl | rfl | rfl
        · exact all_5 R W hN0
        · exact all_6 R W hN0
        · exact all_7 R W hN0
        · exact all_8 R W hN0
        · exact all_9 R W hN0
        · exact all_10 R W hN0
        · exact all_11 R W hN0
        · exact all_12 R W hN0
        · exact all_13 R W hN0
end AL4
