/-! GAME, RESTS -/
section GA2
variable {S : XS} {c : Nat × Nat} {n N a b : Nat} {kp lim : Int32}
theorem inN2 {w : Int32} (h : inN 2 w = true) : ∃ v : Bool, w = bI v := by
  obtain ⟨x, hx, rfl⟩ := inN_x h (by decide)
  rcases (by omega : x = 0 ∨ x = 1) with rfl | rfl
  · exact ⟨false, rfl⟩
  · exact ⟨true, rfl⟩
theorem inN2_i {w : Int32} (h1 : ¬ w < 0) (h2 : ¬ (1 : Int32) < w) : inN 2 w = true := by
  unfold inN
  rw [decide_eq_false h1, decide_eq_false (fun z => ?_)]
  · rfl
  · have b := Int32.not_lt.mp h2
    rw [Int32.le_iff_toInt_le] at b z
    rw [nI_toInt (by decide)] at z
    rw [show (1 : Int32).toInt = 1 from rfl] at b
    omega
theorem pr_game (R : RR n (pj S)) (a b x y w : Int32) : PQ n c (fun h => f_X11_game h 0 a b x y w) (fun h => f_X12_game h 351 a b x y w) S := by
  obtain ⟨N, W⟩ := R.now
  have h6 := W.2.1
  have hN := W.2.2.2.2.2.2.1
  have h26 := W.2.2.1
  by_cases hall : inN N a = true ∧ inN N b = true ∧ a ≠ b ∧ inN 2 x = true ∧ inN 2 y = true ∧ inN 2 w = true
  · obtain ⟨q1, q2, q3, q4, q5, q6⟩ := hall
    obtain ⟨i, hi, rfl⟩ := inN_x q1 (by omega)
    obtain ⟨j, hj, rfl⟩ := inN_x q2 (by omega)
    obtain ⟨x, rfl⟩ := inN2 q4
    obtain ⟨y, rfl⟩ := inN2 q5
    obtain ⟨w, rfl⟩ := inN2 q6
    have hne : i ≠ j := fun z => q3 (by rw [z])
    obtain ⟨S1, e1, e2⟩ := c_game (c := c) W hi hj hne x y w
    obtain ⟨U, z1, z2⟩ := r_game (c := c) (U := T0 S1) W (by rw [T0_351 (by decide), e2.1 351 (by omega)]) (fun a ha => by rw [T0_ne (by omega), e2.1 a (by omega)]) hi hj x y w
    have hT : (T0 S1).1 351 26 = nI N := by rw [T0_351 (by decide), e2.1 351 (by omega)]; exact h26
    refine PQ.same (S1 := S1) (S2 := U) (v := gm N (S.1 364 48) (S.1 356 1) (S.1 31, S.1 32) i j x y w) R e1 ?_ (pj_fr e2 sc40) (by rw [frS_pj z2, T0_pj])
    show f_X12_game (hp S1 c) 351 (nI i) (nI j) (bI x) (bI y) (bI w) = _
    unfold f_X12_game f_X12_canPlay
    rw [k351, Option.bind_some, T0_p, Option.bind_some, k351, Option.bind_some, house_b hT h6, Option.bind_some, q1, if_neg (show ¬ bI true = 0 by decide), house_b hT h6, Option.bind_some, q2, if_neg (show ¬ bI true = 0 by decide), if_neg q3, Option.bind_some, if_neg (show ¬ (1 : Int32) = 0 by decide), isIn_b (m := 1) (u := 1) (by decide) rfl, Option.bind_some, q4, if_neg (show ¬ bI true = 0 by decide), isIn_b (m := 1) (u := 1) (by decide) rfl, Option.bind_some, q5, if_neg (show ¬ bI true = 0 by decide), isIn_b (m := 1) (u := 1) (by decide) rfl, Option.bind_some, q6, if_neg (show ¬ bI true = 0 by decide), z1, Option.bind_some]
  · have hT : (T0 S).1 351 26 = nI N := by rw [T0_351 (by decide)]; exact h26
    refine PQ.same (S1 := S) (S2 := T0 S) (v := -1000000) R ?_ ?_ rfl T0_pj
    · show f_X11_game (hp S c) 0 a b x y w = _
      unfold f_X11_game
      rw [k0, Option.bind_some, g0_6, Option.bind_some, has_b B30 hN h6, Option.bind_some]
      cases q1 : inN N a with
      | false => rw [if_pos (show bI false = 0 from rfl)]
      | true =>
        rw [if_neg (show ¬ bI true = 0 by decide), Option.bind_some, has_b B30 hN h6, Option.bind_some]
        cases q2 : inN N b with
        | false => rw [if_pos (show bI false = 0 from rfl)]
        | true =>
          rw [if_neg (show ¬ bI true = 0 by decide)]
          by_cases q3 : a = b
          · rw [if_pos q3]
          · rw [if_neg q3]
            by_cases r1 : x < 0
            · rw [if_pos r1]
            · rw [if_neg r1]
              by_cases r2 : 1 < x
              · rw [if_pos r2]
              · rw [if_neg r2]
                by_cases r3 : y < 0
                · rw [if_pos r3]
                · rw [if_neg r3]
                  by_cases r4 : 1 < y
                  · rw [if_pos r4]
                  · rw [if_neg r4]
                    by_cases r5 : w < 0
                    · rw [if_pos r5]
                    · rw [if_neg r5, if_neg (fun z => hall ⟨q1, q2, q3, inN2_i r1 r2, inN2_i r3 r4, inN2_i r5 (Int32.not_lt.mpr z)⟩)]
    · show f_X12_game (hp S c) 351 a b x y w = _
      unfold f_X12_game f_X12_canPlay
      rw [k351, Option.bind_some, T0_p, Option.bind_some, k351, Option.bind_some, house_b hT h6, Option.bind_some]
      cases q1 : inN N a with
      | false => rw [if_pos (show bI false = 0 from rfl), Option.bind_some, if_pos rfl]
      | true =>
        rw [if_neg (show ¬ bI true = 0 by decide), house_b hT h6, Option.bind_some]
        cases q2 : inN N b with
        | false => rw [if_pos (show bI false = 0 from rfl), Option.bind_some, if_pos rfl]
        | true =>
          rw [if_neg (show ¬ bI true = 0 by decide)]
          by_cases q3 : a = b
          · rw [if_pos q3, Option.bind_some, if_pos rfl]
          · rw [if_neg q3, Option.bind_some, if_neg (show ¬ (1 : Int32) = 0 by decide), isIn_b (m := 1) (u := 1) (by decide) rfl, Option.bind_some]
            cases q4 : inN 2 x with
            | false => rw [if_pos (show bI false = 0 from rfl)]
            | true =>
              rw [if_neg (show ¬ bI true = 0 by decide), isIn_b (m := 1) (u := 1) (by decide) rfl, Option.bind_some]
              cases q5 : inN 2 y with
              | false => rw [if_pos (show bI false = 0 from rfl)]
              | true =>
                rw [if_neg (show ¬ bI true = 0 by decide), isIn_b (m := 1) (u := 1) (by decide) rfl, Option.bind_some]
                cases q6 : inN 2 w with
                | false => rw [if_pos (show bI false = 0 from rfl)]
                | true => exact absurd ⟨q1, q2, q3, q4, q5, q6⟩ hall
/-- both rest -/
def rsB (g : Bool → Bool → Bool → Int32) (x y : Bool) : Bool := !decide (g x y false < g (!x) y false) && !decide (g x y true < g x (!y) true)
def rsF (P : Nat → Bool) (i : Int32) : Nat → Nat → Int32 → Int32
  | 0, _, l => if i = -1 then l else -1
  | r + 1, k, l => if P k then (if l = i then (10 : Int32) * bI (decide (2 ≤ k)) + bI (decide (k % 2 = 1)) else rsF P i r (k + 1) (l + 1)) else rsF P i r (k + 1) l
def rsP (g : Bool → Bool → Bool → Int32) (k : Nat) : Bool := rsB g (decide (2 ≤ k)) (decide (k % 2 = 1))
theorem one_sub (v : Bool) : (1 : Int32) - bI v = bI (!v) := by cases v <;> decide
theorem c_isRest (W : NW S N lim kp (rwB (S.1 364))) (ha : a < N) (hb : b < N) (hne : a ≠ b) (x y : Bool) : ∀ S1, fr 40 44 S1 S → ∃ S', f_X11_isRest (hp S1 c) 0 (nI a) (nI b) (bI x) (bI y) = some (bI (rsB (gm N kp lim (S.1 31, S.1 32) a b) x y), hp S' c) ∧ fr 40 44 S' S := fun S1 f1 => by
  have ga : ∀ T : XS, fr 40 44 T S → ∀ x y w, ∃ S', f_X11_game (hp T c) 0 (nI a) (nI b) (bI x) (bI y) (bI w) = some (gm N kp lim (S.1 31, S.1 32) a b x y w, hp S' c) ∧ fr 40 44 S' S := fun T ft x y w => by
    have WT : NW T N lim kp (rwB (T.1 364)) := by
      rw [ft.1 364 (by omega)]
      exact W.of (by rw [ft.1 351 (by omega)]) (ft.1 356 (by omega)) (ft.1 30 (by omega)) (ft.1 31 (by omega)) (ft.1 32 (by omega)) (ft.1 364 (by omega))
    obtain ⟨S', e1, e2⟩ := c_game (c := c) WT ha hb hne x y w
    rw [ft.1 31 (by omega), ft.1 32 (by omega)] at e1
    exact ⟨S', e1, ft.trans e2⟩
  obtain ⟨T1, a1, b1⟩ := ga S1 f1 x y false
  obtain ⟨T2, a2, b2⟩ := ga T1 b1 (!x) y false
  obtain ⟨T3, a3, b3⟩ := ga T2 b2 x y true
  obtain ⟨T4, a4, b4⟩ := ga T3 b3 x (!y) true
  unfold f_X11_isRest rsB
  rw [k0, Option.bind_some, show (0 : Int32) = bI false from rfl, a1, Option.bind_some, one_sub, a2, Option.bind_some]
  by_cases e : gm N kp lim (S.1 31, S.1 32) a b x y false < gm N kp lim (S.1 31, S.1 32) a b (!x) y false
  · refine ⟨T2, ?_, b2⟩
    rw [if_pos e, decide_eq_true e]
    rfl
  · refine ⟨T4, ?_, b4⟩
    rw [if_neg e, decide_eq_false e, one_sub, show (1 : Int32) = bI true from rfl, a3, Option.bind_some, a4, Option.bind_some]
    by_cases e2 : gm N kp lim (S.1 31, S.1 32) a b x y true < gm N kp lim (S.1 31, S.1 32) a b x (!y) true
    · rw [if_pos e2, decide_eq_true e2]
      rfl
    · rw [if_neg e2, decide_eq_false e2]
      rfl
theorem c_rests (W : NW S N lim kp (rwB (S.1 364))) (ha : a < N) (hb : b < N) (hne : a ≠ b) {i : Int32} : ∀ (r k f : Nat) (l : Int32) (S1 : XS), k + r = 4 → r < f → fr 40 44 S1 S → ∃ S', f_X11_rests_b35 f (hp S1 c) 0 (nI a) (nI b) i l (nI k) = some (rsF (rsP (gm N kp lim (S.1 31, S.1 32) a b)) i r k l, hp S' c) ∧ fr 40 44 S' S
  | 0, k, f, l, S1, hr, hf, f1 => by
    obtain ⟨f, rfl⟩ : ∃ g, f = g + 1 := ⟨f - 1, by omega⟩
    refine ⟨S1, ?_, f1⟩
    rw [f_X11_rests_b35, if_pos (show (4 : Int32) ≤ nI k from (nI_le (by omega) (by omega) : nI 4 ≤ nI k))]
    show _ = some (if i = -1 then l else -1, hp S1 c)
    split <;> rfl
  | r + 1, k, f, l, S1, hr, hf, f1 => by
    obtain ⟨f, rfl⟩ : ∃ g, f = g + 1 := ⟨f - 1, by omega⟩
    obtain ⟨t1, t2⟩ : nI k / 2 = bI (decide (2 ≤ k)) ∧ irem (nI k) 2 = bI (decide (k % 2 = 1)) := by
      have : ∀ k, k < 4 → nI k / 2 = bI (decide (2 ≤ k)) ∧ irem (nI k) 2 = bI (decide (k % 2 = 1)) := by decide +kernel
      exact this k (by omega)
    obtain ⟨S2, a1, a2⟩ := c_isRest (c := c) W ha hb hne (decide (2 ≤ k)) (decide (k % 2 = 1)) S1 f1
    rw [f_X11_rests_b35, if_neg (show ¬ (4 : Int32) ≤ nI k from (nI_ge (by omega) (by decide) : ¬ nI 4 ≤ nI k)), t1, t2, a1, Option.bind_some]
    unfold f_X11_rests_b84
    show ∃ S', _ = some (if rsP (gm N kp lim (S.1 31, S.1 32) a b) k then (if l = i then (10 : Int32) * bI (decide (2 ≤ k)) + bI (decide (k % 2 = 1)) else rsF (rsP (gm N kp lim (S.1 31, S.1 32) a b)) i r (k + 1) (l + 1)) else rsF (rsP (gm N kp lim (S.1 31, S.1 32) a b)) i r (k + 1) l, hp S' c) ∧ _
    have eP : rsB (gm N kp lim (S.1 31, S.1 32) a b) (decide (2 ≤ k)) (decide (k % 2 = 1)) = rsP (gm N kp lim (S.1 31, S.1 32) a b) k := rfl
    rw [eP]
    cases rsP (gm N kp lim (S.1 31, S.1 32) a b) k with
    | false =>
      obtain ⟨S', z1, z2⟩ := c_rests W ha hb hne r (k + 1) f l S2 (by omega) (by omega) a2
      refine ⟨S', ?_, z2⟩
      rw [if_pos (show bI false = 0 from rfl), if_neg (show ¬ false = true by decide), nI_1]
      exact z1
    | true =>
      rw [if_neg (show ¬ bI true = 0 by decide), if_pos rfl]
      by_cases e : l = i
      · exact ⟨S2, by rw [if_pos e, if_pos e], a2⟩
      · obtain ⟨S', z1, z2⟩ := c_rests W ha hb hne r (k + 1) f (l + 1) S2 (by omega) (by omega) a2
        refine ⟨S', ?_, z2⟩
        rw [if_neg e, if_neg e, nI_1]
        exact z1
/-- reference: one of the four -/
theorem r_rest {i l : Int32} {kk : xa_H → Nat → Int32 → Int32 → Int32 → Int32 → Int32 → Option (Int32 × xa_H)} (W : NW S N lim kp (rwB (S.1 364))) (ha : a < N) (hb : b < N) (x y : Bool) (f : Nat) (U : XS) (h1 : U.1 351 26 = S.1 351 26) (h2 : ∀ a, a = 356 ∨ a = 364 → U.1 a = S.1 a) : ∃ U', f_X12_rests_b36 kk (f + 1) (hp U c) 351 (nI a) (nI b) i l (bI x) (bI y) = (if rsB (gm N kp lim (S.1 31, S.1 32) a b) x y then (if l = i then some ((10 : Int32) * bI x + bI y, hp U' c) else f_X12_rests_b36 kk f (hp U' c) 351 (nI a) (nI b) i (l + 1) (bI x) (bI y + 1)) else f_X12_rests_b36 kk f (hp U' c) 351 (nI a) (nI b) i l (bI x) (bI y + 1)) ∧ frS U' U := by
  have ga : ∀ T : XS, frS T U → ∀ x y w, ∃ U', f_X12_gameOf (hp T c) 351 (nI a) (nI b) (bI x) (bI y) (bI w) = some (gm N kp lim (S.1 31, S.1 32) a b x y w, hp U' c) ∧ frS U' U := fun T ft x y w => by
    obtain ⟨U', e1, e2⟩ := r_game (c := c) (U := T) W (by rw [ft 351 (by decide) (by decide)]; exact h1) (fun a ha => by rw [ft a (by omega) (by omega)]; exact h2 a ha) ha hb x y w
    exact ⟨U', e1, fun a h1 h2 => by rw [e2 a h1 h2, ft a h1 h2]⟩
  obtain ⟨T1, a1, b1⟩ := ga U (fun _ _ _ => rfl) (!x) y false
  obtain ⟨T2, a2, b2⟩ := ga T1 b1 x y false
  obtain ⟨T3, a3, b3⟩ := ga T2 b2 x (!y) true
  obtain ⟨T4, a4, b4⟩ := ga T3 b3 x y true
  rw [f_X12_rests_b36, if_neg (show ¬ (2 : Int32) ≤ bI y by cases y <;> decide), one_sub, show (0 : Int32) = bI false from rfl, a1, Option.bind_some, a2, Option.bind_some]
  unfold f_X12_rests_b117 rsB
  by_cases e : gm N kp lim (S.1 31, S.1 32) a b x y false < gm N kp lim (S.1 31, S.1 32) a b (!x) y false
  · refine ⟨T2, ?_, b2⟩
    rw [if_pos e, decide_eq_true e]
    rfl
  · refine ⟨T4, ?_, b4⟩
    rw [if_neg e, decide_eq_false e, one_sub, show f_X12_gameOf (hp T2 c) 351 (nI a) (nI b) (bI x) (bI (!y)) 1 = _ from a3, Option.bind_some, show f_X12_gameOf (hp T3 c) 351 (nI a) (nI b) (bI x) (bI y) 1 = _ from a4, Option.bind_some]
    by_cases e2 : gm N kp lim (S.1 31, S.1 32) a b x y true < gm N kp lim (S.1 31, S.1 32) a b x (!y) true
    · rw [if_neg (Int32.not_le.mpr e2), decide_eq_true e2]
      rfl
    · rw [if_pos (Int32.not_lt.mp e2), decide_eq_false e2]
      rfl
end GA2
