/-! GAME -/
section GAM
variable {S : XS} {c : Nat × Nat} {n N a b : Nat} {kp lim : Int32}
def ph (N : Nat) (kp lim : Int32) (x : Bool) (Q : BS) (a : Nat) : BS := if x && can N kp lim Q a then crs N Q a else Q
def gm (N : Nat) (kp lim : Int32) (Q : BS) (a b : Nat) (x y w : Bool) : Int32 := sIn (ph N kp lim y (ph N kp lim x Q a) b).1 (if w then b else a) N - sOut (ph N kp lim y (ph N kp lim x Q a) b).1 (if w then b else a) N - bI (if w then y else x)
theorem ph_V {x : Bool} {Q : BS} (h6 : N ≤ 6) (hl : lim.toInt ≤ 99) (V : Vb lim Q) : Vb lim (ph N kp lim x Q a) := by
  unfold ph
  split
  · rename_i h
    exact Vb_crs V h6 hl (Bool.and_eq_true_iff.mp h).2
  · exact V
theorem ph_cg {x : Bool} {Q Q' : BS} (h6 : N ≤ 6) (ha : a < 6) (h : eqB Q Q') : eqB (ph N kp lim x Q a) (ph N kp lim x Q' a) := by
  unfold ph
  rw [can_congr h6 h]
  split
  · exact crs_congr h6 ha h
  · exact h
theorem gm_cg {x y w : Bool} {Q Q' : BS} (h6 : N ≤ 6) (ha : a < 6) (hb : b < 6) (h : eqB Q Q') : gm N kp lim Q a b x y w = gm N kp lim Q' a b x y w := by
  have e := ph_cg (kp := kp) (lim := lim) (x := y) h6 hb (ph_cg (kp := kp) (lim := lim) (x := x) h6 ha h)
  unfold gm
  have hw : (if w then b else a) < 6 := by split <;> omega
  rw [sIn_cg hw e.1 N h6, sOut_cg hw e.1 N h6]
/-- class: perhaps turned over, the board apart -/
theorem c_ph {x : Bool} {Q : BS} {α : Type} {K : xa_H → Option α} (hN : S.1 40 4 = nI N) (h6 : N ≤ 6) (ha : a < N) (V : Vb (S.1 40 5) Q) : (if bI x = (1 : Int32) then (gR [11] 8 (hp (wB S 40 Q) c) 0).bind fun x18 => (f_X0_canTurn (hp (wB S 40 Q) c) x18 (nI a)).bind fun q19 => if q19 = 0 then K (hp (wB S 40 Q) c) else (gR [11] 8 (hp (wB S 40 Q) c) 0).bind fun x21 => (f_X0_turnOver (hp (wB S 40 Q) c) x21 (nI a)).bind fun q22 => K q22 else K (hp (wB S 40 Q) c)) = K (hp (wB S 40 (ph N (S.1 40 6) (S.1 40 5) x Q a)) c) := by
  unfold ph
  cases x with
  | false => rw [if_neg (show ¬ bI false = 1 by decide), Bool.false_and, if_neg (show ¬ false = true by decide)]
  | true =>
    rw [if_pos (show bI true = 1 from rfl), g0_8, Option.bind_some, B40.canQ hN h6 (by omega), Option.bind_some, Bool.true_and]
    cases hc : can N (S.1 40 6) (S.1 40 5) Q a with
    | false => rw [if_pos (show bI false = 0 from rfl), if_neg (show ¬ false = true by decide)]
    | true => rw [if_neg (show ¬ bI true = 0 by decide), if_pos rfl, Option.bind_some, B40.turnQ hN h6 V hc, Option.bind_some]
theorem c_game (W : NW S N lim kp (rwB (S.1 364))) (ha : a < N) (hb : b < N) (hne : a ≠ b) (x y w : Bool) : ∃ S', f_X11_game (hp S c) 0 (nI a) (nI b) (bI x) (bI y) (bI w) = some (gm N kp lim (S.1 31, S.1 32) a b x y w, hp S' c) ∧ fr 40 44 S' S := by
  have h6 := W.2.1
  have hl := W.2.2.2.2.2.1
  have hN := W.2.2.2.2.2.2.1
  obtain ⟨S0, e1, e2, e3, e4, e5, e6, e7⟩ := ap_begin (c := c) W
  have eS : eqB (S0.1 41, S0.1 42) (S.1 31, S.1 32) := e6.trans (eqB.symm ⟨W.D, W.U⟩)
  have nab : ¬ nI a = nI b := fun z => hne ((nI_eq (by omega) (by omega)).mp z)
  have lx : ∀ v : Bool, ¬ bI v < 0 := fun v => by cases v <;> decide
  have gx : ∀ v : Bool, ¬ (1 : Int32) < bI v := fun v => by cases v <;> decide
  have V1 : Vb (S0.1 40 5) (ph N kp lim x (S0.1 41, S0.1 42) a) := by rw [e4]; exact ph_V h6 hl e7
  have p1 := c_ph (S := S0) (c := c) (x := x) (a := a) (Q := (S0.1 41, S0.1 42)) (K := fun h => f_X11_game_b99 h 0 (nI a) (nI b) (bI x) (bI y) (bI w)) e3 h6 ha (by rw [e4]; exact e7)
  rw [show wB S0 40 (S0.1 41, S0.1 42) = S0 from wB_self, e4, e5] at p1
  have p2 := c_ph (S := S0) (c := c) (x := y) (a := b) (Q := ph N kp lim x (S0.1 41, S0.1 42) a) (K := fun h => f_X11_game_b124 h 0 (nI a) (nI b) (bI x) (bI y) (bI w)) e3 h6 hb V1
  rw [e4, e5] at p2
  refine ⟨wB S0 40 (ph N kp lim y (ph N kp lim x (S0.1 41, S0.1 42) a) b), ?_, e2.trans wB_fr⟩
  rw [← gm_cg (kp := kp) (lim := lim) (x := x) (y := y) (w := w) h6 (show a < 6 by omega) (show b < 6 by omega) eS]
  unfold f_X11_game
  rw [k0, Option.bind_some, g0_6, Option.bind_some, has_b B30 hN h6, Option.bind_some, inN_i ha (by omega), if_neg (show ¬ bI true = 0 by decide), Option.bind_some, has_b B30 hN h6, Option.bind_some, inN_i hb (by omega), if_neg (show ¬ bI true = 0 by decide), if_neg nab, if_neg (lx x), if_neg (gx x), if_neg (lx y), if_neg (gx y), if_neg (lx w), if_pos (Int32.not_lt.mp (gx w)), g0_8, Option.bind_some, Option.bind_some, e1, Option.bind_some]
  refine Eq.trans p1 ?_
  show f_X11_game_b99 (hp (wB S0 40 (ph N kp lim x (S0.1 41, S0.1 42) a)) c) 0 (nI a) (nI b) (bI x) (bI y) (bI w) = _
  unfold f_X11_game_b99
  refine Eq.trans p2 ?_
  have hN2 : ∀ Q : BS, (wB S0 40 Q).1 40 4 = nI N := fun Q => by rw [wB_ne (by decide) (by decide)]; exact e3
  have io : ∀ (Q : BS) (h : Nat), h < 6 → ∀ s : Int32, f_X11_game_b147 (hp (wB S0 40 Q) c) 0 (nI h) s = some (sIn Q.1 h N - sOut Q.1 h N - s, hp (wB S0 40 Q) c) := fun Q h hh s => by
    unfold f_X11_game_b147
    rw [g0_8, Option.bind_some, B40.incoming (hN2 Q) h6 hh, Option.bind_some, Option.bind_some, B40.outgoing (hN2 Q) h6 hh, Option.bind_some, wB_1]
  show f_X11_game_b124 (hp (wB S0 40 (ph N kp lim y (ph N kp lim x (S0.1 41, S0.1 42) a) b)) c) 0 (nI a) (nI b) (bI x) (bI y) (bI w) = _
  unfold f_X11_game_b124 f_X11_game_b134 gm
  cases w with
  | false =>
    rw [if_pos (show bI false = 0 from rfl), if_pos (show bI false = 0 from rfl), io _ a (by omega)]
    rfl
  | true =>
    rw [if_neg (show ¬ bI true = 0 by decide), if_neg (show ¬ bI true = 0 by decide), io _ b (by omega)]
    rfl
/-- reference: perhaps crossed -/
theorem r_ph {U : XS} {Q : BS} (h6 : N ≤ 6) (ha : a < N) (H : prR U N kp lim Q) (V : Vb lim Q) : ∃ U', f_X12_perhaps (hp U c) 351 365 (nI a) = some (hp U' c) ∧ prR U' N kp lim (ph N kp lim true Q a) ∧ frS U' U := by
  obtain ⟨p1, p2, p3, p4⟩ := H
  have V5 : Vb lim (rwB (U.1 365)) := Vb_congr p4 V
  obtain ⟨g, hg⟩ := r_can (S := U) (c := c) (a := 365) (x := a) (Or.inr rfl) p1 h6 (by omega) V5.1 (by rw [p2]; exact V5.2.1)
  rw [p3, p2, can_congr h6 p4] at hg
  unfold f_X12_perhaps ph
  rw [k351, Option.bind_some, hg, Option.bind_some, Bool.true_and]
  cases hc : can N kp lim Q a with
  | false =>
    refine ⟨wA U 367 g, by rw [if_pos (show bI false = 0 from rfl)], ?_, fun x h1 h2 => wA_ne h2⟩
    rw [if_neg (show ¬ false = true by decide)]
    refine ⟨?_, ?_, ?_, ?_⟩
    · rw [wA_ne (by decide)]; exact p1
    · rw [wA_ne (by decide)]; exact p2
    · rw [wA_ne (by decide)]; exact p3
    · rw [wA_ne (by decide)]; exact p4
  | true =>
    obtain ⟨g', hg'⟩ := r_crosses (S := wA U 367 g) (c := c) (a := 365) (x := a) (Or.inr rfl) (by rw [wA_ne (by decide)]; exact p1) h6 ha (by rw [wA_ne (by decide)]; exact V5.1) (by rw [wA_ne (by decide)]; exact V5.2.2)
    rw [wA_ne (show 365 ≠ 367 by decide), wA_wA] at hg'
    refine ⟨wA (wA U 367 g') 365 (crR N (U.1 365) a), ?_, ?_, fun x h1 h2 => by rw [wA_ne h1, wA_ne h2]⟩
    · rw [if_neg (show ¬ bI true = 0 by decide), hg', Option.bind_some]
    · rw [if_pos rfl]
      refine ⟨?_, ?_, ?_, ?_⟩
      · rw [wA_ne (by decide), wA_ne (by decide)]; exact p1
      · rw [wA_ne (by decide), wA_ne (by decide)]; exact p2
      · rw [wA_same, crR_far (by decide) (by decide) (by omega)]; exact p3
      · rw [wA_same]
        exact (crR_rw (N := N) (row := U.1 365) (by omega)).trans (crs_congr (x := a) h6 (by omega) p4)
theorem r_game {U : XS} (W : NW S N lim kp (rwB (S.1 364))) (h1 : U.1 351 26 = S.1 351 26) (h2 : ∀ a, a = 356 ∨ a = 364 → U.1 a = S.1 a) (ha : a < N) (hb : b < N) (x y w : Bool) : ∃ U', f_X12_gameOf (hp U c) 351 (nI a) (nI b) (bI x) (bI y) (bI w) = some (gm N kp lim (S.1 31, S.1 32) a b x y w, hp U' c) ∧ frS U' U := by
  have h6 := W.2.1
  have hl := W.2.2.2.2.2.1
  have eS : eqB (S.1 31, S.1 32) (rwB (S.1 364)) := ⟨W.D, W.U⟩
  have V0 : Vb lim (S.1 31, S.1 32) := Vb_congr eS W.V
  have cp : ∃ U1, f_X12_copy (hp U c) 364 365 = some (hp U1 c) ∧ prR U1 N kp lim (S.1 31, S.1 32) ∧ frS U1 U := by
    have Wc := W
    obtain ⟨-, -, w3, w4, -, -, -, -, -, w10, -⟩ := Wc
    refine ⟨_, r_copy, ⟨?_, ?_, ?_, ?_⟩, fun a h1 h2 => wA_ne h1⟩
    · rw [wA_ne (by decide), h1]; exact w3
    · rw [wA_ne (by decide), h2 356 (by decide)]; exact w4
    · rw [wA_same, h2 364 (by decide)]
      show cpR (S.1 364) (U.1 365) 51 48 = _
      exact (if_pos (by decide)).trans w10
    · rw [wA_same, h2 364 (by decide)]
      refine eqB.trans ⟨fun k hk => ?_, fun k hk => ?_⟩ eS.symm
      · show cpR (S.1 364) (U.1 365) 51 k = S.1 364 k
        exact if_pos (by omega)
      · show cpR (S.1 364) (U.1 365) 51 (36 + k) = S.1 364 (36 + k)
        exact if_pos (by omega)
  obtain ⟨U1, c1, c2, c3⟩ := cp
  have st1 : ∃ U2, (if bI x = (1 : Int32) then (gR [12] 33 (hp U1 c) 351).bind fun x5 => (f_X12_perhaps (hp U1 c) 351 x5 (nI a)).bind fun q6 => f_X12_gameOf_b25 q6 351 (nI a) (nI b) (bI x) (bI y) (bI w) else f_X12_gameOf_b25 (hp U1 c) 351 (nI a) (nI b) (bI x) (bI y) (bI w)) = f_X12_gameOf_b25 (hp U2 c) 351 (nI a) (nI b) (bI x) (bI y) (bI w) ∧ prR U2 N kp lim (ph N kp lim x (S.1 31, S.1 32) a) ∧ frS U2 U1 := by
    cases x with
    | false => exact ⟨U1, by rw [if_neg (show ¬ bI false = 1 by decide)], c2, fun _ _ _ => rfl⟩
    | true =>
      obtain ⟨U2, d1, d2, d3⟩ := r_ph (c := c) h6 ha c2 V0
      exact ⟨U2, by rw [if_pos (show bI true = 1 from rfl), g351_33, Option.bind_some, d1, Option.bind_some], d2, d3⟩
  obtain ⟨U2, d1, d2, d3⟩ := st1
  have st2 : ∃ U3, f_X12_gameOf_b25 (hp U2 c) 351 (nI a) (nI b) (bI x) (bI y) (bI w) = f_X12_gameOf_b40 (hp U3 c) 351 (nI a) (nI b) (bI x) (bI y) (bI w) ∧ prR U3 N kp lim (ph N kp lim y (ph N kp lim x (S.1 31, S.1 32) a) b) ∧ frS U3 U2 := by
    unfold f_X12_gameOf_b25
    cases y with
    | false => exact ⟨U2, by rw [if_neg (show ¬ bI false = 1 by decide)], d2, fun _ _ _ => rfl⟩
    | true =>
      obtain ⟨U3, g1, g2, g3⟩ := r_ph (c := c) h6 hb d2 (ph_V h6 hl V0)
      exact ⟨U3, by rw [if_pos (show bI true = 1 from rfl), g351_33, Option.bind_some, g1, Option.bind_some], g2, g3⟩
  obtain ⟨U3, g1, g2, g3⟩ := st2
  refine ⟨U3, ?_, fun x h1 h2 => by rw [g3 x h1 h2, d3 x h1 h2, c3 x h1 h2]⟩
  unfold f_X12_gameOf
  rw [k351, Option.bind_some, g351_32, Option.bind_some, g351_33, Option.bind_some, c1, Option.bind_some]
  refine Eq.trans d1 (Eq.trans g1 ?_)
  obtain ⟨p1, p2, p3, p4⟩ := g2
  have fin : ∀ h : Nat, h < 6 → f_X12_gameOf_b50 (hp U3 c) 351 (bI x) (bI y) (bI w) (nI h) = some (sIn (ph N kp lim y (ph N kp lim x (S.1 31, S.1 32) a) b).1 h N - sOut (ph N kp lim y (ph N kp lim x (S.1 31, S.1 32) a) b).1 h N - bI (if w then y else x), hp U3 c) := fun h hh => by
    unfold f_X12_gameOf_b50 f_X12_gameOf_b84
    rw [g351_33, Option.bind_some, r_in (Or.inr rfl) p1 h6 hh, Option.bind_some, Option.bind_some, r_out (Or.inr rfl) p1 h6 hh, Option.bind_some, sIn_cg hh (D := U3.1 365) (D' := (ph N kp lim y (ph N kp lim x (S.1 31, S.1 32) a) b).1) p4.1 N h6, sOut_cg hh (D := U3.1 365) (D' := (ph N kp lim y (ph N kp lim x (S.1 31, S.1 32) a) b).1) p4.1 N h6]
    cases w with
    | false => rw [if_pos (show bI false = 0 from rfl)]; rfl
    | true => rw [if_neg (show ¬ bI true = 0 by decide)]; rfl
  unfold f_X12_gameOf_b40 gm
  cases w with
  | false =>
    rw [if_pos (show bI false = 0 from rfl)]
    exact fin a (by omega)
  | true =>
    rw [if_neg (show ¬ bI true = 0 by decide)]
    exact fin b (by omega)
end GAM
