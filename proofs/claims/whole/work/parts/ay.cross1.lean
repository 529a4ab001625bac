/-! A CROSSING by the class: hurdles, and what is written down -/
section CR1
variable {S : XS} {c : Nat × Nat} {N x : Nat}
def hdl (s v co cr : Int32) : Int32 := if s = -1 then (if v ≤ co then (if cr < 9999 then -1 else 5) else 4) else s
theorem c_hurdle {v : Int32} (hN : S.1 30 4 = nI N) (h6 : N ≤ 6) (hx : x < N) : f_X11_hurdleOf (hp S c) 0 (nI x) v = some (hdl (stp N (S.1 30 6) (S.1 30 5) (S.1 31, S.1 32) x) v (S.1 30 7) (S.1 30 8)) := by
  unfold f_X11_hurdleOf
  rw [k0, Option.bind_some, g0_6, Option.bind_some, B30.has_in hN h6 hx, Option.bind_some, if_neg (show ¬ (1 : Int32) = 0 by decide), Option.bind_some, B30.isKept, Option.bind_some]
  unfold hdl stp
  cases hk : kep (S.1 30 6) x with
  | true =>
    rw [if_neg (show ¬ bI true = 0 by decide), if_pos rfl, if_neg (show ¬ (2 : Int32) = -1 by decide)]
  | false =>
    rw [if_pos (show bI false = 0 from rfl), Option.bind_some, B30.canTurn hN h6 hx, Option.bind_some]
    have e : canT N (S.1 (30 + 1)) (S.1 (30 + 2)) (S.1 30 6) (S.1 30 5) x = (!decide (S.1 32 x = 0) && !ful (S.1 31) (S.1 30 5) N x) := by
      unfold canT
      rw [hk]
      rfl
    rw [e, if_neg (show ¬ false = true by decide)]
    by_cases hw : S.1 32 x = 0
    · rw [decide_eq_true hw, if_pos (show bI (!true && _) = 0 from rfl), if_pos hw, if_neg (show ¬ (3 : Int32) = -1 by decide)]
    · rw [decide_eq_false hw, if_neg hw]
      cases hf : ful (S.1 31) (S.1 30 5) N x with
      | true => rw [if_pos (show bI (!false && !true) = 0 from rfl), if_pos rfl, if_neg (show ¬ (3 : Int32) = -1 by decide)]
      | false =>
        rw [if_neg (show ¬ bI (!false && !false) = 0 by decide), Option.bind_some, B30.g7, Option.bind_some, if_neg (show ¬ false = true by decide), if_pos rfl, Option.bind_some, B30.g8, Option.bind_some]
        by_cases a : v ≤ S.1 30 7
        · rw [if_pos a, if_pos a]
          by_cases b : S.1 30 8 < 9999
          · rw [if_pos b, if_pos b]
          · rw [if_neg b, if_neg b]
        · rw [if_neg a, if_neg a]
theorem X1_write {k : Nat} {w f : Int32} {r : Bool} (hk : k < 2 ^ 31) : f_X1_write (hp S c) 45 (nI k) w f (bI r) = some (hp (wA (wA (wA S 46 (upd (S.1 46) (k % 128) w)) 47 (upd (S.1 47) (k % 128) f)) 48 (upd (S.1 48) (k % 128) (bI r))) c) := by
  have hm : k % 128 < 128 := Nat.mod_lt _ (by decide)
  unfold f_X1_write f_X1_write_b38
  rw [k45, Option.bind_some, g45_0, Option.bind_some, and127 hk, q46 hm, Option.bind_some, g45_1, Option.bind_some, q47 hm, Option.bind_some, g45_2, Option.bind_some, wA_ne (show 47 ≠ 46 by decide), q48 hm, Option.bind_some, q48 hm, Option.bind_some, wA_ne (show 48 ≠ 47 by decide), wA_ne (show 48 ≠ 46 by decide)]
  cases r <;> rfl
/-- what a crossing leaves in the class -/
def cCr (N x cr : Nat) (S S' : XS) : Prop := S'.1 31 = (crs N (S.1 31, S.1 32) x).1 ∧ S'.1 32 = (crs N (S.1 31, S.1 32) x).2 ∧ S'.1 34 = upd (S.1 34) x (S.1 34 x + 1) ∧ S'.1 30 = upd (S.1 30) 8 (nI (cr + 1)) ∧ S'.1 46 = upd (S.1 46) ((cr + 1) % 128) (nI x) ∧ S'.1 47 = upd (S.1 47) ((cr + 1) % 128) (sF (crs N (S.1 31, S.1 32) x).1 36) ∧ S'.1 48 = upd (S.1 48) ((cr + 1) % 128) (bI (rng (crs N (S.1 31, S.1 32) x).1 N)) ∧ ∀ a, a < 30 ∨ 34 < a → a < 46 ∨ 48 < a → S'.1 a = S.1 a
theorem c_crossLog {cr : Nat} {kp lim : Int32} (hN : S.1 30 4 = nI N) (h6 : N ≤ 6) (V : Vb lim (S.1 31, S.1 32)) (h : can N kp lim (S.1 31, S.1 32) x = true) (hcr : cr < 9999) (h8 : S.1 30 8 = nI cr) : ∃ S', f_X11_crossAndLog (hp S c) 0 (nI x) = some (hp S' c) ∧ cCr N x cr S S' ∧ S'.1 33 = S.1 33 := by
  have hx : x < N := (can_x h).1
  have hx6 : x < 6 := by omega
  have ht : f_X0_turnOver (hp S c) 30 (nI x) = some (hp (wB S 30 (crs N (S.1 31, S.1 32) x)) c) := by
    have := B30.turnQ (S := S) (c := c) hN h6 V h
    rw [show wB S 30 (S.1 31, S.1 32) = S from wB_self] at this
    exact this
  obtain ⟨Q, hQ⟩ : ∃ Q, Q = crs N (S.1 31, S.1 32) x := ⟨_, rfl⟩
  rw [← hQ] at ht
  have t31 : (wB S 30 Q).1 31 = Q.1 := wB_1
  have t32 : (wB S 30 Q).1 32 = Q.2 := wB_2
  have to : ∀ a, a ≠ 31 → a ≠ 32 → (wB S 30 Q).1 a = S.1 a := fun a h1 h2 => wB_ne h1 h2
  generalize wB S 30 Q = T at ht t31 t32 to
  obtain ⟨W, hW⟩ : ∃ W, W = wA (wA T 34 (upd (S.1 34) x (S.1 34 x + 1))) 30 (upd (S.1 30) 8 (nI (cr + 1))) := ⟨_, rfl⟩
  have w31 : W.1 31 = Q.1 := by rw [hW, wA_ne (by decide), wA_ne (by decide), t31]
  have w32 : W.1 32 = Q.2 := by rw [hW, wA_ne (by decide), wA_ne (by decide), t32]
  have w30 : W.1 30 = upd (S.1 30) 8 (nI (cr + 1)) := by rw [hW, wA_same]
  have w34 : W.1 34 = upd (S.1 34) x (S.1 34 x + 1) := by rw [hW, wA_ne (by decide), wA_same]
  have wo : ∀ a, a < 30 ∨ 32 < a → a ≠ 34 → W.1 a = S.1 a := fun a h1 h2 => by rw [hW, wA_ne (by omega), wA_ne h2, to a (by omega) (by omega)]
  have lv : f_X11_crossAndLog (hp S c) 0 (nI x) = f_X1_write (hp W c) 45 (nI (cr + 1)) (nI x) (sF Q.1 36) (bI (rng Q.1 N)) := by
    unfold f_X11_crossAndLog f_X11_crossAndLog_b69
    rw [k0, Option.bind_some, g0_6, Option.bind_some, ht, Option.bind_some, g0_6, Option.bind_some, B30.g3, Option.bind_some, show (30 : Nat) + 4 = 30 + 4 from rfl, B30.a4 hx6, Option.bind_some, B30.q4 hx6, Option.bind_some, to (30 + 4) (by decide) (by decide), g0_6, Option.bind_some, B30.g8, Option.bind_some, B30.p8, Option.bind_some, wA_ne (show (30 : Nat) ≠ 30 + 4 by decide), to 30 (by decide) (by decide), h8, nI_1, ← hW, g0_9, Option.bind_some, g0_6, Option.bind_some, B30.g8, Option.bind_some, w30, upd_same, Option.bind_some, B30.favours, Option.bind_some, Option.bind_some, B30.levels (by rw [w30]; exact hN) h6, Option.bind_some, show W.1 (30 + 1) = Q.1 from w31]
    have hlr := lv_ring (D := Q.1) h6
    cases hr : rng Q.1 N with
    | true =>
      rw [if_pos (hlr.mpr hr)]
      show (f_X1_write (hp W c) 45 (nI (cr + 1)) (nI x) (sF Q.1 36) (bI true)).bind _ = _
      cases f_X1_write (hp W c) 45 (nI (cr + 1)) (nI x) (sF Q.1 36) (bI true) <;> rfl
    | false =>
      rw [if_neg (fun z => by rw [hlr, hr] at z; cases z)]
      show (f_X1_write (hp W c) 45 (nI (cr + 1)) (nI x) (sF Q.1 36) (bI false)).bind _ = _
      cases f_X1_write (hp W c) 45 (nI (cr + 1)) (nI x) (sF Q.1 36) (bI false) <;> rfl
  rw [X1_write (by omega)] at lv
  refine ⟨_, lv, ⟨?_, ?_, ?_, ?_, ?_, ?_, ?_, fun a h1 h2 => ?_⟩, ?_⟩
  · rw [wA_ne (by decide), wA_ne (by decide), wA_ne (by decide), w31, hQ]
  · rw [wA_ne (by decide), wA_ne (by decide), wA_ne (by decide), w32, hQ]
  · rw [wA_ne (by decide), wA_ne (by decide), wA_ne (by decide), w34]
  · rw [wA_ne (by decide), wA_ne (by decide), wA_ne (by decide), w30]
  · rw [wA_ne (by decide), wA_ne (by decide), wA_same, wo 46 (by decide) (by decide)]
  · rw [wA_ne (by decide), wA_same, wo 47 (by decide) (by decide), hQ]
  · rw [wA_same, wo 48 (by decide) (by decide), hQ]
  · rw [wA_ne (by omega), wA_ne (by omega), wA_ne (by omega), wo a (by omega) (by omega)]
  · rw [wA_ne (by decide), wA_ne (by decide), wA_ne (by decide), wo 33 (by decide) (by decide)]
end CR1
