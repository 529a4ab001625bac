/-! ASK: what each song foretells -/
section AS1
variable {S : XS} {c : Nat × Nat} {n N j L m : Nat} {lim : Int32} {dg : Nat → Nat}
theorem s267l (hj : j < 4) : sh (267 + j) = some (.inl (0, 10, 0, 0)) := by
  rcases (by omega : j = 0 ∨ j = 1 ∨ j = 2 ∨ j = 3) with rfl | rfl | rfl | rfl
  · exact s267
  · exact s268
  · exact s269
  · exact s270
theorem wB_wA {b d : Nat} {Q : BS} {f : Nat → Int32} (h1 : d ≠ b + 1) (h2 : d ≠ b + 2) : wA (wB S b Q) d f = wB (wA S d f) b Q := by
  unfold wB
  rw [wA_comm (show b + 1 ≠ d by omega), wA_comm (show b + 2 ≠ d by omega)]
theorem c_fore_loop {a b : Nat} {kt : Int32} {Q0 : BS} (ha : a < 6) (hb : b < 6) (hj : j < 4) (hL : L ≤ 16) (h6 : N ≤ 6) (hl : lim.toInt ≤ 99) (V0 : Vb lim Q0) : ∀ (k t f : Nat) (S : XS), t + k = 10 → 1 ≤ t → k < f → S.1 40 4 = nI N → S.1 40 5 = lim → S.1 40 6 = kt → sgU S j L dg → ∃ S', f_X11_foretell_b17 f (hp (wB S 40 (fT N kt lim dg L (t - 1) Q0).2) c) 0 (nI j) (nI a) (nI b) (bI (fT N kt lim dg L (t - 1) Q0).1) (nI t) = some (hp S' c) ∧ (∀ x, x < 40 ∨ 44 < x → x ≠ 267 + j → S'.1 x = S.1 x) ∧ (∀ x, x < t → S'.1 (267 + j) x = S.1 (267 + j) x) ∧ ∀ x, t ≤ x → x < 10 → S'.1 (267 + j) x = wo N kt lim dg L Q0 x a b
  | 0, t, f, S, hk, ht, hf, hN, h5, hq, sc => by
    obtain ⟨f, rfl⟩ : ∃ g, f = g + 1 := ⟨f - 1, by omega⟩
    refine ⟨wB S 40 (fT N kt lim dg L (t - 1) Q0).2, ?_, fun x h1 h2 => wB_ne (by omega) (by omega), fun x _ => by rw [wB_ne (by omega) (by omega)], fun x h1 h2 => by omega⟩
    rw [f_X11_foretell_b17, if_pos (show (9 : Int32) < nI t from nI_lt (a := 9) (by omega) (by omega))]
  | k + 1, t, f, S, hk, ht, hf, hN, h5, hq, sc => by
    obtain ⟨f, rfl⟩ : ∃ g, f = g + 1 := ⟨f - 1, by omega⟩
    have V1 : Vb lim (fT N kt lim dg L (t - 1) Q0).2 := fT_V h6 hl _ _ V0
    have sn := fT_snoc (N := N) (kp := kt) (lim := lim) (dg := dg) (L := L) (t - 1) Q0
    rw [show t - 1 + 1 = t by omega] at sn
    have step : ∀ v : Int32, v = wo N kt lim dg L Q0 t a b → ∃ S', f_X11_foretell_b94 (fun h l0 l1 l2 l3 l4 l5 => f_X11_foretell_b17 f h l0 l1 l2 l3 l4 l5) (hp (wB S 40 (fT N kt lim dg L t Q0).2) c) 0 (nI j) (nI a) (nI b) (bI (fT N kt lim dg L t Q0).1) (nI t) v (nI t) (267 + j) = some (hp S' c) ∧ (∀ x, x < 40 ∨ 44 < x → x ≠ 267 + j → S'.1 x = S.1 x) ∧ (∀ x, x < t → S'.1 (267 + j) x = S.1 (267 + j) x) ∧ ∀ x, t ≤ x → x < 10 → S'.1 (267 + j) x = wo N kt lim dg L Q0 x a b := fun v hv => by
      obtain ⟨S', i1, i2, i3, i4⟩ := c_fore_loop (kt := kt) ha hb hj hL h6 hl V0 k (t + 1) f (wA S (267 + j) (upd (S.1 (267 + j)) t v)) (by omega) (by omega) (by omega) (by rw [wA_ne (by omega)]; exact hN) (by rw [wA_ne (by omega)]; exact h5) (by rw [wA_ne (by omega)]; exact hq) ⟨by rw [wA_ne (by omega)]; exact sc.1, fun k hk => ⟨(sc.2 k hk).1, by rw [wA_ne (by omega)]; exact (sc.2 k hk).2⟩⟩
      rw [show t + 1 - 1 = t by omega] at i1
      refine ⟨S', ?_, fun x h1 h2 => by rw [i2 x h1 h2, wA_ne h2], fun x hx => by rw [i3 x (by omega), wA_same, upd_ne (by omega)], fun x h1 h2 => ?_⟩
      · unfold f_X11_foretell_b94
        rw [pI_hp (s267l hj) (by omega) (by decide), Option.bind_some, wB_ne (by omega) (by omega), wB_wA (by omega) (by omega), nI_1]
        exact i1
      · by_cases e : x = t
        · subst e
          rw [i3 x (by omega), wA_same, upd_same, hv]
        · exact i4 x (by omega) h2
    have b62 : ∃ S', f_X11_foretell_b62 (fun h l0 l1 l2 l3 l4 l5 => f_X11_foretell_b17 f h l0 l1 l2 l3 l4 l5) (hp (wB S 40 (fT N kt lim dg L t Q0).2) c) 0 (nI j) (nI a) (nI b) (nI t) (bI (fT N kt lim dg L t Q0).1) = some (hp S' c) ∧ (∀ x, x < 40 ∨ 44 < x → x ≠ 267 + j → S'.1 x = S.1 x) ∧ (∀ x, x < t → S'.1 (267 + j) x = S.1 (267 + j) x) ∧ ∀ x, t ≤ x → x < 10 → S'.1 (267 + j) x = wo N kt lim dg L Q0 x a b := by
      unfold f_X11_foretell_b62
      rw [g0_11, Option.bind_some, g260_5, Option.bind_some, a266 hj, Option.bind_some, Nat.one_mul, g0_8, Option.bind_some, B40.debt ha hb, Option.bind_some]
      cases hg : (fT N kt lim dg L t Q0).1 with
      | true =>
        rw [if_neg (show ¬ bI true = 0 by decide)]
        have := step ((wB S 40 (fT N kt lim dg L t Q0).2).1 (40 + 1) (6 * a + b)) (by rw [wB_1]; unfold wo; rw [hg, if_pos rfl])
        rw [hg] at this
        exact this
      | false =>
        rw [if_pos (show bI false = 0 from rfl)]
        have := step (-1000000) (by unfold wo; rw [hg, if_neg (show ¬ false = true by decide)])
        rw [hg] at this
        exact this
    rw [f_X11_foretell_b17, if_neg (show ¬ (9 : Int32) < nI t from (nI_nlt (by omega) (by decide) : ¬ nI 9 < nI t))]
    cases hg : (fT N kt lim dg L (t - 1) Q0).1 with
    | false =>
      rw [hg, if_neg (show ¬ false = true by decide)] at sn
      rw [if_pos (show bI false = 0 from rfl)]
      unfold f_X11_foretell_b61
      rw [sn] at b62
      exact b62
    | true =>
      rw [hg, if_pos rfl] at sn
      have hf := c_follow (c := c) (Q := (fT N kt lim dg L (t - 1) Q0).2) hj hL hN h6 (by rw [h5]; exact hl) sc (by rw [h5]; exact V1)
      rw [h5, hq, ← sn] at hf
      rw [if_neg (show ¬ bI true = 0 by decide), g0_8, Option.bind_some, g0_5, Option.bind_some, g23_0, Option.bind_some, a25 hj, Option.bind_some, Option.bind_some, g23_1, Option.bind_some, a24 hj, Option.bind_some, wB_ne (by decide) (by decide), sc.1, Nat.one_mul, hf, Option.bind_some]
      cases hb' : (fT N kt lim dg L t Q0).1 with
      | false =>
        rw [if_pos (show bI false = 0 from rfl)]
        unfold f_X11_foretell_b61
        rw [hb'] at b62
        exact b62
      | true =>
        rw [if_neg (show ¬ bI true = 0 by decide)]
        rw [hb'] at b62
        exact b62
theorem wo_congr {kt : Int32} {Q Q' : BS} {t a b : Nat} (h6 : N ≤ 6) (ha : a < 6) (hb : b < 6) (h : eqB Q Q') : wo N kt lim dg L Q t a b = wo N kt lim dg L Q' t a b := by
  have cg := fT_congr (kp := kt) (lim := lim) (dg := dg) (L := L) h6 t Q Q' h
  unfold wo
  rw [cg.1, cg.2.1 (6 * a + b) (by omega)]
theorem c_fore {F a b : Nat} {kt : Int32} (T : TD S N F lim kt) (ha : a < 6) (hb : b < 6) (hj : j < 4) (hL : L ≤ 16) (h6 : N ≤ 6) (hl : lim.toInt ≤ 99) (sc : sgU S j L dg) : ∃ S', f_X11_foretell (hp S c) 0 (nI j) (nI a) (nI b) = some (hp S' c) ∧ (∀ x, x < 40 ∨ 44 < x → x ≠ 267 + j → S'.1 x = S.1 x) ∧ ∀ x, 1 ≤ x → x < 10 → S'.1 (267 + j) x = wo N kt lim dg L (S.1 36, S.1 37) x a b := by
  obtain ⟨S1, e1, e2, e3, e4, e5, e6, e7⟩ := ap_told (c := c) T
  obtain ⟨S', a1, a2, a3, a4⟩ := c_fore_loop (c := c) (a := a) (b := b) (kt := kt) (Q0 := (S1.1 41, S1.1 42)) (dg := dg) ha hb hj hL h6 hl e7 9 1 1048576 S1 (by decide) (by decide) (by decide) e3 e4 e5 ⟨by rw [e2.1 24 (by omega)]; exact sc.1, fun k hk => ⟨(sc.2 k hk).1, by rw [e2.1 (26 + j) (by omega)]; exact (sc.2 k hk).2⟩⟩
  have a1' : f_X11_foretell_b17 1048576 (hp (wB S1 40 (S1.1 41, S1.1 42)) c) 0 (nI j) (nI a) (nI b) (bI true) (nI 1) = some (hp S' c) := a1
  rw [show wB S1 40 (S1.1 41, S1.1 42) = S1 from wB_self] at a1'
  refine ⟨S', ?_, fun x h1 h2 => by rw [a2 x h1 h2, e2.1 x h1], fun x h1 h2 => by rw [a4 x h1 h2, wo_congr h6 ha hb e6]⟩
  unfold f_X11_foretell
  rw [k0, Option.bind_some, g0_8, Option.bind_some, g0_7, Option.bind_some, e1, Option.bind_some]
  exact a1'
end AS1
