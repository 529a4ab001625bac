/-! FITS: songs sung to the village as it was told -/
section FI1
variable {S : XS} {c : Nat × Nat} {n N j L : Nat} {kp lim : Int32} {dg : Nat → Nat}
theorem fT_snoc : ∀ (t : Nat) (Q : BS), fT N kp lim dg L (t + 1) Q = if (fT N kp lim dg L t Q).1 then fol N kp lim dg L 0 (fT N kp lim dg L t Q).2 else (false, (fT N kp lim dg L t Q).2)
  | 0, Q => by
    show (if (fol N kp lim dg L 0 Q).1 then (true, (fol N kp lim dg L 0 Q).2) else (false, (fol N kp lim dg L 0 Q).2)) = if true = true then fol N kp lim dg L 0 Q else _
    rw [if_pos rfl]
    generalize fol N kp lim dg L 0 Q = r
    obtain ⟨b, Q'⟩ := r
    cases b <;> rfl
  | t + 1, Q => by
    have e : ∀ t, fT N kp lim dg L (t + 1) Q = if (fol N kp lim dg L 0 Q).1 then fT N kp lim dg L t (fol N kp lim dg L 0 Q).2 else (false, (fol N kp lim dg L 0 Q).2) := fun _ => rfl
    rw [e (t + 1), e t]
    cases h : (fol N kp lim dg L 0 Q).1 with
    | true =>
      rw [if_pos rfl, if_pos rfl]
      exact fT_snoc t _
    | false =>
      rw [if_neg (show ¬ false = true by decide), if_neg (show ¬ false = true by decide)]
      rfl
theorem fT_congr (h6 : N ≤ 6) : ∀ (t : Nat) (Q Q' : BS), eqB Q Q' → (fT N kp lim dg L t Q).1 = (fT N kp lim dg L t Q').1 ∧ eqB (fT N kp lim dg L t Q).2 (fT N kp lim dg L t Q').2
  | 0, Q, Q', h => ⟨rfl, h⟩
  | t + 1, Q, Q', h => by
    have hc := fol_congr (kp := kp) (lim := lim) (dg := dg) h6 L 0 Q Q' h
    show (if (fol N kp lim dg L 0 Q).1 then fT N kp lim dg L t (fol N kp lim dg L 0 Q).2 else (false, (fol N kp lim dg L 0 Q).2)).1 = (if (fol N kp lim dg L 0 Q').1 then fT N kp lim dg L t (fol N kp lim dg L 0 Q').2 else (false, (fol N kp lim dg L 0 Q').2)).1 ∧ eqB (if (fol N kp lim dg L 0 Q).1 then fT N kp lim dg L t (fol N kp lim dg L 0 Q).2 else (false, (fol N kp lim dg L 0 Q).2)).2 (if (fol N kp lim dg L 0 Q').1 then fT N kp lim dg L t (fol N kp lim dg L 0 Q').2 else (false, (fol N kp lim dg L 0 Q').2)).2
    rw [hc.1]
    cases (fol N kp lim dg L 0 Q').1 with
    | true => exact fT_congr h6 t _ _ hc.2
    | false => exact ⟨rfl, hc.2⟩
/-- the village as told, in cells -/
def TD (S : XS) (N F : Nat) (lim kt : Int32) : Prop := S.1 351 27 = nI F ∧ F ≤ 12 ∧ (∀ k, k < F → ∃ x y, x < 6 ∧ y < 6 ∧ S.1 360 (3 * k) = nI x ∧ S.1 360 (3 * k + 1) = nI y) ∧ S.1 35 4 = nI N ∧ S.1 35 5 = lim ∧ S.1 35 6 = kt ∧ lyR (S.1 360) (S.1 358) (S.1 356 0) F N 48 = kt ∧ eqB (S.1 36, S.1 37) (rwB (lyR (S.1 360) (S.1 358) (S.1 356 0) F N)) ∧ Vb lim (S.1 36, S.1 37)
theorem RR.td (R : RR n (pj S)) (hN : S.1 30 4 = nI N) (h6 : N ≤ 6) : ∃ F kt, TD S N F (S.1 356 1) kt := by
  obtain ⟨⟨N', F, v1, v2, v3, -⟩, -⟩ := R
  have h := v1.2.1
  have : S.1 30 4 = nI N' := v2.1.1
  rw [hN] at this
  have e := (nI_eq (by omega) (by omega)).mp this
  subst e
  obtain ⟨⟨k1, k2, k3⟩, ⟨r1, r2, r3, r4, r5, r6⟩, ok⟩ := v3
  obtain ⟨-, -, -, a4, a5, -, -, a8, -⟩ := v1
  have E : eqB (S.1 36, S.1 37) (rwB (lyR (S.1 360) (S.1 358) (S.1 356 0) F N)) := ⟨fun k hk => r1 k hk, fun k hk => r2 k hk⟩
  refine ⟨F, S.1 35 6, a4, a5, fun k hk => ?_, k1, k2, rfl, ?_, E, Vb_congr E ok.1⟩
  · obtain ⟨x, y, -, hx, hy, -, -, -, e1, e2, -⟩ := a8 k hk
    exact ⟨x, y, by omega, by omega, e1, e2⟩
  · exact r4.symm
theorem ap_told {F : Nat} {kt : Int32} (T : TD S N F lim kt) : ∃ S1, f_X0_become (hp S c) 40 35 = some (hp S1 c) ∧ fr 40 44 S1 S ∧ S1.1 40 4 = nI N ∧ S1.1 40 5 = lim ∧ S1.1 40 6 = kt ∧ eqB (S1.1 41, S1.1 42) (S.1 36, S.1 37) ∧ Vb lim (S1.1 41, S1.1 42) := by
  obtain ⟨S1, e1, e2, e3⟩ := B40.become (S := S) (c := c) B35 (by decide)
  obtain ⟨t1, t2, t3, t4, t5, t6, t7, t8, t9⟩ := T
  obtain ⟨b1, b2, b3, b4, b5⟩ := e2
  have eQ : eqB (S1.1 41, S1.1 42) (S.1 36, S.1 37) := ⟨fun k hk => b1 k hk, fun k hk => b2 k hk⟩
  exact ⟨S1, e1, e3, (b5 4 (by decide) (by decide)).trans t4, (b5 5 (by decide) (by decide)).trans t5, (b5 6 (by decide) (by decide)).trans t6, eQ, Vb_congr eQ t9⟩
theorem TD.of {S' : XS} {F : Nat} {kt : Int32} (T : TD S N F lim kt) (h1 : S'.1 351 27 = S.1 351 27) (h2 : S'.1 360 = S.1 360) (h3 : S'.1 358 = S.1 358) (h4 : S'.1 356 = S.1 356) (h5 : S'.1 35 = S.1 35) (h6 : S'.1 36 = S.1 36) (h7 : S'.1 37 = S.1 37) : TD S' N F lim kt := by
  unfold TD at T ⊢
  rw [h1, h2, h3, h4, h5, h6, h7]
  exact T
/-- what would be owed -/
def wo (N : Nat) (kp lim : Int32) (dg : Nat → Nat) (L : Nat) (Q : BS) (t a b : Nat) : Int32 := if (fT N kp lim dg L t Q).1 then (fT N kp lim dg L t Q).2.1 (6 * a + b) else -1000000
theorem r_would_loop {a b t : Nat} (ha : a < 6) (hb : b < 6) (ht : t ≤ 9) (hj : j < 4) (hL : L ≤ 16) (hdg : ∀ k, k < L → dg k < 10) (h6 : N ≤ 6) (hl : lim.toInt ≤ 99) : ∀ (m k f : Nat) (S : XS) (Q : BS), k + m = t → m < f → prR S N kp lim Q → Vb lim Q → sgV S j L dg → ∃ S', f_X12_wouldOwe_b11 f (hp S c) 351 (nI j) (nI t) (nI a) (nI b) (nI k) = some (wo N kp lim dg L Q m a b, hp S' c) ∧ frS S' S
  | 0, k, f, S, Q, hk, hf, H, V, sr => by
    obtain ⟨f, rfl⟩ : ∃ g, f = g + 1 := ⟨f - 1, by omega⟩
    refine ⟨S, ?_, fun _ _ _ => rfl⟩
    rw [f_X12_wouldOwe_b11, if_pos (nI_le (by omega) (by omega)), g351_33, Option.bind_some, ix6, a365 (by omega), Option.bind_some]
    exact congrArg (fun w => some (w, hp S c)) (H.2.2.2.1 (6 * a + b) (by omega))
  | m + 1, k, f, S, Q, hk, hf, H, V, sr => by
    obtain ⟨f, rfl⟩ : ∃ g, f = g + 1 := ⟨f - 1, by omega⟩
    obtain ⟨S1, y1, y2, y3⟩ := r_sings (c := c) hj hL hdg h6 hl H V sr
    have V' := Vb_fol (dg := dg) (kp := kp) h6 hl L 0 Q V
    rw [f_X12_wouldOwe_b11, if_neg (nI_ge (by omega) (by omega)), g351_33, Option.bind_some, y1, Option.bind_some]
    show ∃ S', _ = some (if (if (fol N kp lim dg L 0 Q).1 then fT N kp lim dg L m (fol N kp lim dg L 0 Q).2 else (false, (fol N kp lim dg L 0 Q).2)).1 then (if (fol N kp lim dg L 0 Q).1 then fT N kp lim dg L m (fol N kp lim dg L 0 Q).2 else (false, (fol N kp lim dg L 0 Q).2)).2.1 (6 * a + b) else -1000000, hp S' c) ∧ frS S' S
    generalize fol N kp lim dg L 0 Q = r at V' y2
    obtain ⟨g, Q'⟩ := r
    cases g with
    | true =>
      obtain ⟨S', z1, z2⟩ := r_would_loop ha hb ht hj hL hdg h6 hl m (k + 1) f S1 Q' (by omega) (by omega) y2 V' (by
        unfold sgV
        rw [y3 363 (by decide) (by decide), y3 362 (by decide) (by decide)]
        exact sr)
      refine ⟨S', ?_, fun a h1 h2 => by rw [z2 a h1 h2, y3 a h1 h2]⟩
      rw [if_neg (show ¬ bI true = 0 by decide), nI_1]
      exact z1
    | false =>
      refine ⟨S1, ?_, y3⟩
      rw [if_pos (show bI false = 0 from rfl)]
      rfl
theorem r_would {U : XS} {F a b t : Nat} {kt : Int32} {Q : BS} (T : TD S N F lim kt) (hQ : eqB (S.1 36, S.1 37) Q) (VQ : Vb lim Q) (u1 : U.1 351 26 = nI N) (u2 : U.1 351 27 = S.1 351 27) (u3 : ∀ a, a = 356 ∨ a = 358 ∨ a = 360 → U.1 a = S.1 a) (l0 : S.1 356 1 = lim) (ha : a < 6) (hb : b < 6) (ht : t ≤ 9) (hj : j < 4) (hL : L ≤ 16) (hdg : ∀ k, k < L → dg k < 10) (h6 : N ≤ 6) (hl : lim.toInt ≤ 99) (sr : sgV U j L dg) : ∃ U', f_X12_wouldOwe (hp U c) 351 (nI j) (nI t) (nI a) (nI b) = some (wo N kt lim dg L Q t a b, hp U' c) ∧ frS U' U := by
  obtain ⟨t1, t2, t3, t4, t5, t6, t7, t8, t9⟩ := T
  obtain ⟨row, e1, e2⟩ := r_lays5 (S := U) (c := c) u1 h6 (u2.trans t1) t2 (by rw [u3 360 (by decide)]; exact t3)
  rw [u3 360 (by decide), u3 358 (by decide), u3 356 (by decide)] at e2
  have H : prR (wA U 365 row) N kt lim Q := by
    refine ⟨?_, ?_, ?_, ?_⟩
    · rw [wA_ne (by decide)]; exact u1
    · rw [wA_ne (by decide), u3 356 (by decide)]; exact l0
    · rw [wA_same, e2 48 (by decide)]; exact t7
    · rw [wA_same]
      have E : eqB (rwB row) (rwB (lyR (S.1 360) (S.1 358) (S.1 356 0) F N)) := ⟨fun k hk => e2 k (by omega), fun k hk => e2 (36 + k) (by omega)⟩
      exact E.trans (t8.symm.trans hQ)
  obtain ⟨U', z1, z2⟩ := r_would_loop (c := c) ha hb ht hj hL hdg h6 hl t 0 1048576 (wA U 365 row) Q (by omega) (by omega) H VQ (by
    unfold sgV
    rw [wA_ne (by decide), wA_ne (by decide)]
    exact sr)
  refine ⟨U', ?_, fun a h1 h2 => by rw [z2 a h1 h2, wA_ne h1]⟩
  unfold f_X12_wouldOwe
  rw [k351, Option.bind_some, g351_33, Option.bind_some, e1, Option.bind_some]
  exact z1
end FI1
