/-! AN ACT that crosses nobody: both sides put together -/
section AC2
variable {S : XS} {c : Nat × Nat} {n : Nat}
theorem pc_all {a : Nat} (h : (30 ≤ a ∧ a < 40) ∨ (45 ≤ a ∧ a < 266)) : pj S a = S.1 a := by
  refine pj_cell fun k => ?_
  have : ∀ a, a < 266 → ((30 ≤ a ∧ a < 40) ∨ (45 ≤ a ∧ a < 266)) → (a ≠ 351 ∧ a ≠ 271 ∧ a ≠ 362 ∧ a ≠ 363) ∧ (!(decide (2 ≤ a ∧ a ≤ 11) || decide (13 ≤ a ∧ a ≤ 15) || decide (40 ≤ a ∧ a ≤ 44) || decide (266 ≤ a ∧ a ≤ 270) || decide (272 ≤ a ∧ a ≤ 274) || decide (276 ≤ a ∧ a ≤ 348) || a == 350 || a == 357 || a == 359 || a == 361 || a == 365 || a == 367 || a == 368 || a == 370 || a == 371 || a == 372 || a == 374 || a == 375 || a == 376)) = true := by decide +kernel
  obtain ⟨⟨h1, h2, h3, h4⟩, h5⟩ := this a (by omega) h
  unfold pers
  rw [if_neg h1, if_neg h2, if_neg h3, if_neg h4]
  exact h5
/-- what the class has once it remembered, what the reference then does: enough for the relation -/
theorem act_pair {v : Int32} {f g : xa_H → Option (Int32 × xa_H)} (R : RR n (pj S))
    (hf : ∀ S1 : XS, (∀ a, a < 60 ∨ 259 < a → a ≠ 49 → S1.1 a = S.1 a) → f_X3_remember (hp S c) 49 30 = some (hp S1 c) → ∃ U, f (hp S c) = some (v, hp U c) ∧ (∀ a, a < 30 ∨ 34 < a → U.1 a = S1.1 a) ∧
      ∀ U1 : XS, (∀ a, a ≠ 351 → a ≠ 369 → U1.1 a = U.1 a) → (∀ k, k ≠ 0 → k ≠ 40 → U1.1 351 k = S.1 351 k) → U.1 351 = S.1 351 → f_X12_remember (hp (T0 U) c) 351 = some (hp U1 c) → ∃ V, g (hp U c) = some (v, hp V c) ∧ (∀ a, a ≠ 364 → V.1 a = U1.1 a) ∧ (∀ i, 50 ≤ i → i < 232 → V.1 364 i = S.1 364 i) ∧ ∀ N F, Rvil (pj S) N F → Rnow (pj S) N → pj V 356 = pj S 356 → pj V 358 = pj S 358 → Rnow (pj V) N) : PQ n c f g S := by
  obtain ⟨⟨N, F, v1, v2, v3, ⟨A, q, cr, v4⟩, v5, m, v6⟩, rest⟩ := R
  have R : RR n (pj S) := ⟨⟨N, F, v1, v2, v3, ⟨A, q, cr, v4⟩, v5, m, v6⟩, rest⟩
  have hA := v4.1
  have hq := v4.2.1
  have h40 : S.1 351 40 = nI A := v4.2.2.1
  have h4 : S.1 49 4 = nI A := v4.2.2.2.1
  have h3 : S.1 49 3 = nI q := v4.2.2.2.2.1
  obtain ⟨S1, e1, e2, e3, e4⟩ := X3_remember (c := c) hq hA h3 h4
  obtain ⟨U, u1, u2, u3⟩ := hf S1 (fun a h1 h2 => e4 a h2 (by omega)) e1
  have U351 : U.1 351 = S.1 351 := by rw [u2 351 (by omega), e4 351 (by omega) (by omega)]
  obtain ⟨U1, y1, y2, y3, B, s, hB, hB2, x1, x2⟩ := r_remember (S := T0 U) (c := c) hA (by rw [T0_351 (by decide), U351]; exact h40)
  have y3' : ∀ a, a ≠ 351 → a ≠ 369 → U1.1 a = U.1 a := fun a h1 h2 => by rw [y3 a h1 h2, T0_ne h1]
  have k351 : ∀ k, k ≠ 0 → k ≠ 40 → U1.1 351 k = S.1 351 k := fun k h1 h2 => by rw [y2, upd_ne h2, T0_351 h1, U351]
  obtain ⟨V, w1, w2, w3, w4⟩ := u3 U1 y3' k351 U351 y1
  have VX : ∀ a, a < 30 ∨ 34 < a → a ≠ 49 → a < 60 + 5 * q ∨ 60 + 5 * q + 4 < a → a ≠ 351 → a ≠ 364 → a ≠ 369 → V.1 a = S.1 a := fun a h1 h2 h3 h4 h5 h6 => by rw [w2 a h5, y3' a h4 h6, u2 a h1, e4 a h2 h3]
  have V49 : V.1 49 = upd (upd (S.1 49) 3 (nI ((q + 1) % 40))) 4 (nI (min (A + 1) 40)) := by rw [w2 49 (by decide), y3' 49 (by decide) (by decide), u2 49 (by decide), e3]
  have VB : ∀ a, 60 + 5 * q ≤ a → a ≤ 60 + 5 * q + 4 → V.1 a = S1.1 a := fun a h1 h2 => by rw [w2 a (by omega), y3' a (by omega) (by omega), u2 a (by omega)]
  have V369 : V.1 369 = U1.1 369 := w2 369 (by decide)
  have T364 : (T0 U).1 364 = S.1 364 := by rw [T0_ne (by decide), u2 364 (by omega), e4 364 (by omega) (by omega)]
  have T369 : (T0 U).1 369 = S.1 369 := by rw [T0_ne (by decide), u2 369 (by omega), e4 369 (by omega) (by omega)]
  have c369 : ∀ T : XS, pj T 369 = T.1 369 := fun T => pj_cell fun _ => rfl
  have e356 : pj V 356 = pj S 356 := pj_eq (VX 356 (by omega) (by omega) (by omega) (by omega) (by omega) (by omega))
  have e358 : pj V 358 = pj S 358 := pj_eq (VX 358 (by omega) (by omega) (by omega) (by omega) (by omega) (by omega))
  have now := w4 N F v1 v2 e356 e358
  have e46 : pj V 46 = pj S 46 := pj_eq (VX 46 (by omega) (by omega) (by omega) (by omega) (by omega) (by omega))
  have e47 : pj V 47 = pj S 47 := pj_eq (VX 47 (by omega) (by omega) (by omega) (by omega) (by omega) (by omega))
  have e48 : pj V 48 = pj S 48 := pj_eq (VX 48 (by omega) (by omega) (by omega) (by omega) (by omega) (by omega))
  refine ⟨v, U, V, u1, w1, RR.mono (n := n) (RR_act (c' := cr A) (q := q) (B := B) (s := s) (A := A) (cr := cr) (m := m) R v1 v2 v3 v4 v5 v6 ?_ now ?_ ?_ ?_ ?_ ?_ ?_ ?_ ?_ ?_ ?_ hB hB2 ?_ ?_ ?_ (Nat.le_refl _) (by omega) ?_) (by omega)⟩
  · intro a h1 h2 h3 h4 h5 h6
    exact pj_eq (VX a h1 (by omega) h3 h4 h5 h6)
  · show V.1 49 5 = S.1 49 5
    rw [V49]
    rfl
  · show V.1 49 3 = _
    rw [V49]
    rfl
  · show V.1 49 4 = _
    rw [V49, upd_same, hB2]
  · intro k hk
    rw [pc_all (by omega), pc_all (by omega), VB _ (by omega) (by omega)]
    exact e2.1 k hk
  · intro k hk
    rw [pc_all (by omega), pc_all (by omega), VB _ (by omega) (by omega)]
    exact e2.2.1 k hk
  · intro k hk
    rw [pc_all (by omega), pc_all (by omega), VB _ (by omega) (by omega)]
    exact e2.2.2.1 k hk
  · intro k hk
    rw [pc_all (by omega), pc_all (by omega), VB _ (by omega) (by omega)]
    exact e2.2.2.2.1 k hk
  · intro k h4 h9
    rw [pc_all (by omega), pc_all (by omega), VB _ (by omega) (by omega)]
    exact e2.2.2.2.2 k h4 h9
  · intro j hj
    by_cases h : pers 351 j = true
    · have n0 : j ≠ 0 := by rintro rfl; exact absurd h (by decide)
      rw [pj_at h, pj_at h, w2 351 (by decide)]
      exact k351 j n0 hj
    · unfold pj
      rw [if_neg h, if_neg h]
  · show V.1 351 40 = _
    rw [w2 351 (by decide), y2, upd_same, hB2]
  · intro k hk
    rw [c369, c364, V369, x1 k hk, T364]
  · intro i hi k hk
    rw [c369, c369, V369, x2 i hi k hk, T369]
  · rw [e46, e47, e48]
    have a6 := v4.2.2.2.2.2.1
    obtain ⟨l1, l2, l3, l4⟩ := a6
    rw [c364] at l1 l3 l4
    have hm : min (cr A) 60 ≤ 60 := Nat.min_le_right _ _
    refine ⟨by rw [c364, w3 50 (by decide) (by decide)]; exact l1, l2, by rw [c364, w3 51 (by decide) (by decide)]; exact l3, fun i hi => ?_⟩
    rw [c364, w3 _ (by omega) (by omega), w3 _ (by omega) (by omega), w3 _ (by omega) (by omega)]
    exact l4 i hi
  · intro row c0 _ _ h
    rw [e46, e47, e48]
    exact h
end AC2
