/-! TEXT: laws and songs are put on their shelves -/
def RV (p : PJ) : Prop := ∃ N F, Rvil p N F ∧ Rnow p N ∧ Rtold p N F ∧ (∃ A q cr, Rmem p N A q cr) ∧ Rimg p N ∧ ∃ m, Rseen p N m
theorem RV.cg {p p' : PJ} (h : RV p) (C : ∀ a, (30 ≤ a ∧ a < 40) ∨ (46 ≤ a ∧ a < 266) ∨ a = 356 ∨ a = 358 ∨ a = 360 ∨ a = 364 ∨ a = 369 ∨ a = 373 ∨ a = 377 → p' a = p a) (K : ∀ k, k = 26 ∨ k = 27 ∨ k = 40 ∨ k = 51 ∨ k = 56 → p' 351 k = p 351 k) : RV p' := by
  obtain ⟨N, F, v1, v2, v3, ⟨A, q, cr, v4⟩, v5, m, v6⟩ := h
  have D : ∀ a k, (30 ≤ a ∧ a < 40) ∨ (46 ≤ a ∧ a < 266) ∨ a = 356 ∨ a = 358 ∨ a = 360 ∨ a = 364 ∨ a = 369 ∨ a = 373 ∨ a = 377 → p' a k = p a k := fun a k h => congrFun (C a h) k
  exact ⟨N, F, v1.cg (K _ (by decide)) (K _ (by decide)) (D _ _ (by decide)) (C _ (by decide)) (C _ (by decide)), v2.cg (C _ (by decide)) (C _ (by decide)) (C _ (by decide)) (C _ (by decide)) (C _ (by decide)) (C _ (by decide)) (D _ _ (by decide)) (C _ (by decide)), v3.cg (C _ (by decide)) (C _ (by decide)) (C _ (by decide)) (C _ (by decide)) (C _ (by decide)) (C _ (by decide)) (C _ (by decide)) (C _ (by decide)), ⟨A, q, cr, v4.cg (K _ (by decide)) (C _ (by decide)) (C _ (by decide)) (C _ (by decide)) (C _ (by decide)) (C _ (by decide)) (C _ (by decide)) (D _ _ (by decide)) (C _ (by decide)) (fun a _ _ => C _ (by omega))⟩, v5.cg (D _ _ (by decide)) (K _ (by decide)) (fun a _ _ => C _ (by omega)) (C _ (by decide)) (D _ _ (by decide)) (C _ (by decide)), m, v6.cg (K _ (by decide)) (fun a _ _ => C _ (by omega)) (C _ (by decide))⟩
section TX
variable {S : XS} {c : Nat × Nat} {n k L : Nat}
def putL (S : XS) (k L : Nat) : XS := wA (wA (wA S (19 + k) (va_cpy (S.1 1) (S.1 (19 + k)) 0 0 L)) 17 (upd (S.1 17) k (nI L))) 16 (upd (S.1 16) 3 (nI (k + 1)))
def putG (S : XS) (k L : Nat) : XS := wA (wA (wA S (26 + k) (va_cpy (S.1 15) (S.1 (26 + k)) 0 0 L)) 24 (upd (S.1 24) k (nI L))) 23 (upd (S.1 23) 3 (nI (k + 1)))
theorem s19s {i : Nat} (hi : i < 4) : sh (19 + i) = some (.inl (0, 240, 0, 0)) := by
  rcases (by omega : i = 0 ∨ i = 1 ∨ i = 2 ∨ i = 3) with rfl | rfl | rfl | rfl
  · exact s19
  · exact s20
  · exact s21
  · exact s22
theorem s26s {i : Nat} (hi : i < 4) : sh (26 + i) = some (.inl (0, 16, 0, 0)) := by
  rcases (by omega : i = 0 ∨ i = 1 ∨ i = 2 ∨ i = 3) with rfl | rfl | rfl | rfl
  · exact s26
  · exact s27
  · exact s28
  · exact s29
theorem X5_putL (h3 : S.1 16 3 = nI k) (h2 : S.1 16 2 = nI 240) (hk : k < 4) (hL : L ≤ 240) : f_X5_put (hp S c) 16 1 (nI L) = some (nI k, hp (putL S k L) c) := by
  unfold f_X5_put
  rw [k16, Option.bind_some, g16_3, Option.bind_some, h3, if_neg (by rw [show (4 : Int32) = nI 4 from rfl]; exact nI_ge hk (by decide)), if_neg (nI_nneg (by omega)), g16_2, Option.bind_some, h2, if_neg (nI_nlt (by omega) (by omega)), n1, Option.bind_some, if_pos (nI_le hL (by decide)), g16_0, Option.bind_some, Option.bind_some, a18 hk, Option.bind_some, show 19 + 1 * k = 19 + k by omega, show (0 : Int32) = nI 0 from rfl, cpI_hp s1 (s19s hk) (by omega) (by omega) (by decide) (by decide), Option.bind_some, g16_1, Option.bind_some, g16_3, Option.bind_some, wA_ne (show 16 ≠ 19 + k by omega), h3, q17 hk, Option.bind_some, wA_ne (show 17 ≠ 19 + k by omega), g16_3, Option.bind_some, wA_ne (show 16 ≠ 17 by decide), wA_ne (show 16 ≠ 19 + k by omega), h3, nI_1, p16_3, Option.bind_some, g16_3, Option.bind_some, wA_same, upd_same, nI_prd (by omega)]
  unfold putL
  rw [wA_ne (show 16 ≠ 17 by decide), wA_ne (show 16 ≠ 19 + k by omega)]
  rfl
theorem X5_putLn (h3 : S.1 16 3 = nI 4) : f_X5_put (hp S c) 16 1 (nI L) = some (-1, hp S c) := by
  unfold f_X5_put
  rw [k16, Option.bind_some, g16_3, Option.bind_some, h3, if_pos (by decide)]
theorem X5_putG (h3 : S.1 23 3 = nI k) (h2 : S.1 23 2 = nI 16) (hk : k < 4) (hL : L ≤ 16) : f_X5_put (hp S c) 23 15 (nI L) = some (nI k, hp (putG S k L) c) := by
  unfold f_X5_put
  rw [k23, Option.bind_some, g23_3, Option.bind_some, h3, if_neg (by rw [show (4 : Int32) = nI 4 from rfl]; exact nI_ge hk (by decide)), if_neg (nI_nneg (by omega)), g23_2, Option.bind_some, h2, if_neg (nI_nlt (by omega) (by omega)), n15, Option.bind_some, if_pos (nI_le hL (by decide)), g23_0, Option.bind_some, Option.bind_some, a25 hk, Option.bind_some, show 26 + 1 * k = 26 + k by omega, show (0 : Int32) = nI 0 from rfl, cpI_hp s15 (s26s hk) (by omega) (by omega) (by decide) (by decide), Option.bind_some, g23_1, Option.bind_some, g23_3, Option.bind_some, wA_ne (show 23 ≠ 26 + k by omega), h3, q24 hk, Option.bind_some, wA_ne (show 24 ≠ 26 + k by omega), g23_3, Option.bind_some, wA_ne (show 23 ≠ 24 by decide), wA_ne (show 23 ≠ 26 + k by omega), h3, nI_1, p23_3, Option.bind_some, g23_3, Option.bind_some, wA_same, upd_same, nI_prd (by omega)]
  unfold putG
  rw [wA_ne (show 23 ≠ 24 by decide), wA_ne (show 23 ≠ 26 + k by omega)]
  rfl
theorem X5_putGn (h3 : S.1 23 3 = nI 4) : f_X5_put (hp S c) 23 15 (nI L) = some (-1, hp S c) := by
  unfold f_X5_put
  rw [k23, Option.bind_some, g23_3, Option.bind_some, h3, if_pos (by decide)]
theorem ix240 (a c : Nat) : (240 : Int32) * nI a + nI c = nI (240 * a + c) := by
  rw [show (240 : Int32) = nI 240 from rfl, pk_mul, nI_add]
/-- the reference's texts with the tape at one's place -/
def txF (S : XS) (k j : Nat) : Nat → Int32 := fun i => if 240 * k ≤ i ∧ i < 240 * k + j then vp_nar .byte (S.1 352 (i - 240 * k)) else S.1 353 i
theorem rt_law (h7 : S.1 351 7 = nI k) (hk : k < 4) (hL : L ≤ 240) : f_X12_text_b71 1048576 (hp S c) 351 (nI L) 0 = some (nI k, hp (wA (wA (wA S 353 (txF S k L)) 354 (upd (S.1 354) k (nI L))) 351 (upd (S.1 351) 7 (nI (k + 1)))) c) := by
  have h0 : S = wA S 353 (txF S k 0) := by
    have : txF S k 0 = S.1 353 := funext fun i => if_neg (by omega)
    rw [this, wA_self]
  have l0 : f_X12_text_b71 1048576 (hp (wA S 353 (txF S k 0)) c) 351 (nI L) (nI 0) = some (nI k, hp (wA (wA (wA S 353 (txF S k L)) 354 (upd (S.1 354) k (nI L))) 351 (upd (S.1 351) 7 (nI (k + 1)))) c) := by
    refine lp (N := L) (fun n i => f_X12_text_b71 n (hp (wA S 353 (txF S k i)) c) 351 (nI L) (nI i)) (fun n => ?_) (fun n i hi => ?_) L 0 1048576 (by omega) (by omega)
    · show f_X12_text_b71 (n + 1) _ 351 (nI L) (nI L) = _
      rw [f_X12_text_b71, if_pos (nI_le (Nat.le_refl _) (by omega)), g351_3, Option.bind_some, g351_7, Option.bind_some, wA_ne (show 351 ≠ 353 by decide), h7, q354 hk, Option.bind_some, g351_7, Option.bind_some, wA_ne (show 351 ≠ 354 by decide), wA_ne (show 351 ≠ 353 by decide), h7, nI_1, p351_7, Option.bind_some, g351_7, Option.bind_some, wA_same, upd_same, nI_prd (by omega), wA_ne (show 351 ≠ 354 by decide), wA_ne (show 351 ≠ 353 by decide), wA_ne (show 354 ≠ 353 by decide)]
      rfl
    · show f_X12_text_b71 (n + 1) _ 351 (nI L) (nI i) = _
      rw [f_X12_text_b71, if_neg (nI_ge hi (by omega)), g351_2, Option.bind_some, g351_7, Option.bind_some, wA_ne (show 351 ≠ 353 by decide), h7, g351_1, Option.bind_some, a352 (by omega), Option.bind_some, ix240, q353 (by omega), Option.bind_some, nI_1, wA_wA, wA_same, wA_ne (show 352 ≠ 353 by decide)]
      have : upd (txF S k i) (240 * k + i) (vp_nar .byte (S.1 352 i)) = txF S k (i + 1) := by
        funext j
        unfold upd txF
        by_cases e : j = 240 * k + i
        · rw [if_pos e, if_pos (by omega), show j - 240 * k = i by omega]
        · rw [if_neg e]
          by_cases e2 : 240 * k ≤ j ∧ j < 240 * k + i
          · rw [if_pos e2, if_pos (by omega)]
          · rw [if_neg e2, if_neg (by omega)]
      rw [this]
  rw [← h0] at l0
  exact l0
end TX
