/-! TEXT: a song -/
section TX4
def sgT (S : XS) (k j : Nat) : Nat → Int32 := fun i => if 16 * k ≤ i ∧ i < 16 * k + j then S.1 362 (64 + (i - 16 * k)) else S.1 362 i
variable {S : XS} {c : Nat × Nat} {n k L : Nat} {p p' : PJ}
theorem rt_song (h7 : S.1 351 30 = nI k) (hk : k < 4) : f_X12_text_b137 1048576 (hp S c) 351 0 = some (nI k, hp (wA (wA (wA S 362 (sgT S k 16)) 363 (upd (S.1 363) k (S.1 363 4))) 351 (upd (S.1 351) 30 (nI (k + 1)))) c) := by
  have h0 : S = wA S 362 (sgT S k 0) := by
    have : sgT S k 0 = S.1 362 := funext fun i => if_neg (by omega)
    rw [this, wA_self]
  have l0 : f_X12_text_b137 1048576 (hp (wA S 362 (sgT S k 0)) c) 351 (nI 0) = some (nI k, hp (wA (wA (wA S 362 (sgT S k 16)) 363 (upd (S.1 363) k (S.1 363 4))) 351 (upd (S.1 351) 30 (nI (k + 1)))) c) := by
    refine lp (N := 16) (fun n i => f_X12_text_b137 n (hp (wA S 362 (sgT S k i)) c) 351 (nI i)) (fun n => ?_) (fun n i hi => ?_) 16 0 1048576 (by omega) (by omega)
    · show f_X12_text_b137 (n + 1) _ 351 (nI 16) = _
      rw [f_X12_text_b137, if_pos (by decide), g351_25, Option.bind_some, g351_30, Option.bind_some, wA_ne (show 351 ≠ 362 by decide), h7, Option.bind_some, show (4 : Int32) = nI 4 from rfl, a363 (by decide), Option.bind_some, q363 (by omega), Option.bind_some, wA_ne (show 363 ≠ 362 by decide), g351_30, Option.bind_some, wA_ne (show 351 ≠ 363 by decide), wA_ne (show 351 ≠ 362 by decide), h7, nI_1, p351_30, Option.bind_some, g351_30, Option.bind_some, wA_same, upd_same, nI_prd (by omega), wA_ne (show 351 ≠ 363 by decide), wA_ne (show 351 ≠ 362 by decide)]
      rfl
    · show f_X12_text_b137 (n + 1) _ 351 (nI i) = _
      rw [f_X12_text_b137, if_neg (by rw [show (16 : Int32) = nI 16 from rfl]; exact nI_ge hi (by decide)), g351_24, Option.bind_some, g351_30, Option.bind_some, wA_ne (show 351 ≠ 362 by decide), h7, Option.bind_some, show (64 : Int32) = nI 64 from rfl, nI_add, a362 (by omega), Option.bind_some, ix16, q362 (by omega), Option.bind_some, nI_1, wA_wA, wA_same]
      have : upd (sgT S k i) (16 * k + i) (sgT S k i (64 + i)) = sgT S k (i + 1) := by
        funext j
        unfold upd sgT
        by_cases e : j = 16 * k + i
        · rw [if_pos e, if_neg (by omega), if_pos (by omega), show j - 16 * k = i by omega]
        · rw [if_neg e]
          by_cases e2 : 16 * k ≤ j ∧ j < 16 * k + i
          · rw [if_pos e2, if_pos (by omega)]
          · rw [if_neg e2, if_neg (by omega)]
      rw [this]
  rw [← h0] at l0
  exact l0
theorem RR_putsong {sl : Nat → Nat} {dg : Nat → Nat → Nat} {D : Nat → Nat} (R : RR n p) (l : Rsongs p k sl dg) (hk : k < 4) (hL1 : 1 ≤ L) (hL2 : L ≤ 16) (hD : ∀ j, j < L → D j < 10) (C : ∀ a, a ≠ 0 → a ≠ 23 → a ≠ 24 → a ≠ 26 + k → a ≠ 351 → a ≠ 362 → a ≠ 363 → p' a = p a) (z0 : ∀ j, j ≠ 16 → p' 0 j = p 0 j) (z16 : p' 0 16 = nI 0) (y2 : p' 23 2 = p 23 2) (y3 : p' 23 3 = nI (k + 1)) (x24 : p' 24 = upd (p 24) k (nI L)) (x26 : ∀ j, j < L → p' (26 + k) j = nI (D j)) (K : ∀ j, j ≠ 6 → j ≠ 30 → p' 351 j = p 351 j) (K6 : p' 351 6 = nI 0) (K30 : p' 351 30 = nI (k + 1)) (x362 : ∀ i, i < 64 → (16 * k ≤ i → i < 16 * k + L → p' 362 i = nI (D (i - 16 * k))) ∧ (i < 16 * k → p' 362 i = p 362 i)) (x363 : ∀ i, i < 4 → p' 363 i = if i = k then nI L else p 363 i) : RR (n + 1) p' := by
  obtain ⟨R1, -, -, ⟨nl, ll, l1⟩, mi⟩ := R
  have E : ∀ a j, a ≠ 0 → a ≠ 23 → a ≠ 24 → a ≠ 26 + k → a ≠ 351 → a ≠ 362 → a ≠ 363 → p' a j = p a j := fun a j h1 h2 h3 h4 h5 h6 h7 => congrFun (C a h1 h2 h3 h4 h5 h6 h7) j
  refine RR.mono (n := n) ⟨RV.cg R1 (fun a h => C a (by omega) (by omega) (by omega) (by omega) (by omega) (by omega) (by omega)) (fun j h => K j (by omega) (by omega)), ⟨0, by decide, z16, K6, fun j hj => by omega⟩, ⟨k + 1, llU sl k L, fun i => if i = k then D else dg i, ?_⟩, ⟨nl, ll, l1.cg (C _ (by omega) (by omega) (by omega) (by omega) (by omega) (by omega) (by omega)) (C _ (by omega) (by omega) (by omega) (by omega) (by omega) (by omega) (by omega)) (K _ (by decide) (by decide)) (z0 _ (by decide)) (K _ (by decide) (by decide)) (C _ (by omega) (by omega) (by omega) (by omega) (by omega) (by omega) (by omega)) (C _ (by omega) (by omega) (by omega) (by omega) (by omega) (by omega) (by omega)) (fun a _ _ => C _ (by omega) (by omega) (by omega) (by omega) (by omega) (by omega) (by omega))⟩, mi.cg (z0 _ (by decide)) (K _ (by decide) (by decide)) (C _ (by omega) (by omega) (by omega) (by omega) (by omega) (by omega) (by omega)) (C _ (by omega) (by omega) (by omega) (by omega) (by omega) (by omega) (by omega)) (C _ (by omega) (by omega) (by omega) (by omega) (by omega) (by omega) (by omega)) (C _ (by omega) (by omega) (by omega) (by omega) (by omega) (by omega) (by omega)) (C _ (by omega) (by omega) (by omega) (by omega) (by omega) (by omega) (by omega)) (C _ (by omega) (by omega) (by omega) (by omega) (by omega) (by omega) (by omega))⟩ (by omega)
  obtain ⟨s1, s2, s3, s4, s5⟩ := l
  refine ⟨by omega, y3, by rw [y2]; exact s3, K30, fun i hi => ?_⟩
  by_cases e : i = k
  · subst e
    refine ⟨by rw [llU_s]; exact hL1, by rw [llU_s]; exact hL2, by rw [x24, upd_same, llU_s], by rw [x363 i (by omega), if_pos rfl, llU_s], fun j hj => ?_⟩
    rw [llU_s] at hj
    show (if i = i then D else dg i) j < 10 ∧ _ = nI ((if i = i then D else dg i) j) ∧ _ = nI ((if i = i then D else dg i) j)
    rw [if_pos rfl]
    refine ⟨hD j hj, x26 j hj, ?_⟩
    rw [(x362 (16 * i + j) (by omega)).1 (by omega) (by omega), show 16 * i + j - 16 * i = j by omega]
  · obtain ⟨m1, m2, m3, m4, m5⟩ := s5 i (by omega)
    refine ⟨by rw [llU_n e]; exact m1, by rw [llU_n e]; exact m2, by rw [x24, upd_ne e, llU_n e]; exact m3, by rw [x363 i (by omega), if_neg e, llU_n e]; exact m4, fun j hj => ?_⟩
    rw [llU_n e] at hj
    show (if i = k then D else dg i) j < 10 ∧ _ = nI ((if i = k then D else dg i) j) ∧ _ = nI ((if i = k then D else dg i) j)
    rw [if_neg e, E (26 + i) j (by omega) (by omega) (by omega) (by omega) (by omega) (by omega) (by omega), (x362 (16 * i + j) (by omega)).2 (by omega)]
    exact m5 j hj
theorem pc26 {i : Nat} (hi : i < 4) : pj S (26 + i) = S.1 (26 + i) := by
  rcases (by omega : i = 0 ∨ i = 1 ∨ i = 2 ∨ i = 3) with rfl | rfl | rfl | rfl <;> exact pj_cell fun _ => rfl
end TX4
