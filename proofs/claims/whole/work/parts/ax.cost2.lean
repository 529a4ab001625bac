/-! what it costs, in the reference -/
section COR
variable {S : XS} {c : Nat × Nat} {N x l L : Nat} {q : Int32} {T : Nat → Int32}
theorem i358 {k : Nat} : (3 : Int32) * nI k + 1 = nI (3 * k + 1) := by
  rw [show (3 : Int32) = nI 3 from rfl, show (1 : Int32) = nI 1 from rfl, pk_mul, nI_add]
theorem i240 {k : Nat} : (240 : Int32) * nI k = nI (240 * k) := by
  rw [show (240 : Int32) = nI 240 from rfl, pk_mul]
theorem i42 {k : Nat} : (42 : Int32) + nI k = nI (42 + k) := by
  rw [show (42 : Int32) = nI 42 from rfl, nI_add]
theorem i36 {k : Nat} : (36 : Int32) + nI k = nI (36 + k) := by
  rw [show (36 : Int32) = nI 36 from rfl, nI_add]
theorem rlfU {f : Nat → Int32} : ∀ k, k < 6 → upd (upd (upd (upd (upd (upd f 105 (sIn (S.1 364) x N)) 111 (sOut (S.1 364) x N)) 116 (S.1 358 (3 * x + 1))) 110 (irem (S.1 364 (42 + x)) 100)) 119 (irem (S.1 364 (36 + x)) 100)) 100 (irem (S.1 364 50) 100) (ltc k) = rlf S N x k := fun k hk => by
  rcases (by omega : k = 0 ∨ k = 1 ∨ k = 2 ∨ k = 3 ∨ k = 4 ∨ k = 5) with rfl | rfl | rfl | rfl | rfl | rfl <;> rfl
theorem ltc_5 {j : Nat} : ∃ k, k < 6 ∧ ltc j = ltc k := by
  by_cases h : j < 6
  · exact ⟨j, h, rfl⟩
  · refine ⟨5, by decide, ?_⟩
    unfold ltc
    rw [if_neg (by omega), if_neg (by omega), if_neg (by omega), if_neg (by omega), if_neg (by omega)]
    rfl
theorem r_cost (hN : S.1 351 26 = nI N) (h6 : N ≤ 6) (hx : x < N) (hq : S.1 351 35 = q) (hl : q = -1 ∨ (q = nI l ∧ l < 4 ∧ S.1 354 l = nI L ∧ L ≤ 240 ∧ (∀ k, k < L → byR (T k) (S.1 353 (240 * l + k))) ∧ ∃ g, pLaw T L = .inr g)) (hs : ∀ j, j < 6 → smal (rlf S N x j)) : ∃ S', f_X12_cost (hp S c) 351 (nI x) = some (CV q T L (rlf S N x), hp S' c) ∧ (∀ a, a ≠ 351 → a ≠ 355 → S'.1 a = S.1 a) ∧ (∀ k, lk k = false → S'.1 351 k = S.1 351 k) ∧ (S'.1 355 = S.1 355 ∨ ∀ k, k < 6 → S'.1 355 (ltc k) = rlf S N x k) := by
  have hx6 : x < 6 := by omega
  rcases hl with e | ⟨e, hl4, h17, hL, hT, g, hg⟩
  · refine ⟨S, ?_, fun _ _ _ => rfl, fun _ _ => rfl, Or.inl rfl⟩
    unfold f_X12_cost
    rw [k351, Option.bind_some, g351_35, Option.bind_some, hq, e, if_pos rfl]
    rfl
  · obtain ⟨W, hW⟩ : ∃ W, W = wA S 355 (upd (upd (upd (upd (upd (upd (S.1 355) 105 (sIn (S.1 364) x N)) 111 (sOut (S.1 364) x N)) 116 (S.1 358 (3 * x + 1))) 110 (irem (S.1 364 (42 + x)) 100)) 119 (irem (S.1 364 (36 + x)) 100)) 100 (irem (S.1 364 50) 100)) := ⟨_, rfl⟩
    have W355 : ∀ k, k < 6 → W.1 355 (ltc k) = rlf S N x k := fun k hk => by
      rw [hW, wA_same]
      exact rlfU k hk
    have Wo : ∀ a, a ≠ 355 → W.1 a = S.1 a := fun a ha => by rw [hW, wA_ne ha]
    have hlt : ltS W := fun j => by
      unfold lt
      obtain ⟨k, hk, ek⟩ := ltc_5 (j := j)
      rw [ek, W355 k hk]
      exact hs k hk
    have h := X12_go (S := W) (c := c) (T := T) (tb := 353) (bg := 240 * l) hL s353 (by omega) (by decide) (by decide) hlt (fun k hk => by rw [Wo 353 (by decide)]; exact hT k hk)
    rw [hg] at h
    obtain ⟨F, h1, -, h2, h3⟩ := h
    have eg : g (lt (wT W 351 353)) = g (rlf S N x) := pLaw_dp hg _ _ (fun k hk => by
      show W.1 355 (ltc k) = _
      exact W355 k hk)
    rw [eg] at h2
    refine ⟨wA (wT W 351 353) 351 F, ?_, fun a h1 h2 => ?_, fun k hk => ?_, Or.inr fun k hk => ?_⟩
    · have n26 : ∀ f, (wA S 355 f).1 351 26 = nI N := fun f => by rw [wA_ne (by decide)]; exact hN
      have oo : ∀ f, f_X12_out (hp (wA S 355 f) c) 351 364 (nI x) = some (sOut (S.1 364) x N) := fun f => by rw [r_out (Or.inl rfl) (n26 f) h6 hx6, wA_ne (by decide)]
      have e58 : ∀ f, aI (hp (wA S 355 f) c) 358 (nI (3 * x + 1)) = some (S.1 358 (3 * x + 1)) := fun f => by rw [a358 (by omega), wA_ne (by decide)]
      have e42 : ∀ f, aI (hp (wA S 355 f) c) 364 (nI (42 + x)) = some (S.1 364 (42 + x)) := fun f => by rw [a364 (by omega), wA_ne (by decide)]
      have e36 : ∀ f, aI (hp (wA S 355 f) c) 364 (nI (36 + x)) = some (S.1 364 (36 + x)) := fun f => by rw [a364 (by omega), wA_ne (by decide)]
      have e50 : ∀ f, aI (hp (wA S 355 f) c) 364 (50 : Int32) = some (S.1 364 50) := fun f => by rw [a364n (j := 50) (k := 50) rfl (by decide), wA_ne (by decide)]
      unfold f_X12_cost
      rw [k351, Option.bind_some, g351_35, Option.bind_some, hq, e, if_neg (m1_ne (by omega)), g351_4, Option.bind_some, g351_32, Option.bind_some, r_in (Or.inl rfl) hN h6 hx6, Option.bind_some, q355n (j := 105) (k := 105) rfl (by decide), Option.bind_some, g351_4, Option.bind_some, g351_32, Option.bind_some, oo, Option.bind_some, q355n (j := 111) (k := 111) rfl (by decide), Option.bind_some, wA_wA, wA_same, g351_4, Option.bind_some, g351_20, Option.bind_some, i358, e58, Option.bind_some, q355n (j := 116) (k := 116) rfl (by decide), Option.bind_some, wA_wA, wA_same, g351_4, Option.bind_some, g351_32, Option.bind_some, i42, e42, Option.bind_some, q355n (j := 110) (k := 110) rfl (by decide), Option.bind_some, wA_wA, wA_same, g351_4, Option.bind_some, g351_32, Option.bind_some, i36, e36, Option.bind_some, q355n (j := 119) (k := 119) rfl (by decide), Option.bind_some, wA_wA, wA_same, g351_4, Option.bind_some, g351_32, Option.bind_some, e50, Option.bind_some, q355n (j := 100) (k := 100) rfl (by decide), Option.bind_some, wA_wA, wA_same, ← hW, g351_2, Option.bind_some, g351_35, Option.bind_some, Wo 351 (by decide), hq, e, g351_3, Option.bind_some, Option.bind_some, a354 hl4, Option.bind_some, Wo 354 (by decide), h17, i240, h1, Option.bind_some, g351_14, Option.bind_some, wA_same, h2]
      unfold CV
      rw [if_neg (m1_ne (by omega)), hg]
    · rw [wA_ne h1, wT_1, Wo a h2]
    · rw [wA_same, h3 k hk, wT_1, Wo 351 (by decide)]
    · rw [wA_ne (by decide), wT_1]
      exact W355 k hk
end COR
