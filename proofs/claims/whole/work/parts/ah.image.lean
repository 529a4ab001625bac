/-! IMAGE -/
theorem lgR_congr {w f r row w' f' r' row' : Nat → Int32} {cr : Nat} (h : lgR w f r row cr) (h1 : ∀ k, k < 128 → w' k = w k) (h2 : ∀ k, k < 128 → f' k = f k) (h3 : ∀ k, k < 128 → r' k = r k) (h4 : ∀ i, i < 232 → row' i = row i) : lgR w' f' r' row' cr := by
  obtain ⟨a, b, d, e⟩ := h
  have hm : min cr 60 ≤ 60 := Nat.min_le_right _ _
  refine ⟨by rw [h4 _ (by decide)]; exact a, b, by rw [h4 _ (by decide)]; exact d, fun i hi => ?_⟩
  have hmod : (cr - i) % 128 < 128 := Nat.mod_lt _ (by decide)
  rw [h4 _ (by omega), h4 _ (by omega), h4 _ (by omega), h1 _ hmod, h2 _ hmod, h3 _ hmod]
  exact e i hi
theorem Rmem.cg2 {p p' : PJ} {N A q : Nat} {cr : Nat → Nat} (h : Rmem p N A q cr) (h0 : p' 351 40 = p 351 40) (h13 : p' 49 3 = p 49 3) (h14 : p' 49 4 = p 49 4) (h2 : p' 46 = p 46) (h3 : p' 47 = p 47) (h4 : p' 48 = p 48) (h5 : p' 364 = p 364) (h6 : p' 369 = p 369) (h7 : p' 356 1 = p 356 1) (h8 : p' 358 = p 358) (h9 : ∀ a, 60 ≤ a → a < 260 → p' a = p a) : Rmem p' N A q cr := by
  unfold Rmem at h ⊢
  rw [h0, h13, h14, h2, h3, h4, h5, h6, h7]
  obtain ⟨a1, a2, a3, a4, a5, a6, a7⟩ := h
  refine ⟨a1, a2, a3, a4, a5, a6, fun i hi => ?_⟩
  obtain ⟨b1, b2, b3, b4, b5⟩ := a7 i hi
  have := mb_lt (q := q) (A := A) (i := i)
  exact ⟨b1, b2, b3.cg (h9 _ (by omega) (by omega)) (h9 _ (by omega) (by omega)) h7 h8, b4.cg (h9 _ (by omega) (by omega)) (h9 _ (by omega) (by omega)) (h9 _ (by omega) (by omega)) (h9 _ (by omega) (by omega)), b5⟩
section IM
variable {S : XS} {c : Nat × Nat} {n : Nat}
/-- a chronicle has become another -/
def cpC (S' : XS) (a : Nat) (S : XS) (b : Nat) : Prop := ∀ k, k < 128 → S'.1 (a + 1) k = S.1 (b + 1) k ∧ S'.1 (a + 2) k = S.1 (b + 2) k ∧ S'.1 (a + 3) k = S.1 (b + 3) k
theorem X1_becomeI : ∃ S', f_X1_become (hp S c) 56 45 = some (hp S' c) ∧ cpC S' 56 S 45 ∧ fr 57 59 S' S := by
  unfold f_X1_become
  rw [k56, Option.bind_some, g45_0, Option.bind_some, g56_0, Option.bind_some, show (0 : Int32) = nI 0 from rfl, show (128 : Int32) = nI 128 from rfl, cpI_hp s46 s57 (by decide) (by decide) (by decide) (by decide), Option.bind_some, g45_1, Option.bind_some, g56_1, Option.bind_some, cpI_hp s47 s58 (by decide) (by decide) (by decide) (by decide), Option.bind_some, g45_2, Option.bind_some, g56_2, Option.bind_some, cpI_hp s48 s59 (by decide) (by decide) (by decide) (by decide), Option.bind_some]
  refine ⟨_, rfl, fun k hk => ⟨?_, ?_, ?_⟩, fun a ha => ?_, rfl⟩
  · rw [wA_ne (by decide), wA_ne (by decide), wA_same, cpy0 hk]
  · rw [wA_ne (by decide), wA_same, cpy0 hk, wA_ne (by decide)]
  · rw [wA_same, cpy0 hk, wA_ne (by decide), wA_ne (by decide)]
  · rw [wA_ne (by omega), wA_ne (by omega), wA_ne (by omega)]
theorem X1_becomeB : ∃ S', f_X1_become (hp S c) 45 56 = some (hp S' c) ∧ cpC S' 45 S 56 ∧ fr 46 48 S' S := by
  unfold f_X1_become
  rw [k45, Option.bind_some, g56_0, Option.bind_some, g45_0, Option.bind_some, show (0 : Int32) = nI 0 from rfl, show (128 : Int32) = nI 128 from rfl, cpI_hp s57 s46 (by decide) (by decide) (by decide) (by decide), Option.bind_some, g56_1, Option.bind_some, g45_1, Option.bind_some, cpI_hp s58 s47 (by decide) (by decide) (by decide) (by decide), Option.bind_some, g56_2, Option.bind_some, g45_2, Option.bind_some, cpI_hp s59 s48 (by decide) (by decide) (by decide) (by decide), Option.bind_some]
  refine ⟨_, rfl, fun k hk => ⟨?_, ?_, ?_⟩, fun a ha => ?_, rfl⟩
  · rw [wA_ne (by decide), wA_ne (by decide), wA_same, cpy0 hk]
  · rw [wA_ne (by decide), wA_same, cpy0 hk, wA_ne (by decide)]
  · rw [wA_same, cpy0 hk, wA_ne (by decide), wA_ne (by decide)]
  · rw [wA_ne (by omega), wA_ne (by omega), wA_ne (by omega)]
theorem B51 : isB 51 := isBd_of _ (by decide +kernel)
theorem r_image : f_X12_image_b16 1048576 (hp S c) 351 0 = some (S.1 364 50, hp (wA (wA S 377 (cpR (S.1 364) (S.1 377) 232)) 351 (upd (S.1 351) 56 1)) c) := by
  have h0 : S = wA S 377 (cpR (S.1 364) (S.1 377) 0) := by rw [cpR_0, wA_self]
  have l0 : f_X12_image_b16 1048576 (hp (wA S 377 (cpR (S.1 364) (S.1 377) 0)) c) 351 (nI 0) = some (S.1 364 50, hp (wA (wA S 377 (cpR (S.1 364) (S.1 377) 232)) 351 (upd (S.1 351) 56 1)) c) := by
    refine lp (N := 232) (fun n k => f_X12_image_b16 n (hp (wA S 377 (cpR (S.1 364) (S.1 377) k)) c) 351 (nI k)) (fun n => ?_) (fun n k hk => ?_) 232 0 1048576 (by omega) (by omega)
    · show f_X12_image_b16 (n + 1) _ 351 (nI 232) = _
      rw [f_X12_image_b16, if_pos (by decide), p351_56, Option.bind_some, g351_32, Option.bind_some, show (50 : Int32) = nI 50 from rfl, a364 (by decide), Option.bind_some, wA_ne (by decide), wA_ne (by decide), wA_ne (by decide)]
    · show f_X12_image_b16 (n + 1) _ 351 (nI k) = _
      rw [f_X12_image_b16, if_neg (by rw [show (232 : Int32) = nI 232 from rfl]; exact nI_ge hk (by decide)), g351_55, Option.bind_some, g351_32, Option.bind_some, a364 hk, Option.bind_some, q377 hk, Option.bind_some, nI_1, wA_wA, wA_same, wA_ne (show (364 : Nat) ≠ 377 by decide), cpR_step]
  rw [← h0] at l0
  exact l0
theorem RR_image {p p' : PJ} (R : RR n p) (C : ∀ a, a ≠ 49 → a < 51 ∨ 59 < a → a ≠ 351 → a ≠ 377 → p' a = p a) (y : ∀ j, j ≠ 5 → p' 49 j = p 49 j) (y5 : p' 49 5 = 1) (K : ∀ j, j ≠ 56 → p' 351 j = p 351 j) (K56 : p' 351 56 = 1) (b1 : ∀ k, k < 36 → p' 52 k = p 31 k) (b2 : ∀ k, k < 6 → p' 53 k = p 32 k) (b3 : ∀ k, k < 6 → p' 54 k = p 33 k) (b4 : ∀ k, k < 6 → p' 55 k = p 34 k) (b5 : ∀ k, 4 ≤ k → k < 9 → p' 51 k = p 30 k) (cc : ∀ k, k < 128 → p' 57 k = p 46 k ∧ p' 58 k = p 47 k ∧ p' 59 k = p 48 k) (x : ∀ i, i < 232 → p' 377 i = p 364 i) : RR (n + 1) p' := by
  obtain ⟨⟨N, F, v1, v2, v3, ⟨A, q, cr, v4⟩, v5, m, v6⟩, ⟨tl, t1⟩, ⟨ns, sl, dg, s1⟩, ⟨nl, ll, l1⟩, mi⟩ := R
  have D : ∀ a j, a ≠ 49 → a < 51 ∨ 59 < a → a ≠ 351 → a ≠ 377 → p' a j = p a j := fun a j h1 h2 h3 h4 => congrFun (C a h1 h2 h3 h4) j
  refine RR.mono (n := n) ⟨⟨N, F, v1.cg (K _ (by decide)) (K _ (by decide)) (D _ _ (by decide) (by decide) (by decide) (by decide)) (C _ (by decide) (by decide) (by decide) (by decide)) (C _ (by decide) (by decide) (by decide) (by decide)), v2.cg (C _ (by decide) (by decide) (by decide) (by decide)) (C _ (by decide) (by decide) (by decide) (by decide)) (C _ (by decide) (by decide) (by decide) (by decide)) (C _ (by decide) (by decide) (by decide) (by decide)) (C _ (by decide) (by decide) (by decide) (by decide)) (C _ (by decide) (by decide) (by decide) (by decide)) (D _ _ (by decide) (by decide) (by decide) (by decide)) (C _ (by decide) (by decide) (by decide) (by decide)), v3.cg (C _ (by decide) (by decide) (by decide) (by decide)) (C _ (by decide) (by decide) (by decide) (by decide)) (C _ (by decide) (by decide) (by decide) (by decide)) (C _ (by decide) (by decide) (by decide) (by decide)) (C _ (by decide) (by decide) (by decide) (by decide)) (C _ (by decide) (by decide) (by decide) (by decide)) (C _ (by decide) (by decide) (by decide) (by decide)) (C _ (by decide) (by decide) (by decide) (by decide)), ⟨A, q, cr, v4.cg2 (K _ (by decide)) (y _ (by decide)) (y _ (by decide)) (C _ (by decide) (by decide) (by decide) (by decide)) (C _ (by decide) (by decide) (by decide) (by decide)) (C _ (by decide) (by decide) (by decide) (by decide)) (C _ (by decide) (by decide) (by decide) (by decide)) (C _ (by decide) (by decide) (by decide) (by decide)) (D _ _ (by decide) (by decide) (by decide) (by decide)) (C _ (by decide) (by decide) (by decide) (by decide)) (fun a _ _ => C _ (by omega) (by omega) (by omega) (by omega))⟩, ?_, m, v6.cg (K _ (by decide)) (fun a _ _ => C _ (by omega) (by omega) (by omega) (by omega)) (C _ (by decide) (by decide) (by decide) (by decide))⟩, ⟨tl, t1.cg (D _ _ (by decide) (by decide) (by decide) (by decide)) (K _ (by decide)) (C _ (by decide) (by decide) (by decide) (by decide)) (C _ (by decide) (by decide) (by decide) (by decide))⟩, ⟨ns, sl, dg, s1.cg (C _ (by decide) (by decide) (by decide) (by decide)) (K _ (by decide)) (C _ (by decide) (by decide) (by decide) (by decide)) (fun j _ => D _ _ (by decide) (by decide) (by decide) (by decide)) (fun a _ _ => C _ (by omega) (by omega) (by omega) (by omega)) (fun j _ => D _ _ (by decide) (by decide) (by decide) (by decide))⟩, ⟨nl, ll, l1.cg (C _ (by decide) (by decide) (by decide) (by decide)) (C _ (by decide) (by decide) (by decide) (by decide)) (K _ (by decide)) (D _ _ (by decide) (by decide) (by decide) (by decide)) (K _ (by decide)) (C _ (by decide) (by decide) (by decide) (by decide)) (C _ (by decide) (by decide) (by decide) (by decide)) (fun a _ _ => C _ (by omega) (by omega) (by omega) (by omega))⟩, mi.cg (D _ _ (by decide) (by decide) (by decide) (by decide)) (K _ (by decide)) (C _ (by decide) (by decide) (by decide) (by decide)) (C _ (by decide) (by decide) (by decide) (by decide)) (C _ (by decide) (by decide) (by decide) (by decide)) (C _ (by decide) (by decide) (by decide) (by decide)) (C _ (by decide) (by decide) (by decide) (by decide)) (C _ (by decide) (by decide) (by decide) (by decide))⟩ (by omega)
  obtain ⟨⟨k1, k2, k3⟩, ⟨r1, r2, r3, r4, r5, r6⟩, ok⟩ := v2
  have h6 := v1.2.1
  refine Or.inr ⟨y5, K56, ⟨?_, ?_, fun k hk => ?_⟩, ⟨fun k hk => ?_, fun k hk => ?_, fun k hk => ?_, ?_, ?_, ?_⟩, ?_, cr A, ?_⟩
  · rw [b5 4 (by decide) (by decide)]; exact k1
  · rw [b5 5 (by decide) (by decide), D 356 1 (by decide) (by decide) (by decide) (by decide)]; exact k2
  · rw [b3 k (by omega), D 358 _ (by decide) (by decide) (by decide) (by decide)]; exact k3 k hk
  · rw [b1 k hk, x _ (by omega)]; exact r1 k hk
  · rw [b2 k hk, x _ (by omega)]; exact r2 k hk
  · rw [b4 k hk, x _ (by omega)]; exact r3 k hk
  · rw [b5 6 (by decide) (by decide), x _ (by omega)]; exact r4
  · rw [b5 7 (by decide) (by decide), x _ (by omega)]; exact r5
  · rw [b5 8 (by decide) (by decide), x _ (by omega)]; exact r6
  · rw [D 356 1 (by decide) (by decide) (by decide) (by decide)]
    exact rOk_congr (fun i hi => x i (by omega)) ok
  · exact lgR_congr v4.2.2.2.2.2.1 (fun k hk => (cc k hk).1) (fun k hk => (cc k hk).2.1) (fun k hk => (cc k hk).2.2) x
end IM
