/-! AN ACT, class and reference kept apart -/
section AC3
variable {S V S' V' S1 V1 : XS} {c : Nat × Nat} {n N A q : Nat}
/-- the class remembered -/
def rmC (S S1 : XS) (q A : Nat) : Prop := cpB S1 (60 + 5 * q) S 30 ∧ S1.1 49 = upd (upd (S.1 49) 3 (nI ((q + 1) % 40))) 4 (nI (min (A + 1) 40)) ∧ ∀ a, a ≠ 49 → a < 60 + 5 * q ∨ 60 + 5 * q + 4 < a → S1.1 a = S.1 a
/-- the reference remembered -/
def rmR (V V1 : XS) (A : Nat) : Prop := V1.1 351 = upd (V.1 351) 40 (nI (min (A + 1) 40)) ∧ (∀ a, a ≠ 351 → a ≠ 369 → V1.1 a = V.1 a) ∧ ∃ B s, B + s = A ∧ min (A + 1) 40 = B + 1 ∧ (∀ k, k < 232 → V1.1 369 (232 * B + k) = V.1 364 k) ∧ ∀ i, i < B → ∀ k, k < 232 → V1.1 369 (232 * i + k) = V.1 369 (232 * (i + s) + k)
theorem RR.memC (R : RR n (pj (mg S V))) : ∃ q A S1, q < 40 ∧ f_X3_remember (hp S c) 49 30 = some (hp S1 c) ∧ rmC S S1 q A ∧ S.1 49 3 = nI q ∧ S.1 49 4 = nI A ∧ A ≤ 40 := by
  obtain ⟨⟨N, F, v1, v2, v3, ⟨A, q, cr, v4⟩, v5⟩, rest⟩ := R
  have h4 : S.1 49 4 = nI A := v4.2.2.2.1
  have h3 : S.1 49 3 = nI q := v4.2.2.2.2.1
  obtain ⟨S1, e1, e2, e3, e4⟩ := X3_remember (c := c) v4.2.1 v4.1 h3 h4
  exact ⟨q, A, S1, v4.2.1, e1, ⟨e2, e3, e4⟩, h3, h4, v4.1⟩
theorem RR.memR (R : RR n (pj (mg S V))) (h4 : S.1 49 4 = nI A) (hA : A ≤ 40) : ∃ V1, f_X12_remember (hp V c) 351 = some (hp V1 c) ∧ V1.2 = V.2 ∧ rmR V V1 A := by
  obtain ⟨⟨N, F, v1, v2, v3, ⟨A', q, cr, v4⟩, v5⟩, rest⟩ := R
  have h4' : S.1 49 4 = nI A' := v4.2.2.2.1
  have h40 : V.1 351 40 = nI A' := v4.2.2.1
  have hA' := v4.1
  rw [h4] at h4'
  have e := (nI_eq (by omega) (by omega)).mp h4'
  subst e
  obtain ⟨V1, e0, e1, e2⟩ := r_rememberX (S := V) (c := c) hA h40
  exact ⟨V1, e1, e0, e2⟩
theorem mg_act {c' m F : Nat} {cr : Nat → Nat} (R : RR n (pj (mg S V))) (v1 : Rvil (pj (mg S V)) N F) (v2 : Rnow (pj (mg S V)) N) (v3 : Rtold (pj (mg S V)) N F) (v4 : Rmem (pj (mg S V)) N A q cr) (v5 : Rimg (pj (mg S V)) N) (v6 : Rseen (pj (mg S V)) N m) (rc : rmC S S1 q A) (rr : rmR V V1 A)
    (hS : ∀ a, a < 351 → a < 30 ∨ 34 < a → a < 46 ∨ 48 < a → pj S' a = pj S1 a) (hV : ∀ a, 351 ≤ a → a ≠ 364 → pj V' a = pj V1 a)
    (now : Rnow (pj (mg S' V')) N) (lg : lgR (S'.1 46) (S'.1 47) (S'.1 48) (V'.1 364) c') (hc1 : cr A ≤ c') (hc2 : c' ≤ cr A + 1)
    (old : ∀ row c0, c0 ≤ cr A → cr A ≤ c0 + 40 → lgR (S.1 46) (S.1 47) (S.1 48) row c0 → lgR (S'.1 46) (S'.1 47) (S'.1 48) row c0) : RR n (pj (mg S' V')) := by
  obtain ⟨e2, e3, e4⟩ := rc
  obtain ⟨y2, y3, B, s, hB, hB2, x1, x2⟩ := rr
  have hq := v4.2.1
  have c369 : ∀ T : XS, pj T 369 = T.1 369 := fun T => pj_cell fun _ => rfl
  have c49 : ∀ T : XS, pj T 49 = T.1 49 := fun T => pj_cell fun _ => rfl
  have e46 : ∀ T : XS, pj T 46 = T.1 46 := fun T => pj_cell fun _ => rfl
  have e47 : ∀ T : XS, pj T 47 = T.1 47 := fun T => pj_cell fun _ => rfl
  have e48 : ∀ T : XS, pj T 48 = T.1 48 := fun T => pj_cell fun _ => rfl
  have V49 : pj (mg S' V') 49 = upd (upd (S.1 49) 3 (nI ((q + 1) % 40))) 4 (nI (min (A + 1) 40)) := by rw [pj_lo (by decide), hS 49 (by decide) (by decide) (by decide), c49, e3]
  have VB : ∀ a, 60 + 5 * q ≤ a → a ≤ 60 + 5 * q + 4 → pj (mg S' V') a = S1.1 a := fun a h1 h2 => by rw [pj_lo (by omega), hS a (by omega) (by omega) (by omega), pc_all (by omega)]
  have KS : ∀ a, 30 ≤ a → a < 35 → pj (mg S V) a = S.1 a := fun a h1 h2 => by rw [pj_lo (by omega), pc_all (by omega)]
  have V369 : pj (mg S' V') 369 = V1.1 369 := by rw [pj_hi (by decide), hV 369 (by decide) (by decide), c369]
  have s369 : pj (mg S V) 369 = V.1 369 := by rw [pj_hi (by decide), c369]
  have s364 : pj (mg S V) 364 = V.1 364 := by rw [pj_hi (by decide), c364]
  have V351 : pj (mg S' V') 351 = pj V1 351 := by rw [pj_hi (by decide), hV 351 (by decide) (by decide)]
  refine RR_act (c' := c') (q := q) (B := B) (s := s) (A := A) (cr := cr) (m := m) R v1 v2 v3 v4 v5 v6 ?_ now ?_ ?_ ?_ ?_ ?_ ?_ ?_ ?_ ?_ ?_ hB hB2 ?_ ?_ ?_ hc1 hc2 ?_
  · intro a h1 h2 h3 h4 h5 h6
    by_cases h : a < 351
    · rw [pj_lo h, pj_lo h, hS a h h1 (by omega)]
      exact pj_eq (e4 a (by omega) h3)
    · rw [pj_hi (by omega), pj_hi (by omega), hV a (by omega) h5]
      exact pj_eq (y3 a h4 h6)
  · rw [V49, pj_lo (by decide), c49]
    rfl
  · rw [V49]
    rfl
  · rw [V49, upd_same, hB2]
  · intro k hk
    rw [VB _ (by omega) (by omega), KS _ (by omega) (by omega)]
    exact e2.1 k hk
  · intro k hk
    rw [VB _ (by omega) (by omega), KS _ (by omega) (by omega)]
    exact e2.2.1 k hk
  · intro k hk
    rw [VB _ (by omega) (by omega), KS _ (by omega) (by omega)]
    exact e2.2.2.1 k hk
  · intro k hk
    rw [VB _ (by omega) (by omega), KS _ (by omega) (by omega)]
    exact e2.2.2.2.1 k hk
  · intro k h4 h9
    rw [VB _ (by omega) (by omega), KS _ (by omega) (by omega)]
    exact e2.2.2.2.2 k h4 h9
  · intro j hj
    rw [V351, pj_hi (by decide)]
    unfold pj
    rw [y2, upd_ne hj]
  · rw [V351]
    show V1.1 351 40 = _
    rw [y2, upd_same, hB2]
  · intro k hk
    rw [V369, s364, x1 k hk]
  · intro i hi k hk
    rw [V369, s369, x2 i hi k hk]
  · rw [pj_lo (by decide), pj_lo (by decide), pj_lo (by decide), pj_hi (by decide), e46, e47, e48, c364]
    exact lg
  · intro row c0 h1 h2 h
    rw [pj_lo (by decide), pj_lo (by decide), pj_lo (by decide), e46, e47, e48] at h ⊢
    exact old row c0 h1 h2 h
/-- what stands behind a crossing -/
theorem Rnow_crs {p p' : PJ} {x cr : Nat} (h : Rnow p N) (h6 : N ≤ 6) (hl : (p 356 1).toInt ≤ 99) (hc : can N (p 364 48) (p 356 1) (rwB (p 364)) x = true) (h50 : p 364 50 = nI cr) (k1 : p' 31 = (crs N (p 31, p 32) x).1) (k2 : p' 32 = (crs N (p 31, p 32) x).2) (k3 : p' 33 = p 33) (k4 : p' 34 = upd (p 34) x (p 34 x + 1)) (k0 : p' 30 = upd (p 30) 8 (nI (cr + 1))) (kr : ∀ i, i < 51 → p' 364 i = crR N (p 364) x i) (e1 : p' 356 1 = p 356 1) (e2 : p' 358 = p 358) : Rnow p' N := by
  obtain ⟨⟨a1, a2, a3⟩, ⟨r1, r2, r3, r4, r5, r6⟩, ok⟩ := h
  have hx : x < N := (can_x hc).1
  have hx6 : x < 6 := by omega
  have E : eqB (p 31, p 32) (rwB (p 364)) := ⟨r1, r2⟩
  have E2 := crs_congr (x := x) h6 hx6 E
  have E3 := crR_rw (N := N) (row := p 364) hx6
  have far : ∀ i, 42 ≤ i → i ≠ 42 + x → i ≠ 50 → crR N (p 364) x i = p 364 i := fun i h1 h2 h3 => by
    unfold crR
    rw [if_neg (by omega), if_neg (by omega), if_neg h2, if_neg h3]
  refine ⟨⟨?_, ?_, fun k hk => ?_⟩, ⟨fun k hk => ?_, fun k hk => ?_, fun k hk => ?_, ?_, ?_, ?_⟩, ?_⟩
  · rw [k0, upd_ne (by decide)]; exact a1
  · rw [k0, upd_ne (by decide), e1]; exact a2
  · rw [show (30 : Nat) + 3 = 33 from rfl, k3, e2]; exact a3 k hk
  · rw [show (30 : Nat) + 1 = 31 from rfl, k1, kr k (by omega), E2.1 k hk]
    exact (E3.1 k hk).symm
  · rw [show (30 : Nat) + 2 = 32 from rfl, k2, kr (36 + k) (by omega), E2.2 k hk]
    exact (E3.2 k hk).symm
  · rw [show (30 : Nat) + 4 = 34 from rfl, k4, kr (42 + k) (by omega)]
    by_cases e : k = x
    · subst e
      rw [upd_same]
      unfold crR
      rw [if_neg (by omega), if_neg (by omega), if_pos rfl]
      have := r3 k hk
      rw [show (30 : Nat) + 4 = 34 from rfl] at this
      rw [this]
    · rw [upd_ne e, far _ (by omega) (by omega) (by omega)]
      exact r3 k hk
  · rw [k0, upd_ne (by decide), kr 48 (by decide), far _ (by decide) (by omega) (by decide)]; exact r4
  · rw [k0, upd_ne (by decide), kr 49 (by decide), far _ (by decide) (by omega) (by decide)]; exact r5
  · rw [k0, upd_same, kr 50 (by decide)]
    unfold crR
    rw [if_neg (by decide), if_neg (by omega), if_neg (by omega), if_pos rfl, h50, nI_1]
  · rw [e1]
    obtain ⟨o1, o2, m, o3, o4⟩ := ok
    have V1 := Vb_crs o1 h6 hl hc
    have Z1 : Zo N (crs N (rwB (p 364)) x).1 := Zo_crs (Q := rwB (p 364)) o2
    refine rOk_cg (row' := crR N (p 364) x) (fun i hi => kr i (by omega)) (kr 48 (by decide)) ⟨Vb_congr E3 V1, ?_, m, o3, ?_⟩
    · exact Zo_congr (D := crR N (p 364) x) E3.1 Z1
    · rw [far _ (by decide) (by omega) (by decide)]
      exact o4
end AC3
