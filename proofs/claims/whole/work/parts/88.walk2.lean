/-! WALK: the best of its rows -/
def fvN (D : Nat → Int32) : Nat → Nat
  | 0 => 0
  | k + 1 => fvN D k + tn (D k)
theorem sF_N {D : Nat → Int32} : ∀ n, sF D n = nI (fvN D n)
  | 0 => rfl
  | n + 1 => by
    show sF D n + imax 0 (D n) = nI (fvN D n + tn (D n))
    rw [sF_N n, imax_tn, nI_add]
theorem fvN_congr {D D' : Nat → Int32} : ∀ {n : Nat}, (∀ k, k < n → D k = D' k) → fvN D n = fvN D' n
  | 0, _ => rfl
  | n + 1, h => by
    show fvN D n + tn (D n) = fvN D' n + tn (D' n)
    rw [fvN_congr (n := n) (fun k hk => h k (by omega)), h n (by omega)]
theorem fvN_le {D : Nat → Int32} : ∀ {n : Nat}, (∀ k, k < n → (D k).toInt ≤ 99) → fvN D n ≤ 99 * n
  | 0, _ => Nat.le_refl _
  | n + 1, h => by
    have := fvN_le (n := n) (fun k hk => h k (by omega))
    have := h n (by omega)
    show fvN D n + tn (D n) ≤ _
    unfold tn
    omega
theorem An.le36 {D : Nat → Int32} (A : An D) {k : Nat} (hk : k < 36) : (D k).toInt ≤ 99 := by
  have := (A (k / 6) (k % 6) (by omega) (by omega)).2
  rw [show 6 * (k / 6) + k % 6 = k by omega] at this
  exact this
theorem ow_congr {D D' : Nat → Int32} {N x : Nat} (h6 : N ≤ 6) (hx : x < 6) (h : ∀ k, k < 36 → D k = D' k) : ow D N x = ow D' N x := bsN_congr fun k hk => by rw [h _ (by omega)]
theorem gW_congr {D D' : Nat → Int32} {N n : Nat} {v : Nat → Nat} (h6 : N ≤ 6) (h : ∀ k, k < 36 → D k = D' k) (w : gW D N n v) : gW D' N n v := fun i hi => by
  obtain ⟨a, b, c⟩ := w i hi
  exact ⟨a, b, by rw [← h _ (by omega)]; exact c⟩
theorem rng_congr {D D' : Nat → Int32} {N : Nat} (h6 : N ≤ 6) (h : ∀ k, k < 36 → D k = D' k) : rng D N = rng D' N := by
  rw [Bool.eq_iff_iff, rng_iff h6, rng_iff h6]
  constructor
  · rintro ⟨n, v, w, e⟩
    exact ⟨n, v, gW_congr h6 h w, e⟩
  · rintro ⟨n, v, w, e⟩
    exact ⟨n, v, gW_congr h6 (fun k hk => (h k hk).symm) w, e⟩
/-- what is sought: 1 no ring, else the fewest favours -/
def valA (N aim : Nat) (Q : BS) : Nat := if aim = 1 then (if rng Q.1 N then 1 else 0) else fvN Q.1 36
theorem valA_congr {N aim : Nat} (h6 : N ≤ 6) (Q Q' : BS) (h : eqB Q Q') : valA N aim Q = valA N aim Q' := by
  unfold valA
  rw [rng_congr h6 h.1, fvN_congr h.1]
theorem valA_le {N aim : Nat} {lim : Int32} {Q : BS} (V : Vb lim Q) : valA N aim Q ≤ 3564 := by
  unfold valA
  split
  · split <;> omega
  · exact fvN_le (n := 36) (fun k hk => V.1.le36 hk)
def rhoB (aim : Nat) (g : Nat → Int32) (S : XS) (k : Nat × Nat × Nat) : Prop := S.1 275 = g ∧ S.1 271 7 = nI aim ∧ S.1 271 8 = nI k.1 ∧ S.1 271 9 = nI k.2.1 ∧ S.1 271 10 = nI k.2.2 ∧ k.1 ≤ 1000000 ∧ k.2.1 ≤ 4 ∧ k.2.2 < 10000
section W2
variable {N most aim : Nat} {kp lim : Int32} {c : Nat × Nat}
theorem wA271_fr {S : XS} {F : Nat → Int32} (h4 : F 4 = S.1 271 4) (h6 : F 6 = S.1 271 6) (h7 : F 7 = S.1 271 7) : frW 100 (wA S 271 F) S := ⟨fun a z => wA_ne (by omega), fun a p q => wA_ne (by omega), by rw [wA_same]; exact h6, by rw [wA_same]; exact h7, by rw [wA_same]; exact h4, rfl, fun _ _ _ => rfl⟩
theorem X10_weighB {g : Nat → Int32} (h6 : N ≤ 6) (hm : most ≤ 4) (ha : aim = 1 ∨ aim = 2) : wOK N kp lim most c (rhoB aim g) (stpB (valA N aim)) := by
  refine ⟨fun S S' a h e1 e2 _ => ?_, fun S k d last row Q hρ hd hr V H => ?_⟩
  · unfold rhoB at h ⊢
    rw [e1, e2]
    exact h
  · obtain ⟨r0, r1, r2, r3, r4, r5, r6, r7⟩ := hρ
    have B := Bp d (by omega)
    have hv := valA_le (N := N) (aim := aim) V
    have hrow : row < 10000 := Nat.lt_of_lt_of_le hr (Nat.pow_le_pow_right (n := 10) (by decide) (by omega : d ≤ 4))
    have fin : f_X10_weigh_b42 (hp S c) 271 (nI d) (nI row) (nI (valA N aim Q)) = some (hp (wA S 271 (if valA N aim Q < k.1 ∨ (valA N aim Q = k.1 ∧ d < k.2.1) then upd (upd (upd (S.1 271) 8 (nI (valA N aim Q))) 9 (nI d)) 10 (nI row) else S.1 271)) c) := by
      unfold f_X10_weigh_b42 f_X10_weigh_b68
      simp only [g271_8, g271_9, p271_8, p271_9, p271_10, Option.bind_some, r2, r3, wA_wA, wA_same]
      by_cases c1 : valA N aim Q < k.1
      · rw [if_pos (nI_lt c1 (by omega)), if_pos (Or.inl c1)]
      · rw [if_neg (nI_nlt (by omega) (by omega))]
        by_cases c2 : valA N aim Q = k.1
        · rw [if_pos (by rw [c2])]
          by_cases c3 : d < k.2.1
          · rw [if_neg (nI_ge c3 (by omega)), if_pos (Or.inr ⟨c2, c3⟩)]
          · rw [if_pos (nI_le (by omega) (by omega)), if_neg (by omega), wA_self]
        · rw [if_neg (fun z => c2 ((nI_eq (by omega) (by omega)).mp z)), if_neg (by omega), wA_self]
    have eS : f_X10_weigh (hp S c) 271 (276 + 5 * d) (nI d) (nI row) = f_X10_weigh_b42 (hp S c) 271 (nI d) (nI row) (nI (valA N aim Q)) := by
      unfold f_X10_weigh f_X10_weigh_b40
      rw [k271, Option.bind_some, g271_7, Option.bind_some, r1, if_neg (nI_ne0 (by omega) (by omega)), B.favours, Option.bind_some, Option.bind_some, sF_N, fvN_congr H.2.2.2.1]
      rcases ha with rfl | rfl
      · have el := B.levels (S := S) (c := c) H.1 h6
        rw [if_pos (show nI 1 = 1 from rfl), el, Option.bind_some]
        have hr := lv_ring (D := S.1 (276 + 5 * d + 1)) h6
        rw [rng_congr h6 H.2.2.2.1] at hr
        unfold valA
        rw [if_pos rfl]
        cases hz : rng Q.1 N with
        | true => rw [if_pos (hr.mpr hz)]; rfl
        | false => rw [if_neg (fun z => by rw [hr.mp z] at hz; cases hz)]; rfl
      · rw [if_neg (show ¬ nI 2 = 1 by decide)]
        rfl
    refine ⟨_, eS.trans fin, ?_, wA271_fr ?_ ?_ ?_, ?_⟩
    · unfold rhoB stpB keyN
      rw [wA_same]
      dsimp only
      by_cases e : valA N aim Q < k.1 ∨ (valA N aim Q = k.1 ∧ d < k.2.1)
      · rw [if_pos e, if_pos e]
        exact ⟨by rw [wA_ne (by decide)]; exact r0, r1, rfl, rfl, rfl, by show valA N aim Q ≤ 1000000; omega, by show d ≤ 4; omega, hrow⟩
      · rw [if_neg e, if_neg e]
        exact ⟨by rw [wA_ne (by decide)]; exact r0, r1, r2, r3, r4, r5, r6, r7⟩
    · split <;> rfl
    · split <;> rfl
    · split <;> rfl
    · rw [wA_same]
      intro z1 z2 L hL
      have hk : (stpB (valA N aim) k (d, row, Q)).1 = 0 ∧ (stpB (valA N aim) k (d, row, Q)).2.1 ≤ d + 1 := by
        unfold stpB keyN
        dsimp only
        by_cases e : valA N aim Q < k.1 ∨ (valA N aim Q = k.1 ∧ d < k.2.1)
        · rw [if_pos e] at z1 z2 ⊢
          refine ⟨(nI_eq (a := valA N aim Q) (b := 0) (by omega) (by decide)).mp z1, ?_⟩
          show d ≤ d + 1
          omega
        · rw [if_neg e] at z1 z2 ⊢
          rw [r2] at z1
          rw [r3, nI_1, nI_leI (by omega) (by omega)] at z2
          exact ⟨(nI_eq (a := k.1) (b := 0) (by omega) (by decide)).mp z1, z2⟩
      generalize stpB (valA N aim) k (d, row, Q) = kk at hk
      clear z1 z2
      induction L with
      | nil => rfl
      | cons y L ih =>
        have hy := (hL y List.mem_cons_self).1
        rw [List.foldl_cons]
        have : stpB (valA N aim) kk y = kk := if_neg (by omega)
        rw [this]
        exact ih (fun z hz => hL z (List.mem_cons_of_mem _ hz))
theorem X10_search_gen {α : Type} {ρ : XS → α → Prop} {f : α → ND → α} {a0 : α} {S : XS} {Q : BS} {b : Nat} (B : isB b) (hb : b + 4 < 276) (h6 : N ≤ 6) (hl : lim.toInt ≤ 99) (hm : most ≤ 4) (W : wOK N kp lim most c ρ f) (V : Vb lim Q) (b4 : S.1 b 4 = nI N) (b5 : S.1 b 5 = lim) (b6 : S.1 b 6 = kp) (bD : ∀ k, k < 36 → S.1 (b + 1) k = Q.1 k) (bW : ∀ k, k < 6 → S.1 (b + 2) k = Q.2 k) (bn : b + 4 < 271) (h0 : ∀ S', S'.1 271 = upd (upd (upd (upd (upd (upd (upd (S.1 271) 6 (nI most)) 7 (nI aim)) 4 (S.1 271 4 + 1)) 5 0) 8 1000000) 9 0) 10 0 → S'.1 275 = S.1 275 → S'.2 = S.2 → ρ S' a0) : ∃ S', f_X10_search (hp S c) 271 b (nI most) (nI aim) = some (hp S' c) ∧ ρ S' ((dfs N kp lim true most 0 0 6 Q).foldl f a0) ∧ (∀ a, a < 271 ∨ 348 < a → S'.1 a = S.1 a) ∧ S'.1 271 4 = S.1 271 4 + 1 ∧ S'.2.2 = S.2.2 ∧ ∀ a, a ≠ 273 → a ≠ 274 → S'.2.1 a = S.2.1 a := by
  have emo : imax 0 (imin 4 (nI most)) = nI most := by
    have : ∀ m, m ≤ 4 → imax 0 (imin 4 (nI m)) = nI m := by decide
    exact this most hm
  have hx : isB 276 := Bp 0 (by decide)
  unfold f_X10_search
  simp only [k271, p271_6, p271_7, g271_4, p271_4, p271_5, p271_8, p271_9, p271_10, Option.bind_some, wA_wA, wA_same, emo, g271_0, show aR 4 (hp (wA S 271 (upd (upd (upd (upd (upd (upd (upd (S.1 271) 6 (nI most)) 7 (nI aim)) 4 (upd (upd (S.1 271) 6 (nI most)) 7 (nI aim) 4 + 1)) 5 0) 8 1000000) 9 0) 10 0)) c) 272 (0 : Int32) = some 276 from a272 (k := 0) (by decide)]
  have e4 : upd (upd (S.1 271) 6 (nI most)) 7 (nI aim) 4 = S.1 271 4 := rfl
  rw [e4]
  obtain ⟨S1, e1, e2, e3⟩ := hx.become (S := wA S 271 (upd (upd (upd (upd (upd (upd (upd (S.1 271) 6 (nI most)) 7 (nI aim)) 4 (S.1 271 4 + 1)) 5 0) 8 1000000) 9 0) 10 0)) (c := c) B (by omega)
  obtain ⟨c1, c2, c3, c4, c5⟩ := e2
  have s271 : S1.1 271 = upd (upd (upd (upd (upd (upd (upd (S.1 271) 6 (nI most)) 7 (nI aim)) 4 (S.1 271 4 + 1)) 5 0) 8 1000000) 9 0) 10 0 := by
    rw [e3.1 271 (by omega), wA_same]
  have H : pb S1 N kp lim most 0 6 Q := by
    refine ⟨?_, ?_, ?_, fun k hk => ?_, fun _ k hk _ => ?_, fun _ k hk => ?_⟩
    · rw [c5 4 (by omega) (by omega), wA_ne (by omega)]
      exact b4
    · rw [c5 5 (by omega) (by omega), wA_ne (by omega)]
      exact b5
    · rw [c5 6 (by omega) (by omega), wA_ne (by omega)]
      exact b6
    · rw [c1 k hk, wA_ne (by omega)]
      exact bD k hk
    · rw [c2 k hk, wA_ne (by omega)]
      exact bW k hk
    · rw [c2 k hk, wA_ne (by omega)]
      exact bW k hk
  have hρ := h0 S1 s271 (by rw [e3.1 275 (by omega), wA_ne (by decide)]) (by rw [e3.2]; rfl)
  obtain ⟨S2, y1, y2, y3⟩ := X10_visit (c := c) h6 hl hm W most 8 0 6 0 (-1) Q S1 a0 (by omega) (by omega) (by decide) (fun h hh => ⟨fun z => absurd z (m1_ne (by omega)), fun z => by omega⟩) V H (by rw [s271]; rfl) hρ
  have y1' : f_X10_visit 8 (hp S1 c) 271 0 (-1) 0 = some (hp S2 c) := y1
  rw [e1, Option.bind_some, y1', Option.bind_some]
  refine ⟨S2, rfl, y2, fun a z => ?_, ?_, ?_, fun a p q => ?_⟩
  · rw [y3.1 a z, e3.1 a (by omega), wA_ne (by omega)]
  · rw [y3.2.2.2.2.1, s271]
    rfl
  · rw [y3.2.2.2.2.2.1, e3.2]
    rfl
  · rw [y3.2.2.2.2.2.2 a p q, e3.2]
    rfl
end W2
