/-! THE REFERENCE'S WAYS: the best, and the tables -/
def rhoR2 (S : XS) (k : Nat × Nat × Nat) : Prop := S.1 351 46 = 2 ∧ ((k = (1000000, 0, 0) ∧ S.1 351 47 = -1) ∨ (k.1 ≤ 3564 ∧ k.2.1 ≤ 4 ∧ k.2.2 < 10000 ∧ S.1 351 47 = nI k.2.1 ∧ S.1 351 48 = nI k.1 ∧ S.1 351 49 = nI k.2.2))
def rhoR1 (S : XS) (k : Nat × Nat × Nat) : Prop := S.1 351 46 = 1 ∧ ((k.1 ≠ 0 ∧ S.1 351 47 = -1 ∧ S.1 351 49 = -1) ∨ (k.1 = 0 ∧ k.2.1 ≤ 4 ∧ k.2.2 < 10000 ∧ S.1 351 47 = nI k.2.1 ∧ S.1 351 49 = nI k.2.2))
def rhoR0 (S : XS) (T : List (List Int32)) : Prop := S.1 351 46 = 0 ∧ S.1 351 45 = nI T.length ∧ T.length ≤ 1600 ∧ (∀ t, t ∈ T → ∃ Q : BS, t = tbl Q) ∧ ∀ i, i < T.length → ∀ j, j < 36 → S.1 371 (36 * i + j) = (T.getD i []).getD j 0
section TR
variable {N : Nat} {kp lim : Int32} {c : Nat × Nat}
theorem fr351 {S : XS} {F : Nat → Int32} (h : ∀ k, k ≠ 45 → k ≠ 47 → k ≠ 48 → k ≠ 49 → F k = S.1 351 k) : frY 5 (wA S 351 F) S := ⟨fun a p _ _ _ _ _ => wA_ne p, fun k p q r s => by rw [wA_same]; exact h k p q r s, fun k _ => by rw [wA_ne (by decide)], rfl⟩
theorem row_lt {d row : Nat} (hd : d ≤ 4) (hr : row < 10 ^ d) : row < 10000 := Nat.lt_of_lt_of_le hr (Nat.pow_le_pow_right (n := 10) (by decide) (by omega : d ≤ 4))
theorem r_tries2 (h6 : N ≤ 6) : wOR N kp lim c rhoR2 (stpB (valA N 2)) (fun _ => 0) := by
  refine ⟨fun S S' a h e1 e2 => ?_, fun a x => Nat.zero_le _, fun S k d row Q hρ _ hd hr V Z H => ?_⟩
  · unfold rhoR2 at h ⊢
    rw [e1]
    exact h
  · obtain ⟨r1, r2⟩ := hρ
    have hv := valA_le (N := N) (aim := 2) V
    have hrow := row_lt hd hr
    have ev : sAll (S.1 365) N N = nI (valA N 2 Q) := by
      have z : Zo N (S.1 365) := Zo_congr H.2.2.2.1 Z
      rw [sAll_fv h6 z]
      show nI (fvN (rwB (S.1 365)).1 36) = nI (if (2 : Nat) = 1 then _ else fvN Q.1 36)
      rw [if_neg (by decide), fvN_congr H.2.2.2.1]
    have put : f_X12_tries_b105 (hp S c) 351 (nI d) (nI row) (nI (valA N 2 Q)) = some (hp (wA S 351 (upd (upd (upd (S.1 351) 47 (nI d)) 48 (nI (valA N 2 Q))) 49 (nI row))) c) := by
      unfold f_X12_tries_b105
      simp only [p351_47, p351_48, p351_49, Option.bind_some, wA_wA, wA_same]
    have frp : frY 5 (wA S 351 (upd (upd (upd (S.1 351) 47 (nI d)) 48 (nI (valA N 2 Q))) 49 (nI row))) S := fr351 fun k a b c d => by
      unfold upd
      rw [if_neg d, if_neg c, if_neg b]
    have rop : rhoR2 (wA S 351 (upd (upd (upd (S.1 351) 47 (nI d)) 48 (nI (valA N 2 Q))) 49 (nI row))) (valA N 2 Q, d, row) := by
      unfold rhoR2
      rw [wA_same]
      exact ⟨r1, Or.inr ⟨hv, hd, hrow, rfl, rfl, rfl⟩⟩
    unfold f_X12_tries
    rw [k351, Option.bind_some, g351_46, Option.bind_some, r1, if_neg (show ¬ (2 : Int32) = 0 by decide), Option.bind_some, if_neg (show ¬ (2 : Int32) = 1 by decide), g351_33, Option.bind_some, r_all (Or.inr rfl) H.1 h6, ev, Option.bind_some, g351_47, Option.bind_some]
    rcases r2 with ⟨rfl, r2⟩ | ⟨q1, q2, q3, q4, q5, q6⟩
    · rw [r2, if_pos rfl, put]
      have ef : stpB (valA N 2) (1000000, 0, 0) (d, row, Q) = (valA N 2 Q, d, row) := if_pos (Or.inl (by show valA N 2 Q < 1000000; omega))
      rw [ef]
      exact ⟨_, rfl, rop, frp, wA_ne (by decide)⟩
    · rw [q4, if_neg (m1_ne (by omega)), g351_48, Option.bind_some, q5]
      have same : ∀ S', S' = S → rhoR2 S' k := by
        rintro _ rfl
        exact ⟨r1, Or.inr ⟨q1, q2, q3, q4, q5, q6⟩⟩
      by_cases c1 : k.1 < valA N 2 Q
      · rw [if_pos (nI_lt c1 (by omega))]
        have ef : stpB (valA N 2) k (d, row, Q) = k := if_neg (by show ¬ (valA N 2 Q < k.1 ∨ (valA N 2 Q = k.1 ∧ d < k.2.1)); omega)
        rw [ef]
        exact ⟨S, rfl, same S rfl, frY.refl, rfl⟩
      · rw [if_neg (nI_nlt (by omega) (by omega)), Option.bind_some]
        by_cases c2 : valA N 2 Q = k.1
        · rw [if_pos (by rw [c2]), Option.bind_some]
          by_cases c3 : d < k.2.1
          · rw [if_pos (nI_lt c3 (by omega)), put]
            have ef : stpB (valA N 2) k (d, row, Q) = (valA N 2 Q, d, row) := if_pos (Or.inr ⟨c2, c3⟩)
            rw [ef]
            exact ⟨_, rfl, rop, frp, wA_ne (by decide)⟩
          · rw [if_neg (nI_nlt (by omega) (by omega))]
            have ef : stpB (valA N 2) k (d, row, Q) = k := if_neg (by show ¬ (valA N 2 Q < k.1 ∨ (valA N 2 Q = k.1 ∧ d < k.2.1)); omega)
            rw [ef]
            exact ⟨S, rfl, same S rfl, frY.refl, rfl⟩
        · rw [if_neg (fun z => c2 ((nI_eq (by omega) (by omega)).mp z)), put]
          have ef : stpB (valA N 2) k (d, row, Q) = (valA N 2 Q, d, row) := if_pos (Or.inl (by show valA N 2 Q < k.1; omega))
          rw [ef]
          exact ⟨_, rfl, rop, frp, wA_ne (by decide)⟩
theorem r_tries1 (h6 : N ≤ 6) : wOR N kp lim c rhoR1 (stpB (valA N 1)) (fun _ => 0) := by
  refine ⟨fun S S' a h e1 e2 => ?_, fun a x => Nat.zero_le _, fun S k d row Q hρ _ hd hr V Z H => ?_⟩
  · unfold rhoR1 at h ⊢
    rw [e1]
    exact h
  · obtain ⟨r1, r2⟩ := hρ
    have hrow := row_lt hd hr
    obtain ⟨st, es⟩ := r_hasRing (S := S) (c := c) (a := 365) (Or.inr rfl) H.1 h6
    have er : rng (S.1 365) N = rng Q.1 N := rng_congr h6 H.2.2.2.1
    have ev : valA N 1 Q = if rng Q.1 N then 1 else 0 := if_pos rfl
    rw [er] at es
    have put : f_X12_tries_b52 (hp (wA S 368 st) c) 351 (nI d) (nI row) = some (hp (wA (wA S 368 st) 351 (upd (upd (S.1 351) 47 (nI d)) 49 (nI row))) c) := by
      unfold f_X12_tries_b52
      simp only [p351_47, p351_49, Option.bind_some, wA_wA, wA_same, wA_ne (show (351 : Nat) ≠ 368 by decide)]
    have frs : frY 5 (wA S 368 st) S := frY.w (by omega)
    have frp : frY 5 (wA (wA S 368 st) 351 (upd (upd (S.1 351) 47 (nI d)) 49 (nI row))) S := frY.trans frs (fr351 fun k a b c d => by
      unfold upd
      rw [if_neg d, if_neg b, wA_ne (by decide)])
    unfold f_X12_tries
    rw [k351, Option.bind_some, g351_46, Option.bind_some, r1, if_neg (show ¬ (1 : Int32) = 0 by decide), Option.bind_some, if_pos rfl, g351_33, Option.bind_some, es, Option.bind_some]
    cases hz : rng Q.1 N with
    | true =>
      rw [hz] at ev
      have ev : valA N 1 Q = 1 := ev
      rw [if_neg (show ¬ bI true = 0 by decide)]
      refine ⟨_, rfl, ?_, frs, wA_ne (by decide)⟩
      unfold rhoR1 stpB keyN
      rw [wA_ne (show (351 : Nat) ≠ 368 by decide)]
      refine ⟨r1, ?_⟩
      by_cases e : valA N 1 (d, row, Q).2.2 < k.1 ∨ (valA N 1 (d, row, Q).2.2 = k.1 ∧ (d, row, Q).1 < k.2.1)
      · rw [if_pos e]
        have e' : valA N 1 Q < k.1 ∨ (valA N 1 Q = k.1 ∧ d < k.2.1) := e
        rcases r2 with ⟨q1, q2, q3⟩ | ⟨q1, q2, q3, q4, q5⟩
        · exact Or.inl ⟨by show valA N 1 Q ≠ 0; omega, q2, q3⟩
        · omega
      · rw [if_neg e]
        exact r2
    | false =>
      rw [hz] at ev
      have ev : valA N 1 Q = 0 := ev
      rw [if_pos (show bI false = 0 from rfl), g351_47, Option.bind_some, wA_ne (show (351 : Nat) ≠ 368 by decide)]
      have rop : rhoR1 (wA (wA S 368 st) 351 (upd (upd (S.1 351) 47 (nI d)) 49 (nI row))) (valA N 1 Q, d, row) := by
        unfold rhoR1
        rw [wA_same]
        exact ⟨r1, Or.inr ⟨ev, hd, hrow, rfl, rfl⟩⟩
      rcases r2 with ⟨q1, q2, q3⟩ | ⟨q1, q2, q3, q4, q5⟩
      · rw [q2, if_pos rfl, put]
        have ef : stpB (valA N 1) k (d, row, Q) = (valA N 1 Q, d, row) := if_pos (Or.inl (by show valA N 1 Q < k.1; omega))
        rw [ef]
        exact ⟨_, rfl, rop, frp, by rw [wA_ne (by decide), wA_ne (by decide)]⟩
      · rw [q4, if_neg (m1_ne (by omega)), Option.bind_some]
        by_cases c3 : d < k.2.1
        · rw [if_pos (nI_lt c3 (by omega)), put]
          have ef : stpB (valA N 1) k (d, row, Q) = (valA N 1 Q, d, row) := if_pos (Or.inr ⟨by show valA N 1 Q = k.1; omega, c3⟩)
          rw [ef]
          exact ⟨_, rfl, rop, frp, by rw [wA_ne (by decide), wA_ne (by decide)]⟩
        · rw [if_neg (nI_nlt (by omega) (by omega))]
          have ef : stpB (valA N 1) k (d, row, Q) = k := if_neg (by show ¬ (valA N 1 Q < k.1 ∨ (valA N 1 Q = k.1 ∧ d < k.2.1)); omega)
          rw [ef]
          refine ⟨_, rfl, ?_, frs, wA_ne (by decide)⟩
          unfold rhoR1
          rw [wA_ne (show (351 : Nat) ≠ 368 by decide)]
          exact ⟨r1, Or.inr ⟨q1, q2, q3, q4, q5⟩⟩
theorem ix36 (a c : Nat) : (36 : Int32) * nI a + nI c = nI (36 * a + c) := by
  rw [show (36 : Int32) = nI 36 from rfl, pk_mul, nI_add]
theorem mt_eq {S : XS} {k : Nat} (hk : k < 1600) {k2 : xa_H → Nat → Nat → Int32 → Option xa_H} (h : ∀ j, j < 36 → S.1 371 (36 * k + j) = S.1 365 j) : f_X12_meets_b15 k2 1048576 (hp S c) 351 365 (nI k) 1 0 = some (hp S c) := by
  refine lp (N := 36) (fun n i => f_X12_meets_b15 k2 n (hp S c) 351 365 (nI k) 1 (nI i)) (fun n => ?_) (fun n i hi => ?_) 36 0 1048576 (by omega) (by omega)
  · show f_X12_meets_b15 k2 (n + 1) (hp S c) 351 365 (nI k) 1 (nI 36) = _
    rw [f_X12_meets_b15, if_pos (by decide)]
    unfold f_X12_meets_b57
    rw [if_neg (by decide)]
  · show f_X12_meets_b15 k2 (n + 1) (hp S c) 351 365 (nI k) 1 (nI i) = _
    rw [f_X12_meets_b15, if_neg (by rw [show (36 : Int32) = nI 36 from rfl]; exact nI_ge hi (by decide)), if_neg (by decide), g351_43, Option.bind_some, ix36, a371 (by omega), Option.bind_some, a365 (by omega), Option.bind_some, if_pos (h i hi)]
    unfold f_X12_meets_b50
    rw [nI_1]
theorem mt_ne {S : XS} {k : Nat} (hk : k < 1600) {k2 : xa_H → Nat → Nat → Int32 → Option xa_H} {j : Nat} (hj : j < 36) (h : S.1 371 (36 * k + j) ≠ S.1 365 j) : ∀ (m i n : Nat), i + m = j → m + 1 < n → f_X12_meets_b15 k2 n (hp S c) 351 365 (nI k) 1 (nI i) = k2 (hp S c) 351 365 (nI (k + 1))
  | m, i, 0, hi, hn => by omega
  | m, i, 1, hi, hn => by omega
  | m, i, n + 2, hi, hn => by
    have stop : f_X12_meets_b15 k2 (n + 1) (hp S c) 351 365 (nI k) 0 (nI (i + 1)) = k2 (hp S c) 351 365 (nI (k + 1)) := by
      rw [f_X12_meets_b15, if_pos (show (0 : Int32) = 0 from rfl)]
      unfold f_X12_meets_b57
      rw [if_pos rfl, nI_1]
      split <;> rfl
    rw [f_X12_meets_b15, if_neg (by rw [show (36 : Int32) = nI 36 from rfl]; exact nI_ge (by omega) (by decide)), if_neg (by decide), g351_43, Option.bind_some, ix36, a371 (by omega), Option.bind_some, a365 (by omega), Option.bind_some]
    unfold f_X12_meets_b50
    rw [nI_1]
    by_cases e : S.1 371 (36 * k + i) = S.1 365 i
    · rw [if_pos e]
      cases m with
      | zero =>
        have : i = j := by omega
        subst this
        exact absurd e h
      | succ m => exact mt_ne hk hj h m (i + 1) (n + 1) (by omega) (by omega)
    · rw [if_neg e]
      exact stop
def addR (S : XS) (L j : Nat) : Nat → Int32 := fun k => if 36 * L ≤ k ∧ k < 36 * L + j then S.1 365 (k - 36 * L) else S.1 371 k
theorem mt_add {S : XS} {L : Nat} (hL : L < 1600) (h45 : S.1 351 45 = nI L) : f_X12_meets_b70 1048576 (hp S c) 351 365 0 = some (hp (wA (wA S 371 (addR S L 36)) 351 (upd (S.1 351) 45 (nI (L + 1)))) c) := by
  have h0 : S = wA S 371 (addR S L 0) := by
    have : addR S L 0 = S.1 371 := funext fun k => if_neg (by omega)
    rw [this, wA_self]
  have l0 : f_X12_meets_b70 1048576 (hp (wA S 371 (addR S L 0)) c) 351 365 (nI 0) = some (hp (wA (wA S 371 (addR S L 36)) 351 (upd (S.1 351) 45 (nI (L + 1)))) c) := by
    refine lp (N := 36) (fun n k => f_X12_meets_b70 n (hp (wA S 371 (addR S L k)) c) 351 365 (nI k)) (fun n => ?_) (fun n k hk => ?_) 36 0 1048576 (by omega) (by omega)
    · show f_X12_meets_b70 (n + 1) _ 351 365 (nI 36) = _
      rw [f_X12_meets_b70, if_pos (by decide), g351_45, Option.bind_some, p351_45, Option.bind_some, wA_ne (show (351 : Nat) ≠ 371 by decide), h45, nI_1]
    · show f_X12_meets_b70 (n + 1) _ 351 365 (nI k) = _
      rw [f_X12_meets_b70, if_neg (by rw [show (36 : Int32) = nI 36 from rfl]; exact nI_ge hk (by decide)), g351_43, Option.bind_some, g351_45, Option.bind_some, a365 (by omega), Option.bind_some, wA_ne (show (351 : Nat) ≠ 371 by decide), h45, ix36, q371 (by omega), Option.bind_some, nI_1, wA_wA, wA_same, wA_ne (show (365 : Nat) ≠ 371 by decide)]
      have : upd (addR S L k) (36 * L + k) (S.1 365 k) = addR S L (k + 1) := by
        funext i
        unfold upd addR
        by_cases e : i = 36 * L + k
        · rw [if_pos e, if_pos (by omega), show i - 36 * L = k by omega]
        · rw [if_neg e]
          by_cases e2 : 36 * L ≤ i ∧ i < 36 * L + k
          · rw [if_pos e2, if_pos (by omega)]
          · rw [if_neg e2, if_neg (by omega)]
      rw [this]
  rw [← l0, ← h0]
  rfl
theorem mt_run {S : XS} {L : Nat} (hL : L < 1600) (h45 : S.1 351 45 = nI L) : ∀ (m k n : Nat), k + m = L → m < n → (∀ i, i < k → ∃ j, j < 36 ∧ S.1 371 (36 * i + j) ≠ S.1 365 j) → (f_X12_meets_b2 n (hp S c) 351 365 (nI k) = some (hp S c) ∧ ∃ i, i < L ∧ ∀ j, j < 36 → S.1 371 (36 * i + j) = S.1 365 j) ∨ (f_X12_meets_b2 n (hp S c) 351 365 (nI k) = some (hp (wA (wA S 371 (addR S L 36)) 351 (upd (S.1 351) 45 (nI (L + 1)))) c) ∧ ∀ i, i < L → ∃ j, j < 36 ∧ S.1 371 (36 * i + j) ≠ S.1 365 j)
  | 0, k, n, hk, hn, hi => by
    obtain ⟨n, rfl⟩ : ∃ q, n = q + 1 := ⟨n - 1, by omega⟩
    right
    rw [f_X12_meets_b2, g351_45, Option.bind_some, h45, if_pos (nI_le (by omega) (by omega)), mt_add hL h45]
    exact ⟨rfl, fun i h => hi i (by omega)⟩
  | m + 1, k, n, hk, hn, hi => by
    obtain ⟨n, rfl⟩ : ∃ q, n = q + 1 := ⟨n - 1, by omega⟩
    rw [f_X12_meets_b2, g351_45, Option.bind_some, h45, if_neg (nI_ge (by omega) (by omega))]
    by_cases e : ∀ j, j < 36 → S.1 371 (36 * k + j) = S.1 365 j
    · rw [mt_eq (by omega) e]
      exact Or.inl ⟨rfl, k, by omega, e⟩
    · have e' : ∃ j, j < 36 ∧ S.1 371 (36 * k + j) ≠ S.1 365 j := by
        refine Classical.byContradiction fun z => e fun j hj => Classical.byContradiction fun y => z ⟨j, hj, y⟩
      obtain ⟨j, hj, hne⟩ := e'
      have := mt_ne (c := c) (k2 := fun h l0 l1 l2 => f_X12_meets_b2 n h l0 l1 l2) (show k < 1600 by omega) hj hne j 0 1048576 (by omega) (by omega)
      rw [show f_X12_meets_b15 (fun h l0 l1 l2 => f_X12_meets_b2 n h l0 l1 l2) 1048576 (hp S c) 351 365 (nI k) 1 0 = f_X12_meets_b15 (fun h l0 l1 l2 => f_X12_meets_b2 n h l0 l1 l2) 1048576 (hp S c) 351 365 (nI k) 1 (nI 0) from rfl, this]
      refine mt_run hL h45 m (k + 1) n (by omega) (by omega) fun i h => ?_
      by_cases z : i = k
      · rw [z]
        exact ⟨j, hj, hne⟩
      · exact hi i (by omega)
theorem tbl_of {Q : BS} {S : XS} (H : prR S N kp lim Q) {t : List Int32} (ht : ∃ Q' : BS, t = tbl Q') : (∀ j, j < 36 → t.getD j 0 = S.1 365 j) ↔ t = tbl Q := by
  obtain ⟨Q', rfl⟩ := ht
  rw [tbl_eq]
  constructor
  · intro h k hk
    have := h k hk
    rw [tbl_get hk] at this
    exact this.trans (H.2.2.2.1 k hk)
  · intro h k hk
    rw [tbl_get hk, h k hk]
    exact (H.2.2.2.1 k hk).symm
theorem r_tries0 : wOR N kp lim c rhoR0 addT List.length := by
  refine ⟨fun S S' a h e1 e2 => ?_, fun a x => ?_, fun S T d row Q hρ hT hd hr V Z H => ?_⟩
  · unfold rhoR0 at h ⊢
    rw [e1, e2]
    exact h
  · unfold addT
    split
    · omega
    · rw [List.length_append]
      exact Nat.le_refl _
  · obtain ⟨r1, r2, r3, r4, r5⟩ := hρ
    have eS : f_X12_tries (hp S c) 351 (nI d) (nI row) = f_X12_meets_b2 1048576 (hp S c) 351 365 (nI 0) := by
      unfold f_X12_tries f_X12_meets
      rw [k351, Option.bind_some, g351_46, Option.bind_some, r1, if_pos rfl, g351_33, Option.bind_some, Option.bind_some]
      show (f_X12_meets_b2 1048576 (hp S c) 351 365 (nI 0)).bind _ = _
      cases f_X12_meets_b2 1048576 (hp S c) 351 365 (nI 0) <;> rfl
    have get : ∀ i, i < T.length → T.getD i [] ∈ T := fun i hi => by
      rw [List.getD_eq_getElem?_getD, List.getElem?_eq_getElem hi]
      exact List.getElem_mem hi
    rw [eS]
    rcases mt_run (S := S) (c := c) hT r2 T.length 0 1048576 (by omega) (by omega) (fun i h => by omega) with ⟨y1, i, y2, y3⟩ | ⟨y1, y2⟩
    · have hin : tbl Q ∈ T := by
        have := (tbl_of H (r4 _ (get i y2))).mp (fun j hj => by rw [← r5 i y2 j hj]; exact y3 j hj)
        rw [← this]
        exact get i y2
      have ef : addT T (d, row, Q) = T := if_pos hin
      rw [ef]
      exact ⟨S, y1, ⟨r1, r2, r3, r4, r5⟩, frY.refl, rfl⟩
    · have hni : ¬ tbl Q ∈ T := by
        intro hin
        obtain ⟨i, hi, e⟩ := List.getElem_of_mem hin
        obtain ⟨j, hj, hne⟩ := y2 i hi
        have eg : T.getD i [] = tbl Q := by
          rw [List.getD_eq_getElem?_getD, List.getElem?_eq_getElem hi, e]
          rfl
        rw [r5 i hi j hj, eg, tbl_get hj] at hne
        exact hne (H.2.2.2.1 j hj).symm
      have ef : addT T (d, row, Q) = T ++ [tbl Q] := if_neg hni
      rw [ef]
      refine ⟨_, y1, ⟨?_, ?_, ?_, fun t ht => ?_, fun i hi j hj => ?_⟩, frY.trans (frY.w (by omega)) (fr351 fun k a _ _ _ => ?_), by rw [wA_ne (by decide), wA_ne (by decide)]⟩
      · rw [wA_same]
        exact r1
      · rw [wA_same, List.length_append]
        rfl
      · rw [List.length_append]
        exact hT
      · rcases List.mem_append.mp ht with z | z
        · exact r4 t z
        · exact ⟨Q, List.mem_singleton.mp z⟩
      · rw [wA_ne (by decide), wA_same]
        rw [List.length_append] at hi
        have hi' : i < T.length + 1 := hi
        unfold addR
        by_cases e : i = T.length
        · subst e
          rw [if_pos (by omega), show 36 * T.length + j - 36 * T.length = j by omega]
          have : (T ++ [tbl Q]).getD T.length [] = tbl Q := by
            rw [List.getD_eq_getElem?_getD, List.getElem?_append_right (Nat.le_refl _), Nat.sub_self]
            rfl
          rw [this, tbl_get hj]
          exact H.2.2.2.1 j hj
        · rw [if_neg (by omega)]
          have : (T ++ [tbl Q]).getD i [] = T.getD i [] := by
            rw [List.getD_eq_getElem?_getD, List.getElem?_append_left (by omega), List.getD_eq_getElem?_getD]
          rw [this]
          exact r5 i (by omega) j hj
      · unfold upd
        rw [if_neg a, wA_ne (by decide)]
end TR
