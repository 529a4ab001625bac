/-! a song over a board; a board cleared -/
def wB (S : XS) (b : Nat) (Q : BS) : XS := wA (wA S (b + 2) Q.2) (b + 1) Q.1
section WB
variable {S : XS} {c : Nat × Nat} {b N : Nat} {Q : BS}
theorem wB_1 : (wB S b Q).1 (b + 1) = Q.1 := wA_same
theorem wB_2 : (wB S b Q).1 (b + 2) = Q.2 := by
  unfold wB
  rw [wA_ne (by omega), wA_same]
theorem wB_ne {j : Nat} (h1 : j ≠ b + 1) (h2 : j ≠ b + 2) : (wB S b Q).1 j = S.1 j := by
  unfold wB
  rw [wA_ne h1, wA_ne h2]
theorem wB_22 : (wB S b Q).2 = S.2 := rfl
theorem wB_up {f g : Nat → Int32} : wA (wA (wB S b Q) (b + 2) f) (b + 1) g = wB S b (g, f) := by
  unfold wB
  rw [wA_comm (a := b + 1) (b := b + 2) (by omega), wA_wA, wA_wA]
theorem wB_self : wB S b (S.1 (b + 1), S.1 (b + 2)) = S := by
  unfold wB
  rw [wA_self, wA_self]
theorem wB_fr : fr b (b + 4) (wB S b Q) S := ⟨fun a ha => wB_ne (by omega) (by omega), rfl⟩
theorem isB.turnQ {x : Nat} {kp lim : Int32} (B : isB b) (hN : S.1 b 4 = nI N) (h6 : N ≤ 6) (V : Vb lim Q) (h : can N kp lim Q x = true) : f_X0_turnOver (hp (wB S b Q) c) b (nI x) = some (hp (wB S b (crs N Q x)) c) := by
  obtain ⟨h1, h2, h3, h4⟩ := can_x h
  rw [B.turnOver (by rw [wB_ne (by omega) (by omega)]; exact hN) h6 h1 (by rw [wB_1]; exact V.1) (by rw [wB_2]; exact V.2.2) (by rw [wB_2]; exact h3), wB_1, wB_2, wB_up]
  rfl
theorem isB.canQ {x : Nat} (B : isB b) (hN : S.1 b 4 = nI N) (h6 : N ≤ 6) (hx : x < 2 ^ 31) : f_X0_canTurn (hp (wB S b Q) c) b (nI x) = some (bI (can N (S.1 b 6) (S.1 b 5) Q x)) := by
  have hN' : (wB S b Q).1 b 4 = nI N := by
    rw [wB_ne (by omega) (by omega)]
    exact hN
  unfold can
  by_cases e : x < N
  · rw [B.canTurn hN' h6 e, wB_1, wB_2, wB_ne (by omega) (by omega), decide_eq_true e, Bool.true_and]
  · rw [B.canTurn_out hN' (Or.inr ⟨nI_pos hx, nI_le (by omega) hx⟩), decide_eq_false e, Bool.false_and]
    rfl
theorem isB.follow_loop {r L : Nat} {dg : Nat → Nat} (B : isB b) (hN : S.1 b 4 = nI N) (h6 : N ≤ 6) (hl : (S.1 b 5).toInt ≤ 99) (hr : sh r = some (.inl (0, 16, 0, 0))) (hrb : r < b ∨ b + 4 < r) (hL : L ≤ 16) (hd : ∀ k, k < L → S.1 r k = nI (dg k) ∧ dg k < 10) : ∀ (m k n : Nat) (Q : BS), k + m = L → m < n → Vb (S.1 b 5) Q → f_X0_follow_b2 n (hp (wB S b Q) c) b r (nI L) (nI k) = some (bI (fol N (S.1 b 6) (S.1 b 5) dg m k Q).1, hp (wB S b (fol N (S.1 b 6) (S.1 b 5) dg m k Q).2) c)
  | 0, k, 0, Q, _, h, _ => by omega
  | 0, k, n + 1, Q, hk, _, _ => by
    rw [f_X0_follow_b2, if_pos (nI_le (by omega) (by omega))]
    rfl
  | m + 1, k, 0, Q, _, h, _ => by omega
  | m + 1, k, n + 1, Q, hk, hn, V => by
    have hq := hd k (by omega)
    rw [f_X0_follow_b2, if_neg (nI_ge (by omega) (by omega)), aN_hp hr (by decide), Option.bind_some, if_neg (nI_ge (by omega) (by omega)), aI_hp hr (by omega) (by decide), Option.bind_some, wB_ne (by omega) (by omega), hq.1, B.canQ hN h6 (by omega), Option.bind_some]
    show _ = some (bI (if can N (S.1 b 6) (S.1 b 5) Q (dg k) then fol N (S.1 b 6) (S.1 b 5) dg m (k + 1) (crs N Q (dg k)) else (false, Q)).1, hp (wB S b (if can N (S.1 b 6) (S.1 b 5) Q (dg k) then fol N (S.1 b 6) (S.1 b 5) dg m (k + 1) (crs N Q (dg k)) else (false, Q)).2) c)
    by_cases e : can N (S.1 b 6) (S.1 b 5) Q (dg k) = true
    · rw [e, if_neg (by decide), if_pos rfl, Option.bind_some, B.turnQ hN h6 V e, Option.bind_some, nI_1]
      exact isB.follow_loop B hN h6 hl hr hrb hL hd m (k + 1) n _ (by omega) (by omega) (Vb_crs V h6 hl e)
    · rw [(Bool.not_eq_true _).mp e, if_pos bI_f, if_neg (by decide)]
      rfl
theorem isB.follow {r L : Nat} {dg : Nat → Nat} (B : isB b) (hN : S.1 b 4 = nI N) (h6 : N ≤ 6) (hl : (S.1 b 5).toInt ≤ 99) (hr : sh r = some (.inl (0, 16, 0, 0))) (hrb : r < b ∨ b + 4 < r) (hL : L ≤ 16) (hd : ∀ k, k < L → S.1 r k = nI (dg k) ∧ dg k < 10) (V : Vb (S.1 b 5) Q) : f_X0_follow (hp (wB S b Q) c) b r (nI L) = some (bI (fol N (S.1 b 6) (S.1 b 5) dg L 0 Q).1, hp (wB S b (fol N (S.1 b 6) (S.1 b 5) dg L 0 Q).2) c) := by
  unfold f_X0_follow
  rw [B.ck, Option.bind_some]
  exact isB.follow_loop B hN h6 hl hr hrb hL hd L 0 1048576 Q (by omega) (by omega) V
theorem isB.clear (B : isB b) : ∃ S', f_X0_clear (hp S c) b = some (hp S' c) ∧ (∀ k, k < 36 → S'.1 (b + 1) k = 0) ∧ (∀ k, k < 6 → S'.1 (b + 2) k = 0 ∧ S'.1 (b + 3) k = 0 ∧ S'.1 (b + 4) k = 0) ∧ (∀ k, 4 ≤ k → k < 9 → S'.1 b k = 0) ∧ fr b (b + 4) S' S := by
  have l1 : ∀ (m k n : Nat) (T : XS), k + m = 36 → m < n → (∀ j, j < k → T.1 (b + 1) j = 0) → fr b (b + 4) T S → ∃ T', f_X0_clear_b2 n (hp T c) b (nI k) = f_X0_clear_b26 1048576 (hp T' c) b (nI 0) ∧ (∀ j, j < 36 → T'.1 (b + 1) j = 0) ∧ fr b (b + 4) T' S := by
    intro m
    induction m with
    | zero =>
      intro k n T hk hn h1 h2
      obtain ⟨n, rfl⟩ : ∃ q, n = q + 1 := ⟨n - 1, by omega⟩
      refine ⟨T, ?_, fun j hj => h1 j (by omega), h2⟩
      rw [f_X0_clear_b2, B.g0, Option.bind_some, B.n1, Option.bind_some, if_pos (nI_le (by omega) (by omega))]
      rfl
    | succ m ih =>
      intro k n T hk hn h1 h2
      obtain ⟨n, rfl⟩ : ∃ q, n = q + 1 := ⟨n - 1, by omega⟩
      rw [f_X0_clear_b2, B.g0, Option.bind_some, B.n1, Option.bind_some, if_neg (nI_ge (by omega) (by omega)), Option.bind_some, B.q1 (by omega), Option.bind_some, nI_1]
      refine ih (k + 1) n _ (by omega) (by omega) (fun j hj => ?_) (fr.trans h2 (fr.wA (by omega) (by omega)))
      rw [wA_same]
      by_cases e : j = k
      · rw [e, upd_same]
      · rw [upd_ne e]
        exact h1 j (by omega)
  have l2 : ∀ (m k n : Nat) (T : XS), k + m = 6 → m < n → (∀ j, j < 36 → T.1 (b + 1) j = 0) → (∀ j, j < k → T.1 (b + 2) j = 0 ∧ T.1 (b + 3) j = 0 ∧ T.1 (b + 4) j = 0) → fr b (b + 4) T S → ∃ S', f_X0_clear_b26 n (hp T c) b (nI k) = some (hp S' c) ∧ (∀ k, k < 36 → S'.1 (b + 1) k = 0) ∧ (∀ k, k < 6 → S'.1 (b + 2) k = 0 ∧ S'.1 (b + 3) k = 0 ∧ S'.1 (b + 4) k = 0) ∧ (∀ k, 4 ≤ k → k < 9 → S'.1 b k = 0) ∧ fr b (b + 4) S' S := by
    intro m
    induction m with
    | zero =>
      intro k n T hk hn h0 h1 h2
      obtain ⟨n, rfl⟩ : ∃ q, n = q + 1 := ⟨n - 1, by omega⟩
      rw [f_X0_clear_b26, if_pos (by rw [show (6 : Int32) = nI 6 from rfl]; exact nI_le (by omega) (by omega)), B.p4, Option.bind_some, B.p5, Option.bind_some, B.p6, Option.bind_some, B.p7, Option.bind_some, B.p8, Option.bind_some]
      refine ⟨_, rfl, fun j hj => ?_, fun j hj => ?_, fun j h4 h9 => ?_, ?_⟩
      · simp only [wA_wA]
        rw [wA_ne (by omega)]
        exact h0 j hj
      · simp only [wA_wA]
        rw [wA_ne (by omega), wA_ne (by omega), wA_ne (by omega)]
        exact h1 j (by omega)
      · simp only [wA_wA, wA_same, upd]
        rcases (by omega : j = 4 ∨ j = 5 ∨ j = 6 ∨ j = 7 ∨ j = 8) with rfl | rfl | rfl | rfl | rfl <;> simp
      · simp only [wA_wA]
        exact fr.trans h2 (fr.wA (by omega) (by omega))
    | succ m ih =>
      intro k n T hk hn h0 h1 h2
      obtain ⟨n, rfl⟩ : ∃ q, n = q + 1 := ⟨n - 1, by omega⟩
      rw [f_X0_clear_b26, if_neg (by rw [show (6 : Int32) = nI 6 from rfl]; exact nI_ge (by omega) (by omega)), B.g1, Option.bind_some, B.q2 (by omega), Option.bind_some, B.g2, Option.bind_some, B.q3 (by omega), Option.bind_some, B.g3, Option.bind_some, B.q4 (by omega), Option.bind_some, nI_1]
      refine ih (k + 1) n _ (by omega) (by omega) (fun j hj => ?_) (fun j hj => ?_) (fr.trans (fr.trans (fr.trans h2 (fr.wA (by omega) (by omega))) (fr.wA (by omega) (by omega))) (fr.wA (by omega) (by omega)))
      · rw [wA_ne (by omega), wA_ne (by omega), wA_ne (by omega)]
        exact h0 j hj
      · rw [wA_same, wA_ne (show b + 2 ≠ b + 4 by omega), wA_ne (show b + 2 ≠ b + 3 by omega), wA_same, wA_ne (show b + 3 ≠ b + 4 by omega), wA_same, wA_ne (show b + 4 ≠ b + 3 by omega), wA_ne (show b + 4 ≠ b + 2 by omega), wA_ne (show b + 3 ≠ b + 2 by omega)]
        by_cases e : j = k
        · rw [e, upd_same, upd_same, upd_same]
          exact ⟨rfl, rfl, rfl⟩
        · rw [upd_ne e, upd_ne e, upd_ne e]
          exact h1 j (by omega)
  unfold f_X0_clear
  rw [B.ck, Option.bind_some]
  obtain ⟨T', e, h1, h2⟩ := l1 36 0 1048576 S (by omega) (by omega) (fun j hj => by omega) fr.refl
  obtain ⟨S', e', r⟩ := l2 6 0 1048576 T' (by omega) (by omega) h1 (fun j hj => by omega) h2
  exact ⟨S', e.trans e', r⟩
end WB
