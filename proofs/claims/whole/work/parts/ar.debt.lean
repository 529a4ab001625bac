/-! GIVES, FORGIVES: a debt is set anew -/
def sdF (D : Nat → Int32) (x y : Nat) (v : Int32) : Nat → Int32 := upd (upd D (6 * x + y) v) (6 * y + x) (-v)
theorem sdF_far {D : Nat → Int32} {x y i : Nat} {v : Int32} (hx : x < 6) (hy : y < 6) (hi : 36 ≤ i) : sdF D x y v i = D i := by
  unfold sdF
  rw [upd_ne (by omega), upd_ne (by omega)]
theorem rOk_sd {N x y : Nat} {lim v : Int32} {row : Nat → Int32} (r : rOk N lim row) (h6 : N ≤ 6) (hx : x < N) (hy : y < N) (hne : x ≠ y) (h99 : lim.toInt ≤ 99) (h1 : v.toInt ≤ lim.toInt) (h2 : -lim.toInt ≤ v.toInt) : rOk N lim (sdF row x y v) := by
  obtain ⟨⟨a, b, d⟩, e, m, m1, m2⟩ := r
  have neg : (-v).toInt = -v.toInt := neg_to (by omega) (by omega)
  have at' : ∀ s t, s < 6 → t < 6 → sdF row x y v (6 * s + t) = if s = y ∧ t = x then -v else if s = x ∧ t = y then v else row (6 * s + t) := by
    intro s t hs ht
    unfold sdF
    by_cases c1 : s = y ∧ t = x
    · rw [if_pos c1, c1.1, c1.2, upd_same]
    · rw [if_neg c1, upd_ne (by omega)]
      by_cases c2 : s = x ∧ t = y
      · rw [if_pos c2, c2.1, c2.2, upd_same]
      · rw [if_neg c2, upd_ne (by omega)]
  refine ⟨⟨fun s t hs ht => ?_, fun s t hs ht => ?_, fun k hk => ?_⟩, fun s t hs ht o => ?_, m, m1, by rw [sdF_far (by omega) (by omega) (by decide)]; exact m2⟩
  · show (sdF row x y v (6 * s + t)).toInt = -(sdF row x y v (6 * t + s)).toInt ∧ (sdF row x y v (6 * s + t)).toInt ≤ 99
    have q : (row (6 * s + t)).toInt = -(row (6 * t + s)).toInt ∧ (row (6 * s + t)).toInt ≤ 99 := a s t hs ht
    rw [at' s t hs ht, at' t s ht hs]
    by_cases c1 : s = y ∧ t = x
    · rw [if_pos c1, if_neg (by omega), if_pos (by omega), neg]
      omega
    · rw [if_neg c1]
      by_cases c2 : s = x ∧ t = y
      · rw [if_pos c2, if_pos (by omega), neg]
        omega
      · rw [if_neg c2, if_neg (by omega), if_neg (by omega)]
        exact q
  · show (sdF row x y v (6 * s + t)).toInt ≤ lim.toInt
    have q : (row (6 * s + t)).toInt ≤ lim.toInt := b s t hs ht
    rw [at' s t hs ht]
    by_cases c1 : s = y ∧ t = x
    · rw [if_pos c1, neg]
      omega
    · rw [if_neg c1]
      by_cases c2 : s = x ∧ t = y
      · rw [if_pos c2]
        exact h1
      · rw [if_neg c2]
        exact q
  · show ∃ w, w < 1000003 ∧ sdF row x y v (36 + k) = nI w
    rw [sdF_far (by omega) (by omega) (by omega)]
    exact d k hk
  · rw [at' s t hs ht, if_neg (by omega), if_neg (by omega)]
    exact e s t hs ht o
