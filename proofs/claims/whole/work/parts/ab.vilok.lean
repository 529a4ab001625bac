/-! A VILLAGE that was read can stand -/
section VO
variable {T : Nat → Int32} {L : Nat}
theorem spVl_mono : ∀ (m : Nat) (V : VD) (p : Nat), p ≤ L → ∀ f, spVl T L m V p = .inl f → f ≤ L
  | 0, V, p, hp, f, h => by
    cases h
    exact hp
  | m + 1, V, p, hp, f, h => by
    have hm := spCl_mono (T := T) (V := V) hp
    unfold spVl at h
    cases hs : spCl T L V p with
    | inl g =>
      rw [hs] at h
      have e : g = f := Sum.inl.inj h
      rw [← e]
      exact hm.1 g hs
    | inr Vq =>
      obtain ⟨V', q⟩ := Vq
      have h2 := hm.2 V' q hs
      rw [hs] at h
      dsimp only at h
      by_cases c1 : pk T L q = 59
      · rw [if_pos c1] at h
        exact spVl_mono m V' _ (pk_sk1 (by rw [c1]; decide)).1 f h
      · rw [if_neg c1] at h
        by_cases c2 : pk T L q = -1
        · rw [if_pos c2] at h
          by_cases c3 : whl V' = true
          · rw [if_pos c3] at h
            cases h
          · rw [if_neg c3] at h
            cases h
            exact sk_le h2.2.1
        · rw [if_neg c2] at h
          cases h
          exact sk_le h2.2.1
theorem spVl_whl : ∀ (m : Nat) (V : VD) (p : Nat) (W : VD), spVl T L m V p = .inr W → whl W = true
  | 0, V, p, W, h => by cases h
  | m + 1, V, p, W, h => by
    unfold spVl at h
    cases hs : spCl T L V p with
    | inl g =>
      rw [hs] at h
      cases h
    | inr Vq =>
      obtain ⟨V', q⟩ := Vq
      rw [hs] at h
      dsimp only at h
      by_cases c1 : pk T L q = 59
      · rw [if_pos c1] at h
        exact spVl_whl m V' _ W h
      · rw [if_neg c1] at h
        by_cases c2 : pk T L q = -1
        · rw [if_pos c2] at h
          by_cases c3 : whl V' = true
          · rw [if_pos c3] at h
            cases h
            exact c3
          · rw [if_neg c3] at h
            cases h
        · rw [if_neg c2] at h
          cases h
theorem neg_to {v : Int32} (h1 : -1000 ≤ v.toInt) (h2 : v.toInt ≤ 1000) : (-v).toInt = -v.toInt := by
  rw [Int32.toInt_neg]
  exact Int.bmod_eq_of_le (by omega) (by omega)
theorem kp_tab : ∀ h, h < 6 → ∀ q, q < 2 → ∀ m, m < 64 → m < 2 ^ h → nI m ||| shl (nI q) (nI h) = nI (m + q * 2 ^ h) := by decide +kernel
theorem lyK_m {td : Nat → Int32} : ∀ (n : Nat), n ≤ 6 → (∀ h, h < n → ∃ q, q ≤ 1 ∧ td (3 * h + 2) = nI q) → ∃ m, m < 2 ^ n ∧ lyK td n = nI m
  | 0, _, _ => ⟨0, by decide, rfl⟩
  | n + 1, h6, h => by
    obtain ⟨m, m1, m2⟩ := lyK_m n (by omega) (fun k hk => h k (by omega))
    obtain ⟨q, q1, q2⟩ := h n (by omega)
    refine ⟨m + q * 2 ^ n, ?_, ?_⟩
    · rw [Nat.pow_succ]
      have : q * 2 ^ n ≤ 1 * 2 ^ n := Nat.mul_le_mul_right _ q1
      omega
    · show lyK td n ||| shl (td (3 * n + 2)) (nI n) = _
      have : 2 ^ n ≤ 2 ^ 6 := Nat.pow_le_pow_right (by decide) (by omega)
      rw [m2, q2, kp_tab n (by omega) q (by omega) m (by omega) m1]
theorem vl_ok {V : VD} (h : vIn V) (w : whl V = true) : 2 ≤ V.2.1.1 ∧ V.2.1.1 ≤ 6 ∧ V.2.2.1.1 ≤ 12 ∧ 0 ≤ V.2.2.2.2.toInt ∧ V.2.2.2.2.toInt ≤ 99 ∧ (∀ k, k < V.2.2.1.1 → ∃ a b n, a < V.2.1.1 ∧ b < V.2.1.1 ∧ a ≠ b ∧ 1 ≤ n ∧ n ≤ 9 ∧ V.2.2.1.2 (3 * k) = nI a ∧ V.2.2.1.2 (3 * k + 1) = nI b ∧ V.2.2.1.2 (3 * k + 2) = nI n) ∧ (∀ j, j < V.2.1.1 → ∃ w t q, w ≤ 9 ∧ t ≤ 9 ∧ q ≤ 1 ∧ V.2.1.2 (3 * j) = nI w ∧ V.2.1.2 (3 * j + 1) = nI t ∧ V.2.1.2 (3 * j + 2) = nI q) ∧ rOk V.2.1.1 V.2.2.2.2 (lyR V.2.2.1.2 V.2.1.2 V.2.2.2.1 V.2.2.1.1 V.2.1.1) := by
  obtain ⟨h1, h2, h3, h4, h5, h6⟩ := h
  unfold whl at w
  rw [Bool.and_eq_true, Bool.and_eq_true, Bool.not_eq_true', Bool.not_eq_true', decide_eq_true_eq, anyB_no, anyB_no] at w
  obtain ⟨⟨w1, w2⟩, w3⟩ := w
  obtain ⟨r, hr, er, r1⟩ := inI_nat (hi := 99) (by decide) (by decide) h4
  have r1' : 1 ≤ r := by
    have : (1 : Int32).toInt = 1 := by decide
    omega
  have tr : V.2.2.2.2.toInt = r := by rw [er, nI_toInt (by omega)]
  have b5 : ∀ k, k < V.2.2.1.1 → inI 0 5 (V.2.2.1.2 (3 * k)) ∧ inI 0 5 (V.2.2.1.2 (3 * k + 1)) := fun k hk => ⟨(h6 k hk).1, (h6 k hk).2.1⟩
  have hf : ∀ k, k < V.2.2.1.1 → ∃ a b n, a < V.2.1.1 ∧ b < V.2.1.1 ∧ a ≠ b ∧ 1 ≤ n ∧ n ≤ 9 ∧ V.2.2.1.2 (3 * k) = nI a ∧ V.2.2.1.2 (3 * k + 1) = nI b ∧ V.2.2.1.2 (3 * k + 2) = nI n := by
    intro k hk
    obtain ⟨x, hx, ex⟩ := in5 (b5 k hk).1
    obtain ⟨y, hy, ey⟩ := in5 (b5 k hk).2
    obtain ⟨z, hz, ez, z1⟩ := inI_nat (hi := 9) (by decide) (by decide) (h6 k hk).2.2
    have z1' : 1 ≤ z := by
      have : (1 : Int32).toInt = 1 := by decide
      omega
    have q := w1 k hk
    rw [Bool.or_eq_false_iff, Bool.or_eq_false_iff, decide_eq_false_iff_not, decide_eq_false_iff_not, decide_eq_false_iff_not, ex, ey, nI_leI (by omega) (by omega), nI_leI (by omega) (by omega), nI_eq (by omega) (by omega)] at q
    exact ⟨x, y, z, by omega, by omega, by omega, z1', hz, ex, ey, ez⟩
  have ht : ∀ j, j < V.2.1.1 → ∃ w t q, w ≤ 9 ∧ t ≤ 9 ∧ q ≤ 1 ∧ V.2.1.2 (3 * j) = nI w ∧ V.2.1.2 (3 * j + 1) = nI t ∧ V.2.1.2 (3 * j + 2) = nI q := by
    intro j hj
    obtain ⟨a1, a2, a3⟩ := h5 j hj
    obtain ⟨x, hx, ex, -⟩ := inI_nat (hi := 9) (by decide) (by decide) a1
    obtain ⟨y, hy, ey, -⟩ := inI_nat (hi := 9) (by decide) (by decide) a2
    obtain ⟨z, hz, ez, -⟩ := inI_nat (hi := 1) (by decide) (by decide) a3
    exact ⟨x, y, z, hx, hy, hz, ex, ey, ez⟩
  have hout : ∀ a b, a < 6 → b < 6 → (V.2.1.1 ≤ a ∨ V.2.1.1 ≤ b) → lyD V.2.2.1.2 V.2.2.1.1 (6 * a + b) = 0 := ly_out h1 V.2.2.1.1 (fun k hk => by
    obtain ⟨a, b, n, p1, p2, -, -, -, p3, p4, -⟩ := hf k hk
    exact ⟨a, b, p1, p2, p3, p4⟩)
  have hdi := ly_diag V.2.2.1.1 b5
  -- what two have between them, up to the limit
  have hlow : ∀ a b, a < V.2.1.1 → b < a → -(r : Int) ≤ (lyD V.2.2.1.2 V.2.2.1.1 (6 * a + b)).toInt ∧ (lyD V.2.2.1.2 V.2.2.1.1 (6 * a + b)).toInt ≤ r := by
    intro a b ha hb
    have q := w2 a ha
    rw [anyB_no] at q
    have q := q b hb
    rw [Bool.not_eq_false', decide_eq_true_eq, ← ly_btw V.2.2.1.1 b5 a b (by omega) (by omega) (by omega)] at q
    have hb1 := ly_abs V.2.2.1.1 h2 (fun k hk => h6 k hk) a b (by omega) (by omega) (by omega)
    rw [Int32.le_iff_toInt_le, zi_abs (by omega), tr] at q
    omega
  have hneg : ∀ a b, a < 6 → b < 6 → a ≠ b → (lyD V.2.2.1.2 V.2.2.1.1 (6 * b + a)).toInt = -(lyD V.2.2.1.2 V.2.2.1.1 (6 * a + b)).toInt := by
    intro a b ha hb hne
    have hb1 := ly_abs V.2.2.1.1 h2 (fun k hk => h6 k hk) a b ha hb hne
    rw [lyD_anti V.2.2.1.1 b5 a b ha hb, zi_neg (by omega)]
  have hlim : ∀ a b, a < 6 → b < 6 → -(r : Int) ≤ (lyD V.2.2.1.2 V.2.2.1.1 (6 * a + b)).toInt ∧ (lyD V.2.2.1.2 V.2.2.1.1 (6 * a + b)).toInt ≤ r := by
    intro a b ha hb
    by_cases o : V.2.1.1 ≤ a ∨ V.2.1.1 ≤ b
    · rw [hout a b ha hb o]
      show -(r : Int) ≤ 0 ∧ (0 : Int) ≤ r
      omega
    · rcases Nat.lt_trichotomy a b with z | z | z
      · have q1 := hneg b a hb ha (by omega)
        have q2 := hlow b a (by omega) z
        omega
      · subst z
        rw [hdi a ha]
        show -(r : Int) ≤ 0 ∧ (0 : Int) ≤ r
        omega
      · exact hlow a b (by omega) z
  have row36 : ∀ k, k < 36 → lyR V.2.2.1.2 V.2.1.2 V.2.2.2.1 V.2.2.1.1 V.2.1.1 k = lyD V.2.2.1.2 V.2.2.1.1 k := fun k hk => if_pos hk
  refine ⟨w3, h1, h2, by omega, by omega, hf, ht, ⟨?_, ?_, ?_⟩, ?_, ?_⟩
  · intro a b ha hb
    show (lyR _ _ _ _ _ (6 * a + b)).toInt = -(lyR _ _ _ _ _ (6 * b + a)).toInt ∧ (lyR _ _ _ _ _ (6 * a + b)).toInt ≤ 99
    rw [row36 _ (by omega), row36 _ (by omega)]
    have := hlim a b ha hb
    refine ⟨?_, by omega⟩
    by_cases e : a = b
    · subst e
      rw [hdi a ha]
      rfl
    · have := hneg a b ha hb e
      omega
  · intro a b ha hb
    show (lyR _ _ _ _ _ (6 * a + b)).toInt ≤ _
    rw [row36 _ (by omega), tr]
    exact (hlim a b ha hb).2
  · intro k hk
    show ∃ w, w < 1000003 ∧ lyR V.2.2.1.2 V.2.1.2 V.2.2.2.1 V.2.2.1.1 V.2.1.1 (36 + k) = nI w
    unfold lyR
    rw [if_neg (by omega), if_pos (by omega), show 36 + k - 36 = k by omega]
    by_cases e : k < V.2.1.1
    · obtain ⟨w, t, q, q1, q2, q3, q4, -⟩ := ht k e
      rw [if_pos e]
      exact ⟨w, by omega, q4⟩
    · rw [if_neg e]
      exact ⟨0, by decide, rfl⟩
  · intro a b ha hb o
    rw [row36 _ (by omega)]
    exact hout a b ha hb o
  · obtain ⟨m, m1, m2⟩ := lyK_m (td := V.2.1.2) V.2.1.1 h1 (fun j hj => by
      obtain ⟨-, -, q, -, -, q1, -, -, q2⟩ := ht j hj
      exact ⟨q, q1, q2⟩)
    refine ⟨m, m1, ?_⟩
    unfold lyR
    rw [if_neg (by decide), if_neg (by decide), if_pos rfl, m2]
end VO
