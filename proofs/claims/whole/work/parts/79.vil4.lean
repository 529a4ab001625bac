/-! VILLAGES: whether what was told can stand -/
section W1
variable {fv : Nat → Int32}
theorem ly_step {n x y a b : Nat} (ex : fv (3 * n) = nI x) (ey : fv (3 * n + 1) = nI y) (hx : x < 6) (hy : y < 6) (ha : a < 6) (hb : b < 6) (hne : a ≠ b) : lyD fv (n + 1) (6 * a + b) = if a = y ∧ b = x then lyD fv n (6 * a + b) - fv (3 * n + 2) else if a = x ∧ b = y then lyD fv n (6 * a + b) + fv (3 * n + 2) else lyD fv n (6 * a + b) := by
  rw [lyD_succ, ex, ey, tn_nI (by omega), tn_nI (by omega), upd6 hb hx, upd6 hb hy, upd6 hx hy]
  by_cases c1 : a = y ∧ b = x
  · rw [if_pos c1, if_pos c1, if_neg (fun z => hne (by omega)), c1.1, c1.2]
  · rw [if_neg c1, if_neg c1]
    by_cases c2 : a = x ∧ b = y
    · rw [if_pos c2, if_pos c2, c2.1, c2.2]
    · rw [if_neg c2, if_neg c2]
theorem ly_btw : ∀ (n : Nat), (∀ k, k < n → inI 0 5 (fv (3 * k)) ∧ inI 0 5 (fv (3 * k + 1))) → ∀ a b, a < 6 → b < 6 → a ≠ b → lyD fv n (6 * a + b) = btw fv (nI a) (nI b) n
  | 0, _, a, b, _, _, _ => rfl
  | n + 1, h, a, b, ha, hb, hne => by
    obtain ⟨x, hx, ex⟩ := in5 (h n (by omega)).1
    obtain ⟨y, hy, ey⟩ := in5 (h n (by omega)).2
    have ih := ly_btw n (fun k hk => h k (by omega)) a b ha hb hne
    rw [ly_step ex ey hx hy ha hb hne]
    unfold btw
    rw [ex, ey, ← ih]
    simp only [nI_eq (show x < 2 ^ 31 by omega) (show a < 2 ^ 31 by omega), nI_eq (show x < 2 ^ 31 by omega) (show b < 2 ^ 31 by omega), nI_eq (show y < 2 ^ 31 by omega) (show a < 2 ^ 31 by omega), nI_eq (show y < 2 ^ 31 by omega) (show b < 2 ^ 31 by omega)]
    by_cases c1 : a = y ∧ b = x
    · rw [if_pos c1, if_pos (c := x = b ∧ y = a) ⟨c1.2.symm, c1.1.symm⟩, if_neg (fun z => hne (by omega))]
    · rw [if_neg c1, if_neg (c := x = b ∧ y = a) (fun z => c1 ⟨z.2.symm, z.1.symm⟩)]
      by_cases c2 : a = x ∧ b = y
      · rw [if_pos c2, if_pos ⟨c2.1.symm, c2.2.symm⟩]
      · rw [if_neg c2, if_neg (fun z => c2 ⟨z.1.symm, z.2.symm⟩)]
theorem ly_diag : ∀ (n : Nat), (∀ k, k < n → inI 0 5 (fv (3 * k)) ∧ inI 0 5 (fv (3 * k + 1))) → ∀ a, a < 6 → lyD fv n (6 * a + a) = 0
  | 0, _, a, _ => rfl
  | n + 1, h, a, ha => by
    obtain ⟨x, hx, ex⟩ := in5 (h n (by omega)).1
    obtain ⟨y, hy, ey⟩ := in5 (h n (by omega)).2
    have ih := ly_diag n (fun k hk => h k (by omega))
    rw [lyD_succ, ex, ey, tn_nI (by omega), tn_nI (by omega), upd6 ha hx, upd6 ha hy, upd6 hx hy]
    by_cases c1 : a = y ∧ a = x
    · rw [if_pos c1, if_pos (by omega), Int32.add_sub_cancel, ← c1.1, ← c1.2]
      exact ih a ha
    · rw [if_neg c1, if_neg (fun z => c1 ⟨z.2, z.1⟩)]
      exact ih a ha
theorem ly_abs : ∀ (n : Nat), n ≤ 12 → (∀ k, k < n → inI 0 5 (fv (3 * k)) ∧ inI 0 5 (fv (3 * k + 1)) ∧ inI 1 9 (fv (3 * k + 2))) → ∀ a b, a < 6 → b < 6 → a ≠ b → -(9 * n : Int) ≤ (lyD fv n (6 * a + b)).toInt ∧ (lyD fv n (6 * a + b)).toInt ≤ 9 * n
  | 0, _, _, a, b, _, _, _ => by
    show -(9 * ((0 : Nat) : Int)) ≤ (0 : Int32).toInt ∧ (0 : Int32).toInt ≤ 9 * ((0 : Nat) : Int)
    decide
  | n + 1, hn, h, a, b, ha, hb, hne => by
    obtain ⟨x, hx, ex⟩ := in5 (h n (by omega)).1
    obtain ⟨y, hy, ey⟩ := in5 (h n (by omega)).2.1
    obtain ⟨w, hw, ew, -⟩ := inI_nat (hi := 9) (by decide) (by decide) (h n (by omega)).2.2
    have ih := ly_abs n (by omega) (fun k hk => h k (by omega)) a b ha hb hne
    rw [ly_step ex ey hx hy ha hb hne, ew]
    have hwi : (nI w).toInt = w := nI_toInt (by omega)
    generalize lyD fv n (6 * a + b) = d at *
    by_cases c1 : a = y ∧ b = x
    · rw [if_pos c1, zi (z := d.toInt - (nI w).toInt) (by rw [Int32.ofInt_sub, Int32.ofInt_toInt, Int32.ofInt_toInt]) (by omega) (by omega)]
      omega
    · rw [if_neg c1]
      by_cases c2 : a = x ∧ b = y
      · rw [if_pos c2, zi (z := d.toInt + (nI w).toInt) (by rw [Int32.ofInt_add, Int32.ofInt_toInt, Int32.ofInt_toInt]) (by omega) (by omega)]
        omega
      · rw [if_neg c2]
        omega
theorem ly_out {N : Nat} (hN : N ≤ 6) : ∀ (n : Nat), (∀ k, k < n → ∃ x y, x < N ∧ y < N ∧ fv (3 * k) = nI x ∧ fv (3 * k + 1) = nI y) → ∀ a b, a < 6 → b < 6 → (N ≤ a ∨ N ≤ b) → lyD fv n (6 * a + b) = 0
  | 0, _, a, b, _, _, _ => rfl
  | n + 1, h, a, b, ha, hb, ho => by
    obtain ⟨x, y, hx, hy, ex, ey⟩ := h n (by omega)
    have ih := ly_out hN n (fun k hk => h k (by omega)) a b ha hb ho
    rw [lyD_succ, ex, ey, tn_nI (by omega), tn_nI (by omega), upd6 hb (by omega), upd6 hb (by omega), if_neg (by omega), if_neg (by omega)]
    exact ih
theorem imax_le {u v w : Int32} : imax u v ≤ w ↔ u ≤ w ∧ v ≤ w := by
  unfold imax
  by_cases e : u < v
  · rw [if_pos e]
    exact ⟨fun z => ⟨Int32.le_trans (Int32.le_of_lt e) z, z⟩, fun z => z.2⟩
  · rw [if_neg e]
    exact ⟨fun z => ⟨z, Int32.le_trans (Int32.not_lt.mp e) z⟩, fun z => z.1⟩
theorem imax_lt {u v w : Int32} : imax u v < w ↔ u < w ∧ v < w := by
  unfold imax
  by_cases e : u < v
  · rw [if_pos e]
    exact ⟨fun z => ⟨Int32.lt_trans e z, z⟩, fun z => z.2⟩
  · rw [if_neg e]
    exact ⟨fun z => ⟨z, Int32.lt_of_le_of_lt (Int32.not_lt.mp e) z⟩, fun z => z.1⟩
theorem mF_le {D : Nat → Int32} {w : Int32} (hw : 0 ≤ w) : ∀ n, mF D n ≤ w ↔ ∀ k, k < n → D k ≤ w
  | 0 => ⟨fun _ k hk => by omega, fun _ => hw⟩
  | n + 1 => by
    show imax (mF D n) (D n) ≤ w ↔ _
    rw [imax_le, mF_le hw n]
    constructor
    · rintro ⟨h1, h2⟩ k hk
      by_cases e : k = n
      · rw [e]
        exact h2
      · exact h1 k (by omega)
    · intro h
      exact ⟨fun k hk => h k (by omega), h n (by omega)⟩
theorem hn_lt {w : Int32} (hw : -1 < w) : ∀ n, hn fv n < w ↔ ∀ k, k < n → fv (3 * k) < w ∧ fv (3 * k + 1) < w
  | 0 => ⟨fun _ k hk => by omega, fun _ => hw⟩
  | n + 1 => by
    show imax (hn fv n) (imax (fv (3 * n)) (fv (3 * n + 1))) < w ↔ _
    rw [imax_lt, imax_lt, hn_lt hw n]
    constructor
    · rintro ⟨h1, h2⟩ k hk
      by_cases e : k = n
      · rw [e]
        exact h2
      · exact h1 k (by omega)
    · intro h
      exact ⟨fun k hk => h k (by omega), h n (by omega)⟩
end W1
/-- as the class asks it -/
def stnd (V : VD) : Bool := !decide (nI V.2.1.1 < 2) && !decide (nI V.2.1.1 ≤ hn V.2.2.1.2 V.2.2.1.1) && !ownI V.2.2.1.2 V.2.2.1.1 && !decide (V.2.2.2.2 < mF (lyD V.2.2.1.2 V.2.2.1.1) 36)
theorem stnd_whl {V : VD} (h : vIn V) : stnd V = whl V := by
  obtain ⟨h1, h2, h3, h4, h5, h6⟩ := h
  obtain ⟨r, hr, er, r1⟩ := inI_nat (hi := 99) (by decide) (by decide) h4
  have r1' : 1 ≤ r := by
    have : (1 : Int32).toInt = 1 := by decide
    omega
  rw [Bool.eq_iff_iff]
  unfold stnd whl ownI
  simp only [Bool.and_eq_true, Bool.not_eq_true', decide_eq_false_iff_not, decide_eq_true_eq, anyB_no, Bool.or_eq_false_iff]
  have hw : -1 < nI V.2.1.1 := by
    rw [Int32.lt_iff_toInt_lt, nI_toInt (by omega)]
    show (-1 : Int) < _
    omega
  have e2 : (¬ nI V.2.1.1 < 2) ↔ 1 < V.2.1.1 := by
    rw [show (2 : Int32) = nI 2 from rfl, nI_ltI (by omega) (by decide)]
    omega
  have ehn : (¬ nI V.2.1.1 ≤ hn V.2.2.1.2 V.2.2.1.1) ↔ ∀ k, k < V.2.2.1.1 → V.2.2.1.2 (3 * k) < nI V.2.1.1 ∧ V.2.2.1.2 (3 * k + 1) < nI V.2.1.1 := by
    rw [Int32.not_le]
    exact hn_lt hw _
  rw [e2, ehn]
  have b5 : ∀ k, k < V.2.2.1.1 → inI 0 5 (V.2.2.1.2 (3 * k)) ∧ inI 0 5 (V.2.2.1.2 (3 * k + 1)) := fun k hk => ⟨(h6 k hk).1, (h6 k hk).2.1⟩
  have core : (∀ k, k < V.2.2.1.1 → V.2.2.1.2 (3 * k) < nI V.2.1.1 ∧ V.2.2.1.2 (3 * k + 1) < nI V.2.1.1) → ((¬ V.2.2.2.2 < mF (lyD V.2.2.1.2 V.2.2.1.1) 36) ↔ ∀ a, a < V.2.1.1 → ∀ b, b < a → iabs (btw V.2.2.1.2 (nI a) (nI b) V.2.2.1.1) ≤ V.2.2.2.2) := by
    intro hlt
    have hx : ∀ k, k < V.2.2.1.1 → ∃ x y, x < V.2.1.1 ∧ y < V.2.1.1 ∧ V.2.2.1.2 (3 * k) = nI x ∧ V.2.2.1.2 (3 * k + 1) = nI y := by
      intro k hk
      obtain ⟨x, hx, ex⟩ := in5 (b5 k hk).1
      obtain ⟨y, hy, ey⟩ := in5 (b5 k hk).2
      have hl := hlt k hk
      rw [ex, ey, nI_ltI (by omega) (by omega), nI_ltI (by omega) (by omega)] at hl
      exact ⟨x, y, hl.1, hl.2, ex, ey⟩
    have tr : V.2.2.2.2.toInt = r := by rw [er, nI_toInt (by omega)]
    rw [Int32.not_lt, mF_le (by rw [er]; exact nI_pos' (by omega))]
    have ent : ∀ a b, a < 6 → b < 6 → a ≠ b → (iabs (lyD V.2.2.1.2 V.2.2.1.1 (6 * a + b))).toInt = (lyD V.2.2.1.2 V.2.2.1.1 (6 * a + b)).toInt.natAbs ∧ (lyD V.2.2.1.2 V.2.2.1.1 (6 * b + a)).toInt = -(lyD V.2.2.1.2 V.2.2.1.1 (6 * a + b)).toInt := by
      intro a b ha hb hne
      have hb1 := ly_abs V.2.2.1.1 h2 (fun k hk => h6 k hk) a b ha hb hne
      refine ⟨zi_abs (by omega), ?_⟩
      rw [lyD_anti V.2.2.1.1 b5 a b ha hb, zi_neg (by omega)]
    constructor
    · intro z a ha b hb
      have a6 : a < 6 := by omega
      have b6 : b < 6 := by omega
      rw [← ly_btw V.2.2.1.1 b5 a b a6 b6 (by omega)]
      have e := ent a b a6 b6 (by omega)
      have z1 := Int32.le_iff_toInt_le.mp (z (6 * a + b) (by omega))
      have z2 := Int32.le_iff_toInt_le.mp (z (6 * b + a) (by omega))
      rw [Int32.le_iff_toInt_le, e.1]
      rw [e.2] at z2
      omega
    · intro z i hi
      have ea : 6 * (i / 6) + i % 6 = i := by omega
      generalize ha : i / 6 = a at *
      generalize hb : i % 6 = b at *
      have a6 : a < 6 := by omega
      have b6 : b < 6 := by omega
      rw [← ea]
      by_cases e : a = b
      · rw [e, ly_diag V.2.2.1.1 b5 b b6, er]
        exact nI_pos' (by omega)
      · by_cases o : V.2.1.1 ≤ a ∨ V.2.1.1 ≤ b
        · rw [ly_out h1 V.2.2.1.1 hx a b a6 b6 o, er]
          exact nI_pos' (by omega)
        · have t := ent a b a6 b6 e
          have t' := ent b a b6 a6 (fun z => e z.symm)
          rw [Int32.le_iff_toInt_le]
          rcases Nat.lt_or_ge b a with q | q
          · have := Int32.le_iff_toInt_le.mp (z a (by omega) b q)
            rw [← ly_btw V.2.2.1.1 b5 a b a6 b6 e, t.1] at this
            omega
          · have := Int32.le_iff_toInt_le.mp (z b (by omega) a (by omega))
            rw [← ly_btw V.2.2.1.1 b5 b a b6 a6 (fun z => e z.symm), t'.1] at this
            have t2 := t.2
            omega
  constructor
  · rintro ⟨⟨⟨q1, q2⟩, q3⟩, q4⟩
    refine ⟨⟨fun k hk => ⟨⟨?_, ?_⟩, q3 k hk⟩, fun a ha b hb => ?_⟩, q1⟩
    · exact Int32.not_le.mpr (q2 k hk).1
    · exact Int32.not_le.mpr (q2 k hk).2
    · have := (core q2).mp q4 a ha b hb
      rw [Bool.not_eq_false', decide_eq_true_eq]
      exact this
  · rintro ⟨⟨q1, q2⟩, q3⟩
    have q2' : ∀ k, k < V.2.2.1.1 → V.2.2.1.2 (3 * k) < nI V.2.1.1 ∧ V.2.2.1.2 (3 * k + 1) < nI V.2.1.1 := fun k hk => ⟨Int32.not_le.mp (q1 k hk).1.1, Int32.not_le.mp (q1 k hk).1.2⟩
    refine ⟨⟨⟨q3, q2'⟩, fun k hk => (q1 k hk).2⟩, (core q2').mpr fun a ha b hb => ?_⟩
    have := q2 a ha b hb
    rw [Bool.not_eq_false', decide_eq_true_eq] at this
    exact this
