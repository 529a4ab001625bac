/-! powers and inverses, of the class and of the reference -/
theorem lrem_N {a : Nat} (h : a < 2 ^ 63) : lrem (lN a) (1000003 : Int64) = lN (a % 1000003) := by
  unfold lrem
  rw [show (1000003 : Int64) = lN 1000003 from rfl]
  exact pk_lRem h (by decide) (by decide)
theorem mulP {a b : Nat} (ha : a < 1000003) (hb : b < 1000003) : a * b < 2 ^ 63 := by
  have : a * b ≤ 1000003 * 1000003 := Nat.mul_le_mul (by omega) (by omega)
  exact Nat.lt_of_le_of_lt this (by decide)
theorem modP (a : Nat) : a % 1000003 < 1000003 := Nat.mod_lt _ (by decide)
theorem shr1 {e : Nat} (h : e < 2 ^ 31) : shr (nI e) (1 : Int32) = nI (e / 2) := by
  unfold shr
  rw [pk_shrN h _ 1 (by decide)]
theorem and1 {e : Nat} (h : e < 2 ^ 31) : nI e &&& (1 : Int32) = nI (e % 2) := by
  rw [pk_andN (by omega) 1 (by decide)]
theorem eq1 {e : Nat} : nI (e % 2) = (1 : Int32) ↔ e % 2 = 1 := by
  rw [show (1 : Int32) = nI 1 from rfl]
  exact nI_eq (by omega) (by omega)
theorem le0 {e : Nat} (h : e < 2 ^ 31) : nI e ≤ 0 ↔ e = 0 := by
  rw [show (0 : Int32) = nI 0 from rfl, nI_leI h (by decide)]
  omega
theorem sq_step {r s e : Nat} (h0 : 0 < e) : (if e % 2 = 1 then r * s % 1000003 else r) * (s * s % 1000003) ^ (e / 2) % 1000003 = r * s ^ e % 1000003 := by
  have h1 : (s * s % 1000003) ^ (e / 2) % 1000003 = s ^ (2 * (e / 2)) % 1000003 := by
    rw [← Nat.pow_mod, ← Nat.pow_two, ← Nat.pow_mul]
  by_cases c : e % 2 = 1
  · rw [if_pos c, Nat.mul_mod, h1, Nat.mod_mod, ← Nat.mul_mod, Nat.mul_assoc, Nat.mul_comm s, ← Nat.pow_succ]
    congr 3
    omega
  · rw [if_neg c, Nat.mul_mod, h1, ← Nat.mul_mod]
    congr 3
    omega
theorem X0_power_loop {h : xa_H} : ∀ (n e r s : Nat), e < n → n < 2 ^ 31 → r < 1000003 → s < 1000003 → f_X0_power_b9 n h (lN r) (lN s) (nI e) = some (lN (r * s ^ e % 1000003)) := by
  intro n
  induction n with
  | zero => intro e r s h1; omega
  | succ n ih =>
    intro e r s h1 h2 hr hs
    rw [f_X0_power_b9]
    by_cases c : e = 0
    · subst c
      rw [if_pos ((le0 (by omega)).mpr rfl), Nat.pow_zero, Nat.mul_one, Nat.mod_eq_of_lt hr]
    · rw [if_neg (fun z => c ((le0 (by omega)).mp z)), and1 (by omega)]
      have hst := sq_step (r := r) (s := s) (e := e) (by omega)
      by_cases c1 : e % 2 = 1
      · rw [if_pos (eq1.mpr c1)]
        unfold f_X0_power_b31
        dsimp only
        rw [lN_mul, lrem_N (mulP hr hs), lN_mul, lrem_N (mulP hs hs), shr1 (by omega), ih _ _ _ (by omega) (by omega) (modP _) (modP _)]
        rw [if_pos c1] at hst
        rw [hst]
      · rw [if_neg (fun z => c1 (eq1.mp z))]
        unfold f_X0_power_b31
        dsimp only
        rw [lN_mul, lrem_N (mulP hs hs), shr1 (by omega), ih _ _ _ (by omega) (by omega) hr (modP _)]
        rw [if_neg c1] at hst
        rw [hst]
theorem X0_power {h : xa_H} {w e : Nat} (hw : w < 1000003) (he : e < 1000) : f_X0_power h (nI w) (nI e) = some (lN (w ^ e % 1000003)) := by
  unfold f_X0_power
  rw [nI_l (by omega), show (1 : Int64) = lN 1 from rfl, X0_power_loop _ _ _ _ (by omega) (by decide) (by decide) hw, Nat.one_mul]
theorem X12_power_loop {h : xa_H} {w e : Nat} (hw : w < 1000003) (he : e < 1000) : ∀ (m k n : Nat), k + m = e → m < n → f_X12_power_b5 n h (lN w) (nI e) (lN (w ^ k % 1000003)) (nI k) = some (lN (w ^ e % 1000003))
  | 0, k, 0, _, hn => by omega
  | 0, k, n + 1, hk, _ => by
    rw [f_X12_power_b5, if_pos (nI_le (by omega) (by omega)), show k = e by omega]
  | m + 1, k, 0, _, hn => by omega
  | m + 1, k, n + 1, hk, hn => by
    rw [f_X12_power_b5, if_neg (nI_ge (by omega) (by omega)), lN_mul, lrem_N (mulP (modP _) hw), nI_1]
    have e1 : w ^ k % 1000003 * w % 1000003 = w ^ (k + 1) % 1000003 := by
      rw [Nat.pow_succ, Nat.mul_mod, Nat.mod_mod, ← Nat.mul_mod]
    rw [e1]
    exact X12_power_loop hw he m (k + 1) n (by omega) (by omega)
theorem X12_power {h : xa_H} {w e : Nat} (hw : w < 1000003) (he : e < 1000) : f_X12_power h (lN w) (nI e) = some (lN (w ^ e % 1000003)) := by
  unfold f_X12_power
  have := X12_power_loop (h := h) hw he e 0 1048576 (by omega) (by omega)
  rw [Nat.pow_zero] at this
  exact this
theorem irem2 {e : Nat} (h : e < 2 ^ 31) : irem (nI e) (2 : Int32) = nI (e % 2) := by
  unfold irem
  rw [show (2 : Int32) = nI 2 from rfl]
  exact pk_rem h (by decide) (by decide)
theorem idiv2 {e : Nat} (h : e < 2 ^ 31) : nI e / (2 : Int32) = nI (e / 2) := by
  rw [show (2 : Int32) = nI 2 from rfl]
  exact pk_div h (by decide) (by decide)
theorem X12_inv_loop {h : xa_H} : ∀ (n e r s : Nat), e < 2 ^ n → n < 31 → r < 1000003 → s < 1000003 → f_X12_inverse_b10 (n + 1) h (lN r) (lN s) (nI e) = some (lN (r * s ^ e % 1000003)) := by
  intro n
  induction n with
  | zero =>
    intro e r s h1 h2 hr hs
    have : e = 0 := by simpa using h1
    subst this
    rw [f_X12_inverse_b10, if_pos ((le0 (by omega)).mpr rfl), Nat.pow_zero, Nat.mul_one, Nat.mod_eq_of_lt hr]
  | succ n ih =>
    intro e r s h1 h2 hr hs
    have he : e < 2 ^ 31 := Nat.lt_of_lt_of_le h1 (Nat.pow_le_pow_right (by decide) (by omega))
    have he2 : e / 2 < 2 ^ n := by rw [Nat.pow_succ] at h1; omega
    rw [f_X12_inverse_b10]
    by_cases c : e = 0
    · subst c
      rw [if_pos ((le0 (by omega)).mpr rfl), Nat.pow_zero, Nat.mul_one, Nat.mod_eq_of_lt hr]
    · rw [if_neg (fun z => c ((le0 he).mp z)), irem2 he]
      have hst := sq_step (r := r) (s := s) (e := e) (by omega)
      by_cases c1 : e % 2 = 1
      · rw [if_pos (eq1.mpr c1)]
        unfold f_X12_inverse_b32
        dsimp only
        rw [lN_mul, lrem_N (mulP hr hs), lN_mul, lrem_N (mulP hs hs), idiv2 he, ih _ _ _ he2 (by omega) (modP _) (modP _)]
        rw [if_pos c1] at hst
        rw [hst]
      · rw [if_neg (fun z => c1 (eq1.mp z))]
        unfold f_X12_inverse_b32
        dsimp only
        rw [lN_mul, lrem_N (mulP hs hs), idiv2 he, ih _ _ _ he2 (by omega) hr (modP _)]
        rw [if_neg c1] at hst
        rw [hst]
/-- more fuel -/
theorem X12_inv_more {h : xa_H} : ∀ (n : Nat) (l2 l4 : Int64) (l6 : Int32) (r : Int64), f_X12_inverse_b10 n h l2 l4 l6 = some r → f_X12_inverse_b10 (n + 1) h l2 l4 l6 = some r := by
  intro n
  induction n with
  | zero => intro l2 l4 l6 r e; cases e
  | succ n ih =>
    intro l2 l4 l6 r e
    rw [f_X12_inverse_b10] at e ⊢
    unfold f_X12_inverse_b32 at e ⊢
    split
    · rename_i c
      rw [if_pos c] at e
      exact e
    · rename_i c
      rw [if_neg c] at e
      split
      · rename_i c1
        rw [if_pos c1] at e
        exact ih _ _ _ _ e
      · rename_i c1
        rw [if_neg c1] at e
        exact ih _ _ _ _ e
theorem X12_inv_fuel {h : xa_H} {n m : Nat} (hnm : n ≤ m) {l2 l4 : Int64} {l6 : Int32} {r : Int64} (e : f_X12_inverse_b10 n h l2 l4 l6 = some r) : f_X12_inverse_b10 m h l2 l4 l6 = some r := by
  induction hnm with
  | refl => exact e
  | step _ ih => exact X12_inv_more _ _ _ _ _ ih
theorem X12_inverse {h : xa_H} {w : Nat} (hw : w < 1000003) : f_X12_inverse h (lN w) = some (lN (w ^ 1000001 % 1000003)) := by
  unfold f_X12_inverse
  rw [show (1 : Int64) = lN 1 from rfl, show (1000001 : Int32) = nI 1000001 from rfl]
  have := X12_inv_loop (h := h) 20 1000001 1 w (by decide) (by decide) (by decide) hw
  rw [Nat.one_mul] at this
  exact X12_inv_fuel (by decide) this
