/-! the class's inverse, by Euclid's steps -/
theorem Nat_dvd_pow (w n : Nat) : w ∣ w ^ (n + 1) := ⟨w ^ n, by rw [Nat.pow_succ, Nat.mul_comm]⟩
theorem eu_cop {w : Nat} (h0 : 0 < w) (h1 : w < 1000003) : Nat.gcd 1000003 w = 1 := by
  have hf := fermat w h0 h1
  have g1 : Nat.gcd 1000003 w ∣ 1000003 := Nat.gcd_dvd_left _ _
  have g2 : Nat.gcd 1000003 w ∣ w ^ 1000002 := Nat.dvd_trans (Nat.gcd_dvd_right _ _) (Nat_dvd_pow w 1000001)
  have g3 : Nat.gcd 1000003 w ∣ w ^ 1000002 % 1000003 := (Nat.dvd_mod_iff g1).mpr g2
  rw [hf] at g3
  exact Nat.dvd_one.mp g3
theorem eu_uniq {r w : Nat} (h0 : 0 < w) (h1 : w < 1000003) (hr : r < 1000003) (h : r * w % 1000003 = 1) : r = w ^ 1000001 % 1000003 := by
  have hf := fermat w h0 h1
  have e1 : r * w ^ 1000002 % 1000003 = r := by
    rw [Nat.mul_mod, hf, Nat.mul_one, Nat.mod_mod, Nat.mod_eq_of_lt hr]
  have e2 : r * w ^ 1000002 % 1000003 = w ^ 1000001 % 1000003 := by
    rw [show (1000002 : Nat) = 1000001 + 1 from rfl, Nat.pow_succ, Nat.mul_comm (w ^ 1000001) w, ← Nat.mul_assoc, Nat.mul_mod, h, Nat.one_mul, Nat.mod_mod]
  exact e1.symm.trans e2
theorem eu_end {h : xa_H} {v : Int} {w : Nat} (h0 : 0 < w) (h1 : w < 1000003) (hv : v.natAbs < 1000003) (hc : (1000003 : Int) ∣ 1 - v * w) : f_X0_inverse_b68 h (Int64.ofInt v) = some (lN (w ^ 1000001 % 1000003)) := by
  unfold f_X0_inverse_b68
  refine congrArg some ?_
  by_cases s : 0 ≤ v
  · obtain ⟨m, rfl⟩ := Int.eq_ofNat_of_zero_le s
    have hm : m < 1000003 := by simpa using hv
    have e : m = w ^ 1000001 % 1000003 := eu_uniq h0 h1 hm (by
      obtain ⟨t, ht⟩ := hc
      have : ((m * w % 1000003 : Nat) : Int) = 1 := by
        rw [Int.natCast_emod, Int.natCast_mul]
        have : (m : Int) * w = 1 + 1000003 * (-t) := by
          rw [Int.mul_neg, ← ht]
          omega
        rw [this]
        show (1 + (1000003 : Int) * -t) % 1000003 = 1
        rw [Int.add_mul_emod_self_left]
        rfl
      omega)
    rw [show Int64.ofInt ((m : Nat) : Int) = lN m from Int64.ofInt_eq_ofNat, lrem_N (by omega), Nat.mod_eq_of_lt hm, show (1000003 : Int64) = lN 1000003 from rfl, lN_add]
    have := lrem_N (a := m + 1000003) (by omega)
    rw [show (1000003 : Int64) = lN 1000003 from rfl] at this
    rw [this, Nat.add_mod_right, Nat.mod_eq_of_lt hm, ← e]
  · obtain ⟨m, rfl⟩ : ∃ m : Nat, v = -(m : Int) := ⟨v.natAbs, by omega⟩
    have hm : m < 1000003 := by omega
    have hm0 : 0 < m := by omega
    have e : 1000003 - m = w ^ 1000001 % 1000003 := eu_uniq h0 h1 (by omega) (by
      obtain ⟨t, ht⟩ := hc
      have : (((1000003 - m) * w % 1000003 : Nat) : Int) = 1 := by
        rw [Int.natCast_emod, Int.natCast_mul, Int.natCast_sub (by omega)]
        have : (((1000003 : Nat) : Int) - m) * w = 1 + 1000003 * (w - t) := by
          rw [Int.sub_mul, Int.mul_sub, ← ht, Int.neg_mul]
          omega
        rw [this]
        show (1 + (1000003 : Int) * (w - t)) % 1000003 = 1
        rw [Int.add_mul_emod_self_left]
        rfl
      omega)
    have ht : (Int64.ofInt (-(m : Int))).toInt = -(m : Int) := Int64.toInt_ofInt_of_le (by omega) (by omega)
    have hd : Int64.ofInt (-(m : Int)) / (1000003 : Int64) = 0 := by
      refine Int64.toInt_inj.mp ?_
      rw [Int64.toInt_div_of_ne_right _ _ (by decide), ht, show (1000003 : Int64).toInt = 1000003 from rfl, Int.neg_tdiv, Int.tdiv_eq_zero_of_lt (by omega) (by omega)]
      rfl
    have hl : lrem (Int64.ofInt (-(m : Int))) (1000003 : Int64) = Int64.ofInt (-(m : Int)) := by
      unfold lrem
      rw [hd]
      simp
    rw [hl]
    have ha : Int64.ofInt (-(m : Int)) + (1000003 : Int64) = lN (1000003 - m) := by
      rw [show (1000003 : Int64) = Int64.ofInt 1000003 from rfl, ← Int64.ofInt_add, show -(m : Int) + 1000003 = ((1000003 - m : Nat) : Int) by omega]
      exact Int64.ofInt_eq_ofNat
    rw [ha, lrem_N (by omega), Nat.mod_eq_of_lt (by omega), ← e]
theorem eu_loop {h : xa_H} {w : Nat} (h0 : 0 < w) (h1 : w < 1000003) : ∀ (n cnt a b : Nat) (u v : Int), 41 ≤ n + cnt → b < a → 1 ≤ b → Nat.gcd a b = 1 → a ≤ 1000003 → u.natAbs * b + v.natAbs * a ≤ 1000003 → (1000003 : Int) ∣ a - u * w → (1000003 : Int) ∣ b - v * w → a * b * 2 ^ cnt < 2 ^ 40 → f_X0_inverse_b16 n h (lN a) (lN b) (Int64.ofInt u) (Int64.ofInt v) (nI cnt) = some (lN (w ^ 1000001 % 1000003)) := by
  intro n
  induction n with
  | zero =>
    intro cnt a b u v hn hab hb hg ha hbd c1 c2 hp
    have : 2 ^ 41 ≤ 2 ^ cnt := Nat.pow_le_pow_right (by decide) (by omega)
    have : 1 * 2 ^ cnt ≤ a * b * 2 ^ cnt := Nat.mul_le_mul_right _ (Nat.mul_pos (by omega) (by omega))
    omega
  | succ n ih =>
    intro cnt a b u v hn hab hb hg ha hbd c1 c2 hp
    have hcnt : cnt < 40 := by
      have : 1 * 2 ^ cnt ≤ a * b * 2 ^ cnt := Nat.mul_le_mul_right _ (Nat.mul_pos (by omega) (by omega))
      exact (Nat.pow_lt_pow_iff_right (by decide : 1 < 2)).mp (by omega : 2 ^ cnt < 2 ^ 40)
    rw [f_X0_inverse_b16, if_neg (by rw [show (64 : Int32) = nI 64 from rfl]; exact nI_ge (by omega) (by omega))]
    have hva : v.natAbs * a ≤ 1000003 := by omega
    by_cases e : b ≤ 1
    · have hb1 : b = 1 := by omega
      subst hb1
      rw [if_pos ((lg_cmp_le (lN 1) 1).mpr ((pk_lLE (by decide) (by decide)).mpr (Nat.le_refl 1) : lN 1 ≤ lN 1))]
      refine eu_end h0 h1 ?_ c2
      have : v.natAbs * 2 ≤ v.natAbs * a := Nat.mul_le_mul_left _ (by omega)
      omega
    · have nb : ¬ lN b = 0 := by
        rw [show (0 : Int64) = lN 0 from rfl, pk_lEQ (by omega) (by decide)]
        omega
      rw [if_neg (fun z => by
        have z1 := (lg_cmp_le _ _).mp z
        rw [show (1 : Int64) = lN 1 from rfl, pk_lLE (by omega) (by decide)] at z1
        omega), if_neg nb, if_neg nb]
      have hr0 : 1 ≤ a % b := by
        rcases Nat.eq_zero_or_pos (a % b) with z | z
        · have : b ∣ Nat.gcd a b := Nat.dvd_gcd (Nat.dvd_of_mod_eq_zero z) (Nat.dvd_refl b)
          rw [hg] at this
          have := Nat.le_of_dvd (by decide) this
          omega
        · exact z
      have hlt : a % b < b := Nat.mod_lt _ (by omega)
      have hqa : a / b ≤ a := Nat.div_le_self _ _
      have hdm : a / b * b + a % b = a := Nat.div_add_mod' a b
      have e1 : lrem (lN a) (lN b) = lN (a % b) := pk_lRem (by omega) (by omega) (by omega)
      have e2 : lN a / lN b = lN (a / b) := pk_lDiv (by omega) (by omega) (by omega)
      have e3 : Int64.ofInt u - lN (a / b) * Int64.ofInt v = Int64.ofInt (u - ((a / b : Nat) : Int) * v) := by
        rw [Int64.ofInt_sub, Int64.ofInt_mul, Int64.ofInt_eq_ofNat]
        rfl
      rw [e1, e2, e3, nI_1]
      refine ih (cnt + 1) b (a % b) v (u - ((a / b : Nat) : Int) * v) (by omega) hlt hr0 ?_ (by omega) ?_ c2 ?_ ?_
      · rw [Nat.gcd_comm, ← Nat.gcd_rec, Nat.gcd_comm]
        exact hg
      · have i1 : (u - ((a / b : Nat) : Int) * v).natAbs ≤ u.natAbs + a / b * v.natAbs := by
          have := Int.natAbs_sub_le u (((a / b : Nat) : Int) * v)
          rw [Int.natAbs_mul] at this
          exact this
        have i2 : (u - ((a / b : Nat) : Int) * v).natAbs * b ≤ (u.natAbs + a / b * v.natAbs) * b := Nat.mul_le_mul_right _ i1
        have i3 : (u.natAbs + a / b * v.natAbs) * b = u.natAbs * b + v.natAbs * (a / b * b) := by
          rw [Nat.add_mul, Nat.mul_comm (a / b) v.natAbs, Nat.mul_assoc]
        have i4 : v.natAbs * a = v.natAbs * (a / b * b) + v.natAbs * (a % b) := by
          rw [← Nat.mul_add, hdm]
        omega
      · obtain ⟨t1, ht1⟩ := c1
        obtain ⟨t2, ht2⟩ := c2
        refine ⟨t1 - ((a / b : Nat) : Int) * t2, ?_⟩
        have hi : ((a / b : Nat) : Int) * b + ((a % b : Nat) : Int) = a := by
          rw [← Int.natCast_mul, ← Int.natCast_add, hdm]
        have k1 : ((a % b : Nat) : Int) = a - ((a / b : Nat) : Int) * b := by omega
        rw [k1, Int.sub_mul u, Int.mul_sub, ← ht1, Int.mul_left_comm, ← ht2, Int.mul_sub, Int.mul_assoc]
        omega
      · have : 2 * (a % b) ≤ a := by
          have : 1 * b ≤ a / b * b := Nat.mul_le_mul_right _ (Nat.div_pos (by omega) (by omega))
          omega
        have k1 : b * (a % b) * 2 ≤ a * b := by
          rw [Nat.mul_comm a b, Nat.mul_assoc]
          exact Nat.mul_le_mul_left _ (by omega)
        calc b * (a % b) * 2 ^ (cnt + 1) = b * (a % b) * 2 * 2 ^ cnt := by rw [Nat.pow_succ, Nat.mul_comm (2 ^ cnt) 2, Nat.mul_assoc (b * (a % b))]
          _ ≤ a * b * 2 ^ cnt := Nat.mul_le_mul_right _ k1
          _ < 2 ^ 40 := hp
theorem X0_inverse {h : xa_H} {w : Nat} (h0 : 0 < w) (h1 : w < 1000003) : f_X0_inverse h (nI w) = some (lN (w ^ 1000001 % 1000003)) := by
  unfold f_X0_inverse
  rw [nI_l (by omega)]
  refine eu_loop h0 h1 1048576 0 1000003 w 0 1 (by decide) h1 h0 (eu_cop h0 h1) (Nat.le_refl _) (by simp) ⟨1, by simp⟩ ⟨0, by simp⟩ (by omega)
