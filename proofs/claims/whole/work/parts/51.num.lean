/-! NUMBERS modulo 1000003 -/
theorem fm_gen (p k : Nat) (hp : 1000000 < p) (hp2 : p < 1002001) (nd : ∀ q, 2 ≤ q → q ≤ 1000 → p % q ≠ 0) (sm : ∀ v, 0 < v → v < 1001 → v ^ (2 * k) % p = 1) : ∀ v, 0 < v → v < p → v ^ (2 * k) % p = 1 := by
  intro v
  induction v using Nat.strongRecOn with
  | ind v ih =>
    intro h0 h1
    by_cases hs : v < 1001
    · exact sm v h0 hs
    · have hq1 : p / v ≤ 1000 := by
        have h5 : 1001 * 1001 ≤ v * 1001 := Nat.mul_le_mul_right 1001 (by omega)
        have : p / v < 1001 := Nat.div_lt_of_lt_mul (Nat.lt_of_lt_of_le hp2 h5)
        omega
      have hq0 : 0 < p / v := Nat.div_pos (by omega) h0
      have hr1 : p % v < v := Nat.mod_lt _ h0
      have hpe : v * (p / v) + p % v = p := Nat.div_add_mod p v
      have hr0 : 0 < p % v := by
        rcases Nat.eq_zero_or_pos (p % v) with z | z
        · exfalso
          rw [z, Nat.add_zero] at hpe
          have hq2 : 2 ≤ p / v := by
            rcases Nat.lt_or_ge (p / v) 2 with y | y
            · have : p / v = 1 := by omega
              rw [this, Nat.mul_one] at hpe
              omega
            · exact y
          have h7 := Nat.mul_mod_left v (p / v)
          rw [hpe] at h7
          exact nd (p / v) hq2 hq1 h7
        · exact z
      have e1 := ih (p / v) (by omega) hq0 (by omega)
      have e2 := ih (p % v) hr1 hr0 (by omega)
      have hsq : (v * (p / v)) ^ 2 % p = (p % v) ^ 2 % p := by
        have hx : v * (p / v) = p - p % v := by omega
        rw [hx]
        generalize hrr : p % v = r at *
        have hle : r ≤ p := by omega
        obtain ⟨d, rfl⟩ : ∃ d, p = d + r := ⟨p - r, by omega⟩
        rw [Nat.add_sub_cancel]
        have : d ^ 2 + (d + r) * r = r ^ 2 + (d + r) * d := by
          rw [Nat.pow_two, Nat.pow_two, Nat.add_mul, Nat.add_mul, Nat.mul_comm r d]
          omega
        have h3 := congrArg (· % (d + r)) this
        simpa [Nat.add_mul_mod_self_left] using h3
      have e3 : (v * (p / v)) ^ (2 * k) % p = 1 := by
        rw [Nat.pow_mul, Nat.pow_mod, hsq, ← Nat.pow_mod, ← Nat.pow_mul]
        exact e2
      rw [Nat.mul_pow, Nat.mul_mod, e1, Nat.mul_one, Nat.mod_mod] at e3
      exact e3
/-- by squares -/
def pw (p : Nat) : Nat → Nat → Nat → Nat
  | 0, _, _ => 1
  | f + 1, b, e => if e = 0 then 1 else if e % 2 = 1 then b * pw p f (b * b % p) (e / 2) % p else pw p f (b * b % p) (e / 2)
theorem pw_ok (p : Nat) : ∀ (f b e : Nat), e < 2 ^ f → pw p f b e % p = b ^ e % p
  | 0, b, e, h => by
    have : e = 0 := by simpa using h
    subst this
    rfl
  | f + 1, b, e, h => by
    have ih := pw_ok p f (b * b % p) (e / 2) (by rw [Nat.pow_succ] at h; omega)
    have ih2 : pw p f (b * b % p) (e / 2) % p = b ^ (2 * (e / 2)) % p := by
      rw [ih, ← Nat.pow_mod, ← Nat.pow_two, ← Nat.pow_mul]
    unfold pw
    by_cases h0 : e = 0
    · subst h0
      rfl
    · rw [if_neg h0]
      by_cases h1 : e % 2 = 1
      · rw [if_pos h1, Nat.mod_mod, Nat.mul_mod, ih2, ← Nat.mul_mod, Nat.mul_comm, ← Nat.pow_succ]
        congr 2
        omega
      · rw [if_neg h1, ih2]
        congr 2
        omega
theorem fm_small : ∀ v, v < 1001 → 0 < v → pw 1000003 20 v 1000002 = 1 := by decide +kernel
theorem fm_nd : ∀ q, q < 1001 → 2 ≤ q → 1000003 % q ≠ 0 := by decide +kernel
theorem fm_e (v : Nat) (h : pw 1000003 20 v 1000002 = 1) : v ^ (2 * 500001) % 1000003 = 1 := by
  rw [show 2 * 500001 = 1000002 from rfl, ← pw_ok 1000003 20 v 1000002 (by decide), h]
theorem fermat (v : Nat) (h0 : 0 < v) (h1 : v < 1000003) : v ^ 1000002 % 1000003 = 1 :=
  fm_gen 1000003 500001 (by decide) (by decide) (fun q a b => fm_nd q (by omega) a) (fun v a b => fm_e v (fm_small v b a)) v h0 h1
