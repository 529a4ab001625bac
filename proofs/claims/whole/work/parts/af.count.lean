/-! COUNT, LOG -/
section CT
variable {S : XS} {c : Nat × Nat} {n : Nat}
theorem imin_nI {a b : Nat} (ha : a < 2 ^ 31) (hb : b < 2 ^ 31) : imin (nI a) (nI b) = nI (min a b) := by
  unfold imin
  by_cases e : a ≤ b
  · rw [if_neg (nI_nlt e hb), Nat.min_eq_left e]
  · rw [if_pos (nI_lt (by omega) ha), Nat.min_eq_right (by omega)]
/-- what the log says, in cells -/
theorem RR.log (R : RR n (pj S)) : ∃ cr, cr ≤ 9999 ∧ S.1 30 8 = nI cr ∧ S.1 364 50 = nI cr ∧ S.1 364 51 = nI (min cr 60) ∧ S.1 30 7 = S.1 364 49 ∧ ∀ i, i < min cr 60 → S.1 364 (52 + 3 * (min cr 60 - 1 - i)) = S.1 46 ((cr - i) % 128) ∧ S.1 364 (53 + 3 * (min cr 60 - 1 - i)) = S.1 47 ((cr - i) % 128) ∧ S.1 364 (54 + 3 * (min cr 60 - 1 - i)) = S.1 48 ((cr - i) % 128) := by
  obtain ⟨⟨N, F, v1, v2, v3, ⟨A, q, cr, v4⟩, v5⟩, -⟩ := R
  obtain ⟨-, ⟨-, -, -, -, b5, b6⟩, -⟩ := v2
  obtain ⟨-, -, -, -, -, ⟨l1, l2, l3, l4⟩, -⟩ := v4
  rw [c364, c30] at b5 b6
  rw [c364] at l1 l3
  refine ⟨cr A, l2, b6.trans l1, l1, l3, b5, fun i hi => ?_⟩
  have := l4 i hi
  rw [c364, show pj S 46 = S.1 46 from pj_cell fun _ => rfl, show pj S 47 = S.1 47 from pj_cell fun _ => rfl, show pj S 48 = S.1 48 from pj_cell fun _ => rfl] at this
  exact this
theorem X11_logLen {cr : Nat} (h : cr ≤ 9999) (h8 : S.1 30 8 = nI cr) : f_X11_logLength (hp S c) 0 = some (nI (min cr 60)) := by
  unfold f_X11_logLength
  rw [k0, Option.bind_some, g0_6, Option.bind_some, B30.g8, Option.bind_some, h8, show (60 : Int32) = nI 60 from rfl, imin_nI (by omega) (by decide)]
theorem and127 {p : Nat} (hp : p < 2 ^ 31) : nI p &&& 127 = nI (p % 128) := by
  refine Int32.toBitVec_inj.mp (BitVec.eq_of_toNat_eq ?_)
  rw [Int32.toBitVec_and, BitVec.toNat_and]
  show (BitVec.ofNat 32 p).toNat &&& (127#32).toNat = (BitVec.ofNat 32 (p % 128)).toNat
  have e1 : (BitVec.ofNat 32 p).toNat = p := by rw [BitVec.toNat_ofNat, Nat.mod_eq_of_lt (by omega)]
  have e2 : (BitVec.ofNat 32 (p % 128)).toNat = p % 128 := by rw [BitVec.toNat_ofNat, Nat.mod_eq_of_lt (by omega)]
  rw [e1, e2]
  exact Nat.and_two_pow_sub_one_eq_mod p 7
theorem nI_sb {a b : Nat} (h : b ≤ a) : nI a - nI b = nI (a - b) := by
  obtain ⟨d, rfl⟩ : ∃ d, a = b + d := ⟨a - b, by omega⟩
  rw [show b + d - b = d by omega, ← nI_add, Int32.add_comm, Int32.add_sub_cancel]
theorem pr_log (R : RR n (pj S)) (x w : Int32) : PP n c (fun h => f_X11_log h 0 x w) (fun h => f_X12_log h 351 x w) S := by
  obtain ⟨cr, c1, c2, c3, c4, -, c6⟩ := R.log
  have hl := X11_logLen (c := c) c1 c2
  have t51 : (T0 S).1 364 51 = nI (min cr 60) := by rw [T0_ne (by decide)]; exact c4
  have hm : min cr 60 ≤ 60 := Nat.min_le_right _ _
  have hm2 : min cr 60 ≤ cr := Nat.min_le_left _ _
  rcases ix_of (x := x) (N := min cr 60) (by omega) with ⟨i, hi, rfl⟩ | hx
  · have cl : f_X11_log (hp S c) 0 (nI i) w = (f_X1_told (hp S c) 45 (nI (cr - i)) w).bind fun q7 => some q7 := by
      unfold f_X11_log
      rw [k0, Option.bind_some, if_neg (nI_nneg (by omega)), hl, Option.bind_some, if_pos (nI_lt hi (by omega)), g0_9, Option.bind_some, g0_6, Option.bind_some, B30.g8, Option.bind_some, c2, nI_sb (by omega)]
    have rl : f_X12_isIn (hp (T0 S) c) w.toInt64 (0 : Int64) (2 : Int64) = some 0 → f_X12_log (hp S c) 351 (nI i) w = some (-1, hp (T0 S) c) := by
      intro hz
      unfold f_X12_log
      rw [k351, Option.bind_some, T0_p, Option.bind_some, g351_32, Option.bind_some, show (51 : Int32) = nI 51 from rfl, a364 (by decide), Option.bind_some, t51, isIn_lt hi (by omega), Option.bind_some, if_neg (by decide), hz, Option.bind_some, if_pos rfl]
    obtain ⟨d1, d2, d3⟩ := c6 i hi
    have rk : ∀ k, k < 3 → f_X12_log (hp S c) 351 (nI i) (nI k) = some (S.1 364 (52 + 3 * (min cr 60 - 1 - i) + k), hp (T0 S) c) := by
      intro k hk
      unfold f_X12_log
      rw [k351, Option.bind_some, T0_p, Option.bind_some, g351_32, Option.bind_some, show (51 : Int32) = nI 51 from rfl, a364 (by decide), Option.bind_some, t51, isIn_lt hi (by omega), Option.bind_some, if_neg (by decide), isIn_in (u := 2) (k := k) (m := 2) (by omega) (by decide) rfl, Option.bind_some, if_neg (by decide), Option.bind_some, Option.bind_some, a364 (by decide), Option.bind_some, t51, nI_prd (by omega), nI_sb (by omega), show (3 : Int32) = nI 3 from rfl, pk_mul, show (52 : Int32) = nI 52 from rfl, nI_add, nI_add, a364 (by omega), Option.bind_some, T0_ne (by decide)]
    have pl : (cr - i) % 128 < 128 := Nat.mod_lt _ (by decide)
    by_cases w0 : w = 0
    · subst w0
      refine PP.mk (S.1 46 ((cr - i) % 128)) (T0 S) R ?_ ?_ T0_pj
      · rw [cl]
        unfold f_X1_told
        rw [k45, Option.bind_some, if_pos rfl, g45_0, Option.bind_some, and127 (by omega), a46 pl, Option.bind_some, Option.bind_some]
      · rw [show (0 : Int32) = nI 0 from rfl, rk 0 (by decide), Nat.add_zero, d1]
    · by_cases w1 : w = 1
      · subst w1
        refine PP.mk (S.1 47 ((cr - i) % 128)) (T0 S) R ?_ ?_ T0_pj
        · rw [cl]
          unfold f_X1_told
          rw [k45, Option.bind_some, if_neg (by decide), if_pos rfl, g45_1, Option.bind_some, and127 (by omega), a47 pl, Option.bind_some, Option.bind_some]
        · rw [show (1 : Int32) = nI 1 from rfl, rk 1 (by decide), show 52 + 3 * (min cr 60 - 1 - i) + 1 = 53 + 3 * (min cr 60 - 1 - i) by omega, d2]
      · by_cases w2 : w = 2
        · subst w2
          refine PP.mk (S.1 48 ((cr - i) % 128)) (T0 S) R ?_ ?_ T0_pj
          · rw [cl]
            unfold f_X1_told
            rw [k45, Option.bind_some, if_neg (by decide), if_neg (by decide), if_pos rfl, g45_2, Option.bind_some, and127 (by omega), a48 pl, Option.bind_some, Option.bind_some]
          · rw [show (2 : Int32) = nI 2 from rfl, rk 2 (by decide), show 52 + 3 * (min cr 60 - 1 - i) + 2 = 54 + 3 * (min cr 60 - 1 - i) by omega, d3]
        · have hw : w < 0 ∨ (¬ w < 0 ∧ nI 3 ≤ w) := by
            rcases ix_of (x := w) (N := 3) (by decide) with ⟨j, hj, z⟩ | z
            · rcases (by omega : j = 0 ∨ j = 1 ∨ j = 2) with rfl | rfl | rfl
              · exact absurd z w0
              · exact absurd z w1
              · exact absurd z w2
            · exact z
          refine PP.mk (-1) (T0 S) R ?_ (rl (isIn_out (m := 2) hw (by decide) rfl)) T0_pj
          rw [cl]
          unfold f_X1_told
          rw [k45, Option.bind_some, if_neg w0, if_neg w1, if_neg w2, Option.bind_some]
  · refine PP.mk (-1) (T0 S) R ?_ ?_ T0_pj
    · unfold f_X11_log
      rw [k0, Option.bind_some]
      rcases hx with z | z
      · rw [if_pos z]
      · rw [if_neg z.1, hl, Option.bind_some, if_neg (Int32.not_lt.mpr z.2)]
    · unfold f_X12_log
      rw [k351, Option.bind_some, T0_p, Option.bind_some, g351_32, Option.bind_some, show (51 : Int32) = nI 51 from rfl, a364 (by decide), Option.bind_some, t51, isIn_ge hx (by omega), Option.bind_some, if_pos rfl]
end CT
