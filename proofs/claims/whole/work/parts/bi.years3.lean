/-! YEARS -/
section YR3
variable {S : XS} {c : Nat × Nat} {n N y : Nat}
theorem years_loop (h6 : N ≤ 6) (h0 : 0 < N) (hy : y ≤ 30) : ∀ (m k cN : Nat) (S : XS) (x : Int64), k + m = y → (∃ V, RR n (pj (mg S V))) → S.1 30 4 = nI N → S.1 30 8 = nI cN → cN + m ≤ 9999 → ∃ v S', (∀ f, m < f → f_X11_years_b44 f (hp S c) 0 (nI y) x (nI k) = some (v, hp S' c)) ∧ (∀ a, 351 ≤ a → S'.1 a = S.1 a) ∧ ∀ V, RR n (pj (mg S V)) → V.2.1 351 41 = x → ∀ f, m < f → ∃ V', f_X12_years_b49 f (hp V c) 351 (nI y) (nI k) = some (v, hp V' c) ∧ (∀ a, a < 351 → V'.1 a = V.1 a) ∧ RR n (pj (mg S' V'))
  | 0, k, cN, S, x, hk, _, hN, h8, hc => by
    refine ⟨nI cN, S, fun f hf => ?_, fun _ _ => rfl, fun V R hV f hf => ⟨V, ?_, fun _ _ => rfl, R⟩⟩
    · obtain ⟨f, rfl⟩ : ∃ g, f = g + 1 := ⟨f - 1, by omega⟩
      rw [f_X11_years_b44, if_pos (nI_le (by omega) (by omega)), g0_6, Option.bind_some, B30.g8, Option.bind_some, h8]
    · obtain ⟨f, rfl⟩ : ∃ g, f = g + 1 := ⟨f - 1, by omega⟩
      obtain ⟨N', lim, kp, W⟩ := R.tw
      obtain ⟨cr, u1, u2, u3, u4⟩ := W.2.2.2.2.2.2.2.2.2.2.2.2.2.1
      rw [h8] at u2
      rw [f_X12_years_b49, if_pos (nI_le (by omega) (by omega)), g351_32, Option.bind_some, a364n (j := 50) (k := 50) rfl (by decide), Option.bind_some, u3, ← u2]
  | m + 1, k, cN, S, x, hk, ⟨V0, R0⟩, hN, h8, hc => by
    obtain ⟨S1, x1, cN1, e1, e2, e3, e4, e5, e6⟩ := yr_pair (c := c) (x := x) R0 hN h6 h0 h8 (by omega)
    obtain ⟨V1, -, -, -, R1⟩ := e6 (wL V0 351 (vp_updL (V0.2.1 351) 41 x)) R0 (by rw [wL_same, updL_same])
    obtain ⟨v, S', w1, w2, w3⟩ := years_loop h6 h0 hy m (k + 1) cN1 S1 x1 (by omega) ⟨V1, R1⟩ e3 e4 (by omega)
    refine ⟨v, S', fun f hf => ?_, fun a ha => ?_, fun V R hV f hf => ?_⟩
    · obtain ⟨f, rfl⟩ : ∃ g, f = g + 1 := ⟨f - 1, by omega⟩
      rw [f_X11_years_b44, if_neg (nI_ge (by omega) (by omega)), e1, Option.bind_some, nI_1]
      exact w1 f (by omega)
    · rw [w2 a ha, e2 a (by omega)]
    · obtain ⟨f, rfl⟩ : ∃ g, f = g + 1 := ⟨f - 1, by omega⟩
      obtain ⟨V1, d1, d2, d3, d4⟩ := e6 V R hV
      obtain ⟨V', u1, u2, u3⟩ := w3 V1 d4 d2 f (by omega)
      refine ⟨V', ?_, fun a ha => by rw [u2 a ha, d3 a ha], u3⟩
      have : f_X12_years_b49 (f + 1) (hp V c) 351 (nI y) (nI k) = ryB (fun h l0 l1 l4 => f_X12_years_b49 f h l0 l1 l4) (hp V c) (nI y) (nI k) := by
        rw [f_X12_years_b49, if_neg (nI_ge (by omega) (by omega))]
        rfl
      rw [this, d1, nI_1]
      exact u1
theorem pr_years (R : RR n (pj S)) (y : Int32) (x : Int64) : PQ n c (fun h => f_X11_years h 0 y x) (fun h => f_X12_years h 351 y x) S := by
  have RS := mg_in R
  obtain ⟨N, lim, kp, W⟩ := RS.tw
  have h6 := W.2.1
  have hN := W.2.2.2.2.2.1
  have h26 := W.2.2.1
  obtain ⟨cr, u1, u2, u3, u4⟩ := W.2.2.2.2.2.2.2.2.2.2.2.2.2.1
  by_cases hN0 : N = 0
  · subst hN0
    refine PQ.same (v := -1) (S1 := S) (S2 := T0 S) R ?_ ?_ rfl T0_pj
    · show f_X11_years (hp S c) 0 y x = _
      unfold f_X11_years
      rw [k0, Option.bind_some, g0_6, Option.bind_some, B30.g4, Option.bind_some, hN, if_pos (show nI 0 = 0 from rfl)]
    · show f_X12_years (hp S c) 351 y x = _
      unfold f_X12_years
      rw [k351, Option.bind_some, T0_p, Option.bind_some, g351_26, Option.bind_some, T0_351 (by decide), h26, if_pos (show nI 0 = 0 from rfl)]
  · have nz : ¬ nI N = 0 := nI_ne0 (by omega) (by omega)
    by_cases hx : y < 1 ∨ nI 30 < y
    · refine PQ.same (v := -1) (S1 := S) (S2 := T0 S) R ?_ ?_ rfl T0_pj
      · show f_X11_years (hp S c) 0 y x = _
        unfold f_X11_years
        rw [k0, Option.bind_some, g0_6, Option.bind_some, B30.g4, Option.bind_some, hN, if_neg nz]
        by_cases h1 : y < 1
        · rw [if_pos h1]
        · rw [if_neg h1, if_pos (show (30 : Int32) < y from hx.resolve_left h1)]
      · show f_X12_years (hp S c) 351 y x = _
        unfold f_X12_years
        have : (!decide (y < 1) && !decide (nI 30 < y)) = false := by
          rcases hx with z | z
          · rw [decide_eq_true z]; rfl
          · rw [decide_eq_true z, Bool.and_comm]; rfl
        rw [k351, Option.bind_some, T0_p, Option.bind_some, g351_26, Option.bind_some, T0_351 (by decide), h26, if_neg nz, isIn_1 (u := 30) (m := 30) (by decide) rfl, this, Option.bind_some, if_pos (show bI false = 0 from rfl)]
    · have h1 : ¬ y < 1 := fun z => hx (Or.inl z)
      have h2 : ¬ nI 30 < y := fun z => hx (Or.inr z)
      have hin : (!decide (y < 1) && !decide (nI 30 < y)) = true := by rw [decide_eq_false h1, decide_eq_false h2]; rfl
      obtain ⟨k, hk1, hk2, rfl⟩ : ∃ k, 1 ≤ k ∧ k ≤ 30 ∧ y = nI k := by
        have a1 := Int32.not_lt.mp h1
        have a2 := Int32.not_lt.mp h2
        rw [Int32.le_iff_toInt_le] at a1 a2
        rw [nI_toInt (by decide)] at a2
        rw [show (1 : Int32).toInt = 1 from rfl] at a1
        refine ⟨tn y, by unfold tn; omega, by unfold tn; omega, (tn_pos ?_).symm⟩
        rw [Int32.lt_iff_toInt_lt, show (0 : Int32).toInt = 0 from rfl]
        omega
      have esum : S.1 30 8 + nI k = nI (cr + k) := by rw [u2, nI_add]
      by_cases hc : cr + k ≤ 9999
      · have hc' : nI (cr + k) ≤ (9999 : Int32) := by
          rw [show (9999 : Int32) = nI 9999 from rfl]
          exact nI_le hc (by decide)
        obtain ⟨v, S', w1, w2, w3⟩ := years_loop (c := c) (y := k) h6 (by omega) hk2 k 0 cr S x (by omega) ⟨S, RS⟩ hN u2 hc
        have RT : RR n (pj (mg S (wL (T0 S') 351 (vp_updL ((T0 S').2.1 351) 41 x)))) := mg_to RS fun a ha => by
          show pj (T0 S') a = _
          rw [T0_pj]
          exact pj_eq (w2 a ha)
        obtain ⟨V', z1, z2, z3⟩ := w3 _ RT (by rw [wL_same, updL_same]) 1048576 (by omega)
        refine ⟨v, S', V', ?_, ?_, (mg_out z3 fun a ha => ?_).mono (by omega)⟩
        · show f_X11_years (hp S c) 0 (nI k) x = _
          unfold f_X11_years
          rw [k0, Option.bind_some, g0_6, Option.bind_some, B30.g4, Option.bind_some, hN, if_neg nz, if_neg h1, if_neg (show ¬ (30 : Int32) < nI k from h2), Option.bind_some, B30.g8, Option.bind_some, esum, if_pos hc']
          exact w1 1048576 (by omega)
        · show f_X12_years (hp S' c) 351 (nI k) x = _
          unfold f_X12_years
          rw [k351, Option.bind_some, T0_p, Option.bind_some, g351_26, Option.bind_some, T0_351 (by decide), w2 351 (by decide), h26, if_neg nz, isIn_1 (u := 30) (m := 30) (by decide) rfl, hin, Option.bind_some, if_neg (show ¬ bI true = 0 by decide), g351_32, Option.bind_some, a364n (j := 50) (k := 50) rfl (by decide), Option.bind_some, T0_ne (by decide), w2 364 (by decide), u3, nI_add, if_pos hc', p351_41, Option.bind_some]
          exact z1
        · rw [z2 a ha, wL_1, T0_ne (by omega)]
      · have hc' : ¬ nI (cr + k) ≤ (9999 : Int32) := by
          rw [show (9999 : Int32) = nI 9999 from rfl]
          exact nI_ge (by omega) (by omega)
        refine PQ.same (v := -1) (S1 := S) (S2 := T0 S) R ?_ ?_ rfl T0_pj
        · show f_X11_years (hp S c) 0 (nI k) x = _
          unfold f_X11_years
          rw [k0, Option.bind_some, g0_6, Option.bind_some, B30.g4, Option.bind_some, hN, if_neg nz, if_neg h1, if_neg (show ¬ (30 : Int32) < nI k from h2), Option.bind_some, B30.g8, Option.bind_some, esum, if_neg hc']
        · show f_X12_years (hp S c) 351 (nI k) x = _
          unfold f_X12_years
          rw [k351, Option.bind_some, T0_p, Option.bind_some, g351_26, Option.bind_some, T0_351 (by decide), h26, if_neg nz, isIn_1 (u := 30) (m := 30) (by decide) rfl, hin, Option.bind_some, if_neg (show ¬ bI true = 0 by decide), g351_32, Option.bind_some, a364n (j := 50) (k := 50) rfl (by decide), Option.bind_some, T0_ne (by decide), u3, nI_add, if_neg hc']
end YR3
