/-! KEEP -/
theorem kx_tab : ∀ x, x < 6 → ∀ m, m < 64 → nI m ^^^ shl (1 : Int32) (nI x) = nI (m ^^^ 2 ^ x) := by decide +kernel
theorem kb_tab : ∀ x, x < 6 → ∀ m, m < 64 → (shr (nI m) (nI x)) &&& 1 = bI (kep (nI m) x) := by decide +kernel
section KP
variable {S : XS} {c : Nat × Nat} {n : Nat}
theorem pr_keep (R : RR n (pj S)) (x : Int32) : PQ n c (fun h => f_X11_keep h 0 x) (fun h => f_X12_keep h 351 x) S := by
  obtain ⟨N, W⟩ := R.now
  have h6 := W.2.1
  have hB := W.2.2.2.2.2.2.1
  have h36 := W.2.2.2.2.2.2.2.2.1
  obtain ⟨m, hm, em⟩ := W.2.2.2.2.2.2.2.2.2.2.2.2.2.2.2
  rcases ix_of (x := x) (N := N) (by omega) with ⟨i, hi, rfl⟩ | hx
  · have hm64 : m < 64 := Nat.lt_of_lt_of_le hm (Nat.pow_le_pow_right (n := 2) (by decide) (show N ≤ 6 from h6))
    have hx2 : m ^^^ 2 ^ i < 2 ^ N := Nat.xor_lt_two_pow hm (Nat.pow_lt_pow_right (by decide) hi)
    have hx64 : m ^^^ 2 ^ i < 64 := Nat.lt_of_lt_of_le hx2 (Nat.pow_le_pow_right (n := 2) (by decide) (show N ≤ 6 from h6))
    have ek : S.1 364 48 ^^^ shl (1 : Int32) (nI i) = nI (m ^^^ 2 ^ i) := by rw [em, kx_tab i (by omega) m hm64]
    refine act_pair (v := bI (kep (nI (m ^^^ 2 ^ i)) i)) R (fun S1 s1 e1 => ?_)
    refine ⟨wA S1 30 (upd (S1.1 30) 6 (nI (m ^^^ 2 ^ i))), ?_, fun a h => wA_ne (by omega), fun U1 u1 u2 u3 e2 => ?_⟩
    · unfold f_X11_keep
      rw [k0, Option.bind_some, g0_6, Option.bind_some, B30.has_in hB h6 hi, Option.bind_some, if_neg (by decide), g0_10, Option.bind_some, Option.bind_some, e1, Option.bind_some, g0_6, Option.bind_some, B30.g6, Option.bind_some, s1 30 (by decide) (by decide), h36, ek, B30.p6, Option.bind_some, g0_6, Option.bind_some, B30.isKept, Option.bind_some, wA_same, upd_same, s1 30 (by decide) (by decide)]
      cases kep (nI (m ^^^ 2 ^ i)) i
      · rw [if_pos (show bI false = 0 from rfl)]
        rfl
      · rw [if_neg (show ¬ bI true = 0 by decide)]
        rfl
    · have U364 : U1.1 364 = S.1 364 := by rw [u1 364 (by decide) (by decide), wA_ne (by decide), s1 364 (by decide) (by decide)]
      have t26 : (T0 (wA S1 30 (upd (S1.1 30) 6 (nI (m ^^^ 2 ^ i))))).1 351 26 = nI N := by rw [T0_351 (by decide), u3]; exact W.2.2.1
      refine ⟨wA U1 364 (upd (S.1 364) 48 (nI (m ^^^ 2 ^ i))), ?_, fun a h => wA_ne h, fun i h1 h2 => ?_, fun N' F v1 v2 e356 e358 => ?_⟩
      · unfold f_X12_keep
        rw [k351, Option.bind_some, T0_p, Option.bind_some, r_isHouse_in t26 h6 hi, Option.bind_some, if_neg (by decide), e2, Option.bind_some, g351_32, Option.bind_some, show (48 : Int32) = nI 48 from rfl, a364 (by decide), Option.bind_some, U364, ek, q364 (by decide), Option.bind_some, g351_32, Option.bind_some, a364 (by decide), Option.bind_some, wA_same, upd_same, kb_tab i (by omega) _ hx64, U364]
      · rw [wA_same, upd_ne (by omega)]
      · have eN : N' = N := by
          have q1 : S.1 351 26 = nI N' := v1.2.2.1
          exact (nI_eq (by have := v1.2.1; omega) (by omega)).mp (q1.symm.trans W.2.2.1)
        subst eN
        obtain ⟨⟨k1, k2, k3⟩, ⟨r1, r2, r3, r4, r5, r6⟩, ok⟩ := v2
        rw [c364] at r1 r2 r3 r4 r5 r6 ok
        have V30 : pj (wA U1 364 (upd (S.1 364) 48 (nI (m ^^^ 2 ^ i)))) 30 = upd (pj S 30) 6 (nI (m ^^^ 2 ^ i)) := by
          rw [pc_all (by decide), pc_all (by decide), wA_ne (by decide), u1 30 (by decide) (by decide), wA_same, s1 30 (by decide) (by decide)]
        have VO : ∀ a, 31 ≤ a → a ≤ 34 → pj (wA U1 364 (upd (S.1 364) 48 (nI (m ^^^ 2 ^ i)))) a = pj S a := fun a h1 h2 => pj_eq (by rw [wA_ne (by omega), u1 a (by omega) (by omega), wA_ne (by omega), s1 a (by omega) (by omega)])
        have V364 : pj (wA U1 364 (upd (S.1 364) 48 (nI (m ^^^ 2 ^ i)))) 364 = upd (S.1 364) 48 (nI (m ^^^ 2 ^ i)) := by rw [c364, wA_same]
        refine ⟨⟨?_, ?_, fun k hk => ?_⟩, ⟨fun k hk => ?_, fun k hk => ?_, fun k hk => ?_, ?_, ?_, ?_⟩, ?_⟩
        · rw [V30, upd_ne (by decide)]; exact k1
        · rw [V30, upd_ne (by decide), e356]; exact k2
        · rw [VO _ (by decide) (by decide), e358]; exact k3 k hk
        · rw [VO _ (by decide) (by decide), V364, upd_ne (by omega)]; exact r1 k hk
        · rw [VO _ (by decide) (by decide), V364, upd_ne (by omega)]; exact r2 k hk
        · rw [VO _ (by decide) (by decide), V364, upd_ne (by omega)]; exact r3 k hk
        · rw [V30, V364, upd_same, upd_same]
        · rw [V30, V364, upd_ne (by decide), upd_ne (by decide)]; exact r5
        · rw [V30, V364, upd_ne (by decide), upd_ne (by decide)]; exact r6
        · rw [e356, V364]
          obtain ⟨o1, o2, -⟩ := rOk_cg (row := upd (upd (S.1 364) 48 (nI (m ^^^ 2 ^ i))) 48 (S.1 364 48)) (fun j hj => by rw [upd_ne (by omega), upd_ne (by omega)]) (by rw [upd_same]) ok
          refine ⟨?_, fun a b ha hb o => ?_, m ^^^ 2 ^ i, hx2, upd_same⟩
          · have := ok.1
            obtain ⟨q1, q2, q3⟩ := this
            refine ⟨An.congr (D := (rwB (S.1 364)).1) q1 (fun k hk => upd_ne (by omega)), fun a b ha hb => ?_, fun k hk => ?_⟩
            · show (upd (S.1 364) 48 _ (6 * a + b)).toInt ≤ _
              rw [upd_ne (by omega)]
              exact q2 a b ha hb
            · show ∃ w, w < 1000003 ∧ upd (S.1 364) 48 _ (36 + k) = nI w
              rw [upd_ne (by omega)]
              exact q3 k hk
          · rw [upd_ne (by omega)]
            exact ok.2.1 a b ha hb o
  · refine PQ.refuse (r := 0) (v := -1) R (by decide) ?_ (fun U hU => ?_)
    · unfold f_X11_keep
      rw [k0, Option.bind_some, g0_6, Option.bind_some, B30.has_out hB hx, Option.bind_some, if_pos rfl, show f_X11_refuse (hp S c) 0 0 (-1) = some (-1, hp (cfx S 0) c) from X11_refuse (r := 0) (by decide), Option.bind_some]
    · subst hU
      unfold f_X12_keep
      rw [k351, Option.bind_some, T0_p, Option.bind_some, r_isHouse_out W.cfx.t0.2.2.1 hx, Option.bind_some, if_pos rfl, show f_X12_refused (hp (T0 (cfx S 0)) c) 351 0 (-1) = some (-1, hp (rfx (T0 (cfx S 0)) 0) c) from X12_refused (r := 0) (by decide), Option.bind_some]
end KP
