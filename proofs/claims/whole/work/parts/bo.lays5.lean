/-! THE REFERENCE LAYS the village into its trial row -/
section LYV
variable {S : XS} {c : Nat × Nat} {N F : Nat}
def ly0v (S : XS) (k : Nat) : Nat → Int32 := fun i => if i < k then 0 else S.1 365 i
def ly1v (S : XS) (k : Nat) : Nat → Int32 := fun i => if i < 36 then lyD (S.1 360) k i else if i < 51 then 0 else S.1 365 i
def ly2v (S : XS) (F h : Nat) : Nat → Int32 := fun i => if i < 36 then lyD (S.1 360) F i else if i < 42 then (if i - 36 < h then S.1 358 (3 * (i - 36)) else 0) else if i = 48 then lyK (S.1 358) h else if i < 51 then 0 else S.1 365 i
theorem ly_b2v : f_X12_lays_b2 1048576 (hp S c) 351 365 0 = f_X12_lays_b20 1048576 (hp (wA S 365 (ly0v S 51)) c) 351 365 0 := by
  have h0 : S = wA S 365 (ly0v S 0) := by
    have : ly0v S 0 = S.1 365 := funext fun i => if_neg (by omega)
    rw [this, wA_self]
  have l0 : f_X12_lays_b2 1048576 (hp (wA S 365 (ly0v S 0)) c) 351 365 (nI 0) = f_X12_lays_b20 1048576 (hp (wA S 365 (ly0v S 51)) c) 351 365 0 := by
    refine lp (N := 51) (fun n i => f_X12_lays_b2 n (hp (wA S 365 (ly0v S i)) c) 351 365 (nI i)) (fun n => ?_) (fun n i hi => ?_) 51 0 1048576 (by omega) (by omega)
    · show f_X12_lays_b2 (n + 1) _ 351 365 (nI 51) = _
      rw [f_X12_lays_b2, n365, Option.bind_some, if_pos (by decide)]
    · show f_X12_lays_b2 (n + 1) _ 351 365 (nI i) = _
      rw [f_X12_lays_b2, n365, Option.bind_some, if_neg (nI_ge hi (by decide)), q365 hi, Option.bind_some, nI_1, wA_wA, wA_same]
      have : upd (ly0v S i) i 0 = ly0v S (i + 1) := by
        funext j
        unfold upd ly0v
        by_cases e : j = i
        · rw [if_pos e, if_pos (by omega)]
        · rw [if_neg e]
          by_cases e2 : j < i
          · rw [if_pos e2, if_pos (by omega)]
          · rw [if_neg e2, if_neg (by omega)]
      rw [this]
  rw [← h0] at l0
  exact l0
theorem ly_01v : wA (wA S 365 (ly0v S 51)) 365 (ly1v (wA S 365 (ly0v S 51)) 0) = wA S 365 (ly1v S 0) := by
  rw [wA_wA]
  congr 1
  funext i
  unfold ly1v
  rw [wA_ne (by decide), wA_same]
  unfold ly0v
  by_cases h : i < 36
  · rw [if_pos h, if_pos h]
  · rw [if_neg h, if_neg h]
    by_cases h2 : i < 51
    · rw [if_pos h2, if_pos h2]
    · rw [if_neg h2, if_neg h2]
theorem ly_b20v (hF : S.1 351 27 = nI F) (h12 : F ≤ 12) (he : ∀ k, k < F → ∃ x y, x < 6 ∧ y < 6 ∧ S.1 360 (3 * k) = nI x ∧ S.1 360 (3 * k + 1) = nI y) : f_X12_lays_b20 1048576 (hp (wA S 365 (ly1v S 0)) c) 351 365 0 = f_X12_lays_b100 1048576 (hp (wA S 365 (ly1v S F)) c) 351 365 0 := by
  refine lp (N := F) (fun n i => f_X12_lays_b20 n (hp (wA S 365 (ly1v S i)) c) 351 365 (nI (3 * i))) (fun n => ?_) (fun n i hi => ?_) F 0 1048576 (by omega) (by omega)
  · show f_X12_lays_b20 (n + 1) _ 351 365 (nI (3 * F)) = _
    rw [f_X12_lays_b20, g351_27, Option.bind_some, wA_ne (by decide), hF, show (3 : Int32) = nI 3 from rfl, pk_mul, if_pos (nI_le (Nat.le_refl _) (by omega))]
  · show f_X12_lays_b20 (n + 1) _ 351 365 (nI (3 * i)) = f_X12_lays_b20 n (hp (wA S 365 (ly1v S (i + 1))) c) 351 365 (nI (3 * (i + 1)))
    obtain ⟨x, y, hx, hy, ex, ey⟩ := he i hi
    rw [f_X12_lays_b20, g351_27, Option.bind_some, wA_ne (show 351 ≠ 365 by decide), hF, show (3 : Int32) = nI 3 from rfl, pk_mul, if_neg (nI_ge (by omega) (by omega)), g351_22, Option.bind_some, a360 (by omega), Option.bind_some, Option.bind_some, nI_1, a360 (by omega), Option.bind_some, wA_ne (show 360 ≠ 365 by decide), ex, ey, ix6, a365 (by omega), Option.bind_some, Option.bind_some, show (2 : Int32) = nI 2 from rfl, nI_add, a360 (by omega), Option.bind_some, wA_ne (show 360 ≠ 365 by decide), q365 (by omega), Option.bind_some, g351_22, Option.bind_some, a360 (by omega), Option.bind_some, Option.bind_some, a360 (by omega), Option.bind_some, wA_ne (show 360 ≠ 365 by decide), wA_ne (show 360 ≠ 365 by decide), ex, ey, ix6, a365 (by omega), Option.bind_some, Option.bind_some, a360 (by omega), Option.bind_some, wA_ne (show 360 ≠ 365 by decide), wA_ne (show 360 ≠ 365 by decide), q365 (by omega), Option.bind_some, nI_add, wA_wA, wA_same, wA_wA, wA_same]
    have e1 : ∀ k, ly1v S k = mix (lyD (S.1 360) k) (fun i => if i < 51 then 0 else S.1 365 i) := fun k => rfl
    have e2 : 6 * x + y < 36 := by omega
    have e3 : 6 * y + x < 36 := by omega
    rw [e1 i, e1 (i + 1), lyD_succ, ex, ey, tn_nI (by omega), tn_nI (by omega), mix_at e2, mix_upd e2, mix_at e3, mix_upd e3, show 3 * i + 3 = 3 * (i + 1) by omega]
theorem ly_b100v (hN : S.1 351 26 = nI N) (h6 : N ≤ 6) : f_X12_lays_b100 1048576 (hp (wA S 365 (ly2v S F 0)) c) 351 365 0 = some (hp (wA S 365 (upd (ly2v S F N) 49 (S.1 356 0))) c) := by
  refine lp (N := N) (fun n i => f_X12_lays_b100 n (hp (wA S 365 (ly2v S F i)) c) 351 365 (nI i)) (fun n => ?_) (fun n i hi => ?_) N 0 1048576 (by omega) (by omega)
  · show f_X12_lays_b100 (n + 1) _ 351 365 (nI N) = _
    rw [f_X12_lays_b100, g351_26, Option.bind_some, wA_ne (by decide), hN, if_pos (nI_le (Nat.le_refl _) (by omega)), g351_18, Option.bind_some, show (0 : Int32) = nI 0 from rfl, a356 (by decide), Option.bind_some, show (49 : Int32) = nI 49 from rfl, q365 (by decide), Option.bind_some, wA_wA, wA_same, wA_ne (by decide)]
  · show f_X12_lays_b100 (n + 1) _ 351 365 (nI i) = f_X12_lays_b100 n (hp (wA S 365 (ly2v S F (i + 1))) c) 351 365 (nI (i + 1))
    rw [f_X12_lays_b100, g351_26, Option.bind_some, wA_ne (show 351 ≠ 365 by decide), hN, if_neg (nI_ge hi (by omega)), g351_20, Option.bind_some, show (3 : Int32) = nI 3 from rfl, pk_mul, a358 (by omega), Option.bind_some, wA_ne (show 358 ≠ 365 by decide), show (36 : Int32) = nI 36 from rfl, nI_add, q365 (by omega), Option.bind_some, wA_wA, wA_same, show (48 : Int32) = nI 48 from rfl, a365 (by decide), Option.bind_some, g351_20, Option.bind_some, show (2 : Int32) = nI 2 from rfl, nI_add, a358 (by omega), Option.bind_some, wA_ne (show 358 ≠ 365 by decide), q365 (by decide), Option.bind_some, wA_wA, wA_same, nI_1]
    have : upd (upd (ly2v S F i) (36 + i) (S.1 358 (3 * i))) 48 (upd (ly2v S F i) (36 + i) (S.1 358 (3 * i)) 48 ||| shl (S.1 358 (3 * i + 2)) (nI i)) = ly2v S F (i + 1) := by
      have k48 : ly2v S F i 48 = lyK (S.1 358) i := by
        unfold ly2v
        rw [if_neg (by decide), if_neg (by decide), if_pos rfl]
      rw [upd_ne (show 48 ≠ 36 + i by omega), k48]
      funext j
      by_cases j48 : j = 48
      · subst j48
        rw [upd_same]
        unfold ly2v
        rw [if_neg (by decide), if_neg (by decide), if_pos rfl]
        rfl
      · rw [upd_ne j48]
        by_cases ji : j = 36 + i
        · subst ji
          rw [upd_same]
          unfold ly2v
          rw [if_neg (by omega), if_pos (by omega), if_pos (by omega), show 36 + i - 36 = i by omega]
        · rw [upd_ne ji]
          unfold ly2v
          by_cases j36 : j < 36
          · rw [if_pos j36, if_pos j36]
          · rw [if_neg j36, if_neg j36]
            by_cases j42 : j < 42
            · rw [if_pos j42, if_pos j42]
              by_cases q : j - 36 < i
              · rw [if_pos q, if_pos (by omega)]
              · rw [if_neg q, if_neg (by omega)]
            · rw [if_neg j42, if_neg j42, if_neg j48, if_neg j48]
    rw [this]
theorem r_lays5 (hN : S.1 351 26 = nI N) (h6 : N ≤ 6) (hF : S.1 351 27 = nI F) (h12 : F ≤ 12) (he : ∀ k, k < F → ∃ x y, x < 6 ∧ y < 6 ∧ S.1 360 (3 * k) = nI x ∧ S.1 360 (3 * k + 1) = nI y) : ∃ row, f_X12_lays (hp S c) 351 365 = some (hp (wA S 365 row) c) ∧ ∀ i, i < 51 → row i = lyR (S.1 360) (S.1 358) (S.1 356 0) F N i := by
  refine ⟨upd (ly2v S F N) 49 (S.1 356 0), ?_, fun i hi => ?_⟩
  · unfold f_X12_lays
    have z0 : wA S 365 (ly0v S 51) = wA S 365 (ly1v S 0) := by
      congr 1
      funext i
      unfold ly0v ly1v
      by_cases h : i < 36
      · rw [if_pos (by omega), if_pos h]
        rfl
      · rw [if_neg h]
    have z1 : ly1v S F = ly2v S F 0 := by
      funext i
      unfold ly1v ly2v
      by_cases h : i < 36
      · rw [if_pos h, if_pos h]
      · rw [if_neg h, if_neg h]
        by_cases h2 : i < 42
        · rw [if_pos (by omega), if_pos h2, if_neg (by omega)]
        · rw [if_neg h2]
          by_cases h3 : i = 48
          · rw [if_pos (by omega), if_pos h3]
            rfl
          · rw [if_neg h3]
    rw [k351, Option.bind_some, ly_b2v, z0, ly_b20v hF h12 he, z1, ly_b100v hN h6]
  · unfold lyR
    by_cases i49 : i = 49
    · subst i49
      rw [upd_same, if_neg (by decide), if_neg (by decide), if_neg (by decide), if_pos rfl]
    · rw [upd_ne i49]
      unfold ly2v
      by_cases h : i < 36
      · rw [if_pos h, if_pos h]
      · rw [if_neg h, if_neg h]
        by_cases h2 : i < 42
        · rw [if_pos h2, if_pos h2]
        · rw [if_neg h2, if_neg h2]
          by_cases h3 : i = 48
          · rw [if_pos h3, if_pos h3]
          · rw [if_neg h3, if_neg h3, if_neg i49, if_pos hi]
end LYV
