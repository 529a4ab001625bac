/-! the reference writes a crossing down -/
section TLS
variable {S : XS} {c : Nat × Nat} {N x m : Nat}
def tlR (row : Nat → Int32) (N x m : Nat) : Nat → Int32 := upd (upd (upd (upd row (52 + 3 * m) (nI x)) (53 + 3 * m) (nI (fvN row 36))) (54 + 3 * m) (bI (rng row N))) 51 (nI (m + 1))
theorem r_tells58 (hN : S.1 351 26 = nI N) (h6 : N ≤ 6) (hm : S.1 364 51 = nI m) (hm6 : m < 60) (z : Zo N (S.1 364)) : ∃ st, f_X12_tells_b58 (hp S c) 351 (nI x) = some (hp (wA (wA S 368 st) 364 (tlR (S.1 364) N x m)) c) := by
  obtain ⟨r1, hr1⟩ : ∃ r1, r1 = upd (S.1 364) (52 + 3 * m) (nI x) := ⟨_, rfl⟩
  have c1 : ∀ k, k < 36 → r1 k = S.1 364 k := fun k hk => by rw [hr1, upd_ne (by omega)]
  obtain ⟨r2, hr2⟩ : ∃ r2, r2 = upd r1 (53 + 3 * m) (nI (fvN (S.1 364) 36)) := ⟨_, rfl⟩
  have c2 : ∀ k, k < 36 → r2 k = S.1 364 k := fun k hk => by rw [hr2, upd_ne (by omega), c1 k hk]
  have al : f_X12_allFavours (hp (wA S 364 r1) c) 351 364 = some (nI (fvN (S.1 364) 36)) := by
    rw [r_all (Or.inl rfl) (by rw [wA_ne (by decide)]; exact hN) h6, wA_same, sAll_fv h6 (Zo_congr c1 z), fvN_congr c1]
  obtain ⟨st, hst⟩ := r_hasRing (S := wA S 364 r2) (c := c) (a := 364) (Or.inl rfl) (by rw [wA_ne (by decide)]; exact hN) h6
  rw [wA_same, rng_congr h6 c2] at hst
  have i0 : (52 : Int32) + (3 : Int32) * nI m = nI (52 + 3 * m) := by rw [show (3 : Int32) = nI 3 from rfl, pk_mul, show (52 : Int32) = nI 52 from rfl, nI_add]
  have i1 : nI (52 + 3 * m) + 1 = nI (53 + 3 * m) := by rw [nI_1, show 52 + 3 * m + 1 = 53 + 3 * m by omega]
  have i2 : nI (52 + 3 * m) + 2 = nI (54 + 3 * m) := by rw [show (2 : Int32) = nI 2 from rfl, nI_add, show 52 + 3 * m + 2 = 54 + 3 * m by omega]
  refine ⟨st, ?_⟩
  have fin : ∀ b : Int32, b = bI (rng (S.1 364) N) → f_X12_tells_b117 (hp (wA (wA S 364 r2) 368 st) c) 351 b (nI (54 + 3 * m)) 364 = some (hp (wA (wA S 368 st) 364 (tlR (S.1 364) N x m)) c) := fun b hb => by
    unfold f_X12_tells_b117
    rw [q364 (by omega), Option.bind_some, g351_32, Option.bind_some, a364n (j := 51) (k := 51) rfl (by decide), Option.bind_some, q364n (j := 51) (k := 51) rfl (by decide), Option.bind_some, wA_wA, wA_same, wA_ne (show 364 ≠ 368 by decide), wA_same, upd_ne (show 51 ≠ 54 + 3 * m by omega), hb]
    have e51 : r2 51 = nI m := by rw [hr2, upd_ne (by omega), hr1, upd_ne (by omega), hm]
    rw [e51, nI_1, wA_comm (show 364 ≠ 368 by decide), wA_wA, hr2, hr1]
    rfl
  unfold f_X12_tells_b58
  rw [g351_32, Option.bind_some, a364n (j := 51) (k := 51) rfl (by decide), Option.bind_some, hm, Option.bind_some, i0, q364 (by omega), Option.bind_some, ← hr1, g351_32, Option.bind_some, Option.bind_some, al, Option.bind_some, i1, q364 (by omega), Option.bind_some, wA_wA, wA_same, ← hr2, g351_32, Option.bind_some, Option.bind_some, hst, Option.bind_some, i2]
  cases hr : rng (S.1 364) N with
  | true =>
    rw [if_neg (show ¬ bI true = 0 by decide)]
    exact fin 1 (by rw [hr]; rfl)
  | false =>
    rw [if_pos (show bI false = 0 from rfl)]
    exact fin 0 (by rw [hr]; rfl)
def shR (row : Nat → Int32) (k : Nat) : Nat → Int32 := fun i => if 52 ≤ i ∧ i < 52 + k then row (i + 3) else row i
theorem r_tells14 (hm : S.1 364 51 = nI 60) : f_X12_tells_b14 1048576 (hp S c) 351 (nI x) 1 = f_X12_tells_b58 (hp (wA S 364 (upd (shR (S.1 364) 177) 51 (nI 59))) c) 351 (nI x) := by
  have h0 : S = wA S 364 (shR (S.1 364) 0) := by
    have : shR (S.1 364) 0 = S.1 364 := funext fun i => if_neg (by omega)
    rw [this, wA_self]
  have l0 : f_X12_tells_b14 1048576 (hp (wA S 364 (shR (S.1 364) 0)) c) 351 (nI x) (nI (0 + 1)) = f_X12_tells_b58 (hp (wA S 364 (upd (shR (S.1 364) 177) 51 (nI 59))) c) 351 (nI x) := by
    refine lp (N := 177) (fun n k => f_X12_tells_b14 n (hp (wA S 364 (shR (S.1 364) k)) c) 351 (nI x) (nI (k + 1))) (fun n => ?_) (fun n k hk => ?_) 177 0 1048576 (by omega) (by omega)
    · show f_X12_tells_b14 (n + 1) _ 351 _ (nI 178) = _
      have e51 : shR (S.1 364) 177 51 = nI 60 := by
        unfold shR
        rw [if_neg (by omega), hm]
      rw [f_X12_tells_b14, if_pos (by decide), g351_32, Option.bind_some, a364n (j := 51) (k := 51) rfl (by decide), Option.bind_some, wA_same, e51, nI_prd (by decide), q364n (j := 51) (k := 51) rfl (by decide), Option.bind_some, wA_wA, wA_same]
    · show f_X12_tells_b14 (n + 1) _ 351 _ (nI (k + 1)) = _
      have i1 : (51 : Int32) + nI (k + 1) = nI (52 + k) := by rw [show (51 : Int32) = nI 51 from rfl, nI_add, show 51 + (k + 1) = 52 + k by omega]
      have i2 : nI (52 + k) + 3 = nI (55 + k) := by rw [show (3 : Int32) = nI 3 from rfl, nI_add, show 52 + k + 3 = 55 + k by omega]
      rw [f_X12_tells_b14, if_neg (show ¬ (177 : Int32) < nI (k + 1) from by rw [show (177 : Int32) = nI 177 from rfl]; exact nI_nlt (by omega) (by decide)), g351_32, Option.bind_some, Option.bind_some, i1, i2, a364 (by omega), Option.bind_some, q364 (by omega), Option.bind_some, nI_1, wA_wA, wA_same]
      have : upd (shR (S.1 364) k) (52 + k) (shR (S.1 364) k (55 + k)) = shR (S.1 364) (k + 1) := by
        funext j
        unfold upd shR
        by_cases e : j = 52 + k
        · rw [if_pos e, if_neg (by omega), if_pos (by omega), e, show 52 + k + 3 = 55 + k by omega]
        · rw [if_neg e]
          by_cases e2 : 52 ≤ j ∧ j < 52 + k
          · rw [if_pos e2, if_pos (by omega)]
          · rw [if_neg e2, if_neg (by omega)]
      rw [this]
  rw [← h0] at l0
  exact l0
/-- a log with one more -/
def lgU (row row' : Nat → Int32) (N x m : Nat) : Prop := ∃ s, s ≤ 1 ∧ s ≤ m ∧ m - s + 1 = min (m + 1) 60 ∧ row' 51 = nI (m - s + 1) ∧ row' (52 + 3 * (m - s)) = nI x ∧ row' (53 + 3 * (m - s)) = nI (fvN row 36) ∧ row' (54 + 3 * (m - s)) = bI (rng row N) ∧ (∀ j, j < m - s → ∀ d, d < 3 → row' (52 + 3 * j + d) = row (52 + 3 * (j + s) + d)) ∧ ∀ i, i < 51 → row' i = row i
theorem tlR_u {row : Nat → Int32} (hm : m < 60) : lgU row (tlR row N x m) N x m := by
  refine ⟨0, by omega, by omega, by omega, ?_, ?_, ?_, ?_, fun j hj d hd => ?_, fun i hi => ?_⟩ <;> unfold tlR
  · rw [upd_same]; rfl
  · rw [Nat.sub_zero, upd_ne (by omega), upd_ne (by omega), upd_ne (by omega), upd_same]
  · rw [Nat.sub_zero, upd_ne (by omega), upd_ne (by omega), upd_same]
  · rw [Nat.sub_zero, upd_ne (by omega), upd_same]
  · rw [upd_ne (by omega), upd_ne (by omega), upd_ne (by omega), upd_ne (by omega), Nat.add_zero]
  · rw [upd_ne (by omega), upd_ne (by omega), upd_ne (by omega), upd_ne (by omega)]
theorem r_tells (hN : S.1 351 26 = nI N) (h6 : N ≤ 6) (hm : S.1 364 51 = nI m) (hm6 : m ≤ 60) (z : Zo N (S.1 364)) : ∃ st row', f_X12_tells (hp S c) 351 (nI x) = some (hp (wA (wA S 368 st) 364 row') c) ∧ lgU (S.1 364) row' N x m := by
  unfold f_X12_tells
  rw [k351, Option.bind_some, g351_32, Option.bind_some, a364n (j := 51) (k := 51) rfl (by decide), Option.bind_some, hm]
  by_cases e : m = 60
  · subst e
    rw [if_pos (show nI 60 = (60 : Int32) from rfl), r_tells14 hm]
    have c1 : ∀ k, k < 51 → upd (shR (S.1 364) 177) 51 (nI 59) k = S.1 364 k := fun k hk => by
      rw [upd_ne (by omega)]
      exact if_neg (by omega)
    obtain ⟨st, hst⟩ := r_tells58 (S := wA S 364 (upd (shR (S.1 364) 177) 51 (nI 59))) (c := c) (x := x) (m := 59) (by rw [wA_ne (by decide)]; exact hN) h6 (by rw [wA_same, upd_same]) (by decide) (by rw [wA_same]; exact Zo_congr (fun k hk => c1 k (by omega)) z)
    rw [wA_same, wA_comm (show 364 ≠ 368 by decide), wA_wA] at hst
    refine ⟨st, _, hst, 1, by decide, by decide, by decide, ?_, ?_, ?_, ?_, fun j hj d hd => ?_, fun i hi => ?_⟩ <;> unfold tlR
    · rw [upd_same]
    · rw [upd_ne (by decide), upd_ne (by decide), upd_ne (by decide), upd_same]
    · rw [upd_ne (by decide), upd_ne (by decide), upd_same, fvN_congr (fun k hk => c1 k (by omega))]
    · rw [upd_ne (by decide), upd_same, rng_congr h6 (fun k hk => c1 k (by omega))]
    · rw [upd_ne (by omega), upd_ne (by omega), upd_ne (by omega), upd_ne (by omega), upd_ne (by omega)]
      unfold shR
      rw [if_pos (by omega), show 52 + 3 * j + d + 3 = 52 + 3 * (j + 1) + d by omega]
    · rw [upd_ne (by omega), upd_ne (by omega), upd_ne (by omega), upd_ne (by omega), c1 i hi]
  · rw [if_neg (show ¬ nI m = (60 : Int32) from fun z => e ((nI_eq (b := 60) (by omega) (by decide)).mp z))]
    obtain ⟨st, hst⟩ := r_tells58 (S := S) (c := c) (x := x) hN h6 hm (by omega) z
    exact ⟨st, _, hst, tlR_u (by omega)⟩
/-- the log in a chronicle with one more -/
theorem lgR_u {w f r w' f' r' row0 row row' : Nat → Int32} {cr : Nat} (L : lgR w f r row0 cr) (hrow : ∀ i, 51 ≤ i → row i = row0 i) (U : lgU row row' N x (min cr 60)) (hc : cr < 9999) (h50 : row' 50 = nI (cr + 1)) (hw : w' = upd w ((cr + 1) % 128) (nI x)) (hf : f' = upd f ((cr + 1) % 128) (nI (fvN row 36))) (hr : r' = upd r ((cr + 1) % 128) (bI (rng row N))) : lgR w' f' r' row' (cr + 1) := by
  obtain ⟨s, s1, s2, s3, u1, u2, u3, u4, u5, u6⟩ := U
  obtain ⟨l1, l2, l3, l4⟩ := L
  have em : min (cr + 1) 60 = min cr 60 - s + 1 := by omega
  refine ⟨h50, by omega, by rw [em]; exact u1, fun i hi => ?_⟩
  rw [em] at hi ⊢
  rw [hw, hf, hr]
  by_cases e : i = 0
  · subst e
    rw [show min cr 60 - s + 1 - 1 - 0 = min cr 60 - s by omega, Nat.sub_zero, upd_same, upd_same, upd_same]
    exact ⟨u2, u3, u4⟩
  · have hne : (cr + 1 - i) % 128 ≠ (cr + 1) % 128 := by omega
    rw [upd_ne hne, upd_ne hne, upd_ne hne]
    have b := l4 (i - 1) (by omega)
    have ej : min cr 60 - s + 1 - 1 - i = min cr 60 - s - i := by omega
    have e1 : min cr 60 - 1 - (i - 1) = min cr 60 - s - i + s := by omega
    have e2 : cr - (i - 1) = cr + 1 - i := by omega
    rw [e1, e2] at b
    rw [ej]
    have k0 := (u5 (min cr 60 - s - i) (by omega) 0 (by decide)).trans (hrow _ (by omega))
    have k1 := (u5 (min cr 60 - s - i) (by omega) 1 (by decide)).trans (hrow _ (by omega))
    have k2 := (u5 (min cr 60 - s - i) (by omega) 2 (by decide)).trans (hrow _ (by omega))
    refine ⟨k0.trans b.1, ?_, ?_⟩
    · rw [show 53 + 3 * (min cr 60 - s - i) = 52 + 3 * (min cr 60 - s - i) + 1 by omega, k1, show 52 + 3 * (min cr 60 - s - i + s) + 1 = 53 + 3 * (min cr 60 - s - i + s) by omega]
      exact b.2.1
    · rw [show 54 + 3 * (min cr 60 - s - i) = 52 + 3 * (min cr 60 - s - i) + 2 by omega, k2, show 52 + 3 * (min cr 60 - s - i + s) + 2 = 54 + 3 * (min cr 60 - s - i + s) by omega]
      exact b.2.2
theorem lgR_old {w f r row : Nat → Int32} {cr c0 : Nat} {a b d : Int32} (L : lgR w f r row c0) (h1 : c0 ≤ cr) (h2 : cr ≤ c0 + 40) : lgR (upd w ((cr + 1) % 128) a) (upd f ((cr + 1) % 128) b) (upd r ((cr + 1) % 128) d) row c0 := by
  obtain ⟨l1, l2, l3, l4⟩ := L
  refine ⟨l1, l2, l3, fun i hi => ?_⟩
  have hne : (c0 - i) % 128 ≠ (cr + 1) % 128 := by omega
  rw [upd_ne hne, upd_ne hne, upd_ne hne]
  exact l4 i hi
end TLS
