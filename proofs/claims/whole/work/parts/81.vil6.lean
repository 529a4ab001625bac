/-! VILLAGES: the reference reads items so -/
def kkd (κ : Nat) : Int32 := if κ = 0 then 115 else if κ = 1 then 112 else 102
def kst (κ : Nat) : Nat := if κ = 0 then 1000000010 + 6 else if κ = 1 then 1000000010 + 7 else 1000000010 + 8
theorem kul {h : xa_H} : ∀ κ, κ < 3 → ∀ j, j < kcn κ → f_X12_usual h (kkd κ) (nI j) = some (kus κ j) ∧ f_X12_leastOf h (kkd κ) (nI j) = some (klo κ j) ∧ f_X12_mostOf h (kkd κ) (nI j) = some (khi κ j) := by
  intro κ hκ j hj
  rcases (by omega : κ = 0 ∨ κ = 1 ∨ κ = 2) with rfl | rfl | rfl
  · have : j < 2 := hj
    rcases (by omega : j = 0 ∨ j = 1) with rfl | rfl <;> exact ⟨rfl, rfl, rfl⟩
  · have : j < 3 := hj
    rcases (by omega : j = 0 ∨ j = 1 ∨ j = 2) with rfl | rfl | rfl <;> exact ⟨rfl, rfl, rfl⟩
  · have : j < 3 := hj
    rcases (by omega : j = 0 ∨ j = 1 ∨ j = 2) with rfl | rfl | rfl <;> exact ⟨rfl, rfl, rfl⟩
theorem kst_len : ∀ κ, κ < 3 → sLen (kst κ) = some (nI (kcn κ)) := by decide +kernel
theorem kst_at : ∀ κ, κ < 3 → ∀ j, j < 3 → j < kcn κ → sAt (kst κ) (nI j) = some (kch κ j) := by decide +kernel
theorem X12_spotOf {h : xa_H} {s : Int32} {κ : Nat} (hκ : κ < 3) : f_X12_spotOf h (kst κ) s = some (match fi κ s with | none => -1 | some j => nI j) := by
  have h3 := kcn_le (κ := κ)
  have l0 : f_X12_spotOf_b2 1048576 h (kst κ) s (nI 0) = fst (fun k => decide (kch κ k = s)) (fun k => some (nI k)) (some (-1)) (kcn κ) 0 := by
    refine lpx (N := kcn κ) (fun n k => f_X12_spotOf_b2 n h (kst κ) s (nI k)) (fun n => ?_) (fun n k hk => ?_) (kcn κ) 0 1048576 (by omega) (by omega)
    · show f_X12_spotOf_b2 (n + 1) h (kst κ) s (nI (kcn κ)) = _
      rw [f_X12_spotOf_b2, kst_len κ hκ, Option.bind_some, if_pos (nI_le (Nat.le_refl _) (by omega))]
    · show f_X12_spotOf_b2 (n + 1) h (kst κ) s (nI k) = _
      rw [f_X12_spotOf_b2, kst_len κ hκ, Option.bind_some, if_neg (nI_ge (by omega) (by omega)), kst_at κ hκ k (by omega) hk, Option.bind_some, nI_1]
      by_cases e : kch κ k = s
      · rw [if_pos e, decide_eq_true e]
        rfl
      · rw [if_neg e, decide_eq_false e]
        rfl
  unfold f_X12_spotOf
  refine l0.trans ?_
  have d : ∀ (k : Int32), (decide (k = s) = true) ↔ (s = k) := fun k => by
    rw [decide_eq_true_eq]
    exact eq_comm
  unfold fi
  rcases (by omega : κ = 0 ∨ κ = 1 ∨ κ = 2) with rfl | rfl | rfl
  · show (if decide (kch 0 0 = s) = true then some (nI 0) else if decide (kch 0 1 = s) = true then some (nI 1) else some (-1)) = _
    rw [if_neg (c := (0 : Nat) ≠ 0 ∧ s = kch 0 2) (fun z => z.1 rfl)]
    simp only [d]
    split
    · rfl
    · split <;> rfl
  · show (if decide (kch 1 0 = s) = true then some (nI 0) else if decide (kch 1 1 = s) = true then some (nI 1) else if decide (kch 1 2 = s) = true then some (nI 2) else some (-1)) = _
    simp only [d]
    by_cases c1 : s = kch 1 0
    · rw [if_pos c1, if_pos c1]
    · rw [if_neg c1, if_neg c1]
      by_cases c2 : s = kch 1 1
      · rw [if_pos c2, if_pos c2]
      · rw [if_neg c2, if_neg c2]
        by_cases c3 : s = kch 1 2
        · rw [if_pos c3, if_pos ⟨by decide, c3⟩]
        · rw [if_neg c3, if_neg (fun z => c3 z.2)]
  · show (if decide (kch 2 0 = s) = true then some (nI 0) else if decide (kch 2 1 = s) = true then some (nI 1) else if decide (kch 2 2 = s) = true then some (nI 2) else some (-1)) = _
    simp only [d]
    by_cases c1 : s = kch 2 0
    · rw [if_pos c1, if_pos c1]
    · rw [if_neg c1, if_neg c1]
      by_cases c2 : s = kch 2 1
      · rw [if_pos c2, if_pos c2]
      · rw [if_neg c2, if_neg c2]
        by_cases c3 : s = kch 2 2
        · rw [if_pos c3, if_pos ⟨by decide, c3⟩]
        · rw [if_neg c3, if_neg (fun z => c3 z.2)]
theorem lgI {x y : Int32} : (0 ≤ lg_cmp x.toInt64 y.toInt64 ↔ y ≤ x) ∧ (lg_cmp x.toInt64 y.toInt64 ≤ 0 ↔ x ≤ y) ∧ (lg_cmp x.toInt64 y.toInt64 < 0 ↔ x < y) ∧ (0 < lg_cmp x.toInt64 y.toInt64 ↔ y < x) := by
  have e1 : (x.toInt64 > y.toInt64) ↔ y < x := by
    show y.toInt64 < x.toInt64 ↔ _
    rw [Int64.lt_iff_toInt_lt, Int32.toInt_toInt64, Int32.toInt_toInt64, Int32.lt_iff_toInt_lt]
  have e2 : (x.toInt64 = y.toInt64) ↔ x = y := by
    constructor
    · intro h
      have := congrArg Int64.toInt h
      rw [Int32.toInt_toInt64, Int32.toInt_toInt64] at this
      exact Int32.toInt_inj.mp this
    · intro h
      rw [h]
  unfold lg_cmp
  by_cases c1 : y < x
  · rw [if_pos (e1.mpr c1)]
    exact ⟨⟨fun _ => Int32.le_of_lt c1, fun _ => by decide⟩, ⟨fun z => absurd z (by decide), fun z => absurd c1 (Int32.not_lt.mpr z)⟩, ⟨fun z => absurd z (by decide), fun z => absurd (Int32.le_of_lt c1) (Int32.not_le.mpr z)⟩, ⟨fun _ => c1, fun _ => by decide⟩⟩
  · rw [if_neg (fun z => c1 (e1.mp z))]
    by_cases c2 : x = y
    · rw [if_pos (e2.mpr c2), c2]
      exact ⟨⟨fun _ => Int32.le_refl _, fun _ => by decide⟩, ⟨fun _ => Int32.le_refl _, fun _ => by decide⟩, ⟨fun z => absurd z (by decide), fun z => absurd z Int32.lt_irrefl⟩, ⟨fun z => absurd z (by decide), fun z => absurd z Int32.lt_irrefl⟩⟩
    · rw [if_neg (fun z => c2 (e2.mp z))]
      have c3 : x ≤ y := Int32.not_lt.mp c1
      have c4 : x < y := Int32.lt_of_le_of_ne c3 c2
      exact ⟨⟨fun z => absurd z (by decide), fun z => absurd (Int32.le_antisymm c3 z) c2⟩, ⟨fun _ => c3, fun _ => by decide⟩, ⟨fun _ => c4, fun _ => by decide⟩, ⟨fun z => absurd z (by decide), fun z => absurd z c1⟩⟩
theorem X12_isIn {h : xa_H} {x y z : Int32} : f_X12_isIn h x.toInt64 y.toInt64 z.toInt64 = some (bI (!decide (x < y) && !decide (z < x))) := by
  unfold f_X12_isIn
  by_cases c1 : x < y
  · rw [if_pos (lgI.2.2.1.mpr c1), decide_eq_true c1]
    rfl
  · rw [if_neg (fun q => c1 (lgI.2.2.1.mp q)), decide_eq_false c1]
    by_cases c2 : z < x
    · rw [if_pos (lgI.2.2.2.mpr c2), decide_eq_true c2]
      rfl
    · rw [if_neg (fun q => c2 (lgI.2.2.2.mp q)), decide_eq_false c2]
      rfl
section V6
variable {S : XS} {c : Nat × Nat} {T : Nat → Int32} {L p d : Nat}
theorem rf_here (Y : Ty S T L) (h : p < L) {f : Int32} : f_X12_here (hp (rfS S p f d) c) 351 = some (T p) := by
  have hL := Y.1
  obtain ⟨v, bg, hb, hv, hg⟩ := Y.get (c := c) h
  unfold f_X12_here
  rw [k351, Option.bind_some, g351_10, Option.bind_some, g351_9, Option.bind_some, Y.len, rfS_at, if_neg (nI_ge (by omega) (by omega)), g351_5, Option.bind_some, g351_8, Option.bind_some, Option.bind_some, rfS_22, Y.bg, hb, nI_add, hg, Option.bind_some, hv.and]
theorem X12_nb (Y : Ty S T L) (hp' : p ≤ L) {lo hi : Int32} : (∀ f, nmB T L lo hi p = .inl f → ∃ v p', f_X12_number (hp (rfS S p (-1) d) c) 351 lo hi = some (v, hp (rfS S p' (nI f) d) c)) ∧ ∀ v q, nmB T L lo hi p = .inr (v, q) → f_X12_number (hp (rfS S p (-1) d) c) 351 lo hi = some (v, hp (rfS S q (-1) d) c) := by
  have hL := Y.1
  have hs := sk_le (T := T) hp'
  have fin : ∀ (v : Int32) (q : Nat), 0 < q → q ≤ L → f_X12_number_b67 (hp (rfS S q (-1) d) c) 351 lo hi v = if q < L ∧ isDg (T q) = true then some (0, hp (rfS S q (nI q) d) c) else if v < lo ∨ hi < v then some (v, hp (rfS S (q - 1) (nI (q - 1)) d) c) else some (v, hp (rfS S q (-1) d) c) := by
    intro v q q0 hq
    unfold f_X12_number_b67 f_X12_number_b109
    rw [rf_isDigit Y hq, Option.bind_some]
    by_cases e : q < L ∧ isDg (T q) = true
    · rw [if_pos e, decide_eq_true e.1, e.2, if_neg (show ¬ bI (true && true) = 0 by decide), rf_fails, Option.bind_some]
    · have hz : (decide (q < L) && isDg (T q)) = false := by
        rw [← Bool.not_eq_true, Bool.and_eq_true, decide_eq_true_eq]
        exact e
      rw [if_neg e, hz, if_pos bI_f, X12_isIn, Option.bind_some]
      by_cases e2 : v < lo ∨ hi < v
      · have hz2 : (!decide (v < lo) && !decide (hi < v)) = false := by
          rcases e2 with z | z
          · rw [decide_eq_true z]
            rfl
          · rw [decide_eq_true z, Bool.and_comm]
            rfl
        rw [hz2, if_pos bI_f, if_pos e2, g351_10, Option.bind_some, rfS_at, show q = (q - 1) + 1 by omega, sub1, Nat.add_sub_cancel, p351_10, Option.bind_some, rfS_p10, rf_fails, Option.bind_some]
      · have hz2 : (!decide (v < lo) && !decide (hi < v)) = true := by
          rw [decide_eq_false (fun z => e2 (Or.inl z)), decide_eq_false (fun z => e2 (Or.inr z))]
          rfl
        rw [hz2, if_neg (show ¬ bI true = 0 by decide), if_neg e2]
  have hdg : (decide (sk T L p < L) && isDg (T (sk T L p))) = isDg (pk T L p) := by
    unfold pk
    by_cases z : sk T L p < L
    · rw [if_pos z, decide_eq_true z, Bool.true_and]
    · rw [if_neg z, decide_eq_false z, Bool.false_and]
      rfl
  unfold nmB nmF f_X12_number
  rw [k351, Option.bind_some, rf_look Y hp', Option.bind_some, rf_isDigit Y hs, Option.bind_some, hdg]
  cases hg : isDg (pk T L p) with
  | false =>
    rw [if_pos bI_f, rf_fails, Option.bind_some, if_neg (by decide)]
    refine ⟨fun f z => ?_, fun v q z => by cases z⟩
    cases z
    exact ⟨_, _, rfl⟩
  | true =>
    have hne : pk T L p ≠ -1 := fun z => by
      rw [z, isDg_m1] at hg
      cases hg
    have h1 := pk_sk1 hne
    have h2 := pk_isin hne
    have hd1 : dgF T L 2 0 (sk T L p) = dgF T L 1 (T (sk T L p) - 48) (sk T L p + 1) := by
      show (if sk T L p < L ∧ isDg (T (sk T L p)) = true then dgF T L 1 (10 * 0 + T (sk T L p) - 48) (sk T L p + 1) else _) = _
      rw [if_pos ⟨h2.1, by rw [← h2.2]; exact hg⟩, show (10 : Int32) * 0 + T (sk T L p) = T (sk T L p) by rw [show (10 : Int32) * 0 = 0 by decide, Int32.zero_add]]
    have res : f_X12_number_b67 (hp (rfS S (dgF T L 2 0 (sk T L p)).2 (-1) d) c) 351 lo hi (dgF T L 2 0 (sk T L p)).1 = (if (dgF T L 2 0 (sk T L p)).2 < L ∧ isDg (T (dgF T L 2 0 (sk T L p)).2) = true then some (0, hp (rfS S (dgF T L 2 0 (sk T L p)).2 (nI (dgF T L 2 0 (sk T L p)).2) d) c) else if (dgF T L 2 0 (sk T L p)).1 < lo ∨ hi < (dgF T L 2 0 (sk T L p)).1 then some ((dgF T L 2 0 (sk T L p)).1, hp (rfS S ((dgF T L 2 0 (sk T L p)).2 - 1) (nI ((dgF T L 2 0 (sk T L p)).2 - 1)) d) c) else some ((dgF T L 2 0 (sk T L p)).1, hp (rfS S (dgF T L 2 0 (sk T L p)).2 (-1) d) c)) := by
      have hle := dgF_le (T := T) (L := L) 1 (T (sk T L p) - 48) (sk T L p + 1) h1.1
      rw [← hd1] at hle
      exact fin _ _ (by omega) hle.2
    have run : ((gI [12] 10 (hp (rfS S (sk T L p) (-1) d) c) 351).bind fun x4 => (xp [12] 10 (hp (rfS S (sk T L p) (-1) d) c) 351 (.int (x4 + (1 : Int32)))).bind fun h5 => (f_X12_isDigit h5 351).bind fun q6 => if q6 = 0 then f_X12_number_b67 h5 351 lo hi (pk T L p - (48 : Int32)) else (f_X12_here h5 351).bind fun q8 => (gI [12] 10 h5 351).bind fun x9 => (xp [12] 10 h5 351 (.int (x9 + (1 : Int32)))).bind fun h10 => f_X12_number_b67 h10 351 lo hi ((((10 : Int32) * (pk T L p - (48 : Int32))) + q8) - (48 : Int32))) = f_X12_number_b67 (hp (rfS S (dgF T L 2 0 (sk T L p)).2 (-1) d) c) 351 lo hi (dgF T L 2 0 (sk T L p)).1 := by
      rw [g351_10, Option.bind_some, rfS_at, nI_1, p351_10, Option.bind_some, rfS_p10, rf_isDigit Y h1.1, Option.bind_some, hd1, h2.2]
      show _ = f_X12_number_b67 (hp (rfS S (if sk T L p + 1 < L ∧ isDg (T (sk T L p + 1)) = true then (10 * (T (sk T L p) - 48) + T (sk T L p + 1) - 48, sk T L p + 1 + 1) else (T (sk T L p) - 48, sk T L p + 1)).2 (-1) d) c) 351 lo hi (if sk T L p + 1 < L ∧ isDg (T (sk T L p + 1)) = true then (10 * (T (sk T L p) - 48) + T (sk T L p + 1) - 48, sk T L p + 1 + 1) else (T (sk T L p) - 48, sk T L p + 1)).1
      by_cases e : sk T L p + 1 < L ∧ isDg (T (sk T L p + 1)) = true
      · rw [if_pos e, decide_eq_true e.1, e.2, if_neg (show ¬ bI (true && true) = 0 by decide), rf_here Y e.1, Option.bind_some, g351_10, Option.bind_some, rfS_at, nI_1, p351_10, Option.bind_some, rfS_p10]
      · have hz : (decide (sk T L p + 1 < L) && isDg (T (sk T L p + 1))) = false := by
          rw [← Bool.not_eq_true, Bool.and_eq_true, decide_eq_true_eq]
          exact e
        rw [if_neg e, hz, if_pos bI_f]
    rw [if_neg (show ¬ bI true = 0 by decide), if_pos rfl, run, res]
    generalize dgF T L 2 0 (sk T L p) = r
    by_cases e : r.2 < L ∧ isDg (T r.2) = true
    · rw [if_pos e, if_pos e]
      refine ⟨fun f z => ?_, fun v q z => by cases z⟩
      cases z
      exact ⟨_, _, rfl⟩
    · rw [if_neg e, if_neg e]
      obtain ⟨v, q⟩ := r
      dsimp only
      by_cases e2 : v < lo ∨ hi < v
      · rw [if_pos e2, if_pos e2]
        refine ⟨fun f z => ?_, fun v q z => by cases z⟩
        cases z
        exact ⟨_, _, rfl⟩
      · rw [if_neg e2, if_neg e2]
        refine ⟨fun f z => (by cases z), fun v' q' z => ?_⟩
        cases z
        rfl
/-- the three rows that a village is read into -/
def isW (A n : Nat) : Prop := (A = 357 ∧ n = 2) ∨ (A = 359 ∧ n = 18) ∨ (A = 361 ∧ n = 36)
theorem isW.st {A n : Nat} (W : isW A n) {k : Nat} {v : Int32} (hk : k < n) : pI (hp S c) A (nI k) v = some (hp (wA S A (upd (S.1 A) k v)) c) := by
  rcases W with ⟨rfl, rfl⟩ | ⟨rfl, rfl⟩ | ⟨rfl, rfl⟩
  · exact q357 hk
  · exact q359 hk
  · exact q361 hk
theorem isW.ne {A n : Nat} (W : isW A n) : A ≠ 351 := by
  rcases W with ⟨rfl, rfl⟩ | ⟨rfl, rfl⟩ | ⟨rfl, rfl⟩ <;> decide
theorem rfS_wA {A : Nat} {f : Int32} {F : Nat → Int32} (h : A ≠ 351) : wA (rfS S p f d) A F = rfS (wA S A F) p f d := by
  unfold rfS
  rw [wA_comm h.symm, wA_ne h.symm]
theorem Ty.wr {A : Nat} {F : Nat → Int32} (Y : Ty S T L) (h : A ≠ 351) (ht : S.2.2 351 ≠ A) : Ty (wA S A F) T L := by
  obtain ⟨h1, h2, n, bg, h3, h4, h5, h6, h7, h8⟩ := Y
  refine ⟨h1, ?_, n, bg, ?_, h4, h5, h6, h7, fun k hk => ?_⟩
  · rw [wA_ne h.symm]
    exact h2
  · rw [wA_ne h.symm]
    exact h3
  · show byR (T k) ((wA S A F).1 (S.2.2 351) (bg + k))
    rw [wA_ne ht]
    exact h8 k hk
end V6
