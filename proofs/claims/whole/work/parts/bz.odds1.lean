/-! ODDS: the class -/
section OD1
variable {S : XS} {c : Nat × Nat} {n N j L ch : Nat} {kp lim : Int32} {dg : Nat → Nat}
def slp (N : Nat) (kp lim : Int32) (Q : BS) (d : Nat) : BS := if d < N then ph N kp lim true Q ((d + 1) % N) else Q
def od (N : Nat) (kp lim : Int32) (dg : Nat → Nat) (ch : Nat) : Nat → Nat → BS → Nat → Nat
  | 0, _, Q, p => if rng Q.1 N then 0 else p
  | r + 1, i, Q, p => od N kp lim dg ch r (i + 1) (ph N kp lim true Q (dg i)) (p - p * ch / 100) + od N kp lim dg ch r (i + 1) (slp N kp lim Q (dg i)) (p * ch / 100)
theorem od_le (hc : ch ≤ 100) : ∀ (r i : Nat) (Q : BS) (p : Nat), od N kp lim dg ch r i Q p ≤ p
  | 0, _, Q, p => by
    show (if rng Q.1 N then 0 else p) ≤ p
    split <;> omega
  | r + 1, i, Q, p => by
    have h1 := od_le hc r (i + 1) (ph N kp lim true Q (dg i)) (p - p * ch / 100)
    have h2 := od_le hc r (i + 1) (slp N kp lim Q (dg i)) (p * ch / 100)
    have h3 : p * ch / 100 ≤ p := by
      have : p * ch ≤ p * 100 := Nat.mul_le_mul_left p hc
      omega
    show od N kp lim dg ch r (i + 1) (ph N kp lim true Q (dg i)) (p - p * ch / 100) + od N kp lim dg ch r (i + 1) (slp N kp lim Q (dg i)) (p * ch / 100) ≤ p
    omega
theorem od_0 (hc : ch ≤ 100) (r i : Nat) (Q : BS) : od N kp lim dg ch r i Q 0 = 0 := Nat.le_zero.mp (od_le hc r i Q 0)
theorem slp_cg {Q Q' : BS} {d : Nat} (h6 : N ≤ 6) (h : eqB Q Q') : eqB (slp N kp lim Q d) (slp N kp lim Q' d) := by
  unfold slp
  split
  · have : (d + 1) % N < N := Nat.mod_lt _ (by omega)
    exact ph_cg h6 (by omega) h
  · exact h
theorem ph_cg2 {x : Bool} {Q Q' : BS} {d : Nat} (h6 : N ≤ 6) (h : eqB Q Q') : eqB (ph N kp lim x Q d) (ph N kp lim x Q' d) := by
  unfold ph
  rw [can_congr h6 h]
  split
  · rename_i hh
    have := (can_x (Bool.and_eq_true_iff.mp hh).2).1
    exact crs_congr h6 (by omega) h
  · exact h
theorem od_cg (h6 : N ≤ 6) : ∀ (r i : Nat) (Q Q' : BS) (p : Nat), eqB Q Q' → od N kp lim dg ch r i Q p = od N kp lim dg ch r i Q' p
  | 0, _, Q, Q', p, h => by
    show (if rng Q.1 N then 0 else p) = if rng Q'.1 N then 0 else p
    rw [rng_congr h6 h.1]
  | r + 1, i, Q, Q', p, h => by
    show od N kp lim dg ch r (i + 1) (ph N kp lim true Q (dg i)) (p - p * ch / 100) + od N kp lim dg ch r (i + 1) (slp N kp lim Q (dg i)) (p * ch / 100) = od N kp lim dg ch r (i + 1) (ph N kp lim true Q' (dg i)) (p - p * ch / 100) + od N kp lim dg ch r (i + 1) (slp N kp lim Q' (dg i)) (p * ch / 100)
    rw [od_cg h6 r (i + 1) _ _ _ (ph_cg2 h6 h), od_cg h6 r (i + 1) _ _ _ (slp_cg h6 h)]
theorem B304 {i : Nat} (hi : i < 9) : isB (304 + 5 * i) := by
  have : ∀ i, i < 9 → isBd (304 + 5 * i) = true := by decide +kernel
  exact isBd_of _ (this i hi)
def SL (S : XS) (L ch j : Nat) (dg : Nat → Nat) : Prop := S.1 301 2 = nI L ∧ S.1 301 3 = nI ch ∧ S.2.2 301 = 26 + j ∧ ∀ k, k < L → S.1 (26 + j) k = nI (dg k) ∧ dg k < 10
theorem SL.of {S' : XS} (h : SL S L ch j dg) (hj : j < 4) (f : ∀ a, a < 304 → S'.1 a = S.1 a) (f2 : S'.2 = S.2) : SL S' L ch j dg := by
  unfold SL at h ⊢
  rw [f 301 (by decide), f (26 + j) (by omega), f2]
  exact h
/-- a board on the path -/
def BQ (S : XS) (N : Nat) (kp lim : Int32) (i : Nat) : Prop := S.1 (304 + 5 * i) 4 = nI N ∧ S.1 (304 + 5 * i) 5 = lim ∧ S.1 (304 + 5 * i) 6 = kp ∧ Vb lim (S.1 (304 + 5 * i + 1), S.1 (304 + 5 * i + 2))
def CQ (c : Nat × Nat) (N : Nat) (kp lim : Int32) (dg : Nat → Nat) (L ch j q r i : Nat) : Prop := ∀ (S : XS) (p : Nat), p ≤ 1000000000 → BQ S N kp lim i → SL S L ch j dg → ∃ S', f_X7_quiet q (hp S c) 301 (nI i) (lN p) = some (lN (od N kp lim dg ch r i (S.1 (304 + 5 * i + 1), S.1 (304 + 5 * i + 2)) p), hp S' c) ∧ (∀ a, a < 304 + 5 * (i + 1) ∨ 348 < a → S'.1 a = S.1 a) ∧ S'.2 = S.2
theorem lcmp0 {p : Nat} (hp' : p < 2 ^ 31) : (0 < lg_cmp (lN p) (0 : Int64)) ↔ 0 < p := by
  rw [← i64_lN hp', show (0 : Int64) = (0 : Int32).toInt64 from rfl, lgI.2.2.2, Int32.lt_iff_toInt_lt, nI_toInt hp', show (0 : Int32).toInt = 0 from rfl]
  omega
theorem slip_c {p : Nat} (hp' : p ≤ 1000000000) (hc : ch ≤ 100) : (lN p * (nI ch).toInt64) / (100 : Int64) = lN (p * ch / 100) ∧ p * ch / 100 ≤ p := by
  have h : p * ch ≤ p * 100 := Nat.mul_le_mul_left p hc
  rw [i64_lN (by omega), lN_mul, show (100 : Int64) = lN 100 from rfl, pk_lDiv (by omega) (by decide) (by decide)]
  exact ⟨rfl, by omega⟩
/-- one way on -/
theorem c_branch {q r i x : Nat} (hj : j < 4) (h6 : N ≤ 6) (hl : lim.toInt ≤ 99) (hc : ch ≤ 100) (hi : i < 8) (hx : x < 100) (ih : CQ c N kp lim dg L ch j q r (i + 1)) (S : XS) (p : Nat) (hp' : p ≤ 1000000000) (B : BQ S N kp lim i) (s : SL S L ch j dg) (neg : Bool) : ∃ S', f_X7_branch (q + 1) (hp S c) 301 (nI i) (if neg then -1 else nI x) (lN p) = some (lN (od N kp lim dg ch r (i + 1) (if neg then (S.1 (304 + 5 * i + 1), S.1 (304 + 5 * i + 2)) else ph N kp lim true (S.1 (304 + 5 * i + 1), S.1 (304 + 5 * i + 2)) x) p), hp S' c) ∧ (∀ a, a < 304 + 5 * (i + 1) ∨ 348 < a → S'.1 a = S.1 a) ∧ S'.2 = S.2 := by
  have eb : f_X7_branch (q + 1) = g_X7_branch (f_X7_branch q) (f_X7_quiet q) := rfl
  rw [eb]
  unfold g_X7_branch f_X7_branch_b44
  rw [k301, Option.bind_some]
  by_cases h0 : p = 0
  · subst h0
    refine ⟨S, ?_, fun _ _ => rfl, rfl⟩
    rw [if_neg (fun z => by have := (lcmp0 (p := 0) (by decide)).mp z; omega), od_0 hc]
    rfl
  · obtain ⟨S1, e1, e2, e3⟩ := (B304 (i := i + 1) (by omega)).become (S := S) (c := c) (B304 (i := i) (by omega)) (by omega)
    obtain ⟨b1, b2, b3, b4, b5⟩ := e2
    have eQ : eqB (S1.1 (304 + 5 * (i + 1) + 1), S1.1 (304 + 5 * (i + 1) + 2)) (S.1 (304 + 5 * i + 1), S.1 (304 + 5 * i + 2)) := ⟨fun k hk => b1 k hk, fun k hk => b2 k hk⟩
    have V1 : Vb lim (S1.1 (304 + 5 * (i + 1) + 1), S1.1 (304 + 5 * (i + 1) + 2)) := Vb_congr eQ B.2.2.2
    have n4 : S1.1 (304 + 5 * (i + 1)) 4 = nI N := (b5 4 (by decide) (by decide)).trans B.1
    have n5 : S1.1 (304 + 5 * (i + 1)) 5 = lim := (b5 5 (by decide) (by decide)).trans B.2.1
    have n6 : S1.1 (304 + 5 * (i + 1)) 6 = kp := (b5 6 (by decide) (by decide)).trans B.2.2.1
    have sf : wB S1 (304 + 5 * (i + 1)) (S1.1 (304 + 5 * (i + 1) + 1), S1.1 (304 + 5 * (i + 1) + 2)) = S1 := wB_self
    have fS1 : ∀ a, a < 304 + 5 * (i + 1) ∨ 348 < a → S1.1 a = S.1 a := fun a ha => e3.1 a (by omega)
    have fin : ∀ (Q : BS), Vb lim Q → ∃ S', ((f_X7_quiet q (hp (wB S1 (304 + 5 * (i + 1)) Q) c) 301 (nI i + 1) (lN p)).bind fun q1 => some (q1.1, q1.2)) = some (lN (od N kp lim dg ch r (i + 1) Q p), hp S' c) ∧ (∀ a, a < 304 + 5 * (i + 1) ∨ 348 < a → S'.1 a = S.1 a) ∧ S'.2 = S.2 := fun Q VQ => by
      have w1 : (wB S1 (304 + 5 * (i + 1)) Q).1 (304 + 5 * (i + 1) + 1) = Q.1 := wB_1
      have w2 : (wB S1 (304 + 5 * (i + 1)) Q).1 (304 + 5 * (i + 1) + 2) = Q.2 := wB_2
      obtain ⟨S', y1, y2, y3⟩ := ih (wB S1 (304 + 5 * (i + 1)) Q) p hp' ⟨by rw [wB_ne (by omega) (by omega)]; exact n4, by rw [wB_ne (by omega) (by omega)]; exact n5, by rw [wB_ne (by omega) (by omega)]; exact n6, by rw [w1, w2]; exact VQ⟩ (s.of hj (fun a ha => by rw [wB_ne (by omega) (by omega), fS1 a (by omega)]) (by rw [wB_22, e3.2]))
      rw [w1, w2] at y1
      refine ⟨S', ?_, fun a ha => by rw [y2 a (by omega), wB_ne (by omega) (by omega), fS1 a ha], by rw [y3, wB_22, e3.2]⟩
      rw [nI_1, y1, Option.bind_some]
    rw [if_pos ((lcmp0 (by omega)).mpr (by omega)), g301_0, Option.bind_some, nI_1, a302 (by omega), Option.bind_some, Option.bind_some, a302 (by omega), Option.bind_some, e1, Option.bind_some]
    cases neg with
    | true =>
      rw [if_pos rfl, if_pos rfl, (B304 (i := i + 1) (by omega)).canTurn_out n4 (Or.inl (by decide)), Option.bind_some, if_pos rfl]
      obtain ⟨S', y1, y2, y3⟩ := fin _ V1
      rw [sf, od_cg h6 r (i + 1) _ _ p eQ, nI_1] at y1
      exact ⟨S', y1, y2, y3⟩
    | false =>
      have hcq := (B304 (i := i + 1) (by omega)).canQ (S := S1) (c := c) (Q := (S1.1 (304 + 5 * (i + 1) + 1), S1.1 (304 + 5 * (i + 1) + 2))) (x := x) n4 h6 (by omega)
      rw [sf, n5, n6] at hcq
      have ecan : can N kp lim (S1.1 (304 + 5 * (i + 1) + 1), S1.1 (304 + 5 * (i + 1) + 2)) x = can N kp lim (S.1 (304 + 5 * i + 1), S.1 (304 + 5 * i + 2)) x := can_congr h6 eQ
      rw [if_neg (show ¬ false = true by decide), if_neg (show ¬ false = true by decide), hcq, Option.bind_some]
      unfold ph
      rw [Bool.true_and, ← ecan]
      cases hcn : can N kp lim (S1.1 (304 + 5 * (i + 1) + 1), S1.1 (304 + 5 * (i + 1) + 2)) x with
      | false =>
        rw [if_pos (show bI false = 0 from rfl), if_neg (show ¬ false = true by decide)]
        obtain ⟨S', y1, y2, y3⟩ := fin _ V1
        rw [sf, od_cg h6 r (i + 1) _ _ p eQ, nI_1] at y1
        exact ⟨S', y1, y2, y3⟩
      | true =>
        have ht := (B304 (i := i + 1) (by omega)).turnQ (S := S1) (c := c) (kp := kp) (lim := lim) n4 h6 V1 hcn
        rw [sf] at ht
        rw [if_neg (show ¬ bI true = 0 by decide), if_pos rfl, ht, Option.bind_some]
        obtain ⟨S', y1, y2, y3⟩ := fin _ (Vb_crs V1 h6 hl hcn)
        rw [od_cg h6 r (i + 1) _ _ p (crs_congr (x := x) h6 (by have := (can_x hcn).1; omega) eQ), nI_1] at y1
        exact ⟨S', y1, y2, y3⟩
end OD1
