/-! RESTS -/
section RES
variable {S : XS} {c : Nat × Nat} {n N a b : Nat} {kp lim i : Int32}
def RG (U S : XS) : Prop := U.1 351 26 = S.1 351 26 ∧ ∀ a, a = 356 ∨ a = 364 → U.1 a = S.1 a
theorem RG.fr {U U' : XS} (h : RG U S) (f : frS U' U) : RG U' S := ⟨by rw [f 351 (by decide) (by decide)]; exact h.1, fun a ha => by rw [f a (by omega) (by omega)]; exact h.2 a ha⟩
theorem frS.trans {U U1 U2 : XS} (h1 : frS U1 U) (h2 : frS U2 U1) : frS U2 U := fun a x y => (h2 a x y).trans (h1 a x y)
theorem r_half {p : Bool} {r k f : Nat} {kk : xa_H → Nat → Int32 → Int32 → Int32 → Int32 → Int32 → Option (Int32 × xa_H)} (W : NW S N lim kp (rwB (S.1 364))) (ha : a < N) (hb : b < N) (hp0 : decide (2 ≤ k) = p) (hp1 : decide (2 ≤ k + 1) = p) (hk0 : k % 2 = 0) (hkk : ∀ (l : Int32) (U : XS), RG U S → ∃ U', kk (hp U c) 351 (nI a) (nI b) i l (bI p + 1) = some (rsF (rsP (gm N kp lim (S.1 31, S.1 32) a b)) i r (k + 2) l, hp U' c) ∧ frS U' U) (l : Int32) (U : XS) (hU : RG U S) : ∃ U', f_X12_rests_b36 kk (f + 3) (hp U c) 351 (nI a) (nI b) i l (bI p) 0 = some (rsF (rsP (gm N kp lim (S.1 31, S.1 32) a b)) i (r + 2) k l, hp U' c) ∧ frS U' U := by
  have P0 : rsP (gm N kp lim (S.1 31, S.1 32) a b) k = rsB (gm N kp lim (S.1 31, S.1 32) a b) p false := by
    unfold rsP
    rw [hp0, decide_eq_false (show ¬ k % 2 = 1 by omega)]
  have P1 : rsP (gm N kp lim (S.1 31, S.1 32) a b) (k + 1) = rsB (gm N kp lim (S.1 31, S.1 32) a b) p true := by
    unfold rsP
    rw [hp1, decide_eq_true (show (k + 1) % 2 = 1 by omega)]
  -- the last: both done
  have e2 : ∀ (l : Int32) (U : XS), RG U S → ∃ U', f_X12_rests_b36 kk (f + 1) (hp U c) 351 (nI a) (nI b) i l (bI p) (bI true + 1) = some (rsF (rsP (gm N kp lim (S.1 31, S.1 32) a b)) i r (k + 2) l, hp U' c) ∧ frS U' U := fun l U hU => by
    rw [f_X12_rests_b36, if_pos (show (2 : Int32) ≤ bI true + 1 by decide)]
    exact hkk l U hU
  have e1 : ∀ (l : Int32) (U : XS), RG U S → ∃ U', f_X12_rests_b36 kk (f + 2) (hp U c) 351 (nI a) (nI b) i l (bI p) (bI false + 1) = some (rsF (rsP (gm N kp lim (S.1 31, S.1 32) a b)) i (r + 1) (k + 1) l, hp U' c) ∧ frS U' U := fun l U hU => by
    obtain ⟨U1, s1, s2⟩ := r_rest (c := c) (kk := kk) (i := i) (l := l) W ha hb p true (f + 1) U hU.1 hU.2
    rw [show bI false + 1 = bI true from rfl, s1, ← P1]
    show ∃ U', _ = some (if rsP (gm N kp lim (S.1 31, S.1 32) a b) (k + 1) then (if l = i then (10 : Int32) * bI (decide (2 ≤ k + 1)) + bI (decide ((k + 1) % 2 = 1)) else rsF (rsP (gm N kp lim (S.1 31, S.1 32) a b)) i r (k + 2) (l + 1)) else rsF (rsP (gm N kp lim (S.1 31, S.1 32) a b)) i r (k + 2) l, hp U' c) ∧ _
    cases rsP (gm N kp lim (S.1 31, S.1 32) a b) (k + 1) with
    | false =>
      obtain ⟨U', z1, z2⟩ := e2 l U1 (hU.fr s2)
      refine ⟨U', ?_, s2.trans z2⟩
      rw [if_neg (show ¬ false = true by decide), if_neg (show ¬ false = true by decide)]
      exact z1
    | true =>
      rw [if_pos rfl, if_pos rfl]
      by_cases e : l = i
      · refine ⟨U1, ?_, s2⟩
        rw [if_pos e, if_pos e, hp1, decide_eq_true (show (k + 1) % 2 = 1 by omega)]
      · obtain ⟨U', z1, z2⟩ := e2 (l + 1) U1 (hU.fr s2)
        refine ⟨U', ?_, s2.trans z2⟩
        rw [if_neg e, if_neg e]
        exact z1
  obtain ⟨U1, s1, s2⟩ := r_rest (c := c) (kk := kk) (i := i) (l := l) W ha hb p false (f + 2) U hU.1 hU.2
  rw [show (0 : Int32) = bI false from rfl, s1, ← P0]
  show ∃ U', _ = some (if rsP (gm N kp lim (S.1 31, S.1 32) a b) k then (if l = i then (10 : Int32) * bI (decide (2 ≤ k)) + bI (decide (k % 2 = 1)) else rsF (rsP (gm N kp lim (S.1 31, S.1 32) a b)) i (r + 1) (k + 1) (l + 1)) else rsF (rsP (gm N kp lim (S.1 31, S.1 32) a b)) i (r + 1) (k + 1) l, hp U' c) ∧ _
  cases rsP (gm N kp lim (S.1 31, S.1 32) a b) k with
  | false =>
    obtain ⟨U', z1, z2⟩ := e1 l U1 (hU.fr s2)
    refine ⟨U', ?_, s2.trans z2⟩
    rw [if_neg (show ¬ false = true by decide), if_neg (show ¬ false = true by decide)]
    exact z1
  | true =>
    rw [if_pos rfl, if_pos rfl]
    by_cases e : l = i
    · refine ⟨U1, ?_, s2⟩
      rw [if_pos e, if_pos e, hp0, decide_eq_false (show ¬ k % 2 = 1 by omega)]
    · obtain ⟨U', z1, z2⟩ := e1 (l + 1) U1 (hU.fr s2)
      refine ⟨U', ?_, s2.trans z2⟩
      rw [if_neg e, if_neg e]
      exact z1
theorem r_rests {U : XS} (W : NW S N lim kp (rwB (S.1 364))) (ha : a < N) (hb : b < N) (hU : RG U S) : ∃ U', f_X12_rests_b27 1048576 (hp U c) 351 (nI a) (nI b) i 0 0 = some (rsF (rsP (gm N kp lim (S.1 31, S.1 32) a b)) i 4 0 0, hp U' c) ∧ frS U' U := by
  have e2 : ∀ (l : Int32) (U : XS), RG U S → ∃ U', f_X12_rests_b27 1048574 (hp U c) 351 (nI a) (nI b) i l (bI true + 1) = some (rsF (rsP (gm N kp lim (S.1 31, S.1 32) a b)) i 0 4 l, hp U' c) ∧ frS U' U := fun l U hU => by
    refine ⟨U, ?_, fun _ _ _ => rfl⟩
    rw [show (1048574 : Nat) = 1048573 + 1 from rfl, f_X12_rests_b27, if_pos (show (2 : Int32) ≤ bI true + 1 by decide)]
    show _ = some (if i = -1 then l else -1, hp U c)
    split <;> rfl
  have e1 : ∀ (l : Int32) (U : XS), RG U S → ∃ U', f_X12_rests_b27 1048575 (hp U c) 351 (nI a) (nI b) i l (bI false + 1) = some (rsF (rsP (gm N kp lim (S.1 31, S.1 32) a b)) i 2 2 l, hp U' c) ∧ frS U' U := fun l U hU => by
    rw [show (1048575 : Nat) = 1048574 + 1 from rfl, f_X12_rests_b27, if_neg (show ¬ (2 : Int32) ≤ bI false + 1 by decide)]
    exact r_half (kk := fun h l0 l1 l2 l3 l4 l5 => f_X12_rests_b27 1048574 h l0 l1 l2 l3 l4 l5) (p := true) (r := 0) (k := 2) (f := 1048573) W ha hb rfl rfl rfl e2 l U hU
  rw [show (1048576 : Nat) = 1048575 + 1 from rfl, f_X12_rests_b27, if_neg (show ¬ (2 : Int32) ≤ 0 by decide)]
  exact r_half (kk := fun h l0 l1 l2 l3 l4 l5 => f_X12_rests_b27 1048575 h l0 l1 l2 l3 l4 l5) (p := false) (r := 2) (k := 0) (f := 1048573) W ha hb rfl rfl rfl e1 0 U hU
/-- asked for none: nothing is found -/
theorem rsF_no {P : Nat → Bool} (hi : i < -1) : ∀ (r k m : Nat), r + m < 100 → rsF P i r k (nI m) = -1
  | 0, k, m, _ => if_neg (fun z => by rw [z] at hi; exact absurd hi (by decide))
  | r + 1, k, m, h2 => by
    have hne : ¬ nI m = i := fun z => by
      rw [← z, Int32.lt_iff_toInt_lt, nI_toInt (by omega), show (-1 : Int32).toInt = -1 from rfl] at hi
      omega
    show (if P k then (if nI m = i then (10 : Int32) * bI (decide (2 ≤ k)) + bI (decide (k % 2 = 1)) else rsF P i r (k + 1) (nI m + 1)) else rsF P i r (k + 1) (nI m)) = -1
    rw [if_neg hne, nI_1]
    split
    · exact rsF_no hi r (k + 1) (m + 1) (by omega)
    · exact rsF_no hi r (k + 1) m (by omega)
theorem pr_rests (R : RR n (pj S)) (a b i : Int32) : PQ n c (fun h => f_X11_rests h 0 a b i) (fun h => f_X12_rests h 351 a b i) S := by
  obtain ⟨N, W⟩ := R.now
  have h6 := W.2.1
  have hN := W.2.2.2.2.2.2.1
  have h26 := W.2.2.1
  by_cases hall : inN N a = true ∧ inN N b = true ∧ a ≠ b
  · obtain ⟨q1, q2, q3⟩ := hall
    obtain ⟨x, hx, rfl⟩ := inN_x q1 (by omega)
    obtain ⟨y, hy, rfl⟩ := inN_x q2 (by omega)
    have hne : x ≠ y := fun z => q3 (by rw [z])
    obtain ⟨S1, e1, e2⟩ := c_rests (c := c) (i := i) W hx hy hne 4 0 1048576 0 S (by decide) (by decide) fr.refl
    have hT : (T0 S1).1 351 26 = nI N := by rw [T0_351 (by decide), e2.1 351 (by omega)]; exact h26
    have cls : f_X11_rests (hp S c) 0 (nI x) (nI y) i = some (rsF (rsP (gm N (S.1 364 48) (S.1 356 1) (S.1 31, S.1 32) x y)) i 4 0 0, hp S1 c) := by
      unfold f_X11_rests
      rw [k0, Option.bind_some, g0_6, Option.bind_some, has_b B30 hN h6, Option.bind_some, q1, if_neg (show ¬ bI true = 0 by decide), Option.bind_some, has_b B30 hN h6, Option.bind_some, q2, if_neg (show ¬ bI true = 0 by decide), if_neg q3]
      exact e1
    have ref : f_X12_rests (hp S1 c) 351 (nI x) (nI y) i = if (-1 : Int32) ≤ i then f_X12_rests_b27 1048576 (hp (T0 S1) c) 351 (nI x) (nI y) i 0 0 else some ((-1 : Int32), hp (T0 S1) c) := by
      unfold f_X12_rests f_X12_canPlay
      rw [k351, Option.bind_some, T0_p, Option.bind_some, k351, Option.bind_some, house_b hT h6, Option.bind_some, q1, if_neg (show ¬ bI true = 0 by decide), house_b hT h6, Option.bind_some, q2, if_neg (show ¬ bI true = 0 by decide), if_neg q3, Option.bind_some, if_neg (show ¬ (1 : Int32) = 0 by decide)]
    by_cases hi : (-1 : Int32) ≤ i
    · obtain ⟨U', z1, z2⟩ := r_rests (c := c) (i := i) (U := T0 S1) W hx hy ⟨by rw [T0_351 (by decide), e2.1 351 (by omega)], fun a ha => by rw [T0_ne (by omega), e2.1 a (by omega)]⟩
      refine PQ.same (S1 := S1) (S2 := U') R cls ?_ (pj_fr e2 sc40) (by rw [frS_pj z2, T0_pj])
      exact ref.trans ((if_pos hi).trans z1)
    · have hn := rsF_no (P := rsP (gm N (S.1 364 48) (S.1 356 1) (S.1 31, S.1 32) x y)) (Int32.not_le.mp hi) 4 0 0 (by decide)
      rw [show (0 : Int32) = nI 0 from rfl, hn] at cls
      exact PQ.same (S1 := S1) (S2 := T0 S1) R cls (ref.trans (if_neg hi)) (pj_fr e2 sc40) T0_pj
  · have hT : (T0 S).1 351 26 = nI N := by rw [T0_351 (by decide)]; exact h26
    refine PQ.same (S1 := S) (S2 := T0 S) (v := -1) R ?_ ?_ rfl T0_pj
    · show f_X11_rests (hp S c) 0 a b i = _
      unfold f_X11_rests
      rw [k0, Option.bind_some, g0_6, Option.bind_some, has_b B30 hN h6, Option.bind_some]
      cases q1 : inN N a with
      | false => rw [if_pos (show bI false = 0 from rfl)]
      | true =>
        rw [if_neg (show ¬ bI true = 0 by decide), Option.bind_some, has_b B30 hN h6, Option.bind_some]
        cases q2 : inN N b with
        | false => rw [if_pos (show bI false = 0 from rfl)]
        | true =>
          rw [if_neg (show ¬ bI true = 0 by decide)]
          by_cases q3 : a = b
          · rw [if_pos q3]
          · exact absurd ⟨q1, q2, q3⟩ hall
    · show f_X12_rests (hp S c) 351 a b i = _
      unfold f_X12_rests f_X12_canPlay
      rw [k351, Option.bind_some, T0_p, Option.bind_some, k351, Option.bind_some, house_b hT h6, Option.bind_some]
      cases q1 : inN N a with
      | false => rw [if_pos (show bI false = 0 from rfl), Option.bind_some, if_pos rfl]
      | true =>
        rw [if_neg (show ¬ bI true = 0 by decide), house_b hT h6, Option.bind_some]
        cases q2 : inN N b with
        | false => rw [if_pos (show bI false = 0 from rfl), Option.bind_some, if_pos rfl]
        | true =>
          rw [if_neg (show ¬ bI true = 0 by decide)]
          by_cases q3 : a = b
          · rw [if_pos q3, Option.bind_some, if_pos rfl]
          · exact absurd ⟨q1, q2, q3⟩ hall
end RES
