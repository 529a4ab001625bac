/-! WHAT A CROSSING COSTS -/
section COS
variable {S : XS} {c : Nat × Nat} {N x l nl L : Nat} {q : Int32} {T : Nat → Int32}
def clf (S : XS) (N x : Nat) : Nat → Int32 := fun j => if j = 0 then sIn (S.1 31) x N else if j = 1 then sOut (S.1 31) x N else if j = 2 then S.1 33 x else if j = 3 then irem (S.1 34 x) 100 else if j = 4 then irem (S.1 32 x) 100 else irem (S.1 30 8) 100
def rlf (S : XS) (N x : Nat) : Nat → Int32 := fun j => if j = 0 then sIn (S.1 364) x N else if j = 1 then sOut (S.1 364) x N else if j = 2 then S.1 358 (3 * x + 1) else if j = 3 then irem (S.1 364 (42 + x)) 100 else if j = 4 then irem (S.1 364 (36 + x)) 100 else irem (S.1 364 50) 100
def CV (q : Int32) (T : Nat → Int32) (L : Nat) (ltr : Nat → Int32) : Int32 := if q = -1 then 1 else match pLaw T L with
  | .inl _ => 0
  | .inr g => imax 0 (imin 9 ((g ltr).getD 0))
theorem q12n {k : Nat} {j v : Int32} (hj : j = nI k) (hk : k < 6) : pI (hp S c) 12 j v = some (hp (wA S 12 (upd (S.1 12) k v)) c) := by rw [hj]; exact q12 hk
theorem q355n {k : Nat} {j v : Int32} (hj : j = nI k) (hk : k < 128) : pI (hp S c) 355 j v = some (hp (wA S 355 (upd (S.1 355) k v)) c) := by rw [hj]; exact q355 hk
theorem a364n {k : Nat} {j : Int32} (hj : j = nI k) (hk : k < 232) : aI (hp S c) 364 j = some (S.1 364 k) := by rw [hj]; exact a364 hk
theorem q364n {k : Nat} {j v : Int32} (hj : j = nI k) (hk : k < 232) : pI (hp S c) 364 j v = some (hp (wA S 364 (upd (S.1 364) k v)) c) := by rw [hj]; exact q364 hk
theorem s19l (hl : l < 4) : sh (19 + l) = some (.inl (0, 240, 0, 0)) := by
  rcases (by omega : l = 0 ∨ l = 1 ∨ l = 2 ∨ l = 3) with rfl | rfl | rfl | rfl
  · exact s19
  · exact s20
  · exact s21
  · exact s22
theorem clfU {f : Nat → Int32} : ∀ k, k < 6 → upd (upd (upd (upd (upd (upd f 0 (sIn (S.1 31) x N)) 1 (sOut (S.1 31) x N)) 2 (S.1 33 x)) 3 (irem (S.1 34 x) 100)) 4 (irem (S.1 32 x) 100)) 5 (irem (S.1 30 8) 100) k = clf S N x k := fun k hk => by
  rcases (by omega : k = 0 ∨ k = 1 ∨ k = 2 ∨ k = 3 ∨ k = 4 ∨ k = 5) with rfl | rfl | rfl | rfl | rfl | rfl <;> rfl
theorem c_cost (hN : S.1 30 4 = nI N) (h6 : N ≤ 6) (hx : x < N) (hq : S.1 0 17 = q) (hl : q = -1 ∨ (q = nI l ∧ l < nl ∧ nl ≤ 4 ∧ S.1 16 3 = nI nl ∧ S.1 17 l = nI L ∧ L ≤ 240 ∧ S.1 (19 + l) = T ∧ ∃ g, pLaw T L = .inr g)) : ∃ S', f_X11_costOf (hp S c) 0 (nI x) = some (CV q T L (clf S N x), hp S' c) ∧ (∀ a, a ≠ 10 → a ≠ 12 → S'.1 a = S.1 a) ∧ (S'.1 12 = S.1 12 ∨ ∀ k, k < 6 → S'.1 12 k = clf S N x k) := by
  have hx6 : x < 6 := by omega
  rcases hl with e | ⟨e, hl1, hl2, h3, h17, hL, hT, g, hg⟩
  · refine ⟨S, ?_, fun _ _ _ => rfl, Or.inl rfl⟩
    unfold f_X11_costOf
    rw [k0, Option.bind_some, g0_6, Option.bind_some, B30.has_in hN h6 hx, Option.bind_some, if_neg (show ¬ (1 : Int32) = 0 by decide), g0_17, Option.bind_some, hq, e, if_pos (show (-1 : Int32) < 0 by decide)]
    rfl
  · have hl4 : l < 4 := by omega
    have hs := s19l hl4
    have key : ∃ F, f_X2_read (hp (wA S 12 (upd (upd (upd (upd (upd (upd (S.1 12) 0 (sIn (S.1 31) x N)) 1 (sOut (S.1 31) x N)) 2 (S.1 33 x)) 3 (irem (S.1 34 x) 100)) 4 (irem (S.1 32 x) 100)) 5 (irem (S.1 30 8) 100))) c) 10 (19 + l) (nI L) = some (-1, hp (wA (wT (wA S 12 (upd (upd (upd (upd (upd (upd (S.1 12) 0 (sIn (S.1 31) x N)) 1 (sOut (S.1 31) x N)) 2 (S.1 33 x)) 3 (irem (S.1 34 x) 100)) 4 (irem (S.1 32 x) 100)) 5 (irem (S.1 30 8) 100))) 10 (19 + l)) 10 F) c) ∧ F 5 = (g (clf S N x)).getD 0 := by
      have h := X2_read (S := wA S 12 (upd (upd (upd (upd (upd (upd (S.1 12) 0 (sIn (S.1 31) x N)) 1 (sOut (S.1 31) x N)) 2 (S.1 33 x)) 3 (irem (S.1 34 x) 100)) 4 (irem (S.1 32 x) 100)) 5 (irem (S.1 30 8) 100))) (c := c) (T := T) hL hs hL (by decide) (by omega) (fun k hk => by rw [wA_ne (by omega), hT])
      rw [hg] at h
      obtain ⟨F, h1, h2⟩ := h
      refine ⟨F, h1, ?_⟩
      rw [h2]
      have : g ((wT (wA S 12 (upd (upd (upd (upd (upd (upd (S.1 12) 0 (sIn (S.1 31) x N)) 1 (sOut (S.1 31) x N)) 2 (S.1 33 x)) 3 (irem (S.1 34 x) 100)) 4 (irem (S.1 32 x) 100)) 5 (irem (S.1 30 8) 100))) 10 (19 + l)).1 12) = g (clf S N x) := pLaw_dp hg _ _ (fun k hk => by
        rw [wT_1, wA_same]
        exact clfU k hk)
      rw [this]
    obtain ⟨F, k1, k2⟩ := key
    refine ⟨wA (wT (wA S 12 (upd (upd (upd (upd (upd (upd (S.1 12) 0 (sIn (S.1 31) x N)) 1 (sOut (S.1 31) x N)) 2 (S.1 33 x)) 3 (irem (S.1 34 x) 100)) 4 (irem (S.1 32 x) 100)) 5 (irem (S.1 30 8) 100))) 10 (19 + l)) 10 F, ?_, fun a h1 h2 => ?_, Or.inr fun k hk => ?_⟩
    · have n30 : ∀ f, (wA S 12 f).1 30 4 = nI N := fun f => by rw [wA_ne (by decide)]; exact hN
      have a33 : ∀ f, aI (hp (wA S 12 f) c) 33 (nI x) = some (S.1 33 x) := fun f => by rw [show (33 : Nat) = 30 + 3 from rfl, B30.a3 hx6, wA_ne (by decide)]
      have a34 : ∀ f, aI (hp (wA S 12 f) c) 34 (nI x) = some (S.1 34 x) := fun f => by rw [show (34 : Nat) = 30 + 4 from rfl, B30.a4 hx6, wA_ne (by decide)]
      have a32 : ∀ f, aI (hp (wA S 12 f) c) 32 (nI x) = some (S.1 32 x) := fun f => by rw [show (32 : Nat) = 30 + 2 from rfl, B30.a2 hx6, wA_ne (by decide)]
      have o31 : ∀ f, f_X0_outgoing (hp (wA S 12 f) c) 30 (nI x) = some (sOut (S.1 31) x N) := fun f => by rw [B30.outgoing (n30 f) h6 hx6, wA_ne (by decide)]
      unfold f_X11_costOf
      rw [k0, Option.bind_some, g0_6, Option.bind_some, B30.has_in hN h6 hx, Option.bind_some, if_neg (show ¬ (1 : Int32) = 0 by decide), g0_17, Option.bind_some, hq, e, if_neg (nI_nneg (by omega)), Option.bind_some, g0_4, Option.bind_some, g16_3, Option.bind_some, h3, if_pos (nI_lt hl1 (by omega)), g0_2, Option.bind_some, g10_4, Option.bind_some, Option.bind_some, B30.incoming hN h6 hx6, Option.bind_some, q12n (j := 0) (k := 0) rfl (by decide), Option.bind_some, g0_2, Option.bind_some, g10_4, Option.bind_some, g0_6, Option.bind_some, o31, Option.bind_some, q12n (j := 1) (k := 1) rfl (by decide), Option.bind_some, wA_wA, wA_same, g0_2, Option.bind_some, g10_4, Option.bind_some, g0_6, Option.bind_some, B30.g2, Option.bind_some, a33, Option.bind_some, q12n (j := 2) (k := 2) rfl (by decide), Option.bind_some, wA_wA, wA_same, g0_2, Option.bind_some, g10_4, Option.bind_some, g0_6, Option.bind_some, B30.g3, Option.bind_some, a34, Option.bind_some, q12n (j := 3) (k := 3) rfl (by decide), Option.bind_some, wA_wA, wA_same, g0_2, Option.bind_some, g10_4, Option.bind_some, g0_6, Option.bind_some, B30.g1, Option.bind_some, a32, Option.bind_some, q12n (j := 4) (k := 4) rfl (by decide), Option.bind_some, wA_wA, wA_same, g0_2, Option.bind_some, g10_4, Option.bind_some, g0_6, Option.bind_some, B30.g8, Option.bind_some, wA_ne (show 30 ≠ 12 by decide), q12n (j := 5) (k := 5) rfl (by decide), Option.bind_some, wA_wA, wA_same, g0_2, Option.bind_some, g0_4, Option.bind_some, g16_0, Option.bind_some, g0_17, Option.bind_some, wA_ne (show 0 ≠ 12 by decide), hq, e, a18 hl4, Option.bind_some, Option.bind_some, g16_1, Option.bind_some, Option.bind_some, a17 hl4, Option.bind_some, wA_ne (show 17 ≠ 12 by decide), h17, Nat.one_mul, k1, Option.bind_some, g0_2, Option.bind_some, g10_5, Option.bind_some, wA_same, k2]
      unfold CV
      rw [if_neg (m1_ne (by omega)), hg]
    · rw [wA_ne h1, wT_1, wA_ne h2]
    · rw [wA_ne (by decide), wT_1, wA_same]
      exact clfU k hk
end COS
