/-! CROSSING a board -/
def tn (v : Int32) : Nat := v.toInt.toNat
theorem tn_nI {w : Nat} (h : w < 2 ^ 31) : tn (nI w) = w := by
  unfold tn
  rw [nI_toInt h]
  rfl
theorem tn_pos {v : Int32} (h : 0 < v) : nI (tn v) = v := by
  refine Int32.toInt_inj.mp ?_
  have h1 := pos_i.mp h
  have h2 := Int32.toInt_lt v
  unfold tn
  rw [nI_toInt (by omega)]
  omega
theorem tn_le {v : Int32} (h : ¬ 0 < v) : tn v = 0 := by
  rw [pos_i] at h
  unfold tn
  omega
theorem imax_tn (v : Int32) : imax 0 v = nI (tn v) := by
  unfold imax
  by_cases h : 0 < v
  · rw [if_pos h, tn_pos h]
  · rw [if_neg h, tn_le h]
    rfl
/-- all worths are below 1000003 -/
def Wo (W : Nat → Int32) : Prop := ∀ k, k < 6 → ∃ w, w < 1000003 ∧ W k = nI w
theorem Wo.t {W : Nat → Int32} (h : Wo W) {k : Nat} (hk : k < 6) : W k = nI (tn (W k)) ∧ tn (W k) < 1000003 := by
  obtain ⟨w, h1, h2⟩ := h k hk
  rw [h2, tn_nI (by omega)]
  exact ⟨rfl, h1⟩
def pr (W E : Nat → Int32) : Nat → Nat
  | 0 => 1
  | k + 1 => pr W E k * (tn (W k) ^ tn (E k) % 1000003) % 1000003
theorem pr_lt (W E : Nat → Int32) : ∀ k, pr W E k < 1000003
  | 0 => by show 1 < 1000003; decide
  | k + 1 => Nat.mod_lt _ (by decide)
theorem pr_congr {W E W' E' : Nat → Int32} : ∀ {n : Nat}, (∀ k, k < n → W k = W' k ∧ E k = E' k) → pr W E n = pr W' E' n
  | 0, _ => rfl
  | n + 1, h => by
    show pr W E n * _ % _ = pr W' E' n * _ % _
    rw [pr_congr (n := n) (fun k hk => h k (by omega)), (h n (by omega)).1, (h n (by omega)).2]
def fw (N : Nat) (D W : Nat → Int32) (x : Nat) : Nat := (pr W (fun k => D (6 * k + x)) N + pr W (fun k => D (6 * x + k)) N) % 1000003 * (tn (W x) ^ 1000001 % 1000003) % 1000003
theorem fw_lt {N : Nat} {D W : Nat → Int32} {x : Nat} : fw N D W x < 1000003 := Nat.mod_lt _ (by decide)
def nxF (N : Nat) (D : Nat → Int32) (x : Nat) : Nat → Int32 := fun i => if i < 36 then nx N D x (i / 6) (i % 6) else D i
theorem nxF_at {N : Nat} {D : Nat → Int32} {x a b : Nat} (ha : a < 6) (hb : b < 6) : nxF N D x (6 * a + b) = nx N D x a b := by
  unfold nxF
  rw [if_pos (by omega), show (6 * a + b) / 6 = a by omega, show (6 * a + b) % 6 = b by omega]
theorem tI_far {D : Nat → Int32} {x k : Nat} {q : Int32} (hk : k < 6) {i : Nat} (hi : 36 ≤ i) : ∀ j, j ≤ 6 → tI D x k q j i = D i
  | 0, _ => rfl
  | j + 1, hj => by
    have ih := tI_far (D := D) (x := x) (q := q) hk hi j (by omega)
    show (if tI D x k q j (6 * x + j) ≤ 0 then tI D x k q j else upd (upd (tI D x k q j) (6 * k + j) _) (6 * j + k) _) i = _
    split
    · exact ih
    · rw [upd_ne (by omega), upd_ne (by omega)]
      exact ih
theorem tO_far {D : Nat → Int32} {x N : Nat} (h6 : N ≤ 6) {i : Nat} (hi : 36 ≤ i) : ∀ k, k ≤ 6 → tO D x N k i = D i
  | 0, _ => rfl
  | k + 1, hk => by
    have ih := tO_far (D := D) (x := x) h6 hi k (by omega)
    show (if 0 < tO D x N k (6 * k + x) then tI (tO D x N k) x k _ N else tO D x N k) i = _
    split
    · rw [tI_far (by omega) hi N h6]
      exact ih
    · exact ih
theorem tN_far {D : Nat → Int32} {x : Nat} (hx : x < 6) {i : Nat} (hi : 36 ≤ i) : ∀ k, k ≤ 6 → tN D x k i = D i
  | 0, _ => rfl
  | k + 1, hk => by
    have ih := tN_far (D := D) hx hi k (by omega)
    show upd (upd (tN D x k) (6 * k + x) _) (6 * x + k) _ i = _
    rw [upd_ne (by omega), upd_ne (by omega)]
    exact ih
theorem turn_eq {D : Nat → Int32} {N x : Nat} (A : An D) (h6 : N ≤ 6) (hx : x < N) : tN (tO D x N N) x N = nxF N D x := by
  funext i
  by_cases hi : i < 36
  · have := turn_at A h6 hx (a := i / 6) (e := i % 6) (by omega) (by omega)
    rw [show 6 * (i / 6) + i % 6 = i by omega] at this
    rw [this]
    unfold nxF
    rw [if_pos hi]
  · rw [tN_far (by omega) (by omega) N h6, tO_far h6 (by omega) N h6]
    unfold nxF
    rw [if_neg hi]
section CR
variable {S : XS} {c : Nat × Nat} {b N x : Nat} {D W : Nat → Int32}
theorem lrem1 {a : Nat} (h : a < 1000003) : a * (1 % 1000003) % 1000003 = a := by
  rw [show 1 % 1000003 = 1 from rfl, Nat.mul_one, Nat.mod_eq_of_lt h]
theorem neg_pp {q : Int32} (h1 : ¬ 0 < q) (h2 : ¬ 0 ≤ q) (hb : -200 ≤ q.toInt) : 0 < -q := by
  have e : (-q).toInt = -q.toInt := by
    rw [← Int32.ofInt_toInt (x := q), ← Int32.ofInt_neg, Int32.ofInt_toInt, Int32.toInt_ofInt_of_le (by have := Int32.toInt_lt q; omega) (by omega)]
  rw [pos_i, e]
  have : ¬ (0 : Int) ≤ q.toInt := fun z => h2 (Int32.le_iff_toInt_le.mpr z)
  omega
theorem isB.renewWorth (B : isB b) (hN : S.1 b 4 = nI N) (h6 : N ≤ 6) (hx : x < N) (A : An (S.1 (b + 1))) (hW : Wo (S.1 (b + 2))) (hne : S.1 (b + 2) x ≠ 0) : f_X0_renewWorth (hp S c) b (nI x) = some (hp (wA S (b + 2) (upd (S.1 (b + 2)) x (nI (fw N (S.1 (b + 1)) (S.1 (b + 2)) x)))) c) := by
  unfold f_X0_renewWorth
  rw [B.ck, Option.bind_some]
  have hpe : pr (S.1 (b + 2)) (fun k => S.1 (b + 1) (6 * x + k)) N = pr (S.1 (b + 2)) (fun k => -S.1 (b + 1) (6 * k + x)) N := pr_congr fun k hk => ⟨rfl, A.neg (by omega) (by omega)⟩
  refine lp (N := N) (fun n k => f_X0_renewWorth_b8 n (hp S c) b (nI x) (lN (pr (S.1 (b + 2)) (fun k => S.1 (b + 1) (6 * k + x)) k)) (lN (pr (S.1 (b + 2)) (fun k => -S.1 (b + 1) (6 * k + x)) k)) (nI k)) (fun n => ?_) (fun n k hk => ?_) N 0 1048576 (by omega) (by omega)
  · show f_X0_renewWorth_b8 (n + 1) (hp S c) b (nI x) _ _ (nI N) = _
    have hx2 := hW.t (k := x) (by omega)
    have p1 := pr_lt (S.1 (b + 2)) (fun k => S.1 (b + 1) (6 * k + x)) N
    have p2 := pr_lt (S.1 (b + 2)) (fun k => -S.1 (b + 1) (6 * k + x)) N
    have h0 : 0 < tn (S.1 (b + 2) x) := by
      rcases Nat.eq_zero_or_pos (tn (S.1 (b + 2) x)) with z | z
      · rw [z] at hx2
        exact absurd hx2.1 hne
      · exact z
    rw [f_X0_renewWorth_b8, B.g4, Option.bind_some, hN, if_pos (nI_le (Nat.le_refl _) (by omega)), B.g1, Option.bind_some, Option.bind_some, B.a2 (by omega), Option.bind_some]
    have hi := X0_inverse (h := hp S c) h0 hx2.2
    rw [← hx2.1] at hi
    rw [hi, Option.bind_some, lN_add, lrem_N (by omega), lN_mul, lrem_N (mulP (modP _) (modP _)), lN_i, B.q2 (by omega), Option.bind_some, ← hpe]
    rfl
  · show f_X0_renewWorth_b8 (n + 1) (hp S c) b (nI x) _ _ (nI k) = f_X0_renewWorth_b8 n (hp S c) b (nI x) (lN (pr (S.1 (b + 2)) (fun k => S.1 (b + 1) (6 * k + x)) k * (tn (S.1 (b + 2) k) ^ tn (S.1 (b + 1) (6 * k + x)) % 1000003) % 1000003)) (lN (pr (S.1 (b + 2)) (fun k => -S.1 (b + 1) (6 * k + x)) k * (tn (S.1 (b + 2) k) ^ tn (-S.1 (b + 1) (6 * k + x)) % 1000003) % 1000003)) (nI (k + 1))
    have p1 := pr_lt (S.1 (b + 2)) (fun k => S.1 (b + 1) (6 * k + x)) k
    have p2 := pr_lt (S.1 (b + 2)) (fun k => -S.1 (b + 1) (6 * k + x)) k
    have hk2 := hW.t (k := k) (by omega)
    have ak := A k x (by omega) (by omega)
    have ak' := A x k (by omega) (by omega)
    rw [f_X0_renewWorth_b8, B.g4, Option.bind_some, hN, if_neg (nI_ge (by omega) (by omega)), B.debt (by omega) (by omega), Option.bind_some]
    unfold f_X0_renewWorth_b80
    rw [nI_1]
    generalize hq : S.1 (b + 1) (6 * k + x) = q at *
    by_cases e1 : q ≤ 0
    · rw [if_pos e1]
      by_cases e2 : 0 ≤ q
      · have q0 : q = 0 := Int32.le_antisymm e1 e2
        rw [if_pos e2, q0, show tn 0 = 0 from rfl, show tn (-0) = 0 from rfl, Nat.pow_zero, lrem1 p1, lrem1 p2]
      · have pn : 0 < -q := neg_pp (Int32.not_lt.mpr e1) e2 (by omega)
        rw [if_neg e2, B.g1, Option.bind_some, B.a2 (by omega), Option.bind_some]
        have hp' := X0_power (h := hp S c) (e := tn (-q)) hk2.2 (by
          have h1 : (-q).toInt = -q.toInt := by
            rw [← Int32.ofInt_toInt (x := q), ← Int32.ofInt_neg, Int32.ofInt_toInt, Int32.toInt_ofInt_of_le (by have := Int32.toInt_lt q; omega) (by omega)]
          unfold tn
          omega)
        rw [← hk2.1, tn_pos pn] at hp'
        rw [hp', Option.bind_some, lN_mul, lrem_N (mulP p2 (modP _)), tn_le (Int32.not_lt.mpr e1), Nat.pow_zero, lrem1 p1]
    · rw [if_neg e1, B.g1, Option.bind_some, B.a2 (by omega), Option.bind_some]
      have pq : 0 < q := Int32.not_le.mp e1
      have hp' := X0_power (h := hp S c) (e := tn q) hk2.2 (by unfold tn; omega)
      rw [← hk2.1, tn_pos pq] at hp'
      have hnq : ¬ 0 < -q := fun z => by
        have h1 : (-q).toInt = -q.toInt := by
          rw [← Int32.ofInt_toInt (x := q), ← Int32.ofInt_neg, Int32.ofInt_toInt, Int32.toInt_ofInt_of_le (by have := Int32.toInt_lt q; omega) (by omega)]
        have := pos_i.mp z
        have := pos_i.mp pq
        omega
      rw [hp', Option.bind_some, lN_mul, lrem_N (mulP p1 (modP _)), tn_le hnq, Nat.pow_zero, lrem1 p2]
theorem isB.turnOver (B : isB b) (hN : S.1 b 4 = nI N) (h6 : N ≤ 6) (hx : x < N) (A : An (S.1 (b + 1))) (hW : Wo (S.1 (b + 2))) (hne : S.1 (b + 2) x ≠ 0) : f_X0_turnOver (hp S c) b (nI x) = some (hp (wA (wA S (b + 2) (upd (S.1 (b + 2)) x (nI (fw N (S.1 (b + 1)) (S.1 (b + 2)) x)))) (b + 1) (nxF N (S.1 (b + 1)) x)) c) := by
  unfold f_X0_turnOver
  rw [B.ck, Option.bind_some, B.renewWorth hN h6 hx A hW hne, Option.bind_some, B.turnDebts (by rw [wA_ne (by omega)]; exact hN) h6 (by omega), Option.bind_some, wA_ne (by omega), turn_eq A h6 hx]
/-- a board has become another -/
def cpB (S' : XS) (b : Nat) (S : XS) (b' : Nat) : Prop := (∀ k, k < 36 → S'.1 (b + 1) k = S.1 (b' + 1) k) ∧ (∀ k, k < 6 → S'.1 (b + 2) k = S.1 (b' + 2) k) ∧ (∀ k, k < 6 → S'.1 (b + 3) k = S.1 (b' + 3) k) ∧ (∀ k, k < 6 → S'.1 (b + 4) k = S.1 (b' + 4) k) ∧ (∀ k, 4 ≤ k → k < 9 → S'.1 b k = S.1 b' k)
/-- all but the cells l .. r is as it was -/
def fr (l r : Nat) (S' S : XS) : Prop := (∀ a, a < l ∨ r < a → S'.1 a = S.1 a) ∧ S'.2 = S.2
theorem fr.trans {l r : Nat} {S S1 S2 : XS} (h1 : fr l r S1 S) (h2 : fr l r S2 S1) : fr l r S2 S := ⟨fun a ha => (h2.1 a ha).trans (h1.1 a ha), h2.2.trans h1.2⟩
theorem fr.mono {l r l' r' : Nat} {S S1 : XS} (h1 : fr l r S1 S) (hl : l' ≤ l) (hr : r ≤ r') : fr l' r' S1 S := ⟨fun a ha => h1.1 a (by omega), h1.2⟩
theorem fr.refl {l r : Nat} {S : XS} : fr l r S S := ⟨fun _ _ => rfl, rfl⟩
theorem fr.wA {l r a : Nat} {S : XS} {f : Nat → Int32} (h1 : l ≤ a) (h2 : a ≤ r) : fr l r (wA S a f) S := ⟨fun j hj => wA_ne (by omega), rfl⟩
theorem isB.become {b' : Nat} (B : isB b) (B' : isB b') (hd : b + 4 < b' ∨ b' + 4 < b) : ∃ S', f_X0_become (hp S c) b b' = some (hp S' c) ∧ cpB S' b S b' ∧ fr b (b + 4) S' S := by
  unfold f_X0_become
  rw [B.ck, Option.bind_some, B'.g0, Option.bind_some, B.g0, Option.bind_some, Option.bind_some, B.n1, Option.bind_some, show (0 : Int32) = nI 0 from rfl, cpI_hp B'.2.1 B.2.1 (by omega) (by omega) (by decide) (by decide), Option.bind_some, B'.g1, Option.bind_some, B.g1, Option.bind_some, show (6 : Int32) = nI 6 from rfl, cpI_hp B'.2.2.1 B.2.2.1 (by omega) (by omega) (by decide) (by decide), Option.bind_some, B'.g2, Option.bind_some, B.g2, Option.bind_some, cpI_hp B'.2.2.2.1 B.2.2.2.1 (by omega) (by omega) (by decide) (by decide), Option.bind_some, B'.g3, Option.bind_some, B.g3, Option.bind_some, cpI_hp B'.2.2.2.2 B.2.2.2.2 (by omega) (by omega) (by decide) (by decide), Option.bind_some]
  rw [B'.g4, Option.bind_some, B.p4, Option.bind_some, B'.g5, Option.bind_some, B.p5, Option.bind_some, B'.g6, Option.bind_some, B.p6, Option.bind_some, B'.g7, Option.bind_some, B.p7, Option.bind_some, B'.g8, Option.bind_some, B.p8, Option.bind_some]
  refine ⟨_, rfl, ⟨fun k hk => ?_, fun k hk => ?_, fun k hk => ?_, fun k hk => ?_, fun k h4 h9 => ?_⟩, ⟨fun a ha => ?_, rfl⟩⟩
  · simp only [wA_wA, wA_same, wA_ne (show b + 1 ≠ b by omega), wA_ne (show b + 1 ≠ b + 2 by omega), wA_ne (show b + 1 ≠ b + 3 by omega), wA_ne (show b + 1 ≠ b + 4 by omega), va_cpy]
    rw [if_pos (by omega), show 0 + (k - 0) = k by omega]
  · simp only [wA_wA, wA_same, wA_ne (show b + 2 ≠ b by omega), wA_ne (show b + 2 ≠ b + 3 by omega), wA_ne (show b + 2 ≠ b + 4 by omega), wA_ne (show b' + 2 ≠ b + 1 by omega), va_cpy]
    rw [if_pos (by omega), show 0 + (k - 0) = k by omega]
  · simp only [wA_wA, wA_same, wA_ne (show b + 3 ≠ b by omega), wA_ne (show b + 3 ≠ b + 4 by omega), wA_ne (show b' + 3 ≠ b + 1 by omega), wA_ne (show b' + 3 ≠ b + 2 by omega), va_cpy]
    rw [if_pos (by omega), show 0 + (k - 0) = k by omega]
  · simp only [wA_wA, wA_same, wA_ne (show b + 4 ≠ b by omega), wA_ne (show b' + 4 ≠ b + 1 by omega), wA_ne (show b' + 4 ≠ b + 2 by omega), wA_ne (show b' + 4 ≠ b + 3 by omega), va_cpy]
    rw [if_pos (by omega), show 0 + (k - 0) = k by omega]
  · simp only [wA_wA, wA_same, wA_ne (show b ≠ b + 4 by omega), wA_ne (show b ≠ b + 3 by omega), wA_ne (show b ≠ b + 2 by omega), wA_ne (show b ≠ b + 1 by omega), wA_ne (show b' ≠ b by omega), wA_ne (show b' ≠ b + 4 by omega), wA_ne (show b' ≠ b + 3 by omega), wA_ne (show b' ≠ b + 2 by omega), wA_ne (show b' ≠ b + 1 by omega), upd]
    rcases (by omega : k = 4 ∨ k = 5 ∨ k = 6 ∨ k = 7 ∨ k = 8) with rfl | rfl | rfl | rfl | rfl <;> simp
  · simp only [wA_ne (show a ≠ b by omega), wA_ne (show a ≠ b + 1 by omega), wA_ne (show a ≠ b + 2 by omega), wA_ne (show a ≠ b + 3 by omega), wA_ne (show a ≠ b + 4 by omega)]
end CR
