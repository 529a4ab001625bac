/-! TURNING: what a crossing does to what all owe -/
/-- what all owe: to and fro is quits, within 99 -/
def An (D : Nat → Int32) : Prop := ∀ a b, a < 6 → b < 6 → (D (6 * a + b)).toInt = -(D (6 * b + a)).toInt ∧ (D (6 * a + b)).toInt ≤ 99
theorem neg_of {u v : Int32} (h : u.toInt = -v.toInt) : u = -v := by
  rw [← Int32.ofInt_toInt (x := u), h, Int32.ofInt_neg, Int32.ofInt_toInt]
theorem pos_i {u : Int32} : 0 < u ↔ 0 < u.toInt := Int32.lt_iff_toInt_lt
theorem negt_i {u : Int32} : u < 0 ↔ u.toInt < 0 := Int32.lt_iff_toInt_lt
theorem An.neg {D : Nat → Int32} (A : An D) {a b : Nat} (ha : a < 6) (hb : b < 6) : D (6 * a + b) = -D (6 * b + a) := neg_of (A a b ha hb).1
theorem An.diag {D : Nat → Int32} (A : An D) {a : Nat} (ha : a < 6) : D (6 * a + a) = 0 := by
  have := (A a a ha ha).1
  exact Int32.toInt_inj.mp (by show _ = (0 : Int); omega)
theorem An.pos {D : Nat → Int32} (A : An D) {a b : Nat} (ha : a < 6) (hb : b < 6) : 0 < D (6 * a + b) ↔ D (6 * b + a) < 0 := by
  have := (A a b ha hb).1
  rw [pos_i, negt_i]
  omega
theorem An.congr {D D' : Nat → Int32} (A : An D) (h : ∀ k, k < 36 → D' k = D k) : An D' := fun a b ha hb => by
  rw [h _ (by omega), h _ (by omega)]
  exact A a b ha hb
def tI (D0 : Nat → Int32) (x k : Nat) (q : Int32) : Nat → (Nat → Int32)
  | 0 => D0
  | j + 1 => if tI D0 x k q j (6 * x + j) ≤ 0 then tI D0 x k q j else upd (upd (tI D0 x k q j) (6 * k + j) (tI D0 x k q j (6 * k + j) + q * tI D0 x k q j (6 * x + j))) (6 * j + k) (-(tI D0 x k q j (6 * k + j) + q * tI D0 x k q j (6 * x + j)))
def tO (D0 : Nat → Int32) (x N : Nat) : Nat → (Nat → Int32)
  | 0 => D0
  | k + 1 => if 0 < tO D0 x N k (6 * k + x) then tI (tO D0 x N k) x k (tO D0 x N k (6 * k + x)) N else tO D0 x N k
def tN (D0 : Nat → Int32) (x : Nat) : Nat → (Nat → Int32)
  | 0 => D0
  | k + 1 => upd (upd (tN D0 x k) (6 * k + x) (-tN D0 x k (6 * k + x))) (6 * x + k) (- -tN D0 x k (6 * k + x))
def nx (N : Nat) (D : Nat → Int32) (x a b : Nat) : Int32 :=
  if a < N ∧ b < N then (if a = x ∨ b = x then -D (6 * a + b) else if 0 < D (6 * a + x) ∧ 0 < D (6 * x + b) then D (6 * a + b) + D (6 * a + x) * D (6 * x + b) else if D (6 * a + x) < 0 ∧ D (6 * x + b) < 0 then D (6 * a + b) - D (6 * a + x) * D (6 * x + b) else D (6 * a + b)) else D (6 * a + b)
section TN
variable {S : XS} {c : Nat × Nat} {b N x : Nat} {D : Nat → Int32}
theorem isB.turnN (B : isB b) (hN : S.1 b 4 = nI N) (h6 : N ≤ 6) (hx : x < 6) : f_X0_turnDebts_b83 1048576 (hp S c) b (nI x) (0 : Int32) = some (hp (wA S (b + 1) (tN (S.1 (b + 1)) x N)) c) := by
  refine (lp (N := N) (r := some (hp (wA S (b + 1) (tN (S.1 (b + 1)) x N)) c)) (fun n k => f_X0_turnDebts_b83 n (hp (wA S (b + 1) (tN (S.1 (b + 1)) x k)) c) b (nI x) (nI k)) (fun n => ?_) (fun n k hk => ?_) N 0 1048576 (by omega) (by omega)) ▸ ?_
  · show f_X0_turnDebts_b83 (n + 1) (hp (wA S (b + 1) (tN (S.1 (b + 1)) x N)) c) b (nI x) (nI N) = _
    rw [f_X0_turnDebts_b83, B.g4, Option.bind_some, wA_ne (by omega), hN, if_pos (nI_le (Nat.le_refl _) (by omega))]
  · show f_X0_turnDebts_b83 (n + 1) (hp (wA S (b + 1) (tN (S.1 (b + 1)) x k)) c) b (nI x) (nI k) = _
    rw [f_X0_turnDebts_b83, B.g4, Option.bind_some, wA_ne (by omega), hN, if_neg (nI_ge (by omega) (by omega)), B.debt (by omega) hx, Option.bind_some, B.setDebt (by omega) hx, Option.bind_some, wA_wA, wA_same, nI_1]
    rfl
  · show f_X0_turnDebts_b83 1048576 (hp S c) b (nI x) (0 : Int32) = f_X0_turnDebts_b83 1048576 (hp (wA S (b + 1) (S.1 (b + 1))) c) b (nI x) (nI 0)
    rw [wA_self]
    rfl
theorem isB.turnDebts (B : isB b) (hN : S.1 b 4 = nI N) (h6 : N ≤ 6) (hx : x < 6) : f_X0_turnDebts (hp S c) b (nI x) = some (hp (wA S (b + 1) (tN (tO (S.1 (b + 1)) x N N) x N)) c) := by
  unfold f_X0_turnDebts
  rw [B.ck, Option.bind_some]
  refine (lp (N := N) (r := some (hp (wA S (b + 1) (tN (tO (S.1 (b + 1)) x N N) x N)) c)) (fun n k => f_X0_turnDebts_b2 n (hp (wA S (b + 1) (tO (S.1 (b + 1)) x N k)) c) b (nI x) (nI k)) (fun n => ?_) (fun n k hk => ?_) N 0 1048576 (by omega) (by omega)) ▸ ?_
  · show f_X0_turnDebts_b2 (n + 1) (hp (wA S (b + 1) (tO (S.1 (b + 1)) x N N)) c) b (nI x) (nI N) = _
    rw [f_X0_turnDebts_b2, B.g4, Option.bind_some, wA_ne (by omega), hN, if_pos (nI_le (Nat.le_refl _) (by omega)), B.turnN (by rw [wA_ne (by omega)]; exact hN) h6 hx, wA_wA, wA_same]
  · show f_X0_turnDebts_b2 (n + 1) (hp (wA S (b + 1) (tO (S.1 (b + 1)) x N k)) c) b (nI x) (nI k) = f_X0_turnDebts_b2 n (hp (wA S (b + 1) (if 0 < tO (S.1 (b + 1)) x N k (6 * k + x) then tI (tO (S.1 (b + 1)) x N k) x k (tO (S.1 (b + 1)) x N k (6 * k + x)) N else tO (S.1 (b + 1)) x N k)) c) b (nI x) (nI (k + 1))
    rw [f_X0_turnDebts_b2, B.g4, Option.bind_some, wA_ne (by omega), hN, if_neg (nI_ge (by omega) (by omega)), B.debt (by omega) hx, Option.bind_some, wA_same]
    by_cases e : 0 < tO (S.1 (b + 1)) x N k (6 * k + x)
    · rw [if_pos e, if_pos e]
      refine lp (N := N) (fun m j => f_X0_turnDebts_b27 (fun h l0 l1 l2 => f_X0_turnDebts_b2 n h l0 l1 l2) m (hp (wA S (b + 1) (tI (tO (S.1 (b + 1)) x N k) x k (tO (S.1 (b + 1)) x N k (6 * k + x)) j)) c) b (nI x) (nI k) (tO (S.1 (b + 1)) x N k (6 * k + x)) (nI j)) (fun m => ?_) (fun m j hj => ?_) N 0 1048576 (by omega) (by omega)
      · show f_X0_turnDebts_b27 _ (m + 1) (hp (wA S (b + 1) _) c) b (nI x) (nI k) _ (nI N) = _
        rw [f_X0_turnDebts_b27, B.g4, Option.bind_some, wA_ne (by omega), hN, if_pos (nI_le (Nat.le_refl _) (by omega))]
        unfold f_X0_turnDebts_b75
        rw [nI_1]
      · generalize tO (S.1 (b + 1)) x N k = E
        show f_X0_turnDebts_b27 _ (m + 1) (hp (wA S (b + 1) (tI E x k (E (6 * k + x)) j)) c) b (nI x) (nI k) _ (nI j) = f_X0_turnDebts_b27 _ m (hp (wA S (b + 1) (if tI E x k (E (6 * k + x)) j (6 * x + j) ≤ 0 then tI E x k (E (6 * k + x)) j else upd (upd (tI E x k (E (6 * k + x)) j) (6 * k + j) (tI E x k (E (6 * k + x)) j (6 * k + j) + E (6 * k + x) * tI E x k (E (6 * k + x)) j (6 * x + j))) (6 * j + k) (-(tI E x k (E (6 * k + x)) j (6 * k + j) + E (6 * k + x) * tI E x k (E (6 * k + x)) j (6 * x + j))))) c) b (nI x) (nI k) _ (nI (j + 1))
        rw [f_X0_turnDebts_b27, B.g4, Option.bind_some, wA_ne (by omega), hN, if_neg (nI_ge (by omega) (by omega)), B.debt hx (by omega), Option.bind_some, wA_same]
        unfold f_X0_turnDebts_b69
        rw [nI_1]
        by_cases e1 : tI E x k (E (6 * k + x)) j (6 * x + j) ≤ 0
        · rw [if_pos e1, if_pos e1]
        · rw [if_neg e1, if_neg e1, B.debt (by omega) (by omega), Option.bind_some, B.setDebt (by omega) (by omega), Option.bind_some, wA_wA, wA_same]
    · rw [if_neg e, if_neg e]
      unfold f_X0_turnDebts_b75
      rw [nI_1]
  · show f_X0_turnDebts_b2 1048576 (hp S c) b (nI x) (0 : Int32) = f_X0_turnDebts_b2 1048576 (hp (wA S (b + 1) (S.1 (b + 1))) c) b (nI x) (nI 0)
    rw [wA_self]
    rfl
theorem ix_eq {a b a' b' : Nat} (hb : b < 6) (hb' : b' < 6) : 6 * a + b = 6 * a' + b' ↔ a = a' ∧ b = b' := by omega
theorem upd6 {f : Nat → Int32} {a b a' b' : Nat} {v : Int32} (hb : b < 6) (hb' : b' < 6) : upd f (6 * a' + b') v (6 * a + b) = if a = a' ∧ b = b' then v else f (6 * a + b) := by
  show (if 6 * a + b = 6 * a' + b' then v else f (6 * a + b)) = _
  by_cases e : a = a' ∧ b = b'
  · rw [if_pos e, if_pos ((ix_eq hb hb').mpr e)]
  · rw [if_neg e, if_neg (fun z => e ((ix_eq hb hb').mp z))]
theorem tI_at {k : Nat} {q : Int32} (hk : k < 6) (hx : x < 6) (hkx : k ≠ x) (h1 : ¬ 0 < D (6 * x + x)) (h2 : ¬ 0 < D (6 * x + k)) : ∀ (j : Nat), j ≤ 6 → ∀ (a e : Nat), a < 6 → e < 6 → tI D x k q j (6 * a + e) = if a = k ∧ e < j ∧ 0 < D (6 * x + e) then D (6 * k + e) + q * D (6 * x + e) else if e = k ∧ a < j ∧ 0 < D (6 * x + a) then -(D (6 * k + a) + q * D (6 * x + a)) else D (6 * a + e)
  | 0, _, a, e, ha, he => by
    rw [if_neg (by omega), if_neg (by omega)]
    rfl
  | j + 1, hj, a, e, ha, he => by
    have ih := tI_at (q := q) hk hx hkx h1 h2 j (by omega)
    have e1 : tI D x k q j (6 * x + j) = D (6 * x + j) := by
      rw [ih x j hx (by omega), if_neg (fun z => hkx z.1.symm), if_neg (fun z => h1 z.2.2)]
    have e2 : tI D x k q j (6 * k + j) = D (6 * k + j) := by
      rw [ih k j hk (by omega), if_neg (by omega), if_neg (fun z => h2 z.2.2)]
    show (if tI D x k q j (6 * x + j) ≤ 0 then tI D x k q j else upd (upd (tI D x k q j) (6 * k + j) (tI D x k q j (6 * k + j) + q * tI D x k q j (6 * x + j))) (6 * j + k) (-(tI D x k q j (6 * k + j) + q * tI D x k q j (6 * x + j)))) (6 * a + e) = _
    rw [e1, e2]
    by_cases q1 : D (6 * x + j) ≤ 0
    · rw [if_pos q1, ih a e ha he]
      have n1 : ¬ 0 < D (6 * x + j) := Int32.not_lt.mpr q1
      have i1 : (a = k ∧ e < j ∧ 0 < D (6 * x + e)) ↔ (a = k ∧ e < j + 1 ∧ 0 < D (6 * x + e)) := by
        constructor
        · exact fun z => ⟨z.1, by omega, z.2.2⟩
        · intro z
          refine ⟨z.1, ?_, z.2.2⟩
          by_cases ej : e = j
          · rw [ej] at z
            exact absurd z.2.2 n1
          · omega
      have i2 : (e = k ∧ a < j ∧ 0 < D (6 * x + a)) ↔ (e = k ∧ a < j + 1 ∧ 0 < D (6 * x + a)) := by
        constructor
        · exact fun z => ⟨z.1, by omega, z.2.2⟩
        · intro z
          refine ⟨z.1, ?_, z.2.2⟩
          by_cases ej : a = j
          · rw [ej] at z
            exact absurd z.2.2 n1
          · omega
      rw [fI i1, fI i2]
    · have p1 : 0 < D (6 * x + j) := Int32.not_le.mp q1
      have jk : j ≠ k := fun z => h2 (z ▸ p1)
      rw [if_neg q1, upd6 he hk, upd6 he (by omega), ih a e ha he]
      by_cases c1 : a = j ∧ e = k
      · rw [if_pos c1, if_neg (fun z => jk (c1.1.symm.trans z.1)), if_pos ⟨c1.2, by omega, by rw [c1.1]; exact p1⟩, c1.1]
      · rw [if_neg c1]
        by_cases c2 : a = k ∧ e = j
        · rw [if_pos c2, if_pos ⟨c2.1, by omega, by rw [c2.2]; exact p1⟩, c2.2]
        · rw [if_neg c2]
          have i1 : (a = k ∧ e < j ∧ 0 < D (6 * x + e)) ↔ (a = k ∧ e < j + 1 ∧ 0 < D (6 * x + e)) := ⟨fun z => ⟨z.1, by omega, z.2.2⟩, fun z => ⟨z.1, by omega, z.2.2⟩⟩
          have i2 : (e = k ∧ a < j ∧ 0 < D (6 * x + a)) ↔ (e = k ∧ a < j + 1 ∧ 0 < D (6 * x + a)) := ⟨fun z => ⟨z.1, by omega, z.2.2⟩, fun z => ⟨z.1, by omega, z.2.2⟩⟩
          rw [fI i1, fI i2]
/-- one to whom x's turning leads from another -/
def tP (N : Nat) (D : Nat → Int32) (x a e : Nat) : Prop := e < N ∧ 0 < D (6 * a + x) ∧ 0 < D (6 * x + e)
theorem tP_ex (A : An D) (hx : x < 6) {a e : Nat} (ha : a < 6) (he : e < 6) (p : tP N D x a e) : ¬ tP N D x e a := fun q => by
  have h1 := (A e x he hx).1
  have h2 := pos_i.mp p.2.2
  have h3 := pos_i.mp q.2.1
  omega
theorem tP_x1 (A : An D) (hx : x < 6) {e : Nat} : ¬ tP N D x x e := fun q => by
  have h := q.2.1
  rw [A.diag hx] at h
  exact absurd h (by decide)
theorem tP_x2 (A : An D) (hx : x < 6) {a : Nat} : ¬ tP N D x a x := fun q => by
  have h := q.2.2
  rw [A.diag hx] at h
  exact absurd h (by decide)
theorem tO_at (A : An D) (h6 : N ≤ 6) (hx : x < 6) : ∀ (k : Nat), k ≤ N → ∀ (a e : Nat), a < 6 → e < 6 → (a < k ∧ tP N D x a e → tO D x N k (6 * a + e) = D (6 * a + e) + D (6 * a + x) * D (6 * x + e)) ∧ (e < k ∧ tP N D x e a → tO D x N k (6 * a + e) = -(D (6 * e + a) + D (6 * e + x) * D (6 * x + a))) ∧ (¬ (a < k ∧ tP N D x a e) → ¬ (e < k ∧ tP N D x e a) → tO D x N k (6 * a + e) = D (6 * a + e))
  | 0, _, a, e, ha, he => ⟨fun z => by omega, fun z => by omega, fun _ _ => rfl⟩
  | k + 1, hk, a, e, ha, he => by
    have ih := tO_at A h6 hx k (by omega)
    have r1 : ∀ e, e < 6 → tO D x N k (6 * x + e) = D (6 * x + e) := fun e he => (ih x e hx he).2.2 (fun z => tP_x1 A hx z.2) (fun z => tP_x2 A hx z.2)
    have r2 : ∀ a, a < 6 → tO D x N k (6 * a + x) = D (6 * a + x) := fun a ha => (ih a x ha hx).2.2 (fun z => tP_x2 A hx z.2) (fun z => tP_x1 A hx z.2)
    have ek : tO D x N (k + 1) = if 0 < tO D x N k (6 * k + x) then tI (tO D x N k) x k (tO D x N k (6 * k + x)) N else tO D x N k := rfl
    rw [r2 k (by omega)] at ek
    by_cases p : 0 < D (6 * k + x)
    · have hkx : k ≠ x := fun z => by
        rw [z, A.diag hx] at p
        exact absurd p (by decide)
      have nk : ¬ 0 < D (6 * x + k) := fun z => by
        have h1 := (A k x (by omega) hx).1
        have h2 := pos_i.mp p
        have h3 := pos_i.mp z
        omega
      have hI := tI_at (D := tO D x N k) (x := x) (k := k) (q := D (6 * k + x)) (by omega) hx hkx (by rw [r1 x hx, A.diag hx]; decide) (by rw [r1 k (by omega)]; exact nk) N h6
      have row : ∀ e, e < 6 → 0 < D (6 * x + e) → tO D x N k (6 * k + e) = D (6 * k + e) := fun e he pe => (ih k e (by omega) he).2.2 (fun z => by omega) (fun z => by
        have h1 := (A e x he hx).1
        have h2 := pos_i.mp pe
        have h3 := pos_i.mp z.2.2.1
        omega)
      rw [ek, if_pos p]
      refine ⟨fun z => ?_, fun z => ?_, fun z1 z2 => ?_⟩
      · rw [hI a e ha he]
        by_cases c : a = k
        · subst c
          rw [if_pos ⟨rfl, z.2.1, by rw [r1 e he]; exact z.2.2.2⟩, row e he z.2.2.2, r1 e he]
        · rw [if_neg (fun w => c w.1), if_neg (fun w => by
            have w2 := w.2.2
            rw [r1 a ha] at w2
            have h1 := (A a x ha hx).1
            have h2 := pos_i.mp w2
            have h3 := pos_i.mp z.2.2.1
            omega)]
          exact (ih a e ha he).1 ⟨by omega, z.2⟩
      · rw [hI a e ha he, if_neg (fun w => by
            have w2 := w.2.2
            rw [r1 e he] at w2
            have h1 := (A e x he hx).1
            have h2 := pos_i.mp w2
            have h3 := pos_i.mp z.2.2.1
            omega)]
        by_cases c : e = k
        · subst c
          rw [if_pos ⟨rfl, z.2.1, by rw [r1 a ha]; exact z.2.2.2⟩, row a ha z.2.2.2, r1 a ha]
        · rw [if_neg (fun w => c w.1)]
          exact (ih a e ha he).2.1 ⟨by omega, z.2⟩
      · rw [hI a e ha he, if_neg (fun w => z1 ⟨by omega, w.2.1, by rw [w.1]; exact p, by have := w.2.2; rw [r1 e he] at this; exact this⟩), if_neg (fun w => z2 ⟨by omega, w.2.1, by rw [w.1]; exact p, by have := w.2.2; rw [r1 a ha] at this; exact this⟩)]
        exact (ih a e ha he).2.2 (fun w => z1 ⟨by omega, w.2⟩) (fun w => z2 ⟨by omega, w.2⟩)
    · rw [ek, if_neg p]
      have i1 : ∀ {u v : Nat}, u < k + 1 ∧ tP N D x u v → u < k ∧ tP N D x u v := fun {u v} z => by
        refine ⟨?_, z.2⟩
        by_cases c : u = k
        · rw [c] at z
          exact absurd z.2.2.1 p
        · omega
      exact ⟨fun z => (ih a e ha he).1 (i1 z), fun z => (ih a e ha he).2.1 (i1 z), fun z1 z2 => (ih a e ha he).2.2 (fun w => z1 ⟨by omega, w.2⟩) (fun w => z2 ⟨by omega, w.2⟩)⟩
theorem tN_at (hx : x < 6) (h0 : D (6 * x + x) = 0) (hs : ∀ k, k < 6 → D (6 * x + k) = -D (6 * k + x)) : ∀ (k : Nat), k ≤ 6 → ∀ (a e : Nat), a < 6 → e < 6 → tN D x k (6 * a + e) = if (a < k ∧ e = x) ∨ (a = x ∧ e < k) then -D (6 * a + e) else D (6 * a + e)
  | 0, _, a, e, ha, he => by
    rw [if_neg (by omega)]
    rfl
  | k + 1, hk, a, e, ha, he => by
    have ih := tN_at hx h0 hs k (by omega)
    have e1 : tN D x k (6 * k + x) = D (6 * k + x) := by
      rw [ih k x (by omega) hx]
      by_cases c : (k < k ∧ x = x) ∨ (k = x ∧ x < k)
      · omega
      · rw [if_neg c]
    show upd (upd (tN D x k) (6 * k + x) (-tN D x k (6 * k + x))) (6 * x + k) (- -tN D x k (6 * k + x)) (6 * a + e) = _
    rw [e1, upd6 he (by omega), upd6 he hx, ih a e ha he]
    by_cases c1 : a = x ∧ e = k
    · rw [if_pos c1, if_pos (Or.inr ⟨c1.1, by omega⟩), c1.1, c1.2, hs k (by omega)]
    · rw [if_neg c1]
      by_cases c2 : a = k ∧ e = x
      · rw [if_pos c2, if_pos (Or.inl ⟨by omega, c2.2⟩), c2.1, c2.2]
      · rw [if_neg c2]
        refine fI ?_
        omega
theorem turn_at (A : An D) (h6 : N ≤ 6) (hx : x < N) {a e : Nat} (ha : a < 6) (he : e < 6) : tN (tO D x N N) x N (6 * a + e) = nx N D x a e := by
  have hx6 : x < 6 := by omega
  have hO := tO_at A h6 hx6 N (Nat.le_refl _)
  have r1 : ∀ e, e < 6 → tO D x N N (6 * x + e) = D (6 * x + e) := fun e he => (hO x e hx6 he).2.2 (fun z => tP_x1 A hx6 z.2) (fun z => tP_x2 A hx6 z.2)
  have r2 : ∀ a, a < 6 → tO D x N N (6 * a + x) = D (6 * a + x) := fun a ha => (hO a x ha hx6).2.2 (fun z => tP_x2 A hx6 z.2) (fun z => tP_x1 A hx6 z.2)
  rw [tN_at hx6 (by rw [r1 x hx6]; exact A.diag hx6) (fun k hk => by rw [r1 k hk, r2 k hk]; exact A.neg hx6 hk) N h6 a e ha he]
  unfold nx
  by_cases c : a < N ∧ e < N
  · rw [if_pos c]
    by_cases c1 : a = x ∨ e = x
    · rw [if_pos c1, if_pos (by omega)]
      rcases c1 with rfl | rfl
      · rw [r1 e he]
      · rw [r2 a ha]
    · rw [if_neg c1, if_neg (by omega)]
      by_cases c2 : 0 < D (6 * a + x) ∧ 0 < D (6 * x + e)
      · rw [if_pos c2]
        exact (hO a e ha he).1 ⟨c.1, c.2, c2⟩
      · rw [if_neg c2]
        by_cases c3 : D (6 * a + x) < 0 ∧ D (6 * x + e) < 0
        · rw [if_pos c3, (hO a e ha he).2.1 ⟨c.2, c.1, (A.pos he hx6).mpr c3.2, (A.pos hx6 ha).mpr c3.1⟩]
          rw [A.neg he ha, A.neg he hx6, A.neg hx6 ha, Int32.neg_add, Int32.neg_neg, Int32.neg_mul, Int32.mul_neg, Int32.neg_neg, Int32.sub_eq_add_neg, Int32.mul_comm (D (6 * x + e))]
          exact (Int32.sub_eq_add_neg ..).symm
        · rw [if_neg c3]
          exact (hO a e ha he).2.2 (fun z => c2 z.2.2) (fun z => c3 ⟨(A.pos hx6 ha).mp z.2.2.2, (A.pos he hx6).mp z.2.2.1⟩)
  · rw [if_neg c, if_neg (by omega)]
    exact (hO a e ha he).2.2 (fun z => c ⟨z.1, z.2.1⟩) (fun z => c ⟨z.2.1, z.1⟩)
end TN
