/-! WHAT IS KEPT between calls, and how class and reference stand to each other -/
/-- the cells and places that a later call reads as they were left -/
def pers (a k : Nat) : Bool :=
  if a = 351 then k == 6 || k == 7 || k == 26 || k == 27 || k == 30 || k == 35 || k == 36 || k == 40 || k == 51 || k == 56
  else if a = 271 then k == 4
  else if a = 362 then decide (k < 64)
  else if a = 363 then decide (k < 4)
  else !(decide (2 ≤ a ∧ a ≤ 11) || decide (13 ≤ a ∧ a ≤ 15) || decide (40 ≤ a ∧ a ≤ 44) || decide (266 ≤ a ∧ a ≤ 270) || decide (272 ≤ a ∧ a ≤ 274) || decide (276 ≤ a ∧ a ≤ 348) || a == 350 || a == 357 || a == 359 || a == 361 || a == 365 || a == 367 || a == 368 || a == 370 || a == 371 || a == 372 || a == 374 || a == 375 || a == 376)
abbrev PJ : Type := Nat → Nat → Int32
def pj (S : XS) : PJ := fun a k => if pers a k = true then S.1 a k else 0
def scr (a : Nat) : Prop := ∀ k, pers a k = false
theorem pj_at {S : XS} {a k : Nat} (h : pers a k = true) : pj S a k = S.1 a k := if_pos h
theorem pj_cell {S : XS} {a : Nat} (h : ∀ k, pers a k = true) : pj S a = S.1 a := funext fun k => pj_at (h k)
theorem pj_ext {S S' : XS} (h : ∀ a k, pers a k = true → S'.1 a k = S.1 a k) : pj S' = pj S := by
  funext a k
  unfold pj
  by_cases q : pers a k = true
  · rw [if_pos q, if_pos q, h a k q]
  · rw [if_neg q, if_neg q]
theorem pj_wA {S : XS} {a : Nat} {f : Nat → Int32} (h : ∀ k, pers a k = true → f k = S.1 a k) : pj (wA S a f) = pj S := pj_ext fun j k q => by
  by_cases e : j = a
  · subst e
    rw [wA_same]
    exact h k q
  · rw [wA_ne e]
theorem pj_scr {S : XS} {a : Nat} {f : Nat → Int32} (h : scr a) : pj (wA S a f) = pj S := pj_wA fun k q => by
  rw [h k] at q
  cases q
theorem pj_wL {S : XS} {a : Nat} {f : Nat → Int64} : pj (wL S a f) = pj S := rfl
theorem pj_wT {S : XS} {a x : Nat} : pj (wT S a x) = pj S := rfl
theorem pj_up {S : XS} {a k : Nat} {v : Int32} (h : pers a k = false) : pj (wA S a (upd (S.1 a) k v)) = pj S := pj_wA fun j q => by
  unfold upd
  by_cases e : j = k
  · rw [e, h] at q
    cases q
  · rw [if_neg e]
theorem pj_fr {S S' : XS} {l r : Nat} (h : fr l r S' S) (hs : ∀ a, l ≤ a → a ≤ r → scr a) : pj S' = pj S := pj_ext fun a k q => by
  by_cases e : a < l ∨ r < a
  · rw [h.1 a e]
  · rw [hs a (by omega) (by omega) k] at q
    cases q
/-- a write seen through what is kept -/
theorem pj_put {S : XS} {a : Nat} {f : Nat → Int32} (h : ∀ k, pers a k = true) : pj (wA S a f) = fun j => if j = a then f else pj S j := by
  funext j k
  by_cases e : j = a
  · subst e
    rw [if_pos rfl, pj_at (h k), wA_same]
  · rw [if_neg e]
    unfold pj
    rw [wA_ne e]
theorem pj_wA_ne {S : XS} {a j : Nat} {f : Nat → Int32} (h : j ≠ a) : pj (wA S a f) j = pj S j := by
  funext k
  unfold pj
  rw [wA_ne h]
theorem sc2 : scr 2 := fun _ => rfl
theorem sc9 : scr 9 := fun _ => rfl
theorem sc10 : scr 10 := fun _ => rfl
theorem sc13 : scr 13 := fun _ => rfl
theorem sc15 : scr 15 := fun _ => rfl
theorem sc40 : ∀ a, 40 ≤ a → a ≤ 44 → scr a := fun a h1 h2 k => by
  rcases (by omega : a = 40 ∨ a = 41 ∨ a = 42 ∨ a = 43 ∨ a = 44) with rfl | rfl | rfl | rfl | rfl <;> rfl
theorem sc4 : ∀ a, 4 ≤ a → a ≤ 8 → scr a := fun a h1 h2 k => by
  rcases (by omega : a = 4 ∨ a = 5 ∨ a = 6 ∨ a = 7 ∨ a = 8) with rfl | rfl | rfl | rfl | rfl <;> rfl
theorem sc276 : ∀ a, 276 ≤ a → a ≤ 348 → scr a := fun a h1 h2 k => by
  unfold pers
  rw [if_neg (by omega), if_neg (by omega), if_neg (by omega), if_neg (by omega)]
  have : decide (276 ≤ a ∧ a ≤ 348) = true := decide_eq_true ⟨h1, h2⟩
  rw [this]
  simp
theorem sc365 : scr 365 := fun _ => rfl
theorem sc367 : scr 367 := fun _ => rfl
theorem sc368 : scr 368 := fun _ => rfl
theorem sc370 : scr 370 := fun _ => rfl
theorem sc371 : scr 371 := fun _ => rfl
theorem sc372 : scr 372 := fun _ => rfl
theorem sc374 : scr 374 := fun _ => rfl
theorem sc375 : scr 375 := fun _ => rfl
theorem sc376 : scr 376 := fun _ => rfl
theorem sc350 : scr 350 := fun _ => rfl
theorem sc357 : scr 357 := fun _ => rfl
theorem sc359 : scr 359 := fun _ => rfl
theorem sc361 : scr 361 := fun _ => rfl
/-- a board is as a row of the reference -/
def bRo (p : PJ) (b : Nat) (row : Nat → Int32) : Prop := (∀ k, k < 36 → p (b + 1) k = row k) ∧ (∀ k, k < 6 → p (b + 2) k = row (36 + k)) ∧ (∀ k, k < 6 → p (b + 4) k = row (42 + k)) ∧ p b 6 = row 48 ∧ p b 7 = row 49 ∧ p b 8 = row 50
/-- what a board has of the village as it was told -/
def bKo (p : PJ) (b N : Nat) : Prop := p b 4 = nI N ∧ p b 5 = p 356 1 ∧ ∀ k, k < N → p (b + 3) k = p 358 (3 * k + 1)
/-- a row that can be -/
def rOk (N : Nat) (lim : Int32) (row : Nat → Int32) : Prop := Vb lim (rwB row) ∧ (∀ a b, a < 6 → b < 6 → (N ≤ a ∨ N ≤ b) → row (6 * a + b) = 0) ∧ ∃ m, m < 2 ^ N ∧ row 48 = nI m
/-- the log of a row lies in a chronicle -/
def lgR (w f r row : Nat → Int32) (cr : Nat) : Prop := row 50 = nI cr ∧ cr ≤ 9999 ∧ row 51 = nI (min cr 60) ∧ ∀ i, i < min cr 60 → row (52 + 3 * (min cr 60 - 1 - i)) = w ((cr - i) % 128) ∧ row (53 + 3 * (min cr 60 - 1 - i)) = f ((cr - i) % 128) ∧ row (54 + 3 * (min cr 60 - 1 - i)) = r ((cr - i) % 128)
/-- the village as told: favours one behind the other -/
def lyD (fv : Nat → Int32) : Nat → (Nat → Int32)
  | 0 => fun _ => 0
  | k + 1 => upd (upd (lyD fv k) (6 * tn (fv (3 * k)) + tn (fv (3 * k + 1))) (lyD fv k (6 * tn (fv (3 * k)) + tn (fv (3 * k + 1))) + fv (3 * k + 2))) (6 * tn (fv (3 * k + 1)) + tn (fv (3 * k))) (upd (lyD fv k) (6 * tn (fv (3 * k)) + tn (fv (3 * k + 1))) (lyD fv k (6 * tn (fv (3 * k)) + tn (fv (3 * k + 1))) + fv (3 * k + 2)) (6 * tn (fv (3 * k + 1)) + tn (fv (3 * k))) - fv (3 * k + 2))
def lyK (td : Nat → Int32) : Nat → Int32
  | 0 => 0
  | h + 1 => lyK td h ||| shl (td (3 * h + 2)) (nI h)
def lyR (fv td : Nat → Int32) (r0 : Int32) (F N : Nat) : Nat → Int32 := fun i =>
  if i < 36 then lyD fv F i else if i < 42 then (if i - 36 < N then td (3 * (i - 36)) else 0) else if i = 48 then lyK td N else if i = 49 then r0 else 0
def Rvil (p : PJ) (N F : Nat) : Prop := (N = 0 ∨ 2 ≤ N) ∧ N ≤ 6 ∧ p 351 26 = nI N ∧ p 351 27 = nI F ∧ F ≤ 12 ∧ 0 ≤ (p 356 1).toInt ∧ (p 356 1).toInt ≤ 99 ∧
  (∀ k, k < F → ∃ a b n, a < N ∧ b < N ∧ a ≠ b ∧ 1 ≤ n ∧ n ≤ 9 ∧ p 360 (3 * k) = nI a ∧ p 360 (3 * k + 1) = nI b ∧ p 360 (3 * k + 2) = nI n) ∧
  (∀ h, h < N → ∃ w t q, w ≤ 9 ∧ t ≤ 9 ∧ q ≤ 1 ∧ p 358 (3 * h) = nI w ∧ p 358 (3 * h + 1) = nI t ∧ p 358 (3 * h + 2) = nI q)
def Rnow (p : PJ) (N : Nat) : Prop := bKo p 30 N ∧ bRo p 30 (p 364) ∧ rOk N (p 356 1) (p 364)
def Rtold (p : PJ) (N F : Nat) : Prop := bKo p 35 N ∧ bRo p 35 (lyR (p 360) (p 358) (p 356 0) F N) ∧ rOk N (p 356 1) (lyR (p 360) (p 358) (p 356 0) F N)
/-- the board that the i-th of A acts left, the next free one being q -/
def mb (q A i : Nat) : Nat := 60 + 5 * ((q + 40 + i - A) % 40)
def Rmem (p : PJ) (N A q : Nat) (cr : Nat → Nat) : Prop := A ≤ 40 ∧ q < 40 ∧ p 351 40 = nI A ∧ p 49 4 = nI A ∧ p 49 3 = nI q ∧ lgR (p 46) (p 47) (p 48) (p 364) (cr A) ∧
  ∀ i, i < A → cr i ≤ cr (i + 1) ∧ cr (i + 1) ≤ cr i + 1 ∧ bKo p (mb q A i) N ∧ bRo p (mb q A i) (fun k => p 369 (232 * i + k)) ∧ rOk N (p 356 1) (fun k => p 369 (232 * i + k)) ∧ lgR (p 46) (p 47) (p 48) (fun k => p 369 (232 * i + k)) (cr i)
def Rimg (p : PJ) (N : Nat) : Prop := (p 49 5 = 0 ∧ p 351 56 = 0) ∨ (p 49 5 = 1 ∧ p 351 56 = 1 ∧ bKo p 51 N ∧ bRo p 51 (p 377) ∧ rOk N (p 356 1) (p 377) ∧ ∃ cr, lgR (p 57) (p 58) (p 59) (p 377) cr)
/-- a byte as the class has it, and as the reference has it -/
def byR (u v : Int32) : Prop := (∃ b, 0 < b ∧ b < 256 ∧ u = nI b) ∧ v &&& 255 = u ∧ -128 ≤ v.toInt ∧ v.toInt ≤ 127
def Rtape (p : PJ) (tl : Nat) : Prop := tl ≤ 240 ∧ p 0 16 = nI tl ∧ p 351 6 = nI tl ∧ ∀ k, k < tl → byR (p 1 k) (p 352 k)
def Rsongs (p : PJ) (ns : Nat) (sl : Nat → Nat) (dg : Nat → Nat → Nat) : Prop := ns ≤ 4 ∧ p 23 3 = nI ns ∧ p 23 2 = nI 16 ∧ p 351 30 = nI ns ∧ ∀ i, i < ns → 1 ≤ sl i ∧ sl i ≤ 16 ∧ p 24 i = nI (sl i) ∧ p 363 i = nI (sl i) ∧ ∀ k, k < sl i → dg i k < 10 ∧ p (26 + i) k = nI (dg i k) ∧ p 362 (16 * i + k) = nI (dg i k)
def Rseen (p : PJ) (N m : Nat) : Prop := m ≤ 10 ∧ p 260 6 = nI m ∧ p 351 51 = nI m ∧ ∀ i, i < m → ∃ a b t, ∃ is : Bool, a < N ∧ b < N ∧ a ≠ b ∧ 1 ≤ t ∧ t ≤ 9 ∧ -99 ≤ (p 264 i).toInt ∧ (p 264 i).toInt ≤ 99 ∧ p 261 i = nI a ∧ p 262 i = nI b ∧ p 263 i = nI t ∧ p 265 i = bI is ∧ p 373 (5 * i) = nI a ∧ p 373 (5 * i + 1) = nI b ∧ p 373 (5 * i + 2) = nI t ∧ p 373 (5 * i + 3) = p 264 i ∧ p 373 (5 * i + 4) = bI is
def smal (v : Int32) : Prop := -1000000 ≤ v.toInt ∧ v.toInt ≤ 1000000
def Rmisc (p : PJ) (n : Nat) : Prop := p 0 18 = p 351 36 ∧ (∃ g, g ≤ 9 ∧ p 351 36 = nI g) ∧ (∀ k, k < 6 → p 349 k = p 366 k) ∧ (∃ r, r ≤ n ∧ p 271 4 = nI r ∧ ∀ k, k < 2048 → ∃ q, q ≤ r ∧ p 275 k = nI q) ∧ (∀ k, k < 6 → smal (p 12 k)) ∧ (smal (p 355 105) ∧ smal (p 355 111) ∧ smal (p 355 116) ∧ smal (p 355 110) ∧ smal (p 355 119) ∧ smal (p 355 100))
