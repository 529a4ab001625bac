/-! class and reference kept apart: S for the class, V for the reference -/
section MG
variable {S V S' V' : XS} {c : Nat × Nat} {n N : Nat}
def mg (S V : XS) : XS := (fun a => if a < 351 then S.1 a else V.1 a, V.2)
theorem mg_lo {a : Nat} (h : a < 351) : (mg S V).1 a = S.1 a := if_pos h
theorem mg_hi {a : Nat} (h : 351 ≤ a) : (mg S V).1 a = V.1 a := if_neg (by omega)
theorem mg_self : mg S S = S := by
  unfold mg
  refine Prod.ext (funext fun a => ?_) rfl
  show (if a < 351 then S.1 a else S.1 a) = S.1 a
  split <;> rfl
theorem pj_lo {a : Nat} (h : a < 351) : pj (mg S V) a = pj S a := pj_eq (mg_lo h)
theorem pj_hi {a : Nat} (h : 351 ≤ a) : pj (mg S V) a = pj V a := pj_eq (mg_hi h)
theorem pj_mg (h1 : ∀ a, a < 351 → pj S' a = pj S a) (h2 : ∀ a, 351 ≤ a → pj V' a = pj V a) : pj (mg S' V') = pj (mg S V) := by
  funext a
  by_cases h : a < 351
  · rw [pj_lo h, pj_lo h, h1 a h]
  · rw [pj_hi (by omega), pj_hi (by omega), h2 a (by omega)]
theorem RR_ltr {p p' : PJ} (R : RR n p) (C : ∀ a, a ≠ 12 → a ≠ 355 → p' a = p a) (h1 : ∀ k, k < 6 → smal (p' 12 k)) (h2 : ∀ k, k < 6 → smal (p' 355 (ltc k))) : RR n p' := by
  obtain ⟨R1, ⟨tl, t1⟩, ⟨ns, sl, dg, s1⟩, ⟨nl, ll, l1⟩, m1, m2, m3, m4, m5, m6⟩ := R
  have D : ∀ a j, a ≠ 12 → a ≠ 355 → p' a j = p a j := fun a j h1 h2 => congrFun (C a h1 h2) j
  refine ⟨RV.cg R1 (fun a h => C a (by omega) (by omega)) (fun j _ => D _ _ (by decide) (by decide)), ⟨tl, t1.cg (D _ _ (by decide) (by decide)) (D _ _ (by decide) (by decide)) (C _ (by decide) (by decide)) (C _ (by decide) (by decide))⟩, ⟨ns, sl, dg, s1.cg (C _ (by decide) (by decide)) (D _ _ (by decide) (by decide)) (C _ (by decide) (by decide)) (fun j _ => D _ _ (by decide) (by decide)) (fun a _ _ => C _ (by omega) (by omega)) (fun j _ => D _ _ (by decide) (by decide))⟩, ⟨nl, ll, l1.cg (C _ (by decide) (by decide)) (C _ (by decide) (by decide)) (D _ _ (by decide) (by decide)) (D _ _ (by decide) (by decide)) (D _ _ (by decide) (by decide)) (C _ (by decide) (by decide)) (C _ (by decide) (by decide)) (fun a _ _ => C _ (by omega) (by omega))⟩, ?_⟩
  unfold Rmisc
  rw [C 0 (by decide) (by decide), C 351 (by decide) (by decide), C 271 (by decide) (by decide), C 275 (by decide) (by decide), C 349 (by decide) (by decide), C 366 (by decide) (by decide)]
  exact ⟨m1, m2, m3, m4, h1, h2 0 (by decide), h2 1 (by decide), h2 2 (by decide), h2 3 (by decide), h2 4 (by decide), h2 5 (by decide)⟩
theorem RR.ltS (R : RR n (pj S)) : (∀ k, k < 6 → smal (S.1 12 k)) ∧ ∀ k, k < 6 → smal (S.1 355 (ltc k)) := by
  obtain ⟨-, -, -, -, -, -, -, -, m5, a, b, d, e, f, g⟩ := R
  refine ⟨m5, fun k hk => ?_⟩
  rcases (by omega : k = 0 ∨ k = 1 ∨ k = 2 ∨ k = 3 ∨ k = 4 ∨ k = 5) with rfl | rfl | rfl | rfl | rfl | rfl
  · exact a
  · exact b
  · exact d
  · exact e
  · exact f
  · exact g
/-! bounds of the letters -/
theorem smal_irem (v : Int32) : smal (irem v 100) := by
  have h1 : (v / 100).toInt = v.toInt.tdiv 100 := by
    rw [Int32.toInt_div_of_ne_right v 100 (by decide)]
    rfl
  have hd := Int.tmod_add_mul_tdiv v.toInt 100
  have h2 := Int.tmod_lt_of_pos v.toInt (show (0 : Int) < 100 by decide)
  have h3 := Int.lt_tmod_of_pos v.toInt (show (0 : Int) < 100 by decide)
  have b1 := Int32.toInt_lt v
  have b2 := Int32.le_toInt v
  have sg : (0 ≤ v.toInt ∧ 0 ≤ v.toInt.tmod 100) ∨ (v.toInt < 0 ∧ v.toInt.tmod 100 ≤ 0) := by
    rcases Int.lt_or_le v.toInt 0 with h | h
    · have q := Int.tmod_nonneg (a := -v.toInt) 100 (by omega)
      rw [Int.neg_tmod] at q
      exact Or.inr ⟨h, by omega⟩
    · exact Or.inl ⟨h, Int.tmod_nonneg 100 h⟩
  have e2 : (v / 100 * 100).toInt = v.toInt.tdiv 100 * 100 := zi (by
    rw [Int32.ofInt_mul, ← h1, Int32.ofInt_toInt]
    rfl) (by omega) (by omega)
  have e3 : (irem v 100).toInt = v.toInt - v.toInt.tdiv 100 * 100 := zi (by
    unfold irem
    rw [Int32.ofInt_sub, ← e2, Int32.ofInt_toInt, Int32.ofInt_toInt]) (by omega) (by omega)
  unfold smal
  rw [e3]
  omega
theorem imax_100 {v : Int32} (h1 : -99 ≤ v.toInt) (h2 : v.toInt ≤ 99) : 0 ≤ (imax 0 v).toInt ∧ (imax 0 v).toInt ≤ 99 := by
  rw [imax_tn, nI_toInt (by unfold tn; omega)]
  unfold tn
  omega
theorem sIn_b {D : Nat → Int32} (A : An D) {y : Nat} (hy : y < 6) : ∀ k, k ≤ 6 → 0 ≤ (sIn D y k).toInt ∧ (sIn D y k).toInt ≤ 99 * k
  | 0, _ => ⟨show 0 ≤ (0 : Int32).toInt by decide, show (0 : Int32).toInt ≤ 99 * ((0 : Nat) : Int) by decide⟩
  | k + 1, hk => by
    have ih := sIn_b A hy k (by omega)
    have b := imax_100 (A.lo (a := k) (b := y) (by omega) hy) (A.hi (a := k) (b := y) (by omega) hy)
    have e : (sIn D y k + imax 0 (D (6 * k + y))).toInt = (sIn D y k).toInt + (imax 0 (D (6 * k + y))).toInt := zi (by rw [Int32.ofInt_add, Int32.ofInt_toInt, Int32.ofInt_toInt]) (by omega) (by omega)
    show 0 ≤ (sIn D y k + imax 0 (D (6 * k + y))).toInt ∧ (sIn D y k + imax 0 (D (6 * k + y))).toInt ≤ _
    rw [e]
    omega
theorem sOut_b {D : Nat → Int32} (A : An D) {y : Nat} (hy : y < 6) : ∀ k, k ≤ 6 → 0 ≤ (sOut D y k).toInt ∧ (sOut D y k).toInt ≤ 99 * k
  | 0, _ => ⟨show 0 ≤ (0 : Int32).toInt by decide, show (0 : Int32).toInt ≤ 99 * ((0 : Nat) : Int) by decide⟩
  | k + 1, hk => by
    have ih := sOut_b A hy k (by omega)
    have b := imax_100 (A.lo (a := y) (b := k) hy (by omega)) (A.hi (a := y) (b := k) hy (by omega))
    have e : (sOut D y k + imax 0 (D (6 * y + k))).toInt = (sOut D y k).toInt + (imax 0 (D (6 * y + k))).toInt := zi (by rw [Int32.ofInt_add, Int32.ofInt_toInt, Int32.ofInt_toInt]) (by omega) (by omega)
    show 0 ≤ (sOut D y k + imax 0 (D (6 * y + k))).toInt ∧ (sOut D y k + imax 0 (D (6 * y + k))).toInt ≤ _
    rw [e]
    omega
theorem sIn_cg {D D' : Nat → Int32} {y : Nat} (hy : y < 6) (h : ∀ k, k < 36 → D k = D' k) : ∀ k, k ≤ 6 → sIn D y k = sIn D' y k
  | 0, _ => rfl
  | k + 1, hk => by
    show sIn D y k + imax 0 (D (6 * k + y)) = sIn D' y k + imax 0 (D' (6 * k + y))
    rw [sIn_cg hy h k (by omega), h _ (by omega)]
theorem sOut_cg {D D' : Nat → Int32} {y : Nat} (hy : y < 6) (h : ∀ k, k < 36 → D k = D' k) : ∀ k, k ≤ 6 → sOut D y k = sOut D' y k
  | 0, _ => rfl
  | k + 1, hk => by
    show sOut D y k + imax 0 (D (6 * y + k)) = sOut D' y k + imax 0 (D' (6 * y + k))
    rw [sOut_cg hy h k (by omega), h _ (by omega)]
end MG
