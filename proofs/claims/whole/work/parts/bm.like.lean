/-! LIKE: is it so but for the names -/
section LIK
variable {S : XS} {c : Nat × Nat} {n N : Nat} {D E : Nat → Int32}
def plG (D E : Nat → Int32) (o : Nat → Nat) (p h : Nat) : Nat → Nat → Bool
  | _, 0 => true
  | i, k + 1 => decide (D (6 * h + o i) = E (6 * p + i)) && plG D E o p h (i + 1) k
def anyF (P : Nat → Bool) : Nat → Nat → Bool
  | _, 0 => false
  | h, k + 1 => P h || anyF P (h + 1) k
def upO (o : Nat → Nat) (p h : Nat) : Nat → Nat := fun i => if i = p then h else o i
def lkS (N : Nat) (D E : Nat → Int32) : Nat → Nat → Nat → (Nat → Nat) → Bool
  | 0, _, _, _ => true
  | f + 1, p, m, o => anyF (fun h => !m.testBit h && (plG D E o p h 0 p && lkS N D E f (p + 1) (m ||| 2 ^ h) (upO o p h))) 0 N
theorem bit_tab {m h : Nat} (hm : m < 64) (hh : h < 6) : (shr (nI m) (nI h)) &&& (1 : Int32) = bI (m.testBit h) := by
  have : ∀ m, m < 64 → ∀ h, h < 6 → (shr (nI m) (nI h)) &&& (1 : Int32) = bI (m.testBit h) := by decide +kernel
  exact this m hm h hh
theorem or_tab {m h : Nat} (hm : m < 64) (hh : h < 6) : nI m ||| shl (1 : Int32) (nI h) = nI (m ||| 2 ^ h) ∧ m ||| 2 ^ h < 64 := by
  have : ∀ m, m < 64 → ∀ h, h < 6 → nI m ||| shl (1 : Int32) (nI h) = nI (m ||| 2 ^ h) ∧ m ||| 2 ^ h < 64 := by decide +kernel
  exact this m hm h hh
/-! the class -/
theorem c_fits {g : Nat → Int32} {o : Nat → Nat} {p h : Nat} (hp6 : p < 6) (hh : h < 6) (hg : ∀ i, i < p → g i = nI (o i) ∧ o i < 6) : ∀ (k i f : Nat), i + k = p → k < f → f_X11_placeFits_b2 f (hp (wA S 350 g) c) 0 (nI p) (nI h) (nI i) = some (bI (plG (S.1 41) (S.1 31) o p h i k))
  | 0, i, f, hk, hf => by
    obtain ⟨f, rfl⟩ : ∃ g, f = g + 1 := ⟨f - 1, by omega⟩
    rw [f_X11_placeFits_b2, if_pos (nI_le (by omega) (by omega))]
    rfl
  | k + 1, i, f, hk, hf => by
    obtain ⟨f, rfl⟩ : ∃ g, f = g + 1 := ⟨f - 1, by omega⟩
    obtain ⟨h1, h2⟩ := hg i (by omega)
    rw [f_X11_placeFits_b2, if_neg (nI_ge (by omega) (by omega)), g0_8, Option.bind_some, g0_15, Option.bind_some, a350 (by omega), Option.bind_some, wA_same, h1, B40.debt hh h2, Option.bind_some, g0_6, Option.bind_some, B30.debt hp6 (by omega), Option.bind_some, wA_ne (show 40 + 1 ≠ 350 by decide), wA_ne (show 30 + 1 ≠ 350 by decide)]
    show _ = some (bI (decide (S.1 41 (6 * h + o i) = S.1 31 (6 * p + i)) && plG (S.1 41) (S.1 31) o p h (i + 1) k))
    by_cases e : S.1 41 (6 * h + o i) = S.1 31 (6 * p + i)
    · rw [if_pos e, decide_eq_true e, Bool.true_and, nI_1]
      exact c_fits hp6 hh hg k (i + 1) f (by omega) (by omega)
    · rw [if_neg e, decide_eq_false e]
      rfl
def CP (S : XS) (c : Nat × Nat) (N q f : Nat) : Prop := ∀ (p m : Nat) (o : Nat → Nat) (g : Nat → Int32), p + f = N → m < 64 → (∀ i, i < p → g i = nI (o i) ∧ o i < 6) → ∃ g', f_X11_canPlace q (hp (wA S 350 g) c) 0 (nI p) (nI m) = some (bI (lkS N (S.1 41) (S.1 31) f p m o), hp (wA S 350 g') c) ∧ ∀ i, i < p → g' i = g i
theorem c_place_h {q f p m : Nat} {o : Nat → Nat} (hN : S.1 30 4 = nI N) (h6 : N ≤ 6) (ih : CP S c N q f) (hp' : p + 1 + f = N) (hm : m < 64) : ∀ (k h fl : Nat) (g : Nat → Int32), h + k = N → k < fl → (∀ i, i < p → g i = nI (o i) ∧ o i < 6) → ∃ g', f_X11_canPlace_b19 (f_X11_canPlace q) fl (hp (wA S 350 g) c) 0 (nI p) (nI m) (nI h) = some (bI (anyF (fun h => !m.testBit h && (plG (S.1 41) (S.1 31) o p h 0 p && lkS N (S.1 41) (S.1 31) f (p + 1) (m ||| 2 ^ h) (upO o p h))) h k), hp (wA S 350 g') c) ∧ ∀ i, i < p → g' i = g i
  | 0, h, fl, g, hk, hf, hg => by
    obtain ⟨fl, rfl⟩ : ∃ g, fl = g + 1 := ⟨fl - 1, by omega⟩
    refine ⟨g, ?_, fun _ _ => rfl⟩
    rw [f_X11_canPlace_b19, g0_6, Option.bind_some, B30.g4, Option.bind_some, wA_ne (show 30 ≠ 350 by decide), hN, if_pos (nI_le (by omega) (by omega))]
    rfl
  | k + 1, h, fl, g, hk, hf, hg => by
    obtain ⟨fl, rfl⟩ : ∃ g, fl = g + 1 := ⟨fl - 1, by omega⟩
    have hh : h < 6 := by omega
    have hfit : f_X11_placeFits (hp (wA S 350 g) c) 0 (nI p) (nI h) = some (bI (plG (S.1 41) (S.1 31) o p h 0 p)) := by
      unfold f_X11_placeFits
      rw [k0, Option.bind_some]
      exact c_fits (by omega) hh hg p 0 1048576 (by omega) (by omega)
    rw [f_X11_canPlace_b19, g0_6, Option.bind_some, B30.g4, Option.bind_some, wA_ne (show 30 ≠ 350 by decide), hN, if_neg (nI_ge (by omega) (by omega)), bit_tab hm hh]
    show ∃ g', _ = some (bI ((!m.testBit h && (plG (S.1 41) (S.1 31) o p h 0 p && lkS N (S.1 41) (S.1 31) f (p + 1) (m ||| 2 ^ h) (upO o p h))) || anyF (fun h => !m.testBit h && (plG (S.1 41) (S.1 31) o p h 0 p && lkS N (S.1 41) (S.1 31) f (p + 1) (m ||| 2 ^ h) (upO o p h))) (h + 1) k), hp (wA S 350 g') c) ∧ _
    have next : ∀ g2 : Nat → Int32, (∀ i, i < p → g2 i = g i) → ∃ g', f_X11_canPlace_b71 (f_X11_canPlace q) (fun h l0 l1 l2 l3 => f_X11_canPlace_b19 (f_X11_canPlace q) fl h l0 l1 l2 l3) (hp (wA S 350 g2) c) 0 (nI p) (nI m) (nI h) = some (bI (anyF (fun h => !m.testBit h && (plG (S.1 41) (S.1 31) o p h 0 p && lkS N (S.1 41) (S.1 31) f (p + 1) (m ||| 2 ^ h) (upO o p h))) (h + 1) k), hp (wA S 350 g') c) ∧ ∀ i, i < p → g' i = g i := fun g2 h2 => by
      obtain ⟨g', a1, a2⟩ := c_place_h hN h6 ih hp' hm k (h + 1) fl g2 (by omega) (by omega) (fun i hi => by rw [h2 i hi]; exact hg i hi)
      refine ⟨g', ?_, fun i hi => by rw [a2 i hi, h2 i hi]⟩
      unfold f_X11_canPlace_b71
      rw [nI_1]
      exact a1
    cases hb : m.testBit h with
    | true =>
      rw [if_neg (show ¬ bI true = 0 by decide)]
      exact next g (fun _ _ => rfl)
    | false =>
      rw [if_pos (show bI false = 0 from rfl), hfit, Option.bind_some]
      cases hq : plG (S.1 41) (S.1 31) o p h 0 p with
      | false =>
        rw [if_pos (show bI false = 0 from rfl)]
        exact next g (fun _ _ => rfl)
      | true =>
        rw [if_neg (show ¬ bI true = 0 by decide), g0_15, Option.bind_some, q350 (by omega), Option.bind_some, wA_wA, wA_same, (or_tab hm hh).1, nI_1]
        obtain ⟨g1, a1, a2⟩ := ih (p + 1) (m ||| 2 ^ h) (upO o p h) (upd g p (nI h)) (by omega) (or_tab hm hh).2 (fun i hi => by
          unfold upO upd
          by_cases e : i = p
          · rw [if_pos e, if_pos e]
            exact ⟨rfl, hh⟩
          · rw [if_neg e, if_neg e]
            exact hg i (by omega))
        rw [a1, Option.bind_some]
        cases hl : lkS N (S.1 41) (S.1 31) f (p + 1) (m ||| 2 ^ h) (upO o p h) with
        | true =>
          refine ⟨g1, ?_, fun i hi => ?_⟩
          · rw [if_neg (show ¬ bI true = 0 by decide)]
            rfl
          · rw [a2 i (by omega), upd_ne (by omega)]
        | false =>
          rw [if_pos (show bI false = 0 from rfl)]
          exact next g1 (fun i hi => by rw [a2 i (by omega), upd_ne (by omega)])
theorem c_place (hN : S.1 30 4 = nI N) (h6 : N ≤ 6) : ∀ (f q : Nat), f < q → CP S c N q f
  | 0, q, hq => fun p m o g hp' hm hg => by
    obtain ⟨q, rfl⟩ : ∃ g, q = g + 1 := ⟨q - 1, by omega⟩
    refine ⟨g, ?_, fun _ _ => rfl⟩
    rw [f_X11_canPlace]
    unfold g_X11_canPlace
    rw [k0, Option.bind_some, if_neg (nI_nneg (by omega)), g0_6, Option.bind_some, B30.g4, Option.bind_some, wA_ne (show 30 ≠ 350 by decide), hN, if_neg (nI_nlt (by omega) (by omega))]
    rfl
  | f + 1, q, hq => fun p m o g hp' hm hg => by
    obtain ⟨q, rfl⟩ : ∃ g, q = g + 1 := ⟨q - 1, by omega⟩
    rw [f_X11_canPlace]
    unfold g_X11_canPlace
    rw [k0, Option.bind_some, if_neg (nI_nneg (by omega)), g0_6, Option.bind_some, B30.g4, Option.bind_some, wA_ne (show 30 ≠ 350 by decide), hN, if_pos (nI_lt (by omega) (by omega))]
    exact c_place_h hN h6 (c_place hN h6 f q (by omega)) (by omega) hm N 0 1048576 g (by omega) (by omega) hg
/-! the reference -/
theorem r_fits {q : xa_H → Nat → Int32 → Int32 → Option (Int32 × xa_H)} {kk : xa_H → Nat → Int32 → Int32 → Int32 → Option (Int32 × xa_H)} {g : Nat → Int32} {o : Nat → Nat} {p h m : Nat} (hp6 : p < 6) (hh : h < 6) (hg : ∀ i, i < p → g i = nI (o i) ∧ o i < 6) (hD : ∀ k, k < 36 → S.1 365 k = D k) (hE : ∀ k, k < 36 → S.1 364 k = E k) : ∀ (k i f : Nat) (b : Bool), i + k = p → k < f → f_X12_isLike_b44 q kk f (hp (wA S 370 g) c) 351 (nI p) (nI m) (nI h) (bI b) (nI i) = if (b && plG D E o p h i k) = true then ((q (hp (wA S 370 g) c) 351 (nI p + 1) (nI m ||| shl (1 : Int32) (nI h))).bind fun q3 => if q3.1 = 0 then f_X12_isLike_b122 q kk q3.2 351 (nI p) (nI m) (nI h) else some ((1 : Int32), q3.2)) else f_X12_isLike_b122 q kk (hp (wA S 370 g) c) 351 (nI p) (nI m) (nI h)
  | 0, i, f, b, hk, hf => by
    obtain ⟨f, rfl⟩ : ∃ g, f = g + 1 := ⟨f - 1, by omega⟩
    rw [f_X12_isLike_b44, if_pos (nI_le (by omega) (by omega))]
    cases b with
    | true => rw [if_neg (show ¬ bI true = 0 by decide), if_pos (show (true && plG D E o p h i 0) = true from rfl)]
    | false => rw [if_pos (show bI false = 0 from rfl), if_neg (show ¬ (false && plG D E o p h i 0) = true from Bool.false_ne_true)]
  | k + 1, i, f, b, hk, hf => by
    obtain ⟨f, rfl⟩ : ∃ g, f = g + 1 := ⟨f - 1, by omega⟩
    obtain ⟨h1, h2⟩ := hg i (by omega)
    have ih := fun b => r_fits (q := q) (kk := kk) (m := m) hp6 hh hg hD hE k (i + 1) f b (by omega) (by omega)
    rw [f_X12_isLike_b44, if_neg (nI_ge (by omega) (by omega))]
    show _ = if (b && (decide (D (6 * h + o i) = E (6 * p + i)) && plG D E o p h (i + 1) k)) = true then _ else _
    cases b with
    | false =>
      rw [if_pos (show bI false = 0 from rfl)]
      unfold f_X12_isLike_b91 f_X12_isLike_b92
      rw [nI_1]
      exact ih false
    | true =>
      rw [if_neg (show ¬ bI true = 0 by decide), g351_33, Option.bind_some, g351_42, Option.bind_some, a370 (by omega), Option.bind_some, wA_same, h1, ix6, a365 (by omega), Option.bind_some, g351_32, Option.bind_some, ix6, a364 (by omega), Option.bind_some, wA_ne (show 365 ≠ 370 by decide), wA_ne (show 364 ≠ 370 by decide), hD _ (by omega), hE _ (by omega)]
      by_cases e : D (6 * h + o i) = E (6 * p + i)
      · rw [if_pos e, decide_eq_true e]
        unfold f_X12_isLike_b92
        rw [nI_1]
        exact ih true
      · rw [if_neg e, decide_eq_false e]
        unfold f_X12_isLike_b91 f_X12_isLike_b92
        rw [nI_1]
        exact ih false
def RP (S : XS) (c : Nat × Nat) (N : Nat) (D E : Nat → Int32) (q f : Nat) : Prop := ∀ (p m : Nat) (o : Nat → Nat) (g : Nat → Int32), p + f = N → m < 64 → (∀ i, i < p → g i = nI (o i) ∧ o i < 6) → ∃ g', f_X12_isLike q (hp (wA S 370 g) c) 351 (nI p) (nI m) = some (bI (lkS N D E f p m o), hp (wA S 370 g') c) ∧ ∀ i, i < p → g' i = g i
theorem r_place_h {q f p m : Nat} {o : Nat → Nat} (hN : S.1 351 26 = nI N) (h6 : N ≤ 6) (hD : ∀ k, k < 36 → S.1 365 k = D k) (hE : ∀ k, k < 36 → S.1 364 k = E k) (ih : RP S c N D E q f) (hp' : p + 1 + f = N) (hm : m < 64) : ∀ (k h fl : Nat) (g : Nat → Int32), h + k = N → k < fl → (∀ i, i < p → g i = nI (o i) ∧ o i < 6) → ∃ g', f_X12_isLike_b12 (f_X12_isLike q) fl (hp (wA S 370 g) c) 351 (nI p) (nI m) (nI h) = some (bI (anyF (fun h => !m.testBit h && (plG D E o p h 0 p && lkS N D E f (p + 1) (m ||| 2 ^ h) (upO o p h))) h k), hp (wA S 370 g') c) ∧ ∀ i, i < p → g' i = g i
  | 0, h, fl, g, hk, hf, hg => by
    obtain ⟨fl, rfl⟩ : ∃ g, fl = g + 1 := ⟨fl - 1, by omega⟩
    refine ⟨g, ?_, fun _ _ => rfl⟩
    rw [f_X12_isLike_b12, g351_26, Option.bind_some, wA_ne (show 351 ≠ 370 by decide), hN, if_pos (nI_le (by omega) (by omega))]
    rfl
  | k + 1, h, fl, g, hk, hf, hg => by
    obtain ⟨fl, rfl⟩ : ∃ g, fl = g + 1 := ⟨fl - 1, by omega⟩
    have hh : h < 6 := by omega
    rw [f_X12_isLike_b12, g351_26, Option.bind_some, wA_ne (show 351 ≠ 370 by decide), hN, if_neg (nI_ge (by omega) (by omega)), r_has, Option.bind_some, kep_bit hm hh]
    show ∃ g', _ = some (bI ((!m.testBit h && (plG D E o p h 0 p && lkS N D E f (p + 1) (m ||| 2 ^ h) (upO o p h))) || anyF (fun h => !m.testBit h && (plG D E o p h 0 p && lkS N D E f (p + 1) (m ||| 2 ^ h) (upO o p h))) (h + 1) k), hp (wA S 370 g') c) ∧ _
    have next : ∀ g2 : Nat → Int32, (∀ i, i < p → g2 i = g i) → ∃ g', f_X12_isLike_b122 (f_X12_isLike q) (fun h l0 l1 l2 l3 => f_X12_isLike_b12 (f_X12_isLike q) fl h l0 l1 l2 l3) (hp (wA S 370 g2) c) 351 (nI p) (nI m) (nI h) = some (bI (anyF (fun h => !m.testBit h && (plG D E o p h 0 p && lkS N D E f (p + 1) (m ||| 2 ^ h) (upO o p h))) (h + 1) k), hp (wA S 370 g') c) ∧ ∀ i, i < p → g' i = g i := fun g2 h2 => by
      obtain ⟨g', a1, a2⟩ := r_place_h hN h6 hD hE ih hp' hm k (h + 1) fl g2 (by omega) (by omega) (fun i hi => by rw [h2 i hi]; exact hg i hi)
      refine ⟨g', ?_, fun i hi => by rw [a2 i hi, h2 i hi]⟩
      unfold f_X12_isLike_b122
      rw [nI_1]
      exact a1
    cases hb : m.testBit h with
    | true =>
      rw [if_neg (show ¬ bI true = 0 by decide)]
      exact next g (fun _ _ => rfl)
    | false =>
      have hg1 : ∀ i, i < p → upd g p (nI h) i = nI (o i) ∧ o i < 6 := fun i hi => by rw [upd_ne (by omega)]; exact hg i hi
      have hf := r_fits (c := c) (q := f_X12_isLike q) (kk := fun h l0 l1 l2 l3 => f_X12_isLike_b12 (f_X12_isLike q) fl h l0 l1 l2 l3) (m := m) (h := h) (by omega) hh hg1 hD hE p 0 1048576 true (by omega) (by omega)
      rw [if_pos (show bI false = 0 from rfl), g351_42, Option.bind_some, q370 (by omega), Option.bind_some, wA_wA, wA_same, show (1 : Int32) = bI true from rfl, show (0 : Int32) = nI 0 from rfl, hf]
      cases hq : plG D E o p h 0 p with
      | false =>
        rw [if_neg (show ¬ (true && false) = true by decide)]
        exact next (upd g p (nI h)) (fun i hi => upd_ne (by omega))
      | true =>
        obtain ⟨g1, a1, a2⟩ := ih (p + 1) (m ||| 2 ^ h) (upO o p h) (upd g p (nI h)) (by omega) (or_tab hm hh).2 (fun i hi => by
          unfold upO upd
          by_cases e : i = p
          · rw [if_pos e, if_pos e]
            exact ⟨rfl, hh⟩
          · rw [if_neg e, if_neg e]
            exact hg i (by omega))
        rw [if_pos (show (true && true) = true from rfl), (or_tab hm hh).1, nI_1, a1, Option.bind_some]
        cases hl : lkS N D E f (p + 1) (m ||| 2 ^ h) (upO o p h) with
        | true =>
          refine ⟨g1, ?_, fun i hi => ?_⟩
          · rw [if_neg (show ¬ bI true = 0 by decide)]
            rfl
          · rw [a2 i (by omega), upd_ne (by omega)]
        | false =>
          rw [if_pos (show bI false = 0 from rfl)]
          exact next g1 (fun i hi => by rw [a2 i (by omega), upd_ne (by omega)])
theorem r_place (hN : S.1 351 26 = nI N) (h6 : N ≤ 6) (hD : ∀ k, k < 36 → S.1 365 k = D k) (hE : ∀ k, k < 36 → S.1 364 k = E k) : ∀ (f q : Nat), f < q → RP S c N D E q f
  | 0, q, hq => fun p m o g hp' hm hg => by
    obtain ⟨q, rfl⟩ : ∃ g, q = g + 1 := ⟨q - 1, by omega⟩
    refine ⟨g, ?_, fun _ _ => rfl⟩
    rw [f_X12_isLike]
    unfold g_X12_isLike
    rw [k351, Option.bind_some, g351_26, Option.bind_some, wA_ne (show 351 ≠ 370 by decide), hN, if_pos (by rw [show p = N by omega])]
    rfl
  | f + 1, q, hq => fun p m o g hp' hm hg => by
    obtain ⟨q, rfl⟩ : ∃ g, q = g + 1 := ⟨q - 1, by omega⟩
    rw [f_X12_isLike]
    unfold g_X12_isLike
    rw [k351, Option.bind_some, g351_26, Option.bind_some, wA_ne (show 351 ≠ 370 by decide), hN, if_neg (fun z => by have := (nI_eq (by omega) (by omega)).mp z; omega)]
    exact r_place_h hN h6 hD hE (r_place hN h6 hD hE f q (by omega)) (by omega) hm N 0 1048576 g (by omega) (by omega) hg
theorem pr_like (R : RR n (pj S)) (i : Int32) : PQ n c (fun h => f_X11_like h 0 i) (fun h => f_X12_like h 351 i) S := by
  obtain ⟨N, W⟩ := R.now
  have h6 := W.2.1
  have hN := W.2.2.2.2.2.2.1
  have h26 := W.2.2.1
  obtain ⟨ns, sl, dg, G⟩ := R.songs
  have g1 := G.1
  have g2 := G.2.1
  have g3 := G.2.2.1
  by_cases hall : inN ns i = true ∧ N ≠ 0
  · obtain ⟨q1, q2⟩ := hall
    obtain ⟨j, hj, rfl⟩ := inN_x q1 (by omega)
    have nz : ¬ nI N = 0 := nI_ne0 (by omega) (by omega)
    obtain ⟨v, Q, S1, e1, e2, e3, e4, e5, e6⟩ := ap_pair (c := c) G hj (t := 1) (by decide) W
    cases v with
    | false =>
      obtain ⟨U', z1, z2, z3⟩ := e6 (T0 S1) (by rw [T0_351 (by decide), e2.1 351 (by omega)]) (fun a ha => by rw [T0_ne (by omega), e2.1 a (by omega)])
      refine PQ.same (S1 := S1) (S2 := U') (v := -1) R ?_ ?_ (pj_fr e2 sc40) (by rw [frS_pj z2, T0_pj])
      · show f_X11_like (hp S c) 0 (nI j) = _
        unfold f_X11_like
        rw [k0, Option.bind_some, g0_6, Option.bind_some, B30.g4, Option.bind_some, hN, if_neg nz, show f_X11_sungApart (hp S c) 0 (nI j) 1 = some (bI false, hp S1 c) from e1, Option.bind_some, if_pos (show bI false = 0 from rfl)]
      · show f_X12_like (hp S1 c) 351 (nI j) = _
        unfold f_X12_like
        rw [k351, Option.bind_some, T0_p, Option.bind_some, song_r (by rw [T0_351 (by decide), e2.1 351 (by omega)]; exact g3) g1, Option.bind_some, q1, if_neg (show ¬ bI true = 0 by decide), g351_26, Option.bind_some, T0_351 (by decide), e2.1 351 (by omega), h26, if_neg nz, show f_X12_singsOften (hp (T0 S1) c) 351 (nI j) 1 = some (bI false, hp U' c) from z1, Option.bind_some, if_pos (show bI false = 0 from rfl)]
    | true =>
      obtain ⟨g', a1, -⟩ := c_place (S := S1) (c := c) (N := N) (by rw [e2.1 30 (by omega)]; exact hN) h6 N 10 (by omega) 0 0 (fun _ => 0) (S1.1 350) (by omega) (by decide) (fun i hi => by omega)
      rw [wA_self] at a1
      have fr2 : ∀ a, a < 40 ∨ 44 < a → a ≠ 350 → (wA S1 350 g').1 a = S.1 a := fun a h1 h2 => by rw [wA_ne h2, e2.1 a h1]
      obtain ⟨U', z1, z2, z3⟩ := e6 (T0 (wA S1 350 g')) (by rw [T0_351 (by decide), fr2 351 (by omega) (by decide)]) (fun a ha => by rw [T0_ne (by omega), fr2 a (by omega) (by omega)])
      have u26 : U'.1 351 26 = nI N := by rw [z2 351 (by decide) (by decide), T0_351 (by decide), fr2 351 (by omega) (by decide)]; exact h26
      obtain ⟨g2', b1, -⟩ := r_place (S := U') (c := c) (N := N) (D := Q.1) (E := S.1 31) u26 h6 z3.1 (fun k hk => by
        rw [z2 364 (by decide) (by decide), T0_ne (by decide), fr2 364 (by omega) (by decide)]
        exact (W.D k hk).symm) N 10 (by omega) 0 0 (fun _ => 0) (U'.1 370) (by omega) (by decide) (fun i hi => by omega)
      rw [wA_self] at b1
      rw [e4, e2.1 31 (by omega)] at a1
      refine PQ.same (S1 := wA S1 350 g') (S2 := wA U' 370 g2') (v := bI (lkS N Q.1 (S.1 31) N 0 0 (fun _ => 0))) R ?_ ?_ (by rw [pj_scr sc350, pj_fr e2 sc40]) (by rw [pj_scr sc370, frS_pj z2, T0_pj])
      · show f_X11_like (hp S c) 0 (nI j) = _
        unfold f_X11_like
        rw [k0, Option.bind_some, g0_6, Option.bind_some, B30.g4, Option.bind_some, hN, if_neg nz, show f_X11_sungApart (hp S c) 0 (nI j) 1 = some (bI true, hp S1 c) from e1, Option.bind_some, if_neg (show ¬ bI true = 0 by decide), show f_X11_canPlace 10 (hp S1 c) 0 0 0 = _ from a1, Option.bind_some]
        cases lkS N Q.1 (S.1 31) N 0 0 (fun _ => 0) <;> rfl
      · show f_X12_like (hp (wA S1 350 g') c) 351 (nI j) = _
        unfold f_X12_like
        rw [k351, Option.bind_some, T0_p, Option.bind_some, song_r (by rw [T0_351 (by decide), fr2 351 (by omega) (by decide)]; exact g3) g1, Option.bind_some, q1, if_neg (show ¬ bI true = 0 by decide), g351_26, Option.bind_some, T0_351 (by decide), fr2 351 (by omega) (by decide), h26, if_neg nz, show f_X12_singsOften (hp (T0 (wA S1 350 g')) c) 351 (nI j) 1 = some (bI true, hp U' c) from z1, Option.bind_some, if_neg (show ¬ bI true = 0 by decide), show f_X12_isLike 10 (hp U' c) 351 0 0 = _ from b1, Option.bind_some]
        cases lkS N Q.1 (S.1 31) N 0 0 (fun _ => 0) <;> rfl
  · have hT : (T0 S).1 351 26 = nI N := by rw [T0_351 (by decide)]; exact h26
    refine PQ.same (S1 := S) (S2 := T0 S) (v := -1) R ?_ ?_ rfl T0_pj
    · show f_X11_like (hp S c) 0 i = _
      unfold f_X11_like
      rw [k0, Option.bind_some, g0_6, Option.bind_some, B30.g4, Option.bind_some, hN]
      by_cases hN0 : N = 0
      · rw [hN0, if_pos (show nI 0 = 0 from rfl)]
      · rw [if_neg (nI_ne0 (by omega) (by omega)), ap_no g1 g2 ?_, Option.bind_some, if_pos rfl]
        cases q1 : inN ns i with
        | false => exact Or.inl rfl
        | true => exact absurd ⟨q1, hN0⟩ hall
    · show f_X12_like (hp S c) 351 i = _
      unfold f_X12_like
      rw [k351, Option.bind_some, T0_p, Option.bind_some, song_r (by rw [T0_351 (by decide)]; exact g3) g1, Option.bind_some]
      cases q1 : inN ns i with
      | false => rw [if_pos (show bI false = 0 from rfl)]
      | true =>
        rw [if_neg (show ¬ bI true = 0 by decide), g351_26, Option.bind_some, hT]
        by_cases hN0 : N = 0
        · rw [hN0, if_pos (show nI 0 = 0 from rfl)]
        · exact absurd ⟨q1, hN0⟩ hall
end LIK
