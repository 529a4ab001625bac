/-! ASK -/
section AS2
variable {S : XS} {c : Nat × Nat} {n N m : Nat} {lim : Int32}
theorem imax_nI {a b : Nat} (ha : a < 2 ^ 31) (hb : b < 2 ^ 31) : imax (nI a) (nI b) = nI (max a b) := by
  unfold imax
  by_cases e : a ≤ b
  · rw [Nat.max_eq_right e]
    split
    · rfl
    · rename_i h
      rw [Int32.lt_iff_toInt_lt, nI_toInt ha, nI_toInt hb] at h
      rw [show a = b by omega]
  · rw [Nat.max_eq_left (by omega)]
    split
    · rename_i h
      rw [Int32.lt_iff_toInt_lt, nI_toInt ha, nI_toInt hb] at h
      omega
    · rfl
/-- how many of the first i that fit foretell what the k-th does -/
def smC (o : Nat → Int32) (mk k : Nat) : Nat → Nat
  | 0 => 0
  | i + 1 => if mk.testBit i && decide (o i = o k) then smC o mk k i + 1 else smC o mk k i
def moC (o : Nat → Int32) (mk w : Nat) : Nat → Nat
  | 0 => 0
  | k + 1 => if mk.testBit k then max (moC o mk w k) (smC o mk k w) else moC o mk w k
theorem smC_le (o : Nat → Int32) (mk k : Nat) : ∀ i, smC o mk k i ≤ i
  | 0 => Nat.le_refl _
  | i + 1 => by
    show (if mk.testBit i && decide (o i = o k) then smC o mk k i + 1 else smC o mk k i) ≤ _
    have := smC_le o mk k i
    split <;> omega
theorem moC_le (o : Nat → Int32) (mk w : Nat) : ∀ k, moC o mk w k ≤ w
  | 0 => Nat.zero_le _
  | k + 1 => by
    show (if mk.testBit k then max (moC o mk w k) (smC o mk k w) else moC o mk w k) ≤ _
    have h1 := moC_le o mk w k
    have h2 := smC_le o mk k w
    split
    · exact Nat.max_le.mpr ⟨h1, h2⟩
    · exact h1
theorem smC_up {o : Nat → Int32} {mk k ns : Nat} (h : ∀ i, ns ≤ i → mk.testBit i = false) : ∀ d, smC o mk k (ns + d) = smC o mk k ns
  | 0 => rfl
  | d + 1 => by
    show (if mk.testBit (ns + d) && decide (o (ns + d) = o k) then smC o mk k (ns + d) + 1 else smC o mk k (ns + d)) = _
    rw [h (ns + d) (by omega), Bool.false_and, if_neg (show ¬ false = true by decide)]
    exact smC_up h d
theorem moC_up {o : Nat → Int32} {mk ns w : Nat} (h : ∀ i, ns ≤ i → mk.testBit i = false) : ∀ d, moC o mk w (ns + d) = moC o mk w ns
  | 0 => rfl
  | d + 1 => by
    show (if mk.testBit (ns + d) then max (moC o mk w (ns + d)) (smC o mk (ns + d) w) else moC o mk w (ns + d)) = _
    rw [h (ns + d) (by omega), if_neg (show ¬ false = true by decide)]
    exact moC_up h d
theorem smC_cg {o o' : Nat → Int32} {mk k : Nat} (h : ∀ i, mk.testBit i = true → o i = o' i) (hk : mk.testBit k = true) : ∀ i, smC o mk k i = smC o' mk k i
  | 0 => rfl
  | i + 1 => by
    show (if mk.testBit i && decide (o i = o k) then smC o mk k i + 1 else smC o mk k i) = (if mk.testBit i && decide (o' i = o' k) then smC o' mk k i + 1 else smC o' mk k i)
    rw [smC_cg h hk i]
    cases hb : mk.testBit i with
    | true => rw [h i hb, h k hk]
    | false => rfl
theorem moC_cg {o o' : Nat → Int32} {mk w : Nat} (h : ∀ i, mk.testBit i = true → o i = o' i) : ∀ k, moC o mk w k = moC o' mk w k
  | 0 => rfl
  | k + 1 => by
    show (if mk.testBit k then max (moC o mk w k) (smC o mk k w) else moC o mk w k) = (if mk.testBit k then max (moC o' mk w k) (smC o' mk k w) else moC o' mk w k)
    rw [moC_cg h k]
    cases hb : mk.testBit k with
    | true => rw [smC_cg h hb]
    | false => rfl
/-! the class -/
theorem one_tab {mk h : Nat} (hm : mk < 64) (hh : h < 6) : ((shr (nI mk) (nI h)) &&& (1 : Int32) = (1 : Int32)) ↔ mk.testBit h = true := by
  rw [bit_tab hm hh]
  cases mk.testBit h
  · exact ⟨fun z => absurd z (by decide), (fun z => by cases z)⟩
  · exact ⟨fun _ => rfl, fun _ => rfl⟩
theorem c_alike_i {mk t k a : Nat} {kk : xa_H → Nat → Int32 → Int32 → Int32 → Int32 → Option Int32} (hm : mk < 64) (ht : t < 10) (hk : k < 4) (ha : a ≤ 4) : ∀ (r i f : Nat), i + r = 4 → r < f → f_X6_mostAlike_b17 kk f (hp S c) 260 (nI mk) (nI t) (nI a) (nI k) (nI (smC (fun i => S.1 (267 + i) t) mk k i)) (nI i) = kk (hp S c) 260 (nI mk) (nI t) (nI (if mk.testBit k then max a (smC (fun i => S.1 (267 + i) t) mk k 4) else a)) (nI (k + 1))
  | 0, i, f, hr, hf => by
    obtain ⟨f, rfl⟩ : ∃ g, f = g + 1 := ⟨f - 1, by omega⟩
    obtain rfl : i = 4 := by omega
    have hs := smC_le (fun i => S.1 (267 + i) t) mk k 4
    rw [f_X6_mostAlike_b17, if_pos (show (4 : Int32) ≤ nI 4 by decide)]
    unfold f_X6_mostAlike_b80
    rw [imax_nI (by omega) (by omega), nI_1]
    cases hb : mk.testBit k with
    | true => rw [if_pos ((one_tab hm (by omega)).mpr hb), if_pos rfl]
    | false => rw [if_neg (fun z => by rw [(one_tab hm (by omega)).mp z] at hb; cases hb), if_neg (show ¬ false = true by decide)]
  | r + 1, i, f, hr, hf => by
    obtain ⟨f, rfl⟩ : ∃ g, f = g + 1 := ⟨f - 1, by omega⟩
    have ih := c_alike_i (kk := kk) hm ht hk ha r (i + 1) f (by omega) (by omega)
    have hs := smC_le (fun i => S.1 (267 + i) t) mk k i
    have es : smC (fun i => S.1 (267 + i) t) mk k (i + 1) = if mk.testBit i && decide (S.1 (267 + i) t = S.1 (267 + k) t) then smC (fun i => S.1 (267 + i) t) mk k i + 1 else smC (fun i => S.1 (267 + i) t) mk k i := rfl
    rw [f_X6_mostAlike_b17, if_neg (show ¬ (4 : Int32) ≤ nI i from (nI_ge (by omega) (by decide) : ¬ nI 4 ≤ nI i))]
    unfold f_X6_mostAlike_b57
    cases hb : mk.testBit i with
    | false =>
      rw [hb, Bool.false_and, if_neg (show ¬ false = true by decide)] at es
      rw [es] at ih
      rw [if_neg (fun z => by rw [(one_tab hm (by omega)).mp z] at hb; cases hb), nI_1]
      exact ih
    | true =>
      rw [hb, Bool.true_and] at es
      rw [if_pos ((one_tab hm (by omega)).mpr hb), g260_5, Option.bind_some, a266 (by omega), Option.bind_some, Nat.one_mul, aI_hp (s267l (by omega)) ht (by decide), Option.bind_some, Option.bind_some, a266 hk, Option.bind_some, Nat.one_mul, aI_hp (s267l hk) ht (by decide), Option.bind_some]
      by_cases e : S.1 (267 + i) t = S.1 (267 + k) t
      · rw [decide_eq_true e, if_pos rfl] at es
        rw [es] at ih
        rw [if_pos e, nI_1, nI_1]
        exact ih
      · rw [decide_eq_false e, if_neg (show ¬ false = true by decide)] at es
        rw [es] at ih
        rw [if_neg e, nI_1]
        exact ih
theorem c_alike_k {mk t : Nat} (hm : mk < 64) (ht : t < 10) : ∀ (r k f : Nat), k + r = 4 → r < f → f_X6_mostAlike_b5 f (hp S c) 260 (nI mk) (nI t) (nI (moC (fun i => S.1 (267 + i) t) mk 4 k)) (nI k) = some (nI (moC (fun i => S.1 (267 + i) t) mk 4 4))
  | 0, k, f, hr, hf => by
    obtain ⟨f, rfl⟩ : ∃ g, f = g + 1 := ⟨f - 1, by omega⟩
    obtain rfl : k = 4 := by omega
    rw [f_X6_mostAlike_b5, if_pos (show (4 : Int32) ≤ nI 4 by decide)]
  | r + 1, k, f, hr, hf => by
    obtain ⟨f, rfl⟩ : ∃ g, f = g + 1 := ⟨f - 1, by omega⟩
    have hl := moC_le (fun i => S.1 (267 + i) t) mk 4 k
    have h := c_alike_i (S := S) (c := c) (mk := mk) (t := t) (k := k) (a := moC (fun i => S.1 (267 + i) t) mk 4 k) (kk := fun h l0 l1 l2 l3 l4 => f_X6_mostAlike_b5 f h l0 l1 l2 l3 l4) hm ht (by omega) hl 4 0 1048576 (by decide) (by decide)
    rw [f_X6_mostAlike_b5, if_neg (show ¬ (4 : Int32) ≤ nI k from (nI_ge (by omega) (by decide) : ¬ nI 4 ≤ nI k))]
    refine Eq.trans h ?_
    exact c_alike_k hm ht r (k + 1) f (by omega) (by omega)
theorem c_alike {mk t : Nat} (hm : mk < 64) (ht : t < 10) : f_X6_mostAlike (hp S c) 260 (nI mk) (nI t) = some (nI (moC (fun i => S.1 (267 + i) t) mk 4 4)) := by
  unfold f_X6_mostAlike
  rw [k260, Option.bind_some]
  exact c_alike_k hm ht 4 0 1048576 (by decide) (by decide)
/-- the first time of fewest alike -/
def slA (A : Nat → Nat) : Nat → Nat → Int32 → Nat → Int32
  | 0, _, b, _ => b
  | r + 1, t, b, w => if A t < w then slA A r (t + 1) (nI t) (A t) else slA A r (t + 1) b w
theorem c_sel {mk : Nat} (hm : mk < 64) : ∀ (r t f w : Nat) (b : Int32), t + r = 10 → 1 ≤ t → r < f → w ≤ 5 → f_X11_ask_b78 f (hp S c) 0 (nI mk) b (nI w) (nI t) = some (slA (fun t => moC (fun i => S.1 (267 + i) t) mk 4 4) r t b w, hp S c)
  | 0, t, f, w, b, hr, ht, hf, hw => by
    obtain ⟨f, rfl⟩ : ∃ g, f = g + 1 := ⟨f - 1, by omega⟩
    rw [f_X11_ask_b78, if_pos (show (9 : Int32) < nI t from nI_lt (a := 9) (by omega) (by omega))]
    rfl
  | r + 1, t, f, w, b, hr, ht, hf, hw => by
    obtain ⟨f, rfl⟩ : ∃ g, f = g + 1 := ⟨f - 1, by omega⟩
    have hl := moC_le (fun i => S.1 (267 + i) t) mk 4 4
    rw [f_X11_ask_b78, if_neg (show ¬ (9 : Int32) < nI t from (nI_nlt (by omega) (by decide) : ¬ nI 9 < nI t)), g0_11, Option.bind_some, c_alike hm (by omega), Option.bind_some]
    unfold f_X11_ask_b112
    show _ = some (if moC (fun i => S.1 (267 + i) t) mk 4 4 < w then slA (fun t => moC (fun i => S.1 (267 + i) t) mk 4 4) r (t + 1) (nI t) (moC (fun i => S.1 (267 + i) t) mk 4 4) else slA (fun t => moC (fun i => S.1 (267 + i) t) mk 4 4) r (t + 1) b w, hp S c)
    by_cases e : moC (fun i => S.1 (267 + i) t) mk 4 4 < w
    · rw [if_pos e, if_neg (nI_ge e (by omega)), nI_1]
      exact c_sel hm r (t + 1) f _ _ (by omega) (by omega) (by omega) (by omega)
    · rw [if_neg e, if_pos (nI_le (by omega) (by omega)), nI_1]
      exact c_sel hm r (t + 1) f _ _ (by omega) (by omega) (by omega) hw
end AS2
