/-! ASK: the reference, and both -/
section AS3
variable {S : XS} {c : Nat × Nat} {n N m ns mk : Nat} {lim kt : Int32} {sl : Nat → Nat} {dg : Nat → Nat → Nat}
def frT (U' U : XS) : Prop := ∀ a, a ≠ 365 → a ≠ 367 → a ≠ 374 → U'.1 a = U.1 a
theorem frT_pj {U U' : XS} (h : frT U' U) : pj U' = pj U := pj_ext fun a k q => by
  by_cases e1 : a = 365
  · subst e1; rw [sc365 k] at q; cases q
  · by_cases e2 : a = 367
    · subst e2; rw [sc367 k] at q; cases q
    · by_cases e3 : a = 374
      · subst e3; rw [sc374 k] at q; cases q
      · rw [h a e1 e2 e3]
theorem frS.t {U U' : XS} (h : frS U' U) : frT U' U := fun a h1 h2 _ => h a h1 h2
theorem frT.trans {U U1 U2 : XS} (h1 : frT U1 U) (h2 : frT U2 U1) : frT U2 U := fun a x y z => (h2 a x y z).trans (h1 a x y z)
theorem RU.ft {U U' : XS} (h : RU U S N) (f : frT U' U) : RU U' S N := by
  obtain ⟨h1, h2, h3, h4, h5⟩ := h
  have e := f 351 (by decide) (by decide) (by decide)
  exact ⟨by rw [e]; exact h1, by rw [e]; exact h2, by rw [e]; exact h3, by rw [e]; exact h4, fun a ha => by rw [f a (by omega) (by omega) (by omega)]; exact h5 a ha⟩
/-- what each song would have owed -/
def wv (S : XS) (N : Nat) (kt lim : Int32) (sl : Nat → Nat) (dg : Nat → Nat → Nat) (a b t : Nat) : Nat → Int32 := fun i => wo N kt lim (dg i) (sl i) (S.1 36, S.1 37) t a b
theorem r_cnt_i {U : XS} {k a7 : Nat} {x1 x2 l4 l5 l6 : Int32} {kk : xa_H → Nat → Int32 → Int32 → Int32 → Int32 → Int32 → Int32 → Option (Int32 × xa_H)} {k96 : xa_H → Nat → Int32 → Int32 → Int32 → Int32 → Int32 → Int32 → Int32 → Int32 → Option (Int32 × xa_H)} (hm : mk < 64) (h4 : ns ≤ 4) (h30 : U.1 351 30 = nI ns) (hk : k < ns) (ha : a7 ≤ 4) : ∀ (r i f : Nat), i + r = ns → r < f → f_X12_ask_b111 kk k96 f (hp U c) 351 x1 x2 (nI mk) l4 l5 l6 (nI a7) (nI k) (nI (if mk.testBit k then smC (fun i => U.1 374 i) mk k i else 0)) (nI i) = k96 (hp U c) 351 x1 x2 (nI mk) l4 l5 l6 (nI (if mk.testBit k then max a7 (smC (fun i => U.1 374 i) mk k ns) else a7)) (nI (k + 1))
  | 0, i, f, hr, hf => by
    obtain ⟨f, rfl⟩ : ∃ g, f = g + 1 := ⟨f - 1, by omega⟩
    obtain rfl : i = ns := by omega
    have hs := smC_le (fun i => U.1 374 i) mk k i
    rw [f_X12_ask_b111, g351_30, Option.bind_some, h30, if_pos (nI_le (by omega) (by omega)), nI_1]
    cases hb : mk.testBit k with
    | true => rw [if_pos rfl, if_pos rfl, imax_nI (by omega) (by omega)]
    | false => rw [if_neg (show ¬ false = true by decide), if_neg (show ¬ false = true by decide), imax_nI (by omega) (by omega), Nat.max_eq_left (by omega)]
  | r + 1, i, f, hr, hf => by
    obtain ⟨f, rfl⟩ : ∃ g, f = g + 1 := ⟨f - 1, by omega⟩
    have ih := r_cnt_i (kk := kk) (k96 := k96) (x1 := x1) (x2 := x2) (l4 := l4) (l5 := l5) (l6 := l6) hm h4 h30 hk ha r (i + 1) f (by omega) (by omega)
    have es : smC (fun i => U.1 374 i) mk k (i + 1) = if mk.testBit i && decide (U.1 374 i = U.1 374 k) then smC (fun i => U.1 374 i) mk k i + 1 else smC (fun i => U.1 374 i) mk k i := rfl
    rw [f_X12_ask_b111, g351_30, Option.bind_some, h30, if_neg (nI_ge (by omega) (by omega)), r_has, Option.bind_some, kep_bit hm (by omega)]
    unfold f_X12_ask_b161 f_X12_ask_b162
    cases hb : mk.testBit k with
    | false =>
      rw [hb, if_neg (show ¬ false = true by decide), if_neg (show ¬ false = true by decide)] at ih
      rw [if_pos (show bI false = 0 from rfl), if_neg (show ¬ false = true by decide), if_neg (show ¬ false = true by decide), Int32.add_zero, nI_1]
      exact ih
    | true =>
      rw [hb, if_pos rfl, if_pos rfl] at ih
      rw [if_neg (show ¬ bI true = 0 by decide), if_pos rfl, if_pos rfl, r_has, Option.bind_some, kep_bit hm (by omega)]
      cases hi : mk.testBit i with
      | false =>
        rw [hi, Bool.false_and, if_neg (show ¬ false = true by decide)] at es
        rw [es] at ih
        rw [if_pos (show bI false = 0 from rfl), Int32.add_zero, nI_1]
        exact ih
      | true =>
        rw [hi, Bool.true_and] at es
        rw [if_neg (show ¬ bI true = 0 by decide), g351_52, Option.bind_some, a374 (by omega), Option.bind_some, Option.bind_some, a374 (by omega), Option.bind_some]
        by_cases e : U.1 374 i = U.1 374 k
        · rw [decide_eq_true e, if_pos rfl] at es
          rw [es] at ih
          rw [if_pos e, nI_1, nI_1]
          exact ih
        · rw [decide_eq_false e, if_neg (show ¬ false = true by decide)] at es
          rw [es] at ih
          rw [if_neg e, Int32.add_zero, nI_1]
          exact ih
def rEnd (kk : xa_H → Nat → Int32 → Int32 → Int32 → Int32 → Int32 → Int32 → Option (Int32 × xa_H)) (h : xa_H) (x1 x2 l3 l4 l5 l6 l7 : Int32) : Option (Int32 × xa_H) := if l4 = (-1 : Int32) ∨ l7 < l5 then kk h 351 x1 x2 l3 l6 l7 (l6 + 1) else kk h 351 x1 x2 l3 l4 l5 (l6 + 1)
theorem r_cnt_k {U : XS} {x1 x2 l4 l5 l6 : Int32} {kk : xa_H → Nat → Int32 → Int32 → Int32 → Int32 → Int32 → Int32 → Option (Int32 × xa_H)} (hm : mk < 64) (h4 : ns ≤ 4) (h30 : U.1 351 30 = nI ns) : ∀ (r k f : Nat), k + r = ns → r < f → f_X12_ask_b96 kk f (hp U c) 351 x1 x2 (nI mk) l4 l5 l6 (nI (moC (fun i => U.1 374 i) mk ns k)) (nI k) = rEnd kk (hp U c) x1 x2 (nI mk) l4 l5 l6 (nI (moC (fun i => U.1 374 i) mk ns ns))
  | 0, k, f, hr, hf => by
    obtain ⟨f, rfl⟩ : ∃ g, f = g + 1 := ⟨f - 1, by omega⟩
    obtain rfl : k = ns := by omega
    rw [f_X12_ask_b96, g351_30, Option.bind_some, h30, if_pos (nI_le (by omega) (by omega))]
    unfold f_X12_ask_b202 f_X12_ask_b210 rEnd
    by_cases e1 : l4 = -1
    · rw [if_pos e1, if_pos (Or.inl e1)]
    · rw [if_neg e1]
      by_cases e2 : nI (moC (fun i => U.1 374 i) mk k k) < l5
      · rw [if_pos e2, if_pos (Or.inr e2)]
      · rw [if_neg e2, if_neg (fun z => z.elim e1 e2)]
  | r + 1, k, f, hr, hf => by
    obtain ⟨f, rfl⟩ : ∃ g, f = g + 1 := ⟨f - 1, by omega⟩
    have hl := moC_le (fun i => U.1 374 i) mk ns k
    have h := r_cnt_i (U := U) (c := c) (k := k) (a7 := moC (fun i => U.1 374 i) mk ns k) (x1 := x1) (x2 := x2) (l4 := l4) (l5 := l5) (l6 := l6) (kk := kk) (k96 := fun h l0 l1 l2 l3 l4 l5 l6 l7 l8 => f_X12_ask_b96 kk f h l0 l1 l2 l3 l4 l5 l6 l7 l8) hm h4 h30 (by omega) (by omega) ns 0 1048576 (by omega) (by omega)
    have z : (if mk.testBit k = true then smC (fun i => U.1 374 i) mk k 0 else 0) = 0 := by split <;> rfl
    rw [z] at h
    rw [f_X12_ask_b96, g351_30, Option.bind_some, h30, if_neg (nI_ge (by omega) (by omega))]
    refine Eq.trans h ?_
    exact r_cnt_k hm h4 h30 r (k + 1) f (by omega) (by omega)
theorem r_fill {F a b t : Nat} {l4 l5 : Int32} {kk : xa_H → Nat → Int32 → Int32 → Int32 → Int32 → Int32 → Int32 → Option (Int32 × xa_H)} (T : TD S N F lim kt) (G : SG S ns sl dg) (l0 : S.1 356 1 = lim) (ha : a < 6) (hb : b < 6) (ht : t ≤ 9) (h6 : N ≤ 6) (hl : lim.toInt ≤ 99) (hm : mk < 64) (hbit : ∀ i, ns ≤ i → mk.testBit i = false) : ∀ (r i f : Nat) (U : XS), i + r = ns → r < f → RU U S N → (∀ x, x < i → U.1 374 x = wv S N kt lim sl dg a b t x) → ∃ U', f_X12_ask_b58 kk f (hp U c) 351 (nI a) (nI b) (nI mk) l4 l5 (nI t) (nI i) = rEnd kk (hp U' c) (nI a) (nI b) (nI mk) l4 l5 (nI t) (nI (moC (wv S N kt lim sl dg a b t) mk ns ns)) ∧ frT U' U
  | 0, i, f, U, hr, hf, ru, hx => by
    obtain ⟨f, rfl⟩ : ∃ g, f = g + 1 := ⟨f - 1, by omega⟩
    obtain rfl : i = ns := by omega
    have g1 := G.1
    have h30 : U.1 351 30 = nI i := ru.2.2.2.1.trans G.2.2.1
    refine ⟨U, ?_, fun _ _ _ _ => rfl⟩
    have h := r_cnt_k (c := c) (x1 := nI a) (x2 := nI b) (l4 := l4) (l5 := l5) (l6 := nI t) (kk := kk) hm g1 h30 i 0 1048576 (by omega) (by omega)
    rw [moC_cg (o := fun i => U.1 374 i) (o' := wv S N kt lim sl dg a b t) (fun x hxb => hx x (by
      rcases Nat.lt_or_ge x i with q | q
      · exact q
      · rw [hbit x q] at hxb
        cases hxb)) i] at h
    rw [f_X12_ask_b58, g351_30, Option.bind_some, h30, if_pos (nI_le (by omega) (by omega))]
    exact h
  | r + 1, i, f, U, hr, hf, ru, hx => by
    obtain ⟨f, rfl⟩ : ∃ g, f = g + 1 := ⟨f - 1, by omega⟩
    have g1 := G.1
    have h30 : U.1 351 30 = nI ns := ru.2.2.2.1.trans G.2.2.1
    obtain ⟨l1, l2, l3, l4', l5'⟩ := G.2.2.2 i (by omega)
    obtain ⟨U1, w1, w2⟩ := r_would (c := c) (j := i) (dg := dg i) (L := sl i) (Q := (S.1 36, S.1 37)) (a := a) (b := b) (t := t) T (eqB.refl _) T.2.2.2.2.2.2.2.2 ru.1 ru.2.1 (fun a ha => ru.2.2.2.2 a (by omega)) l0 ha hb ht (by omega) l2 (fun k hk => (l5' k hk).1) h6 hl (by
      unfold sgV
      rw [ru.2.2.2.2 363 (by decide), ru.2.2.2.2 362 (by decide)]
      exact ⟨l4', fun k hk => (l5' k hk).2.2⟩)
    have f2 : frT (wA U1 374 (upd (U1.1 374) i (wo N kt lim (dg i) (sl i) (S.1 36, S.1 37) t a b))) U := fun x h1 h2 h3 => by rw [wA_ne h3, w2 x h1 h2]
    obtain ⟨U', z1, z2⟩ := r_fill (kk := kk) (l4 := l4) (l5 := l5) T G l0 ha hb ht h6 hl hm hbit r (i + 1) f (wA U1 374 (upd (U1.1 374) i (wo N kt lim (dg i) (sl i) (S.1 36, S.1 37) t a b))) (by omega) (by omega) (ru.ft f2) (fun x hxi => by
      rw [wA_same]
      by_cases e : x = i
      · rw [e, upd_same]; rfl
      · rw [upd_ne e, w2 374 (by decide) (by decide)]
        exact hx x (by omega))
    refine ⟨U', ?_, f2.trans z2⟩
    rw [f_X12_ask_b58, g351_30, Option.bind_some, h30, if_neg (nI_ge (by omega) (by omega)), g351_52, Option.bind_some, w1, Option.bind_some, q374 (by omega), Option.bind_some, nI_1]
    exact z1
def slR (A : Nat → Nat) : Nat → Nat → Int32 → Nat → Int32
  | 0, _, b, _ => b
  | r + 1, t, b, w => if b = -1 ∨ A t < w then slR A r (t + 1) (nI t) (A t) else slR A r (t + 1) b w
theorem slR_A {A : Nat → Nat} : ∀ (r t w : Nat) (b : Int32), t + r < 2 ^ 31 → b ≠ -1 → slR A r t b w = slA A r t b w
  | 0, _, _, _, _, _ => rfl
  | r + 1, t, w, b, ht, hb => by
    show (if b = -1 ∨ A t < w then slR A r (t + 1) (nI t) (A t) else slR A r (t + 1) b w) = if A t < w then slA A r (t + 1) (nI t) (A t) else slA A r (t + 1) b w
    by_cases e : A t < w
    · rw [if_pos (Or.inr e), if_pos e]
      exact slR_A r (t + 1) _ _ (by omega) (m1_ne (by omega))
    · rw [if_neg (fun z => z.elim hb e), if_neg e]
      exact slR_A r (t + 1) _ _ (by omega) hb
theorem r_sel {F a b : Nat} (T : TD S N F lim kt) (G : SG S ns sl dg) (l0 : S.1 356 1 = lim) (ha : a < 6) (hb : b < 6) (h6 : N ≤ 6) (hl : lim.toInt ≤ 99) (hm : mk < 64) (hbit : ∀ i, ns ≤ i → mk.testBit i = false) : ∀ (r t f w : Nat) (best : Int32) (U : XS), t + r = 10 → r < f → w ≤ 4 → RU U S N → ∃ U', f_X12_ask_b48 f (hp U c) 351 (nI a) (nI b) (nI mk) best (nI w) (nI t) = some (slR (fun t => moC (wv S N kt lim sl dg a b t) mk ns ns) r t best w, hp U' c) ∧ frT U' U
  | 0, t, f, w, best, U, hr, hf, hw, ru => by
    obtain ⟨f, rfl⟩ : ∃ g, f = g + 1 := ⟨f - 1, by omega⟩
    refine ⟨U, ?_, fun _ _ _ _ => rfl⟩
    rw [f_X12_ask_b48, if_pos (show (9 : Int32) < nI t from nI_lt (a := 9) (by omega) (by omega))]
    rfl
  | r + 1, t, f, w, best, U, hr, hf, hw, ru => by
    obtain ⟨f, rfl⟩ : ∃ g, f = g + 1 := ⟨f - 1, by omega⟩
    have g1 := G.1
    have hmo := moC_le (wv S N kt lim sl dg a b t) mk ns ns
    obtain ⟨U1, y1, y2⟩ := r_fill (c := c) (kk := fun h l0 l1 l2 l3 l4 l5 l6 => f_X12_ask_b48 f h l0 l1 l2 l3 l4 l5 l6) (a := a) (b := b) (t := t) (l4 := best) (l5 := nI w) T G l0 ha hb (by omega) h6 hl hm hbit ns 0 1048576 U (by omega) (by omega) ru (fun x hx => by omega)
    rw [f_X12_ask_b48, if_neg (show ¬ (9 : Int32) < nI t from (nI_nlt (by omega) (by decide) : ¬ nI 9 < nI t))]
    rw [show (0 : Int32) = nI 0 from rfl, y1]
    unfold rEnd
    show ∃ U', _ = some (if best = -1 ∨ moC (wv S N kt lim sl dg a b t) mk ns ns < w then slR (fun t => moC (wv S N kt lim sl dg a b t) mk ns ns) r (t + 1) (nI t) (moC (wv S N kt lim sl dg a b t) mk ns ns) else slR (fun t => moC (wv S N kt lim sl dg a b t) mk ns ns) r (t + 1) best w, hp U' c) ∧ frT U' U
    by_cases e : best = -1 ∨ moC (wv S N kt lim sl dg a b t) mk ns ns < w
    · obtain ⟨U', z1, z2⟩ := r_sel T G l0 ha hb h6 hl hm hbit r (t + 1) f (moC (wv S N kt lim sl dg a b t) mk ns ns) (nI t) U1 (by omega) (by omega) (by omega) (ru.ft y2)
      refine ⟨U', ?_, y2.trans z2⟩
      rw [if_pos (e.imp id (fun q => nI_lt q (by omega))), if_pos e, nI_1]
      exact z1
    · obtain ⟨U', z1, z2⟩ := r_sel T G l0 ha hb h6 hl hm hbit r (t + 1) f w best U1 (by omega) (by omega) hw (ru.ft y2)
      refine ⟨U', ?_, y2.trans z2⟩
      rw [if_neg (fun z => e (z.imp id (fun q => by rw [Int32.lt_iff_toInt_lt, nI_toInt (by omega), nI_toInt (by omega)] at q; omega))), if_neg e, nI_1]
      exact z1
/-- class: each song's row -/
theorem c_fore_all {F a b : Nat} (T : TD S N F lim kt) (G : SG S ns sl dg) (ha : a < 6) (hb : b < 6) (h6 : N ≤ 6) (hl : lim.toInt ≤ 99) : ∀ (r i f : Nat) (S1 : XS), i + r = ns → r < f → (∀ x, x < 40 ∨ 44 < x → x < 267 ∨ 270 < x → S1.1 x = S.1 x) → (∀ y, y < i → ∀ t, 1 ≤ t → t < 10 → S1.1 (267 + y) t = wv S N kt lim sl dg a b t y) → ∃ S2, f_X11_ask_b43 f (hp S1 c) 0 (nI a) (nI b) (nI mk) (nI i) = f_X11_ask_b78 1048576 (hp S2 c) 0 (nI mk) (-1) 5 1 ∧ (∀ x, x < 40 ∨ 44 < x → x < 267 ∨ 270 < x → S2.1 x = S.1 x) ∧ ∀ y, y < ns → ∀ t, 1 ≤ t → t < 10 → S2.1 (267 + y) t = wv S N kt lim sl dg a b t y
  | 0, i, f, S1, hr, hf, h1, h2 => by
    obtain ⟨f, rfl⟩ : ∃ g, f = g + 1 := ⟨f - 1, by omega⟩
    obtain rfl : i = ns := by omega
    have g1 := G.1
    refine ⟨S1, ?_, h1, h2⟩
    rw [f_X11_ask_b43, g0_5, Option.bind_some, g23_3, Option.bind_some, h1 23 (by omega) (by omega), G.2.1, if_pos (nI_le (by omega) (by omega))]
  | r + 1, i, f, S1, hr, hf, h1, h2 => by
    obtain ⟨f, rfl⟩ : ∃ g, f = g + 1 := ⟨f - 1, by omega⟩
    have g1 := G.1
    obtain ⟨l1, l2, l3, l4', l5'⟩ := G.2.2.2 i (by omega)
    have T1 : TD S1 N F lim kt := T.of (by rw [h1 351 (by omega) (by omega)]) (h1 360 (by omega) (by omega)) (h1 358 (by omega) (by omega)) (h1 356 (by omega) (by omega)) (h1 35 (by omega) (by omega)) (h1 36 (by omega) (by omega)) (h1 37 (by omega) (by omega))
    obtain ⟨S2, a1, a2, a3⟩ := c_fore (c := c) (j := i) (dg := dg i) (L := sl i) T1 ha hb (by omega) l2 h6 hl ⟨by rw [h1 24 (by omega) (by omega)]; exact l3, fun k hk => ⟨(l5' k hk).1, by rw [h1 (26 + i) (by omega) (by omega)]; exact (l5' k hk).2.1⟩⟩
    rw [h1 36 (by omega) (by omega), h1 37 (by omega) (by omega)] at a3
    obtain ⟨S3, z1, z2, z3⟩ := c_fore_all T G ha hb h6 hl r (i + 1) f S2 (by omega) (by omega) (fun x y1 y2 => by rw [a2 x y1 (by omega), h1 x y1 y2]) (fun y hy t t1 t2 => by
      by_cases e : y = i
      · rw [e]; exact a3 t t1 t2
      · rw [a2 (267 + y) (by omega) (by omega)]
        exact h2 y (by omega) t t1 t2)
    refine ⟨S3, ?_, z2, z3⟩
    rw [f_X11_ask_b43, g0_5, Option.bind_some, g23_3, Option.bind_some, h1 23 (by omega) (by omega), G.2.1, if_neg (nI_ge (by omega) (by omega)), a1, Option.bind_some, nI_1]
    exact z1
end AS3
