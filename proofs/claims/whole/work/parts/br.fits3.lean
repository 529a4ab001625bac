/-! FITS: the reference, and both -/
section FI3
variable {S : XS} {c : Nat × Nat} {n N j L m : Nat} {lim : Int32} {dg : Nat → Nat}
/-- what of the reference is needed to sing apart -/
def RU (U S : XS) (N : Nat) : Prop := U.1 351 26 = nI N ∧ U.1 351 27 = S.1 351 27 ∧ U.1 351 51 = S.1 351 51 ∧ U.1 351 30 = S.1 351 30 ∧ ∀ a, a = 356 ∨ a = 358 ∨ a = 360 ∨ a = 373 ∨ a = 362 ∨ a = 363 → U.1 a = S.1 a
theorem RU.fr {U U' : XS} (h : RU U S N) (f : frS U' U) : RU U' S N := by
  obtain ⟨h1, h2, h3, h4, h5⟩ := h
  have e := f 351 (by decide) (by decide)
  exact ⟨by rw [e]; exact h1, by rw [e]; exact h2, by rw [e]; exact h3, by rw [e]; exact h4, fun a ha => by rw [f a (by omega) (by omega)]; exact h5 a ha⟩
theorem r_fit_loop {F : Nat} {kt : Int32} (T : TD S N F lim kt) (H : SN S N m) (l0 : S.1 356 1 = lim) (hj : j < 4) (hL : L ≤ 16) (hdg : ∀ k, k < L → dg k < 10) (h6 : N ≤ 6) (hl : lim.toInt ≤ 99) (sr : sgV S j L dg) : ∀ (k i f : Nat) (U : XS), i + k = m → k < f → RU U S N → ∃ (b : Bool) (U' : XS), f_X12_doesFit_b2 f (hp U c) 351 (nI j) (nI (5 * i)) = some (bI b, hp U' c) ∧ frS U' U ∧ (b = true ↔ ∀ x, i ≤ x → x < m → chk S x (fT N kt lim dg L (tn (S.1 263 x)) (S.1 36, S.1 37)))
  | 0, i, f, U, hk, hf, ru => by
    obtain ⟨f, rfl⟩ : ∃ g, f = g + 1 := ⟨f - 1, by omega⟩
    have hm := H.1
    refine ⟨true, U, ?_, fun _ _ _ => rfl, fun _ x h1 h2 => by omega, fun _ => rfl⟩
    rw [f_X12_doesFit_b2, g351_51, Option.bind_some, ru.2.2.1, H.2.2.1, i5_0, if_pos (nI_le (by omega) (by omega))]
    rfl
  | k + 1, i, f, U, hk, hf, ru => by
    obtain ⟨f, rfl⟩ : ∃ g, f = g + 1 := ⟨f - 1, by omega⟩
    have hm := H.1
    obtain ⟨a, b, t, is, r1, r2, r3, r4, r5, r6, r7, r8, r9, r10, r11, q1, q2, q3, q4, q5⟩ := H.2.2.2 i (by omega)
    have e373 : U.1 373 = S.1 373 := ru.2.2.2.2 373 (by decide)
    obtain ⟨U1, w1, w2⟩ := r_would (c := c) (Q := (S.1 36, S.1 37)) (a := a) (b := b) (t := t) T (eqB.refl _) T.2.2.2.2.2.2.2.2 ru.1 ru.2.1 (fun a ha => ru.2.2.2.2 a (by omega)) l0 (by omega) (by omega) r5 hj hL hdg h6 hl (by
      unfold sgV
      rw [ru.2.2.2.2 363 (by decide), ru.2.2.2.2 362 (by decide)]
      exact sr)
    have ru1 := ru.fr w2
    have e373' : U1.1 373 = S.1 373 := ru1.2.2.2.2 373 (by decide)
    obtain ⟨b', U', h1, h2, h3⟩ := r_fit_loop T H l0 hj hL hdg h6 hl sr k (i + 1) f U1 (by omega) (by omega) ru1
    have hch : chk S i (fT N kt lim dg L (tn (S.1 263 i)) (S.1 36, S.1 37)) ↔ bI (decide (wo N kt lim dg L (S.1 36, S.1 37) t a b = S.1 264 i)) = bI is := by
      unfold chk wo
      rw [r8, r9, r10, r11, tn_nI (by omega), tn_nI (by omega), tn_nI (by omega)]
      cases (fT N kt lim dg L t (S.1 36, S.1 37)).1 with
      | true => exact Iff.rfl
      | false =>
        have : ¬ (-1000000 : Int32) = S.1 264 i := fun z => by
          rw [← z, show (-1000000 : Int32).toInt = -1000000 from rfl] at r6
          omega
        rw [if_neg (show ¬ false = true by decide), decide_eq_false this]
        rfl
    have fin : ∀ s : Bool, s = decide (wo N kt lim dg L (S.1 36, S.1 37) t a b = S.1 264 i) → ∃ (b2 : Bool) (U2 : XS), f_X12_doesFit_b55 (fun h l0 l1 l2 => f_X12_doesFit_b2 f h l0 l1 l2) (hp U1 c) 351 (nI j) (nI (5 * i)) (bI s) = some (bI b2, hp U2 c) ∧ frS U2 U ∧ (b2 = true ↔ ∀ x, i ≤ x → x < m → chk S x (fT N kt lim dg L (tn (S.1 263 x)) (S.1 36, S.1 37))) := fun s hs => by
      have b72 : ∃ (b2 : Bool) (U2 : XS), f_X12_doesFit_b72 (fun h l0 l1 l2 => f_X12_doesFit_b2 f h l0 l1 l2) (hp U1 c) 351 (nI j) (nI (5 * i)) (bI is) (bI s) = some (bI b2, hp U2 c) ∧ frS U2 U ∧ (b2 = true ↔ ∀ x, i ≤ x → x < m → chk S x (fT N kt lim dg L (tn (S.1 263 x)) (S.1 36, S.1 37))) := by
        unfold f_X12_doesFit_b72
        rw [← hs] at hch
        by_cases e : bI s = bI is
        · refine ⟨b', U', ?_, fun a x1 x2 => by rw [h2 a x1 x2, w2 a x1 x2], h3.trans ⟨fun z x x1 x2 => ?_, fun z x x1 x2 => z x (by omega) x2⟩⟩
          · rw [if_pos e, show (5 : Int32) = nI 5 from rfl, nI_add, show 5 * i + 5 = 5 * (i + 1) by omega]
            exact h1
          · by_cases ex : x = i
            · rw [ex]; exact hch.mpr e
            · exact z x (by omega) x2
        · refine ⟨false, U1, ?_, w2, (fun z => by cases z), fun z => absurd (hch.mp (z i (by omega) (by omega))) e⟩
          rw [if_neg e]
          rfl
      unfold f_X12_doesFit_b55
      rw [g351_50, Option.bind_some, show (4 : Int32) = nI 4 from rfl, nI_add, a373 (by omega), Option.bind_some, e373', q5]
      cases is with
      | true =>
        rw [if_pos (show bI true = 1 from rfl)]
        exact b72
      | false =>
        rw [if_neg (show ¬ bI false = 1 by decide)]
        exact b72
    rw [f_X12_doesFit_b2, g351_51, Option.bind_some, ru.2.2.1, H.2.2.1, i5_0, if_neg (nI_ge (by omega) (by omega)), g351_50, Option.bind_some, show (2 : Int32) = nI 2 from rfl, nI_add, a373 (by omega), Option.bind_some, Option.bind_some, a373 (by omega), Option.bind_some, Option.bind_some, nI_1, a373 (by omega), Option.bind_some, e373, q1, q2, q3, w1, Option.bind_some, g351_50, Option.bind_some, show (3 : Int32) = nI 3 from rfl, nI_add, a373 (by omega), Option.bind_some, e373', q4]
    by_cases e : wo N kt lim dg L (S.1 36, S.1 37) t a b = S.1 264 i
    · rw [if_pos e]
      exact fin true (by rw [decide_eq_true e])
    · rw [if_neg e]
      exact fin false (by rw [decide_eq_false e])
theorem r_fit {F : Nat} {kt : Int32} {U : XS} (T : TD S N F lim kt) (H : SN S N m) (l0 : S.1 356 1 = lim) (hj : j < 4) (hL : L ≤ 16) (hdg : ∀ k, k < L → dg k < 10) (h6 : N ≤ 6) (hl : lim.toInt ≤ 99) (sr : sgV S j L dg) (ru : RU U S N) : ∃ U', f_X12_doesFit (hp U c) 351 (nI j) = some (bI (fitB S N kt lim m dg L), hp U' c) ∧ frS U' U := by
  have hm := H.1
  obtain ⟨b, U', h1, h2, h3⟩ := r_fit_loop (c := c) T H l0 hj hL hdg h6 hl sr m 0 1048576 U (by omega) (by omega) ru
  have eb : b = fitB S N kt lim m dg L := Bool.eq_iff_iff.mpr (by
    unfold fitB
    rw [h3, any_iff2]
    exact ⟨fun z x hx => chkB_iff.mpr (z x (by omega) hx), fun z x _ hx => chkB_iff.mp (z x hx)⟩)
  refine ⟨U', ?_, h2⟩
  unfold f_X12_doesFit
  rw [k351, Option.bind_some, ← eb]
  exact h1
def mkN (fb : Nat → Bool) : Nat → Nat
  | 0 => 0
  | k + 1 => if fb k then mkN fb k ||| 2 ^ k else mkN fb k
theorem mkN_lt (fb : Nat → Bool) : ∀ k, k ≤ 6 → mkN fb k < 64
  | 0, _ => show 0 < 64 by decide
  | k + 1, hk => by
    show (if fb k then mkN fb k ||| 2 ^ k else mkN fb k) < 64
    split
    · exact (or_tab (mkN_lt fb k (by omega)) (by omega)).2
    · exact mkN_lt fb k (by omega)
theorem mkN_bit (fb : Nat → Bool) : ∀ k i, k ≤ i → (mkN fb k).testBit i = false
  | 0, i, _ => Nat.zero_testBit i
  | k + 1, i, hi => by
    show (if fb k then mkN fb k ||| 2 ^ k else mkN fb k).testBit i = false
    have h := mkN_bit fb k i (by omega)
    split
    · rw [Nat.testBit_or, h, Nat.testBit_two_pow, decide_eq_false (by omega)]
      rfl
    · exact h
theorem mkN_c {fb : Nat → Bool} {k : Nat} (hk : k < 6) : (if fb k = true then nI (mkN fb k) ||| shl (1 : Int32) (nI k) else nI (mkN fb k)) = nI (mkN fb (k + 1)) := by
  show _ = nI (if fb k then mkN fb k ||| 2 ^ k else mkN fb k)
  cases fb k with
  | true => exact (or_tab (mkN_lt fb k (by omega)) hk).1
  | false => rfl
/-- class: the songs that fit -/
theorem c_fits_loop {F ns : Nat} {kt : Int32} {sl : Nat → Nat} {dg : Nat → Nat → Nat} (T : TD S N F lim kt) (H : SN S N m) (G : SG S ns sl dg) (h6 : N ≤ 6) (hl : lim.toInt ≤ 99) : ∀ (k i f : Nat) (S1 : XS), i + k = ns → k < f → fr 40 44 S1 S → ∃ S', f_X11_fits_b16 f (hp S1 c) 0 (nI (mkN (fun j => fitB S N kt lim m (dg j) (sl j)) i)) (nI i) = some (nI (mkN (fun j => fitB S N kt lim m (dg j) (sl j)) ns), hp S' c) ∧ fr 40 44 S' S
  | 0, i, f, S1, hk, hf, h => by
    obtain ⟨f, rfl⟩ : ∃ g, f = g + 1 := ⟨f - 1, by omega⟩
    have g1 := G.1
    refine ⟨S1, ?_, h⟩
    rw [f_X11_fits_b16, g0_5, Option.bind_some, g23_3, Option.bind_some, h.1 23 (by omega), G.2.1, if_pos (nI_le (by omega) (by omega)), show i = ns by omega]
  | k + 1, i, f, S1, hk, hf, h => by
    obtain ⟨f, rfl⟩ : ∃ g, f = g + 1 := ⟨f - 1, by omega⟩
    have g1 := G.1
    obtain ⟨l1, l2, l3, l4, l5⟩ := G.2.2.2 i (by omega)
    have T1 : TD S1 N F lim kt := T.of (by rw [h.1 351 (by omega)]) (h.1 360 (by omega)) (h.1 358 (by omega)) (h.1 356 (by omega)) (h.1 35 (by omega)) (h.1 36 (by omega)) (h.1 37 (by omega))
    obtain ⟨S2, a1, a2⟩ := c_agrees (S := S1) (c := c) (j := i) (dg := dg i) (L := sl i) T1 ((H.sc h6).of fun a _ _ => h.1 a (by omega)) (by omega) l2 h6 hl ⟨by rw [h.1 24 (by omega)]; exact l3, fun k hk => ⟨(l5 k hk).1, by rw [h.1 (26 + i) (by omega)]; exact (l5 k hk).2.1⟩⟩
    have ef : fitB S1 N kt lim m (dg i) (sl i) = fitB S N kt lim m (dg i) (sl i) := by
      unfold fitB chkB
      rw [h.1 261 (by omega), h.1 262 (by omega), h.1 263 (by omega), h.1 264 (by omega), h.1 265 (by omega), h.1 36 (by omega), h.1 37 (by omega)]
    rw [ef] at a1
    obtain ⟨S', z1, z2⟩ := c_fits_loop T H G h6 hl k (i + 1) f S2 (by omega) (by omega) (h.trans a2)
    refine ⟨S', ?_, z2⟩
    have hmk := mkN_c (fb := fun j => fitB S N kt lim m (dg j) (sl j)) (k := i) (by omega)
    rw [f_X11_fits_b16, g0_5, Option.bind_some, g23_3, Option.bind_some, h.1 23 (by omega), G.2.1, if_neg (nI_ge (by omega) (by omega)), a1, Option.bind_some]
    unfold f_X11_fits_b41
    cases hb : fitB S N kt lim m (dg i) (sl i) with
    | true =>
      rw [hb, if_pos rfl] at hmk
      rw [if_neg (show ¬ bI true = 0 by decide), hmk, nI_1]
      exact z1
    | false =>
      rw [hb, if_neg (show ¬ false = true by decide)] at hmk
      rw [if_pos (show bI false = 0 from rfl), hmk, nI_1]
      exact z1
theorem r_fits_loop {F ns : Nat} {kt : Int32} {sl : Nat → Nat} {dg : Nat → Nat → Nat} (T : TD S N F lim kt) (H : SN S N m) (G : SG S ns sl dg) (l0 : S.1 356 1 = lim) (h6 : N ≤ 6) (hl : lim.toInt ≤ 99) : ∀ (k i f : Nat) (U : XS), i + k = ns → k < f → RU U S N → ∃ U', f_X12_fits_b18 f (hp U c) 351 (nI (mkN (fun j => fitB S N kt lim m (dg j) (sl j)) i)) (nI i) = some (nI (mkN (fun j => fitB S N kt lim m (dg j) (sl j)) ns), hp U' c) ∧ frS U' U
  | 0, i, f, U, hk, hf, ru => by
    obtain ⟨f, rfl⟩ : ∃ g, f = g + 1 := ⟨f - 1, by omega⟩
    have g1 := G.1
    refine ⟨U, ?_, fun _ _ _ => rfl⟩
    rw [f_X12_fits_b18, g351_30, Option.bind_some, ru.2.2.2.1, G.2.2.1, if_pos (nI_le (by omega) (by omega)), show i = ns by omega]
  | k + 1, i, f, U, hk, hf, ru => by
    obtain ⟨f, rfl⟩ : ∃ g, f = g + 1 := ⟨f - 1, by omega⟩
    have g1 := G.1
    obtain ⟨l1, l2, l3, l4, l5⟩ := G.2.2.2 i (by omega)
    obtain ⟨U1, a1, a2⟩ := r_fit (c := c) (j := i) (dg := dg i) (L := sl i) T H l0 (by omega) l2 (fun k hk => (l5 k hk).1) h6 hl ⟨l4, fun k hk => (l5 k hk).2.2⟩ ru
    obtain ⟨U', z1, z2⟩ := r_fits_loop T H G l0 h6 hl k (i + 1) f U1 (by omega) (by omega) (ru.fr a2)
    refine ⟨U', ?_, fun a h1 h2 => by rw [z2 a h1 h2, a2 a h1 h2]⟩
    have hmk := mkN_c (fb := fun j => fitB S N kt lim m (dg j) (sl j)) (k := i) (by omega)
    rw [f_X12_fits_b18, g351_30, Option.bind_some, ru.2.2.2.1, G.2.2.1, if_neg (nI_ge (by omega) (by omega)), a1, Option.bind_some]
    unfold f_X12_fits_b42
    cases hb : fitB S N kt lim m (dg i) (sl i) with
    | true =>
      rw [hb, if_pos rfl] at hmk
      rw [if_neg (show ¬ bI true = 0 by decide), hmk, nI_1]
      exact z1
    | false =>
      rw [hb, if_neg (show ¬ false = true by decide)] at hmk
      rw [if_pos (show bI false = 0 from rfl), Int32.or_zero, hmk, nI_1]
      exact z1
/-- both: the songs that fit -/
theorem fits_pair {kp : Int32} (R : RR n (pj S)) (W : NW S N lim kp (rwB (S.1 364))) (hN0 : N ≠ 0) (l0 : S.1 356 1 = lim) {ns : Nat} {sl : Nat → Nat} {dg : Nat → Nat → Nat} (G : SG S ns sl dg) : ∃ (mk : Nat) (S1 : XS), (mk < 64 ∧ ∀ i, ns ≤ i → mk.testBit i = false) ∧ f_X11_fits (hp S c) 0 = some (nI mk, hp S1 c) ∧ fr 40 44 S1 S ∧ ∀ U, RU U S N → ∃ U', f_X12_fits (hp U c) 351 = some (nI mk, hp U' c) ∧ frS U' (T0 U) := by
  have h6 := W.2.1
  have hl := W.2.2.2.2.2.1
  have hN := W.2.2.2.2.2.2.1
  have g1 := G.1
  obtain ⟨F, kt, T⟩ := R.td hN h6
  rw [l0] at T
  obtain ⟨m, H⟩ := R.sn hN h6
  have nz : ¬ nI N = 0 := nI_ne0 (by omega) (by omega)
  obtain ⟨S1, a1, a2⟩ := c_fits_loop (c := c) T H G h6 hl ns 0 1048576 S (by omega) (by omega) fr.refl
  refine ⟨mkN (fun j => fitB S N kt lim m (dg j) (sl j)) ns, S1, ⟨mkN_lt _ ns (by omega), fun i hi => mkN_bit _ ns i hi⟩, ?_, a2, fun U ru => ?_⟩
  · unfold f_X11_fits
    rw [k0, Option.bind_some, g0_6, Option.bind_some, B30.g4, Option.bind_some, hN, if_neg nz]
    exact a1
  · have ru0 : RU (T0 U) S N := by
      obtain ⟨h1, h2, h3, h4, h5⟩ := ru
      exact ⟨by rw [T0_351 (by decide)]; exact h1, by rw [T0_351 (by decide)]; exact h2, by rw [T0_351 (by decide)]; exact h3, by rw [T0_351 (by decide)]; exact h4, fun a ha => by rw [T0_ne (by omega)]; exact h5 a ha⟩
    obtain ⟨U', b1, b2⟩ := r_fits_loop (c := c) T H G l0 h6 hl ns 0 1048576 (T0 U) (by omega) (by omega) ru0
    refine ⟨U', ?_, b2⟩
    unfold f_X12_fits
    rw [k351, Option.bind_some, T0_p, Option.bind_some, g351_26, Option.bind_some, ru0.1, if_neg nz]
    exact b1
theorem pr_fits (R : RR n (pj S)) : PQ n c (fun h => f_X11_fits h 0) (fun h => f_X12_fits h 351) S := by
  obtain ⟨N, W⟩ := R.now
  have h6 := W.2.1
  have hN := W.2.2.2.2.2.2.1
  have h26 := W.2.2.1
  obtain ⟨ns, sl, dg, G⟩ := R.songs
  by_cases hN0 : N = 0
  · subst hN0
    refine PQ.same (v := -1) (S1 := S) (S2 := T0 S) R ?_ ?_ rfl T0_pj
    · show f_X11_fits (hp S c) 0 = _
      unfold f_X11_fits
      rw [k0, Option.bind_some, g0_6, Option.bind_some, B30.g4, Option.bind_some, hN, if_pos (show nI 0 = 0 from rfl)]
    · show f_X12_fits (hp S c) 351 = _
      unfold f_X12_fits
      rw [k351, Option.bind_some, T0_p, Option.bind_some, g351_26, Option.bind_some, T0_351 (by decide), h26, if_pos (show nI 0 = 0 from rfl)]
  · obtain ⟨mk, S1, -, a1, a2, a3⟩ := fits_pair (c := c) R W hN0 rfl G
    obtain ⟨U', b1, b2⟩ := a3 S1 ⟨by rw [a2.1 351 (by omega)]; exact h26, by rw [a2.1 351 (by omega)], by rw [a2.1 351 (by omega)], by rw [a2.1 351 (by omega)], fun a ha => a2.1 a (by omega)⟩
    exact PQ.same (v := nI mk) (S1 := S1) (S2 := U') R a1 b1 (pj_fr a2 sc40) (by rw [frS_pj b2, T0_pj])
end FI3
