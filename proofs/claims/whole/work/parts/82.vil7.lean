/-! VILLAGES: the reference reads clauses and villages so -/
theorem sel_0 {V : VD} {s : Int32} (h1 : s = 115) (h2 : V.1 = false) : sel V s = some 0 := if_pos ⟨h1, h2⟩
theorem sel_1 {V : VD} {s : Int32} (h1 : s = 112) (h2 : V.2.1.1 < 6) : sel V s = some 1 := by
  unfold sel
  rw [if_neg (fun z => by rw [h1] at z; exact absurd z.1 (by decide)), if_pos ⟨h1, h2⟩]
theorem sel_2 {V : VD} {s : Int32} (h1 : s = 102) (h2 : V.2.2.1.1 < 12) : sel V s = some 2 := by
  unfold sel
  rw [if_neg (fun z => by rw [h1] at z; exact absurd z.1 (by decide)), if_neg (fun z => by rw [h1] at z; exact absurd z.1 (by decide)), if_pos ⟨h1, h2⟩]
theorem sel_n {V : VD} {s : Int32} (h0 : ¬ (s = 115 ∧ V.1 = false)) (h1 : ¬ (s = 112 ∧ V.2.1.1 < 6)) (h2 : ¬ (s = 102 ∧ V.2.2.1.1 < 12)) : sel V s = none := by
  unfold sel
  rw [if_neg h0, if_neg h1, if_neg h2]
section V7
variable {S : XS} {c : Nat × Nat} {T : Nat → Int32} {L p d : Nat} {V : VD}
def ritR (S : XS) (c : Nat × Nat) (A R0 κ d : Nat) (o : Option xa_H) (r : Nat ⊕ ((Nat → Int32) × Nat)) : Prop :=
  (∀ f, r = .inl f → ∃ F p', o = some (hp (rfS (wA S A F) p' (nI f) d) c)) ∧ ∀ v q, r = .inr (v, q) → ∃ F, o = some (hp (rfS (wA S A F) q (-1) d) c) ∧ (∀ j, j < kcn κ → F (R0 + j) = v j) ∧ ∀ i, i < R0 ∨ R0 + kcn κ ≤ i → F i = S.1 A i
theorem X12_items_loop {A n R0 κ : Nat} (W : isW A n) (Y : Ty S T L) (ht : S.2.2 351 ≠ A) (hκ : κ < 3) (hR : R0 + kcn κ ≤ n) : ∀ (m g k p : Nat) (vs F : Nat → Int32), m + pc3 g = kcn κ + 1 → g < 2 ^ kcn κ → (∀ j, j < kcn κ → F (R0 + j) = vs j) → (∀ i, i < R0 ∨ R0 + kcn κ ≤ i → F i = S.1 A i) → p ≤ L → sk T L p = p → m < k → ritR S c A R0 κ d (f_X12_readItems_b45 k (hp (rfS (wA S A F) p (-1) d) c) 351 (kkd κ) A (nI R0) (kst κ) (nI g) (match fi κ (pk T L p) with | none => -1 | some j => nI j)) (spIt T L κ m g vs p)
  | 0, g, k, p, vs, F, hm, hlt, hF, hF2, hp', hs, hn => by
    have := pc_le κ hκ g (by have := p8 (κ := κ); omega) hlt
    omega
  | m + 1, g, 0, p, vs, F, hm, hlt, hF, hF2, hp', hs, hn => by omega
  | m + 1, g, k + 1, p, vs, F, hm, hlt, hF, hF2, hp', hs, hn => by
    have hL := Y.1
    have hA := W.ne
    have n36 : n ≤ 36 := by rcases W with ⟨_, rfl⟩ | ⟨_, rfl⟩ | ⟨_, rfl⟩ <;> decide
    have g8 : g < 8 := by have := p8 (κ := κ); omega
    have YF := Y.wr (F := F) hA ht
    unfold spIt
    rw [f_X12_readItems_b45]
    cases hf : fi κ (pk T L p) with
    | none =>
      dsimp only
      rw [if_pos rfl]
      refine ⟨fun f z => (by cases z), fun v q z => ?_⟩
      cases z
      rw [hs]
      exact ⟨F, rfl, hF, hF2⟩
    | some j =>
      have hj := (fi_lt hf).1
      have j3 : j < 3 := by have := (kcn_le (κ := κ)).1; omega
      have h1 := pk_sk1 (T := T) (L := L) (p := p) (fi_ne hκ hf).1
      rw [hs] at h1
      obtain ⟨u1, u2, u3⟩ := kul (h := hp (rfS (wA S A F) (p + 1) (-1) d) c) κ hκ j hj
      dsimp only
      rw [if_neg (m1_ne (by omega)), g351_11, Option.bind_some, rfS_f, if_pos rfl, r_has, Option.bind_some, kep_bit (by omega) (by omega), hs]
      by_cases eb : g.testBit j = true
      · rw [eb, if_neg (show ¬ bI true = 0 by decide), if_pos rfl, rf_fails, Option.bind_some]
        refine ⟨fun f z => ?_, fun v q z => by cases z⟩
        cases z
        exact ⟨F, _, rfl⟩
      · have eb' := (Bool.not_eq_true _).mp eb
        rw [eb', if_pos bI_f, if_neg (by decide), g351_10, Option.bind_some, rfS_at, nI_1, p351_10, Option.bind_some, rfS_p10, u2, Option.bind_some, u3, Option.bind_some]
        have hb := X12_nb (c := c) (d := d) YF h1.1 (lo := klo κ j) (hi := khi κ j)
        have hmo := nmB_mono (T := T) (L := L) (lo := klo κ j) (hi := khi κ j) h1.1
        cases hm' : nmB T L (klo κ j) (khi κ j) (p + 1) with
        | inl f =>
          obtain ⟨v, p', hw⟩ := hb.1 f hm'
          have hfn : nI f ≠ -1 := m1_ne (by have := hmo.1 f hm'; omega)
          rw [hw, Option.bind_some, nI_add, W.st (by omega), Option.bind_some, rfS_wA hA, rfS_ne hA, wA_same, wA_wA, g351_11, Option.bind_some, rfS_f, if_neg hfn]
          obtain ⟨k, rfl⟩ : ∃ q, k = q + 1 := ⟨k - 1, by omega⟩
          rw [f_X12_readItems_b45, if_neg (m1_ne (by omega)), g351_11, Option.bind_some, rfS_f, if_neg hfn]
          refine ⟨fun f z => ?_, fun v q z => by cases z⟩
          cases z
          exact ⟨_, _, rfl⟩
        | inr vq =>
          obtain ⟨v, q⟩ := vq
          have hw := hb.2 v q hm'
          have hq := hmo.2 v q hm'
          have hsq := sk_le (T := T) hq.2.1
          have YF2 := Y.wr (F := upd F (R0 + j) v) hA ht
          rw [hw, Option.bind_some, nI_add, W.st (by omega), Option.bind_some, rfS_wA hA, rfS_ne hA, wA_same, wA_wA, g351_11, Option.bind_some, rfS_f, if_pos rfl, rf_look YF2 hq.2.1, Option.bind_some, X12_spotOf hκ, Option.bind_some, bit_1 j (by omega), bit_or]
          have ih := X12_items_loop W Y ht hκ hR m (g ||| 2 ^ j) k (sk T L q) (upd vs j v) (upd F (R0 + j) v) (by rw [pc_step g g8 j j3 eb']; omega) (gv_lt κ hκ g g8 j j3 hlt hj) (fun i hi => by
            unfold upd
            by_cases z : i = j
            · rw [if_pos (by omega), if_pos z]
            · rw [if_neg (by omega), if_neg z]
              exact hF i hi) (fun i hi => by
            rw [upd_ne (by omega)]
            exact hF2 i hi) hsq sk_sk (by omega)
          rw [pk_sk] at ih
          have es : spIt T L κ m (g ||| 2 ^ j) (upd vs j v) (sk T L q) = spIt T L κ m (g ||| 2 ^ j) (upd vs j v) q := by
            cases m with
            | zero =>
              show Sum.inr (_, sk T L (sk T L q)) = Sum.inr (_, sk T L q)
              rw [sk_sk]
            | succ m =>
              unfold spIt
              rw [pk_sk, sk_sk]
          rw [es] at ih
          exact ih
theorem X12_items {A n R0 κ : Nat} (W : isW A n) (Y : Ty S T L) (ht : S.2.2 351 ≠ A) (hκ : κ < 3) (hR : R0 + kcn κ ≤ n) (hp' : p ≤ L) : ritR S c A R0 κ d (f_X12_readItems (hp (rfS S p (-1) d) c) 351 (kkd κ) A (nI R0) (kst κ)) (spIt T L κ (kcn κ + 1) 0 (kus κ) p) := by
  have hA := W.ne
  have h3 := kcn_le (κ := κ)
  have n36 : n ≤ 36 := by rcases W with ⟨_, rfl⟩ | ⟨_, rfl⟩ | ⟨_, rfl⟩ <;> decide
  unfold f_X12_readItems
  rw [k351, Option.bind_some]
  have l0 : ∀ (m i k : Nat) (F : Nat → Int32), i + m = kcn κ → m < k → (∀ j, j < i → F (R0 + j) = kus κ j) → (∀ i, i < R0 ∨ R0 + kcn κ ≤ i → F i = S.1 A i) → ∃ F', f_X12_readItems_b3 k (hp (rfS (wA S A F) p (-1) d) c) 351 (kkd κ) A (nI R0) (kst κ) (nI i) = f_X12_readItems_b45 1048576 (hp (rfS (wA S A F') (sk T L p) (-1) d) c) 351 (kkd κ) A (nI R0) (kst κ) 0 (match fi κ (pk T L p) with | none => -1 | some j => nI j) ∧ (∀ j, j < kcn κ → F' (R0 + j) = kus κ j) ∧ ∀ i, i < R0 ∨ R0 + kcn κ ≤ i → F' i = S.1 A i := by
    intro m
    induction m with
    | zero =>
      intro i k F hi hk hF hF2
      obtain ⟨k, rfl⟩ : ∃ q, k = q + 1 := ⟨k - 1, by omega⟩
      refine ⟨F, ?_, fun j hj => hF j (by omega), hF2⟩
      rw [f_X12_readItems_b3, kst_len κ hκ, Option.bind_some, if_pos (nI_le (by omega) (by omega)), rf_look (Y.wr hA ht) hp', Option.bind_some, X12_spotOf hκ, Option.bind_some]
      rfl
    | succ m ih =>
      intro i k F hi hk hF hF2
      obtain ⟨k, rfl⟩ : ∃ q, k = q + 1 := ⟨k - 1, by omega⟩
      rw [f_X12_readItems_b3, kst_len κ hκ, Option.bind_some, if_neg (nI_ge (by omega) (by omega)), (kul κ hκ i (by omega)).1, Option.bind_some, nI_add, W.st (by omega), Option.bind_some, rfS_wA hA, rfS_ne hA, wA_same, wA_wA, nI_1]
      refine ih (i + 1) k _ (by omega) (by omega) (fun j hj => ?_) (fun x hx => ?_)
      · unfold upd
        by_cases z : j = i
        · rw [if_pos (by omega), z]
        · rw [if_neg (by omega)]
          exact hF j (by omega)
      · rw [upd_ne (by omega)]
        exact hF2 x hx
  obtain ⟨F', e1, e2, e3⟩ := l0 (kcn κ) 0 1048576 (S.1 A) (by omega) (by omega) (fun j hj => by omega) (fun i _ => rfl)
  rw [wA_self] at e1
  have e1' : f_X12_readItems_b3 1048576 (hp (rfS S p (-1) d) c) 351 (kkd κ) A (nI R0) (kst κ) 0 = _ := e1
  rw [e1']
  have p0 : pc3 0 = 0 := by decide
  have := X12_items_loop (c := c) (d := d) W Y ht hκ hR (kcn κ + 1) 0 1048576 (sk T L p) (kus κ) F' (by omega) (Nat.two_pow_pos _) e2 e3 (sk_le hp') sk_sk (by omega)
  rw [pk_sk] at this
  have es : spIt T L κ (kcn κ + 1) 0 (kus κ) (sk T L p) = spIt T L κ (kcn κ + 1) 0 (kus κ) p := by
    unfold spIt
    rw [pk_sk, sk_sk]
  rw [es] at this
  exact this
/-- what the reference has read -/
def rV (S : XS) (V : VD) : Prop := S.1 351 28 = nI V.2.1.1 ∧ S.1 351 29 = nI V.2.2.1.1 ∧ S.1 351 31 = bI V.1 ∧ S.1 357 0 = V.2.2.2.1 ∧ S.1 357 1 = V.2.2.2.2 ∧ (∀ i, i < 18 → S.1 359 i = V.2.1.2 i) ∧ ∀ i, i < 36 → S.1 361 i = V.2.2.1.2 i
/-- what a reading of a village leaves as it was -/
def vk (k : Nat) : Bool := decide (8 ≤ k ∧ k ≤ 12) || k == 28 || k == 29 || k == 31
def frV (S' S : XS) : Prop := (∀ a, a ≠ 351 → a ≠ 357 → a ≠ 359 → a ≠ 361 → S'.1 a = S.1 a) ∧ S'.2 = S.2 ∧ ∀ k, vk k = false → S'.1 351 k = S.1 351 k
theorem frV.refl : frV S S := ⟨fun _ _ _ _ _ => rfl, rfl, fun _ _ => rfl⟩
theorem frV.trans {S S1 S2 : XS} (h1 : frV S1 S) (h2 : frV S2 S1) : frV S2 S := ⟨fun a b1 b2 b3 b4 => (h2.1 a b1 b2 b3 b4).trans (h1.1 a b1 b2 b3 b4), h2.2.1.trans h1.2.1, fun k hk => (h2.2.2 k hk).trans (h1.2.2 k hk)⟩
theorem frV.w351 {k : Nat} {v : Int32} (h : vk k = true) : frV (wA S 351 (upd (S.1 351) k v)) S := ⟨fun a b1 _ _ _ => wA_ne b1, rfl, fun j hj => by
  rw [wA_same, upd_ne (fun z => by rw [z, h] at hj; cases hj)]⟩
theorem frV.wW {A n : Nat} {F : Nat → Int32} (W : isW A n) : frV (wA S A F) S := by
  refine ⟨fun a b1 b2 b3 b4 => wA_ne ?_, rfl, fun k hk => ?_⟩
  · rcases W with ⟨rfl, rfl⟩ | ⟨rfl, rfl⟩ | ⟨rfl, rfl⟩ <;> assumption
  · rw [wA_ne W.ne.symm]
theorem frV.rf {f : Int32} : frV (rfS S p f d) S := ⟨fun a b1 _ _ _ => rfS_ne b1, rfl, fun k hk => rfS_k (fun z => by rw [z] at hk; exact absurd hk (by decide)) (fun z => by rw [z] at hk; exact absurd hk (by decide)) (fun z => by rw [z] at hk; exact absurd hk (by decide))⟩
theorem Ty.frV {S S' : XS} (Y : Ty S T L) (h352 : S.2.2 351 = 352) (h : frV S' S) (h8 : S'.1 351 8 = S.1 351 8) (h9 : S'.1 351 9 = S.1 351 9) : Ty S' T L ∧ S'.2.2 351 = 352 := by
  obtain ⟨h1, h2, n, bg, h3, h4, h5, h6, h7, h10⟩ := Y
  have e : S'.2.2 351 = S.2.2 351 := by rw [h.2.1]
  refine ⟨⟨h1, by rw [h9]; exact h2, n, bg, by rw [h8]; exact h3, by rw [e]; exact h4, h5, h6, by rw [e]; exact h7, fun k hk => ?_⟩, by rw [e]; exact h352⟩
  rw [e, h352, h.1 352 (by decide) (by decide) (by decide) (by decide), ← h352]
  exact h10 k hk
/-- behind a clause -/
def clV (S : XS) (c : Nat × Nat) (d : Nat) (o : Option xa_H) (r : Nat ⊕ (VD × Nat)) : Prop :=
  (∀ f, r = .inl f → ∃ S' p', o = some (hp (rfS S' p' (nI f) d) c) ∧ frV S' S) ∧ ∀ V' q, r = .inr (V', q) → ∃ S', o = some (hp (rfS S' q (-1) d) c) ∧ rV S' V' ∧ frV S' S ∧ S'.1 351 8 = S.1 351 8 ∧ S'.1 351 9 = S.1 351 9
theorem X12_clause1 (Y : Ty S T L) (h352 : S.2.2 351 = 352) (H : rV S V) (hV : vIn V) (hp' : p ≤ L) : clV S c d (f_X12_readClause (hp (rfS S p (-1) d) c) 351) (spCl T L V p) := by
  have hL := Y.1
  obtain ⟨h1, h2, h3, h4, h5, h6, h7⟩ := H
  have g28 : (rfS S (sk T L p) (-1) d).1 351 28 = S.1 351 28 := rfS_k (by decide) (by decide) (by decide)
  have g29 : (rfS S (sk T L p) (-1) d).1 351 29 = S.1 351 29 := rfS_k (by decide) (by decide) (by decide)
  have g31 : (rfS S (sk T L p) (-1) d).1 351 31 = S.1 351 31 := rfS_k (by decide) (by decide) (by decide)
  unfold f_X12_readClause
  rw [k351, Option.bind_some, rf_look Y hp', Option.bind_some]
  dsimp only
  have route : (if pk T L p = 115 then (gI [12] 31 (hp (rfS S (sk T L p) (-1) d) c) 351).bind fun x3 => if x3 = 0 then f_X12_readClause_b48 (hp (rfS S (sk T L p) (-1) d) c) 351 (pk T L p) else f_X12_readClause_b18 (hp (rfS S (sk T L p) (-1) d) c) 351 (pk T L p) else f_X12_readClause_b18 (hp (rfS S (sk T L p) (-1) d) c) 351 (pk T L p)) = f_X12_readClause_b53 (hp (rfS S (sk T L p) (-1) d) c) 351 (pk T L p) (bI (sel V (pk T L p)).isSome) := by
    unfold f_X12_readClause_b18 f_X12_readClause_b33 f_X12_readClause_b48 f_X12_readClause_b52
    rw [g351_31, Option.bind_some, g31, h3, g351_28, Option.bind_some, g28, h1, g351_29, Option.bind_some, g29, h2]
    have q1 := hV.1
    have q2 := hV.2.1
    by_cases c1 : pk T L p = 115
    · rw [if_pos c1]
      cases hz : V.1 with
      | false =>
        rw [if_pos bI_f, sel_0 c1 hz]
        rfl
      | true =>
        have m1 : ¬ pk T L p = 112 := fun z => by rw [c1] at z; exact absurd z (by decide)
        have m2 : ¬ pk T L p = 102 := fun z => by rw [c1] at z; exact absurd z (by decide)
        rw [if_neg (show ¬ bI true = 0 by decide), if_neg m1, if_neg m2, sel_n (fun z => by rw [hz] at z; exact absurd z.2 (by decide)) (fun z => m1 z.1) (fun z => m2 z.1)]
        rfl
    · rw [if_neg c1]
      by_cases c2 : pk T L p = 112
      · rw [if_pos c2]
        by_cases c3 : V.2.1.1 < 6
        · rw [if_pos (by rw [show (6 : Int32) = nI 6 from rfl]; exact nI_lt c3 (by decide)), sel_1 c2 c3]
          rfl
        · have m2 : ¬ pk T L p = 102 := fun z => by rw [c2] at z; exact absurd z (by decide)
          rw [if_neg (by rw [show (6 : Int32) = nI 6 from rfl]; exact nI_nlt (by omega) (by omega)), if_neg m2, sel_n (fun z => c1 z.1) (fun z => c3 z.2) (fun z => m2 z.1)]
          rfl
      · rw [if_neg c2]
        by_cases c4 : pk T L p = 102
        · rw [if_pos c4]
          by_cases c5 : V.2.2.1.1 < 12
          · rw [if_neg (by rw [show (12 : Int32) = nI 12 from rfl]; exact nI_ge c5 (by decide)), sel_2 c4 c5]
            rfl
          · rw [if_pos (by rw [show (12 : Int32) = nI 12 from rfl]; exact nI_le (by omega) (by omega)), sel_n (fun z => c1 z.1) (fun z => c2 z.1) (fun z => c5 z.2)]
            rfl
        · rw [if_neg c4, sel_n (fun z => c1 z.1) (fun z => c2 z.1) (fun z => c4 z.1)]
          rfl
  rw [route]
  unfold spCl f_X12_readClause_b53
  cases hs : sel V (pk T L p) with
  | none =>
    rw [if_pos (show bI (none : Option Nat).isSome = 0 from rfl), rf_fails, Option.bind_some]
    refine ⟨fun f z => ?_, fun V' q z => by cases z⟩
    cases z
    exact ⟨S, _, rfl, frV.refl⟩
  | some κ =>
    have hk := sel_ne hs
    have hsk := pk_sk1 (T := T) (L := L) (p := p) hk.1
    rw [if_neg (show ¬ bI (some κ).isSome = 0 from (by decide : ¬ (1 : Int32) = 0)), g351_10, Option.bind_some, rfS_at, nI_1, p351_10, Option.bind_some, rfS_p10]
    have hsel := hs
    unfold sel at hs
    dsimp only
    by_cases c1 : pk T L p = 115 ∧ V.1 = false
    · rw [if_pos c1] at hs
      cases hs
      rw [if_pos c1.1, p351_31, Option.bind_some, rfS_put (by decide) (by decide) (by decide), g351_19, Option.bind_some, c1.1]
      have Y1 := Y.frV h352 (frV.w351 (k := 31) (v := 1) rfl) (by rw [wA_same]; rfl) (by rw [wA_same]; rfl)
      have it := X12_items (c := c) (d := d) (R0 := 0) (κ := 0) (Or.inl ⟨rfl, rfl⟩) Y1.1 (by rw [Y1.2]; decide) (by decide) (by decide) hsk.1
      have it' : ritR _ c 357 0 0 d (f_X12_readItems _ 351 115 357 0 (1000000010 + 6)) _ := it
      generalize hS1 : wA S 351 (upd (S.1 351) 31 1) = S1 at *
      have fS1 : frV S1 S := by rw [← hS1]; exact frV.w351 rfl
      cases he : spIt T L 0 (kcn 0 + 1) 0 (kus 0) (sk T L p + 1) with
      | inl f =>
        obtain ⟨F, p', hw⟩ := it'.1 f he
        refine ⟨fun f z => ?_, fun V' q z => by cases z⟩
        cases z
        refine ⟨wA S1 357 F, p', ?_, fS1.trans (frV.wW (Or.inl ⟨rfl, rfl⟩))⟩
        rw [hw, Option.bind_some]
      | inr vq =>
        obtain ⟨v, q⟩ := vq
        obtain ⟨F, hw, hF, hF2⟩ := it'.2 v q he
        refine ⟨fun f z => (by cases z), fun V' q' z => ?_⟩
        cases z
        refine ⟨wA S1 357 F, ?_, ?_, fS1.trans (frV.wW (Or.inl ⟨rfl, rfl⟩)), ?_, ?_⟩
        · rw [hw, Option.bind_some]
        · rw [← hS1]
          unfold rV
          simp only [wA_same, wA_ne (show (351 : Nat) ≠ 357 by decide), wA_ne (show (359 : Nat) ≠ 357 by decide), wA_ne (show (359 : Nat) ≠ 351 by decide), wA_ne (show (361 : Nat) ≠ 357 by decide), wA_ne (show (361 : Nat) ≠ 351 by decide)]
          refine ⟨h1, h2, rfl, ?_, ?_, h6, h7⟩
          · exact hF 0 (by decide)
          · exact hF 1 (by decide)
        · rw [wA_ne (by decide), ← hS1, wA_same]
          rfl
        · rw [wA_ne (by decide), ← hS1, wA_same]
          rfl
    · rw [if_neg c1] at hs
      by_cases c2 : pk T L p = 112 ∧ V.2.1.1 < 6
      · rw [if_pos c2] at hs
        cases hs
        have n115 : ¬ (112 : Int32) = 115 := by decide
        rw [c2.1, if_neg n115, if_pos rfl, g351_28, Option.bind_some, rfS_k (by decide) (by decide) (by decide), h1, nI_1, p351_28, Option.bind_some, rfS_put (by decide) (by decide) (by decide), g351_21, Option.bind_some, g351_28, Option.bind_some, rfS_k (by decide) (by decide) (by decide), wA_same, upd_same, sub1, show (3 : Int32) = nI 3 from rfl, pk_mul]
        have Y1 := Y.frV h352 (frV.w351 (k := 28) (v := nI (V.2.1.1 + 1)) rfl) (by rw [wA_same]; rfl) (by rw [wA_same]; rfl)
        have it := X12_items (c := c) (d := d) (R0 := 3 * V.2.1.1) (κ := 1) (Or.inr (Or.inl ⟨rfl, rfl⟩)) Y1.1 (by rw [Y1.2]; decide) (by decide) (by have := c2.2; show 3 * V.2.1.1 + 3 ≤ 18; omega) hsk.1
        have it' : ritR _ c 359 (3 * V.2.1.1) 1 d (f_X12_readItems _ 351 112 359 (nI (3 * V.2.1.1)) (1000000010 + 7)) _ := it
        generalize hS1 : wA S 351 (upd (S.1 351) 28 (nI (V.2.1.1 + 1))) = S1 at *
        have fS1 : frV S1 S := by rw [← hS1]; exact frV.w351 rfl
        cases he : spIt T L 1 (kcn 1 + 1) 0 (kus 1) (sk T L p + 1) with
        | inl f =>
          obtain ⟨F, p', hw⟩ := it'.1 f he
          refine ⟨fun f z => ?_, fun V' q z => by cases z⟩
          cases z
          refine ⟨wA S1 359 F, p', ?_, fS1.trans (frV.wW (Or.inr (Or.inl ⟨rfl, rfl⟩)))⟩
          rw [hw, Option.bind_some]
        | inr vq =>
          obtain ⟨v, q⟩ := vq
          obtain ⟨F, hw, hF, hF2⟩ := it'.2 v q he
          refine ⟨fun f z => (by cases z), fun V' q' z => ?_⟩
          cases z
          refine ⟨wA S1 359 F, ?_, ?_, fS1.trans (frV.wW (Or.inr (Or.inl ⟨rfl, rfl⟩))), ?_, ?_⟩
          · rw [hw, Option.bind_some]
          · rw [← hS1] at hF2 ⊢
            rw [wA_ne (show (359 : Nat) ≠ 351 by decide)] at hF2
            unfold rV
            simp only [wA_same, wA_ne (show (351 : Nat) ≠ 359 by decide), wA_ne (show (357 : Nat) ≠ 359 by decide), wA_ne (show (357 : Nat) ≠ 351 by decide), wA_ne (show (361 : Nat) ≠ 359 by decide), wA_ne (show (361 : Nat) ≠ 351 by decide)]
            refine ⟨rfl, h2, h3, h4, h5, fun i hi => ?_, h7⟩
            show F i = put3 V.2.1.2 V.2.1.1 v i
            unfold put3
            by_cases z0 : i = 3 * V.2.1.1
            · rw [if_pos z0, z0]
              exact hF 0 (by decide)
            · rw [if_neg z0]
              by_cases z1 : i = 3 * V.2.1.1 + 1
              · rw [if_pos z1, z1]
                exact hF 1 (by decide)
              · rw [if_neg z1]
                by_cases z2 : i = 3 * V.2.1.1 + 2
                · rw [if_pos z2, z2]
                  exact hF 2 (by decide)
                · rw [if_neg z2, hF2 i (by show i < 3 * V.2.1.1 ∨ 3 * V.2.1.1 + 3 ≤ i; omega)]
                  exact h6 i hi
          · rw [wA_ne (by decide), ← hS1, wA_same]
            rfl
          · rw [wA_ne (by decide), ← hS1, wA_same]
            rfl
      · rw [if_neg c2] at hs
        by_cases c3 : pk T L p = 102 ∧ V.2.2.1.1 < 12
        · rw [if_pos c3] at hs
          cases hs
          have n115 : ¬ (102 : Int32) = 115 := by decide
          have n112 : ¬ (102 : Int32) = 112 := by decide
          rw [c3.1, if_neg n115, if_neg n112, g351_29, Option.bind_some, rfS_k (by decide) (by decide) (by decide), h2, nI_1, p351_29, Option.bind_some, rfS_put (by decide) (by decide) (by decide), g351_23, Option.bind_some, g351_29, Option.bind_some, rfS_k (by decide) (by decide) (by decide), wA_same, upd_same, sub1, show (3 : Int32) = nI 3 from rfl, pk_mul]
          have Y1 := Y.frV h352 (frV.w351 (k := 29) (v := nI (V.2.2.1.1 + 1)) rfl) (by rw [wA_same]; rfl) (by rw [wA_same]; rfl)
          have it := X12_items (c := c) (d := d) (R0 := 3 * V.2.2.1.1) (κ := 2) (Or.inr (Or.inr ⟨rfl, rfl⟩)) Y1.1 (by rw [Y1.2]; decide) (by decide) (by have := c3.2; show 3 * V.2.2.1.1 + 3 ≤ 36; omega) hsk.1
          have it' : ritR _ c 361 (3 * V.2.2.1.1) 2 d (f_X12_readItems _ 351 102 361 (nI (3 * V.2.2.1.1)) (1000000010 + 8)) _ := it
          generalize hS1 : wA S 351 (upd (S.1 351) 29 (nI (V.2.2.1.1 + 1))) = S1 at *
          have fS1 : frV S1 S := by rw [← hS1]; exact frV.w351 rfl
          cases he : spIt T L 2 (kcn 2 + 1) 0 (kus 2) (sk T L p + 1) with
          | inl f =>
            obtain ⟨F, p', hw⟩ := it'.1 f he
            refine ⟨fun f z => ?_, fun V' q z => by cases z⟩
            cases z
            refine ⟨wA S1 361 F, p', ?_, fS1.trans (frV.wW (Or.inr (Or.inr ⟨rfl, rfl⟩)))⟩
            rw [hw, Option.bind_some]
          | inr vq =>
            obtain ⟨v, q⟩ := vq
            obtain ⟨F, hw, hF, hF2⟩ := it'.2 v q he
            refine ⟨fun f z => (by cases z), fun V' q' z => ?_⟩
            cases z
            refine ⟨wA S1 361 F, ?_, ?_, fS1.trans (frV.wW (Or.inr (Or.inr ⟨rfl, rfl⟩))), ?_, ?_⟩
            · rw [hw, Option.bind_some]
            · rw [← hS1] at hF2 ⊢
              rw [wA_ne (show (361 : Nat) ≠ 351 by decide)] at hF2
              unfold rV
              simp only [wA_same, wA_ne (show (351 : Nat) ≠ 361 by decide), wA_ne (show (357 : Nat) ≠ 361 by decide), wA_ne (show (357 : Nat) ≠ 351 by decide), wA_ne (show (359 : Nat) ≠ 361 by decide), wA_ne (show (359 : Nat) ≠ 351 by decide)]
              refine ⟨h1, rfl, h3, h4, h5, h6, fun i hi => ?_⟩
              show F i = put3 V.2.2.1.2 V.2.2.1.1 v i
              unfold put3
              by_cases z0 : i = 3 * V.2.2.1.1
              · rw [if_pos z0, z0]
                exact hF 0 (by decide)
              · rw [if_neg z0]
                by_cases z1 : i = 3 * V.2.2.1.1 + 1
                · rw [if_pos z1, z1]
                  exact hF 1 (by decide)
                · rw [if_neg z1]
                  by_cases z2 : i = 3 * V.2.2.1.1 + 2
                  · rw [if_pos z2, z2]
                    exact hF 2 (by decide)
                  · rw [if_neg z2, hF2 i (by show i < 3 * V.2.2.1.1 ∨ 3 * V.2.2.1.1 + 3 ≤ i; omega)]
                    exact h7 i hi
            · rw [wA_ne (by decide), ← hS1, wA_same]
              rfl
            · rw [wA_ne (by decide), ← hS1, wA_same]
              rfl
        · rw [if_neg c3] at hs
          cases hs
end V7
