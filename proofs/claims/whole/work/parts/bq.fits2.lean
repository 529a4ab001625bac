/-! FITS -/
section FI2
variable {S : XS} {c : Nat × Nat} {n N j L m : Nat} {kp lim : Int32} {dg : Nat → Nat}
/-- the i-th sighting is as it would be -/
def chk (S : XS) (i : Nat) (r : Bool × BS) : Prop := bI (r.1 && decide (r.2.1 (6 * tn (S.1 261 i) + tn (S.1 262 i)) = S.1 264 i)) = S.1 265 i
def chkB (S : XS) (i : Nat) (r : Bool × BS) : Bool := decide (bI (r.1 && decide (r.2.1 (6 * tn (S.1 261 i) + tn (S.1 262 i)) = S.1 264 i)) = S.1 265 i)
theorem chkB_iff {S : XS} {i : Nat} {r : Bool × BS} : chkB S i r = true ↔ chk S i r := decide_eq_true_iff
theorem any_iff2 {p : Nat → Bool} {m : Nat} : (!anyB (fun k => !p k) m) = true ↔ ∀ k, k < m → p k = true := by
  rw [Bool.not_eq_true', anyB_no]
  refine ⟨fun h k hk => ?_, fun h k hk => ?_⟩
  · have := h k hk
    rw [Bool.not_eq_false'] at this
    exact this
  · rw [h k hk]
    rfl
/-- what was seen, on the class's side -/
def SC (S : XS) (m : Nat) : Prop := m ≤ 10 ∧ S.1 260 6 = nI m ∧ ∀ i, i < m → tn (S.1 261 i) < 6 ∧ S.1 261 i = nI (tn (S.1 261 i)) ∧ tn (S.1 262 i) < 6 ∧ S.1 262 i = nI (tn (S.1 262 i)) ∧ 1 ≤ tn (S.1 263 i) ∧ tn (S.1 263 i) ≤ 9 ∧ S.1 263 i = nI (tn (S.1 263 i)) ∧ -99 ≤ (S.1 264 i).toInt ∧ (S.1 265 i = 0 ∨ S.1 265 i = 1)
theorem SN.sc (h : SN S N m) (h6 : N ≤ 6) : SC S m := by
  obtain ⟨s1, s2, s3, s4⟩ := h
  refine ⟨s1, s2, fun i hi => ?_⟩
  obtain ⟨a, b, t, is, r1, r2, r3, r4, r5, r6, r7, r8, r9, r10, r11, -⟩ := s4 i hi
  rw [r8, r9, r10, tn_nI (by omega), tn_nI (by omega), tn_nI (by omega)]
  refine ⟨by omega, rfl, by omega, rfl, r4, r5, rfl, r6, ?_⟩
  rw [r11]
  cases is
  · exact Or.inl rfl
  · exact Or.inr rfl
theorem c_agree_loop {t : Nat} {g : Bool} (H : SC S m) (ht : t < 100) : ∀ (k i f : Nat), i + k = m → k < f → ∃ b : Bool, f_X6_agree_b3 f (hp S c) 260 (nI t) (bI g) 40 (nI i) = some (bI b) ∧ (b = true ↔ ∀ x, i ≤ x → x < m → S.1 263 x = nI t → chk S x (g, (S.1 41, S.1 42)))
  | 0, i, f, hk, hf => by
    obtain ⟨f, rfl⟩ : ∃ g, f = g + 1 := ⟨f - 1, by omega⟩
    have hm := H.1
    refine ⟨true, ?_, fun _ x h1 h2 => by omega, fun _ => rfl⟩
    rw [f_X6_agree_b3, g260_6, Option.bind_some, H.2.1, if_pos (nI_le (by omega) (by omega))]
    rfl
  | k + 1, i, f, hk, hf => by
    obtain ⟨f, rfl⟩ : ∃ g, f = g + 1 := ⟨f - 1, by omega⟩
    have hm := H.1
    obtain ⟨r1, r2, r3, r4, r5, r6, r7, r8, r9⟩ := H.2.2 i (by omega)
    obtain ⟨b, h1, h2⟩ := c_agree_loop (g := g) H ht k (i + 1) f (by omega) (by omega)
    have next : f_X6_agree_b76 (fun h l0 l1 l2 l3 l4 => f_X6_agree_b3 f h l0 l1 l2 l3 l4) (hp S c) 260 (nI t) (bI g) 40 (nI i) = some (bI b) := by
      unfold f_X6_agree_b76
      rw [nI_1]
      exact h1
    have b60 : ∀ s : Bool, s = (g && decide (S.1 41 (6 * tn (S.1 261 i) + tn (S.1 262 i)) = S.1 264 i)) → ∃ b' : Bool, f_X6_agree_b60 (fun h l0 l1 l2 l3 l4 => f_X6_agree_b3 f h l0 l1 l2 l3 l4) (hp S c) 260 (nI t) (bI g) 40 (nI i) (bI s) = some (bI b') ∧ (b' = true ↔ (chk S i (g, (S.1 41, S.1 42)) ∧ b = true)) := fun s hs => by
      unfold f_X6_agree_b60
      rw [g260_4, Option.bind_some, a265 (by omega), Option.bind_some]
      have hc : chk S i (g, (S.1 41, S.1 42)) ↔ bI s = S.1 265 i := by rw [hs]; exact Iff.rfl
      by_cases e : bI s = S.1 265 i
      · refine ⟨b, ?_, fun z => ⟨hc.mpr e, z⟩, fun z => z.2⟩
        rw [if_pos e]
        exact next
      · refine ⟨false, ?_, (fun z => by cases z), fun z => absurd (hc.mp z.1) e⟩
        rw [if_neg e]
        rfl
    rw [f_X6_agree_b3, g260_6, Option.bind_some, H.2.1, if_neg (nI_ge (by omega) (by omega)), g260_2, Option.bind_some, a263 (by omega), Option.bind_some]
    by_cases et : S.1 263 i = nI t
    · have fin : ∀ b' : Bool, (b' = true ↔ (chk S i (g, (S.1 41, S.1 42)) ∧ b = true)) → (b' = true ↔ ∀ x, i ≤ x → x < m → S.1 263 x = nI t → chk S x (g, (S.1 41, S.1 42))) := fun b' hb => by
        rw [hb, h2]
        refine ⟨fun z x x1 x2 x3 => ?_, fun z => ⟨z i (by omega) (by omega) et, fun x x1 x2 x3 => z x (by omega) x2 x3⟩⟩
        by_cases e : x = i
        · rw [e]; exact z.1
        · exact z.2 x (by omega) x2 x3
      rw [if_pos et]
      cases g with
      | false =>
        rw [if_pos (show bI false = 0 from rfl)]
        obtain ⟨b', y1, y2⟩ := b60 false rfl
        exact ⟨b', y1, fin b' y2⟩
      | true =>
        rw [if_neg (show ¬ bI true = 0 by decide), g260_0, Option.bind_some, a261 (by omega), Option.bind_some, g260_1, Option.bind_some, a262 (by omega), Option.bind_some, r2, r4, B40.debt r1 r3, Option.bind_some, g260_3, Option.bind_some, a264 (by omega), Option.bind_some]
        by_cases e : S.1 41 (6 * tn (S.1 261 i) + tn (S.1 262 i)) = S.1 264 i
        · rw [if_pos (show S.1 (40 + 1) (6 * tn (S.1 261 i) + tn (S.1 262 i)) = S.1 264 i from e)]
          obtain ⟨b', y1, y2⟩ := b60 true (by rw [decide_eq_true e]; rfl)
          exact ⟨b', y1, fin b' y2⟩
        · rw [if_neg (show ¬ S.1 (40 + 1) (6 * tn (S.1 261 i) + tn (S.1 262 i)) = S.1 264 i from e)]
          obtain ⟨b', y1, y2⟩ := b60 false (by rw [decide_eq_false e]; rfl)
          exact ⟨b', y1, fin b' y2⟩
    · rw [if_neg et]
      refine ⟨b, next, h2.trans ⟨fun z x x1 x2 x3 => ?_, fun z x x1 x2 x3 => z x (by omega) x2 x3⟩⟩
      by_cases e : x = i
      · rw [e] at x3
        exact absurd x3 et
      · exact z x (by omega) x2 x3
theorem SC.of {S' : XS} (H : SC S m) (h : ∀ a, 260 ≤ a → a ≤ 265 → S'.1 a = S.1 a) : SC S' m := by
  unfold SC at H ⊢
  rw [h 260 (by decide) (by decide), h 261 (by decide) (by decide), h 262 (by decide) (by decide), h 263 (by decide) (by decide), h 264 (by decide) (by decide), h 265 (by decide) (by decide)]
  exact H
theorem chk_cg {S' : XS} {i : Nat} {r r' : Bool × BS} (H : SC S m) (hi : i < m) (h : ∀ a, 260 ≤ a → a ≤ 265 → S'.1 a = S.1 a) (h1 : r.1 = r'.1) (h2 : ∀ k, k < 36 → r.2.1 k = r'.2.1 k) : chk S' i r ↔ chk S i r' := by
  obtain ⟨r1, r2, r3, -⟩ := H.2.2 i hi
  unfold chk
  rw [h 261 (by decide) (by decide), h 262 (by decide) (by decide), h 264 (by decide) (by decide), h 265 (by decide) (by decide), h1, h2 _ (by omega)]
/-- class: does a song agree with all that was seen -/
theorem c_agrees_loop (H : SC S m) (hj : j < 4) (hL : L ≤ 16) (hN : S.1 40 4 = nI N) (h6 : N ≤ 6) (hl : (S.1 40 5).toInt ≤ 99) (sc : sgU S j L dg) {Q0 : BS} (V0 : Vb (S.1 40 5) Q0) : ∀ (k t f : Nat), t + k = 10 → 1 ≤ t → k < f → ∃ (b : Bool) (Q' : BS), f_X11_agrees_b15 f (hp (wB S 40 (fT N (S.1 40 6) (S.1 40 5) dg L (t - 1) Q0).2) c) 0 (nI j) (bI (fT N (S.1 40 6) (S.1 40 5) dg L (t - 1) Q0).1) (nI t) = some (bI b, hp (wB S 40 Q') c) ∧ (b = true ↔ ∀ x, x < m → t ≤ tn (S.1 263 x) → chk S x (fT N (S.1 40 6) (S.1 40 5) dg L (tn (S.1 263 x)) Q0))
  | 0, t, f, hk, ht, hf => by
    obtain ⟨f, rfl⟩ : ∃ g, f = g + 1 := ⟨f - 1, by omega⟩
    refine ⟨true, (fT N (S.1 40 6) (S.1 40 5) dg L (t - 1) Q0).2, ?_, fun _ x h1 h2 => ?_, fun _ => rfl⟩
    · rw [f_X11_agrees_b15, if_pos (show (9 : Int32) < nI t from nI_lt (a := 9) (by omega) (by omega))]
      rfl
    · have := (H.2.2 x h1).2.2.2.2.2.1
      omega
  | k + 1, t, f, hk, ht, hf => by
    obtain ⟨f, rfl⟩ : ∃ g, f = g + 1 := ⟨f - 1, by omega⟩
    have hm := H.1
    have V1 : Vb (S.1 40 5) (fT N (S.1 40 6) (S.1 40 5) dg L (t - 1) Q0).2 := fT_V h6 hl _ _ V0
    have sn := fT_snoc (N := N) (kp := S.1 40 6) (lim := S.1 40 5) (dg := dg) (L := L) (t - 1) Q0
    rw [show t - 1 + 1 = t by omega] at sn
    obtain ⟨b2, Q2, i1, i2⟩ := c_agrees_loop H hj hL hN h6 hl sc V0 k (t + 1) f (by omega) (by omega) (by omega)
    rw [show t + 1 - 1 = t by omega] at i1
    -- the check at this time
    have b58 : ∃ (b : Bool) (Q' : BS), f_X11_agrees_b58 (fun h l0 l1 l2 l3 => f_X11_agrees_b15 f h l0 l1 l2 l3) (hp (wB S 40 (fT N (S.1 40 6) (S.1 40 5) dg L t Q0).2) c) 0 (nI j) (nI t) (bI (fT N (S.1 40 6) (S.1 40 5) dg L t Q0).1) = some (bI b, hp (wB S 40 Q') c) ∧ (b = true ↔ ∀ x, x < m → t ≤ tn (S.1 263 x) → chk S x (fT N (S.1 40 6) (S.1 40 5) dg L (tn (S.1 263 x)) Q0)) := by
      have HW : SC (wB S 40 (fT N (S.1 40 6) (S.1 40 5) dg L t Q0).2) m := H.of fun a h1 h2 => wB_ne (by omega) (by omega)
      obtain ⟨b, a1, a2⟩ := c_agree_loop (c := c) (g := (fT N (S.1 40 6) (S.1 40 5) dg L t Q0).1) HW (show t < 100 by omega) m 0 1048576 (by omega) (by omega)
      have a2' : b = true ↔ ∀ x, x < m → S.1 263 x = nI t → chk S x (fT N (S.1 40 6) (S.1 40 5) dg L t Q0) := by
        rw [a2]
        have hch : ∀ x, x < m → (chk (wB S 40 (fT N (S.1 40 6) (S.1 40 5) dg L t Q0).2) x ((fT N (S.1 40 6) (S.1 40 5) dg L t Q0).1, ((wB S 40 (fT N (S.1 40 6) (S.1 40 5) dg L t Q0).2).1 41, (wB S 40 (fT N (S.1 40 6) (S.1 40 5) dg L t Q0).2).1 42)) ↔ chk S x (fT N (S.1 40 6) (S.1 40 5) dg L t Q0)) := fun x hx => chk_cg H hx (fun a h1 h2 => wB_ne (by omega) (by omega)) rfl (fun k hk => by
          show (wB S 40 (fT N (S.1 40 6) (S.1 40 5) dg L t Q0).2).1 (40 + 1) k = _
          rw [wB_1])
        rw [wB_ne (by decide) (by decide)]
        exact ⟨fun z x x1 x2 => (hch x x1).mp (z x (by omega) x1 x2), fun z x _ x1 x2 => (hch x x1).mpr (z x x1 x2)⟩
      have ag : f_X6_agree (hp (wB S 40 (fT N (S.1 40 6) (S.1 40 5) dg L t Q0).2) c) 260 (nI t) (bI (fT N (S.1 40 6) (S.1 40 5) dg L t Q0).1) 40 = some (bI b) := by
        unfold f_X6_agree
        rw [k260, Option.bind_some]
        exact a1
      unfold f_X11_agrees_b58
      rw [g0_11, Option.bind_some, g0_8, Option.bind_some, ag, Option.bind_some]
      cases b with
      | false =>
        refine ⟨false, _, by rw [if_pos (show bI false = 0 from rfl)]; rfl, (fun z => by cases z), fun z => ?_⟩
        refine a2'.mpr fun x x1 x2 => ?_
        have := z x x1 (by rw [x2, tn_nI (by omega)]; omega)
        rw [x2, tn_nI (by omega)] at this
        exact this
      | true =>
        refine ⟨b2, Q2, ?_, i2.trans ⟨fun z x x1 x2 => ?_, fun z x x1 x2 => z x x1 (by omega)⟩⟩
        · rw [if_neg (show ¬ bI true = 0 by decide), nI_1]
          exact i1
        · by_cases e : tn (S.1 263 x) = t
          · rw [e]
            refine a2'.mp rfl x x1 ?_
            rw [← e]
            exact (H.2.2 x x1).2.2.2.2.2.2.1
          · exact z x x1 (by omega)
    rw [f_X11_agrees_b15, if_neg (show ¬ (9 : Int32) < nI t from (nI_nlt (by omega) (by decide) : ¬ nI 9 < nI t))]
    cases hg : (fT N (S.1 40 6) (S.1 40 5) dg L (t - 1) Q0).1 with
    | false =>
      rw [hg, if_neg (show ¬ false = true by decide)] at sn
      rw [if_pos (show bI false = 0 from rfl)]
      unfold f_X11_agrees_b57
      rw [sn] at b58
      exact b58
    | true =>
      rw [hg, if_pos rfl] at sn
      rw [if_neg (show ¬ bI true = 0 by decide), g0_8, Option.bind_some, g0_5, Option.bind_some, g23_0, Option.bind_some, a25 hj, Option.bind_some, Option.bind_some, g23_1, Option.bind_some, a24 hj, Option.bind_some, wB_ne (by decide) (by decide), sc.1, Nat.one_mul, c_follow hj hL hN h6 hl sc V1, Option.bind_some, ← sn]
      cases hb : (fT N (S.1 40 6) (S.1 40 5) dg L t Q0).1 with
      | false =>
        rw [if_pos (show bI false = 0 from rfl)]
        unfold f_X11_agrees_b57
        rw [hb] at b58
        exact b58
      | true =>
        rw [if_neg (show ¬ bI true = 0 by decide)]
        rw [hb] at b58
        exact b58
/-- a song fits -/
def fitB (S : XS) (N : Nat) (kt lim : Int32) (m : Nat) (dg : Nat → Nat) (L : Nat) : Bool := !anyB (fun x => !chkB S x (fT N kt lim dg L (tn (S.1 263 x)) (S.1 36, S.1 37))) m
theorem c_agrees {F : Nat} {kt : Int32} (T : TD S N F lim kt) (H : SC S m) (hj : j < 4) (hL : L ≤ 16) (h6 : N ≤ 6) (hl : lim.toInt ≤ 99) (sc : sgU S j L dg) : ∃ S', f_X11_agrees (hp S c) 0 (nI j) = some (bI (fitB S N kt lim m dg L), hp S' c) ∧ fr 40 44 S' S := by
  obtain ⟨S1, e1, e2, e3, e4, e5, e6, e7⟩ := ap_told (c := c) T
  have sc1 : sgU S1 j L dg := ⟨by rw [e2.1 24 (by omega)]; exact sc.1, fun k hk => ⟨(sc.2 k hk).1, by rw [e2.1 (26 + j) (by omega)]; exact (sc.2 k hk).2⟩⟩
  obtain ⟨b, Q', a1, a2⟩ := c_agrees_loop (S := S1) (c := c) (Q0 := (S1.1 41, S1.1 42)) (H.of fun a h1 h2 => e2.1 a (by omega)) hj hL e3 h6 (by rw [e4]; exact hl) sc1 (by rw [e4]; exact e7) 9 1 1048576 (by decide) (by decide) (by decide)
  rw [e4, e5] at a1 a2
  have a1' : f_X11_agrees_b15 1048576 (hp (wB S1 40 (S1.1 41, S1.1 42)) c) 0 (nI j) (bI true) (nI 1) = some (bI b, hp (wB S1 40 Q') c) := a1
  rw [show wB S1 40 (S1.1 41, S1.1 42) = S1 from wB_self] at a1'
  have eb : b = fitB S N kt lim m dg L := Bool.eq_iff_iff.mpr (by
    unfold fitB
    rw [a2, any_iff2, e2.1 263 (by omega)]
    have hc : ∀ x, x < m → (chk S1 x (fT N kt lim dg L (tn (S.1 263 x)) (S1.1 41, S1.1 42)) ↔ chk S x (fT N kt lim dg L (tn (S.1 263 x)) (S.1 36, S.1 37))) := fun x hx => by
      have cg := fT_congr (kp := kt) (lim := lim) (dg := dg) (L := L) h6 (tn (S.1 263 x)) _ _ e6
      exact chk_cg H hx (fun a h1 h2 => e2.1 a (by omega)) cg.1 cg.2.1
    exact ⟨fun z x hx => chkB_iff.mpr ((hc x hx).mp (z x hx (H.2.2 x hx).2.2.2.2.1)), fun z x hx _ => (hc x hx).mpr (chkB_iff.mp (z x hx))⟩)
  refine ⟨wB S1 40 Q', ?_, e2.trans wB_fr⟩
  unfold f_X11_agrees
  rw [k0, Option.bind_some, g0_8, Option.bind_some, g0_7, Option.bind_some, e1, Option.bind_some, ← eb]
  exact a1'
end FI2
