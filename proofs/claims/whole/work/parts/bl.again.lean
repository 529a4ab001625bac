/-! AGAIN -/
section AGN
variable {S : XS} {c : Nat × Nat} {n N j L : Nat} {kp lim : Int32} {dg : Nat → Nat}
theorem r_same_loop {U : XS} {t : Nat} (ht : t ≤ 51) : ∀ (m k f : Nat), k + m = t → m < f → ∃ b : Bool, f_X12_areSame_b2 f (hp U c) 365 364 (nI t) (nI k) = some (bI b) ∧ (b = true ↔ ∀ i, k ≤ i → i < t → U.1 365 i = U.1 364 i)
  | 0, k, f, hk, hf => by
    obtain ⟨f, rfl⟩ : ∃ g, f = g + 1 := ⟨f - 1, by omega⟩
    refine ⟨true, ?_, fun _ i h1 h2 => by omega, fun _ => rfl⟩
    rw [f_X12_areSame_b2, if_pos (nI_le (by omega) (by omega))]
    rfl
  | m + 1, k, f, hk, hf => by
    obtain ⟨f, rfl⟩ : ∃ g, f = g + 1 := ⟨f - 1, by omega⟩
    rw [f_X12_areSame_b2, if_neg (nI_ge (by omega) (by omega)), a365 (by omega), Option.bind_some, a364 (by omega), Option.bind_some]
    by_cases e : U.1 365 k = U.1 364 k
    · obtain ⟨b, h1, h2⟩ := r_same_loop ht m (k + 1) f (by omega) (by omega)
      refine ⟨b, ?_, fun hb i i1 i2 => ?_, fun h => h2.mpr fun i i1 i2 => h i (by omega) i2⟩
      · rw [if_pos e, nI_1]
        exact h1
      · by_cases z : i = k
        · rw [z]; exact e
        · exact h2.mp hb i (by omega) i2
    · refine ⟨false, ?_, (fun z => by cases z), fun h => absurd (h k (by omega) (by omega)) e⟩
      rw [if_neg e]
      rfl
theorem r_same {U : XS} {t : Nat} (ht : t ≤ 51) : ∃ b : Bool, f_X12_areSame (hp U c) 365 364 (nI t) = some (bI b) ∧ (b = true ↔ ∀ i, i < t → U.1 365 i = U.1 364 i) := by
  obtain ⟨b, h1, h2⟩ := r_same_loop (c := c) (U := U) ht t 0 1048576 (by omega) (by omega)
  exact ⟨b, h1, h2.trans ⟨fun h i hi => h i (by omega) hi, fun h i _ hi => h i hi⟩⟩
/-- all stands as it stood -/
def bk (N : Nat) (w : Bool) (Q Q0 : BS) : Bool := !anyB (fun k => !decide (Q.1 k = Q0.1 k)) 36 && (!w || !anyB (fun k => !decide (Q.2 k = Q0.2 k)) N)
theorem any_iff {P : Nat → Prop} [∀ k, Decidable (P k)] {m : Nat} : (!anyB (fun k => !decide (P k)) m) = true ↔ ∀ k, k < m → P k := by
  rw [Bool.not_eq_true', anyB_no]
  refine ⟨fun h k hk => ?_, fun h k hk => ?_⟩
  · have := h k hk
    rw [Bool.not_eq_false'] at this
    exact of_decide_eq_true this
  · rw [decide_eq_true (h k hk)]
    rfl
theorem bk_iff {w : Bool} {Q Q0 : BS} : bk N w Q Q0 = true ↔ (∀ k, k < 36 → Q.1 k = Q0.1 k) ∧ (w = true → ∀ k, k < N → Q.2 k = Q0.2 k) := by
  unfold bk
  rw [Bool.and_eq_true, any_iff, Bool.or_eq_true, any_iff]
  cases w
  · exact ⟨fun h => ⟨h.1, fun z => by cases z⟩, fun h => ⟨h.1, Or.inl rfl⟩⟩
  · exact ⟨fun h => ⟨h.1, fun _ => h.2.resolve_left (fun z => by cases z)⟩, fun h => ⟨h.1, Or.inr (h.2 rfl)⟩⟩
theorem fol_far : ∀ (m k : Nat) (Q : BS) (i : Nat), N ≤ i → (fol N kp lim dg m k Q).2.2 i = Q.2 i
  | 0, _, Q, i, _ => rfl
  | m + 1, k, Q, i, hi => by
    show (if can N kp lim Q (dg k) then fol N kp lim dg m (k + 1) (crs N Q (dg k)) else (false, Q)).2.2 i = _
    split
    · rename_i h
      have hx := (can_x h).1
      rw [fol_far m (k + 1) _ i hi]
      show upd Q.2 (dg k) _ i = _
      rw [upd_ne (by omega)]
    · rfl
def agS (N : Nat) (kp lim : Int32) (dg : Nat → Nat) (L : Nat) (w : Bool) (Q0 : BS) : Nat → Nat → BS → Int32
  | 0, _, _ => -1
  | m + 1, k, Q => if (fol N kp lim dg L 0 Q).1 then (if bk N w (fol N kp lim dg L 0 Q).2 Q0 then nI k else agS N kp lim dg L w Q0 m (k + 1) (fol N kp lim dg L 0 Q).2) else -1
theorem c_again {w : Bool} (hj : j < 4) (hL : L ≤ 16) (hN : S.1 40 4 = nI N) (h6 : N ≤ 6) (hl : (S.1 40 5).toInt ≤ 99) (sc : sgU S j L dg) : ∀ (m k f : Nat) (Q : BS), k + m = 61 → m < f → Vb (S.1 40 5) Q → ∃ Q', f_X11_again_b45 f (hp (wB S 40 Q) c) 0 (nI j) (bI w) (nI k) = some (agS N (S.1 40 6) (S.1 40 5) dg L w (S.1 31, S.1 32) m k Q, hp (wB S 40 Q') c)
  | 0, k, f, Q, hk, hf, V => by
    obtain ⟨f, rfl⟩ : ∃ g, f = g + 1 := ⟨f - 1, by omega⟩
    refine ⟨Q, ?_⟩
    rw [f_X11_again_b45, if_pos (show (60 : Int32) < nI k from nI_lt (a := 60) (by omega) (by omega))]
    rfl
  | m + 1, k, f, Q, hk, hf, V => by
    obtain ⟨f, rfl⟩ : ∃ g, f = g + 1 := ⟨f - 1, by omega⟩
    rw [f_X11_again_b45, if_neg (show ¬ (60 : Int32) < nI k from (nI_nlt (by omega) (by decide) : ¬ nI 60 < nI k)), g0_8, Option.bind_some, g0_5, Option.bind_some, g23_0, Option.bind_some, a25 hj, Option.bind_some, Option.bind_some, g23_1, Option.bind_some, a24 hj, Option.bind_some, wB_ne (by decide) (by decide), sc.1, Nat.one_mul, c_follow hj hL hN h6 hl sc V, Option.bind_some]
    show ∃ Q', _ = some (if (fol N (S.1 40 6) (S.1 40 5) dg L 0 Q).1 then (if bk N w (fol N (S.1 40 6) (S.1 40 5) dg L 0 Q).2 (S.1 31, S.1 32) then nI k else agS N (S.1 40 6) (S.1 40 5) dg L w (S.1 31, S.1 32) m (k + 1) (fol N (S.1 40 6) (S.1 40 5) dg L 0 Q).2) else -1, hp (wB S 40 Q') c)
    have V' := Vb_fol (dg := dg) (kp := S.1 40 6) h6 hl L 0 Q V
    generalize fol N (S.1 40 6) (S.1 40 5) dg L 0 Q = r at V'
    obtain ⟨b, Q1⟩ := r
    cases b with
    | false =>
      refine ⟨Q1, ?_⟩
      rw [if_pos (show bI false = 0 from rfl), if_neg (show ¬ false = true by decide)]
    | true =>
      rw [if_neg (show ¬ bI true = 0 by decide), if_pos rfl, g0_8, Option.bind_some, g0_6, Option.bind_some, B40.hasDebtsOf B30, Option.bind_some, wB_1, wB_ne (show 30 + 1 ≠ 40 + 1 by decide) (by decide)]
      have next : ∀ Q0 : BS, bk N w Q1 Q0 = false → ∃ Q', f_X11_again_b115 (fun h l0 l1 l2 l3 => f_X11_again_b45 f h l0 l1 l2 l3) (hp (wB S 40 Q1) c) 0 (nI j) (bI w) (nI k) = some (if bk N w Q1 Q0 = true then nI k else agS N (S.1 40 6) (S.1 40 5) dg L w (S.1 31, S.1 32) m (k + 1) Q1, hp (wB S 40 Q') c) := fun Q0 hb => by
        obtain ⟨Q', h⟩ := c_again hj hL hN h6 hl sc m (k + 1) f Q1 (by omega) (by omega) V'
        refine ⟨Q', ?_⟩
        unfold f_X11_again_b115
        rw [nI_1, hb, if_neg (show ¬ false = true by decide)]
        exact h
      cases hd : (!anyB (fun k => !decide (Q1.1 k = S.1 31 k)) 36) with
      | false =>
        rw [if_pos (show bI false = 0 from rfl)]
        exact next (S.1 31, S.1 32) (by unfold bk; rw [hd]; rfl)
      | true =>
        rw [if_neg (show ¬ bI true = 0 by decide)]
        cases w with
        | false =>
          refine ⟨Q1, ?_⟩
          rw [if_pos (show bI false = 0 from rfl), show bk N false Q1 (S.1 31, S.1 32) = true by unfold bk; rw [hd]; rfl, if_pos rfl]
          rfl
        | true =>
          rw [if_neg (show ¬ bI true = 0 by decide), Option.bind_some, Option.bind_some, B40.hasWorthsOf B30 (N := N) (by rw [wB_ne (by decide) (by decide)]; exact hN) h6, Option.bind_some, wB_2, wB_ne (show 30 + 2 ≠ 40 + 1 by decide) (by decide)]
          cases hw : (!anyB (fun k => !decide (Q1.2 k = S.1 32 k)) N) with
          | false =>
            rw [if_pos (show bI false = 0 from rfl)]
            exact next (S.1 31, S.1 32) (by unfold bk; rw [hd, hw]; rfl)
          | true =>
            refine ⟨Q1, ?_⟩
            rw [if_neg (show ¬ bI true = 0 by decide), show bk N true Q1 (S.1 31, S.1 32) = true by unfold bk; rw [hd, hw]; rfl, if_pos rfl]
            rfl
theorem r_again {w : Bool} {Q0 : BS} (hj : j < 4) (hL : L ≤ 16) (hdg : ∀ k, k < L → dg k < 10) (h6 : N ≤ 6) (hl : lim.toInt ≤ 99) : ∀ (m k f : Nat) (S : XS) (Q : BS), k + m = 61 → m < f → prR S N kp lim Q → Vb lim Q → sgV S j L dg → eqB (rwB (S.1 364)) Q0 → (∀ i, N ≤ i → i < 6 → Q.2 i = Q0.2 i) → ∃ S', f_X12_again_b45 f (hp S c) 351 (nI j) (bI w) (nI k) = some (agS N kp lim dg L w Q0 m k Q, hp S' c) ∧ frS S' S
  | 0, k, f, S, Q, hk, hf, H, V, sr, hq, hfar => by
    obtain ⟨f, rfl⟩ : ∃ g, f = g + 1 := ⟨f - 1, by omega⟩
    refine ⟨S, ?_, fun _ _ _ => rfl⟩
    rw [f_X12_again_b45, if_pos (show (60 : Int32) < nI k from nI_lt (a := 60) (by omega) (by omega))]
    rfl
  | m + 1, k, f, S, Q, hk, hf, H, V, sr, hq, hfar => by
    obtain ⟨f, rfl⟩ : ∃ g, f = g + 1 := ⟨f - 1, by omega⟩
    obtain ⟨S1, y1, y2, y3⟩ := r_sings (c := c) hj hL hdg h6 hl H V sr
    have V' := Vb_fol (dg := dg) (kp := kp) h6 hl L 0 Q V
    have F' : ∀ i, N ≤ i → i < 6 → (fol N kp lim dg L 0 Q).2.2 i = Q0.2 i := fun i h1 h2 => by rw [fol_far L 0 Q i h1]; exact hfar i h1 h2
    rw [f_X12_again_b45, if_neg (show ¬ (60 : Int32) < nI k from (nI_nlt (by omega) (by decide) : ¬ nI 60 < nI k)), g351_33, Option.bind_some, y1, Option.bind_some]
    show ∃ S', _ = some (if (fol N kp lim dg L 0 Q).1 then (if bk N w (fol N kp lim dg L 0 Q).2 Q0 then nI k else agS N kp lim dg L w Q0 m (k + 1) (fol N kp lim dg L 0 Q).2) else -1, hp S' c) ∧ frS S' S
    generalize fol N kp lim dg L 0 Q = r at V' y2 F'
    obtain ⟨b, Q1⟩ := r
    cases b with
    | false =>
      refine ⟨S1, ?_, y3⟩
      rw [if_pos (show bI false = 0 from rfl), if_neg (show ¬ false = true by decide)]
    | true =>
      rw [if_neg (show ¬ bI true = 0 by decide), if_pos rfl, g351_33, Option.bind_some, g351_32, Option.bind_some]
      have e364 : eqB (rwB (S1.1 364)) Q0 := by rw [y3 364 (by decide) (by decide)]; exact hq
      have sm : ∃ b : Bool, f_X12_areSame (hp S1 c) 365 364 (if bI w = 0 then 36 else 42) = some (bI b) ∧ b = bk N w Q1 Q0 := by
        cases w with
        | false =>
          obtain ⟨b, h1, h2⟩ := r_same (c := c) (U := S1) (t := 36) (by decide)
          refine ⟨b, h1, Bool.eq_iff_iff.mpr ?_⟩
          rw [h2, bk_iff]
          refine ⟨fun h => ⟨fun i hi => ?_, (fun z => by cases z)⟩, fun h i hi => ?_⟩
          · exact ((y2.2.2.2.1 i hi).symm.trans (h i hi)).trans (e364.1 i hi)
          · exact (y2.2.2.2.1 i hi).trans ((h.1 i hi).trans (e364.1 i hi).symm)
        | true =>
          obtain ⟨b, h1, h2⟩ := r_same (c := c) (U := S1) (t := 42) (by decide)
          refine ⟨b, h1, Bool.eq_iff_iff.mpr ?_⟩
          rw [h2, bk_iff]
          refine ⟨fun h => ⟨fun i hi => ?_, fun _ i hi => ?_⟩, fun h i hi => ?_⟩
          · exact ((y2.2.2.2.1 i hi).symm.trans (h i (by omega))).trans (e364.1 i hi)
          · exact ((y2.2.2.2.2 i (by omega)).symm.trans (h (36 + i) (by omega))).trans (e364.2 i (by omega))
          · by_cases h36 : i < 36
            · exact (y2.2.2.2.1 i h36).trans ((h.1 i h36).trans (e364.1 i h36).symm)
            · obtain ⟨i, rfl⟩ : ∃ k, i = 36 + k := ⟨i - 36, by omega⟩
              have a1 := y2.2.2.2.2 i (by omega)
              have a2 := e364.2 i (by omega)
              by_cases hiN : i < N
              · exact a1.trans ((h.2 rfl i hiN).trans a2.symm)
              · exact a1.trans ((F' i (by omega) (by omega)).trans a2.symm)
      obtain ⟨b, s1, s2⟩ := sm
      have fin : ∃ S', (f_X12_again_b84 (fun h l0 l1 l2 l3 => f_X12_again_b45 f h l0 l1 l2 l3) (hp S1 c) 351 (nI j) (bI w) (nI k) (if bI w = 0 then 36 else 42) 364 365) = some (if bk N w Q1 Q0 = true then nI k else agS N kp lim dg L w Q0 m (k + 1) Q1, hp S' c) ∧ frS S' S := by
        unfold f_X12_again_b84
        rw [s1, Option.bind_some, ← s2]
        cases b with
        | true =>
          refine ⟨S1, ?_, y3⟩
          rw [if_neg (show ¬ bI true = 0 by decide), if_pos rfl]
        | false =>
          obtain ⟨S', z1, z2⟩ := r_again (w := w) (Q0 := Q0) hj hL hdg h6 hl m (k + 1) f S1 Q1 (by omega) (by omega) y2 V' (by
            unfold sgV
            rw [y3 363 (by decide) (by decide), y3 362 (by decide) (by decide)]
            exact sr) e364 F'
          refine ⟨S', ?_, fun a h1 h2 => by rw [z2 a h1 h2, y3 a h1 h2]⟩
          rw [if_pos (show bI false = 0 from rfl), if_neg (show ¬ false = true by decide), nI_1]
          exact z1
      cases w with
      | false =>
        rw [if_pos (show bI false = 0 from rfl)]
        exact fin
      | true =>
        rw [if_neg (show ¬ bI true = 0 by decide)]
        exact fin
theorem pr_again (R : RR n (pj S)) (i w : Int32) : PQ n c (fun h => f_X11_again h 0 i w) (fun h => f_X12_again h 351 i w) S := by
  obtain ⟨N, W⟩ := R.now
  have h6 := W.2.1
  have hl := W.2.2.2.2.2.1
  have hN := W.2.2.2.2.2.2.1
  have h26 := W.2.2.1
  obtain ⟨ns, sl, dg, G⟩ := R.songs
  have g1 := G.1
  have g2 := G.2.1
  have g3 := G.2.2.1
  by_cases hall : inN ns i = true ∧ N ≠ 0 ∧ inN 2 w = true
  · obtain ⟨q1, q2, q3⟩ := hall
    obtain ⟨j, hj, rfl⟩ := inN_x q1 (by omega)
    obtain ⟨v, rfl⟩ : ∃ b : Bool, w = bI b := by
      obtain ⟨x, hx, rfl⟩ := inN_x q3 (by decide)
      rcases (by omega : x = 0 ∨ x = 1) with rfl | rfl
      · exact ⟨false, rfl⟩
      · exact ⟨true, rfl⟩
    have nz : ¬ nI N = 0 := nI_ne0 (by omega) (by omega)
    obtain ⟨S0, e1, e2, e3, e4, e5, e6, e7⟩ := ap_begin (c := c) W
    obtain ⟨l1, l2, l3, l4, l5⟩ := G.2.2.2 j hj
    have sc : sgU S0 j (sl j) (dg j) := ⟨by rw [e2.1 24 (by omega)]; exact l3, fun k hk => ⟨(l5 k hk).1, by rw [e2.1 (26 + j) (by omega)]; exact (l5 k hk).2.1⟩⟩
    obtain ⟨Q', h⟩ := c_again (c := c) (w := v) (by omega) l2 e3 h6 (by rw [e4]; exact hl) sc 60 1 1048576 (S0.1 41, S0.1 42) (by decide) (by decide) (by rw [e4]; exact e7)
    rw [e4, e5, show wB S0 40 (S0.1 41, S0.1 42) = S0 from wB_self, e2.1 31 (by omega), e2.1 32 (by omega)] at h
    have fr1 : fr 40 44 (wB S0 40 Q') S := e2.trans wB_fr
    have eS : eqB (S.1 31, S.1 32) (rwB (S.1 364)) := ⟨W.D, W.U⟩
    have u26 : (T0 (wB S0 40 Q')).1 351 26 = S.1 351 26 := by rw [T0_351 (by decide), fr1.1 351 (by omega)]
    have ua : ∀ a, 352 ≤ a → (T0 (wB S0 40 Q')).1 a = S.1 a := fun a ha => by rw [T0_ne (by omega), fr1.1 a (by omega)]
    obtain ⟨U1, y1, y2, y3⟩ := rf_begin (c := c) W u26 ua e6
    obtain ⟨U2, z1, z2⟩ := r_again (c := c) (w := v) (Q0 := (S.1 31, S.1 32)) (j := j) (dg := dg j) (by omega) l2 (fun k hk => (l5 k hk).1) h6 hl 60 1 1048576 U1 (S0.1 41, S0.1 42) (by decide) (by decide) y2 e7 (by
      unfold sgV
      rw [y3 363 (by decide) (by decide), y3 362 (by decide) (by decide), ua 363 (by decide), ua 362 (by decide)]
      exact ⟨l4, fun k hk => (l5 k hk).2.2⟩) (by rw [y3 364 (by decide) (by decide), ua 364 (by decide)]; exact eS.symm) (fun i _ hi => (e6.2 i hi).trans (eS.2 i hi).symm)
    refine PQ.same (S1 := wB S0 40 Q') (S2 := U2) (v := agS N (S.1 364 48) (S.1 356 1) (dg j) (sl j) v (S.1 31, S.1 32) 60 1 (S0.1 41, S0.1 42)) R ?_ ?_ (pj_fr fr1 sc40) (by rw [frS_pj z2, frS_pj y3, T0_pj])
    · show f_X11_again (hp S c) 0 (nI j) (bI v) = _
      unfold f_X11_again
      rw [k0, Option.bind_some, g0_5, Option.bind_some, song_c g2 g1, Option.bind_some, q1, if_neg (show ¬ bI true = 0 by decide), g0_6, Option.bind_some, B30.g4, Option.bind_some, hN, if_neg nz, if_neg (show ¬ bI v < 0 by cases v <;> decide), if_pos (show bI v ≤ 1 by cases v <;> decide), g0_8, Option.bind_some, Option.bind_some, e1, Option.bind_some]
      exact h
    · show f_X12_again (hp (wB S0 40 Q') c) 351 (nI j) (bI v) = _
      unfold f_X12_again
      rw [k351, Option.bind_some, T0_p, Option.bind_some, song_r (by rw [T0_351 (by decide), fr1.1 351 (by omega)]; exact g3) g1, Option.bind_some, q1, if_neg (show ¬ bI true = 0 by decide), g351_26, Option.bind_some, u26, h26, if_neg nz, isIn_b (m := 1) (u := 1) (by decide) rfl, Option.bind_some, q3, if_neg (show ¬ bI true = 0 by decide), g351_32, Option.bind_some, g351_33, Option.bind_some, y1, Option.bind_some]
      exact z1
  · have hT : (T0 S).1 351 26 = nI N := by rw [T0_351 (by decide)]; exact h26
    refine PQ.same (S1 := S) (S2 := T0 S) (v := -1) R ?_ ?_ rfl T0_pj
    · show f_X11_again (hp S c) 0 i w = _
      unfold f_X11_again
      rw [k0, Option.bind_some, g0_5, Option.bind_some, song_c g2 g1, Option.bind_some]
      cases q1 : inN ns i with
      | false => rw [if_pos (show bI false = 0 from rfl)]
      | true =>
        rw [if_neg (show ¬ bI true = 0 by decide), g0_6, Option.bind_some, B30.g4, Option.bind_some, hN]
        by_cases hN0 : N = 0
        · rw [hN0, if_pos (show nI 0 = 0 from rfl)]
        · rw [if_neg (nI_ne0 (by omega) (by omega))]
          have q3 : inN 2 w = false := by
            cases q3 : inN 2 w with
            | false => rfl
            | true => exact absurd ⟨q1, hN0, q3⟩ hall
          unfold inN at q3
          by_cases a : w < 0
          · rw [if_pos a]
          · rw [if_neg a]
            rw [decide_eq_false a] at q3
            by_cases b : nI 2 ≤ w
            · rw [if_neg (show ¬ w ≤ (1 : Int32) from fun z => ?_)]
              rw [Int32.le_iff_toInt_le] at b z
              rw [nI_toInt (by decide)] at b
              rw [show (1 : Int32).toInt = 1 from rfl] at z
              omega
            · rw [decide_eq_false b] at q3
              cases q3
    · show f_X12_again (hp S c) 351 i w = _
      unfold f_X12_again
      rw [k351, Option.bind_some, T0_p, Option.bind_some, song_r (by rw [T0_351 (by decide)]; exact g3) g1, Option.bind_some]
      cases q1 : inN ns i with
      | false => rw [if_pos (show bI false = 0 from rfl)]
      | true =>
        rw [if_neg (show ¬ bI true = 0 by decide), g351_26, Option.bind_some, hT]
        by_cases hN0 : N = 0
        · rw [hN0, if_pos (show nI 0 = 0 from rfl)]
        · rw [if_neg (nI_ne0 (by omega) (by omega)), isIn_b (m := 1) (u := 1) (by decide) rfl, Option.bind_some]
          cases q3 : inN 2 w with
          | false => rw [if_pos (show bI false = 0 from rfl)]
          | true => exact absurd ⟨q1, hN0, q3⟩ hall
end AGN
