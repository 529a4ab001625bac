/-! SING -/
section SNG
variable {S V S0 : XS} {c : Nat × Nat} {n N x j L : Nat} {dg : Nat → Nat}
theorem can_r (R : RR n (pj (mg S V))) (hN : S.1 30 4 = nI N) (h6 : N ≤ 6) (hx : x < 2 ^ 31) : ∃ g, f_X12_can (hp V c) 351 364 (nI x) = some (bI (can N (S.1 30 6) (S.1 30 5) (S.1 31, S.1 32) x), hp (wA V 367 g) c) ∧ RR n (pj (mg S (wA V 367 g))) := by
  obtain ⟨N', lim, kp, W⟩ := R.tw
  have eN := W.eqN hN h6
  subst eN
  obtain ⟨t1, t2, t3, t4, t5, t6, t7, t8, t9, tE, tV, tZ, t49, tc, t34, t33⟩ := W
  obtain ⟨g, hg⟩ := r_can (S := V) (c := c) (a := 364) (x := x) (Or.inl rfl) t3 h6 hx tV.1 (by rw [t4]; exact tV.2.1)
  refine ⟨g, ?_, mg_to R fun a ha => ?_⟩
  · rw [hg, t9, t4, t8, t7, can_congr h6 tE]
  · by_cases e : a = 367
    · subst e
      exact pj_no sc367
    · exact pj_eq (wA_ne e)
/-- the words of a song, class and reference -/
def sgU (S : XS) (j L : Nat) (dg : Nat → Nat) : Prop := S.1 24 j = nI L ∧ ∀ k, k < L → dg k < 10 ∧ S.1 (26 + j) k = nI (dg k)
def sgV (V : XS) (j L : Nat) (dg : Nat → Nat) : Prop := V.1 363 j = nI L ∧ ∀ k, k < L → V.1 362 (16 * j + k) = nI (dg k)
theorem sing_loop (hj : j < 4) (hL : L ≤ 16) (h6 : N ≤ 6) : ∀ (m k : Nat) (S : XS), k + m = L → (∃ V, RR n (pj (mg S V))) → S.1 30 4 = nI N → sgU S j L dg → ∃ v S', (∀ f, m < f → f_X11_sing_b32 f (hp S c) 0 (nI j) (nI k) (nI k) = some (v, hp S' c)) ∧ (∀ a, 351 ≤ a → S'.1 a = S.1 a) ∧ ∀ V, RR n (pj (mg S V)) → sgV V j L dg → ∀ f, m < f → ∃ V', f_X12_sing_b29 f (hp V c) 351 (nI j) (nI k) = some (v, hp V' c) ∧ (∀ a, a < 351 → V'.1 a = V.1 a) ∧ RR n (pj (mg S' V'))
  | 0, k, S, hk, _, hN, sc => by
    refine ⟨nI k, S, fun f hf => ?_, fun _ _ => rfl, fun V R sr f hf => ⟨V, ?_, fun _ _ => rfl, R⟩⟩
    · obtain ⟨f, rfl⟩ : ∃ g, f = g + 1 := ⟨f - 1, by omega⟩
      rw [f_X11_sing_b32, g0_5, Option.bind_some, g23_1, Option.bind_some, a24 hj, Option.bind_some, sc.1, if_pos (nI_le (by omega) (by omega))]
      rfl
    · obtain ⟨f, rfl⟩ : ∃ g, f = g + 1 := ⟨f - 1, by omega⟩
      rw [f_X12_sing_b29, g351_25, Option.bind_some, a363 (by omega), Option.bind_some, sr.1, if_pos (nI_le (by omega) (by omega))]
  | m + 1, k, S, hk, ⟨V0, R0⟩, hN, sc => by
    have hkL : k < L := by omega
    obtain ⟨hd, hdS⟩ := sc.2 k hkL
    have clsH : ∀ f, f_X11_sing_b32 (f + 1) (hp S c) 0 (nI j) (nI k) (nI k) = (f_X11_costOf (hp S c) 0 (nI (dg k))).bind fun q9 => (f_X11_hurdleOf q9.2 0 (nI (dg k)) q9.1).bind fun q10 => if q10 = (-1 : Int32) then (f_X11_crossFor q9.2 0 (nI (dg k)) q9.1).bind fun q12 => f_X11_sing_b32 f q12 0 (nI j) (nI (k + 1)) (nI (k + 1)) else f_X11_sing_b98 q9.2 (nI k) := fun f => by
      rw [f_X11_sing_b32, g0_5, Option.bind_some, g23_1, Option.bind_some, a24 hj, Option.bind_some, sc.1, if_neg (nI_ge (by omega) (by omega)), Option.bind_some, g23_0, Option.bind_some, a25 hj, Option.bind_some, Nat.one_mul, a26s hj (by omega), Option.bind_some, hdS, nI_1]
    have refH : ∀ V, sgV V j L dg → ∀ f, f_X12_sing_b29 (f + 1) (hp V c) 351 (nI j) (nI k) = (f_X12_can (hp V c) 351 364 (nI (dg k))).bind fun q7 => if q7.1 = 0 then f_X12_sing_b91 q7.2 (nI k) else (gR [12] 32 q7.2 351).bind fun x9 => (aI q7.2 x9 (49 : Int32)).bind fun x10 => (f_X12_cost q7.2 351 (nI (dg k))).bind fun q11 => if x10 < q11.1 then f_X12_sing_b91 q11.2 (nI k) else (gR [12] 32 q11.2 351).bind fun x13 => (aI q11.2 x13 (50 : Int32)).bind fun x14 => if x14 = (9999 : Int32) then f_X12_sing_b91 q11.2 (nI k) else (f_X12_pays q11.2 351 (nI (dg k))).bind fun q16 => f_X12_sing_b29 f q16 351 (nI j) (nI (k + 1)) := fun V sr f => by
      rw [f_X12_sing_b29, g351_25, Option.bind_some, a363 (by omega), Option.bind_some, sr.1, if_neg (nI_ge (by omega) (by omega)), g351_24, Option.bind_some, ix16, a362 (by omega), Option.bind_some, sr.2 k hkL, g351_32, Option.bind_some, nI_1]
    obtain ⟨N', lim, kp, W⟩ := R0.tw
    have eN := (W.eqN hN h6).symm
    subst eN
    by_cases hx : dg k < N
    · obtain ⟨S0, e1, e2, e3, e4⟩ := hur_c (c := c) R0 hN h6 hx
      have e30 := e2 30 (by decide) (by decide)
      have hcs := stp_can (kp := S.1 30 6) (lim := S.1 30 5) (Q := (S.1 31, S.1 32)) hx
      by_cases hs : stp N (S.1 30 6) (S.1 30 5) (S.1 31, S.1 32) (dg k) = -1
      · rw [decide_eq_true hs] at hcs
        obtain ⟨cr, q1, q2, q3, q4⟩ := W.2.2.2.2.2.2.2.2.2.2.2.2.2.1
        -- coins and crossings on the other side
        have oth : ∀ V, RR n (pj (mg S V)) → V.1 364 49 = S.1 30 7 ∧ V.1 364 50 = nI cr := fun V R => by
          obtain ⟨N3, lim3, kp3, W3⟩ := R.tw
          obtain ⟨cr3, a1, a2, a3, a4⟩ := W3.2.2.2.2.2.2.2.2.2.2.2.2.2.1
          rw [q2] at a2
          rw [← a2] at a3
          exact ⟨W3.2.2.2.2.2.2.2.2.2.2.2.2.1.symm, a3⟩
        by_cases hv : cc S N (dg k) ≤ S.1 30 7
        · by_cases h9 : cr = 9999
          · have he : hdl (stp N (S.1 30 6) (S.1 30 5) (S.1 31, S.1 32) (dg k)) (cc S N (dg k)) (S.1 30 7) (S.1 30 8) = 5 := by
              unfold hdl
              rw [if_pos hs, if_pos hv, q2, h9, if_neg (show ¬ nI 9999 < (9999 : Int32) by decide)]
            refine ⟨nI k, S0, fun f hf => ?_, fun a ha => e2 a (by omega) (by omega), fun V R sr f hf => ?_⟩
            · obtain ⟨f, rfl⟩ : ∃ g, f = g + 1 := ⟨f - 1, by omega⟩
              rw [clsH, e1, Option.bind_some, e4, Option.bind_some, he, if_neg (show ¬ (5 : Int32) = -1 by decide)]
              rfl
            · obtain ⟨f, rfl⟩ : ∃ g, f = g + 1 := ⟨f - 1, by omega⟩
              obtain ⟨g, f1, f2⟩ := can_r (c := c) (x := dg k) R hN h6 (by omega)
              obtain ⟨Vx, f3, f4, f5, f6⟩ := f2.costR (c := c) hN h6 hx
              obtain ⟨o1, o2⟩ := oth V R
              refine ⟨Vx, ?_, fun a ha => ?_, e3 _ f6⟩
              · rw [refH V sr, f1, Option.bind_some, hcs, if_neg (show ¬ bI true = 0 by decide), g351_32, Option.bind_some, a364n (j := 49) (k := 49) rfl (by decide), Option.bind_some, wA_ne (show 364 ≠ 367 by decide), o1, f3, Option.bind_some, if_neg (Int32.not_lt.mpr hv), g351_32, Option.bind_some, a364n (j := 50) (k := 50) rfl (by decide), Option.bind_some, f4 364 (by decide) (by decide), wA_ne (show 364 ≠ 367 by decide), o2, h9, if_pos (show nI 9999 = (9999 : Int32) from rfl)]
                rfl
              · rw [f4 a (by omega) (by omega), wA_ne (by omega)]
          · have he : hdl (stp N (S.1 30 6) (S.1 30 5) (S.1 31, S.1 32) (dg k)) (cc S N (dg k)) (S.1 30 7) (S.1 30 8) = -1 := by
              unfold hdl
              rw [if_pos hs, if_pos hv, q2, if_pos (show nI cr < (9999 : Int32) from nI_lt (b := 9999) (by omega) (by decide))]
            have hcan : can N (S0.1 30 6) (S0.1 30 5) (S0.1 31, S0.1 32) (dg k) = true := by
              rw [e30, e2 31 (by decide) (by decide), e2 32 (by decide) (by decide)]
              exact hcs
            obtain ⟨S1, y1, y2, y3, y4⟩ := cr_pair (c := c) (V0 := V0) (e3 _ R0) (by rw [e30]; exact hN) h6 hcan (by rw [e30]; exact q2) (by omega)
            rw [cc_eq e2] at y1
            have sc1 : sgU S1 j L dg := ⟨by rw [y2 24 (by decide), e2 24 (by decide) (by decide)]; exact sc.1, fun i hi => ⟨(sc.2 i hi).1, by rw [y2 (26 + j) (by omega), e2 (26 + j) (by omega) (by omega)]; exact (sc.2 i hi).2⟩⟩
            obtain ⟨V01, -, -, -, -, R01⟩ := y4 V0 (e3 _ R0)
            obtain ⟨v, S', w1, w2, w3⟩ := sing_loop hj hL h6 m (k + 1) S1 (by omega) ⟨V01, R01⟩ y3 sc1
            refine ⟨v, S', fun f hf => ?_, fun a ha => ?_, fun V R sr f hf => ?_⟩
            · obtain ⟨f, rfl⟩ : ∃ g, f = g + 1 := ⟨f - 1, by omega⟩
              rw [clsH, e1, Option.bind_some, e4, Option.bind_some, he, if_pos rfl, y1, Option.bind_some]
              exact w1 f (by omega)
            · rw [w2 a ha, y2 a (by omega), e2 a (by omega) (by omega)]
            · obtain ⟨f, rfl⟩ : ∃ g, f = g + 1 := ⟨f - 1, by omega⟩
              obtain ⟨g, f1, f2⟩ := can_r (c := c) (x := dg k) R hN h6 (by omega)
              obtain ⟨Vx, f3, f4, f5, f6⟩ := f2.costR (c := c) hN h6 hx
              obtain ⟨o1, o2⟩ := oth V R
              obtain ⟨V1, z1, z2, z3, z4, z5⟩ := y4 Vx (e3 _ f6)
              have sr1 : sgV V1 j L dg := by
                unfold sgV
                rw [z2 363 (by decide) (by decide) (by decide) (by decide) (by decide) (by decide), z2 362 (by decide) (by decide) (by decide) (by decide) (by decide) (by decide), f4 363 (by decide) (by decide), f4 362 (by decide) (by decide), wA_ne (by decide), wA_ne (by decide)]
                exact sr
              obtain ⟨V', u1, u2, u3⟩ := w3 V1 z5 sr1 f (by omega)
              refine ⟨V', ?_, fun a ha => ?_, u3⟩
              · rw [refH V sr, f1, Option.bind_some, hcs, if_neg (show ¬ bI true = 0 by decide), g351_32, Option.bind_some, a364n (j := 49) (k := 49) rfl (by decide), Option.bind_some, wA_ne (show 364 ≠ 367 by decide), o1, f3, Option.bind_some, if_neg (Int32.not_lt.mpr hv), g351_32, Option.bind_some, a364n (j := 50) (k := 50) rfl (by decide), Option.bind_some, f4 364 (by decide) (by decide), wA_ne (show 364 ≠ 367 by decide), o2, if_neg (show ¬ nI cr = (9999 : Int32) from fun z => h9 ((nI_eq (b := 9999) (by omega) (by decide)).mp z)), z1, Option.bind_some, u1]
              · rw [u2 a ha, z2 a (by omega) (by omega) (by omega) (by omega) (by omega) (by omega), f4 a (by omega) (by omega), wA_ne (by omega)]
        · have he : hdl (stp N (S.1 30 6) (S.1 30 5) (S.1 31, S.1 32) (dg k)) (cc S N (dg k)) (S.1 30 7) (S.1 30 8) = 4 := by
            unfold hdl
            rw [if_pos hs, if_neg hv]
          refine ⟨nI k, S0, fun f hf => ?_, fun a ha => e2 a (by omega) (by omega), fun V R sr f hf => ?_⟩
          · obtain ⟨f, rfl⟩ : ∃ g, f = g + 1 := ⟨f - 1, by omega⟩
            rw [clsH, e1, Option.bind_some, e4, Option.bind_some, he, if_neg (show ¬ (4 : Int32) = -1 by decide)]
            rfl
          · obtain ⟨f, rfl⟩ : ∃ g, f = g + 1 := ⟨f - 1, by omega⟩
            obtain ⟨g, f1, f2⟩ := can_r (c := c) (x := dg k) R hN h6 (by omega)
            obtain ⟨Vx, f3, f4, f5, f6⟩ := f2.costR (c := c) hN h6 hx
            obtain ⟨o1, o2⟩ := oth V R
            refine ⟨Vx, ?_, fun a ha => ?_, e3 _ f6⟩
            · rw [refH V sr, f1, Option.bind_some, hcs, if_neg (show ¬ bI true = 0 by decide), g351_32, Option.bind_some, a364n (j := 49) (k := 49) rfl (by decide), Option.bind_some, wA_ne (show 364 ≠ 367 by decide), o1, f3, Option.bind_some, if_pos (Int32.not_le.mp hv)]
              rfl
            · rw [f4 a (by omega) (by omega), wA_ne (by omega)]
      · rw [decide_eq_false hs] at hcs
        refine ⟨nI k, S0, fun f hf => ?_, fun a ha => e2 a (by omega) (by omega), fun V R sr f hf => ?_⟩
        · obtain ⟨f, rfl⟩ : ∃ g, f = g + 1 := ⟨f - 1, by omega⟩
          have he : hdl (stp N (S.1 30 6) (S.1 30 5) (S.1 31, S.1 32) (dg k)) (cc S N (dg k)) (S.1 30 7) (S.1 30 8) ≠ -1 := by
            unfold hdl
            rw [if_neg hs]
            exact hs
          rw [clsH, e1, Option.bind_some, e4, Option.bind_some, if_neg he]
          rfl
        · obtain ⟨f, rfl⟩ : ∃ g, f = g + 1 := ⟨f - 1, by omega⟩
          obtain ⟨g, f1, f2⟩ := can_r (c := c) (x := dg k) R hN h6 (by omega)
          refine ⟨_, ?_, fun a ha => ?_, e3 _ f2⟩
          · rw [refH V sr, f1, Option.bind_some, hcs, if_pos (show bI false = 0 from rfl)]
            rfl
          · rw [wA_ne (by omega)]
    · have hh : f_X0_has (hp S c) 30 (nI (dg k)) = some 0 := B30.has_out hN (Or.inr ⟨nI_nneg (by omega), nI_le (by omega) (by omega)⟩)
      have hcs : can N (S.1 30 6) (S.1 30 5) (S.1 31, S.1 32) (dg k) = false := by
        unfold can
        rw [decide_eq_false hx]
        rfl
      refine ⟨nI k, S, fun f hf => ?_, fun _ _ => rfl, fun V R sr f hf => ?_⟩
      · obtain ⟨f, rfl⟩ : ∃ g, f = g + 1 := ⟨f - 1, by omega⟩
        rw [clsH]
        unfold f_X11_costOf f_X11_hurdleOf
        rw [k0, Option.bind_some, g0_6, Option.bind_some, hh, Option.bind_some, if_pos rfl, Option.bind_some, k0, Option.bind_some, g0_6, Option.bind_some, hh, Option.bind_some, if_pos rfl, Option.bind_some, if_neg (show ¬ (0 : Int32) = -1 by decide)]
        rfl
      · obtain ⟨f, rfl⟩ : ∃ g, f = g + 1 := ⟨f - 1, by omega⟩
        obtain ⟨g, f1, f2⟩ := can_r (c := c) (x := dg k) R hN h6 (by omega)
        refine ⟨_, ?_, fun a ha => ?_, f2⟩
        · rw [refH V sr, f1, Option.bind_some, hcs, if_pos (show bI false = 0 from rfl)]
          rfl
        · rw [wA_ne (by omega)]
theorem pr_sing (R : RR n (pj S)) (i : Int32) : PQ n c (fun h => f_X11_sing h 0 i) (fun h => f_X12_sing h 351 i) S := by
  have RS := mg_in R
  obtain ⟨N, lim, kp, W⟩ := RS.tw
  have h6 := W.2.1
  have hN := W.2.2.2.2.2.1
  have h26 := W.2.2.1
  obtain ⟨ns, sl, dg, g1, g2, g3, g4⟩ := R.songs
  have no : (f_X11_sing (hp S c) 0 i = f_X11_sing_b21 (hp S c) 0) → (f_X12_sing (hp (cfx S 0) c) 351 i = f_X12_sing_b20 (hp (T0 (cfx S 0)) c) 351) → PQ n c (fun h => f_X11_sing h 0 i) (fun h => f_X12_sing h 351 i) S := fun z1 z2 => by
    refine PQ.refuse (r := 0) (v := -1) R (by decide) ?_ (fun U hU => ?_)
    · show f_X11_sing (hp S c) 0 i = _
      rw [z1]
      unfold f_X11_sing_b21
      rw [show f_X11_refuse (hp S c) 0 0 (-1) = some (-1, hp (cfx S 0) c) from X11_refuse (r := 0) (by decide), Option.bind_some]
    · subst hU
      show f_X12_sing (hp (cfx S 0) c) 351 i = _
      rw [z2]
      unfold f_X12_sing_b20
      rw [show f_X12_refused (hp (T0 (cfx S 0)) c) 351 0 (-1) = some (-1, hp (rfx (T0 (cfx S 0)) 0) c) from X12_refused (r := 0) (by decide), Option.bind_some]
  have c351 : ∀ k, k ≠ 0 → (T0 (cfx S 0)).1 351 k = S.1 351 k := fun k hk => by
    rw [T0_351 hk]
    unfold cfx
    rw [wA_ne (by decide)]
  rcases ix_of (x := i) (N := ns) (by omega) with ⟨j, hj, rfl⟩ | hx
  · obtain ⟨l1, l2, l3, l4, l5⟩ := g4 j hj
    by_cases hN0 : N = 0
    · subst hN0
      refine no ?_ ?_
      · unfold f_X11_sing
        rw [k0, Option.bind_some, g0_5, Option.bind_some, sf_in (Or.inr rfl) g2 g1 hj, Option.bind_some, if_neg (show ¬ (1 : Int32) = 0 by decide), g0_6, Option.bind_some, B30.g4, Option.bind_some, hN, if_pos (show nI 0 = 0 from rfl)]
      · unfold f_X12_sing
        rw [k351, Option.bind_some, T0_p, Option.bind_some, song_in (by rw [c351 30 (by decide)]; exact g3) g1 hj, Option.bind_some, if_neg (show ¬ (1 : Int32) = 0 by decide), g351_26, Option.bind_some, c351 26 (by decide), h26, if_pos (show nI 0 = 0 from rfl)]
    · have nz : ¬ nI N = 0 := nI_ne0 (by omega) (by omega)
      obtain ⟨v, S', w1, w2, w3⟩ := sing_loop (c := c) (dg := dg j) (j := j) (L := sl j) (by omega) l2 h6 (sl j) 0 S (by omega) ⟨S, RS⟩ hN ⟨l3, fun k hk => ⟨(l5 k hk).1, (l5 k hk).2.1⟩⟩
      have RT : RR n (pj (mg S (T0 S'))) := mg_to RS fun a ha => by
        rw [T0_pj]
        exact pj_eq (w2 a ha)
      obtain ⟨V', u1, u2, u3⟩ := w3 (T0 S') RT (by
        unfold sgV
        rw [T0_ne (by decide), T0_ne (by decide), w2 363 (by decide), w2 362 (by decide)]
        exact ⟨l4, fun k hk => (l5 k hk).2.2⟩) 1048576 (by omega)
      refine ⟨v, S', V', ?_, ?_, (mg_out u3 fun a ha => ?_).mono (by omega)⟩
      · show f_X11_sing (hp S c) 0 (nI j) = _
        unfold f_X11_sing
        rw [k0, Option.bind_some, g0_5, Option.bind_some, sf_in (Or.inr rfl) g2 g1 hj, Option.bind_some, if_neg (show ¬ (1 : Int32) = 0 by decide), g0_6, Option.bind_some, B30.g4, Option.bind_some, hN, if_neg nz]
        exact w1 1048576 (by omega)
      · show f_X12_sing (hp S' c) 351 (nI j) = _
        unfold f_X12_sing
        rw [k351, Option.bind_some, T0_p, Option.bind_some, song_in (by rw [T0_351 (by decide), w2 351 (by decide)]; exact g3) g1 hj, Option.bind_some, if_neg (show ¬ (1 : Int32) = 0 by decide), g351_26, Option.bind_some, T0_351 (by decide), w2 351 (by decide), h26, if_neg nz]
        exact u1
      · rw [u2 a ha, T0_ne (by omega)]
  · refine no ?_ ?_
    · unfold f_X11_sing
      rw [k0, Option.bind_some, g0_5, Option.bind_some, sf_out (Or.inr rfl) g2 hx, Option.bind_some, if_pos rfl]
    · unfold f_X12_sing
      rw [k351, Option.bind_some, T0_p, Option.bind_some, song_out (by rw [c351 30 (by decide)]; exact g3) hx, Option.bind_some, if_pos rfl]
end SNG
