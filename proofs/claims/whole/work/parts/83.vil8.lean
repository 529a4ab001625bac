/-! VILLAGES: the reference reads whole villages so -/
section V8
variable {S : XS} {c : Nat × Nat} {T : Nat → Int32} {L p d : Nat} {V : VD}
theorem ix3 (k j : Nat) : nI (3 * k) + nI j = nI (3 * k + j) := nI_add _ _
theorem X12_between (H : rV S V) (hV : vIn V) {f x y : Int32} : f_X12_readBetween (hp (rfS S p f d) c) 351 x y = some (btw V.2.2.1.2 x y V.2.2.1.1) := by
  obtain ⟨h1, h2, h3, h4, h5, h6, h7⟩ := H
  have q2 := hV.2.1
  have g29 : (rfS S p f d).1 351 29 = nI V.2.2.1.1 := by
    rw [rfS_k (by decide) (by decide) (by decide)]
    exact h2
  have ga : ∀ i, i < 36 → aI (hp (rfS S p f d) c) 361 (nI i) = some (V.2.2.1.2 i) := by
    intro i hi
    rw [a361 hi, rfS_ne (by decide), h7 i hi]
  unfold f_X12_readBetween
  rw [k351, Option.bind_some]
  refine lp (N := V.2.2.1.1) (fun n k => f_X12_readBetween_b5 n (hp (rfS S p f d) c) 351 x y (btw V.2.2.1.2 x y k) (nI (3 * k))) (fun n => ?_) (fun n k hk => ?_) V.2.2.1.1 0 1048576 (by omega) (by omega)
  · show f_X12_readBetween_b5 (n + 1) (hp (rfS S p f d) c) 351 x y _ (nI (3 * V.2.2.1.1)) = _
    rw [f_X12_readBetween_b5, g351_29, Option.bind_some, g29, show (3 : Int32) = nI 3 from rfl, pk_mul, if_pos (nI_le (Nat.le_refl _) (by omega))]
  · show f_X12_readBetween_b5 (n + 1) (hp (rfS S p f d) c) 351 x y (btw V.2.2.1.2 x y k) (nI (3 * k)) = f_X12_readBetween_b5 n (hp (rfS S p f d) c) 351 x y (if V.2.2.1.2 (3 * k) = y ∧ V.2.2.1.2 (3 * k + 1) = x then (if V.2.2.1.2 (3 * k) = x ∧ V.2.2.1.2 (3 * k + 1) = y then btw V.2.2.1.2 x y k + V.2.2.1.2 (3 * k + 2) else btw V.2.2.1.2 x y k) - V.2.2.1.2 (3 * k + 2) else (if V.2.2.1.2 (3 * k) = x ∧ V.2.2.1.2 (3 * k + 1) = y then btw V.2.2.1.2 x y k + V.2.2.1.2 (3 * k + 2) else btw V.2.2.1.2 x y k)) (nI (3 * (k + 1)))
    generalize btw V.2.2.1.2 x y k = b0
    have tail : ∀ v : Int32, f_X12_readBetween_b52 (fun h l0 l1 l2 l3 l4 => f_X12_readBetween_b5 n h l0 l1 l2 l3 l4) (hp (rfS S p f d) c) 351 x y v (nI (3 * k)) = f_X12_readBetween_b5 n (hp (rfS S p f d) c) 351 x y (if V.2.2.1.2 (3 * k) = y ∧ V.2.2.1.2 (3 * k + 1) = x then v - V.2.2.1.2 (3 * k + 2) else v) (nI (3 * (k + 1))) := by
      intro v
      unfold f_X12_readBetween_b52 f_X12_readBetween_b88
      simp only [g351_23, Option.bind_some, ga (3 * k) (by omega), show (1 : Int32) = nI 1 from rfl, show (2 : Int32) = nI 2 from rfl, show (3 : Int32) = nI 3 from rfl, ix3, ga (3 * k + 1) (by omega), ga (3 * k + 2) (by omega), show 3 * (k + 1) = 3 * k + 3 from rfl]
      by_cases e1 : V.2.2.1.2 (3 * k) = y
      · rw [if_pos e1]
        by_cases e2 : V.2.2.1.2 (3 * k + 1) = x
        · rw [if_pos e2, if_pos ⟨e1, e2⟩]
        · rw [if_neg e2, if_neg (fun z => e2 z.2)]
      · rw [if_neg e1, if_neg (fun z => e1 z.1)]
    rw [f_X12_readBetween_b5, g351_29, Option.bind_some, g29, show (3 : Int32) = nI 3 from rfl, pk_mul, if_neg (nI_ge (by omega) (by omega))]
    simp only [g351_23, Option.bind_some, ga (3 * k) (by omega), show (1 : Int32) = nI 1 from rfl, show (2 : Int32) = nI 2 from rfl, ix3, ga (3 * k + 1) (by omega), ga (3 * k + 2) (by omega), tail]
    by_cases e1 : V.2.2.1.2 (3 * k) = x
    · rw [if_pos e1]
      by_cases e2 : V.2.2.1.2 (3 * k + 1) = y
      · rw [if_pos e2, if_pos (c := V.2.2.1.2 (3 * k) = x ∧ V.2.2.1.2 (3 * k + 1) = y) ⟨e1, e2⟩]
      · rw [if_neg e2, if_neg (c := V.2.2.1.2 (3 * k) = x ∧ V.2.2.1.2 (3 * k + 1) = y) (fun z => e2 z.2)]
    · rw [if_neg e1, if_neg (c := V.2.2.1.2 (3 * k) = x ∧ V.2.2.1.2 (3 * k + 1) = y) (fun z => e1 z.1)]
theorem X12_isWhole (H : rV S V) (hV : vIn V) {f : Int32} : f_X12_isWhole (hp (rfS S p f d) c) 351 = some (bI (whl V)) := by
  have H0 := H
  obtain ⟨h1, h2, h3, h4, h5, h6, h7⟩ := H
  have q1 := hV.1
  have q2 := hV.2.1
  have g29 : (rfS S p f d).1 351 29 = nI V.2.2.1.1 := by
    rw [rfS_k (by decide) (by decide) (by decide)]
    exact h2
  have g28 : (rfS S p f d).1 351 28 = nI V.2.1.1 := by
    rw [rfS_k (by decide) (by decide) (by decide)]
    exact h1
  have ga : ∀ i, i < 36 → aI (hp (rfS S p f d) c) 361 (nI i) = some (V.2.2.1.2 i) := by
    intro i hi
    rw [a361 hi, rfS_ne (by decide), h7 i hi]
  have gr : aI (hp (rfS S p f d) c) 357 (1 : Int32) = some V.2.2.2.2 := by
    rw [show (1 : Int32) = nI 1 from rfl, a357 (by decide), rfS_ne (by decide), h5]
  unfold f_X12_isWhole
  rw [k351, Option.bind_some]
  have l1 : f_X12_isWhole_b67 1048576 (hp (rfS S p f d) c) 351 (nI 0) = fst (fun a => anyB (fun b => !decide (iabs (btw V.2.2.1.2 (nI a) (nI b) V.2.2.1.1) ≤ V.2.2.2.2)) a) (fun _ => some (0 : Int32)) (some (bI (decide (1 < V.2.1.1)))) V.2.1.1 0 := by
    refine lpx (N := V.2.1.1) (fun n k => f_X12_isWhole_b67 n (hp (rfS S p f d) c) 351 (nI k)) (fun n => ?_) (fun n k hk => ?_) V.2.1.1 0 1048576 (by omega) (by omega)
    · show f_X12_isWhole_b67 (n + 1) (hp (rfS S p f d) c) 351 (nI V.2.1.1) = _
      rw [f_X12_isWhole_b67, g351_28, Option.bind_some, g28, if_pos (nI_le (Nat.le_refl _) (by omega)), Option.bind_some, show (1 : Int32) = nI 1 from rfl]
      by_cases e : 1 < V.2.1.1
      · rw [if_neg (nI_ge e (by omega)), decide_eq_true e]
        rfl
      · rw [if_pos (nI_le (by omega) (by decide)), decide_eq_false e]
        rfl
    · show f_X12_isWhole_b67 (n + 1) (hp (rfS S p f d) c) 351 (nI k) = _
      rw [f_X12_isWhole_b67, g351_28, Option.bind_some, g28, if_neg (nI_ge (by omega) (by omega)), ← fst_0]
      refine lpx (N := k) (fun m j => f_X12_isWhole_b77 (fun h l0 l1 => f_X12_isWhole_b67 n h l0 l1) m (hp (rfS S p f d) c) 351 (nI k) (nI j)) (fun m => ?_) (fun m j hj => ?_) k 0 1048576 (by omega) (by omega)
      · show f_X12_isWhole_b77 _ (m + 1) (hp (rfS S p f d) c) 351 (nI k) (nI k) = _
        rw [f_X12_isWhole_b77, if_pos (nI_le (Nat.le_refl _) (by omega)), nI_1]
      · show f_X12_isWhole_b77 _ (m + 1) (hp (rfS S p f d) c) 351 (nI k) (nI j) = _
        rw [f_X12_isWhole_b77, if_neg (nI_ge (by omega) (by omega)), X12_between H0 hV, Option.bind_some, g351_19, Option.bind_some, gr, Option.bind_some, nI_1]
        by_cases e : iabs (btw V.2.2.1.2 (nI k) (nI j) V.2.2.1.1) ≤ V.2.2.2.2
        · rw [if_pos e, decide_eq_true e]
          rfl
        · rw [if_neg e, decide_eq_false e]
          rfl
  have l0 : f_X12_isWhole_b2 1048576 (hp (rfS S p f d) c) 351 (nI (3 * 0)) = fst (fun k => decide (nI V.2.1.1 ≤ V.2.2.1.2 (3 * k)) || decide (nI V.2.1.1 ≤ V.2.2.1.2 (3 * k + 1)) || decide (V.2.2.1.2 (3 * k) = V.2.2.1.2 (3 * k + 1))) (fun _ => some (0 : Int32)) (f_X12_isWhole_b67 1048576 (hp (rfS S p f d) c) 351 (nI 0)) V.2.2.1.1 0 := by
    refine lpx (N := V.2.2.1.1) (fun n k => f_X12_isWhole_b2 n (hp (rfS S p f d) c) 351 (nI (3 * k))) (fun n => ?_) (fun n k hk => ?_) V.2.2.1.1 0 1048576 (by omega) (by omega)
    · show f_X12_isWhole_b2 (n + 1) (hp (rfS S p f d) c) 351 (nI (3 * V.2.2.1.1)) = _
      rw [f_X12_isWhole_b2, g351_29, Option.bind_some, g29, show (3 : Int32) = nI 3 from rfl, pk_mul, if_pos (nI_le (Nat.le_refl _) (by omega))]
      rfl
    · show f_X12_isWhole_b2 (n + 1) (hp (rfS S p f d) c) 351 (nI (3 * k)) = _
      rw [f_X12_isWhole_b2, g351_29, Option.bind_some, g29, show (3 : Int32) = nI 3 from rfl, pk_mul, if_neg (nI_ge (by omega) (by omega))]
      simp only [g351_23, g351_28, g28, Option.bind_some, ga (3 * k) (by omega), show (1 : Int32) = nI 1 from rfl, ix3, ga (3 * k + 1) (by omega), show 3 * (k + 1) = 3 * k + 3 from rfl]
      by_cases e1 : nI V.2.1.1 ≤ V.2.2.1.2 (3 * k)
      · rw [if_pos e1, decide_eq_true e1]
        rfl
      · rw [if_neg e1, decide_eq_false e1]
        by_cases e2 : nI V.2.1.1 ≤ V.2.2.1.2 (3 * k + 1)
        · rw [if_pos e2, decide_eq_true e2]
          rfl
        · rw [if_neg e2, decide_eq_false e2]
          by_cases e3 : V.2.2.1.2 (3 * k) = V.2.2.1.2 (3 * k + 1)
          · rw [if_pos e3, decide_eq_true e3]
            rfl
          · rw [if_neg e3, decide_eq_false e3]
            rfl
  refine l0.trans ?_
  rw [l1, fst_0, fst_0]
  unfold whl
  cases anyB (fun k => decide (nI V.2.1.1 ≤ V.2.2.1.2 (3 * k)) || decide (nI V.2.1.1 ≤ V.2.2.1.2 (3 * k + 1)) || decide (V.2.2.1.2 (3 * k) = V.2.2.1.2 (3 * k + 1))) V.2.2.1.1 <;> cases anyB (fun a => anyB (fun b => !decide (iabs (btw V.2.2.1.2 (nI a) (nI b) V.2.2.1.1) ≤ V.2.2.2.2)) a) V.2.1.1 <;> cases decide (1 < V.2.1.1) <;> rfl
/-- behind the reading of a village -/
def rvR (S : XS) (c : Nat × Nat) (o : Option xa_H) (r : Nat ⊕ VD) : Prop :=
  (∀ f, r = .inl f → ∃ S', o = some (hp S' c) ∧ S'.1 351 11 = nI f ∧ frV S' S) ∧ ∀ V, r = .inr V → ∃ S', o = some (hp S' c) ∧ S'.1 351 11 = -1 ∧ rV S' V ∧ frV S' S
theorem rvR_fr {S S1 : XS} {o : Option xa_H} {r : Nat ⊕ VD} (h : frV S1 S) (H : rvR S1 c o r) : rvR S c o r := by
  refine ⟨fun f z => ?_, fun V z => ?_⟩
  · obtain ⟨S', h1, h2, h3⟩ := H.1 f z
    exact ⟨S', h1, h2, h.trans h3⟩
  · obtain ⟨S', h1, h2, h3, h4⟩ := H.2 V z
    exact ⟨S', h1, h2, h3, h.trans h4⟩
theorem rV_rf {f : Int32} (H : rV S V) : rV (rfS S p f d) V := by
  unfold rV at H ⊢
  simp only [rfS_k (show (28 : Nat) ≠ 10 by decide) (show (28 : Nat) ≠ 11 by decide) (show (28 : Nat) ≠ 12 by decide), rfS_k (show (29 : Nat) ≠ 10 by decide) (show (29 : Nat) ≠ 11 by decide) (show (29 : Nat) ≠ 12 by decide), rfS_k (show (31 : Nat) ≠ 10 by decide) (show (31 : Nat) ≠ 11 by decide) (show (31 : Nat) ≠ 12 by decide), rfS_ne (show (357 : Nat) ≠ 351 by decide), rfS_ne (show (359 : Nat) ≠ 351 by decide), rfS_ne (show (361 : Nat) ≠ 351 by decide)]
  exact H
theorem X12_vend_f {f : Nat} (hf : f ≤ 240) : rvR S c (f_X12_readVillage_b111 (hp (rfS S p (nI f) d) c) 351) (.inl f) := by
  unfold f_X12_readVillage_b111
  rw [g351_11, Option.bind_some, rfS_f, if_neg (m1_ne (by omega))]
  refine ⟨fun f' z => ?_, fun V z => by cases z⟩
  cases z
  exact ⟨_, rfl, rfS_f, frV.rf⟩
theorem X12_vend (Y : Ty S T L) (H : rV S V) (hV : vIn V) (hp' : p ≤ L) (hs : sk T L p = p) : rvR S c (f_X12_readVillage_b111 (hp (rfS S p (-1) d) c) 351) (if pk T L p = -1 then (if whl V then .inr V else .inl p) else .inl p) := by
  have hL := Y.1
  unfold f_X12_readVillage_b111 f_X12_readVillage_b134
  rw [g351_11, Option.bind_some, rfS_f, if_pos rfl, rf_look Y hp', Option.bind_some, hs]
  by_cases e : pk T L p = -1
  · rw [if_pos e, if_pos e, X12_isWhole H hV, Option.bind_some]
    cases whl V with
    | true =>
      rw [if_neg (show ¬ bI true = 0 by decide), if_pos rfl]
      refine ⟨fun f' z => (by cases z), fun V z => ?_⟩
      cases z
      exact ⟨_, rfl, rfS_f, rV_rf H, frV.rf⟩
    | false =>
      rw [if_pos bI_f, if_neg (by decide), rf_fails, Option.bind_some]
      refine ⟨fun f' z => ?_, fun V z => by cases z⟩
      cases z
      exact ⟨_, rfl, rfS_f, frV.rf⟩
  · rw [if_neg e, if_neg e, rf_fails, Option.bind_some]
    refine ⟨fun f' z => ?_, fun V z => by cases z⟩
    cases z
    exact ⟨_, rfl, rfS_f, frV.rf⟩
theorem X12_vil_loop : ∀ (m p n : Nat) (S : XS) (V : VD), Ty S T L → S.2.2 351 = 352 → rV S V → vIn V → p ≤ L → L < p + m → m < n → rvR S c (f_X12_readVillage_b55 n (hp (rfS S p (-1) d) c) 351 1) (spVl T L m V p)
  | 0, p, n, S, V, Y, h352, H, hV, hp', hm, hn => by omega
  | m + 1, p, 0, S, V, Y, h352, H, hV, hp', hm, hn => by omega
  | m + 1, p, n + 1, S, V, Y, h352, H, hV, hp', hm, hn => by
    have hL := Y.1
    obtain ⟨n, rfl⟩ : ∃ q, n = q + 1 := ⟨n - 1, by omega⟩
    unfold spVl
    have hc := X12_clause1 (c := c) (d := d) Y h352 H hV hp'
    have hmo := spCl_mono (T := T) (L := L) (V := V) hp'
    rw [f_X12_readVillage_b55, if_neg (by decide), g351_11, Option.bind_some, rfS_f, if_pos rfl]
    unfold f_X12_readVillage_b92 f_X12_readVillage_b93
    cases he : spCl T L V p with
    | inl f =>
      obtain ⟨S', p', w1, w2⟩ := hc.1 f he
      have hf := hmo.1 f he
      rw [w1, Option.bind_some, g351_11, Option.bind_some, rfS_f, if_neg (m1_ne (by omega)), if_pos rfl]
      show rvR S c (f_X12_readVillage_b55 (n + 1) (hp (rfS S' p' (nI f) d) c) 351 0) _
      rw [f_X12_readVillage_b55, if_pos rfl]
      exact rvR_fr w2 (X12_vend_f (by omega))
    | inr vq =>
      obtain ⟨V', q⟩ := vq
      obtain ⟨S', w1, w2, w3, w4, w5⟩ := hc.2 V' q he
      have hq := hmo.2 V' q he
      have Y' := Y.frV h352 w3 w4 w5
      have hV' : vIn V' := by
        unfold spCl at he
        cases hs : sel V (pk T L p) with
        | none =>
          rw [hs] at he
          cases he
        | some κ =>
          rw [hs] at he
          have hk := sel_ne hs
          have hsk := pk_sk1 (T := T) (L := L) (p := p) hk.1
          have hmm := spIt_mono (T := T) (L := L) hk.2 (kcn κ + 1) 0 (kus κ) (sk T L p + 1) hsk.1 (kusIn hk.2)
          dsimp only at he
          cases hi : spIt T L κ (kcn κ + 1) 0 (kus κ) (sk T L p + 1) with
          | inl f =>
            rw [hi] at he
            cases he
          | inr vq =>
            rw [hi] at he
            cases he
            exact tell_in hV hs (hmm.2 vq.1 _ hi).2.2.2
      rw [w1, Option.bind_some, g351_11, Option.bind_some, rfS_f, if_pos rfl, rf_look Y'.1 hq.2.1, Option.bind_some, hq.2.2]
      dsimp only
      by_cases e1 : pk T L q = 59
      · have h1 := pk_sk1 (T := T) (L := L) (p := q) (by rw [e1]; decide)
        rw [hq.2.2] at h1
        rw [if_pos e1, if_pos e1, if_neg (by decide), g351_10, Option.bind_some, rfS_at, nI_1, p351_10, Option.bind_some, rfS_p10, hq.2.2]
        exact rvR_fr w3 (X12_vil_loop m (q + 1) (n + 1) S' V' Y'.1 Y'.2 w2 hV' h1.1 (by omega) (by omega))
      · rw [if_neg e1, if_neg e1, if_pos rfl, hq.2.2]
        show rvR S c (f_X12_readVillage_b55 (n + 1) (hp (rfS S' q (-1) d) c) 351 0) _
        rw [f_X12_readVillage_b55, if_pos rfl]
        exact rvR_fr w3 (X12_vend Y'.1 w2 hV' hq.2.1 hq.2.2)
theorem X12_vil (hL : L ≤ 240) (h6 : S.1 351 6 = nI L) (hT : ∀ k, k < L → byR (T k) (S.1 352 k)) : rvR (wT S 351 352) c (f_X12_readVillage (hp S c) 351) (spVl T L (L + 1) (V0 (S.1 359) (S.1 361)) 0) := by
  unfold f_X12_readVillage f_X12_starts
  simp only [k351, Option.bind_some, g351_1, g351_6, h6, p351_5, p351_8, p351_9, p351_10, p351_11, p351_28, p351_29, p351_31, wA_wA, wA_same]
  obtain ⟨d0, hd0⟩ := ofn (S.1 351 12)
  have hS1 : ∃ S1, S1 = wA (wT S 351 352) 351 (upd (upd (upd (upd (upd (S.1 351) 8 0) 9 (nI L)) 28 0) 29 0) 31 0) := ⟨_, rfl⟩
  obtain ⟨S1, hS1⟩ := hS1
  have e0 : wA (wT S 351 352) 351 (upd (upd (upd (upd (upd (upd (upd ((wT S 351 352).1 351) 8 0) 9 (nI L)) 10 0) 11 (-1)) 28 0) 29 0) 31 0) = rfS S1 0 (-1) d0 := by
    rw [hS1]
    unfold rfS
    rw [wA_wA, wA_same]
    congr 1
    funext k
    show upd (upd (upd (upd (upd (upd (upd (S.1 351) 8 0) 9 (nI L)) 10 0) 11 (-1)) 28 0) 29 0) 31 0 k = _
    rw [← hd0]
    unfold upd
    by_cases c1 : k = 31
    · subst c1; rfl
    by_cases c2 : k = 29
    · subst c2; rfl
    by_cases c3 : k = 28
    · subst c3; rfl
    by_cases c4 : k = 12
    · subst c4; rfl
    by_cases c5 : k = 11
    · subst c5; rfl
    by_cases c6 : k = 10
    · subst c6; rfl
    rw [if_neg c1, if_neg c2, if_neg c3, if_neg c4, if_neg c5, if_neg c6, if_neg c5, if_neg c6, if_neg c1, if_neg c2, if_neg c3]
  rw [e0]
  have t352 : S1.2.2 351 = 352 := by
    rw [hS1, wA_2]
    exact wT_same
  have fS1 : frV S1 (wT S 351 352) := by
    rw [hS1]
    refine ⟨fun a b1 _ _ _ => wA_ne b1, rfl, fun k hk => ?_⟩
    rw [wA_same, upd_ne (fun z => by rw [z] at hk; exact absurd hk (by decide)), upd_ne (fun z => by rw [z] at hk; exact absurd hk (by decide)), upd_ne (fun z => by rw [z] at hk; exact absurd hk (by decide)), upd_ne (fun z => by rw [z] at hk; exact absurd hk (by decide)), upd_ne (fun z => by rw [z] at hk; exact absurd hk (by decide))]
    rfl
  have Y1 : Ty S1 T L := by
    refine ⟨hL, ?_, 240, 0, ?_, ?_, by omega, by decide, by rw [t352]; decide, fun k hk => ?_⟩
    · rw [hS1, wA_same, upd_ne (by decide), upd_ne (by decide), upd_ne (by decide), upd_same]
    · rw [hS1, wA_same, upd_ne (by decide), upd_ne (by decide), upd_ne (by decide), upd_ne (by decide), upd_same]
      rfl
    · rw [t352]
      exact s352
    · rw [t352, hS1, wA_ne (by decide), Nat.zero_add]
      exact hT k hk
  have r28 : S1.1 351 28 = nI 0 := by
    rw [hS1, wA_same, upd_ne (by decide), upd_ne (by decide), upd_same]
    rfl
  have r29 : S1.1 351 29 = nI 0 := by
    rw [hS1, wA_same, upd_ne (by decide), upd_same]
    rfl
  have r31 : S1.1 351 31 = bI false := by
    rw [hS1, wA_same, upd_same]
    rfl
  have hus : ∀ h j, j < 2 → f_X12_usual h 115 (nI j) = some 20 := by
    intro h j hj
    rcases (by omega : j = 0 ∨ j = 1) with rfl | rfl <;> rfl
  have l0 : f_X12_readVillage_b30 1048576 (hp (rfS S1 0 (-1) d0) c) 351 0 = f_X12_readVillage_b55 1048576 (hp (rfS (wA S1 357 (upd (upd (S1.1 357) 0 20) 1 20)) 0 (-1) d0) c) 351 1 := by
    rw [show f_X12_readVillage_b30 1048576 (hp (rfS S1 0 (-1) d0) c) 351 0 = f_X12_readVillage_b30 (1048573 + 1 + 1 + 1) (hp (rfS S1 0 (-1) d0) c) 351 (nI 0) from rfl, f_X12_readVillage_b30, if_neg (by decide), g351_19, Option.bind_some, hus _ 0 (by decide), Option.bind_some, q357 (by decide), Option.bind_some, nI_1, rfS_wA (by decide), rfS_ne (by decide), f_X12_readVillage_b30, if_neg (by decide), g351_19, Option.bind_some, hus _ (0 + 1) (by decide), Option.bind_some, q357 (by decide), Option.bind_some, nI_1, rfS_wA (by decide), rfS_ne (by decide), wA_same, wA_wA, f_X12_readVillage_b30, if_pos (by decide)]
  rw [l0]
  have fS2 : frV (wA S1 357 (upd (upd (S1.1 357) 0 20) 1 20)) S1 := frV.wW (Or.inl ⟨rfl, rfl⟩)
  have Y2 := Y1.frV t352 fS2 (by rw [wA_ne (by decide)]) (by rw [wA_ne (by decide)])
  have H2 : rV (wA S1 357 (upd (upd (S1.1 357) 0 20) 1 20)) (V0 (S.1 359) (S.1 361)) := by
    unfold rV
    simp only [wA_same, wA_ne (show (351 : Nat) ≠ 357 by decide), wA_ne (show (359 : Nat) ≠ 357 by decide), wA_ne (show (361 : Nat) ≠ 357 by decide)]
    refine ⟨r28, r29, r31, rfl, rfl, fun i _ => ?_, fun i _ => ?_⟩
    · rw [hS1, wA_ne (by decide)]
      rfl
    · rw [hS1, wA_ne (by decide)]
      rfl
  exact rvR_fr fS1 (rvR_fr fS2 (X12_vil_loop (c := c) (L + 1) 0 1048576 _ _ Y2.1 Y2.2 H2 V0_in (by omega) (by omega) (by omega)))
end V8
