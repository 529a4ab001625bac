/-! costs are the same on both sides -/
section CO3
variable {S V S' V' : XS} {c : Nat × Nat} {n N x : Nat}
theorem lk_pers {k : Nat} (q : pers 351 k = true) : lk k = false := by
  cases hz : lk k with
  | false => rfl
  | true =>
    unfold lk at hz
    simp only [Bool.or_eq_true, decide_eq_true_eq, beq_iff_eq] at hz
    have : k = 8 ∨ k = 9 ∨ k = 10 ∨ k = 11 ∨ k = 12 ∨ k = 13 ∨ k = 14 ∨ k = 17 := by omega
    rcases this with rfl | rfl | rfl | rfl | rfl | rfl | rfl | rfl <;> exact absurd q (by decide)
def cc (S : XS) (N x : Nat) : Int32 := CV (S.1 0 17) (S.1 (19 + tn (S.1 0 17))) (tn (S.1 17 (tn (S.1 0 17)))) (clf S N x)
/-- what stands now, class and reference kept apart -/
def TW (S V : XS) (N : Nat) (lim kp : Int32) : Prop := (N = 0 ∨ 2 ≤ N) ∧ N ≤ 6 ∧ V.1 351 26 = nI N ∧ V.1 356 1 = lim ∧ lim.toInt ≤ 99 ∧ S.1 30 4 = nI N ∧ S.1 30 5 = lim ∧ S.1 30 6 = kp ∧ V.1 364 48 = kp ∧ eqB (S.1 31, S.1 32) (rwB (V.1 364)) ∧ Vb lim (rwB (V.1 364)) ∧ Zo N (V.1 364) ∧ S.1 30 7 = V.1 364 49 ∧ (∃ cr, cr ≤ 9999 ∧ S.1 30 8 = nI cr ∧ V.1 364 50 = nI cr ∧ V.1 364 51 = nI (min cr 60)) ∧ (∀ k, k < 6 → S.1 34 k = V.1 364 (42 + k)) ∧ ∀ k, k < N → S.1 33 k = V.1 358 (3 * k + 1) ∧ ∃ t, t ≤ 9 ∧ V.1 358 (3 * k + 1) = nI t
theorem RR.tw (R : RR n (pj (mg S V))) : ∃ N lim kp, TW S V N lim kp := by
  have hlog := R.log
  obtain ⟨⟨N, F, v1, v2, v3, v4, v5⟩, rest⟩ := R
  have W := NW_of v1 v2
  have WD := W.D
  have WU := W.U
  have WV := W.V
  have WZ := W.Z
  obtain ⟨w1, w2, w3, w4, w5, w6, w7, w8, w9, w10, -⟩ := W
  obtain ⟨cr, c1, c2, c3, c4, c5, -⟩ := hlog
  obtain ⟨⟨k1, k2, k3⟩, ⟨r1, r2, r3, r4, r5, r6⟩, ok⟩ := v2
  obtain ⟨-, -, -, -, -, -, -, -, v19⟩ := v1
  rw [c358] at v19 k3
  rw [c364] at r3
  refine ⟨N, _, _, w1, w2, w3, rfl, w6, w7, w8, w9, rfl, ⟨WD, WU⟩, WV, WZ, c5, ⟨cr, c1, c2, c3, c4⟩, fun k hk => ?_, fun k hk => ?_⟩
  · have := r3 k hk
    rw [show (30 : Nat) + 4 = 34 from rfl, c34] at this
    exact this
  · have h1 := k3 k hk
    rw [show (30 : Nat) + 3 = 33 from rfl, c33] at h1
    obtain ⟨w, t, q, -, ht, -, -, h2, -⟩ := v19 k hk
    exact ⟨h1, t, ht, h2⟩
theorem clf_eq {lim kp : Int32} (W : TW S V N lim kp) (hx : x < N) : clf S N x = rlf V N x := by
  obtain ⟨-, w2, -, -, -, -, -, -, -, wE, -, -, -, ⟨cr, -, c2, c3, -⟩, w34, w33⟩ := W
  have hx6 : x < 6 := by omega
  funext j
  unfold clf rlf
  rw [sIn_cg hx6 (D := S.1 31) (D' := V.1 364) wE.1 N w2, sOut_cg hx6 (D := S.1 31) (D' := V.1 364) wE.1 N w2, (w33 x hx).1, w34 x hx6, show S.1 32 x = V.1 364 (36 + x) from wE.2 x hx6, c2, c3]
theorem rlf_sm {lim kp : Int32} (W : TW S V N lim kp) (hx : x < N) : ∀ j, j < 6 → smal (rlf V N x j) := fun j hj => by
  obtain ⟨-, w2, -, -, -, -, -, -, -, -, wV, -, -, -, -, w33⟩ := W
  have hx6 : x < 6 := by omega
  have A : An (V.1 364) := wV.1
  rcases (by omega : j = 0 ∨ j = 1 ∨ j = 2 ∨ j = 3 ∨ j = 4 ∨ j = 5) with rfl | rfl | rfl | rfl | rfl | rfl
  · have := sIn_b A hx6 N w2
    show smal (sIn _ _ _)
    unfold smal
    omega
  · have := sOut_b A hx6 N w2
    show smal (sOut _ _ _)
    unfold smal
    omega
  · obtain ⟨t, ht, e⟩ := (w33 x hx).2
    show smal (V.1 358 _)
    rw [e]
    unfold smal
    rw [nI_toInt (by omega)]
    omega
  · exact smal_irem _
  · exact smal_irem _
  · exact smal_irem _
theorem RR.lawS (R : RR n (pj (mg S V))) : S.1 0 17 = V.1 351 35 ∧ (S.1 0 17 = -1 ∨ ∃ l nl L, S.1 0 17 = nI l ∧ l < nl ∧ nl ≤ 4 ∧ S.1 16 3 = nI nl ∧ S.1 17 l = nI L ∧ L ≤ 240 ∧ V.1 354 l = nI L ∧ (∀ k, k < L → byR (S.1 (19 + l) k) (V.1 353 (240 * l + k))) ∧ ∃ g, pLaw (S.1 (19 + l)) L = .inr g) := by
  obtain ⟨-, -, -, ⟨nl, ll, a1, a2, a3, a4, a5, a6, a7⟩, -⟩ := R
  refine ⟨a5, ?_⟩
  rcases a6 with e | ⟨l, hl, e⟩
  · exact Or.inl (a5.trans e)
  · obtain ⟨b1, b2, b3, b4, b5⟩ := a7 l hl
    have e19 : pj (mg S V) (19 + l) = S.1 (19 + l) := by
      rw [pj_lo (by omega)]
      refine pj_cell fun k => ?_
      rcases (by omega : l = 0 ∨ l = 1 ∨ l = 2 ∨ l = 3) with rfl | rfl | rfl | rfl <;> rfl
    rw [e19] at b4 b5
    exact Or.inr ⟨l, nl, ll l, a5.trans e, hl, a1, a2, b2, b1, b3, b4, b5⟩
theorem RR.costC (R : RR n (pj (mg S V))) (hN : S.1 30 4 = nI N) (h6 : N ≤ 6) (hx : x < N) : ∃ S0, f_X11_costOf (hp S c) 0 (nI x) = some (cc S N x, hp S0 c) ∧ (∀ a, a ≠ 10 → a ≠ 12 → S0.1 a = S.1 a) ∧ ∀ V, RR n (pj (mg S V)) → RR n (pj (mg S0 V)) := by
  obtain ⟨l1, l2⟩ := R.lawS
  obtain ⟨S0, e1, e2, e3⟩ : ∃ S', f_X11_costOf (hp S c) 0 (nI x) = some (cc S N x, hp S' c) ∧ (∀ a, a ≠ 10 → a ≠ 12 → S'.1 a = S.1 a) ∧ (S'.1 12 = S.1 12 ∨ ∀ k, k < 6 → S'.1 12 k = clf S N x k) := by
    rcases l2 with e | ⟨l, nl, L, e, hl, hnl, h16, h17, hL, h354, hb, hg⟩
    · exact c_cost (l := 0) (nl := 0) hN h6 hx rfl (Or.inl e)
    · have et : tn (S.1 0 17) = l := by rw [e, tn_nI (by omega)]
      unfold cc
      rw [et, h17, tn_nI (by omega)]
      exact c_cost (l := l) (nl := nl) hN h6 hx rfl (Or.inr ⟨e, hl, hnl, h16, h17, hL, rfl, hg⟩)
  refine ⟨S0, e1, e2, fun V R => ?_⟩
  obtain ⟨N', lim, kp, W⟩ := R.tw
  have eN : N' = N := by
    have := W.2.2.2.2.2.1
    rw [hN] at this
    have h2 := W.2.1
    exact ((nI_eq (by omega) (by omega)).mp this).symm
  subst eN
  obtain ⟨s1, s2⟩ := R.ltS
  refine RR_ltr R (fun a h1 h2 => ?_) (fun k hk => ?_) (fun k hk => ?_)
  · by_cases h : a < 351
    · rw [pj_lo h, pj_lo h]
      by_cases h10 : a = 10
      · subst h10
        exact pj_no sc10
      · exact pj_eq (e2 a h10 h1)
    · rw [pj_hi (by omega), pj_hi (by omega)]
  · show smal (S0.1 12 k)
    rcases e3 with e | e
    · rw [e]
      exact s1 k hk
    · rw [e k hk, clf_eq W hx]
      exact rlf_sm W hx k hk
  · rw [pj_hi (by decide), show pj V 355 = V.1 355 from pj_cell fun _ => rfl]
    exact s2 k hk
theorem RR.costR (R : RR n (pj (mg S V))) (hN : S.1 30 4 = nI N) (h6 : N ≤ 6) (hx : x < N) : ∃ V0, f_X12_cost (hp V c) 351 (nI x) = some (cc S N x, hp V0 c) ∧ (∀ a, a ≠ 351 → a ≠ 355 → V0.1 a = V.1 a) ∧ (∀ k, lk k = false → V0.1 351 k = V.1 351 k) ∧ RR n (pj (mg S V0)) := by
  obtain ⟨l1, l2⟩ := R.lawS
  obtain ⟨N', lim, kp, W⟩ := R.tw
  have eN : N' = N := by
    have := W.2.2.2.2.2.1
    rw [hN] at this
    have h2 := W.2.1
    exact ((nI_eq (by omega) (by omega)).mp this).symm
  subst eN
  have hs := rlf_sm W hx
  have hc := clf_eq W hx
  have h26 := W.2.2.1
  obtain ⟨V0, e1, e2, e3, e4⟩ : ∃ S', f_X12_cost (hp V c) 351 (nI x) = some (cc S N' x, hp S' c) ∧ (∀ a, a ≠ 351 → a ≠ 355 → S'.1 a = V.1 a) ∧ (∀ k, lk k = false → S'.1 351 k = V.1 351 k) ∧ (S'.1 355 = V.1 355 ∨ ∀ k, k < 6 → S'.1 355 (ltc k) = rlf V N' x k) := by
    unfold cc
    rw [hc]
    rcases l2 with e | ⟨l, nl, L, e, hl, hnl, h16, h17, hL, h354, hb, hg⟩
    · exact r_cost (l := 0) h26 h6 hx l1.symm (Or.inl e) hs
    · have et : tn (S.1 0 17) = l := by rw [e, tn_nI (by omega)]
      rw [et, h17, tn_nI (by omega)]
      exact r_cost (l := l) h26 h6 hx l1.symm (Or.inr ⟨e, by omega, h354, hL, hb, hg⟩) hs
  refine ⟨V0, e1, e2, e3, ?_⟩
  obtain ⟨s1, s2⟩ := R.ltS
  refine RR_ltr R (fun a h1 h2 => ?_) (fun k hk => ?_) (fun k hk => ?_)
  · by_cases h : a < 351
    · rw [pj_lo h, pj_lo h]
    · rw [pj_hi (by omega), pj_hi (by omega)]
      by_cases h51 : a = 351
      · subst h51
        funext k
        unfold pj
        by_cases q : pers 351 k = true
        · rw [if_pos q, if_pos q, e3 k (lk_pers q)]
        · rw [if_neg q, if_neg q]
      · exact pj_eq (e2 a h51 h2)
  · show smal (S.1 12 k)
    exact s1 k hk
  · rw [pj_hi (by decide), show pj V0 355 = V0.1 355 from pj_cell fun _ => rfl]
    rcases e4 with e | e
    · rw [e]
      exact s2 k hk
    · rw [e k hk]
      exact hs k hk
end CO3
