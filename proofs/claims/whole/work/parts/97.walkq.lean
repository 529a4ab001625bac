/-! REACH, STRAIGHT, FEWEST: class and reference -/
/-- nothing was thrown -/
def T0 (S : XS) : XS := wA S 351 (upd (S.1 351) 0 0)
theorem T0_pj {S : XS} : pj (T0 S) = pj S := pj_up rfl
theorem T0_p {S : XS} {c : Nat × Nat} : xp [12] 0 (hp S c) 351 (.int 0) = some (hp (T0 S) c) := p351_0
theorem T0_351 {S : XS} {k : Nat} (hk : k ≠ 0) : (T0 S).1 351 k = S.1 351 k := by
  unfold T0
  rw [wA_same, upd_ne hk]
theorem T0_ne {S : XS} {a : Nat} (ha : a ≠ 351) : (T0 S).1 a = S.1 a := wA_ne ha
theorem out4 {x : Int32} {m : Nat} (hm : m + 1 < 2 ^ 31) (h : ¬ x < 0 ∧ nI (m + 1) ≤ x) : ¬ x ≤ nI m := by
  have h2 := h.2
  rw [Int32.le_iff_toInt_le, nI_toInt (by omega)] at h2
  rw [Int32.le_iff_toInt_le, nI_toInt (by omega)]
  omega
theorem nI_nneg {a : Nat} (h : a < 2 ^ 31) : ¬ nI a < 0 := show ¬ nI a < nI 0 from nI_nlt (Nat.zero_le _) h
theorem le_lit {k m : Nat} {u : Int32} (hu : u = nI m) (h : k ≤ m) (hm : m < 2 ^ 31) : nI k ≤ u := by
  rw [hu]
  exact nI_le h hm
theorem nlt_lit {k m : Nat} {u : Int32} (hu : u = nI m) (h : k ≤ m) (hm : m < 2 ^ 31) : ¬ u < nI k := by
  rw [hu]
  exact nI_nlt h hm
theorem PQ.mk {n : Nat} {c : Nat × Nat} {f g : xa_H → Option (Int32 × xa_H)} {S : XS} (v : Int32) (S1 S2 : XS) (h1 : f (hp S c) = some (v, hp S1 c)) (h2 : g (hp S1 c) = some (v, hp S2 c)) (h3 : RR (n + 1) (pj S2)) : PQ n c f g S := ⟨v, S1, S2, h1, h2, h3⟩
section WQ
variable {S : XS} {c : Nat × Nat} {n : Nat}
theorem RR.now (R : RR n (pj S)) : ∃ N, NW S N (S.1 356 1) (S.1 364 48) (rwB (S.1 364)) := by
  obtain ⟨⟨N, F, v1, v2, -⟩, -⟩ := R
  exact ⟨N, NW_of v1 v2⟩
theorem NW.t0 {N : Nat} {lim kp : Int32} {Q : BS} (W : NW S N lim kp Q) : NW (T0 S) N lim kp Q := W.of (T0_351 (by decide)) (T0_ne (by decide)) (T0_ne (by decide)) (T0_ne (by decide)) (T0_ne (by decide)) (T0_ne (by decide))
theorem NW.wk {S' : XS} {N : Nat} {lim kp : Int32} {Q : BS} (W : NW S N lim kp Q) (h : wkF S' S) : NW S' N lim kp Q := W.of (by rw [h.1 351 (by omega)]) (h.1 356 (by omega)) (h.1 30 (by omega)) (h.1 31 (by omega)) (h.1 32 (by omega)) (h.1 364 (by omega))
theorem pr_reach (R : RR n (pj S)) (hn : n < 1000000000) (x : Int32) : PQ n c (fun h => f_X11_reach h 0 x) (fun h => f_X12_reach h 351 x) S := by
  obtain ⟨N, W⟩ := R.now
  by_cases hN : N = 0
  · subst hN
    refine PQ.same (v := -1) (S1 := S) (S2 := T0 S) R ?_ ?_ rfl T0_pj
    · unfold f_X11_reach
      rw [k0, Option.bind_some, g0_6, Option.bind_some, B30.g4, Option.bind_some, W.2.2.2.2.2.2.1, if_pos (show nI 0 = 0 from rfl)]
    · unfold f_X12_reach
      rw [k351, Option.bind_some, T0_p, Option.bind_some, g351_26, Option.bind_some, W.t0.2.2.1, if_pos (show nI 0 = 0 from rfl)]
  · have h6 := W.2.1
    have nz : ¬ nI N = 0 := nI_ne0 (by omega) (by omega)
    rcases ix_of (x := x) (N := 5) (by decide) with ⟨j, hj, rfl⟩ | hx
    · obtain ⟨S1, e1, e2, e3⟩ := cls_tabs (c := c) (most := j) R hn W (by omega)
      obtain ⟨S2, y1, y2, y3⟩ := ref_tabs (S := T0 S1) (c := c) (most := j) (W.wk e3).t0 (by omega)
      refine PQ.mk (nI (cnT N (S.1 364 48) (S.1 356 1) (rwB (S.1 364)) j)) S1 S2 ?_ ?_ ?_
      · unfold f_X11_reach
        rw [k0, Option.bind_some, g0_6, Option.bind_some, B30.g4, Option.bind_some, W.2.2.2.2.2.2.1, if_neg nz, if_neg (nI_nneg (by omega)), if_pos (show nI j ≤ (4 : Int32) from le_lit (m := 4) rfl (by omega) (by decide)), g0_12, Option.bind_some, Option.bind_some, e1, Option.bind_some, g0_12, Option.bind_some, g271_5, Option.bind_some, e2]
      · unfold f_X12_reach
        rw [k351, Option.bind_some, T0_p, Option.bind_some, g351_26, Option.bind_some, (W.wk e3).t0.2.2.1, if_neg nz, isIn_in (u := 4) (k := j) (m := 4) (by omega) (by decide) rfl, Option.bind_some, if_neg (show ¬ (1 : Int32) = 0 by decide), y1, Option.bind_some, g351_45, Option.bind_some, y2]
      · rw [y3, T0_pj]
        exact RR_wk R e3
    · refine PQ.same (v := -1) (S1 := S) (S2 := T0 S) R ?_ ?_ rfl T0_pj
      · unfold f_X11_reach
        rw [k0, Option.bind_some, g0_6, Option.bind_some, B30.g4, Option.bind_some, W.2.2.2.2.2.2.1, if_neg nz]
        rcases hx with z | z
        · rw [if_pos z]
        · rw [if_neg z.1, if_neg (show ¬ x ≤ (4 : Int32) from out4 (m := 4) (by decide) z)]
      · unfold f_X12_reach
        rw [k351, Option.bind_some, T0_p, Option.bind_some, g351_26, Option.bind_some, W.t0.2.2.1, if_neg nz, isIn_out (u := 4) (m := 4) hx (by decide) rfl, Option.bind_some, if_pos rfl]
theorem pr_straight (R : RR n (pj S)) (x : Int32) : PQ n c (fun h => f_X11_straight h 0 x) (fun h => f_X12_straight h 351 x) S := by
  obtain ⟨N, W⟩ := R.now
  by_cases hN : N = 0
  · subst hN
    refine PQ.same (v := -1) (S1 := S) (S2 := T0 S) R ?_ ?_ rfl T0_pj
    · unfold f_X11_straight
      rw [k0, Option.bind_some, g0_6, Option.bind_some, B30.g4, Option.bind_some, W.2.2.2.2.2.2.1, if_pos (show nI 0 = 0 from rfl)]
    · unfold f_X12_straight
      rw [k351, Option.bind_some, T0_p, Option.bind_some, g351_26, Option.bind_some, W.t0.2.2.1, if_pos (show nI 0 = 0 from rfl)]
  · have h6 := W.2.1
    have hl := W.2.2.2.2.2.1
    have nz : ¬ nI N = 0 := nI_ne0 (by omega) (by omega)
    have hb := bK_le (kp := S.1 364 48) (aim := 1) (most := 4) h6 hl W.V
    rcases ix_of (x := x) (N := 2) (by decide) with ⟨j, hj, rfl⟩ | hx
    · obtain ⟨S1, e1, e2, e3, e4, e5⟩ := cls_best (c := c) (aim := 1) (most := 4) W (by omega) (by omega)
      obtain ⟨S2, y1, y2, y3⟩ := ref_str (S := T0 S1) (c := c) (W.wk e5).t0
      refine PQ.mk (if (bK N (S.1 364 48) (S.1 356 1) (rwB (S.1 364)) 1 4).1 = 0 then (if j = 0 then nI (bK N (S.1 364 48) (S.1 356 1) (rwB (S.1 364)) 1 4).2.1 else nI (bK N (S.1 364 48) (S.1 356 1) (rwB (S.1 364)) 1 4).2.2) else -1) S1 S2 ?_ ?_ ?_
      · unfold f_X11_straight
        have e1' : f_X10_search (hp S c) 271 30 4 1 = some (hp S1 c) := e1
        rw [k0, Option.bind_some, g0_6, Option.bind_some, B30.g4, Option.bind_some, W.2.2.2.2.2.2.1, if_neg nz, if_neg (nI_nneg (by omega)), if_pos (show nI j ≤ (1 : Int32) from le_lit (m := 1) rfl (by omega) (by decide)), g0_12, Option.bind_some, Option.bind_some, e1', Option.bind_some, g0_12, Option.bind_some, g271_8, Option.bind_some, e2]
        by_cases z : (bK N (S.1 364 48) (S.1 356 1) (rwB (S.1 364)) 1 4).1 = 0
        · rw [if_pos (by rw [z]; rfl), if_pos z]
          by_cases q : j = 0
          · rw [if_pos (by rw [q]; rfl), if_pos q, Option.bind_some, g271_9, Option.bind_some, e3]
          · rw [if_neg (nI_ne0 (by omega) (by omega)), if_neg q, Option.bind_some, g271_10, Option.bind_some, e4]
        · rw [if_neg (nI_ne0 (by omega) (by omega)), if_neg z]
      · unfold f_X12_straight
        rw [k351, Option.bind_some, T0_p, Option.bind_some, g351_26, Option.bind_some, (W.wk e5).t0.2.2.1, if_neg nz, isIn_in (u := 1) (k := j) (m := 1) (by omega) (by decide) rfl, Option.bind_some, if_neg (show ¬ (1 : Int32) = 0 by decide), y1, Option.bind_some]
        rcases y2 with ⟨z, z1, z2⟩ | ⟨z, z1, z2⟩
        · rw [if_neg z]
          by_cases q : j = 0
          · rw [if_pos (by rw [q]; rfl), g351_47, Option.bind_some, z1]
          · rw [if_neg (nI_ne0 (by omega) (by omega)), g351_49, Option.bind_some, z2]
        · rw [if_pos z]
          by_cases q : j = 0
          · rw [if_pos (by rw [q]; rfl), if_pos q, g351_47, Option.bind_some, z1]
          · rw [if_neg (nI_ne0 (by omega) (by omega)), if_neg q, g351_49, Option.bind_some, z2]
      · rw [y3, T0_pj]
        exact RR_wk R e5
    · refine PQ.same (v := -1) (S1 := S) (S2 := T0 S) R ?_ ?_ rfl T0_pj
      · unfold f_X11_straight
        rw [k0, Option.bind_some, g0_6, Option.bind_some, B30.g4, Option.bind_some, W.2.2.2.2.2.2.1, if_neg nz]
        rcases hx with z | z
        · rw [if_pos z]
        · rw [if_neg z.1, if_neg (show ¬ x ≤ (1 : Int32) from out4 (m := 1) (by decide) z)]
      · unfold f_X12_straight
        rw [k351, Option.bind_some, T0_p, Option.bind_some, g351_26, Option.bind_some, W.t0.2.2.1, if_neg nz, isIn_out (u := 1) (m := 1) hx (by decide) rfl, Option.bind_some, if_pos rfl]
theorem pr_fewest (R : RR n (pj S)) (x w : Int32) : PQ n c (fun h => f_X11_fewest h 0 x w) (fun h => f_X12_fewest h 351 x w) S := by
  obtain ⟨N, W⟩ := R.now
  by_cases hN : N = 0
  · subst hN
    refine PQ.same (v := -1) (S1 := S) (S2 := T0 S) R ?_ ?_ rfl T0_pj
    · unfold f_X11_fewest
      rw [k0, Option.bind_some, g0_6, Option.bind_some, B30.g4, Option.bind_some, W.2.2.2.2.2.2.1, if_pos (show nI 0 = 0 from rfl)]
    · unfold f_X12_fewest
      rw [k351, Option.bind_some, T0_p, Option.bind_some, g351_26, Option.bind_some, W.t0.2.2.1, if_pos (show nI 0 = 0 from rfl)]
  · have h6 := W.2.1
    have nz : ¬ nI N = 0 := nI_ne0 (by omega) (by omega)
    rcases ix_of (x := x) (N := 5) (by decide) with ⟨j, hj, rfl⟩ | hx
    · rcases ix_of (x := w) (N := 2) (by decide) with ⟨i, hi, rfl⟩ | hw
      · obtain ⟨S1, e1, e2, e3, e4, e5⟩ := cls_best (c := c) (aim := 2) (most := j) W (by omega) (by omega)
        obtain ⟨S2, y1, y2, y3, y4⟩ := ref_best (S := T0 S1) (c := c) (most := j) (W.wk e5).t0 (by omega)
        refine PQ.mk (if i = 0 then nI (bK N (S.1 364 48) (S.1 356 1) (rwB (S.1 364)) 2 j).1 else nI (bK N (S.1 364 48) (S.1 356 1) (rwB (S.1 364)) 2 j).2.2) S1 S2 ?_ ?_ ?_
        · unfold f_X11_fewest
          have e1' : f_X10_search (hp S c) 271 30 (nI j) 2 = some (hp S1 c) := e1
          rw [k0, Option.bind_some, g0_6, Option.bind_some, B30.g4, Option.bind_some, W.2.2.2.2.2.2.1, if_neg nz, if_neg (nI_nneg (by omega)), if_neg (show ¬ (4 : Int32) < nI j from nlt_lit (m := 4) rfl (by omega) (by decide)), if_neg (nI_nneg (by omega)), if_pos (show nI i ≤ (1 : Int32) from le_lit (m := 1) rfl (by omega) (by decide)), g0_12, Option.bind_some, Option.bind_some, e1', Option.bind_some]
          by_cases q : i = 0
          · rw [if_pos (by rw [q]; rfl), if_pos q, g0_12, Option.bind_some, g271_8, Option.bind_some, e2]
          · rw [if_neg (nI_ne0 (by omega) (by omega)), if_neg q, g0_12, Option.bind_some, g271_10, Option.bind_some, e4]
        · unfold f_X12_fewest
          rw [k351, Option.bind_some, T0_p, Option.bind_some, g351_26, Option.bind_some, (W.wk e5).t0.2.2.1, if_neg nz, isIn_in (u := 4) (k := j) (m := 4) (by omega) (by decide) rfl, Option.bind_some, if_neg (show ¬ (1 : Int32) = 0 by decide), isIn_in (u := 1) (k := i) (m := 1) (by omega) (by decide) rfl, Option.bind_some, if_neg (show ¬ (1 : Int32) = 0 by decide), y1, Option.bind_some]
          by_cases q : i = 0
          · rw [if_pos (by rw [q]; rfl), if_pos q, g351_48, Option.bind_some, y2]
          · rw [if_neg (nI_ne0 (by omega) (by omega)), if_neg q, g351_49, Option.bind_some, y3]
        · rw [y4, T0_pj]
          exact RR_wk R e5
      · refine PQ.same (v := -1) (S1 := S) (S2 := T0 S) R ?_ ?_ rfl T0_pj
        · unfold f_X11_fewest
          rw [k0, Option.bind_some, g0_6, Option.bind_some, B30.g4, Option.bind_some, W.2.2.2.2.2.2.1, if_neg nz, if_neg (nI_nneg (by omega)), if_neg (show ¬ (4 : Int32) < nI j from nlt_lit (m := 4) rfl (by omega) (by decide))]
          rcases hw with z | z
          · rw [if_pos z]
          · rw [if_neg z.1, if_neg (show ¬ w ≤ (1 : Int32) from out4 (m := 1) (by decide) z)]
        · unfold f_X12_fewest
          rw [k351, Option.bind_some, T0_p, Option.bind_some, g351_26, Option.bind_some, W.t0.2.2.1, if_neg nz, isIn_in (u := 4) (k := j) (m := 4) (by omega) (by decide) rfl, Option.bind_some, if_neg (show ¬ (1 : Int32) = 0 by decide), isIn_out (u := 1) (m := 1) hw (by decide) rfl, Option.bind_some, if_pos rfl]
    · refine PQ.same (v := -1) (S1 := S) (S2 := T0 S) R ?_ ?_ rfl T0_pj
      · unfold f_X11_fewest
        rw [k0, Option.bind_some, g0_6, Option.bind_some, B30.g4, Option.bind_some, W.2.2.2.2.2.2.1, if_neg nz]
        rcases hx with z | z
        · rw [if_pos z]
        · have q := out4 (m := 4) (by decide) z
          rw [if_neg z.1, if_pos (show (4 : Int32) < x from Int32.not_le.mp q)]
      · unfold f_X12_fewest
        rw [k351, Option.bind_some, T0_p, Option.bind_some, g351_26, Option.bind_some, W.t0.2.2.1, if_neg nz, isIn_out (u := 4) (m := 4) hx (by decide) rfl, Option.bind_some, if_pos rfl]
end WQ
