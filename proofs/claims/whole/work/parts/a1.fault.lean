/-! FAULT: class and reference -/
section FT
variable {S : XS} {c : Nat × Nat} {n : Nat}
theorem pj_frV {S S' : XS} (h : frV S' S) : pj S' = pj S := pj_ext fun a k q => by
  by_cases e1 : a = 351
  · subst e1
    refine h.2.2 k ?_
    cases hz : vk k with
    | false => rfl
    | true =>
      unfold vk at hz
      simp only [Bool.or_eq_true, decide_eq_true_eq, beq_iff_eq] at hz
      have : k = 8 ∨ k = 9 ∨ k = 10 ∨ k = 11 ∨ k = 12 ∨ k = 28 ∨ k = 29 ∨ k = 31 := by omega
      rcases this with rfl | rfl | rfl | rfl | rfl | rfl | rfl | rfl <;> exact absurd q (by decide)
  · by_cases e2 : a = 357
    · subst e2; rw [sc357 k] at q; cases q
    · by_cases e3 : a = 359
      · subst e3; rw [sc359 k] at q; cases q
      · by_cases e4 : a = 361
        · subst e4; rw [sc361 k] at q; cases q
        · rw [h.1 a e1 e2 e3 e4]
theorem pj_lk {F : Nat → Int32} (h : ∀ k, lk k = false → F k = S.1 351 k) : pj (wA S 351 F) = pj S := pj_wA fun k q => by
  refine h k ?_
  cases hz : lk k with
  | false => rfl
  | true =>
    unfold lk at hz
    simp only [Bool.or_eq_true, decide_eq_true_eq, beq_iff_eq] at hz
    have : k = 8 ∨ k = 9 ∨ k = 10 ∨ k = 11 ∨ k = 12 ∨ k = 13 ∨ k = 14 ∨ k = 17 := by omega
    rcases this with rfl | rfl | rfl | rfl | rfl | rfl | rfl | rfl <;> exact absurd q (by decide)
theorem pj_fr2 {S S' : XS} (h : fr 2 9 S' S) : pj S' = pj S := pj_fr h fun a h1 h2 k => by
  rcases (by omega : a = 2 ∨ a = 3 ∨ a = 4 ∨ a = 5 ∨ a = 6 ∨ a = 7 ∨ a = 8 ∨ a = 9) with rfl | rfl | rfl | rfl | rfl | rfl | rfl | rfl <;> rfl
theorem pj_fr13 {S S' : XS} (h : fr 13 15 S' S) : pj S' = pj S := pj_fr h fun a h1 h2 k => by
  rcases (by omega : a = 13 ∨ a = 14 ∨ a = 15) with rfl | rfl | rfl <;> rfl
/-- the tape, in cells -/
theorem RR.tape (R : RR n (pj S)) : ∃ tl, tl ≤ 240 ∧ S.1 0 16 = nI tl ∧ S.1 351 6 = nI tl ∧ ∀ k, k < tl → byR (S.1 1 k) (S.1 352 k) := by
  obtain ⟨tl, t1, t2, t3, t4⟩ := R.2.1
  refine ⟨tl, t1, t2, t3, fun k hk => ?_⟩
  have := t4 k hk
  rw [show pj S 1 = S.1 1 from pj_cell fun _ => rfl, show pj S 352 = S.1 352 from pj_cell fun _ => rfl] at this
  exact this
theorem pj_frG {S S' : XS} (h : frG S' S) : pj S' = pj S := pj_ext fun a k q => by
  by_cases e1 : a = 351
  · subst e1
    refine h.2.2.1 k ?_
    cases hz : vk k with
    | false => rfl
    | true =>
      unfold vk at hz
      simp only [Bool.or_eq_true, decide_eq_true_eq, beq_iff_eq] at hz
      have : k = 8 ∨ k = 9 ∨ k = 10 ∨ k = 11 ∨ k = 12 ∨ k = 28 ∨ k = 29 ∨ k = 31 := by omega
      rcases this with rfl | rfl | rfl | rfl | rfl | rfl | rfl | rfl <;> exact absurd q (by decide)
  · by_cases e2 : a = 362
    · subst e2
      exact h.2.2.2.1 k (of_decide_eq_true q)
    · by_cases e3 : a = 363
      · subst e3
        exact h.2.2.2.2 k (of_decide_eq_true q)
      · rw [h.1 a e1 e2 e3]
theorem bind_id {α : Type} {o : Option (Int32 × α)} : (o.bind fun q => some (q.1, q.2)) = o := by
  cases o <;> rfl
theorem cf0 : f_X11_fault (hp S c) 0 0 = f_X9_read (hp S c) 2 1 (S.1 0 16) := by
  unfold f_X11_fault
  rw [k0, Option.bind_some, if_pos rfl, g0_1, Option.bind_some, g0_0, Option.bind_some, g0_16, Option.bind_some, bind_id]
theorem cf1 : f_X11_fault (hp S c) 0 1 = f_X2_read (hp S c) 10 1 (S.1 0 16) := by
  unfold f_X11_fault
  rw [k0, Option.bind_some, if_neg (by decide), if_pos rfl, g0_2, Option.bind_some, g0_0, Option.bind_some, g0_16, Option.bind_some, bind_id]
theorem cf2 : f_X11_fault (hp S c) 0 2 = f_X8_read (hp S c) 13 1 (S.1 0 16) := by
  unfold f_X11_fault
  rw [k0, Option.bind_some, if_neg (by decide), if_neg (by decide), if_pos rfl, g0_3, Option.bind_some, g0_0, Option.bind_some, g0_16, Option.bind_some, bind_id]
theorem rf0 {S' : XS} (h : f_X12_readVillage (hp (T0 S) c) 351 = some (hp S' c)) : f_X12_fault (hp S c) 351 0 = some (S'.1 351 11, hp S' c) := by
  unfold f_X12_fault f_X12_fault_b28 f_X12_fault_b46 f_X12_fault_b55
  rw [k351, Option.bind_some, T0_p, Option.bind_some, show f_X12_isIn (hp (T0 S) c) (0 : Int32).toInt64 (0 : Int64) (2 : Int64) = some 1 from isIn_in (k := 0) (m := 2) (by decide) (by decide) rfl, Option.bind_some, if_neg (by decide), if_pos rfl, h, Option.bind_some, if_neg (by decide), if_neg (by decide), g351_11, Option.bind_some]
theorem rf1 {S' : XS} (h : f_X12_goThrough (hp (T0 S) c) 351 352 0 (S.1 351 6) = some (hp S' c)) : f_X12_fault (hp S c) 351 1 = some (S'.1 351 11, hp S' c) := by
  unfold f_X12_fault f_X12_fault_b28 f_X12_fault_b46 f_X12_fault_b55
  rw [k351, Option.bind_some, T0_p, Option.bind_some, show f_X12_isIn (hp (T0 S) c) (1 : Int32).toInt64 (0 : Int64) (2 : Int64) = some 1 from isIn_in (k := 1) (m := 2) (by decide) (by decide) rfl, Option.bind_some, if_neg (by decide), if_neg (by decide), if_pos rfl, g351_1, Option.bind_some, g351_6, Option.bind_some, T0_351 (by decide), h, Option.bind_some, if_neg (by decide), g351_11, Option.bind_some]
theorem rf2 {S' : XS} (h : f_X12_readSong (hp (T0 S) c) 351 = some (hp S' c)) : f_X12_fault (hp S c) 351 2 = some (S'.1 351 11, hp S' c) := by
  unfold f_X12_fault f_X12_fault_b28 f_X12_fault_b46 f_X12_fault_b55
  rw [k351, Option.bind_some, T0_p, Option.bind_some, show f_X12_isIn (hp (T0 S) c) (2 : Int32).toInt64 (0 : Int64) (2 : Int64) = some 1 from isIn_in (k := 2) (m := 2) (by decide) (by decide) rfl, Option.bind_some, if_neg (by decide), if_neg (by decide), if_neg (by decide), if_pos rfl, h, Option.bind_some, g351_11, Option.bind_some]
theorem RR.lets (R : RR n (pj S)) : ltS S := by
  obtain ⟨-, -, -, -, -, m⟩ := R.2.2.2.2
  intro j
  unfold lt ltc
  have e : pj S 355 = S.1 355 := pj_cell fun _ => rfl
  rw [e] at m
  obtain ⟨a1, a2, a3, a4, a5, a6⟩ := m
  by_cases j0 : j = 0
  · rw [if_pos j0]; exact a1
  · rw [if_neg j0]
    by_cases j1 : j = 1
    · rw [if_pos j1]; exact a2
    · rw [if_neg j1]
      by_cases j2 : j = 2
      · rw [if_pos j2]; exact a3
      · rw [if_neg j2]
        by_cases j3 : j = 3
        · rw [if_pos j3]; exact a4
        · rw [if_neg j3]
          by_cases j4 : j = 4
          · rw [if_pos j4]; exact a5
          · rw [if_neg j4]; exact a6
theorem pr_fault (R : RR n (pj S)) (x : Int32) : PQ n c (fun h => f_X11_fault h 0 x) (fun h => f_X12_fault h 351 x) S := by
  obtain ⟨tl, t1, t2, t3, t4⟩ := R.tape
  by_cases x0 : x = 0
  · subst x0
    have hc := X9_read (S := S) (c := c) (T := S.1 1) (td := S.1 359) (fv := S.1 361) (ta := 1) t1 s1 t1 (by decide) (by decide) (fun k _ => rfl)
    have hr : ∀ S1 : XS, fr 2 9 S1 (wT S 2 1) → rvR (wT (T0 S1) 351 352) c (f_X12_readVillage (hp (T0 S1) c) 351) (spVl (S.1 1) tl (tl + 1) (V0 (S.1 359) (S.1 361)) 0) := by
      intro S1 hf
      have := X12_vil (S := T0 S1) (c := c) (T := S.1 1) t1 (by rw [T0_351 (by decide), hf.1 351 (by omega)]; exact t3) (fun k hk => by rw [T0_ne (by decide), hf.1 352 (by omega)]; exact t4 k hk)
      rw [T0_ne (by decide), T0_ne (by decide), hf.1 359 (by omega), hf.1 361 (by omega)] at this
      exact this
    rw [← t2, ← cf0] at hc
    cases hv : spVl (S.1 1) tl (tl + 1) (V0 (S.1 359) (S.1 361)) 0 with
    | inl f =>
      rw [hv] at hc
      obtain ⟨S1, e1, e2⟩ := hc
      obtain ⟨S2, y1, y2, y3⟩ := (hr S1 e2).1 f hv
      refine PQ.same (v := nI f) (S1 := S1) (S2 := S2) R e1 ?_ ((pj_fr2 e2).trans pj_wT) ((pj_frV y3).trans T0_pj)
      rw [rf0 y1, y2]
    | inr V =>
      rw [hv] at hc
      obtain ⟨S1, e1, e2, -⟩ := hc
      obtain ⟨S2, y1, y2, -, y3⟩ := (hr S1 e2).2 V hv
      refine PQ.same (v := -1) (S1 := S1) (S2 := S2) R e1 ?_ ((pj_fr2 e2).trans pj_wT) ((pj_frV y3).trans T0_pj)
      rw [rf0 y1, y2]
  · by_cases x1 : x = 1
    · subst x1
      have hc := X2_read (S := S) (c := c) (T := S.1 1) (ta := 1) t1 s1 t1 (by decide) (by decide) (fun k _ => rfl)
      have hr : ∀ F : Nat → Int32, gtR (wT (T0 (wA (wT S 10 1) 10 F)) 351 352) c (f_X12_goThrough (hp (T0 (wA (wT S 10 1) 10 F)) c) 351 352 (nI 0) (nI tl)) (pLaw (S.1 1) tl) := by
        intro F
        refine X12_go (T := S.1 1) t1 s352 (by omega) (by decide) (by decide) (fun j => ?_) (fun k hk => ?_)
        · show smal ((T0 (wA (wT S 10 1) 10 F)).1 355 (ltc j))
          rw [T0_ne (by decide), wA_ne (by decide)]
          exact R.lets j
        · rw [T0_ne (by decide), wA_ne (by decide), Nat.zero_add]
          exact t4 k hk
      rw [← t2, ← cf1] at hc
      have p1 : ∀ F : Nat → Int32, pj (wA (wT S 10 1) 10 F) = pj S := fun F => pj_scr sc10
      have q6 : ∀ F : Nat → Int32, (wA (wT S 10 1) 10 F).1 351 6 = nI tl := fun F => by
        rw [wA_ne (by decide)]
        exact t3
      cases hv : pLaw (S.1 1) tl with
      | inl f =>
        rw [hv] at hc
        obtain ⟨F, e1⟩ := hc
        have hr' := hr F
        rw [hv] at hr'
        obtain ⟨-, G, y1, y2, y3⟩ := hr'
        refine PQ.same (v := nI f) R e1 ?_ (p1 F) ((pj_lk y3).trans T0_pj)
        rw [rf1 (by rw [q6]; exact y1), wA_same, y2]
      | inr g =>
        rw [hv] at hc
        obtain ⟨F, e1, -⟩ := hc
        have hr' := hr F
        rw [hv] at hr'
        obtain ⟨G, y1, y2, -, y3⟩ := hr'
        refine PQ.same (v := -1) R e1 ?_ (p1 F) ((pj_lk y3).trans T0_pj)
        rw [rf1 (by rw [q6]; exact y1), wA_same, y2]
    · by_cases x2 : x = 2
      · subst x2
        have hc := X8_read (S := S) (c := c) (T := S.1 1) (ta := 1) (D := fun _ => 0) t1 s1 t1 (by decide) (by decide) (fun k _ => rfl)
        have hr : ∀ S1 : XS, fr 13 15 S1 (wT S 13 1) → rsR (wT (T0 S1) 351 352) c (f_X12_readSong (hp (T0 S1) c) 351) (sgF (S.1 1) tl (tl + 1) 0 (fun _ => 0) 0) := by
          intro S1 hf
          exact X12_song (S := T0 S1) (c := c) (T := S.1 1) t1 (by rw [T0_351 (by decide), hf.1 351 (by omega)]; exact t3) (fun k hk => by rw [T0_ne (by decide), hf.1 352 (by omega)]; exact t4 k hk)
        rw [← t2, ← cf2] at hc
        cases hv : sgF (S.1 1) tl (tl + 1) 0 (fun _ => 0) 0 with
        | inl f =>
          obtain ⟨S1, e1, e2⟩ := hc.1 f hv
          obtain ⟨S2, y1, y2, y3⟩ := (hr S1 e2).1 f hv
          refine PQ.same (v := nI f) (S1 := S1) (S2 := S2) R e1 ?_ ((pj_fr13 e2).trans pj_wT) ((pj_frG y3).trans T0_pj)
          rw [rf2 y1, y2]
        | inr g =>
          obtain ⟨m, D⟩ := g
          obtain ⟨S1, e1, e2, -⟩ := hc.2 m D hv
          obtain ⟨S2, y1, y2, y3, -⟩ := (hr S1 e2).2 m D hv
          refine PQ.same (v := -1) (S1 := S1) (S2 := S2) R e1 ?_ ((pj_fr13 e2).trans pj_wT) ((pj_frG y3).trans T0_pj)
          rw [rf2 y1, y2]
      · refine PQ.same (v := -2) (S1 := S) (S2 := T0 S) R ?_ ?_ rfl T0_pj
        · unfold f_X11_fault
          rw [k0, Option.bind_some, if_neg x0, if_neg x1, if_neg x2]
        · unfold f_X12_fault
          have hx : x < 0 ∨ (¬ x < 0 ∧ nI 3 ≤ x) := by
            rcases ix_of (x := x) (N := 3) (by decide) with ⟨j, hj, z⟩ | z
            · rcases (by omega : j = 0 ∨ j = 1 ∨ j = 2) with rfl | rfl | rfl
              · exact absurd z x0
              · exact absurd z x1
              · exact absurd z x2
            · exact z
          rw [k351, Option.bind_some, T0_p, Option.bind_some, isIn_out (u := 2) (m := 2) hx (by decide) rfl, Option.bind_some, if_pos rfl]
end FT
