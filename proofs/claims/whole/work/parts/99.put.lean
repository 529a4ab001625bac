/-! CALLS that put one number -/
section PU
variable {S : XS} {c : Nat × Nat} {n : Nat} {p p' : PJ}
theorem RR.put (h : RR n p) (hc : ∀ a, a ≠ 0 → a ≠ 351 → p' a = p a) (h1 : ∀ k, k ≠ 6 → k ≠ 35 → k ≠ 36 → p' 351 k = p 351 k) (ht : ∃ tl, Rtape p' tl) (hl : ∃ nl ll, Rlaws p' nl ll) (hm : Rmisc p' n) : RR n p' := by
  obtain ⟨⟨N, F, v1, v2, v3, ⟨A, q, cr, v4⟩, v5, m, v6⟩, -, ⟨ns, sl, dg, s1⟩, -, -⟩ := h
  have c := fun a (h : a ≠ 0) (h' : a ≠ 351) (k : Nat) => congrFun (hc a h h') k
  exact ⟨⟨N, F, v1.cg (h1 _ (by decide) (by decide) (by decide)) (h1 _ (by decide) (by decide) (by decide)) (c _ (by decide) (by decide) _) (hc _ (by decide) (by decide)) (hc _ (by decide) (by decide)), v2.cg (hc _ (by decide) (by decide)) (hc _ (by decide) (by decide)) (hc _ (by decide) (by decide)) (hc _ (by decide) (by decide)) (hc _ (by decide) (by decide)) (hc _ (by decide) (by decide)) (c _ (by decide) (by decide) _) (hc _ (by decide) (by decide)), v3.cg (hc _ (by decide) (by decide)) (hc _ (by decide) (by decide)) (hc _ (by decide) (by decide)) (hc _ (by decide) (by decide)) (hc _ (by decide) (by decide)) (hc _ (by decide) (by decide)) (hc _ (by decide) (by decide)) (hc _ (by decide) (by decide)), ⟨A, q, cr, v4.cg (h1 _ (by decide) (by decide) (by decide)) (hc _ (by decide) (by decide)) (hc _ (by decide) (by decide)) (hc _ (by decide) (by decide)) (hc _ (by decide) (by decide)) (hc _ (by decide) (by decide)) (hc _ (by decide) (by decide)) (c _ (by decide) (by decide) _) (hc _ (by decide) (by decide)) (fun a _ _ => hc _ (by omega) (by omega))⟩, v5.cg (c _ (by decide) (by decide) _) (h1 _ (by decide) (by decide) (by decide)) (fun a _ _ => hc _ (by omega) (by omega)) (hc _ (by decide) (by decide)) (c _ (by decide) (by decide) _) (hc _ (by decide) (by decide)), m, v6.cg (h1 _ (by decide) (by decide) (by decide)) (fun a _ _ => hc _ (by omega) (by omega)) (hc _ (by decide) (by decide))⟩, ht, ⟨ns, sl, dg, s1.cg (hc _ (by decide) (by decide)) (h1 _ (by decide) (by decide) (by decide)) (hc _ (by decide) (by decide)) (fun k _ => c _ (by decide) (by decide) _) (fun a _ _ => hc _ (by omega) (by omega)) (fun k _ => c _ (by decide) (by decide) _)⟩, hl, hm⟩
/-- a number put at both -/
def put2 (S : XS) (i j : Nat) (v : Int32) : XS := wA (T0 (wA S 0 (upd (S.1 0) i v))) 351 (upd ((T0 (wA S 0 (upd (S.1 0) i v))).1 351) j v)
theorem put2_c {i j : Nat} {v : Int32} {a : Nat} (h : a ≠ 0) (h' : a ≠ 351) : pj (put2 S i j v) a = pj S a := by
  funext k
  unfold pj put2 T0
  rw [wA_ne h', wA_ne h', wA_ne h]
theorem put2_0 {i j k : Nat} {v : Int32} : pj (put2 S i j v) 0 k = if k = i then v else pj S 0 k := by
  show (put2 S i j v).1 0 k = if k = i then v else S.1 0 k
  unfold put2 T0
  rw [wA_ne (by decide), wA_ne (by decide), wA_same]
  rfl
theorem put2_1 {i j k : Nat} {v : Int32} (h : pers 351 k = true) : pj (put2 S i j v) 351 k = if k = j then v else pj S 351 k := by
  rw [pj_at h, pj_at h]
  unfold put2 T0
  rw [wA_same, wA_same, wA_ne (by decide)]
  unfold upd
  by_cases e : k = j
  · rw [if_pos e, if_pos e]
  · rw [if_neg e, if_neg e]
    by_cases e0 : k = 0
    · subst e0
      exact absurd h (by decide)
    · rw [if_neg e0]
theorem put2_1' {i j k : Nat} {v : Int32} (hk : k ≠ j) : pj (put2 S i j v) 351 k = pj S 351 k := by
  by_cases h : pers 351 k = true
  · rw [put2_1 h, if_neg hk]
  · unfold pj
    rw [if_neg h, if_neg h]
theorem put2_0' {i j k : Nat} {v : Int32} (hk : k ≠ i) : pj (put2 S i j v) 0 k = pj S 0 k := by
  rw [put2_0, if_neg hk]
theorem Rmisc.cg (h : Rmisc p n) (h0 : p' 0 18 = p 0 18) (h1 : p' 351 36 = p 351 36) (h2 : p' 349 = p 349) (h3 : p' 366 = p 366) (h4 : p' 271 = p 271) (h5 : p' 275 = p 275) (h6 : p' 12 = p 12) (h7 : p' 355 = p 355) : Rmisc p' n := by
  unfold Rmisc at h ⊢
  rw [h0, h1, h2, h3, h4, h5, h6, h7]
  exact h
theorem RR_end {v : Nat} (R : RR n (pj S)) (hv : ∃ tl, Rtape (pj S) tl ∧ v ≤ tl) : RR (n + 1) (pj (put2 S 16 6 (nI v))) := by
  obtain ⟨tl, t, ht⟩ := hv
  obtain ⟨nl, ll, l⟩ := R.2.2.2.1
  refine ((R.put (p' := pj (put2 S 16 6 (nI v))) (fun a h h' => put2_c h h') (fun k h _ _ => put2_1' h) ⟨v, ?_⟩ ⟨nl, ll, ?_⟩ ?_).mono (by omega))
  · obtain ⟨t1, t2, t3, t4⟩ := t
    refine ⟨by omega, by rw [put2_0, if_pos rfl], by rw [put2_1 (by decide), if_pos rfl], fun k hk => ?_⟩
    rw [put2_c (by decide) (by decide), put2_c (by decide) (by decide)]
    exact t4 k (by omega)
  · exact l.cg (put2_c (by decide) (by decide)) (put2_c (by decide) (by decide)) (put2_1' (by decide)) (put2_0' (by decide)) (put2_1' (by decide)) (put2_c (by decide) (by decide)) (put2_c (by decide) (by decide)) (fun a _ _ => put2_c (by omega) (by omega))
  · exact R.2.2.2.2.cg (put2_0' (by decide)) (put2_1' (by decide)) (put2_c (by decide) (by decide)) (put2_c (by decide) (by decide)) (put2_c (by decide) (by decide)) (put2_c (by decide) (by decide)) (put2_c (by decide) (by decide)) (put2_c (by decide) (by decide))
theorem RR_law {v : Int32} (R : RR n (pj S)) (hv : ∃ nl ll, Rlaws (pj S) nl ll ∧ (v = -1 ∨ ∃ l, l < nl ∧ v = nI l)) : RR (n + 1) (pj (put2 S 17 35 v)) := by
  obtain ⟨nl, ll, l, hl⟩ := hv
  obtain ⟨tl, t⟩ := R.2.1
  refine ((R.put (p' := pj (put2 S 17 35 v)) (fun a h h' => put2_c h h') (fun k _ h _ => put2_1' h) ⟨tl, ?_⟩ ⟨nl, ll, ?_⟩ ?_).mono (by omega))
  · exact t.cg (put2_0' (by decide)) (put2_1' (by decide)) (put2_c (by decide) (by decide)) (put2_c (by decide) (by decide))
  · obtain ⟨l1, l2, l3, l4, l5, l6, l7⟩ := l
    refine ⟨l1, ?_, ?_, ?_, ?_, ?_, fun i hi => ?_⟩
    · rw [put2_c (by decide) (by decide)]; exact l2
    · rw [put2_c (by decide) (by decide)]; exact l3
    · rw [put2_1' (by decide)]; exact l4
    · rw [put2_0, put2_1 (by decide), if_pos rfl, if_pos rfl]
    · rw [put2_1 (by decide), if_pos rfl]; exact hl
    · rw [put2_c (by decide) (by decide), put2_c (by decide) (by decide), put2_c (by omega) (by omega), put2_c (by decide) (by decide)]
      exact l7 i hi
  · exact R.2.2.2.2.cg (put2_0' (by decide)) (put2_1' (by decide)) (put2_c (by decide) (by decide)) (put2_c (by decide) (by decide)) (put2_c (by decide) (by decide)) (put2_c (by decide) (by decide)) (put2_c (by decide) (by decide)) (put2_c (by decide) (by decide))
theorem RR_grace {v : Nat} (R : RR n (pj S)) (hv : v ≤ 9) : RR (n + 1) (pj (put2 S 18 36 (nI v))) := by
  obtain ⟨nl, ll, l⟩ := R.2.2.2.1
  obtain ⟨tl, t⟩ := R.2.1
  refine ((R.put (p' := pj (put2 S 18 36 (nI v))) (fun a h h' => put2_c h h') (fun k _ _ h => put2_1' h) ⟨tl, ?_⟩ ⟨nl, ll, ?_⟩ ?_).mono (by omega))
  · exact t.cg (put2_0' (by decide)) (put2_1' (by decide)) (put2_c (by decide) (by decide)) (put2_c (by decide) (by decide))
  · exact l.cg (put2_c (by decide) (by decide)) (put2_c (by decide) (by decide)) (put2_1' (by decide)) (put2_0' (by decide)) (put2_1' (by decide)) (put2_c (by decide) (by decide)) (put2_c (by decide) (by decide)) (fun a _ _ => put2_c (by omega) (by omega))
  · obtain ⟨m1, m2, m3, m4, m5, m6⟩ := R.2.2.2.2
    unfold Rmisc
    rw [put2_0, put2_1 (by decide), if_pos rfl, if_pos rfl, put2_c (a := 349) (by decide) (by decide), put2_c (a := 366) (by decide) (by decide), put2_c (a := 271) (by decide) (by decide), put2_c (a := 275) (by decide) (by decide), put2_c (a := 12) (by decide) (by decide), put2_c (a := 355) (by decide) (by decide)]
    exact ⟨rfl, ⟨v, hv, rfl⟩, m3, m4, m5, m6⟩
end PU
