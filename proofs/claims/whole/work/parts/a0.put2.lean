/-! CALLS that put one number: class and reference -/
section PU2
variable {S : XS} {c : Nat × Nat} {n : Nat}
theorem pr_end (R : RR n (pj S)) (x : Int32) : PQ n c (fun h => f_X11_end h 0 x) (fun h => f_X12_end h 351 x) S := by
  obtain ⟨tl, t⟩ := R.2.1
  have t2 : S.1 0 16 = nI tl := t.2.1
  have t3 : S.1 351 6 = nI tl := t.2.2.1
  have tl240 := t.1
  rcases ix_of (x := x) (N := tl + 1) (by omega) with ⟨i, hi, rfl⟩ | hx
  · refine PQ.mk 1 (wA S 0 (upd (S.1 0) 16 (nI i))) (put2 S 16 6 (nI i)) ?_ ?_ (RR_end R ⟨tl, t, by omega⟩)
    · unfold f_X11_end
      rw [k0, Option.bind_some, if_neg (nI_nneg (by omega)), g0_16, Option.bind_some, t2, if_pos (nI_le (by omega) (by omega)), p0_16, Option.bind_some]
    · unfold f_X12_end
      rw [k351, Option.bind_some, T0_p, Option.bind_some, if_neg (nI_nneg (by omega)), g351_6, Option.bind_some, T0_351 (by decide), wA_ne (by decide), t3, if_pos (nI_le (by omega) (by omega)), p351_6, Option.bind_some]
      rfl
  · refine PQ.same (v := 0) (S1 := S) (S2 := T0 S) R ?_ ?_ rfl T0_pj
    · unfold f_X11_end
      rw [k0, Option.bind_some]
      rcases hx with z | z
      · rw [if_pos z]
      · rw [if_neg z.1, g0_16, Option.bind_some, t2, if_neg (out4 (by omega) z)]
    · unfold f_X12_end
      rw [k351, Option.bind_some, T0_p, Option.bind_some]
      rcases hx with z | z
      · rw [if_pos z]
      · rw [if_neg z.1, g351_6, Option.bind_some, T0_351 (by decide), t3, if_neg (out4 (by omega) z)]
theorem pr_grace (R : RR n (pj S)) (x : Int32) : PQ n c (fun h => f_X11_grace h 0 x) (fun h => f_X12_grace h 351 x) S := by
  have m1 : S.1 0 18 = S.1 351 36 := R.2.2.2.2.1
  rcases ix_of (x := x) (N := 10) (by omega) with ⟨i, hi, rfl⟩ | hx
  · by_cases e : nI i = S.1 351 36
    · refine PQ.same (v := 0) (S1 := S) (S2 := T0 S) R ?_ ?_ rfl T0_pj
      · unfold f_X11_grace
        rw [k0, Option.bind_some, if_neg (nI_nneg (by omega)), if_neg (show ¬ (9 : Int32) < nI i from nlt_lit (m := 9) rfl (by omega) (by decide)), g0_18, Option.bind_some, m1, if_pos e]
      · unfold f_X12_grace
        rw [k351, Option.bind_some, T0_p, Option.bind_some, isIn_in (u := 9) (k := i) (m := 9) (by omega) (by decide) rfl, Option.bind_some, if_neg (by decide), g351_36, Option.bind_some, T0_351 (by decide), if_pos e]
    · refine PQ.mk 1 (wA S 0 (upd (S.1 0) 18 (nI i))) (put2 S 18 36 (nI i)) ?_ ?_ (RR_grace R (by omega))
      · unfold f_X11_grace
        rw [k0, Option.bind_some, if_neg (nI_nneg (by omega)), if_neg (show ¬ (9 : Int32) < nI i from nlt_lit (m := 9) rfl (by omega) (by decide)), g0_18, Option.bind_some, m1, if_neg e, p0_18, Option.bind_some]
      · unfold f_X12_grace
        rw [k351, Option.bind_some, T0_p, Option.bind_some, isIn_in (u := 9) (k := i) (m := 9) (by omega) (by decide) rfl, Option.bind_some, if_neg (by decide), g351_36, Option.bind_some, T0_351 (by decide), wA_ne (by decide), if_neg e, p351_36, Option.bind_some]
        rfl
  · refine PQ.same (v := 0) (S1 := S) (S2 := T0 S) R ?_ ?_ rfl T0_pj
    · unfold f_X11_grace
      rw [k0, Option.bind_some]
      rcases hx with z | z
      · rw [if_pos z]
      · rw [if_neg z.1, if_pos (show (9 : Int32) < x from Int32.not_le.mp (out4 (m := 9) (by decide) z))]
    · unfold f_X12_grace
      rw [k351, Option.bind_some, T0_p, Option.bind_some, isIn_out (u := 9) (m := 9) hx (by decide) rfl, Option.bind_some, if_pos rfl]
theorem sf_in {b k j : Nat} (hb : b = 16 ∨ b = 23) (hk : S.1 b 3 = nI k) (h4 : k ≤ 4) (hj : j < k) : f_X5_has (hp S c) b (nI j) = some 1 := by
  unfold f_X5_has
  rcases hb with rfl | rfl
  · rw [k16, Option.bind_some, if_neg (nI_nneg (by omega)), g16_3, Option.bind_some, hk, if_neg (nI_ge hj (by omega))]
  · rw [k23, Option.bind_some, if_neg (nI_nneg (by omega)), g23_3, Option.bind_some, hk, if_neg (nI_ge hj (by omega))]
theorem sf_out {b k : Nat} {x : Int32} (hb : b = 16 ∨ b = 23) (hk : S.1 b 3 = nI k) (hx : x < 0 ∨ (¬ x < 0 ∧ nI k ≤ x)) : f_X5_has (hp S c) b x = some 0 := by
  unfold f_X5_has
  rcases hb with rfl | rfl
  · rw [k16, Option.bind_some]
    rcases hx with z | z
    · rw [if_pos z]
    · rw [if_neg z.1, g16_3, Option.bind_some, hk, if_pos z.2]
  · rw [k23, Option.bind_some]
    rcases hx with z | z
    · rw [if_pos z]
    · rw [if_neg z.1, g23_3, Option.bind_some, hk, if_pos z.2]
theorem nI_prd {m : Nat} (hm : 0 < m) : nI m - 1 = nI (m - 1) := by
  obtain ⟨q, rfl⟩ : ∃ q, m = q + 1 := ⟨m - 1, by omega⟩
  rw [← nI_1, Int32.add_sub_cancel]
  rfl
theorem isIn_lt {h : xa_H} {k m : Nat} (hk : k < m) (hm : m < 2 ^ 31) : f_X12_isIn h (nI k).toInt64 (0 : Int64) (nI m - 1).toInt64 = some 1 := by
  rw [nI_prd (by omega)]
  exact isIn_in (by omega) (by omega) rfl
theorem isIn_ge {h : xa_H} {m : Nat} {x : Int32} (hx : x < 0 ∨ (¬ x < 0 ∧ nI m ≤ x)) (hm : m < 2 ^ 31) : f_X12_isIn h x.toInt64 (0 : Int64) (nI m - 1).toInt64 = some 0 := by
  by_cases e : m = 0
  · subst e
    rw [show (nI 0 - 1) = (-1 : Int32) from rfl, show (0 : Int64) = (0 : Int32).toInt64 from rfl, X12_isIn]
    rcases hx with z | z
    · rw [decide_eq_true z]
      rfl
    · have : (-1 : Int32) < x := by
        have z1 := z.1
        rw [Int32.lt_iff_toInt_lt] at z1 ⊢
        rw [show (0 : Int32).toInt = 0 from rfl] at z1
        rw [show (-1 : Int32).toInt = -1 from rfl]
        omega
      rw [decide_eq_true this]
      cases decide (x < 0) <;> rfl
  · rw [nI_prd (by omega)]
    refine isIn_out (m := m - 1) ?_ (by omega) rfl
    rw [show m - 1 + 1 = m by omega]
    exact hx
theorem pr_law (R : RR n (pj S)) (x : Int32) : PQ n c (fun h => f_X11_law h 0 x) (fun h => f_X12_law h 351 x) S := by
  obtain ⟨nl, ll, l⟩ := R.2.2.2.1
  have l1 := l.1
  have l2 : S.1 16 3 = nI nl := l.2.1
  have l4 : S.1 351 7 = nI nl := l.2.2.2.1
  by_cases e : x = -1
  · subst e
    refine PQ.mk 1 (wA S 0 (upd (S.1 0) 17 (-1))) (put2 S 17 35 (-1)) ?_ ?_ (RR_law R ⟨nl, ll, l, Or.inl rfl⟩)
    · unfold f_X11_law f_X11_law_b18
      rw [k0, Option.bind_some, if_pos rfl, p0_17, Option.bind_some]
    · unfold f_X12_law f_X12_law_b28
      rw [k351, Option.bind_some, T0_p, Option.bind_some, if_pos rfl, p351_35, Option.bind_some]
      rfl
  · rcases ix_of (x := x) (N := nl) (by omega) with ⟨i, hi, rfl⟩ | hx
    · refine PQ.mk 1 (wA S 0 (upd (S.1 0) 17 (nI i))) (put2 S 17 35 (nI i)) ?_ ?_ (RR_law R ⟨nl, ll, l, Or.inr ⟨i, hi, rfl⟩⟩)
      · unfold f_X11_law f_X11_law_b18
        rw [k0, Option.bind_some, if_neg e, g0_4, Option.bind_some, sf_in (Or.inl rfl) l2 l1 hi, Option.bind_some, if_neg (by decide), p0_17, Option.bind_some]
      · unfold f_X12_law f_X12_law_b28
        rw [k351, Option.bind_some, T0_p, Option.bind_some, if_neg e, g351_7, Option.bind_some, T0_351 (by decide), wA_ne (by decide), l4, isIn_lt hi (by omega), Option.bind_some, if_neg (by decide), p351_35, Option.bind_some]
        rfl
    · refine PQ.same (v := 0) (S1 := S) (S2 := T0 S) R ?_ ?_ rfl T0_pj
      · unfold f_X11_law
        rw [k0, Option.bind_some, if_neg e, g0_4, Option.bind_some, sf_out (Or.inl rfl) l2 hx, Option.bind_some, if_pos rfl]
      · unfold f_X12_law
        rw [k351, Option.bind_some, T0_p, Option.bind_some, if_neg e, g351_7, Option.bind_some, T0_351 (by decide), l4, isIn_ge hx (by omega), Option.bind_some, if_pos rfl]
theorem song_in {k j : Nat} (hk : S.1 351 30 = nI k) (h4 : k ≤ 4) (hj : j < k) : f_X12_isSong (hp S c) 351 (nI j) = some 1 := by
  unfold f_X12_isSong
  rw [k351, Option.bind_some, if_neg (nI_nneg (by omega)), g351_30, Option.bind_some, hk, if_neg (nI_ge hj (by omega))]
theorem song_out {k : Nat} {x : Int32} (hk : S.1 351 30 = nI k) (hx : x < 0 ∨ (¬ x < 0 ∧ nI k ≤ x)) : f_X12_isSong (hp S c) 351 x = some 0 := by
  unfold f_X12_isSong
  rw [k351, Option.bind_some]
  rcases hx with z | z
  · rw [if_pos z]
  · rw [if_neg z.1, g351_30, Option.bind_some, hk, if_pos z.2]
theorem ix16 (a c : Nat) : (16 : Int32) * nI a + nI c = nI (16 * a + c) := by
  rw [show (16 : Int32) = nI 16 from rfl, pk_mul, nI_add]
/-- the songs, in cells -/
def SG (S : XS) (ns : Nat) (sl : Nat → Nat) (dg : Nat → Nat → Nat) : Prop := ns ≤ 4 ∧ S.1 23 3 = nI ns ∧ S.1 351 30 = nI ns ∧ ∀ i, i < ns → 1 ≤ sl i ∧ sl i ≤ 16 ∧ S.1 24 i = nI (sl i) ∧ S.1 363 i = nI (sl i) ∧ ∀ k, k < sl i → dg i k < 10 ∧ S.1 (26 + i) k = nI (dg i k) ∧ S.1 362 (16 * i + k) = nI (dg i k)
theorem SG_of {ns : Nat} {sl : Nat → Nat} {dg : Nat → Nat → Nat} (h : Rsongs (pj S) ns sl dg) : SG S ns sl dg := by
  obtain ⟨h1, h2, h3, h4, h5⟩ := h
  refine ⟨h1, h2, h4, fun i hi => ?_⟩
  obtain ⟨a, b, d, e, f⟩ := h5 i hi
  rw [show pj S 24 = S.1 24 from pj_cell fun _ => rfl] at d
  rw [pj_at (show pers 363 i = true from decide_eq_true (by omega))] at e
  refine ⟨a, b, d, e, fun k hk => ?_⟩
  obtain ⟨g1, g2, g3⟩ := f k hk
  rw [pj_at (show pers 362 (16 * i + k) = true from decide_eq_true (by omega))] at g3
  refine ⟨g1, ?_, g3⟩
  rcases (by omega : i = 0 ∨ i = 1 ∨ i = 2 ∨ i = 3) with rfl | rfl | rfl | rfl
  · exact g2
  · exact g2
  · exact g2
  · exact g2
theorem RR.songs (R : RR n (pj S)) : ∃ ns sl dg, SG S ns sl dg := by
  obtain ⟨ns, sl, dg, s⟩ := R.2.2.1
  exact ⟨ns, sl, dg, SG_of s⟩
theorem a26s {i k : Nat} (hi : i < 4) (hk : k < 16) : aI (hp S c) (26 + i) (nI k) = some (S.1 (26 + i) k) := by
  rcases (by omega : i = 0 ∨ i = 1 ∨ i = 2 ∨ i = 3) with rfl | rfl | rfl | rfl
  · exact a26 hk
  · exact a27 hk
  · exact a28 hk
  · exact a29 hk
theorem pr_sung (R : RR n (pj S)) (x y : Int32) : PP n c (fun h => f_X11_sung h 0 x y) (fun h => f_X12_sung h 351 x y) S := by
  obtain ⟨ns, sl, dg, s1, s2, s3, s4⟩ := R.songs
  have s3' : (T0 S).1 351 30 = nI ns := (T0_351 (by decide)).trans s3
  rcases ix_of (x := x) (N := ns) (by omega) with ⟨i, hi, rfl⟩ | hx
  · obtain ⟨l1, l2, l3, l4, l5⟩ := s4 i hi
    have l4' : (T0 S).1 363 i = nI (sl i) := by rw [T0_ne (by decide)]; exact l4
    have up : ∀ z : Int32, f_X12_isIn (hp (T0 S) c) z.toInt64 (-1 : Int64) (nI (sl i) - 1).toInt64 = some (bI (!decide (z < -1) && !decide (nI (sl i - 1) < z))) := by
      intro z
      rw [nI_prd l1, show (-1 : Int64) = (-1 : Int32).toInt64 from rfl, X12_isIn]
    by_cases e : y = -1
    · subst e
      refine PP.mk (nI (sl i)) (T0 S) R ?_ ?_ T0_pj
      · unfold f_X11_sung
        rw [k0, Option.bind_some, g0_5, Option.bind_some, sf_in (Or.inr rfl) s2 s1 hi, Option.bind_some, if_neg (by decide), if_pos rfl, Option.bind_some, g23_1, Option.bind_some, a24 (by omega), Option.bind_some, l3]
      · unfold f_X12_sung
        rw [k351, Option.bind_some, T0_p, Option.bind_some, song_in s3' s1 hi, Option.bind_some, if_neg (by decide), g351_25, Option.bind_some, a363 (by omega), Option.bind_some, l4', up]
        have : decide (nI (sl i - 1) < (-1 : Int32)) = false := by
          refine decide_eq_false fun z => ?_
          rw [Int32.lt_iff_toInt_lt, nI_toInt (by omega), show (-1 : Int32).toInt = -1 from rfl] at z
          omega
        rw [this, Option.bind_some, if_neg (by decide), if_pos rfl, Option.bind_some, a363 (by omega), Option.bind_some, l4']
    · rcases ix_of (x := y) (N := sl i) (by omega) with ⟨j, hj, rfl⟩ | hy
      · obtain ⟨d1, d2, d3⟩ := l5 j hj
        refine PP.mk (nI (dg i j)) (T0 S) R ?_ ?_ T0_pj
        · unfold f_X11_sung
          rw [k0, Option.bind_some, g0_5, Option.bind_some, sf_in (Or.inr rfl) s2 s1 hi, Option.bind_some, if_neg (by decide), if_neg e, if_neg (nI_nneg (by omega)), Option.bind_some, g23_1, Option.bind_some, a24 (by omega), Option.bind_some, l3, if_neg (nI_ge hj (by omega)), Option.bind_some, g23_0, Option.bind_some, a25 (by omega), Option.bind_some, show 26 + 1 * i = 26 + i by omega, a26s (by omega) (by omega), Option.bind_some, d2]
        · unfold f_X12_sung
          rw [k351, Option.bind_some, T0_p, Option.bind_some, song_in s3' s1 hi, Option.bind_some, if_neg (by decide), g351_25, Option.bind_some, a363 (by omega), Option.bind_some, l4', up]
          have t1 : decide (nI j < (-1 : Int32)) = false := by
            refine decide_eq_false fun z => ?_
            rw [Int32.lt_iff_toInt_lt, nI_toInt (by omega), show (-1 : Int32).toInt = -1 from rfl] at z
            omega
          rw [t1, decide_eq_false (nI_nlt (by omega) (by omega)), Option.bind_some, if_neg (by decide), if_neg e, g351_24, Option.bind_some, ix16, a362 (by omega), Option.bind_some, T0_ne (by decide), d3]
      · refine PP.mk (-1) (T0 S) R ?_ ?_ T0_pj
        · unfold f_X11_sung
          rw [k0, Option.bind_some, g0_5, Option.bind_some, sf_in (Or.inr rfl) s2 s1 hi, Option.bind_some, if_neg (by decide), if_neg e]
          rcases hy with z | z
          · rw [if_pos z]
          · rw [if_neg z.1, Option.bind_some, g23_1, Option.bind_some, a24 (by omega), Option.bind_some, l3, if_pos z.2]
        · unfold f_X12_sung
          rw [k351, Option.bind_some, T0_p, Option.bind_some, song_in s3' s1 hi, Option.bind_some, if_neg (by decide), g351_25, Option.bind_some, a363 (by omega), Option.bind_some, l4', up]
          have : (!decide (y < -1) && !decide (nI (sl i - 1) < y)) = false := by
            rcases hy with z | z
            · have : y < -1 := by
                have ne : y.toInt ≠ -1 := fun q => e (Int32.toInt_inj.mp q)
                rw [Int32.lt_iff_toInt_lt] at z ⊢
                rw [show (0 : Int32).toInt = 0 from rfl] at z
                rw [show (-1 : Int32).toInt = -1 from rfl]
                omega
              rw [decide_eq_true this]
              rfl
            · have : nI (sl i - 1) < y := by
                have z2 := z.2
                rw [Int32.le_iff_toInt_le, nI_toInt (by omega)] at z2
                rw [Int32.lt_iff_toInt_lt, nI_toInt (by omega)]
                omega
              rw [decide_eq_true this, Bool.and_comm]
              rfl
          rw [this, Option.bind_some, if_pos (show bI false = 0 from rfl)]
  · refine PP.mk (-1) (T0 S) R ?_ ?_ T0_pj
    · unfold f_X11_sung
      rw [k0, Option.bind_some, g0_5, Option.bind_some, sf_out (Or.inr rfl) s2 hx, Option.bind_some, if_pos rfl]
    · unfold f_X12_sung
      rw [k351, Option.bind_some, T0_p, Option.bind_some, song_out s3' hx, Option.bind_some, if_pos rfl]
end PU2
