/-! SEEN -/
section SEE
variable {S : XS} {c : Nat × Nat} {n N : Nat}
theorem RR_seen {p p' : PJ} (R : RR n p) (C : ∀ a, a < 260 ∨ 265 < a → a ≠ 351 → a ≠ 373 → p' a = p a) (K : ∀ j, j ≠ 51 → p' 351 j = p 351 j) (see : ∀ N F m, Rvil p N F → Rnow p N → Rseen p N m → ∃ m', Rseen p' N m') : RR n p' := by
  obtain ⟨⟨N, F, v1, v2, v3, ⟨A, q, cr, v4⟩, v5, m, v6⟩, ⟨tl, t1⟩, ⟨ns, sl, dg, s1⟩, ⟨nl, ll, l1⟩, mi⟩ := R
  have D : ∀ a j, a < 260 ∨ 265 < a → a ≠ 351 → a ≠ 373 → p' a j = p a j := fun a j h1 h2 h3 => congrFun (C a h1 h2 h3) j
  obtain ⟨m', w6⟩ := see N F m v1 v2 v6
  refine ⟨⟨N, F, v1.cg (K _ (by decide)) (K _ (by decide)) (D _ _ (by decide) (by decide) (by decide)) (C _ (by decide) (by decide) (by decide)) (C _ (by decide) (by decide) (by decide)), v2.cg (C _ (by decide) (by decide) (by decide)) (C _ (by decide) (by decide) (by decide)) (C _ (by decide) (by decide) (by decide)) (C _ (by decide) (by decide) (by decide)) (C _ (by decide) (by decide) (by decide)) (C _ (by decide) (by decide) (by decide)) (D _ _ (by decide) (by decide) (by decide)) (C _ (by decide) (by decide) (by decide)), v3.cg (C _ (by decide) (by decide) (by decide)) (C _ (by decide) (by decide) (by decide)) (C _ (by decide) (by decide) (by decide)) (C _ (by decide) (by decide) (by decide)) (C _ (by decide) (by decide) (by decide)) (C _ (by decide) (by decide) (by decide)) (C _ (by decide) (by decide) (by decide)) (C _ (by decide) (by decide) (by decide)), ⟨A, q, cr, v4.cg (K _ (by decide)) (C _ (by decide) (by decide) (by decide)) (C _ (by decide) (by decide) (by decide)) (C _ (by decide) (by decide) (by decide)) (C _ (by decide) (by decide) (by decide)) (C _ (by decide) (by decide) (by decide)) (C _ (by decide) (by decide) (by decide)) (D _ _ (by decide) (by decide) (by decide)) (C _ (by decide) (by decide) (by decide)) (fun a _ _ => C _ (by omega) (by omega) (by omega))⟩, v5.cg (D _ _ (by decide) (by decide) (by decide)) (K _ (by decide)) (fun a _ _ => C _ (by omega) (by omega) (by omega)) (C _ (by decide) (by decide) (by decide)) (D _ _ (by decide) (by decide) (by decide)) (C _ (by decide) (by decide) (by decide)), m', w6⟩, ⟨tl, t1.cg (D _ _ (by decide) (by decide) (by decide)) (K _ (by decide)) (C _ (by decide) (by decide) (by decide)) (C _ (by decide) (by decide) (by decide))⟩, ⟨ns, sl, dg, s1.cg (C _ (by decide) (by decide) (by decide)) (K _ (by decide)) (C _ (by decide) (by decide) (by decide)) (fun j _ => D _ _ (by decide) (by decide) (by decide)) (fun a _ _ => C _ (by omega) (by omega) (by omega)) (fun j _ => D _ _ (by decide) (by decide) (by decide))⟩, ⟨nl, ll, l1.cg (C _ (by decide) (by decide) (by decide)) (C _ (by decide) (by decide) (by decide)) (K _ (by decide)) (D _ _ (by decide) (by decide) (by decide)) (K _ (by decide)) (C _ (by decide) (by decide) (by decide)) (C _ (by decide) (by decide) (by decide)) (fun a _ _ => C _ (by omega) (by omega) (by omega))⟩, ?_⟩
  unfold Rmisc at mi ⊢
  rw [C 0 (by decide) (by decide) (by decide), K 36 (by decide), C 271 (by decide) (by decide) (by decide), C 275 (by decide) (by decide) (by decide), C 349 (by decide) (by decide) (by decide), C 366 (by decide) (by decide) (by decide), C 12 (by decide) (by decide) (by decide), C 355 (by decide) (by decide) (by decide)]
  exact mi
/-- what was seen, in cells -/
def SN (S : XS) (N m : Nat) : Prop := m ≤ 10 ∧ S.1 260 6 = nI m ∧ S.1 351 51 = nI m ∧ ∀ i, i < m → ∃ a b t, ∃ is : Bool, a < N ∧ b < N ∧ a ≠ b ∧ 1 ≤ t ∧ t ≤ 9 ∧ -99 ≤ (S.1 264 i).toInt ∧ (S.1 264 i).toInt ≤ 99 ∧ S.1 261 i = nI a ∧ S.1 262 i = nI b ∧ S.1 263 i = nI t ∧ S.1 265 i = bI is ∧ S.1 373 (5 * i) = nI a ∧ S.1 373 (5 * i + 1) = nI b ∧ S.1 373 (5 * i + 2) = nI t ∧ S.1 373 (5 * i + 3) = S.1 264 i ∧ S.1 373 (5 * i + 4) = bI is
theorem RR.sn (R : RR n (pj S)) (hN : S.1 30 4 = nI N) (h6 : N ≤ 6) : ∃ m, SN S N m := by
  obtain ⟨⟨N', F, v1, v2, v3, v4, v5, m, v6⟩, rest⟩ := R
  have h := v1.2.1
  have : S.1 30 4 = nI N' := v2.1.1
  rw [hN] at this
  have e := (nI_eq (by omega) (by omega)).mp this
  subst e
  exact ⟨m, v6⟩
theorem X6_put {m : Nat} {a b t v : Int32} {is : Bool} (hm : m < 10) (h6 : S.1 260 6 = nI m) : f_X6_put (hp S c) 260 a b t v (bI is) = some (hp (wA (wA (wA (wA (wA (wA S 261 (upd (S.1 261) m a)) 262 (upd (S.1 262) m b)) 263 (upd (S.1 263) m t)) 264 (upd (S.1 264) m v)) 265 (upd (S.1 265) m (bI is))) 260 (upd (S.1 260) 6 (nI (m + 1)))) c) := by
  have nb : vp_nar .boolean (bI is) = bI is := by cases is <;> decide
  unfold f_X6_put
  rw [k260, Option.bind_some, g260_6, Option.bind_some, h6, if_neg (nI_nneg (by omega)), Option.bind_some, if_pos (show nI m < (10 : Int32) from nI_lt (b := 10) hm (by decide)), g260_0, Option.bind_some, Option.bind_some, q261 hm, Option.bind_some, g260_1, Option.bind_some, g260_6, Option.bind_some, wA_ne (show 260 ≠ 261 by decide), h6, q262 hm, Option.bind_some, wA_ne (show 262 ≠ 261 by decide), g260_2, Option.bind_some, g260_6, Option.bind_some, wA_ne (show 260 ≠ 262 by decide), wA_ne (show 260 ≠ 261 by decide), h6, q263 hm, Option.bind_some, wA_ne (show 263 ≠ 262 by decide), wA_ne (show 263 ≠ 261 by decide), g260_3, Option.bind_some, g260_6, Option.bind_some, wA_ne (show 260 ≠ 263 by decide), wA_ne (show 260 ≠ 262 by decide), wA_ne (show 260 ≠ 261 by decide), h6, q264 hm, Option.bind_some, wA_ne (show 264 ≠ 263 by decide), wA_ne (show 264 ≠ 262 by decide), wA_ne (show 264 ≠ 261 by decide), g260_4, Option.bind_some, g260_6, Option.bind_some, wA_ne (show 260 ≠ 264 by decide), wA_ne (show 260 ≠ 263 by decide), wA_ne (show 260 ≠ 262 by decide), wA_ne (show 260 ≠ 261 by decide), h6, q265 hm, Option.bind_some, nb, wA_ne (show 265 ≠ 264 by decide), wA_ne (show 265 ≠ 263 by decide), wA_ne (show 265 ≠ 262 by decide), wA_ne (show 265 ≠ 261 by decide), g260_6, Option.bind_some, wA_ne (show 260 ≠ 265 by decide), wA_ne (show 260 ≠ 264 by decide), wA_ne (show 260 ≠ 263 by decide), wA_ne (show 260 ≠ 262 by decide), wA_ne (show 260 ≠ 261 by decide), h6, nI_1, p260_6, Option.bind_some, wA_ne (show 260 ≠ 265 by decide), wA_ne (show 260 ≠ 264 by decide), wA_ne (show 260 ≠ 263 by decide), wA_ne (show 260 ≠ 262 by decide), wA_ne (show 260 ≠ 261 by decide)]
theorem i5 {m k : Nat} {l : Int32} (h : l = nI k) : (5 : Int32) * nI m + l = nI (5 * m + k) := by
  rw [h, show (5 : Int32) = nI 5 from rfl, pk_mul, nI_add]
theorem i5_0 {m : Nat} : (5 : Int32) * nI m = nI (5 * m) := by
  rw [show (5 : Int32) = nI 5 from rfl, pk_mul]
def seF (f : Nat → Int32) (m : Nat) (a b t v : Int32) (is : Bool) : Nat → Int32 := upd (upd (upd (upd (upd f (5 * m) a) (5 * m + 1) b) (5 * m + 2) t) (5 * m + 3) v) (5 * m + 4) (bI is)
theorem pr_seen (R : RR n (pj S)) (a b t v : Int32) (is : Bool) : PQ n c (fun h => f_X11_seen h 0 a b t v (bI is)) (fun h => f_X12_seen h 351 a b t v (bI is)) S := by
  obtain ⟨N, W⟩ := R.now
  have h6 := W.2.1
  have hN := W.2.2.2.2.2.2.1
  have h26 := W.2.2.1
  obtain ⟨m, s1, s2, s3, s4⟩ := R.sn hN h6
  have in9 : ∀ (h : xa_H), f_X12_isIn h t.toInt64 (1 : Int64) (9 : Int64) = some (bI (!decide (t < 1) && !decide (9 < t))) := fun h => isIn_1 (u := 9) (m := 9) (by decide) rfl
  have in99 : ∀ (h : xa_H), f_X12_isIn h v.toInt64 (-99 : Int64) (99 : Int64) = some (bI (!decide (v < -99) && !decide (99 < v))) := fun h => by
    rw [show (-99 : Int64) = (-99 : Int32).toInt64 from rfl, show (99 : Int64) = (99 : Int32).toInt64 from rfl, X12_isIn]
  by_cases hall : inN N a = true ∧ inN N b = true ∧ a ≠ b ∧ ¬ t < 1 ∧ ¬ 9 < t ∧ ¬ v < -99 ∧ ¬ 99 < v ∧ m < 10
  · obtain ⟨q1, q2, q3, q4, q5, q6, q7, q8⟩ := hall
    have T9 : (!decide (t < 1) && !decide (9 < t)) = true := by rw [decide_eq_false q4, decide_eq_false q5]; rfl
    have T99 : (!decide (v < -99) && !decide (99 < v)) = true := by rw [decide_eq_false q6, decide_eq_false q7]; rfl
    obtain ⟨S1, hS1⟩ : ∃ S1, S1 = wA (wA (wA (wA (wA (wA S 261 (upd (S.1 261) m a)) 262 (upd (S.1 262) m b)) 263 (upd (S.1 263) m t)) 264 (upd (S.1 264) m v)) 265 (upd (S.1 265) m (bI is))) 260 (upd (S.1 260) 6 (nI (m + 1))) := ⟨_, rfl⟩
    have put := X6_put (c := c) (a := a) (b := b) (t := t) (v := v) (is := is) q8 s2
    rw [← hS1] at put
    have o1 : ∀ k, k < 260 ∨ 265 < k → S1.1 k = S.1 k := fun k hk => by rw [hS1, wA_ne (by omega), wA_ne (by omega), wA_ne (by omega), wA_ne (by omega), wA_ne (by omega), wA_ne (by omega)]
    have c260 : S1.1 260 = upd (S.1 260) 6 (nI (m + 1)) := by rw [hS1, wA_same]
    have c261 : S1.1 261 = upd (S.1 261) m a := by rw [hS1, wA_ne (by decide), wA_ne (by decide), wA_ne (by decide), wA_ne (by decide), wA_ne (by decide), wA_same]
    have c262 : S1.1 262 = upd (S.1 262) m b := by rw [hS1, wA_ne (by decide), wA_ne (by decide), wA_ne (by decide), wA_ne (by decide), wA_same]
    have c263 : S1.1 263 = upd (S.1 263) m t := by rw [hS1, wA_ne (by decide), wA_ne (by decide), wA_ne (by decide), wA_same]
    have c264 : S1.1 264 = upd (S.1 264) m v := by rw [hS1, wA_ne (by decide), wA_ne (by decide), wA_same]
    have c265 : S1.1 265 = upd (S.1 265) m (bI is) := by rw [hS1, wA_ne (by decide), wA_same]
    have hT : (T0 S1).1 351 26 = nI N := by rw [T0_351 (by decide), o1 351 (by omega)]; exact h26
    have t51 : (T0 S1).1 351 51 = nI m := by rw [T0_351 (by decide), o1 351 (by omega)]; exact s3
    have t373 : (T0 S1).1 373 = S.1 373 := by rw [T0_ne (by decide), o1 373 (by omega)]
    obtain ⟨V, hV⟩ : ∃ V, V = wA (wA (T0 S1) 373 (seF (S.1 373) m a b t v is)) 351 (upd ((T0 S1).1 351) 51 (nI (m + 1))) := ⟨_, rfl⟩
    have ref : f_X12_seen (hp S1 c) 351 a b t v (bI is) = some (nI (m + 1), hp V c) := by
      have fin : ∀ l : Int32, l = bI is → f_X12_seen_b129 (hp (wA (T0 S1) 373 (upd (upd (upd (upd (S.1 373) (5 * m) a) (5 * m + 1) b) (5 * m + 2) t) (5 * m + 3) v)) c) 351 l (nI (5 * m + 4)) 373 = some (nI (m + 1), hp V c) := fun l hl => by
        unfold f_X12_seen_b129
        rw [q373 (by omega), Option.bind_some, wA_wA, wA_same, hl, g351_51, Option.bind_some, wA_ne (show 351 ≠ 373 by decide), t51, nI_1, p351_51, Option.bind_some, g351_51, Option.bind_some, wA_same, upd_same, wA_ne (show 351 ≠ 373 by decide), hV]
        rfl
      unfold f_X12_seen
      rw [k351, Option.bind_some, T0_p, Option.bind_some, house_b hT h6, Option.bind_some, q1, if_neg (show ¬ bI true = 0 by decide), house_b hT h6, Option.bind_some, q2, if_neg (show ¬ bI true = 0 by decide), if_neg q3, in9, Option.bind_some, T9, if_neg (show ¬ bI true = 0 by decide), in99, Option.bind_some, T99, if_neg (show ¬ bI true = 0 by decide), g351_51, Option.bind_some, t51, if_neg (show ¬ nI m = (10 : Int32) from fun z => by have := (nI_eq (b := 10) (by omega) (by decide)).mp z; omega), Option.bind_some, g351_50, Option.bind_some, i5_0, q373 (by omega), Option.bind_some, t373, g351_50, Option.bind_some, ← i5_0, i5 (k := 1) (l := 1) rfl, q373 (by omega), Option.bind_some, wA_wA, wA_same, g351_50, Option.bind_some, i5 (k := 2) (l := 2) rfl, q373 (by omega), Option.bind_some, wA_wA, wA_same, g351_50, Option.bind_some, i5 (k := 3) (l := 3) rfl, q373 (by omega), Option.bind_some, wA_wA, wA_same, g351_50, Option.bind_some, i5 (k := 4) (l := 4) rfl]
      cases is with
      | true =>
        rw [if_neg (show ¬ bI true = 0 by decide)]
        exact fin 1 rfl
      | false =>
        rw [if_pos (show bI false = 0 from rfl)]
        exact fin 0 rfl
    refine ⟨nI (m + 1), S1, V, ?_, ref, RR.mono (n := n) (RR_seen R (fun k h1 h2 h3 => ?_) (fun j hj => ?_) (fun N' F m' v1 v2 v6 => ?_)) (by omega)⟩
    · show f_X11_seen (hp S c) 0 a b t v (bI is) = _
      unfold f_X11_seen
      rw [k0, Option.bind_some, g0_6, Option.bind_some, has_b B30 hN h6, Option.bind_some, q1, if_neg (show ¬ bI true = 0 by decide), Option.bind_some, has_b B30 hN h6, Option.bind_some, q2, if_neg (show ¬ bI true = 0 by decide), if_neg q3, if_neg q4, if_neg q5, if_neg q6, if_neg q7, g0_11, Option.bind_some, g260_6, Option.bind_some, s2, if_pos (show nI m < (10 : Int32) from nI_lt (b := 10) q8 (by decide)), Option.bind_some, put, Option.bind_some, g0_11, Option.bind_some, g260_6, Option.bind_some, c260, upd_same]
    · refine pj_eq ?_
      rw [hV, wA_ne h2, wA_ne h3, T0_ne h2, o1 k h1]
    · have : V.1 351 = upd ((T0 S1).1 351) 51 (nI (m + 1)) := by rw [hV, wA_same]
      unfold pj
      by_cases hp : pers 351 j = true
      · have n0 : j ≠ 0 := by rintro rfl; exact absurd hp (by decide)
        rw [if_pos hp, if_pos hp, this, upd_ne hj, T0_351 n0, o1 351 (by omega)]
      · rw [if_neg hp, if_neg hp]
    · have h := v1.2.1
      have eN : S.1 30 4 = nI N' := v2.1.1
      rw [hN] at eN
      have e := (nI_eq (by omega) (by omega)).mp eN
      subst e
      have oV : ∀ k, k ≠ 351 → k ≠ 373 → V.1 k = S1.1 k := fun k h1 h2 => by rw [hV, wA_ne h1, wA_ne h2, T0_ne h1]
      have V373 : V.1 373 = seF (S.1 373) m a b t v is := by rw [hV, wA_ne (by decide), wA_same]
      have V51 : V.1 351 51 = nI (m + 1) := by rw [hV, wA_same, upd_same]
      refine ⟨m + 1, by omega, ?_, V51, fun i hi => ?_⟩
      · show V.1 260 6 = _
        rw [oV 260 (by decide) (by decide), c260, upd_same]
      · show ∃ a b t, ∃ is : Bool, a < N ∧ b < N ∧ a ≠ b ∧ 1 ≤ t ∧ t ≤ 9 ∧ -99 ≤ (V.1 264 i).toInt ∧ (V.1 264 i).toInt ≤ 99 ∧ V.1 261 i = nI a ∧ V.1 262 i = nI b ∧ V.1 263 i = nI t ∧ V.1 265 i = bI is ∧ V.1 373 (5 * i) = nI a ∧ V.1 373 (5 * i + 1) = nI b ∧ V.1 373 (5 * i + 2) = nI t ∧ V.1 373 (5 * i + 3) = V.1 264 i ∧ V.1 373 (5 * i + 4) = bI is
        rw [oV 261 (by decide) (by decide), oV 262 (by decide) (by decide), oV 263 (by decide) (by decide), oV 264 (by decide) (by decide), oV 265 (by decide) (by decide), V373, c261, c262, c263, c264, c265]
        by_cases e : i = m
        · subst e
          rw [upd_same, upd_same, upd_same, upd_same, upd_same]
          obtain ⟨x, hx, rfl⟩ := inN_x q1 (by omega)
          obtain ⟨y, hy, rfl⟩ := inN_x q2 (by omega)
          have a1 := Int32.not_lt.mp q4
          have a2 := Int32.not_lt.mp q5
          have a3 := Int32.not_lt.mp q6
          have a4 := Int32.not_lt.mp q7
          rw [Int32.le_iff_toInt_le] at a1 a2 a3 a4
          rw [show (1 : Int32).toInt = 1 from rfl] at a1
          rw [show (9 : Int32).toInt = 9 from rfl] at a2
          rw [show (-99 : Int32).toInt = -99 from rfl] at a3
          rw [show (99 : Int32).toInt = 99 from rfl] at a4
          have et : t = nI (tn t) := (tn_pos (by rw [Int32.lt_iff_toInt_lt, show (0 : Int32).toInt = 0 from rfl]; omega)).symm
          refine ⟨x, y, tn t, is, hx, hy, fun z => q3 (by rw [z]), by unfold tn; omega, by unfold tn; omega, a3, a4, rfl, rfl, et, rfl, ?_, ?_, ?_, ?_, ?_⟩ <;> unfold seF
          · rw [upd_ne (by omega), upd_ne (by omega), upd_ne (by omega), upd_ne (by omega), upd_same]
          · rw [upd_ne (by omega), upd_ne (by omega), upd_ne (by omega), upd_same]
          · rw [upd_ne (by omega), upd_ne (by omega), upd_same]; exact et
          · rw [upd_ne (by omega), upd_same]
          · rw [upd_same]
        · obtain ⟨x, y, z, w, r⟩ := s4 i (by omega)
          refine ⟨x, y, z, w, ?_⟩
          unfold seF
          rw [upd_ne e, upd_ne e, upd_ne e, upd_ne e, upd_ne e]
          have far : ∀ d, d < 5 → upd (upd (upd (upd (upd (S.1 373) (5 * m) a) (5 * m + 1) b) (5 * m + 2) t) (5 * m + 3) v) (5 * m + 4) (bI is) (5 * i + d) = S.1 373 (5 * i + d) := fun d hd => by
            rw [upd_ne (by omega), upd_ne (by omega), upd_ne (by omega), upd_ne (by omega), upd_ne (by omega)]
          have f0 : upd (upd (upd (upd (upd (S.1 373) (5 * m) a) (5 * m + 1) b) (5 * m + 2) t) (5 * m + 3) v) (5 * m + 4) (bI is) (5 * i) = S.1 373 (5 * i) := far 0 (by decide)
          rw [f0, far 1 (by decide), far 2 (by decide), far 3 (by decide), far 4 (by decide)]
          exact r
  · have hT : (T0 S).1 351 26 = nI N := by rw [T0_351 (by decide)]; exact h26
    have t51 : (T0 S).1 351 51 = nI m := by rw [T0_351 (by decide)]; exact s3
    refine PQ.same (S1 := S) (S2 := T0 S) (v := -1) R ?_ ?_ rfl T0_pj
    · show f_X11_seen (hp S c) 0 a b t v (bI is) = _
      unfold f_X11_seen
      rw [k0, Option.bind_some, g0_6, Option.bind_some, has_b B30 hN h6, Option.bind_some]
      cases q1 : inN N a with
      | false => rw [if_pos (show bI false = 0 from rfl)]
      | true =>
        rw [if_neg (show ¬ bI true = 0 by decide), Option.bind_some, has_b B30 hN h6, Option.bind_some]
        cases q2 : inN N b with
        | false => rw [if_pos (show bI false = 0 from rfl)]
        | true =>
          rw [if_neg (show ¬ bI true = 0 by decide)]
          by_cases q3 : a = b
          · rw [if_pos q3]
          · rw [if_neg q3]
            by_cases q4 : t < 1
            · rw [if_pos q4]
            · rw [if_neg q4]
              by_cases q5 : 9 < t
              · rw [if_pos q5]
              · rw [if_neg q5]
                by_cases q6 : v < -99
                · rw [if_pos q6]
                · rw [if_neg q6]
                  by_cases q7 : 99 < v
                  · rw [if_pos q7]
                  · have q8 : ¬ m < 10 := fun z => hall ⟨q1, q2, q3, q4, q5, q6, q7, z⟩
                    rw [if_neg q7, g0_11, Option.bind_some, g260_6, Option.bind_some, s2, if_neg (show ¬ nI m < (10 : Int32) from (nI_nlt (by omega) (by omega) : ¬ nI m < nI 10))]
    · show f_X12_seen (hp S c) 351 a b t v (bI is) = _
      unfold f_X12_seen
      rw [k351, Option.bind_some, T0_p, Option.bind_some, house_b hT h6, Option.bind_some]
      cases q1 : inN N a with
      | false => rw [if_pos (show bI false = 0 from rfl)]
      | true =>
        rw [if_neg (show ¬ bI true = 0 by decide), house_b hT h6, Option.bind_some]
        cases q2 : inN N b with
        | false => rw [if_pos (show bI false = 0 from rfl)]
        | true =>
          rw [if_neg (show ¬ bI true = 0 by decide)]
          by_cases q3 : a = b
          · rw [if_pos q3]
          · rw [if_neg q3, in9, Option.bind_some]
            cases T9 : (!decide (t < 1) && !decide (9 < t)) with
            | false => rw [if_pos (show bI false = 0 from rfl)]
            | true =>
              rw [if_neg (show ¬ bI true = 0 by decide), in99, Option.bind_some]
              cases T99 : (!decide (v < -99) && !decide (99 < v)) with
              | false => rw [if_pos (show bI false = 0 from rfl)]
              | true =>
                rw [Bool.and_eq_true, Bool.not_eq_true', Bool.not_eq_true'] at T9 T99
                have em : m = 10 := by
                  have : ¬ m < 10 := fun z => hall ⟨q1, q2, q3, of_decide_eq_false T9.1, of_decide_eq_false T9.2, of_decide_eq_false T99.1, of_decide_eq_false T99.2, z⟩
                  omega
                rw [if_neg (show ¬ bI true = 0 by decide), g351_51, Option.bind_some, t51, em, if_pos (show nI 10 = (10 : Int32) from rfl)]
end SEE
