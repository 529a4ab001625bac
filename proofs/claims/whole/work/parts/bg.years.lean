/-! YEARS: draws, and a board that loses a debt -/
section YRS
variable {S V : XS} {c : Nat × Nat} {n N : Nat}
def stir (x : Int64) : Int64 := x * (6364136223846793005 : Int64) + (1442695040888963407 : Int64)
def dr (x : Int64) (j : Nat) : Nat := (x.toBitVec >>> 33).toNat % j
theorem lush33 (x : Int64) : lushr x (33 : Int32) = lN ((x.toBitVec >>> 33).toNat) ∧ (x.toBitVec >>> 33).toNat < 2 ^ 31 := by
  have hb : (x.toBitVec >>> 33).toNat < 2 ^ 31 := by
    rw [BitVec.toNat_ushiftRight, Nat.shiftRight_eq_div_pow]
    have := x.toBitVec.isLt
    omega
  refine ⟨Int64.toBitVec_inj.mp (BitVec.eq_of_toNat_eq ?_), hb⟩
  rw [lN_nt (by omega)]
  rfl
theorem i64_lN {j : Nat} (h : j < 2 ^ 31) : (nI j).toInt64 = lN j := by
  refine Int64.toInt_inj.mp ?_
  rw [Int32.toInt_toInt64, nI_toInt h, lN_toInt h]
theorem lN_i32 {j : Nat} (h : j < 2 ^ 31) : (lN j).toInt32 = nI j := by
  rw [← i64_lN h]
  exact Int32.toInt32_toInt64 _
theorem drw {x : Int64} {j : Nat} (h0 : 0 < j) (hj : j < 2 ^ 31) : (lrem (lushr x (33 : Int32)) (nI j).toInt64).toInt32 = nI (dr x j) := by
  obtain ⟨e, h⟩ := lush33 x
  rw [e, i64_lN hj]
  unfold lrem
  rw [pk_lRem (by omega) h0 (by omega)]
  exact lN_i32 (by have := Nat.mod_lt ((x.toBitVec >>> 33).toNat) h0; omega)
theorem nz64 {j : Nat} (h0 : 0 < j) (hj : j < 2 ^ 31) : ¬ (nI j).toInt64 = 0 := fun z => by
  rw [i64_lN hj, show (0 : Int64) = lN 0 from rfl] at z
  have := lN_inj (by omega) (by omega) z
  omega
theorem dr_lt {x : Int64} {j : Nat} (h0 : 0 < j) : dr x j < j := Nat.mod_lt _ h0
theorem c_drawn {h : xa_H} {x : Int64} {j : Nat} (h0 : 0 < j) (hj : j < 2 ^ 31) : f_X11_drawn h x (nI j) = some (nI (dr x j)) := by
  unfold f_X11_drawn
  rw [if_neg (fun z => by rw [le0 hj] at z; omega), if_neg (nz64 h0 hj), drw h0 hj]
theorem r_draw {j : Nat} {x : Int64} (h0 : 0 < j) (hj : j < 2 ^ 31) (hx : V.2.1 351 41 = x) : f_X12_draw (hp V c) 351 (nI j) = some (nI (dr (stir x) j), hp (wL V 351 (vp_updL (V.2.1 351) 41 (stir x))) c) := by
  unfold f_X12_draw
  rw [k351, Option.bind_some, g351_41, Option.bind_some, hx, p351_41, Option.bind_some, g351_41, Option.bind_some, wL_same, updL_same, if_neg (nz64 h0 hj)]
  show some ((lrem (lushr (stir x) 33) (nI j).toInt64).toInt32, _) = _
  rw [drw h0 hj]
  rfl
/-- the current board changes, nothing else -/
theorem RR_now {p p' : PJ} (R : RR n p) (C : ∀ a, a ≠ 31 → a ≠ 364 → p' a = p a) (h364 : ∀ i, 36 ≤ i → p' 364 i = p 364 i) (now : ∀ N F, Rvil p N F → Rnow p N → Rnow p' N) : RR n p' := by
  obtain ⟨⟨N, F, v1, v2, v3, ⟨A, q, cr, v4⟩, v5, m, v6⟩, ⟨tl, t1⟩, ⟨ns, sl, dg, s1⟩, ⟨nl, ll, l1⟩, mi⟩ := R
  have D : ∀ a j, a ≠ 31 → a ≠ 364 → p' a j = p a j := fun a j h1 h2 => congrFun (C a h1 h2) j
  have e351 : ∀ j, p' 351 j = p 351 j := fun j => D _ _ (by decide) (by decide)
  refine ⟨⟨N, F, v1.cg (e351 _) (e351 _) (D _ _ (by decide) (by decide)) (C _ (by decide) (by decide)) (C _ (by decide) (by decide)), now N F v1 v2, v3.cg (C _ (by decide) (by decide)) (C _ (by decide) (by decide)) (C _ (by decide) (by decide)) (C _ (by decide) (by decide)) (C _ (by decide) (by decide)) (C _ (by decide) (by decide)) (C _ (by decide) (by decide)) (C _ (by decide) (by decide)), ⟨A, q, cr, ?_⟩, v5.cg (D _ _ (by decide) (by decide)) (e351 _) (fun a _ _ => C _ (by omega) (by omega)) (C _ (by decide) (by decide)) (D _ _ (by decide) (by decide)) (C _ (by decide) (by decide)), m, v6.cg (e351 _) (fun a _ _ => C _ (by omega) (by omega)) (C _ (by decide) (by decide))⟩, ⟨tl, t1.cg (D _ _ (by decide) (by decide)) (e351 _) (C _ (by decide) (by decide)) (C _ (by decide) (by decide))⟩, ⟨ns, sl, dg, s1.cg (C _ (by decide) (by decide)) (e351 _) (C _ (by decide) (by decide)) (fun j _ => D _ _ (by decide) (by decide)) (fun a _ _ => C _ (by omega) (by omega)) (fun j _ => D _ _ (by decide) (by decide))⟩, ⟨nl, ll, l1.cg (C _ (by decide) (by decide)) (C _ (by decide) (by decide)) (e351 _) (D _ _ (by decide) (by decide)) (e351 _) (C _ (by decide) (by decide)) (C _ (by decide) (by decide)) (fun a _ _ => C _ (by omega) (by omega))⟩, ?_⟩
  · obtain ⟨a1, a2, a3, a4, a5, ⟨b1, b2, b3, b4⟩, a7⟩ := v4
    have w4 : Rmem (fun a => if a = 364 then p 364 else p' a) N A q cr := Rmem.cg (p := p) (p' := fun a => if a = 364 then p 364 else p' a) ⟨a1, a2, a3, a4, a5, ⟨b1, b2, b3, b4⟩, a7⟩ (e351 _) (C 49 (by decide) (by decide)) (C 46 (by decide) (by decide)) (C 47 (by decide) (by decide)) (C 48 (by decide) (by decide)) rfl (C 369 (by decide) (by decide)) (D 356 1 (by decide) (by decide)) (C 358 (by decide) (by decide)) (fun a h1 h2 => by
      show (if a = 364 then p 364 else p' a) = _
      rw [if_neg (by omega)]
      exact C a (by omega) (by omega))
    obtain ⟨d1, d2, d3, d4, d5, ⟨f1, f2, f3, f4⟩, d7⟩ := w4
    refine ⟨d1, d2, d3, d4, d5, ⟨by rw [h364 50 (by decide)]; exact f1, f2, by rw [h364 51 (by decide)]; exact f3, fun i hi => ?_⟩, fun i hi => ?_⟩
    · rw [h364 _ (by omega), h364 _ (by omega), h364 _ (by omega)]
      exact f4 i hi
    · have hm := mb_lt (q := q) (A := A) (i := i)
      obtain ⟨g1, g2, g3, g4, g5, g6⟩ := d7 i hi
      have eP : ∀ a, a ≠ 364 → (fun a => if a = 364 then p 364 else p' a) a = p' a := fun a ha => if_neg ha
      exact ⟨g1, g2, g3.cg (p := fun a => if a = 364 then p 364 else p' a) (eP _ (by omega)).symm (eP _ (by omega)).symm rfl rfl, g4.cg (p := fun a => if a = 364 then p 364 else p' a) (eP _ (by omega)).symm (eP _ (by omega)).symm (eP _ (by omega)).symm (eP _ (by omega)).symm, g5, g6⟩
  · unfold Rmisc at mi ⊢
    rw [C 0 (by decide) (by decide), C 351 (by decide) (by decide), C 271 (by decide) (by decide), C 275 (by decide) (by decide), C 349 (by decide) (by decide), C 366 (by decide) (by decide), C 12 (by decide) (by decide), C 355 (by decide) (by decide)]
    exact mi
theorem sdF_0 {D : Nat → Int32} {x : Nat} (h : D (6 * x + x) = 0) : sdF D x x 0 = D := by
  unfold sdF
  funext k
  unfold upd
  by_cases e : k = 6 * x + x
  · rw [if_pos e, e, h]
    rfl
  · rw [if_neg e, if_neg e]
theorem RR_clear {S V : XS} {x y : Nat} (R : RR n (pj (mg S V))) (hN : S.1 30 4 = nI N) (h6 : N ≤ 6) (hx : x < N) (hy : y < N) : RR n (pj (mg (wA S 31 (sdF (S.1 31) x y 0)) (wA V 364 (sdF (V.1 364) x y 0)))) := by
  by_cases hne : x = y
  · subst hne
    obtain ⟨N', lim, kp, W⟩ := R.tw
    obtain ⟨t1, t2, t3, t4, t5, t6, t7, t8, t9, tE, tV, tZ, t49, tc, t34, t33⟩ := W
    have hx6 : x < 6 := by omega
    have d2 : V.1 364 (6 * x + x) = 0 := tV.1.diag hx6
    have d1 : S.1 31 (6 * x + x) = 0 := (tE.1 (6 * x + x) (by omega)).trans d2
    rw [sdF_0 d1, sdF_0 d2, wA_self, wA_self]
    exact R
  · have h6' : ∀ N' F, Rvil (pj (mg S V)) N' F → Rnow (pj (mg S V)) N' → N' = N := fun N' F v1 v2 => by
      have h := v1.2.1
      have : S.1 30 4 = nI N' := v2.1.1
      rw [hN] at this
      exact ((nI_eq (by omega) (by omega)).mp this).symm
    have E31 : pj (mg (wA S 31 (sdF (S.1 31) x y 0)) (wA V 364 (sdF (V.1 364) x y 0))) 31 = sdF (pj (mg S V) 31) x y 0 := by
      rw [pj_lo (by decide), pj_lo (by decide), c31, c31, wA_same]
    have E364 : pj (mg (wA S 31 (sdF (S.1 31) x y 0)) (wA V 364 (sdF (V.1 364) x y 0))) 364 = sdF (pj (mg S V) 364) x y 0 := by
      rw [pj_hi (by decide), pj_hi (by decide), c364, c364, wA_same]
    have EO : ∀ a, a ≠ 31 → a ≠ 364 → pj (mg (wA S 31 (sdF (S.1 31) x y 0)) (wA V 364 (sdF (V.1 364) x y 0))) a = pj (mg S V) a := fun a h1 h2 => by
      by_cases h : a < 351
      · rw [pj_lo h, pj_lo h]
        exact pj_eq (wA_ne h1)
      · rw [pj_hi (by omega), pj_hi (by omega)]
        exact pj_eq (wA_ne h2)
    refine RR_now R EO (fun i hi => ?_) (fun N' F v1 v2 => ?_)
    · rw [E364, sdF_far (by omega) (by omega) hi]
    · have := h6' N' F v1 v2
      subst this
      obtain ⟨⟨k1, k2, k3⟩, ⟨r1, r2, r3, r4, r5, r6⟩, ok⟩ := v2
      have e356 := congrFun (EO 356 (by decide) (by decide)) 1
      refine ⟨⟨?_, ?_, fun k hk => ?_⟩, ⟨fun k hk => ?_, fun k hk => ?_, fun k hk => ?_, ?_, ?_, ?_⟩, ?_⟩
      · rw [EO 30 (by decide) (by decide)]; exact k1
      · rw [EO 30 (by decide) (by decide), e356]; exact k2
      · rw [EO _ (by decide) (by decide), EO 358 (by decide) (by decide)]; exact k3 k hk
      · rw [E364]
        show pj _ 31 k = _
        rw [E31]
        have q : pj (mg S V) 31 k = pj (mg S V) 364 k := r1 k hk
        unfold sdF upd
        by_cases c1 : k = 6 * y + x
        · rw [if_pos c1, if_pos c1]
        · rw [if_neg c1, if_neg c1]
          by_cases c2 : k = 6 * x + y
          · rw [if_pos c2, if_pos c2]
          · rw [if_neg c2, if_neg c2]
            exact q
      · rw [EO _ (by decide) (by decide), E364, sdF_far (by omega) (by omega) (by omega)]; exact r2 k hk
      · rw [EO _ (by decide) (by decide), E364, sdF_far (by omega) (by omega) (by omega)]; exact r3 k hk
      · rw [EO _ (by decide) (by decide), E364, sdF_far (by omega) (by omega) (by omega)]; exact r4
      · rw [EO _ (by decide) (by decide), E364, sdF_far (by omega) (by omega) (by omega)]; exact r5
      · rw [EO _ (by decide) (by decide), E364, sdF_far (by omega) (by omega) (by omega)]; exact r6
      · rw [e356, E364]
        have l0 := v1.2.2.2.2.2.1
        exact rOk_sd ok h6 hx hy hne v1.2.2.2.2.2.2.1 l0 (by show -(pj (mg S V) 356 1).toInt ≤ 0; omega)
theorem r_clears {x y : Nat} (hx : x < 6) (hy : y < 6) : f_X12_clears (hp V c) 364 (nI x) (nI y) = some (hp (wA V 364 (sdF (V.1 364) x y 0)) c) := by
  unfold f_X12_clears
  rw [ix6, q364 (by omega), Option.bind_some, ix6, q364 (by omega), Option.bind_some, wA_wA, wA_same]
  rfl
end YRS
