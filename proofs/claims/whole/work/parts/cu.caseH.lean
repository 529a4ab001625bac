/-! the case of house: class answers or throws -/
section LCH
variable {G : xa_G} {b L : Nat} {xs : Nat → Int32} {S : XS} {c : Nat × Nat} {n : Nat}
theorem cmp_self (x : Int64) : lg_cmp x x = 0 := by
  unfold lg_cmp
  rw [if_neg (Int64.lt_irrefl), if_pos rfl]
theorem thr_is : f_X12_thrown (hp S c) 351 = some (S.1 351 0) := by
  unfold f_X12_thrown
  rw [k351, Option.bind_some, g351_0, Option.bind_some]
def lwh (n : Nat) (t v : Int32) : List (Option Value) := [some (.ref 1000000006), some (.ref 0), some (.ref 351), some (.ref 378), some (.int (nI (6 * n))), some (.int t), some (.int v)]
theorem lwh_le (n : Nat) (t v : Int32) : xa_le (lwl n) (lwh n t v) := ⟨rfl, rfl, rfl, rfl, rfl, trivial⟩
theorem LWK.weak (K : LWK G b L xs n c) {S2 : XS} (R : RR (n + 1) (pj S2)) (t v : Int32) : xa_L G M_L_law (lwP G b L xs) room_1 c.1 c.2 1602 (lwh n t v) [] (hp S2 c) (lwZ b) := xl_weak (lwh_le n t v) (K S2 R)
/-- up to the law's own house -/
theorem lc_h0 (hS : lwS G b L) (hi : 6 * n + 6 ≤ L) {mc ms : Nat} {h2 : xa_H} {t : Int32} (hc : c.1 + mc ≤ 601024 ∧ c.2 + ms ≤ 7293034) (E : xa_EvW G M_L_house hh_L 130 mc ms [.ref 0, .int (xs (6 * n + 1)), .int (xs (6 * n + 2)), .ref 378] (hp S c) (some (.int t)) h2)
    (k : xa_L G M_L_law (lwP G b L xs) room_1 (c.1 + mc) (c.2 + ms) 377 (lwl n) [.int t] h2 (lwZ b)) : xa_L G M_L_law (lwP G b L xs) room_1 c.1 c.2 360 (lwl n) [] (hp S c) (lwZ b) := by
  refine l_aload_n dL_law_360 rfl ?_
  refine l_sc hS 1 (by decide) (by omega) rfl rfl dL_law_361 dL_law_362 dL_law_364 dL_law_365 dL_law_366 ?_
  refine l_sc hS 2 (by decide) (by omega) rfl rfl dL_law_367 dL_law_368 dL_law_370 dL_law_371 dL_law_372 ?_
  refine l_aload_n dL_law_373 rfl ?_
  exact l_callSW (M1 := M_L_house) (n := 4) dL_law_374 ⟨cw_L_house, in_L, by decide +kernel, ml_L_38, st_L_house⟩ E ⟨Nat.le_of_ble_eq_true rfl, Nat.le_of_ble_eq_true rfl⟩ hc (As := [.ref 0, .int (xs (6 * n + 1)), .int (xs (6 * n + 2)), .ref 378]) rfl (st := []) rfl (Nat.le_of_ble_eq_true rfl) rfl k
/-- from there up to the comparison of what was thrown -/
theorem lc_h1 (hS : lwS G b L) (hi : 6 * n + 6 ≤ L) {S1 S2 : XS} {t v : Int32} (hc : c.1 ≤ 601024 ∧ c.2 ≤ 7293034) (e : f_X12_house (hp S1 c) 351 (xs (6 * n + 1)) (xs (6 * n + 2)) = some (v, hp S2 c)) (ht : S2.1 351 0 = t)
    (k : xa_L G M_L_law (lwP G b L xs) room_1 c.1 c.2 408 (lwh n t v) [] (hp S2 c) (lwZ b)) : xa_L G M_L_law (lwP G b L xs) room_1 c.1 c.2 377 (lwl n) [.int t] (hp S1 c) (lwZ b) := by
  refine l_istore dL_law_377 (Nat.le_of_ble_eq_true rfl) (loc' := [some (.ref 1000000006), some (.ref 0), some (.ref 351), some (.ref 378), some (.int (nI (6 * n))), some (.int t), none]) rfl ?_
  refine l_aload_n dL_law_379 rfl ?_
  refine l_sc hS 1 (by decide) (by omega) rfl rfl dL_law_380 dL_law_381 dL_law_383 dL_law_384 dL_law_385 ?_
  refine l_sc hS 2 (by decide) (by omega) rfl rfl dL_law_386 dL_law_387 dL_law_389 dL_law_390 dL_law_391 ?_
  refine l_callK dL_law_392 ⟨cb_X12_house, ml_L_43, im_X12_house⟩ se_12_X12_house (ckf_X12_house e) (ev_X12_house e) ⟨Nat.le_of_ble_eq_true rfl, Nat.le_of_ble_eq_true rfl⟩ hc rfl (As := [.int (xs (6 * n + 1)), .int (xs (6 * n + 2))]) rfl (st := []) rfl (Nat.le_of_ble_eq_true rfl) rfl ?_
  refine l_istore dL_law_395 (Nat.le_of_ble_eq_true rfl) (loc' := lwh n t v) rfl ?_
  refine l_aload_n dL_law_397 rfl ?_
  have e2 : f_X12_thrown (hp S2 c) 351 = some t := by rw [thr_is, ht]
  refine l_callK dL_law_398 ⟨cb_X12_thrown, ml_L_44, im_X12_thrown⟩ se_12_X12_thrown (ckf_X12_thrown e2) (ev_X12_thrown e2) ⟨Nat.le_of_ble_eq_true rfl, Nat.le_of_ble_eq_true rfl⟩ hc rfl (As := []) rfl (st := []) rfl (Nat.le_of_ble_eq_true rfl) rfl ?_
  refine l_iload dL_law_401 rfl ?_
  exact l_icmp_eq dL_law_403 (tgt := 408) (by decide) (fun _ => k) (fun z => absurd rfl z)
theorem lc_house (htr : G.1.stackTraces = false) (hb0 : G.2.2.2.2.2.size = xa_b G) (hS : lwS G b L) (hi : 6 * n + 6 ≤ L) (hc : c.1 + 1 ≤ 601024 ∧ c.2 + 6 ≤ 7293034) (R : RR n (pj S)) (K : LWK G b L xs n c) (K1 : LWK G b L xs n (c.1 + 1, c.2 + 6)) : xa_L G M_L_law (lwP G b L xs) room_1 c.1 c.2 360 (lwl n) [] (hp S c) (lwZ b) := by
  obtain ⟨N, W⟩ := R.now
  have h6 := W.2.1
  have hB : S.1 30 4 = nI N := W.2.2.2.2.2.2.1
  have hM : S.1 351 26 = nI N := W.2.2.1
  have hno : inN N (xs (6 * n + 1)) = false ∨ inN 7 (xs (6 * n + 2)) = false → xa_L G M_L_law (lwP G b L xs) room_1 c.1 c.2 360 (lwl n) [] (hp S c) (lwZ b) := fun hx => by
    obtain ⟨q2, e2, hq⟩ := house_has (c := c) R hB h6 hx
    obtain ⟨V, f1, f2, f3⟩ := house_no (c := (c.1 + 1, c.2 + 6)) R hM h6 hx
    refine lc_h0 hS hi hc (lh_no htr hb0 (by omega) e2 hq) ?_
    refine lc_h1 (c := (c.1 + 1, c.2 + 6)) hS hi hc f1 f2 ?_
    refine l_iload dL_law_408 rfl ?_
    refine l_if_ne dL_law_410 (tgt := 425) (by decide) (fun _ => ?_) (fun z => absurd z (by decide))
    exact l_goto dL_law_425 (tgt := 1602) (by decide) (K1.weak f3 _ _)
  cases q1 : inN N (xs (6 * n + 1)) with
  | false => exact hno (Or.inl q1)
  | true =>
    cases q2 : inN 7 (xs (6 * n + 2)) with
    | false => exact hno (Or.inr q2)
    | true =>
      obtain ⟨x, hx, ex⟩ := inN_x q1 (by omega)
      obtain ⟨kd, hk, ek⟩ := inN_x q2 (by decide)
      obtain ⟨v, S1, e1, E⟩ := house_ok3 (c := c) R hB h6 hx hk
      rw [← ex, ← ek] at e1 E
      obtain ⟨S2, f1, f2, f3, f4⟩ := E (wL S1 378 (vp_updL (S1.2.1 378) 0 v.toInt64)) rfl
      have hc0 : c.1 ≤ 601024 ∧ c.2 ≤ 7293034 := ⟨by omega, by omega⟩
      refine lc_h0 hS hi (mc := 0) (ms := 0) hc0 (lh_ok e1) ?_
      refine lc_h1 hS hi hc0 f1 f2 ?_
      refine l_iload dL_law_408 rfl ?_
      refine l_if_ne dL_law_410 (tgt := 425) (by decide) (fun z => absurd rfl z) (fun _ => ?_)
      refine l_aload_n dL_law_413 rfl ?_
      refine l_iconst dL_law_414 (v := 0) (by decide) ?_
      refine l_laloadL dL_law_415 (x := v.toInt64) ?_ ?_
      · have h9 := a378 (S := S2) (c := c) (k := 0) (by decide)
        rw [f4, wL_same, updL_same] at h9
        exact h9
      refine l_iload dL_law_416 rfl ?_
      refine l_i2l dL_law_418 ?_
      refine l_lcmp dL_law_419 ?_
      rw [cmp_self]
      refine l_if_eq dL_law_420 (tgt := 425) (by decide) (fun _ => ?_) (fun z => absurd rfl z)
      exact l_goto dL_law_425 (tgt := 1602) (by decide) (K.weak f3 _ _)
end LCH
