/-! REFUSED -/
section RFU
variable {S : XS} {c : Nat × Nat} {n r : Nat} {v : Int32}
def cfx (S : XS) (r : Nat) : XS := wA S 349 (upd (S.1 349) r (S.1 349 r + 1))
def rfx (S : XS) (r : Nat) : XS := wA S 366 (upd (S.1 366) r (S.1 366 r + 1))
theorem X11_refuse (hr : r < 6) : f_X11_refuse (hp S c) 0 (nI r) v = some (v, hp (cfx S r) c) := by
  unfold f_X11_refuse f_X11_refuse_b20
  rw [k0, Option.bind_some, if_neg (nI_nneg (by omega)), if_neg (show ¬ (6 : Int32) ≤ nI r from by rw [show (6 : Int32) = nI 6 from rfl]; exact nI_ge hr (by decide)), g0_14, Option.bind_some, a349 hr, Option.bind_some, q349 hr, Option.bind_some]
  rfl
theorem X12_refused (hr : r < 6) : f_X12_refused (hp S c) 351 (nI r) v = some (v, hp (rfx S r) c) := by
  unfold f_X12_refused
  rw [k351, Option.bind_some, g351_34, Option.bind_some, a366 hr, Option.bind_some, q366 hr, Option.bind_some]
  rfl
theorem RR_refuse {p p' : PJ} (R : RR n p) (hr : r < 6) (C : ∀ a, a ≠ 349 → a ≠ 366 → p' a = p a) (h1 : p' 349 = upd (p 349) r (p 349 r + 1)) (h2 : p' 366 = upd (p 366) r (p 366 r + 1)) : RR (n + 1) p' := by
  obtain ⟨R1, ⟨tl, t1⟩, ⟨ns, sl, dg, s1⟩, ⟨nl, ll, l1⟩, m1, m2, m3, m4, m5, m6⟩ := R
  have D : ∀ a j, a ≠ 349 → a ≠ 366 → p' a j = p a j := fun a j h1 h2 => congrFun (C a h1 h2) j
  refine RR.mono (n := n) ⟨RV.cg R1 (fun a h => C a (by omega) (by omega)) (fun j _ => D _ _ (by decide) (by decide)), ⟨tl, t1.cg (D _ _ (by decide) (by decide)) (D _ _ (by decide) (by decide)) (C _ (by decide) (by decide)) (C _ (by decide) (by decide))⟩, ⟨ns, sl, dg, s1.cg (C _ (by decide) (by decide)) (D _ _ (by decide) (by decide)) (C _ (by decide) (by decide)) (fun j _ => D _ _ (by decide) (by decide)) (fun a _ _ => C _ (by omega) (by omega)) (fun j _ => D _ _ (by decide) (by decide))⟩, ⟨nl, ll, l1.cg (C _ (by decide) (by decide)) (C _ (by decide) (by decide)) (D _ _ (by decide) (by decide)) (D _ _ (by decide) (by decide)) (D _ _ (by decide) (by decide)) (C _ (by decide) (by decide)) (C _ (by decide) (by decide)) (fun a _ _ => C _ (by omega) (by omega))⟩, ?_⟩ (by omega)
  unfold Rmisc
  rw [C 0 (by decide) (by decide), C 351 (by decide) (by decide), C 271 (by decide) (by decide), C 275 (by decide) (by decide), C 12 (by decide) (by decide), C 355 (by decide) (by decide), h1, h2]
  refine ⟨m1, m2, fun k hk => ?_, m4, m5, m6⟩
  unfold upd
  by_cases e : k = r
  · rw [if_pos e, if_pos e, m3 r hr]
  · rw [if_neg e, if_neg e]
    exact m3 k hk
/-- both refuse -/
theorem PQ.refuse {f g : xa_H → Option (Int32 × xa_H)} (R : RR n (pj S)) (hr : r < 6) (h1 : f (hp S c) = some (v, hp (cfx S r) c)) (h2 : ∀ U, U = cfx S r → g (hp U c) = some (v, hp (rfx (T0 U) r) c)) : PQ n c f g S := by
  refine ⟨v, cfx S r, rfx (T0 (cfx S r)) r, h1, h2 _ rfl, RR_refuse (r := r) R hr (fun a ha hb => ?_) ?_ ?_⟩
  · by_cases e : a = 351
    · subst e
      have : pj (rfx (T0 (cfx S r)) r) 351 = pj (T0 (cfx S r)) 351 := pj_eq (by unfold rfx; rw [wA_ne (by decide)])
      rw [this, T0_pj]
      exact pj_eq (by unfold cfx; rw [wA_ne (by decide)])
    · refine pj_eq ?_
      unfold rfx cfx
      rw [wA_ne hb, T0_ne e, wA_ne ha]
  · rw [show pj (rfx (T0 (cfx S r)) r) 349 = (rfx (T0 (cfx S r)) r).1 349 from pj_cell fun _ => rfl, show pj S 349 = S.1 349 from pj_cell fun _ => rfl]
    unfold rfx cfx
    rw [wA_ne (by decide), T0_ne (by decide), wA_same]
  · rw [show pj (rfx (T0 (cfx S r)) r) 366 = (rfx (T0 (cfx S r)) r).1 366 from pj_cell fun _ => rfl, show pj S 366 = S.1 366 from pj_cell fun _ => rfl]
    unfold rfx
    rw [wA_same, T0_ne (by decide)]
    unfold cfx
    rw [wA_ne (by decide)]
end RFU
/-! WHAT IS REMEMBERED -/
section RMB
variable {S : XS} {c : Nat × Nat} {n q A : Nat}
theorem B60 {q : Nat} (hq : q < 40) : isB (60 + 5 * q) := by
  have : ∀ q, q < 40 → isBd (60 + 5 * q) = true := by decide +kernel
  exact isBd_of _ (this q hq)
theorem X3_remember (hq : q < 40) (hA : A ≤ 40) (h3 : S.1 49 3 = nI q) (h4 : S.1 49 4 = nI A) : ∃ S', f_X3_remember (hp S c) 49 30 = some (hp S' c) ∧ cpB S' (60 + 5 * q) S 30 ∧ S'.1 49 = upd (upd (S.1 49) 3 (nI ((q + 1) % 40))) 4 (nI (min (A + 1) 40)) ∧ ∀ a, a ≠ 49 → a < 60 + 5 * q ∨ 60 + 5 * q + 4 < a → S'.1 a = S.1 a := by
  obtain ⟨S1, e1, e2, e3⟩ := (B60 hq).become (S := S) (c := c) B30 (by omega)
  have n3 : S1.1 49 = S.1 49 := e3.1 49 (by omega)
  have im : irem (nI (q + 1)) 40 = nI ((q + 1) % 40) := by
    have : ∀ q, q < 40 → irem (nI (q + 1)) 40 = nI ((q + 1) % 40) := by decide +kernel
    exact this q hq
  refine ⟨wA S1 49 (upd (upd (S1.1 49) 3 (nI ((q + 1) % 40))) 4 (nI (min (A + 1) 40))), ?_, ?_, ?_, fun a h1 h2 => ?_⟩
  · unfold f_X3_remember
    rw [k49, Option.bind_some, g49_0, Option.bind_some, g49_3, Option.bind_some, h3, a50 hq, Option.bind_some, e1, Option.bind_some, g49_3, Option.bind_some, n3, h3, nI_1, im, p49_3, Option.bind_some, g49_4, Option.bind_some, wA_same, n3, upd_ne (by decide), h4, nI_1, show (40 : Int32) = nI 40 from rfl, imin_nI (by omega) (by decide), p49_4, Option.bind_some, wA_wA, wA_same]
  · unfold cpB at e2 ⊢
    rw [wA_ne (by omega), wA_ne (by omega), wA_ne (by omega), wA_ne (by omega), wA_ne (by omega)]
    exact e2
  · rw [wA_same, n3]
  · rw [wA_ne h1, e3.1 a (by omega)]
theorem ix232 (a c : Nat) : (232 : Int32) * nI a + nI c = nI (232 * a + c) := by
  rw [show (232 : Int32) = nI 232 from rfl, pk_mul, nI_add]
/-- a row put behind those that are remembered -/
def rmF (S : XS) (A j : Nat) : Nat → Int32 := fun i => if 232 * A ≤ i ∧ i < 232 * A + j then S.1 364 (i - 232 * A) else S.1 369 i
theorem r_rem (hA : A < 40) (h40 : S.1 351 40 = nI A) : f_X12_remember_b50 (hp S c) 351 = some (hp (wA (wA S 369 (rmF S A 232)) 351 (upd (S.1 351) 40 (nI (A + 1)))) c) := by
  have h0 : S = wA S 369 (rmF S A 0) := by
    have : rmF S A 0 = S.1 369 := funext fun i => if_neg (by omega)
    rw [this, wA_self]
  have l0 : f_X12_remember_b52 1048576 (hp (wA S 369 (rmF S A 0)) c) 351 (nI 0) = some (hp (wA (wA S 369 (rmF S A 232)) 351 (upd (S.1 351) 40 (nI (A + 1)))) c) := by
    refine lp (N := 232) (fun n k => f_X12_remember_b52 n (hp (wA S 369 (rmF S A k)) c) 351 (nI k)) (fun n => ?_) (fun n k hk => ?_) 232 0 1048576 (by omega) (by omega)
    · show f_X12_remember_b52 (n + 1) _ 351 (nI 232) = _
      rw [f_X12_remember_b52, if_pos (by decide), g351_40, Option.bind_some, p351_40, Option.bind_some, wA_ne (show 351 ≠ 369 by decide), h40, nI_1]
    · show f_X12_remember_b52 (n + 1) _ 351 (nI k) = _
      rw [f_X12_remember_b52, if_neg (by rw [show (232 : Int32) = nI 232 from rfl]; exact nI_ge hk (by decide)), g351_39, Option.bind_some, g351_40, Option.bind_some, wA_ne (show 351 ≠ 369 by decide), h40, g351_32, Option.bind_some, a364 hk, Option.bind_some, ix232, q369 (by omega), Option.bind_some, nI_1, wA_wA, wA_same, wA_ne (show 364 ≠ 369 by decide)]
      have : upd (rmF S A k) (232 * A + k) (S.1 364 k) = rmF S A (k + 1) := by
        funext j
        unfold upd rmF
        by_cases e : j = 232 * A + k
        · rw [if_pos e, if_pos (by omega), show j - 232 * A = k by omega]
        · rw [if_neg e]
          by_cases e2 : 232 * A ≤ j ∧ j < 232 * A + k
          · rw [if_pos e2, if_pos (by omega)]
          · rw [if_neg e2, if_neg (by omega)]
      rw [this]
  rw [← h0] at l0
  exact l0
end RMB
