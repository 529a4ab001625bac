/-! TEXT: a law -/
section TX3
variable {S : XS} {c : Nat × Nat} {n k L : Nat}
theorem nar_in {v : Int32} (h1 : -128 ≤ v.toInt) (h2 : v.toInt ≤ 127) : vp_nar .byte v = v := by
  show v.toInt8.toInt32 = v
  refine Int32.toInt_inj.mp ?_
  rw [Int8.toInt_toInt32, Int32.toInt_toInt8]
  exact Int.bmod_eq_of_le (by omega) (by omega)
theorem cpy0 {f g : Nat → Int32} {L j : Nat} (hj : j < L) : va_cpy f g 0 0 L j = f j := by
  unfold va_cpy
  rw [if_pos (by omega), show 0 + (j - 0) = j by omega]
theorem pc19 {i : Nat} (hi : i < 4) : pj S (19 + i) = S.1 (19 + i) := by
  rcases (by omega : i = 0 ∨ i = 1 ∨ i = 2 ∨ i = 3) with rfl | rfl | rfl | rfl <;> exact pj_cell fun _ => rfl
theorem pj_eq {S S' : XS} {a : Nat} (h : S'.1 a = S.1 a) : pj S' a = pj S a := by
  funext k
  unfold pj
  rw [h]
theorem pj_no {S S' : XS} {a : Nat} (h : scr a) : pj S' a = pj S a := by
  funext k
  unfold pj
  rw [if_neg (by rw [h k]; decide), if_neg (by rw [h k]; decide)]
theorem pr_text1 (R : RR n (pj S)) : PQ n c (fun h => f_X11_text h 0 1) (fun h => f_X12_text h 351 1) S := by
  obtain ⟨tl, t⟩ := R.2.1
  obtain ⟨tl', t1', t2', t3', t4'⟩ := R.tape
  have t2 : S.1 0 16 = nI tl := t.2.1
  have t1 := t.1
  have etl : tl' = tl := (nI_eq (by omega) (by omega)).mp (t2'.symm.trans t2)
  subst etl
  obtain ⟨nl, ll, l⟩ := R.2.2.2.1
  have l1 := l.1
  have l2 : S.1 16 3 = nI nl := l.2.1
  have l3 : S.1 16 2 = nI 240 := l.2.2.1
  have l4 : S.1 351 7 = nI nl := l.2.2.2.1
  have hc := X2_read (S := S) (c := c) (T := va_cpy (S.1 1) (S.1 (19 + nl)) 0 0 tl') (ta := 1) t1' s1 t1' (by decide) (by decide) (fun k hk => (cpy0 hk).symm)
  rw [← t2', ← cf1] at hc
  have p1 : ∀ F : Nat → Int32, pj (wA (wT S 10 1) 10 F) = pj S := fun F => pj_scr sc10
  -- the reference's reading, from any state that has the tape
  have hr : ∀ U : XS, U.1 352 = S.1 352 → U.1 355 = S.1 355 → U.1 351 6 = nI tl' → gtR (wT (T0 U) 351 352) c (f_X12_goThrough (hp (T0 U) c) 351 352 0 (U.1 351 6)) (pLaw (va_cpy (S.1 1) (S.1 (19 + nl)) 0 0 tl') tl') := by
    intro U u1 u2 u3
    rw [u3]
    refine X12_go (bg := 0) t1' s352 (by omega) (by decide) (by decide) (fun j => ?_) (fun k hk => ?_)
    · show smal ((T0 U).1 355 (ltc j))
      rw [T0_ne (by decide), u2]
      exact R.lets j
    · rw [T0_ne (by decide), Nat.zero_add, u1, cpy0 hk]
      exact t4' k hk
  -- the reference's beginning
  have rb : ∀ U : XS, U.1 351 7 = nI nl → f_X12_text (hp U c) 351 1 = if nl = 4 then some (-1, hp (T0 U) c) else f_X12_text_b43 (hp (T0 U) c) 351 1 := by
    intro U u
    unfold f_X12_text f_X12_text_b30
    rw [k351, Option.bind_some, T0_p, Option.bind_some, show f_X12_isIn (hp (T0 U) c) (1 : Int32).toInt64 (0 : Int64) (2 : Int64) = some 1 from isIn_in (k := 1) (m := 2) (by decide) (by decide) rfl, Option.bind_some, if_neg (by decide), if_pos rfl, g351_7, Option.bind_some, T0_351 (by decide), u]
    by_cases e : nl = 4
    · rw [if_pos (by rw [e]; rfl), if_pos e]
    · rw [if_neg (show ¬ nI nl = (4 : Int32) from fun z => e ((nI_eq (b := 4) (by omega) (by decide)).mp z)), if_neg e, if_neg (by decide)]
  have ctx : ∀ (v : Int32) (S1 : XS), f_X11_fault (hp S c) 0 1 = some (v, hp S1 c) → v ≠ -1 → f_X11_text (hp S c) 0 1 = some (-1, hp S1 c) := by
    intro v S1 h1 h2
    unfold f_X11_text
    rw [k0, Option.bind_some, h1, Option.bind_some, if_neg h2]
  cases hv : pLaw (va_cpy (S.1 1) (S.1 (19 + nl)) 0 0 tl') tl' with
  | inl f =>
    rw [hv] at hc hr
    obtain ⟨F, e1⟩ := hc
    have u7 : (wA (wT S 10 1) 10 F).1 351 7 = nI nl := by rw [wA_ne (by decide)]; exact l4
    obtain ⟨f240, G, y1, y2, y3⟩ := hr (T0 (wA (wT S 10 1) 10 F)) (by rw [T0_ne (by decide), wA_ne (by decide)]; rfl) (by rw [T0_ne (by decide), wA_ne (by decide)]; rfl) (by rw [T0_351 (by decide), wA_ne (by decide)]; exact t3')
    have nf : nI f ≠ -1 := m1_ne (by omega)
    by_cases e4 : nl = 4
    · refine PQ.same (v := -1) R (ctx _ _ e1 nf) ?_ (p1 F) T0_pj
      rw [rb _ u7, if_pos e4]
    · refine PQ.same (v := -1) R (ctx _ _ e1 nf) ?_ (p1 F) (((pj_lk y3).trans T0_pj).trans T0_pj)
      rw [rb _ u7, if_neg e4]
      unfold f_X12_text_b43
      rw [rf1 y1, Option.bind_some, wA_same, y2, if_neg nf]
  | inr g =>
    rw [hv] at hc hr
    obtain ⟨F, e1, -⟩ := hc
    have u7 : (wA (wT S 10 1) 10 F).1 351 7 = nI nl := by rw [wA_ne (by decide)]; exact l4
    have u16 : (wA (wT S 10 1) 10 F).1 16 = S.1 16 := wA_ne (by decide)
    by_cases e4 : nl = 4
    · refine PQ.same (v := -1) (S1 := wA (wT S 10 1) 10 F) (S2 := T0 (wA (wT S 10 1) 10 F)) R ?_ ?_ (p1 F) T0_pj
      · unfold f_X11_text f_X11_text_b89 f_X11_text_b99
        rw [k0, Option.bind_some, e1, Option.bind_some, if_pos rfl, if_neg (by decide), if_pos rfl, g0_4, Option.bind_some, g0_0, Option.bind_some, g0_16, Option.bind_some, wA_ne (show 0 ≠ 10 by decide)]
        show (f_X5_put (hp (wA (wT S 10 1) 10 F) c) 16 1 (S.1 0 16)).bind _ = _
        rw [t2, X5_putLn (by rw [u16, l2, e4]), Option.bind_some, if_pos rfl]
      · rw [rb _ u7, if_pos e4]
    · have hk : nl < 4 := by omega
      have put : f_X11_text (hp S c) 0 1 = some (nI nl, hp (wA (putL (wA (wT S 10 1) 10 F) nl tl') 0 (upd ((putL (wA (wT S 10 1) 10 F) nl tl').1 0) 16 0)) c) := by
        unfold f_X11_text f_X11_text_b89 f_X11_text_b99
        rw [k0, Option.bind_some, e1, Option.bind_some, if_pos rfl, if_neg (by decide), if_pos rfl, g0_4, Option.bind_some, g0_0, Option.bind_some, g0_16, Option.bind_some, wA_ne (show 0 ≠ 10 by decide)]
        show (f_X5_put (hp (wA (wT S 10 1) 10 F) c) 16 1 (S.1 0 16)).bind _ = _
        rw [t2, X5_putL (by rw [u16]; exact l2) (by rw [u16]; exact l3) hk t1, Option.bind_some, if_neg (m1_ne (by omega)), p0_16, Option.bind_some]
      have U0 : (wA (putL (wA (wT S 10 1) 10 F) nl tl') 0 (upd ((putL (wA (wT S 10 1) 10 F) nl tl').1 0) 16 0)).1 0 = upd (S.1 0) 16 0 := by
        rw [wA_same]
        unfold putL
        rw [wA_ne (by decide), wA_ne (by decide), wA_ne (show 0 ≠ 19 + nl by omega), wA_ne (by decide)]
        rfl
      have U16 : (wA (putL (wA (wT S 10 1) 10 F) nl tl') 0 (upd ((putL (wA (wT S 10 1) 10 F) nl tl').1 0) 16 0)).1 16 = upd (S.1 16) 3 (nI (nl + 1)) := by
        rw [wA_ne (by decide)]
        unfold putL
        rw [wA_same, wA_ne (by decide)]
        rfl
      have U17 : (wA (putL (wA (wT S 10 1) 10 F) nl tl') 0 (upd ((putL (wA (wT S 10 1) 10 F) nl tl').1 0) 16 0)).1 17 = upd (S.1 17) nl (nI tl') := by
        rw [wA_ne (by decide)]
        unfold putL
        rw [wA_ne (by decide), wA_same, wA_ne (by decide)]
        rfl
      have U19 : (wA (putL (wA (wT S 10 1) 10 F) nl tl') 0 (upd ((putL (wA (wT S 10 1) 10 F) nl tl').1 0) 16 0)).1 (19 + nl) = va_cpy (S.1 1) (S.1 (19 + nl)) 0 0 tl' := by
        rw [wA_ne (by omega)]
        unfold putL
        rw [wA_ne (by omega), wA_ne (by omega), wA_same, wA_ne (by decide), wA_ne (by omega)]
        rfl
      have UX : ∀ a, a ≠ 0 → a ≠ 10 → a ≠ 16 → a ≠ 17 → a ≠ 19 + nl → (wA (putL (wA (wT S 10 1) 10 F) nl tl') 0 (upd ((putL (wA (wT S 10 1) 10 F) nl tl').1 0) 16 0)).1 a = S.1 a := by
        intro a h0 h1 h2 h3 h4
        rw [wA_ne h0]
        unfold putL
        rw [wA_ne h2, wA_ne h3, wA_ne h4, wA_ne h1]
        rfl
      generalize wA (putL (wA (wT S 10 1) 10 F) nl tl') 0 (upd ((putL (wA (wT S 10 1) 10 F) nl tl').1 0) 16 0) = U at put U0 U16 U17 U19 UX
      have U351 := UX 351 (by decide) (by decide) (by decide) (by decide) (by omega)
      obtain ⟨G, y1, y2, -, y3⟩ := hr (T0 U) (by rw [T0_ne (by decide), UX 352 (by decide) (by decide) (by decide) (by decide) (by omega)]) (by rw [T0_ne (by decide), UX 355 (by decide) (by decide) (by decide) (by decide) (by omega)]) (by rw [T0_351 (by decide), U351]; exact t3')
      have G6 : G 6 = nI tl' := by
        rw [y3 6 (by decide)]
        show (T0 (T0 U)).1 351 6 = _
        rw [T0_351 (by decide), T0_351 (by decide), U351]
        exact t3'
      have G7 : G 7 = nI nl := by
        rw [y3 7 (by decide)]
        show (T0 (T0 U)).1 351 7 = _
        rw [T0_351 (by decide), T0_351 (by decide), U351]
        exact l4
      have q351 : ∀ k, pers 351 k = true → k ≠ 6 → upd G 6 0 k = S.1 351 k := by
        intro k hk h6
        have := congrFun (congrFun (((pj_lk y3).trans T0_pj).trans T0_pj) 351) k
        rw [pj_at hk, pj_at hk, wA_same, U351] at this
        rw [upd_ne h6]
        exact this
      have e4' : f_X12_text (hp U c) 351 1 = f_X12_text_b71 1048576 (hp (wA (wT (T0 (T0 U)) 351 352) 351 (upd G 6 0)) c) 351 (nI tl') 0 := by
        rw [rb U (by rw [U351]; exact l4), if_neg e4]
        unfold f_X12_text_b43
        rw [rf1 y1, Option.bind_some, wA_same, y2, if_pos rfl, g351_6, Option.bind_some, wA_same, G6, p351_6, Option.bind_some, wA_wA, wA_same, if_pos rfl]
      have V351 : (wA (wT (T0 (T0 U)) 351 352) 351 (upd G 6 0)).1 351 = upd G 6 0 := wA_same
      have VX : ∀ a, a ≠ 351 → (wA (wT (T0 (T0 U)) 351 352) 351 (upd G 6 0)).1 a = U.1 a := by
        intro a h
        rw [wA_ne h]
        show (T0 (T0 U)).1 a = U.1 a
        rw [T0_ne h, T0_ne h]
      generalize wA (wT (T0 (T0 U)) 351 352) 351 (upd G 6 0) = V at e4' V351 VX
      rw [rt_law (S := V) (c := c) (by rw [V351, upd_ne (by decide)]; exact G7) hk t1] at e4'
      have W351 : (wA (wA (wA V 353 (txF V nl tl')) 354 (upd (V.1 354) nl (nI tl'))) 351 (upd (V.1 351) 7 (nI (nl + 1)))).1 351 = upd (upd G 6 0) 7 (nI (nl + 1)) := by rw [wA_same, V351]
      have W354 : (wA (wA (wA V 353 (txF V nl tl')) 354 (upd (V.1 354) nl (nI tl'))) 351 (upd (V.1 351) 7 (nI (nl + 1)))).1 354 = upd (S.1 354) nl (nI tl') := by rw [wA_ne (by decide), wA_same, VX 354 (by decide), UX 354 (by decide) (by decide) (by decide) (by decide) (by omega)]
      have W353 : (wA (wA (wA V 353 (txF V nl tl')) 354 (upd (V.1 354) nl (nI tl'))) 351 (upd (V.1 351) 7 (nI (nl + 1)))).1 353 = txF S nl tl' := by
        rw [wA_ne (by decide), wA_ne (by decide), wA_same]
        unfold txF
        rw [VX 352 (by decide), VX 353 (by decide), UX 352 (by decide) (by decide) (by decide) (by decide) (by omega), UX 353 (by decide) (by decide) (by decide) (by decide) (by omega)]
      have WX : ∀ a, a ≠ 351 → a ≠ 353 → a ≠ 354 → (wA (wA (wA V 353 (txF V nl tl')) 354 (upd (V.1 354) nl (nI tl'))) 351 (upd (V.1 351) 7 (nI (nl + 1)))).1 a = U.1 a := fun a h1 h2 h3 => by rw [wA_ne h1, wA_ne h3, wA_ne h2, VX a h1]
      generalize wA (wA (wA V 353 (txF V nl tl')) 354 (upd (V.1 354) nl (nI tl'))) 351 (upd (V.1 351) 7 (nI (nl + 1))) = W at e4' W351 W354 W353 WX
      refine PQ.mk (nI nl) U W put e4' (RR_putlaw (ll := ll) (g := g) (k := nl) (L := tl') R l hk t ?_ ?_ ?_ ?_ ?_ ?_ ?_ ?_ ?_ ?_ ?_ ?_ ?_)
      · rw [pc19 hk, WX _ (by omega) (by omega) (by omega), U19]
        exact hv
      · intro a h0 h1 h2 h3 h4 h5 h6
        by_cases e10 : a = 10
        · subst e10
          exact pj_no sc10
        · exact pj_eq (by rw [WX a h4 h5 h6, UX a h0 e10 h1 h2 h3])
      · intro j hj
        show W.1 0 j = S.1 0 j
        rw [WX 0 (by decide) (by decide) (by decide), U0, upd_ne hj]
      · show W.1 0 16 = nI 0
        rw [WX 0 (by decide) (by decide) (by decide), U0, upd_same]
        rfl
      · show W.1 16 2 = S.1 16 2
        rw [WX 16 (by decide) (by decide) (by decide), U16, upd_ne (by decide)]
      · show W.1 16 3 = nI (nl + 1)
        rw [WX 16 (by decide) (by decide) (by decide), U16, upd_same]
      · rw [show pj W 17 = W.1 17 from pj_cell fun _ => rfl, show pj S 17 = S.1 17 from pj_cell fun _ => rfl, WX 17 (by decide) (by decide) (by decide), U17]
      · intro j hj
        rw [pc19 hk, WX _ (by omega) (by omega) (by omega), U19, show pj S 1 = S.1 1 from pj_cell fun _ => rfl]
        exact cpy0 hj
      · intro j h6 h7
        by_cases h : pers 351 j = true
        · rw [pj_at h, pj_at h, W351, upd_ne h7]
          exact q351 j h h6
        · unfold pj
          rw [if_neg h, if_neg h]
      · show W.1 351 6 = nI 0
        rw [W351, upd_ne (by decide), upd_same]
        rfl
      · show W.1 351 7 = nI (nl + 1)
        rw [W351, upd_same]
      · intro i
        rw [show pj W 353 = W.1 353 from pj_cell fun _ => rfl, show pj S 353 = S.1 353 from pj_cell fun _ => rfl, show pj S 352 = S.1 352 from pj_cell fun _ => rfl, W353]
        unfold txF
        by_cases e : 240 * nl ≤ i ∧ i < 240 * nl + tl'
        · rw [if_pos e, if_pos e]
          obtain ⟨-, -, b1, b2⟩ := t4' (i - 240 * nl) (by omega)
          exact nar_in b1 b2
        · rw [if_neg e, if_neg e]
      · rw [show pj W 354 = W.1 354 from pj_cell fun _ => rfl, show pj S 354 = S.1 354 from pj_cell fun _ => rfl, W354]
end TX3
