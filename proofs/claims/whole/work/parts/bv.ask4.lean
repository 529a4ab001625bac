/-! ASK: both -/
section AS4
variable {S : XS} {c : Nat × Nat} {n N ns mk : Nat}
theorem slA_cg {A A' : Nat → Nat} : ∀ (r t w : Nat) (b : Int32), (∀ x, t ≤ x → x < t + r → A x = A' x) → slA A r t b w = slA A' r t b w
  | 0, _, _, _, _ => rfl
  | r + 1, t, w, b, h => by
    show (if A t < w then slA A r (t + 1) (nI t) (A t) else slA A r (t + 1) b w) = if A' t < w then slA A' r (t + 1) (nI t) (A' t) else slA A' r (t + 1) b w
    rw [h t (by omega) (by omega), slA_cg r (t + 1) (A' t) (nI t) (fun x h1 h2 => h x (by omega) (by omega)), slA_cg r (t + 1) w b (fun x h1 h2 => h x (by omega) (by omega))]
theorem moC_w {o : Nat → Int32} (h4 : ns ≤ 4) (h : ∀ i, ns ≤ i → mk.testBit i = false) : ∀ k, moC o mk 4 k = moC o mk ns k
  | 0 => rfl
  | k + 1 => by
    show (if mk.testBit k then max (moC o mk 4 k) (smC o mk k 4) else moC o mk 4 k) = if mk.testBit k then max (moC o mk ns k) (smC o mk k ns) else moC o mk ns k
    have e := smC_up (o := o) (k := k) h (4 - ns)
    rw [show ns + (4 - ns) = 4 by omega] at e
    rw [moC_w h4 h k, e]
theorem moC_44 {o : Nat → Int32} (h4 : ns ≤ 4) (h : ∀ i, ns ≤ i → mk.testBit i = false) : moC o mk 4 4 = moC o mk ns ns := by
  have e := moC_up (o := o) (w := 4) h (4 - ns)
  rw [show ns + (4 - ns) = 4 by omega] at e
  rw [e, moC_w h4 h]
theorem pj_44 {S2 : XS} (h : ∀ x, x < 40 ∨ 44 < x → x < 267 ∨ 270 < x → S2.1 x = S.1 x) : pj S2 = pj S := pj_ext fun a k q => by
  by_cases e1 : 40 ≤ a ∧ a ≤ 44
  · rw [sc40 a e1.1 e1.2 k] at q
    cases q
  · by_cases e2 : 267 ≤ a ∧ a ≤ 270
    · have : pers a k = false := by
        rcases (by omega : a = 267 ∨ a = 268 ∨ a = 269 ∨ a = 270) with rfl | rfl | rfl | rfl <;> rfl
      rw [this] at q
      cases q
    · rw [h a (by omega) (by omega)]
theorem RU.t0 {U : XS} (ru : RU U S N) : RU (T0 U) S N := by
  obtain ⟨h1, h2, h3, h4, h5⟩ := ru
  exact ⟨by rw [T0_351 (by decide)]; exact h1, by rw [T0_351 (by decide)]; exact h2, by rw [T0_351 (by decide)]; exact h3, by rw [T0_351 (by decide)]; exact h4, fun a ha => by rw [T0_ne (by omega)]; exact h5 a ha⟩
theorem pr_ask (R : RR n (pj S)) (a b : Int32) : PQ n c (fun h => f_X11_ask h 0 a b) (fun h => f_X12_ask h 351 a b) S := by
  obtain ⟨N, W⟩ := R.now
  have h6 := W.2.1
  have hl := W.2.2.2.2.2.1
  have hN := W.2.2.2.2.2.2.1
  have h26 := W.2.2.1
  obtain ⟨ns, sl, dg, G⟩ := R.songs
  have g1 := G.1
  by_cases hall : inN N a = true ∧ inN N b = true ∧ a ≠ b
  · obtain ⟨q1, q2, q3⟩ := hall
    obtain ⟨x, hx, rfl⟩ := inN_x q1 (by omega)
    obtain ⟨y, hy, rfl⟩ := inN_x q2 (by omega)
    obtain ⟨mk, S1, ⟨m1, m2⟩, a1, a2, a3⟩ := fits_pair (c := c) R W (by omega) rfl G
    obtain ⟨F, kt, T⟩ := R.td hN h6
    have cls : f_X11_ask (hp S c) 0 (nI x) (nI y) = if 0 < nI mk then f_X11_ask_b43 1048576 (hp S1 c) 0 (nI x) (nI y) (nI mk) (0 : Int32) else some ((-1 : Int32), hp S1 c) := by
      unfold f_X11_ask
      rw [k0, Option.bind_some, g0_6, Option.bind_some, has_b B30 hN h6, Option.bind_some, q1, if_neg (show ¬ bI true = 0 by decide), Option.bind_some, has_b B30 hN h6, Option.bind_some, q2, if_neg (show ¬ bI true = 0 by decide), if_neg q3, a1, Option.bind_some]
    have ref : ∀ U V : XS, U.1 351 = S.1 351 → f_X12_fits (hp (T0 U) c) 351 = some (nI mk, hp V c) → f_X12_ask (hp U c) 351 (nI x) (nI y) = if nI mk = 0 then some ((-1 : Int32), hp V c) else f_X12_ask_b48 1048576 (hp V c) 351 (nI x) (nI y) (nI mk) (-1) 0 1 := fun U V hU hV => by
      have hT : (T0 U).1 351 26 = nI N := by rw [T0_351 (by decide), hU]; exact h26
      unfold f_X12_ask
      rw [k351, Option.bind_some, T0_p, Option.bind_some, house_b hT h6, Option.bind_some, q1, if_neg (show ¬ bI true = 0 by decide), house_b hT h6, Option.bind_some, q2, if_neg (show ¬ bI true = 0 by decide), if_neg q3, hV, Option.bind_some]
    have ru : ∀ U : XS, (∀ a, 351 ≤ a → U.1 a = S.1 a) → RU (T0 U) S N := fun U hU => ⟨by rw [T0_351 (by decide), hU 351 (by decide)]; exact h26, by rw [T0_351 (by decide), hU 351 (by decide)], by rw [T0_351 (by decide), hU 351 (by decide)], by rw [T0_351 (by decide), hU 351 (by decide)], fun a ha => by rw [T0_ne (by omega), hU a (by omega)]⟩
    by_cases hmk : mk = 0
    · subst hmk
      obtain ⟨V, b1, b2⟩ := a3 (T0 S1) (ru S1 fun a ha => a2.1 a (by omega))
      refine PQ.same (v := -1) (S1 := S1) (S2 := V) R ?_ ?_ (pj_fr a2 sc40) (by rw [frS_pj b2, T0_pj, T0_pj])
      · exact cls.trans (if_neg (show ¬ (0 : Int32) < nI 0 by decide))
      · exact (ref S1 V (a2.1 351 (by omega)) b1).trans (if_pos rfl)
    · have nz : ¬ nI mk = 0 := nI_ne0 (by omega) (by omega)
      have pz : (0 : Int32) < nI mk := (nI_lt (by omega) (by omega) : nI 0 < nI mk)
      obtain ⟨S2, y1, y2, y3⟩ := c_fore_all (c := c) (mk := mk) T G (show x < 6 by omega) (show y < 6 by omega) h6 hl ns 0 1048576 S1 (by omega) (by omega) (fun z h1 h2 => a2.1 z h1) (fun z hz => by omega)
      have sel := c_sel (S := S2) (c := c) m1 9 1 1048576 5 (-1) (by decide) (by decide) (by decide) (by decide)
      have eA : ∀ t, 1 ≤ t → t < 1 + 9 → moC (fun i => S2.1 (267 + i) t) mk 4 4 = moC (wv S N kt (S.1 356 1) sl dg x y t) mk ns ns := fun t t1 t2 => by
        rw [moC_44 g1 m2]
        exact moC_cg (fun i hi => y3 i (by
          rcases Nat.lt_or_ge i ns with q | q
          · exact q
          · rw [m2 i q] at hi
            cases hi) t t1 (by omega)) ns
      rw [slA_cg 9 1 5 (-1) eA] at sel
      have U2 : ∀ a, 351 ≤ a → S2.1 a = S.1 a := fun a ha => y2 a (by omega) (by omega)
      obtain ⟨V, b1, b2⟩ := a3 (T0 S2) (ru S2 U2)
      obtain ⟨V', z1, z2⟩ := r_sel (c := c) (mk := mk) T G rfl (show x < 6 by omega) (show y < 6 by omega) h6 hl m1 m2 9 1 1048576 0 (-1) V (by decide) (by decide) (by decide) ((ru S2 U2).t0.fr b2)
      have eS : slR (fun t => moC (wv S N kt (S.1 356 1) sl dg x y t) mk ns ns) 9 1 (-1) 0 = slA (fun t => moC (wv S N kt (S.1 356 1) sl dg x y t) mk ns ns) 9 1 (-1) 5 := by
        have hle := moC_le (wv S N kt (S.1 356 1) sl dg x y 1) mk ns ns
        show (if (-1 : Int32) = -1 ∨ moC (wv S N kt (S.1 356 1) sl dg x y 1) mk ns ns < 0 then slR (fun t => moC (wv S N kt (S.1 356 1) sl dg x y t) mk ns ns) 8 (1 + 1) (nI 1) (moC (wv S N kt (S.1 356 1) sl dg x y 1) mk ns ns) else _) = if moC (wv S N kt (S.1 356 1) sl dg x y 1) mk ns ns < 5 then slA (fun t => moC (wv S N kt (S.1 356 1) sl dg x y t) mk ns ns) 8 (1 + 1) (nI 1) (moC (wv S N kt (S.1 356 1) sl dg x y 1) mk ns ns) else _
        rw [if_pos (Or.inl rfl), if_pos (by omega)]
        exact slR_A 8 (1 + 1) _ _ (by decide) (m1_ne (by decide))
      rw [eS] at z1
      refine PQ.same (v := slA (fun t => moC (wv S N kt (S.1 356 1) sl dg x y t) mk ns ns) 9 1 (-1) 5) (S1 := S2) (S2 := V') R ?_ ?_ (pj_44 y2) (by rw [frT_pj z2, frS_pj b2, T0_pj, T0_pj])
      · refine cls.trans ?_
        rw [if_pos pz]
        exact y1.trans sel
      · refine (ref S2 V (U2 351 (by decide)) b1).trans ?_
        rw [if_neg nz]
        exact z1
  · have hT : (T0 S).1 351 26 = nI N := by rw [T0_351 (by decide)]; exact h26
    refine PQ.same (S1 := S) (S2 := T0 S) (v := -1) R ?_ ?_ rfl T0_pj
    · show f_X11_ask (hp S c) 0 a b = _
      unfold f_X11_ask
      rw [k0, Option.bind_some, g0_6, Option.bind_some, has_b B30 hN h6, Option.bind_some]
      cases q1 : inN N a with
      | false => rw [if_pos (show bI false = 0 from rfl)]
      | true =>
        rw [if_neg (show ¬ bI true = 0 by decide), Option.bind_some, has_b B30 hN h6, Option.bind_some]
        cases q2 : inN N b with
        | false => rw [if_pos (show bI false = 0 from rfl)]
        | true =>
          rw [if_neg (show ¬ bI true = 0 by decide)]
          by_cases q3 : a = b
          · rw [if_pos q3]
          · exact absurd ⟨q1, q2, q3⟩ hall
    · show f_X12_ask (hp S c) 351 a b = _
      unfold f_X12_ask
      rw [k351, Option.bind_some, T0_p, Option.bind_some, house_b hT h6, Option.bind_some]
      cases q1 : inN N a with
      | false => rw [if_pos (show bI false = 0 from rfl)]
      | true =>
        rw [if_neg (show ¬ bI true = 0 by decide), house_b hT h6, Option.bind_some]
        cases q2 : inN N b with
        | false => rw [if_pos (show bI false = 0 from rfl)]
        | true =>
          rw [if_neg (show ¬ bI true = 0 by decide)]
          by_cases q3 : a = b
          · rw [if_pos q3]
          · exact absurd ⟨q1, q2, q3⟩ hall
end AS4
