/-! VILLAGES: the class reads items so -/
theorem R2' : isRd 2 := Or.inl rfl
theorem aS_tab : ∀ κ, κ < 3 → ∀ j, j < 3 → j < kcn κ → aS 1 (nI (kfi κ + j)) = some (klo κ j) ∧ aS 2 (nI (kfi κ + j)) = some (khi κ j) ∧ aS 3 (nI (kfi κ + j)) = some (kus κ j) := by decide +kernel
theorem pc_le : ∀ κ, κ < 3 → ∀ g, g < 8 → g < 2 ^ kcn κ → pc3 g ≤ kcn κ := by decide
theorem pc_step : ∀ g, g < 8 → ∀ j, j < 3 → g.testBit j = false → pc3 (g ||| 2 ^ j) = pc3 g + 1 := by decide
theorem gv_lt : ∀ κ, κ < 3 → ∀ g, g < 8 → ∀ j, j < 3 → g < 2 ^ kcn κ → j < kcn κ → g ||| 2 ^ j < 2 ^ kcn κ := by decide
theorem gv_t : ∀ κ, κ < 3 → ∀ g, g < 8 → ∀ j, j < 3 → (((shr (nI (g * 2 ^ kfi κ)) (nI (kfi κ + j))) &&& (1 : Int32) = 1) ↔ g.testBit j = true) := by decide +kernel
theorem gv_or : ∀ κ, κ < 3 → ∀ g, g < 8 → ∀ j, j < 3 → nI (g * 2 ^ kfi κ) ||| shl (1 : Int32) (nI (kfi κ + j)) = nI ((g ||| 2 ^ j) * 2 ^ kfi κ) := by decide +kernel
theorem k8 {κ : Nat} (hκ : κ < 3) : kfi κ + kcn κ ≤ 8 := by
  rcases (by omega : κ = 0 ∨ κ = 1 ∨ κ = 2) with rfl | rfl | rfl <;> decide
theorem p8 {κ : Nat} : 2 ^ kcn κ ≤ 8 := by
  have := (kcn_le (κ := κ)).1
  exact Nat.pow_le_pow_right (n := 2) (by decide) this
theorem X9_itemOf {h : xa_H} {s : Int32} {κ : Nat} (hκ : κ < 3) : f_X9_itemOf h s (nI (kfi κ)) (nI (kfi κ + kcn κ)) = some (match fi κ s with | none => -1 | some j => nI (kfi κ + j)) := by
  have h8 := k8 hκ
  have l0 : f_X9_itemOf_b2 1048576 h s (nI (kfi κ + kcn κ)) (nI (kfi κ)) = fst (fun k => decide ((xs_tab.getD 1 []).getD k 0 = s)) (fun k => some (nI k)) (some (-1)) (kcn κ) (kfi κ) := by
    refine lpx (N := kfi κ + kcn κ) (fun n k => f_X9_itemOf_b2 n h s (nI (kfi κ + kcn κ)) (nI k)) (fun n => ?_) (fun n k hk => ?_) (kcn κ) (kfi κ) 1048576 rfl (by omega)
    · show f_X9_itemOf_b2 (n + 1) h s (nI (kfi κ + kcn κ)) (nI (kfi κ + kcn κ)) = _
      rw [f_X9_itemOf_b2, if_pos (nI_le (Nat.le_refl _) (by omega))]
    · show f_X9_itemOf_b2 (n + 1) h s (nI (kfi κ + kcn κ)) (nI k) = _
      have hs : sAt (1000000010 + 1) (nI k) = some ((xs_tab.getD 1 []).getD k 0) := by
        rcases (by omega : k = 0 ∨ k = 1 ∨ k = 2 ∨ k = 3 ∨ k = 4 ∨ k = 5 ∨ k = 6 ∨ k = 7) with rfl | rfl | rfl | rfl | rfl | rfl | rfl | rfl <;> decide +kernel
      rw [f_X9_itemOf_b2, if_neg (nI_ge (by omega) (by omega)), show sLen (1000000010 + 1) = some (nI 8) by decide +kernel, Option.bind_some, if_neg (nI_ge (by omega) (by omega)), hs, Option.bind_some, nI_1]
      by_cases e : (xs_tab.getD 1 []).getD k 0 = s
      · rw [if_pos e, decide_eq_true e]
        rfl
      · rw [if_neg e, decide_eq_false e]
        rfl
  unfold f_X9_itemOf
  refine l0.trans ?_
  have d : ∀ (k : Int32), (decide (k = s) = true) ↔ (s = k) := fun k => by
    rw [decide_eq_true_eq]
    exact eq_comm
  unfold fi
  rcases (by omega : κ = 0 ∨ κ = 1 ∨ κ = 2) with rfl | rfl | rfl
  · show (if decide ((99 : Int32) = s) = true then some (nI 0) else if decide ((109 : Int32) = s) = true then some (nI 1) else some (-1)) = some (match (if s = (99 : Int32) then some 0 else if s = (109 : Int32) then some 1 else if (0 : Nat) ≠ 0 ∧ s = kch 0 2 then some 2 else none) with | none => -1 | some j => nI (0 + j))
    rw [if_neg (c := (0 : Nat) ≠ 0 ∧ s = kch 0 2) (fun z => z.1 rfl)]
    simp only [d]
    split
    · rfl
    · split <;> rfl
  · show (if decide ((119 : Int32) = s) = true then some (nI 2) else if decide ((116 : Int32) = s) = true then some (nI 3) else if decide ((107 : Int32) = s) = true then some (nI 4) else some (-1)) = some (match (if s = (119 : Int32) then some 0 else if s = (116 : Int32) then some 1 else if (1 : Nat) ≠ 0 ∧ s = (107 : Int32) then some 2 else none) with | none => -1 | some j => nI (2 + j))
    simp only [d]
    by_cases c1 : s = 119
    · rw [if_pos c1, if_pos c1]
    · rw [if_neg c1, if_neg c1]
      by_cases c2 : s = 116
      · rw [if_pos c2, if_pos c2]
      · rw [if_neg c2, if_neg c2]
        by_cases c3 : s = 107
        · rw [if_pos c3, if_pos ⟨by decide, c3⟩]
        · rw [if_neg c3, if_neg (fun z => c3 z.2)]
  · show (if decide ((97 : Int32) = s) = true then some (nI 5) else if decide ((98 : Int32) = s) = true then some (nI 6) else if decide ((110 : Int32) = s) = true then some (nI 7) else some (-1)) = some (match (if s = (97 : Int32) then some 0 else if s = (98 : Int32) then some 1 else if (2 : Nat) ≠ 0 ∧ s = (110 : Int32) then some 2 else none) with | none => -1 | some j => nI (5 + j))
    simp only [d]
    by_cases c1 : s = 97
    · rw [if_pos c1, if_pos c1]
    · rw [if_neg c1, if_neg c1]
      by_cases c2 : s = 98
      · rw [if_pos c2, if_pos c2]
      · rw [if_neg c2, if_neg c2]
        by_cases c3 : s = 110
        · rw [if_pos c3, if_pos ⟨by decide, c3⟩]
        · rw [if_neg c3, if_neg (fun z => c3 z.2)]
section V2
variable {S : XS} {c : Nat × Nat} {T : Nat → Int32} {L p : Nat}
theorem r2_p2 {q : Nat} {b : Bool} : xp [9] 2 (hp (rdS S 2 p b) c) 2 (.int (nI q)) = some (hp (rdS S 2 q b) c) := by
  rw [p2_2, rdS_put2]
theorem r2_p3 {b : Bool} : xp [9] 3 (hp (rdS S 2 p b) c) 2 (.int 1) = some (hp (rdS S 2 p true) c) := by
  rw [p2_3, rdS_put3']
theorem r2_g2 {b : Bool} : gI [9] 2 (hp (rdS S 2 p b) c) 2 = some (nI p) := by
  rw [g2_2, rdS_at]
theorem X9_nb {κ j : Nat} (X : Tx S 2 T L) (hκ : κ < 3) (hj : j < kcn κ) (hp' : p ≤ L) : ∃ w, ((f_X4_number (hp (rdS S 2 p false) c) 2 (2 : Int32)).bind fun q12 => f_X9_bounded q12.2 2 q12.1 (nI (kfi κ + j))) = some (w, hp (match nmB T L (klo κ j) (khi κ j) p with | .inl f => rdS S 2 f true | .inr q => rdS S 2 q.2 false) c) ∧ inI (klo κ j) (khi κ j) w ∧ ∀ q, nmB T L (klo κ j) (khi κ j) p = .inr q → w = q.1 := by
  have hL := X.1
  have j3 : j < 3 := by have := (kcn_le (κ := κ)).1; omega
  obtain ⟨a1, a2, a3⟩ := aS_tab κ hκ j j3 hj
  have hu := kus_in κ hκ j j3
  obtain ⟨v, h1, h2⟩ := rd_number (c := c) R2' X (M := 2) (by decide) hp'
  have h1' : f_X4_number (hp (rdS S 2 p false) c) 2 2 = _ := h1
  rw [h1', Option.bind_some]
  unfold f_X9_bounded f_X9_bounded_b25 f_X9_bounded_b40 nmB
  cases hn : nmF T L 2 p with
  | inl f =>
    refine ⟨kus κ j, ?_, hu, fun q z => by cases z⟩
    dsimp only
    rw [k2, Option.bind_some, g2_3, Option.bind_some, rdS_br, if_neg (show ¬ bI true = 0 by decide), Option.bind_some, if_neg (show ¬ bI true = 0 by decide), a3, Option.bind_some]
  | inr vq =>
    obtain ⟨v', q⟩ := vq
    have hv : v = v' := h2 _ hn
    subst hv
    have hq := nmF_2 (f := 0) hp' hn
    dsimp only
    rw [k2, Option.bind_some, g2_3, Option.bind_some, rdS_br, if_pos bI_f, a1, Option.bind_some]
    have out : ((gI [9] 2 (hp (rdS S 2 q false) c) 2).bind fun x1 => (xp [9] 2 (hp (rdS S 2 q false) c) 2 (.int (x1 - (1 : Int32)))).bind fun h2 => (xp [9] 3 h2 2 (.int (1 : Int32))).bind fun h3 => (gI [9] 3 h3 2).bind fun x1 => if x1 = 0 then some (v, h3) else (aS 3 (nI (kfi κ + j))).bind fun x3 => some (x3, h3)) = some (kus κ j, hp (rdS S 2 (q - 1) true) c) := by
      rw [r2_g2, Option.bind_some, show q = (q - 1) + 1 by omega, sub1, Nat.add_sub_cancel, r2_p2, Option.bind_some, r2_p3, Option.bind_some, g2_3, Option.bind_some, rdS_br, if_neg (show ¬ bI true = 0 by decide), a3, Option.bind_some]
    by_cases e1 : v < klo κ j
    · refine ⟨kus κ j, ?_, hu, fun q z => ?_⟩
      · rw [if_pos e1, if_pos (Or.inl e1)]
        exact out
      · rw [if_pos (Or.inl e1)] at z
        cases z
    · rw [if_neg e1, a2, Option.bind_some]
      by_cases e2 : khi κ j < v
      · refine ⟨kus κ j, ?_, hu, fun q z => ?_⟩
        · rw [if_neg (Int32.not_le.mpr e2), if_pos (Or.inr e2)]
          exact out
        · rw [if_pos (Or.inr e2)] at z
          cases z
      · refine ⟨v, ?_, fun z => z.elim e1 e2, fun q z => ?_⟩
        · rw [if_pos (Int32.not_lt.mp e2), if_neg (fun z => z.elim e1 e2), Option.bind_some, if_pos bI_f]
        · rw [if_neg (fun z => z.elim e1 e2)] at z
          cases z
          rfl
/-- how the items leave the reading -/
def itR (S : XS) (c : Nat × Nat) (T : Nat → Int32) (L κ : Nat) (o : Option xa_H) (r : Nat ⊕ ((Nat → Int32) × Nat)) : Prop :=
  ∃ (F : Nat → Int32) (q : Nat) (b : Bool), o = some (hp (rdS (wA S 9 F) 2 q b) c) ∧ kIn κ (fun j => F (kfi κ + j)) ∧ (∀ f, r = .inl f → q = f ∧ b = true) ∧ ∀ v q', r = .inr (v, q') → q = q' ∧ b = !(decide (pk T L q' = 59) || decide (pk T L q' = -1)) ∧ ∀ j, j < kcn κ → F (kfi κ + j) = v j
theorem Tx.w9 (X : Tx S 2 T L) {F : Nat → Int32} (h9 : S.2.2 2 ≠ 9) : Tx (wA S 9 F) 2 T L := by
  obtain ⟨h1, h2, n, h3, h4, h5, h6, h7⟩ := X
  refine ⟨h1, ?_, n, h3, h4, h5, h6, fun k hk => ?_⟩
  · rw [wA_ne (by decide)]
    exact h2
  · show (wA S 9 F).1 (S.2.2 2) k = T k
    rw [wA_ne h9]
    exact h7 k hk
theorem rdS_w9 {F : Nat → Int32} {b : Bool} : wA (rdS S 2 p b) 9 F = rdS (wA S 9 F) 2 p b := by
  unfold rdS
  rw [wA_comm (by decide), wA_ne (show (2 : Nat) ≠ 9 by decide)]
theorem X9_items_loop {κ : Nat} (X : Tx S 2 T L) (h9 : S.2.2 2 ≠ 9) (hκ : κ < 3) : ∀ (m i g n p : Nat) (vs F : Nat → Int32), m + i = kcn κ + 1 → pc3 g = i → g < 2 ^ kcn κ → (∀ j, j < kcn κ → F (kfi κ + j) = vs j) → kIn κ vs → p ≤ L → m < n → itR S c T L κ (f_X9_items_b39 n (hp (rdS (wA S 9 F) 2 p false) c) 2 (nI (kfi κ)) (nI (kfi κ + kcn κ)) (nI (g * 2 ^ kfi κ)) (nI (kfi κ + i))) (spIt T L κ m g vs p)
  | 0, i, g, n, p, vs, F, hm, hg, hlt, hF, hv, hp', hn => by
    have := pc_le κ hκ g (by have := p8 (κ := κ); omega) hlt
    omega
  | m + 1, i, g, 0, p, vs, F, hm, hg, hlt, hF, hv, hp', hn => by omega
  | m + 1, i, g, n + 1, p, vs, F, hm, hg, hlt, hF, hv, hp', hn => by
    have hL := X.1
    have h8 := k8 hκ
    have g8 : g < 8 := by have := p8 (κ := κ); omega
    have XF := X.w9 (F := F) h9
    have kF : kIn κ (fun j => F (kfi κ + j)) := fun j hj => by
      show inI _ _ (F (kfi κ + j))
      rw [hF j hj]
      exact hv j hj
    unfold spIt
    rw [f_X9_items_b39, if_neg (nI_nlt (by omega) (by omega)), k2, Option.bind_some, rd_peek R2' XF hp', Option.bind_some]
    by_cases e1 : pk T L p = 59
    · have hfi : fi κ (pk T L p) = none := by
        cases hf : fi κ (pk T L p) with
        | none => rfl
        | some j => exact absurd e1 (fi_ne hκ hf).2
      rw [if_pos e1, hfi]
      refine ⟨F, _, _, rfl, kF, fun f z => (by cases z), fun v q' z => ?_⟩
      cases z
      exact ⟨rfl, by rw [pk_sk, decide_eq_true e1]; rfl, hF⟩
    · rw [if_neg e1]
      by_cases e2 : pk T L p = -1
      · have hfi : fi κ (pk T L p) = none := by
          cases hf : fi κ (pk T L p) with
          | none => rfl
          | some j => exact absurd e2 (fi_ne hκ hf).1
        rw [if_pos e2, hfi]
        refine ⟨F, _, _, rfl, kF, fun f z => (by cases z), fun v q' z => ?_⟩
        cases z
        exact ⟨rfl, by rw [pk_sk, decide_eq_true e2, Bool.or_true]; rfl, hF⟩
      · rw [if_neg e2, X9_itemOf hκ, Option.bind_some]
        unfold f_X9_items_b90
        cases hf : fi κ (pk T L p) with
        | none =>
          dsimp only
          rw [if_pos rfl, r2_p3, Option.bind_some]
          refine ⟨F, _, _, rfl, kF, fun f z => (by cases z), fun v q' z => ?_⟩
          cases z
          exact ⟨rfl, by rw [pk_sk, decide_eq_false e1, decide_eq_false e2]; rfl, hF⟩
        | some j =>
          have hj := (fi_lt hf).1
          have j3 : j < 3 := by have := (kcn_le (κ := κ)).1; omega
          have h1 := pk_sk1 (T := T) (L := L) (p := p) (fi_ne hκ hf).1
          dsimp only
          rw [if_neg (m1_ne (by omega))]
          by_cases eb : g.testBit j = true
          · rw [if_pos ((gv_t κ hκ g g8 j j3).mpr eb), r2_p3, Option.bind_some, if_pos eb]
            refine ⟨F, _, _, rfl, kF, fun f z => ?_, fun v q' z => by cases z⟩
            cases z
            exact ⟨rfl, rfl⟩
          · rw [if_neg (fun z => eb ((gv_t κ hκ g g8 j j3).mp z)), if_neg eb, r2_g2, Option.bind_some, nI_1, r2_p2, Option.bind_some, g2_5, Option.bind_some, k2, Option.bind_some]
            obtain ⟨w, hw, hwi, hwq⟩ := X9_nb (c := c) XF hκ hj h1.1
            obtain ⟨n12, hn12, hb12⟩ := ob hw
            rw [hn12, Option.bind_some, hb12, Option.bind_some]
            cases hm' : nmB T L (klo κ j) (khi κ j) (sk T L p + 1) with
            | inl f =>
              dsimp only
              rw [q9 (by omega), Option.bind_some, rdS_w9, rdS_ne (show (9 : Nat) ≠ 2 by decide), wA_same, wA_wA, gv_or κ hκ g g8 j j3, nI_1]
              obtain ⟨n, rfl⟩ : ∃ q, n = q + 1 := ⟨n - 1, by omega⟩
              have stop : f_X9_items_b39 (n + 1) (hp (rdS (wA S 9 (upd F (kfi κ + j) w)) 2 f true) c) 2 (nI (kfi κ)) (nI (kfi κ + kcn κ)) (nI ((g ||| 2 ^ j) * 2 ^ kfi κ)) (nI (kfi κ + i + 1)) = some (hp (rdS (wA S 9 (upd F (kfi κ + j) w)) 2 f true) c) := by
                rw [f_X9_items_b39]
                split
                · rfl
                · rw [k2, Option.bind_some, rd_peek_br R2', Option.bind_some, if_neg (show ¬ (-1 : Int32) = 59 by decide), if_pos rfl]
              refine ⟨_, _, _, stop, fun i hi => ?_, fun f z => ?_, fun v q' z => by cases z⟩
              · show inI _ _ (upd F (kfi κ + j) w (kfi κ + i))
                unfold upd
                by_cases z : i = j
                · rw [if_pos (by omega), z]
                  exact hwi
                · rw [if_neg (by omega)]
                  exact kF i hi
              · cases z
                exact ⟨rfl, rfl⟩
            | inr vq =>
              obtain ⟨v, q⟩ := vq
              have hwv : w = v := hwq _ hm'
              subst hwv
              have hq := (nmB_mono (T := T) (L := L) (lo := klo κ j) (hi := khi κ j) h1.1).2 w q hm'
              dsimp only
              rw [q9 (by omega), Option.bind_some, rdS_w9, rdS_ne (show (9 : Nat) ≠ 2 by decide), wA_same, wA_wA, gv_or κ hκ g g8 j j3, nI_1]
              exact X9_items_loop X h9 hκ m (i + 1) (g ||| 2 ^ j) n q (upd vs j w) (upd F (kfi κ + j) w) (by omega) (by rw [pc_step g g8 j j3 ((Bool.not_eq_true _).mp eb), hg]) (gv_lt κ hκ g g8 j j3 hlt hj) (fun i hi => by
                unfold upd
                by_cases z : i = j
                · rw [if_pos (by omega), if_pos z]
                · rw [if_neg (by omega), if_neg z]
                  exact hF i hi) (fun i hi => by
                unfold upd
                by_cases z : i = j
                · rw [if_pos z, z]
                  exact hwi
                · rw [if_neg z]
                  exact hv i hi) hq.2.1 (by omega)
theorem X9_items {κ : Nat} (X : Tx S 2 T L) (h9 : S.2.2 2 ≠ 9) (hκ : κ < 3) (hp' : p + 1 ≤ L) : itR S c T L κ (f_X9_items (hp (rdS S 2 p false) c) 2 (nI (kfi κ)) (nI (kfi κ + kcn κ))) (spIt T L κ (kcn κ + 1) 0 (kus κ) (p + 1)) := by
  have h8 := k8 hκ
  have hL := X.1
  unfold f_X9_items
  rw [k2, Option.bind_some, r2_g2, Option.bind_some, nI_1, r2_p2, Option.bind_some]
  have l0 : ∀ (m i n : Nat) (F : Nat → Int32), i + m = kcn κ → m < n → (∀ j, j < i → F (kfi κ + j) = kus κ j) → ∃ F', f_X9_items_b12 n (hp (rdS (wA S 9 F) 2 (p + 1) false) c) 2 (nI (kfi κ)) (nI (kfi κ + kcn κ)) (nI (kfi κ + i)) = f_X9_items_b39 1048576 (hp (rdS (wA S 9 F') 2 (p + 1) false) c) 2 (nI (kfi κ)) (nI (kfi κ + kcn κ)) 0 (nI (kfi κ)) ∧ ∀ j, j < kcn κ → F' (kfi κ + j) = kus κ j := by
    intro m
    induction m with
    | zero =>
      intro i n F hi hn hF
      obtain ⟨n, rfl⟩ : ∃ q, n = q + 1 := ⟨n - 1, by omega⟩
      refine ⟨F, ?_, fun j hj => hF j (by omega)⟩
      rw [f_X9_items_b12, if_pos (nI_le (by omega) (by omega))]
    | succ m ih =>
      intro i n F hi hn hF
      obtain ⟨n, rfl⟩ : ∃ q, n = q + 1 := ⟨n - 1, by omega⟩
      have i3 : i < 3 := by have := (kcn_le (κ := κ)).1; omega
      rw [f_X9_items_b12, if_neg (nI_ge (by omega) (by omega)), g2_5, Option.bind_some, (aS_tab κ hκ i i3 (by omega)).2.2, Option.bind_some, q9 (by omega), Option.bind_some, rdS_w9, rdS_ne (show (9 : Nat) ≠ 2 by decide), wA_same, wA_wA, nI_1]
      refine ih (i + 1) n _ (by omega) (by omega) (fun j hj => ?_)
      unfold upd
      by_cases z : j = i
      · rw [if_pos (by omega), z]
      · rw [if_neg (by omega)]
        exact hF j (by omega)
  obtain ⟨F', e1, e2⟩ := l0 (kcn κ) 0 1048576 (S.1 9) (by omega) (by omega) (fun j hj => by omega)
  rw [wA_self] at e1
  have e1' : f_X9_items_b12 1048576 (hp (rdS S 2 (p + 1) false) c) 2 (nI (kfi κ)) (nI (kfi κ + kcn κ)) (nI (kfi κ)) = _ := e1
  rw [e1']
  have := X9_items_loop (c := c) X h9 hκ (kcn κ + 1) 0 0 1048576 (p + 1) (kus κ) F' (by omega) (by decide) (Nat.two_pow_pos _) e2 (kusIn hκ) hp' (by omega)
  rw [Nat.zero_mul] at this
  exact this
end V2
