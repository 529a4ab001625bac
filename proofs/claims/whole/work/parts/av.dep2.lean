/-! A LAW looks at six letters only: clauses -/
section DPT
variable {T : Nat → Int32} {L : Nat}
theorem pCl_dp {p : Nat} {h v : PV} {q : Nat} (e : pCl T L p = .inr (h, v, q)) : dp h ∧ dp v := by
  unfold pCl at e
  by_cases c1 : pk T L p = 121
  · rw [if_pos c1] at e
    by_cases c2 : pk T L (sk T L p + 1) = 58
    · rw [if_pos c2] at e
      dsimp only at e
      by_cases c3 : pk T L (sk T L (sk T L p + 1) + 1) = 33 ∨ pk T L (sk T L (sk T L p + 1) + 1) = 40
      · rw [if_pos c3] at e
        cases h1 : pCo T L 6 (sk T L (sk T L (sk T L p + 1) + 1)) with
        | inl f =>
          rw [h1] at e
          cases e
        | inr wq =>
          obtain ⟨w, q1⟩ := wq
          rw [h1] at e
          dsimp only at e
          have hw := pCoG_dp (pUn_dp 6) _ w q1 h1
          by_cases c4 : pk T L q1 = 63
          · rw [if_pos c4] at e
            cases h2 : pSm T L 6 (sk T L q1 + 1) with
            | inl f =>
              rw [h2] at e
              cases e
            | inr uq =>
              obtain ⟨u, q2⟩ := uq
              rw [h2] at e
              have hu := pSm_dp 6 _ u q2 h2
              cases e
              exact ⟨hw, hu⟩
          · rw [if_neg c4] at e
            cases e
      · rw [if_neg c3] at e
        cases h1 : pSm T L 6 (sk T L (sk T L (sk T L p + 1) + 1)) with
        | inl f =>
          rw [h1] at e
          cases e
        | inr wq =>
          obtain ⟨w, q1⟩ := wq
          rw [h1] at e
          dsimp only at e
          have hw := pSm_dp 6 _ w q1 h1
          by_cases c4 : isCm (pk T L q1) = true
          · rw [if_pos c4] at e
            cases h2 : pCoV T L w (sk T L q1) with
            | inl f =>
              rw [h2] at e
              cases e
            | inr uq =>
              obtain ⟨u, q2⟩ := uq
              rw [h2] at e
              dsimp only at e
              have hu := pCoV_dp hw u q2 h2
              by_cases c5 : pk T L q2 = 63
              · rw [if_pos c5] at e
                cases h3 : pSm T L 6 (sk T L q2 + 1) with
                | inl f =>
                  rw [h3] at e
                  cases e
                | inr xq =>
                  obtain ⟨x, q3⟩ := xq
                  rw [h3] at e
                  have hx := pSm_dp 6 _ x q3 h3
                  cases e
                  exact ⟨hu, hx⟩
              · rw [if_neg c5] at e
                cases e
          · rw [if_neg c4] at e
            cases e
            exact ⟨dp_c, hw⟩
    · rw [if_neg c2] at e
      cases e
  · rw [if_neg c1] at e
    cases e
def dpF (g : PF) : Prop := ∀ l l' : Nat → Int32, (∀ j, j < 6 → l j = l' j) → g l = g l'
theorem fnd_dp {g : PF} {h v : PV} (hg : dpF g) (hh : dp h) (hv : dp v) : dpF (fnd g h v) := fun l l' e => by
  unfold fnd
  rw [hg l l' e, hh l l' e, hv l l' e]
theorem pLw_dp : ∀ (m : Nat) (g : PF) (p : Nat) (r : PF), dpF g → pLw T L m g p = .inr r → dpF r
  | 0, g, p, r, hg, e => by cases e
  | m + 1, g, p, r, hg, e => by
    unfold pLw at e
    cases h1 : pCl T L p with
    | inl f =>
      rw [h1] at e
      cases e
    | inr hvq =>
      obtain ⟨h, v, q⟩ := hvq
      rw [h1] at e
      dsimp only at e
      have hd := pCl_dp h1
      have hf := fnd_dp hg hd.1 hd.2
      by_cases c1 : pk T L q = 59
      · rw [if_pos c1] at e
        exact pLw_dp m _ _ r hf e
      · rw [if_neg c1] at e
        by_cases c2 : pk T L q = -1
        · rw [if_pos c2] at e
          cases e
          exact hf
        · rw [if_neg c2] at e
          cases e
theorem pLaw_dp {g : PF} (e : pLaw T L = .inr g) : dpF g := pLw_dp _ _ _ g (fun _ _ _ => rfl) e
end DPT
