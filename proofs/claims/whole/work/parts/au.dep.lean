/-! A LAW looks at six letters only -/
def dp (v : PV) : Prop := ∀ l l' : Nat → Int32, (∀ j, j < 6 → l j = l' j) → v l = v l'
def dpR (r : PR) : Prop := ∀ v q, r = .inr (v, q) → dp v
section DPS
variable {T : Nat → Int32} {L : Nat}
theorem dp_c {x : Int32} : dp (fun _ => x) := fun _ _ _ => rfl
theorem dpR_l {f : Nat} : dpR (.inl f) := fun v q z => by cases z
theorem dpR_r {v : PV} {q : Nat} (h : dp v) : dpR (.inr (v, q)) := fun w p z => by
  cases z
  exact h
theorem pRow_dp {it : Nat → PR} {s1 s2 : Int32} (M : ∀ p, dpR (it p)) : ∀ (m : Nat) (v : PV) (p : Nat), dp v → dpR (pRow T L it s1 s2 m v p)
  | 0, v, p, h => dpR_r h
  | m + 1, v, p, h => by
    unfold pRow
    by_cases c1 : pk T L p = s1 ∨ pk T L p = s2
    · rw [if_pos c1]
      cases hi : it (sk T L p + 1) with
      | inl f => exact dpR_l
      | inr wq =>
        obtain ⟨w, q⟩ := wq
        have hw := M _ w q hi
        exact pRow_dp M m _ q (fun l l' e => by rw [h l l' e, hw l l' e])
    · rw [if_neg c1]
      exact dpR_r h
theorem pSeq_dp {it : Nat → PR} {s1 s2 : Int32} (M : ∀ p, dpR (it p)) (p : Nat) : dpR (pSeq T L it s1 s2 p) := by
  unfold pSeq
  cases hi : it p with
  | inl f => exact dpR_l
  | inr wq =>
    obtain ⟨w, q⟩ := wq
    exact pRow_dp M _ w q (M _ w q hi)
theorem pClose_dp {r : PR} {ch : Int32} (h : dpR r) : dpR (pClose T L r ch) := by
  unfold pClose
  cases hr : r with
  | inl f => exact dpR_l
  | inr wq =>
    obtain ⟨w, q⟩ := wq
    dsimp only
    split
    · exact dpR_r (h w q hr)
    · exact dpR_l
theorem lti_6 {s : Int32} {j : Nat} (h : lti s = some j) : j < 6 := by
  unfold lti at h
  repeat' (split at h)
  all_goals first | (cases h; decide) | (cases h)
theorem pAt_dp {inn : Option (Nat → PR)} (M : ∀ it, inn = some it → ∀ p, dpR (it p)) (p : Nat) : dpR (pAt T L inn p) := by
  unfold pAt
  by_cases c1 : pk T L p = 91
  · rw [if_pos c1]
    cases hi : inn with
    | none => exact dpR_l
    | some it => exact pClose_dp (M it hi _)
  · rw [if_neg c1]
    cases hl : lti (pk T L p) with
    | some j => exact dpR_r fun l l' e => e j (lti_6 hl)
    | none =>
      dsimp only
      cases nmF T L 4 p with
      | inl f => exact dpR_l
      | inr vq => exact dpR_r dp_c
theorem pSmG_dp {a : Nat → PR} (M : ∀ p, dpR (a p)) (p : Nat) : dpR (pSmG T L a p) := pSeq_dp (fun p => pSeq_dp M p) p
theorem pSm_dp : ∀ (k p : Nat), dpR (pSm T L k p)
  | 0, p => pSmG_dp (fun p => pAt_dp (fun it z => by cases z) p) p
  | k + 1, p => pSmG_dp (fun p => pAt_dp (fun it z => by cases z; exact pSm_dp k) p) p
theorem pCm_dp {k : Nat} {v : PV} {p : Nat} (h : dp v) : dpR (pCm T L k v p) := by
  unfold pCm
  split
  · cases hs : pSm T L k (sk T L p + 1) with
    | inl f => exact dpR_l
    | inr wq =>
      obtain ⟨w, q⟩ := wq
      have hw := pSm_dp k _ w q hs
      exact dpR_r fun l l' e => by rw [h l l' e, hw l l' e]
  · exact dpR_l
theorem pUnF_dp {k : Nat} {inn : Option ((Nat → PR) × (Nat → PR))} (M : ∀ it, inn = some it → (∀ p, dpR (it.1 p)) ∧ ∀ p, dpR (it.2 p)) (p : Nat) : dpR (pUnF T L k inn p) := by
  unfold pUnF
  by_cases c1 : pk T L p = 33
  · rw [if_pos c1]
    cases hi : inn with
    | none => exact dpR_l
    | some it =>
      dsimp only
      cases hs : it.1 (sk T L p + 1) with
      | inl f => exact dpR_l
      | inr wq =>
        obtain ⟨w, q⟩ := wq
        have hw := (M it hi).1 _ w q hs
        exact dpR_r fun l l' e => by rw [hw l l' e]
  · rw [if_neg c1]
    by_cases c2 : pk T L p = 40
    · rw [if_pos c2]
      cases hi : inn with
      | none => exact dpR_l
      | some it => exact pClose_dp ((M it hi).2 _)
    · rw [if_neg c2]
      cases hs : pSm T L k (sk T L p) with
      | inl f => exact dpR_l
      | inr wq =>
        obtain ⟨w, q⟩ := wq
        exact pCm_dp (pSm_dp k _ w q hs)
theorem pCoG_dp {u : Nat → PR} (M : ∀ p, dpR (u p)) (p : Nat) : dpR (pCoG T L u p) := pSeq_dp (fun p => pSeq_dp M p) p
theorem pUn_dp : ∀ (k p : Nat), dpR (pUn T L k p)
  | 0, p => pUnF_dp (fun it z => by cases z) p
  | k + 1, p => pUnF_dp (fun it z => by cases z; exact ⟨pUn_dp k, pCoG_dp (pUn_dp k)⟩) p
theorem pCoV_dp {v : PV} {p : Nat} (h : dp v) : dpR (pCoV T L v p) := by
  unfold pCoV
  cases hs : pCm T L 6 v p with
  | inl f => exact dpR_l
  | inr wq =>
    obtain ⟨w, q⟩ := wq
    have hw := pCm_dp h w q hs
    dsimp only
    cases hr : pRow T L (pUn T L 6) 38 38 (L + 1) w q with
    | inl f => exact dpR_l
    | inr w2 =>
      obtain ⟨w2, q2⟩ := w2
      exact pRow_dp (fun p => pSeq_dp (pUn_dp 6) p) _ w2 q2 (pRow_dp (pUn_dp 6) _ w q hw w2 q2 hr)
end DPS
