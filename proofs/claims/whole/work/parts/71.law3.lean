/-! LAWS: the class reads clauses and whole laws so -/
def fw5 (S : XS) (g w : Int32) : XS := wA S 10 (upd (upd (S.1 10) 6 g) 5 w)
section L3
variable {S : XS} {c : Nat × Nat} {T : Nat → Int32} {L p : Nat}
theorem fw5_self : fw5 S (S.1 10 6) (S.1 10 5) = S := by
  unfold fw5
  rw [upd_self, upd_self, wA_self]
theorem fw5_12 {g w : Int32} : (fw5 S g w).1 12 = S.1 12 := wA_ne (by decide)
theorem fw5_rd {g w : Int32} {b : Bool} : wA (wA (rdS S 10 p b) 10 (upd ((rdS S 10 p b).1 10) 6 g)) 10 (upd ((wA (rdS S 10 p b) 10 (upd ((rdS S 10 p b).1 10) 6 g)).1 10) 5 w) = rdS (fw5 S g w) 10 p b := by
  rw [rdS_put (by decide) (by decide), rdS_put (by decide) (by decide), wA_wA, wA_same]
  rfl
theorem Tx.fw (X : Tx S 10 T L) {g w : Int32} : Tx (fw5 S g w) 10 T L := by
  obtain ⟨h1, h2, n, h3, h4, h5, h6, h7⟩ := X
  refine ⟨h1, ?_, n, h3, h4, h5, h6, fun k hk => ?_⟩
  · unfold fw5
    rw [wA_same, upd_ne (by decide), upd_ne (by decide)]
    exact h2
  · show (fw5 S g w).1 (S.2.2 10) k = T k
    unfold fw5
    rw [wA_ne h6]
    exact h7 k hk
/-- what a clause leaves -/
def fnS (S : XS) (h v : Int32) : XS := if h = 1 ∧ S.1 10 6 = 0 then fw5 S 1 v else S
theorem fnS_fw {h v : Int32} : ∃ g w, fnS S h v = fw5 S g w := by
  unfold fnS
  split
  · exact ⟨_, _, rfl⟩
  · exact ⟨_, _, fw5_self.symm⟩
theorem X2_b113 {h v : Int32} {b : Bool} : f_X2_clause_b113 (hp (rdS S 10 p b) c) 10 h v = some (hp (rdS (fnS S h v) 10 p b) c) := by
  unfold f_X2_clause_b113 fnS
  by_cases e : h = 1
  · rw [if_pos e, g10_6, Option.bind_some, rdS_k (by decide) (by decide)]
    by_cases e2 : S.1 10 6 = 0
    · rw [if_pos e2, p10_6, Option.bind_some, p10_5, Option.bind_some, if_pos ⟨e, e2⟩, fw5_rd]
    · rw [if_neg e2, if_neg (fun z => e2 z.2)]
  · rw [if_neg e, if_neg (fun z => e z.1)]
theorem X2_part3_br (X : Tx S 10 T L) : ∃ v, f_X2_part 120 (hp (rdS S 10 p true) c) 10 3 0 = some (v, hp (rdS S 10 p true) c) := (X2_sum_ok (c := c) X 6 0 rfl 120 (by decide)).2 p
theorem X2_b95_br (X : Tx S 10 T L) {h v s : Int32} : ∃ g w, f_X2_clause_b95 (hp (rdS S 10 p true) c) 10 h v s = some (hp (rdS (fw5 S g w) 10 p true) c) := by
  unfold f_X2_clause_b95
  by_cases e : s = 0
  · rw [if_pos e, X2_b113]
    obtain ⟨g, w, hg⟩ := fnS_fw (S := S) (h := h) (v := v)
    exact ⟨g, w, by rw [hg]⟩
  · obtain ⟨u, hu⟩ := X2_part3_br (c := c) (p := p) X
    rw [if_neg e, k10, Option.bind_some, rd_need_br R10 (by decide), Option.bind_some, hu, Option.bind_some, X2_b113]
    obtain ⟨g, w, hg⟩ := fnS_fw (S := S) (h := h) (v := u)
    exact ⟨g, w, by rw [hg]⟩
theorem X2_b38_br (X : Tx S 10 T L) {h v : Int32} : ∃ g w, f_X2_clause_b38 (hp (rdS S 10 p true) c) 10 h v 0 = some (hp (rdS (fw5 S g w) 10 p true) c) := by
  obtain ⟨u, hu⟩ := X2_part3_br (c := c) (p := p) X
  unfold f_X2_clause_b38
  rw [if_pos rfl, hu, Option.bind_some, k10, Option.bind_some, rd_peek_br R10, Option.bind_some, X2_isCm, Option.bind_some, if_pos (show bI (isCm (-1)) = 0 by decide)]
  exact X2_b95_br X
/-- behind the condition: ? and the sum -/
theorem X2_b95_ok (X : Tx S 10 T L) (hp' : p ≤ L) {h : PV} {v s : Int32} (hs : s ≠ 0) : (∀ f, (if pk T L p = 63 then (match pSm T L 6 (sk T L p + 1) with | .inl f => .inl f | .inr (v, q2) => .inr (h, v, q2)) else .inl (sk T L p) : Nat ⊕ (PV × PV × Nat)) = .inl f → ∃ g w, f_X2_clause_b95 (hp (rdS S 10 p false) c) 10 (h (S.1 12)) v s = some (hp (rdS (fw5 S g w) 10 f true) c)) ∧ (∀ h' v' q, (if pk T L p = 63 then (match pSm T L 6 (sk T L p + 1) with | .inl f => .inl f | .inr (v, q2) => .inr (h, v, q2)) else .inl (sk T L p) : Nat ⊕ (PV × PV × Nat)) = .inr (h', v', q) → f_X2_clause_b95 (hp (rdS S 10 p false) c) 10 (h (S.1 12)) v s = some (hp (rdS (fnS S (h' (S.1 12)) (v' (S.1 12))) 10 q false) c)) := by
  unfold f_X2_clause_b95
  rw [if_neg hs, k10, Option.bind_some, rd_need R10 X hp', Option.bind_some]
  by_cases e : pk T L p = 63
  · rw [if_pos e, if_pos e]
    have h1 := pk_sk1 (T := T) (L := L) (p := p) (by rw [e]; decide)
    have hi := (X2_sum_ok (c := c) X 6 0 rfl 120 (by decide)).1 (sk T L p + 1) h1.1
    cases he : pSm T L 6 (sk T L p + 1) with
    | inl f =>
      rw [he] at hi
      obtain ⟨w, hw⟩ := hi
      have hw' : f_X2_part 120 (hp (rdS S 10 (sk T L p + 1) false) c) 10 3 0 = some (w, hp (rdS S 10 f true) c) := hw
      refine ⟨fun f' z => ?_, fun h' v' q z => by cases z⟩
      cases z
      rw [hw', Option.bind_some, X2_b113]
      obtain ⟨g, w, hg⟩ := fnS_fw (S := S) (h := h (S.1 12)) (v := w)
      exact ⟨g, w, by rw [hg]⟩
    | inr wq =>
      rw [he] at hi
      have hw' : f_X2_part 120 (hp (rdS S 10 (sk T L p + 1) false) c) 10 3 0 = some (wq.1 (S.1 12), hp (rdS S 10 wq.2 false) c) := hi
      refine ⟨fun f' z => (by cases z), fun h' v' q z => ?_⟩
      cases z
      rw [hw', Option.bind_some, X2_b113]
  · rw [if_neg e, if_neg e]
    obtain ⟨u, hu⟩ := X2_part3_br (c := c) (p := sk T L p) X
    refine ⟨fun f' z => ?_, fun h' v' q z => by cases z⟩
    cases z
    rw [hu, Option.bind_some, X2_b113]
    obtain ⟨g, w, hg⟩ := fnS_fw (S := S) (h := h (S.1 12)) (v := u)
    exact ⟨g, w, by rw [hg]⟩
theorem X2_clause_ok (X : Tx S 10 T L) (hp' : p ≤ L) : (∀ f, pCl T L p = .inl f → ∃ g w, f_X2_clause (hp (rdS S 10 p false) c) 10 = some (hp (rdS (fw5 S g w) 10 f true) c)) ∧ (∀ h v q, pCl T L p = .inr (h, v, q) → f_X2_clause (hp (rdS S 10 p false) c) 10 = some (hp (rdS (fnS S (h (S.1 12)) (v (S.1 12))) 10 q false) c)) := by
  unfold pCl f_X2_clause
  rw [k10, Option.bind_some, Option.bind_some, rd_need R10 X hp', Option.bind_some]
  have brk : ∀ f, ∃ g w, ((ck [2] (hp (rdS S 10 f true) c) 10).bind fun u4 => (f_X4_need (hp (rdS S 10 f true) c) 10 (58 : Int32)).bind fun q3 => (ck [2] q3 10).bind fun u6 => (f_X4_peek q3 10).bind fun q5 => if q5.1 = (33 : Int32) then f_X2_clause_b33 q5.2 10 (1 : Int32) (0 : Int32) else if q5.1 = (40 : Int32) then f_X2_clause_b33 q5.2 10 (1 : Int32) (0 : Int32) else f_X2_clause_b38 q5.2 10 (1 : Int32) (0 : Int32) (0 : Int32)) = some (hp (rdS (fw5 S g w) 10 f true) c) := by
    intro f
    rw [k10, Option.bind_some, rd_need_br R10 (by decide), Option.bind_some, k10, Option.bind_some, rd_peek_br R10, Option.bind_some, if_neg (show ¬ (-1 : Int32) = 33 by decide), if_neg (show ¬ (-1 : Int32) = 40 by decide)]
    exact X2_b38_br X
  by_cases e1 : pk T L p = 121
  · rw [if_pos e1, if_pos e1]
    have h1 := pk_sk1 (T := T) (L := L) (p := p) (by rw [e1]; decide)
    rw [k10, Option.bind_some, rd_need R10 X h1.1, Option.bind_some]
    by_cases e2 : pk T L (sk T L p + 1) = 58
    · rw [if_pos e2, if_pos e2]
      have h2 := pk_sk1 (T := T) (L := L) (p := sk T L p + 1) (by rw [e2]; decide)
      dsimp only
      generalize sk T L (sk T L p + 1) + 1 = p2 at *
      have hs2 := sk_le (T := T) h2.1
      rw [k10, Option.bind_some, rd_peek R10 X h2.1, Option.bind_some]
      have cond : (pk T L p2 = 33 ∨ pk T L p2 = 40) → (∀ f, (match pCo T L 6 (sk T L p2) with | .inl f => .inl f | .inr (h, q) => if pk T L q = 63 then (match pSm T L 6 (sk T L q + 1) with | .inl f => .inl f | .inr (v, q2) => .inr (h, v, q2)) else .inl (sk T L q) : Nat ⊕ (PV × PV × Nat)) = .inl f → ∃ g w, f_X2_clause_b33 (hp (rdS S 10 (sk T L p2) false) c) 10 1 0 = some (hp (rdS (fw5 S g w) 10 f true) c)) ∧ (∀ h v q, (match pCo T L 6 (sk T L p2) with | .inl f => .inl f | .inr (h, q) => if pk T L q = 63 then (match pSm T L 6 (sk T L q + 1) with | .inl f => .inl f | .inr (v, q2) => .inr (h, v, q2)) else .inl (sk T L q) : Nat ⊕ (PV × PV × Nat)) = .inr (h, v, q) → f_X2_clause_b33 (hp (rdS S 10 (sk T L p2) false) c) 10 1 0 = some (hp (rdS (fnS S (h (S.1 12)) (v (S.1 12))) 10 q false) c)) := by
        intro _
        unfold f_X2_clause_b33 f_X2_clause_b38
        rw [if_neg (by decide)]
        have hi := (X2_cond_ok (c := c) X (pUn_mono 6) (X2_unit_ok X 6 0 rfl) 120 (by decide)).1 (sk T L p2) hs2
        have hm := pCo_mono (T := T) (L := L) 6 (sk T L p2) hs2
        cases he : pCo T L 6 (sk T L p2) with
        | inl f =>
          have hi2 : clsR S c (f_X2_part 120 (hp (rdS S 10 (sk T L p2) false) c) 10 0 0) (pCo T L 6 (sk T L p2)) := hi
          rw [he] at hi2
          obtain ⟨w, hw⟩ := hi2
          refine ⟨fun f' z => ?_, fun h v q z => by cases z⟩
          cases z
          rw [hw, Option.bind_some]
          exact X2_b95_br X
        | inr wq =>
          obtain ⟨h, q⟩ := wq
          have hi2 : clsR S c (f_X2_part 120 (hp (rdS S 10 (sk T L p2) false) c) 10 0 0) (pCo T L 6 (sk T L p2)) := hi
          rw [he] at hi2
          have hw : f_X2_part 120 (hp (rdS S 10 (sk T L p2) false) c) 10 0 0 = some (h (S.1 12), hp (rdS S 10 q false) c) := hi2
          rw [hw, Option.bind_some]
          exact X2_b95_ok X (hm.2 h q he).2 (by decide)
      by_cases e3 : pk T L p2 = 33
      · rw [if_pos e3, if_pos (Or.inl e3)]
        exact cond (Or.inl e3)
      · rw [if_neg e3]
        by_cases e4 : pk T L p2 = 40
        · rw [if_pos e4, if_pos (Or.inr e4)]
          exact cond (Or.inr e4)
        · rw [if_neg e4, if_neg (fun z => z.elim e3 e4)]
          unfold f_X2_clause_b38
          rw [if_pos rfl]
          have hi := (X2_sum_ok (c := c) X 6 0 rfl 120 (by decide)).1 (sk T L p2) hs2
          have hm := pSm_mono (T := T) (L := L) 6 (sk T L p2) hs2
          cases he : pSm T L 6 (sk T L p2) with
          | inl f =>
            rw [he] at hi
            obtain ⟨w, hw⟩ := hi
            have hw' : f_X2_part 120 (hp (rdS S 10 (sk T L p2) false) c) 10 3 0 = some (w, hp (rdS S 10 f true) c) := hw
            refine ⟨fun f' z => ?_, fun h v q z => by cases z⟩
            cases z
            rw [hw', Option.bind_some, k10, Option.bind_some, rd_peek_br R10, Option.bind_some, X2_isCm, Option.bind_some, if_pos (show bI (isCm (-1)) = 0 by decide)]
            exact X2_b95_br X
          | inr wq =>
            obtain ⟨v, q⟩ := wq
            rw [he] at hi
            have hw' : f_X2_part 120 (hp (rdS S 10 (sk T L p2) false) c) 10 3 0 = some (v (S.1 12), hp (rdS S 10 q false) c) := hi
            have hq := (hm.2 v q he).2
            have hsq := sk_le (T := T) hq
            rw [hw', Option.bind_some, k10, Option.bind_some, rd_peek R10 X hq, Option.bind_some, X2_isCm, Option.bind_some]
            dsimp only
            cases hc : isCm (pk T L q) with
            | false =>
              rw [if_pos bI_f, if_neg (by decide)]
              refine ⟨fun f' z => (by cases z), fun h' v' q' z => ?_⟩
              cases z
              unfold f_X2_clause_b95
              rw [if_pos bI_f, X2_b113]
            | true =>
              rw [if_neg (show ¬ bI true = 0 by decide), if_pos rfl]
              have h3 := (X2_comp_ok (c := c) X (d := 0) (k := 6) rfl (n := 120) (by decide))
              have h31 : clsR S c (f_X2_compared 120 (hp (rdS S 10 (sk T L q) false) c) 10 (v (S.1 12)) 0) (pCm T L 6 v (sk T L q)) := h3.1 (sk T L q) v hsq
              have m3 := pCm_mono (T := T) (L := L) (k := 6) (v := v) hsq
              have r1 := X2_row_ok (c := c) (lvl := 1) (s1 := 38) (s2 := 38) X (by decide +kernel) (by decide +kernel) (by decide) (by decide) (pUn_mono 6) (X2_p2 (X2_unit_ok X 6 0 rfl)) (n := 120) (by decide)
              have r0 := X2_row_ok (c := c) (lvl := 0) (s1 := 124) (s2 := 124) X (by decide +kernel) (by decide +kernel) (by decide) (by decide) (pTr_mono 6) (X2_truth_ok X (pUn_mono 6) (X2_unit_ok X 6 0 rfl)) (n := 120) (by decide)
              have r1b : ∀ p v, f_X2_row 120 (hp (rdS S 10 p true) c) 10 v 1 0 = some (v, hp (rdS S 10 p true) c) := r1.2
              have r0b : ∀ p v, f_X2_row 120 (hp (rdS S 10 p true) c) 10 v 0 0 = some (v, hp (rdS S 10 p true) c) := r0.2
              unfold pCoV
              cases hz : pCm T L 6 v (sk T L q) with
              | inl f =>
                rw [hz] at h31
                obtain ⟨u, hu⟩ := h31
                refine ⟨fun f' z => ?_, fun h v q z => by cases z⟩
                cases z
                rw [hu, Option.bind_some, r1b, Option.bind_some, r0b, Option.bind_some]
                exact X2_b95_br X
              | inr uq =>
                obtain ⟨u, qu⟩ := uq
                rw [hz] at h31
                have hu : f_X2_compared 120 (hp (rdS S 10 (sk T L q) false) c) 10 (v (S.1 12)) 0 = some (u (S.1 12), hp (rdS S 10 qu false) c) := h31
                have hqu := (m3.2 u qu hz).2
                rw [hu, Option.bind_some]
                have r11 : clsR S c (f_X2_row 120 (hp (rdS S 10 qu false) c) 10 (u (S.1 12)) 1 0) (pRow T L (pUn T L 6) 38 38 (L + 1) u qu) := r1.1 qu u hqu
                have m4 := pRow_mono (T := T) (s1 := 38) (s2 := 38) (by decide) (by decide) (pUn_mono (T := T) (L := L) 6) (L + 1) u qu hqu
                dsimp only
                cases hy : pRow T L (pUn T L 6) 38 38 (L + 1) u qu with
                | inl f =>
                  rw [hy] at r11
                  obtain ⟨x, hx⟩ := r11
                  refine ⟨fun f' z => ?_, fun h v q z => by cases z⟩
                  cases z
                  rw [hx, Option.bind_some, r0b, Option.bind_some]
                  exact X2_b95_br X
                | inr xq =>
                  obtain ⟨x, qx⟩ := xq
                  rw [hy] at r11
                  have hx : f_X2_row 120 (hp (rdS S 10 qu false) c) 10 (u (S.1 12)) 1 0 = some (x (S.1 12), hp (rdS S 10 qx false) c) := r11
                  have hqx := (m4.2 x qx hy).2
                  rw [hx, Option.bind_some]
                  have r01 : clsR S c (f_X2_row 120 (hp (rdS S 10 qx false) c) 10 (x (S.1 12)) 0 0) (pRow T L (pTrG T L (pUn T L 6)) 124 124 (L + 1) x qx) := r0.1 qx x hqx
                  have m5 := pRow_mono (T := T) (s1 := 124) (s2 := 124) (by decide) (by decide) (pTr_mono (T := T) (L := L) 6) (L + 1) x qx hqx
                  dsimp only
                  cases hv : pRow T L (pTrG T L (pUn T L 6)) 124 124 (L + 1) x qx with
                  | inl f =>
                    rw [hv] at r01
                    obtain ⟨y, hy2⟩ := r01
                    refine ⟨fun f' z => ?_, fun h v q z => by cases z⟩
                    cases z
                    rw [hy2, Option.bind_some]
                    exact X2_b95_br X
                  | inr yq =>
                    obtain ⟨y, qy⟩ := yq
                    rw [hv] at r01
                    have hy2 : f_X2_row 120 (hp (rdS S 10 qx false) c) 10 (x (S.1 12)) 0 0 = some (y (S.1 12), hp (rdS S 10 qy false) c) := r01
                    rw [hy2, Option.bind_some]
                    exact X2_b95_ok X (m5.2 y qy hv).2 (by decide)
    · rw [if_neg e2, if_neg e2]
      refine ⟨fun f z => ?_, fun h v q z => by cases z⟩
      cases z
      have hb := brk (sk T L (sk T L p + 1))
      rw [k10, Option.bind_some, rd_need_br R10 (by decide), Option.bind_some] at hb
      exact hb
  · rw [if_neg e1, if_neg e1]
    refine ⟨fun f z => ?_, fun h v q z => by cases z⟩
    cases z
    exact brk (sk T L p)
end L3
