/-! LAWS: the reference reads clauses and whole laws so -/
/-- what a clause leaves -/
def gnS (S : XS) (h v : Int32) : XS := if S.1 351 17 = 0 ∧ h = 1 then wA S 351 (upd (upd (S.1 351) 17 1) 14 v) else S
section L7
variable {S : XS} {c : Nat × Nat} {T : Nat → Int32} {L p d : Nat}
theorem gnS_ne {h v : Int32} {a : Nat} (ha : a ≠ 351) : (gnS S h v).1 a = S.1 a := by
  unfold gnS
  split
  · exact wA_ne ha
  · rfl
theorem gnS_22 {h v : Int32} : (gnS S h v).2 = S.2 := by
  unfold gnS
  split <;> rfl
theorem gnS_k {h v : Int32} {k : Nat} (h1 : k ≠ 17) (h2 : k ≠ 14) : (gnS S h v).1 351 k = S.1 351 k := by
  unfold gnS
  split
  · rw [wA_same, upd_ne h2, upd_ne h1]
  · rfl
theorem gnS_lt {h v : Int32} : lt (gnS S h v) = lt S := by
  funext j
  unfold lt
  rw [gnS_ne (by decide)]
theorem gnS_ltS {h v : Int32} (hl : ltS S) : ltS (gnS S h v) := fun j => by
  rw [gnS_lt]
  exact hl j
theorem Ty.gn (Y : Ty S T L) {h v : Int32} : Ty (gnS S h v) T L := by
  obtain ⟨h1, h2, n, bg, h3, h4, h5, h6, h7, h8⟩ := Y
  refine ⟨h1, ?_, n, bg, ?_, ?_, h5, h6, ?_, fun k hk => ?_⟩
  · rw [gnS_k (by decide) (by decide)]
    exact h2
  · rw [gnS_k (by decide) (by decide)]
    exact h3
  · rw [gnS_22]
    exact h4
  · rw [gnS_22]
    exact h7
  · rw [gnS_22, gnS_ne h7]
    exact h8 k hk
theorem X12_b134 {b : Bool} {v : Int32} (hlab : S.1 351 13 = 121) : f_X12_clause_b134 (hp (rfS S p (-1) d) c) 351 121 (bI b) v = some (hp (rfS (gnS S (bI b) v) p (-1) d) c) := by
  unfold f_X12_clause_b134 gnS
  rw [g351_11, Option.bind_some, rfS_f, if_pos rfl, g351_17, Option.bind_some, rfS_k (by decide) (by decide) (by decide)]
  by_cases e : S.1 351 17 = 0
  · rw [if_pos e, g351_13, Option.bind_some, rfS_k (by decide) (by decide) (by decide), hlab, if_pos rfl]
    cases b with
    | false => rw [if_pos bI_f, if_neg (fun z => absurd z.2 (by decide))]
    | true => rw [if_neg (show ¬ bI true = 0 by decide), p351_17, Option.bind_some, p351_14, Option.bind_some, if_pos ⟨e, rfl⟩, rfS_put (by decide) (by decide) (by decide), rfS_put (by decide) (by decide) (by decide), wA_wA, wA_same]
  · rw [if_neg e, if_neg (fun z => e z.1)]
theorem X12_b134_f {f l h v : Int32} (hf : f ≠ -1) : f_X12_clause_b134 (hp (rfS S p f d) c) 351 l h v = some (hp (rfS S p f d) c) := by
  unfold f_X12_clause_b134
  rw [g351_11, Option.bind_some, rfS_f, if_neg hf]
theorem X12_isAmong_y {h : xa_H} {s : Int32} : f_X12_isAmong h (1000000010 + 5) s = some (bI (decide (s = 121))) := by
  unfold f_X12_isAmong
  rw [show (1048576 : Nat) = 1048574 + 1 + 1 from rfl, f_X12_isAmong_b2, show sLen (1000000010 + 5) = some (nI 1) by decide +kernel, Option.bind_some, if_neg (by decide), show sAt (1000000010 + 5) 0 = some 121 by decide +kernel, Option.bind_some]
  by_cases e : s = 121
  · rw [if_pos e.symm, decide_eq_true e]
    rfl
  · rw [if_neg (fun z => e z.symm), decide_eq_false e, f_X12_isAmong_b2, show sLen (1000000010 + 5) = some (nI 1) by decide +kernel, Option.bind_some, if_pos (by decide)]
    rfl
/-- behind the condition: ? and the sum -/
theorem X12_q_ok (Y : Ty S T L) (hl : ltS S) (hlab : S.1 351 13 = 121) (hp' : p ≤ L) {h : PV} {b : Bool} (hb : h (lt S) = bI b) : (∀ f, (if pk T L p = 63 then (match pSm T L 6 (sk T L p + 1) with | .inl f => .inl f | .inr (v, q2) => .inr (h, v, q2)) else .inl (sk T L p) : Nat ⊕ (PV × PV × Nat)) = .inl f → f ≤ L ∧ ∃ p' d', ((f_X12_takes (hp (rfS S p (-1) 0) c) 351 63).bind fun q2 => if q2.1 = 0 then some q2.2 else (f_X12_sum 120 q2.2 351).bind fun q4 => f_X12_clause_b134 q4.2 351 121 (h (lt S)) q4.1) = some (hp (rfS S p' (nI f) d') c)) ∧ (∀ h' v' q, (if pk T L p = 63 then (match pSm T L 6 (sk T L p + 1) with | .inl f => .inl f | .inr (v, q2) => .inr (h, v, q2)) else .inl (sk T L p) : Nat ⊕ (PV × PV × Nat)) = .inr (h', v', q) → ((f_X12_takes (hp (rfS S p (-1) 0) c) 351 63).bind fun q2 => if q2.1 = 0 then some q2.2 else (f_X12_sum 120 q2.2 351).bind fun q4 => f_X12_clause_b134 q4.2 351 121 (h (lt S)) q4.1) = some (hp (rfS (gnS S (h' (lt S)) (v' (lt S))) q (-1) 0) c)) := by
  have hL := Y.1
  rw [rf_takes Y hp', Option.bind_some]
  by_cases e : pk T L p = 63
  · rw [decide_eq_true e, if_neg (show ¬ bI true = 0 by decide), if_pos e, if_pos e]
    have h1 := pk_sk1 (T := T) (L := L) (p := p) (by rw [e]; decide)
    have hi := X12_sum_ok (c := c) Y hl 6 0 rfl 120 (by decide) (sk T L p + 1) h1.1
    have hm := pSm_mono (T := T) (L := L) 6 (sk T L p + 1) h1.1
    cases he : pSm T L 6 (sk T L p + 1) with
    | inl f =>
      rw [he] at hi
      obtain ⟨w, p', d', hw⟩ := hi
      have hf : nI f ≠ -1 := m1_ne (by have := hm.1 f he; omega)
      refine ⟨fun f' z => ?_, fun h' v' q z => by cases z⟩
      cases z
      refine ⟨hm.1 f he, p', d', ?_⟩
      rw [hw, Option.bind_some, X12_b134_f hf]
    | inr wq =>
      rw [he] at hi
      obtain ⟨hw, hsm⟩ := hi
      refine ⟨fun f' z => (by cases z), fun h' v' q z => ?_⟩
      cases z
      rw [hw, Option.bind_some, hb, X12_b134 hlab]
  · rw [decide_eq_false e, if_pos (show bI false = 0 from rfl), if_neg e, if_neg e]
    refine ⟨fun f' z => ?_, fun h' v' q z => by cases z⟩
    cases z
    exact ⟨sk_le hp', _, _, rfl⟩
theorem X12_clause_ok (Y : Ty S T L) (hl : ltS S) (hlab : S.1 351 13 = 121) (hp' : p ≤ L) : (∀ f, pCl T L p = .inl f → f ≤ L ∧ ∃ p' d', f_X12_clause (hp (rfS S p (-1) 0) c) 351 = some (hp (rfS S p' (nI f) d') c)) ∧ (∀ h v q, pCl T L p = .inr (h, v, q) → f_X12_clause (hp (rfS S p (-1) 0) c) 351 = some (hp (rfS (gnS S (h (lt S)) (v (lt S))) q (-1) 0) c)) := by
  have hL := Y.1
  unfold pCl f_X12_clause
  rw [k351, Option.bind_some, rf_look Y hp', Option.bind_some, X12_isAmong_y, Option.bind_some]
  by_cases e1 : pk T L p = 121
  · rw [decide_eq_true e1, if_neg (show ¬ bI true = 0 by decide), if_pos e1]
    have h1 := pk_sk1 (T := T) (L := L) (p := p) (by rw [e1]; decide)
    rw [g351_10, Option.bind_some, rfS_at, nI_1, p351_10, Option.bind_some, rfS_p10, rf_takes Y h1.1, Option.bind_some]
    by_cases e2 : pk T L (sk T L p + 1) = 58
    · rw [decide_eq_true e2, if_neg (show ¬ bI true = 0 by decide), if_pos e2, if_pos e2]
      have h2 := pk_sk1 (T := T) (L := L) (p := sk T L p + 1) (by rw [e2]; decide)
      dsimp only
      generalize sk T L (sk T L p + 1) + 1 = p2 at *
      have hs2 := sk_le (T := T) h2.1
      rw [rf_look Y h2.1, Option.bind_some, e1]
      have cond : (pk T L p2 = 33 ∨ pk T L p2 = 40) → (∀ f, (match pCo T L 6 (sk T L p2) with | .inl f => .inl f | .inr (h, q) => if pk T L q = 63 then (match pSm T L 6 (sk T L q + 1) with | .inl f => .inl f | .inr (v, q2) => .inr (h, v, q2)) else .inl (sk T L q) : Nat ⊕ (PV × PV × Nat)) = .inl f → f ≤ L ∧ ∃ p' d', f_X12_clause_b64 (hp (rfS S (sk T L p2) (-1) 0) c) 351 121 = some (hp (rfS S p' (nI f) d') c)) ∧ (∀ h v q, (match pCo T L 6 (sk T L p2) with | .inl f => .inl f | .inr (h, q) => if pk T L q = 63 then (match pSm T L 6 (sk T L q + 1) with | .inl f => .inl f | .inr (v, q2) => .inr (h, v, q2)) else .inl (sk T L q) : Nat ⊕ (PV × PV × Nat)) = .inr (h, v, q) → f_X12_clause_b64 (hp (rfS S (sk T L p2) (-1) 0) c) 351 121 = some (hp (rfS (gnS S (h (lt S)) (v (lt S))) q (-1) 0) c)) := by
        intro _
        unfold f_X12_clause_b64
        have hi := X12_cond_ok (c := c) Y (pTr_mono 6) (X12_part_ok Y (pUn_mono 6) (X12_unit_ok Y hl 6 0 rfl)) 60 (by decide) (sk T L p2) hs2
        unfold fcond at hi
        have hi2 : refB S c 0 (f_X12_condition 60 (hp (rfS S (sk T L p2) (-1) 0) c) 351 0 0) (pCo T L 6 (sk T L p2)) := hi
        have hm := pCo_mono (T := T) (L := L) 6 (sk T L p2) hs2
        cases he : pCo T L 6 (sk T L p2) with
        | inl f =>
          rw [he] at hi2
          obtain ⟨w, p', d', hw⟩ := hi2
          have hf : nI f ≠ -1 := m1_ne (by have := hm.1 f he; omega)
          refine ⟨fun f' z => ?_, fun h v q z => by cases z⟩
          cases z
          refine ⟨hm.1 f he, p', d', ?_⟩
          rw [hw, Option.bind_some, rf_takes_f hf, Option.bind_some, if_pos rfl]
        | inr wq =>
          obtain ⟨h, q⟩ := wq
          rw [he] at hi2
          obtain ⟨hw, b, hb⟩ := hi2
          rw [hw, Option.bind_some]
          exact X12_q_ok Y hl hlab (hm.2 h q he).2 hb
      by_cases e3 : pk T L p2 = 33
      · rw [if_pos e3, if_pos (Or.inl e3)]
        exact cond (Or.inl e3)
      · rw [if_neg e3]
        by_cases e4 : pk T L p2 = 40
        · rw [if_pos e4, if_pos (Or.inr e4)]
          exact cond (Or.inr e4)
        · rw [if_neg e4, if_neg (fun z => z.elim e3 e4)]
          have hi := X12_sum_ok (c := c) Y hl 6 0 rfl 120 (by decide) (sk T L p2) hs2
          have hm := pSm_mono (T := T) (L := L) 6 (sk T L p2) hs2
          cases he : pSm T L 6 (sk T L p2) with
          | inl f =>
            rw [he] at hi
            obtain ⟨w, p', d', hw⟩ := hi
            have hf : nI f ≠ -1 := m1_ne (by have := hm.1 f he; omega)
            refine ⟨fun f' z => ?_, fun h v q z => by cases z⟩
            cases z
            refine ⟨hm.1 f he, p', d', ?_⟩
            rw [hw, Option.bind_some, g351_11, Option.bind_some, rfS_f, if_neg hf, X12_b134_f hf]
          | inr wq =>
            obtain ⟨v, q⟩ := wq
            rw [he] at hi
            obtain ⟨hw, hsm⟩ := hi
            have hq := (hm.2 v q he).2
            have hsq := sk_le (T := T) hq
            rw [hw, Option.bind_some, g351_11, Option.bind_some, rfS_f, if_pos rfl, rf_look Y hq, Option.bind_some, X12_isSign, Option.bind_some]
            dsimp only
            cases hc : isCm (pk T L q) with
            | false =>
              rw [if_pos bI_f, if_neg (by decide)]
              refine ⟨fun f' z => (by cases z), fun h' v' q' z => ?_⟩
              cases z
              exact X12_b134 (b := true) hlab
            | true =>
              rw [if_neg (show ¬ bI true = 0 by decide), if_pos rfl]
              have h3 := X12_b12_ok (c := c) Y hl (d := 0) (k := 6) rfl hsq (v := v)
              have m3 := pCm_mono (T := T) (L := L) (k := 6) (v := v) hsq
              have t1 := X12_part_tail (c := c) (n0 := 58) (it := pUn T L 6) Y (pUn_mono 6) (fun p hp' => X12_unit_ok Y hl 6 0 rfl 58 (by decide) p hp') (cC := f_X12_condition 58) (cP := f_X12_part 58) h3 ⟨m3.1, fun v q z => (m3.2 v q z).2⟩
              have m4 : (∀ f, pThen T L (pUn T L 6) 38 38 (pCm T L 6 v (sk T L q)) = .inl f → f ≤ L) ∧ ∀ w x, pThen T L (pUn T L 6) 38 38 (pCm T L 6 v (sk T L q)) = .inr (w, x) → x ≤ L := by
                unfold pThen
                cases hz : pCm T L 6 v (sk T L q) with
                | inl f => exact ⟨fun f' z => (by cases z; exact m3.1 f hz), fun w x z => by cases z⟩
                | inr uq =>
                  have := pRow_mono (T := T) (s1 := 38) (s2 := 38) (by decide) (by decide) (pUn_mono (T := T) (L := L) 6) (L + 1) uq.1 uq.2 (m3.2 uq.1 uq.2 hz).2
                  exact ⟨this.1, fun w x z => (this.2 w x z).2⟩
              have t2 := X12_cond_tail (c := c) (n0 := 59) (it := pTrG T L (pUn T L 6)) Y (pTr_mono 6) (fun p hp' => X12_part_ok Y (pUn_mono 6) (X12_unit_ok Y hl 6 0 rfl) 59 (by decide) p hp') (cC := f_X12_condition 59) (cU := f_X12_unit 59) t1 m4
              have ec : f_X12_condition 60 (hp (rfS S (sk T L q) (-1) 0) c) 351 1 (v (lt S)) = (((f_X12_compares_b12 (hp (rfS S (sk T L q) (-1) 0) c) 351 (v (lt S))).bind fun q2 => f_X12_part_b17 (f_X12_condition 58) (f_X12_part 58) (f_X12_unit 58) q2.2 351 q2.1).bind fun q1 => f_X12_condition_b7 (f_X12_condition 59) (f_X12_part 59) (f_X12_unit 59) 1048576 q1.2 351 q1.1) := by
                rw [show (60 : Nat) = 59 + 1 from rfl, X12_cond_s]
                unfold g_X12_condition
                rw [k351, Option.bind_some, show (59 : Nat) = 58 + 1 from rfl, X12_part_s]
                unfold g_X12_part f_X12_compares
                rw [k351, Option.bind_some, if_neg (by decide), Option.bind_some, if_neg (by decide)]
              have ev : pCoV T L v (sk T L q) = pThen T L (pTrG T L (pUn T L 6)) 124 124 (pThen T L (pUn T L 6) 38 38 (pCm T L 6 v (sk T L q))) := by
                unfold pCoV pThen
                cases pCm T L 6 v (sk T L q) <;> rfl
              have m5 : (∀ f, pCoV T L v (sk T L q) = .inl f → f ≤ L) ∧ ∀ w x, pCoV T L v (sk T L q) = .inr (w, x) → x ≤ L := by
                rw [ev]
                generalize pThen T L (pUn T L 6) 38 38 (pCm T L 6 v (sk T L q)) = r at *
                unfold pThen
                cases r with
                | inl f => exact ⟨fun f' z => (by cases z; exact m4.1 f rfl), fun w x z => by cases z⟩
                | inr uq =>
                  have := pRow_mono (T := T) (s1 := 124) (s2 := 124) (by decide) (by decide) (pTr_mono (T := T) (L := L) 6) (L + 1) uq.1 uq.2 (m4.2 uq.1 uq.2 rfl)
                  exact ⟨this.1, fun w x z => (this.2 w x z).2⟩
              rw [← ec, ← ev] at t2
              cases hz : pCoV T L v (sk T L q) with
              | inl f =>
                rw [hz] at t2
                obtain ⟨u, p', d', hu⟩ := t2
                have hf : nI f ≠ -1 := m1_ne (by have := m5.1 f hz; omega)
                refine ⟨fun f' z => ?_, fun h v q z => by cases z⟩
                cases z
                refine ⟨m5.1 f hz, p', d', ?_⟩
                rw [hu, Option.bind_some, rf_takes_f hf, Option.bind_some, if_pos rfl]
              | inr uq =>
                obtain ⟨u, qu⟩ := uq
                rw [hz] at t2
                obtain ⟨hu, b, hb⟩ := t2
                rw [hu, Option.bind_some]
                exact X12_q_ok Y hl hlab (m5.2 u qu hz) hb
    · rw [decide_eq_false e2, if_pos (show bI false = 0 from rfl), if_neg e2, if_neg e2]
      refine ⟨fun f z => ?_, fun h v q z => by cases z⟩
      cases z
      exact ⟨sk_le h1.1, _, _, rfl⟩
  · rw [decide_eq_false e1, if_pos bI_f, rf_fails, Option.bind_some, if_neg e1]
    refine ⟨fun f z => ?_, fun h v q z => by cases z⟩
    cases z
    exact ⟨sk_le hp', _, _, rfl⟩
def gRel (S : XS) (o : Option Int32) : Prop := match o with | none => S.1 351 17 = 0 ∧ S.1 351 14 = 0 | some x => S.1 351 17 = 1 ∧ S.1 351 14 = x
theorem gRel_gn {g : PF} {h v : PV} (H : gRel S (g (lt S))) : gRel (gnS S (h (lt S)) (v (lt S))) (fnd g h v (lt S)) := by
  unfold fnd gnS
  cases hg : g (lt S) with
  | some x =>
    rw [hg] at H
    rw [if_neg (fun z => by have := H.1.symm.trans z.1; exact absurd this (by decide))]
    exact H
  | none =>
    rw [hg] at H
    dsimp only
    by_cases e : h (lt S) = 1
    · rw [if_pos e, if_pos ⟨H.1, e⟩]
      exact ⟨by rw [wA_same, upd_ne (by decide), upd_same], by rw [wA_same, upd_same]⟩
    · rw [if_neg e, if_neg (fun z => e z.2)]
      exact H
/-- the places of the reference that a reading of laws changes -/
def lk (k : Nat) : Bool := decide (8 ≤ k ∧ k ≤ 14) || k == 17
def gtR (S : XS) (c : Nat × Nat) (o : Option xa_H) : Nat ⊕ PF → Prop
  | .inl f => f ≤ 240 ∧ ∃ F, o = some (hp (wA S 351 F) c) ∧ F 11 = nI f ∧ ∀ k, lk k = false → F k = S.1 351 k
  | .inr g => ∃ F, o = some (hp (wA S 351 F) c) ∧ F 11 = -1 ∧ F 14 = (g (lt S)).getD 0 ∧ ∀ k, lk k = false → F k = S.1 351 k
theorem gtR_w {o : Option xa_H} {F : Nat → Int32} {r : Nat ⊕ PF} (hF : ∀ k, lk k = false → F k = S.1 351 k) (h : gtR (wA S 351 F) c o r) : gtR S c o r := by
  cases r with
  | inl f =>
    obtain ⟨h0, G, hG, h1, h2⟩ := h
    rw [wA_wA] at hG
    refine ⟨h0, G, hG, h1, fun k hk => ?_⟩
    rw [h2 k hk, wA_same]
    exact hF k hk
  | inr g =>
    obtain ⟨G, hG, h1, h5, h2⟩ := h
    rw [wA_wA] at hG
    refine ⟨G, hG, h1, h5, fun k hk => ?_⟩
    rw [h2 k hk, wA_same]
    exact hF k hk
theorem gnS_w {h v : Int32} : ∃ F, gnS S h v = wA S 351 F ∧ ∀ k, lk k = false → F k = S.1 351 k := by
  unfold gnS
  split
  · refine ⟨_, rfl, fun k hk => ?_⟩
    rw [upd_ne (fun z => by rw [z] at hk; exact absurd hk (by decide)), upd_ne (fun z => by rw [z] at hk; exact absurd hk (by decide))]
  · exact ⟨S.1 351, wA_self.symm, fun k hk => rfl⟩
theorem rfS_w {f : Int32} : rfS S p f d = wA S 351 (upd (upd (upd (S.1 351) 10 (nI p)) 11 f) 12 (nI d)) ∧ ∀ k, lk k = false → upd (upd (upd (S.1 351) 10 (nI p)) 11 f) 12 (nI d) k = S.1 351 k := by
  refine ⟨rfl, fun k hk => ?_⟩
  rw [upd_ne (fun z => by rw [z] at hk; exact absurd hk (by decide)), upd_ne (fun z => by rw [z] at hk; exact absurd hk (by decide)), upd_ne (fun z => by rw [z] at hk; exact absurd hk (by decide))]
theorem X12_go_loop : ∀ (m p n : Nat) (S : XS) (g : PF), Ty S T L → ltS S → S.1 351 13 = 121 → p ≤ L → L < p + m → m < n → gRel S (g (lt S)) → gtR S c (f_X12_goThrough_b32 n (hp (rfS S p (-1) 0) c) 351) (pLt T L m g p)
  | 0, p, n, S, g, Y, hl, hlab, hp', hm, hn, H => by omega
  | m + 1, p, 0, S, g, Y, hl, hlab, hp', hm, hn, H => by omega
  | m + 1, p, n + 1, S, g, Y, hl, hlab, hp', hm, hn, H => by
    have hL := Y.1
    have hs := sk_le (T := T) hp'
    unfold pLt
    rw [f_X12_goThrough_b32, g351_11, Option.bind_some, rfS_f, if_pos rfl, rf_look Y hp', Option.bind_some]
    unfold f_X12_goThrough_b66
    by_cases e2 : pk T L p = 59
    · rw [if_pos e2, if_pos e2]
      have h1 := pk_sk1 (T := T) (L := L) (p := p) (by rw [e2]; decide)
      have hc := X12_clause_ok (c := c) Y hl hlab h1.1
      rw [g351_10, Option.bind_some, rfS_at, nI_1, p351_10, Option.bind_some, rfS_p10]
      unfold pLw
      cases he : pCl T L (sk T L p + 1) with
      | inl f =>
        obtain ⟨hfL, p', d', hw⟩ := hc.1 f he
        have hf : nI f ≠ -1 := m1_ne (by omega)
        obtain ⟨n, rfl⟩ : ∃ q, n = q + 1 := ⟨n - 1, by omega⟩
        rw [hw, Option.bind_some, f_X12_goThrough_b32, g351_11, Option.bind_some, rfS_f, if_neg hf]
        unfold f_X12_goThrough_b66
        rw [g351_11, Option.bind_some, rfS_f, if_neg hf]
        refine ⟨by omega, _, rfl, ?_, rfS_w.2⟩
        rw [upd_ne (by decide), upd_same]
      | inr hvq =>
        obtain ⟨h, v, q⟩ := hvq
        have hw := hc.2 h v q he
        have hq := pCl_mono h1.1 he
        rw [hw, Option.bind_some]
        have ih := X12_go_loop m q n (gnS S (h (lt S)) (v (lt S))) (fnd g h v) Y.gn (gnS_ltS hl) (by rw [gnS_k (by decide) (by decide)]; exact hlab) hq.2 (by omega) (by omega) (by rw [gnS_lt]; exact gRel_gn H)
        obtain ⟨F, hF, hk⟩ := gnS_w (S := S) (h := h (lt S)) (v := v (lt S))
        rw [hF] at ih
        rw [hF]
        exact gtR_w hk ih
    · rw [if_neg e2, if_neg e2, g351_11, Option.bind_some, rfS_f, if_pos rfl, rf_look Y hs, Option.bind_some, pk_sk, sk_sk]
      by_cases e3 : pk T L p = -1
      · rw [if_pos e3, if_pos e3]
        refine ⟨_, rfl, ?_, ?_, rfS_w.2⟩
        · rw [upd_ne (by decide), upd_same]
        · rw [upd_ne (by decide), upd_ne (by decide), upd_ne (by decide)]
          cases hg : g (lt S) with
          | none =>
            rw [hg] at H
            exact H.2
          | some x =>
            rw [hg] at H
            exact H.2
      · rw [if_neg e3, if_neg e3, rf_fails, Option.bind_some]
        refine ⟨by omega, _, rfl, ?_, rfS_w.2⟩
        rw [upd_ne (by decide), upd_same]
theorem X12_go {tb bg n : Nat} (hL : L ≤ 240) (hs : sh tb = some (.inl (1, n, 0, 0))) (hbn : bg + L ≤ n) (hn : n < 2 ^ 31) (hne : tb ≠ 351) (hl : ltS S) (hT : ∀ k, k < L → byR (T k) (S.1 tb (bg + k))) : gtR (wT S 351 tb) c (f_X12_goThrough (hp S c) 351 tb (nI bg) (nI L)) (pLaw T L) := by
  unfold f_X12_goThrough f_X12_starts pLaw
  rw [k351, Option.bind_some, Option.bind_some, p351_5, Option.bind_some, p351_8, Option.bind_some, p351_9, Option.bind_some, p351_10, Option.bind_some, p351_11, Option.bind_some, Option.bind_some, p351_13, Option.bind_some, p351_12, Option.bind_some, p351_17, Option.bind_some, p351_14, Option.bind_some]
  simp only [wA_wA, wA_same]
  have e0 : ∀ G : Nat → Int32, wA (wT S 351 tb) 351 (upd (upd (upd (upd (upd (upd (upd (upd G 8 (nI bg)) 9 (nI L)) 10 0) 11 (-1)) 13 121) 12 0) 17 0) 14 0) = rfS (wA (wT S 351 tb) 351 (upd (upd (upd (upd (upd G 8 (nI bg)) 9 (nI L)) 13 121) 17 0) 14 0)) 0 (-1) 0 := by
    intro G
    unfold rfS
    rw [wA_wA, wA_same]
    congr 1
    funext k
    unfold upd
    by_cases c1 : k = 14
    · subst c1; rfl
    by_cases c2 : k = 17
    · subst c2; rfl
    by_cases c3 : k = 12
    · subst c3; rfl
    by_cases c4 : k = 13
    · subst c4; rfl
    by_cases c5 : k = 11
    · subst c5; rfl
    by_cases c6 : k = 10
    · subst c6; rfl
    rw [if_neg c1, if_neg c2, if_neg c3, if_neg c4, if_neg c5, if_neg c6, if_neg c3, if_neg c5, if_neg c6, if_neg c1, if_neg c2, if_neg c4]
  rw [e0]
  have hS1 : ∃ S1, S1 = wA (wT S 351 tb) 351 (upd (upd (upd (upd (upd ((wT S 351 tb).1 351) 8 (nI bg)) 9 (nI L)) 13 121) 17 0) 14 0) := ⟨_, rfl⟩
  obtain ⟨S1, hS1⟩ := hS1
  have Y1 : Ty S1 T L := by
    rw [hS1]
    have et : (wA (wT S 351 tb) 351 (upd (upd (upd (upd (upd ((wT S 351 tb).1 351) 8 (nI bg)) 9 (nI L)) 13 121) 17 0) 14 0)).2.2 351 = tb := by
      rw [wA_2]
      exact wT_same
    refine ⟨hL, ?_, n, bg, ?_, ?_, hbn, hn, ?_, fun k hk => ?_⟩
    · rw [wA_same, upd_ne (by decide), upd_ne (by decide), upd_ne (by decide), upd_same]
    · rw [wA_same, upd_ne (by decide), upd_ne (by decide), upd_ne (by decide), upd_ne (by decide), upd_same]
    · rw [et]
      exact hs
    · rw [et]
      exact hne
    · rw [et, wA_ne hne]
      exact hT k hk
  have elt : lt S1 = lt S := by
    rw [hS1]
    funext j
    unfold lt
    rw [wA_ne (by decide)]
    rfl
  have hl1 : ltS S1 := fun j => by
    rw [elt]
    exact hl j
  have hlab : S1.1 351 13 = 121 := by
    rw [hS1, wA_same, upd_ne (by decide), upd_ne (by decide), upd_same]
  have H : gRel S1 none := by
    rw [hS1]
    exact ⟨by rw [wA_same, upd_ne (by decide), upd_same], by rw [wA_same, upd_same]⟩
  have hc := X12_clause_ok (c := c) (p := 0) Y1 hl1 hlab (by omega)
  have main : gtR S1 c ((f_X12_clause (hp (rfS S1 0 (-1) 0) c) 351).bind fun q6 => f_X12_goThrough_b32 1048576 q6 351) (pLw T L (L + 1) (fun _ => none) 0) := by
    unfold pLw
    cases he : pCl T L 0 with
    | inl f =>
      obtain ⟨hfL, p', d', hw⟩ := hc.1 f he
      have hf : nI f ≠ -1 := m1_ne (by omega)
      rw [hw, Option.bind_some, show (1048576 : Nat) = 1048575 + 1 from rfl, f_X12_goThrough_b32, g351_11, Option.bind_some, rfS_f, if_neg hf]
      unfold f_X12_goThrough_b66
      rw [g351_11, Option.bind_some, rfS_f, if_neg hf]
      refine ⟨by omega, _, rfl, ?_, rfS_w.2⟩
      rw [upd_ne (by decide), upd_same]
    | inr hvq =>
      obtain ⟨h, v, q⟩ := hvq
      have hw := hc.2 h v q he
      have hq := pCl_mono (by omega) he
      rw [hw, Option.bind_some]
      have ih := X12_go_loop (c := c) L q 1048576 (gnS S1 (h (lt S1)) (v (lt S1))) (fnd (fun _ => none) h v) Y1.gn (gnS_ltS hl1) (by rw [gnS_k (by decide) (by decide)]; exact hlab) hq.2 (by omega) (by omega) (by rw [gnS_lt]; exact gRel_gn (g := fun _ => none) H)
      obtain ⟨F, hF, hk⟩ := gnS_w (S := S1) (h := h (lt S1)) (v := v (lt S1))
      rw [hF] at ih
      rw [hF]
      exact gtR_w hk ih
  rw [← hS1]
  rw [hS1] at main
  rw [hS1]
  refine gtR_w (fun k hk => ?_) main
  rw [upd_ne (fun z => by rw [z] at hk; exact absurd hk (by decide)), upd_ne (fun z => by rw [z] at hk; exact absurd hk (by decide)), upd_ne (fun z => by rw [z] at hk; exact absurd hk (by decide)), upd_ne (fun z => by rw [z] at hk; exact absurd hk (by decide)), upd_ne (fun z => by rw [z] at hk; exact absurd hk (by decide))]
end L7
