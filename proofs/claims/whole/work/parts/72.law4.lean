/-! LAWS: the class reads a whole law so -/
/-- a reading begun -/
def stS (S : XS) (r ta L : Nat) : XS := wA (wT S r ta) r (upd (S.1 r) 1 (nI L))
section L4
variable {S : XS} {c : Nat × Nat} {T : Nat → Int32} {L p r ta : Nat}
theorem stS_1 {a : Nat} (h : a ≠ r) : (stS S r ta L).1 a = S.1 a := wA_ne h
theorem rd_start (R : isRd r) {n : Nat} (hs : sh ta = some (.inl (0, n, 0, 0))) (hL : L ≤ n) (hn : n < 2 ^ 31) : f_X4_start (hp S c) r ta (nI L) = some (hp (rdS (stS S r ta L) r 0 false) c) := by
  unfold f_X4_start
  rw [R.ck, Option.bind_some, R.p0, Option.bind_some, aN_hp hs (by decide), Option.bind_some, R.p1, Option.bind_some, R.p2, Option.bind_some, R.p3, Option.bind_some]
  have : imax 0 (imin (nI L) (nI n)) = nI L := by
    unfold imin imax
    by_cases e : nI n < nI L
    · exact absurd e (nI_nlt hL hn)
    · rw [if_neg e]
      by_cases e2 : 0 < nI L
      · rw [if_pos e2]
      · rw [if_neg e2]
        have h1 : ¬ 0 < L := fun z => e2 (by rw [show (0 : Int32) = nI 0 from rfl]; exact nI_lt z (by omega))
        rw [show L = 0 by omega]
        rfl
  rw [this]
  unfold rdS stS
  rw [wA_wA, wA_wA, wA_wA, wA_same, wA_same, wA_same, wA_wA]
  rfl
theorem Tx_st (hL : L ≤ 240) {n : Nat} (hs : sh ta = some (.inl (0, n, 0, 0))) (hLn : L ≤ n) (hn : n < 2 ^ 31) (hne : ta ≠ r) (hT : ∀ k, k < L → S.1 ta k = T k) : Tx (stS S r ta L) r T L := by
  have e : (stS S r ta L).2.2 r = ta := if_pos rfl
  refine ⟨hL, ?_, n, ?_, hLn, hn, ?_, fun k hk => ?_⟩
  · unfold stS
    rw [wA_same, upd_same]
  · rw [e]
    exact hs
  · rw [e]
    exact hne
  · rw [e, stS_1 hne]
    exact hT k hk
def fRel (S : XS) (o : Option Int32) : Prop := match o with | none => S.1 10 6 = 0 ∧ S.1 10 5 = 0 | some x => S.1 10 6 = 1 ∧ S.1 10 5 = x
theorem fRel_fn {g : PF} {h v : PV} (H : fRel S (g (S.1 12))) : fRel (fnS S (h (S.1 12)) (v (S.1 12))) (fnd g h v (S.1 12)) := by
  unfold fnd fnS
  cases hg : g (S.1 12) with
  | some x =>
    rw [hg] at H
    rw [if_neg (fun z => by have := H.1.symm.trans z.2; exact absurd this (by decide))]
    exact H
  | none =>
    rw [hg] at H
    dsimp only
    by_cases e : h (S.1 12) = 1
    · rw [if_pos e, if_pos ⟨e, H.1⟩]
      unfold fw5
      exact ⟨by rw [wA_same, upd_ne (by decide), upd_same], by rw [wA_same, upd_same]⟩
    · rw [if_neg e, if_neg (fun z => e z.1)]
      exact H
theorem fnS_12 {h v : Int32} : (fnS S h v).1 12 = S.1 12 := by
  unfold fnS
  split
  · exact fw5_12
  · rfl
theorem Tx.fn (X : Tx S 10 T L) {h v : Int32} : Tx (fnS S h v) 10 T L := by
  unfold fnS
  split
  · exact X.fw
  · exact X
theorem fnS_w {h v : Int32} {b : Bool} : ∃ F, rdS (fnS S h v) 10 p b = wA S 10 F := by
  obtain ⟨g, w, hg⟩ := fnS_fw (S := S) (h := h) (v := v)
  rw [hg]
  exact ⟨_, wA_wA⟩
def pLt (T : Nat → Int32) (L m : Nat) (g : PF) (q : Nat) : Nat ⊕ PF := if pk T L q = 59 then pLw T L m g (sk T L q + 1) else if pk T L q = -1 then .inr g else .inl (sk T L q)
def rdR (S : XS) (c : Nat × Nat) (o : Option (Int32 × xa_H)) : Nat ⊕ PF → Prop
  | .inl f => ∃ F, o = some (nI f, hp (wA S 10 F) c)
  | .inr g => ∃ F, o = some (-1, hp (wA S 10 F) c) ∧ F 5 = (g (S.1 12)).getD 0
theorem rdR_w {o : Option (Int32 × xa_H)} {F : Nat → Int32} {r : Nat ⊕ PF} (h : rdR (wA S 10 F) c o r) : rdR S c o r := by
  cases r with
  | inl f =>
    obtain ⟨G, hG⟩ := h
    rw [wA_wA] at hG
    exact ⟨G, hG⟩
  | inr g =>
    obtain ⟨G, hG, h5⟩ := h
    rw [wA_wA] at hG
    rw [wA_ne (by decide)] at h5
    exact ⟨G, hG, h5⟩
theorem X2_read_end (X : Tx S 10 T L) (hp' : p ≤ L) {g : PF} (H : fRel S (g (S.1 12))) (h59 : pk T L p ≠ 59) : rdR S c (f_X2_read_b48 (hp (rdS S 10 p false) c) 10) (if pk T L p = 59 then .inl 0 else if pk T L p = -1 then .inr g else .inl (sk T L p)) := by
  unfold f_X2_read_b48 f_X2_read_b61
  rw [k10, Option.bind_some, rd_peek R10 X hp', Option.bind_some, if_neg h59]
  by_cases e : pk T L p = -1
  · rw [if_pos e, if_pos e, k10, Option.bind_some]
    unfold f_X4_wrongAt
    rw [R10.ck, Option.bind_some, R10.g3, Option.bind_some, rdS_br, if_pos bI_f, Option.bind_some]
    refine ⟨_, rfl, ?_⟩
    rw [upd_ne (by decide), upd_ne (by decide)]
    cases hg : g (S.1 12) with
    | none =>
      rw [hg] at H
      exact H.2
    | some x =>
      rw [hg] at H
      exact H.2
  · rw [if_neg e, if_neg e, rdS_p3', Option.bind_some, k10, Option.bind_some]
    unfold f_X4_wrongAt
    rw [R10.ck, Option.bind_some, R10.g3, Option.bind_some, rdS_br, if_neg (by decide), R10.g2, Option.bind_some, rdS_at, Option.bind_some]
    exact ⟨_, rfl⟩
theorem X2_read_br : f_X2_read_b48 (hp (rdS S 10 p true) c) 10 = some (nI p, hp (rdS S 10 p true) c) := by
  unfold f_X2_read_b48 f_X2_read_b61
  rw [k10, Option.bind_some, rd_peek_br R10, Option.bind_some, if_pos rfl, k10, Option.bind_some]
  unfold f_X4_wrongAt
  rw [R10.ck, Option.bind_some, R10.g3, Option.bind_some, rdS_br, if_neg (by decide), R10.g2, Option.bind_some, rdS_at, Option.bind_some]
theorem pCl_mono (hp' : p ≤ L) {h v : PV} {q : Nat} (e : pCl T L p = .inr (h, v, q)) : p < q ∧ q ≤ L := by
  unfold pCl at e
  by_cases e1 : pk T L p = 121
  · rw [if_pos e1] at e
    have h1 := pk_sk1 (T := T) (L := L) (p := p) (by rw [e1]; decide)
    by_cases e2 : pk T L (sk T L p + 1) = 58
    · rw [if_pos e2] at e
      have h2 := pk_sk1 (T := T) (L := L) (p := sk T L p + 1) (by rw [e2]; decide)
      dsimp only at e
      generalize sk T L (sk T L p + 1) + 1 = p2 at *
      have hs2 := sk_le (T := T) h2.1
      have hg2 := sk_ge (T := T) (L := L) (p := p2)
      have fin : ∀ (u : PV) (x : Nat), p2 ≤ x → x ≤ L → (if pk T L x = 63 then (match pSm T L 6 (sk T L x + 1) with | .inl f => .inl f | .inr (v, q2) => .inr (u, v, q2)) else .inl (sk T L x) : Nat ⊕ (PV × PV × Nat)) = .inr (h, v, q) → p < q ∧ q ≤ L := by
        intro u x hx1 hx2 hx3
        by_cases e5 : pk T L x = 63
        · rw [if_pos e5] at hx3
          have h3 := pk_sk1 (T := T) (L := L) (p := x) (by rw [e5]; decide)
          have hm := pSm_mono (T := T) (L := L) 6 (sk T L x + 1) h3.1
          cases he : pSm T L 6 (sk T L x + 1) with
          | inl f =>
            rw [he] at hx3
            cases hx3
          | inr wq =>
            obtain ⟨w, qw⟩ := wq
            rw [he] at hx3
            cases hx3
            have := hm.2 v q he
            omega
        · rw [if_neg e5] at hx3
          cases hx3
      by_cases e3 : pk T L p2 = 33 ∨ pk T L p2 = 40
      · rw [if_pos e3] at e
        have hm := pCo_mono (T := T) (L := L) 6 (sk T L p2) hs2
        cases he : pCo T L 6 (sk T L p2) with
        | inl f =>
          rw [he] at e
          cases e
        | inr wq =>
          obtain ⟨w, qw⟩ := wq
          rw [he] at e
          have := hm.2 w qw he
          exact fin w qw (by omega) this.2 e
      · rw [if_neg e3] at e
        have hm := pSm_mono (T := T) (L := L) 6 (sk T L p2) hs2
        cases he : pSm T L 6 (sk T L p2) with
        | inl f =>
          rw [he] at e
          cases e
        | inr wq =>
          obtain ⟨w, qw⟩ := wq
          rw [he] at e
          have hq := hm.2 w qw he
          have hsq := sk_le (T := T) hq.2
          have hgq := sk_ge (T := T) (L := L) (p := qw)
          dsimp only at e
          by_cases e4 : isCm (pk T L qw) = true
          · rw [if_pos e4] at e
            unfold pCoV at e
            have m3 := pCm_mono (T := T) (L := L) (k := 6) (v := w) hsq
            cases hz : pCm T L 6 w (sk T L qw) with
            | inl f =>
              rw [hz] at e
              cases e
            | inr uq =>
              obtain ⟨u, qu⟩ := uq
              rw [hz] at e
              have hqu := m3.2 u qu hz
              have m4 := pRow_mono (T := T) (s1 := 38) (s2 := 38) (by decide) (by decide) (pUn_mono (T := T) (L := L) 6) (L + 1) u qu hqu.2
              dsimp only at e
              cases hy : pRow T L (pUn T L 6) 38 38 (L + 1) u qu with
              | inl f =>
                rw [hy] at e
                cases e
              | inr xq =>
                obtain ⟨x, qx⟩ := xq
                rw [hy] at e
                have hqx := m4.2 x qx hy
                have m5 := pRow_mono (T := T) (s1 := 124) (s2 := 124) (by decide) (by decide) (pTr_mono (T := T) (L := L) 6) (L + 1) x qx hqx.2
                dsimp only at e
                cases hv : pRow T L (pTrG T L (pUn T L 6)) 124 124 (L + 1) x qx with
                | inl f =>
                  rw [hv] at e
                  cases e
                | inr yq =>
                  obtain ⟨y, qy⟩ := yq
                  rw [hv] at e
                  have hqy := m5.2 y qy hv
                  exact fin y qy (by omega) hqy.2 e
          · rw [if_neg e4] at e
            cases e
            omega
    · rw [if_neg e2] at e
      cases e
  · rw [if_neg e1] at e
    cases e
theorem X2_read_loop : ∀ (m p n j : Nat) (S : XS) (g : PF), Tx S 10 T L → p ≤ L → j ≤ p → L < p + m → 242 ≤ n + j → fRel S (g (S.1 12)) → rdR S c (f_X2_read_b22 n (hp (rdS S 10 p false) c) 10 (nI j)) (pLt T L m g p)
  | 0, p, n, j, S, g, X, hp', hj, hm, hn, H => by omega
  | m + 1, p, n, j, S, g, X, hp', hj, hm, hn, H => by
    have hL := X.1
    obtain ⟨n, rfl⟩ : ∃ q, n = q + 1 := ⟨n - 1, by omega⟩
    unfold pLt
    rw [f_X2_read_b22, show (240 : Int32) = nI 240 from rfl]
    by_cases e : 240 ≤ j
    · rw [if_pos (nI_le e (by omega))]
      have hs : sk T L p = p := sk_no (fun z => by omega)
      have hk : pk T L p = -1 := by
        unfold pk
        rw [hs, if_neg (by omega)]
      have := X2_read_end (c := c) X hp' H (by rw [hk]; decide)
      rw [hk, if_neg (by decide), if_pos rfl] at this
      rw [hk, if_neg (by decide), if_pos rfl]
      exact this
    · rw [if_neg (nI_ge (by omega) (by omega)), k10, Option.bind_some, rd_take R10 X hp', Option.bind_some]
      by_cases e2 : pk T L p = 59
      · rw [decide_eq_true e2, if_neg (show ¬ bI true = 0 by decide), if_pos e2, if_pos e2]
        have h1 := pk_sk1 (T := T) (L := L) (p := p) (by rw [e2]; decide)
        have hc := X2_clause_ok (c := c) X h1.1
        unfold pLw
        cases he : pCl T L (sk T L p + 1) with
        | inl f =>
          obtain ⟨g', w, hw⟩ := hc.1 f he
          rw [hw, Option.bind_some]
          obtain ⟨n, rfl⟩ : ∃ q, n = q + 1 := ⟨n - 1, by omega⟩
          rw [f_X2_read_b22]
          have fin : rdR S c (some (nI f, hp (rdS (fw5 S g' w) 10 f true) c)) (.inl f) := ⟨_, by unfold rdS fw5; rw [wA_wA]⟩
          by_cases e3 : (240 : Int32) ≤ nI j + 1
          · rw [if_pos e3, X2_read_br]
            exact fin
          · rw [if_neg e3, k10, Option.bind_some, rd_take_br R10 (by decide), Option.bind_some, if_pos rfl, X2_read_br]
            exact fin
        | inr hvq =>
          obtain ⟨h, v, q⟩ := hvq
          have hw := hc.2 h v q he
          have hq := pCl_mono h1.1 he
          rw [hw, Option.bind_some, nI_1]
          have ih := X2_read_loop m q n (j + 1) (fnS S (h (S.1 12)) (v (S.1 12))) (fnd g h v) X.fn hq.2 (by omega) (by omega) (by omega) (by rw [fnS_12]; exact fRel_fn H)
          obtain ⟨g', w, hg⟩ := fnS_fw (S := S) (h := h (S.1 12)) (v := v (S.1 12))
          rw [hg] at ih
          rw [hg]
          exact rdR_w ih
      · rw [decide_eq_false e2, if_pos (show bI false = 0 from rfl), if_neg e2, if_neg e2]
        have := X2_read_end (c := c) X (sk_le (T := T) hp') H (by rw [pk_sk]; exact e2)
        rw [pk_sk, sk_sk, if_neg e2] at this
        exact this
theorem X2_read {n : Nat} (hL : L ≤ 240) (hs : sh ta = some (.inl (0, n, 0, 0))) (hLn : L ≤ n) (hn : n < 2 ^ 31) (hne : ta ≠ 10) (hT : ∀ k, k < L → S.1 ta k = T k) : rdR (wT S 10 ta) c (f_X2_read (hp S c) 10 ta (nI L)) (pLaw T L) := by
  have X := Tx_st (S := S) hL hs hLn hn hne hT
  unfold f_X2_read pLaw
  rw [k10, Option.bind_some, Option.bind_some, rd_start R10 hs hLn hn, Option.bind_some, p10_5, Option.bind_some, p10_6, Option.bind_some]
  have e0 : wA (wA (rdS (stS S 10 ta L) 10 0 false) 10 (upd ((rdS (stS S 10 ta L) 10 0 false).1 10) 5 0)) 10 (upd ((wA (rdS (stS S 10 ta L) 10 0 false) 10 (upd ((rdS (stS S 10 ta L) 10 0 false).1 10) 5 0)).1 10) 6 0) = rdS (fw5 (stS S 10 ta L) 0 0) 10 0 false := by
    rw [rdS_put (by decide) (by decide), rdS_put (by decide) (by decide), wA_wA, wA_same]
    unfold fw5
    rw [upd_comm (by decide)]
  rw [e0]
  have X2 : Tx (fw5 (stS S 10 ta L) 0 0) 10 T L := X.fw
  have H : fRel (fw5 (stS S 10 ta L) 0 0) none := by
    unfold fw5
    exact ⟨by rw [wA_same, upd_ne (by decide), upd_same], by rw [wA_same, upd_same]⟩
  have hw0 : ∃ F, fw5 (stS S 10 ta L) 0 0 = wA (wT S 10 ta) 10 F := ⟨_, wA_wA⟩
  generalize fw5 (stS S 10 ta L) 0 0 = S1 at *
  have hc := X2_clause_ok (c := c) (p := 0) X2 (by omega)
  unfold pLw
  have main : rdR S1 c ((f_X2_clause (hp (rdS S1 10 0 false) c) 10).bind fun q5 => f_X2_read_b22 1048576 q5 10 (0 : Int32)) (match pCl T L 0 with | .inl f => .inl f | .inr (h, v, q) => if pk T L q = 59 then pLw T L L (fnd (fun _ => none) h v) (sk T L q + 1) else if pk T L q = -1 then .inr (fnd (fun _ => none) h v) else .inl (sk T L q)) := by
    cases he : pCl T L 0 with
    | inl f =>
      obtain ⟨g', w, hw⟩ := hc.1 f he
      rw [hw, Option.bind_some]
      have : f_X2_read_b22 1048576 (hp (rdS (fw5 S1 g' w) 10 f true) c) 10 (0 : Int32) = some (nI f, hp (rdS (fw5 S1 g' w) 10 f true) c) := by
        rw [show (1048576 : Nat) = 1048575 + 1 from rfl, f_X2_read_b22, if_neg (by decide), k10, Option.bind_some, rd_take_br R10 (by decide), Option.bind_some, if_pos rfl, X2_read_br]
      rw [this]
      exact ⟨_, by unfold rdS fw5; rw [wA_wA]⟩
    | inr hvq =>
      obtain ⟨h, v, q⟩ := hvq
      have hw := hc.2 h v q he
      have hq := pCl_mono (by omega) he
      rw [hw, Option.bind_some]
      have ih := X2_read_loop (c := c) L q 1048576 0 (fnS S1 (h (S1.1 12)) (v (S1.1 12))) (fnd (fun _ => none) h v) X2.fn hq.2 (by omega) (by omega) (by omega) (by rw [fnS_12]; exact fRel_fn (g := fun _ => none) H)
      obtain ⟨g', w, hg⟩ := fnS_fw (S := S1) (h := h (S1.1 12)) (v := v (S1.1 12))
      rw [hg] at ih
      rw [hg]
      exact rdR_w ih
  obtain ⟨F, hF⟩ := hw0
  rw [hF] at main
  rw [hF]
  exact rdR_w main
end L4
