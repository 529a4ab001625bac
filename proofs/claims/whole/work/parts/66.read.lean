/-! READING: where a reading stands, of the class and of the reference -/
def isRd (r : Nat) : Prop := r = 2 ∨ r = 10 ∨ r = 13
def rdS (S : XS) (r p : Nat) (b : Bool) : XS := wA S r (upd (upd (S.1 r) 2 (nI p)) 3 (bI b))
def skF (T : Nat → Int32) (L : Nat) : Nat → Nat → Nat
  | 0, p => p
  | m + 1, p => if p < L ∧ T p = 32 then skF T L m (p + 1) else p
/-- the next place that is no blank -/
def sk (T : Nat → Int32) (L p : Nat) : Nat := skF T L (L - p) p
def pk (T : Nat → Int32) (L p : Nat) : Int32 := if sk T L p < L then T (sk T L p) else -1
def Tx (S : XS) (r : Nat) (T : Nat → Int32) (L : Nat) : Prop := L ≤ 240 ∧ S.1 r 1 = nI L ∧ ∃ n, sh (S.2.2 r) = some (.inl (0, n, 0, 0)) ∧ L ≤ n ∧ n < 2 ^ 31 ∧ S.2.2 r ≠ r ∧ ∀ k, k < L → S.1 (S.2.2 r) k = T k
section SK
variable {T : Nat → Int32} {L p : Nat}
theorem sk_eq : sk T L p = if p < L ∧ T p = 32 then sk T L (p + 1) else p := by
  unfold sk
  by_cases h : p < L
  · rw [show L - p = (L - (p + 1)) + 1 by omega]
    rfl
  · rw [show L - p = 0 by omega, if_neg (fun z => h z.1)]
    rfl
theorem sk_yes (h1 : p < L) (h2 : T p = 32) : sk T L p = sk T L (p + 1) := by
  rw [sk_eq, if_pos ⟨h1, h2⟩]
theorem sk_no (h : ¬ (p < L ∧ T p = 32)) : sk T L p = p := by
  rw [sk_eq, if_neg h]
theorem sk_ind (P : Nat → Prop) (h0 : ∀ p, ¬ (p < L ∧ T p = 32) → P p) (h1 : ∀ p, p < L → T p = 32 → P (p + 1) → P p) : ∀ p, P p := by
  have : ∀ m p, L - p = m → P p := by
    intro m
    induction m with
    | zero => exact fun p hp => h0 p (fun z => by omega)
    | succ m ih =>
      intro p hp
      by_cases q : T p = 32
      · exact h1 p (by omega) q (ih (p + 1) (by omega))
      · exact h0 p (fun z => q z.2)
  exact fun p => this _ p rfl
theorem sk_ge : p ≤ sk T L p := by
  refine sk_ind (T := T) (L := L) (fun p => p ≤ sk T L p) (fun p h => ?_) (fun p h1 h2 ih => ?_) p
  · rw [sk_no h]
    exact Nat.le_refl _
  · rw [sk_yes h1 h2]
    omega
theorem sk_le : p ≤ L → sk T L p ≤ L := by
  refine sk_ind (T := T) (L := L) (fun p => p ≤ L → sk T L p ≤ L) (fun p h hp => ?_) (fun p h1 h2 ih hp => ?_) p
  · rw [sk_no h]
    exact hp
  · rw [sk_yes h1 h2]
    exact ih (by omega)
theorem sk_end : ¬ (sk T L p < L ∧ T (sk T L p) = 32) := by
  refine sk_ind (T := T) (L := L) (fun p => ¬ (sk T L p < L ∧ T (sk T L p) = 32)) (fun p h => ?_) (fun p h1 h2 ih => ?_) p
  · rw [sk_no h]
    exact h
  · rw [sk_yes h1 h2]
    exact ih
theorem sk_sk : sk T L (sk T L p) = sk T L p := sk_no sk_end
theorem pk_sk : pk T L (sk T L p) = pk T L p := by
  unfold pk
  rw [sk_sk]
theorem pk_isin (h : pk T L p ≠ -1) : sk T L p < L ∧ pk T L p = T (sk T L p) := by
  unfold pk at h ⊢
  by_cases q : sk T L p < L
  · rw [if_pos q]
    exact ⟨q, rfl⟩
  · rw [if_neg q] at h
    exact absurd rfl h
end SK
section RD
variable {S : XS} {c : Nat × Nat} {r p q : Nat} {b b' : Bool} {T : Nat → Int32} {L : Nat}
theorem isRd.ck (R : isRd r) : ck [2, 8, 9] (hp S c) r = some () := by
  rcases R with rfl | rfl | rfl
  · exact k2r
  · exact k10r
  · exact k13r
theorem isRd.g0 (R : isRd r) : gR [2, 8, 9] 0 (hp S c) r = some (S.2.2 r) := by
  rcases R with rfl | rfl | rfl
  · exact g2_0r
  · exact g10_0r
  · exact g13_0r
theorem isRd.g1 (R : isRd r) : gI [2, 8, 9] 1 (hp S c) r = some (S.1 r 1) := by
  rcases R with rfl | rfl | rfl
  · exact g2_1r
  · exact g10_1r
  · exact g13_1r
theorem isRd.g2 (R : isRd r) : gI [2, 8, 9] 2 (hp S c) r = some (S.1 r 2) := by
  rcases R with rfl | rfl | rfl
  · exact g2_2r
  · exact g10_2r
  · exact g13_2r
theorem isRd.g3 (R : isRd r) : gI [2, 8, 9] 3 (hp S c) r = some (S.1 r 3) := by
  rcases R with rfl | rfl | rfl
  · exact g2_3r
  · exact g10_3r
  · exact g13_3r
theorem isRd.p0 (R : isRd r) {v : Nat} : xp [2, 8, 9] 0 (hp S c) r (.ref v) = some (hp (wT S r v) c) := by
  rcases R with rfl | rfl | rfl
  · exact p2_0r
  · exact p10_0r
  · exact p13_0r
theorem isRd.p1 (R : isRd r) {v : Int32} : xp [2, 8, 9] 1 (hp S c) r (.int v) = some (hp (wA S r (upd (S.1 r) 1 v)) c) := by
  rcases R with rfl | rfl | rfl
  · exact p2_1r
  · exact p10_1r
  · exact p13_1r
theorem isRd.p2 (R : isRd r) {v : Int32} : xp [2, 8, 9] 2 (hp S c) r (.int v) = some (hp (wA S r (upd (S.1 r) 2 v)) c) := by
  rcases R with rfl | rfl | rfl
  · exact p2_2r
  · exact p10_2r
  · exact p13_2r
theorem isRd.p3 (R : isRd r) {v : Int32} : xp [2, 8, 9] 3 (hp S c) r (.int v) = some (hp (wA S r (upd (S.1 r) 3 v)) c) := by
  rcases R with rfl | rfl | rfl
  · exact p2_3r
  · exact p10_3r
  · exact p13_3r
theorem rdS_ne {a : Nat} (h : a ≠ r) : (rdS S r p b).1 a = S.1 a := wA_ne h
theorem rdS_22 : (rdS S r p b).2 = S.2 := rfl
theorem rdS_at : (rdS S r p b).1 r 2 = nI p := by
  unfold rdS
  rw [wA_same, upd_ne (by decide), upd_same]
theorem rdS_br : (rdS S r p b).1 r 3 = bI b := by
  unfold rdS
  rw [wA_same, upd_same]
theorem rdS_k {k : Nat} (h2 : k ≠ 2) (h3 : k ≠ 3) : (rdS S r p b).1 r k = S.1 r k := by
  unfold rdS
  rw [wA_same, upd_ne h3, upd_ne h2]
theorem upd_upd {f : Nat → Int32} {k : Nat} {u v : Int32} : upd (upd f k u) k v = upd f k v := by
  funext j
  unfold upd
  by_cases e : j = k
  · rw [if_pos e, if_pos e]
  · rw [if_neg e, if_neg e, if_neg e]
theorem upd_comm {f : Nat → Int32} {k j : Nat} {u v : Int32} (h : k ≠ j) : upd (upd f k u) j v = upd (upd f j v) k u := by
  funext i
  unfold upd
  by_cases e1 : i = j
  · rw [if_pos e1, if_neg (by omega), if_pos e1]
  · rw [if_neg e1]
    by_cases e2 : i = k
    · rw [if_pos e2, if_pos e2]
    · rw [if_neg e2, if_neg e2, if_neg e1]
theorem upd_self {f : Nat → Int32} {k : Nat} : upd f k (f k) = f := by
  funext i
  unfold upd
  by_cases e : i = k
  · rw [if_pos e, e]
  · rw [if_neg e]
theorem rdS_put2 : wA (rdS S r p b) r (upd ((rdS S r p b).1 r) 2 (nI q)) = rdS S r q b := by
  unfold rdS
  rw [wA_wA, wA_same, upd_comm (k := 3) (j := 2) (by decide), upd_upd]
theorem rdS_put3 : wA (rdS S r p b) r (upd ((rdS S r p b).1 r) 3 (bI b')) = rdS S r p b' := by
  unfold rdS
  rw [wA_wA, wA_same, upd_upd]
theorem rdS_put3' : wA (rdS S r p b) r (upd ((rdS S r p b).1 r) 3 (1 : Int32)) = rdS S r p true := rdS_put3 (b' := true)
theorem rdS_rdS : rdS (rdS S r p b) r q b' = rdS S r q b' := by
  unfold rdS
  rw [wA_wA, wA_same]
  congr 1
  rw [upd_comm (k := 3) (j := 2) (by decide), upd_upd, upd_upd]
theorem rdS_put {k : Nat} {v : Int32} (h2 : k ≠ 2) (h3 : k ≠ 3) : wA (rdS S r p b) r (upd ((rdS S r p b).1 r) k v) = rdS (wA S r (upd (S.1 r) k v)) r p b := by
  unfold rdS
  rw [wA_wA, wA_same, wA_wA, wA_same]
  congr 1
  rw [upd_comm (k := 3) (j := k) h3.symm, upd_comm (k := 2) (j := k) h2.symm]
theorem Tx.rd (X : Tx S r T L) : Tx (rdS S r p b) r T L := by
  obtain ⟨h1, h2, n, h3, h4, h5, h6, h7⟩ := X
  refine ⟨h1, ?_, n, h3, h4, h5, h6, fun k hk => ?_⟩
  · rw [rdS_k (by decide) (by decide)]
    exact h2
  · show (rdS S r p b).1 (S.2.2 r) k = T k
    rw [rdS_ne h6]
    exact h7 k hk
theorem Tx.text (X : Tx S r T L) (hk : q < L) : aI (hp (rdS S r p b) c) (S.2.2 r) (nI q) = some (T q) := by
  obtain ⟨h1, h2, n, h3, h4, h5, h6, h7⟩ := X
  rw [aI_hp h3 (by omega) h5, rdS_ne h6, h7 q hk]
theorem Tx.len (X : Tx S r T L) : (rdS S r p b).1 r 1 = nI L := by
  rw [rdS_k (by decide) (by decide)]
  exact X.2.1
theorem rd_peek_loop (R : isRd r) (X : Tx S r T L) : ∀ (m p n : Nat), p + m = L → m < n → f_X4_peek_b9 n (hp (rdS S r p false) c) r = some (pk T L p, hp (rdS S r (sk T L p) false) c)
  | 0, p, 0, _, h => by omega
  | 0, p, n + 1, hp', _ => by
    have hL := X.1
    rw [f_X4_peek_b9, R.g2, Option.bind_some, R.g1, Option.bind_some, X.len, rdS_at, if_pos (nI_le (by omega) (by omega))]
    unfold f_X4_peek_b47 pk
    rw [R.g2, Option.bind_some, R.g1, Option.bind_some, X.len, rdS_at, if_pos (nI_le (by omega) (by omega)), sk_no (fun z => by omega), if_neg (by omega)]
  | m + 1, p, 0, _, h => by omega
  | m + 1, p, n + 1, hp', hn => by
    have hL := X.1
    rw [f_X4_peek_b9, R.g2, Option.bind_some, R.g1, Option.bind_some, X.len, rdS_at, if_neg (nI_ge (by omega) (by omega)), R.g0, Option.bind_some, Option.bind_some, rdS_22, X.text (by omega), Option.bind_some]
    by_cases e : T p = 32
    · rw [if_pos e, Option.bind_some, nI_1, R.p2, Option.bind_some, rdS_put2, rd_peek_loop R X m (p + 1) n (by omega) (by omega)]
      unfold pk
      rw [sk_yes (p := p) (by omega) e]
    · rw [if_neg e]
      unfold f_X4_peek_b47 pk
      rw [R.g2, Option.bind_some, R.g1, Option.bind_some, X.len, rdS_at, if_neg (nI_ge (by omega) (by omega)), R.g0, Option.bind_some, Option.bind_some, rdS_22, X.text (by omega), Option.bind_some, sk_no (fun z => e z.2), if_pos (by omega)]
theorem rd_peek (R : isRd r) (X : Tx S r T L) (hp' : p ≤ L) : f_X4_peek (hp (rdS S r p false) c) r = some (pk T L p, hp (rdS S r (sk T L p) false) c) := by
  have hL := X.1
  unfold f_X4_peek
  rw [R.ck, Option.bind_some, R.g3, Option.bind_some, rdS_br, if_pos bI_f, rd_peek_loop R X (L - p) p 1048576 (by omega) (by omega)]
theorem rd_peek_br (R : isRd r) : f_X4_peek (hp (rdS S r p true) c) r = some (-1, hp (rdS S r p true) c) := by
  unfold f_X4_peek
  rw [R.ck, Option.bind_some, R.g3, Option.bind_some, rdS_br, if_neg (by decide)]
theorem rd_need (R : isRd r) (X : Tx S r T L) (hp' : p ≤ L) {ch : Int32} : f_X4_need (hp (rdS S r p false) c) r ch = some (hp (if pk T L p = ch then rdS S r (sk T L p + 1) false else rdS S r (sk T L p) true) c) := by
  unfold f_X4_need
  rw [R.ck, Option.bind_some, rd_peek R X hp', Option.bind_some]
  by_cases e : pk T L p = ch
  · rw [if_pos e, if_pos e, R.g2, Option.bind_some, rdS_at, nI_1, R.p2, Option.bind_some, rdS_put2]
  · rw [if_neg e, if_neg e, R.p3, Option.bind_some, rdS_put3']
theorem rd_need_br (R : isRd r) {ch : Int32} (hc : ch ≠ -1) : f_X4_need (hp (rdS S r p true) c) r ch = some (hp (rdS S r p true) c) := by
  unfold f_X4_need
  rw [R.ck, Option.bind_some, rd_peek_br R, Option.bind_some, if_neg hc.symm, R.p3, Option.bind_some, rdS_put3']
theorem rd_take (R : isRd r) (X : Tx S r T L) (hp' : p ≤ L) {ch : Int32} : f_X4_take (hp (rdS S r p false) c) r ch = some (bI (decide (pk T L p = ch)), hp (if pk T L p = ch then rdS S r (sk T L p + 1) false else rdS S r (sk T L p) false) c) := by
  unfold f_X4_take
  rw [R.ck, Option.bind_some, rd_peek R X hp', Option.bind_some]
  by_cases e : pk T L p = ch
  · rw [if_pos e, if_pos e, R.g2, Option.bind_some, rdS_at, nI_1, R.p2, Option.bind_some, rdS_put2, decide_eq_true e]
    rfl
  · rw [if_neg e, if_neg e, decide_eq_false e]
    rfl
theorem rd_take_br (R : isRd r) {ch : Int32} (hc : ch ≠ -1) : f_X4_take (hp (rdS S r p true) c) r ch = some (0, hp (rdS S r p true) c) := by
  unfold f_X4_take
  rw [R.ck, Option.bind_some, rd_peek_br R, Option.bind_some, if_neg hc.symm]
def isDg (u : Int32) : Bool := !decide (u < 48) && !decide (57 < u)
theorem rd_isDigit {h : xa_H} {u : Int32} : f_X4_isDigit h u = some (bI (isDg u)) := by
  unfold f_X4_isDigit isDg
  by_cases e1 : u < 48
  · rw [if_pos e1, decide_eq_true e1]
    rfl
  · rw [if_neg e1, decide_eq_false e1]
    by_cases e2 : 57 < u
    · rw [if_pos e2, decide_eq_true e2]
      rfl
    · rw [if_neg e2, decide_eq_false e2]
      rfl
theorem isDg_m1 : isDg (-1) = false := by decide
/-- digits, m at most: the number and the place behind it -/
def dgF (T : Nat → Int32) (L : Nat) : Nat → Int32 → Nat → Int32 × Nat
  | 0, v, p => (v, p)
  | m + 1, v, p => if p < L ∧ isDg (T p) = true then dgF T L m (10 * v + T p - 48) (p + 1) else (v, p)
theorem dgF_le : ∀ (m : Nat) (v : Int32) (p : Nat), p ≤ L → p ≤ (dgF T L m v p).2 ∧ (dgF T L m v p).2 ≤ L
  | 0, v, p, h => ⟨Nat.le_refl _, h⟩
  | m + 1, v, p, h => by
    show p ≤ (if p < L ∧ isDg (T p) = true then dgF T L m (10 * v + T p - 48) (p + 1) else (v, p)).2 ∧ (if p < L ∧ isDg (T p) = true then dgF T L m (10 * v + T p - 48) (p + 1) else (v, p)).2 ≤ L
    by_cases e : p < L ∧ isDg (T p) = true
    · rw [if_pos e]
      have := dgF_le m (10 * v + T p - 48) (p + 1) (by omega)
      omega
    · rw [if_neg e]
      exact ⟨Nat.le_refl _, h⟩
/-- a number of at most m digits: wrong at, or the number -/
def nmF (T : Nat → Int32) (L m p : Nat) : Nat ⊕ (Int32 × Nat) :=
  if isDg (pk T L p) = true then (if (dgF T L m 0 (sk T L p)).2 < L ∧ isDg (T (dgF T L m 0 (sk T L p)).2) = true then .inl (dgF T L m 0 (sk T L p)).2 else .inr (dgF T L m 0 (sk T L p))) else .inl (sk T L p)
theorem rd_number_loop (R : isRd r) (X : Tx S r T L) {M : Nat} (hM : M < 100) : ∀ (m p n j : Nat) (v : Int32), p ≤ L → j + m = M → m < n → f_X4_number_b21 n (hp (rdS S r p false) c) r (nI M) v (nI j) = some (if (dgF T L m v p).2 < L ∧ isDg (T (dgF T L m v p).2) = true then ((dgF T L m v p).1, hp (rdS S r (dgF T L m v p).2 true) c) else ((dgF T L m v p).1, hp (rdS S r (dgF T L m v p).2 false) c)) := by
  have last : ∀ (p : Nat) (v : Int32), p ≤ L → f_X4_number_b86 (hp (rdS S r p false) c) r v = some (if p < L ∧ isDg (T p) = true then (v, hp (rdS S r p true) c) else (v, hp (rdS S r p false) c)) := by
    intro p v hpL
    have hL := X.1
    unfold f_X4_number_b86 f_X4_number_b117
    rw [R.g2, Option.bind_some, R.g1, Option.bind_some, X.len, rdS_at]
    by_cases e : p < L
    · rw [if_neg (nI_ge (by omega) (by omega)), R.g0, Option.bind_some, Option.bind_some, rdS_22, X.text e, Option.bind_some, rd_isDigit, Option.bind_some]
      cases hd : isDg (T p) with
      | true => rw [if_neg (by decide), R.p3, Option.bind_some, rdS_put3', if_pos ⟨e, rfl⟩]
      | false => rw [if_pos bI_f, if_neg (fun z => by cases z.2)]
    · rw [if_pos (nI_le (by omega) (by omega)), if_neg (fun z => e z.1)]
  intro m
  induction m with
  | zero =>
    intro p n j v hpL hj hn
    obtain ⟨n, rfl⟩ : ∃ q, n = q + 1 := ⟨n - 1, by omega⟩
    rw [f_X4_number_b21, if_pos (nI_le (by omega) (by omega)), last p v hpL]
    rfl
  | succ m ih =>
    intro p n j v hpL hj hn
    obtain ⟨n, rfl⟩ : ∃ q, n = q + 1 := ⟨n - 1, by omega⟩
    have hL := X.1
    rw [f_X4_number_b21, if_neg (nI_ge (by omega) (by omega)), R.g2, Option.bind_some, R.g1, Option.bind_some, X.len, rdS_at]
    by_cases e : p < L
    · rw [if_neg (nI_ge (by omega) (by omega)), R.g0, Option.bind_some, Option.bind_some, rdS_22, X.text e, Option.bind_some, rd_isDigit, Option.bind_some]
      cases hd : isDg (T p) with
      | true =>
        rw [if_neg (by decide), Option.bind_some, Option.bind_some, X.text e, Option.bind_some, Option.bind_some, nI_1, R.p2, Option.bind_some, rdS_put2, nI_1, ih (p + 1) n (j + 1) _ (by omega) (by omega) (by omega)]
        have : dgF T L (m + 1) v p = dgF T L m (10 * v + T p - 48) (p + 1) := by
          show (if p < L ∧ isDg (T p) = true then _ else _) = _
          rw [if_pos ⟨e, hd⟩]
        rw [this]
      | false =>
        rw [if_pos bI_f, last p v hpL]
        have : dgF T L (m + 1) v p = (v, p) := by
          show (if p < L ∧ isDg (T p) = true then _ else _) = _
          rw [if_neg (fun z => by rw [hd] at z; cases z.2)]
        rw [this]
    · rw [if_pos (nI_le (by omega) (by omega)), last p v hpL]
      have : dgF T L (m + 1) v p = (v, p) := by
        show (if p < L ∧ isDg (T p) = true then _ else _) = _
        rw [if_neg (fun z => e z.1)]
      rw [this]
theorem rd_number (R : isRd r) (X : Tx S r T L) {M : Nat} (hM : M < 100) (hpL : p ≤ L) : ∃ v, f_X4_number (hp (rdS S r p false) c) r (nI M) = some (v, hp (match nmF T L M p with | .inl f => rdS S r f true | .inr q => rdS S r q.2 false) c) ∧ ∀ q, nmF T L M p = .inr q → v = q.1 := by
  unfold f_X4_number nmF
  rw [R.ck, Option.bind_some, rd_peek R X hpL, Option.bind_some, rd_isDigit, Option.bind_some]
  cases isDg (pk T L p) with
  | false =>
    refine ⟨0, ?_, fun q z => by cases z⟩
    rw [if_pos bI_f, R.p3, Option.bind_some, rdS_put3']
    rfl
  | true =>
    rw [if_neg (by decide), if_pos rfl, show (0 : Int32) = nI 0 from rfl, rd_number_loop R X hM M (sk T L p) 1048576 0 (nI 0) (sk_le hpL) (by omega) (by omega)]
    by_cases e : (dgF T L M (nI 0) (sk T L p)).2 < L ∧ isDg (T (dgF T L M (nI 0) (sk T L p)).2) = true
    · rw [if_pos e, if_pos e]
      exact ⟨_, rfl, fun q z => by cases z⟩
    · rw [if_neg e, if_neg e]
      exact ⟨_, rfl, fun q z => by cases z; rfl⟩
theorem rd_number_br (R : isRd r) {M : Int32} : f_X4_number (hp (rdS S r p true) c) r M = some (0, hp (rdS S r p true) c) := by
  unfold f_X4_number
  rw [R.ck, Option.bind_some, rd_peek_br R, Option.bind_some, rd_isDigit, Option.bind_some, if_pos (show bI (isDg (-1)) = 0 by decide), R.p3, Option.bind_some, rdS_put3']
end RD
