/-! LAWS: the reference reads them so (sums) -/
def wi (x : Int64) : Int32 := (lmax (-1000000 : Int64) (lmin (1000000 : Int64) x)).toInt32
theorem wi_in {y : Int64} (h1 : -1000000 ≤ y.toInt) (h2 : y.toInt ≤ 1000000) : y.toInt32.toInt = y.toInt := by
  rw [Int64.toInt_toInt32]
  exact Int.bmod_eq_of_le (by omega) (by omega)
theorem wi_toInt (x : Int64) : (wi x).toInt = if x.toInt < -1000000 then -1000000 else if 1000000 < x.toInt then 1000000 else x.toInt := by
  have e1 : (1000000 : Int64).toInt = 1000000 := by decide
  have e2 : (-1000000 : Int64).toInt = -1000000 := by decide
  unfold wi lmax lmin
  by_cases c1 : x < 1000000
  · have d1 := Int64.lt_iff_toInt_lt.mp c1
    rw [if_pos c1]
    by_cases c2 : x < -1000000
    · have d2 := Int64.lt_iff_toInt_lt.mp c2
      rw [if_pos c2, wi_in (by omega) (by omega), if_pos (by omega)]
      exact e2
    · have d2 : ¬ x.toInt < (-1000000 : Int64).toInt := fun z => c2 (Int64.lt_iff_toInt_lt.mpr z)
      rw [if_neg c2, wi_in (by omega) (by omega), if_neg (by omega), if_neg (by omega)]
  · have d1 : ¬ x.toInt < (1000000 : Int64).toInt := fun z => c1 (Int64.lt_iff_toInt_lt.mpr z)
    rw [if_neg c1]
    have c2 : ¬ (1000000 : Int64) < -1000000 := by decide
    rw [if_neg c2, wi_in (by omega) (by omega), if_neg (by omega), e1]
    by_cases c3 : 1000000 < x.toInt
    · rw [if_pos c3]
    · rw [if_neg c3]
      omega
theorem wi_smal (x : Int64) : smal (wi x) := by
  unfold smal
  rw [wi_toInt]
  split
  · omega
  · split <;> omega
theorem tdiv_le {a b : Int} (h1 : -1000000 ≤ a) (h2 : a ≤ 1000000) : -1000000 ≤ a.tdiv b ∧ a.tdiv b ≤ 1000000 := by
  have : (a.tdiv b).natAbs ≤ a.natAbs := by
    rw [Int.natAbs_tdiv]
    exact Nat.div_le_self _ _
  omega
theorem wi_div {l r : Int32} (h : smal l) : wi (l.toInt64 / r.toInt64) = l / r := by
  have t := tdiv_le (b := r.toInt) h.1 h.2
  refine Int32.toInt_inj.mp ?_
  rw [wi_toInt, Int64.toInt_div, Int32.toInt_div, Int32.toInt_toInt64, Int32.toInt_toInt64, Int.bmod_eq_of_le (by omega) (by omega), Int.bmod_eq_of_le (by omega) (by omega), if_neg (by omega), if_neg (by omega)]
theorem div_smal {l r : Int32} (h : smal l) : smal (l / r) := by
  have t := tdiv_le (b := r.toInt) h.1 h.2
  unfold smal
  rw [Int32.toInt_div, Int.bmod_eq_of_le (by omega) (by omega)]
  exact t
theorem sm0 : smal 0 := ⟨by decide, by decide⟩
theorem lg0 {r : Int32} : lg_cmp r.toInt64 0 = 0 ↔ r = 0 := by
  unfold lg_cmp
  constructor
  · intro h
    by_cases c1 : r.toInt64 > 0
    · rw [if_pos c1] at h
      exact absurd h (by decide)
    · rw [if_neg c1] at h
      by_cases c2 : r.toInt64 = 0
      · have := congrArg Int64.toInt c2
        rw [Int32.toInt_toInt64] at this
        exact Int32.toInt_inj.mp this
      · rw [if_neg c2] at h
        exact absurd h (by decide)
  · rintro rfl
    decide
theorem l0_ne {r : Int32} (h : ¬ r = 0) : ¬ r.toInt64 = 0 := fun z => h (by
  have := congrArg Int64.toInt z
  rw [Int32.toInt_toInt64] at this
  exact Int32.toInt_inj.mp this)
theorem X12_within {h : xa_H} {x : Int64} : f_X12_within h x = some (wi x) := rfl
theorem ofn (v : Int32) : ∃ n, v = nI n := ⟨v.toBitVec.toNat, Int32.toBitVec_inj.mp (by
  show v.toBitVec = BitVec.ofNat 32 v.toBitVec.toNat
  rw [BitVec.ofNat_toNat, BitVec.setWidth_eq])⟩
/-- the letters, as the reference has them -/
def ltc (j : Nat) : Nat := if j = 0 then 105 else if j = 1 then 111 else if j = 2 then 116 else if j = 3 then 110 else if j = 4 then 119 else 100
def lt (S : XS) : Nat → Int32 := fun j => S.1 355 (ltc j)
def ltS (S : XS) : Prop := ∀ j, smal (lt S j)
def refR (S : XS) (c : Nat × Nat) (d : Nat) (o : Option (Int32 × xa_H)) : PR → Prop
  | .inl f => ∃ v p d', o = some (v, hp (rfS S p (nI f) d') c)
  | .inr (v, q) => o = some (v (lt S), hp (rfS S q (-1) d) c) ∧ smal (v (lt S))
def refB (S : XS) (c : Nat × Nat) (d : Nat) (o : Option (Int32 × xa_H)) : PR → Prop
  | .inl f => ∃ b p d', o = some (bI b, hp (rfS S p (nI f) d') c)
  | .inr (v, q) => o = some (v (lt S), hp (rfS S q (-1) d) c) ∧ ∃ b, v (lt S) = bI b
theorem lti_c {s : Int32} {j : Nat} (h : lti s = some j) : s = nI (ltc j) ∧ ltc j < 128 := by
  unfold lti at h
  by_cases c1 : s = 105
  · rw [if_pos c1] at h
    cases h
    exact ⟨c1, by decide⟩
  · rw [if_neg c1] at h
    by_cases c2 : s = 111
    · rw [if_pos c2] at h
      cases h
      exact ⟨c2, by decide⟩
    · rw [if_neg c2] at h
      by_cases c3 : s = 116
      · rw [if_pos c3] at h
        cases h
        exact ⟨c3, by decide⟩
      · rw [if_neg c3] at h
        by_cases c4 : s = 110
        · rw [if_pos c4] at h
          cases h
          exact ⟨c4, by decide⟩
        · rw [if_neg c4] at h
          by_cases c5 : s = 119
          · rw [if_pos c5] at h
            cases h
            exact ⟨c5, by decide⟩
          · rw [if_neg c5] at h
            by_cases c6 : s = 100
            · rw [if_pos c6] at h
              cases h
              exact ⟨c6, by decide⟩
            · rw [if_neg c6] at h
              cases h
theorem X12_isAmong_let {h : xa_H} {s : Int32} : f_X12_isAmong h 1000000010 s = some (bI (lti s).isSome) := by
  have l0 : f_X12_isAmong_b2 1048576 h 1000000010 s (nI 0) = fst (fun j => decide ((xs_tab.getD 0 []).getD j 0 = s)) (fun _ => some (1 : Int32)) (some 0) 6 0 := by
    refine lpx (N := 6) (fun n k => f_X12_isAmong_b2 n h 1000000010 s (nI k)) (fun n => ?_) (fun n k hk => ?_) 6 0 1048576 (by omega) (by omega)
    · show f_X12_isAmong_b2 (n + 1) h 1000000010 s (nI 6) = _
      rw [f_X12_isAmong_b2, show sLen 1000000010 = some (nI 6) by decide +kernel, Option.bind_some, if_pos (nI_le (by omega) (by omega))]
    · show f_X12_isAmong_b2 (n + 1) h 1000000010 s (nI k) = _
      have hs : sAt 1000000010 (nI k) = some ((xs_tab.getD 0 []).getD k 0) := by
        rcases (by omega : k = 0 ∨ k = 1 ∨ k = 2 ∨ k = 3 ∨ k = 4 ∨ k = 5) with rfl | rfl | rfl | rfl | rfl | rfl <;> decide +kernel
      rw [f_X12_isAmong_b2, show sLen 1000000010 = some (nI 6) by decide +kernel, Option.bind_some, if_neg (nI_ge (by omega) (by omega)), hs, Option.bind_some, nI_1]
      by_cases e : (xs_tab.getD 0 []).getD k 0 = s
      · rw [if_pos e, decide_eq_true e]
        rfl
      · rw [if_neg e, decide_eq_false e]
        rfl
  unfold f_X12_isAmong
  refine l0.trans ?_
  have d : ∀ (k : Int32), decide (k = s) = decide (s = k) := fun k => by
    rw [decide_eq_decide]
    exact eq_comm
  show (if decide ((105 : Int32) = s) = true then _ else if decide ((111 : Int32) = s) = true then _ else if decide ((116 : Int32) = s) = true then _ else if decide ((110 : Int32) = s) = true then _ else if decide ((119 : Int32) = s) = true then _ else if decide ((100 : Int32) = s) = true then _ else _) = _
  unfold lti
  simp only [d, decide_eq_true_eq]
  by_cases c1 : s = 105
  · rw [if_pos c1, if_pos c1]
    rfl
  · rw [if_neg c1, if_neg c1]
    by_cases c2 : s = 111
    · rw [if_pos c2, if_pos c2]
      rfl
    · rw [if_neg c2, if_neg c2]
      by_cases c3 : s = 116
      · rw [if_pos c3, if_pos c3]
        rfl
      · rw [if_neg c3, if_neg c3]
        by_cases c4 : s = 110
        · rw [if_pos c4, if_pos c4]
          rfl
        · rw [if_neg c4, if_neg c4]
          by_cases c5 : s = 119
          · rw [if_pos c5, if_pos c5]
            rfl
          · rw [if_neg c5, if_neg c5]
            by_cases c6 : s = 100
            · rw [if_pos c6, if_pos c6]
              rfl
            · rw [if_neg c6, if_neg c6]
              rfl
theorem isDg_ex {u : Int32} (h : isDg u = true) : ∃ t, t ≤ 9 ∧ u = nI (t + 48) := by
  unfold isDg at h
  rw [Bool.and_eq_true, Bool.not_eq_true', Bool.not_eq_true', decide_eq_false_iff_not, decide_eq_false_iff_not] at h
  have e1 : ¬ u.toInt < 48 := fun z => h.1 (Int32.lt_iff_toInt_lt.mpr z)
  have e2 : ¬ 57 < u.toInt := fun z => h.2 (Int32.lt_iff_toInt_lt.mpr z)
  refine ⟨(u.toInt - 48).toNat, by omega, Int32.toInt_inj.mp ?_⟩
  rw [nI_toInt (by omega)]
  omega
theorem dg_step {w t : Nat} : (10 : Int32) * nI w + nI (t + 48) - 48 = nI (10 * w + t) := by
  rw [show (10 : Int32) = nI 10 from rfl, pk_mul, nI_add, show (48 : Int32) = nI 48 from rfl, ← nI_add, ← nI_add, ← nI_add, ← Int32.add_assoc, Int32.add_sub_cancel]
theorem dgF_val {T : Nat → Int32} {L : Nat} : ∀ (m w p : Nat), ∃ w', (dgF T L m (nI w) p).1 = nI w' ∧ w' < (w + 1) * 10 ^ m
  | 0, w, p => ⟨w, rfl, by rw [Nat.pow_zero]; omega⟩
  | m + 1, w, p => by
    show ∃ w', (if p < L ∧ isDg (T p) = true then dgF T L m (10 * nI w + T p - 48) (p + 1) else (nI w, p)).1 = nI w' ∧ _
    by_cases e : p < L ∧ isDg (T p) = true
    · obtain ⟨t, t1, t2⟩ := isDg_ex e.2
      obtain ⟨w', h1, h2⟩ := dgF_val (T := T) (L := L) m (10 * w + t) (p + 1)
      refine ⟨w', ?_, ?_⟩
      · rw [if_pos e, t2, dg_step]
        exact h1
      · refine Nat.lt_of_lt_of_le h2 ?_
        rw [Nat.pow_succ, Nat.mul_comm (10 ^ m) 10, ← Nat.mul_assoc]
        exact Nat.mul_le_mul_right _ (by omega)
    · refine ⟨w, by rw [if_neg e], ?_⟩
      have : 1 ≤ 10 ^ (m + 1) := Nat.one_le_pow _ _ (by decide)
      calc w < w + 1 := by omega
        _ = (w + 1) * 1 := by omega
        _ ≤ (w + 1) * 10 ^ (m + 1) := Nat.mul_le_mul_left _ this
section L5
variable {S : XS} {c : Nat × Nat} {T : Nat → Int32} {L p d : Nat}
theorem X12_atom_s {n l0 : Nat} {h : xa_H} : f_X12_atom (n + 1) h l0 = g_X12_atom (f_X12_atom n) (f_X12_sum n) (f_X12_term n) h l0 := rfl
theorem X12_sum_s {n l0 : Nat} {h : xa_H} : f_X12_sum (n + 1) h l0 = g_X12_sum (f_X12_atom n) (f_X12_sum n) (f_X12_term n) h l0 := rfl
theorem X12_term_s {n l0 : Nat} {h : xa_H} : f_X12_term (n + 1) h l0 = g_X12_term (f_X12_atom n) (f_X12_sum n) (f_X12_term n) h l0 := rfl
theorem rf_p10 {f : Int32} : (gI [12] 10 (hp (rfS S p f d) c) 351).bind (fun x1 => xp [12] 10 (hp (rfS S p f d) c) 351 (.int (x1 + 1))) = some (hp (rfS S (p + 1) f d) c) := by
  rw [g351_10, Option.bind_some, rfS_at, nI_1, p351_10, rfS_p10]
theorem X12_num_loop (Y : Ty S T L) {cA cS cT : xa_H → Nat → Option (Int32 × xa_H)} : ∀ (m p n j : Nat) (v : Int32), p ≤ L → j + m = 4 → m < n → f_X12_atom_b90 cA cS cT n (hp (rfS S p (-1) d) c) 351 v (nI j) = some (if (dgF T L m v p).2 < L ∧ isDg (T (dgF T L m v p).2) = true then (0, hp (rfS S (dgF T L m v p).2 (nI (dgF T L m v p).2) d) c) else ((dgF T L m v p).1, hp (rfS S (dgF T L m v p).2 (-1) d) c)) := by
  intro m
  induction m with
  | zero =>
    intro p n j v hp' hj hn
    obtain ⟨n, rfl⟩ : ∃ q, n = q + 1 := ⟨n - 1, by omega⟩
    have : j = 4 := by omega
    subst this
    rw [f_X12_atom_b90, rf_isDigit Y hp', Option.bind_some]
    show _ = some (if p < L ∧ isDg (T p) = true then (0, hp (rfS S p (nI p) d) c) else (v, hp (rfS S p (-1) d) c))
    by_cases e : p < L ∧ isDg (T p) = true
    · rw [if_pos e, decide_eq_true e.1, e.2, if_neg (show ¬ bI (true && true) = 0 by decide), g351_11, Option.bind_some, rfS_f, if_pos rfl, if_pos (by decide), rf_fails, Option.bind_some]
    · have : (decide (p < L) && isDg (T p)) = false := by
        rw [← Bool.not_eq_true, Bool.and_eq_true, decide_eq_true_eq]
        exact e
      rw [if_neg e, this, if_pos bI_f]
      rfl
  | succ m ih =>
    intro p n j v hp' hj hn
    obtain ⟨n, rfl⟩ : ∃ q, n = q + 1 := ⟨n - 1, by omega⟩
    rw [f_X12_atom_b90, rf_isDigit Y hp', Option.bind_some]
    by_cases e : p < L ∧ isDg (T p) = true
    · have hd : dgF T L (m + 1) v p = dgF T L m (10 * v + T p - 48) (p + 1) := by
        show (if p < L ∧ isDg (T p) = true then _ else _) = _
        rw [if_pos e]
      obtain ⟨u, bg, hb, hv, hg⟩ := Y.get (c := c) e.1
      have hu := hv.tab.2.2 e.2
      rw [hd, decide_eq_true e.1, e.2, if_neg (show ¬ bI (true && true) = 0 by decide), g351_11, Option.bind_some, rfS_f, if_pos rfl, if_neg (fun z => by rw [show (4 : Int32) = nI 4 from rfl, nI_eq (by omega) (by decide)] at z; omega), g351_5, Option.bind_some, g351_8, Option.bind_some, g351_10, Option.bind_some, rfS_22, Y.bg, hb, rfS_at, nI_add, hg, Option.bind_some, Option.bind_some, nI_1, p351_10, Option.bind_some, rfS_p10, nI_1, hu]
      exact ih (p + 1) n (j + 1) _ (by omega) (by omega) (by omega)
    · have hd : dgF T L (m + 1) v p = (v, p) := by
        show (if p < L ∧ isDg (T p) = true then _ else _) = _
        rw [if_neg e]
      have : (decide (p < L) && isDg (T p)) = false := by
        rw [← Bool.not_eq_true, Bool.and_eq_true, decide_eq_true_eq]
        exact e
      rw [hd, this, if_pos bI_f]
      show some (v, _) = some (if p < L ∧ isDg (T p) = true then _ else _)
      rw [if_neg e]
def OKs (f : Nat → xa_H → Nat → Option (Int32 × xa_H)) (S : XS) (c : Nat × Nat) (L d : Nat) (it : Nat → PR) (B : Nat) : Prop := ∀ n, B ≤ n → ∀ p, p ≤ L → refR S c d (f n (hp (rfS S p (-1) d) c) 351) (it p)
theorem sub1 {n : Nat} : nI (n + 1) - 1 = nI n := nI_pred n
theorem X12_atom_ok {k B : Nat} (Y : Ty S T L) (hl : ltS S) (hd : d + k = 6) (O : ∀ k', k = k' + 1 → OKs f_X12_sum S c L (d + 1) (pSm T L k') B) : OKs f_X12_atom S c L d (pAtK T L k) (B + 1) := by
  intro n hn p hp'
  obtain ⟨n, rfl⟩ : ∃ q, n = q + 1 := ⟨n - 1, by omega⟩
  have hs := sk_le (T := T) hp'
  have hL := Y.1
  rw [X12_atom_s]
  unfold g_X12_atom
  rw [k351, Option.bind_some, rf_look Y hp', Option.bind_some, X12_isAmong_let, Option.bind_some]
  have ev : pAtK T L k p = pAt T L (match k with | 0 => none | k' + 1 => some (pSm T L k')) p := by cases k <;> rfl
  rw [ev]
  unfold pAt
  cases hlt : lti (pk T L p) with
  | some j =>
    obtain ⟨j1, j2⟩ := lti_c hlt
    have e91 : ¬ pk T L p = 91 := fun z => by
      rw [z, show lti 91 = none by decide] at hlt
      cases hlt
    rw [if_neg (show ¬ bI (some j).isSome = 0 from (by decide : ¬ (1 : Int32) = 0)), if_neg e91, g351_10, Option.bind_some, rfS_at, nI_1, p351_10, Option.bind_some, rfS_p10, g351_4, Option.bind_some, j1, a355 j2, Option.bind_some, rfS_ne (by decide)]
    exact ⟨rfl, hl j⟩
  | none =>
    rw [if_pos (show bI (none : Option Nat).isSome = 0 from rfl)]
    by_cases e : pk T L p = 91
    · rw [if_pos e, if_pos e]
      have h1 := pk_sk1 (T := T) (L := L) (p := p) (by rw [e]; decide)
      cases k with
      | zero =>
        have : d = 6 := by omega
        subst this
        rw [rf_goesIn6, Option.bind_some, if_pos rfl]
        exact ⟨_, _, _, rfl⟩
      | succ k' =>
        rw [rf_goesIn (by omega), Option.bind_some, if_neg (show ¬ (1 : Int32) = 0 by decide)]
        have hO := O k' rfl n (by omega) (sk T L p + 1) h1.1
        have hm := pSm_mono (T := T) (L := L) k' (sk T L p + 1) h1.1
        dsimp only
        cases he : pSm T L k' (sk T L p + 1) with
        | inl f =>
          rw [he] at hO
          obtain ⟨w, p', d', hw⟩ := hO
          have hf : nI f ≠ -1 := m1_ne (by have := hm.1 f he; omega)
          rw [hw, Option.bind_some, rf_takes_f hf, Option.bind_some, if_pos rfl]
          exact ⟨_, _, _, rfl⟩
        | inr wq =>
          obtain ⟨w, q⟩ := wq
          rw [he] at hO
          obtain ⟨hw, hsm⟩ := hO
          rw [hw, Option.bind_some, rf_takes Y (hm.2 w q he).2, Option.bind_some]
          unfold pClose
          dsimp only
          by_cases e2 : pk T L q = 93
          · rw [decide_eq_true e2, if_neg (show ¬ bI true = 0 by decide), if_pos e2, if_pos e2, g351_12, Option.bind_some, rfS_d, sub1, p351_12, Option.bind_some, rfS_p12]
            exact ⟨rfl, hsm⟩
          · rw [decide_eq_false e2, if_pos (show bI false = 0 from rfl), if_neg e2, if_neg e2]
            exact ⟨_, _, _, rfl⟩
    · rw [if_neg e, if_neg e, rf_isDigit Y hs, Option.bind_some]
      have hdg : (decide (sk T L p < L) && isDg (T (sk T L p))) = isDg (pk T L p) := by
        unfold pk
        by_cases z : sk T L p < L
        · rw [if_pos z, decide_eq_true z, Bool.true_and]
        · rw [if_neg z, decide_eq_false z, Bool.false_and]
          rfl
      rw [hdg]
      unfold f_X12_atom_b86 nmF
      cases hg : isDg (pk T L p) with
      | false =>
        rw [if_pos bI_f, rf_fails, Option.bind_some, if_neg (by decide)]
        rw [hg] at hdg
        rw [show (1048576 : Nat) = 1048575 + 1 from rfl, f_X12_atom_b90, rf_isDigit Y hs, Option.bind_some, hdg, if_pos bI_f]
        exact ⟨_, _, _, rfl⟩
      | true =>
        rw [if_neg (show ¬ bI true = 0 by decide), if_pos rfl]
        have h0 := X12_num_loop (c := c) (d := d) (cA := f_X12_atom n) (cS := f_X12_sum n) (cT := f_X12_term n) Y 4 (sk T L p) 1048576 0 0 hs (by omega) (by omega)
        have h0' : f_X12_atom_b90 (f_X12_atom n) (f_X12_sum n) (f_X12_term n) 1048576 (hp (rfS S (sk T L p) (-1) d) c) 351 0 0 = _ := h0
        rw [h0']
        obtain ⟨w', w1, w2⟩ := dgF_val (T := T) (L := L) 4 0 (sk T L p)
        have w1' : (dgF T L 4 0 (sk T L p)).1 = nI w' := w1
        by_cases e2 : (dgF T L 4 0 (sk T L p)).2 < L ∧ isDg (T (dgF T L 4 0 (sk T L p)).2) = true
        · rw [if_pos e2, if_pos e2]
          exact ⟨_, _, _, rfl⟩
        · rw [if_neg e2, if_neg e2]
          refine ⟨rfl, ?_⟩
          show smal (dgF T L 4 0 (sk T L p)).1
          rw [w1']
          unfold smal
          rw [nI_toInt (by omega)]
          omega
theorem X12_term_loop {n0 : Nat} {it : Nat → PR} (Y : Ty S T L) (M : mono it L) (hit : ∀ p, p ≤ L → refR S c d (f_X12_atom n0 (hp (rfS S p (-1) d) c) 351) (it p)) {cS cT : xa_H → Nat → Option (Int32 × xa_H)} : ∀ (m p n : Nat) (v : PV), p ≤ L → L < p + m → m < n → smal (v (lt S)) → refR S c d (f_X12_term_b5 (f_X12_atom n0) cS cT n (hp (rfS S p (-1) d) c) 351 (v (lt S))) (pRow T L it 42 47 m v p)
  | 0, p, n, v, hp', hm, hn, hv => by omega
  | m + 1, p, 0, v, hp', hm, hn, hv => by omega
  | m + 1, p, n + 1, v, hp', hm, hn, hv => by
    have hs := sk_le (T := T) hp'
    have hL := Y.1
    unfold pRow
    rw [f_X12_term_b5, g351_11, Option.bind_some, rfS_f, if_pos rfl, rf_look Y hp', Option.bind_some, rf_look Y hs, Option.bind_some, pk_sk, sk_sk]
    have go : (pk T L p = 42 ∨ pk T L p = 47) → refR S c d (f_X12_term_b31 (f_X12_atom n0) cS cT (fun h l0 l1 => f_X12_term_b5 (f_X12_atom n0) cS cT n h l0 l1) (hp (rfS S (sk T L p) (-1) d) c) 351 (v (lt S))) (if pk T L p = 42 ∨ pk T L p = 47 then (match it (sk T L p + 1) with | .inl f => .inl f | .inr (w, p') => pRow T L it 42 47 m (fun l => jn (v l) (pk T L p) (w l)) p') else .inr (v, sk T L p)) := by
      intro g
      rw [if_pos g]
      have hne : pk T L p ≠ -1 := by rcases g with g | g <;> rw [g] <;> decide
      have h1 := pk_sk1 hne
      have hi := hit (sk T L p + 1) h1.1
      have hmo := M (sk T L p + 1) h1.1
      unfold f_X12_term_b31 f_X12_term_b45 f_X12_term_b87
      rw [rf_look Y hs, Option.bind_some, pk_sk, sk_sk]
      cases he : it (sk T L p + 1) with
      | inl f =>
        rw [he] at hi
        obtain ⟨w, p', d', hw⟩ := hi
        have hf : nI f ≠ -1 := m1_ne (by have := hmo.1 f he; omega)
        obtain ⟨n, rfl⟩ : ∃ q, n = q + 1 := ⟨n - 1, by omega⟩
        have stop : ∀ u, f_X12_term_b5 (f_X12_atom n0) cS cT (n + 1) (hp (rfS S p' (nI f) d') c) 351 u = some (u, hp (rfS S p' (nI f) d') c) := by
          intro u
          rw [f_X12_term_b5, g351_11, Option.bind_some, rfS_f, if_neg hf]
          rfl
        by_cases e42 : pk T L p = 42
        · rw [if_pos e42, g351_10, Option.bind_some, rfS_at, nI_1, p351_10, Option.bind_some, rfS_p10, hw, Option.bind_some, if_neg (show ¬ (1 : Int32) = 0 by decide), X12_within, Option.bind_some]
          exact ⟨_, _, _, stop _⟩
        · rw [if_neg e42, g351_10, Option.bind_some, rfS_at, nI_1, p351_10, Option.bind_some, rfS_p10, hw, Option.bind_some, if_pos (show (0 : Int32) = 0 from rfl)]
          by_cases z : w = 0
          · rw [if_pos (lg0.mpr z), X12_within, Option.bind_some]
            exact ⟨_, _, _, stop _⟩
          · rw [if_neg (fun y => z (lg0.mp y)), if_neg (l0_ne z), X12_within, Option.bind_some]
            exact ⟨_, _, _, stop _⟩
      | inr wq =>
        obtain ⟨w, q⟩ := wq
        rw [he] at hi
        obtain ⟨hw, hsm⟩ := hi
        have hq := hmo.2 w q he
        have ih := fun hv' => X12_term_loop Y M hit (cS := cS) (cT := cT) m q n (fun l => jn (v l) (pk T L p) (w l)) hq.2 (by omega) (by omega) hv'
        by_cases e42 : pk T L p = 42
        · rw [if_pos e42, g351_10, Option.bind_some, rfS_at, nI_1, p351_10, Option.bind_some, rfS_p10, hw, Option.bind_some, if_neg (show ¬ (1 : Int32) = 0 by decide), X12_within, Option.bind_some]
          have ej : jn (v (lt S)) (pk T L p) (w (lt S)) = wi ((v (lt S)).toInt64 * (w (lt S)).toInt64) := by
            unfold jn
            rw [e42, if_neg (by decide), if_pos rfl]
            rfl
          rw [ej] at ih
          exact ih (wi_smal _)
        · have e47 : pk T L p = 47 := g.resolve_left e42
          rw [if_neg e42, g351_10, Option.bind_some, rfS_at, nI_1, p351_10, Option.bind_some, rfS_p10, hw, Option.bind_some, if_pos (show (0 : Int32) = 0 from rfl)]
          have ej : jn (v (lt S)) (pk T L p) (w (lt S)) = if w (lt S) = 0 then 0 else v (lt S) / w (lt S) := by
            unfold jn
            rw [e47, if_neg (by decide), if_neg (by decide), if_neg (by decide), if_neg (by decide), if_neg (by decide)]
          rw [ej] at ih
          by_cases z : w (lt S) = 0
          · rw [if_pos z] at ih
            rw [if_pos (lg0.mpr z), X12_within, Option.bind_some]
            exact ih sm0
          · rw [if_neg z] at ih
            rw [if_neg (fun y => z (lg0.mp y)), if_neg (l0_ne z), X12_within, Option.bind_some, wi_div hv]
            exact ih (div_smal hv)
    by_cases e1 : pk T L p = 42
    · rw [if_pos e1]
      exact go (Or.inl e1)
    · rw [if_neg e1]
      by_cases e2 : pk T L p = 47
      · rw [if_pos e2]
        exact go (Or.inr e2)
      · rw [if_neg e2, if_neg (fun z => z.elim e1 e2)]
        exact ⟨rfl, hv⟩
theorem X12_sum_loop {n0 : Nat} {it : Nat → PR} (Y : Ty S T L) (M : mono it L) (hit : ∀ p, p ≤ L → refR S c d (f_X12_term n0 (hp (rfS S p (-1) d) c) 351) (it p)) {cA cS : xa_H → Nat → Option (Int32 × xa_H)} : ∀ (m p n : Nat) (v : PV), p ≤ L → L < p + m → m < n → smal (v (lt S)) → refR S c d (f_X12_sum_b5 cA cS (f_X12_term n0) n (hp (rfS S p (-1) d) c) 351 (v (lt S))) (pRow T L it 43 45 m v p)
  | 0, p, n, v, hp', hm, hn, hv => by omega
  | m + 1, p, 0, v, hp', hm, hn, hv => by omega
  | m + 1, p, n + 1, v, hp', hm, hn, hv => by
    have hs := sk_le (T := T) hp'
    have hL := Y.1
    unfold pRow
    rw [f_X12_sum_b5, g351_11, Option.bind_some, rfS_f, if_pos rfl, rf_look Y hp', Option.bind_some, rf_look Y hs, Option.bind_some, pk_sk, sk_sk]
    have go : (pk T L p = 43 ∨ pk T L p = 45) → refR S c d (f_X12_sum_b31 cA cS (f_X12_term n0) (fun h l0 l1 => f_X12_sum_b5 cA cS (f_X12_term n0) n h l0 l1) (hp (rfS S (sk T L p) (-1) d) c) 351 (v (lt S))) (if pk T L p = 43 ∨ pk T L p = 45 then (match it (sk T L p + 1) with | .inl f => .inl f | .inr (w, p') => pRow T L it 43 45 m (fun l => jn (v l) (pk T L p) (w l)) p') else .inr (v, sk T L p)) := by
      intro g
      rw [if_pos g]
      have hne : pk T L p ≠ -1 := by rcases g with g | g <;> rw [g] <;> decide
      have h1 := pk_sk1 hne
      have hi := hit (sk T L p + 1) h1.1
      have hmo := M (sk T L p + 1) h1.1
      unfold f_X12_sum_b31 f_X12_sum_b45 f_X12_sum_b77
      rw [rf_look Y hs, Option.bind_some, pk_sk, sk_sk]
      cases he : it (sk T L p + 1) with
      | inl f =>
        rw [he] at hi
        obtain ⟨w, p', d', hw⟩ := hi
        have hf : nI f ≠ -1 := m1_ne (by have := hmo.1 f he; omega)
        obtain ⟨n, rfl⟩ : ∃ q, n = q + 1 := ⟨n - 1, by omega⟩
        have stop : ∀ u, f_X12_sum_b5 cA cS (f_X12_term n0) (n + 1) (hp (rfS S p' (nI f) d') c) 351 u = some (u, hp (rfS S p' (nI f) d') c) := by
          intro u
          rw [f_X12_sum_b5, g351_11, Option.bind_some, rfS_f, if_neg hf]
          rfl
        by_cases e42 : pk T L p = 43
        · rw [if_pos e42, g351_10, Option.bind_some, rfS_at, nI_1, p351_10, Option.bind_some, rfS_p10, hw, Option.bind_some, if_neg (show ¬ (1 : Int32) = 0 by decide), X12_within, Option.bind_some]
          exact ⟨_, _, _, stop _⟩
        · rw [if_neg e42, g351_10, Option.bind_some, rfS_at, nI_1, p351_10, Option.bind_some, rfS_p10, hw, Option.bind_some, if_pos (show (0 : Int32) = 0 from rfl), X12_within, Option.bind_some]
          exact ⟨_, _, _, stop _⟩
      | inr wq =>
        obtain ⟨w, q⟩ := wq
        rw [he] at hi
        obtain ⟨hw, hsm⟩ := hi
        have hq := hmo.2 w q he
        have ih := fun hv' => X12_sum_loop Y M hit (cA := cA) (cS := cS) m q n (fun l => jn (v l) (pk T L p) (w l)) hq.2 (by omega) (by omega) hv'
        by_cases e42 : pk T L p = 43
        · rw [if_pos e42, g351_10, Option.bind_some, rfS_at, nI_1, p351_10, Option.bind_some, rfS_p10, hw, Option.bind_some, if_neg (show ¬ (1 : Int32) = 0 by decide), X12_within, Option.bind_some]
          have ej : jn (v (lt S)) (pk T L p) (w (lt S)) = wi ((v (lt S)).toInt64 + (w (lt S)).toInt64) := by
            unfold jn
            rw [e42, if_neg (by decide), if_neg (by decide), if_pos rfl]
            rfl
          rw [ej] at ih
          exact ih (wi_smal _)
        · have e47 : pk T L p = 45 := g.resolve_left e42
          rw [if_neg e42, g351_10, Option.bind_some, rfS_at, nI_1, p351_10, Option.bind_some, rfS_p10, hw, Option.bind_some, if_pos (show (0 : Int32) = 0 from rfl), X12_within, Option.bind_some]
          have ej : jn (v (lt S)) (pk T L p) (w (lt S)) = wi ((v (lt S)).toInt64 - (w (lt S)).toInt64) := by
            unfold jn
            rw [e47, if_neg (by decide), if_neg (by decide), if_neg (by decide), if_pos rfl]
            rfl
          rw [ej] at ih
          exact ih (wi_smal _)
    by_cases e1 : pk T L p = 43
    · rw [if_pos e1]
      exact go (Or.inl e1)
    · rw [if_neg e1]
      by_cases e2 : pk T L p = 45
      · rw [if_pos e2]
        exact go (Or.inr e2)
      · rw [if_neg e2, if_neg (fun z => z.elim e1 e2)]
        exact ⟨rfl, hv⟩
theorem X12_term_ok {B : Nat} {it : Nat → PR} (Y : Ty S T L) (M : mono it L) (O : OKs f_X12_atom S c L d it B) : OKs f_X12_term S c L d (pTmG T L it) (B + 1) := by
  intro n hn p hp'
  obtain ⟨n, rfl⟩ : ∃ q, n = q + 1 := ⟨n - 1, by omega⟩
  have hL := Y.1
  have hi := O n (by omega) p hp'
  have hm := M p hp'
  rw [X12_term_s]
  unfold g_X12_term pTmG pSeq
  rw [k351, Option.bind_some]
  cases he : it p with
  | inl f =>
    rw [he] at hi
    obtain ⟨w, p', d', hw⟩ := hi
    have hf : nI f ≠ -1 := m1_ne (by have := hm.1 f he; omega)
    rw [hw, Option.bind_some, show (1048576 : Nat) = 1048575 + 1 from rfl, f_X12_term_b5, g351_11, Option.bind_some, rfS_f, if_neg hf]
    exact ⟨_, _, _, rfl⟩
  | inr wq =>
    obtain ⟨w, q⟩ := wq
    rw [he] at hi
    obtain ⟨hw, hsm⟩ := hi
    rw [hw, Option.bind_some]
    exact X12_term_loop Y M (fun p hp' => O n (by omega) p hp') (L + 1) q 1048576 w (hm.2 w q he).2 (by omega) (by omega) hsm
theorem X12_sumG_ok {B : Nat} {it : Nat → PR} (Y : Ty S T L) (M : mono it L) (O : OKs f_X12_term S c L d it B) : OKs f_X12_sum S c L d (pSeq T L it 43 45) (B + 1) := by
  intro n hn p hp'
  obtain ⟨n, rfl⟩ : ∃ q, n = q + 1 := ⟨n - 1, by omega⟩
  have hL := Y.1
  have hi := O n (by omega) p hp'
  have hm := M p hp'
  rw [X12_sum_s]
  unfold g_X12_sum pSeq
  rw [k351, Option.bind_some]
  cases he : it p with
  | inl f =>
    rw [he] at hi
    obtain ⟨w, p', d', hw⟩ := hi
    have hf : nI f ≠ -1 := m1_ne (by have := hm.1 f he; omega)
    rw [hw, Option.bind_some, show (1048576 : Nat) = 1048575 + 1 from rfl, f_X12_sum_b5, g351_11, Option.bind_some, rfS_f, if_neg hf]
    exact ⟨_, _, _, rfl⟩
  | inr wq =>
    obtain ⟨w, q⟩ := wq
    rw [he] at hi
    obtain ⟨hw, hsm⟩ := hi
    rw [hw, Option.bind_some]
    exact X12_sum_loop Y M (fun p hp' => O n (by omega) p hp') (L + 1) q 1048576 w (hm.2 w q he).2 (by omega) (by omega) hsm
theorem X12_sum_ok (Y : Ty S T L) (hl : ltS S) : ∀ (k d : Nat), d + k = 6 → OKs f_X12_sum S c L d (pSm T L k) (3 + 3 * k)
  | 0, d, hd => by
    have h1 := X12_atom_ok (c := c) (k := 0) (B := 0) Y hl hd (fun k' z => by omega)
    have h2 := X12_sumG_ok Y (pTm_mono 0) (X12_term_ok Y (pAtK_mono 0) h1)
    intro n hn
    rw [pSm_eq]
    exact h2 n (by omega)
  | k + 1, d, hd => by
    have h0 := X12_sum_ok Y hl k (d + 1) (by omega)
    have h1 := X12_atom_ok (c := c) (k := k + 1) (B := 3 + 3 * k) Y hl hd (fun k' z => by
      have : k' = k := by omega
      subst this
      exact h0)
    have h2 := X12_sumG_ok Y (pTm_mono (k + 1)) (X12_term_ok Y (pAtK_mono (k + 1)) h1)
    intro n hn
    rw [pSm_eq]
    exact h2 n (by omega)
end L5
