/-! LAWS: the reference reads them so (conditions, clauses, laws) -/
def pThen (T : Nat → Int32) (L : Nat) (it : Nat → PR) (s1 s2 : Int32) (r : PR) : PR := match r with | .inl f => .inl f | .inr (v, q) => pRow T L it s1 s2 (L + 1) v q
theorem pSeq_then {T : Nat → Int32} {L : Nat} {it : Nat → PR} {s1 s2 : Int32} {p : Nat} : pSeq T L it s1 s2 p = pThen T L it s1 s2 (it p) := rfl
section L6
variable {S : XS} {c : Nat × Nat} {T : Nat → Int32} {L p d : Nat}
theorem X12_cond_s {n l0 : Nat} {h : xa_H} {l1 l2 : Int32} : f_X12_condition (n + 1) h l0 l1 l2 = g_X12_condition (f_X12_condition n) (f_X12_part n) (f_X12_unit n) h l0 l1 l2 := rfl
theorem X12_part_s {n l0 : Nat} {h : xa_H} {l1 l2 : Int32} : f_X12_part (n + 1) h l0 l1 l2 = g_X12_part (f_X12_condition n) (f_X12_part n) (f_X12_unit n) h l0 l1 l2 := rfl
theorem X12_unit_s {n l0 : Nat} {h : xa_H} : f_X12_unit (n + 1) h l0 = g_X12_unit (f_X12_condition n) (f_X12_part n) (f_X12_unit n) h l0 := rfl
theorem X12_isSign {h : xa_H} {s : Int32} : f_X12_isSign h s = some (bI (isCm s)) := by
  unfold f_X12_isSign f_X12_isSign_b18 isCm
  by_cases c1 : s = 61
  · rw [if_pos c1, decide_eq_true c1]
    rfl
  · rw [if_neg c1, decide_eq_false c1]
    by_cases c2 : s = 60
    · rw [if_pos c2, decide_eq_true c2]
      rfl
    · rw [if_neg c2, decide_eq_false c2]
      by_cases c3 : s = 62
      · rw [if_pos c3, decide_eq_true c3]
        rfl
      · rw [if_neg c3, decide_eq_false c3]
        rfl
theorem cmp_b {s u v : Int32} : ∃ b, cmp s u v = bI b := by
  unfold cmp
  split
  · split
    · exact ⟨true, rfl⟩
    · exact ⟨false, rfl⟩
  · split
    · split
      · exact ⟨false, rfl⟩
      · exact ⟨true, rfl⟩
    · split
      · exact ⟨false, rfl⟩
      · exact ⟨true, rfl⟩
theorem X12_b12_f {f s : Int32} (hf : f ≠ -1) : f_X12_compares_b12 (hp (rfS S p f d) c) 351 s = some (0, hp (rfS S p f d) c) := by
  unfold f_X12_compares_b12
  rw [g351_11, Option.bind_some, rfS_f, if_neg hf]
theorem X12_b12_ok (Y : Ty S T L) (hl : ltS S) {k : Nat} (hd : d + k = 6) (hp' : p ≤ L) {v : PV} : refB S c d (f_X12_compares_b12 (hp (rfS S p (-1) d) c) 351 (v (lt S))) (pCm T L k v p) := by
  have hL := Y.1
  unfold f_X12_compares_b12 pCm
  rw [g351_11, Option.bind_some, rfS_f, if_pos rfl, rf_look Y hp', Option.bind_some, X12_isSign, Option.bind_some]
  cases hc : isCm (pk T L p) with
  | false =>
    rw [if_pos bI_f, rf_fails, Option.bind_some, zq0, Option.bind_some, if_neg (by decide)]
    exact ⟨false, _, _, rfl⟩
  | true =>
    have h1 := pk_sk1 (T := T) (L := L) (p := p) (isCm_ne hc)
    have hi := X12_sum_ok (c := c) Y hl k d hd 120 (by omega) (sk T L p + 1) h1.1
    have hm := pSm_mono (T := T) (L := L) k (sk T L p + 1) h1.1
    rw [if_neg (show ¬ bI true = 0 by decide), g351_10, Option.bind_some, rfS_at, nI_1, p351_10, Option.bind_some, rfS_p10, if_pos rfl]
    have fin : ∀ (w : Int32) (h : xa_H), (if pk T L p = 61 then (if v (lt S) = w then some ((1 : Int32), h) else some (0, h)) else if pk T L p = 60 then (if w ≤ v (lt S) then some (0, h) else some (1, h)) else (if v (lt S) ≤ w then some (0, h) else some (1, h))) = some (cmp (pk T L p) (v (lt S)) w, h) := by
      intro w h
      unfold cmp
      split <;> (try split) <;> (try split) <;> rfl
    cases he : pSm T L k (sk T L p + 1) with
    | inl f =>
      rw [he] at hi
      obtain ⟨w, p', d', hw⟩ := hi
      rw [hw, Option.bind_some]
      obtain ⟨b, hb⟩ := cmp_b (s := pk T L p) (u := v (lt S)) (v := w)
      exact ⟨b, p', d', (fin w _).trans (by rw [hb])⟩
    | inr wq =>
      rw [he] at hi
      obtain ⟨hw, hsm⟩ := hi
      rw [hw, Option.bind_some]
      exact ⟨fin _ _, cmp_b⟩
def OKb (f : Nat → xa_H → Nat → Option (Int32 × xa_H)) (S : XS) (c : Nat × Nat) (L d : Nat) (it : Nat → PR) (B : Nat) : Prop := ∀ n, B ≤ n → ∀ p, p ≤ L → refB S c d (f n (hp (rfS S p (-1) d) c) 351) (it p)
def fpart (n : Nat) (h : xa_H) (a : Nat) : Option (Int32 × xa_H) := f_X12_part n h a 0 0
def fcond (n : Nat) (h : xa_H) (a : Nat) : Option (Int32 × xa_H) := f_X12_condition n h a 0 0
theorem jn38 {a b : Bool} : jn (bI a) 38 (bI b) = bI (a && b) := by cases a <;> cases b <;> decide
theorem jn124 {a b : Bool} : jn (bI a) 124 (bI b) = bI (a || b) := by cases a <;> cases b <;> decide
theorem X12_part_loop {n0 : Nat} {it : Nat → PR} (Y : Ty S T L) (M : mono it L) (hit : ∀ p, p ≤ L → refB S c d (f_X12_unit n0 (hp (rfS S p (-1) d) c) 351) (it p)) {cC cP : xa_H → Nat → Int32 → Int32 → Option (Int32 × xa_H)} : ∀ (m p n : Nat) (v : PV), p ≤ L → L < p + m → m < n → (∃ b, v (lt S) = bI b) → refB S c d (f_X12_part_b18 cC cP (f_X12_unit n0) n (hp (rfS S p (-1) d) c) 351 (v (lt S))) (pRow T L it 38 38 m v p)
  | 0, p, n, v, hp', hm, hn, hv => by omega
  | m + 1, p, 0, v, hp', hm, hn, hv => by omega
  | m + 1, p, n + 1, v, hp', hm, hn, hv => by
    have hL := Y.1
    obtain ⟨vb, hvb⟩ := hv
    unfold pRow
    rw [f_X12_part_b18, g351_11, Option.bind_some, rfS_f, if_pos rfl, rf_look Y hp', Option.bind_some]
    unfold f_X12_part_b64 f_X12_part_b65 f_X12_part_b69
    by_cases e : pk T L p = 38
    · rw [if_pos e, if_pos (Or.inl e)]
      have h1 := pk_sk1 (T := T) (L := L) (p := p) (by rw [e]; decide)
      have hi := hit (sk T L p + 1) h1.1
      have hmo := M (sk T L p + 1) h1.1
      rw [g351_10, Option.bind_some, rfS_at, nI_1, p351_10, Option.bind_some, rfS_p10]
      cases he : it (sk T L p + 1) with
      | inl f =>
        rw [he] at hi
        obtain ⟨w, p', d', hw⟩ := hi
        have hf : nI f ≠ -1 := m1_ne (by have := hmo.1 f he; omega)
        obtain ⟨n, rfl⟩ : ∃ q, n = q + 1 := ⟨n - 1, by omega⟩
        have stop : ∀ b, f_X12_part_b18 cC cP (f_X12_unit n0) (n + 1) (hp (rfS S p' (nI f) d') c) 351 (bI b) = some (bI b, hp (rfS S p' (nI f) d') c) := by
          intro b
          rw [f_X12_part_b18, g351_11, Option.bind_some, rfS_f, if_neg hf]
          unfold f_X12_part_b69
          rw [zqb, Option.bind_some]
        rw [hw, Option.bind_some, hvb]
        cases vb with
        | false =>
          rw [if_pos bI_f]
          exact ⟨false, _, _, stop false⟩
        | true =>
          rw [if_neg (show ¬ bI true = 0 by decide)]
          cases w with
          | false =>
            rw [if_pos bI_f]
            exact ⟨false, _, _, stop false⟩
          | true =>
            rw [if_neg (show ¬ bI true = 0 by decide)]
            exact ⟨true, _, _, stop true⟩
      | inr wq =>
        obtain ⟨w, q⟩ := wq
        rw [he] at hi
        obtain ⟨hw, wb, hwb⟩ := hi
        have hq := hmo.2 w q he
        have hj : jn (v (lt S)) (pk T L p) (w (lt S)) = bI (vb && wb) := by rw [e, hvb, hwb, jn38]
        have ih := X12_part_loop Y M hit (cC := cC) (cP := cP) m q n (fun l => jn (v l) (pk T L p) (w l)) hq.2 (by omega) (by omega) ⟨_, hj⟩
        have ih' : refB S c d (f_X12_part_b18 cC cP (f_X12_unit n0) n (hp (rfS S q (-1) d) c) 351 (jn (v (lt S)) (pk T L p) (w (lt S)))) _ := ih
        rw [hj] at ih'
        rw [hw, Option.bind_some, hvb, hwb]
        cases vb with
        | false =>
          rw [if_pos bI_f]
          exact ih'
        | true =>
          rw [if_neg (show ¬ bI true = 0 by decide)]
          cases wb with
          | false =>
            rw [if_pos bI_f]
            exact ih'
          | true =>
            rw [if_neg (show ¬ bI true = 0 by decide)]
            exact ih'
    · rw [if_neg e, if_neg (fun z => z.elim e e), hvb, zqb, Option.bind_some]
      exact ⟨by rw [hvb], vb, hvb⟩
theorem X12_cond_loop {n0 : Nat} {it : Nat → PR} (Y : Ty S T L) (M : mono it L) (hit : ∀ p, p ≤ L → refB S c d (fpart n0 (hp (rfS S p (-1) d) c) 351) (it p)) {cC : xa_H → Nat → Int32 → Int32 → Option (Int32 × xa_H)} {cU : xa_H → Nat → Option (Int32 × xa_H)} : ∀ (m p n : Nat) (v : PV), p ≤ L → L < p + m → m < n → (∃ b, v (lt S) = bI b) → refB S c d (f_X12_condition_b7 cC (f_X12_part n0) cU n (hp (rfS S p (-1) d) c) 351 (v (lt S))) (pRow T L it 124 124 m v p)
  | 0, p, n, v, hp', hm, hn, hv => by omega
  | m + 1, p, 0, v, hp', hm, hn, hv => by omega
  | m + 1, p, n + 1, v, hp', hm, hn, hv => by
    have hL := Y.1
    obtain ⟨vb, hvb⟩ := hv
    unfold pRow
    rw [f_X12_condition_b7, g351_11, Option.bind_some, rfS_f, if_pos rfl, rf_look Y hp', Option.bind_some]
    unfold f_X12_condition_b51 f_X12_condition_b56 f_X12_condition_b60
    by_cases e : pk T L p = 124
    · rw [if_pos e, if_pos (Or.inl e)]
      have h1 := pk_sk1 (T := T) (L := L) (p := p) (by rw [e]; decide)
      have hi := hit (sk T L p + 1) h1.1
      unfold fpart at hi
      have hmo := M (sk T L p + 1) h1.1
      rw [g351_10, Option.bind_some, rfS_at, nI_1, p351_10, Option.bind_some, rfS_p10]
      cases he : it (sk T L p + 1) with
      | inl f =>
        rw [he] at hi
        obtain ⟨w, p', d', hw⟩ := hi
        have hf : nI f ≠ -1 := m1_ne (by have := hmo.1 f he; omega)
        obtain ⟨n, rfl⟩ : ∃ q, n = q + 1 := ⟨n - 1, by omega⟩
        have stop : ∀ b, f_X12_condition_b7 cC (f_X12_part n0) cU (n + 1) (hp (rfS S p' (nI f) d') c) 351 (bI b) = some (bI b, hp (rfS S p' (nI f) d') c) := by
          intro b
          rw [f_X12_condition_b7, g351_11, Option.bind_some, rfS_f, if_neg hf]
          unfold f_X12_condition_b60
          rw [zqb, Option.bind_some]
        rw [hw, Option.bind_some, hvb]
        cases vb with
        | true =>
          rw [if_neg (show ¬ bI true = 0 by decide)]
          exact ⟨true, _, _, stop true⟩
        | false =>
          rw [if_pos bI_f]
          cases w with
          | false =>
            rw [if_pos bI_f]
            exact ⟨false, _, _, stop false⟩
          | true =>
            rw [if_neg (show ¬ bI true = 0 by decide)]
            exact ⟨true, _, _, stop true⟩
      | inr wq =>
        obtain ⟨w, q⟩ := wq
        rw [he] at hi
        obtain ⟨hw, wb, hwb⟩ := hi
        have hq := hmo.2 w q he
        have hj : jn (v (lt S)) (pk T L p) (w (lt S)) = bI (vb || wb) := by rw [e, hvb, hwb, jn124]
        have ih := X12_cond_loop Y M hit (cC := cC) (cU := cU) m q n (fun l => jn (v l) (pk T L p) (w l)) hq.2 (by omega) (by omega) ⟨_, hj⟩
        have ih' : refB S c d (f_X12_condition_b7 cC (f_X12_part n0) cU n (hp (rfS S q (-1) d) c) 351 (jn (v (lt S)) (pk T L p) (w (lt S)))) _ := ih
        rw [hj] at ih'
        rw [hw, Option.bind_some, hvb, hwb]
        cases vb with
        | true =>
          rw [if_neg (show ¬ bI true = 0 by decide)]
          exact ih'
        | false =>
          rw [if_pos bI_f]
          cases wb with
          | false =>
            rw [if_pos bI_f]
            exact ih'
          | true =>
            rw [if_neg (show ¬ bI true = 0 by decide)]
            exact ih'
    · rw [if_neg e, if_neg (fun z => z.elim e e), hvb, zqb, Option.bind_some]
      exact ⟨by rw [hvb], vb, hvb⟩
theorem X12_part_tail {n0 : Nat} {it : Nat → PR} (Y : Ty S T L) (M : mono it L) (hit : ∀ p, p ≤ L → refB S c d (f_X12_unit n0 (hp (rfS S p (-1) d) c) 351) (it p)) {cC cP : xa_H → Nat → Int32 → Int32 → Option (Int32 × xa_H)} {o : Option (Int32 × xa_H)} {r : PR} (h : refB S c d o r) (hr : (∀ f, r = .inl f → f ≤ L) ∧ ∀ v q, r = .inr (v, q) → q ≤ L) : refB S c d (o.bind fun q2 => f_X12_part_b17 cC cP (f_X12_unit n0) q2.2 351 q2.1) (pThen T L it 38 38 r) := by
  have hL := Y.1
  cases r with
  | inl f =>
    obtain ⟨w, p', d', hw⟩ := h
    have hf : nI f ≠ -1 := m1_ne (by have := hr.1 f rfl; omega)
    rw [hw, Option.bind_some]
    unfold f_X12_part_b17
    rw [show (1048576 : Nat) = 1048575 + 1 from rfl, f_X12_part_b18, g351_11, Option.bind_some, rfS_f, if_neg hf]
    unfold f_X12_part_b69
    rw [zqb, Option.bind_some]
    exact ⟨_, _, _, rfl⟩
  | inr wq =>
    obtain ⟨w, q⟩ := wq
    obtain ⟨hw, wb⟩ := h
    rw [hw, Option.bind_some]
    exact X12_part_loop Y M hit (L + 1) q 1048576 w (hr.2 w q rfl) (by omega) (by omega) wb
theorem X12_cond_tail {n0 : Nat} {it : Nat → PR} (Y : Ty S T L) (M : mono it L) (hit : ∀ p, p ≤ L → refB S c d (fpart n0 (hp (rfS S p (-1) d) c) 351) (it p)) {cC : xa_H → Nat → Int32 → Int32 → Option (Int32 × xa_H)} {cU : xa_H → Nat → Option (Int32 × xa_H)} {o : Option (Int32 × xa_H)} {r : PR} (h : refB S c d o r) (hr : (∀ f, r = .inl f → f ≤ L) ∧ ∀ v q, r = .inr (v, q) → q ≤ L) : refB S c d (o.bind fun q1 => f_X12_condition_b7 cC (f_X12_part n0) cU 1048576 q1.2 351 q1.1) (pThen T L it 124 124 r) := by
  have hL := Y.1
  cases r with
  | inl f =>
    obtain ⟨w, p', d', hw⟩ := h
    have hf : nI f ≠ -1 := m1_ne (by have := hr.1 f rfl; omega)
    rw [hw, Option.bind_some, show (1048576 : Nat) = 1048575 + 1 from rfl, f_X12_condition_b7, g351_11, Option.bind_some, rfS_f, if_neg hf]
    unfold f_X12_condition_b60
    rw [zqb, Option.bind_some]
    exact ⟨_, _, _, rfl⟩
  | inr wq =>
    obtain ⟨w, q⟩ := wq
    obtain ⟨hw, wb⟩ := h
    rw [hw, Option.bind_some]
    exact X12_cond_loop Y M hit (L + 1) q 1048576 w (hr.2 w q rfl) (by omega) (by omega) wb
theorem X12_part_ok {B : Nat} {it : Nat → PR} (Y : Ty S T L) (M : mono it L) (O : OKb f_X12_unit S c L d it B) : OKb fpart S c L d (pTrG T L it) (B + 1) := by
  intro n hn p hp'
  obtain ⟨n, rfl⟩ : ∃ q, n = q + 1 := ⟨n - 1, by omega⟩
  unfold fpart
  rw [X12_part_s]
  unfold g_X12_part
  rw [k351, Option.bind_some, if_pos rfl]
  exact X12_part_tail Y M (fun p hp' => O n (by omega) p hp') (O n (by omega) p hp') ⟨(M p hp').1, fun v q z => ((M p hp').2 v q z).2⟩
theorem X12_cond_ok {B : Nat} {it : Nat → PR} (Y : Ty S T L) (M : mono it L) (O : OKb fpart S c L d it B) : OKb fcond S c L d (pSeq T L it 124 124) (B + 1) := by
  intro n hn p hp'
  obtain ⟨n, rfl⟩ : ∃ q, n = q + 1 := ⟨n - 1, by omega⟩
  unfold fcond
  rw [X12_cond_s]
  unfold g_X12_condition
  rw [k351, Option.bind_some]
  exact X12_cond_tail Y M (fun p hp' => O n (by omega) p hp') (O n (by omega) p hp') ⟨(M p hp').1, fun v q z => ((M p hp').2 v q z).2⟩
theorem X12_unF_ok {k : Nat} {inn : Option ((Nat → PR) × (Nat → PR))} {B : Nat} (Y : Ty S T L) (hl : ltS S) (hd : d + k = 6) (h0 : k = 0 → inn = none) (O : ∀ k', k = k' + 1 → ∃ it, inn = some it ∧ OKb f_X12_unit S c L (d + 1) it.1 B ∧ OKb fcond S c L (d + 1) it.2 B ∧ mono it.1 L ∧ mono it.2 L) : OKb f_X12_unit S c L d (pUnF T L k inn) (B + 1) := by
  intro n hn p hp'
  obtain ⟨n, rfl⟩ : ∃ q, n = q + 1 := ⟨n - 1, by omega⟩
  have hs := sk_le (T := T) hp'
  have hL := Y.1
  rw [X12_unit_s]
  unfold g_X12_unit pUnF
  rw [k351, Option.bind_some, rf_look Y hp', Option.bind_some]
  by_cases e : pk T L p = 33
  · rw [if_pos e, if_pos e]
    have h1 := pk_sk1 (T := T) (L := L) (p := p) (by rw [e]; decide)
    cases k with
    | zero =>
      have : d = 6 := by omega
      subst this
      rw [h0 rfl, rf_goesIn6, Option.bind_some, if_pos rfl]
      exact ⟨false, _, _, rfl⟩
    | succ k' =>
      obtain ⟨it, rfl, O1, O2, M1, M2⟩ := O k' rfl
      rw [rf_goesIn (by omega), Option.bind_some, if_neg (show ¬ (1 : Int32) = 0 by decide)]
      dsimp only
      have hi := O1 n (by omega) (sk T L p + 1) h1.1
      cases he : it.1 (sk T L p + 1) with
      | inl f =>
        rw [he] at hi
        obtain ⟨w, p', d', hw⟩ := hi
        obtain ⟨d2, hd2⟩ := ofn (nI d' - 1)
        rw [hw, Option.bind_some, g351_12, Option.bind_some, rfS_d, hd2, p351_12, Option.bind_some, rfS_p12]
        cases w with
        | false =>
          rw [if_pos bI_f]
          exact ⟨true, _, _, rfl⟩
        | true =>
          rw [if_neg (show ¬ bI true = 0 by decide)]
          exact ⟨false, _, _, rfl⟩
      | inr wq =>
        obtain ⟨w, q⟩ := wq
        rw [he] at hi
        obtain ⟨hw, wb, hwb⟩ := hi
        rw [hw, Option.bind_some, g351_12, Option.bind_some, rfS_d, sub1, p351_12, Option.bind_some, rfS_p12, hwb]
        cases wb with
        | false =>
          rw [if_pos bI_f]
          refine ⟨?_, true, ?_⟩
          · show some ((1 : Int32), _) = some (1 - w (lt S), _)
            rw [hwb]
            rfl
          · show 1 - w (lt S) = _
            rw [hwb]
            rfl
        | true =>
          rw [if_neg (show ¬ bI true = 0 by decide)]
          refine ⟨?_, false, ?_⟩
          · show some ((0 : Int32), _) = some (1 - w (lt S), _)
            rw [hwb]
            rfl
          · show 1 - w (lt S) = _
            rw [hwb]
            rfl
  · rw [if_neg e, if_neg e]
    by_cases e2 : pk T L p = 40
    · rw [if_pos e2, if_pos e2]
      have h1 := pk_sk1 (T := T) (L := L) (p := p) (by rw [e2]; decide)
      cases k with
      | zero =>
        have : d = 6 := by omega
        subst this
        rw [h0 rfl, rf_goesIn6, Option.bind_some, if_pos rfl]
        exact ⟨false, _, _, rfl⟩
      | succ k' =>
        obtain ⟨it, rfl, O1, O2, M1, M2⟩ := O k' rfl
        rw [rf_goesIn (by omega), Option.bind_some, if_neg (show ¬ (1 : Int32) = 0 by decide)]
        dsimp only
        have hi := O2 n (by omega) (sk T L p + 1) h1.1
        unfold fcond at hi
        have hm := M2 (sk T L p + 1) h1.1
        cases he : it.2 (sk T L p + 1) with
        | inl f =>
          rw [he] at hi
          obtain ⟨w, p', d', hw⟩ := hi
          have hf : nI f ≠ -1 := m1_ne (by have := hm.1 f he; omega)
          rw [hw, Option.bind_some, rf_takes_f hf, Option.bind_some, if_pos rfl]
          exact ⟨false, _, _, rfl⟩
        | inr wq =>
          obtain ⟨w, q⟩ := wq
          rw [he] at hi
          obtain ⟨hw, wb, hwb⟩ := hi
          rw [hw, Option.bind_some, rf_takes Y (hm.2 w q he).2, Option.bind_some]
          unfold pClose
          dsimp only
          by_cases e3 : pk T L q = 41
          · rw [decide_eq_true e3, if_neg (show ¬ bI true = 0 by decide), if_pos e3, if_pos e3, g351_12, Option.bind_some, rfS_d, sub1, p351_12, Option.bind_some, rfS_p12, hwb, zqb, Option.bind_some]
            exact ⟨by rw [hwb], wb, hwb⟩
          · rw [decide_eq_false e3, if_pos (show bI false = 0 from rfl), if_neg e3, if_neg e3]
            exact ⟨false, _, _, rfl⟩
    · rw [if_neg e2, if_neg e2]
      have hi := X12_sum_ok (c := c) Y hl k d hd 120 (by omega) (sk T L p) hs
      have hm := pSm_mono (T := T) (L := L) k (sk T L p) hs
      unfold f_X12_compares
      rw [k351, Option.bind_some, if_pos rfl]
      cases he : pSm T L k (sk T L p) with
      | inl f =>
        rw [he] at hi
        obtain ⟨w, p', d', hw⟩ := hi
        have hf : nI f ≠ -1 := m1_ne (by have := hm.1 f he; omega)
        rw [hw, Option.bind_some, X12_b12_f hf, Option.bind_some, zq0, Option.bind_some]
        exact ⟨false, _, _, rfl⟩
      | inr wq =>
        obtain ⟨w, q⟩ := wq
        rw [he] at hi
        obtain ⟨hw, hsm⟩ := hi
        have h3 := X12_b12_ok (c := c) Y hl hd (hm.2 w q he).2 (v := w)
        rw [hw, Option.bind_some]
        dsimp only
        cases hz : pCm T L k w q with
        | inl f =>
          rw [hz] at h3
          obtain ⟨u, p', d', hu⟩ := h3
          rw [hu, Option.bind_some, zqb, Option.bind_some]
          exact ⟨_, _, _, rfl⟩
        | inr uq =>
          rw [hz] at h3
          obtain ⟨hu, ub, hub⟩ := h3
          rw [hu, Option.bind_some, hub, zqb, Option.bind_some]
          exact ⟨by rw [hub], ub, hub⟩
theorem OKb.more {f : Nat → xa_H → Nat → Option (Int32 × xa_H)} {it : Nat → PR} {B B' : Nat} (h : B ≤ B') (O : OKb f S c L d it B) : OKb f S c L d it B' := fun n hn => O n (by omega)
theorem X12_unit_ok (Y : Ty S T L) (hl : ltS S) : ∀ (k d : Nat), d + k = 6 → OKb f_X12_unit S c L d (pUn T L k) (1 + 3 * k)
  | 0, d, hd => X12_unF_ok (k := 0) (B := 0) Y hl hd (fun _ => rfl) (fun k' z => by omega)
  | k + 1, d, hd => by
    have h0 := X12_unit_ok Y hl k (d + 1) (by omega)
    refine (X12_unF_ok (k := k + 1) (B := 3 + 3 * k) Y hl hd (fun z => by omega) (fun k' z => ?_)).more (by omega)
    have : k' = k := by omega
    subst this
    refine ⟨_, rfl, h0.more (by omega), ?_, pUn_mono k', pCo_mono k'⟩
    exact (X12_cond_ok Y (pTr_mono k') (X12_part_ok Y (pUn_mono k') h0)).more (by omega)
end L6
