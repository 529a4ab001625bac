/-! LAWS: the class reads them so (sums, conditions, clauses) -/
section L2
variable {S : XS} {c : Nat × Nat} {T : Nat → Int32} {L p d : Nat}
def OKa (S : XS) (c : Nat × Nat) (L d : Nat) (it : Nat → PR) (B : Nat) : Prop := ∀ n, B ≤ n → (∀ p, p ≤ L → clsR S c (f_X2_atom n (hp (rdS S 10 p false) c) 10 (nI d)) (it p)) ∧ (∀ p, ∃ v, f_X2_atom n (hp (rdS S 10 p true) c) 10 (nI d) = some (v, hp (rdS S 10 p true) c))
theorem X2_atom_br {n : Nat} (X : Tx S 10 T L) {v : Int32} : f_X2_atom (n + 1) (hp (rdS S 10 p true) c) 10 v = some (0, hp (rdS S 10 p true) c) := by
  rw [X2_atom_s]
  unfold g_X2_atom
  rw [k10, Option.bind_some, Option.bind_some, rd_peek_br R10, Option.bind_some, if_neg (show ¬ (-1 : Int32) = 91 by decide), X2_letters X]
  exact rd_number_br R10
theorem X2_num (X : Tx S 10 T L) (hp' : p ≤ L) : clsR S c (f_X4_number (hp (rdS S 10 p false) c) 10 4) (match nmF T L 4 p with | .inl f => .inl f | .inr (v, q) => .inr (fun _ => v, q)) := by
  obtain ⟨v, h1, h2⟩ := rd_number (c := c) R10 X (M := 4) (by decide) hp'
  have h1' : f_X4_number (hp (rdS S 10 p false) c) 10 4 = _ := h1
  rw [h1']
  cases hn : nmF T L 4 p with
  | inl f => exact ⟨v, rfl⟩
  | inr q =>
    have := h2 q hn
    rw [this]
    rfl
theorem X2_atom_ok {k B : Nat} (X : Tx S 10 T L) (hd : d + k = 6) (O : ∀ k', k = k' + 1 → OKp S c L 3 (d + 1) (pSm T L k') B) : OKa S c L d (pAtK T L k) (B + 1) := by
  intro n hn
  obtain ⟨n, rfl⟩ : ∃ q, n = q + 1 := ⟨n - 1, by omega⟩
  refine ⟨fun p hp' => ?_, fun p => ⟨0, X2_atom_br X⟩⟩
  have hs := sk_le (T := T) hp'
  rw [X2_atom_s]
  unfold g_X2_atom
  rw [k10, Option.bind_some, Option.bind_some, rd_peek R10 X hp', Option.bind_some]
  have ev : pAtK T L k p = pAt T L (match k with | 0 => none | k' + 1 => some (pSm T L k')) p := by cases k <;> rfl
  rw [ev]
  unfold pAt
  by_cases e : pk T L p = 91
  · rw [if_pos e, if_pos e, X2_goesIn (by omega), Option.bind_some]
    have h1 := pk_sk1 (T := T) (L := L) (p := p) (by rw [e]; decide)
    cases k with
    | zero =>
      rw [if_pos (by rw [decide_eq_false (by omega)]; rfl), if_neg (by omega)]
      exact ⟨0, rfl⟩
    | succ k' =>
      have hO := (O k' rfl n (by omega)).1 (sk T L p + 1) h1.1
      have hm := pSm_mono (T := T) (L := L) k' (sk T L p + 1) h1.1
      rw [if_neg (show ¬ bI (decide (d < 6)) = 0 by rw [decide_eq_true (show d < 6 by omega)]; decide), if_pos (by omega), nI_1]
      dsimp only
      cases he : pSm T L k' (sk T L p + 1) with
      | inl f =>
        rw [he] at hO
        obtain ⟨w, hw⟩ := hO
        have hw' : f_X2_part n (hp (rdS S 10 (sk T L p + 1) false) c) 10 3 (nI (d + 1)) = some (w, hp (rdS S 10 f true) c) := hw
        rw [hw', Option.bind_some, X2_closed_br (by decide), Option.bind_some]
        exact ⟨_, rfl⟩
      | inr wq =>
        obtain ⟨w, q⟩ := wq
        rw [he] at hO
        have hw' : f_X2_part n (hp (rdS S 10 (sk T L p + 1) false) c) 10 3 (nI (d + 1)) = some (w (S.1 12), hp (rdS S 10 q false) c) := hO
        rw [hw', Option.bind_some, X2_closed X (hm.2 w q he).2, Option.bind_some]
        unfold pClose
        dsimp only
        by_cases e2 : pk T L q = 93
        · rw [if_pos e2, if_pos e2]
          rfl
        · rw [if_neg e2, if_neg e2]
          exact ⟨_, rfl⟩
  · rw [if_neg e, if_neg e, X2_letters X]
    cases hl : lti (pk T L p) with
    | some j => rfl
    | none =>
      have := X2_num (c := c) X hs
      unfold nmF at this ⊢
      rw [pk_sk, sk_sk] at this
      exact this
theorem X2_p5 {it : Nat → PR} {B : Nat} (O : OKa S c L d it B) : OKp S c L 5 d it (B + 1) := by
  intro n hn
  obtain ⟨n, rfl⟩ : ∃ q, n = q + 1 := ⟨n - 1, by omega⟩
  have hO := O n (by omega)
  refine ⟨fun p hp' => ?_, fun p => ?_⟩
  · have hi := hO.1 p hp'
    rw [X2_part_s]
    unfold g_X2_part
    rw [k10, Option.bind_some, if_neg (by decide), if_neg (by decide)]
    cases he : it p with
    | inl f =>
      rw [he] at hi
      obtain ⟨w, hw⟩ := hi
      rw [hw, Option.bind_some]
      exact ⟨_, rfl⟩
    | inr wq =>
      rw [he] at hi
      have hw : f_X2_atom n (hp (rdS S 10 p false) c) 10 (nI d) = some (wq.1 (S.1 12), hp (rdS S 10 wq.2 false) c) := hi
      rw [hw, Option.bind_some]
      rfl
  · obtain ⟨v, hv⟩ := hO.2 p
    refine ⟨v, ?_⟩
    rw [X2_part_s]
    unfold g_X2_part
    rw [k10, Option.bind_some, if_neg (by decide), if_neg (by decide), hv, Option.bind_some]
theorem X2_sum_ok (X : Tx S 10 T L) : ∀ (k d : Nat), d + k = 6 → OKp S c L 3 d (pSm T L k) (7 + 6 * k)
  | 0, d, hd => by
    have h1 := X2_atom_ok (c := c) (k := 0) (B := 0) X hd (fun k' z => by omega)
    have h2 := X2_seq (lvl := 4) X (by decide) (by decide) (s1 := 42) (s2 := 47) (by decide +kernel) (by decide +kernel) (by decide) (by decide) (pAtK_mono 0) (X2_p5 h1)
    have h3 := X2_seq (lvl := 3) X (by decide) (by decide) (s1 := 43) (s2 := 45) (by decide +kernel) (by decide +kernel) (by decide) (by decide) (pTm_mono 0) h2
    intro n hn
    rw [pSm_eq]
    exact h3 n (by omega)
  | k + 1, d, hd => by
    have h0 := X2_sum_ok X k (d + 1) (by omega)
    have h1 := X2_atom_ok (c := c) (k := k + 1) (B := 7 + 6 * k) X hd (fun k' z => by
      have : k' = k := by omega
      subst this
      exact h0)
    have h2 := X2_seq (lvl := 4) X (by decide) (by decide) (s1 := 42) (s2 := 47) (by decide +kernel) (by decide +kernel) (by decide) (by decide) (pAtK_mono (k + 1)) (X2_p5 h1)
    have h3 := X2_seq (lvl := 3) X (by decide) (by decide) (s1 := 43) (s2 := 45) (by decide +kernel) (by decide +kernel) (by decide) (by decide) (pTm_mono (k + 1)) h2
    intro n hn
    rw [pSm_eq]
    exact h3 n (by omega)
theorem X2_isCm {h : xa_H} {s : Int32} : f_X2_isComparison h s = some (bI (isCm s)) := by
  unfold f_X2_isComparison f_X2_isComparison_b18 isCm
  by_cases c1 : s = 61
  · rw [if_pos c1, decide_eq_true c1]
    rfl
  · rw [if_neg c1, decide_eq_false c1]
    by_cases c2 : s = 60
    · rw [if_pos c2, decide_eq_true c2]
      rfl
    · rw [if_neg c2, decide_eq_false c2]
      by_cases c3 : s = 62
      · rw [if_pos c3, decide_eq_true c3]
        rfl
      · rw [if_neg c3, decide_eq_false c3]
        rfl
theorem X2_comp_ok (X : Tx S 10 T L) {k : Nat} (hd : d + k = 6) {n : Nat} (hn : 8 + 6 * k ≤ n) : (∀ p (v : PV), p ≤ L → clsR S c (f_X2_compared n (hp (rdS S 10 p false) c) 10 (v (S.1 12)) (nI d)) (pCm T L k v p)) ∧ (∀ p v, f_X2_compared n (hp (rdS S 10 p true) c) 10 v (nI d) = some (0, hp (rdS S 10 p true) c)) := by
  obtain ⟨n, rfl⟩ : ∃ q, n = q + 1 := ⟨n - 1, by omega⟩
  have hO := X2_sum_ok (c := c) X k d hd n (by omega)
  refine ⟨fun p v hp' => ?_, fun p v => ?_⟩
  · rw [X2_compared_s]
    unfold g_X2_compared f_X2_compared_b88 pCm
    rw [k10, Option.bind_some, Option.bind_some, rd_peek R10 X hp', Option.bind_some, X2_isCm, Option.bind_some]
    cases hc : isCm (pk T L p) with
    | false =>
      rw [if_pos bI_f, rdS_p3', Option.bind_some, if_neg (by decide)]
      exact ⟨_, rfl⟩
    | true =>
      have h1 := pk_sk1 (T := T) (L := L) (p := p) (isCm_ne hc)
      have hi := hO.1 (sk T L p + 1) h1.1
      rw [if_neg (by decide), rdS_g2', Option.bind_some, nI_1, rdS_p2', Option.bind_some, if_pos rfl]
      have fin : ∀ (w : Int32) (h : xa_H), (if pk T L p = 61 then (if v (S.1 12) = w then (if (1 : Int32) = 0 then some ((0 : Int32), h) else some (1, h)) else (if (0 : Int32) = 0 then some (0, h) else some (1, h))) else if pk T L p = 60 then (if w ≤ v (S.1 12) then (if (0 : Int32) = 0 then some (0, h) else some (1, h)) else (if (1 : Int32) = 0 then some (0, h) else some (1, h))) else (if v (S.1 12) ≤ w then (if (0 : Int32) = 0 then some (0, h) else some (1, h)) else (if (1 : Int32) = 0 then some (0, h) else some (1, h)))) = some (cmp (pk T L p) (v (S.1 12)) w, h) := by
        intro w h
        unfold cmp
        rw [if_pos (show (0 : Int32) = 0 from rfl), if_neg (show ¬ (1 : Int32) = 0 by decide)]
        split <;> (try split) <;> (try split) <;> rfl
      cases he : pSm T L k (sk T L p + 1) with
      | inl f =>
        rw [he] at hi
        obtain ⟨w, hw⟩ := hi
        have hw' : f_X2_part n (hp (rdS S 10 (sk T L p + 1) false) c) 10 3 (nI d) = some (w, hp (rdS S 10 f true) c) := hw
        rw [hw', Option.bind_some]
        exact ⟨_, fin w _⟩
      | inr wq =>
        rw [he] at hi
        have hw' : f_X2_part n (hp (rdS S 10 (sk T L p + 1) false) c) 10 3 (nI d) = some (wq.1 (S.1 12), hp (rdS S 10 wq.2 false) c) := hi
        rw [hw', Option.bind_some]
        exact fin _ _
  · rw [X2_compared_s]
    unfold g_X2_compared
    rw [k10, Option.bind_some, Option.bind_some, rd_peek_br R10, Option.bind_some, X2_isCm, Option.bind_some, if_pos (show bI (isCm (-1)) = 0 by decide), rdS_p3', Option.bind_some]
def OKu (S : XS) (c : Nat × Nat) (L d : Nat) (it : Nat → PR) (B : Nat) : Prop := ∀ n, B ≤ n → (∀ p, p ≤ L → clsR S c (f_X2_unit n (hp (rdS S 10 p false) c) 10 (nI d)) (it p)) ∧ (∀ p, ∃ v, f_X2_unit n (hp (rdS S 10 p true) c) 10 (nI d) = some (v, hp (rdS S 10 p true) c))
theorem X2_unF_ok {k : Nat} {inn : Option ((Nat → PR) × (Nat → PR))} {B : Nat} (X : Tx S 10 T L) (hd : d + k = 6) (hB : 8 + 6 * k ≤ B) (h0 : k = 0 → inn = none) (O : ∀ k', k = k' + 1 → ∃ it, inn = some it ∧ OKu S c L (d + 1) it.1 B ∧ OKp S c L 0 (d + 1) it.2 B ∧ mono it.2 L) : OKu S c L d (pUnF T L k inn) (B + 1) := by
  intro n hn
  obtain ⟨n, rfl⟩ : ∃ q, n = q + 1 := ⟨n - 1, by omega⟩
  have hS := X2_sum_ok (c := c) X k d hd n (by omega)
  have hC := X2_comp_ok (c := c) X hd (n := n) (by omega)
  refine ⟨fun p hp' => ?_, fun p => ?_⟩
  · have hs := sk_le (T := T) hp'
    rw [X2_unit_s]
    unfold g_X2_unit pUnF
    rw [k10, Option.bind_some, Option.bind_some, rd_peek R10 X hp', Option.bind_some]
    by_cases e : pk T L p = 33
    · rw [if_pos e, if_pos e, X2_goesIn (by omega), Option.bind_some]
      have h1 := pk_sk1 (T := T) (L := L) (p := p) (by rw [e]; decide)
      cases k with
      | zero =>
        rw [h0 rfl, if_pos (by rw [decide_eq_false (by omega)]; rfl), if_neg (by omega)]
        exact ⟨0, rfl⟩
      | succ k' =>
        obtain ⟨it, rfl, O1, O2, M2⟩ := O k' rfl
        rw [if_neg (show ¬ bI (decide (d < 6)) = 0 by rw [decide_eq_true (show d < 6 by omega)]; decide), if_pos (by omega), nI_1]
        dsimp only
        have hi := (O1 n (by omega)).1 (sk T L p + 1) h1.1
        cases he : it.1 (sk T L p + 1) with
        | inl f =>
          rw [he] at hi
          obtain ⟨w, hw⟩ := hi
          rw [hw, Option.bind_some]
          exact ⟨_, rfl⟩
        | inr wq =>
          rw [he] at hi
          have hw : f_X2_unit n (hp (rdS S 10 (sk T L p + 1) false) c) 10 (nI (d + 1)) = some (wq.1 (S.1 12), hp (rdS S 10 wq.2 false) c) := hi
          rw [hw, Option.bind_some]
          rfl
    · rw [if_neg e, if_neg e]
      by_cases e2 : pk T L p = 40
      · rw [if_pos e2, if_pos e2, X2_goesIn (by omega), Option.bind_some]
        have h1 := pk_sk1 (T := T) (L := L) (p := p) (by rw [e2]; decide)
        cases k with
        | zero =>
          rw [h0 rfl, if_pos (by rw [decide_eq_false (by omega)]; rfl), if_neg (by omega)]
          exact ⟨0, rfl⟩
        | succ k' =>
          obtain ⟨it, rfl, O1, O2, M2⟩ := O k' rfl
          rw [if_neg (show ¬ bI (decide (d < 6)) = 0 by rw [decide_eq_true (show d < 6 by omega)]; decide), if_pos (by omega), nI_1]
          dsimp only
          have hi := (O2 n (by omega)).1 (sk T L p + 1) h1.1
          have hm := M2 (sk T L p + 1) h1.1
          cases he : it.2 (sk T L p + 1) with
          | inl f =>
            rw [he] at hi
            obtain ⟨w, hw⟩ := hi
            have hw' : f_X2_part n (hp (rdS S 10 (sk T L p + 1) false) c) 10 0 (nI (d + 1)) = some (w, hp (rdS S 10 f true) c) := hw
            rw [hw', Option.bind_some, X2_closed_br (by decide), Option.bind_some]
            exact ⟨_, rfl⟩
          | inr wq =>
            obtain ⟨w, q⟩ := wq
            rw [he] at hi
            have hw' : f_X2_part n (hp (rdS S 10 (sk T L p + 1) false) c) 10 0 (nI (d + 1)) = some (w (S.1 12), hp (rdS S 10 q false) c) := hi
            rw [hw', Option.bind_some, X2_closed X (hm.2 w q he).2, Option.bind_some]
            unfold pClose
            dsimp only
            by_cases e3 : pk T L q = 41
            · rw [if_pos e3, if_pos e3]
              rfl
            · rw [if_neg e3, if_neg e3]
              exact ⟨_, rfl⟩
      · rw [if_neg e2, if_neg e2]
        have hi := hS.1 (sk T L p) hs
        have hm := pSm_mono (T := T) (L := L) k (sk T L p) hs
        cases he : pSm T L k (sk T L p) with
        | inl f =>
          rw [he] at hi
          obtain ⟨w, hw⟩ := hi
          have hw' : f_X2_part n (hp (rdS S 10 (sk T L p) false) c) 10 3 (nI d) = some (w, hp (rdS S 10 f true) c) := hw
          rw [hw', Option.bind_some, hC.2, Option.bind_some]
          exact ⟨_, rfl⟩
        | inr wq =>
          obtain ⟨w, q⟩ := wq
          rw [he] at hi
          have hw' : f_X2_part n (hp (rdS S 10 (sk T L p) false) c) 10 3 (nI d) = some (w (S.1 12), hp (rdS S 10 q false) c) := hi
          rw [hw', Option.bind_some]
          have h3 := hC.1 q w (hm.2 w q he).2
          dsimp only
          cases hz : pCm T L k w q with
          | inl f =>
            rw [hz] at h3
            obtain ⟨u, hu⟩ := h3
            rw [hu, Option.bind_some]
            exact ⟨_, rfl⟩
          | inr uq =>
            rw [hz] at h3
            have hu : f_X2_compared n (hp (rdS S 10 q false) c) 10 (w (S.1 12)) (nI d) = some (uq.1 (S.1 12), hp (rdS S 10 uq.2 false) c) := h3
            rw [hu, Option.bind_some]
            rfl
  · obtain ⟨v, hv⟩ := hS.2 p
    have hv' : f_X2_part n (hp (rdS S 10 p true) c) 10 3 (nI d) = some (v, hp (rdS S 10 p true) c) := hv
    refine ⟨0, ?_⟩
    rw [X2_unit_s]
    unfold g_X2_unit
    rw [k10, Option.bind_some, Option.bind_some, rd_peek_br R10, Option.bind_some, if_neg (show ¬ (-1 : Int32) = 33 by decide), if_neg (show ¬ (-1 : Int32) = 40 by decide), hv', Option.bind_some, hC.2, Option.bind_some]
theorem X2_p2 {it : Nat → PR} {B : Nat} (O : OKu S c L d it B) : OKp S c L 2 d it (B + 1) := by
  intro n hn
  obtain ⟨n, rfl⟩ : ∃ q, n = q + 1 := ⟨n - 1, by omega⟩
  have hO := O n (by omega)
  refine ⟨fun p hp' => ?_, fun p => ?_⟩
  · have hi := hO.1 p hp'
    rw [X2_part_s]
    unfold g_X2_part
    rw [k10, Option.bind_some, if_pos (by decide)]
    cases he : it p with
    | inl f =>
      rw [he] at hi
      obtain ⟨w, hw⟩ := hi
      rw [hw, Option.bind_some]
      exact ⟨_, rfl⟩
    | inr wq =>
      rw [he] at hi
      have hw : f_X2_unit n (hp (rdS S 10 p false) c) 10 (nI d) = some (wq.1 (S.1 12), hp (rdS S 10 wq.2 false) c) := hi
      rw [hw, Option.bind_some]
      rfl
  · obtain ⟨v, hv⟩ := hO.2 p
    refine ⟨v, ?_⟩
    rw [X2_part_s]
    unfold g_X2_part
    rw [k10, Option.bind_some, if_pos (by decide), hv, Option.bind_some]
theorem X2_truth_ok {B : Nat} {u : Nat → PR} (X : Tx S 10 T L) (M : mono u L) (O : OKu S c L d u B) : OKp S c L 1 d (pTrG T L u) (B + 3) :=
  X2_seq (lvl := 1) X (by decide) (by decide) (s1 := 38) (s2 := 38) (by decide +kernel) (by decide +kernel) (by decide) (by decide) M (X2_p2 O)
theorem X2_cond_ok {B : Nat} {u : Nat → PR} (X : Tx S 10 T L) (M : mono u L) (O : OKu S c L d u B) : OKp S c L 0 d (pCoG T L u) (B + 5) :=
  X2_seq (lvl := 0) X (by decide) (by decide) (s1 := 124) (s2 := 124) (by decide +kernel) (by decide +kernel) (by decide) (by decide) (pSeq_mono (by decide) (by decide) M) (X2_truth_ok X M O)
theorem OKu.more {it : Nat → PR} {B B' : Nat} (h : B ≤ B') (O : OKu S c L d it B) : OKu S c L d it B' := fun n hn => O n (by omega)
theorem X2_unit_ok (X : Tx S 10 T L) : ∀ (k d : Nat), d + k = 6 → OKu S c L d (pUn T L k) (9 + 6 * k)
  | 0, d, hd => X2_unF_ok (k := 0) (B := 8) X hd (by omega) (fun _ => rfl) (fun k' z => by omega)
  | k + 1, d, hd => by
    have h0 := X2_unit_ok X k (d + 1) (by omega)
    refine (X2_unF_ok (k := k + 1) (B := 14 + 6 * k) X hd (by omega) (fun z => by omega) (fun k' z => ?_)).more (by omega)
    have : k' = k := by omega
    subst this
    exact ⟨_, rfl, h0.more (by omega), fun n hn => X2_cond_ok X (pUn_mono k') h0 n (by omega), pCo_mono k'⟩
end L2
