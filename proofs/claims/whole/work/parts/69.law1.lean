/-! LAWS: the class reads them so -/
def clsR (S : XS) (c : Nat × Nat) (o : Option (Int32 × xa_H)) : PR → Prop
  | .inl f => ∃ v, o = some (v, hp (rdS S 10 f true) c)
  | .inr (v, q) => o = some (v (S.1 12), hp (rdS S 10 q false) c)
theorem X2_joined {h : xa_H} {l s r : Int32} : f_X2_joined h l s r = some (jn l s r) := by
  unfold f_X2_joined f_X2_held jn
  by_cases c1 : s = 38
  · rw [if_pos c1, if_pos c1]
  · rw [if_neg c1, if_neg c1]
    by_cases c2 : s = 42
    · rw [if_pos c2, if_pos c2]
      rfl
    · rw [if_neg c2, if_neg c2]
      by_cases c3 : s = 43
      · rw [if_pos c3, if_pos c3]
        rfl
      · rw [if_neg c3, if_neg c3]
        by_cases c4 : s = 45
        · rw [if_pos c4, if_pos c4]
          rfl
        · rw [if_neg c4, if_neg c4]
          by_cases c5 : s = 124
          · rw [if_pos c5, if_pos c5]
          · rw [if_neg c5, if_neg c5]
            by_cases c6 : r = 0
            · rw [if_pos c6, if_pos c6]
            · rw [if_neg c6, if_neg c6, if_neg c6]
theorem R10 : isRd 10 := Or.inr (Or.inl rfl)
section L1
variable {S : XS} {c : Nat × Nat} {T : Nat → Int32} {L p d : Nat}
theorem X2_part_s {n l0 : Nat} {h : xa_H} {l1 l2 : Int32} : f_X2_part (n + 1) h l0 l1 l2 = g_X2_part (f_X2_atom n) (f_X2_compared n) (f_X2_part n) (f_X2_row n) (f_X2_unit n) h l0 l1 l2 := rfl
theorem X2_row_s {n l0 : Nat} {h : xa_H} {l1 l2 l3 : Int32} : f_X2_row (n + 1) h l0 l1 l2 l3 = g_X2_row (f_X2_atom n) (f_X2_compared n) (f_X2_part n) (f_X2_row n) (f_X2_unit n) h l0 l1 l2 l3 := rfl
theorem X2_atom_s {n l0 : Nat} {h : xa_H} {l1 : Int32} : f_X2_atom (n + 1) h l0 l1 = g_X2_atom (f_X2_atom n) (f_X2_compared n) (f_X2_part n) (f_X2_row n) (f_X2_unit n) h l0 l1 := rfl
theorem X2_unit_s {n l0 : Nat} {h : xa_H} {l1 : Int32} : f_X2_unit (n + 1) h l0 l1 = g_X2_unit (f_X2_atom n) (f_X2_compared n) (f_X2_part n) (f_X2_row n) (f_X2_unit n) h l0 l1 := rfl
theorem X2_compared_s {n l0 : Nat} {h : xa_H} {l1 l2 : Int32} : f_X2_compared (n + 1) h l0 l1 l2 = g_X2_compared (f_X2_atom n) (f_X2_compared n) (f_X2_part n) (f_X2_row n) (f_X2_unit n) h l0 l1 l2 := rfl
theorem rdS_p2' {q : Nat} {b : Bool} : xp [2] 2 (hp (rdS S 10 p b) c) 10 (.int (nI q)) = some (hp (rdS S 10 q b) c) := by
  rw [p10_2, rdS_put2]
theorem rdS_p3' {b : Bool} : xp [2] 3 (hp (rdS S 10 p b) c) 10 (.int 1) = some (hp (rdS S 10 p true) c) := by
  rw [p10_3, rdS_put3']
theorem rdS_g2' {b : Bool} : gI [2] 2 (hp (rdS S 10 p b) c) 10 = some (nI p) := by
  rw [g10_2, rdS_at]
theorem X2_goesIn (hd : d ≤ 6) : f_X2_goesIn (hp (rdS S 10 p false) c) 10 (nI d) = some (bI (decide (d < 6)), hp (if d < 6 then rdS S 10 (p + 1) false else rdS S 10 p true) c) := by
  unfold f_X2_goesIn f_X2_goesIn_b13
  rw [k10, Option.bind_some, g10_3, Option.bind_some, rdS_br, if_pos bI_f, show (6 : Int32) = nI 6 from rfl]
  by_cases e : d < 6
  · rw [if_pos (nI_lt e (by decide)), rdS_g2', Option.bind_some, nI_1, rdS_p2', Option.bind_some, if_pos e, decide_eq_true e]
    rfl
  · rw [if_neg (nI_nlt (by omega) (by omega)), rdS_p3', Option.bind_some, if_neg e, decide_eq_false e]
    rfl
theorem X2_goesIn_br {v : Int32} : f_X2_goesIn (hp (rdS S 10 p true) c) 10 v = some (0, hp (rdS S 10 p true) c) := by
  unfold f_X2_goesIn f_X2_goesIn_b13
  rw [k10, Option.bind_some, g10_3, Option.bind_some, rdS_br, if_neg (by decide), rdS_p3', Option.bind_some]
theorem X2_closed (X : Tx S 10 T L) (hp' : p ≤ L) {v ch : Int32} : f_X2_closed (hp (rdS S 10 p false) c) 10 v ch = some (v, hp (if pk T L p = ch then rdS S 10 (sk T L p + 1) false else rdS S 10 (sk T L p) true) c) := by
  unfold f_X2_closed
  rw [k10, Option.bind_some, Option.bind_some, rd_need R10 X hp', Option.bind_some]
theorem X2_closed_br {v ch : Int32} (hc : ch ≠ -1) : f_X2_closed (hp (rdS S 10 p true) c) 10 v ch = some (v, hp (rdS S 10 p true) c) := by
  unfold f_X2_closed
  rw [k10, Option.bind_some, Option.bind_some, rd_need_br R10 hc, Option.bind_some]
theorem X2_row_br {cA : xa_H → Nat → Int32 → Option (Int32 × xa_H)} {cC cP : xa_H → Nat → Int32 → Int32 → Option (Int32 × xa_H)} {cR : xa_H → Nat → Int32 → Int32 → Int32 → Option (Int32 × xa_H)} {cU : xa_H → Nat → Int32 → Option (Int32 × xa_H)} {lv dd v j s1 s2 : Int32} {n : Nat} (h1 : sAt 1000000012 (2 * lv) = some s1) (h2 : sAt 1000000012 (2 * lv + 1) = some s2) (n1 : s1 ≠ -1) (n2 : s2 ≠ -1) : f_X2_row_b6 cA cC cP cR cU (n + 1) (hp (rdS S 10 p true) c) 10 lv dd v j = some (v, hp (rdS S 10 p true) c) := by
  rw [f_X2_row_b6]
  unfold f_X2_row_b84
  by_cases e : 240 ≤ j
  · rw [if_pos e]
  · rw [if_neg e, k10, Option.bind_some, rd_peek_br R10, Option.bind_some, h1, Option.bind_some, if_neg n1.symm, h2, Option.bind_some, if_neg n2.symm]
theorem X2_row_loop {cA : xa_H → Nat → Int32 → Option (Int32 × xa_H)} {cC cP : xa_H → Nat → Int32 → Int32 → Option (Int32 × xa_H)} {cR : xa_H → Nat → Int32 → Int32 → Int32 → Option (Int32 × xa_H)} {cU : xa_H → Nat → Int32 → Option (Int32 × xa_H)} {lv dd s1 s2 : Int32} {it : Nat → PR} (X : Tx S 10 T L) (h1 : sAt 1000000012 (2 * lv) = some s1) (h2 : sAt 1000000012 (2 * lv + 1) = some s2) (n1 : s1 ≠ -1) (n2 : s2 ≠ -1) (M : mono it L) (hit : ∀ p, p ≤ L → clsR S c (cP (hp (rdS S 10 p false) c) 10 (lv + 1) dd) (it p)) : ∀ (m p n j : Nat) (v : PV), p ≤ L → j ≤ p → L < p + m → 242 ≤ n + j → clsR S c (f_X2_row_b6 cA cC cP cR cU n (hp (rdS S 10 p false) c) 10 lv dd (v (S.1 12)) (nI j)) (pRow T L it s1 s2 m v p)
  | 0, p, n, j, v, hp', hj, hm, hn => by omega
  | m + 1, p, n, j, v, hp', hj, hm, hn => by
    have hL := X.1
    obtain ⟨n, rfl⟩ : ∃ q, n = q + 1 := ⟨n - 1, by omega⟩
    unfold pRow
    rw [f_X2_row_b6, show (240 : Int32) = nI 240 from rfl]
    unfold f_X2_row_b84
    by_cases e : 240 ≤ j
    · rw [if_pos (nI_le e (by omega))]
      have hs : sk T L p = p := sk_no (fun z => by omega)
      have hk : pk T L p = -1 := by
        unfold pk
        rw [hs, if_neg (by omega)]
      rw [if_neg (by rw [hk]; exact fun z => z.elim (fun y => n1 y.symm) (fun y => n2 y.symm)), hs]
      rfl
    · rw [if_neg (nI_ge (by omega) (by omega)), k10, Option.bind_some, rd_peek R10 X hp', Option.bind_some, h1, Option.bind_some, h2, Option.bind_some]
      have go : (pk T L p = s1 ∨ pk T L p = s2) → clsR S c (f_X2_row_b51 cA cC cP cR cU (fun h l0 l2 l3 l4 l5 => f_X2_row_b6 cA cC cP cR cU n h l0 l2 l3 l4 l5) (hp (rdS S 10 (sk T L p) false) c) 10 lv dd (v (S.1 12)) (nI j) (pk T L p)) (if pk T L p = s1 ∨ pk T L p = s2 then (match it (sk T L p + 1) with | .inl f => .inl f | .inr (w, p') => pRow T L it s1 s2 m (fun l => jn (v l) (pk T L p) (w l)) p') else .inr (v, sk T L p)) := by
        intro g
        rw [if_pos g]
        have hne : pk T L p ≠ -1 := by
          rcases g with g | g <;> rw [g] <;> assumption
        have hs := pk_sk1 hne
        have hi := hit (sk T L p + 1) hs.1
        have hmo := M (sk T L p + 1) hs.1
        unfold f_X2_row_b51
        rw [rdS_g2', Option.bind_some, nI_1, rdS_p2', Option.bind_some]
        cases he : it (sk T L p + 1) with
        | inl f =>
          rw [he] at hi
          obtain ⟨w, hw⟩ := hi
          rw [hw, Option.bind_some, X2_joined, Option.bind_some]
          obtain ⟨n, rfl⟩ : ∃ q, n = q + 1 := ⟨n - 1, by omega⟩
          exact ⟨_, X2_row_br h1 h2 n1 n2⟩
        | inr wq =>
          obtain ⟨w, q⟩ := wq
          rw [he] at hi
          have hw : cP (hp (rdS S 10 (sk T L p + 1) false) c) 10 (lv + 1) dd = some (w (S.1 12), hp (rdS S 10 q false) c) := hi
          have hq := hmo.2 w q he
          rw [hw, Option.bind_some, X2_joined, Option.bind_some, nI_1]
          exact X2_row_loop X h1 h2 n1 n2 M hit m q n (j + 1) (fun l => jn (v l) (pk T L p) (w l)) hq.2 (by omega) (by omega) (by omega)
      by_cases e1 : pk T L p = s1
      · rw [if_pos e1]
        exact go (Or.inl e1)
      · rw [if_neg e1]
        by_cases e2 : pk T L p = s2
        · rw [if_pos e2]
          exact go (Or.inr e2)
        · rw [if_neg e2, if_neg (fun z => z.elim e1 e2)]
          rfl
def OKp (S : XS) (c : Nat × Nat) (L lvl d : Nat) (it : Nat → PR) (B : Nat) : Prop := ∀ n, B ≤ n → (∀ p, p ≤ L → clsR S c (f_X2_part n (hp (rdS S 10 p false) c) 10 (nI lvl) (nI d)) (it p)) ∧ (∀ p, ∃ v, f_X2_part n (hp (rdS S 10 p true) c) 10 (nI lvl) (nI d) = some (v, hp (rdS S 10 p true) c))
theorem X2_row_ok {lvl B : Nat} {s1 s2 : Int32} {it : Nat → PR} (X : Tx S 10 T L) (h1 : sAt 1000000012 (2 * nI lvl) = some s1) (h2 : sAt 1000000012 (2 * nI lvl + 1) = some s2) (n1 : s1 ≠ -1) (n2 : s2 ≠ -1) (M : mono it L) (O : OKp S c L (lvl + 1) d it B) {n : Nat} (hn : B + 1 ≤ n) : (∀ p (v : PV), p ≤ L → clsR S c (f_X2_row n (hp (rdS S 10 p false) c) 10 (v (S.1 12)) (nI lvl) (nI d)) (pRow T L it s1 s2 (L + 1) v p)) ∧ (∀ p v, f_X2_row n (hp (rdS S 10 p true) c) 10 v (nI lvl) (nI d) = some (v, hp (rdS S 10 p true) c)) := by
  obtain ⟨n, rfl⟩ : ∃ q, n = q + 1 := ⟨n - 1, by omega⟩
  have hO := O n (by omega)
  have hL := X.1
  refine ⟨fun p v hp' => ?_, fun p v => ?_⟩
  · rw [X2_row_s]
    unfold g_X2_row
    rw [k10, Option.bind_some]
    exact X2_row_loop X h1 h2 n1 n2 M (fun q hq => by have := hO.1 q hq; rw [← nI_1] at this; exact this) (L + 1) p 1048576 0 v hp' (by omega) (by omega) (by omega)
  · rw [X2_row_s]
    unfold g_X2_row
    rw [k10, Option.bind_some]
    exact X2_row_br (n := 1048575) h1 h2 n1 n2
theorem X2_seq {lvl B : Nat} {s1 s2 : Int32} {it : Nat → PR} (X : Tx S 10 T L) (hl2 : lvl ≠ 2) (hl5 : lvl < 5) (h1 : sAt 1000000012 (2 * nI lvl) = some s1) (h2 : sAt 1000000012 (2 * nI lvl + 1) = some s2) (n1 : s1 ≠ -1) (n2 : s2 ≠ -1) (M : mono it L) (O : OKp S c L (lvl + 1) d it B) : OKp S c L lvl d (pSeq T L it s1 s2) (B + 2) := by
  intro n hn
  obtain ⟨n, rfl⟩ : ∃ q, n = q + 1 := ⟨n - 1, by omega⟩
  have hO := O n (by omega)
  have hR := X2_row_ok X h1 h2 n1 n2 M O (n := n) (by omega)
  have e2 : ¬ nI lvl = 2 := fun z => hl2 ((nI_eq (by omega) (by decide)).mp (z.trans (show (2 : Int32) = nI 2 from rfl)))
  have e5 : nI lvl < 5 := by
    rw [show (5 : Int32) = nI 5 from rfl]
    exact nI_lt hl5 (by decide)
  refine ⟨fun p hp' => ?_, fun p => ?_⟩
  · rw [X2_part_s]
    unfold g_X2_part pSeq
    rw [k10, Option.bind_some, if_neg e2, if_pos e5, nI_1]
    have hi := hO.1 p hp'
    have hm := M p hp'
    cases he : it p with
    | inl f =>
      rw [he] at hi
      obtain ⟨w, hw⟩ := hi
      rw [hw, Option.bind_some, hR.2, Option.bind_some]
      exact ⟨_, rfl⟩
    | inr wq =>
      obtain ⟨w, q⟩ := wq
      rw [he] at hi
      have hw : f_X2_part n (hp (rdS S 10 p false) c) 10 (nI (lvl + 1)) (nI d) = some (w (S.1 12), hp (rdS S 10 q false) c) := hi
      rw [hw, Option.bind_some]
      have := hR.1 q w (hm.2 w q he).2
      dsimp only
      cases hr : pRow T L it s1 s2 (L + 1) w q with
      | inl f =>
        rw [hr] at this
        obtain ⟨u, hu⟩ := this
        rw [hu, Option.bind_some]
        exact ⟨_, rfl⟩
      | inr uq =>
        rw [hr] at this
        have hu : f_X2_row n (hp (rdS S 10 q false) c) 10 (w (S.1 12)) (nI lvl) (nI d) = some (uq.1 (S.1 12), hp (rdS S 10 uq.2 false) c) := this
        rw [hu, Option.bind_some]
        rfl
  · obtain ⟨v, hv⟩ := hO.2 p
    refine ⟨v, ?_⟩
    rw [X2_part_s]
    unfold g_X2_part
    rw [k10, Option.bind_some, if_neg e2, if_pos e5, nI_1, hv, Option.bind_some, hR.2, Option.bind_some]
theorem X2_letters (X : Tx S 10 T L) {cA : xa_H → Nat → Int32 → Option (Int32 × xa_H)} {cC cP : xa_H → Nat → Int32 → Int32 → Option (Int32 × xa_H)} {cR : xa_H → Nat → Int32 → Int32 → Int32 → Option (Int32 × xa_H)} {cU : xa_H → Nat → Int32 → Option (Int32 × xa_H)} {s : Int32} {b : Bool} : f_X2_atom_b40 cA cC cP cR cU 1048576 (hp (rdS S 10 p b) c) 10 s (0 : Int32) = match lti s with | some j => some (S.1 12 j, hp (rdS S 10 (p + 1) b) c) | none => f_X4_number (hp (rdS S 10 p b) c) 10 4 := by
  have l0 : f_X2_atom_b40 cA cC cP cR cU 1048576 (hp (rdS S 10 p b) c) 10 s (nI 0) = fst (fun j => decide ((xs_tab.getD 0 []).getD j 0 = s)) (fun j => some (S.1 12 j, hp (rdS S 10 (p + 1) b) c)) (f_X4_number (hp (rdS S 10 p b) c) 10 4) 6 0 := by
    refine lpx (N := 6) (fun n k => f_X2_atom_b40 cA cC cP cR cU n (hp (rdS S 10 p b) c) 10 s (nI k)) (fun n => ?_) (fun n k hk => ?_) 6 0 1048576 (by omega) (by omega)
    · show f_X2_atom_b40 cA cC cP cR cU (n + 1) (hp (rdS S 10 p b) c) 10 s (nI 6) = _
      rw [f_X2_atom_b40, g10_4, Option.bind_some, n12, Option.bind_some, if_pos (nI_le (by omega) (by omega)), k10, Option.bind_some]
      cases f_X4_number (hp (rdS S 10 p b) c) 10 4 <;> rfl
    · show f_X2_atom_b40 cA cC cP cR cU (n + 1) (hp (rdS S 10 p b) c) 10 s (nI k) = _
      have hs : sAt (1000000010 + 0) (nI k) = some ((xs_tab.getD 0 []).getD k 0) := by
        rcases (by omega : k = 0 ∨ k = 1 ∨ k = 2 ∨ k = 3 ∨ k = 4 ∨ k = 5) with rfl | rfl | rfl | rfl | rfl | rfl <;> decide +kernel
      rw [f_X2_atom_b40, g10_4, Option.bind_some, n12, Option.bind_some, if_neg (nI_ge (by omega) (by omega)), hs, Option.bind_some, nI_1]
      by_cases e : (xs_tab.getD 0 []).getD k 0 = s
      · rw [if_pos e, rdS_g2', Option.bind_some, nI_1, rdS_p2', Option.bind_some, g10_4, Option.bind_some, a12 hk, Option.bind_some, rdS_ne (by decide), decide_eq_true e]
        rfl
      · rw [if_neg e, decide_eq_false e]
        rfl
  refine l0.trans ?_
  have d : ∀ (k : Int32), decide (k = s) = decide (s = k) := fun k => by
    rw [decide_eq_decide]
    exact eq_comm
  show (if decide ((105 : Int32) = s) = true then _ else if decide ((111 : Int32) = s) = true then _ else if decide ((116 : Int32) = s) = true then _ else if decide ((110 : Int32) = s) = true then _ else if decide ((119 : Int32) = s) = true then _ else if decide ((100 : Int32) = s) = true then _ else _) = _
  unfold lti
  simp only [d, decide_eq_true_eq]
  by_cases c1 : s = 105
  · rw [if_pos c1, if_pos c1]
  · rw [if_neg c1, if_neg c1]
    by_cases c2 : s = 111
    · rw [if_pos c2, if_pos c2]
    · rw [if_neg c2, if_neg c2]
      by_cases c3 : s = 116
      · rw [if_pos c3, if_pos c3]
      · rw [if_neg c3, if_neg c3]
        by_cases c4 : s = 110
        · rw [if_pos c4, if_pos c4]
        · rw [if_neg c4, if_neg c4]
          by_cases c5 : s = 119
          · rw [if_pos c5, if_pos c5]
          · rw [if_neg c5, if_neg c5]
            by_cases c6 : s = 100
            · rw [if_pos c6, if_pos c6]
            · rw [if_neg c6, if_neg c6]
              rfl
end L1
