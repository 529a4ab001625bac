/-! VILLAGES: the class reads clauses and villages so -/
section V5
variable {S : XS} {c : Nat × Nat} {T : Nat → Int32} {L p : Nat} {V : VD}
/-- the reading does not lie in what it changes -/
def txO (S : XS) : Prop := S.2.2 2 < 2 ∨ 9 < S.2.2 2
theorem Tx.fr2 {S S' : XS} (X : Tx S 2 T L) (o : txO S) (h : fr 2 9 S' S) (h1 : S'.1 2 1 = S.1 2 1) : Tx S' 2 T L ∧ txO S' := by
  obtain ⟨a1, a2, n, a3, a4, a5, a6, a7⟩ := X
  have e : S'.2.2 2 = S.2.2 2 := by rw [h.2]
  refine ⟨⟨a1, by rw [h1]; exact a2, n, by rw [e]; exact a3, a4, a5, by rw [e]; exact a6, fun k hk => ?_⟩, ?_⟩
  · rw [e, h.1 _ o]
    exact a7 k hk
  · unfold txO
    rw [e]
    exact o
def nx59 (T : Nat → Int32) (L q : Nat) : Bool := !(decide (pk T L q = 59) || decide (pk T L q = -1))
theorem cV_w9 {F : Nat → Int32} (H : cV S V) : cV (wA S 9 F) V := by
  unfold cV at H ⊢
  simp only [wA_ne (show (2 : Nat) ≠ 9 by decide), wA_ne (show (4 : Nat) ≠ 9 by decide), wA_ne (show (5 : Nat) ≠ 9 by decide), wA_ne (show (6 : Nat) ≠ 9 by decide), wA_ne (show (7 : Nat) ≠ 9 by decide), wA_ne (show (8 : Nat) ≠ 9 by decide)]
  exact H
theorem X9_arm {κ : Nat} {f : xa_H → Nat → Option xa_H} {o : Option xa_H} (X : Tx S 2 T L) (o9 : txO S) (H : cV S V) (hV : vIn V) {s : Int32} (hs : sel V s = some κ) (hκ : κ < 3) (hp' : p + 1 ≤ L) (tl : ∀ (S1 : XS) (q : Nat) (b : Bool), cV S1 V → kIn κ (fun j => S1.1 9 (kfi κ + j)) → ∃ S', f (hp (rdS S1 2 q b) c) 2 = some (hp (rdS S' 2 q b) c) ∧ cV S' (tell V κ (fun j => S1.1 9 (kfi κ + j))) ∧ fr 2 9 S' S1 ∧ S'.1 2 1 = S1.1 2 1) (ho : o = (f_X9_items (hp (rdS S 2 p false) c) 2 (nI (kfi κ)) (nI (kfi κ + kcn κ))).bind fun q4 => (f q4 2).bind fun q5 => some q5) : (∀ f', spIt T L κ (kcn κ + 1) 0 (kus κ) (p + 1) = .inl f' → ∃ S', o = some (hp (rdS S' 2 f' true) c) ∧ fr 2 9 S' S) ∧ ∀ v q, spIt T L κ (kcn κ + 1) 0 (kus κ) (p + 1) = .inr (v, q) → ∃ S', o = some (hp (rdS S' 2 q (nx59 T L q)) c) ∧ cV S' (tell V κ v) ∧ vIn (tell V κ v) ∧ fr 2 9 S' S ∧ S'.1 2 1 = S.1 2 1 := by
  have h9 : S.2.2 2 ≠ 9 := by rcases o9 with z | z <;> omega
  obtain ⟨F, q, b, e1, e2, e3, e4⟩ := X9_items (c := c) X h9 hκ hp'
  obtain ⟨S', t1, t2, t3, t4⟩ := tl (wA S 9 F) q b (cV_w9 H) (by rw [wA_same]; exact e2)
  rw [wA_same] at t2
  rw [wA_ne (by decide)] at t4
  have t5 : fr 2 9 S' S := fr.trans (fr.wA (by decide) (by decide)) t3
  have ho' : o = some (hp (rdS S' 2 q b) c) := by
    rw [ho, e1, Option.bind_some, t1, Option.bind_some]
  refine ⟨fun f' z => ?_, fun v q' z => ?_⟩
  · obtain ⟨z1, z2⟩ := e3 f' z
    subst z1 z2
    exact ⟨S', ho', t5⟩
  · obtain ⟨z1, z2, z3⟩ := e4 v q' z
    subst z1 z2
    have hm := (spIt_mono (T := T) (L := L) hκ (kcn κ + 1) 0 (kus κ) (p + 1) hp' (kusIn hκ)).2 v q z
    have tt : tell V κ (fun j => F (kfi κ + j)) = tell V κ v ∨ True := Or.inr trivial
    have te : tell V κ (fun j => F (kfi κ + j)) = tell V κ v := by
      unfold tell put3
      rcases (by omega : κ = 0 ∨ κ = 1 ∨ κ = 2) with rfl | rfl | rfl
      · rw [if_pos rfl, if_pos rfl]
        dsimp only
        rw [z3 0 (by decide), z3 1 (by decide)]
      · rw [if_neg (by decide), if_pos rfl, if_neg (by decide), if_pos rfl]
        dsimp only
        rw [z3 0 (by decide), z3 1 (by decide), z3 2 (by decide)]
      · rw [if_neg (by decide), if_neg (by decide), if_neg (by decide), if_neg (by decide)]
        dsimp only
        rw [z3 0 (by decide), z3 1 (by decide), z3 2 (by decide)]
    rw [te] at t2
    exact ⟨S', ho', t2, tell_in hV hs hm.2.2.2, t5, t4⟩
theorem X9_clause_ok (X : Tx S 2 T L) (o9 : txO S) (H : cV S V) (hV : vIn V) (hp' : p ≤ L) : (∀ f, spCl T L V p = .inl f → ∃ S', f_X9_clause (hp (rdS S 2 p false) c) 2 = some (hp (rdS S' 2 f true) c) ∧ fr 2 9 S' S) ∧ ∀ V' q, spCl T L V p = .inr (V', q) → ∃ S', f_X9_clause (hp (rdS S 2 p false) c) 2 = some (hp (rdS S' 2 q (nx59 T L q)) c) ∧ cV S' V' ∧ vIn V' ∧ fr 2 9 S' S ∧ S'.1 2 1 = S.1 2 1 := by
  have H0 := H
  obtain ⟨h1, h2, h3, h4, h5, h6, h7, h8, h9, h10, h11, h12, h13⟩ := H
  unfold f_X9_clause
  rw [k2, Option.bind_some, Option.bind_some, rd_peek R2' X hp', Option.bind_some]
  have arm : ∀ κ, sel V (pk T L p) = some κ → ((∀ f', spIt T L κ (kcn κ + 1) 0 (kus κ) (sk T L p + 1) = .inl f' → ∃ S', (if pk T L p = (115 : Int32) then (gI [9] 6 (hp (rdS S 2 (sk T L p) false) c) 2).bind fun x4 => if x4 = 0 then (f_X9_items (hp (rdS S 2 (sk T L p) false) c) 2 (0 : Int32) (2 : Int32)).bind fun q6 => (f_X9_tellRules q6 2).bind fun q7 => some q7 else f_X9_clause_b31 (hp (rdS S 2 (sk T L p) false) c) 2 (pk T L p) else f_X9_clause_b31 (hp (rdS S 2 (sk T L p) false) c) 2 (pk T L p)) = some (hp (rdS S' 2 f' true) c) ∧ fr 2 9 S' S) ∧ ∀ v q, spIt T L κ (kcn κ + 1) 0 (kus κ) (sk T L p + 1) = .inr (v, q) → ∃ S', (if pk T L p = (115 : Int32) then (gI [9] 6 (hp (rdS S 2 (sk T L p) false) c) 2).bind fun x4 => if x4 = 0 then (f_X9_items (hp (rdS S 2 (sk T L p) false) c) 2 (0 : Int32) (2 : Int32)).bind fun q6 => (f_X9_tellRules q6 2).bind fun q7 => some q7 else f_X9_clause_b31 (hp (rdS S 2 (sk T L p) false) c) 2 (pk T L p) else f_X9_clause_b31 (hp (rdS S 2 (sk T L p) false) c) 2 (pk T L p)) = some (hp (rdS S' 2 q (nx59 T L q)) c) ∧ cV S' (tell V κ v) ∧ vIn (tell V κ v) ∧ fr 2 9 S' S ∧ S'.1 2 1 = S.1 2 1) := by
    intro κ hs
    have hk := sel_ne hs
    have hsel := hs
    have hsk := pk_sk1 (T := T) (L := L) (p := p) hk.1
    unfold sel at hs
    by_cases c1 : pk T L p = 115 ∧ V.1 = false
    · rw [if_pos c1] at hs
      cases hs
      refine X9_arm (f := f_X9_tellRules) X o9 H0 hV hsel (by decide) hsk.1 (fun S1 q b h1 h2 => X9_tellRules h1) ?_
      rw [if_pos c1.1, g2_6, Option.bind_some, rdS_k (by decide) (by decide), h1, c1.2, if_pos bI_f]
      rfl
    · rw [if_neg c1] at hs
      have to31 : (if pk T L p = (115 : Int32) then (gI [9] 6 (hp (rdS S 2 (sk T L p) false) c) 2).bind fun x4 => if x4 = 0 then (f_X9_items (hp (rdS S 2 (sk T L p) false) c) 2 (0 : Int32) (2 : Int32)).bind fun q6 => (f_X9_tellRules q6 2).bind fun q7 => some q7 else f_X9_clause_b31 (hp (rdS S 2 (sk T L p) false) c) 2 (pk T L p) else f_X9_clause_b31 (hp (rdS S 2 (sk T L p) false) c) 2 (pk T L p)) = f_X9_clause_b31 (hp (rdS S 2 (sk T L p) false) c) 2 (pk T L p) := by
        by_cases c2 : pk T L p = 115
        · have c3 : V.1 = true := by
            cases hz : V.1 with
            | true => rfl
            | false => exact absurd ⟨c2, hz⟩ c1
          rw [if_pos c2, g2_6, Option.bind_some, rdS_k (by decide) (by decide), h1, c3, if_neg (show ¬ bI true = 0 by decide)]
        · rw [if_neg c2]
      rw [to31]
      by_cases c4 : pk T L p = 112 ∧ V.2.1.1 < 6
      · rw [if_pos c4] at hs
        cases hs
        refine X9_arm (f := f_X9_tellHouse) X o9 H0 hV hsel (by decide) hsk.1 (fun S1 q b h1 h2 => X9_tellHouse h1 c4.2) ?_
        unfold f_X9_clause_b31
        rw [if_pos c4.1, g2_4, Option.bind_some, B4.g4, Option.bind_some, rdS_ne (by decide), h5, if_neg (by rw [show (6 : Int32) = nI 6 from rfl]; exact nI_ge c4.2 (by decide))]
        rfl
      · rw [if_neg c4] at hs
        by_cases c5 : pk T L p = 102 ∧ V.2.2.1.1 < 12
        · rw [if_pos c5] at hs
          cases hs
          refine X9_arm (f := f_X9_tellFavours) X o9 H0 hV hsel (by decide) hsk.1 (fun S1 q b h1 h2 => X9_tellFavours h1 hV h2) ?_
          unfold f_X9_clause_b31 f_X9_clause_b62
          rw [if_neg (by rw [c5.1]; decide), if_pos c5.1, g2_7, Option.bind_some, rdS_k (by decide) (by decide), h2, if_neg (by rw [show (12 : Int32) = nI 12 from rfl]; exact nI_ge c5.2 (by decide))]
          rfl
        · rw [if_neg c5] at hs
          cases hs
  unfold spCl
  cases hs : sel V (pk T L p) with
  | none =>
    refine ⟨fun f z => ?_, fun V' q z => by cases z⟩
    cases z
    refine ⟨S, ?_, fr.refl⟩
    unfold sel at hs
    by_cases c1 : pk T L p = 115 ∧ V.1 = false
    · rw [if_pos c1] at hs
      cases hs
    · rw [if_neg c1] at hs
      have brk : f_X9_clause_b31 (hp (rdS S 2 (sk T L p) false) c) 2 (pk T L p) = some (hp (rdS S 2 (sk T L p) true) c) := by
        unfold f_X9_clause_b31 f_X9_clause_b62 f_X9_clause_b91
        by_cases c4 : pk T L p = 112
        · have c6 : ¬ V.2.1.1 < 6 := fun z => by
            rw [if_pos ⟨c4, z⟩] at hs
            cases hs
          rw [if_pos c4, g2_4, Option.bind_some, B4.g4, Option.bind_some, rdS_ne (by decide), h5, if_pos (by rw [show (6 : Int32) = nI 6 from rfl]; exact nI_le (by omega) (by have := hV.1; omega)), if_neg (by rw [c4]; decide), r2_p3, Option.bind_some]
        · rw [if_neg c4]
          by_cases c5 : pk T L p = 102
          · have c6 : ¬ V.2.2.1.1 < 12 := fun z => by
              rw [if_neg (fun y => c4 y.1), if_pos ⟨c5, z⟩] at hs
              cases hs
            rw [if_pos c5, g2_7, Option.bind_some, rdS_k (by decide) (by decide), h2, if_pos (by rw [show (12 : Int32) = nI 12 from rfl]; exact nI_le (by omega) (by have := hV.2.1; omega)), r2_p3, Option.bind_some]
          · rw [if_neg c5, r2_p3, Option.bind_some]
      by_cases c2 : pk T L p = 115
      · have c3 : V.1 = true := by
          cases hz : V.1 with
          | true => rfl
          | false => exact absurd ⟨c2, hz⟩ c1
        rw [if_pos c2, g2_6, Option.bind_some, rdS_k (by decide) (by decide), h1, c3, if_neg (show ¬ bI true = 0 by decide)]
        exact brk
      · rw [if_neg c2]
        exact brk
  | some κ =>
    have ha := arm κ hs
    dsimp only
    cases he : spIt T L κ (kcn κ + 1) 0 (kus κ) (sk T L p + 1) with
    | inl f =>
      refine ⟨fun f' z => ?_, fun V' q z => by cases z⟩
      cases z
      exact ha.1 f he
    | inr vq =>
      obtain ⟨v, q⟩ := vq
      refine ⟨fun f' z => (by cases z), fun V' q' z => ?_⟩
      cases z
      exact ha.2 v q he
theorem X9_canStand (H : cV S V) {b : Bool} : f_X9_canStand (hp (rdS S 2 p b) c) 2 = some (bI (stnd V)) := by
  obtain ⟨h1, h2, h3, h4, h5, h6, h7, h8, h9, h10, h11, h12, h13⟩ := H
  have em : mF (S.1 5) 36 = mF (lyD V.2.2.1.2 V.2.2.1.1) 36 := by
    have : ∀ n, n ≤ 36 → mF (S.1 5) n = mF (lyD V.2.2.1.2 V.2.2.1.1) n := by
      intro n
      induction n with
      | zero => exact fun _ => rfl
      | succ n ih =>
        intro hn
        show imax (mF (S.1 5) n) (S.1 5 n) = imax _ _
        rw [ih (by omega), h10 n (by omega)]
    exact this 36 (by omega)
  have n4 : (4 : Nat) ≠ 2 := by decide
  have n5 : (4 + 1 : Nat) ≠ 2 := by decide
  unfold f_X9_canStand stnd
  simp only [k2, g2_4, B4.g4, B4.g5, g2_8, g2_9, B4.mostBetween, Option.bind_some, rdS_ne n4, rdS_ne n5, rdS_k (show (8 : Nat) ≠ 2 by decide) (show (8 : Nat) ≠ 3 by decide), rdS_k (show (9 : Nat) ≠ 2 by decide) (show (9 : Nat) ≠ 3 by decide), h5, h6, h3, h4, show (4 + 1 : Nat) = 5 from rfl, em]
  by_cases c1 : nI V.2.1.1 < 2
  · rw [if_pos c1, decide_eq_true c1]
    rfl
  · rw [if_neg c1, decide_eq_false c1]
    by_cases c2 : nI V.2.1.1 ≤ hn V.2.2.1.2 V.2.2.1.1
    · rw [if_pos c2, decide_eq_true c2]
      rfl
    · rw [if_neg c2, decide_eq_false c2]
      cases ownI V.2.2.1.2 V.2.2.1.1 with
      | true => rw [if_neg (show ¬ bI true = 0 by decide)]; rfl
      | false =>
        rw [if_pos bI_f]
        by_cases c3 : V.2.2.2.2 < mF (lyD V.2.2.1.2 V.2.2.1.1) 36
        · rw [if_pos c3, decide_eq_true c3]
          rfl
        · rw [if_neg c3, decide_eq_false c3]
          rfl
theorem X9_canStand_any {b : Bool} : ∃ v, f_X9_canStand (hp (rdS S 2 p b) c) 2 = some v := by
  have n4 : (4 : Nat) ≠ 2 := by decide
  unfold f_X9_canStand
  simp only [k2, g2_4, B4.g4, B4.g5, g2_8, g2_9, B4.mostBetween, Option.bind_some]
  split
  · exact ⟨_, rfl⟩
  · split
    · exact ⟨_, rfl⟩
    · split
      · split <;> exact ⟨_, rfl⟩
      · exact ⟨_, rfl⟩
def vlR (S : XS) (c : Nat × Nat) (o : Option (Int32 × xa_H)) : Nat ⊕ VD → Prop
  | .inl f => ∃ S', o = some (nI f, hp S' c) ∧ fr 2 9 S' S
  | .inr V => ∃ S', o = some (-1, hp S' c) ∧ fr 2 9 S' S ∧ cV S' V ∧ vIn V
theorem vlR_fr {S S1 : XS} {o : Option (Int32 × xa_H)} {r : Nat ⊕ VD} (h : fr 2 9 S1 S) (H : vlR S1 c o r) : vlR S c o r := by
  cases r with
  | inl f =>
    obtain ⟨S', h1, h2⟩ := H
    exact ⟨S', h1, fr.trans h h2⟩
  | inr V =>
    obtain ⟨S', h1, h2, h3⟩ := H
    exact ⟨S', h1, fr.trans h h2, h3⟩
theorem X9_end_br : ∃ S', f_X9_read_b42 (hp (rdS S 2 p true) c) 2 = some (nI p, hp S' c) ∧ fr 2 9 S' S := by
  obtain ⟨v, hv⟩ := X9_canStand_any (S := S) (c := c) (p := p) (b := true)
  have e : f_X9_read_b54 (hp (rdS S 2 p true) c) 2 = some (nI p, hp (rdS S 2 p true) c) := by
    unfold f_X9_read_b54 f_X4_wrongAt
    rw [k2, Option.bind_some, R2'.ck, Option.bind_some, R2'.g3, Option.bind_some, rdS_br, if_neg (by decide), R2'.g2, Option.bind_some, rdS_at, Option.bind_some]
  refine ⟨rdS S 2 p true, ?_, fr.wA (by decide) (by decide)⟩
  unfold f_X9_read_b42
  rw [hv, Option.bind_some]
  split
  · rw [r2_p3, Option.bind_some, e]
  · exact e
theorem rdS_cV {b : Bool} (H : cV S V) : cV (rdS S 2 p b) V := by
  unfold cV at H ⊢
  simp only [rdS_ne (show (4 : Nat) ≠ 2 by decide), rdS_ne (show (5 : Nat) ≠ 2 by decide), rdS_ne (show (6 : Nat) ≠ 2 by decide), rdS_ne (show (7 : Nat) ≠ 2 by decide), rdS_ne (show (8 : Nat) ≠ 2 by decide), rdS_k (show (6 : Nat) ≠ 2 by decide) (show (6 : Nat) ≠ 3 by decide), rdS_k (show (7 : Nat) ≠ 2 by decide) (show (7 : Nat) ≠ 3 by decide), rdS_k (show (8 : Nat) ≠ 2 by decide) (show (8 : Nat) ≠ 3 by decide), rdS_k (show (9 : Nat) ≠ 2 by decide) (show (9 : Nat) ≠ 3 by decide)]
  exact H
theorem X9_end (H : cV S V) (hV : vIn V) : vlR S c (f_X9_read_b42 (hp (rdS S 2 p false) c) 2) (if whl V then .inr V else .inl p) := by
  unfold f_X9_read_b42
  rw [X9_canStand H, Option.bind_some, stnd_whl hV]
  have n2 : fr 2 9 (rdS S 2 p false) S := fr.wA (by decide) (by decide)
  cases whl V with
  | true =>
    rw [if_neg (show ¬ bI true = 0 by decide), if_pos rfl]
    unfold f_X9_read_b54 f_X4_wrongAt
    rw [k2, Option.bind_some, R2'.ck, Option.bind_some, R2'.g3, Option.bind_some, rdS_br, if_pos bI_f, Option.bind_some]
    exact ⟨_, rfl, n2, rdS_cV H, hV⟩
  | false =>
    rw [if_pos bI_f, if_neg (by decide), r2_p3, Option.bind_some]
    unfold f_X9_read_b54 f_X4_wrongAt
    rw [k2, Option.bind_some, R2'.ck, Option.bind_some, R2'.g3, Option.bind_some, rdS_br, if_neg (by decide), R2'.g2, Option.bind_some, rdS_at, Option.bind_some]
    exact ⟨_, rfl, fr.wA (by decide) (by decide)⟩
def spVt (T : Nat → Int32) (L m : Nat) (V : VD) (q : Nat) : Nat ⊕ VD := if pk T L q = 59 then spVl T L m V (sk T L q + 1) else if pk T L q = -1 then (if whl V then .inr V else .inl (sk T L q)) else .inl (sk T L q)
theorem X9_read_loop : ∀ (m p n j : Nat) (S : XS) (V : VD), Tx S 2 T L → txO S → cV S V → vIn V → p ≤ L → sk T L p = p → j ≤ p → L < p + m → 242 ≤ n + j → vlR S c (f_X9_read_b16 n (hp (rdS S 2 p (nx59 T L p)) c) 2 (nI j)) (spVt T L m V p)
  | 0, p, n, j, S, V, X, o9, H, hV, hp', hs, hj, hm, hn => by omega
  | m + 1, p, n, j, S, V, X, o9, H, hV, hp', hs, hj, hm, hn => by
    have hL := X.1
    obtain ⟨n, rfl⟩ : ∃ q, n = q + 1 := ⟨n - 1, by omega⟩
    unfold spVt
    rw [f_X9_read_b16, show (240 : Int32) = nI 240 from rfl, hs]
    by_cases e : 240 ≤ j
    · have hk : pk T L p = -1 := by
        unfold pk
        rw [hs, if_neg (by omega)]
      have hb : nx59 T L p = false := by
        unfold nx59
        rw [hk]
        decide
      rw [if_pos (nI_le e (by omega)), hk, hb, if_neg (by decide), if_pos rfl]
      exact X9_end H hV
    · rw [if_neg (nI_ge (by omega) (by omega)), k2, Option.bind_some]
      by_cases e2 : pk T L p = 59
      · have hb : nx59 T L p = false := by
          unfold nx59
          rw [e2]
          decide
        rw [hb, rd_take R2' X hp', Option.bind_some, decide_eq_true e2, if_neg (show ¬ bI true = 0 by decide), if_pos e2, if_pos e2, hs]
        have h1 := pk_sk1 (T := T) (L := L) (p := p) (by rw [e2]; decide)
        rw [hs] at h1
        have hc := X9_clause_ok (c := c) X o9 H hV h1.1
        have hmo := spCl_mono (T := T) (L := L) (V := V) h1.1
        unfold spVl
        cases he : spCl T L V (p + 1) with
        | inl f =>
          obtain ⟨S', w1, w2⟩ := hc.1 f he
          rw [w1, Option.bind_some]
          obtain ⟨n, rfl⟩ : ∃ q, n = q + 1 := ⟨n - 1, by omega⟩
          obtain ⟨S2, y1, y2⟩ := X9_end_br (S := S') (c := c) (p := f)
          rw [f_X9_read_b16]
          have fin : vlR S c (some (nI f, hp S2 c)) (.inl f) := ⟨S2, rfl, fr.trans w2 y2⟩
          by_cases e3 : (240 : Int32) ≤ nI j + 1
          · rw [if_pos e3, y1]
            exact fin
          · rw [if_neg e3, k2, Option.bind_some, rd_take_br R2' (by decide), Option.bind_some, if_pos rfl, y1]
            exact fin
        | inr vq =>
          obtain ⟨V', q⟩ := vq
          obtain ⟨S', w1, w2, w3, w4, w5⟩ := hc.2 V' q he
          have hq := hmo.2 V' q he
          have XS := X.fr2 o9 w4 w5
          rw [w1, Option.bind_some, nI_1]
          exact vlR_fr w4 (X9_read_loop m q n (j + 1) S' V' XS.1 XS.2 w2 w3 hq.2.1 hq.2.2 (by omega) (by omega) (by omega))
      · by_cases e3 : pk T L p = -1
        · have hb : nx59 T L p = false := by
            unfold nx59
            rw [e3]
            decide
          rw [hb, rd_take R2' X hp', Option.bind_some, decide_eq_false e2, if_pos (show bI false = 0 from rfl), if_neg e2, if_neg e2, if_pos e3, hs]
          exact X9_end H hV
        · have hb : nx59 T L p = true := by
            unfold nx59
            rw [decide_eq_false e2, decide_eq_false e3]
            rfl
          obtain ⟨S2, y1, y2⟩ := X9_end_br (S := S) (c := c) (p := p)
          rw [hb, rd_take_br R2' (by decide), Option.bind_some, if_pos rfl, if_neg e2, if_neg e3, y1]
          exact ⟨S2, rfl, y2⟩
def V0 (td fv : Nat → Int32) : VD := (false, (0, td), (0, fv), (20, 20))
theorem V0_in {td fv : Nat → Int32} : vIn (V0 td fv) := ⟨by show (0 : Nat) ≤ 6; omega, by show (0 : Nat) ≤ 12; omega, by show ¬ ((20 : Int32) < 0 ∨ (99 : Int32) < 20); decide, by show ¬ ((20 : Int32) < 1 ∨ (99 : Int32) < 20); decide, fun h hh => by have : h < 0 := hh; omega, fun k hk => by have : k < 0 := hk; omega⟩
theorem X9_read {td fv : Nat → Int32} {ta n : Nat} (hL : L ≤ 240) (hs : sh ta = some (.inl (0, n, 0, 0))) (hLn : L ≤ n) (hn : n < 2 ^ 31) (hne : ta < 2 ∨ 9 < ta) (hT : ∀ k, k < L → S.1 ta k = T k) : vlR (wT S 2 ta) c (f_X9_read (hp S c) 2 ta (nI L)) (spVl T L (L + 1) (V0 td fv) 0) := by
  have X := Tx_st (S := S) (r := 2) hL hs hLn hn (by omega) hT
  have o9 : txO (stS S 2 ta L) := by
    have e : (stS S 2 ta L).2.2 2 = ta := wT_same (S := S)
    unfold txO
    rw [e]
    exact hne
  unfold f_X9_read f_X9_forget
  rw [k2, Option.bind_some, Option.bind_some, rd_start R2' hs hLn hn, Option.bind_some, k2, Option.bind_some, g2_4, Option.bind_some]
  obtain ⟨S', e1, c1, c2, c3, c4⟩ := B4.clear (S := rdS (stS S 2 ta L) 2 0 false) (c := c)
  rw [e1, Option.bind_some, g2_4, Option.bind_some, show aS 3 (0 : Int32) = some 20 by decide +kernel, Option.bind_some, B4.p7, Option.bind_some, g2_4, Option.bind_some, show aS 3 (1 : Int32) = some 20 by decide +kernel, Option.bind_some, B4.p5, Option.bind_some, p2_6, Option.bind_some, p2_7, Option.bind_some, p2_8, Option.bind_some, p2_9, Option.bind_some, Option.bind_some]
  simp only [wA_wA, wA_same, wA_ne (show (2 : Nat) ≠ 4 by decide)]
  have e2 : S'.1 2 = (rdS (stS S 2 ta L) 2 0 false).1 2 := c4.1 2 (by decide)
  have hS1 : ∃ S1, S1 = wA (wA S' 4 (upd (upd (S'.1 4) 7 20) 5 20)) 2 (upd (upd (upd (upd (S'.1 2) 6 0) 7 0) 8 (-1)) 9 0) := ⟨_, rfl⟩
  obtain ⟨S1, hS1⟩ := hS1
  have f1 : fr 2 9 S1 (rdS (stS S 2 ta L) 2 0 false) := by
    rw [hS1]
    exact fr.trans (fr.trans (fr.mono c4 (by decide) (by decide)) (fr.wA (by decide) (by decide))) (fr.wA (by decide) (by decide))
  have f2 : fr 2 9 S1 (stS S 2 ta L) := fr.trans (fr.wA (by decide) (by decide)) f1
  have k21 : S1.1 2 1 = (stS S 2 ta L).1 2 1 := by
    rw [hS1, wA_same, upd_ne (by decide), upd_ne (by decide), upd_ne (by decide), upd_ne (by decide), e2, rdS_k (by decide) (by decide)]
  have k22 : S1.1 2 2 = nI 0 := by
    rw [hS1, wA_same, upd_ne (by decide), upd_ne (by decide), upd_ne (by decide), upd_ne (by decide), e2, rdS_at]
  have k23 : S1.1 2 3 = bI false := by
    rw [hS1, wA_same, upd_ne (by decide), upd_ne (by decide), upd_ne (by decide), upd_ne (by decide), e2, rdS_br]
  have er : rdS S1 2 0 false = S1 := by
    unfold rdS
    rw [← k22, upd_self, ← k23, upd_self, wA_self]
  have H : cV S1 (V0 td fv) := by
    rw [hS1]
    unfold cV
    simp only [wA_same, wA_ne (show (4 : Nat) ≠ 2 by decide), wA_ne (show (5 : Nat) ≠ 2 by decide), wA_ne (show (6 : Nat) ≠ 2 by decide), wA_ne (show (7 : Nat) ≠ 2 by decide), wA_ne (show (8 : Nat) ≠ 2 by decide), wA_ne (show (5 : Nat) ≠ 4 by decide), wA_ne (show (6 : Nat) ≠ 4 by decide), wA_ne (show (7 : Nat) ≠ 4 by decide), wA_ne (show (8 : Nat) ≠ 4 by decide)]
    refine ⟨rfl, rfl, rfl, rfl, ?_, rfl, ?_, rfl, ?_, fun k hk => c1 k hk, fun h hh => ?_, fun h hh => ?_, fun h hh => (c2 h hh).2.2⟩
    · rw [upd_ne (by decide), upd_ne (by decide)]
      exact c3 4 (by decide) (by decide)
    · rw [upd_ne (by decide), upd_ne (by decide)]
      exact c3 6 (by decide) (by decide)
    · rw [upd_ne (by decide), upd_ne (by decide)]
      exact c3 8 (by decide) (by decide)
    · rw [if_neg (by show ¬ h < 0; omega)]
      exact (c2 h hh).1
    · have : h < 0 := hh
      omega
  have X1 := X.fr2 o9 f2 k21
  rw [← hS1, ← er]
  have ft : fr 2 9 S1 (wT S 2 ta) := fr.trans (fr.wA (by decide) (by decide)) f2
  have hc := X9_clause_ok (c := c) (p := 0) X1.1 X1.2 H V0_in (by omega)
  have hmo := spCl_mono (T := T) (L := L) (V := V0 td fv) (p := 0) (by omega)
  unfold spVl
  cases he : spCl T L (V0 td fv) 0 with
  | inl f =>
    obtain ⟨S2, w1, w2⟩ := hc.1 f he
    rw [w1, Option.bind_some]
    obtain ⟨S3, y1, y2⟩ := X9_end_br (S := S2) (c := c) (p := f)
    rw [show (1048576 : Nat) = 1048575 + 1 from rfl, f_X9_read_b16, if_neg (by decide), k2, Option.bind_some, rd_take_br R2' (by decide), Option.bind_some, if_pos rfl, y1]
    exact ⟨S3, rfl, fr.trans ft (fr.trans w2 y2)⟩
  | inr vq =>
    obtain ⟨V', q⟩ := vq
    obtain ⟨S2, w1, w2, w3, w4, w5⟩ := hc.2 V' q he
    have hq := hmo.2 V' q he
    have X2 := X1.1.fr2 X1.2 w4 w5
    rw [w1, Option.bind_some]
    exact vlR_fr ft (vlR_fr w4 (X9_read_loop (c := c) L q 1048576 0 S2 V' X2.1 X2.2 w2 w3 hq.2.1 hq.2.2 (by omega) (by omega) (by omega)))
end V5
