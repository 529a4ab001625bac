/-! SONGS as they are read -/
theorem R13 : isRd 13 := Or.inr (Or.inr rfl)
theorem dgv_in {u : Int32} (h : isDg u = true) : u - 48 = nI (tn (u - 48)) ∧ tn (u - 48) < 10 := by
  obtain ⟨t, t1, rfl⟩ := isDg_ex h
  have e : nI (t + 48) - 48 = nI t := by
    rw [show (48 : Int32) = nI 48 from rfl, ← nI_add, Int32.add_sub_cancel]
  rw [e, tn_nI (by omega)]
  exact ⟨rfl, by omega⟩
def updN (f : Nat → Nat) (k x : Nat) : Nat → Nat := fun j => if j = k then x else f j
def sgF (T : Nat → Int32) (L : Nat) : Nat → Nat → (Nat → Nat) → Nat → Nat ⊕ (Nat × (Nat → Nat))
  | 0, n, D, p => .inl p
  | m + 1, n, D, p => if isDg (pk T L p) = true then (if n = 16 then .inl (sk T L p) else sgF T L m (n + 1) (updN D n (tn (pk T L p - 48))) (sk T L p + 1)) else if n = 0 ∨ pk T L p ≠ -1 then .inl (sk T L p) else .inr (n, D)
section SG
variable {S : XS} {c : Nat × Nat} {T : Nat → Int32} {L p : Nat}
theorem r13_p2 {q : Nat} {b : Bool} : xp [8] 2 (hp (rdS S 13 p b) c) 13 (.int (nI q)) = some (hp (rdS S 13 q b) c) := by
  rw [p13_2, rdS_put2]
theorem r13_p3 {b : Bool} : xp [8] 3 (hp (rdS S 13 p b) c) 13 (.int 1) = some (hp (rdS S 13 p true) c) := by
  rw [p13_3, rdS_put3']
theorem r13_g2 {b : Bool} : gI [8] 2 (hp (rdS S 13 p b) c) 13 = some (nI p) := by
  rw [g13_2, rdS_at]
/-- behind the reading of a song -/
def sgR (S : XS) (c : Nat × Nat) (o : Option (Int32 × xa_H)) (r : Nat ⊕ (Nat × (Nat → Nat))) : Prop :=
  (∀ f, r = .inl f → ∃ S', o = some (nI f, hp S' c) ∧ fr 13 15 S' S) ∧ ∀ n D, r = .inr (n, D) → ∃ S', o = some (-1, hp S' c) ∧ fr 13 15 S' S ∧ 1 ≤ n ∧ n ≤ 16 ∧ S'.1 13 5 = nI n ∧ ∀ k, k < n → D k < 10 ∧ S'.1 15 k = nI (D k)
theorem sgR_fr {S S1 : XS} {o : Option (Int32 × xa_H)} {r : Nat ⊕ (Nat × (Nat → Nat))} (h : fr 13 15 S1 S) (H : sgR S1 c o r) : sgR S c o r := by
  refine ⟨fun f z => ?_, fun n D z => ?_⟩
  · obtain ⟨S', h1, h2⟩ := H.1 f z
    exact ⟨S', h1, fr.trans h h2⟩
  · obtain ⟨S', h1, h2, h3⟩ := H.2 n D z
    exact ⟨S', h1, fr.trans h h2, h3⟩
theorem X8_end (X : Tx S 13 T L) (hp' : p ≤ L) {n : Nat} {D : Nat → Nat} (hn : n ≤ 16) (h5 : S.1 13 5 = nI n) (hD : ∀ k, k < n → D k < 10 ∧ S.1 15 k = nI (D k)) : sgR S c (f_X8_read_b73 (hp (rdS S 13 p false) c) 13) (if n = 0 ∨ pk T L p ≠ -1 then .inl (sk T L p) else .inr (n, D)) ∨ n = 0 := by
  by_cases n0 : n = 0
  · exact Or.inr n0
  refine Or.inl ?_
  unfold f_X8_read_b73 f_X8_read_b88 f_X8_read_b93 f_X4_wrongAt
  rw [g13_5, Option.bind_some, rdS_k (by decide) (by decide), h5, if_neg (nI_ne0 (by omega) (by omega)), k13, Option.bind_some, rd_peek R13 X hp', Option.bind_some]
  by_cases e : pk T L p = -1
  · rw [if_pos e, if_neg (fun z => z.elim n0 (fun y => y e)), k13, Option.bind_some, R13.ck, Option.bind_some, R13.g3, Option.bind_some, rdS_br, if_pos bI_f, Option.bind_some]
    refine ⟨fun f z => (by cases z), fun n' D' z => ?_⟩
    cases z
    refine ⟨_, rfl, fr.wA (by decide) (by decide), by omega, hn, ?_, fun k hk => ?_⟩
    · rw [rdS_k (by decide) (by decide)]
      exact h5
    · rw [rdS_ne (by decide)]
      exact hD k hk
  · rw [if_neg e, if_pos (Or.inr e), r13_p3, Option.bind_some, k13, Option.bind_some, R13.ck, Option.bind_some, R13.g3, Option.bind_some, rdS_br, if_neg (show ¬ bI true = 0 by decide), R13.g2, Option.bind_some, rdS_at, Option.bind_some]
    refine ⟨fun f z => ?_, fun n' D' z => by cases z⟩
    cases z
    exact ⟨_, rfl, fr.wA (by decide) (by decide)⟩
theorem X8_end0 (h5 : S.1 13 5 = nI 0) {r : Nat ⊕ (Nat × (Nat → Nat))} (hr : r = .inl p) : sgR S c (f_X8_read_b73 (hp (rdS S 13 p false) c) 13) r := by
  subst hr
  unfold f_X8_read_b73 f_X8_read_b88 f_X8_read_b93 f_X4_wrongAt
  rw [g13_5, Option.bind_some, rdS_k (by decide) (by decide), h5, if_pos (show nI 0 = 0 from rfl), r13_p3, Option.bind_some, k13, Option.bind_some, R13.ck, Option.bind_some, R13.g3, Option.bind_some, rdS_br, if_neg (show ¬ bI true = 0 by decide), R13.g2, Option.bind_some, rdS_at, Option.bind_some]
  refine ⟨fun f z => ?_, fun n' D' z => by cases z⟩
  cases z
  exact ⟨_, rfl, fr.wA (by decide) (by decide)⟩
theorem Tx.fr13 {S S' : XS} (X : Tx S 13 T L) (o : S.2.2 13 < 13 ∨ 15 < S.2.2 13) (h : fr 13 15 S' S) (h1 : S'.1 13 1 = S.1 13 1) : Tx S' 13 T L ∧ (S'.2.2 13 < 13 ∨ 15 < S'.2.2 13) := by
  obtain ⟨a1, a2, n, a3, a4, a5, a6, a7⟩ := X
  have e : S'.2.2 13 = S.2.2 13 := by rw [h.2]
  refine ⟨⟨a1, by rw [h1]; exact a2, n, by rw [e]; exact a3, a4, a5, by rw [e]; exact a6, fun k hk => ?_⟩, ?_⟩
  · rw [e, h.1 _ o]
    exact a7 k hk
  · rw [e]
    exact o
theorem X8_loop : ∀ (m n p k : Nat) (S : XS) (D : Nat → Nat), Tx S 13 T L → (S.2.2 13 < 13 ∨ 15 < S.2.2 13) → p ≤ L → L < p + m → n ≤ 16 → 18 ≤ k + n → S.1 13 5 = nI n → (∀ k, k < n → D k < 10 ∧ S.1 15 k = nI (D k)) → sgR S c (f_X8_read_b13 k (hp (rdS S 13 p false) c) 13 (nI n)) (sgF T L m n D p)
  | 0, n, p, k, S, D, X, o, hp', hm, hn, hk, h5, hD => by omega
  | m + 1, n, p, k, S, D, X, o, hp', hm, hn, hk, h5, hD => by
    have hL := X.1
    have hs := sk_le (T := T) hp'
    obtain ⟨k, rfl⟩ : ∃ q, k = q + 1 := ⟨k - 1, by omega⟩
    unfold sgF
    rw [f_X8_read_b13, show (16 : Int32) = nI 16 from rfl]
    by_cases e : n = 16
    · rw [if_pos (nI_le (by omega) (by omega)), if_pos e]
      have he := (X8_end (c := c) X hp' hn h5 hD).resolve_right (by omega)
      by_cases z : isDg (pk T L p) = true
      · rw [if_pos z]
        rw [if_pos (Or.inr (fun y => by rw [y, isDg_m1] at z; cases z))] at he
        exact he
      · rw [if_neg z]
        exact he
    · rw [if_neg (nI_ge (by omega) (by omega)), k13, Option.bind_some, rd_peek R13 X hp', Option.bind_some, rd_isDigit, Option.bind_some, if_neg e]
      cases hd : isDg (pk T L p) with
      | false =>
        rw [if_pos bI_f, if_neg (by decide)]
        by_cases n0 : n = 0
        · rw [n0] at h5
          exact X8_end0 h5 (by rw [if_pos (Or.inl n0)])
        · have he := (X8_end (c := c) X hs hn h5 hD).resolve_right n0
          rw [pk_sk, sk_sk] at he
          exact he
      | true =>
        have h1 := pk_sk1 (T := T) (L := L) (p := p) (fun z => by rw [z, isDg_m1] at hd; cases hd)
        have hv := dgv_in hd
        rw [if_neg (show ¬ bI true = 0 by decide), if_pos rfl, g13_4, Option.bind_some, q15 (by omega), Option.bind_some, rdS_wne (by decide), rdS_ne (by decide), r13_g2, Option.bind_some, nI_1, r13_p2, Option.bind_some, g13_5, Option.bind_some, p13_5, Option.bind_some, rdS_put (by decide) (by decide), rdS_k (by decide) (by decide), wA_ne (by decide), h5, nI_1]
        have hS1 : ∃ S1, S1 = wA (wA S 15 (upd (S.1 15) n (pk T L p - 48))) 13 (upd (S.1 13) 5 (nI (n + 1))) := ⟨_, rfl⟩
        obtain ⟨S1, hS1⟩ := hS1
        rw [← hS1]
        have f1 : fr 13 15 S1 S := by
          rw [hS1]
          exact fr.trans (fr.wA (by decide) (by decide)) (fr.wA (by decide) (by decide))
        have X1 := X.fr13 o f1 (by rw [hS1, wA_same]; rfl)
        refine sgR_fr f1 (X8_loop m (n + 1) (sk T L p + 1) k S1 (updN D n (tn (pk T L p - 48))) X1.1 X1.2 h1.1 (by omega) (by omega) (by omega) (by rw [hS1, wA_same, upd_same]) (fun j hj => ?_))
        rw [hS1, wA_ne (by decide), wA_same]
        unfold upd updN
        by_cases z : j = n
        · rw [if_pos z, if_pos z]
          exact ⟨hv.2, hv.1⟩
        · rw [if_neg z, if_neg z]
          exact hD j (by omega)
theorem X8_read {ta n : Nat} {D : Nat → Nat} (hL : L ≤ 240) (hs : sh ta = some (.inl (0, n, 0, 0))) (hLn : L ≤ n) (hn : n < 2 ^ 31) (hne : ta < 13 ∨ 15 < ta) (hT : ∀ k, k < L → S.1 ta k = T k) : sgR (wT S 13 ta) c (f_X8_read (hp S c) 13 ta (nI L)) (sgF T L (L + 1) 0 D 0) := by
  have X := Tx_st (S := S) (r := 13) hL hs hLn hn (by omega) hT
  have o : (stS S 13 ta L).2.2 13 < 13 ∨ 15 < (stS S 13 ta L).2.2 13 := by
    have e : (stS S 13 ta L).2.2 13 = ta := wT_same (S := S)
    rw [e]
    exact hne
  unfold f_X8_read
  rw [k13, Option.bind_some, Option.bind_some, rd_start R13 hs hLn hn, Option.bind_some, p13_5, Option.bind_some, rdS_put (by decide) (by decide)]
  have f0 : fr 13 15 (stS S 13 ta L) (wT S 13 ta) := fr.wA (by decide) (by decide)
  have f1 : fr 13 15 (wA (stS S 13 ta L) 13 (upd ((stS S 13 ta L).1 13) 5 0)) (stS S 13 ta L) := fr.wA (by decide) (by decide)
  have X1 := X.fr13 o f1 (by rw [wA_same]; rfl)
  exact sgR_fr f0 (sgR_fr f1 (X8_loop (c := c) (L + 1) 0 0 1048576 _ D X1.1 X1.2 (by omega) (by omega) (by omega) (by omega) (by rw [wA_same, upd_same]; rfl) (fun k hk => by omega)))
/-- what a reading of a song leaves as it was, of the reference -/
def frG (S' S : XS) : Prop := (∀ a, a ≠ 351 → a ≠ 362 → a ≠ 363 → S'.1 a = S.1 a) ∧ S'.2 = S.2 ∧ (∀ k, vk k = false → S'.1 351 k = S.1 351 k) ∧ (∀ k, k < 64 → S'.1 362 k = S.1 362 k) ∧ ∀ k, k < 4 → S'.1 363 k = S.1 363 k
def rsR (S : XS) (c : Nat × Nat) (o : Option xa_H) (r : Nat ⊕ (Nat × (Nat → Nat))) : Prop :=
  (∀ f, r = .inl f → ∃ S', o = some (hp S' c) ∧ S'.1 351 11 = nI f ∧ frG S' S) ∧ ∀ n D, r = .inr (n, D) → ∃ S', o = some (hp S' c) ∧ S'.1 351 11 = -1 ∧ frG S' S ∧ S'.1 363 4 = nI n ∧ ∀ k, k < n → S'.1 362 (64 + k) = nI (D k)
theorem X12_song_loop {d : Nat} : ∀ (m n p k : Nat) (S : XS) (D : Nat → Nat), Ty S T L → S.2.2 351 = 352 → p ≤ L → sk T L p = p → L < p + m → n ≤ 16 → m < k → (∀ k, k < n → S.1 362 (64 + k) = nI (D k)) → rsR S c (f_X12_readSong_b20 k (hp (rfS S p (-1) d) c) 351 (nI n) (pk T L p)) (sgF T L m n D p)
  | 0, n, p, k, S, D, Y, h352, hp', hs, hm, hn, hk, hD => by omega
  | m + 1, n, p, 0, S, D, Y, h352, hp', hs, hm, hn, hk, hD => by omega
  | m + 1, n, p, k + 1, S, D, Y, h352, hp', hs, hm, hn, hk, hD => by
    have hL := Y.1
    have hdg : (decide (p < L) && isDg (T p)) = isDg (pk T L p) := by
      unfold pk
      rw [hs]
      by_cases z : p < L
      · rw [if_pos z, decide_eq_true z, Bool.true_and]
      · rw [if_neg z, decide_eq_false z, Bool.false_and]
        rfl
    have rfk : ∀ (S1 : XS) (q : Nat) (f : Int32), frG (rfS S1 q f d) S1 := fun S1 q f => ⟨fun a b1 _ _ => rfS_ne b1, rfl, fun k hk => rfS_k (fun z => by rw [z] at hk; exact absurd hk (by decide)) (fun z => by rw [z] at hk; exact absurd hk (by decide)) (fun z => by rw [z] at hk; exact absurd hk (by decide)), fun k _ => by rw [rfS_ne (by decide)], fun k _ => by rw [rfS_ne (by decide)]⟩
    have trG : ∀ {S1 S2 S3 : XS}, frG S2 S1 → frG S3 S2 → frG S3 S1 := fun h1 h2 => ⟨fun a b1 b2 b3 => (h2.1 a b1 b2 b3).trans (h1.1 a b1 b2 b3), h2.2.1.trans h1.2.1, fun k hk => (h2.2.2.1 k hk).trans (h1.2.2.1 k hk), fun k hk => (h2.2.2.2.1 k hk).trans (h1.2.2.2.1 k hk), fun k hk => (h2.2.2.2.2 k hk).trans (h1.2.2.2.2 k hk)⟩
    unfold sgF
    rw [f_X12_readSong_b20, rf_isDigit Y hp', Option.bind_some, hdg, hs]
    unfold f_X12_readSong_b92
    cases hd : isDg (pk T L p) with
    | false =>
      rw [if_pos bI_f, if_neg (by decide), g351_25, Option.bind_some, show (4 : Int32) = nI 4 from rfl, q363 (by decide), Option.bind_some, rfS_wA (by decide), rfS_ne (by decide)]
      have f1 : frG (wA S 363 (upd (S.1 363) 4 (nI n))) S := ⟨fun a _ _ b3 => wA_ne b3, rfl, fun k _ => by rw [wA_ne (by decide)], fun k _ => by rw [wA_ne (by decide)], fun k hk => by rw [wA_same, upd_ne (by omega)]⟩
      by_cases n0 : n = 0
      · rw [if_pos (by rw [n0]; rfl), rf_fails, Option.bind_some, if_pos (Or.inl n0)]
        refine ⟨fun f z => ?_, fun n' D' z => by cases z⟩
        cases z
        exact ⟨_, rfl, rfS_f, trG f1 (rfk _ _ _)⟩
      · rw [if_neg (nI_ne0 (by omega) (by omega))]
        by_cases e : pk T L p = -1
        · rw [if_pos e, if_neg (fun z => z.elim n0 (fun y => y e))]
          refine ⟨fun f z => (by cases z), fun n' D' z => ?_⟩
          cases z
          refine ⟨_, rfl, rfS_f, trG f1 (rfk _ _ _), ?_, fun k hk => ?_⟩
          · rw [rfS_ne (by decide), wA_same, upd_same]
          · rw [rfS_ne (by decide), wA_ne (by decide)]
            exact hD k hk
        · rw [if_neg e, rf_fails, Option.bind_some, if_pos (Or.inr e)]
          refine ⟨fun f z => ?_, fun n' D' z => by cases z⟩
          cases z
          exact ⟨_, rfl, rfS_f, trG f1 (rfk _ _ _)⟩
    | true =>
      have hne : pk T L p ≠ -1 := fun z => by rw [z, isDg_m1] at hd; cases hd
      have h1 := pk_sk1 (T := T) (L := L) (p := p) hne
      have h2 := pk_isin (T := T) (L := L) (p := p) hne
      rw [hs] at h1 h2
      have hv := dgv_in hd
      rw [if_neg (show ¬ bI true = 0 by decide), if_pos rfl, show (16 : Int32) = nI 16 from rfl]
      by_cases e : n = 16
      · rw [if_pos (by rw [e]), if_pos e, rf_fails, Option.bind_some]
        refine ⟨fun f z => ?_, fun n' D' z => by cases z⟩
        cases z
        exact ⟨_, rfl, rfS_f, rfk _ _ _⟩
      · have f1 : frG (wA S 362 (upd (S.1 362) (64 + n) (T p - 48))) S := ⟨fun a _ b2 _ => wA_ne b2, rfl, fun k _ => by rw [wA_ne (by decide)], fun k hk => by rw [wA_same, upd_ne (by omega)], fun k _ => by rw [wA_ne (by decide)]⟩
        have Y1 := Y.wr (F := upd (S.1 362) (64 + n) (T p - 48)) (show (362 : Nat) ≠ 351 by decide) (by rw [h352]; decide)
        have hsq := sk_le (T := T) h1.1
        rw [if_neg (fun z => e ((nI_eq (by omega) (by decide)).mp z)), if_neg e, g351_24, Option.bind_some, rf_here Y h2.1, Option.bind_some, show (64 : Int32) = nI 64 from rfl, nI_add, q362 (by omega), Option.bind_some, rfS_wA (by decide), rfS_ne (by decide), g351_10, Option.bind_some, rfS_at, nI_1, p351_10, Option.bind_some, rfS_p10, rf_look Y1 h1.1, Option.bind_some, nI_1]
        have ih := X12_song_loop (d := d) m (n + 1) (sk T L (p + 1)) k (wA S 362 (upd (S.1 362) (64 + n) (T p - 48))) (updN D n (tn (pk T L p - 48))) Y1 h352 hsq sk_sk (by have := sk_ge (T := T) (L := L) (p := p + 1); omega) (by omega) (by omega) (fun j hj => by
          rw [wA_same]
          unfold upd updN
          by_cases z : j = n
          · rw [if_pos (by omega), if_pos z, ← h2.2]
            exact hv.1
          · rw [if_neg (by omega), if_neg z]
            exact hD j (by omega))
        rw [pk_sk] at ih
        have es : sgF T L m (n + 1) (updN D n (tn (pk T L p - 48))) (sk T L (p + 1)) = sgF T L m (n + 1) (updN D n (tn (pk T L p - 48))) (p + 1) ∨ m = 0 := by
          cases m with
          | zero => exact Or.inr rfl
          | succ m =>
            refine Or.inl ?_
            unfold sgF
            rw [pk_sk, sk_sk]
        rw [es.resolve_right (by omega)] at ih
        refine ⟨fun f z => ?_, fun n' D' z => ?_⟩
        · obtain ⟨S', a1, a2, a3⟩ := ih.1 f z
          exact ⟨S', a1, a2, trG f1 a3⟩
        · obtain ⟨S', a1, a2, a3, a4⟩ := ih.2 n' D' z
          exact ⟨S', a1, a2, trG f1 a3, a4⟩
theorem X12_song {D : Nat → Nat} (hL : L ≤ 240) (h6 : S.1 351 6 = nI L) (hT : ∀ k, k < L → byR (T k) (S.1 352 k)) : rsR (wT S 351 352) c (f_X12_readSong (hp S c) 351) (sgF T L (L + 1) 0 D 0) := by
  unfold f_X12_readSong f_X12_starts
  simp only [k351, Option.bind_some, g351_1, g351_6, h6, p351_5, p351_8, p351_9, p351_10, p351_11, wA_wA, wA_same]
  obtain ⟨d0, hd0⟩ := ofn (S.1 351 12)
  have hS1 : ∃ S1, S1 = wA (wT S 351 352) 351 (upd (upd (S.1 351) 8 0) 9 (nI L)) := ⟨_, rfl⟩
  obtain ⟨S1, hS1⟩ := hS1
  have e0 : wA (wT S 351 352) 351 (upd (upd (upd (upd ((wT S 351 352).1 351) 8 0) 9 (nI L)) 10 0) 11 (-1)) = rfS S1 0 (-1) d0 := by
    rw [hS1]
    unfold rfS
    rw [wA_wA, wA_same]
    congr 1
    funext k
    show upd (upd (upd (upd (S.1 351) 8 0) 9 (nI L)) 10 0) 11 (-1) k = _
    rw [← hd0]
    unfold upd
    by_cases c4 : k = 12
    · subst c4; rfl
    by_cases c5 : k = 11
    · subst c5; rfl
    by_cases c6 : k = 10
    · subst c6; rfl
    rw [if_neg c4, if_neg c5, if_neg c6, if_neg c5, if_neg c6]
  rw [e0]
  have t352 : S1.2.2 351 = 352 := by
    rw [hS1, wA_2]
    exact wT_same
  have fS1 : frG S1 (wT S 351 352) := by
    rw [hS1]
    refine ⟨fun a b1 _ _ => wA_ne b1, rfl, fun k hk => ?_, fun k _ => by rw [wA_ne (by decide)], fun k _ => by rw [wA_ne (by decide)]⟩
    rw [wA_same, upd_ne (fun z => by rw [z] at hk; exact absurd hk (by decide)), upd_ne (fun z => by rw [z] at hk; exact absurd hk (by decide))]
    rfl
  have Y1 : Ty S1 T L := by
    refine ⟨hL, ?_, 240, 0, ?_, ?_, by omega, by decide, by rw [t352]; decide, fun k hk => ?_⟩
    · rw [hS1, wA_same, upd_same]
    · rw [hS1, wA_same, upd_ne (by decide), upd_same]
      rfl
    · rw [t352]
      exact s352
    · rw [t352, hS1, wA_ne (by decide), Nat.zero_add]
      exact hT k hk
  rw [rf_look Y1 (by omega), Option.bind_some]
  have ih := X12_song_loop (c := c) (d := d0) (L + 1) 0 (sk T L 0) 1048576 S1 D Y1 t352 (sk_le (by omega)) sk_sk (by have := sk_ge (T := T) (L := L) (p := 0); omega) (by omega) (by omega) (fun k hk => by omega)
  rw [pk_sk] at ih
  have es : sgF T L (L + 1) 0 D (sk T L 0) = sgF T L (L + 1) 0 D 0 := by
    unfold sgF
    rw [pk_sk, sk_sk]
  rw [es] at ih
  refine ⟨fun f z => ?_, fun n D' z => ?_⟩
  · obtain ⟨S', a1, a2, a3⟩ := ih.1 f z
    exact ⟨S', a1, a2, fun a b1 b2 b3 => (a3.1 a b1 b2 b3).trans (fS1.1 a b1 b2 b3), a3.2.1.trans fS1.2.1, fun k hk => (a3.2.2.1 k hk).trans (fS1.2.2.1 k hk), fun k hk => (a3.2.2.2.1 k hk).trans (fS1.2.2.2.1 k hk), fun k hk => (a3.2.2.2.2 k hk).trans (fS1.2.2.2.2 k hk)⟩
  · obtain ⟨S', a1, a2, a3, a4⟩ := ih.2 n D' z
    exact ⟨S', a1, a2, ⟨fun a b1 b2 b3 => (a3.1 a b1 b2 b3).trans (fS1.1 a b1 b2 b3), a3.2.1.trans fS1.2.1, fun k hk => (a3.2.2.1 k hk).trans (fS1.2.2.1 k hk), fun k hk => (a3.2.2.2.1 k hk).trans (fS1.2.2.2.1 k hk), fun k hk => (a3.2.2.2.2 k hk).trans (fS1.2.2.2.2 k hk)⟩, a4⟩
theorem sgF_mono : ∀ (m n : Nat) (D : Nat → Nat) (p : Nat), p ≤ L → ∀ f, sgF T L m n D p = .inl f → f ≤ L
  | 0, n, D, p, hp, f, h => by
    cases h
    exact hp
  | m + 1, n, D, p, hp, f, h => by
    unfold sgF at h
    split at h
    · rename_i z
      split at h
      · cases h
        exact sk_le hp
      · exact sgF_mono m (n + 1) _ (sk T L p + 1) (pk_sk1 (fun y => by rw [y, isDg_m1] at z; cases z)).1 f h
    · split at h
      · cases h
        exact sk_le hp
      · cases h
end SG
