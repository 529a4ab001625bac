/-! ODDS: the reference -/
section OD3
variable {S : XS} {c : Nat × Nat} {n N j L ch : Nat} {kp lim : Int32} {dg : Nat → Nat}
def frO (i : Nat) (U' U : XS) : Prop := (∀ a, a ≠ 365 → a ≠ 367 → a ≠ 368 → a ≠ 375 → U'.1 a = U.1 a) ∧ ∀ k, k < 51 * i → U'.1 375 k = U.1 375 k
theorem frO.trans {i : Nat} {U U1 U2 : XS} (h1 : frO i U1 U) (h2 : frO i U2 U1) : frO i U2 U := ⟨fun a x y z w => (h2.1 a x y z w).trans (h1.1 a x y z w), fun k hk => (h2.2 k hk).trans (h1.2 k hk)⟩
theorem frO.mono {i i' : Nat} {U U1 : XS} (h1 : frO i' U1 U) (hi : i ≤ i') : frO i U1 U := ⟨h1.1, fun k hk => h1.2 k (by omega)⟩
theorem frS.o {i : Nat} {U U1 : XS} (h : frS U1 U) : frO i U1 U := ⟨fun a h1 h2 _ _ => h a h1 h2, fun k _ => by rw [h 375 (by decide) (by decide)]⟩
theorem frO_pj {i : Nat} {U U' : XS} (h : frO i U' U) : pj U' = pj U := pj_ext fun a k q => by
  by_cases e1 : a = 365
  · subst e1; rw [sc365 k] at q; cases q
  · by_cases e2 : a = 367
    · subst e2; rw [sc367 k] at q; cases q
    · by_cases e3 : a = 368
      · subst e3; rw [sc368 k] at q; cases q
      · by_cases e4 : a = 375
        · subst e4; rw [sc375 k] at q; cases q
        · rw [h.1 a e1 e2 e3 e4]
/-- a row put by -/
def svOK (U : XS) (i : Nat) (kp : Int32) (Q : BS) : Prop := U.1 375 (51 * i + 48) = kp ∧ (∀ k, k < 36 → U.1 375 (51 * i + k) = Q.1 k) ∧ ∀ k, k < 6 → U.1 375 (51 * i + (36 + k)) = Q.2 k
/-- what the reference needs besides -/
def RN (U : XS) (N : Nat) (lim : Int32) (j L : Nat) (dg : Nat → Nat) : Prop := U.1 351 26 = nI N ∧ U.1 356 1 = lim ∧ sgV U j L dg
theorem RN.of {i : Nat} {U U' : XS} (h : RN U N lim j L dg) (f : frO i U' U) : RN U' N lim j L dg := by
  unfold RN sgV at h ⊢
  rw [f.1 351 (by decide) (by decide) (by decide) (by decide), f.1 356 (by decide) (by decide) (by decide) (by decide), f.1 363 (by decide) (by decide) (by decide) (by decide), f.1 362 (by decide) (by decide) (by decide) (by decide)]
  exact h
def svG (U : XS) (i k : Nat) : Nat → Int32 := fun x => if 51 * i ≤ x ∧ x < 51 * i + k then U.1 365 (x - 51 * i) else U.1 375 x
theorem r_save {U : XS} {cc : xa_H → Nat → Int32 → Int32 → Int32 → Int32 → Option (Int32 × xa_H)} {i : Nat} {x1 l3 l4 l5 : Int32} (hi : i < 9) : f_X12_oddsFrom_b44 cc 1048576 (hp U c) 351 x1 (nI i) l3 l4 l5 0 = f_X12_oddsFrom_b95 cc 1048576 (hp (wA U 375 (svG U i 51)) c) 351 x1 (nI i) l3 l4 l5 (((l4.toInt64 * l3.toInt64) / (100 : Int64))).toInt32 0 0 := by
  have h0 : U = wA U 375 (svG U i 0) := by
    have : svG U i 0 = U.1 375 := funext fun x => if_neg (by omega)
    rw [this, wA_self]
  have l0 : f_X12_oddsFrom_b44 cc 1048576 (hp (wA U 375 (svG U i 0)) c) 351 x1 (nI i) l3 l4 l5 (nI 0) = f_X12_oddsFrom_b95 cc 1048576 (hp (wA U 375 (svG U i 51)) c) 351 x1 (nI i) l3 l4 l5 (((l4.toInt64 * l3.toInt64) / (100 : Int64))).toInt32 0 0 := by
    refine lp (N := 51) (fun n k => f_X12_oddsFrom_b44 cc n (hp (wA U 375 (svG U i k)) c) 351 x1 (nI i) l3 l4 l5 (nI k)) (fun n => ?_) (fun n k hk => ?_) 51 0 1048576 (by omega) (by omega)
    · show f_X12_oddsFrom_b44 cc (n + 1) _ 351 x1 (nI i) l3 l4 l5 (nI 51) = _
      rw [f_X12_oddsFrom_b44, if_pos (by decide)]
    · show f_X12_oddsFrom_b44 cc (n + 1) _ 351 x1 (nI i) l3 l4 l5 (nI k) = _
      rw [f_X12_oddsFrom_b44, if_neg (show ¬ (51 : Int32) ≤ nI k from (nI_ge hk (by decide) : ¬ nI 51 ≤ nI k)), g351_53, Option.bind_some, g351_33, Option.bind_some, a365 (by omega), Option.bind_some, ix51, q375 (by omega), Option.bind_some, nI_1, wA_wA, wA_same, wA_ne (show 365 ≠ 375 by decide)]
      have : upd (svG U i k) (51 * i + k) (U.1 365 k) = svG U i (k + 1) := by
        funext x
        unfold upd svG
        by_cases e : x = 51 * i + k
        · rw [if_pos e, if_pos (by omega), show x - 51 * i = k by omega]
        · rw [if_neg e]
          by_cases e2 : 51 * i ≤ x ∧ x < 51 * i + k
          · rw [if_pos e2, if_pos (by omega)]
          · rw [if_neg e2, if_neg (by omega)]
      rw [this]
  rw [← h0] at l0
  exact l0
theorem r_restore {U : XS} {cc : xa_H → Nat → Int32 → Int32 → Int32 → Int32 → Option (Int32 × xa_H)} {k95 : xa_H → Nat → Int32 → Int32 → Int32 → Int32 → Int32 → Int32 → Int32 → Int32 → Option (Int32 × xa_H)} {i : Nat} {x1 l3 l4 l5 l6 l7 l8 : Int32} (hi : i < 9) : f_X12_oddsFrom_b104 cc k95 1048576 (hp U c) 351 x1 (nI i) l3 l4 l5 l6 l7 l8 0 = f_X12_oddsFrom_b104 cc k95 1048525 (hp (wA U 365 (cpR (fun k => U.1 375 (51 * i + k)) (U.1 365) 51)) c) 351 x1 (nI i) l3 l4 l5 l6 l7 l8 51 := by
  have st : ∀ m k n, k + m = 51 → m ≤ n → f_X12_oddsFrom_b104 cc k95 n (hp (wA U 365 (cpR (fun k => U.1 375 (51 * i + k)) (U.1 365) k)) c) 351 x1 (nI i) l3 l4 l5 l6 l7 l8 (nI k) = f_X12_oddsFrom_b104 cc k95 (n - m) (hp (wA U 365 (cpR (fun k => U.1 375 (51 * i + k)) (U.1 365) 51)) c) 351 x1 (nI i) l3 l4 l5 l6 l7 l8 (nI 51) := by
    intro m
    induction m with
    | zero =>
      intro k n hk hn
      rw [show k = 51 by omega, Nat.sub_zero]
    | succ m ih =>
      intro k n hk hn
      obtain ⟨n, rfl⟩ : ∃ g, n = g + 1 := ⟨n - 1, by omega⟩
      rw [f_X12_oddsFrom_b104, if_neg (show ¬ (51 : Int32) ≤ nI k from (nI_ge (by omega) (by decide) : ¬ nI 51 ≤ nI k)), g351_33, Option.bind_some, g351_53, Option.bind_some, ix51, a375 (by omega), Option.bind_some, q365 (by omega), Option.bind_some, nI_1, wA_wA, wA_same, wA_ne (show 375 ≠ 365 by decide), cpR_step (f := fun k => U.1 375 (51 * i + k)), ih (k + 1) n (by omega) (by omega), show n + 1 - (m + 1) = n - m by omega]
  have h := st 51 0 1048576 (by decide) (by decide)
  rw [cpR_0, wA_self] at h
  exact h
theorem rem_tab {h N : Nat} (hh : h < N) (h6 : N ≤ 6) : irem (nI h + 1) (nI N) = nI ((h + 1) % N) := by
  have : ∀ N, N < 7 → ∀ h, h < 7 → h < N → irem (nI h + 1) (nI N) = nI ((h + 1) % N) := by decide +kernel
  exact this N (by omega) h (by omega) hh
def RO (c : Nat × Nat) (N : Nat) (kp lim : Int32) (dg : Nat → Nat) (L ch j q r i : Nat) : Prop := ∀ (U : XS) (Q : BS) (p : Nat), p ≤ 1000000000 → prR U N kp lim Q → Vb lim Q → RN U N lim j L dg → ∃ U', f_X12_oddsFrom q (hp U c) 351 (nI j) (nI i) (nI ch) (nI p) = some (nI (od N kp lim dg ch r i Q p), hp U' c) ∧ frO i U' U
/-- one of the two ways -/
theorem r_turn {k95 : xa_H → Nat → Int32 → Int32 → Int32 → Int32 → Int32 → Int32 → Int32 → Int32 → Option (Int32 × xa_H)} {q r i p s sum : Nat} (h6 : N ≤ 6) (h0 : 0 < N) (hl : lim.toInt ≤ 99) (hi : i < 8) (hd : dg i < 10) (hs : s ≤ p) (hp' : p ≤ 1000000000) (ih : RO c N kp lim dg L ch j q r (i + 1)) (t : Bool) (U : XS) (Q : BS) (sv : svOK U i kp Q) (V : Vb lim Q) (rn : RN U N lim j L dg) : ∃ U', f_X12_oddsFrom_b104 (f_X12_oddsFrom q) k95 1048576 (hp U c) 351 (nI j) (nI i) (nI ch) (nI p) (nI (dg i)) (nI s) (nI sum) (bI t) 0 = k95 (hp U' c) 351 (nI j) (nI i) (nI ch) (nI p) (nI (dg i)) (nI s) (nI (sum + od N kp lim dg ch r (i + 1) (if t then slp N kp lim Q (dg i) else ph N kp lim true Q (dg i)) (if t then s else p - s))) (bI t + 1) ∧ frO (i + 1) U' U := by
  rw [r_restore (by omega)]
  obtain ⟨U1, hU1⟩ : ∃ U1, U1 = wA U 365 (cpR (fun k => U.1 375 (51 * i + k)) (U.1 365) 51) := ⟨_, rfl⟩
  rw [← hU1]
  have f1 : frO (i + 1) U1 U := ⟨fun a h1 _ _ _ => by rw [hU1, wA_ne h1], fun k _ => by rw [hU1, wA_ne (by decide)]⟩
  have r1 := rn.of f1
  have H1 : prR U1 N kp lim Q := by
    have c5 : U1.1 365 = cpR (fun k => U.1 375 (51 * i + k)) (U.1 365) 51 := by rw [hU1, wA_same]
    refine ⟨r1.1, r1.2.1, ?_, ?_⟩
    · rw [c5]
      exact (if_pos (by decide)).trans sv.1
    · rw [c5]
      refine ⟨fun k hk => ?_, fun k hk => ?_⟩
      · show cpR (fun k => U.1 375 (51 * i + k)) (U.1 365) 51 k = _
        exact (if_pos (by omega)).trans (sv.2.1 k hk)
      · show cpR (fun k => U.1 375 (51 * i + k)) (U.1 365) 51 (36 + k) = _
        exact (if_pos (by omega)).trans (sv.2.2 k hk)
  -- the recursion
  have fin : ∀ (U2 : XS) (Q2 : BS), prR U2 N kp lim Q2 → Vb lim Q2 → frO (i + 1) U2 U → Q2 = (if t then slp N kp lim Q (dg i) else ph N kp lim true Q (dg i)) → ∃ U', f_X12_oddsFrom_b173 (f_X12_oddsFrom q) k95 (hp U2 c) 351 (nI j) (nI i) (nI ch) (nI p) (nI (dg i)) (nI s) (nI sum) (bI t) = k95 (hp U' c) 351 (nI j) (nI i) (nI ch) (nI p) (nI (dg i)) (nI s) (nI (sum + od N kp lim dg ch r (i + 1) (if t then slp N kp lim Q (dg i) else ph N kp lim true Q (dg i)) (if t then s else p - s))) (bI t + 1) ∧ frO (i + 1) U' U := fun U2 Q2 H2 V2 f2 hq => by
    unfold f_X12_oddsFrom_b173 f_X12_oddsFrom_b197
    rw [← hq]
    cases t with
    | true =>
      obtain ⟨U', z1, z2⟩ := ih U2 Q2 s (by omega) H2 V2 (rn.of f2)
      refine ⟨U', ?_, f2.trans z2⟩
      rw [if_pos (show bI true = 1 from rfl), nI_1, z1, Option.bind_some, nI_add, if_pos rfl]
    | false =>
      obtain ⟨U', z1, z2⟩ := ih U2 Q2 (p - s) (by omega) H2 V2 (rn.of f2)
      refine ⟨U', ?_, f2.trans z2⟩
      rw [if_neg (show ¬ bI false = 1 by decide), nI_1, nI_sb hs, z1, Option.bind_some, nI_add, if_neg (show ¬ false = true by decide)]
  rw [show (1048525 : Nat) = 1048524 + 1 from rfl, f_X12_oddsFrom_b104, if_pos (show (51 : Int32) ≤ 51 by decide), house_b r1.1 h6, Option.bind_some]
  by_cases hdN : dg i < N
  · rw [inN_i hdN (by omega), if_neg (show ¬ bI true = 0 by decide), g351_33, Option.bind_some]
    unfold f_X12_oddsFrom_b170
    cases t with
    | true =>
      have hm : (dg i + 1) % N < N := Nat.mod_lt _ h0
      obtain ⟨U2, y1, y2, y3⟩ := r_ph (c := c) h6 hm H1 V
      rw [if_pos (show bI true = 1 from rfl), g351_26, Option.bind_some, r1.1, if_neg (nI_ne0 h0 (by omega)), rem_tab hdN h6, y1, Option.bind_some]
      refine fin U2 _ y2 (ph_V h6 hl V) (f1.trans y3.o) ?_
      rw [if_pos rfl]
      unfold slp
      rw [if_pos hdN]
    | false =>
      obtain ⟨U2, y1, y2, y3⟩ := r_ph (c := c) h6 hdN H1 V
      rw [if_neg (show ¬ bI false = 1 by decide), y1, Option.bind_some]
      exact fin U2 _ y2 (ph_V h6 hl V) (f1.trans y3.o) (by rw [if_neg (show ¬ false = true by decide)])
  · rw [inN_o (Or.inr ⟨nI_nneg (by omega), nI_le (by omega) (by omega)⟩), if_pos (show bI false = 0 from rfl)]
    refine fin U1 Q H1 V f1 ?_
    cases t with
    | true =>
      rw [if_pos rfl]
      unfold slp
      rw [if_neg hdN]
    | false =>
      rw [if_neg (show ¬ false = true by decide)]
      unfold ph can
      rw [decide_eq_false hdN]
      rfl
theorem slip_r {p : Nat} (hp' : p ≤ 1000000000) (hc : ch ≤ 100) : ((((nI p).toInt64 * (nI ch).toInt64) / (100 : Int64))).toInt32 = nI (p * ch / 100) ∧ p * ch / 100 ≤ p := by
  obtain ⟨h1, h2⟩ := slip_c (p := p) hp' hc
  rw [i64_lN (j := p) (by omega), h1, lN_i32 (by omega)]
  exact ⟨rfl, h2⟩
theorem r_odds (hj : j < 4) (h6 : N ≤ 6) (h0 : 0 < N) (hl : lim.toInt ≤ 99) (hc : ch ≤ 100) (hL : L ≤ 8) (hdg : ∀ k, k < L → dg k < 10) : ∀ (r q i : Nat), i + r = L → r < q → RO c N kp lim dg L ch j q r i
  | 0, q, i, hi, hq => fun U Q p hp' H V rn => by
    obtain ⟨q, rfl⟩ : ∃ g, q = g + 1 := ⟨q - 1, by omega⟩
    obtain ⟨st, h⟩ := r_hasRing (S := U) (c := c) (a := 365) (Or.inr rfl) H.1 h6
    rw [rng_congr h6 (D := U.1 365) (D' := Q.1) H.2.2.2.1] at h
    refine ⟨wA U 368 st, ?_, fun a _ _ h3 _ => wA_ne h3, fun k _ => by rw [wA_ne (by decide)]⟩
    rw [f_X12_oddsFrom]
    unfold g_X12_oddsFrom
    rw [k351, Option.bind_some, g351_25, Option.bind_some, a363 (by omega), Option.bind_some, rn.2.2.1, if_pos (by rw [show i = L by omega]), g351_33, Option.bind_some, h, Option.bind_some]
    show _ = some (nI (if rng Q.1 N then 0 else p), _)
    cases rng Q.1 N with
    | true =>
      rw [if_neg (show ¬ bI true = 0 by decide), if_pos rfl]
      rfl
    | false => rw [if_pos (show bI false = 0 from rfl), if_neg (show ¬ false = true by decide)]
  | r + 1, q, i, hi, hq => fun U Q p hp' H V rn => by
    obtain ⟨q, rfl⟩ : ∃ g, q = g + 1 := ⟨q - 1, by omega⟩
    have ih := r_odds hj h6 h0 hl hc hL hdg r q (i + 1) (by omega) (by omega)
    obtain ⟨sl1, sl2⟩ := slip_r (p := p) hp' hc
    have hd := hdg i (by omega)
    obtain ⟨U1, hU1⟩ : ∃ U1, U1 = wA U 375 (svG U i 51) := ⟨_, rfl⟩
    have f1 : frO i U1 U := ⟨fun a _ _ _ h4 => by rw [hU1, wA_ne h4], fun k hk => by
      rw [hU1, wA_same]
      exact if_neg (by omega)⟩
    have sv1 : svOK U1 i kp Q := by
      unfold svOK
      rw [hU1, wA_same]
      have e : ∀ k, k < 51 → svG U i 51 (51 * i + k) = U.1 365 k := fun k hk => by
        unfold svG
        rw [if_pos (by omega), show 51 * i + k - 51 * i = k by omega]
      exact ⟨by rw [e 48 (by decide)]; exact H.2.2.1, fun k hk => by rw [e k (by omega)]; exact H.2.2.2.1 k hk, fun k hk => by rw [e (36 + k) (by omega)]; exact H.2.2.2.2 k hk⟩
    obtain ⟨U2, y1, y2⟩ := r_turn (c := c) (k95 := fun h l0 l1 l2 l3 l4 l5 l6 l7 l8 => f_X12_oddsFrom_b95 (f_X12_oddsFrom q) 1048575 h l0 l1 l2 l3 l4 l5 l6 l7 l8) (sum := 0) h6 h0 hl (by omega) hd sl2 hp' ih false U1 Q sv1 V (rn.of f1)
    have sv2 : svOK U2 i kp Q := by
      unfold svOK
      refine ⟨?_, fun k hk => ?_, fun k hk => ?_⟩
      · rw [y2.2 _ (by omega)]; exact sv1.1
      · rw [y2.2 _ (by omega)]; exact sv1.2.1 k hk
      · rw [y2.2 _ (by omega)]; exact sv1.2.2 k hk
    obtain ⟨U3, z1, z2⟩ := r_turn (c := c) (k95 := fun h l0 l1 l2 l3 l4 l5 l6 l7 l8 => f_X12_oddsFrom_b95 (f_X12_oddsFrom q) 1048574 h l0 l1 l2 l3 l4 l5 l6 l7 l8) (sum := 0 + od N kp lim dg ch r (i + 1) (ph N kp lim true Q (dg i)) (p - p * ch / 100)) h6 h0 hl (by omega) hd sl2 hp' ih true U2 Q sv2 V ((rn.of f1).of y2)
    rw [if_neg (show ¬ false = true by decide), if_neg (show ¬ false = true by decide)] at y1
    rw [if_pos rfl, if_pos rfl] at z1
    refine ⟨U3, ?_, f1.trans ((y2.mono (by omega)).trans (z2.mono (by omega)))⟩
    rw [f_X12_oddsFrom]
    unfold g_X12_oddsFrom
    rw [k351, Option.bind_some, g351_25, Option.bind_some, a363 (by omega), Option.bind_some, rn.2.2.1, if_neg (fun z => by have := (nI_eq (by omega) (by omega)).mp z; omega), g351_24, Option.bind_some, ix16, a362 (by omega), Option.bind_some, rn.2.2.2 i (by omega), r_save (by omega), ← hU1, sl1]
    rw [show (1048576 : Nat) = 1048575 + 1 from rfl, f_X12_oddsFrom_b95, if_neg (show ¬ (2 : Int32) ≤ 0 by decide)]
    refine Eq.trans y1 ?_
    show f_X12_oddsFrom_b95 (f_X12_oddsFrom q) (1048574 + 1) (hp U2 c) 351 _ _ _ _ _ _ _ (bI false + 1) = _
    rw [f_X12_oddsFrom_b95, if_neg (show ¬ (2 : Int32) ≤ bI false + 1 by decide), show bI false + 1 = bI true from rfl]
    refine Eq.trans z1 ?_
    show f_X12_oddsFrom_b95 (f_X12_oddsFrom q) (1048573 + 1) (hp U3 c) 351 _ _ _ _ _ _ _ (bI true + 1) = _
    rw [f_X12_oddsFrom_b95, if_pos (show (2 : Int32) ≤ bI true + 1 by decide), Nat.zero_add]
    rfl
end OD3
