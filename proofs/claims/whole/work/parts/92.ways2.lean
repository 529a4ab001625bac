/-! THE REFERENCE'S WAYS: what is gathered on them -/
def wOR {α : Type} (N : Nat) (kp lim : Int32) (c : Nat × Nat) (ρ : XS → α → Prop) (f : α → ND → α) (μ : α → Nat) : Prop :=
  (∀ (S S' : XS) (a : α), ρ S a → S'.1 351 = S.1 351 → S'.1 371 = S.1 371 → ρ S' a) ∧ (∀ a x, μ (f a x) ≤ μ a + 1) ∧
  ∀ (S : XS) (a : α) (d row : Nat) (Q : BS), ρ S a → μ a < 1600 → d ≤ 4 → row < 10 ^ d → Vb lim Q → Zo N Q.1 → prR S N kp lim Q → ∃ S', f_X12_tries (hp S c) 351 (nI d) (nI row) = some (hp S' c) ∧ ρ S' (f a (d, row, Q)) ∧ frY 5 S' S ∧ S'.1 365 = S.1 365
def kidF (N : Nat) (kp lim : Int32) (m d row last : Nat) (Q : BS) : Nat → List ND := fun h => if kidOk N kp lim false last Q h = true then dfs N kp lim false m (d + 1) (10 * row + h) h (crs N Q h) else []
theorem kid_no {N : Nat} {kp lim : Int32} {m d row last : Nat} {Q : BS} {h : Nat} (e : can N kp lim Q h = false) : kd (kidF N kp lim m d row last Q) (h + 1) = kd (kidF N kp lim m d row last Q) h := by
  show kd _ h ++ (if kidOk N kp lim false last Q h = true then _ else []) = _
  rw [if_neg (by unfold kidOk; rw [e, Bool.and_false]; decide), List.append_nil]
theorem kid_yes {N : Nat} {kp lim : Int32} {m d row last : Nat} {Q : BS} {h : Nat} (e : can N kp lim Q h = true) : kd (kidF N kp lim m d row last Q) (h + 1) = kd (kidF N kp lim m d row last Q) h ++ dfs N kp lim false m (d + 1) (10 * row + h) h (crs N Q h) := by
  show kd _ h ++ (if kidOk N kp lim false last Q h = true then _ else []) = _
  rw [if_pos (by unfold kidOk; rw [e]; rfl)]
theorem ix10 (a c : Nat) : (10 : Int32) * nI a + nI c = nI (10 * a + c) := by
  rw [show (10 : Int32) = nI 10 from rfl, pk_mul, nI_add]
theorem mu_fold {α : Type} {f : α → ND → α} {μ : α → Nat} (h : ∀ a x, μ (f a x) ≤ μ a + 1) : ∀ (L : List ND) (a : α), μ (L.foldl f a) ≤ μ a + L.length
  | [], a => Nat.le_refl _
  | x :: L, a => by
    have := mu_fold h L (f a x)
    have := h a x
    rw [List.foldl_cons, List.length_cons]
    omega
theorem kid_len {N : Nat} {kp lim : Int32} {m d row last : Nat} {Q : BS} (h6 : N ≤ 6) (h : Nat) : (kd (kidF N kp lim m d row last Q) h).length ≤ h * szW m := kd_len (fun k => by
  unfold kidF
  by_cases e : kidOk N kp lim false last Q k = true
  · rw [if_pos e]
    exact dfs_len h6 m _ _ _ _
  · rw [if_neg e]
    exact Nat.zero_le _) h
section WR
variable {α : Type} {N most : Nat} {kp lim : Int32} {c : Nat × Nat} {ρ : XS → α → Prop} {f : α → ND → α} {μ : α → Nat}
theorem prR.of {S : XS} {Q : BS} (h : prR S N kp lim Q) {S' : XS} (h1 : S'.1 351 26 = S.1 351 26) (h2 : S'.1 356 = S.1 356) (h3 : ∀ k, k < 51 → S'.1 365 k = S.1 365 k) : prR S' N kp lim Q := by
  obtain ⟨a, b, e, g⟩ := h
  refine ⟨h1.trans a, by rw [h2]; exact b, (h3 48 (by decide)).trans e, fun k hk => ?_, fun k hk => ?_⟩
  · exact (h3 k (by omega)).trans (g.1 k hk)
  · exact (h3 (36 + k) (by omega)).trans (g.2 k hk)
theorem prR.An {S : XS} {Q : BS} (h : prR S N kp lim Q) (V : Vb lim Q) : An (S.1 365) := V.1.congr h.2.2.2.1
theorem prR.Li {S : XS} {Q : BS} (h : prR S N kp lim Q) (V : Vb lim Q) : Li lim (S.1 365) := fun a b ha hb => by
  have := h.2.2.2.1 (6 * a + b) (by omega)
  have e : S.1 365 (6 * a + b) = Q.1 (6 * a + b) := this
  rw [e]
  exact V.2.1 a b ha hb
theorem prR.Wo {S : XS} {Q : BS} (h : prR S N kp lim Q) (V : Vb lim Q) : Wo (fun k => S.1 365 (36 + k)) := fun k hk => by
  have e : S.1 365 (36 + k) = Q.2 k := h.2.2.2.2 k hk
  show ∃ w, w < 1000003 ∧ S.1 365 (36 + k) = nI w
  rw [e]
  exact V.2.2 k hk
theorem r_ways (h6 : N ≤ 6) (hl : lim.toInt ≤ 99) (hm : most ≤ 4) (W : wOR N kp lim c ρ f μ) : ∀ (m n d last row : Nat) (Q : BS) (S : XS) (a : α), d + m = most → m < n → row < 10 ^ d → Vb lim Q → Zo N Q.1 → prR S N kp lim Q → ρ S a → μ a + szW m ≤ 1600 → ∃ S', f_X12_goWays n (hp S c) 351 (nI d) (nI most) (nI row) = some (hp S' c) ∧ ρ S' ((dfs N kp lim false m d row last Q).foldl f a) ∧ frY d S' S ∧ ∀ k, k < 51 → S'.1 365 k = S.1 365 k
  | m, 0, d, last, row, Q, S, a, hd, hn, hr, V, Z, H, hρ, hμ => by omega
  | m, n + 1, d, last, row, Q, S, a, hd, hn, hr, V, Z, H, hρ, hμ => by
    show ∃ S', g_X12_goWays (f_X12_goWays n) (hp S c) 351 (nI d) (nI most) (nI row) = some (hp S' c) ∧ _
    unfold g_X12_goWays
    obtain ⟨S1, e1, e2, e3, e4⟩ := W.2.2 S a d row Q hρ (by have : 0 < szW m := (by cases m <;> (unfold szW; omega)); omega) (by omega) hr V Z H
    rw [k351, Option.bind_some, e1, Option.bind_some]
    by_cases em : d = most
    · rw [if_pos (by rw [em])]
      have : m = 0 := by omega
      subst this
      exact ⟨S1, rfl, e2, e3.less (by omega), fun k _ => by rw [e4]⟩
    · rw [if_neg (fun z => em ((nI_eq (by omega) (by omega)).mp z)), gw_save (by omega)]
      obtain ⟨m, rfl⟩ : ∃ q, m = q + 1 := ⟨m - 1, by omega⟩
      have ed : (dfs N kp lim false (m + 1) d row last Q).foldl f a = (kd (kidF N kp lim m d row last Q) N).foldl f (f a (d, row, Q)) := rfl
      rw [ed]
      have loop : ∀ (rm h k : Nat) (T : XS), h + rm = N → rm < k → (∀ k, k < 51 → T.1 372 (51 * d + k) = S.1 365 k) → frY d T S → ρ T ((kd (kidF N kp lim m d row last Q) h).foldl f (f a (d, row, Q))) → ∃ S', f_X12_goWays_b50 (f_X12_goWays n) k (hp T c) 351 (nI d) (nI most) (nI row) (nI h) = some (hp S' c) ∧ ρ S' ((kd (kidF N kp lim m d row last Q) N).foldl f (f a (d, row, Q))) ∧ frY d S' S ∧ ∀ k, k < 51 → S'.1 365 k = S.1 365 k := by
        intro rm
        induction rm with
        | zero =>
          intro h k T hh hk t1 t2 t3
          obtain ⟨k, rfl⟩ : ∃ q, k = q + 1 := ⟨k - 1, by omega⟩
          have tN : T.1 351 26 = nI N := (t2.2.1 26 (by decide) (by decide) (by decide) (by decide)).trans H.1
          rw [f_X12_goWays_b50, g351_26, Option.bind_some, tN, if_pos (nI_le (by omega) (by omega)), gw_back (by omega)]
          have : h = N := by omega
          subst this
          refine ⟨_, rfl, W.1 T _ _ t3 (wA_ne (by decide)) (wA_ne (by decide)), frY.trans t2 (frY.w (Or.inl rfl)), fun k hk => ?_⟩
          rw [wA_same]
          show (if k < 51 then T.1 372 (51 * d + k) else _) = _
          rw [if_pos hk]
          exact t1 k hk
        | succ rm ih =>
          intro h k T hh hk t1 t2 t3
          obtain ⟨k, rfl⟩ : ∃ q, k = q + 1 := ⟨k - 1, by omega⟩
          have tN : T.1 351 26 = nI N := (t2.2.1 26 (by decide) (by decide) (by decide) (by decide)).trans H.1
          rw [f_X12_goWays_b50, g351_26, Option.bind_some, tN, if_neg (nI_ge (by omega) (by omega)), gw_load (S := T) (c := c) (l2 := nI most) (l3 := nI row) (l4 := nI h) (d := d) (by omega) (r := gwK (f_X12_goWays n) (fun h l0 l1 l2 l3 l4 => f_X12_goWays_b50 (f_X12_goWays n) k h l0 l1 l2 l3 l4) (hp (wA T 365 (ldF T d 51)) c) (nI d) (nI most) (nI row) (nI h)) (fun _ z => by rw [z])]
          have T1 : ∀ k, k < 51 → (wA T 365 (ldF T d 51)).1 365 k = S.1 365 k := by
            intro k hk
            rw [wA_same]
            show (if k < 51 then T.1 372 (51 * d + k) else _) = _
            rw [if_pos hk]
            exact t1 k hk
          have f1 : frY d (wA T 365 (ldF T d 51)) S := frY.trans t2 (frY.w (Or.inl rfl))
          have g1 : ∀ k, k < 51 → (wA T 365 (ldF T d 51)).1 372 (51 * d + k) = S.1 365 k := fun k hk => by
            rw [wA_ne (by decide)]
            exact t1 k hk
          have r1 : ρ (wA T 365 (ldF T d 51)) ((kd (kidF N kp lim m d row last Q) h).foldl f (f a (d, row, Q))) := W.1 T _ _ t3 (wA_ne (by decide)) (wA_ne (by decide))
          generalize wA T 365 (ldF T d 51) = U at T1 f1 g1 r1
          have HU : prR U N kp lim Q := H.of (f1.2.1 26 (by decide) (by decide) (by decide) (by decide)) (f1.1 356 (by decide) (by decide) (by decide) (by decide) (by decide) (by decide)) T1
          have R : isR 365 := Or.inr rfl
          obtain ⟨g, eg⟩ := r_can (S := U) (c := c) (x := h) R HU.1 h6 (by omega) (HU.An V) (by rw [HU.2.1]; exact HU.Li V)
          rw [HU.2.1, HU.2.2.1, can_congr h6 HU.2.2.2] at eg
          unfold gwK
          rw [eg, Option.bind_some]
          have f2 : frY d (wA U 367 g) S := frY.trans f1 (frY.w (Or.inr (Or.inl rfl)))
          have g2 : ∀ k, k < 51 → (wA U 367 g).1 372 (51 * d + k) = S.1 365 k := fun k hk => by
            rw [wA_ne (by decide)]
            exact g1 k hk
          have r2 := W.1 U (wA U 367 g) _ r1 (wA_ne (by decide)) (wA_ne (by decide))
          have HU2 : prR (wA U 367 g) N kp lim Q := HU.of (by rw [wA_ne (by decide)]) (wA_ne (by decide)) (fun k _ => by rw [wA_ne (by decide)])
          generalize wA U 367 g = U2 at f2 g2 r2 HU2
          cases hc : can N kp lim Q h with
          | false =>
            rw [if_pos (show bI false = 0 from rfl), nI_1]
            rw [← kid_no (m := m) (d := d) (row := row) (last := last) hc] at r2
            exact ih (h + 1) k U2 (by omega) (by omega) g2 f2 r2
          | true =>
            have hN := (can_x hc).1
            obtain ⟨g', eg'⟩ := r_crosses (S := U2) (c := c) (x := h) R HU2.1 h6 hN (HU2.An V) (HU2.Wo V)
            rw [if_neg (show ¬ bI true = 0 by decide), g351_33, Option.bind_some, eg', Option.bind_some, nI_1, ix10]
            have f3 : frY d (wA (wA U2 367 g') 365 (crR N (U2.1 365) h)) S := frY.trans f2 (frY.trans (frY.w (Or.inr (Or.inl rfl))) (frY.w (Or.inl rfl)))
            have g3 : ∀ k, k < 51 → (wA (wA U2 367 g') 365 (crR N (U2.1 365) h)).1 372 (51 * d + k) = S.1 365 k := fun k hk => by
              rw [wA_ne (by decide), wA_ne (by decide)]
              exact g2 k hk
            have r3 := W.1 U2 (wA (wA U2 367 g') 365 (crR N (U2.1 365) h)) _ r2 (by rw [wA_ne (by decide), wA_ne (by decide)]) (by rw [wA_ne (by decide), wA_ne (by decide)])
            have H3 : prR (wA (wA U2 367 g') 365 (crR N (U2.1 365) h)) N kp lim (crs N Q h) := by
              refine ⟨by rw [wA_ne (by decide), wA_ne (by decide)]; exact HU2.1, by rw [wA_ne (by decide), wA_ne (by decide)]; exact HU2.2.1, ?_, ?_⟩
              · rw [wA_same, crR_far (by decide) (by decide) (by omega)]
                exact HU2.2.2.1
              · rw [wA_same]
                exact (crR_rw (by omega)).trans (crs_congr h6 (by omega) HU2.2.2.2)
            generalize wA (wA U2 367 g') 365 (crR N (U2.1 365) h) = U3 at f3 g3 r3 H3
            obtain ⟨U4, v1, v2, v3, v4⟩ := r_ways h6 hl hm W m n (d + 1) h (10 * row + h) (crs N Q h) U3 _ (by omega) (by omega) (by rw [Nat.pow_succ]; omega) (Vb_crs V h6 hl hc) (Zo_crs Z) H3 r3 (by
              have m1 := mu_fold W.2.1 (kd (kidF N kp lim m d row last Q) h) (f a (d, row, Q))
              have m2 := W.2.1 a (d, row, Q)
              have m3 := kid_len (kp := kp) (lim := lim) (m := m) (d := d) (row := row) (last := last) (Q := Q) h6 h
              have m4 : (h + 1) * szW m ≤ 6 * szW m := Nat.mul_le_mul_right _ (by omega)
              have m5 : szW (m + 1) = 1 + 6 * szW m := rfl
              rw [Nat.add_mul] at m4
              omega)
            rw [v1, Option.bind_some, nI_1]
            rw [← List.foldl_append, ← kid_yes (m := m) (d := d) (row := row) (last := last) hc] at v2
            exact ih (h + 1) k U4 (by omega) (by omega) (fun k hk => by rw [v3.2.2.1 _ (by omega)]; exact g3 k hk) (frY.trans f3 (v3.less (by omega))) v2
      refine loop N 0 1048576 _ (by omega) (by omega) (fun k hk => ?_) ?_ (W.1 S1 _ _ e2 (wA_ne (by decide)) (wA_ne (by decide)))
      · rw [wA_same]
        show (if 51 * d ≤ 51 * d + k ∧ 51 * d + k < 51 * d + 51 then S1.1 365 (51 * d + k - 51 * d) else _) = _
        rw [if_pos (by omega), show 51 * d + k - 51 * d = k by omega, e4]
      · refine frY.trans (e3.less (by omega)) ⟨fun j p q r s t u => wA_ne u, fun k _ _ _ _ => by rw [wA_ne (by decide)], fun k hk => ?_, rfl⟩
        rw [wA_same]
        show (if 51 * d ≤ k ∧ k < 51 * d + 51 then _ else S1.1 372 k) = _
        rw [if_neg (by omega)]
end WR
