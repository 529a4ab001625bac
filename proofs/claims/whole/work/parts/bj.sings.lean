/-! SONGS sung apart: class (board 40) and reference (row 365) -/
section SGA
variable {S : XS} {c : Nat × Nat} {n N j L : Nat} {kp lim : Int32} {dg : Nat → Nat}
def inN (N : Nat) (i : Int32) : Bool := !decide (i < 0) && !decide (nI N ≤ i)
theorem inN_i {x : Nat} (hx : x < N) (h : N < 2 ^ 31) : inN N (nI x) = true := by
  unfold inN
  rw [decide_eq_false (nI_nneg (by omega)), decide_eq_false (nI_ge hx h)]
  rfl
theorem inN_o {i : Int32} (hx : i < 0 ∨ (¬ i < 0 ∧ nI N ≤ i)) : inN N i = false := by
  unfold inN
  rcases hx with h | ⟨-, h⟩
  · rw [decide_eq_true h]
    rfl
  · rw [decide_eq_true h, Bool.and_comm]
    rfl
theorem inN_x {i : Int32} (h : inN N i = true) (h6 : N < 2 ^ 31) : ∃ x, x < N ∧ i = nI x := by
  rcases ix_of (x := i) (N := N) h6 with ⟨x, hx, rfl⟩ | hx
  · exact ⟨x, hx, rfl⟩
  · rw [inN_o hx] at h
    cases h
theorem has_b {b : Nat} (B : isB b) (hN : S.1 b 4 = nI N) (h6 : N ≤ 6) (i : Int32) : f_X0_has (hp S c) b i = some (bI (inN N i)) := by
  rcases ix_of (x := i) (N := N) (by omega) with ⟨x, hx, rfl⟩ | hx
  · rw [B.has_in hN h6 hx, inN_i hx (by omega)]
    rfl
  · rw [B.has_out hN hx, inN_o hx]
    rfl
theorem house_b (hN : S.1 351 26 = nI N) (h6 : N ≤ 6) (i : Int32) : f_X12_isHouse (hp S c) 351 i = some (bI (inN N i)) := by
  rcases ix_of (x := i) (N := N) (by omega) with ⟨x, hx, rfl⟩ | hx
  · rw [r_isHouse_in hN h6 hx, inN_i hx (by omega)]
    rfl
  · rw [r_isHouse_out hN hx, inN_o hx]
    rfl
theorem song_c {ns : Nat} (hk : S.1 23 3 = nI ns) (h4 : ns ≤ 4) (i : Int32) : f_X5_has (hp S c) 23 i = some (bI (inN ns i)) := by
  rcases ix_of (x := i) (N := ns) (by omega) with ⟨x, hx, rfl⟩ | hx
  · rw [sf_in (Or.inr rfl) hk h4 hx, inN_i hx (by omega)]
    rfl
  · rw [sf_out (Or.inr rfl) hk hx, inN_o hx]
    rfl
theorem song_r {ns : Nat} (hk : S.1 351 30 = nI ns) (h4 : ns ≤ 4) (i : Int32) : f_X12_isSong (hp S c) 351 i = some (bI (inN ns i)) := by
  rcases ix_of (x := i) (N := ns) (by omega) with ⟨x, hx, rfl⟩ | hx
  · rw [song_in hk h4 hx, inN_i hx (by omega)]
    rfl
  · rw [song_out hk hx, inN_o hx]
    rfl
theorem isIn_b {h : xa_H} {m : Nat} {u : Int64} (hm : m + 1 < 2 ^ 31) (hu : u = (nI m).toInt64) (x : Int32) : f_X12_isIn h x.toInt64 (0 : Int64) u = some (bI (inN (m + 1) x)) := by
  rcases ix_of (x := x) (N := m + 1) (by omega) with ⟨x, hx, rfl⟩ | hx
  · rw [isIn_in (m := m) (by omega) (by omega) hu, inN_i hx (by omega)]
    rfl
  · rw [isIn_out (m := m) hx hm hu, inN_o hx]
    rfl
/-- t times -/
def fT (N : Nat) (kp lim : Int32) (dg : Nat → Nat) (L : Nat) : Nat → BS → Bool × BS
  | 0, Q => (true, Q)
  | t + 1, Q => if (fol N kp lim dg L 0 Q).1 then fT N kp lim dg L t (fol N kp lim dg L 0 Q).2 else (false, (fol N kp lim dg L 0 Q).2)
theorem fT_V (h6 : N ≤ 6) (hl : lim.toInt ≤ 99) : ∀ (t : Nat) (Q : BS), Vb lim Q → Vb lim (fT N kp lim dg L t Q).2
  | 0, Q, V => V
  | t + 1, Q, V => by
    show Vb lim (if (fol N kp lim dg L 0 Q).1 then fT N kp lim dg L t (fol N kp lim dg L 0 Q).2 else (false, (fol N kp lim dg L 0 Q).2)).2
    have h := Vb_fol (dg := dg) (kp := kp) h6 hl L 0 Q V
    split
    · exact fT_V h6 hl t _ h
    · exact h
theorem s26l {j : Nat} (hj : j < 4) : sh (26 + j) = some (.inl (0, 16, 0, 0)) := by
  rcases (by omega : j = 0 ∨ j = 1 ∨ j = 2 ∨ j = 3) with rfl | rfl | rfl | rfl
  · exact s26
  · exact s27
  · exact s28
  · exact s29
theorem c_follow {Q : BS} (hj : j < 4) (hL : L ≤ 16) (hN : S.1 40 4 = nI N) (h6 : N ≤ 6) (hl : (S.1 40 5).toInt ≤ 99) (sc : sgU S j L dg) (V : Vb (S.1 40 5) Q) : f_X0_follow (hp (wB S 40 Q) c) 40 (26 + j) (nI L) = some (bI (fol N (S.1 40 6) (S.1 40 5) dg L 0 Q).1, hp (wB S 40 (fol N (S.1 40 6) (S.1 40 5) dg L 0 Q).2) c) := B40.follow hN h6 hl (s26l hj) (by omega) hL (fun k hk => ⟨(sc.2 k hk).2, (sc.2 k hk).1⟩) V
theorem cls_apart {t : Nat} (ht : t ≤ 60) (hj : j < 4) (hL : L ≤ 16) (hN : S.1 40 4 = nI N) (h6 : N ≤ 6) (hl : (S.1 40 5).toInt ≤ 99) (sc : sgU S j L dg) : ∀ (m k f : Nat) (Q : BS), k + m = t → m < f → Vb (S.1 40 5) Q → f_X11_sungApart_b36 f (hp (wB S 40 Q) c) 0 (nI j) (nI t) (nI k) = some (bI (fT N (S.1 40 6) (S.1 40 5) dg L m Q).1, hp (wB S 40 (fT N (S.1 40 6) (S.1 40 5) dg L m Q).2) c)
  | 0, k, f, Q, hk, hf, V => by
    obtain ⟨f, rfl⟩ : ∃ g, f = g + 1 := ⟨f - 1, by omega⟩
    rw [f_X11_sungApart_b36, if_pos (nI_le (by omega) (by omega))]
    rfl
  | m + 1, k, f, Q, hk, hf, V => by
    obtain ⟨f, rfl⟩ : ∃ g, f = g + 1 := ⟨f - 1, by omega⟩
    rw [f_X11_sungApart_b36, if_neg (nI_ge (by omega) (by omega)), g0_8, Option.bind_some, g0_5, Option.bind_some, g23_0, Option.bind_some, a25 hj, Option.bind_some, Option.bind_some, g23_1, Option.bind_some, a24 hj, Option.bind_some, wB_ne (by decide) (by decide), sc.1, Nat.one_mul, c_follow hj hL hN h6 hl sc V, Option.bind_some]
    show _ = some (bI (if (fol N (S.1 40 6) (S.1 40 5) dg L 0 Q).1 then fT N (S.1 40 6) (S.1 40 5) dg L m (fol N (S.1 40 6) (S.1 40 5) dg L 0 Q).2 else (false, (fol N (S.1 40 6) (S.1 40 5) dg L 0 Q).2)).1, hp (wB S 40 (if (fol N (S.1 40 6) (S.1 40 5) dg L 0 Q).1 then fT N (S.1 40 6) (S.1 40 5) dg L m (fol N (S.1 40 6) (S.1 40 5) dg L 0 Q).2 else (false, (fol N (S.1 40 6) (S.1 40 5) dg L 0 Q).2)).2) c)
    have V' := Vb_fol (dg := dg) (kp := S.1 40 6) h6 hl L 0 Q V
    generalize fol N (S.1 40 6) (S.1 40 5) dg L 0 Q = r at V'
    obtain ⟨b, Q'⟩ := r
    cases b with
    | true =>
      rw [if_neg (show ¬ bI true = 0 by decide), nI_1, if_pos rfl]
      exact cls_apart ht hj hL hN h6 hl sc m (k + 1) f Q' (by omega) (by omega) V'
    | false =>
      rw [if_pos (show bI false = 0 from rfl), if_neg (show ¬ false = true by decide)]
      rfl
/-- what the reference's singing leaves -/
def frS (S' S : XS) : Prop := ∀ a, a ≠ 365 → a ≠ 367 → S'.1 a = S.1 a
theorem frS_pj {S S' : XS} (h : frS S' S) : pj S' = pj S := pj_ext fun a k q => by
  by_cases e1 : a = 365
  · subst e1
    rw [sc365 k] at q
    cases q
  · by_cases e2 : a = 367
    · subst e2
      rw [sc367 k] at q
      cases q
    · rw [h a e1 e2]
theorem r_sings_loop (hj : j < 4) (hL : L ≤ 16) (hdg : ∀ k, k < L → dg k < 10) (h6 : N ≤ 6) (hl : lim.toInt ≤ 99) : ∀ (m k f : Nat) (S : XS) (Q : BS), k + m = L → m < f → prR S N kp lim Q → Vb lim Q → sgV S j L dg → ∃ S', f_X12_sings_b2 f (hp S c) 351 365 (nI j) (nI k) = some (bI (fol N kp lim dg m k Q).1, hp S' c) ∧ prR S' N kp lim (fol N kp lim dg m k Q).2 ∧ frS S' S
  | 0, k, f, S, Q, hk, hf, H, V, sr => by
    obtain ⟨f, rfl⟩ : ∃ g, f = g + 1 := ⟨f - 1, by omega⟩
    refine ⟨S, ?_, H, fun _ _ _ => rfl⟩
    rw [f_X12_sings_b2, g351_25, Option.bind_some, a363 (by omega), Option.bind_some, sr.1, if_pos (nI_le (by omega) (by omega))]
    rfl
  | m + 1, k, f, S, Q, hk, hf, H, V, sr => by
    obtain ⟨f, rfl⟩ : ∃ g, f = g + 1 := ⟨f - 1, by omega⟩
    have hkL : k < L := by omega
    have hd := hdg k hkL
    obtain ⟨p1, p2, p3, p4⟩ := H
    have V5 : Vb lim (rwB (S.1 365)) := Vb_congr p4 V
    obtain ⟨g, hg⟩ := r_can (S := S) (c := c) (a := 365) (x := dg k) (Or.inr rfl) p1 h6 (by omega) V5.1 (by rw [p2]; exact V5.2.1)
    rw [p3, p2, can_congr h6 p4] at hg
    rw [f_X12_sings_b2, g351_25, Option.bind_some, a363 (by omega), Option.bind_some, sr.1, if_neg (nI_ge (by omega) (by omega)), g351_24, Option.bind_some, ix16, a362 (by omega), Option.bind_some, sr.2 k hkL, hg, Option.bind_some]
    show ∃ S', _ = some (bI (if can N kp lim Q (dg k) then fol N kp lim dg m (k + 1) (crs N Q (dg k)) else (false, Q)).1, hp S' c) ∧ prR S' N kp lim (if can N kp lim Q (dg k) then fol N kp lim dg m (k + 1) (crs N Q (dg k)) else (false, Q)).2 ∧ frS S' S
    cases hc : can N kp lim Q (dg k) with
    | false =>
      refine ⟨wA S 367 g, ?_, ?_, fun a h1 h2 => wA_ne h2⟩
      · rw [if_pos (show bI false = 0 from rfl)]
        rfl
      · refine ⟨?_, ?_, ?_, ?_⟩
        · rw [wA_ne (by decide)]; exact p1
        · rw [wA_ne (by decide)]; exact p2
        · rw [wA_ne (by decide)]; exact p3
        · rw [wA_ne (by decide)]; exact p4
    | true =>
      have hx := (can_x hc).1
      have hx6 : dg k < 6 := by omega
      obtain ⟨g', hg'⟩ := r_crosses (S := wA S 367 g) (c := c) (a := 365) (x := dg k) (Or.inr rfl) (by rw [wA_ne (by decide)]; exact p1) h6 hx (by rw [wA_ne (by decide)]; exact V5.1) (by rw [wA_ne (by decide)]; exact V5.2.2)
      rw [wA_ne (show 365 ≠ 367 by decide), wA_wA] at hg'
      have H1 : prR (wA (wA S 367 g') 365 (crR N (S.1 365) (dg k))) N kp lim (crs N Q (dg k)) := by
        refine ⟨?_, ?_, ?_, ?_⟩
        · rw [wA_ne (by decide), wA_ne (by decide)]; exact p1
        · rw [wA_ne (by decide), wA_ne (by decide)]; exact p2
        · rw [wA_same, crR_far (by decide) (by decide) hx6]; exact p3
        · rw [wA_same]
          exact (crR_rw (N := N) (row := S.1 365) hx6).trans (crs_congr (x := dg k) h6 hx6 p4)
      have fr1 : frS (wA (wA S 367 g') 365 (crR N (S.1 365) (dg k))) S := fun a h1 h2 => by rw [wA_ne h1, wA_ne h2]
      generalize wA (wA S 367 g') 365 (crR N (S.1 365) (dg k)) = S1 at hg' H1 fr1
      obtain ⟨S', y1, y2, y3⟩ := r_sings_loop hj hL hdg h6 hl m (k + 1) f S1 _ (by omega) (by omega) H1 (Vb_crs V h6 hl hc) (by
        unfold sgV
        rw [fr1 363 (by decide) (by decide), fr1 362 (by decide) (by decide)]
        exact sr)
      refine ⟨S', ?_, y2, fun a h1 h2 => by rw [y3 a h1 h2, fr1 a h1 h2]⟩
      rw [if_neg (show ¬ bI true = 0 by decide), hg', Option.bind_some, nI_1]
      exact y1
theorem r_sings {Q : BS} (hj : j < 4) (hL : L ≤ 16) (hdg : ∀ k, k < L → dg k < 10) (h6 : N ≤ 6) (hl : lim.toInt ≤ 99) (H : prR S N kp lim Q) (V : Vb lim Q) (sr : sgV S j L dg) : ∃ S', f_X12_sings (hp S c) 351 365 (nI j) = some (bI (fol N kp lim dg L 0 Q).1, hp S' c) ∧ prR S' N kp lim (fol N kp lim dg L 0 Q).2 ∧ frS S' S := by
  unfold f_X12_sings
  rw [k351, Option.bind_some]
  exact r_sings_loop hj hL hdg h6 hl L 0 1048576 S Q (by omega) (by omega) H V sr
theorem r_often {t : Nat} (ht : t ≤ 60) (hj : j < 4) (hL : L ≤ 16) (hdg : ∀ k, k < L → dg k < 10) (h6 : N ≤ 6) (hl : lim.toInt ≤ 99) : ∀ (m k f : Nat) (S : XS) (Q : BS), k + m = t → m < f → prR S N kp lim Q → Vb lim Q → sgV S j L dg → ∃ S', f_X12_singsOften_b13 f (hp S c) 351 (nI j) (nI t) (nI k) = some (bI (fT N kp lim dg L m Q).1, hp S' c) ∧ prR S' N kp lim (fT N kp lim dg L m Q).2 ∧ frS S' S
  | 0, k, f, S, Q, hk, hf, H, V, sr => by
    obtain ⟨f, rfl⟩ : ∃ g, f = g + 1 := ⟨f - 1, by omega⟩
    refine ⟨S, ?_, H, fun _ _ _ => rfl⟩
    rw [f_X12_singsOften_b13, if_pos (nI_le (by omega) (by omega))]
    rfl
  | m + 1, k, f, S, Q, hk, hf, H, V, sr => by
    obtain ⟨f, rfl⟩ : ∃ g, f = g + 1 := ⟨f - 1, by omega⟩
    obtain ⟨S1, y1, y2, y3⟩ := r_sings (c := c) hj hL hdg h6 hl H V sr
    have V' := Vb_fol (dg := dg) (kp := kp) h6 hl L 0 Q V
    rw [f_X12_singsOften_b13, if_neg (nI_ge (by omega) (by omega)), g351_33, Option.bind_some, y1, Option.bind_some]
    show ∃ S', _ = some (bI (if (fol N kp lim dg L 0 Q).1 then fT N kp lim dg L m (fol N kp lim dg L 0 Q).2 else (false, (fol N kp lim dg L 0 Q).2)).1, hp S' c) ∧ prR S' N kp lim (if (fol N kp lim dg L 0 Q).1 then fT N kp lim dg L m (fol N kp lim dg L 0 Q).2 else (false, (fol N kp lim dg L 0 Q).2)).2 ∧ frS S' S
    generalize fol N kp lim dg L 0 Q = r at V' y2
    obtain ⟨b, Q'⟩ := r
    cases b with
    | true =>
      obtain ⟨S', z1, z2, z3⟩ := r_often ht hj hL hdg h6 hl m (k + 1) f S1 Q' (by omega) (by omega) y2 V' (by
        unfold sgV
        rw [y3 363 (by decide) (by decide), y3 362 (by decide) (by decide)]
        exact sr)
      refine ⟨S', ?_, z2, fun a h1 h2 => by rw [z3 a h1 h2, y3 a h1 h2]⟩
      rw [if_neg (show ¬ bI true = 0 by decide), nI_1]
      exact z1
    | false =>
      refine ⟨S1, ?_, y2, y3⟩
      rw [if_pos (show bI false = 0 from rfl)]
      rfl
end SGA
