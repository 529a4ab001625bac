/-! WALK: the class goes through its search -/
theorem Bp : ∀ d, d < 5 → isB (276 + 5 * d) := fun d hd => by
  rcases (by omega : d = 0 ∨ d = 1 ∨ d = 2 ∨ d = 3 ∨ d = 4) with rfl | rfl | rfl | rfl | rfl <;> exact isBd_of _ (by decide +kernel)
/-- the board at a depth is as it should be, worths as far as they will be asked for -/
def pb (S : XS) (N : Nat) (kp lim : Int32) (most d last : Nat) (Q : BS) : Prop := S.1 (276 + 5 * d) 4 = nI N ∧ S.1 (276 + 5 * d) 5 = lim ∧ S.1 (276 + 5 * d) 6 = kp ∧ (∀ k, k < 36 → S.1 (276 + 5 * d + 1) k = Q.1 k) ∧ (d < most → ∀ k, k < 6 → k ≠ last → S.1 (276 + 5 * d + 2) k = Q.2 k) ∧ (d + 1 < most → ∀ k, k < 6 → S.1 (276 + 5 * d + 2) k = Q.2 k)
/-- what a walk below a depth leaves as it was -/
def frW (d : Nat) (S' S : XS) : Prop := (∀ a, a < 271 ∨ 348 < a → S'.1 a = S.1 a) ∧ (∀ a, 276 ≤ a → a < 276 + 5 * (d + 1) → S'.1 a = S.1 a) ∧ S'.1 271 6 = S.1 271 6 ∧ S'.1 271 7 = S.1 271 7 ∧ S'.1 271 4 = S.1 271 4 ∧ S'.2.2 = S.2.2 ∧ ∀ a, a ≠ 273 → a ≠ 274 → S'.2.1 a = S.2.1 a
theorem frW.refl {d : Nat} {S : XS} : frW d S S := ⟨fun _ _ => rfl, fun _ _ _ => rfl, rfl, rfl, rfl, rfl, fun _ _ _ => rfl⟩
theorem frW.trans {d : Nat} {S S1 S2 : XS} (h1 : frW d S1 S) (h2 : frW d S2 S1) : frW d S2 S := ⟨fun a h => (h2.1 a h).trans (h1.1 a h), fun a p q => (h2.2.1 a p q).trans (h1.2.1 a p q), h2.2.2.1.trans h1.2.2.1, h2.2.2.2.1.trans h1.2.2.2.1, h2.2.2.2.2.1.trans h1.2.2.2.2.1, h2.2.2.2.2.2.1.trans h1.2.2.2.2.2.1, fun a p q => (h2.2.2.2.2.2.2 a p q).trans (h1.2.2.2.2.2.2 a p q)⟩
theorem frW.less {d d' : Nat} {S S1 : XS} (h : frW d' S1 S) (hd : d ≤ d') : frW d S1 S := ⟨h.1, fun a p q => h.2.1 a p (by omega), h.2.2⟩
theorem frW.fr {d : Nat} {S S1 : XS} {l r : Nat} (h : fr l r S1 S) (hl : 276 + 5 * (d + 1) ≤ l) (hr : r ≤ 348) : frW d S1 S := ⟨fun a z => h.1 a (by omega), fun a p q => h.1 a (by omega), by rw [h.1 271 (by omega)], by rw [h.1 271 (by omega)], by rw [h.1 271 (by omega)], by rw [h.2], fun a _ _ => by rw [h.2]⟩
theorem pb_fr {S S1 : XS} {N most d d' last : Nat} {kp lim : Int32} {Q : BS} (h : frW d' S1 S) (hd : d ≤ d') (H : pb S N kp lim most d last Q) : pb S1 N kp lim most d last Q := by
  unfold pb at H ⊢
  rw [h.2.1 (276 + 5 * d) (by omega) (by omega), h.2.1 (276 + 5 * d + 1) (by omega) (by omega), h.2.1 (276 + 5 * d + 2) (by omega) (by omega)]
  exact H
section WK
variable {α : Type} {N most : Nat} {kp lim : Int32} {c : Nat × Nat}
theorem X10_child_ex {S : XS} {d last x : Nat} {Q : BS} (h6 : N ≤ 6) (hl : lim.toInt ≤ 99) (hm : most ≤ 4) (hd : d < most) (H : pb S N kp lim most d last Q) (V : Vb lim Q) (hx : can N kp lim Q x = true) (hmo : S.1 271 6 = nI most) {β : Type} {k : xa_H → Option β} {P : Option β → Prop} (hk : ∀ S', pb S' N kp lim most (d + 1) x (crs N Q x) → fr (276 + 5 * (d + 1)) (276 + 5 * (d + 1) + 4) S' S → P (k (hp S' c))) : P ((f_X0_become (hp S c) (276 + 5 * (d + 1)) (276 + 5 * d)).bind fun q6 => (gI [10] 6 q6 271).bind fun x7 => if x7 ≤ nI d + 2 then (f_X0_turnDebts q6 (276 + 5 * (d + 1)) (nI x)).bind k else (f_X0_renewWorth q6 (276 + 5 * (d + 1)) (nI x)).bind fun q9 => (f_X0_turnDebts q9 (276 + 5 * (d + 1)) (nI x)).bind k) := by
  obtain ⟨h1, h2, h3, h4, h5, h7⟩ := H
  obtain ⟨xN, -, xW, -⟩ := can_x hx
  have x6 : x < 6 := by omega
  have B := Bp d (by omega)
  have B' := Bp (d + 1) (by omega)
  obtain ⟨S1, e1, e2, e3⟩ := B'.become (S := S) (c := c) B (by omega)
  obtain ⟨c1, c2, c3, c4, c5⟩ := e2
  have g6 : S1.1 271 6 = nI most := by
    rw [e3.1 271 (by omega)]
    exact hmo
  have N1 : S1.1 (276 + 5 * (d + 1)) 4 = nI N := by
    rw [c5 4 (by omega) (by omega)]
    exact h1
  have D1 : ∀ k, k < 36 → S1.1 (276 + 5 * (d + 1) + 1) k = Q.1 k := fun k hk => by
    rw [c1 k hk]
    exact h4 k hk
  have A1 : An (S1.1 (276 + 5 * (d + 1) + 1)) := V.1.congr D1
  rw [e1, Option.bind_some, g271_6, Option.bind_some, g6, show (2 : Int32) = nI 2 from rfl, nI_add]
  by_cases e : most ≤ d + 2
  · rw [if_pos (nI_le e (by omega)), B'.turnDebts N1 h6 x6, Option.bind_some, turn_eq A1 h6 xN]
    refine hk _ ?_ (fr.trans e3 (fr.wA (by omega) (by omega)))
    refine ⟨?_, ?_, ?_, fun k hk => ?_, fun hlt k hk hne => ?_, fun hlt => by omega⟩
    · rw [wA_ne (by omega)]
      exact N1
    · rw [wA_ne (by omega), c5 5 (by omega) (by omega)]
      exact h2
    · rw [wA_ne (by omega), c5 6 (by omega) (by omega)]
      exact h3
    · rw [wA_same]
      show nxF N (S1.1 (276 + 5 * (d + 1) + 1)) x k = nxF N Q.1 x k
      unfold nxF
      rw [if_pos hk, if_pos hk, nx_congr x6 (by omega) (by omega) D1]
    · rw [wA_ne (by omega), c2 k hk, h7 (by omega) k hk]
      show Q.2 k = upd Q.2 x _ k
      rw [upd_ne hne]
  · have W1 : ∀ k, k < 6 → S1.1 (276 + 5 * (d + 1) + 2) k = Q.2 k := fun k hk => by
      rw [c2 k hk]
      exact h7 (by omega) k hk
    have hWo : Wo (S1.1 (276 + 5 * (d + 1) + 2)) := fun k hk => by
      rw [W1 k hk]
      exact V.2.2 k hk
    have ef : fw N (S1.1 (276 + 5 * (d + 1) + 1)) (S1.1 (276 + 5 * (d + 1) + 2)) x = fw N Q.1 Q.2 x := fw_congr (Q := (S1.1 (276 + 5 * (d + 1) + 1), S1.1 (276 + 5 * (d + 1) + 2))) h6 x6 ⟨D1, W1⟩
    rw [if_neg (nI_ge (by omega) (by omega)), B'.renewWorth N1 h6 xN A1 hWo (by rw [W1 x x6]; exact xW), Option.bind_some, B'.turnDebts (by rw [wA_ne (by omega)]; exact N1) h6 x6, Option.bind_some, wA_ne (by omega), turn_eq A1 h6 xN, ef]
    refine hk _ ?_ (fr.trans e3 (fr.trans (fr.wA (by omega) (by omega)) (fr.wA (by omega) (by omega))))
    have hW2 : ∀ k, k < 6 → upd (S1.1 (276 + 5 * (d + 1) + 2)) x (nI (fw N Q.1 Q.2 x)) k = (crs N Q x).2 k := fun k hk => by
      show _ = upd Q.2 x (nI (fw N Q.1 Q.2 x)) k
      unfold upd
      by_cases z : k = x
      · rw [if_pos z, if_pos z]
      · rw [if_neg z, if_neg z]
        exact W1 k hk
    refine ⟨?_, ?_, ?_, fun k hk => ?_, fun hlt k hk hne => ?_, fun hlt k hk => ?_⟩
    · rw [wA_ne (by omega), wA_ne (by omega)]
      exact N1
    · rw [wA_ne (by omega), wA_ne (by omega), c5 5 (by omega) (by omega)]
      exact h2
    · rw [wA_ne (by omega), wA_ne (by omega), c5 6 (by omega) (by omega)]
      exact h3
    · rw [wA_same]
      show nxF N (S1.1 (276 + 5 * (d + 1) + 1)) x k = nxF N Q.1 x k
      unfold nxF
      rw [if_pos hk, if_pos hk, nx_congr x6 (by omega) (by omega) D1]
    · rw [wA_ne (by omega), wA_same]
      exact hW2 k hk
    · rw [wA_ne (by omega), wA_same]
      exact hW2 k hk
/-- what is gathered: where it lies, how a node is weighed, when nothing more can come -/
def wOK (N : Nat) (kp lim : Int32) (most : Nat) (c : Nat × Nat) (ρ : XS → α → Prop) (f : α → ND → α) : Prop :=
  (∀ (S S' : XS) (a : α), ρ S a → S'.1 271 = S.1 271 → S'.1 275 = S.1 275 → S'.2 = S.2 → ρ S' a) ∧
  ∀ (S : XS) (a : α) (d last row : Nat) (Q : BS), ρ S a → d ≤ most → row < 10 ^ d → Vb lim Q → pb S N kp lim most d last Q → ∃ S', f_X10_weigh (hp S c) 271 (276 + 5 * d) (nI d) (nI row) = some (hp S' c) ∧ ρ S' (f a (d, row, Q)) ∧ frW 100 S' S ∧ (S'.1 271 8 = 0 → S'.1 271 9 ≤ nI d + 1 → ∀ L : List ND, (∀ y, y ∈ L → d + 1 ≤ y.1 ∧ Vb lim y.2.2) → L.foldl f (f a (d, row, Q)) = f a (d, row, Q))
theorem dfs_Vb (h6 : N ≤ 6) (hl : lim.toInt ≤ 99) {sp : Bool} {n len row last : Nat} {Q : BS} (V : Vb lim Q) {x : ND} (h : x ∈ dfs N kp lim sp n len row last Q) : Vb lim x.2.2 := by
  rw [dfs_mem] at h
  obtain ⟨p, -, a2, -, a4⟩ := h
  rw [a4]
  have : ∀ (p : List Nat) (Q : BS), Vb lim Q → vp N kp lim Q p → Vb lim (finP N Q p) := by
    intro p
    induction p with
    | nil => exact fun Q V _ => V
    | cons h t ih => exact fun Q V hv => ih _ (Vb_crs V h6 hl hv.1) hv.2
  exact this p Q V a2
theorem X10_visit {ρ : XS → α → Prop} {f : α → ND → α} (h6 : N ≤ 6) (hl : lim.toInt ≤ 99) (hm : most ≤ 4) (W : wOK N kp lim most c ρ f) : ∀ (m n d last row : Nat) (lst : Int32) (Q : BS) (S : XS) (a : α), d + m = most → m < n → row < 10 ^ d → (∀ h, h < 6 → (nI h = lst ↔ h = last)) → Vb lim Q → pb S N kp lim most d last Q → S.1 271 6 = nI most → ρ S a → ∃ S', f_X10_visit n (hp S c) 271 (nI d) lst (nI row) = some (hp S' c) ∧ ρ S' ((dfs N kp lim true m d row last Q).foldl f a) ∧ frW d S' S
  | m, 0, d, last, row, lst, Q, S, a, hd, hn, hr, hlast, V, H, h6m, hρ => by omega
  | m, n + 1, d, last, row, lst, Q, S, a, hd, hn, hr, hlast, V, H, h6m, hρ => by
    show ∃ S', g_X10_visit (f_X10_visit n) (hp S c) 271 (nI d) lst (nI row) = some (hp S' c) ∧ _
    unfold g_X10_visit
    obtain ⟨S1, e1, e2, e3, e4⟩ := W.2 S a d last row Q hρ (by omega) hr V H
    have H1 := pb_fr (d' := 100) e3 (by omega) H
    have m1 : S1.1 271 6 = nI most := by rw [e3.2.2.1]; exact h6m
    rw [k271, Option.bind_some, g271_0, Option.bind_some, a272 (by omega), Option.bind_some, e1, Option.bind_some, g271_8, Option.bind_some]
    have fin : (most ≤ d ∨ (S1.1 271 8 = 0 ∧ S1.1 271 9 ≤ nI d + 1)) → (dfs N kp lim true m d row last Q).foldl f a = f a (d, row, Q) := by
      intro z
      cases m with
      | zero => rfl
      | succ m =>
        show ((d, row, Q) :: kd _ N).foldl f a = _
        rw [List.foldl_cons]
        rcases z with z | z
        · omega
        · refine e4 z.1 z.2 _ (fun y hy => ?_)
          have hy' : y ∈ dfs N kp lim true (m + 1) d row last Q := List.mem_cons_of_mem _ hy
          refine ⟨?_, dfs_Vb h6 hl V hy'⟩
          rw [kd_mem] at hy
          obtain ⟨h, hh, hy⟩ := hy
          by_cases e : kidOk N kp lim true last Q h = true
          · rw [if_pos e] at hy
            exact (dfs_range h6 m (d + 1) (10 * row + h) h (crs N Q h) y hy).1
          · rw [if_neg e] at hy
            cases hy
    have body : ∀ s : Int32, (s ≠ 0 → S1.1 271 8 = 0 ∧ S1.1 271 9 ≤ nI d + 1) → ∃ S', f_X10_visit_b38 (f_X10_visit n) (hp S1 c) 271 (nI d) lst (nI row) (276 + 5 * d) s = some (hp S' c) ∧ ρ S' ((dfs N kp lim true m d row last Q).foldl f a) ∧ frW d S' S := by
      intro s hs
      unfold f_X10_visit_b38
      rw [g271_6, Option.bind_some, m1]
      by_cases c1 : most ≤ d
      · rw [if_pos (nI_le c1 (by omega))]
        exact ⟨S1, rfl, by rw [fin (Or.inl c1)]; exact e2, e3.less (by omega)⟩
      · rw [if_neg (nI_ge (by omega) (by omega))]
        by_cases c2 : s = 0
        · rw [if_pos c2, g271_0, Option.bind_some, nI_1, a272 (by omega), Option.bind_some]
          obtain ⟨m, rfl⟩ : ∃ q, m = q + 1 := ⟨m - 1, by omega⟩
          have loop : ∀ (j k i : Nat) (S2 : XS), k + j = N → j < i → ρ S2 ((kd (fun h => if kidOk N kp lim true last Q h = true then dfs N kp lim true m (d + 1) (10 * row + h) h (crs N Q h) else []) k).foldl f (f a (d, row, Q))) → frW d S2 S1 → ∃ S', f_X10_visit_b67 (f_X10_visit n) i (hp S2 c) 271 (nI d) lst (nI row) (276 + 5 * d) (276 + 5 * (d + 1)) (nI k) = some (hp S' c) ∧ ρ S' ((kd (fun h => if kidOk N kp lim true last Q h = true then dfs N kp lim true m (d + 1) (10 * row + h) h (crs N Q h) else []) N).foldl f (f a (d, row, Q))) ∧ frW d S' S1 := by
            intro j
            induction j with
            | zero =>
              intro k i S2 hk hi r2 f2
              obtain ⟨i, rfl⟩ : ∃ q, i = q + 1 := ⟨i - 1, by omega⟩
              have H2 := pb_fr (d := d) f2 (Nat.le_refl _) H1
              refine ⟨S2, ?_, ?_, f2⟩
              · rw [f_X10_visit_b67, (Bp d (by omega)).g4, Option.bind_some, H2.1, if_pos (nI_le (by omega) (by omega))]
              · rw [show k = N by omega] at r2
                exact r2
            | succ j ih =>
              intro k i S2 hk hi r2 f2
              obtain ⟨i, rfl⟩ : ∃ q, i = q + 1 := ⟨i - 1, by omega⟩
              have H2 := pb_fr (d := d) f2 (Nat.le_refl _) H1
              have k6 : k < 6 := by omega
              have m2 : S2.1 271 6 = nI most := by rw [f2.2.2.1]; exact m1
              have skp : kidOk N kp lim true last Q k = false → ∃ S', f_X10_visit_b67 (f_X10_visit n) i (hp S2 c) 271 (nI d) lst (nI row) (276 + 5 * d) (276 + 5 * (d + 1)) (nI (k + 1)) = some (hp S' c) ∧ ρ S' ((kd (fun h => if kidOk N kp lim true last Q h = true then dfs N kp lim true m (d + 1) (10 * row + h) h (crs N Q h) else []) N).foldl f (f a (d, row, Q))) ∧ frW d S' S1 := by
                intro hz
                refine ih (k + 1) i S2 (by omega) (by omega) ?_ f2
                show ρ S2 ((kd _ k ++ (if kidOk N kp lim true last Q k = true then _ else [])).foldl f _)
                rw [hz, if_neg (by decide), List.append_nil]
                exact r2
              rw [f_X10_visit_b67, (Bp d (by omega)).g4, Option.bind_some, H2.1, if_neg (nI_ge (by omega) (by omega))]
              unfold f_X10_visit_b143
              rw [nI_1]
              by_cases c3 : k = last
              · rw [if_pos ((hlast k k6).mpr c3)]
                exact skp (by unfold kidOk; rw [decide_eq_true c3]; rfl)
              · have ecan : f_X0_canTurn (hp S2 c) (276 + 5 * d) (nI k) = some (bI (can N kp lim Q k)) := by
                  rw [(Bp d (by omega)).canTurn H2.1 h6 (show k < N by omega), H2.2.1, H2.2.2.1]
                  unfold can
                  rw [decide_eq_true (show k < N by omega), Bool.true_and]
                  unfold canT
                  rw [H2.2.2.2.2.1 (by omega) k k6 c3, ful_congr h6 k6 H2.2.2.2.1]
                rw [if_neg (fun z => c3 ((hlast k k6).mp z)), ecan, Option.bind_some]
                cases hcan : can N kp lim Q k with
                | false =>
                  rw [if_pos bI_f]
                  exact skp (by unfold kidOk; rw [hcan, Bool.and_false])
                | true =>
                  rw [if_neg (show ¬ bI true = 0 by decide)]
                  have hko : kidOk N kp lim true last Q k = true := by
                    unfold kidOk
                    rw [hcan, decide_eq_false c3]
                    rfl
                  unfold f_X10_visit_b120
                  have key : ∀ S3, pb S3 N kp lim most (d + 1) k (crs N Q k) → fr (276 + 5 * (d + 1)) (276 + 5 * (d + 1) + 4) S3 S2 → ∃ S', ((f_X10_visit n (hp S3 c) 271 (nI d + 1) (nI k) ((10 : Int32) * nI row + nI k)).bind fun q2 => f_X10_visit_b143 (f_X10_visit n) (fun h l0 l1 l2 l3 l4 l6 l7 => f_X10_visit_b67 (f_X10_visit n) i h l0 l1 l2 l3 l4 l6 l7) q2 271 (nI d) lst (nI row) (276 + 5 * d) (276 + 5 * (d + 1)) (nI k)) = some (hp S' c) ∧ ρ S' ((kd (fun h => if kidOk N kp lim true last Q h = true then dfs N kp lim true m (d + 1) (10 * row + h) h (crs N Q h) else []) N).foldl f (f a (d, row, Q))) ∧ frW d S' S1 := by
                    intro S3 H3 f3
                    have r3 : ρ S3 ((kd (fun h => if kidOk N kp lim true last Q h = true then dfs N kp lim true m (d + 1) (10 * row + h) h (crs N Q h) else []) k).foldl f (f a (d, row, Q))) := W.1 S2 S3 _ r2 (f3.1 271 (by omega)) (f3.1 275 (by omega)) f3.2
                    have hr' : 10 * row + k < 10 ^ (d + 1) := by
                      rw [Nat.pow_succ]
                      omega
                    obtain ⟨S4, x1, x2, x3⟩ := X10_visit h6 hl hm W m n (d + 1) k (10 * row + k) (nI k) (crs N Q k) S3 _ (by omega) (by omega) hr' (fun h hh => nI_eq (by omega) (by omega)) (Vb_crs V h6 hl hcan) H3 (by rw [f3.1 271 (by omega)]; exact m2) r3
                    rw [nI_1, show (10 : Int32) = nI 10 from rfl, pk_mul, nI_add, x1, Option.bind_some]
                    unfold f_X10_visit_b143
                    rw [nI_1]
                    refine ih (k + 1) i S4 (by omega) (by omega) ?_ ?_
                    · show ρ S4 ((kd _ k ++ (if kidOk N kp lim true last Q k = true then _ else [])).foldl f _)
                      rw [if_pos hko, List.foldl_append]
                      exact x2
                    · exact f2.trans ((frW.fr f3 (by omega) (by omega)).trans (x3.less (by omega)))
                  exact X10_child_ex (c := c) (P := fun o => ∃ S', o = some (hp S' c) ∧ ρ S' ((kd (fun h => if kidOk N kp lim true last Q h = true then dfs N kp lim true m (d + 1) (10 * row + h) h (crs N Q h) else []) N).foldl f (f a (d, row, Q))) ∧ frW d S' S1) (k := fun q1 => (f_X10_visit n q1 271 (nI d + 1) (nI k) ((10 : Int32) * nI row + nI k)).bind fun q2 => f_X10_visit_b143 (f_X10_visit n) (fun h l0 l1 l2 l3 l4 l6 l7 => f_X10_visit_b67 (f_X10_visit n) i h l0 l1 l2 l3 l4 l6 l7) q2 271 (nI d) lst (nI row) (276 + 5 * d) (276 + 5 * (d + 1)) (nI k)) h6 hl hm (by omega) H2 V hcan m2 key
          obtain ⟨S', y1, y2, y3⟩ := loop N 0 1048576 S1 (by omega) (by omega) e2 frW.refl
          exact ⟨S', y1, y2, (e3.less (by omega)).trans y3⟩
        · rw [if_neg c2]
          exact ⟨S1, rfl, by rw [fin (Or.inr (hs c2))]; exact e2, e3.less (by omega)⟩
    by_cases z1 : S1.1 271 8 = 0
    · rw [if_pos z1, g271_9, Option.bind_some]
      by_cases z2 : nI d + 1 < S1.1 271 9
      · rw [if_pos z2]
        exact body 0 (fun z => absurd rfl z)
      · rw [if_neg z2]
        exact body 1 (fun _ => ⟨z1, Int32.not_lt.mp z2⟩)
    · rw [if_neg z1]
      exact body 0 (fun z => absurd rfl z)
end WK
