/-! REACH, STRAIGHT, FEWEST -/
section WP
variable {S : XS} {c : Nat × Nat} {N n : Nat} {lim kp : Int32} {Q : BS}
theorem fold_start {sp : Bool} {most : Nat} {val : BS → Nat} (hv : val Q < 1000000) : (dfs N kp lim sp most 0 0 6 Q).foldl (stpB val) (1000000, 0, 0) = (dfs N kp lim sp most 0 0 6 Q).foldl (stpB val) (val Q, 0, 0) := by
  have hc : ∃ L, dfs N kp lim sp most 0 0 6 Q = (0, 0, Q) :: L := by
    cases most with
    | zero => exact ⟨[], rfl⟩
    | succ n => exact ⟨_, rfl⟩
  obtain ⟨L, hL⟩ := hc
  rw [hL, List.foldl_cons, List.foldl_cons]
  have e1 : stpB val (1000000, 0, 0) (0, 0, Q) = (val Q, 0, 0) := if_pos (Or.inl hv)
  have e2 : stpB val (val Q, 0, 0) (0, 0, Q) = (val Q, 0, 0) := by
    refine if_neg (fun z => ?_)
    dsimp only at z
    omega
  rw [e1, e2]
/-- what the class's best is -/
def bK (N : Nat) (kp lim : Int32) (Q : BS) (aim most : Nat) : Nat × Nat × Nat := (dfs N kp lim false most 0 0 6 Q).foldl (stpB (valA N aim)) (valA N aim Q, 0, 0)
theorem bK_c {aim most : Nat} (h6 : N ≤ 6) (hl : lim.toInt ≤ 99) (V : Vb lim Q) : (dfs N kp lim true most 0 0 6 Q).foldl (stpB (valA N aim)) (1000000, 0, 0) = bK N kp lim Q aim most := by
  have hv := valA_le (N := N) (aim := aim) V
  rw [fold_start (by omega), bst_same h6 hl (valA_congr h6) V]
  rfl
theorem bK_r {aim most : Nat} (V : Vb lim Q) : (dfs N kp lim false most 0 0 6 Q).foldl (stpB (valA N aim)) (1000000, 0, 0) = bK N kp lim Q aim most := by
  have hv := valA_le (N := N) (aim := aim) V
  rw [fold_start (by omega)]
  rfl
theorem bK_le {aim most : Nat} (h6 : N ≤ 6) (hl : lim.toInt ≤ 99) (V : Vb lim Q) : (bK N kp lim Q aim most).1 ≤ 3564 := by
  obtain ⟨⟨x, x1, x2⟩, -⟩ := bst_dfs (kp := kp) (lim := lim) (sp := false) (n := most) (Q := Q) (val := valA N aim) h6
  unfold bK
  rw [x2]
  exact valA_le (dfs_Vb h6 hl V x1)
theorem NW.V (W : NW S N lim kp Q) : Vb lim Q := W.2.2.2.2.2.2.2.2.2.2.2.2.2.1
theorem NW.Z (W : NW S N lim kp Q) : Zo N Q.1 := W.2.2.2.2.2.2.2.2.2.2.2.2.2.2.1
theorem NW.of {S' : XS} (W : NW S N lim kp Q) (h1 : S'.1 351 26 = S.1 351 26) (h2 : S'.1 356 = S.1 356) (h3 : S'.1 30 = S.1 30) (h4 : S'.1 31 = S.1 31) (h5 : S'.1 32 = S.1 32) (h6 : S'.1 364 = S.1 364) : NW S' N lim kp Q := by
  unfold NW at W ⊢
  rw [h1, h2, h3, h4, h5, h6]
  exact W
/-- how the class's walk leaves the cells -/
def wkF (S' S : XS) : Prop := (∀ a, a < 271 ∨ 348 < a → S'.1 a = S.1 a) ∧ S'.1 271 4 = S.1 271 4 + 1 ∧ ∀ k, k < 2048 → S'.1 275 k = S'.1 271 4 ∨ S'.1 275 k = S.1 275 k
theorem RR_wk {S' : XS} (R : RR n (pj S)) (h : wkF S' S) : RR (n + 1) (pj S') := by
  refine R.walk (fun a ha => ?_) h.2.1 h.2.2
  funext k
  unfold pj
  rw [h.1 a ha]
theorem cls_best {aim most : Nat} (W : NW S N lim kp Q) (hm : most ≤ 4) (ha : aim = 1 ∨ aim = 2) : ∃ S', f_X10_search (hp S c) 271 30 (nI most) (nI aim) = some (hp S' c) ∧ S'.1 271 8 = nI (bK N kp lim Q aim most).1 ∧ S'.1 271 9 = nI (bK N kp lim Q aim most).2.1 ∧ S'.1 271 10 = nI (bK N kp lim Q aim most).2.2 ∧ wkF S' S := by
  have V := W.V
  obtain ⟨-, h6, -, -, -, hl, w7, w8, w9, -, -, w12, w13, -⟩ := W
  obtain ⟨S', e1, e2, e3, e4, -, -⟩ := X10_search_gen (aim := aim) (S := S) (c := c) (a0 := ((1000000, 0, 0) : Nat × Nat × Nat)) B30 (by decide) h6 hl hm (X10_weighB (kp := kp) (lim := lim) (c := c) (g := S.1 275) h6 hm ha) V w7 w8 w9 w12 w13 (by decide) (fun S' h1 h2 h3 => by
    refine ⟨h2, ?_, ?_, ?_, ?_, by decide, by decide, by decide⟩
    · rw [h1]; rfl
    · rw [h1]; rfl
    · rw [h1]; rfl
    · rw [h1]; rfl)
  rw [bK_c h6 hl V] at e2
  exact ⟨S', e1, e2.2.2.1, e2.2.2.2.1, e2.2.2.2.2.1, e3, e4, fun k _ => Or.inr (by rw [e2.1])⟩
/-- how many tables -/
def cnT (N : Nat) (kp lim : Int32) (Q : BS) (most : Nat) : Nat := ((dfs N kp lim false most 0 0 6 Q).foldl addT []).length
theorem cls_tabs {most : Nat} (R : RR n (pj S)) (hn : n < 1000000000) (W : NW S N lim kp Q) (hm : most ≤ 4) : ∃ S', f_X10_search (hp S c) 271 30 (nI most) 0 = some (hp S' c) ∧ S'.1 271 5 = nI (cnT N kp lim Q most) ∧ wkF S' S := by
  have V := W.V
  obtain ⟨-, h6, -, -, -, hl, w7, w8, w9, -, -, w12, w13, -⟩ := W
  obtain ⟨r, r1, r2, r3⟩ : ∃ r, r ≤ n ∧ S.1 271 4 = nI r ∧ ∀ k, k < 2048 → ∃ q, q ≤ r ∧ S.1 275 k = nI q := by
    obtain ⟨r, r1, r2, r3⟩ := R.2.2.2.2.2.2.2.1
    refine ⟨r, r1, r2, fun k hk => ?_⟩
    have := r3 k hk
    rw [show pj S 275 = S.1 275 from pj_cell fun _ => rfl] at this
    exact this
  obtain ⟨S', e1, e2, e3, e4, -, -⟩ := X10_search_gen (aim := 0) (S := S) (c := c) (a0 := ([] : List (List Int32))) B30 (by decide) h6 hl hm (X10_weighT (N := N) (kp := kp) (lim := lim) (c := c) (g := S.1 275) hm) V w7 w8 w9 w12 w13 (by decide) (fun S' h1 h2 h3 => by
    have no : ∀ p, p < 2048 → ¬ occ S' p := by
      intro p hp z
      unfold occ at z
      obtain ⟨q, q1, q2⟩ := r3 p hp
      rw [h1, h2, q2] at z
      have z' : nI q = S.1 271 4 + 1 := z
      rw [r2, nI_1, nI_eq (by omega) (by omega)] at z'
      omega
    refine ⟨fun p _ => Or.inr (by rw [h2]), ?_, ?_, ?_, by decide, fun t ht => (by cases ht), fun p hp z => absurd z (no p hp), fun t ht => (by cases ht), [], List.nodup_nil, rfl, fun p => ⟨fun z => (by cases z), fun z => absurd z.2 (no p z.1)⟩⟩
    · rw [h1]; rfl
    · rw [h1]; rfl
    · rw [h1]; rfl)
  have ef : (dfs N kp lim true most 0 0 6 Q).foldl addF [] = (dfs N kp lim true most 0 0 6 Q).foldl addT [] := addF_T _ _ (by
    have h1 := dfs_len (N := N) (kp := kp) (lim := lim) (sp := true) h6 most 0 0 6 Q
    have h2 := sz4 hm
    show 0 + _ ≤ 2047
    omega)
  rw [ef] at e2
  refine ⟨S', e1, ?_, e3, e4, e2.1⟩
  rw [e2.2.2.2.1, cnt_same h6 hl V]
  rfl
theorem ref_best {most : Nat} (W : NW S N lim kp Q) (hm : most ≤ 4) : ∃ S', f_X12_seeks (hp S c) 351 2 (nI most) = some (hp S' c) ∧ S'.1 351 48 = nI (bK N kp lim Q 2 most).1 ∧ S'.1 351 49 = nI (bK N kp lim Q 2 most).2.2 ∧ pj S' = pj S := by
  have h6 := W.2.1
  have hl := W.2.2.2.2.2.1
  obtain ⟨S', e1, e2, e3⟩ := r_seeks (S := S) (c := c) (what := 2) (a0 := ((1000000, 0, 0) : Nat × Nat × Nat)) W hm (r_tries2 (kp := kp) (lim := lim) h6) rfl (fun S' h => by
    refine ⟨by rw [h]; rfl, Or.inl ⟨rfl, by rw [h]; rfl⟩⟩)
  rw [bK_r W.V] at e2
  have hb := bK_le (kp := kp) (aim := 2) (most := most) h6 hl W.V
  rcases e2.2 with ⟨z, -⟩ | ⟨-, -, -, -, z1, z2⟩
  · rw [z] at hb
    exact absurd hb (by decide)
  · exact ⟨S', e1, z1, z2, e3⟩
theorem ref_str (W : NW S N lim kp Q) : ∃ S', f_X12_seeks (hp S c) 351 1 4 = some (hp S' c) ∧ (((bK N kp lim Q 1 4).1 ≠ 0 ∧ S'.1 351 47 = -1 ∧ S'.1 351 49 = -1) ∨ ((bK N kp lim Q 1 4).1 = 0 ∧ S'.1 351 47 = nI (bK N kp lim Q 1 4).2.1 ∧ S'.1 351 49 = nI (bK N kp lim Q 1 4).2.2)) ∧ pj S' = pj S := by
  have h6 := W.2.1
  obtain ⟨S', e1, e2, e3⟩ := r_seeks (S := S) (c := c) (what := 1) (most := 4) (a0 := ((1000000, 0, 0) : Nat × Nat × Nat)) W (by decide) (r_tries1 (kp := kp) (lim := lim) h6) rfl (fun S' h => by
    refine ⟨by rw [h]; rfl, Or.inl ⟨by decide, by rw [h]; rfl, by rw [h]; rfl⟩⟩)
  rw [bK_r W.V] at e2
  refine ⟨S', e1, ?_, e3⟩
  rcases e2.2 with z | ⟨z1, -, -, z2, z3⟩
  · exact Or.inl z
  · exact Or.inr ⟨z1, z2, z3⟩
theorem ref_tabs {most : Nat} (W : NW S N lim kp Q) (hm : most ≤ 4) : ∃ S', f_X12_seeks (hp S c) 351 0 (nI most) = some (hp S' c) ∧ S'.1 351 45 = nI (cnT N kp lim Q most) ∧ pj S' = pj S := by
  obtain ⟨S', e1, e2, e3⟩ := r_seeks (S := S) (c := c) (what := 0) (a0 := ([] : List (List Int32))) W hm (r_tries0 (N := N) (kp := kp) (lim := lim)) rfl (fun S' h => by
    refine ⟨by rw [h]; rfl, by rw [h]; rfl, by decide, fun t ht => (by cases ht), fun i hi => absurd hi (Nat.not_lt_zero _)⟩)
  exact ⟨S', e1, e2.2.1, e3⟩
end WP
