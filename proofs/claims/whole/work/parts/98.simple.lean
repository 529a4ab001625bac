/-! CALLS that only look, or put one number -/
/-- class looks only -/
def PP (n : Nat) (c : Nat × Nat) (f : xa_H → Option Int32) (g : xa_H → Option (Int32 × xa_H)) (S : XS) : Prop := ∃ v S2, f (hp S c) = some v ∧ g (hp S c) = some (v, hp S2 c) ∧ RR (n + 1) (pj S2)
theorem PP.mk {n : Nat} {c : Nat × Nat} {f : xa_H → Option Int32} {g : xa_H → Option (Int32 × xa_H)} {S : XS} (v : Int32) (S2 : XS) (R : RR n (pj S)) (h1 : f (hp S c) = some v) (h2 : g (hp S c) = some (v, hp S2 c)) (h3 : pj S2 = pj S) : PP n c f g S := ⟨v, S2, h1, h2, by rw [h3]; exact R.mono (by omega)⟩
section SM
variable {S : XS} {c : Nat × Nat} {n : Nat}
theorem pr_owes (R : RR n (pj S)) (x y : Int32) : PP n c (fun h => f_X11_owes h 0 x y) (fun h => f_X12_owes h 351 x y) S := by
  obtain ⟨N, W⟩ := R.now
  have h6 := W.2.1
  have hB := W.2.2.2.2.2.2.1
  have hM := W.t0.2.2.1
  rcases ix_of (x := x) (N := N) (by omega) with ⟨i, hi, rfl⟩ | hx
  · rcases ix_of (x := y) (N := N) (by omega) with ⟨j, hj, rfl⟩ | hy
    · refine PP.mk (S.1 364 (6 * i + j)) (T0 S) R ?_ ?_ T0_pj
      · unfold f_X11_owes
        rw [k0, Option.bind_some, g0_6, Option.bind_some, B30.has_in hB h6 hi, Option.bind_some, if_neg (by decide), Option.bind_some, B30.has_in hB h6 hj, Option.bind_some, if_neg (by decide), Option.bind_some, B30.debt (by omega) (by omega), Option.bind_some, W.2.2.2.2.2.2.2.2.2.2.2.1 _ (by omega)]
        rfl
      · unfold f_X12_owes
        rw [k351, Option.bind_some, T0_p, Option.bind_some, r_isHouse_in hM h6 hi, Option.bind_some, if_neg (by decide), r_isHouse_in hM h6 hj, Option.bind_some, if_neg (by decide), g351_32, Option.bind_some, ix6, a364 (by omega), Option.bind_some, T0_ne (by decide)]
    · refine PP.mk (-1000000) (T0 S) R ?_ ?_ T0_pj
      · unfold f_X11_owes
        rw [k0, Option.bind_some, g0_6, Option.bind_some, B30.has_in hB h6 hi, Option.bind_some, if_neg (by decide), Option.bind_some, B30.has_out hB hy, Option.bind_some, if_pos rfl]
      · unfold f_X12_owes
        rw [k351, Option.bind_some, T0_p, Option.bind_some, r_isHouse_in hM h6 hi, Option.bind_some, if_neg (by decide), r_isHouse_out hM hy, Option.bind_some, if_pos rfl]
  · refine PP.mk (-1000000) (T0 S) R ?_ ?_ T0_pj
    · unfold f_X11_owes
      rw [k0, Option.bind_some, g0_6, Option.bind_some, B30.has_out hB hx, Option.bind_some, if_pos rfl]
    · unfold f_X12_owes
      rw [k351, Option.bind_some, T0_p, Option.bind_some, r_isHouse_out hM hx, Option.bind_some, if_pos rfl]
theorem pr_status (R : RR n (pj S)) (x : Int32) : PP n c (fun h => f_X11_status h 0 x) (fun h => f_X12_status h 351 x) S := by
  rcases ix_of (x := x) (N := 6) (by decide) with ⟨i, hi, rfl⟩ | hx
  · refine PP.mk (S.1 366 i) (T0 S) R ?_ ?_ T0_pj
    · have hs := R.2.2.2.2.2.2.1 i hi
      rw [show pj S 349 = S.1 349 from pj_cell fun _ => rfl, show pj S 366 = S.1 366 from pj_cell fun _ => rfl] at hs
      unfold f_X11_status
      rw [k0, Option.bind_some, if_neg (nI_nneg (by omega)), if_neg (show ¬ (6 : Int32) ≤ nI i from by rw [show (6 : Int32) = nI 6 from rfl]; exact nI_ge hi (by decide)), g0_14, Option.bind_some, a349 hi, Option.bind_some, hs]
    · unfold f_X12_status
      rw [k351, Option.bind_some, T0_p, Option.bind_some, isIn_in (u := 5) (k := i) (m := 5) (by omega) (by decide) rfl, Option.bind_some, if_neg (by decide), g351_34, Option.bind_some, a366 hi, Option.bind_some, T0_ne (by decide)]
  · refine PP.mk (-1) (T0 S) R ?_ ?_ T0_pj
    · unfold f_X11_status
      rw [k0, Option.bind_some]
      rcases hx with z | z
      · rw [if_pos z]
      · rw [if_neg z.1, if_pos (show (6 : Int32) ≤ x from z.2)]
    · unfold f_X12_status
      rw [k351, Option.bind_some, T0_p, Option.bind_some, isIn_out (u := 5) (m := 5) hx (by decide) rfl, Option.bind_some, if_pos rfl]
theorem nxM_congr {o o' : Nat → Nat} {e : Nat} : ∀ {m : Nat}, (∀ k, k < m → o k = o' k) → nxM o e m = nxM o' e m
  | 0, _ => rfl
  | m + 1, h => by
    show (if e.testBit m then nxM o e m ||| o m else nxM o e m) = (if e.testBit m then nxM o' e m ||| o' m else nxM o' e m)
    rw [nxM_congr (m := m) (fun k hk => h k (by omega)), h m (by omega)]
theorem stR_congr {o o' : Nat → Nat} {N t : Nat} (h : ∀ k, k < N → o k = o' k) : ∀ (f e cm n : Nat), stR o N t f e cm n = stR o' N t f e cm n
  | 0, _, _, _ => rfl
  | f + 1, e, cm, n => by
    show (if e.testBit t then nI n else stR o N t f (nxM o e N &&& (63 ^^^ (cm ||| e))) (cm ||| e) (n + 1)) = (if e.testBit t then nI n else stR o' N t f (nxM o' e N &&& (63 ^^^ (cm ||| e))) (cm ||| e) (n + 1))
    rw [nxM_congr h, stR_congr h f]
/-- steps from one to another -/
def spF (D : Nat → Int32) (N x t : Nat) : Int32 := stR (ow D N) N t N (ow D N x) 0 1
theorem spF_congr {D D' : Nat → Int32} {N x t : Nat} (h6 : N ≤ 6) (hx : x < 6) (h : ∀ k, k < 36 → D k = D' k) : spF D N x t = spF D' N x t := by
  unfold spF
  rw [ow_congr h6 hx h, stR_congr (fun k hk => ow_congr h6 (by omega) h)]
theorem NW.D {N : Nat} {lim kp : Int32} {Q : BS} (W : NW S N lim kp Q) : ∀ k, k < 36 → S.1 31 k = S.1 364 k := fun k hk => by
  rw [W.2.2.2.2.2.2.2.2.2.2.2.1 k hk, W.2.2.2.2.2.2.2.2.2.2.1]
  rfl
theorem NW.U {N : Nat} {lim kp : Int32} {Q : BS} (W : NW S N lim kp Q) : ∀ k, k < 6 → S.1 32 k = S.1 364 (36 + k) := fun k hk => by
  rw [W.2.2.2.2.2.2.2.2.2.2.2.2.1 k hk, W.2.2.2.2.2.2.2.2.2.2.1]
  rfl
theorem pr_chain (R : RR n (pj S)) (x y : Int32) : PP n c (fun h => f_X11_chain h 0 x y) (fun h => f_X12_chain h 351 x y) S := by
  obtain ⟨N, W⟩ := R.now
  have h6 := W.2.1
  have hB := W.2.2.2.2.2.2.1
  have hM := W.t0.2.2.1
  rcases ix_of (x := x) (N := N) (by omega) with ⟨i, hi, rfl⟩ | hx
  · rcases ix_of (x := y) (N := N) (by omega) with ⟨j, hj, rfl⟩ | hy
    · obtain ⟨st, e1, e2⟩ := r_laysSteps (S := T0 S) (c := c) (a := 364) (Or.inl rfl) hM h6 hi
      refine PP.mk (if i = j then 0 else spF (S.1 364) N i j) (wA (T0 S) 368 st) R ?_ ?_ ((pj_scr sc368).trans T0_pj)
      · unfold f_X11_chain
        rw [k0, Option.bind_some, g0_6, Option.bind_some, B30.has_in hB h6 hi, Option.bind_some, if_neg (by decide), Option.bind_some, B30.has_in hB h6 hj, Option.bind_some, if_neg (by decide)]
        by_cases e : i = j
        · rw [if_pos (by rw [e]), if_pos e]
        · rw [if_neg (fun z => e ((nI_eq (by omega) (by omega)).mp z)), if_neg e, Option.bind_some, B30.steps hB h6 (by omega) (by omega), Option.bind_some]
          congr 1
          exact spF_congr h6 (by omega) W.D
      · unfold f_X12_chain
        rw [k351, Option.bind_some, T0_p, Option.bind_some, r_isHouse_in hM h6 hi, Option.bind_some, if_neg (by decide), r_isHouse_in hM h6 hj, Option.bind_some, if_neg (by decide), g351_32, Option.bind_some, e1, Option.bind_some]
        by_cases e : i = j
        · rw [if_pos (by rw [e]), if_pos e]
        · rw [if_neg (fun z => e ((nI_eq (by omega) (by omega)).mp z)), if_neg e, g351_38, Option.bind_some, a368 (by omega), Option.bind_some, wA_same, e2 j hj, T0_ne (by decide)]
          rfl
    · refine PP.mk (-1) (T0 S) R ?_ ?_ T0_pj
      · unfold f_X11_chain
        rw [k0, Option.bind_some, g0_6, Option.bind_some, B30.has_in hB h6 hi, Option.bind_some, if_neg (by decide), Option.bind_some, B30.has_out hB hy, Option.bind_some, if_pos rfl]
      · unfold f_X12_chain
        rw [k351, Option.bind_some, T0_p, Option.bind_some, r_isHouse_in hM h6 hi, Option.bind_some, if_neg (by decide), r_isHouse_out hM hy, Option.bind_some, if_pos rfl]
  · refine PP.mk (-1) (T0 S) R ?_ ?_ T0_pj
    · unfold f_X11_chain
      rw [k0, Option.bind_some, g0_6, Option.bind_some, B30.has_out hB hx, Option.bind_some, if_pos rfl]
    · unfold f_X12_chain
      rw [k351, Option.bind_some, T0_p, Option.bind_some, r_isHouse_out hM hx, Option.bind_some, if_pos rfl]
theorem rgR_congr {D D' : Nat → Int32} {N : Nat} (h6 : N ≤ 6) (h : ∀ k, k < 36 → D k = D' k) : ∀ k, k ≤ N → rgR D N k = rgR D' N k
  | 0, _ => rfl
  | k + 1, hk => by
    have e := spF_congr (x := k) (t := k) h6 (by omega) h
    unfold spF at e
    show (if stR (ow D N) N k N (ow D N k) 0 1 = -1 then rgR D N k else if rgR D N k = -1 then stR (ow D N) N k N (ow D N k) 0 1 else if rgR D N k ≤ stR (ow D N) N k N (ow D N k) 0 1 then rgR D N k else stR (ow D N) N k N (ow D N k) 0 1) = (if stR (ow D' N) N k N (ow D' N k) 0 1 = -1 then rgR D' N k else if rgR D' N k = -1 then stR (ow D' N) N k N (ow D' N k) 0 1 else if rgR D' N k ≤ stR (ow D' N) N k N (ow D' N k) 0 1 then rgR D' N k else stR (ow D' N) N k N (ow D' N k) 0 1)
    rw [rgR_congr h6 h k (by omega), e]
theorem X11_ring {N : Nat} (hB : S.1 30 4 = nI N) (h6 : N ≤ 6) : f_X11_ring (hp S c) 0 = some (rgR (S.1 31) N N) := by
  unfold f_X11_ring
  rw [k0, Option.bind_some]
  refine lp (N := N) (fun n k => f_X11_ring_b4 n (hp S c) 0 (rgR (S.1 31) N k) (nI k)) (fun n => ?_) (fun n k hk => ?_) N 0 1048576 (by omega) (by omega)
  · show f_X11_ring_b4 (n + 1) (hp S c) 0 (rgR (S.1 31) N N) (nI N) = _
    rw [f_X11_ring_b4, g0_6, Option.bind_some, B30.g4, Option.bind_some, hB, if_pos (nI_le (Nat.le_refl _) (by omega))]
  · show f_X11_ring_b4 (n + 1) (hp S c) 0 (rgR (S.1 31) N k) (nI k) = f_X11_ring_b4 n (hp S c) 0 (if stR (ow (S.1 31) N) N k N (ow (S.1 31) N k) 0 1 = -1 then rgR (S.1 31) N k else if rgR (S.1 31) N k = -1 then stR (ow (S.1 31) N) N k N (ow (S.1 31) N k) 0 1 else if rgR (S.1 31) N k ≤ stR (ow (S.1 31) N) N k N (ow (S.1 31) N k) 0 1 then rgR (S.1 31) N k else stR (ow (S.1 31) N) N k N (ow (S.1 31) N k) 0 1) (nI (k + 1))
    rw [f_X11_ring_b4, g0_6, Option.bind_some, B30.g4, Option.bind_some, hB, if_neg (nI_ge hk (by omega)), Option.bind_some, B30.steps hB h6 (by omega) (by omega), Option.bind_some]
    unfold f_X11_ring_b40 f_X11_ring_b42
    rw [nI_1]
    show (if stR (ow (S.1 31) N) N k N (ow (S.1 31) N k) 0 1 = -1 then _ else _) = _
    by_cases c1 : stR (ow (S.1 31) N) N k N (ow (S.1 31) N k) 0 1 = -1
    · rw [if_pos c1, if_pos c1]
    · rw [if_neg c1, if_neg c1]
      by_cases c2 : rgR (S.1 31) N k = -1
      · rw [if_pos c2, if_pos c2]
      · rw [if_neg c2, if_neg c2]
        by_cases c3 : rgR (S.1 31) N k ≤ stR (ow (S.1 31) N) N k N (ow (S.1 31) N k) 0 1
        · rw [if_pos c3, if_pos c3]
        · rw [if_neg c3, if_neg c3]
theorem pr_ring (R : RR n (pj S)) : PP n c (fun h => f_X11_ring h 0) (fun h => f_X12_ring h 351) S := by
  obtain ⟨N, W⟩ := R.now
  have h6 := W.2.1
  have hB := W.2.2.2.2.2.2.1
  have hM := W.t0.2.2.1
  have e1 := X11_ring (c := c) hB h6
  rw [rgR_congr h6 W.D N (Nat.le_refl _)] at e1
  by_cases hN : N = 0
  · subst hN
    refine PP.mk (-1) (T0 S) R e1 ?_ T0_pj
    unfold f_X12_ring
    rw [k351, Option.bind_some, T0_p, Option.bind_some, g351_26, Option.bind_some, hM, if_pos (show nI 0 = 0 from rfl)]
  · obtain ⟨st, e2⟩ := r_shortest (S := T0 S) (c := c) (a := 364) (Or.inl rfl) hM h6
    refine PP.mk (rgR (S.1 364) N N) (wA (T0 S) 368 st) R e1 ?_ ((pj_scr sc368).trans T0_pj)
    unfold f_X12_ring
    rw [k351, Option.bind_some, T0_p, Option.bind_some, g351_26, Option.bind_some, hM, if_neg (nI_ne0 (by omega) (by omega)), g351_32, Option.bind_some, e2, Option.bind_some, T0_ne (by decide)]
end SM
