/-! UNDO -/
theorem RR_undo {n N F A q m : Nat} {cr : Nat → Nat} {p p' : PJ} (R : RR n p) (v1 : Rvil p N F) (v2 : Rnow p N) (v3 : Rtold p N F) (v4 : Rmem p N (A + 1) q cr) (v5 : Rimg p N) (v6 : Rseen p N m)
    (C : ∀ a, a < 30 ∨ 34 < a → a ≠ 49 → a ≠ 351 → a ≠ 364 → p' a = p a) (y5 : p' 49 5 = p 49 5) (y3 : p' 49 3 = nI ((q + 39) % 40)) (y4 : p' 49 4 = nI A)
    (b1 : ∀ k, k < 36 → p' 31 k = p (60 + 5 * ((q + 39) % 40) + 1) k) (b2 : ∀ k, k < 6 → p' 32 k = p (60 + 5 * ((q + 39) % 40) + 2) k) (b3 : ∀ k, k < 6 → p' 33 k = p (60 + 5 * ((q + 39) % 40) + 3) k) (b4 : ∀ k, k < 6 → p' 34 k = p (60 + 5 * ((q + 39) % 40) + 4) k) (b5 : ∀ k, 4 ≤ k → k < 9 → p' 30 k = p (60 + 5 * ((q + 39) % 40)) k)
    (K : ∀ j, j ≠ 40 → p' 351 j = p 351 j) (K40 : p' 351 40 = nI A) (x : ∀ k, k < 232 → p' 364 k = p 369 (232 * A + k)) : RR (n + 1) p' := by
  obtain ⟨-, ⟨tl, t1⟩, ⟨ns, sl, dg, s1⟩, ⟨nl, ll, l1⟩, mi⟩ := R
  have h6 := v1.2.1
  obtain ⟨a1, a2, a3, a4, a5, a6, a7⟩ := v4
  have D : ∀ a j, a < 30 ∨ 34 < a → a ≠ 49 → a ≠ 351 → a ≠ 364 → p' a j = p a j := fun a j h1 h2 h3 h4 => congrFun (C a h1 h2 h3 h4) j
  have e356 : p' 356 1 = p 356 1 := D _ _ (by omega) (by omega) (by omega) (by omega)
  have e358 : p' 358 = p 358 := C _ (by omega) (by omega) (by omega) (by omega)
  have e46 : p' 46 = p 46 := C _ (by omega) (by omega) (by omega) (by omega)
  have e47 : p' 47 = p 47 := C _ (by omega) (by omega) (by omega) (by omega)
  have e48 : p' 48 = p 48 := C _ (by omega) (by omega) (by omega) (by omega)
  have e369 : p' 369 = p 369 := C _ (by omega) (by omega) (by omega) (by omega)
  obtain ⟨-, -, k', r', ok, lg⟩ := a7 A (by omega)
  have em : mb q (A + 1) A = 60 + 5 * ((q + 39) % 40) := by
    unfold mb
    omega
  rw [em] at k' r'
  have now : Rnow p' N := by
    obtain ⟨k1, k2, k3⟩ := k'
    obtain ⟨r1, r2, r3, r4, r5, r6⟩ := r'
    refine ⟨⟨?_, ?_, fun k hk => ?_⟩, ⟨fun k hk => ?_, fun k hk => ?_, fun k hk => ?_, ?_, ?_, ?_⟩, ?_⟩
    · rw [b5 4 (by decide) (by decide)]; exact k1
    · rw [b5 5 (by decide) (by decide), e356]; exact k2
    · rw [b3 k (by omega), e358]; exact k3 k hk
    · rw [b1 k hk, x _ (by omega)]; exact r1 k hk
    · rw [b2 k hk, x _ (by omega)]; exact r2 k hk
    · rw [b4 k hk, x _ (by omega)]; exact r3 k hk
    · rw [b5 6 (by decide) (by decide), x _ (by omega)]; exact r4
    · rw [b5 7 (by decide) (by decide), x _ (by omega)]; exact r5
    · rw [b5 8 (by decide) (by decide), x _ (by omega)]; exact r6
    · rw [e356]
      exact rOk_congr (fun i hi => x i (by omega)) ok
  refine RR.mono (n := n) ⟨⟨N, F, v1.cg (K _ (by decide)) (K _ (by decide)) e356 ?_ e358, now, v3.cg ?_ ?_ ?_ ?_ ?_ ?_ ?_ e358, ⟨A, (q + 39) % 40, cr, ?_⟩, v5.cg y5 (K _ (by decide)) (fun a _ _ => ?_) ?_ e356 e358, m, v6.cg (K _ (by decide)) (fun a _ _ => ?_) ?_⟩, ⟨tl, t1.cg ?_ (K _ (by decide)) ?_ ?_⟩, ⟨ns, sl, dg, s1.cg ?_ (K _ (by decide)) ?_ (fun j _ => ?_) (fun a _ _ => ?_) (fun j _ => ?_)⟩, ⟨nl, ll, l1.cg ?_ ?_ (K _ (by decide)) ?_ (K _ (by decide)) ?_ ?_ (fun a _ _ => ?_)⟩, mi.cg ?_ (K _ (by decide)) ?_ ?_ ?_ ?_ ?_ ?_⟩ (by omega)
  rotate_left 8
  · refine ⟨by omega, Nat.mod_lt _ (by decide), K40, y4, y3, ?_, fun i hi => ?_⟩
    · rw [e46, e47, e48]
      exact lgR_congr lg (fun _ _ => rfl) (fun _ _ => rfl) (fun _ _ => rfl) x
    · obtain ⟨w1, w2, w3, w4, w5, w6⟩ := a7 i (by omega)
      have en : mb ((q + 39) % 40) A i = mb q (A + 1) i := by
        unfold mb
        omega
      have el := mb_lt (q := q) (A := A + 1) (i := i)
      have cb : ∀ j, j ≤ 4 → p' (mb q (A + 1) i + j) = p (mb q (A + 1) i + j) := fun j hj => C _ (by omega) (by omega) (by omega) (by omega)
      rw [en, e46, e47, e48, e369, e356]
      exact ⟨w1, w2, w3.cg (cb 0 (by decide)) (cb 3 (by decide)) e356 e358, w4.cg (cb 0 (by decide)) (cb 1 (by decide)) (cb 2 (by decide)) (cb 4 (by decide)), w5, w6⟩
  all_goals first | exact C _ (by omega) (by omega) (by omega) (by omega) | exact D _ _ (by omega) (by omega) (by omega) (by omega)
section UN
variable {S : XS} {c : Nat × Nat} {n A : Nat}
theorem r_undo (hA : A < 40) (h40 : S.1 351 40 = nI A) : f_X12_undo_b26 1048576 (hp S c) 351 0 = some (nI A, hp (wA S 364 (cpR (fun k => S.1 369 (232 * A + k)) (S.1 364) 232)) c) := by
  have h0 : S = wA S 364 (cpR (fun k => S.1 369 (232 * A + k)) (S.1 364) 0) := by rw [cpR_0, wA_self]
  have l0 : f_X12_undo_b26 1048576 (hp (wA S 364 (cpR (fun k => S.1 369 (232 * A + k)) (S.1 364) 0)) c) 351 (nI 0) = some (nI A, hp (wA S 364 (cpR (fun k => S.1 369 (232 * A + k)) (S.1 364) 232)) c) := by
    refine lp (N := 232) (fun n k => f_X12_undo_b26 n (hp (wA S 364 (cpR (fun k => S.1 369 (232 * A + k)) (S.1 364) k)) c) 351 (nI k)) (fun n => ?_) (fun n k hk => ?_) 232 0 1048576 (by omega) (by omega)
    · show f_X12_undo_b26 (n + 1) _ 351 (nI 232) = _
      rw [f_X12_undo_b26, if_pos (by decide), g351_40, Option.bind_some, wA_ne (by decide), h40]
    · show f_X12_undo_b26 (n + 1) _ 351 (nI k) = f_X12_undo_b26 n (hp (wA S 364 (cpR (fun k => S.1 369 (232 * A + k)) (S.1 364) (k + 1))) c) 351 (nI (k + 1))
      rw [f_X12_undo_b26, if_neg (by rw [show (232 : Int32) = nI 232 from rfl]; exact nI_ge hk (by decide)), g351_32, Option.bind_some, g351_39, Option.bind_some, g351_40, Option.bind_some, wA_ne (show 351 ≠ 364 by decide), h40, ix232, a369 (by omega), Option.bind_some, q364 hk, Option.bind_some, nI_1, wA_wA, wA_same, wA_ne (show (369 : Nat) ≠ 364 by decide), ← cpR_step]
  rw [← h0] at l0
  exact l0
end UN
