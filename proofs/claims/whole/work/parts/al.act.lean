/-! AN ACT: what stood is remembered -/
section AC
variable {S : XS} {c : Nat × Nat} {n A : Nat}
def shF (S : XS) (j : Nat) : Nat → Int32 := fun i => if i < j then S.1 369 (i + 232) else S.1 369 i
theorem r_shift (h40 : S.1 351 40 = nI 40) : f_X12_remember_b11 1048576 (hp S c) 351 0 = f_X12_remember_b50 (hp (wA (wA S 369 (shF S 9048)) 351 (upd (S.1 351) 40 (nI 39))) c) 351 := by
  have h0 : S = wA S 369 (shF S 0) := by
    have : shF S 0 = S.1 369 := funext fun i => if_neg (by omega)
    rw [this, wA_self]
  have l0 : f_X12_remember_b11 1048576 (hp (wA S 369 (shF S 0)) c) 351 (nI 0) = f_X12_remember_b50 (hp (wA (wA S 369 (shF S 9048)) 351 (upd (S.1 351) 40 (nI 39))) c) 351 := by
    refine lp (N := 9048) (fun n k => f_X12_remember_b11 n (hp (wA S 369 (shF S k)) c) 351 (nI k)) (fun n => ?_) (fun n k hk => ?_) 9048 0 1048576 (by omega) (by omega)
    · show f_X12_remember_b11 (n + 1) _ 351 (nI 9048) = _
      rw [f_X12_remember_b11, if_pos (by decide), g351_40, Option.bind_some, wA_ne (show 351 ≠ 369 by decide), h40, nI_prd (by decide), p351_40, Option.bind_some, wA_ne (show 351 ≠ 369 by decide)]
    · show f_X12_remember_b11 (n + 1) _ 351 (nI k) = _
      rw [f_X12_remember_b11, if_neg (by rw [show (9048 : Int32) = nI 9048 from rfl]; exact nI_ge hk (by decide)), g351_39, Option.bind_some, Option.bind_some, show (232 : Int32) = nI 232 from rfl, nI_add, a369 (by omega), Option.bind_some, q369 (by omega), Option.bind_some, nI_1, wA_wA, wA_same]
      have : upd (shF S k) k (shF S k (k + 232)) = shF S (k + 1) := by
        funext j
        unfold upd shF
        by_cases e : j = k
        · rw [if_pos e, if_neg (by omega), if_pos (by omega), e]
        · rw [if_neg e]
          by_cases e2 : j < k
          · rw [if_pos e2, if_pos (by omega)]
          · rw [if_neg e2, if_neg (by omega)]
      rw [this]
  rw [← h0] at l0
  exact l0
theorem r_rememberX (hA : A ≤ 40) (h40 : S.1 351 40 = nI A) : ∃ S', S'.2 = S.2 ∧ f_X12_remember (hp S c) 351 = some (hp S' c) ∧ S'.1 351 = upd (S.1 351) 40 (nI (min (A + 1) 40)) ∧ (∀ a, a ≠ 351 → a ≠ 369 → S'.1 a = S.1 a) ∧ ∃ B s, B + s = A ∧ min (A + 1) 40 = B + 1 ∧ (∀ k, k < 232 → S'.1 369 (232 * B + k) = S.1 364 k) ∧ ∀ i, i < B → ∀ k, k < 232 → S'.1 369 (232 * i + k) = S.1 369 (232 * (i + s) + k) := by
  unfold f_X12_remember
  rw [k351, Option.bind_some, g351_40, Option.bind_some, h40]
  by_cases e : A = 40
  · subst e
    rw [if_pos (show nI 40 = (40 : Int32) from rfl), r_shift h40, r_rem (A := 39) (by decide) (by rw [wA_same, upd_same])]
    refine ⟨_, ?_, rfl, ?_, fun a h1 h2 => ?_, 39, 1, rfl, rfl, fun k hk => ?_, fun i hi k hk => ?_⟩
    · rfl
    · rw [wA_same, wA_same, upd_upd]
      rfl
    · rw [wA_ne h1, wA_ne h2, wA_ne h1, wA_ne h2]
    · rw [wA_ne (by decide), wA_same]
      unfold rmF
      rw [if_pos (by omega), show 232 * 39 + k - 232 * 39 = k by omega, wA_ne (by decide), wA_ne (by decide)]
    · rw [wA_ne (by decide), wA_same]
      unfold rmF
      rw [if_neg (by omega), wA_ne (by decide), wA_same]
      unfold shF
      rw [if_pos (by omega), show 232 * i + k + 232 = 232 * (i + 1) + k by omega]
  · rw [if_neg (show ¬ nI A = (40 : Int32) from fun z => e ((nI_eq (b := 40) (by omega) (by decide)).mp z)), r_rem (by omega) h40]
    refine ⟨_, ?_, rfl, ?_, fun a h1 h2 => ?_, A, 0, rfl, by omega, fun k hk => ?_, fun i hi k hk => ?_⟩
    · rfl
    · rw [wA_same, Nat.min_eq_left (by omega)]
    · rw [wA_ne h1, wA_ne h2]
    · rw [wA_ne (by decide), wA_same]
      unfold rmF
      rw [if_pos (by omega), show 232 * A + k - 232 * A = k by omega]
    · rw [wA_ne (by decide), wA_same]
      unfold rmF
      rw [if_neg (by omega), Nat.add_zero]
theorem r_remember (hA : A ≤ 40) (h40 : S.1 351 40 = nI A) : ∃ S', f_X12_remember (hp S c) 351 = some (hp S' c) ∧ S'.1 351 = upd (S.1 351) 40 (nI (min (A + 1) 40)) ∧ (∀ a, a ≠ 351 → a ≠ 369 → S'.1 a = S.1 a) ∧ ∃ B s, B + s = A ∧ min (A + 1) 40 = B + 1 ∧ (∀ k, k < 232 → S'.1 369 (232 * B + k) = S.1 364 k) ∧ ∀ i, i < B → ∀ k, k < 232 → S'.1 369 (232 * i + k) = S.1 369 (232 * (i + s) + k) := by
  obtain ⟨S', -, h⟩ := r_rememberX (S := S) (c := c) hA h40
  exact ⟨S', h⟩
end AC
theorem RR_act {n N F A q B s c' m : Nat} {cr : Nat → Nat} {p p' : PJ} (R : RR n p) (v1 : Rvil p N F) (v2 : Rnow p N) (v3 : Rtold p N F) (v4 : Rmem p N A q cr) (v5 : Rimg p N) (v6 : Rseen p N m)
    (C : ∀ a, a < 30 ∨ 34 < a → a < 46 ∨ 49 < a → a < 60 + 5 * q ∨ 60 + 5 * q + 4 < a → a ≠ 351 → a ≠ 364 → a ≠ 369 → p' a = p a)
    (now : Rnow p' N) (y5 : p' 49 5 = p 49 5) (y3 : p' 49 3 = nI ((q + 1) % 40)) (y4 : p' 49 4 = nI (B + 1))
    (b1 : ∀ k, k < 36 → p' (60 + 5 * q + 1) k = p 31 k) (b2 : ∀ k, k < 6 → p' (60 + 5 * q + 2) k = p 32 k) (b3 : ∀ k, k < 6 → p' (60 + 5 * q + 3) k = p 33 k) (b4 : ∀ k, k < 6 → p' (60 + 5 * q + 4) k = p 34 k) (b5 : ∀ k, 4 ≤ k → k < 9 → p' (60 + 5 * q) k = p 30 k)
    (K : ∀ j, j ≠ 40 → p' 351 j = p 351 j) (K40 : p' 351 40 = nI (B + 1)) (hB : B + s = A) (hB2 : min (A + 1) 40 = B + 1)
    (x1 : ∀ k, k < 232 → p' 369 (232 * B + k) = p 364 k) (x2 : ∀ i, i < B → ∀ k, k < 232 → p' 369 (232 * i + k) = p 369 (232 * (i + s) + k))
    (lg : lgR (p' 46) (p' 47) (p' 48) (p' 364) c') (hc1 : cr A ≤ c') (hc2 : c' ≤ cr A + 1)
    (old : ∀ row c0, c0 ≤ cr A → cr A ≤ c0 + 40 → lgR (p 46) (p 47) (p 48) row c0 → lgR (p' 46) (p' 47) (p' 48) row c0) : RR n p' := by
  obtain ⟨-, ⟨tl, t1⟩, ⟨ns, sl, dg, s1⟩, ⟨nl, ll, l1⟩, mi⟩ := R
  have h6 := v1.2.1
  obtain ⟨a1, a2, a3, a4, a5, a6, a7⟩ := v4
  have D : ∀ a j, a < 30 ∨ 34 < a → a < 46 ∨ 49 < a → a < 60 + 5 * q ∨ 60 + 5 * q + 4 < a → a ≠ 351 → a ≠ 364 → a ≠ 369 → p' a j = p a j := fun a j h1 h2 h3 h4 h5 h6 => congrFun (C a h1 h2 h3 h4 h5 h6) j
  have up : ∀ d i, i + d = A → cr i ≤ cr A ∧ cr A ≤ cr i + d := by
    intro d
    induction d with
    | zero =>
      intro i hi
      rw [show i = A by omega]
      omega
    | succ d ih =>
      intro i hi
      have h1 := ih (i + 1) (by omega)
      have h2 := (a7 i (by omega)).1
      have h3 := (a7 i (by omega)).2.1
      omega
  have e356 : p' 356 1 = p 356 1 := D _ _ (by omega) (by omega) (by omega) (by omega) (by omega) (by omega)
  have e358 : p' 358 = p 358 := C _ (by omega) (by omega) (by omega) (by omega) (by omega) (by omega)
  refine ⟨⟨N, F, v1.cg (K _ (by decide)) (K _ (by decide)) e356 ?_ e358, now, v3.cg ?_ ?_ ?_ ?_ ?_ ?_ ?_ e358, ⟨B + 1, (q + 1) % 40, fun i => if i ≤ B then cr (i + s) else c', ?_⟩, v5.cg y5 (K _ (by decide)) (fun a _ _ => ?_) ?_ e356 e358, m, v6.cg (K _ (by decide)) (fun a _ _ => ?_) ?_⟩, ⟨tl, t1.cg ?_ (K _ (by decide)) ?_ ?_⟩, ⟨ns, sl, dg, s1.cg ?_ (K _ (by decide)) ?_ (fun j _ => ?_) (fun a _ _ => ?_) (fun j _ => ?_)⟩, ⟨nl, ll, l1.cg ?_ ?_ (K _ (by decide)) ?_ (K _ (by decide)) ?_ ?_ (fun a _ _ => ?_)⟩, mi.cg ?_ (K _ (by decide)) ?_ ?_ ?_ ?_ ?_ ?_⟩
  rotate_left 8
  · refine ⟨by omega, Nat.mod_lt _ (by decide), K40, y4, y3, ?_, fun i hi => ?_⟩
    · show lgR _ _ _ _ (if B + 1 ≤ B then _ else c')
      rw [if_neg (by omega)]
      exact lg
    · show (if i ≤ B then cr (i + s) else c') ≤ (if i + 1 ≤ B then cr (i + 1 + s) else c') ∧ (if i + 1 ≤ B then cr (i + 1 + s) else c') ≤ (if i ≤ B then cr (i + s) else c') + 1 ∧ _ ∧ _ ∧ _ ∧ lgR _ _ _ _ (if i ≤ B then cr (i + s) else c')
      rw [if_pos (show i ≤ B by omega)]
      have hold := up (A - (i + s)) (i + s) (by omega)
      by_cases e : i < B
      · obtain ⟨w1, w2, w3, w4, w5, w6⟩ := a7 (i + s) (by omega)
        have em : mb ((q + 1) % 40) (B + 1) i = mb q A (i + s) := by
          unfold mb
          omega
        have en : mb q A (i + s) < 60 + 5 * q ∨ 60 + 5 * q + 4 < mb q A (i + s) := by
          unfold mb
          omega
        have el := mb_lt (q := q) (A := A) (i := i + s)
        have en' : ∀ j, j ≤ 4 → mb q A (i + s) + j < 60 + 5 * q ∨ 60 + 5 * q + 4 < mb q A (i + s) + j := by
          intro j hj
          unfold mb at en ⊢
          omega
        have cb : ∀ j, j ≤ 4 → p' (mb q A (i + s) + j) = p (mb q A (i + s) + j) := fun j hj => C _ (by omega) (by omega) (en' j hj) (by omega) (by omega) (by omega)
        rw [if_pos (show i + 1 ≤ B by omega), show i + 1 + s = i + s + 1 by omega, em]
        refine ⟨w1, w2, w3.cg (cb 0 (by decide)) (cb 3 (by decide)) e356 e358, ?_, ?_, old _ _ (by omega) (by omega) (lgR_congr w6 (fun _ _ => rfl) (fun _ _ => rfl) (fun _ _ => rfl) (fun k hk => x2 i e k hk))⟩
        · obtain ⟨r1, r2, r3, r4, r5, r6⟩ := w4.cg (p' := p') (cb 0 (by decide)) (cb 1 (by decide)) (cb 2 (by decide)) (cb 4 (by decide))
          refine ⟨fun k hk => ?_, fun k hk => ?_, fun k hk => ?_, ?_, ?_, ?_⟩
          · rw [r1 k hk]; exact (x2 i e k (by omega)).symm
          · rw [r2 k hk]; exact (x2 i e (36 + k) (by omega)).symm
          · rw [r3 k hk]; exact (x2 i e (42 + k) (by omega)).symm
          · rw [r4]; exact (x2 i e 48 (by omega)).symm
          · rw [r5]; exact (x2 i e 49 (by omega)).symm
          · rw [r6]; exact (x2 i e 50 (by omega)).symm
        · rw [e356]
          exact rOk_congr (fun k hk => x2 i e k (by omega)) w5
      · have ei : i = B := by omega
        subst ei
        have em : mb ((q + 1) % 40) (i + 1) i = 60 + 5 * q := by
          unfold mb
          omega
        obtain ⟨⟨k1, k2, k3⟩, ⟨r1, r2, r3, r4, r5, r6⟩, ok⟩ := v2
        rw [if_neg (show ¬ i + 1 ≤ i by omega), em, hB]
        refine ⟨hc1, hc2, ⟨?_, ?_, fun k hk => ?_⟩, ⟨fun k hk => ?_, fun k hk => ?_, fun k hk => ?_, ?_, ?_, ?_⟩, ?_, old _ _ (Nat.le_refl _) (by omega) (lgR_congr a6 (fun _ _ => rfl) (fun _ _ => rfl) (fun _ _ => rfl) (fun k hk => x1 k hk))⟩
        · rw [b5 4 (by decide) (by decide)]; exact k1
        · rw [b5 5 (by decide) (by decide), e356]; exact k2
        · rw [b3 k (by omega), e358]; exact k3 k hk
        · rw [b1 k hk]; exact (r1 k hk).trans (x1 k (by omega)).symm
        · rw [b2 k hk]; exact (r2 k hk).trans (x1 (36 + k) (by omega)).symm
        · rw [b4 k hk]; exact (r3 k hk).trans (x1 (42 + k) (by omega)).symm
        · rw [b5 6 (by decide) (by decide)]; exact r4.trans (x1 48 (by omega)).symm
        · rw [b5 7 (by decide) (by decide)]; exact r5.trans (x1 49 (by omega)).symm
        · rw [b5 8 (by decide) (by decide)]; exact r6.trans (x1 50 (by omega)).symm
        · rw [e356]
          exact rOk_congr (fun k hk => x1 k (by omega)) ok
  all_goals first | exact C _ (by omega) (by omega) (by omega) (by omega) (by omega) (by omega) | exact D _ _ (by omega) (by omega) (by omega) (by omega) (by omega) (by omega)
