/-! a house CROSSED twice: all is as it was -/
theorem nxZ_twice {N x a b : Nat} {d : Nat → Nat → Int} (hx : x < N) : nxZ N (nxZ N d x) x a b = d a b := by
  by_cases c : a < N ∧ b < N
  · by_cases c1 : a = x ∨ b = x
    · have e1 : nxZ N d x a b = -d a b := by
        unfold nxZ
        rw [if_pos c, if_pos c1]
      rw [nxZ, if_pos c, if_pos c1, e1]
      omega
    · have eab : nxZ N d x a b = if 0 < d a x ∧ 0 < d x b then d a b + d a x * d x b else if d a x < 0 ∧ d x b < 0 then d a b - d a x * d x b else d a b := by
        unfold nxZ
        rw [if_pos c, if_neg c1]
      have eax : nxZ N d x a x = -d a x := by
        unfold nxZ
        rw [if_pos ⟨c.1, hx⟩, if_pos (Or.inr rfl)]
      have exb : nxZ N d x x b = -d x b := by
        unfold nxZ
        rw [if_pos ⟨hx, c.2⟩, if_pos (Or.inl rfl)]
      have e2 : nxZ N (nxZ N d x) x a b = if 0 < nxZ N d x a x ∧ 0 < nxZ N d x x b then nxZ N d x a b + nxZ N d x a x * nxZ N d x x b else if nxZ N d x a x < 0 ∧ nxZ N d x x b < 0 then nxZ N d x a b - nxZ N d x a x * nxZ N d x x b else nxZ N d x a b := by
        rw [nxZ, if_pos c, if_neg c1]
      have hm : -d a x * -d x b = d a x * d x b := by rw [Int.neg_mul_neg]
      rw [e2, eax, exb, eab, hm]
      generalize d a x * d x b = m
      by_cases p1 : 0 < d a x ∧ 0 < d x b
      · rw [if_pos p1, if_neg (by omega), if_pos (by omega)]
        omega
      · rw [if_neg p1]
        by_cases p2 : d a x < 0 ∧ d x b < 0
        · rw [if_pos p2, if_pos (by omega)]
          omega
        · rw [if_neg p2, if_neg (by omega), if_neg (by omega)]
  · rw [nxZ, if_neg c]
    unfold nxZ
    rw [if_neg c]
theorem nxZ_congr {N x a b : Nat} {d d' : Nat → Nat → Int} (h1 : d a b = d' a b) (h2 : d a x = d' a x) (h3 : d x b = d' x b) : nxZ N d x a b = nxZ N d' x a b := by
  unfold nxZ
  simp only [h1, h2, h3]
theorem pr_congr2 {W E W' E' : Nat → Int32} : ∀ {n : Nat}, (∀ k, k < n → (W k = W' k ∧ E k = E' k) ∨ (tn (E k) = 0 ∧ tn (E' k) = 0)) → pr W E n = pr W' E' n
  | 0, _ => rfl
  | n + 1, h => by
    show pr W E n * (tn (W n) ^ tn (E n) % 1000003) % 1000003 = pr W' E' n * (tn (W' n) ^ tn (E' n) % 1000003) % 1000003
    rw [pr_congr2 (n := n) (fun k hk => h k (by omega))]
    rcases h n (by omega) with z | z
    · rw [z.1, z.2]
    · rw [z.1, z.2, Nat.pow_zero, Nat.pow_zero]
theorem inv_cancel {u v : Nat} (h0 : 0 < v) (h1 : v < 1000003) (hu : u < 1000003) : u * v % 1000003 * (v ^ 1000001 % 1000003) % 1000003 = u := by
  rw [← Nat.mul_mod, Nat.mul_assoc, Nat.mul_comm v, ← Nat.pow_succ, Nat.mul_mod, fermat v h0 h1, Nat.mul_one, Nat.mod_mod, Nat.mod_eq_of_lt hu]
theorem fw_back {s w f1 f2 : Nat} (hw0 : 0 < w) (hw1 : w < 1000003) (hs : s < 1000003) (e1 : f1 = s * (w ^ 1000001 % 1000003) % 1000003) (hf : 0 < f1) (e2 : f2 = s * (f1 ^ 1000001 % 1000003) % 1000003) : f2 = w := by
  have hf1 : f1 < 1000003 := by rw [e1]; exact Nat.mod_lt _ (by decide)
  have hs2 : w * f1 % 1000003 = s := by
    rw [e1, Nat.mul_mod, Nat.mod_mod, ← Nat.mul_mod, Nat.mul_comm w, Nat.mul_assoc, Nat.mul_mod, Nat.mul_mod (w ^ 1000001 % 1000003), Nat.mod_mod, ← Nat.mul_mod (w ^ 1000001), ← Nat.pow_succ, fermat w hw0 hw1, Nat.mul_one, Nat.mod_mod, Nat.mod_eq_of_lt hs]
  rw [e2, ← hs2]
  exact inv_cancel hf hf1 hw1
theorem crs_twice {N x : Nat} {kp lim : Int32} {Q : BS} (V : Vb lim Q) (h6 : N ≤ 6) (hl : lim.toInt ≤ 99) (h1 : can N kp lim Q x = true) (h2 : can N kp lim (crs N Q x) x = true) : eqB (crs N (crs N Q x) x) Q := by
  obtain ⟨hx, -, hw, -⟩ := can_x h1
  obtain ⟨-, -, hw2, -⟩ := can_x h2
  have V2 := Vb_crs V h6 hl h1
  have hx6 : x < 6 := by omega
  have A := V.1
  have ax : ∀ k, k < 6 → (crs N Q x).1 (6 * k + x) = if k < N then -Q.1 (6 * k + x) else Q.1 (6 * k + x) := by
    intro k hk
    show nxF N Q.1 x (6 * k + x) = _
    rw [nxF_at hk hx6]
    unfold nx
    by_cases e : k < N
    · rw [if_pos ⟨e, hx⟩, if_pos (Or.inr rfl), if_pos e]
    · rw [if_neg (fun z => e z.1), if_neg e]
  have xa : ∀ k, k < 6 → (crs N Q x).1 (6 * x + k) = if k < N then -Q.1 (6 * x + k) else Q.1 (6 * x + k) := by
    intro k hk
    show nxF N Q.1 x (6 * x + k) = _
    rw [nxF_at hx6 hk]
    unfold nx
    by_cases e : k < N
    · rw [if_pos ⟨hx, e⟩, if_pos (Or.inl rfl), if_pos e]
    · rw [if_neg (fun z => e z.2), if_neg e]
  refine ⟨fun i hi => ?_, fun k hk => ?_⟩
  · have ei : 6 * (i / 6) + i % 6 = i := by omega
    have ha : i / 6 < 6 := by omega
    have hb : i % 6 < 6 := by omega
    show nxF N (crs N Q x).1 x i = Q.1 i
    rw [← ei, nxF_at ha hb]
    refine Int32.toInt_inj.mp ?_
    rw [nx_toInt V2.1 hx6 ha hb]
    have e : ∀ a b, a < 6 → b < 6 → ((crs N Q x).1 (6 * a + b)).toInt = nxZ N (fun a b => (Q.1 (6 * a + b)).toInt) x a b := by
      intro a b ha hb
      show (nxF N Q.1 x (6 * a + b)).toInt = _
      rw [nxF_at ha hb, nx_toInt A hx6 ha hb]
    have := nxZ_twice (N := N) (x := x) (a := i / 6) (b := i % 6) (d := fun a b => (Q.1 (6 * a + b)).toInt) hx
    rw [← this]
    exact nxZ_congr (e _ _ ha hb) (e _ _ ha hx6) (e _ _ hx6 hb)
  · show upd (upd Q.2 x (nI (fw N Q.1 Q.2 x))) x (nI (fw N (crs N Q x).1 (crs N Q x).2 x)) k = Q.2 k
    rw [upd_upd]
    unfold upd
    by_cases e : k = x
    · rw [if_pos e, e]
      obtain ⟨w1, w2⟩ := V.2.2.t hx6
      have w0 : 0 < tn (Q.2 x) := by
        rcases Nat.eq_zero_or_pos (tn (Q.2 x)) with z | z
        · rw [z] at w1
          exact absurd w1 hw
        · exact z
      have f0 : 0 < fw N Q.1 Q.2 x := by
        rcases Nat.eq_zero_or_pos (fw N Q.1 Q.2 x) with z | z
        · exfalso
          refine hw2 ?_
          show upd Q.2 x (nI (fw N Q.1 Q.2 x)) x = 0
          rw [upd_same, z]
          rfl
        · exact z
      have fl := fw_lt (N := N) (D := Q.1) (W := Q.2) (x := x)
      have t2 : tn ((crs N Q x).2 x) = fw N Q.1 Q.2 x := by
        show tn (upd Q.2 x (nI (fw N Q.1 Q.2 x)) x) = _
        rw [upd_same, tn_nI (by omega)]
      have dx : Q.1 (6 * x + x) = 0 := A.diag hx6
      have pA : pr (crs N Q x).2 (fun k => (crs N Q x).1 (6 * k + x)) N = pr Q.2 (fun k => Q.1 (6 * x + k)) N := pr_congr2 fun k hk => by
        by_cases z : k = x
        · right
          subst z
          rw [ax k hx6, if_pos hk, dx]
          decide
        · left
          refine ⟨?_, ?_⟩
          · show upd Q.2 x _ k = _
            rw [upd_ne z]
          · rw [ax k (by omega), if_pos hk, A.neg hx6 (by omega)]
      have pB : pr (crs N Q x).2 (fun k => (crs N Q x).1 (6 * x + k)) N = pr Q.2 (fun k => Q.1 (6 * k + x)) N := pr_congr2 fun k hk => by
        by_cases z : k = x
        · right
          subst z
          rw [xa k hx6, if_pos hk, dx]
          decide
        · left
          refine ⟨?_, ?_⟩
          · show upd Q.2 x _ k = _
            rw [upd_ne z]
          · rw [xa k (by omega), if_pos hk, A.neg (by omega) hx6]
      have ef : fw N (crs N Q x).1 (crs N Q x).2 x = tn (Q.2 x) := by
        refine fw_back (s := (pr Q.2 (fun k => Q.1 (6 * k + x)) N + pr Q.2 (fun k => Q.1 (6 * x + k)) N) % 1000003) (f1 := fw N Q.1 Q.2 x) w0 w2 (Nat.mod_lt _ (by decide)) rfl f0 ?_
        unfold fw at t2
        rw [fw, pA, pB, Nat.add_comm (pr Q.2 (fun k => Q.1 (6 * x + k)) N), t2]
        rfl
      rw [ef]
      exact w1.symm
    · rw [if_neg e]
