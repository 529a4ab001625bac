/-! TEXT: a village, class and reference -/
theorem lyR_congr {fv fv' td td' : Nat → Int32} {r0 : Int32} {F N : Nat} (h1 : ∀ i, i < 3 * F → fv i = fv' i) (h2 : ∀ i, i < 3 * N → td i = td' i) (i : Nat) : lyR fv td r0 F N i = lyR fv' td' r0 F N i := by
  unfold lyR
  rw [lyD_congr h1, lyK_congr h2]
  by_cases c1 : i < 36
  · rw [if_pos c1, if_pos c1]
  · rw [if_neg c1, if_neg c1]
    by_cases c2 : i < 42
    · rw [if_pos c2, if_pos c2]
      by_cases c3 : i - 36 < N
      · rw [if_pos c3, if_pos c3, h2 _ (by omega)]
      · rw [if_neg c3, if_neg c3]
    · rw [if_neg c2, if_neg c2]
theorem rOk_congr {N : Nat} {lim : Int32} {row row' : Nat → Int32} (h : ∀ i, i < 51 → row i = row' i) (r : rOk N lim row') : rOk N lim row := by
  obtain ⟨⟨a, b, d⟩, e, m, m1, m2⟩ := r
  refine ⟨⟨An.congr (D := (rwB row').1) a (fun k hk => h k (by omega)), fun x y hx hy => ?_, fun k hk => ?_⟩, fun x y hx hy o => ?_, m, m1, by rw [h 48 (by decide)]; exact m2⟩
  · show (row (6 * x + y)).toInt ≤ _
    rw [h _ (by omega)]
    exact b x y hx hy
  · show ∃ w, w < 1000003 ∧ row (36 + k) = nI w
    rw [h _ (by omega)]
    exact d k hk
  · rw [h _ (by omega)]
    exact e x y hx hy o
theorem RR_settle {n : Nat} {p p' : PJ} {V : VD} (R : RR n p) (hV : vIn V) (hw : whl V = true)
    (C : ∀ a, a ≠ 0 → a < 30 ∨ 39 < a → a ≠ 49 → a ≠ 260 → a ≠ 351 → a ≠ 356 → a ≠ 358 → a ≠ 360 → a ≠ 364 → p' a = p a)
    (z0 : ∀ j, j ≠ 16 → p' 0 j = p 0 j) (z16 : p' 0 16 = nI 0)
    (K : ∀ j, j ≠ 6 → j ≠ 26 → j ≠ 27 → j ≠ 40 → j ≠ 51 → j ≠ 56 → p' 351 j = p 351 j)
    (K6 : p' 351 6 = nI 0) (K26 : p' 351 26 = nI V.2.1.1) (K27 : p' 351 27 = nI V.2.2.1.1) (K40 : p' 351 40 = nI 0) (K51 : p' 351 51 = nI 0) (K56 : p' 351 56 = 0)
    (x0 : p' 356 0 = V.2.2.2.1) (x1 : p' 356 1 = V.2.2.2.2) (x358 : ∀ i, i < 18 → p' 358 i = V.2.1.2 i) (x360 : ∀ i, i < 36 → p' 360 i = V.2.2.1.2 i)
    (x364 : ∀ i, i < 232 → p' 364 i = lyR (p' 360) (p' 358) (p' 356 0) V.2.2.1.1 V.2.1.1 i)
    (bb : ∀ b, b = 30 ∨ b = 35 → p' b 4 = nI V.2.1.1 ∧ p' b 5 = V.2.2.2.2 ∧ p' b 6 = lyK V.2.1.2 V.2.1.1 ∧ p' b 7 = V.2.2.2.1 ∧ p' b 8 = 0 ∧ (∀ k, k < 36 → p' (b + 1) k = lyD V.2.2.1.2 V.2.2.1.1 k) ∧ (∀ h, h < 6 → p' (b + 2) h = if h < V.2.1.1 then V.2.1.2 (3 * h) else 0) ∧ (∀ h, h < V.2.1.1 → p' (b + 3) h = V.2.1.2 (3 * h + 1)) ∧ ∀ h, h < 6 → p' (b + 4) h = 0)
    (y3 : p' 49 3 = nI 0) (y4 : p' 49 4 = nI 0) (y5 : p' 49 5 = 0) (y6 : p' 260 6 = nI 0) : RR (n + 1) p' := by
  obtain ⟨v1, v2, v3, v4, v5, v6, v7, v8⟩ := vl_ok hV hw
  obtain ⟨-, -, ⟨ns, sl, dg, s1⟩, ⟨nl, ll, l1⟩, mi⟩ := R
  have D : ∀ a j, a ≠ 0 → a < 30 ∨ 39 < a → a ≠ 49 → a ≠ 260 → a ≠ 351 → a ≠ 356 → a ≠ 358 → a ≠ 360 → a ≠ 364 → p' a j = p a j := fun a j h1 h2 h3 h4 h5 h6 h7 h8 h9 => congrFun (C a h1 h2 h3 h4 h5 h6 h7 h8 h9) j
  have er : ∀ i, lyR (p' 360) (p' 358) (p' 356 0) V.2.2.1.1 V.2.1.1 i = lyR V.2.2.1.2 V.2.1.2 V.2.2.2.1 V.2.2.1.1 V.2.1.1 i := fun i => by
    rw [x0]
    exact lyR_congr (fun j hj => x360 j (by omega)) (fun j hj => x358 j (by omega)) i
  have ok : rOk V.2.1.1 (p' 356 1) (lyR (p' 360) (p' 358) (p' 356 0) V.2.2.1.1 V.2.1.1) := by
    rw [x1]
    exact rOk_congr (fun i _ => er i) v8
  have bko : ∀ b, b = 30 ∨ b = 35 → bKo p' b V.2.1.1 := by
    intro b hb
    obtain ⟨b4, b5, b6, b7, b8, bD, bW, bT, bO⟩ := bb b hb
    refine ⟨b4, by rw [b5, x1], fun k hk => ?_⟩
    rw [bT k hk, x358 _ (by omega)]
  have bro : ∀ b, b = 30 ∨ b = 35 → bRo p' b (lyR (p' 360) (p' 358) (p' 356 0) V.2.2.1.1 V.2.1.1) := by
    intro b hb
    obtain ⟨b4, b5, b6, b7, b8, bD, bW, bT, bO⟩ := bb b hb
    refine ⟨fun k hk => ?_, fun k hk => ?_, fun k hk => ?_, ?_, ?_, ?_⟩
    · rw [bD k hk, er]
      exact (if_pos hk).symm
    · rw [bW k hk, er]
      unfold lyR
      rw [if_neg (show ¬ 36 + k < 36 by omega), if_pos (show 36 + k < 42 by omega), show 36 + k - 36 = k by omega]
    · rw [bO k hk, er]
      unfold lyR
      rw [if_neg (by omega), if_neg (by omega), if_neg (by omega), if_neg (by omega)]
    · rw [b6, er]
      unfold lyR
      rw [if_neg (by decide), if_neg (by decide), if_pos rfl]
    · rw [b7, er]
      unfold lyR
      rw [if_neg (by decide), if_neg (by decide), if_neg (by decide), if_pos rfl]
    · rw [b8, er]
      unfold lyR
      rw [if_neg (by decide), if_neg (by decide), if_neg (by decide), if_neg (by decide)]
  have bro' : bRo p' 30 (p' 364) := by
    obtain ⟨a1, a2, a3, a4, a5, a6⟩ := bro 30 (Or.inl rfl)
    exact ⟨fun k hk => by rw [a1 k hk, x364 _ (by omega)], fun k hk => by rw [a2 k hk, x364 _ (by omega)], fun k hk => by rw [a3 k hk, x364 _ (by omega)], by rw [a4, x364 _ (by omega)], by rw [a5, x364 _ (by omega)], by rw [a6, x364 _ (by omega)]⟩
  have z50 : lyR (p' 360) (p' 358) (p' 356 0) V.2.2.1.1 V.2.1.1 50 = 0 := by
    unfold lyR
    rw [if_neg (by decide), if_neg (by decide), if_neg (by decide), if_neg (by decide)]
  have z51 : lyR (p' 360) (p' 358) (p' 356 0) V.2.2.1.1 V.2.1.1 51 = 0 := by
    unfold lyR
    rw [if_neg (by decide), if_neg (by decide), if_neg (by decide), if_neg (by decide)]
  refine RR.mono (n := n) ⟨⟨V.2.1.1, V.2.2.1.1, ?_, ⟨bko 30 (Or.inl rfl), bro', ?_⟩, ⟨bko 35 (Or.inr rfl), bro 35 (Or.inr rfl), ok⟩, ⟨0, 0, fun _ => 0, ?_⟩, Or.inl ⟨y5, K56⟩, 0, ?_⟩, ⟨0, by decide, z16, K6, fun j hj => by omega⟩, ⟨ns, sl, dg, s1.cg ?_ (K _ (by decide) (by decide) (by decide) (by decide) (by decide) (by decide)) ?_ (fun j _ => ?_) (fun a _ _ => ?_) (fun j _ => ?_)⟩, ⟨nl, ll, l1.cg ?_ ?_ (K _ (by decide) (by decide) (by decide) (by decide) (by decide) (by decide)) (z0 _ (by decide)) (K _ (by decide) (by decide) (by decide) (by decide) (by decide) (by decide)) ?_ ?_ (fun a _ _ => ?_)⟩, mi.cg (z0 _ (by decide)) (K _ (by decide) (by decide) (by decide) (by decide) (by decide) (by decide)) ?_ ?_ ?_ ?_ ?_ ?_⟩ (by omega)
  · refine ⟨Or.inr v1, v2, K26, K27, v3, by rw [x1]; exact v4, by rw [x1]; exact v5, fun k hk => ?_, fun h hh => ?_⟩
    · rw [x360 _ (by omega), x360 _ (by omega), x360 _ (by omega)]
      exact v6 k hk
    · rw [x358 _ (by omega), x358 _ (by omega), x358 _ (by omega)]
      exact v7 h hh
  · exact rOk_congr (fun i hi => x364 i (by omega)) ok
  · refine ⟨by decide, by decide, K40, y4, y3, ⟨?_, by decide, ?_, fun i hi => absurd hi (by show ¬ i < 0; omega)⟩, fun i hi => by omega⟩
    · rw [x364 _ (by decide), z50]
      rfl
    · rw [x364 _ (by decide), z51]
      rfl
  · exact ⟨by decide, y6, K51, fun i hi => by omega⟩
  all_goals first | exact C _ (by omega) (by omega) (by omega) (by omega) (by omega) (by omega) (by omega) (by omega) (by omega) | exact D _ _ (by omega) (by omega) (by omega) (by omega) (by omega) (by omega) (by omega) (by omega) (by omega)
