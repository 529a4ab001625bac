/-! ALL: the levels of the reference -/
section AL3
variable {S : XS} {c : Nat × Nat} {n N : Nat} {D : Nat → Int32}
def snd' (D : Nat → Int32) (N : Nat) (l : Nat → Nat) : Prop := ∀ b, b < N → 1 ≤ l b ∧ ∃ v, v 0 < N ∧ gW D N (l b - 1) v ∧ v (l b - 1) = b
theorem snd_rlx {a b : Nat} {l : Nat → Nat} (h : snd' D N l) (ha : a < N) (hb : b < N) : snd' D N (rlx D a b l) := by
  unfold rlx
  split
  · exact h
  · rename_i hd
    intro x hx
    show 1 ≤ (if x = b then max (l b) (l a + 1) else l x) ∧ ∃ v, v 0 < N ∧ gW D N ((if x = b then max (l b) (l a + 1) else l x) - 1) v ∧ v ((if x = b then max (l b) (l a + 1) else l x) - 1) = x
    by_cases e : x = b
    · rw [if_pos e]
      by_cases q : l a + 1 ≤ l b
      · rw [Nat.max_eq_left q, e]
        exact h b hb
      · rw [Nat.max_eq_right (by omega)]
        obtain ⟨h1, v, v0, w, ve⟩ := h a ha
        refine ⟨by omega, fun i => if i ≤ l a - 1 then v i else b, ?_, fun i hi => ?_, ?_⟩
        · show (if 0 ≤ l a - 1 then v 0 else b) < N
          rw [if_pos (by omega)]
          exact v0
        · show gE D N (if i ≤ l a - 1 then v i else b) (if i + 1 ≤ l a - 1 then v (i + 1) else b)
          rw [if_pos (by omega)]
          by_cases q2 : i + 1 ≤ l a - 1
          · rw [if_pos q2]
            exact w i (by omega)
          · rw [if_neg q2, show i = l a - 1 by omega, ve]
            exact ⟨ha, hb, Int32.not_le.mp hd⟩
        · show (if l a + 1 - 1 ≤ l a - 1 then v (l a + 1 - 1) else b) = x
          rw [if_neg (by omega), e]
    · rw [if_neg e]
      exact h x hx
theorem snd_B {a : Nat} (ha : a < N) : ∀ (m b : Nat) (l : Nat → Nat), b + m ≤ N → snd' D N l → snd' D N (rB D a m b l)
  | 0, _, _, _, h => h
  | m + 1, b, l, hb, h => snd_B ha m (b + 1) _ (by omega) (snd_rlx h ha (by omega))
theorem snd_A : ∀ (m a : Nat) (l : Nat → Nat), a + m ≤ N → snd' D N l → snd' D N (rA D N m a l)
  | 0, _, _, _, h => h
  | m + 1, a, l, ha, h => snd_A m (a + 1) _ (by omega) (snd_B (by omega) N 0 l (by omega) h)
theorem snd_P : ∀ (t : Nat) (l : Nat → Nat), snd' D N l → snd' D N (rP D N t l)
  | 0, _, h => h
  | t + 1, l, h => snd_P t _ (snd_A N 0 l (by omega) h)
def cmp' (D : Nat → Int32) (N t : Nat) (l : Nat → Nat) : Prop := ∀ n v, n ≤ t → v 0 < N → gW D N n v → n + 1 ≤ l (v n)
theorem cmp_A {t : Nat} {l : Nat → Nat} (h : cmp' D N t l) : cmp' D N (t + 1) (rA D N N 0 l) := fun n v hn v0 w => by
  cases n with
  | zero => exact Nat.le_trans (h 0 v (by omega) v0 w) (rA_mono N 0 l (v 0))
  | succ n =>
    have h1 := h n v (by omega) v0 (gW_less (by omega) w)
    obtain ⟨e1, e2, e3⟩ := w n (by omega)
    have h2 := rA_ge (D := D) (N := N) N 0 l (v n) (v (n + 1)) (by omega) (by omega) e2 (Int32.not_le.mpr e3)
    omega
theorem cmp_P : ∀ (r t : Nat) (l : Nat → Nat), cmp' D N t l → cmp' D N (t + r) (rP D N r l)
  | 0, _, _, h => h
  | r + 1, t, l, h => by
    rw [show t + (r + 1) = t + 1 + r by omega]
    exact cmp_P r (t + 1) _ (cmp_A h)
def mxL (l : Nat → Nat) : Nat → Nat → Nat → Nat
  | 0, _, m => m
  | r + 1, k, m => mxL l r (k + 1) (max m (l k))
theorem mxL_ge (l : Nat → Nat) : ∀ (r k m : Nat), m ≤ mxL l r k m
  | 0, _, _ => Nat.le_refl _
  | r + 1, k, m => Nat.le_trans (Nat.le_max_left m (l k)) (mxL_ge l r (k + 1) _)
theorem mxL_at (l : Nat → Nat) : ∀ (r k m x : Nat), k ≤ x → x < k + r → l x ≤ mxL l r k m
  | 0, _, _, _, h1, h2 => by omega
  | r + 1, k, m, x, h1, h2 => by
    show l x ≤ mxL l r (k + 1) (max m (l k))
    by_cases e : x = k
    · rw [e]
      exact Nat.le_trans (Nat.le_max_right m (l k)) (mxL_ge l r (k + 1) _)
    · exact mxL_at l r (k + 1) _ x (by omega) (by omega)
theorem mxL_le (l : Nat → Nat) {B : Nat} : ∀ (r k m : Nat), m ≤ B → (∀ x, k ≤ x → x < k + r → l x ≤ B) → mxL l r k m ≤ B
  | 0, _, _, h, _ => h
  | r + 1, k, m, h, hx => mxL_le l r (k + 1) _ (Nat.max_le.mpr ⟨h, hx k (by omega) (by omega)⟩) (fun x h1 h2 => hx x (by omega) (by omega))
/-- the answer is the same -/
theorem lv_eq (h6 : N ≤ 6) (h0 : 0 < N) (hr : rng D N = false) : lvR (ow D N) N (N + 1) (2 ^ N - 1) 0 = nI (mxL (rP D N N (fun _ => 1)) N 0 1) := by
  obtain ⟨k, k1, k2, k3, k4⟩ := lv_val (D := D) h6 hr
  rw [k2]
  congr 1
  have hs : snd' D N (rP D N N (fun _ => 1)) := snd_P N _ (fun b hb => ⟨Nat.le_refl _, fun _ => b, hb, fun i hi => by omega, rfl⟩)
  have hc : cmp' D N (0 + N) (rP D N N (fun _ => 1)) := cmp_P N 0 _ (fun n v hn _ _ => by omega)
  have kp : 1 ≤ k := by
    rcases Nat.lt_or_ge k 1 with q | q
    · exact absurd (fun i hi => by omega) (k3 (fun _ => 0) h0)
    · exact q
  refine Nat.le_antisymm ?_ ?_
  · obtain ⟨v, v0, w⟩ := k4 (k - 1) (by omega)
    have h1 := hc (k - 1) v (by omega) v0 w
    have hv : v (k - 1) < N := by
      by_cases q : k - 1 = 0
      · rw [q]; exact v0
      · have := (w (k - 2) (by omega)).2.1
        rw [show k - 2 + 1 = k - 1 by omega] at this
        exact this
    have h2 := mxL_at (rP D N N (fun _ => 1)) N 0 1 (v (k - 1)) (by omega) (by omega)
    omega
  · refine mxL_le _ N 0 1 kp (fun x _ hx => ?_)
    obtain ⟨h1, v, v0, w, -⟩ := hs x (by omega)
    rcases Nat.lt_or_ge k (rP D N N (fun _ => 1) x) with q | q
    · exact absurd (gW_less (by omega) w) (k3 v v0)
    · exact q
/-! the loops -/
def frL (U' U : XS) : Prop := ∀ a, a ≠ 376 → U'.1 a = U.1 a
theorem frL.trans {U U1 U2 : XS} (h1 : frL U1 U) (h2 : frL U2 U1) : frL U2 U := fun a h => (h2 a h).trans (h1 a h)
def LV (U : XS) (l : Nat → Nat) : Prop := ∀ x, x < 6 → U.1 376 x = nI (l x)
theorem r_lv_b {k38 : xa_H → Nat → Int32 → Int32 → Option (Int32 × xa_H)} {k48 : xa_H → Nat → Int32 → Int32 → Int32 → Option (Int32 × xa_H)} {l1 l2 : Int32} {a : Nat} (h6 : N ≤ 6) (ha : a < N) : ∀ (r b f B : Nat) (U : XS) (l : Nat → Nat), b + r = N → r < f → U.1 351 26 = nI N → U.1 364 = D → LV U l → (∀ x, l x ≤ B) → B + r < 2 ^ 20 → ∃ U', f_X12_levels_b59 k38 k48 f (hp U c) 351 l1 l2 (nI a) (nI b) = k48 (hp U' c) 351 l1 l2 (nI (a + 1)) ∧ LV U' (rB D a r b l) ∧ frL U' U ∧ ∀ x, rB D a r b l x ≤ B + r
  | 0, b, f, B, U, l, hr, hf, h26, h4, hl, hB, hBB => by
    obtain ⟨f, rfl⟩ : ∃ g, f = g + 1 := ⟨f - 1, by omega⟩
    refine ⟨U, ?_, hl, fun _ _ => rfl, fun x => hB x⟩
    rw [f_X12_levels_b59, g351_26, Option.bind_some, h26, if_pos (nI_le (by omega) (by omega)), nI_1]
  | r + 1, b, f, B, U, l, hr, hf, h26, h4, hl, hB, hBB => by
    obtain ⟨f, rfl⟩ : ∃ g, f = g + 1 := ⟨f - 1, by omega⟩
    rw [f_X12_levels_b59, g351_26, Option.bind_some, h26, if_neg (nI_ge (by omega) (by omega)), g351_32, Option.bind_some, ix6, a364 (by omega), Option.bind_some, h4]
    unfold f_X12_levels_b108
    have er : rB D a (r + 1) b l = rB D a r (b + 1) (rlx D a b l) := rfl
    rw [er]
    by_cases e : D (6 * a + b) ≤ 0
    · have el : rlx D a b l = l := by unfold rlx; rw [if_pos e]
      obtain ⟨U', z1, z2, z3, z4⟩ := r_lv_b (k38 := k38) (k48 := k48) (l1 := l1) (l2 := l2) h6 ha r (b + 1) f B U l (by omega) (by omega) h26 h4 hl hB (by omega)
      rw [el]
      refine ⟨U', ?_, z2, z3, fun x => by have := z4 x; omega⟩
      rw [if_pos e, nI_1]
      exact z1
    · have hla := hB a
      have hlb := hB b
      have el : rlx D a b l = fun x => if x = b then max (l b) (l a + 1) else l x := by unfold rlx; rw [if_neg e]
      obtain ⟨U', z1, z2, z3, z4⟩ := r_lv_b (k38 := k38) (k48 := k48) (l1 := l1) (l2 := l2) h6 ha r (b + 1) f (B + 1) (wA U 376 (upd (U.1 376) b (nI (max (l b) (l a + 1))))) (rlx D a b l) (by omega) (by omega) (by rw [wA_ne (by decide)]; exact h26) (by rw [wA_ne (by decide)]; exact h4) (fun x hx => by
        rw [wA_same, el]
        show upd (U.1 376) b (nI (max (l b) (l a + 1))) x = nI (if x = b then max (l b) (l a + 1) else l x)
        by_cases q : x = b
        · rw [q, upd_same, if_pos rfl]
        · rw [upd_ne q, if_neg q]
          exact hl x hx) (fun x => by
        rw [el]
        show (if x = b then max (l b) (l a + 1) else l x) ≤ B + 1
        have := hB x
        split
        · omega
        · omega) (by omega)
      refine ⟨U', ?_, z2, fun x hx => by rw [z3 x hx, wA_ne hx], fun x => by have := z4 x; omega⟩
      rw [if_neg e, g351_54, Option.bind_some, Option.bind_some, a376 (by omega), Option.bind_some, Option.bind_some, a376 (by omega), Option.bind_some, hl b (by omega), hl a (by omega), nI_1, nI_1, imax_nI (by omega) (by omega), q376 (by omega), Option.bind_some]
      exact z1
theorem r_lv_a {k38 : xa_H → Nat → Int32 → Int32 → Option (Int32 × xa_H)} {l1 : Int32} {p : Nat} (h6 : N ≤ 6) : ∀ (r a f B : Nat) (U : XS) (l : Nat → Nat), a + r = N → r < f → U.1 351 26 = nI N → U.1 364 = D → LV U l → (∀ x, l x ≤ B) → B + 6 * r < 2 ^ 20 → ∃ U', f_X12_levels_b48 k38 f (hp U c) 351 l1 (nI p) (nI a) = k38 (hp U' c) 351 l1 (nI (p + 1)) ∧ LV U' (rA D N r a l) ∧ frL U' U ∧ ∀ x, rA D N r a l x ≤ B + 6 * r
  | 0, a, f, B, U, l, hr, hf, h26, h4, hl, hB, hBB => by
    obtain ⟨f, rfl⟩ : ∃ g, f = g + 1 := ⟨f - 1, by omega⟩
    refine ⟨U, ?_, hl, fun _ _ => rfl, fun x => hB x⟩
    rw [f_X12_levels_b48, g351_26, Option.bind_some, h26, if_pos (nI_le (by omega) (by omega)), nI_1]
  | r + 1, a, f, B, U, l, hr, hf, h26, h4, hl, hB, hBB => by
    obtain ⟨f, rfl⟩ : ∃ g, f = g + 1 := ⟨f - 1, by omega⟩
    obtain ⟨U1, y1, y2, y3, y4⟩ := r_lv_b (c := c) (k38 := k38) (k48 := fun h l0 l1 l2 l3 => f_X12_levels_b48 k38 f h l0 l1 l2 l3) (l1 := l1) (l2 := nI p) (a := a) h6 (by omega) N 0 1048576 B U l (by omega) (by omega) h26 h4 hl hB (by omega)
    obtain ⟨U', z1, z2, z3, z4⟩ := r_lv_a (k38 := k38) (l1 := l1) (p := p) h6 r (a + 1) f (B + 6) U1 (rB D a N 0 l) (by omega) (by omega) (by rw [y3 351 (by decide)]; exact h26) (by rw [y3 364 (by decide)]; exact h4) y2 (fun x => by have := y4 x; omega) (by omega)
    refine ⟨U', ?_, z2, y3.trans z3, fun x => by have := z4 x; show rA D N r (a + 1) (rB D a N 0 l) x ≤ _; omega⟩
    rw [f_X12_levels_b48, g351_26, Option.bind_some, h26, if_neg (nI_ge (by omega) (by omega))]
    exact y1.trans z1
theorem r_lv_p {l1 : Int32} (h6 : N ≤ 6) : ∀ (r p f B : Nat) (U : XS) (l : Nat → Nat), p + r = N → r < f → U.1 351 26 = nI N → U.1 364 = D → LV U l → (∀ x, l x ≤ B) → B + 36 * r < 2 ^ 20 → ∃ U', f_X12_levels_b38 f (hp U c) 351 l1 (nI p) = f_X12_levels_b128 1048576 (hp U' c) 351 l1 0 ∧ LV U' (rP D N r l) ∧ frL U' U ∧ ∀ x, rP D N r l x ≤ B + 36 * r
  | 0, p, f, B, U, l, hr, hf, h26, h4, hl, hB, hBB => by
    obtain ⟨f, rfl⟩ : ∃ g, f = g + 1 := ⟨f - 1, by omega⟩
    refine ⟨U, ?_, hl, fun _ _ => rfl, fun x => hB x⟩
    rw [f_X12_levels_b38, g351_26, Option.bind_some, h26, if_pos (nI_le (by omega) (by omega))]
  | r + 1, p, f, B, U, l, hr, hf, h26, h4, hl, hB, hBB => by
    obtain ⟨f, rfl⟩ : ∃ g, f = g + 1 := ⟨f - 1, by omega⟩
    obtain ⟨U1, y1, y2, y3, y4⟩ := r_lv_a (c := c) (k38 := fun h l0 l1 l2 => f_X12_levels_b38 f h l0 l1 l2) (l1 := l1) (p := p) h6 N 0 1048576 B U l (by omega) (by omega) h26 h4 hl hB (by omega)
    obtain ⟨U', z1, z2, z3, z4⟩ := r_lv_p (l1 := l1) h6 r (p + 1) f (B + 36) U1 (rA D N N 0 l) (by omega) (by omega) (by rw [y3 351 (by decide)]; exact h26) (by rw [y3 364 (by decide)]; exact h4) y2 (fun x => by have := y4 x; omega) (by omega)
    refine ⟨U', ?_, z2, y3.trans z3, fun x => by have := z4 x; show rP D N r (rA D N N 0 l) x ≤ _; omega⟩
    rw [f_X12_levels_b38, g351_26, Option.bind_some, h26, if_neg (nI_ge (by omega) (by omega))]
    exact y1.trans z1
theorem r_lv_m {U : XS} {l : Nat → Nat} (h6 : N ≤ 6) (h26 : U.1 351 26 = nI N) (hl : LV U l) (hB : ∀ x, l x ≤ 1000) : ∀ (r k f m : Nat), k + r = N → r < f → m ≤ 1000 → f_X12_levels_b128 f (hp U c) 351 (nI m) (nI k) = some (nI (mxL l r k m), hp U c)
  | 0, k, f, m, hr, hf, hm => by
    obtain ⟨f, rfl⟩ : ∃ g, f = g + 1 := ⟨f - 1, by omega⟩
    rw [f_X12_levels_b128, g351_26, Option.bind_some, h26, if_pos (nI_le (by omega) (by omega))]
    rfl
  | r + 1, k, f, m, hr, hf, hm => by
    obtain ⟨f, rfl⟩ : ∃ g, f = g + 1 := ⟨f - 1, by omega⟩
    have hk := hB k
    rw [f_X12_levels_b128, g351_26, Option.bind_some, h26, if_neg (nI_ge (by omega) (by omega)), g351_54, Option.bind_some, a376 (by omega), Option.bind_some, hl k (by omega), imax_nI (by omega) (by omega), nI_1]
    exact r_lv_m h6 h26 hl hB r (k + 1) f _ (by omega) (by omega) (by omega)
def l0F (U : XS) (k : Nat) : Nat → Int32 := fun x => if x < k then 1 else U.1 376 x
theorem r_lv_0 {U : XS} : f_X12_levels_b15 1048576 (hp U c) 351 0 = f_X12_levels_b38 1048576 (hp (wA U 376 (l0F U 6)) c) 351 1 0 := by
  have h0 : U = wA U 376 (l0F U 0) := by
    have : l0F U 0 = U.1 376 := funext fun x => if_neg (by omega)
    rw [this, wA_self]
  have l0 : f_X12_levels_b15 1048576 (hp (wA U 376 (l0F U 0)) c) 351 (nI 0) = f_X12_levels_b38 1048576 (hp (wA U 376 (l0F U 6)) c) 351 1 0 := by
    refine lp (N := 6) (fun n k => f_X12_levels_b15 n (hp (wA U 376 (l0F U k)) c) 351 (nI k)) (fun n => ?_) (fun n k hk => ?_) 6 0 1048576 (by omega) (by omega)
    · show f_X12_levels_b15 (n + 1) _ 351 (nI 6) = _
      rw [f_X12_levels_b15, if_pos (by decide)]
    · show f_X12_levels_b15 (n + 1) _ 351 (nI k) = _
      rw [f_X12_levels_b15, if_neg (show ¬ (6 : Int32) ≤ nI k from (nI_ge hk (by decide) : ¬ nI 6 ≤ nI k)), g351_54, Option.bind_some, q376 hk, Option.bind_some, nI_1, wA_wA, wA_same]
      have : upd (l0F U k) k 1 = l0F U (k + 1) := by
        funext x
        unfold upd l0F
        by_cases e : x = k
        · rw [if_pos e, if_pos (by omega)]
        · rw [if_neg e]
          by_cases e2 : x < k
          · rw [if_pos e2, if_pos (by omega)]
          · rw [if_neg e2, if_neg (by omega)]
      rw [this]
  rw [← h0] at l0
  exact l0
theorem r_levels {U : XS} (h6 : N ≤ 6) (h0 : 0 < N) (h26 : U.1 351 26 = nI N) : ∃ U', f_X12_levels (hp U c) 351 = some (lvR (ow (U.1 364) N) N (N + 1) (2 ^ N - 1) 0, hp U' c) ∧ ∀ a, a ≠ 368 → a ≠ 376 → U'.1 a = U.1 a := by
  obtain ⟨st, hst⟩ := r_hasRing (S := U) (c := c) (a := 364) (Or.inl rfl) h26 h6
  have hlr := lv_ring (D := U.1 364) h6
  unfold f_X12_levels
  rw [k351, Option.bind_some, g351_32, Option.bind_some, hst, Option.bind_some]
  cases hr : rng (U.1 364) N with
  | true =>
    refine ⟨wA U 368 st, ?_, fun a h1 _ => wA_ne h1⟩
    rw [if_neg (show ¬ bI true = 0 by decide), hlr.mpr hr]
  | false =>
    rw [if_pos (show bI false = 0 from rfl), r_lv_0]
    obtain ⟨U', z1, z2, z3, z4⟩ := r_lv_p (c := c) (N := N) (D := U.1 364) (l1 := 1) h6 N 0 1048576 1 (wA (wA U 368 st) 376 (l0F (wA U 368 st) 6)) (fun _ => 1) (by omega) (by omega) (by rw [wA_ne (by decide), wA_ne (by decide)]; exact h26) (by rw [wA_ne (by decide), wA_ne (by decide)]) (fun x hx => by
      rw [wA_same]
      exact if_pos hx) (fun _ => Nat.le_refl _) (by omega)
    have m := r_lv_m (c := c) h6 (by rw [z3 351 (by decide), wA_ne (by decide), wA_ne (by decide)]; exact h26) z2 (fun x => by have := z4 x; omega) N 0 1048576 1 (by omega) (by omega) (by decide)
    refine ⟨U', ?_, fun a h1 h2 => by rw [z3 a h2, wA_ne h2, wA_ne h1]⟩
    rw [lv_eq h6 h0 hr]
    exact z1.trans m
end AL3
