/-! ALL: pairs, the most between two, levels -/
section AL2
variable {S : XS} {c : Nat × Nat} {n N : Nat} {D : Nat → Int32}
def qz (D : Nat → Int32) (k : Nat) : Nat := if D k ≤ 0 then 0 else 1
def nz' (D : Nat → Int32) (k : Nat) : Nat := if D k = 0 then 0 else 1
def pfN (D : Nat → Int32) : Nat → Nat
  | 0 => 0
  | k + 1 => pfN D k + qz D k
theorem pF_N : ∀ k, pF D k = nI (pfN D k)
  | 0 => rfl
  | k + 1 => by
    show (if D k ≤ 0 then pF D k else pF D k + 1) = nI (pfN D k + if D k ≤ 0 then 0 else 1)
    rw [pF_N k]
    by_cases e : D k ≤ 0
    · rw [if_pos e, if_pos e, Nat.add_zero]
    · rw [if_neg e, if_neg e, nI_1]
def pcB (D : Nat → Int32) (a : Nat) : Nat → Nat
  | 0 => 0
  | b + 1 => pcB D a b + nz' D (6 * a + b)
def pcA (D : Nat → Int32) : Nat → Nat
  | 0 => 0
  | a + 1 => pcA D a + pcB D a a
theorem pcB_0 (z : Zo N D) {a : Nat} (ha : a < 6) (hN : N ≤ a) : ∀ b, b ≤ 6 → pcB D a b = 0
  | 0, _ => rfl
  | b + 1, hb => by
    show pcB D a b + nz' D (6 * a + b) = 0
    rw [pcB_0 z ha hN b (by omega)]
    unfold nz'
    rw [if_pos (z a b ha (by omega) (Or.inl hN))]
theorem pcA_up (z : Zo N D) : ∀ d, N + d ≤ 6 → pcA D (N + d) = pcA D N
  | 0, _ => rfl
  | d + 1, h => by
    show pcA D (N + d) + pcB D (N + d) (N + d) = _
    rw [pcA_up z d (by omega), pcB_0 z (by omega) (by omega) _ (by omega), Nat.add_zero]
theorem qz_pair (A : An D) {a b : Nat} (ha : a < 6) (hb : b < 6) : qz D (6 * a + b) + qz D (6 * b + a) = nz' D (6 * a + b) := by
  have h1 := A.neg ha hb
  have lo := A.lo hb ha
  unfold qz nz'
  have e : (D (6 * a + b)).toInt = -(D (6 * b + a)).toInt := by rw [h1, zi_neg (by omega)]
  have i1 : D (6 * a + b) ≤ 0 ↔ (D (6 * a + b)).toInt ≤ 0 := Int32.le_iff_toInt_le
  have i2 : D (6 * b + a) ≤ 0 ↔ (D (6 * b + a)).toInt ≤ 0 := Int32.le_iff_toInt_le
  have i3 : D (6 * a + b) = 0 ↔ (D (6 * a + b)).toInt = 0 := by
    rw [← Int32.toInt_inj]
    exact Iff.rfl
  by_cases c1 : D (6 * a + b) ≤ 0 <;> by_cases c2 : D (6 * b + a) ≤ 0 <;> by_cases c3 : D (6 * a + b) = 0
  all_goals first | (exfalso; rw [i1] at c1; rw [i2] at c2; rw [i3] at c3; omega) | simp [c1, c2, c3]
theorem qz_diag (A : An D) {a : Nat} (ha : a < 6) : qz D (6 * a + a) = 0 := by
  unfold qz
  rw [A.diag ha, if_pos (by decide)]
theorem pairs_eq (A : An D) (z : Zo N D) (h6 : N ≤ 6) : pfN D 36 = pcA D N := by
  have e := pcA_up z (6 - N) (by omega)
  rw [show N + (6 - N) = 6 by omega] at e
  rw [← e]
  have p : ∀ a b, a < 6 → b < 6 → qz D (6 * a + b) + qz D (6 * b + a) = nz' D (6 * a + b) := fun a b ha hb => qz_pair A ha hb
  have d : ∀ a, a < 6 → qz D (6 * a + a) = 0 := fun a ha => qz_diag A ha
  have p10 := p 1 0 (by decide) (by decide)
  have p20 := p 2 0 (by decide) (by decide)
  have p21 := p 2 1 (by decide) (by decide)
  have p30 := p 3 0 (by decide) (by decide)
  have p31 := p 3 1 (by decide) (by decide)
  have p32 := p 3 2 (by decide) (by decide)
  have p40 := p 4 0 (by decide) (by decide)
  have p41 := p 4 1 (by decide) (by decide)
  have p42 := p 4 2 (by decide) (by decide)
  have p43 := p 4 3 (by decide) (by decide)
  have p50 := p 5 0 (by decide) (by decide)
  have p51 := p 5 1 (by decide) (by decide)
  have p52 := p 5 2 (by decide) (by decide)
  have p53 := p 5 3 (by decide) (by decide)
  have p54 := p 5 4 (by decide) (by decide)
  have d0 := d 0 (by decide)
  have d1 := d 1 (by decide)
  have d2 := d 2 (by decide)
  have d3 := d 3 (by decide)
  have d4 := d 4 (by decide)
  have d5 := d 5 (by decide)
  simp only [pfN, pcA, pcB, Nat.reduceMul, Nat.reduceAdd] at *
  omega
theorem r_pairs_b {U : XS} {a t : Nat} {k4 : xa_H → Nat → Int32 → Int32 → Option Int32} (ha : a < 6) (h4 : U.1 364 = D) : ∀ (r b f : Nat), b + r = a → r < f → f_X12_pairs_b14 k4 f (hp U c) 351 (nI (t + pcB D a b)) (nI a) (nI b) = k4 (hp U c) 351 (nI (t + pcB D a a)) (nI (a + 1))
  | 0, b, f, hr, hf => by
    obtain ⟨f, rfl⟩ : ∃ g, f = g + 1 := ⟨f - 1, by omega⟩
    rw [f_X12_pairs_b14, if_pos (nI_le (by omega) (by omega)), nI_1, show b = a by omega]
  | r + 1, b, f, hr, hf => by
    obtain ⟨f, rfl⟩ : ∃ g, f = g + 1 := ⟨f - 1, by omega⟩
    have ih := r_pairs_b (t := t) (k4 := k4) ha h4 r (b + 1) f (by omega) (by omega)
    rw [f_X12_pairs_b14, if_neg (nI_ge (by omega) (by omega)), g351_32, Option.bind_some, ix6, a364 (by omega), Option.bind_some, h4]
    unfold f_X12_pairs_b39
    have eb : pcB D a (b + 1) = pcB D a b + if D (6 * a + b) = 0 then 0 else 1 := rfl
    by_cases e : D (6 * a + b) = 0
    · rw [if_pos e, Nat.add_zero] at eb
      rw [eb] at ih
      rw [if_pos e, Int32.add_zero, nI_1]
      exact ih
    · rw [if_neg e, ] at eb
      rw [eb, ← Nat.add_assoc] at ih
      rw [if_neg e, nI_1, nI_1]
      exact ih
theorem r_pairs_a {U : XS} (h6 : N ≤ 6) (h26 : U.1 351 26 = nI N) (h4 : U.1 364 = D) : ∀ (r a f : Nat), a + r = N → r < f → f_X12_pairs_b4 f (hp U c) 351 (nI (pcA D a)) (nI a) = some (nI (pcA D N))
  | 0, a, f, hr, hf => by
    obtain ⟨f, rfl⟩ : ∃ g, f = g + 1 := ⟨f - 1, by omega⟩
    rw [f_X12_pairs_b4, g351_26, Option.bind_some, h26, if_pos (nI_le (by omega) (by omega)), show a = N by omega]
  | r + 1, a, f, hr, hf => by
    obtain ⟨f, rfl⟩ : ∃ g, f = g + 1 := ⟨f - 1, by omega⟩
    have h := r_pairs_b (c := c) (U := U) (D := D) (t := pcA D a) (k4 := fun h l0 l1 l2 => f_X12_pairs_b4 f h l0 l1 l2) (show a < 6 by omega) h4 a 0 1048576 (by omega) (by omega)
    rw [f_X12_pairs_b4, g351_26, Option.bind_some, h26, if_neg (nI_ge (by omega) (by omega))]
    refine Eq.trans h ?_
    exact r_pairs_a h6 h26 h4 r (a + 1) f (by omega) (by omega)
theorem r_mostB {U : XS} (h4 : U.1 364 = D) : ∀ (r k f : Nat), k + r = 36 → r < f → f_X12_mostBetween_b4 f (hp U c) 351 (mF D k) (nI k) = some (mF D 36)
  | 0, k, f, hr, hf => by
    obtain ⟨f, rfl⟩ : ∃ g, f = g + 1 := ⟨f - 1, by omega⟩
    obtain rfl : k = 36 := by omega
    rw [f_X12_mostBetween_b4, if_pos (by decide)]
  | r + 1, k, f, hr, hf => by
    obtain ⟨f, rfl⟩ : ∃ g, f = g + 1 := ⟨f - 1, by omega⟩
    rw [f_X12_mostBetween_b4, if_neg (show ¬ (36 : Int32) ≤ nI k from (nI_ge (by omega) (by decide) : ¬ nI 36 ≤ nI k)), g351_32, Option.bind_some, a364 (by omega), Option.bind_some, h4, nI_1]
    exact r_mostB h4 r (k + 1) f (by omega) (by omega)
theorem mF_cg {D' : Nat → Int32} : ∀ k, (∀ x, x < k → D x = D' x) → mF D k = mF D' k
  | 0, _ => rfl
  | k + 1, h => by
    show imax (mF D k) (D k) = imax (mF D' k) (D' k)
    rw [mF_cg k (fun x hx => h x (by omega)), h k (by omega)]
/-! levels -/
def rlx (D : Nat → Int32) (a b : Nat) (l : Nat → Nat) : Nat → Nat := if D (6 * a + b) ≤ 0 then l else fun x => if x = b then max (l b) (l a + 1) else l x
def rB (D : Nat → Int32) (a : Nat) : Nat → Nat → (Nat → Nat) → (Nat → Nat)
  | 0, _, l => l
  | m + 1, b, l => rB D a m (b + 1) (rlx D a b l)
def rA (D : Nat → Int32) (N : Nat) : Nat → Nat → (Nat → Nat) → (Nat → Nat)
  | 0, _, l => l
  | m + 1, a, l => rA D N m (a + 1) (rB D a N 0 l)
def rP (D : Nat → Int32) (N : Nat) : Nat → (Nat → Nat) → (Nat → Nat)
  | 0, l => l
  | t + 1, l => rP D N t (rA D N N 0 l)
theorem rlx_mono {a b : Nat} {l : Nat → Nat} (x : Nat) : l x ≤ rlx D a b l x := by
  unfold rlx
  split
  · exact Nat.le_refl _
  · show l x ≤ if x = b then max (l b) (l a + 1) else l x
    split
    · rename_i h
      rw [h]
      exact Nat.le_max_left _ _
    · exact Nat.le_refl _
theorem rB_mono {a : Nat} : ∀ (m b : Nat) (l : Nat → Nat) (x : Nat), l x ≤ rB D a m b l x
  | 0, _, _, _ => Nat.le_refl _
  | m + 1, b, l, x => Nat.le_trans (rlx_mono x) (rB_mono m (b + 1) (rlx D a b l) x)
theorem rA_mono : ∀ (m a : Nat) (l : Nat → Nat) (x : Nat), l x ≤ rA D N m a l x
  | 0, _, _, _ => Nat.le_refl _
  | m + 1, a, l, x => Nat.le_trans (rB_mono N 0 l x) (rA_mono m (a + 1) _ x)
theorem rB_ge {a : Nat} : ∀ (m b0 : Nat) (l : Nat → Nat) (b : Nat), b0 ≤ b → b < b0 + m → ¬ D (6 * a + b) ≤ 0 → l a + 1 ≤ rB D a m b0 l b
  | 0, _, _, _, h1, h2, _ => by omega
  | m + 1, b0, l, b, h1, h2, hd => by
    show l a + 1 ≤ rB D a m (b0 + 1) (rlx D a b0 l) b
    by_cases e : b = b0
    · subst e
      refine Nat.le_trans ?_ (rB_mono m (b + 1) _ b)
      unfold rlx
      rw [if_neg hd]
      show l a + 1 ≤ if b = b then max (l b) (l a + 1) else l b
      rw [if_pos rfl]
      exact Nat.le_max_right _ _
    · have := rB_ge m (b0 + 1) (rlx D a b0 l) b (by omega) (by omega) hd
      have h := rlx_mono (D := D) (a := a) (b := b0) (l := l) a
      omega
theorem rA_ge : ∀ (m a0 : Nat) (l : Nat → Nat) (a b : Nat), a0 ≤ a → a < a0 + m → b < N → ¬ D (6 * a + b) ≤ 0 → l a + 1 ≤ rA D N m a0 l b
  | 0, _, _, _, _, h1, h2, _, _ => by omega
  | m + 1, a0, l, a, b, h1, h2, hb, hd => by
    show l a + 1 ≤ rA D N m (a0 + 1) (rB D a0 N 0 l) b
    by_cases e : a = a0
    · subst e
      exact Nat.le_trans (rB_ge N 0 l b (by omega) (by omega) hd) (rA_mono m (a + 1) _ b)
    · have := rA_ge m (a0 + 1) (rB D a0 N 0 l) a b (by omega) (by omega) hb hd
      have h := rB_mono (D := D) (a := a0) N 0 l a
      omega
end AL2
