/-! RINGS and LEVELS: walks along what is owed -/
def gE (D : Nat → Int32) (N a b : Nat) : Prop := a < N ∧ b < N ∧ 0 < D (6 * a + b)
def gW (D : Nat → Int32) (N n : Nat) (v : Nat → Nat) : Prop := ∀ i, i < n → gE D N (v i) (v (i + 1))
theorem php : ∀ (N : Nat) (v : Nat → Nat), (∀ i, i ≤ N → v i < N) → ∃ i j, i < j ∧ j ≤ N ∧ v i = v j
  | 0, v, h => by
    have := h 0 (by omega)
    omega
  | N + 1, v, h => by
    by_cases q : ∃ i, i ≤ N ∧ v i = v (N + 1)
    · obtain ⟨i, h1, h2⟩ := q
      exact ⟨i, N + 1, by omega, by omega, h2⟩
    · have q' : ∀ i, i ≤ N → v i ≠ v (N + 1) := fun i hi z => q ⟨i, hi, z⟩
      obtain ⟨i, j, h1, h2, h3⟩ := php N (fun i => if v (N + 1) < v i then v i - 1 else v i) (fun i hi => by
        have a1 := h i (by omega)
        have a2 := h (N + 1) (by omega)
        have a3 := q' i hi
        split <;> omega)
      refine ⟨i, j, h1, by omega, ?_⟩
      have a1 := q' i (by omega)
      have a2 := q' j h2
      split at h3 <;> split at h3 <;> omega
/-- those from whom a walk of i steps goes -/
def mS (D : Nat → Int32) (N : Nat) : Nat → Nat
  | 0 => 2 ^ N - 1
  | i + 1 => mS D N i &&& (63 ^^^ bsN (fun h => (mS D N i).testBit h && decide (ow D N h &&& mS D N i = 0)) N)
section GR
variable {D : Nat → Int32} {N : Nat}
theorem mS_lt (h6 : N ≤ 6) : ∀ i, mS D N i < 64
  | 0 => by
    show 2 ^ N - 1 < 64
    have := pow_le6 h6
    have := Nat.two_pow_pos N
    omega
  | i + 1 => and_lt64 (mS_lt h6 i)
theorem mS_t (h6 : N ≤ 6) : ∀ (i h : Nat), (mS D N i).testBit h = true ↔ h < N ∧ ∃ v, v 0 = h ∧ gW D N i v
  | 0, h => by
    show (2 ^ N - 1).testBit h = true ↔ _
    rw [Nat.testBit_two_pow_sub_one, decide_eq_true_eq]
    exact ⟨fun q => ⟨q, fun _ => h, rfl, fun i hi => by omega⟩, fun q => q.1⟩
  | i + 1, h => by
    show (mS D N i &&& (63 ^^^ bsN (fun h => (mS D N i).testBit h && decide (ow D N h &&& mS D N i = 0)) N)).testBit h = true ↔ _
    rw [Nat.testBit_and, Bool.and_eq_true]
    constructor
    · rintro ⟨h1, h2⟩
      have h3 := (mS_t h6 i h).mp h1
      refine ⟨h3.1, ?_⟩
      rw [xor63_t (by omega), bsN_t, decide_eq_true h3.1, h1, Bool.true_and, Bool.true_and] at h2
      have h4 : ow D N h &&& mS D N i ≠ 0 := fun z => by
        rw [decide_eq_true z] at h2
        cases h2
      obtain ⟨b, hb⟩ := Nat.exists_testBit_of_ne_zero h4
      rw [Nat.testBit_and, Bool.and_eq_true] at hb
      obtain ⟨b1, b2⟩ := ow_t.mp hb.1
      obtain ⟨-, v, v0, vw⟩ := (mS_t h6 i b).mp hb.2
      refine ⟨fun k => if k = 0 then h else v (k - 1), rfl, fun k hk => ?_⟩
      by_cases q : k = 0
      · subst q
        show gE D N h (v 0)
        rw [v0]
        exact ⟨h3.1, b1, b2⟩
      · show gE D N (if k = 0 then h else v (k - 1)) (if k + 1 = 0 then h else v (k + 1 - 1))
        rw [if_neg q, if_neg (by omega), show k + 1 - 1 = (k - 1) + 1 by omega]
        exact vw (k - 1) (by omega)
    · rintro ⟨h1, v, v0, vw⟩
      have h2 : (mS D N i).testBit h = true := (mS_t h6 i h).mpr ⟨h1, v, v0, fun k hk => vw k (by omega)⟩
      refine ⟨h2, ?_⟩
      rw [xor63_t (by omega), bsN_t, decide_eq_true h1, h2, Bool.true_and, Bool.true_and]
      have e0 := vw 0 (by omega)
      rw [v0] at e0
      have hb : (ow D N h &&& mS D N i).testBit (v 1) = true := by
        rw [Nat.testBit_and, Bool.and_eq_true]
        exact ⟨ow_t.mpr ⟨e0.2.1, e0.2.2⟩, (mS_t h6 i (v 1)).mpr ⟨e0.2.1, fun k => v (k + 1), rfl, fun k hk => vw (k + 1) (by omega)⟩⟩
      have : ow D N h &&& mS D N i ≠ 0 := fun z => by
        rw [z, Nat.zero_testBit] at hb
        cases hb
      rw [decide_eq_false this]
      rfl
theorem mS_0 (h6 : N ≤ 6) {i : Nat} : mS D N i ≠ 0 ↔ ∃ v, v 0 < N ∧ gW D N i v := by
  constructor
  · intro h
    obtain ⟨b, hb⟩ := Nat.exists_testBit_of_ne_zero h
    obtain ⟨h1, v, v0, vw⟩ := (mS_t h6 i b).mp hb
    exact ⟨v, by omega, vw⟩
  · rintro ⟨v, v0, vw⟩ z
    have := (mS_t h6 i (v 0)).mpr ⟨v0, v, rfl, vw⟩
    rw [z, Nat.zero_testBit] at this
    cases this
theorem lv_none (h6 : N ≤ 6) : ∀ (f n : Nat), n + f = N + 1 → (∀ i, n ≤ i → i ≤ N → mS D N i ≠ 0) → lvR (ow D N) N f (mS D N n) n = -1
  | 0, n, _, _ => rfl
  | f + 1, n, hn, h => by
    show (if mS D N n = 0 then nI n else lvR (ow D N) N f (mS D N (n + 1)) (n + 1)) = -1
    rw [if_neg (h n (Nat.le_refl _) (by omega))]
    exact lv_none h6 f (n + 1) (by omega) (fun i h1 h2 => h i (by omega) h2)
theorem lv_some (h6 : N ≤ 6) {k : Nat} (hk : k ≤ N) (h0 : mS D N k = 0) : ∀ (f n : Nat), n + f = N + 1 → n ≤ k → (∀ i, n ≤ i → i < k → mS D N i ≠ 0) → lvR (ow D N) N f (mS D N n) n = nI k
  | 0, n, hn, hnk, _ => by omega
  | f + 1, n, hn, hnk, h => by
    show (if mS D N n = 0 then nI n else lvR (ow D N) N f (mS D N (n + 1)) (n + 1)) = nI k
    by_cases e : n = k
    · rw [e, if_pos h0]
    · rw [if_neg (h n (Nat.le_refl _) (by omega))]
      exact lv_some h6 hk h0 f (n + 1) (by omega) (by omega) (fun i h1 h2 => h i (by omega) h2)
theorem gW_less {n m : Nat} {v : Nat → Nat} (h : m ≤ n) (w : gW D N n v) : gW D N m v := fun i hi => w i (by omega)
/-- a walk that comes back -/
def gC (D : Nat → Int32) (N : Nat) : Prop := ∃ n v, gW D N (n + 1) v ∧ v 0 = v (n + 1)
theorem gC_iff : gC D N ↔ ∃ v, v 0 < N ∧ gW D N N v := by
  constructor
  · rintro ⟨n, v, w, e⟩
    refine ⟨fun i => v (i % (n + 1)), ?_, fun i hi => ?_⟩
    · show v (0 % (n + 1)) < N
      rw [Nat.zero_mod]
      exact (w 0 (by omega)).1
    · show gE D N (v (i % (n + 1))) (v ((i + 1) % (n + 1)))
      have hm : i % (n + 1) < n + 1 := Nat.mod_lt _ (by omega)
      have hw := w (i % (n + 1)) hm
      by_cases q : i % (n + 1) = n
      · have h0 : (i + 1) % (n + 1) = 0 := by
          rw [Nat.add_mod, q]
          rcases Nat.eq_zero_or_pos n with z | z
          · subst z
            rfl
          · rw [Nat.mod_eq_of_lt (by omega : 1 < n + 1), Nat.mod_self]
        rw [h0, e]
        rw [q] at hw
        rw [q]
        exact hw
      · have h1 : (i + 1) % (n + 1) = i % (n + 1) + 1 := by
          rcases Nat.eq_zero_or_pos n with z | z
          · subst z
            omega
          · rw [Nat.add_mod, Nat.mod_eq_of_lt (by omega : 1 < n + 1), Nat.mod_eq_of_lt (by omega)]
        rw [h1]
        exact hw
  · rintro ⟨v, v0, w⟩
    obtain ⟨i, j, h1, h2, h3⟩ := php N v (fun i hi => by
      by_cases q : i = 0
      · rw [q]
        exact v0
      · have := (w (i - 1) (by omega)).2.1
        rw [show i - 1 + 1 = i by omega] at this
        exact this)
    refine ⟨j - i - 1, fun k => v (i + k), fun k hk => ?_, ?_⟩
    · show gE D N (v (i + k)) (v (i + (k + 1)))
      exact w (i + k) (by omega)
    · show v (i + 0) = v (i + (j - i - 1 + 1))
      rw [show i + (j - i - 1 + 1) = j by omega]
      exact h3
/-- a walk, made no longer than there are houses -/
theorem gW_short : ∀ (n : Nat) (v : Nat → Nat), gW D N (n + 1) v → ∃ m u, m + 1 ≤ N ∧ gW D N (m + 1) u ∧ u 0 = v 0 ∧ u (m + 1) = v (n + 1) := by
  intro n
  induction n using Nat.strongRecOn with
  | ind n ih =>
    intro v w
    by_cases q : n + 1 ≤ N
    · exact ⟨n, v, q, w, rfl, rfl⟩
    · obtain ⟨i, j, h1, h2, h3⟩ := php N (fun i => v (i + 1)) (fun i hi => (w i (by omega)).2.1)
      obtain ⟨m, u, m1, m2, m3, m4⟩ := ih (n - (j - i)) (by omega) (fun k => if k ≤ i + 1 then v k else v (k + (j - i))) (fun k hk => by
        show gE D N (if k ≤ i + 1 then v k else v (k + (j - i))) (if k + 1 ≤ i + 1 then v (k + 1) else v (k + 1 + (j - i)))
        by_cases c1 : k + 1 ≤ i + 1
        · rw [if_pos (by omega), if_pos c1]
          exact w k (by omega)
        · rw [if_neg c1]
          by_cases c2 : k ≤ i + 1
          · have : k = i + 1 := by omega
            subst this
            rw [if_pos c2, h3, show i + 1 + 1 + (j - i) = (j + 1) + 1 by omega]
            exact w (j + 1) (by omega)
          · rw [if_neg c2, show k + 1 + (j - i) = k + (j - i) + 1 by omega]
            exact w (k + (j - i)) (by omega))
      refine ⟨m, u, m1, m2, ?_, ?_⟩
      · rw [m3]
        rfl
      · rw [m4]
        by_cases c1 : n - (j - i) + 1 ≤ i + 1
        · rw [if_pos c1]
          have e1 : n - (j - i) + 1 = i + 1 := by omega
          have e2 : n + 1 = j + 1 := by omega
          rw [e1, e2, h3]
        · rw [if_neg c1, show n - (j - i) + 1 + (j - i) = n + 1 by omega]
/-- the edges one behind the other, and all that was come to -/
def bf (o : Nat → Nat) (N x : Nat) : Nat → Nat × Nat
  | 0 => (o x, 0)
  | n + 1 => (nxM o (bf o N x n).1 N &&& (63 ^^^ ((bf o N x n).2 ||| (bf o N x n).1)), (bf o N x n).2 ||| (bf o N x n).1)
theorem st_none {x t : Nat} : ∀ (f n : Nat), n + f < 100 → (stR (ow D N) N t f (bf (ow D N) N x n).1 (bf (ow D N) N x n).2 (n + 1) = -1 ↔ ∀ j, n ≤ j → j < n + f → (bf (ow D N) N x j).1.testBit t = false)
  | 0, n, _ => ⟨fun _ j h1 h2 => by omega, fun _ => rfl⟩
  | f + 1, n, hn => by
    show (if (bf (ow D N) N x n).1.testBit t then nI (n + 1) else stR (ow D N) N t f (bf (ow D N) N x (n + 1)).1 (bf (ow D N) N x (n + 1)).2 (n + 1 + 1)) = -1 ↔ _
    by_cases q : (bf (ow D N) N x n).1.testBit t = true
    · rw [if_pos q]
      exact ⟨fun z => absurd z (m1_ne (by omega)), fun z => by rw [z n (by omega) (by omega)] at q; cases q⟩
    · rw [if_neg q, st_none f (n + 1) (by omega)]
      constructor
      · intro z j h1 h2
        by_cases e : j = n
        · rw [e]
          exact (Bool.not_eq_true _).mp q
        · exact z j (by omega) (by omega)
      · intro z j h1 h2
        exact z j (by omega) (by omega)
theorem bf_sound {x : Nat} (hx : x < N) : ∀ (n t : Nat), (bf (ow D N) N x n).1.testBit t = true → ∃ v, v 0 = x ∧ v (n + 1) = t ∧ gW D N (n + 1) v
  | 0, t, h => by
    obtain ⟨h1, h2⟩ := ow_t.mp (show (ow D N x).testBit t = true from h)
    refine ⟨fun k => if k = 0 then x else t, rfl, rfl, fun i hi => ?_⟩
    have : i = 0 := by omega
    subst this
    exact ⟨hx, h1, h2⟩
  | n + 1, t, h => by
    have h' : (nxM (ow D N) (bf (ow D N) N x n).1 N &&& (63 ^^^ ((bf (ow D N) N x n).2 ||| (bf (ow D N) N x n).1))).testBit t = true := h
    rw [Nat.testBit_and, Bool.and_eq_true, nxM_t] at h'
    obtain ⟨⟨k, hk, h1, h2⟩, -⟩ := h'
    obtain ⟨v, v0, v1, w⟩ := bf_sound hx n k h1
    obtain ⟨o1, o2⟩ := ow_t.mp h2
    refine ⟨fun i => if i = n + 2 then t else v i, ?_, ?_, fun i hi => ?_⟩
    · show (if 0 = n + 2 then t else v 0) = x
      rw [if_neg (by omega)]
      exact v0
    · show (if n + 1 + 1 = n + 2 then t else _) = t
      rw [if_pos rfl]
    · show gE D N (if i = n + 2 then t else v i) (if i + 1 = n + 2 then t else v (i + 1))
      rw [if_neg (by omega)]
      by_cases e : i + 1 = n + 2
      · rw [if_pos e, show i = n + 1 by omega, v1]
        exact ⟨hk, o1, o2⟩
      · rw [if_neg e]
        exact w i (by omega)
theorem bf_come {x : Nat} : ∀ (n t : Nat), (bf (ow D N) N x n).2.testBit t = true ↔ ∃ j, j < n ∧ (bf (ow D N) N x j).1.testBit t = true
  | 0, t => by
    show (0 : Nat).testBit t = true ↔ _
    rw [Nat.zero_testBit]
    exact ⟨fun z => (by cases z), fun ⟨j, h, _⟩ => (by omega)⟩
  | n + 1, t => by
    show ((bf (ow D N) N x n).2 ||| (bf (ow D N) N x n).1).testBit t = true ↔ _
    rw [Nat.testBit_or, Bool.or_eq_true, bf_come n t]
    constructor
    · rintro (⟨j, h1, h2⟩ | h)
      · exact ⟨j, by omega, h2⟩
      · exact ⟨n, by omega, h⟩
    · rintro ⟨j, h1, h2⟩
      by_cases e : j = n
      · subst e
        exact Or.inr h2
      · exact Or.inl ⟨j, by omega, h2⟩
theorem bf_full {x : Nat} (h6 : N ≤ 6) : ∀ (n : Nat) (v : Nat → Nat), v 0 = x → gW D N (n + 1) v → ∃ j, j ≤ n ∧ (bf (ow D N) N x j).1.testBit (v (n + 1)) = true
  | 0, v, v0, w => by
    have := w 0 (by omega)
    refine ⟨0, by omega, ?_⟩
    show (ow D N x).testBit (v 1) = true
    rw [← v0]
    exact ow_t.mpr ⟨this.2.1, this.2.2⟩
  | n + 1, v, v0, w => by
    obtain ⟨j, h1, h2⟩ := bf_full h6 n v v0 (gW_less (by omega) w)
    have e := w (n + 1) (by omega)
    by_cases q : ((bf (ow D N) N x j).2 ||| (bf (ow D N) N x j).1).testBit (v (n + 1 + 1)) = true
    · rw [Nat.testBit_or, Bool.or_eq_true, bf_come] at q
      rcases q with ⟨i, i1, i2⟩ | q
      · exact ⟨i, by omega, i2⟩
      · exact ⟨j, by omega, q⟩
    · refine ⟨j + 1, by omega, ?_⟩
      show (nxM (ow D N) (bf (ow D N) N x j).1 N &&& (63 ^^^ ((bf (ow D N) N x j).2 ||| (bf (ow D N) N x j).1))).testBit (v (n + 1 + 1)) = true
      rw [Nat.testBit_and, Bool.and_eq_true, xor63_t (by have := e.2.1; omega), (Bool.not_eq_true _).mp q, nxM_t]
      exact ⟨⟨v (n + 1), e.1, h2, ow_t.mpr ⟨e.2.1, e.2.2⟩⟩, rfl⟩
theorem rgR_none : ∀ (k : Nat), rgR D N k = -1 ↔ ∀ h, h < k → stR (ow D N) N h N (ow D N h) 0 1 = -1
  | 0 => ⟨fun _ h hh => by omega, fun _ => rfl⟩
  | k + 1 => by
    show (if stR (ow D N) N k N (ow D N k) 0 1 = -1 then rgR D N k else if rgR D N k = -1 then stR (ow D N) N k N (ow D N k) 0 1 else if rgR D N k ≤ stR (ow D N) N k N (ow D N k) 0 1 then rgR D N k else stR (ow D N) N k N (ow D N k) 0 1) = -1 ↔ _
    by_cases c1 : stR (ow D N) N k N (ow D N k) 0 1 = -1
    · rw [if_pos c1, rgR_none k]
      constructor
      · intro z h hh
        by_cases e : h = k
        · rw [e]
          exact c1
        · exact z h (by omega)
      · intro z h hh
        exact z h (by omega)
    · rw [if_neg c1]
      constructor
      · intro z
        exfalso
        by_cases c2 : rgR D N k = -1
        · rw [if_pos c2] at z
          exact c1 z
        · rw [if_neg c2] at z
          split at z
          · exact c2 z
          · exact c1 z
      · intro z
        exact absurd (z k (by omega)) c1
theorem rng_iff (h6 : N ≤ 6) : rng D N = true ↔ gC D N := by
  unfold rng
  rw [Bool.not_eq_true', decide_eq_false_iff_not, rgR_none]
  have key : ∀ h, h < N → (stR (ow D N) N h N (ow D N h) 0 1 = -1 ↔ ∀ j, 0 ≤ j → j < 0 + N → (bf (ow D N) N h j).1.testBit h = false) := fun h _ => st_none (x := h) N 0 (by omega)
  constructor
  · intro z
    have : ∃ h, h < N ∧ stR (ow D N) N h N (ow D N h) 0 1 ≠ -1 := by
      refine Classical.byContradiction fun q => z fun h hh => ?_
      exact Classical.byContradiction fun r => q ⟨h, hh, r⟩
    obtain ⟨h, hh, r⟩ := this
    have : ∃ j, j < N ∧ (bf (ow D N) N h j).1.testBit h = true := by
      refine Classical.byContradiction fun q => r ((key h hh).mpr fun j _ hj => ?_)
      rw [← Bool.not_eq_true]
      exact fun s => q ⟨j, by omega, s⟩
    obtain ⟨j, hj, s⟩ := this
    obtain ⟨v, v0, v1, w⟩ := bf_sound hh j h s
    exact ⟨j, v, w, by rw [v0, v1]⟩
  · rintro ⟨n, v, w, e⟩ z
    obtain ⟨m, u, m1, m2, m3, m4⟩ := gW_short n v w
    have hu : u 0 < N := (m2 0 (by omega)).1
    obtain ⟨j, h1, h2⟩ := bf_full h6 m u rfl m2
    have := (key (u 0) hu).mp (z (u 0) hu) j (by omega) (by omega)
    rw [m4, ← e, ← m3, this] at h2
    cases h2
theorem lv_ring (h6 : N ≤ 6) : lvR (ow D N) N (N + 1) (2 ^ N - 1) 0 = -1 ↔ rng D N = true := by
  rw [rng_iff h6, gC_iff, ← mS_0 h6]
  constructor
  · intro z q
    obtain ⟨k, hk1, hk2⟩ := pk_least (fun k => mS D N k = 0) ⟨N, q⟩
    have hkN : k ≤ N := by
      rcases Nat.lt_or_ge N k with y | y
      · exact absurd q (hk2 N y)
      · exact y
    have := lv_some h6 hkN hk1 (N + 1) 0 (by omega) (by omega) (fun i _ hi => hk2 i hi)
    rw [show mS D N 0 = 2 ^ N - 1 from rfl, z] at this
    exact m1_ne (by omega) this.symm
  · intro q
    refine lv_none (D := D) h6 (N + 1) 0 (by omega) fun i _ hi => ?_
    obtain ⟨v, v0, w⟩ := (mS_0 h6).mp q
    exact (mS_0 h6).mpr ⟨v, v0, gW_less hi w⟩
theorem lv_val (h6 : N ≤ 6) (hr : rng D N = false) : ∃ k, k ≤ N ∧ lvR (ow D N) N (N + 1) (2 ^ N - 1) 0 = nI k ∧ (∀ v, v 0 < N → ¬ gW D N k v) ∧ (∀ i, i < k → ∃ v, v 0 < N ∧ gW D N i v) := by
  have h0 : mS D N N = 0 := Classical.byContradiction fun q => by
    have := (rng_iff h6).mpr (gC_iff.mpr ((mS_0 h6).mp q))
    rw [hr] at this
    cases this
  obtain ⟨k, hk1, hk2⟩ := pk_least (fun k => mS D N k = 0) ⟨N, h0⟩
  have hkN : k ≤ N := by
    rcases Nat.lt_or_ge N k with y | y
    · exact absurd h0 (hk2 N y)
    · exact y
  exact ⟨k, hkN, lv_some h6 hkN hk1 (N + 1) 0 (by omega) (by omega) (fun i _ hi => hk2 i hi), fun v v0 w => (mS_0 h6).mpr ⟨v, v0, w⟩ hk1, fun i hi => (mS_0 h6).mp (hk2 i hi)⟩
end GR
