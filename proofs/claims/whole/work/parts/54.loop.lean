/-! LOOPS, bits, truth values -/
theorem lp {β : Type} {N : Nat} {r : Option β} (F : Nat → Nat → Option β) (he : ∀ n, F (n + 1) N = r) (hs : ∀ n k, k < N → F (n + 1) k = F n (k + 1)) : ∀ (m k n : Nat), k + m = N → m < n → F n k = r
  | 0, k, 0, _, h => by omega
  | 0, k, n + 1, hk, _ => by
    rw [show k = N by omega]
    exact he n
  | m + 1, k, 0, _, h => by omega
  | m + 1, k, n + 1, hk, h => by
    rw [hs n k (by omega)]
    exact lp F he hs m (k + 1) n (by omega) (by omega)
def fst {β : Type} (x : Nat → Bool) (r : Nat → β) (e : β) : Nat → Nat → β
  | 0, _ => e
  | m + 1, k => if x k then r k else fst x r e m (k + 1)
theorem lpx {β : Type} {N : Nat} {e : Option β} {x : Nat → Bool} {r : Nat → Option β} (F : Nat → Nat → Option β) (he : ∀ n, F (n + 1) N = e) (hs : ∀ n k, k < N → F (n + 1) k = if x k then r k else F n (k + 1)) : ∀ (m k n : Nat), k + m = N → m < n → F n k = fst x r e m k
  | 0, k, 0, _, h => by omega
  | 0, k, n + 1, hk, _ => by
    rw [show k = N by omega]
    exact he n
  | m + 1, k, 0, _, h => by omega
  | m + 1, k, n + 1, hk, h => by
    rw [hs n k (by omega), lpx F he hs m (k + 1) n (by omega) (by omega)]
    rfl
def anyB (p : Nat → Bool) : Nat → Bool
  | 0 => false
  | n + 1 => anyB p n || p n
theorem anyB_iff {p : Nat → Bool} : ∀ {n : Nat}, anyB p n = true ↔ ∃ k, k < n ∧ p k = true
  | 0 => ⟨fun h => (by cases h), fun ⟨k, h, _⟩ => by omega⟩
  | n + 1 => by
    show (anyB p n || p n) = true ↔ _
    rw [Bool.or_eq_true, anyB_iff (n := n)]
    constructor
    · rintro (⟨k, h, q⟩ | q)
      · exact ⟨k, by omega, q⟩
      · exact ⟨n, by omega, q⟩
    · rintro ⟨k, h, q⟩
      by_cases e : k = n
      · subst e
        exact Or.inr q
      · exact Or.inl ⟨k, by omega, q⟩
theorem anyB_no {p : Nat → Bool} {n : Nat} : anyB p n = false ↔ ∀ k, k < n → p k = false := by
  rw [← Bool.not_eq_true, anyB_iff]
  constructor
  · intro h k hk
    rw [← Bool.not_eq_true]
    exact fun q => h ⟨k, hk, q⟩
  · rintro h ⟨k, hk, q⟩
    rw [h k hk] at q
    cases q
theorem anyB_congr {p q : Nat → Bool} {n : Nat} (h : ∀ k, k < n → p k = q k) : anyB p n = anyB q n := by
  induction n with
  | zero => rfl
  | succ n ih =>
    show (anyB p n || p n) = (anyB q n || q n)
    rw [ih (fun k hk => h k (by omega)), h n (by omega)]
def bI (p : Bool) : Int32 := if p then 1 else 0
theorem bI_t : bI true = 1 := rfl
theorem bI_f : bI false = 0 := rfl
theorem bI_0 {p : Bool} : bI p = 0 ↔ p = false := by cases p <;> decide
theorem bI_1 {p : Bool} : bI p = 1 ↔ p = true := by cases p <;> decide
theorem fst_c {β : Type} {x : Nat → Bool} {r e : β} : ∀ (m k : Nat), fst x (fun _ => r) e m k = if anyB (fun j => x (k + j)) m then r else e
  | 0, k => rfl
  | m + 1, k => by
    show (if x k then r else fst x (fun _ => r) e m (k + 1)) = _
    rw [fst_c m (k + 1)]
    by_cases h : x k = true
    · rw [if_pos h, if_pos (anyB_iff.mpr ⟨0, by omega, h⟩)]
    · rw [if_neg h]
      have : anyB (fun j => x (k + 1 + j)) m = anyB (fun j => x (k + j)) (m + 1) := by
        cases hb : anyB (fun j => x (k + j)) (m + 1) with
        | true =>
          obtain ⟨j, hj, q⟩ := anyB_iff.mp hb
          refine anyB_iff.mpr ⟨j - 1, ?_, ?_⟩
          · by_cases e : j = 0
            · subst e
              exact absurd q h
            · omega
          · by_cases e : j = 0
            · subst e
              exact absurd q h
            · show x (k + 1 + (j - 1)) = true
              rw [show k + 1 + (j - 1) = k + j by omega]
              exact q
        | false =>
          rw [anyB_no] at hb ⊢
          intro j hj
          have := hb (j + 1) (by omega)
          rw [show k + 1 + j = k + (j + 1) by omega]
          exact this
      rw [this]
theorem fst_0 {β : Type} {x : Nat → Bool} {r e : β} {m : Nat} : fst x (fun _ => r) e m 0 = if anyB x m then r else e := by
  rw [fst_c]
  have : (fun j => x (0 + j)) = x := funext fun j => by rw [Nat.zero_add]
  rw [this]
theorem fst_bI {x : Nat → Bool} {m : Nat} : fst x (fun _ => some (1 : Int32)) (some 0) m 0 = some (bI (anyB x m)) := by
  rw [fst_0]
  cases anyB x m <;> rfl
theorem fst_nbI {x : Nat → Bool} {m : Nat} : fst x (fun _ => some (0 : Int32)) (some 1) m 0 = some (bI (!anyB x m)) := by
  rw [fst_0]
  cases anyB x m <;> rfl
/-- a set of houses as bits -/
theorem bit_t : ∀ m, m < 64 → ∀ k, k < 6 → (((shr (nI m) (nI k)) &&& (1 : Int32) = 1) ↔ m.testBit k = true) := by decide +kernel
theorem bit_1 : ∀ k, k < 6 → shl (1 : Int32) (nI k) = nI (2 ^ k) := by decide +kernel
theorem bit_or (a b : Nat) : nI a ||| nI b = nI (a ||| b) := Int32.toBitVec_inj.mp (BitVec.ofNat_or (x := a) (y := b) (w := 32)).symm
theorem bit_and (a b : Nat) : nI a &&& nI b = nI (a &&& b) := Int32.toBitVec_inj.mp (BitVec.ofNat_and (x := a) (y := b) (w := 32)).symm
theorem bit_full : ∀ N, N ≤ 6 → shl (1 : Int32) (nI N) - 1 = nI (2 ^ N - 1) := by decide +kernel
theorem bit_no : ∀ m, m < 64 → ∀ q, q < 64 → nI m &&& (nI q ^^^ (-1 : Int32)) = nI (m &&& (63 ^^^ q)) := by decide +kernel
def bsN (p : Nat → Bool) : Nat → Nat
  | 0 => 0
  | n + 1 => if p n then bsN p n ||| 2 ^ n else bsN p n
theorem bsN_t (p : Nat → Bool) : ∀ (n k : Nat), (bsN p n).testBit k = (decide (k < n) && p k)
  | 0, k => by simp [bsN]
  | n + 1, k => by
    show (if p n then bsN p n ||| 2 ^ n else bsN p n).testBit k = _
    by_cases h : p n = true
    · rw [if_pos h, Nat.testBit_or, bsN_t p n k, Nat.testBit_two_pow]
      by_cases e : n = k
      · subst e
        simp [h]
      · have : decide (k < n + 1) = decide (k < n) := by
          rw [decide_eq_decide]
          omega
        rw [this]
        simp [e]
    · rw [if_neg h, bsN_t p n k]
      by_cases e : n = k
      · subst e
        simp [h]
      · have : decide (k < n + 1) = decide (k < n) := by
          rw [decide_eq_decide]
          omega
        rw [this]
theorem bsN_lt (p : Nat → Bool) : ∀ n, bsN p n < 2 ^ n
  | 0 => Nat.one_pos
  | n + 1 => by
    have ih := bsN_lt p n
    show (if p n then bsN p n ||| 2 ^ n else bsN p n) < 2 ^ (n + 1)
    split
    · exact Nat.or_lt_two_pow (by rw [Nat.pow_succ]; omega) (by rw [Nat.pow_succ]; have := Nat.two_pow_pos n; omega)
    · rw [Nat.pow_succ]; omega
theorem pow_le6 {n : Nat} (h : n ≤ 6) : 2 ^ n ≤ 64 := (Nat.pow_le_pow_right (by decide) h : 2 ^ n ≤ 2 ^ 6)
theorem bsN_64 (p : Nat → Bool) {n : Nat} (h : n ≤ 6) : bsN p n < 64 := Nat.lt_of_lt_of_le (bsN_lt p n) (pow_le6 h)
theorem bsN_congr {p q : Nat → Bool} {n : Nat} (h : ∀ k, k < n → p k = q k) : bsN p n = bsN q n := by
  induction n with
  | zero => rfl
  | succ n ih =>
    show (if p n then bsN p n ||| 2 ^ n else bsN p n) = (if q n then bsN q n ||| 2 ^ n else bsN q n)
    rw [ih (fun k hk => h k (by omega)), h n (by omega)]
/-- an argument is a house, or none -/
theorem ix_of {x : Int32} {N : Nat} (hN : N < 2 ^ 31) : (∃ j, j < N ∧ x = nI j) ∨ (x < 0 ∨ (¬ x < 0 ∧ nI N ≤ x)) := by
  rcases pk_ix x hN with h | h | h
  · exact Or.inr (Or.inl h)
  · by_cases q : x < 0
    · exact Or.inr (Or.inl q)
    · exact Or.inr (Or.inr ⟨q, h⟩)
  · exact Or.inl h
