/-! VILLAGES as they are read -/
def kfi (κ : Nat) : Nat := if κ = 0 then 0 else if κ = 1 then 2 else 5
def kcn (κ : Nat) : Nat := if κ = 0 then 2 else 3
def kch (κ j : Nat) : Int32 := ([99, 109, 119, 116, 107, 97, 98, 110] : List Int32).getD (kfi κ + j) 0
def klo (κ j : Nat) : Int32 := ([0, 1, 1, 0, 0, 0, 0, 1] : List Int32).getD (kfi κ + j) 0
def khi (κ j : Nat) : Int32 := ([99, 99, 9, 9, 1, 5, 5, 9] : List Int32).getD (kfi κ + j) 0
def kus (κ j : Nat) : Int32 := ([20, 20, 1, 2, 0, 0, 1, 1] : List Int32).getD (kfi κ + j) 0
/-- which item a letter is -/
def fi (κ : Nat) (s : Int32) : Option Nat := if s = kch κ 0 then some 0 else if s = kch κ 1 then some 1 else if κ ≠ 0 ∧ s = kch κ 2 then some 2 else none
def pc3 (g : Nat) : Nat := (if g.testBit 0 then 1 else 0) + (if g.testBit 1 then 1 else 0) + (if g.testBit 2 then 1 else 0)
section VS
variable (T : Nat → Int32) (L : Nat)
def nmB (lo hi : Int32) (p : Nat) : Nat ⊕ (Int32 × Nat) := match nmF T L 2 p with
  | .inl f => .inl f
  | .inr (v, q) => if v < lo ∨ hi < v then .inl (q - 1) else .inr (v, q)
def spIt (κ : Nat) : Nat → Nat → (Nat → Int32) → Nat → Nat ⊕ ((Nat → Int32) × Nat)
  | 0, _, vs, p => .inr (vs, sk T L p)
  | m + 1, g, vs, p => match fi κ (pk T L p) with
    | none => .inr (vs, sk T L p)
    | some j => if g.testBit j then .inl (sk T L p) else match nmB T L (klo κ j) (khi κ j) (sk T L p + 1) with
      | .inl f => .inl f
      | .inr (v, q) => spIt κ m (g ||| 2 ^ j) (upd vs j v) q
/-- told so far: whether rules; houses, theirs; favours, theirs; rules -/
abbrev VD : Type := Bool × (Nat × (Nat → Int32)) × (Nat × (Nat → Int32)) × (Int32 × Int32)
def sel (V : VD) (s : Int32) : Option Nat := if s = 115 ∧ V.1 = false then some 0 else if s = 112 ∧ V.2.1.1 < 6 then some 1 else if s = 102 ∧ V.2.2.1.1 < 12 then some 2 else none
def put3 (f : Nat → Int32) (n : Nat) (v : Nat → Int32) : Nat → Int32 := fun i => if i = 3 * n then v 0 else if i = 3 * n + 1 then v 1 else if i = 3 * n + 2 then v 2 else f i
def tell (V : VD) (κ : Nat) (v : Nat → Int32) : VD :=
  if κ = 0 then (true, V.2.1, V.2.2.1, (v 0, v 1))
  else if κ = 1 then (V.1, (V.2.1.1 + 1, put3 V.2.1.2 V.2.1.1 v), V.2.2)
  else (V.1, V.2.1, (V.2.2.1.1 + 1, put3 V.2.2.1.2 V.2.2.1.1 v), V.2.2.2)
def spCl (V : VD) (p : Nat) : Nat ⊕ (VD × Nat) := match sel V (pk T L p) with
  | none => .inl (sk T L p)
  | some κ => match spIt T L κ (kcn κ + 1) 0 (kus κ) (sk T L p + 1) with
    | .inl f => .inl f
    | .inr (v, q) => .inr (tell V κ v, q)
/-- of two houses, all favours told -/
def btw (fv : Nat → Int32) (a b : Int32) : Nat → Int32
  | 0 => 0
  | k + 1 => (if fv (3 * k) = b ∧ fv (3 * k + 1) = a then (if fv (3 * k) = a ∧ fv (3 * k + 1) = b then btw fv a b k + fv (3 * k + 2) else btw fv a b k) - fv (3 * k + 2) else (if fv (3 * k) = a ∧ fv (3 * k + 1) = b then btw fv a b k + fv (3 * k + 2) else btw fv a b k))
def whl (V : VD) : Bool :=
  !anyB (fun k => decide (nI V.2.1.1 ≤ V.2.2.1.2 (3 * k)) || decide (nI V.2.1.1 ≤ V.2.2.1.2 (3 * k + 1)) || decide (V.2.2.1.2 (3 * k) = V.2.2.1.2 (3 * k + 1))) V.2.2.1.1
  && !anyB (fun a => anyB (fun b => !decide (iabs (btw V.2.2.1.2 (nI a) (nI b) V.2.2.1.1) ≤ V.2.2.2.2)) a) V.2.1.1 && decide (1 < V.2.1.1)
def spVl : Nat → VD → Nat → Nat ⊕ VD
  | 0, _, p => .inl p
  | m + 1, V, p => match spCl T L V p with
    | .inl f => .inl f
    | .inr (V', q) => if pk T L q = 59 then spVl m V' (sk T L q + 1) else if pk T L q = -1 then (if whl V' then .inr V' else .inl (sk T L q)) else .inl (sk T L q)
end VS
/-! bounds of what was told -/
def inI (lo hi v : Int32) : Prop := ¬ (v < lo ∨ hi < v)
def kIn (κ : Nat) (v : Nat → Int32) : Prop := ∀ j, j < kcn κ → inI (klo κ j) (khi κ j) (v j)
theorem kus_in : ∀ κ, κ < 3 → ∀ j, j < 3 → ¬ (kus κ j < klo κ j ∨ khi κ j < kus κ j) := by decide
theorem kcn_le {κ : Nat} : kcn κ ≤ 3 ∧ 2 ≤ kcn κ := by
  unfold kcn
  split <;> omega
theorem fi_lt {κ j : Nat} {s : Int32} (h : fi κ s = some j) : j < kcn κ ∧ s = kch κ j := by
  unfold fi at h
  by_cases c1 : s = kch κ 0
  · rw [if_pos c1] at h
    cases h
    exact ⟨by have := (kcn_le (κ := κ)).2; omega, c1⟩
  · rw [if_neg c1] at h
    by_cases c2 : s = kch κ 1
    · rw [if_pos c2] at h
      cases h
      exact ⟨by have := (kcn_le (κ := κ)).2; omega, c2⟩
    · rw [if_neg c2] at h
      by_cases c3 : κ ≠ 0 ∧ s = kch κ 2
      · rw [if_pos c3] at h
        cases h
        refine ⟨?_, c3.2⟩
        unfold kcn
        rw [if_neg c3.1]
        decide
      · rw [if_neg c3] at h
        cases h
theorem kch_ne : ∀ κ, κ < 3 → ∀ j, j < 3 → (j < kcn κ → kch κ j ≠ -1 ∧ kch κ j ≠ 59) := by decide
section VM
variable {T : Nat → Int32} {L p : Nat}
theorem fi_ne {κ j : Nat} {s : Int32} (hκ : κ < 3) (h : fi κ s = some j) : s ≠ -1 ∧ s ≠ 59 := by
  have h1 := fi_lt h
  rw [h1.2]
  exact kch_ne κ hκ j (by have := (kcn_le (κ := κ)).1; omega) h1.1
theorem nmF_2 {f q : Nat} {v : Int32} (hp : p ≤ L) (h : nmF T L 2 p = .inr (v, q)) : p < q ∧ q ≤ L := by
  have hm := (nmF_mono (T := T) (m := 2) hp).2 _ h
  refine ⟨?_, hm.2⟩
  unfold nmF at h
  by_cases e : isDg (pk T L p) = true
  · rw [if_pos e] at h
    split at h
    · cases h
    · have h1 := pk_sk1 (T := T) (L := L) (p := p) (fun z => by rw [z, isDg_m1] at e; cases e)
      have h2 := pk_isin (T := T) (L := L) (p := p) (fun z => by rw [z, isDg_m1] at e; cases e)
      have hd : dgF T L 2 0 (sk T L p) = (v, q) := Sum.inr.inj h
      have hd2 : dgF T L 2 0 (sk T L p) = dgF T L 1 (10 * 0 + T (sk T L p) - 48) (sk T L p + 1) := by
        show (if sk T L p < L ∧ isDg (T (sk T L p)) = true then _ else _) = _
        rw [if_pos ⟨h2.1, by rw [← h2.2]; exact e⟩]
      have h3 := dgF_le (T := T) (L := L) 1 (10 * 0 + T (sk T L p) - 48) (sk T L p + 1) h1.1
      rw [← hd2, hd] at h3
      omega
  · rw [if_neg e] at h
    cases h
theorem nmB_mono {lo hi : Int32} (hp : p ≤ L) : (∀ f, nmB T L lo hi p = .inl f → f ≤ L) ∧ ∀ v q, nmB T L lo hi p = .inr (v, q) → p < q ∧ q ≤ L ∧ inI lo hi v := by
  unfold nmB
  have hm := nmF_mono (T := T) (m := 2) hp
  cases hn : nmF T L 2 p with
  | inl f => exact ⟨fun f' z => (by cases z; exact hm.1 f hn), fun v q z => by cases z⟩
  | inr vq =>
    obtain ⟨v, q⟩ := vq
    have h2 := nmF_2 (f := 0) hp hn
    dsimp only
    by_cases e : v < lo ∨ hi < v
    · rw [if_pos e]
      exact ⟨fun f' z => (by cases z; omega), fun v q z => by cases z⟩
    · rw [if_neg e]
      refine ⟨fun f' z => (by cases z), fun v' q' z => ?_⟩
      cases z
      exact ⟨h2.1, h2.2, e⟩
theorem spIt_mono {κ : Nat} (hκ : κ < 3) : ∀ (m g : Nat) (vs : Nat → Int32) (p : Nat), p ≤ L → kIn κ vs → (∀ f, spIt T L κ m g vs p = .inl f → f ≤ L) ∧ ∀ v q, spIt T L κ m g vs p = .inr (v, q) → p ≤ q ∧ q ≤ L ∧ sk T L q = q ∧ kIn κ v
  | 0, g, vs, p, hp, hv => ⟨fun f z => (by cases z), fun v q z => by cases z; exact ⟨sk_ge, sk_le hp, sk_sk, hv⟩⟩
  | m + 1, g, vs, p, hp, hv => by
    unfold spIt
    cases hf : fi κ (pk T L p) with
    | none => exact ⟨fun f z => (by cases z), fun v q z => by cases z; exact ⟨sk_ge, sk_le hp, sk_sk, hv⟩⟩
    | some j =>
      have h1 := pk_sk1 (T := T) (L := L) (p := p) (fi_ne hκ hf).1
      dsimp only
      by_cases e : g.testBit j = true
      · rw [if_pos e]
        exact ⟨fun f z => (by cases z; exact sk_le hp), fun v q z => by cases z⟩
      · rw [if_neg e]
        have hm := nmB_mono (T := T) (L := L) (lo := klo κ j) (hi := khi κ j) h1.1
        cases hn : nmB T L (klo κ j) (khi κ j) (sk T L p + 1) with
        | inl f => exact ⟨fun f' z => (by cases z; exact hm.1 f hn), fun v q z => by cases z⟩
        | inr vq =>
          obtain ⟨v, q⟩ := vq
          have h2 := hm.2 v q hn
          have ih := spIt_mono hκ m (g ||| 2 ^ j) (upd vs j v) q h2.2.1 (fun i hi => by
            unfold upd
            by_cases z : i = j
            · rw [if_pos z, z]
              exact h2.2.2
            · rw [if_neg z]
              exact hv i hi)
          exact ⟨ih.1, fun v' q' z => by have := ih.2 v' q' z; exact ⟨by omega, this.2⟩⟩
theorem sel_ne {V : VD} {s : Int32} {κ : Nat} (h : sel V s = some κ) : s ≠ -1 ∧ κ < 3 := by
  unfold sel at h
  split at h
  · rename_i z
    cases h
    exact ⟨by rw [z.1]; decide, by decide⟩
  · split at h
    · rename_i z
      cases h
      exact ⟨by rw [z.1]; decide, by decide⟩
    · split at h
      · rename_i z
        cases h
        exact ⟨by rw [z.1]; decide, by decide⟩
      · cases h
theorem kusIn {κ : Nat} (hκ : κ < 3) : kIn κ (kus κ) := fun j hj => kus_in κ hκ j (by have := (kcn_le (κ := κ)).1; omega)
theorem spCl_mono {V : VD} (hp : p ≤ L) : (∀ f, spCl T L V p = .inl f → f ≤ L) ∧ ∀ V' q, spCl T L V p = .inr (V', q) → p < q ∧ q ≤ L ∧ sk T L q = q := by
  unfold spCl
  cases hs : sel V (pk T L p) with
  | none => exact ⟨fun f z => (by cases z; exact sk_le hp), fun v q z => by cases z⟩
  | some κ =>
    have hk := sel_ne hs
    have h1 := pk_sk1 (T := T) (L := L) (p := p) hk.1
    have hm := spIt_mono (T := T) (L := L) hk.2 (kcn κ + 1) 0 (kus κ) (sk T L p + 1) h1.1 (kusIn hk.2)
    dsimp only
    cases he : spIt T L κ (kcn κ + 1) 0 (kus κ) (sk T L p + 1) with
    | inl f => exact ⟨fun f' z => (by cases z; exact hm.1 f he), fun v q z => by cases z⟩
    | inr vq =>
      have := hm.2 vq.1 vq.2 he
      exact ⟨fun f z => (by cases z), fun v q z => by cases z; exact ⟨by omega, this.2.1, this.2.2.1⟩⟩
/-- what was told is within bounds -/
def vIn (V : VD) : Prop := V.2.1.1 ≤ 6 ∧ V.2.2.1.1 ≤ 12 ∧ inI 0 99 V.2.2.2.1 ∧ inI 1 99 V.2.2.2.2 ∧ (∀ h, h < V.2.1.1 → inI 1 9 (V.2.1.2 (3 * h)) ∧ inI 0 9 (V.2.1.2 (3 * h + 1)) ∧ inI 0 1 (V.2.1.2 (3 * h + 2))) ∧ ∀ k, k < V.2.2.1.1 → inI 0 5 (V.2.2.1.2 (3 * k)) ∧ inI 0 5 (V.2.2.1.2 (3 * k + 1)) ∧ inI 1 9 (V.2.2.1.2 (3 * k + 2))
theorem put3_lt {f v : Nat → Int32} {n i : Nat} (h : i < 3 * n) : put3 f n v i = f i := by
  unfold put3
  rw [if_neg (by omega), if_neg (by omega), if_neg (by omega)]
theorem put3_0 {f v : Nat → Int32} {n : Nat} : put3 f n v (3 * n) = v 0 := if_pos rfl
theorem put3_1 {f v : Nat → Int32} {n : Nat} : put3 f n v (3 * n + 1) = v 1 := by
  unfold put3
  rw [if_neg (by omega), if_pos rfl]
theorem put3_2 {f v : Nat → Int32} {n : Nat} : put3 f n v (3 * n + 2) = v 2 := by
  unfold put3
  rw [if_neg (by omega), if_neg (by omega), if_pos rfl]
theorem tell_in {V : VD} {κ : Nat} {v : Nat → Int32} {s : Int32} (h : vIn V) (hs : sel V s = some κ) (hv : kIn κ v) : vIn (tell V κ v) := by
  obtain ⟨h1, h2, h3, h4, h5, h6⟩ := h
  unfold sel at hs
  unfold tell
  by_cases k0 : κ = 0
  · subst k0
    rw [if_pos rfl]
    exact ⟨h1, h2, hv 0 (by decide), hv 1 (by decide), h5, h6⟩
  · by_cases k1 : κ = 1
    · subst k1
      rw [if_neg (by decide), if_pos rfl]
      have hlt : V.2.1.1 < 6 := by
        split at hs
        · cases hs
        · split at hs
          · rename_i z
            exact z.2
          · split at hs <;> cases hs
      refine ⟨by show V.2.1.1 + 1 ≤ 6; omega, h2, h3, h4, fun h hh => ?_, h6⟩
      show inI 1 9 (put3 V.2.1.2 V.2.1.1 v (3 * h)) ∧ inI 0 9 (put3 V.2.1.2 V.2.1.1 v (3 * h + 1)) ∧ inI 0 1 (put3 V.2.1.2 V.2.1.1 v (3 * h + 2))
      by_cases e : h = V.2.1.1
      · subst e
        rw [put3_0, put3_1, put3_2]
        exact ⟨hv 0 (by decide), hv 1 (by decide), hv 2 (by decide)⟩
      · have hh' : h < V.2.1.1 + 1 := hh
        rw [put3_lt (by omega), put3_lt (by omega), put3_lt (by omega)]
        exact h5 h (by omega)
    · rw [if_neg k0, if_neg k1]
      have hlt : V.2.2.1.1 < 12 ∧ κ = 2 := by
        split at hs
        · cases hs
          exact absurd rfl k0
        · split at hs
          · cases hs
            exact absurd rfl k1
          · split at hs
            · rename_i z
              cases hs
              exact ⟨z.2, rfl⟩
            · cases hs
      obtain ⟨hlt, rfl⟩ := hlt
      refine ⟨h1, by show V.2.2.1.1 + 1 ≤ 12; omega, h3, h4, h5, fun k hk => ?_⟩
      show inI 0 5 (put3 V.2.2.1.2 V.2.2.1.1 v (3 * k)) ∧ inI 0 5 (put3 V.2.2.1.2 V.2.2.1.1 v (3 * k + 1)) ∧ inI 1 9 (put3 V.2.2.1.2 V.2.2.1.1 v (3 * k + 2))
      by_cases e : k = V.2.2.1.1
      · subst e
        rw [put3_0, put3_1, put3_2]
        exact ⟨hv 0 (by decide), hv 1 (by decide), hv 2 (by decide)⟩
      · have hk' : k < V.2.2.1.1 + 1 := hk
        rw [put3_lt (by omega), put3_lt (by omega), put3_lt (by omega)]
        exact h6 k (by omega)
theorem inI_nat {hi : Nat} {v lo : Int32} (h0 : 0 ≤ lo.toInt) (hh : hi < 2 ^ 31) (h : inI lo (nI hi) v) : ∃ n, n ≤ hi ∧ v = nI n ∧ lo.toInt ≤ (n : Int) := by
  unfold inI at h
  have h1 : ¬ v.toInt < lo.toInt := fun z => h (Or.inl (Int32.lt_iff_toInt_lt.mpr z))
  have h2 : ¬ (nI hi).toInt < v.toInt := fun z => h (Or.inr (Int32.lt_iff_toInt_lt.mpr z))
  rw [nI_toInt hh] at h2
  refine ⟨v.toInt.toNat, by omega, Int32.toInt_inj.mp ?_, by omega⟩
  rw [nI_toInt (by omega)]
  omega
end VM
