/-! THE REFERENCE'S WAYS: all rows of crossings -/
/-- nobody beyond the village owes -/
def Zo (N : Nat) (D : Nat → Int32) : Prop := ∀ a b, a < 6 → b < 6 → (N ≤ a ∨ N ≤ b) → D (6 * a + b) = 0
theorem Zo_crs {N x : Nat} {Q : BS} (h : Zo N Q.1) : Zo N (crs N Q x).1 := fun a b ha hb hn => by
  show nxF N Q.1 x (6 * a + b) = 0
  rw [nxF_at ha hb]
  unfold nx
  rw [if_neg (by omega)]
  exact h a b ha hb hn
theorem Zo_congr {N : Nat} {D D' : Nat → Int32} (h : ∀ k, k < 36 → D k = D' k) (z : Zo N D') : Zo N D := fun a b ha hb hn => by
  rw [h _ (by omega)]
  exact z a b ha hb hn
theorem sOut_z {N x : Nat} {D : Nat → Int32} (hx : x < 6) (z : Zo N D) : ∀ k, N ≤ k → k ≤ 6 → sOut D x k = sOut D x N
  | 0, hk, _ => by rw [show N = 0 by omega]
  | k + 1, hk, h6 => by
    by_cases e : N = k + 1
    · rw [e]
    · show sOut D x k + imax 0 (D (6 * x + k)) = _
      rw [sOut_z hx z k (by omega) (by omega), z x k hx (by omega) (Or.inr (by omega)), show imax 0 0 = 0 by decide, Int32.add_zero]
theorem sOut_0 {N x : Nat} {D : Nat → Int32} (hx : x < 6) (z : Zo N D) (hn : N ≤ x) : ∀ k, k ≤ 6 → sOut D x k = 0
  | 0, _ => rfl
  | k + 1, h6 => by
    show sOut D x k + imax 0 (D (6 * x + k)) = _
    rw [sOut_0 hx z hn k (by omega), z x k hx (by omega) (Or.inl hn), show imax 0 0 = 0 by decide, Int32.add_zero]
theorem sF_row {D : Nat → Int32} {x : Nat} : ∀ j, sF D (6 * x + j) = sF D (6 * x) + sOut D x j
  | 0 => (Int32.add_zero _).symm
  | j + 1 => by
    show sF D (6 * x + j) + imax 0 (D (6 * x + j)) = sF D (6 * x) + (sOut D x j + imax 0 (D (6 * x + j)))
    rw [sF_row j, Int32.add_assoc]
theorem sAll_N {N : Nat} {D : Nat → Int32} (h6 : N ≤ 6) (z : Zo N D) : ∀ k, k ≤ 6 → sAll D N k = sF D (6 * k)
  | 0, _ => rfl
  | k + 1, hk => by
    show sAll D N k + sOut D k N = sF D (6 * k + 6)
    rw [sAll_N h6 z k (by omega), sF_row, sOut_z (by omega) z 6 h6 (Nat.le_refl _)]
theorem sAll_z {N : Nat} {D : Nat → Int32} (z : Zo N D) : ∀ k, N ≤ k → k ≤ 6 → sAll D N k = sAll D N N
  | 0, hk, _ => by rw [show N = 0 by omega]
  | k + 1, hk, h6 => by
    by_cases e : N = k + 1
    · rw [e]
    · show sAll D N k + sOut D k N = _
      rw [sAll_z z k (by omega) (by omega), sOut_0 (by omega) z (by omega) N (by omega), Int32.add_zero]
theorem sAll_fv {N : Nat} {D : Nat → Int32} (h6 : N ≤ 6) (z : Zo N D) : sAll D N N = nI (fvN D 36) := by
  rw [← sAll_z z 6 h6 (Nat.le_refl _), sAll_N h6 z 6 (Nat.le_refl _), sF_N]
theorem ix51 (a c : Nat) : (51 : Int32) * nI a + nI c = nI (51 * a + c) := by
  unfold nI
  rw [Int32.ofNat_add, Int32.ofNat_mul]
  rfl
/-- the trial row is this board -/
def prR (S : XS) (N : Nat) (kp lim : Int32) (Q : BS) : Prop := S.1 351 26 = nI N ∧ S.1 356 1 = lim ∧ S.1 365 48 = kp ∧ eqB (rwB (S.1 365)) Q
/-- what the ways leave as it was -/
def frY (m : Nat) (S' S : XS) : Prop := (∀ a, a ≠ 351 → a ≠ 365 → a ≠ 367 → a ≠ 368 → a ≠ 371 → a ≠ 372 → S'.1 a = S.1 a) ∧ (∀ k, k ≠ 45 → k ≠ 47 → k ≠ 48 → k ≠ 49 → S'.1 351 k = S.1 351 k) ∧ (∀ k, k < 51 * m → S'.1 372 k = S.1 372 k) ∧ S'.2 = S.2
theorem frY.refl {m : Nat} {S : XS} : frY m S S := ⟨fun _ _ _ _ _ _ _ => rfl, fun _ _ _ _ _ => rfl, fun _ _ => rfl, rfl⟩
theorem frY.trans {m : Nat} {S S1 S2 : XS} (h1 : frY m S1 S) (h2 : frY m S2 S1) : frY m S2 S := ⟨fun a p q r s t u => (h2.1 a p q r s t u).trans (h1.1 a p q r s t u), fun a p q r s => (h2.2.1 a p q r s).trans (h1.2.1 a p q r s), fun k hk => (h2.2.2.1 k hk).trans (h1.2.2.1 k hk), h2.2.2.2.trans h1.2.2.2⟩
theorem frY.less {m m' : Nat} {S S1 : XS} (h : frY m' S1 S) (hm : m ≤ m') : frY m S1 S := ⟨h.1, h.2.1, fun k hk => h.2.2.1 k (by omega), h.2.2.2⟩
theorem frY.w {m a : Nat} {S : XS} {F : Nat → Int32} (h : a = 365 ∨ a = 367 ∨ a = 368 ∨ a = 371) : frY m (wA S a F) S := ⟨fun j p q r s t u => wA_ne (by omega), fun k _ _ _ _ => by rw [wA_ne (by omega)], fun k _ => by rw [wA_ne (by omega)], rfl⟩
theorem frY_pj {m : Nat} {S S' : XS} (h : frY m S' S) : pj S' = pj S := pj_ext fun a k q => by
  by_cases e1 : a = 351
  · subst e1
    refine h.2.1 k ?_ ?_ ?_ ?_ <;> (rintro rfl; exact absurd q (by decide))
  · by_cases e2 : a = 365
    · subst e2; rw [sc365 k] at q; cases q
    · by_cases e3 : a = 367
      · subst e3; rw [sc367 k] at q; cases q
      · by_cases e4 : a = 368
        · subst e4; rw [sc368 k] at q; cases q
        · by_cases e5 : a = 371
          · subst e5; rw [sc371 k] at q; cases q
          · by_cases e6 : a = 372
            · subst e6; rw [sc372 k] at q; cases q
            · rw [h.1 a e1 e2 e3 e4 e5 e6]
def svF (S : XS) (d j : Nat) : Nat → Int32 := fun k => if 51 * d ≤ k ∧ k < 51 * d + j then S.1 365 (k - 51 * d) else S.1 372 k
def ldF (S : XS) (d j : Nat) : Nat → Int32 := fun k => if k < j then S.1 372 (51 * d + k) else S.1 365 k
section GW
variable {S : XS} {c : Nat × Nat} {cg : xa_H → Nat → Int32 → Int32 → Int32 → Option xa_H} {d : Nat} {l2 l3 l4 : Int32}
theorem sv_step {j : Nat} : upd (svF S d j) (51 * d + j) (S.1 365 j) = svF S d (j + 1) := by
  funext k
  unfold upd svF
  by_cases e : k = 51 * d + j
  · rw [if_pos e, if_pos (by omega), show k - 51 * d = j by omega]
  · rw [if_neg e]
    by_cases e2 : 51 * d ≤ k ∧ k < 51 * d + j
    · rw [if_pos e2, if_pos (by omega)]
    · rw [if_neg e2, if_neg (by omega)]
theorem ld_step {j : Nat} : upd (ldF S d j) j (S.1 372 (51 * d + j)) = ldF S d (j + 1) := by
  funext k
  unfold upd ldF
  by_cases e : k = j
  · rw [if_pos e, if_pos (by omega), e]
  · rw [if_neg e]
    by_cases e2 : k < j
    · rw [if_pos e2, if_pos (by omega)]
    · rw [if_neg e2, if_neg (by omega)]
theorem gw_save (hd : d < 5) : f_X12_goWays_b15 cg 1048576 (hp S c) 351 (nI d) l2 l3 0 = f_X12_goWays_b50 cg 1048576 (hp (wA S 372 (svF S d 51)) c) 351 (nI d) l2 l3 0 := by
  have h0 : S = wA S 372 (svF S d 0) := by
    have : svF S d 0 = S.1 372 := funext fun k => if_neg (by omega)
    rw [this, wA_self]
  have l0 : f_X12_goWays_b15 cg 1048576 (hp (wA S 372 (svF S d 0)) c) 351 (nI d) l2 l3 (nI 0) = f_X12_goWays_b50 cg 1048576 (hp (wA S 372 (svF S d 51)) c) 351 (nI d) l2 l3 0 := by
    refine lp (N := 51) (fun n k => f_X12_goWays_b15 cg n (hp (wA S 372 (svF S d k)) c) 351 (nI d) l2 l3 (nI k)) (fun n => ?_) (fun n k hk => ?_) 51 0 1048576 (by omega) (by omega)
    · show f_X12_goWays_b15 cg (n + 1) _ 351 (nI d) l2 l3 (nI 51) = _
      rw [f_X12_goWays_b15, if_pos (by decide)]
    · show f_X12_goWays_b15 cg (n + 1) _ 351 (nI d) l2 l3 (nI k) = _
      rw [f_X12_goWays_b15, if_neg (by rw [show (51 : Int32) = nI 51 from rfl]; exact nI_ge hk (by decide)), g351_44, Option.bind_some, g351_33, Option.bind_some, a365 hk, Option.bind_some, ix51, q372 (by omega), Option.bind_some, nI_1, wA_wA, wA_same, wA_ne (show (365 : Nat) ≠ 372 by decide), sv_step]
  rw [← l0, ← h0]
  rfl
theorem gw_back (hd : d < 5) : f_X12_goWays_b144 cg 1048576 (hp S c) 351 (nI d) 0 = some (hp (wA S 365 (ldF S d 51)) c) := by
  have h0 : S = wA S 365 (ldF S d 0) := by
    have : ldF S d 0 = S.1 365 := funext fun k => if_neg (by omega)
    rw [this, wA_self]
  have l0 : f_X12_goWays_b144 cg 1048576 (hp (wA S 365 (ldF S d 0)) c) 351 (nI d) (nI 0) = some (hp (wA S 365 (ldF S d 51)) c) := by
    refine lp (N := 51) (fun n k => f_X12_goWays_b144 cg n (hp (wA S 365 (ldF S d k)) c) 351 (nI d) (nI k)) (fun n => ?_) (fun n k hk => ?_) 51 0 1048576 (by omega) (by omega)
    · show f_X12_goWays_b144 cg (n + 1) _ 351 (nI d) (nI 51) = _
      rw [f_X12_goWays_b144, if_pos (by decide)]
    · show f_X12_goWays_b144 cg (n + 1) _ 351 (nI d) (nI k) = _
      rw [f_X12_goWays_b144, if_neg (by rw [show (51 : Int32) = nI 51 from rfl]; exact nI_ge hk (by decide)), g351_33, Option.bind_some, g351_44, Option.bind_some, ix51, a372 (by omega), Option.bind_some, q365 hk, Option.bind_some, nI_1, wA_wA, wA_same, wA_ne (show (372 : Nat) ≠ 365 by decide), ld_step]
  rw [← l0, ← h0]
  rfl
/-- one house's turn, from the row that was kept -/
def gwK (cg : xa_H → Nat → Int32 → Int32 → Int32 → Option xa_H) (k50 : xa_H → Nat → Int32 → Int32 → Int32 → Int32 → Option xa_H) (h : xa_H) (l1 l2 l3 l4 : Int32) : Option xa_H :=
  (f_X12_can h 351 365 l4).bind fun q3 => if q3.1 = 0 then k50 q3.2 351 l1 l2 l3 (l4 + 1) else (gR [12] 33 q3.2 351).bind fun x5 => (f_X12_crosses q3.2 351 x5 l4).bind fun q6 => (cg q6 351 (l1 + 1) l2 (10 * l3 + l4)).bind fun q7 => k50 q7 351 l1 l2 l3 (l4 + 1)
theorem gw_load {k50 : xa_H → Nat → Int32 → Int32 → Int32 → Int32 → Option xa_H} (hd : d < 5) {r : Option xa_H} (hr : ∀ T : XS, T = wA S 365 (ldF S d 51) → gwK cg k50 (hp T c) (nI d) l2 l3 l4 = r) : f_X12_goWays_b62 cg k50 1048576 (hp S c) 351 (nI d) l2 l3 l4 0 = r := by
  have h0 : S = wA S 365 (ldF S d 0) := by
    have : ldF S d 0 = S.1 365 := funext fun k => if_neg (by omega)
    rw [this, wA_self]
  have l0 : f_X12_goWays_b62 cg k50 1048576 (hp (wA S 365 (ldF S d 0)) c) 351 (nI d) l2 l3 l4 (nI 0) = gwK cg k50 (hp (wA S 365 (ldF S d 51)) c) (nI d) l2 l3 l4 := by
    refine lp (N := 51) (fun n k => f_X12_goWays_b62 cg k50 n (hp (wA S 365 (ldF S d k)) c) 351 (nI d) l2 l3 l4 (nI k)) (fun n => ?_) (fun n k hk => ?_) 51 0 1048576 (by omega) (by omega)
    · show f_X12_goWays_b62 cg k50 (n + 1) _ 351 (nI d) l2 l3 l4 (nI 51) = _
      rw [f_X12_goWays_b62, if_pos (by decide), g351_33, Option.bind_some]
      unfold gwK f_X12_goWays_b135
      rfl
    · show f_X12_goWays_b62 cg k50 (n + 1) _ 351 (nI d) l2 l3 l4 (nI k) = _
      rw [f_X12_goWays_b62, if_neg (by rw [show (51 : Int32) = nI 51 from rfl]; exact nI_ge hk (by decide)), g351_33, Option.bind_some, g351_44, Option.bind_some, ix51, a372 (by omega), Option.bind_some, q365 hk, Option.bind_some, nI_1, wA_wA, wA_same, wA_ne (show (372 : Nat) ≠ 365 by decide), ld_step]
  rw [show f_X12_goWays_b62 cg k50 1048576 (hp S c) 351 (nI d) l2 l3 l4 0 = f_X12_goWays_b62 cg k50 1048576 (hp (wA S 365 (ldF S d 0)) c) 351 (nI d) l2 l3 l4 (nI 0) by rw [← h0]; rfl, l0]
  exact hr _ rfl
end GW
