/-! THE RELATION, and what a call must do -/
def Rlaws (p : PJ) (nl : Nat) (ll : Nat → Nat) : Prop := nl ≤ 4 ∧ p 16 3 = nI nl ∧ p 16 2 = nI 240 ∧ p 351 7 = nI nl ∧ p 0 17 = p 351 35 ∧ (p 351 35 = -1 ∨ ∃ l, l < nl ∧ p 351 35 = nI l) ∧ ∀ i, i < nl → ll i ≤ 240 ∧ p 17 i = nI (ll i) ∧ p 354 i = nI (ll i) ∧ (∀ k, k < ll i → byR (p (19 + i) k) (p 353 (240 * i + k))) ∧ ∃ g, pLaw (p (19 + i)) (ll i) = .inr g
/-- how class and reference stand to each other; n: how many calls there were -/
def RR (n : Nat) (p : PJ) : Prop := (∃ N F, Rvil p N F ∧ Rnow p N ∧ Rtold p N F ∧ (∃ A q cr, Rmem p N A q cr) ∧ Rimg p N ∧ ∃ m, Rseen p N m) ∧ (∃ tl, Rtape p tl) ∧ (∃ ns sl dg, Rsongs p ns sl dg) ∧ (∃ nl ll, Rlaws p nl ll) ∧ Rmisc p n
theorem Rmisc.mono {p : PJ} {n m : Nat} (h : Rmisc p n) (hm : n ≤ m) : Rmisc p m := by
  obtain ⟨a, b, e, ⟨r, r1, r2⟩, f⟩ := h
  exact ⟨a, b, e, ⟨r, by omega, r2⟩, f⟩
theorem RR.mono {p : PJ} {n m : Nat} (h : RR n p) (hm : n ≤ m) : RR m p := ⟨h.1, h.2.1, h.2.2.1, h.2.2.2.1, h.2.2.2.2.mono hm⟩
/-- class first, then reference: the same answer, and the relation again -/
def PQ (n : Nat) (c : Nat × Nat) (f g : xa_H → Option (Int32 × xa_H)) (S : XS) : Prop := ∃ v S1 S2, f (hp S c) = some (v, hp S1 c) ∧ g (hp S1 c) = some (v, hp S2 c) ∧ RR (n + 1) (pj S2)
/-- a call that leaves all as it was -/
theorem PQ.same {n : Nat} {c : Nat × Nat} {f g : xa_H → Option (Int32 × xa_H)} {S S1 S2 : XS} {v : Int32} (R : RR n (pj S)) (h1 : f (hp S c) = some (v, hp S1 c)) (h2 : g (hp S1 c) = some (v, hp S2 c)) (e1 : pj S1 = pj S) (e2 : pj S2 = pj S1) : PQ n c f g S := ⟨v, S1, S2, h1, h2, by rw [e2, e1]; exact R.mono (by omega)⟩
theorem B30 : isB 30 := isBd_of _ (by decide +kernel)
theorem B35 : isB 35 := isBd_of _ (by decide +kernel)
theorem B40 : isB 40 := isBd_of _ (by decide +kernel)
section PCL
variable {S : XS}
theorem c30 : pj S 30 = S.1 30 := pj_cell fun _ => rfl
theorem c31 : pj S 31 = S.1 31 := pj_cell fun _ => rfl
theorem c32 : pj S 32 = S.1 32 := pj_cell fun _ => rfl
theorem c33 : pj S 33 = S.1 33 := pj_cell fun _ => rfl
theorem c34 : pj S 34 = S.1 34 := pj_cell fun _ => rfl
theorem c356 : pj S 356 = S.1 356 := pj_cell fun _ => rfl
theorem c358 : pj S 358 = S.1 358 := pj_cell fun _ => rfl
theorem c360 : pj S 360 = S.1 360 := pj_cell fun _ => rfl
theorem c364 : pj S 364 = S.1 364 := pj_cell fun _ => rfl
theorem c351_26 : pj S 351 26 = S.1 351 26 := rfl
end PCL
/-- what stands now, in cells -/
def NW (S : XS) (N : Nat) (lim kp : Int32) (Q : BS) : Prop := (N = 0 ∨ 2 ≤ N) ∧ N ≤ 6 ∧ S.1 351 26 = nI N ∧ S.1 356 1 = lim ∧ 0 ≤ lim.toInt ∧ lim.toInt ≤ 99 ∧ S.1 30 4 = nI N ∧ S.1 30 5 = lim ∧ S.1 30 6 = kp ∧ S.1 364 48 = kp ∧ Q = rwB (S.1 364) ∧ (∀ k, k < 36 → S.1 31 k = Q.1 k) ∧ (∀ k, k < 6 → S.1 32 k = Q.2 k) ∧ Vb lim Q ∧ Zo N Q.1 ∧ ∃ m, m < 2 ^ N ∧ kp = nI m
theorem NW_of {S : XS} {N F : Nat} (h1 : Rvil (pj S) N F) (h2 : Rnow (pj S) N) : NW S N (S.1 356 1) (S.1 364 48) (rwB (S.1 364)) := by
  obtain ⟨a1, a2, a3, -, -, a6, a7, -⟩ := h1
  obtain ⟨⟨b1, b2, b3⟩, ⟨d1, d2, d3, d4, d5, d6⟩, e1, e2, e3⟩ := h2
  rw [c364] at d1 d2 d3 d4 d5 d6 e1 e2 e3
  rw [c356] at a6 a7 b2 e1
  refine ⟨a1, a2, a3, rfl, a6, a7, b1, b2, d4, rfl, rfl, fun k hk => ?_, fun k hk => ?_, e1, e2, e3⟩
  · have := d1 k hk
    rw [show (30 : Nat) + 1 = 31 from rfl, c31] at this
    exact this
  · have := d2 k hk
    rw [show (30 : Nat) + 2 = 32 from rfl, c32] at this
    exact this
theorem isIn_in {h : xa_H} {k m : Nat} {u : Int64} (hk : k ≤ m) (hm : m < 2 ^ 31) (hu : u = (nI m).toInt64) : f_X12_isIn h (nI k).toInt64 (0 : Int64) u = some 1 := by
  rw [hu, show (0 : Int64) = (nI 0).toInt64 from rfl, X12_isIn, decide_eq_false (nI_nlt (by omega) (by omega)), decide_eq_false (nI_nlt (by omega) (by omega))]
  rfl
theorem isIn_out {h : xa_H} {m : Nat} {u : Int64} {x : Int32} (hx : x < 0 ∨ (¬ x < 0 ∧ nI (m + 1) ≤ x)) (hm : m + 1 < 2 ^ 31) (hu : u = (nI m).toInt64) : f_X12_isIn h x.toInt64 (0 : Int64) u = some 0 := by
  rw [hu, show (0 : Int64) = (0 : Int32).toInt64 from rfl, X12_isIn]
  rcases hx with z | ⟨-, z⟩
  · rw [decide_eq_true z]
    rfl
  · have : nI m < x := by
      rw [Int32.lt_iff_toInt_lt]
      rw [Int32.le_iff_toInt_le, nI_toInt (by omega)] at z
      rw [nI_toInt (by omega)]
      omega
    rw [decide_eq_true this]
    cases decide (x < 0) <;> rfl
/-! copies of rows -/
def cpR (f g : Nat → Int32) (n : Nat) : Nat → Int32 := fun k => if k < n then f k else g k
theorem cpR_step {f g : Nat → Int32} {n : Nat} : upd (cpR f g n) n (f n) = cpR f g (n + 1) := by
  funext k
  unfold upd cpR
  by_cases e : k = n
  · rw [if_pos e, if_pos (by omega), e]
  · rw [if_neg e]
    by_cases e2 : k < n
    · rw [if_pos e2, if_pos (by omega)]
    · rw [if_neg e2, if_neg (by omega)]
theorem cpR_0 {f g : Nat → Int32} : cpR f g 0 = g := funext fun _ => if_neg (by omega)
theorem r_copy {S : XS} {c : Nat × Nat} : f_X12_copy (hp S c) 364 365 = some (hp (wA S 365 (cpR (S.1 364) (S.1 365) 51)) c) := by
  have h0 : S = wA S 365 (cpR (S.1 364) (S.1 365) 0) := by
    rw [cpR_0, wA_self]
  have l0 : f_X12_copy_b2 1048576 (hp (wA S 365 (cpR (S.1 364) (S.1 365) 0)) c) 364 365 (nI 0) = some (hp (wA S 365 (cpR (S.1 364) (S.1 365) 51)) c) := by
    refine lp (N := 51) (fun n k => f_X12_copy_b2 n (hp (wA S 365 (cpR (S.1 364) (S.1 365) k)) c) 364 365 (nI k)) (fun n => ?_) (fun n k hk => ?_) 51 0 1048576 (by omega) (by omega)
    · show f_X12_copy_b2 (n + 1) _ 364 365 (nI 51) = _
      rw [f_X12_copy_b2, if_pos (by decide)]
    · show f_X12_copy_b2 (n + 1) _ 364 365 (nI k) = _
      rw [f_X12_copy_b2, if_neg (by rw [show (51 : Int32) = nI 51 from rfl]; exact nI_ge hk (by decide)), a364 (by omega), Option.bind_some, q365 hk, Option.bind_some, nI_1, wA_wA, wA_same, wA_ne (show (364 : Nat) ≠ 365 by decide), cpR_step]
  rw [← h0] at l0
  exact l0
theorem sz4 {m : Nat} (hm : m ≤ 4) : szW m ≤ 1555 := by
  rcases (by omega : m = 0 ∨ m = 1 ∨ m = 2 ∨ m = 3 ∨ m = 4) with rfl | rfl | rfl | rfl | rfl <;> (unfold szW; first | omega | (unfold szW; first | omega | (unfold szW; first | omega | (unfold szW; first | omega | (unfold szW; omega)))))
section SK
variable {S : XS} {c : Nat × Nat} {N : Nat} {lim kp : Int32} {Q : BS}
theorem NW.cp {S' : XS} (W : NW S N lim kp Q) (h1 : S'.1 351 26 = S.1 351 26) (h2 : S'.1 356 = S.1 356) (h3 : S'.1 365 = cpR (S.1 364) (S.1 365) 51) : prR S' N kp lim Q := by
  obtain ⟨-, -, w3, w4, -, -, -, -, -, w10, w11, -⟩ := W
  refine ⟨h1.trans w3, by rw [h2]; exact w4, ?_, ?_⟩
  · rw [h3]
    exact w10
  · rw [h3, w11]
    refine ⟨fun k hk => ?_, fun k hk => ?_⟩
    · show cpR (S.1 364) (S.1 365) 51 k = S.1 364 k
      exact if_pos (by omega)
    · show cpR (S.1 364) (S.1 365) 51 (36 + k) = S.1 364 (36 + k)
      exact if_pos (by omega)
/-- the reference seeks -/
theorem r_seeks {α : Type} {ρ : XS → α → Prop} {f : α → ND → α} {μ : α → Nat} {a0 : α} {most : Nat} {what : Int32} (W : NW S N lim kp Q) (hm : most ≤ 4) (G : wOR N kp lim c ρ f μ) (hμ : μ a0 = 0) (h0 : ∀ S', S'.1 351 = upd (upd (upd (upd (upd (S.1 351) 46 what) 45 0) 47 (-1)) 48 0) 49 (-1) → ρ S' a0) : ∃ S', f_X12_seeks (hp S c) 351 what (nI most) = some (hp S' c) ∧ ρ S' ((dfs N kp lim false most 0 0 6 Q).foldl f a0) ∧ pj S' = pj S := by
  have h6 := W.2.1
  have hl := W.2.2.2.2.2.1
  have V : Vb lim Q := W.2.2.2.2.2.2.2.2.2.2.2.2.2.1
  have Z : Zo N Q.1 := W.2.2.2.2.2.2.2.2.2.2.2.2.2.2.1
  unfold f_X12_seeks
  rw [k351, Option.bind_some, p351_46, Option.bind_some, p351_45, Option.bind_some, wA_wA, wA_same, p351_47, Option.bind_some, wA_wA, wA_same, p351_48, Option.bind_some, wA_wA, wA_same, p351_49, Option.bind_some, wA_wA, wA_same, g351_32, Option.bind_some, g351_33, Option.bind_some, r_copy, Option.bind_some]
  have e51 := sz4 hm
  have pS : pj (wA (wA S 351 (upd (upd (upd (upd (upd (S.1 351) 46 what) 45 0) 47 (-1)) 48 0) 49 (-1))) 365 (cpR ((wA S 351 (upd (upd (upd (upd (upd (S.1 351) 46 what) 45 0) 47 (-1)) 48 0) 49 (-1))).1 364) ((wA S 351 (upd (upd (upd (upd (upd (S.1 351) 46 what) 45 0) 47 (-1)) 48 0) 49 (-1))).1 365) 51)) = pj S := by
    rw [pj_scr sc365]
    refine pj_wA fun k q => ?_
    have n1 : k ≠ 49 := by rintro rfl; exact absurd q (by decide)
    have n2 : k ≠ 48 := by rintro rfl; exact absurd q (by decide)
    have n3 : k ≠ 47 := by rintro rfl; exact absurd q (by decide)
    have n4 : k ≠ 45 := by rintro rfl; exact absurd q (by decide)
    have n5 : k ≠ 46 := by rintro rfl; exact absurd q (by decide)
    rw [upd_ne n1, upd_ne n2, upd_ne n3, upd_ne n4, upd_ne n5]
  have H : prR (wA (wA S 351 (upd (upd (upd (upd (upd (S.1 351) 46 what) 45 0) 47 (-1)) 48 0) 49 (-1))) 365 (cpR ((wA S 351 (upd (upd (upd (upd (upd (S.1 351) 46 what) 45 0) 47 (-1)) 48 0) 49 (-1))).1 364) ((wA S 351 (upd (upd (upd (upd (upd (S.1 351) 46 what) 45 0) 47 (-1)) 48 0) 49 (-1))).1 365) 51)) N kp lim Q := W.cp (by rw [wA_ne (by decide), wA_same]; rfl) (by rw [wA_ne (by decide), wA_ne (by decide)]) (by rw [wA_same, wA_ne (by decide), wA_ne (by decide)])
  have h0' := h0 (wA (wA S 351 (upd (upd (upd (upd (upd (S.1 351) 46 what) 45 0) 47 (-1)) 48 0) 49 (-1))) 365 (cpR ((wA S 351 (upd (upd (upd (upd (upd (S.1 351) 46 what) 45 0) 47 (-1)) 48 0) 49 (-1))).1 364) ((wA S 351 (upd (upd (upd (upd (upd (S.1 351) 46 what) 45 0) 47 (-1)) 48 0) 49 (-1))).1 365) 51)) (by rw [wA_ne (by decide), wA_same])
  generalize wA (wA S 351 (upd (upd (upd (upd (upd (S.1 351) 46 what) 45 0) 47 (-1)) 48 0) 49 (-1))) 365 (cpR ((wA S 351 (upd (upd (upd (upd (upd (S.1 351) 46 what) 45 0) 47 (-1)) 48 0) 49 (-1))).1 364) ((wA S 351 (upd (upd (upd (upd (upd (S.1 351) 46 what) 45 0) 47 (-1)) 48 0) 49 (-1))).1 365) 51) = S1 at pS H h0'
  obtain ⟨S2, y1, y2, y3, -⟩ := r_ways h6 hl hm G most 8 0 6 0 Q S1 a0 (by omega) (by omega) (by decide) V Z H h0' (by omega)
  rw [show nI 0 = (0 : Int32) from rfl] at y1
  rw [y1, Option.bind_some]
  exact ⟨S2, rfl, y2, (frY_pj y3).trans pS⟩
end SK
