/-! LAWS as they are read: wrong at, or the worth by the letters and the place behind it -/
abbrev PV : Type := (Nat → Int32) → Int32
abbrev PR : Type := Nat ⊕ (PV × Nat)
def jn (l s r : Int32) : Int32 :=
  if s = 38 then l &&& r else if s = 42 then ((lmax (-1000000 : Int64) (lmin (1000000 : Int64) (l.toInt64 * r.toInt64)))).toInt32
  else if s = 43 then ((lmax (-1000000 : Int64) (lmin (1000000 : Int64) (l.toInt64 + r.toInt64)))).toInt32
  else if s = 45 then ((lmax (-1000000 : Int64) (lmin (1000000 : Int64) (l.toInt64 - r.toInt64)))).toInt32
  else if s = 124 then l ||| r else if r = 0 then 0 else l / r
section PS
variable (T : Nat → Int32) (L : Nat)
def pRow (it : Nat → PR) (s1 s2 : Int32) : Nat → PV → Nat → PR
  | 0, v, p => .inr (v, p)
  | m + 1, v, p => if pk T L p = s1 ∨ pk T L p = s2 then (match it (sk T L p + 1) with | .inl f => .inl f | .inr (w, p') => pRow it s1 s2 m (fun l => jn (v l) (pk T L p) (w l)) p') else .inr (v, sk T L p)
def pSeq (it : Nat → PR) (s1 s2 : Int32) (p : Nat) : PR := match it p with | .inl f => .inl f | .inr (v, p') => pRow T L it s1 s2 (L + 1) v p'
def lti (s : Int32) : Option Nat := if s = 105 then some 0 else if s = 111 then some 1 else if s = 116 then some 2 else if s = 110 then some 3 else if s = 119 then some 4 else if s = 100 then some 5 else none
def pClose (r : PR) (ch : Int32) : PR := match r with | .inl f => .inl f | .inr (v, p) => if pk T L p = ch then .inr (v, sk T L p + 1) else .inl (sk T L p)
def pAt (inn : Option (Nat → PR)) (p : Nat) : PR :=
  if pk T L p = 91 then (match inn with | none => .inl (sk T L p) | some it => pClose T L (it (sk T L p + 1)) 93)
  else match lti (pk T L p) with | some j => .inr (fun l => l j, sk T L p + 1) | none => (match nmF T L 4 p with | .inl f => .inl f | .inr (v, q) => .inr (fun _ => v, q))
def pTmG (a : Nat → PR) : Nat → PR := pSeq T L a 42 47
def pSmG (a : Nat → PR) : Nat → PR := pSeq T L (pTmG T L a) 43 45
/-- k: how many more may go in -/
def pSm : Nat → Nat → PR
  | 0 => pSmG T L (pAt T L none)
  | k + 1 => pSmG T L (pAt T L (some (pSm k)))
def pAtK : Nat → Nat → PR
  | 0 => pAt T L none
  | k + 1 => pAt T L (some (pSm T L k))
def isCm (s : Int32) : Bool := decide (s = 61) || decide (s = 60) || decide (s = 62)
def cmp (s u v : Int32) : Int32 := if s = 61 then (if u = v then 1 else 0) else if s = 60 then (if v ≤ u then 0 else 1) else (if u ≤ v then 0 else 1)
def pCm (k : Nat) (v : PV) (p : Nat) : PR := if isCm (pk T L p) = true then (match pSm T L k (sk T L p + 1) with | .inl f => .inl f | .inr (w, q) => .inr (fun l => cmp (pk T L p) (v l) (w l), q)) else .inl (sk T L p)
def pUnF (k : Nat) (inn : Option ((Nat → PR) × (Nat → PR))) (p : Nat) : PR :=
  if pk T L p = 33 then (match inn with | none => .inl (sk T L p) | some it => (match it.1 (sk T L p + 1) with | .inl f => .inl f | .inr (v, q) => .inr (fun l => 1 - v l, q)))
  else if pk T L p = 40 then (match inn with | none => .inl (sk T L p) | some it => pClose T L (it.2 (sk T L p + 1)) 41)
  else match pSm T L k (sk T L p) with | .inl f => .inl f | .inr (v, q) => pCm T L k v q
def pTrG (u : Nat → PR) : Nat → PR := pSeq T L u 38 38
def pCoG (u : Nat → PR) : Nat → PR := pSeq T L (pTrG T L u) 124 124
def pUn : Nat → Nat → PR
  | 0 => pUnF T L 0 none
  | k + 1 => pUnF T L (k + 1) (some (pUn k, pCoG T L (pUn k)))
def pCo (k : Nat) : Nat → PR := pCoG T L (pUn T L k)
/-- a condition whose first sum was read -/
def pCoV (v : PV) (p : Nat) : PR := match pCm T L 6 v p with
  | .inl f => .inl f
  | .inr (w, q) => (match pRow T L (pUn T L 6) 38 38 (L + 1) w q with | .inl f => .inl f | .inr (w2, q2) => pRow T L (pTrG T L (pUn T L 6)) 124 124 (L + 1) w2 q2)
/-- a clause: wrong at, or whether it holds, its worth, the place behind it -/
def pCl (p : Nat) : Nat ⊕ (PV × PV × Nat) :=
  if pk T L p = 121 then (if pk T L (sk T L p + 1) = 58 then
    (let p2 := sk T L (sk T L p + 1) + 1
     if pk T L p2 = 33 ∨ pk T L p2 = 40 then (match pCo T L 6 (sk T L p2) with
       | .inl f => .inl f
       | .inr (h, q) => if pk T L q = 63 then (match pSm T L 6 (sk T L q + 1) with | .inl f => .inl f | .inr (v, q2) => .inr (h, v, q2)) else .inl (sk T L q))
     else (match pSm T L 6 (sk T L p2) with
       | .inl f => .inl f
       | .inr (v, q) => if isCm (pk T L q) = true then (match pCoV T L v (sk T L q) with
           | .inl f => .inl f
           | .inr (h, q1) => if pk T L q1 = 63 then (match pSm T L 6 (sk T L q1 + 1) with | .inl f => .inl f | .inr (v2, q2) => .inr (h, v2, q2)) else .inl (sk T L q1))
         else .inr (fun _ => 1, v, sk T L q)))
    else .inl (sk T L (sk T L p + 1))) else .inl (sk T L p)
/-- what was found so far -/
abbrev PF : Type := (Nat → Int32) → Option Int32
def fnd (g : PF) (h v : PV) : PF := fun l => match g l with | some x => some x | none => if h l = 1 then some (v l) else none
def pLw : Nat → PF → Nat → Nat ⊕ PF
  | 0, _, p => .inl p
  | m + 1, g, p => match pCl T L p with
    | .inl f => .inl f
    | .inr (h, v, q) => if pk T L q = 59 then pLw m (fnd g h v) (sk T L q + 1) else if pk T L q = -1 then .inr (fnd g h v) else .inl (sk T L q)
def pLaw : Nat ⊕ PF := pLw T L (L + 1) (fun _ => none) 0
end PS
/-! places only go on -/
section PP
variable {T : Nat → Int32} {L : Nat}
def mono (it : Nat → PR) (L : Nat) : Prop := ∀ p, p ≤ L → (∀ f, it p = .inl f → f ≤ L) ∧ ∀ v q, it p = .inr (v, q) → p ≤ q ∧ q ≤ L
theorem pk_sk1 {p : Nat} (h : pk T L p ≠ -1) : sk T L p + 1 ≤ L ∧ p < sk T L p + 1 := by
  have h1 := (pk_isin h).1
  have h2 := sk_ge (T := T) (L := L) (p := p)
  omega
theorem pRow_mono {it : Nat → PR} {s1 s2 : Int32} (h1 : s1 ≠ -1) (h2 : s2 ≠ -1) (M : mono it L) : ∀ (m : Nat) (v : PV) (p : Nat), p ≤ L → (∀ f, pRow T L it s1 s2 m v p = .inl f → f ≤ L) ∧ ∀ w q, pRow T L it s1 s2 m v p = .inr (w, q) → p ≤ q ∧ q ≤ L
  | 0, v, p, hp => ⟨fun f z => (by cases z), fun w q z => by cases z; exact ⟨Nat.le_refl _, hp⟩⟩
  | m + 1, v, p, hp => by
    unfold pRow
    by_cases e : pk T L p = s1 ∨ pk T L p = s2
    · rw [if_pos e]
      have hne : pk T L p ≠ -1 := by
        rcases e with e | e <;> rw [e] <;> assumption
      have hs := pk_sk1 hne
      have hm := M (sk T L p + 1) hs.1
      cases hi : it (sk T L p + 1) with
      | inl f =>
        refine ⟨fun f' z => ?_, fun w q z => by cases z⟩
        cases z
        exact hm.1 _ hi
      | inr wq =>
        obtain ⟨w, q⟩ := wq
        have hq := hm.2 w q hi
        have ih := pRow_mono h1 h2 M m (fun l => jn (v l) (pk T L p) (w l)) q hq.2
        exact ⟨ih.1, fun w' q' z => by have := ih.2 w' q' z; omega⟩
    · rw [if_neg e]
      refine ⟨fun f z => (by cases z), fun w q z => ?_⟩
      cases z
      exact ⟨sk_ge, sk_le hp⟩
theorem pSeq_mono {it : Nat → PR} {s1 s2 : Int32} (h1 : s1 ≠ -1) (h2 : s2 ≠ -1) (M : mono it L) : mono (pSeq T L it s1 s2) L := by
  intro p hp
  have hm := M p hp
  unfold pSeq
  cases hi : it p with
  | inl f =>
    refine ⟨fun f' z => ?_, fun w q z => by cases z⟩
    cases z
    exact hm.1 _ hi
  | inr wq =>
    obtain ⟨w, q⟩ := wq
    have hq := hm.2 w q hi
    have ih := pRow_mono (T := T) h1 h2 M (L + 1) w q hq.2
    exact ⟨ih.1, fun w' q' z => by have := ih.2 w' q' z; omega⟩
theorem pClose_mono {r : PR} {ch : Int32} {p : Nat} (hc : ch ≠ -1) (h1 : ∀ f, r = .inl f → f ≤ L) (h2 : ∀ v q, r = .inr (v, q) → p ≤ q ∧ q ≤ L) : (∀ f, pClose T L r ch = .inl f → f ≤ L) ∧ ∀ v q, pClose T L r ch = .inr (v, q) → p ≤ q ∧ q ≤ L := by
  unfold pClose
  cases r with
  | inl f =>
    refine ⟨fun f' z => ?_, fun w q z => by cases z⟩
    cases z
    exact h1 _ rfl
  | inr wq =>
    obtain ⟨w, q⟩ := wq
    have hq := h2 w q rfl
    have hs := sk_le (T := T) hq.2
    have hg := sk_ge (T := T) (L := L) (p := q)
    dsimp only
    by_cases e : pk T L q = ch
    · rw [if_pos e]
      have := pk_sk1 (T := T) (L := L) (p := q) (by rw [e]; exact hc)
      refine ⟨fun f z => (by cases z), fun w' q' z => ?_⟩
      cases z
      omega
    · rw [if_neg e]
      refine ⟨fun f z => ?_, fun w q z => by cases z⟩
      cases z
      exact hs
theorem nmF_mono {m p : Nat} (hp : p ≤ L) : (∀ f, nmF T L m p = .inl f → f ≤ L) ∧ ∀ q, nmF T L m p = .inr q → p ≤ q.2 ∧ q.2 ≤ L := by
  have hs := sk_le (T := T) hp
  have hg := sk_ge (T := T) (L := L) (p := p)
  have hd := dgF_le (T := T) (L := L) m 0 (sk T L p) hs
  unfold nmF
  split
  · split
    · exact ⟨fun f z => (by cases z; omega), fun q z => by cases z⟩
    · exact ⟨fun f z => (by cases z), fun q z => by cases z; omega⟩
  · exact ⟨fun f z => (by cases z; omega), fun q z => by cases z⟩
theorem lti_ne {s : Int32} {j : Nat} (h : lti s = some j) : s ≠ -1 := fun z => by
  rw [z, show lti (-1) = none by decide] at h
  cases h
theorem pAt_mono {inn : Option (Nat → PR)} (M : ∀ it, inn = some it → mono it L) : mono (pAt T L inn) L := by
  intro p hp
  have hs := sk_le (T := T) hp
  unfold pAt
  by_cases e : pk T L p = 91
  · rw [if_pos e]
    have h1 := pk_sk1 (T := T) (L := L) (p := p) (by rw [e]; decide)
    cases inn with
    | none => exact ⟨fun f z => (by cases z; exact hs), fun w q z => by cases z⟩
    | some it =>
      have hm := M it rfl (sk T L p + 1) h1.1
      exact pClose_mono (by decide) hm.1 (fun v q z => by have := hm.2 v q z; omega)
  · rw [if_neg e]
    cases hl : lti (pk T L p) with
    | some j =>
      have h1 := pk_sk1 (T := T) (L := L) (p := p) (lti_ne hl)
      exact ⟨fun f z => (by cases z), fun w q z => by cases z; omega⟩
    | none =>
      have hn := nmF_mono (T := T) (m := 4) hp
      dsimp only
      cases hm : nmF T L 4 p with
      | inl f => exact ⟨fun f z => (by cases z; exact hn.1 _ hm), fun w q z => by cases z⟩
      | inr vq =>
        have := hn.2 _ hm
        exact ⟨fun f z => (by cases z), fun w q z => by cases z; exact this⟩
theorem pSm_mono : ∀ k, mono (pSm T L k) L
  | 0 => pSeq_mono (by decide) (by decide) (pSeq_mono (by decide) (by decide) (pAt_mono (fun it z => by cases z)))
  | k + 1 => pSeq_mono (by decide) (by decide) (pSeq_mono (by decide) (by decide) (pAt_mono (fun it z => by cases z; exact pSm_mono k)))
theorem pAtK_mono : ∀ k, mono (pAtK T L k) L
  | 0 => show mono (pAt T L none) L from pAt_mono (fun it z => by cases z)
  | k + 1 => show mono (pAt T L (some (pSm T L k))) L from pAt_mono (fun it z => by cases z; exact pSm_mono k)
theorem pSm_eq (k : Nat) : pSm T L k = pSmG T L (pAtK T L k) := by cases k <;> rfl
theorem pTm_mono (k : Nat) : mono (pTmG T L (pAtK T L k)) L := pSeq_mono (by decide) (by decide) (pAtK_mono k)
theorem isCm_ne {s : Int32} (h : isCm s = true) : s ≠ -1 := fun z => by
  rw [z] at h
  exact absurd h (by decide)
theorem pCm_mono {k : Nat} {v : PV} {p : Nat} (hp : p ≤ L) : (∀ f, pCm T L k v p = .inl f → f ≤ L) ∧ ∀ w q, pCm T L k v p = .inr (w, q) → p ≤ q ∧ q ≤ L := by
  have hs := sk_le (T := T) hp
  unfold pCm
  by_cases e : isCm (pk T L p) = true
  · rw [if_pos e]
    have h1 := pk_sk1 (T := T) (L := L) (p := p) (isCm_ne e)
    have hm := pSm_mono (T := T) (L := L) k (sk T L p + 1) h1.1
    cases hi : pSm T L k (sk T L p + 1) with
    | inl f => exact ⟨fun f z => (by cases z; exact hm.1 _ hi), fun w q z => by cases z⟩
    | inr wq =>
      obtain ⟨w, q⟩ := wq
      have := hm.2 w q hi
      exact ⟨fun f z => (by cases z), fun w q z => by cases z; omega⟩
  · rw [if_neg e]
    exact ⟨fun f z => (by cases z; exact hs), fun w q z => by cases z⟩
theorem pUnF_mono {k : Nat} {inn : Option ((Nat → PR) × (Nat → PR))} (M : ∀ it, inn = some it → mono it.1 L ∧ mono it.2 L) : mono (pUnF T L k inn) L := by
  intro p hp
  have hs := sk_le (T := T) hp
  have hg := sk_ge (T := T) (L := L) (p := p)
  unfold pUnF
  by_cases e : pk T L p = 33
  · rw [if_pos e]
    have h1 := pk_sk1 (T := T) (L := L) (p := p) (by rw [e]; decide)
    cases inn with
    | none => exact ⟨fun f z => (by cases z; exact hs), fun w q z => by cases z⟩
    | some it =>
      have hm := (M it rfl).1 (sk T L p + 1) h1.1
      dsimp only
      cases hi : it.1 (sk T L p + 1) with
      | inl f => exact ⟨fun f z => (by cases z; exact hm.1 _ hi), fun w q z => by cases z⟩
      | inr wq =>
        obtain ⟨w, q⟩ := wq
        have := hm.2 w q hi
        exact ⟨fun f z => (by cases z), fun w q z => by cases z; omega⟩
  · rw [if_neg e]
    by_cases e2 : pk T L p = 40
    · rw [if_pos e2]
      have h1 := pk_sk1 (T := T) (L := L) (p := p) (by rw [e2]; decide)
      cases inn with
      | none => exact ⟨fun f z => (by cases z; exact hs), fun w q z => by cases z⟩
      | some it =>
        have hm := (M it rfl).2 (sk T L p + 1) h1.1
        exact pClose_mono (by decide) hm.1 (fun v q z => by have := hm.2 v q z; omega)
    · rw [if_neg e2]
      have hm := pSm_mono (T := T) (L := L) k (sk T L p) hs
      cases hi : pSm T L k (sk T L p) with
      | inl f => exact ⟨fun f z => (by cases z; exact hm.1 _ hi), fun w q z => by cases z⟩
      | inr wq =>
        obtain ⟨w, q⟩ := wq
        have h2 := hm.2 w q hi
        have h3 := pCm_mono (T := T) (L := L) (k := k) (v := w) h2.2
        exact ⟨h3.1, fun w' q' z => by have := h3.2 w' q' z; omega⟩
theorem pUn_mono : ∀ k, mono (pUn T L k) L
  | 0 => pUnF_mono (fun it z => by cases z)
  | k + 1 => pUnF_mono (fun it z => by cases z; exact ⟨pUn_mono k, pSeq_mono (by decide) (by decide) (pSeq_mono (by decide) (by decide) (pUn_mono k))⟩)
theorem pTr_mono (k : Nat) : mono (pTrG T L (pUn T L k)) L := pSeq_mono (by decide) (by decide) (pUn_mono k)
theorem pCo_mono (k : Nat) : mono (pCo T L k) L := pSeq_mono (by decide) (by decide) (pTr_mono k)
end PP
