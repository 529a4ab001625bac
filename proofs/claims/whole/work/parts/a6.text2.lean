/-! TEXT: a law, a song -/
section TX2
variable {p p' : PJ} {n k L : Nat}
def llU (ll : Nat → Nat) (k L : Nat) : Nat → Nat := fun i => if i = k then L else ll i
theorem llU_s {ll : Nat → Nat} {k L : Nat} : llU ll k L k = L := if_pos rfl
theorem llU_n {ll : Nat → Nat} {i k L : Nat} (h : i ≠ k) : llU ll k L i = ll i := if_neg h
theorem RR_putlaw {ll : Nat → Nat} {g : PF} (R : RR n p) (l : Rlaws p k ll) (hk : k < 4) (t : Rtape p L) (hg : pLaw (p' (19 + k)) L = .inr g) (C : ∀ a, a ≠ 0 → a ≠ 16 → a ≠ 17 → a ≠ 19 + k → a ≠ 351 → a ≠ 353 → a ≠ 354 → p' a = p a) (z0 : ∀ j, j ≠ 16 → p' 0 j = p 0 j) (z16 : p' 0 16 = nI 0) (y2 : p' 16 2 = p 16 2) (y3 : p' 16 3 = nI (k + 1)) (x17 : p' 17 = upd (p 17) k (nI L)) (x19 : ∀ j, j < L → p' (19 + k) j = p 1 j) (K : ∀ j, j ≠ 6 → j ≠ 7 → p' 351 j = p 351 j) (K6 : p' 351 6 = nI 0) (K7 : p' 351 7 = nI (k + 1)) (x353 : ∀ i, p' 353 i = if 240 * k ≤ i ∧ i < 240 * k + L then p 352 (i - 240 * k) else p 353 i) (x354 : p' 354 = upd (p 354) k (nI L)) : RR (n + 1) p' := by
  obtain ⟨R1, -, ⟨ns, sl, dg, s1⟩, -, mi⟩ := R
  have D : ∀ a j, a ≠ 0 → a ≠ 16 → a ≠ 17 → a ≠ 19 + k → a ≠ 351 → a ≠ 353 → a ≠ 354 → p' a j = p a j := fun a j h1 h2 h3 h4 h5 h6 h7 => congrFun (C a h1 h2 h3 h4 h5 h6 h7) j
  refine RR.mono (n := n) ⟨RV.cg R1 (fun a h => C a (by omega) (by omega) (by omega) (by omega) (by omega) (by omega) (by omega)) (fun j h => K j (by omega) (by omega)), ⟨0, by decide, z16, K6, fun j hj => by omega⟩, ⟨ns, sl, dg, s1.cg (C _ (by omega) (by omega) (by omega) (by omega) (by omega) (by omega) (by omega)) (K _ (by decide) (by decide)) (C _ (by omega) (by omega) (by omega) (by omega) (by omega) (by omega) (by omega)) (fun j _ => D _ _ (by omega) (by omega) (by omega) (by omega) (by omega) (by omega) (by omega)) (fun a _ _ => C _ (by omega) (by omega) (by omega) (by omega) (by omega) (by omega) (by omega)) (fun j _ => D _ _ (by omega) (by omega) (by omega) (by omega) (by omega) (by omega) (by omega))⟩, ⟨k + 1, llU ll k L, ?_⟩, mi.cg (z0 _ (by decide)) (K _ (by decide) (by decide)) (C _ (by omega) (by omega) (by omega) (by omega) (by omega) (by omega) (by omega)) (C _ (by omega) (by omega) (by omega) (by omega) (by omega) (by omega) (by omega)) (C _ (by omega) (by omega) (by omega) (by omega) (by omega) (by omega) (by omega)) (C _ (by omega) (by omega) (by omega) (by omega) (by omega) (by omega) (by omega)) (C _ (by omega) (by omega) (by omega) (by omega) (by omega) (by omega) (by omega)) (C _ (by omega) (by omega) (by omega) (by omega) (by omega) (by omega) (by omega))⟩ (by omega)
  obtain ⟨l1, l2, l3, l4, l5, l6, l7⟩ := l
  refine ⟨by omega, y3, by rw [y2]; exact l3, K7, by rw [z0 _ (by decide), K _ (by decide) (by decide)]; exact l5, ?_, fun i hi => ?_⟩
  · rw [K _ (by decide) (by decide)]
    rcases l6 with z | ⟨q, q1, q2⟩
    · exact Or.inl z
    · exact Or.inr ⟨q, by omega, q2⟩
  · by_cases e : i = k
    · subst e
      refine ⟨by rw [llU_s]; exact t.1, by rw [x17, upd_same, llU_s], by rw [x354, upd_same, llU_s], fun j hj => ?_, ?_⟩
      · rw [llU_s] at hj
        rw [x19 j hj, x353, if_pos (by omega), show 240 * i + j - 240 * i = j by omega]
        exact t.2.2.2 j hj
      · rw [llU_s]
        exact ⟨g, hg⟩
    · obtain ⟨m1, m2, m3, m4, m5⟩ := l7 i (by omega)
      refine ⟨by rw [llU_n e]; exact m1, by rw [x17, upd_ne e, llU_n e]; exact m2, by rw [x354, upd_ne e, llU_n e]; exact m3, fun j hj => ?_, ?_⟩
      · rw [llU_n e] at hj
        rw [D (19 + i) j (by omega) (by omega) (by omega) (by omega) (by omega) (by omega) (by omega), x353, if_neg (by omega)]
        exact m4 j hj
      · rw [llU_n e, C (19 + i) (by omega) (by omega) (by omega) (by omega) (by omega) (by omega) (by omega)]
        exact m5
end TX2
