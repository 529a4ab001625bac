/-! THE RELATION'S PIECES look at few cells -/
section CG
variable {p p' : PJ} {N F : Nat}
theorem Rvil.cg (h : Rvil p N F) (h1 : p' 351 26 = p 351 26) (h2 : p' 351 27 = p 351 27) (h3 : p' 356 1 = p 356 1) (h4 : p' 360 = p 360) (h5 : p' 358 = p 358) : Rvil p' N F := by
  unfold Rvil at h ⊢
  rw [h1, h2, h3, h4, h5]
  exact h
theorem bKo.cg {b : Nat} (h : bKo p b N) (h0 : p' b = p b) (h3 : p' (b + 3) = p (b + 3)) (h4 : p' 356 1 = p 356 1) (h5 : p' 358 = p 358) : bKo p' b N := by
  unfold bKo at h ⊢
  rw [h0, h3, h4, h5]
  exact h
theorem bRo.cg {b : Nat} {row : Nat → Int32} (h : bRo p b row) (h0 : p' b = p b) (h1 : p' (b + 1) = p (b + 1)) (h2 : p' (b + 2) = p (b + 2)) (h4 : p' (b + 4) = p (b + 4)) : bRo p' b row := by
  unfold bRo at h ⊢
  rw [h0, h1, h2, h4]
  exact h
theorem Rnow.cg (h : Rnow p N) (h0 : p' 30 = p 30) (h1 : p' 31 = p 31) (h2 : p' 32 = p 32) (h3 : p' 33 = p 33) (h4 : p' 34 = p 34) (h5 : p' 364 = p 364) (h6 : p' 356 1 = p 356 1) (h7 : p' 358 = p 358) : Rnow p' N := by
  unfold Rnow at h ⊢
  rw [h5, h6]
  exact ⟨h.1.cg h0 h3 h6 h7, h.2.1.cg h0 h1 h2 h4, h.2.2⟩
theorem Rtold.cg (h : Rtold p N F) (h0 : p' 35 = p 35) (h1 : p' 36 = p 36) (h2 : p' 37 = p 37) (h3 : p' 38 = p 38) (h4 : p' 39 = p 39) (h5 : p' 360 = p 360) (h6 : p' 356 = p 356) (h7 : p' 358 = p 358) : Rtold p' N F := by
  unfold Rtold at h ⊢
  rw [h5, h6, h7]
  exact ⟨h.1.cg h0 h3 (by rw [h6]) h7, h.2.1.cg h0 h1 h2 h4, h.2.2⟩
theorem mb_lt {q A i : Nat} : 60 ≤ mb q A i ∧ mb q A i + 4 < 260 := by
  have : (q + 40 + i - A) % 40 < 40 := Nat.mod_lt _ (by decide)
  unfold mb
  omega
theorem Rmem.cg {A q : Nat} {cr : Nat → Nat} (h : Rmem p N A q cr) (h0 : p' 351 40 = p 351 40) (h1 : p' 49 = p 49) (h2 : p' 46 = p 46) (h3 : p' 47 = p 47) (h4 : p' 48 = p 48) (h5 : p' 364 = p 364) (h6 : p' 369 = p 369) (h7 : p' 356 1 = p 356 1) (h8 : p' 358 = p 358) (h9 : ∀ a, 60 ≤ a → a < 260 → p' a = p a) : Rmem p' N A q cr := by
  unfold Rmem at h ⊢
  rw [h0, h1, h2, h3, h4, h5, h6, h7]
  obtain ⟨a1, a2, a3, a4, a5, a6, a7⟩ := h
  refine ⟨a1, a2, a3, a4, a5, a6, fun i hi => ?_⟩
  obtain ⟨b1, b2, b3, b4, b5⟩ := a7 i hi
  have := mb_lt (q := q) (A := A) (i := i)
  exact ⟨b1, b2, b3.cg (h9 _ (by omega) (by omega)) (h9 _ (by omega) (by omega)) h7 h8, b4.cg (h9 _ (by omega) (by omega)) (h9 _ (by omega) (by omega)) (h9 _ (by omega) (by omega)) (h9 _ (by omega) (by omega)), b5⟩
theorem Rimg.cg (h : Rimg p N) (h0 : p' 49 5 = p 49 5) (h1 : p' 351 56 = p 351 56) (h2 : ∀ a, 51 ≤ a → a < 60 → p' a = p a) (h3 : p' 377 = p 377) (h4 : p' 356 1 = p 356 1) (h5 : p' 358 = p 358) : Rimg p' N := by
  unfold Rimg at h ⊢
  rw [h0, h1, h3, h4, h2 57 (by decide) (by decide), h2 58 (by decide) (by decide), h2 59 (by decide) (by decide)]
  rcases h with h | ⟨a, b, e, f, g⟩
  · exact Or.inl h
  · exact Or.inr ⟨a, b, e.cg (h2 _ (by decide) (by decide)) (h2 _ (by decide) (by decide)) h4 h5, f.cg (h2 _ (by decide) (by decide)) (h2 _ (by decide) (by decide)) (h2 _ (by decide) (by decide)) (h2 _ (by decide) (by decide)), g⟩
theorem Rtape.cg {tl : Nat} (h : Rtape p tl) (h0 : p' 0 16 = p 0 16) (h1 : p' 351 6 = p 351 6) (h2 : p' 1 = p 1) (h3 : p' 352 = p 352) : Rtape p' tl := by
  unfold Rtape at h ⊢
  rw [h0, h1, h2, h3]
  exact h
theorem Rsongs.cg {ns : Nat} {sl : Nat → Nat} {dg : Nat → Nat → Nat} (h : Rsongs p ns sl dg) (h0 : p' 23 = p 23) (h1 : p' 351 30 = p 351 30) (h2 : p' 24 = p 24) (h3 : ∀ k, k < 4 → p' 363 k = p 363 k) (h4 : ∀ a, 26 ≤ a → a < 30 → p' a = p a) (h5 : ∀ k, k < 64 → p' 362 k = p 362 k) : Rsongs p' ns sl dg := by
  obtain ⟨a1, a2, a3, a4, a5⟩ := h
  refine ⟨a1, by rw [h0]; exact a2, by rw [h0]; exact a3, by rw [h1]; exact a4, fun i hi => ?_⟩
  obtain ⟨b1, b2, b3, b4, b5⟩ := a5 i hi
  refine ⟨b1, b2, by rw [h2]; exact b3, by rw [h3 i (by omega)]; exact b4, fun k hk => ?_⟩
  rw [h4 (26 + i) (by omega) (by omega), h5 _ (by omega)]
  exact b5 k hk
theorem Rseen.cg {m : Nat} (h : Rseen p N m) (h0 : p' 351 51 = p 351 51) (h1 : ∀ a, 260 ≤ a → a < 266 → p' a = p a) (h2 : p' 373 = p 373) : Rseen p' N m := by
  unfold Rseen at h ⊢
  rw [h0, h1 260 (by decide) (by decide), h1 261 (by decide) (by decide), h1 262 (by decide) (by decide), h1 263 (by decide) (by decide), h1 264 (by decide) (by decide), h1 265 (by decide) (by decide), h2]
  exact h
theorem Rlaws.cg {nl : Nat} {ll : Nat → Nat} (h : Rlaws p nl ll) (h0 : p' 16 = p 16) (h1 : p' 17 = p 17) (h2 : p' 351 7 = p 351 7) (h3 : p' 0 17 = p 0 17) (h4 : p' 351 35 = p 351 35) (h5 : p' 354 = p 354) (h6 : p' 353 = p 353) (h7 : ∀ a, 19 ≤ a → a < 23 → p' a = p a) : Rlaws p' nl ll := by
  unfold Rlaws at h ⊢
  rw [h0, h1, h2, h3, h4, h5, h6]
  obtain ⟨a1, a2, a3, a4, a5, a6, a7⟩ := h
  refine ⟨a1, a2, a3, a4, a5, a6, fun i hi => ?_⟩
  rw [h7 (19 + i) (by omega) (by omega)]
  exact a7 i hi
/-- but for the walk's marks, all is as it was -/
theorem RR.walk {n : Nat} (h : RR n p) (hc : ∀ a, a < 271 ∨ 348 < a → p' a = p a) (hr : p' 271 4 = p 271 4 + 1) (hq : ∀ k, k < 2048 → p' 275 k = p' 271 4 ∨ p' 275 k = p 275 k) : RR (n + 1) p' := by
  obtain ⟨⟨N, F, v1, v2, v3, ⟨A, q, cr, v4⟩, v5, m, v6⟩, ⟨tl, t1⟩, ⟨ns, sl, dg, s1⟩, ⟨nl, ll, l1⟩, mi⟩ := h
  have c := fun a (h : a < 271 ∨ 348 < a) (k : Nat) => congrFun (hc a h) k
  refine ⟨⟨N, F, v1.cg (c _ (by omega) _) (c _ (by omega) _) (c _ (by omega) _) (hc _ (by omega)) (hc _ (by omega)), v2.cg (hc _ (by omega)) (hc _ (by omega)) (hc _ (by omega)) (hc _ (by omega)) (hc _ (by omega)) (hc _ (by omega)) (c _ (by omega) _) (hc _ (by omega)), v3.cg (hc _ (by omega)) (hc _ (by omega)) (hc _ (by omega)) (hc _ (by omega)) (hc _ (by omega)) (hc _ (by omega)) (hc _ (by omega)) (hc _ (by omega)), ⟨A, q, cr, v4.cg (c _ (by omega) _) (hc _ (by omega)) (hc _ (by omega)) (hc _ (by omega)) (hc _ (by omega)) (hc _ (by omega)) (hc _ (by omega)) (c _ (by omega) _) (hc _ (by omega)) (fun a _ _ => hc _ (by omega))⟩, v5.cg (c _ (by omega) _) (c _ (by omega) _) (fun a _ _ => hc _ (by omega)) (hc _ (by omega)) (c _ (by omega) _) (hc _ (by omega)), m, v6.cg (c _ (by omega) _) (fun a _ _ => hc _ (by omega)) (hc _ (by omega))⟩, ⟨tl, t1.cg (c _ (by omega) _) (c _ (by omega) _) (hc _ (by omega)) (hc _ (by omega))⟩, ⟨ns, sl, dg, s1.cg (hc _ (by omega)) (c _ (by omega) _) (hc _ (by omega)) (fun k _ => c _ (by omega) _) (fun a _ _ => hc _ (by omega)) (fun k _ => c _ (by omega) _)⟩, ⟨nl, ll, l1.cg (hc _ (by omega)) (hc _ (by omega)) (c _ (by omega) _) (c _ (by omega) _) (c _ (by omega) _) (hc _ (by omega)) (hc _ (by omega)) (fun a _ _ => hc _ (by omega))⟩, ?_⟩
  obtain ⟨m1, m2, m3, ⟨r, r1, r2, r3⟩, m5, m6⟩ := mi
  unfold Rmisc
  rw [hc 0 (by omega), hc 351 (by omega), hc 349 (by omega), hc 366 (by omega), hc 12 (by omega), hc 355 (by omega)]
  refine ⟨m1, m2, m3, ⟨r + 1, by omega, ?_, fun k hk => ?_⟩, m5, m6⟩
  · rw [hr, r2, nI_1]
  · rcases hq k hk with z | z
    · exact ⟨r + 1, Nat.le_refl _, by rw [z, hr, r2, nI_1]⟩
    · obtain ⟨q, q1, q2⟩ := r3 k hk
      exact ⟨q, by omega, by rw [z]; exact q2⟩
end CG
