/-! TEXT: a village, the reference's end and the class's -/
section TX6
variable {S : XS} {c : Nat × Nat} {n N F : Nat}
theorem rt_222 : f_X12_text_b222 1048576 (hp S c) 351 0 = f_X12_text_b247 1048576 (hp (wA S 356 (cpR (S.1 357) (S.1 356) 2)) c) 351 0 := by
  have h0 : S = wA S 356 (cpR (S.1 357) (S.1 356) 0) := by rw [cpR_0, wA_self]
  have l0 : f_X12_text_b222 1048576 (hp (wA S 356 (cpR (S.1 357) (S.1 356) 0)) c) 351 (nI 0) = f_X12_text_b247 1048576 (hp (wA S 356 (cpR (S.1 357) (S.1 356) 2)) c) 351 0 := by
    refine lp (N := 2) (fun n k => f_X12_text_b222 n (hp (wA S 356 (cpR (S.1 357) (S.1 356) k)) c) 351 (nI k)) (fun n => ?_) (fun n k hk => ?_) 2 0 1048576 (by omega) (by omega)
    · show f_X12_text_b222 (n + 1) _ 351 (nI 2) = _
      rw [f_X12_text_b222, if_pos (by decide)]
    · show f_X12_text_b222 (n + 1) _ 351 (nI k) = _
      rw [f_X12_text_b222, if_neg (by rw [show (2 : Int32) = nI 2 from rfl]; exact nI_ge hk (by decide)), g351_18, Option.bind_some, g351_19, Option.bind_some, a357 hk, Option.bind_some, q356 hk, Option.bind_some, nI_1, wA_wA, wA_same, wA_ne (show (357 : Nat) ≠ 356 by decide), cpR_step]
  rw [← h0] at l0
  exact l0
theorem rt_247 : f_X12_text_b247 1048576 (hp S c) 351 0 = f_X12_text_b273 1048576 (hp (wA S 358 (cpR (S.1 359) (S.1 358) 18)) c) 351 0 := by
  have h0 : S = wA S 358 (cpR (S.1 359) (S.1 358) 0) := by rw [cpR_0, wA_self]
  have l0 : f_X12_text_b247 1048576 (hp (wA S 358 (cpR (S.1 359) (S.1 358) 0)) c) 351 (nI 0) = f_X12_text_b273 1048576 (hp (wA S 358 (cpR (S.1 359) (S.1 358) 18)) c) 351 0 := by
    refine lp (N := 18) (fun n k => f_X12_text_b247 n (hp (wA S 358 (cpR (S.1 359) (S.1 358) k)) c) 351 (nI k)) (fun n => ?_) (fun n k hk => ?_) 18 0 1048576 (by omega) (by omega)
    · show f_X12_text_b247 (n + 1) _ 351 (nI 18) = _
      rw [f_X12_text_b247, if_pos (by decide)]
    · show f_X12_text_b247 (n + 1) _ 351 (nI k) = _
      rw [f_X12_text_b247, if_neg (by rw [show (18 : Int32) = nI 18 from rfl]; exact nI_ge hk (by decide)), g351_20, Option.bind_some, g351_21, Option.bind_some, a359 hk, Option.bind_some, q358 hk, Option.bind_some, nI_1, wA_wA, wA_same, wA_ne (show (359 : Nat) ≠ 358 by decide), cpR_step]
  rw [← h0] at l0
  exact l0
def t273 (S : XS) (row : Nat → Int32) : XS := wA (wA S 364 row) 351 (upd (upd (upd (S.1 351) 51 0) 40 0) 56 0)
theorem rt_273 (hN : S.1 351 26 = nI N) (h6 : N ≤ 6) (hF : S.1 351 27 = nI F) (h12 : F ≤ 12) (he : ∀ k, k < F → ∃ x y, x < 6 ∧ y < 6 ∧ S.1 361 (3 * k) = nI x ∧ S.1 361 (3 * k + 1) = nI y) : ∃ row, f_X12_text_b273 1048576 (hp S c) 351 0 = some (nI N, hp (t273 (wA S 360 (cpR (S.1 361) (S.1 360) 36)) row) c) ∧ ∀ i, i < 232 → row i = lyR (cpR (S.1 361) (S.1 360) 36) (S.1 358) (S.1 356 0) F N i := by
  have h0 : S = wA S 360 (cpR (S.1 361) (S.1 360) 0) := by rw [cpR_0, wA_self]
  obtain ⟨row, e1, e2⟩ := r_lays (S := wA S 360 (cpR (S.1 361) (S.1 360) 36)) (c := c) (N := N) (F := F) (by rw [wA_ne (by decide)]; exact hN) h6 (by rw [wA_ne (by decide)]; exact hF) h12 (fun k hk => by
    obtain ⟨x, y, hx, hy, ex, ey⟩ := he k hk
    refine ⟨x, y, hx, hy, ?_, ?_⟩
    · rw [wA_same]
      show (if 3 * k < 36 then _ else _) = _
      rw [if_pos (by omega), ex]
    · rw [wA_same]
      show (if 3 * k + 1 < 36 then _ else _) = _
      rw [if_pos (by omega), ey])
  rw [wA_same, wA_ne (by decide), wA_ne (by decide)] at e2
  refine ⟨row, ?_, e2⟩
  have l0 : f_X12_text_b273 1048576 (hp (wA S 360 (cpR (S.1 361) (S.1 360) 0)) c) 351 (nI 0) = some (nI N, hp (t273 (wA S 360 (cpR (S.1 361) (S.1 360) 36)) row) c) := by
    refine lp (N := 36) (fun n k => f_X12_text_b273 n (hp (wA S 360 (cpR (S.1 361) (S.1 360) k)) c) 351 (nI k)) (fun n => ?_) (fun n k hk => ?_) 36 0 1048576 (by omega) (by omega)
    · show f_X12_text_b273 (n + 1) _ 351 (nI 36) = _
      rw [f_X12_text_b273, if_pos (by decide), g351_32, Option.bind_some, e1, Option.bind_some, p351_51, Option.bind_some, p351_40, Option.bind_some, wA_wA, wA_same, p351_56, Option.bind_some, wA_wA, wA_same, g351_26, Option.bind_some, wA_same, upd_ne (by decide), upd_ne (by decide), upd_ne (by decide), wA_ne (show 351 ≠ 364 by decide), wA_ne (show 351 ≠ 360 by decide), hN]
      unfold t273
      rw [wA_ne (show 351 ≠ 360 by decide)]
    · show f_X12_text_b273 (n + 1) _ 351 (nI k) = _
      rw [f_X12_text_b273, if_neg (by rw [show (36 : Int32) = nI 36 from rfl]; exact nI_ge hk (by decide)), g351_22, Option.bind_some, g351_23, Option.bind_some, a361 hk, Option.bind_some, q360 hk, Option.bind_some, nI_1, wA_wA, wA_same, wA_ne (show (361 : Nat) ≠ 360 by decide), cpR_step]
  rw [← h0] at l0
  exact l0
/-- the class settles -/
theorem X11_settle {V : VD} (H : cV S V) : ∃ S', f_X11_settle (hp S c) 0 = some (nI V.2.1.1, hp S' c) ∧ cpB S' 30 S 4 ∧ cpB S' 35 S 4 ∧ S'.1 49 = upd (upd (upd (S.1 49) 3 0) 4 0) 5 0 ∧ S'.1 260 = upd (S.1 260) 6 0 ∧ ∀ a, (a < 30 ∨ 39 < a) → a ≠ 49 → a ≠ 260 → S'.1 a = S.1 a := by
  obtain ⟨S1, e1, e2, e3⟩ := B35.become (S := S) (c := c) B4 (by decide)
  obtain ⟨S2, y1, y2, y3⟩ := B30.become (S := S1) (c := c) B35 (by decide)
  have n4 : S2.1 30 4 = nI V.2.1.1 := by
    rw [y2.2.2.2.2 4 (by decide) (by decide), e2.2.2.2.2 4 (by decide) (by decide)]
    exact H.2.2.2.2.1
  refine ⟨wA (wA S2 49 (upd (upd (upd (S2.1 49) 3 0) 4 0) 5 0)) 260 (upd (S2.1 260) 6 0), ?_, ?_, ?_, ?_, ?_, ?_⟩
  · unfold f_X11_settle f_X3_forgetActs
    rw [k0, Option.bind_some, g0_7, Option.bind_some, g0_1, Option.bind_some, g2_4, Option.bind_some, e1, Option.bind_some, g0_6, Option.bind_some, g0_7, Option.bind_some, y1, Option.bind_some, g0_10, Option.bind_some, k49, Option.bind_some, p49_3, Option.bind_some, p49_4, Option.bind_some, wA_wA, wA_same, Option.bind_some, g0_10, Option.bind_some, p49_5, Option.bind_some, wA_wA, wA_same, g0_11, Option.bind_some, p260_6, Option.bind_some, g0_6, Option.bind_some, B30.g4, Option.bind_some, wA_ne (show 260 ≠ 49 by decide), wA_ne (show 30 ≠ 260 by decide), wA_ne (show 30 ≠ 49 by decide), n4]
  · obtain ⟨a1, a2, a3, a4, a5⟩ := y2
    obtain ⟨b1, b2, b3, b4, b5⟩ := e2
    refine ⟨fun k hk => ?_, fun k hk => ?_, fun k hk => ?_, fun k hk => ?_, fun k h4 h9 => ?_⟩
    · rw [wA_ne (by decide), wA_ne (by decide), a1 k hk, b1 k hk]
    · rw [wA_ne (by decide), wA_ne (by decide), a2 k hk, b2 k hk]
    · rw [wA_ne (by decide), wA_ne (by decide), a3 k hk, b3 k hk]
    · rw [wA_ne (by decide), wA_ne (by decide), a4 k hk, b4 k hk]
    · rw [wA_ne (by decide), wA_ne (by decide), a5 k h4 h9, b5 k h4 h9]
  · obtain ⟨b1, b2, b3, b4, b5⟩ := e2
    refine ⟨fun k hk => ?_, fun k hk => ?_, fun k hk => ?_, fun k hk => ?_, fun k h4 h9 => ?_⟩
    · rw [wA_ne (by decide), wA_ne (by decide), y3.1 _ (by decide), b1 k hk]
    · rw [wA_ne (by decide), wA_ne (by decide), y3.1 _ (by decide), b2 k hk]
    · rw [wA_ne (by decide), wA_ne (by decide), y3.1 _ (by decide), b3 k hk]
    · rw [wA_ne (by decide), wA_ne (by decide), y3.1 _ (by decide), b4 k hk]
    · rw [wA_ne (by decide), wA_ne (by decide), y3.1 _ (by decide), b5 k h4 h9]
  · rw [wA_ne (by decide), wA_same, y3.1 _ (by decide), e3.1 _ (by decide)]
  · rw [wA_same, y3.1 _ (by decide), e3.1 _ (by decide)]
  · intro a h1 h2 h3
    rw [wA_ne h3, wA_ne h2, y3.1 _ (by omega), e3.1 _ (by omega)]
end TX6
