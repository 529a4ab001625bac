/-! READING, of the reference -/
def rfS (S : XS) (p : Nat) (f : Int32) (d : Nat) : XS := wA S 351 (upd (upd (upd (S.1 351) 10 (nI p)) 11 f) 12 (nI d))
def Ty (S : XS) (T : Nat → Int32) (L : Nat) : Prop := L ≤ 240 ∧ S.1 351 9 = nI L ∧ ∃ n bg, S.1 351 8 = nI bg ∧ sh (S.2.2 351) = some (.inl (1, n, 0, 0)) ∧ bg + L ≤ n ∧ n < 2 ^ 31 ∧ S.2.2 351 ≠ 351 ∧ ∀ k, k < L → byR (T k) (S.1 (S.2.2 351) (bg + k))
theorem by_tab : ∀ i : Nat, i < 256 → (Int32.ofInt ((i : Int) - 128) = 32 ↔ Int32.ofInt ((i : Int) - 128) &&& 255 = 32) ∧ isDg (Int32.ofInt ((i : Int) - 128)) = isDg (Int32.ofInt ((i : Int) - 128) &&& 255) ∧ (isDg (Int32.ofInt ((i : Int) - 128)) = true → Int32.ofInt ((i : Int) - 128) &&& 255 = Int32.ofInt ((i : Int) - 128)) := by decide +kernel
theorem byR.tab {u v : Int32} (h : byR u v) : (v = 32 ↔ u = 32) ∧ isDg v = isDg u ∧ (isDg u = true → v = u) := by
  obtain ⟨-, h1, h2, h3⟩ := h
  have e : v = Int32.ofInt (((v.toInt + 128).toNat : Int) - 128) := by
    rw [show ((v.toInt + 128).toNat : Int) - 128 = v.toInt by omega, Int32.ofInt_toInt]
  have t := by_tab (v.toInt + 128).toNat (by omega)
  rw [← e, h1] at t
  exact ⟨t.1, t.2.1, fun z => (t.2.2 (by rw [t.2.1]; exact z)).symm⟩
theorem byR.and {u v : Int32} (h : byR u v) : v &&& 255 = u := h.2.1
theorem byR.ne {u v : Int32} (h : byR u v) : u ≠ -1 ∧ u ≠ 0 := by
  obtain ⟨⟨b, b1, b2, rfl⟩, -⟩ := h
  exact ⟨m1_ne (by omega), nI_ne0 b1 (by omega)⟩
section RF
variable {S : XS} {c : Nat × Nat} {p q d d' : Nat} {f f' : Int32} {T : Nat → Int32} {L : Nat}
theorem rfS_ne {a : Nat} (h : a ≠ 351) : (rfS S p f d).1 a = S.1 a := wA_ne h
theorem rfS_22 : (rfS S p f d).2 = S.2 := rfl
theorem rfS_at : (rfS S p f d).1 351 10 = nI p := by
  unfold rfS
  rw [wA_same, upd_ne (by decide), upd_ne (by decide), upd_same]
theorem rfS_f : (rfS S p f d).1 351 11 = f := by
  unfold rfS
  rw [wA_same, upd_ne (by decide), upd_same]
theorem rfS_d : (rfS S p f d).1 351 12 = nI d := by
  unfold rfS
  rw [wA_same, upd_same]
theorem rfS_k {k : Nat} (h1 : k ≠ 10) (h2 : k ≠ 11) (h3 : k ≠ 12) : (rfS S p f d).1 351 k = S.1 351 k := by
  unfold rfS
  rw [wA_same, upd_ne h3, upd_ne h2, upd_ne h1]
theorem rfS_p10 : wA (rfS S p f d) 351 (upd ((rfS S p f d).1 351) 10 (nI q)) = rfS S q f d := by
  unfold rfS
  rw [wA_wA, wA_same, upd_comm (k := 12) (j := 10) (by decide), upd_comm (k := 11) (j := 10) (by decide), upd_upd]
theorem rfS_p11 : wA (rfS S p f d) 351 (upd ((rfS S p f d).1 351) 11 f') = rfS S p f' d := by
  unfold rfS
  rw [wA_wA, wA_same, upd_comm (k := 12) (j := 11) (by decide), upd_upd]
theorem rfS_p12 : wA (rfS S p f d) 351 (upd ((rfS S p f d).1 351) 12 (nI d')) = rfS S p f d' := by
  unfold rfS
  rw [wA_wA, wA_same, upd_upd]
theorem rfS_put {k : Nat} {v : Int32} (h1 : k ≠ 10) (h2 : k ≠ 11) (h3 : k ≠ 12) : wA (rfS S p f d) 351 (upd ((rfS S p f d).1 351) k v) = rfS (wA S 351 (upd (S.1 351) k v)) p f d := by
  unfold rfS
  rw [wA_wA, wA_same, wA_wA, wA_same]
  congr 1
  rw [upd_comm (k := 12) (j := k) h3.symm, upd_comm (k := 11) (j := k) h2.symm, upd_comm (k := 10) (j := k) h1.symm]
theorem Ty.get (Y : Ty S T L) (hk : q < L) : ∃ v bg, S.1 351 8 = nI bg ∧ byR (T q) v ∧ ∀ p f d, aB (hp (rfS S p f d) c) (S.2.2 351) (nI (bg + q)) = some v := by
  obtain ⟨h1, h2, n, bg, h3, h4, h5, h6, h7, h8⟩ := Y
  refine ⟨_, bg, h3, h8 q hk, fun p f d => ?_⟩
  rw [aB_hp h4 (by omega) h6, rfS_ne h7]
theorem Ty.bg (Y : Ty S T L) : (rfS S p f d).1 351 8 = S.1 351 8 := rfS_k (by decide) (by decide) (by decide)
theorem Ty.len (Y : Ty S T L) : (rfS S p f d).1 351 9 = nI L := by
  rw [rfS_k (by decide) (by decide) (by decide)]
  exact Y.2.1
theorem rf_look_loop (Y : Ty S T L) : ∀ (m p n : Nat), p + m = L → m < n → f_X12_look_b0 n (hp (rfS S p f d) c) 351 = some (pk T L p, hp (rfS S (sk T L p) f d) c)
  | 0, p, 0, _, h => by omega
  | 0, p, n + 1, hp', _ => by
    have hL := Y.1
    rw [f_X12_look_b0, g351_10, Option.bind_some, g351_9, Option.bind_some, Y.len, rfS_at, if_pos (nI_le (by omega) (by omega))]
    unfold f_X12_look_b43 pk
    rw [g351_10, Option.bind_some, g351_9, Option.bind_some, Y.len, rfS_at, if_pos (nI_le (by omega) (by omega)), sk_no (fun z => by omega), if_neg (by omega)]
  | m + 1, p, 0, _, h => by omega
  | m + 1, p, n + 1, hp', hn => by
    have hL := Y.1
    obtain ⟨v, bg, hb, hv, hg⟩ := Y.get (c := c) (show p < L by omega)
    rw [f_X12_look_b0, g351_10, Option.bind_some, g351_9, Option.bind_some, Y.len, rfS_at, if_neg (nI_ge (by omega) (by omega)), g351_5, Option.bind_some, g351_8, Option.bind_some, Option.bind_some, rfS_22, Y.bg, hb, nI_add, hg, Option.bind_some]
    by_cases e : v = 32
    · rw [if_pos e, Option.bind_some, nI_1, p351_10, Option.bind_some, rfS_p10, rf_look_loop Y m (p + 1) n (by omega) (by omega)]
      unfold pk
      rw [sk_yes (p := p) (by omega) (hv.tab.1.mp e)]
    · have e' : ¬ T p = 32 := fun z => e (hv.tab.1.mpr z)
      rw [if_neg e]
      unfold f_X12_look_b43 pk
      rw [g351_10, Option.bind_some, g351_9, Option.bind_some, Y.len, rfS_at, if_neg (nI_ge (by omega) (by omega)), g351_5, Option.bind_some, g351_8, Option.bind_some, Option.bind_some, rfS_22, Y.bg, hb, nI_add, hg, Option.bind_some, hv.and, sk_no (fun z => e' z.2), if_pos (by omega)]
theorem rf_look (Y : Ty S T L) (hp' : p ≤ L) : f_X12_look (hp (rfS S p f d) c) 351 = some (pk T L p, hp (rfS S (sk T L p) f d) c) := by
  have hL := Y.1
  unfold f_X12_look
  rw [k351, Option.bind_some, rf_look_loop Y (L - p) p 1048576 (by omega) (by omega)]
theorem rf_fails : f_X12_fails (hp (rfS S p (-1) d) c) 351 = some (0, hp (rfS S p (nI p) d) c) := by
  unfold f_X12_fails
  rw [k351, Option.bind_some, g351_11, Option.bind_some, rfS_f, if_pos rfl, g351_10, Option.bind_some, rfS_at, p351_11, Option.bind_some, rfS_p11]
theorem rf_fails_f (h : f ≠ -1) : f_X12_fails (hp (rfS S p f d) c) 351 = some (0, hp (rfS S p f d) c) := by
  unfold f_X12_fails
  rw [k351, Option.bind_some, g351_11, Option.bind_some, rfS_f, if_neg h]
theorem zq0 : zq 0 = some 0 := rfl
theorem zq1 : zq 1 = some 1 := rfl
theorem zqb {b : Bool} : zq (bI b) = some (bI b) := by cases b <;> rfl
theorem rf_takes (Y : Ty S T L) (hp' : p ≤ L) {ch : Int32} : f_X12_takes (hp (rfS S p (-1) d) c) 351 ch = some (bI (decide (pk T L p = ch)), hp (if pk T L p = ch then rfS S (sk T L p + 1) (-1) d else rfS S (sk T L p) (nI (sk T L p)) d) c) := by
  unfold f_X12_takes f_X12_takes_b16
  rw [k351, Option.bind_some, g351_11, Option.bind_some, rfS_f, if_pos rfl, rf_look Y hp', Option.bind_some]
  by_cases e : pk T L p = ch
  · rw [if_pos e, if_pos e, g351_10, Option.bind_some, rfS_at, nI_1, p351_10, Option.bind_some, rfS_p10, decide_eq_true e]
    rfl
  · rw [if_neg e, if_neg e, rf_fails, Option.bind_some, zq0, Option.bind_some, decide_eq_false e]
    rfl
theorem rf_takes_f (h : f ≠ -1) {ch : Int32} : f_X12_takes (hp (rfS S p f d) c) 351 ch = some (0, hp (rfS S p f d) c) := by
  unfold f_X12_takes f_X12_takes_b16
  rw [k351, Option.bind_some, g351_11, Option.bind_some, rfS_f, if_neg h, rf_fails_f h, Option.bind_some, zq0, Option.bind_some]
theorem rf_goesIn (hd : d < 6) : f_X12_goesIn (hp (rfS S p f d) c) 351 = some (1, hp (rfS S (p + 1) f (d + 1)) c) := by
  unfold f_X12_goesIn
  rw [k351, Option.bind_some, g351_12, Option.bind_some, rfS_d, if_neg (fun z => by rw [show (6 : Int32) = nI 6 from rfl, nI_eq (by omega) (by decide)] at z; omega), Option.bind_some, nI_1, p351_12, Option.bind_some, rfS_p12, g351_10, Option.bind_some, rfS_at, nI_1, p351_10, Option.bind_some, rfS_p10]
theorem rf_goesIn6 : f_X12_goesIn (hp (rfS S p (-1) 6) c) 351 = some (0, hp (rfS S p (nI p) 6) c) := by
  unfold f_X12_goesIn
  rw [k351, Option.bind_some, g351_12, Option.bind_some, rfS_d, if_pos (show nI 6 = 6 from rfl), rf_fails, Option.bind_some, zq0, Option.bind_some]
theorem rf_isDigit (Y : Ty S T L) (hpL : p ≤ L) : f_X12_isDigit (hp (rfS S p f d) c) 351 = some (bI (decide (p < L) && isDg (T p))) := by
  have hL := Y.1
  unfold f_X12_isDigit
  rw [k351, Option.bind_some, g351_10, Option.bind_some, g351_9, Option.bind_some, Y.len, rfS_at]
  by_cases e : p < L
  · obtain ⟨v, bg, hb, hv, hg⟩ := Y.get (c := c) e
    rw [if_neg (nI_ge (by omega) (by omega)), g351_5, Option.bind_some, g351_8, Option.bind_some, Option.bind_some, rfS_22, Y.bg, hb, nI_add, hg, Option.bind_some, decide_eq_true e, Bool.true_and, ← hv.tab.2.1]
    unfold isDg
    by_cases e1 : v < 48
    · rw [if_pos e1, decide_eq_true e1]
      rfl
    · rw [if_neg e1, Option.bind_some, Option.bind_some, Option.bind_some, nI_add, hg, Option.bind_some, decide_eq_false e1]
      by_cases e2 : 57 < v
      · rw [if_pos e2, decide_eq_true e2]
        rfl
      · rw [if_neg e2, decide_eq_false e2]
        rfl
  · rw [if_pos (nI_le (by omega) (by omega)), decide_eq_false e]
    rfl
end RF
