/-! FEED: bytes go onto both tapes -/
def psh1 (S : XS) (t : Nat) (l : List (Int32 × Int32)) : XS := wA (wA S 1 (pshL (S.1 1) t (l.map Prod.fst))) 0 (upd (S.1 0) 16 (nI (t + l.length)))
def psh2 (S : XS) (t : Nat) (l : List (Int32 × Int32)) : XS := wA (wA S 352 (pshL (S.1 352) t (l.map Prod.snd))) 351 (upd (S.1 351) 6 (nI (t + l.length)))
section FD
variable {S : XS} {c : Nat × Nat} {t : Nat} {l l' : List (Int32 × Int32)} {v s : Int32}
theorem nar_b {w : Int32} : vp_nar .byte w.toInt8.toInt32 = w.toInt8.toInt32 := by
  show w.toInt8.toInt32.toInt8.toInt32 = w.toInt8.toInt32
  rw [Int8.toInt8_toInt32]
theorem psh1_nil (h : S.1 0 16 = nI t) : psh1 S t [] = S := by
  unfold psh1
  rw [show pshL (S.1 1) t (List.map Prod.fst ([] : List (Int32 × Int32))) = S.1 1 from rfl, wA_self, show t + ([] : List (Int32 × Int32)).length = t from rfl, ← h, upd_self, wA_self]
theorem psh2_nil (h : S.1 351 6 = nI t) : psh2 S t [] = S := by
  unfold psh2
  rw [show pshL (S.1 352) t (List.map Prod.snd ([] : List (Int32 × Int32))) = S.1 352 from rfl, wA_self, show t + ([] : List (Int32 × Int32)).length = t from rfl, ← h, upd_self, wA_self]
theorem psh1_app : psh1 (psh1 S t l) (t + l.length) l' = psh1 S t (l ++ l') := by
  unfold psh1
  rw [wA_ne (show (1 : Nat) ≠ 0 by decide), wA_same, wA_same, upd_upd, wA_comm (show (0 : Nat) ≠ 1 by decide), wA_wA, wA_wA, List.map_append, pshL_app (f := S.1 1), List.length_map, List.length_append, Nat.add_assoc]
theorem psh2_app : psh2 (psh2 S t l) (t + l.length) l' = psh2 S t (l ++ l') := by
  unfold psh2
  rw [wA_ne (show (352 : Nat) ≠ 351 by decide), wA_same, wA_same, upd_upd, wA_comm (show (351 : Nat) ≠ 352 by decide), wA_wA, wA_wA, List.map_append, pshL_app (f := S.1 352), List.length_map, List.length_append, Nat.add_assoc]
theorem psh1_t : (psh1 S t l).1 0 16 = nI (t + l.length) := by
  unfold psh1
  rw [wA_same, upd_same]
theorem psh2_t : (psh2 S t l).1 351 6 = nI (t + l.length) := by
  unfold psh2
  rw [wA_same, upd_same]
theorem ap_step {n : Nat} (hs : ¬ s < 0) (h : S.1 0 16 = nI t) (hl : t + (bpS v s).length ≤ 240) : f_X11_append_b3 (n + 1) (hp S c) 0 v s = f_X11_append_b3 n (hp (psh1 S t (bpS v s)) c) 0 v (s + -8) := by
  rw [f_X11_append_b3, if_neg hs]
  unfold f_X11_append_b49
  by_cases e : ushr v s &&& 255 = 0
  · have eb : bpS v s = [] := if_pos e
    rw [if_pos e, eb, psh1_nil h]
  · have eb : bpS v s = [(ushr v s &&& 255, (shr v s).toInt8.toInt32)] := if_neg e
    rw [eb] at hl ⊢
    have hl' : t + 1 ≤ 240 := hl
    rw [if_neg e, g0_16, Option.bind_some, h, if_neg (by rw [show (240 : Int32) = nI 240 from rfl]; exact nI_ge (by omega) (by decide)), g0_0, Option.bind_some, Option.bind_some, q1 (by omega), Option.bind_some, g0_16, Option.bind_some, p0_16, Option.bind_some, wA_ne (show (0 : Nat) ≠ 1 by decide), h, nI_1]
    rfl
theorem pt_step {n : Nat} (hs : s = 24 ∨ s = 16 ∨ s = 8 ∨ s = 0) (h : S.1 351 6 = nI t) (hl : t + (bpS v s).length ≤ 240) : f_X12_put_b3 (n + 1) (hp S c) 351 v s = f_X12_put_b3 n (hp (psh2 S t (bpS v s)) c) 351 v (s + -8) := by
  have hs0 : ¬ s < 0 := by rcases hs with rfl | rfl | rfl | rfl <;> decide
  rw [f_X12_put_b3, if_neg hs0, sh_and hs]
  unfold f_X12_put_b43
  by_cases e : ushr v s &&& 255 = 0
  · have eb : bpS v s = [] := if_pos e
    rw [if_pos e, eb, psh2_nil h]
  · have eb : bpS v s = [(ushr v s &&& 255, (shr v s).toInt8.toInt32)] := if_neg e
    rw [eb] at hl ⊢
    have hl' : t + 1 ≤ 240 := hl
    rw [if_neg e, g351_1, Option.bind_some, g351_6, Option.bind_some, h, q352 (by omega), Option.bind_some, nar_b, g351_6, Option.bind_some, p351_6, Option.bind_some, wA_ne (show (351 : Nat) ≠ 352 by decide), h, nI_1]
    rfl
theorem X11_append (h : S.1 0 16 = nI t) (hl : t + (bp v).length ≤ 240) : f_X11_append (hp S c) 0 v = some (hp (psh1 S t (bp v)) c) := by
  unfold f_X11_append bp
  unfold bp at hl
  rw [List.length_append, List.length_append, List.length_append] at hl
  rw [k0, Option.bind_some, ap_step (n := 1048575) (by decide) h (by omega), show (24 : Int32) + -8 = 16 from rfl, ap_step (n := 1048574) (by decide) psh1_t (by omega), psh1_app, show (16 : Int32) + -8 = 8 from rfl, ap_step (n := 1048573) (by decide) psh1_t (by rw [List.length_append]; omega), psh1_app, show (8 : Int32) + -8 = 0 from rfl, ap_step (n := 1048572) (by decide) psh1_t (by rw [List.length_append, List.length_append]; omega), psh1_app, show (0 : Int32) + -8 = -8 from rfl, f_X11_append_b3, if_pos (by decide), List.append_assoc, List.append_assoc]
theorem X12_put (h : S.1 351 6 = nI t) (hl : t + (bp v).length ≤ 240) : f_X12_put (hp S c) 351 v = some (hp (psh2 S t (bp v)) c) := by
  unfold f_X12_put bp
  unfold bp at hl
  rw [List.length_append, List.length_append, List.length_append] at hl
  rw [k351, Option.bind_some, pt_step (n := 1048575) (by decide) h (by omega), show (24 : Int32) + -8 = 16 from rfl, pt_step (n := 1048574) (by decide) psh2_t (by omega), psh2_app, show (16 : Int32) + -8 = 8 from rfl, pt_step (n := 1048573) (by decide) psh2_t (by rw [List.length_append]; omega), psh2_app, show (8 : Int32) + -8 = 0 from rfl, pt_step (n := 1048572) (by decide) psh2_t (by rw [List.length_append, List.length_append]; omega), psh2_app, show (0 : Int32) + -8 = -8 from rfl, f_X12_put_b3, if_pos (by decide), List.append_assoc, List.append_assoc]
theorem cb_step {h : xa_H} {n k : Nat} (hs : ¬ s < 0) : f_X11_bytesIn_b5 (n + 1) h v (nI k) s = f_X11_bytesIn_b5 n h v (nI (k + (bpS v s).length)) (s + -8) := by
  rw [f_X11_bytesIn_b5, if_neg hs]
  unfold f_X11_bytesIn_b22 bpS
  by_cases e : ushr v s &&& 255 = 0
  · rw [if_pos e, if_pos e]
    rfl
  · rw [if_neg e, if_neg e, nI_1]
    rfl
theorem rb_step {h : xa_H} {n k : Nat} (hs : s = 24 ∨ s = 16 ∨ s = 8 ∨ s = 0) : f_X12_bytesIn_b5 (n + 1) h v (nI k) s = f_X12_bytesIn_b5 n h v (nI (k + (bpS v s).length)) (s + -8) := by
  have hs0 : ¬ s < 0 := by rcases hs with rfl | rfl | rfl | rfl <;> decide
  rw [f_X12_bytesIn_b5, if_neg hs0, sh_and hs]
  unfold f_X12_bytesIn_b25 bpS
  by_cases e : ushr v s &&& 255 = 0
  · rw [if_pos e, if_pos e, Int32.add_zero]
    rfl
  · rw [if_neg e, if_neg e, nI_1]
    rfl
theorem bp_l : 0 + (bpS v 24).length + (bpS v 16).length + (bpS v 8).length + (bpS v 0).length = (bp v).length := by
  unfold bp
  rw [List.length_append, List.length_append, List.length_append]
  omega
theorem X11_bytesIn {h : xa_H} : f_X11_bytesIn h v = some (nI (bp v).length) := by
  show f_X11_bytesIn_b5 1048576 h v (nI 0) 24 = _
  rw [cb_step (n := 1048575) (by decide), show (24 : Int32) + -8 = 16 from rfl, cb_step (n := 1048574) (by decide), show (16 : Int32) + -8 = 8 from rfl, cb_step (n := 1048573) (by decide), show (8 : Int32) + -8 = 0 from rfl, cb_step (n := 1048572) (by decide), show (0 : Int32) + -8 = -8 from rfl, f_X11_bytesIn_b5, if_pos (by decide), bp_l]
theorem X12_bytesIn {h : xa_H} : f_X12_bytesIn h v = some (nI (bp v).length) := by
  show f_X12_bytesIn_b5 1048576 h v (nI 0) 24 = _
  rw [rb_step (n := 1048575) (by decide), show (24 : Int32) + -8 = 16 from rfl, rb_step (n := 1048574) (by decide), show (16 : Int32) + -8 = 8 from rfl, rb_step (n := 1048573) (by decide), show (8 : Int32) + -8 = 0 from rfl, rb_step (n := 1048572) (by decide), show (0 : Int32) + -8 = -8 from rfl, f_X12_bytesIn_b5, if_pos (by decide), bp_l]
end FD
