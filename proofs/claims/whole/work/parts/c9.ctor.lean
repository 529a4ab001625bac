/-! THE CONSTRUCTORS: what they make -/
section CTR
variable {L T : List xa_C} {s : Nat}
def oB : xa_C := .inr (0, [.null, .null, .null, .null, .int 0, .int 0, .int 0, .int 0, .int 0])
def bdC (b : Nat) : List xa_C := [.inr (0, [.ref (b + 1), .ref (b + 2), .ref (b + 3), .ref (b + 4), .int 0, .int 0, .int 0, .int 0, .int 0]), zA 36, zA 6, zA 6, zA 6]
theorem in_X0 (L : List xa_C) (s : Nat) (hL : L.length < 99000000) : f_X0_init (hl (L ++ [oB]) s) L.length = some (hl (L ++ bdC L.length) (s + 54)) := by
  show f_X0_init (hm L oB [] s) L.length = _
  unfold f_X0_init oB
  rw [m_ck (show 0 ∈ [0] by decide), Option.bind_some]
  rw [nAI_n (l := 36) (m := 36) rfl (by decide)]
  refine Eq.trans (arr_step (show 0 ∈ [0] by decide) (show 0 < 9 by decide) (show L.length + 0 < 99999000 by omega)) ?_
  rw [nAI_n (l := 6) (m := 6) rfl (by decide)]
  refine Eq.trans (arr_step (show 0 ∈ [0] by decide) (show 1 < 9 by decide) (show L.length + 1 < 99999000 by omega)) ?_
  rw [nAI_n (l := 6) (m := 6) rfl (by decide)]
  refine Eq.trans (arr_step (show 0 ∈ [0] by decide) (show 2 < 9 by decide) (show L.length + 2 < 99999000 by omega)) ?_
  rw [nAI_n (l := 6) (m := 6) rfl (by decide)]
  refine Eq.trans (arr_step (show 0 ∈ [0] by decide) (show 3 < 9 by decide) (show L.length + 3 < 99999000 by omega)) ?_
  refine Eq.trans (put_step (show 0 ∈ [0] by decide) (show 4 < 9 by decide)) ?_
  refine Eq.trans (put_step (show 0 ∈ [0] by decide) (show 5 < 9 by decide)) ?_
  refine Eq.trans (put_step (show 0 ∈ [0] by decide) (show 6 < 9 by decide)) ?_
  refine Eq.trans (put_step (show 0 ∈ [0] by decide) (show 7 < 9 by decide)) ?_
  refine Eq.trans (put_step (show 0 ∈ [0] by decide) (show 8 < 9 by decide)) ?_
  exact congrArg (fun t => some (hl (L ++ bdC L.length) t)) (show s + 36 + 6 + 6 + 6 = s + 54 by omega)
def chC (b : Nat) : List xa_C := [.inr (1, [.ref (b + 1), .ref (b + 2), .ref (b + 3)]), zA 128, zA 128, zA 128]
def oCh : xa_C := .inr (1, [.null, .null, .null])
theorem in_X1 (L : List xa_C) (s : Nat) (hL : L.length < 99000000) : f_X1_init (hl (L ++ [oCh]) s) L.length = some (hl (L ++ chC L.length) (s + 384)) := by
  show f_X1_init (hm L oCh [] s) L.length = _
  unfold f_X1_init oCh
  rw [m_ck (show 1 ∈ [1] by decide), Option.bind_some]
  rw [nAI_n (l := 128) (m := 128) rfl (by decide)]
  refine Eq.trans (arr_step (show 1 ∈ [1] by decide) (show 0 < 3 by decide) (show L.length + 0 < 99999000 by omega)) ?_
  rw [nAI_n (l := 128) (m := 128) rfl (by decide)]
  refine Eq.trans (arr_step (show 1 ∈ [1] by decide) (show 1 < 3 by decide) (show L.length + 1 < 99999000 by omega)) ?_
  rw [nAI_n (l := 128) (m := 128) rfl (by decide)]
  refine Eq.trans (arr_step (show 1 ∈ [1] by decide) (show 2 < 3 by decide) (show L.length + 2 < 99999000 by omega)) ?_
  exact congrArg (fun t => some (hl (L ++ chC L.length) t)) (show s + 128 + 128 + 128 = s + 384 by omega)
theorem in_X4 {ci : Nat} {a0 a1 a2 a3 : Value} {fs : List Value} (hc : ci ∈ [2, 8, 9]) (hL : L.length < 99000000) : f_X4_init (hm L (.inr (ci, a0 :: a1 :: a2 :: a3 :: fs)) [] s) L.length = some (hm L (.inr (ci, .ref (L.length + 1) :: .int 0 :: .int 0 :: .int 0 :: fs)) [zA 0] (s + 0)) := by
  unfold f_X4_init
  rw [m_ck hc, Option.bind_some, nAI_n (l := 0) (m := 0) rfl (by decide)]
  refine Eq.trans (arr_step hc (Nat.succ_pos _) (show L.length + 0 < 99999000 by omega)) ?_
  refine Eq.trans (put_step hc (Nat.succ_lt_succ (Nat.succ_pos _))) ?_
  refine Eq.trans (put_step hc (Nat.succ_lt_succ (Nat.succ_lt_succ (Nat.succ_pos _)))) ?_
  refine Eq.trans (put_step hc (Nat.succ_lt_succ (Nat.succ_lt_succ (Nat.succ_lt_succ (Nat.succ_pos _))))) ?_
  rfl
def o9 : xa_C := .inr (9, [.null, .int 0, .int 0, .int 0, .null, .null, .int 0, .int 0, .int 0, .int 0])
def vrC (b : Nat) : List xa_C := .inr (9, [.ref (b + 1), .int 0, .int 0, .int 0, .ref (b + 2), .ref (b + 7), .int 0, .int 0, .int (-1), .int 0]) :: zA 0 :: (bdC (b + 2) ++ [zA 8])
theorem in_X9 (L : List xa_C) (s : Nat) (hL : L.length < 90000000) : f_X9_init (hl (L ++ [o9]) s) L.length = some (hl (L ++ vrC L.length) (s + 71)) := by
  show f_X9_init (hm L o9 [] s) L.length = _
  unfold f_X9_init o9
  rw [m_ck (show 9 ∈ [9] by decide), Option.bind_some, in_X4 (show 9 ∈ [2, 8, 9] by decide) (by omega), Option.bind_some]
  refine Eq.trans (sub_step (F := f_X0_init) (B := 99000000) in_X0 (show 9 ∈ [9] by decide) (show 4 < 10 by decide) (show L.length + 1 + 1 < 99000000 by omega) (show L.length + 1 < 99999000 by omega)) ?_
  rw [nAI_n (l := 8) (m := 8) rfl (by decide)]
  refine Eq.trans (arr_step (show 9 ∈ [9] by decide) (show 5 < 10 by decide) (show L.length + 6 < 99999000 by omega)) ?_
  refine Eq.trans (put_step (show 9 ∈ [9] by decide) (show 6 < 10 by decide)) ?_
  refine Eq.trans (put_step (show 9 ∈ [9] by decide) (show 7 < 10 by decide)) ?_
  refine Eq.trans (put_step (show 9 ∈ [9] by decide) (show 8 < 10 by decide)) ?_
  refine Eq.trans (put_step (show 9 ∈ [9] by decide) (show 9 < 10 by decide)) ?_
  exact congrArg (fun t => some (hl (L ++ vrC L.length) t)) (show s + 0 + 9 + 54 + 8 = s + 71 by omega)
def o2 : xa_C := .inr (2, [.null, .int 0, .int 0, .int 0, .null, .int 0, .int 0])
def lrC (b : Nat) : List xa_C := [.inr (2, [.ref (b + 1), .int 0, .int 0, .int 0, .ref (b + 2), .int 0, .int 0]), zA 0, zA 6]
theorem in_X2 (L : List xa_C) (s : Nat) (hL : L.length < 99000000) : f_X2_init (hl (L ++ [o2]) s) L.length = some (hl (L ++ lrC L.length) (s + 6)) := by
  show f_X2_init (hm L o2 [] s) L.length = _
  unfold f_X2_init o2
  rw [m_ck (show 2 ∈ [2] by decide), Option.bind_some, in_X4 (show 2 ∈ [2, 8, 9] by decide) hL, Option.bind_some, show sLen (1000000010 + 0) = some (nI 6) by decide +kernel, Option.bind_some]
  rw [nAI_n (l := nI 6) (m := 6) rfl (by decide)]
  refine Eq.trans (arr_step (show 2 ∈ [2] by decide) (show 4 < 7 by decide) (show L.length + 1 < 99999000 by omega)) ?_
  refine Eq.trans (put_step (show 2 ∈ [2] by decide) (show 5 < 7 by decide)) ?_
  refine Eq.trans (put_step (show 2 ∈ [2] by decide) (show 6 < 7 by decide)) ?_
  exact congrArg (fun t => some (hl (L ++ lrC L.length) t)) (show s + 0 + 6 = s + 6 by omega)
def o8 : xa_C := .inr (8, [.null, .int 0, .int 0, .int 0, .null, .int 0])
def srC (b : Nat) : List xa_C := [.inr (8, [.ref (b + 1), .int 0, .int 0, .int 0, .ref (b + 2), .int 0]), zA 0, zA 16]
theorem in_X8 (L : List xa_C) (s : Nat) (hL : L.length < 99000000) : f_X8_init (hl (L ++ [o8]) s) L.length = some (hl (L ++ srC L.length) (s + 16)) := by
  show f_X8_init (hm L o8 [] s) L.length = _
  unfold f_X8_init o8
  rw [m_ck (show 8 ∈ [8] by decide), Option.bind_some, in_X4 (show 8 ∈ [2, 8, 9] by decide) hL, Option.bind_some]
  rw [nAI_n (l := 16) (m := 16) rfl (by decide)]
  refine Eq.trans (arr_step (show 8 ∈ [8] by decide) (show 4 < 6 by decide) (show L.length + 1 < 99999000 by omega)) ?_
  refine Eq.trans (put_step (show 8 ∈ [8] by decide) (show 5 < 6 by decide)) ?_
  exact congrArg (fun t => some (hl (L ++ srC L.length) t)) (show s + 0 + 16 = s + 16 by omega)
def o5 : xa_C := .inr (5, [.null, .null, .int 0, .int 0])
def shC (m b : Nat) : List xa_C := [.inr (5, [.ref (b + 2), .ref (b + 1), .int (nI m), .int 0]), zA 4, .inl (5, 4, .inr (.inr (.inr (.inr (fun i => if i < 4 then some (b + 3 + 1 * i) else none))))), zA m, zA m, zA m, zA m]
theorem in_X5 {m : Nat} (hq : m ≤ 1000) (L : List xa_C) (s : Nat) (hL : L.length < 90000000) : f_X5_init (hl (L ++ [o5]) s) L.length (nI m) = some (hl (L ++ shC m L.length) (s + (8 + 4 * m))) := by
  show f_X5_init (hm L o5 [] s) L.length (nI m) = _
  unfold f_X5_init o5
  rw [m_ck (show 5 ∈ [5] by decide), Option.bind_some]
  rw [nAI_n (l := 4) (m := 4) rfl (by decide)]
  refine Eq.trans (arr_step (show 5 ∈ [5] by decide) (show 1 < 4 by decide) (show L.length + 0 < 99999000 by omega)) ?_
  refine Eq.trans (put_step (show 5 ∈ [5] by decide) (show 3 < 4 by decide)) ?_
  refine Eq.trans (put_step (show 5 ∈ [5] by decide) (show 2 < 4 by decide)) ?_
  refine Eq.trans (mul_step (n := 4) (q := m) rfl rfl (by decide) hq (show 5 ∈ [5] by decide) (show 0 < 4 by decide) (show L.length + 1 < 98999000 by omega)) ?_
  exact congrArg (fun t => some (hl (L ++ shC m L.length) t)) (show s + 4 + 4 + 4 * m = s + (8 + 4 * m) by omega)
def o6 : xa_C := .inr (6, [.null, .null, .null, .null, .null, .null, .int 0])
def siC (b : Nat) : List xa_C := [.inr (6, [.ref (b + 1), .ref (b + 2), .ref (b + 3), .ref (b + 4), .ref (b + 5), .ref (b + 6), .int 0]), zA 10, zA 10, zA 10, zA 10, .inl (2, 10, .inl (fun _ => 0)), .inl (5, 4, .inr (.inr (.inr (.inr (fun i => if i < 4 then some (b + 7 + 1 * i) else none))))), zA 10, zA 10, zA 10, zA 10]
theorem in_X6 (L : List xa_C) (s : Nat) (hL : L.length < 90000000) : f_X6_init (hl (L ++ [o6]) s) L.length = some (hl (L ++ siC L.length) (s + 94)) := by
  show f_X6_init (hm L o6 [] s) L.length = _
  unfold f_X6_init o6
  rw [m_ck (show 6 ∈ [6] by decide), Option.bind_some]
  rw [nAI_n (l := 10) (m := 10) rfl (by decide)]
  refine Eq.trans (arr_step (show 6 ∈ [6] by decide) (show 0 < 7 by decide) (show L.length + 0 < 99999000 by omega)) ?_
  rw [nAI_n (l := 10) (m := 10) rfl (by decide)]
  refine Eq.trans (arr_step (show 6 ∈ [6] by decide) (show 1 < 7 by decide) (show L.length + 1 < 99999000 by omega)) ?_
  rw [nAI_n (l := 10) (m := 10) rfl (by decide)]
  refine Eq.trans (arr_step (show 6 ∈ [6] by decide) (show 2 < 7 by decide) (show L.length + 2 < 99999000 by omega)) ?_
  rw [nAI_n (l := 10) (m := 10) rfl (by decide)]
  refine Eq.trans (arr_step (show 6 ∈ [6] by decide) (show 3 < 7 by decide) (show L.length + 3 < 99999000 by omega)) ?_
  rw [nAZ_n (l := 10) (m := 10) rfl (by decide)]
  refine Eq.trans (arr_step (show 6 ∈ [6] by decide) (show 4 < 7 by decide) (show L.length + 4 < 99999000 by omega)) ?_
  refine Eq.trans (mul_step (n := 4) (q := 10) rfl rfl (by decide) (by decide) (show 6 ∈ [6] by decide) (show 5 < 7 by decide) (show L.length + 5 < 98999000 by omega)) ?_
  refine Eq.trans (put_step (show 6 ∈ [6] by decide) (show 6 < 7 by decide)) ?_
  exact congrArg (fun t => some (hl (L ++ siC L.length) t)) (show s + 10 + 10 + 10 + 10 + 10 + 4 + 4 * 10 = s + 94 by omega)
end CTR
