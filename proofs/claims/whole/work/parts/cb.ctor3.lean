/-! THE OBJECTS of the law: class and reference -/
section CT3
def o11 : xa_C := .inr (11, [.null, .null, .null, .null, .null, .null, .null, .null, .null, .null, .null, .null, .null, .null, .null, .null, .int 0, .int 0, .int 0])
def clT : List xa_C := [zA 240] ++ vrC 2 ++ lrC 10 ++ srC 13 ++ shC 240 16 ++ shC 16 23 ++ bdC 30 ++ bdC 35 ++ bdC 40 ++ chC 45 ++ meC 49 ++ siC 260 ++ waC 271 ++ slC 301 ++ [zA 6] ++ [zA 6]
def clO : xa_C := .inr (11, [.ref 1, .ref 2, .ref 10, .ref 13, .ref 16, .ref 23, .ref 30, .ref 35, .ref 40, .ref 45, .ref 49, .ref 260, .ref 271, .ref 301, .ref 349, .ref 350, .int 0, .int (-1), .int 2])
set_option maxRecDepth 20000 in
theorem in_X11 (s : Nat) : f_X11_init (hm [] o11 [] s) 0 = some (hl (clO :: clT) (s + 12164)) := by
  unfold f_X11_init o11
  rw [show ck [11] (hm [] (.inr (11, [.null, .null, .null, .null, .null, .null, .null, .null, .null, .null, .null, .null, .null, .null, .null, .null, .int 0, .int 0, .int 0])) [] s) 0 = some () from m_ck (L := []) (show 11 ∈ [11] by decide), Option.bind_some]
  rw [nAI_n (l := 240) (m := 240) rfl (by decide)]
  refine Eq.trans (arr_step (L := []) (show 11 ∈ [11] by decide) (show 0 < 19 by decide) (show 0 + 0 < 99999000 by decide)) ?_
  refine Eq.trans (sub_step (L := []) (F := f_X9_init) (B := 90000000) in_X9 (show 11 ∈ [11] by decide) (show 1 < 19 by decide) (show 0 + 1 + 1 < 90000000 by decide) (show 0 + 1 < 99999000 by decide)) ?_
  refine Eq.trans (sub_step (L := []) (F := f_X2_init) (B := 99000000) in_X2 (show 11 ∈ [11] by decide) (show 2 < 19 by decide) (show 0 + 1 + 9 < 99000000 by decide) (show 0 + 9 < 99999000 by decide)) ?_
  refine Eq.trans (sub_step (L := []) (F := f_X8_init) (B := 99000000) in_X8 (show 11 ∈ [11] by decide) (show 3 < 19 by decide) (show 0 + 1 + 12 < 99000000 by decide) (show 0 + 12 < 99999000 by decide)) ?_
  refine Eq.trans (sub_step (L := []) (F := fun h a => f_X5_init h a (240 : Int32)) (B := 90000000) (fun L s h => in_X5 (m := 240) (by decide) L s h) (show 11 ∈ [11] by decide) (show 4 < 19 by decide) (show 0 + 1 + 15 < 90000000 by decide) (show 0 + 15 < 99999000 by decide)) ?_
  refine Eq.trans (sub_step (L := []) (F := fun h a => f_X5_init h a (16 : Int32)) (B := 90000000) (fun L s h => in_X5 (m := 16) (by decide) L s h) (show 11 ∈ [11] by decide) (show 5 < 19 by decide) (show 0 + 1 + 22 < 90000000 by decide) (show 0 + 22 < 99999000 by decide)) ?_
  refine Eq.trans (sub_step (L := []) (F := f_X0_init) (B := 99000000) in_X0 (show 11 ∈ [11] by decide) (show 6 < 19 by decide) (show 0 + 1 + 29 < 99000000 by decide) (show 0 + 29 < 99999000 by decide)) ?_
  refine Eq.trans (sub_step (L := []) (F := f_X0_init) (B := 99000000) in_X0 (show 11 ∈ [11] by decide) (show 7 < 19 by decide) (show 0 + 1 + 34 < 99000000 by decide) (show 0 + 34 < 99999000 by decide)) ?_
  refine Eq.trans (sub_step (L := []) (F := f_X0_init) (B := 99000000) in_X0 (show 11 ∈ [11] by decide) (show 8 < 19 by decide) (show 0 + 1 + 39 < 99000000 by decide) (show 0 + 39 < 99999000 by decide)) ?_
  refine Eq.trans (sub_step (L := []) (F := f_X1_init) (B := 99000000) in_X1 (show 11 ∈ [11] by decide) (show 9 < 19 by decide) (show 0 + 1 + 44 < 99000000 by decide) (show 0 + 44 < 99999000 by decide)) ?_
  refine Eq.trans (sub_step (L := []) (F := f_X3_init) (B := 80000000) in_X3 (show 11 ∈ [11] by decide) (show 10 < 19 by decide) (show 0 + 1 + 48 < 80000000 by decide) (show 0 + 48 < 99999000 by decide)) ?_
  refine Eq.trans (sub_step (L := []) (F := f_X6_init) (B := 90000000) in_X6 (show 11 ∈ [11] by decide) (show 11 < 19 by decide) (show 0 + 1 + 259 < 90000000 by decide) (show 0 + 259 < 99999000 by decide)) ?_
  refine Eq.trans (sub_step (L := []) (F := f_X10_init) (B := 80000000) in_X10 (show 11 ∈ [11] by decide) (show 12 < 19 by decide) (show 0 + 1 + 270 < 80000000 by decide) (show 0 + 270 < 99999000 by decide)) ?_
  refine Eq.trans (sub_step (L := []) (F := f_X7_init) (B := 80000000) in_X7 (show 11 ∈ [11] by decide) (show 13 < 19 by decide) (show 0 + 1 + 300 < 80000000 by decide) (show 0 + 300 < 99999000 by decide)) ?_
  rw [nAI_n (l := 6) (m := 6) rfl (by decide)]
  refine Eq.trans (arr_step (L := []) (show 11 ∈ [11] by decide) (show 14 < 19 by decide) (show 0 + 348 < 99999000 by decide)) ?_
  rw [nAI_n (l := 6) (m := 6) rfl (by decide)]
  refine Eq.trans (arr_step (L := []) (show 11 ∈ [11] by decide) (show 15 < 19 by decide) (show 0 + 349 < 99999000 by decide)) ?_
  refine Eq.trans (put_step (L := []) (show 11 ∈ [11] by decide) (show 16 < 19 by decide)) ?_
  refine Eq.trans (put_step (L := []) (show 11 ∈ [11] by decide) (show 17 < 19 by decide)) ?_
  refine Eq.trans (put_step (L := []) (show 11 ∈ [11] by decide) (show 18 < 19 by decide)) ?_
  exact congrArg (fun t => some (hl (clO :: clT) t)) (show s + 240 + 10 + 71 + 7 + 6 + 6 + 16 + 4 + 968 + 4 + 72 + 9 + 54 + 9 + 54 + 9 + 54 + 3 + 384 + 6 + 3010 + 7 + 94 + 11 + 6464 + 4 + 576 + 6 + 6 = s + 12164 by omega)
end CT3
