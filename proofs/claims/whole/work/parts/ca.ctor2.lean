/-! arrays of boards, and the objects that hold them -/
section CT2
variable {L R T : List xa_C} {o : xa_C} {s n : Nat} {β : Type}
def arr4 (n : Nat) (f : Nat → Option Nat) : xa_C := .inl (4, n, .inr (.inr (.inr (.inr f))))
def bds (a0 : Nat) : Nat → List xa_C
  | 0 => []
  | k + 1 => bds a0 k ++ bdC (a0 + 5 * k)
def afn (a0 k : Nat) : Nat → Option Nat := fun i => if i < k then some (a0 + 5 * i) else none
theorem bds_len (a0 : Nat) : ∀ k, (bds a0 k).length = 5 * k
  | 0 => rfl
  | k + 1 => by
    show (bds a0 k ++ bdC (a0 + 5 * k)).length = _
    rw [List.length_append, bds_len a0 k]
    show 5 * k + 5 = _
    omega
theorem afn_up {a0 k : Nat} : va_up (afn a0 k) k (some (a0 + 5 * k)) = afn a0 (k + 1) := by
  funext i
  unfold va_up afn
  by_cases e : i = k
  · rw [if_pos e, if_pos (by omega), e]
  · rw [if_neg e]
    by_cases q : i < k
    · rw [if_pos q, if_pos (by omega)]
    · rw [if_neg q, if_neg (by omega)]
theorem bd_step {k a0 : Nat} {K : xa_H → Option β} (hk : k < n) (hn : n ≤ 1000) (ha : a0 = L.length + 2 + R.length) (hb : L.length + R.length < 98900000) : ((nC (hm L o (arr4 n (afn a0 k) :: (R ++ bds a0 k)) s) oB 9).bind fun h3 => (f_X0_init h3 (hm L o (arr4 n (afn a0 k) :: (R ++ bds a0 k)) s).2.1).bind fun q4 => (pR q4 (L.length + 1) (nI k) (hm L o (arr4 n (afn a0 k) :: (R ++ bds a0 k)) s).2.1).bind K) = K (hm L o (arr4 n (afn a0 (k + 1)) :: (R ++ bds a0 (k + 1))) (s + 63)) := by
  have tl : (arr4 n (afn a0 k) :: (R ++ bds a0 k)).length = R.length + 5 * k + 1 := by
    rw [List.length_cons, List.length_append, bds_len]
  have ea : L.length + 1 + (arr4 n (afn a0 k) :: (R ++ bds a0 k)).length = a0 + 5 * k := by rw [tl]; omega
  rw [m_nC (by rw [tl]; omega), Option.bind_some, hm_2, ea]
  have e : hm L o ((arr4 n (afn a0 k) :: (R ++ bds a0 k)) ++ [oB]) (s + 9) = hl ((L ++ o :: arr4 n (afn a0 k) :: (R ++ bds a0 k)) ++ [oB]) (s + 9) := by
    unfold hm
    simp only [List.append_assoc, List.cons_append]
  have el : (L ++ o :: arr4 n (afn a0 k) :: (R ++ bds a0 k)).length = a0 + 5 * k := by
    rw [List.length_append, List.length_cons, tl]
    omega
  have h := in_X0 (L ++ o :: arr4 n (afn a0 k) :: (R ++ bds a0 k)) (s + 9) (by rw [el]; omega)
  rw [el] at h
  rw [e, h, Option.bind_some]
  have e2 : (L ++ o :: arr4 n (afn a0 k) :: (R ++ bds a0 k)) ++ bdC (a0 + 5 * k) = (L ++ [o]) ++ arr4 n (afn a0 k) :: (R ++ bds a0 (k + 1)) := by
    show _ = (L ++ [o]) ++ arr4 n (afn a0 k) :: (R ++ (bds a0 k ++ bdC (a0 + 5 * k)))
    simp only [List.append_assoc, List.cons_append, List.nil_append]
  have em : (L ++ [o]).length = L.length + 1 := by rw [List.length_append]; rfl
  have g1 : (hl ((L ++ [o]) ++ arr4 n (afn a0 k) :: (R ++ bds a0 (k + 1))) (s + 9 + 54)).1 (L.length + 1) = some (arr4 n (afn a0 k)) := by
    rw [← em]
    exact mid_get
  have g2 : ∃ fs, (hl ((L ++ [o]) ++ arr4 n (afn a0 k) :: (R ++ bds a0 (k + 1))) (s + 9 + 54)).1 (a0 + 5 * k) = some (.inr (0, fs)) := by
    refine ⟨[.ref (a0 + 5 * k + 1), .ref (a0 + 5 * k + 2), .ref (a0 + 5 * k + 3), .ref (a0 + 5 * k + 4), .int 0, .int 0, .int 0, .int 0, .int 0], ?_⟩
    rw [← e2]
    show ((L ++ o :: arr4 n (afn a0 k) :: (R ++ bds a0 k)) ++ bdC (a0 + 5 * k))[a0 + 5 * k]? = _
    rw [List.getElem?_append_right (by omega), el, Nat.sub_self]
    rfl
  obtain ⟨fs, g2⟩ := g2
  have p : pR (hl ((L ++ [o]) ++ arr4 n (afn a0 k) :: (R ++ bds a0 (k + 1))) (s + 9 + 54)) (L.length + 1) (nI k) (a0 + 5 * k) = some (hl ((L ++ [o]) ++ arr4 n (afn a0 (k + 1)) :: (R ++ bds a0 (k + 1))) (s + 9 + 54)) := by
    unfold pR
    rw [g1, g2]
    show (if nI k < 0 ∨ n ≤ (nI k).toNatClampNeg then none else some (xu _ (L.length + 1) (arr4 n (va_up (afn a0 k) (nI k).toNatClampNeg (some (a0 + 5 * k)))))) = _
    rw [if_neg (nI_inb hk (by omega)), nI_clamp (by omega), afn_up, ← em]
    exact congrArg some mid_set
  rw [e2, p, Option.bind_some]
  have e3 : hl ((L ++ [o]) ++ arr4 n (afn a0 (k + 1)) :: (R ++ bds a0 (k + 1))) (s + 9 + 54) = hm L o (arr4 n (afn a0 (k + 1)) :: (R ++ bds a0 (k + 1))) (s + 63) := by
    unfold hm
    simp only [List.append_assoc, List.cons_append, List.nil_append, Nat.add_assoc]
  rw [e3]
theorem lpc3 {a0 : Nat} {fs : List Value} (hf : fs[0]? = some (.ref (L.length + 1))) (ha : a0 = L.length + 2 + R.length) (hb : L.length + R.length < 98900000) : ∀ (r k f s : Nat), k + r = 40 → r < f → f_X3_init_b52 f (hm L (.inr (3, fs)) (arr4 40 (afn a0 k) :: (R ++ bds a0 k)) s) L.length (nI k) = some (hm L (.inr (3, fs)) (arr4 40 (afn a0 40) :: (R ++ bds a0 40)) (s + 63 * r))
  | 0, k, f, s, hr, hf' => by
    obtain ⟨f, rfl⟩ : ∃ g, f = g + 1 := ⟨f - 1, by omega⟩
    obtain rfl : k = 40 := by omega
    rw [f_X3_init_b52, if_pos (by decide)]
    rfl
  | r + 1, k, f, s, hr, hf' => by
    obtain ⟨f, rfl⟩ : ∃ g, f = g + 1 := ⟨f - 1, by omega⟩
    rw [f_X3_init_b52, if_neg (show ¬ (40 : Int32) ≤ nI k from (nI_ge (by omega) (by decide) : ¬ nI 40 ≤ nI k)), m_gR (show 3 ∈ [3] by decide) hf, Option.bind_some]
    refine Eq.trans (bd_step (by omega) (by decide) ha hb) ?_
    rw [nI_1, lpc3 hf ha hb r (k + 1) f (s + 63) (by omega) (by omega), show s + 63 + 63 * r = s + 63 * (r + 1) by omega]
theorem lpc7 {a0 : Nat} {fs : List Value} (hf : fs[0]? = some (.ref (L.length + 1))) (ha : a0 = L.length + 2 + R.length) (hb : L.length + R.length < 98900000) : ∀ (r k f s : Nat), k + r = 9 → r < f → f_X7_init_b32 f (hm L (.inr (7, fs)) (arr4 9 (afn a0 k) :: (R ++ bds a0 k)) s) L.length (nI k) = some (hm L (.inr (7, fs)) (arr4 9 (afn a0 9) :: (R ++ bds a0 9)) (s + 63 * r))
  | 0, k, f, s, hr, hf' => by
    obtain ⟨f, rfl⟩ : ∃ g, f = g + 1 := ⟨f - 1, by omega⟩
    obtain rfl : k = 9 := by omega
    rw [f_X7_init_b32, if_pos (by decide)]
    rfl
  | r + 1, k, f, s, hr, hf' => by
    obtain ⟨f, rfl⟩ : ∃ g, f = g + 1 := ⟨f - 1, by omega⟩
    rw [f_X7_init_b32, if_neg (show ¬ (8 : Int32) < nI k from (nI_nlt (by omega) (by decide) : ¬ nI 8 < nI k)), m_gR (show 7 ∈ [7] by decide) hf, Option.bind_some]
    refine Eq.trans (bd_step (by omega) (by decide) ha hb) ?_
    rw [nI_1, lpc7 hf ha hb r (k + 1) f (s + 63) (by omega) (by omega), show s + 63 + 63 * r = s + 63 * (r + 1) by omega]
theorem lpc10 {a0 : Nat} {fs : List Value} (hf : fs[0]? = some (.ref (L.length + 1))) (ha : a0 = L.length + 2 + R.length) (hb : L.length + R.length < 98900000) : ∀ (r k f s : Nat), k + r = 5 → r < f → f_X10_init_b76 f (hm L (.inr (10, fs)) (arr4 5 (afn a0 k) :: (R ++ bds a0 k)) s) L.length (nI k) = some (hm L (.inr (10, fs)) (arr4 5 (afn a0 5) :: (R ++ bds a0 5)) (s + 63 * r))
  | 0, k, f, s, hr, hf' => by
    obtain ⟨f, rfl⟩ : ∃ g, f = g + 1 := ⟨f - 1, by omega⟩
    obtain rfl : k = 5 := by omega
    rw [f_X10_init_b76, if_pos (by decide)]
    rfl
  | r + 1, k, f, s, hr, hf' => by
    obtain ⟨f, rfl⟩ : ∃ g, f = g + 1 := ⟨f - 1, by omega⟩
    rw [f_X10_init_b76, if_neg (show ¬ (4 : Int32) < nI k from (nI_nlt (by omega) (by decide) : ¬ nI 4 < nI k)), m_gR (show 10 ∈ [10] by decide) hf, Option.bind_some]
    refine Eq.trans (bd_step (by omega) (by decide) ha hb) ?_
    rw [nI_1, lpc10 hf ha hb r (k + 1) f (s + 63) (by omega) (by omega), show s + 63 + 63 * r = s + 63 * (r + 1) by omega]
def o3 : xa_C := .inr (3, [.null, .null, .null, .int 0, .int 0, .int 0])
def meC (b : Nat) : List xa_C := .inr (3, [.ref (b + 1), .ref (b + 2), .ref (b + 7), .int 0, .int 0, .int 0]) :: arr4 40 (afn (b + 11) 40) :: ((bdC (b + 2) ++ chC (b + 7)) ++ bds (b + 11) 40)
theorem in_X3 (L : List xa_C) (s : Nat) (hL : L.length < 80000000) : f_X3_init (hl (L ++ [o3]) s) L.length = some (hl (L ++ meC L.length) (s + 3010)) := by
  show f_X3_init (hm L o3 [] s) L.length = _
  unfold f_X3_init o3
  rw [m_ck (show 3 ∈ [3] by decide), Option.bind_some, nAR_n (l := 40) (m := 40) rfl (by decide)]
  refine Eq.trans (arr_step (show 3 ∈ [3] by decide) (show 0 < 6 by decide) (show L.length + 0 < 99999000 by omega)) ?_
  refine Eq.trans (sub_step (F := f_X0_init) (B := 99000000) in_X0 (show 3 ∈ [3] by decide) (show 1 < 6 by decide) (show L.length + 1 + 1 < 99000000 by omega) (show L.length + 1 < 99999000 by omega)) ?_
  refine Eq.trans (sub_step (F := f_X1_init) (B := 99000000) in_X1 (show 3 ∈ [3] by decide) (show 2 < 6 by decide) (show L.length + 1 + 6 < 99000000 by omega) (show L.length + 6 < 99999000 by omega)) ?_
  refine Eq.trans (put_step (show 3 ∈ [3] by decide) (show 3 < 6 by decide)) ?_
  refine Eq.trans (put_step (show 3 ∈ [3] by decide) (show 4 < 6 by decide)) ?_
  refine Eq.trans (put_step (show 3 ∈ [3] by decide) (show 5 < 6 by decide)) ?_
  have h := lpc3 (L := L) (R := bdC (L.length + 2) ++ chC (L.length + 7)) (a0 := L.length + 11) (fs := [.ref (L.length + 1), .ref (L.length + 2), .ref (L.length + 7), .int 0, .int 0, .int 0]) rfl rfl (show L.length + 9 < 98900000 by omega) 40 0 1048576 (s + 40 + 9 + 54 + 3 + 384) (by decide) (by decide)
  have e0 : afn (L.length + 11) 0 = fun _ => none := funext fun i => if_neg (by omega)
  rw [e0] at h
  refine Eq.trans h ?_
  exact congrArg (fun t => some (hl (L ++ meC L.length) t)) (show s + 40 + 9 + 54 + 3 + 384 + 63 * 40 = s + 3010 by omega)
def o7 : xa_C := .inr (7, [.null, .null, .int 0, .int 0])
def slC (b : Nat) : List xa_C := .inr (7, [.ref (b + 1), .ref (b + 2), .int 0, .int 0]) :: arr4 9 (afn (b + 3) 9) :: ([zA 0] ++ bds (b + 3) 9)
theorem in_X7 (L : List xa_C) (s : Nat) (hL : L.length < 80000000) : f_X7_init (hl (L ++ [o7]) s) L.length = some (hl (L ++ slC L.length) (s + 576)) := by
  show f_X7_init (hm L o7 [] s) L.length = _
  unfold f_X7_init o7
  rw [m_ck (show 7 ∈ [7] by decide), Option.bind_some, nAR_n (l := 9) (m := 9) rfl (by decide)]
  refine Eq.trans (arr_step (show 7 ∈ [7] by decide) (show 0 < 4 by decide) (show L.length + 0 < 99999000 by omega)) ?_
  rw [nAI_n (l := 0) (m := 0) rfl (by decide)]
  refine Eq.trans (arr_step (show 7 ∈ [7] by decide) (show 1 < 4 by decide) (show L.length + 1 < 99999000 by omega)) ?_
  refine Eq.trans (put_step (show 7 ∈ [7] by decide) (show 2 < 4 by decide)) ?_
  refine Eq.trans (put_step (show 7 ∈ [7] by decide) (show 3 < 4 by decide)) ?_
  have h := lpc7 (L := L) (R := [zA 0]) (a0 := L.length + 3) (fs := [.ref (L.length + 1), .ref (L.length + 2), .int 0, .int 0]) rfl rfl (show L.length + 1 < 98900000 by omega) 9 0 1048576 (s + 9 + 0) (by decide) (by decide)
  have e0 : afn (L.length + 3) 0 = fun _ => none := funext fun i => if_neg (by omega)
  rw [e0] at h
  refine Eq.trans h ?_
  exact congrArg (fun t => some (hl (L ++ slC L.length) t)) (show s + 9 + 0 + 63 * 9 = s + 576 by omega)
def o10 : xa_C := .inr (10, [.null, .null, .null, .null, .int 0, .int 0, .int 0, .int 0, .int 0, .int 0, .int 0])
def zL (n : Nat) : xa_C := .inl (3, n, .inr (.inl (fun _ => 0)))
def waC (b : Nat) : List xa_C := .inr (10, [.ref (b + 1), .ref (b + 2), .ref (b + 3), .ref (b + 4), .int 0, .int 0, .int 0, .int 0, .int 0, .int 0, .int 0]) :: arr4 5 (afn (b + 5) 5) :: ([zL 2048, zL 2048, zA 2048] ++ bds (b + 5) 5)
theorem in_X10 (L : List xa_C) (s : Nat) (hL : L.length < 80000000) : f_X10_init (hl (L ++ [o10]) s) L.length = some (hl (L ++ waC L.length) (s + 6464)) := by
  show f_X10_init (hm L o10 [] s) L.length = _
  unfold f_X10_init o10
  rw [m_ck (show 10 ∈ [10] by decide), Option.bind_some, nAR_n (l := 5) (m := 5) rfl (by decide)]
  refine Eq.trans (arr_step (show 10 ∈ [10] by decide) (show 0 < 11 by decide) (show L.length + 0 < 99999000 by omega)) ?_
  rw [nAL_n (l := 2048) (m := 2048) rfl (by decide)]
  refine Eq.trans (arr_step (show 10 ∈ [10] by decide) (show 1 < 11 by decide) (show L.length + 1 < 99999000 by omega)) ?_
  rw [nAL_n (l := 2048) (m := 2048) rfl (by decide)]
  refine Eq.trans (arr_step (show 10 ∈ [10] by decide) (show 2 < 11 by decide) (show L.length + 2 < 99999000 by omega)) ?_
  rw [nAI_n (l := 2048) (m := 2048) rfl (by decide)]
  refine Eq.trans (arr_step (show 10 ∈ [10] by decide) (show 3 < 11 by decide) (show L.length + 3 < 99999000 by omega)) ?_
  refine Eq.trans (put_step (show 10 ∈ [10] by decide) (show 4 < 11 by decide)) ?_
  refine Eq.trans (put_step (show 10 ∈ [10] by decide) (show 5 < 11 by decide)) ?_
  refine Eq.trans (put_step (show 10 ∈ [10] by decide) (show 6 < 11 by decide)) ?_
  refine Eq.trans (put_step (show 10 ∈ [10] by decide) (show 7 < 11 by decide)) ?_
  refine Eq.trans (put_step (show 10 ∈ [10] by decide) (show 8 < 11 by decide)) ?_
  refine Eq.trans (put_step (show 10 ∈ [10] by decide) (show 9 < 11 by decide)) ?_
  refine Eq.trans (put_step (show 10 ∈ [10] by decide) (show 10 < 11 by decide)) ?_
  have h := lpc10 (L := L) (R := [zL 2048, zL 2048, zA 2048]) (a0 := L.length + 5) (fs := [.ref (L.length + 1), .ref (L.length + 2), .ref (L.length + 3), .ref (L.length + 4), .int 0, .int 0, .int 0, .int 0, .int 0, .int 0, .int 0]) rfl rfl (show L.length + 3 < 98900000 by omega) 5 0 1048576 (s + 5 + 2048 + 2048 + 2048) (by decide) (by decide)
  have e0 : afn (L.length + 5) 0 = fun _ => none := funext fun i => if_neg (by omega)
  rw [e0] at h
  refine Eq.trans h ?_
  exact congrArg (fun t => some (hl (L ++ waC L.length) t)) (show s + 5 + 2048 + 2048 + 2048 + 63 * 5 = s + 6464 by omega)
end CT2
