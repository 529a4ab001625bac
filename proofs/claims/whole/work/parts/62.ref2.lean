/-! THE REFERENCE: whether a house can be crossed, and its crossing; boards as far as they are told -/
def cut (n : Nat) (f : Nat → Int32) : Nat → Int32 := fun k => if k < n then f k else 0
theorem cut_lt {n : Nat} {f : Nat → Int32} {k : Nat} (h : k < n) : cut n f k = f k := if_pos h
theorem cut_congr {n : Nat} {f g : Nat → Int32} (h : ∀ k, k < n → f k = g k) : cut n f = cut n g := funext fun k => by
  unfold cut
  by_cases q : k < n
  · rw [if_pos q, if_pos q, h k q]
  · rw [if_neg q, if_neg q]
theorem cut_ext {n : Nat} {f g : Nat → Int32} (h : cut n f = cut n g) {k : Nat} (hk : k < n) : f k = g k := by
  have := congrFun h k
  rw [cut_lt hk, cut_lt hk] at this
  exact this
def cutB (Q : BS) : BS := (cut 36 Q.1, cut 6 Q.2)
def eqB (Q Q' : BS) : Prop := (∀ k, k < 36 → Q.1 k = Q'.1 k) ∧ (∀ k, k < 6 → Q.2 k = Q'.2 k)
theorem eqB.symm {Q Q' : BS} (h : eqB Q Q') : eqB Q' Q := ⟨fun k hk => (h.1 k hk).symm, fun k hk => (h.2 k hk).symm⟩
theorem eqB.trans {Q Q' Q2 : BS} (h : eqB Q Q') (h2 : eqB Q' Q2) : eqB Q Q2 := ⟨fun k hk => (h.1 k hk).trans (h2.1 k hk), fun k hk => (h.2 k hk).trans (h2.2 k hk)⟩
theorem eqB.refl (Q : BS) : eqB Q Q := ⟨fun _ _ => rfl, fun _ _ => rfl⟩
theorem cutB_eqB (Q : BS) : eqB (cutB Q) Q := ⟨fun _ hk => cut_lt hk, fun _ hk => cut_lt hk⟩
theorem cutB_of {Q Q' : BS} (h : eqB Q Q') : cutB Q = cutB Q' := Prod.ext (cut_congr h.1) (cut_congr h.2)
theorem eqB_of {Q Q' : BS} (h : cutB Q = cutB Q') : eqB Q Q' := ⟨fun _ hk => cut_ext (congrArg Prod.fst h) hk, fun _ hk => cut_ext (congrArg Prod.snd h) hk⟩
theorem ful_congr {D D' : Nat → Int32} {lim : Int32} {N x : Nat} (h6 : N ≤ 6) (hx : x < 6) (h : ∀ k, k < 36 → D k = D' k) : ful D lim N x = ful D' lim N x := by
  unfold ful
  refine anyB_congr fun k hk => ?_
  rw [h (6 * k + x) (by omega)]
  congr 1
  refine anyB_congr fun j hj => ?_
  rw [h (6 * x + j) (by omega), h (6 * k + j) (by omega)]
theorem nx_congr {D D' : Nat → Int32} {N x a b : Nat} (hx : x < 6) (ha : a < 6) (hb : b < 6) (h : ∀ k, k < 36 → D k = D' k) : nx N D x a b = nx N D' x a b := by
  unfold nx
  rw [h (6 * a + b) (by omega), h (6 * a + x) (by omega), h (6 * x + b) (by omega)]
theorem fw_congr {N x : Nat} {Q Q' : BS} (h6 : N ≤ 6) (hx : x < 6) (h : eqB Q Q') : fw N Q.1 Q.2 x = fw N Q'.1 Q'.2 x := by
  unfold fw
  rw [pr_congr (W' := Q'.2) (E' := fun k => Q'.1 (6 * k + x)) (fun k hk => ⟨h.2 k (by omega), h.1 _ (by omega)⟩), pr_congr (W := Q.2) (W' := Q'.2) (E' := fun k => Q'.1 (6 * x + k)) (fun k hk => ⟨h.2 k (by omega), h.1 _ (by omega)⟩), h.2 x hx]
theorem can_congr {N x : Nat} {kp lim : Int32} {Q Q' : BS} (h6 : N ≤ 6) (h : eqB Q Q') : can N kp lim Q x = can N kp lim Q' x := by
  unfold can canT
  by_cases e : x < N
  · rw [h.2 x (by omega), ful_congr h6 (by omega) h.1]
  · rw [decide_eq_false e, Bool.false_and, Bool.false_and]
theorem crs_congr {N x : Nat} {Q Q' : BS} (h6 : N ≤ 6) (hx : x < 6) (h : eqB Q Q') : eqB (crs N Q x) (crs N Q' x) := by
  refine ⟨fun k hk => ?_, fun k hk => ?_⟩
  · show nxF N Q.1 x k = nxF N Q'.1 x k
    unfold nxF
    rw [if_pos hk, if_pos hk, nx_congr hx (by omega) (by omega) h.1]
  · show upd Q.2 x _ k = upd Q'.2 x _ k
    rw [fw_congr h6 hx h]
    unfold upd
    by_cases e : k = x
    · rw [if_pos e, if_pos e]
    · rw [if_neg e, if_neg e, h.2 k hk]
theorem fol_congr {N : Nat} {kp lim : Int32} {dg : Nat → Nat} (h6 : N ≤ 6) : ∀ (m k : Nat) (Q Q' : BS), eqB Q Q' → (fol N kp lim dg m k Q).1 = (fol N kp lim dg m k Q').1 ∧ eqB (fol N kp lim dg m k Q).2 (fol N kp lim dg m k Q').2
  | 0, k, Q, Q', h => ⟨rfl, h⟩
  | m + 1, k, Q, Q', h => by
    show (if can N kp lim Q (dg k) then fol N kp lim dg m (k + 1) (crs N Q (dg k)) else (false, Q)).1 = (if can N kp lim Q' (dg k) then fol N kp lim dg m (k + 1) (crs N Q' (dg k)) else (false, Q')).1 ∧ eqB (if can N kp lim Q (dg k) then fol N kp lim dg m (k + 1) (crs N Q (dg k)) else (false, Q)).2 (if can N kp lim Q' (dg k) then fol N kp lim dg m (k + 1) (crs N Q' (dg k)) else (false, Q')).2
    rw [can_congr h6 h]
    by_cases e : can N kp lim Q' (dg k) = true
    · rw [if_pos e, if_pos e]
      exact fol_congr h6 m (k + 1) _ _ (crs_congr h6 (by have := (can_x e).1; omega) h)
    · rw [if_neg e, if_neg e]
      exact ⟨rfl, h⟩
theorem Vb_congr {lim : Int32} {Q Q' : BS} (h : eqB Q Q') (V : Vb lim Q') : Vb lim Q := by
  refine ⟨V.1.congr h.1, fun a b ha hb => ?_, fun k hk => ?_⟩
  · rw [h.1 _ (by omega)]
    exact V.2.1 a b ha hb
  · rw [h.2 k hk]
    exact V.2.2 k hk
theorem can_cut {N x : Nat} {kp lim : Int32} {Q : BS} (h6 : N ≤ 6) : can N kp lim (cutB Q) x = can N kp lim Q x := can_congr h6 (cutB_eqB Q)
theorem crs_cut {N x : Nat} {Q : BS} (h6 : N ≤ 6) (hx : x < 6) : crs N (cutB Q) x = cutB (crs N Q x) := by
  have h := crs_congr h6 hx (cutB_eqB Q)
  refine Prod.ext (funext fun k => ?_) (funext fun k => ?_)
  · by_cases e : k < 36
    · exact (h.1 k e).trans (cut_lt (f := (crs N Q x).1) e).symm
    · show nxF N (cut 36 Q.1) x k = cut 36 _ k
      unfold nxF cut
      rw [if_neg e, if_neg e, if_neg e]
  · by_cases e : k < 6
    · exact (h.2 k e).trans (cut_lt (f := (crs N Q x).2) e).symm
    · show upd (cut 6 Q.2) x _ k = cut 6 _ k
      unfold upd cut
      rw [if_neg (by omega), if_neg e, if_neg e]
theorem fol_cut {N : Nat} {kp lim : Int32} {dg : Nat → Nat} (h6 : N ≤ 6) : ∀ (m k : Nat) (Q : BS), fol N kp lim dg m k (cutB Q) = ((fol N kp lim dg m k Q).1, cutB (fol N kp lim dg m k Q).2)
  | 0, k, Q => rfl
  | m + 1, k, Q => by
    show (if can N kp lim (cutB Q) (dg k) then fol N kp lim dg m (k + 1) (crs N (cutB Q) (dg k)) else (false, cutB Q)) = ((if can N kp lim Q (dg k) then fol N kp lim dg m (k + 1) (crs N Q (dg k)) else (false, Q)).1, cutB (if can N kp lim Q (dg k) then fol N kp lim dg m (k + 1) (crs N Q (dg k)) else (false, Q)).2)
    rw [can_cut h6]
    by_cases e : can N kp lim Q (dg k) = true
    · rw [if_pos e, if_pos e, crs_cut h6 (by have := (can_x e).1; omega), fol_cut h6 m (k + 1)]
    · rw [if_neg e, if_neg e]
theorem Vb_cut {lim : Int32} {Q : BS} (V : Vb lim Q) : Vb lim (cutB Q) := Vb_congr (cutB_eqB Q) V
theorem cutB_cutB (Q : BS) : cutB (cutB Q) = cutB Q := cutB_of (cutB_eqB Q)
theorem fol_Vb {N : Nat} {kp lim : Int32} {dg : Nat → Nat} (h6 : N ≤ 6) (hl : lim.toInt ≤ 99) : ∀ (m k : Nat) (Q : BS), Vb lim Q → Vb lim (fol N kp lim dg m k Q).2
  | 0, k, Q, V => V
  | m + 1, k, Q, V => by
    show Vb lim (if can N kp lim Q (dg k) then fol N kp lim dg m (k + 1) (crs N Q (dg k)) else (false, Q)).2
    by_cases e : can N kp lim Q (dg k) = true
    · rw [if_pos e]
      exact fol_Vb h6 hl m (k + 1) _ (Vb_crs V h6 hl e)
    · rw [if_neg e]
      exact V
def ovr (N : Nat) (D : Nat → Int32) (x : Nat) (lim : Int32) : Bool := anyB (fun k => anyB (fun j => decide (lim < nx N D x k j)) N) N
theorem ovr_ful {D : Nat → Int32} {lim : Int32} {N x : Nat} (A : An D) (L : Li lim D) (h6 : N ≤ 6) (hx : x < N) : ovr N D x lim = ful D lim N x := by
  have hx6 : x < 6 := by omega
  rw [Bool.eq_iff_iff]
  unfold ovr ful
  simp only [anyB_iff, Bool.and_eq_true, decide_eq_true_eq]
  constructor
  · rintro ⟨k, hk, j, hj, q⟩
    have k6 : k < 6 := by omega
    have j6 : j < 6 := by omega
    rw [Int32.lt_iff_toInt_lt, nx_toInt A hx6 k6 j6] at q
    unfold nxZ at q
    dsimp only at q
    rw [if_pos ⟨hk, hj⟩] at q
    have q1 := (A k j k6 j6).1
    have q2 := (A k x k6 hx6).1
    have q3 := (A x j hx6 j6).1
    have l0 := L j k j6 k6
    have l1 := L k j k6 j6
    have m := zi_mul (A.hi k6 hx6) (A.lo k6 hx6) (A.hi hx6 j6) (A.lo hx6 j6)
    by_cases c1 : k = x ∨ j = x
    · rw [if_pos c1] at q
      omega
    · rw [if_neg c1] at q
      by_cases c2 : 0 < (D (6 * k + x)).toInt ∧ 0 < (D (6 * x + j)).toInt
      · rw [if_pos c2] at q
        refine ⟨k, hk, pos_i.mpr c2.1, j, hj, pos_i.mpr c2.2, ?_⟩
        have e := zi_addmul (A.hi k6 hx6) (A.lo k6 hx6) (A.hi hx6 j6) (A.lo hx6 j6) (A.hi k6 j6) (A.lo k6 j6)
        have b1 := A.hi k6 j6
        have b2 := A.lo k6 j6
        rw [Int32.lt_iff_toInt_lt, zi_abs (by omega), e]
        omega
      · rw [if_neg c2] at q
        by_cases c3 : (D (6 * k + x)).toInt < 0 ∧ (D (6 * x + j)).toInt < 0
        · rw [if_pos c3] at q
          refine ⟨j, hj, pos_i.mpr (by omega), k, hk, pos_i.mpr (by omega), ?_⟩
          have e := zi_addmul (A.hi j6 hx6) (A.lo j6 hx6) (A.hi hx6 k6) (A.lo hx6 k6) (A.hi j6 k6) (A.lo j6 k6)
          have e2 : (D (6 * j + x)).toInt * (D (6 * x + k)).toInt = (D (6 * k + x)).toInt * (D (6 * x + j)).toInt := by
            rw [show (D (6 * j + x)).toInt = -(D (6 * x + j)).toInt by omega, show (D (6 * x + k)).toInt = -(D (6 * k + x)).toInt by omega, Int.neg_mul, Int.mul_neg, Int.neg_neg, Int.mul_comm]
          have b1 := A.hi k6 j6
          have b2 := A.lo k6 j6
          rw [e2] at e
          rw [Int32.lt_iff_toInt_lt, zi_abs (by omega), e]
          omega
        · rw [if_neg c3] at q
          omega
  · rintro ⟨k, hk, p1, j, hj, p2, q⟩
    have k6 : k < 6 := by omega
    have j6 : j < 6 := by omega
    have r1 := pos_i.mp p1
    have r2 := pos_i.mp p2
    have q1 := (A k j k6 j6).1
    have q2 := (A k x k6 hx6).1
    have q3 := (A x j hx6 j6).1
    have dx := (A x x hx6 hx6).1
    have m := zi_mul (A.hi k6 hx6) (A.lo k6 hx6) (A.hi hx6 j6) (A.lo hx6 j6)
    have e := zi_addmul (A.hi k6 hx6) (A.lo k6 hx6) (A.hi hx6 j6) (A.lo hx6 j6) (A.hi k6 j6) (A.lo k6 j6)
    have b1 := A.hi k6 j6
    have b2 := A.lo k6 j6
    have kx : k ≠ x := fun z => by
      subst z
      omega
    have jx : j ≠ x := fun z => by
      subst z
      omega
    rw [Int32.lt_iff_toInt_lt, zi_abs (by omega), e] at q
    by_cases s : 0 ≤ (D (6 * k + j)).toInt + (D (6 * k + x)).toInt * (D (6 * x + j)).toInt
    · refine ⟨k, hk, j, hj, ?_⟩
      rw [Int32.lt_iff_toInt_lt, nx_toInt A hx6 k6 j6]
      unfold nxZ
      dsimp only
      rw [if_pos ⟨hk, hj⟩, if_neg (by omega), if_pos ⟨r1, r2⟩]
      omega
    · refine ⟨j, hj, k, hk, ?_⟩
      rw [Int32.lt_iff_toInt_lt, nx_toInt A hx6 j6 k6]
      unfold nxZ
      dsimp only
      have e2 : (D (6 * j + x)).toInt * (D (6 * x + k)).toInt = (D (6 * k + x)).toInt * (D (6 * x + j)).toInt := by
        rw [show (D (6 * j + x)).toInt = -(D (6 * x + j)).toInt by omega, show (D (6 * x + k)).toInt = -(D (6 * k + x)).toInt by omega, Int.neg_mul, Int.mul_neg, Int.neg_neg, Int.mul_comm]
      rw [if_pos ⟨hj, hk⟩, if_neg (by omega), if_neg (by omega), if_pos ⟨by omega, by omega⟩, e2]
      omega
/-- the row as a board -/
def rwB (row : Nat → Int32) : BS := (row, fun k => row (36 + k))
def rq (row : Nat → Int32) : BS := cutB (rwB row)
def stp (N : Nat) (kp lim : Int32) (Q : BS) (x : Nat) : Int32 := if kep kp x then 2 else if Q.2 x = 0 then 3 else if ful Q.1 lim N x then 3 else -1
theorem stp_can {N x : Nat} {kp lim : Int32} {Q : BS} (hx : x < N) : can N kp lim Q x = decide (stp N kp lim Q x = -1) := by
  unfold can canT stp
  rw [decide_eq_true hx, Bool.true_and]
  cases kep kp x with
  | true => rfl
  | false =>
    by_cases e : Q.2 x = 0
    · rw [if_neg (by decide), if_pos e, decide_eq_true e]
      rfl
    · rw [if_neg (by decide), if_neg e, decide_eq_false e]
      cases ful Q.1 lim N x <;> rfl
theorem fil_at {N : Nat} {f o : Nat → Int32} {k j : Nat} (hk : k < N) (hj : j < N) (h6 : N ≤ 6) : fil N f o N 0 (6 * k + j) = f (6 * k + j) := by
  unfold fil
  rw [if_pos (by omega)]
section R2
variable {S : XS} {c : Nat × Nat} {a N x y : Nat}
theorem r_next_at {f o : Nat → Int32} {k j : Nat} {D : Nat → Int32} (hk : k < N) (hj : j < N) (h6 : N ≤ 6) : fil N (fun i => nx N D x (i / 6) (i % 6)) o N 0 (6 * k + j) = nx N D x k j := by
  rw [fil_at hk hj h6]
  show nx N D x ((6 * k + j) / 6) ((6 * k + j) % 6) = _
  rw [show (6 * k + j) / 6 = k by omega, show (6 * k + j) % 6 = j by omega]
theorem r_stops (R : isR a) (hN : S.1 351 26 = nI N) (h6 : N ≤ 6) (hx : x < N) (A : An (S.1 a)) (L : Li (S.1 356 1) (S.1 a)) : ∃ g, f_X12_stops (hp S c) 351 a (nI x) = some (stp N (S.1 a 48) (S.1 356 1) (rwB (S.1 a)) x, hp (wA S 367 g) c) := by
  unfold f_X12_stops stp
  rw [k351, Option.bind_some, show (48 : Int32) = nI 48 from rfl, R.ar (by omega), Option.bind_some, r_has, Option.bind_some]
  cases kep (S.1 a 48) x with
  | true =>
    rw [if_neg (by decide), if_pos rfl]
    exact ⟨S.1 367, by rw [wA_self]⟩
  | false =>
    rw [if_pos bI_f, if_neg (by decide), show (36 : Int32) = nI 36 from rfl, nI_add, R.ar (by omega), Option.bind_some]
    by_cases e : S.1 a (36 + x) = 0
    · rw [if_pos e, if_pos (c := (rwB (S.1 a)).2 x = 0) e]
      exact ⟨S.1 367, by rw [wA_self]⟩
    · rw [if_neg e, if_neg (c := (rwB (S.1 a)).2 x = 0) e, r_laysNext R hN h6 (by omega), Option.bind_some]
      refine ⟨fil N (fun i => nx N (S.1 a) x (i / 6) (i % 6)) (S.1 367) N 0, ?_⟩
      have ho := ovr_ful A L h6 hx
      show _ = some (if ful (S.1 a) (S.1 356 1) N x = true then 3 else -1, _)
      rw [← ho]
      have key : ∀ T : XS, T.1 351 26 = nI N → T.1 356 1 = S.1 356 1 → (∀ k j, k < N → j < N → T.1 367 (6 * k + j) = nx N (S.1 a) x k j) → f_X12_stops_b32 1048576 (hp T c) 351 (0 : Int32) = some (if ovr N (S.1 a) x (S.1 356 1) = true then 3 else -1, hp T c) := by
        intro T t1 t2 t3
        have l0 : f_X12_stops_b32 1048576 (hp T c) 351 (nI 0) = fst (fun k => anyB (fun j => decide (S.1 356 1 < nx N (S.1 a) x k j)) N) (fun _ => some ((3 : Int32), hp T c)) (some (-1, hp T c)) N 0 := by
          refine lpx (N := N) (fun n k => f_X12_stops_b32 n (hp T c) 351 (nI k)) (fun n => ?_) (fun n k hk => ?_) N 0 1048576 (by omega) (by omega)
          · show f_X12_stops_b32 (n + 1) (hp T c) 351 (nI N) = _
            rw [f_X12_stops_b32, g351_26, Option.bind_some, t1, if_pos (nI_le (Nat.le_refl _) (by omega))]
          · show f_X12_stops_b32 (n + 1) (hp T c) 351 (nI k) = _
            rw [f_X12_stops_b32, g351_26, Option.bind_some, t1, if_neg (nI_ge (by omega) (by omega)), ← fst_0]
            refine lpx (N := N) (fun m j => f_X12_stops_b43 (fun h l0 l3 => f_X12_stops_b32 n h l0 l3) m (hp T c) 351 (nI k) (nI j)) (fun m => ?_) (fun m j hj => ?_) N 0 1048576 (by omega) (by omega)
            · show f_X12_stops_b43 _ (m + 1) (hp T c) 351 (nI k) (nI N) = _
              rw [f_X12_stops_b43, g351_26, Option.bind_some, t1, if_pos (nI_le (Nat.le_refl _) (by omega)), nI_1]
            · show f_X12_stops_b43 _ (m + 1) (hp T c) 351 (nI k) (nI j) = _
              rw [f_X12_stops_b43, g351_26, Option.bind_some, t1, if_neg (nI_ge (by omega) (by omega)), g351_37, Option.bind_some, ix6, a367 (by omega), Option.bind_some, g351_18, Option.bind_some, show (1 : Int32) = nI 1 from rfl, a356 (by omega), Option.bind_some, t2, t3 k j hk hj, nI_add]
              by_cases q : nx N (S.1 a) x k j ≤ S.1 356 1
              · rw [if_pos q, if_neg (fun z => Int32.not_lt.mpr q (of_decide_eq_true z))]
              · rw [if_neg q, if_pos (decide_eq_true (Int32.not_le.mp q))]
        rw [fst_0] at l0
        refine l0.trans ?_
        show (if ovr N (S.1 a) x (S.1 356 1) = true then _ else _) = _
        cases ovr N (S.1 a) x (S.1 356 1) <;> rfl
      refine key _ ?_ ?_ ?_
      · rw [wA_ne (by decide)]
        exact hN
      · rw [wA_ne (by decide)]
      · intro k j hk hj
        rw [wA_same]
        exact r_next_at (f := S.1 367) hk hj h6
theorem r_can (R : isR a) (hN : S.1 351 26 = nI N) (h6 : N ≤ 6) (hx : x < 2 ^ 31) (A : An (S.1 a)) (L : Li (S.1 356 1) (S.1 a)) : ∃ g, f_X12_can (hp S c) 351 a (nI x) = some (bI (can N (S.1 a 48) (S.1 356 1) (rwB (S.1 a)) x), hp (wA S 367 g) c) := by
  unfold f_X12_can
  rw [k351, Option.bind_some]
  by_cases e : x < N
  · obtain ⟨g, hg⟩ := r_stops (c := c) R hN h6 e A L
    refine ⟨g, ?_⟩
    rw [r_isHouse_in hN h6 e, Option.bind_some, if_neg (by decide), hg, Option.bind_some, stp_can e]
    by_cases q : stp N (S.1 a 48) (S.1 356 1) (rwB (S.1 a)) x = -1
    · rw [if_pos q, decide_eq_true q]
      rfl
    · rw [if_neg q, decide_eq_false q]
      rfl
  · refine ⟨S.1 367, ?_⟩
    rw [r_isHouse_out hN (Or.inr ⟨nI_pos hx, nI_le (by omega) hx⟩), Option.bind_some, if_pos rfl, wA_self]
    unfold can
    rw [decide_eq_false e, Bool.false_and]
    rfl
theorem r_fresh (R : isR a) (hN : S.1 351 26 = nI N) (h6 : N ≤ 6) (hx : x < N) (A : An (S.1 a)) (hW : Wo (fun k => S.1 a (36 + k))) : f_X12_freshWorth (hp S c) 351 a (nI x) = some (nI (fw N (S.1 a) (fun k => S.1 a (36 + k)) x)) := by
  unfold f_X12_freshWorth
  rw [k351, Option.bind_some]
  have pw : ∀ k y z, k < 6 → y < 6 → z < 6 → f_X12_power (hp S c) (S.1 a (36 + k)).toInt64 (imax (0 : Int32) (S.1 a (6 * y + z))) = some (lN (tn (S.1 a (36 + k)) ^ tn (S.1 a (6 * y + z)) % 1000003)) := by
    intro k y z hk hy hz
    obtain ⟨w1, w2⟩ := hW.t hk
    have b1 := A.hi hy hz
    rw [imax_tn, w1, nI_l (by omega), tn_nI (by omega), X12_power w2 (by unfold tn; omega)]
  refine lp (N := N) (fun n k => f_X12_freshWorth_b8 n (hp S c) 351 a (nI x) (lN (pr (fun k => S.1 a (36 + k)) (fun k => S.1 a (6 * k + x)) k)) (lN (pr (fun k => S.1 a (36 + k)) (fun k => S.1 a (6 * x + k)) k)) (nI k)) (fun n => ?_) (fun n k hk => ?_) N 0 1048576 (by omega) (by omega)
  · show f_X12_freshWorth_b8 (n + 1) (hp S c) 351 a (nI x) _ _ (nI N) = _
    have p1 := pr_lt (fun k => S.1 a (36 + k)) (fun k => S.1 a (6 * k + x)) N
    have p2 := pr_lt (fun k => S.1 a (36 + k)) (fun k => S.1 a (6 * x + k)) N
    obtain ⟨w1, w2⟩ := hW.t (k := x) (by omega)
    rw [f_X12_freshWorth_b8, g351_26, Option.bind_some, hN, if_pos (nI_le (Nat.le_refl _) (by omega)), show (36 : Int32) = nI 36 from rfl, nI_add, R.ar (by omega), Option.bind_some]
    have hi : f_X12_inverse (hp S c) (S.1 a (36 + x)).toInt64 = some (lN (tn (S.1 a (36 + x)) ^ 1000001 % 1000003)) := by
      rw [w1, nI_l (by omega), tn_nI (by omega)]
      exact X12_inverse w2
    rw [hi, Option.bind_some, lN_add, lrem_N (by omega), lN_mul, lrem_N (mulP (modP _) (modP _)), lN_i]
    rfl
  · show f_X12_freshWorth_b8 (n + 1) (hp S c) 351 a (nI x) _ _ (nI k) = f_X12_freshWorth_b8 n (hp S c) 351 a (nI x) (lN (pr (fun k => S.1 a (36 + k)) (fun k => S.1 a (6 * k + x)) k * (tn (S.1 a (36 + k)) ^ tn (S.1 a (6 * k + x)) % 1000003) % 1000003)) (lN (pr (fun k => S.1 a (36 + k)) (fun k => S.1 a (6 * x + k)) k * (tn (S.1 a (36 + k)) ^ tn (S.1 a (6 * x + k)) % 1000003) % 1000003)) (nI (k + 1))
    have p1 := pr_lt (fun k => S.1 a (36 + k)) (fun k => S.1 a (6 * k + x)) k
    have p2 := pr_lt (fun k => S.1 a (36 + k)) (fun k => S.1 a (6 * x + k)) k
    rw [f_X12_freshWorth_b8, g351_26, Option.bind_some, hN, if_neg (nI_ge (by omega) (by omega)), show (36 : Int32) = nI 36 from rfl, nI_add, R.ar (by omega), Option.bind_some, ix6, R.ar (by omega), Option.bind_some, pw k k x (by omega) (by omega) (by omega), Option.bind_some, Option.bind_some, ix6, R.ar (by omega), Option.bind_some, pw k x k (by omega) (by omega) (by omega), Option.bind_some, lN_mul, lrem_N (mulP p1 (modP _)), lN_mul, lrem_N (mulP p2 (modP _)), nI_1]
/-- the row behind a crossing -/
def crR (N : Nat) (row : Nat → Int32) (x : Nat) : Nat → Int32 := fun i => if i < 36 then nx N row x (i / 6) (i % 6) else if i = 36 + x then nI (fw N row (fun k => row (36 + k)) x) else if i = 42 + x then row i + 1 else if i = 50 then row i + 1 else row i
theorem crR_rw {row : Nat → Int32} (hx : x < 6) : eqB (rwB (crR N row x)) (crs N (rwB row) x) := by
  refine ⟨fun k hk => ?_, fun k hk => ?_⟩
  · show crR N row x k = nxF N row x k
    unfold crR nxF
    rw [if_pos hk, if_pos hk]
  · show crR N row x (36 + k) = upd (fun k => row (36 + k)) x _ k
    unfold crR upd
    rw [if_neg (by omega)]
    by_cases e : k = x
    · rw [if_pos (by omega), if_pos e]
      rfl
    · rw [if_neg (by omega), if_neg (by omega), if_neg (by omega), if_neg e]
theorem crR_rq {row : Nat → Int32} (hx : x < 6) (h6 : N ≤ 6) : rq (crR N row x) = crs N (rq row) x := by
  unfold rq
  rw [crs_cut h6 hx]
  exact cutB_of (crR_rw hx)
theorem crR_far {row : Nat → Int32} {i : Nat} (hi : 48 ≤ i) (h : i ≠ 50) (hx : x < 6) : crR N row x i = row i := by
  unfold crR
  rw [if_neg (by omega), if_neg (by omega), if_neg (by omega), if_neg h]
theorem r_crosses (R : isR a) (hN : S.1 351 26 = nI N) (h6 : N ≤ 6) (hx : x < N) (A : An (S.1 a)) (hW : Wo (fun k => S.1 a (36 + k))) : ∃ g, f_X12_crosses (hp S c) 351 a (nI x) = some (hp (wA (wA S 367 g) a (crR N (S.1 a) x)) c) := by
  have h367 : a ≠ 367 := by rcases R with rfl | rfl <;> decide
  have h351 : a ≠ 351 := by rcases R with rfl | rfl <;> decide
  unfold f_X12_crosses
  rw [k351, Option.bind_some, r_fresh R hN h6 hx A hW, Option.bind_some, r_laysNext R hN h6 (by omega), Option.bind_some]
  refine ⟨fil N (fun i => nx N (S.1 a) x (i / 6) (i % 6)) (S.1 367) N 0, ?_⟩
  have key : ∀ T : XS, T.1 351 26 = nI N → T.1 a = S.1 a → (∀ k j, k < N → j < N → T.1 367 (6 * k + j) = nx N (S.1 a) x k j) → f_X12_crosses_b16 1048576 (hp T c) 351 a (nI x) (nI (fw N (S.1 a) (fun k => S.1 a (36 + k)) x)) (0 : Int32) = some (hp (wA T a (crR N (S.1 a) x)) c) := by
    intro T t1 t2 t3
    have l0 : f_X12_crosses_b16 1048576 (hp (wA T a (fil N (T.1 367) (S.1 a) 0 0)) c) 351 a (nI x) (nI (fw N (S.1 a) (fun k => S.1 a (36 + k)) x)) (nI 0) = some (hp (wA T a (crR N (S.1 a) x)) c) := by
      refine lp (N := N) (fun n k => f_X12_crosses_b16 n (hp (wA T a (fil N (T.1 367) (S.1 a) k 0)) c) 351 a (nI x) (nI (fw N (S.1 a) (fun k => S.1 a (36 + k)) x)) (nI k)) (fun n => ?_) (fun n k hk => ?_) N 0 1048576 (by omega) (by omega)
      · show f_X12_crosses_b16 (n + 1) (hp (wA T a _) c) 351 a (nI x) _ (nI N) = _
        rw [f_X12_crosses_b16, g351_26, Option.bind_some, wA_ne h351.symm, t1, if_pos (nI_le (Nat.le_refl _) (by omega)), show (36 : Int32) = nI 36 from rfl, nI_add, R.st (by omega), Option.bind_some, wA_wA, wA_same, show (42 : Int32) = nI 42 from rfl, nI_add, R.ar (by omega), Option.bind_some, R.st (by omega), Option.bind_some, wA_wA, wA_same, show (50 : Int32) = nI 50 from rfl, R.ar (by omega), Option.bind_some, R.st (by omega), Option.bind_some, wA_wA, wA_same]
        congr 4
        funext i
        unfold upd crR
        by_cases i36 : i < 36
        · rw [if_neg (by omega), if_neg (by omega), if_neg (by omega), if_pos i36]
          by_cases q : i / 6 < N ∧ i % 6 < N
          · have h1 := fil_at (N := N) (f := T.1 367) (o := S.1 a) q.1 q.2 h6
            have h2 := t3 (i / 6) (i % 6) q.1 q.2
            rw [show 6 * (i / 6) + i % 6 = i by omega] at h1 h2
            rw [h1, h2]
          · unfold fil nx
            rw [if_neg (by omega), if_neg q, show 6 * (i / 6) + i % 6 = i by omega]
        · have hf : ∀ i, ¬ i < 36 → fil N (T.1 367) (S.1 a) N 0 i = S.1 a i := fun i hi => by
            unfold fil
            rw [if_neg (by omega)]
          rw [if_neg i36]
          by_cases c1 : i = 36 + x
          · rw [if_neg (by omega), if_neg (by omega), if_pos c1, if_pos c1]
          · rw [if_neg c1, if_neg c1]
            by_cases c2 : i = 42 + x
            · rw [if_neg (by omega), if_pos c2, if_pos c2, if_neg (by omega), hf _ (by omega), c2]
            · rw [if_neg c2, if_neg c2]
              by_cases c3 : i = 50
              · rw [if_pos c3, if_pos c3, if_neg (by omega), if_neg (by omega), hf _ (by omega), c3]
              · rw [if_neg c3, if_neg c3, hf _ i36]
      · show f_X12_crosses_b16 (n + 1) (hp (wA T a _) c) 351 a (nI x) _ (nI k) = _
        rw [f_X12_crosses_b16, g351_26, Option.bind_some, wA_ne h351.symm, t1, if_neg (nI_ge (by omega) (by omega))]
        refine lp (N := N) (fun m j => f_X12_crosses_b28 (fun h l0 l1 l2 l3 l4 => f_X12_crosses_b16 n h l0 l1 l2 l3 l4) m (hp (wA T a (fil N (T.1 367) (S.1 a) k j)) c) 351 a (nI x) (nI (fw N (S.1 a) (fun k => S.1 a (36 + k)) x)) (nI k) (nI j)) (fun m => ?_) (fun m j hj => ?_) N 0 1048576 (by omega) (by omega)
        · show f_X12_crosses_b28 _ (m + 1) (hp (wA T a _) c) 351 a (nI x) _ (nI k) (nI N) = _
          rw [f_X12_crosses_b28, g351_26, Option.bind_some, wA_ne h351.symm, t1, if_pos (nI_le (Nat.le_refl _) (by omega)), nI_1, fil_row]
        · show f_X12_crosses_b28 _ (m + 1) (hp (wA T a _) c) 351 a (nI x) _ (nI k) (nI j) = f_X12_crosses_b28 _ m (hp (wA T a (fil N (T.1 367) (S.1 a) k (j + 1))) c) 351 a (nI x) _ (nI k) (nI (j + 1))
          rw [f_X12_crosses_b28, g351_26, Option.bind_some, wA_ne h351.symm, t1, if_neg (nI_ge (by omega) (by omega)), g351_37, Option.bind_some, ix6, a367 (by omega), Option.bind_some, R.st (by omega), Option.bind_some, wA_wA, wA_same, wA_ne h367.symm, nI_1, fil_step (by omega) hj h6]
    rw [fil_0, ← t2, wA_self] at l0
    rw [← t2]
    exact l0
  refine key _ ?_ ?_ ?_
  · rw [wA_ne (by decide)]
    exact hN
  · rw [wA_ne h367]
  · intro k j hk hj
    rw [wA_same]
    exact r_next_at (f := S.1 367) hk hj h6
end R2
