def M_X12_thrown : xa_M := (yX12_thrown, cX12_thrown, 1, some .int)
theorem cb_X12_thrown : xa_CB M_X12_thrown 0 := ⟨gws_at 1472 (by decide +kernel) rfl, gws_at 122 (by decide +kernel) rfl, by decide +kernel, Nat.le_of_ble_eq_true rfl⟩
def f_X12_thrown (h : xa_H) (l0 : Nat) : Option Int32 :=
  (ck [12] h l0).bind fun _ =>
  (gI [12] 0 h l0).bind fun x1 =>
  some x1
set_option maxRecDepth 20000 in
theorem ev_X12_thrown {G : xa_G} {h : xa_H} {l0 : Nat} {r : Int32} (hf : f_X12_thrown h l0 = some r) : xa_Ev G M_X12_thrown 0 [.ref l0] h (some (.int r)) h := by
  refine xa_entry (by decide +kernel) (loc := [some (.ref l0)]) rfl (Nat.le_of_ble_eq_true rfl) ?_
  unfold f_X12_thrown at hf
  obtain ⟨u0, eu0, hf⟩ := ob hf
  refine v_aload_n dX12_thrown_0 rfl ?_
  obtain ⟨x1, ex1, hf⟩ := ob hf
  refine v_getI dX12_thrown_1 fl_12_111 ex1 ?_
  replace hf := Option.some.inj hf
  subst hf
  exact v_iret dX12_thrown_4 rfl
theorem ckf_X12_thrown {h : xa_H} {l0 : Nat} {r : Int32} (hf : f_X12_thrown h l0 = some r) : ck [12] h l0 = some () := by
  obtain ⟨u, e, -⟩ := ob hf
  exact e
def M_X12_undo : xa_M := (yX12_undo, cX12_undo, 2, some .int)
theorem cb_X12_undo : xa_CB M_X12_undo 0 := ⟨gws_at 1784 (by decide +kernel) rfl, gws_at 122 (by decide +kernel) rfl, by decide +kernel, Nat.le_of_ble_eq_true rfl⟩
def f_X12_undo_b26 : Nat → xa_H → Nat → Int32 → Option (Int32 × xa_H)
  | 0, _, _, _ => none
  | n + 1, h, l0, l1 =>
    if (232 : Int32) ≤ l1 then
      (gI [12] 40 h l0).bind fun x2 =>
      some (x2, h)
    else
      (gR [12] 32 h l0).bind fun x3 =>
      (gR [12] 39 h l0).bind fun x4 =>
      (gI [12] 40 h l0).bind fun x5 =>
      (aI h x4 (((232 : Int32) * x5) + l1)).bind fun x6 =>
      (pI h x3 l1 x6).bind fun h7 =>
      f_X12_undo_b26 n h7 l0 (l1 + (1 : Int32))
set_option maxRecDepth 20000 in
theorem e_X12_undo_b26 {G : xa_G} : ∀ (n : Nat) (h : xa_H) (l0 : Nat) (l1 : Int32) (r : (Int32 × xa_H)), f_X12_undo_b26 n h l0 l1 = some r → xa_V G M_X12_undo 0 26 [some (.ref l0), some (.int l1)] [] h (some (.int r.1)) r.2 := by
  intro n
  induction n with
  | zero =>
    intro h l0 l1 r hf
    cases (show (none : Option (Int32 × xa_H)) = some r from hf)
  | succ n ih =>
    intro h l0 l1 r hf
    rw [f_X12_undo_b26] at hf
    refine v_iload_n dX12_undo_26 rfl ?_
    refine v_sipush dX12_undo_27 (by decide) (v := 232) ?_
    refine v_icmp_ge dX12_undo_30 (tgt := 60) (by decide) (fun c1 => ?_) (fun c1 => ?_)
    · replace hf := (if_pos c1).symm.trans hf
      refine v_aload_n dX12_undo_60 rfl ?_
      obtain ⟨x2, ex2, hf⟩ := ob hf
      refine v_getI dX12_undo_61 fl_12_320 ex2 ?_
      replace hf := Option.some.inj hf
      subst hf
      exact v_iret dX12_undo_64 rfl
    · replace hf := (if_neg c1).symm.trans hf
      refine v_aload_n dX12_undo_33 rfl ?_
      obtain ⟨x3, ex3, hf⟩ := ob hf
      refine v_getR dX12_undo_34 fl_12_61 ex3 ?_
      refine v_iload_n dX12_undo_37 rfl ?_
      refine v_aload_n dX12_undo_38 rfl ?_
      obtain ⟨x4, ex4, hf⟩ := ob hf
      refine v_getR dX12_undo_39 fl_12_83 ex4 ?_
      refine v_sipush dX12_undo_42 (by decide) (v := 232) ?_
      refine v_aload_n dX12_undo_45 rfl ?_
      obtain ⟨x5, ex5, hf⟩ := ob hf
      refine v_getI dX12_undo_46 fl_12_320 ex5 ?_
      refine v_imul dX12_undo_49 ?_
      refine v_iload_n dX12_undo_50 rfl ?_
      refine v_iadd dX12_undo_51 ?_
      obtain ⟨x6, ex6, hf⟩ := ob hf
      refine v_ialoadI dX12_undo_52 ex6 ?_
      obtain ⟨h7, eh7, hf⟩ := ob hf
      refine v_iastoreI dX12_undo_53 eh7 ?_
      refine v_iinc dX12_undo_54 rfl (v := (l1 + (1 : Int32))) rfl (Nat.le_of_ble_eq_true rfl) (loc' := [some (.ref l0), some (.int (l1 + (1 : Int32)))]) rfl ?_
      refine v_goto dX12_undo_57 (tgt := 26) (by decide) ?_
      exact ih h7 l0 (l1 + (1 : Int32)) r hf
def f_X12_undo (h : xa_H) (l0 : Nat) : Option (Int32 × xa_H) :=
  (ck [12] h l0).bind fun _ =>
  (xp [12] 0 h l0 (.int (0 : Int32))).bind fun h1 =>
  (gI [12] 40 h1 l0).bind fun x2 =>
  if x2 = 0 then
    some ((-1 : Int32), h1)
  else
    (gI [12] 40 h1 l0).bind fun x4 =>
    (xp [12] 40 h1 l0 (.int (x4 - (1 : Int32)))).bind fun h5 =>
    f_X12_undo_b26 1048576 h5 l0 (0 : Int32)
set_option maxRecDepth 20000 in
theorem ev_X12_undo {G : xa_G} {h : xa_H} {l0 : Nat} {r : (Int32 × xa_H)} (hf : f_X12_undo h l0 = some r) : xa_Ev G M_X12_undo 0 [.ref l0] h (some (.int r.1)) r.2 := by
  refine xa_entry (by decide +kernel) (loc := [some (.ref l0), none]) rfl (Nat.le_of_ble_eq_true rfl) ?_
  unfold f_X12_undo at hf
  obtain ⟨u0, eu0, hf⟩ := ob hf
  refine v_aload_n dX12_undo_0 rfl ?_
  refine v_iconst dX12_undo_1 (by decide) (v := 0) ?_
  obtain ⟨h1, eh1, hf⟩ := ob hf
  refine v_put dX12_undo_2 fp_12_111 (fun z => by cases z) (fun _ => rfl) (fun _ => rfl) eh1 ?_
  refine v_aload_n dX12_undo_5 rfl ?_
  obtain ⟨x2, ex2, hf⟩ := ob hf
  refine v_getI dX12_undo_6 fl_12_320 ex2 ?_
  refine v_if_ne dX12_undo_9 (tgt := 14) (by decide) (fun c3 => ?_) (fun c3 => ?_)
  · replace hf := (if_neg c3).symm.trans hf
    refine v_aload_n dX12_undo_14 rfl ?_
    refine v_dup dX12_undo_15 rfl ?_
    obtain ⟨x4, ex4, hf⟩ := ob hf
    refine v_getI dX12_undo_16 fl_12_320 ex4 ?_
    refine v_iconst dX12_undo_19 (by decide) (v := 1) ?_
    refine v_isub dX12_undo_20 ?_
    obtain ⟨h5, eh5, hf⟩ := ob hf
    refine v_put dX12_undo_21 fp_12_320 (fun z => by cases z) (fun _ => rfl) (fun _ => rfl) eh5 ?_
    refine v_iconst dX12_undo_24 (by decide) (v := 0) ?_
    refine v_istore_n (i := 1) rfl dX12_undo_25 (Nat.le_of_ble_eq_true rfl) (loc' := [some (.ref l0), some (.int (0 : Int32))]) rfl ?_
    exact e_X12_undo_b26 1048576 h5 l0 (0 : Int32) r hf
  · replace hf := (if_pos c3).symm.trans hf
    refine v_iconst dX12_undo_12 (by decide) (v := -1) ?_
    replace hf := Option.some.inj hf
    subst hf
    exact v_iret dX12_undo_13 rfl
theorem ckf_X12_undo {h : xa_H} {l0 : Nat} {r : (Int32 × xa_H)} (hf : f_X12_undo h l0 = some r) : ck [12] h l0 = some () := by
  obtain ⟨u, e, -⟩ := ob hf
  exact e
def M_X12_worthAfter : xa_M := (yX12_worthAfter, cX12_worthAfter, 4, some .int)
theorem cb_X12_worthAfter : xa_CB M_X12_worthAfter 3 := ⟨gws_at 1808 (by decide +kernel) rfl, gws_at 122 (by decide +kernel) rfl, by decide +kernel, Nat.le_of_ble_eq_true rfl⟩
def f_X12_worthAfter (h : xa_H) (l0 : Nat) (l1 : Int32) (l2 : Int32) (l3 : Int32) : Option (Int32 × xa_H) :=
  (ck [12] h l0).bind fun _ =>
  (xp [12] 0 h l0 (.int (0 : Int32))).bind fun h1 =>
  (f_X12_isSong h1 l0 l1).bind fun q2 =>
  if q2 = 0 then
    some ((-1000000 : Int32), h1)
  else
    (f_X12_isIn h1 l2.toInt64 (0 : Int64) (60 : Int64)).bind fun q4 =>
    if q4 = 0 then
      some ((-1000000 : Int32), h1)
    else
      (f_X12_isHouse h1 l0 l3).bind fun q6 =>
      if q6 = 0 then
        some ((-1000000 : Int32), h1)
      else
        (f_X12_singsOften h1 l0 l1 l2).bind fun q8 =>
        if q8.1 = 0 then
          some ((-1000000 : Int32), q8.2)
        else
          (gR [12] 33 q8.2 l0).bind fun x10 =>
          (aI q8.2 x10 ((36 : Int32) + l3)).bind fun x11 =>
          some (x11, q8.2)
set_option maxRecDepth 20000 in
theorem ev_X12_worthAfter {G : xa_G} {h : xa_H} {l0 : Nat} {l1 : Int32} {l2 : Int32} {l3 : Int32} {r : (Int32 × xa_H)} (hf : f_X12_worthAfter h l0 l1 l2 l3 = some r) : xa_Ev G M_X12_worthAfter 5 [.ref l0, .int l1, .int l2, .int l3] h (some (.int r.1)) r.2 := by
  refine xa_entry (by decide +kernel) (loc := [some (.ref l0), some (.int l1), some (.int l2), some (.int l3)]) rfl (Nat.le_of_ble_eq_true rfl) ?_
  unfold f_X12_worthAfter at hf
  obtain ⟨u0, eu0, hf⟩ := ob hf
  refine v_aload_n dX12_worthAfter_0 rfl ?_
  refine v_iconst dX12_worthAfter_1 (by decide) (v := 0) ?_
  obtain ⟨h1, eh1, hf⟩ := ob hf
  refine v_put dX12_worthAfter_2 fp_12_111 (fun z => by cases z) (fun _ => rfl) (fun _ => rfl) eh1 ?_
  refine v_aload_n dX12_worthAfter_5 rfl ?_
  refine v_iload_n dX12_worthAfter_6 rfl ?_
  obtain ⟨q2, eq2, hf⟩ := ob hf
  refine v_callV dX12_worthAfter_7 ⟨cb_X12_isSong, ml_12_381, im_X12_isSong⟩ se_12_X12_isSong (ckf_X12_isSong eq2) (ev_X12_isSong eq2) (by decide) (As := [.int l1]) rfl (st := []) rfl (Nat.le_of_ble_eq_true rfl) rfl ?_
  refine v_if_eq dX12_worthAfter_10 (tgt := 42) (by decide) (fun c3 => ?_) (fun c3 => ?_)
  · replace hf := (if_pos c3).symm.trans hf
    refine v_ldcw dX12_worthAfter_42 rfl co_12_380 ?_
    replace hf := Option.some.inj hf
    subst hf
    exact v_iret dX12_worthAfter_45 rfl
  · replace hf := (if_neg c3).symm.trans hf
    refine v_iload_n dX12_worthAfter_13 rfl ?_
    refine v_i2l dX12_worthAfter_14 ?_
    refine v_lconst dX12_worthAfter_15 (by decide) (v := 0) ?_
    refine v_ldc2 dX12_worthAfter_16 rfl col_12_435 ?_
    obtain ⟨q4, eq4, hf⟩ := ob hf
    refine v_callS dX12_worthAfter_19 ⟨cb_X12_isIn, ml_12_232, sm_X12_isIn⟩ (ev_X12_isIn eq4) (by decide) (As := [.long l2.toInt64, .long (0 : Int64), .long (60 : Int64)]) rfl (st := []) rfl (Nat.le_of_ble_eq_true rfl) rfl ?_
    refine v_if_eq dX12_worthAfter_22 (tgt := 42) (by decide) (fun c5 => ?_) (fun c5 => ?_)
    · replace hf := (if_pos c5).symm.trans hf
      refine v_ldcw dX12_worthAfter_42 rfl co_12_380 ?_
      replace hf := Option.some.inj hf
      subst hf
      exact v_iret dX12_worthAfter_45 rfl
    · replace hf := (if_neg c5).symm.trans hf
      refine v_aload_n dX12_worthAfter_25 rfl ?_
      refine v_iload_n dX12_worthAfter_26 rfl ?_
      obtain ⟨q6, eq6, hf⟩ := ob hf
      refine v_callV dX12_worthAfter_27 ⟨cb_X12_isHouse, ml_12_335, im_X12_isHouse⟩ se_12_X12_isHouse (ckf_X12_isHouse eq6) (ev_X12_isHouse eq6) (by decide) (As := [.int l3]) rfl (st := []) rfl (Nat.le_of_ble_eq_true rfl) rfl ?_
      refine v_if_eq dX12_worthAfter_30 (tgt := 42) (by decide) (fun c7 => ?_) (fun c7 => ?_)
      · replace hf := (if_pos c7).symm.trans hf
        refine v_ldcw dX12_worthAfter_42 rfl co_12_380 ?_
        replace hf := Option.some.inj hf
        subst hf
        exact v_iret dX12_worthAfter_45 rfl
      · replace hf := (if_neg c7).symm.trans hf
        refine v_aload_n dX12_worthAfter_33 rfl ?_
        refine v_iload_n dX12_worthAfter_34 rfl ?_
        refine v_iload_n dX12_worthAfter_35 rfl ?_
        obtain ⟨q8, eq8, hf⟩ := ob hf
        refine v_callV dX12_worthAfter_36 ⟨cb_X12_singsOften, ml_12_437, im_X12_singsOften⟩ se_12_X12_singsOften (ckf_X12_singsOften eq8) (ev_X12_singsOften eq8) (by decide) (As := [.int l1, .int l2]) rfl (st := []) rfl (Nat.le_of_ble_eq_true rfl) rfl ?_
        refine v_if_ne dX12_worthAfter_39 (tgt := 46) (by decide) (fun c9 => ?_) (fun c9 => ?_)
        · replace hf := (if_neg c9).symm.trans hf
          refine v_aload_n dX12_worthAfter_46 rfl ?_
          obtain ⟨x10, ex10, hf⟩ := ob hf
          refine v_getR dX12_worthAfter_47 fl_12_64 ex10 ?_
          refine v_bipush dX12_worthAfter_50 (by decide) (v := 36) ?_
          refine v_iload_n dX12_worthAfter_52 rfl ?_
          refine v_iadd dX12_worthAfter_53 ?_
          obtain ⟨x11, ex11, hf⟩ := ob hf
          refine v_ialoadI dX12_worthAfter_54 ex11 ?_
          replace hf := Option.some.inj hf
          subst hf
          exact v_iret dX12_worthAfter_55 rfl
        · replace hf := (if_pos c9).symm.trans hf
          refine v_ldcw dX12_worthAfter_42 rfl co_12_380 ?_
          replace hf := Option.some.inj hf
          subst hf
          exact v_iret dX12_worthAfter_45 rfl
theorem ckf_X12_worthAfter {h : xa_H} {l0 : Nat} {l1 : Int32} {l2 : Int32} {l3 : Int32} {r : (Int32 × xa_H)} (hf : f_X12_worthAfter h l0 l1 l2 l3 = some r) : ck [12] h l0 = some () := by
  obtain ⟨u, e, -⟩ := ob hf
  exact e
def M_X12_years : xa_M := (yX12_years, cX12_years, 8, some .int)
theorem cb_X12_years : xa_CB M_X12_years 2 := ⟨gws_at 1768 (by decide +kernel) rfl, gws_at 122 (by decide +kernel) rfl, by decide +kernel, Nat.le_of_ble_eq_true rfl⟩
def f_X12_years_b142 (k49 : xa_H → Nat → Int32 → Int32 → Option (Int32 × xa_H)) (h : xa_H) (l0 : Nat) (l1 : Int32) (l4 : Int32) : Option (Int32 × xa_H) :=
  k49 h l0 l1 (l4 + (1 : Int32))
set_option maxRecDepth 20000 in
theorem e_X12_years_b142 {G : xa_G} {k49 : xa_H → Nat → Int32 → Int32 → Option (Int32 × xa_H)} (hk49 : ∀ (h : xa_H) (l0 : Nat) (l1 : Int32) (l4 : Int32) (r : (Int32 × xa_H)), k49 h l0 l1 l4 = some r → xa_V G M_X12_years 5 49 [some (.ref l0), some (.int l1), none, none, some (.int l4), none, none, none] [] h (some (.int r.1)) r.2) : ∀ (h : xa_H) (l0 : Nat) (l1 : Int32) (l4 : Int32) (r : (Int32 × xa_H)), f_X12_years_b142 k49 h l0 l1 l4 = some r → xa_V G M_X12_years 5 142 [some (.ref l0), some (.int l1), none, none, some (.int l4), none, none, none] [] h (some (.int r.1)) r.2 := by
  intro h l0 l1 l4 r hf
  unfold f_X12_years_b142 at hf
  refine v_iinc dX12_years_142 rfl (v := (l4 + (1 : Int32))) rfl (Nat.le_of_ble_eq_true rfl) (loc' := [some (.ref l0), some (.int l1), none, none, some (.int (l4 + (1 : Int32))), none, none, none]) rfl ?_
  refine v_goto dX12_years_145 (tgt := 49) (by decide) ?_
  exact hk49 h l0 l1 (l4 + (1 : Int32)) r hf
def f_X12_years_b98 (k49 : xa_H → Nat → Int32 → Int32 → Option (Int32 × xa_H)) (h : xa_H) (l0 : Nat) (l1 : Int32) (l4 : Int32) : Option (Int32 × xa_H) :=
  (f_X12_draw h l0 (10 : Int32)).bind fun q1 =>
  (gI [12] 36 q1.2 l0).bind fun x2 =>
  if x2 ≤ q1.1 then
    f_X12_years_b142 k49 q1.2 l0 l1 l4
  else
    (gI [12] 26 q1.2 l0).bind fun x4 =>
    (f_X12_draw q1.2 l0 x4).bind fun q5 =>
    (gI [12] 26 q5.2 l0).bind fun x6 =>
    (f_X12_draw q5.2 l0 x6).bind fun q7 =>
    (gR [12] 32 q7.2 l0).bind fun x8 =>
    (f_X12_clears q7.2 x8 q5.1 q7.1).bind fun q9 =>
    f_X12_years_b142 k49 q9 l0 l1 l4
set_option maxRecDepth 20000 in
theorem e_X12_years_b98 {G : xa_G} {k49 : xa_H → Nat → Int32 → Int32 → Option (Int32 × xa_H)} (hk49 : ∀ (h : xa_H) (l0 : Nat) (l1 : Int32) (l4 : Int32) (r : (Int32 × xa_H)), k49 h l0 l1 l4 = some r → xa_V G M_X12_years 5 49 [some (.ref l0), some (.int l1), none, none, some (.int l4), none, none, none] [] h (some (.int r.1)) r.2) : ∀ (h : xa_H) (l0 : Nat) (l1 : Int32) (l4 : Int32) (r : (Int32 × xa_H)), f_X12_years_b98 k49 h l0 l1 l4 = some r → xa_V G M_X12_years 5 98 [some (.ref l0), some (.int l1), none, none, some (.int l4), none, none, none] [] h (some (.int r.1)) r.2 := by
  intro h l0 l1 l4 r hf
  unfold f_X12_years_b98 at hf
  refine v_aload_n dX12_years_98 rfl ?_
  refine v_bipush dX12_years_99 (by decide) (v := 10) ?_
  obtain ⟨q1, eq1, hf⟩ := ob hf
  refine v_callV dX12_years_101 ⟨cb_X12_draw, ml_12_423, im_X12_draw⟩ se_12_X12_draw (ckf_X12_draw eq1) (ev_X12_draw eq1) (by decide) (As := [.int (10 : Int32)]) rfl (st := []) rfl (Nat.le_of_ble_eq_true rfl) rfl ?_
  refine v_aload_n dX12_years_104 rfl ?_
  obtain ⟨x2, ex2, hf⟩ := ob hf
  refine v_getI dX12_years_105 fl_12_74 ex2 ?_
  refine v_icmp_ge dX12_years_108 (tgt := 142) (by decide) (fun c3 => ?_) (fun c3 => ?_)
  · replace hf := (if_pos c3).symm.trans hf
    exact e_X12_years_b142 hk49 q1.2 l0 l1 l4 r hf
  · replace hf := (if_neg c3).symm.trans hf
    refine v_aload_n dX12_years_111 rfl ?_
    refine v_aload_n dX12_years_112 rfl ?_
    obtain ⟨x4, ex4, hf⟩ := ob hf
    refine v_getI dX12_years_113 fl_12_307 ex4 ?_
    obtain ⟨q5, eq5, hf⟩ := ob hf
    refine v_callV dX12_years_116 ⟨cb_X12_draw, ml_12_423, im_X12_draw⟩ se_12_X12_draw (ckf_X12_draw eq5) (ev_X12_draw eq5) (by decide) (As := [.int x4]) rfl (st := []) rfl (Nat.le_of_ble_eq_true rfl) rfl ?_
    refine v_istore dX12_years_119 (Nat.le_of_ble_eq_true rfl) (loc' := [some (.ref l0), some (.int l1), none, none, some (.int l4), none, some (.int q5.1), none]) rfl ?_
    refine v_aload_n dX12_years_121 rfl ?_
    refine v_aload_n dX12_years_122 rfl ?_
    obtain ⟨x6, ex6, hf⟩ := ob hf
    refine v_getI dX12_years_123 fl_12_307 ex6 ?_
    obtain ⟨q7, eq7, hf⟩ := ob hf
    refine v_callV dX12_years_126 ⟨cb_X12_draw, ml_12_423, im_X12_draw⟩ se_12_X12_draw (ckf_X12_draw eq7) (ev_X12_draw eq7) (by decide) (As := [.int x6]) rfl (st := []) rfl (Nat.le_of_ble_eq_true rfl) rfl ?_
    refine v_istore dX12_years_129 (Nat.le_of_ble_eq_true rfl) (loc' := [some (.ref l0), some (.int l1), none, none, some (.int l4), none, some (.int q5.1), some (.int q7.1)]) rfl ?_
    refine v_aload_n dX12_years_131 rfl ?_
    obtain ⟨x8, ex8, hf⟩ := ob hf
    refine v_getR dX12_years_132 fl_12_61 ex8 ?_
    refine v_iload dX12_years_135 rfl ?_
    refine v_iload dX12_years_137 rfl ?_
    obtain ⟨q9, eq9, hf⟩ := ob hf
    refine v_callS dX12_years_139 ⟨cb_X12_clears, ml_12_407, sm_X12_clears⟩ (ev_X12_clears eq9) (by decide) (As := [.ref x8, .int q5.1, .int q7.1]) rfl (st := []) rfl (Nat.le_of_ble_eq_true rfl) rfl ?_
    exact xa_weak (loc := [some (.ref l0), some (.int l1), none, none, some (.int l4), none, none, none]) ⟨rfl, ⟨rfl, ⟨rfl, trivial⟩⟩⟩ (e_X12_years_b142 hk49 q9 l0 l1 l4 r hf)
def f_X12_years_b49 : Nat → xa_H → Nat → Int32 → Int32 → Option (Int32 × xa_H)
  | 0, _, _, _, _ => none
  | n + 1, h, l0, l1, l4 =>
    if l1 ≤ l4 then
      (gR [12] 32 h l0).bind fun x2 =>
      (aI h x2 (50 : Int32)).bind fun x3 =>
      some (x3, h)
    else
      (f_X12_remember h l0).bind fun q4 =>
      (gI [12] 26 q4 l0).bind fun x5 =>
      (f_X12_draw q4 l0 x5).bind fun q6 =>
      (gR [12] 32 q6.2 l0).bind fun x7 =>
      (f_X12_can q6.2 l0 x7 q6.1).bind fun q8 =>
      if q8.1 = 0 then
        f_X12_years_b98 (fun h l0 l1 l4 => f_X12_years_b49 n h l0 l1 l4) q8.2 l0 l1 l4
      else
        (gR [12] 32 q8.2 l0).bind fun x10 =>
        (f_X12_crosses q8.2 l0 x10 q6.1).bind fun q11 =>
        (f_X12_tells q11 l0 q6.1).bind fun q12 =>
        f_X12_years_b98 (fun h l0 l1 l4 => f_X12_years_b49 n h l0 l1 l4) q12 l0 l1 l4
set_option maxRecDepth 20000 in
theorem e_X12_years_b49 {G : xa_G} : ∀ (n : Nat) (h : xa_H) (l0 : Nat) (l1 : Int32) (l4 : Int32) (r : (Int32 × xa_H)), f_X12_years_b49 n h l0 l1 l4 = some r → xa_V G M_X12_years 5 49 [some (.ref l0), some (.int l1), none, none, some (.int l4), none, none, none] [] h (some (.int r.1)) r.2 := by
  intro n
  induction n with
  | zero =>
    intro h l0 l1 l4 r hf
    cases (show (none : Option (Int32 × xa_H)) = some r from hf)
  | succ n ih =>
    intro h l0 l1 l4 r hf
    rw [f_X12_years_b49] at hf
    refine v_iload dX12_years_49 rfl ?_
    refine v_iload_n dX12_years_51 rfl ?_
    refine v_icmp_ge dX12_years_52 (tgt := 148) (by decide) (fun c1 => ?_) (fun c1 => ?_)
    · replace hf := (if_pos c1).symm.trans hf
      refine v_aload_n dX12_years_148 rfl ?_
      obtain ⟨x2, ex2, hf⟩ := ob hf
      refine v_getR dX12_years_149 fl_12_61 ex2 ?_
      refine v_bipush dX12_years_152 (by decide) (v := 50) ?_
      obtain ⟨x3, ex3, hf⟩ := ob hf
      refine v_ialoadI dX12_years_154 ex3 ?_
      replace hf := Option.some.inj hf
      subst hf
      exact v_iret dX12_years_155 rfl
    · replace hf := (if_neg c1).symm.trans hf
      refine v_aload_n dX12_years_55 rfl ?_
      obtain ⟨q4, eq4, hf⟩ := ob hf
      refine v_callV dX12_years_56 ⟨cb_X12_remember, ml_12_388, im_X12_remember⟩ se_12_X12_remember (ckf_X12_remember eq4) (ev_X12_remember eq4) (by decide) (As := []) rfl (st := []) rfl (Nat.le_of_ble_eq_true rfl) rfl ?_
      refine v_aload_n dX12_years_59 rfl ?_
      refine v_aload_n dX12_years_60 rfl ?_
      obtain ⟨x5, ex5, hf⟩ := ob hf
      refine v_getI dX12_years_61 fl_12_307 ex5 ?_
      obtain ⟨q6, eq6, hf⟩ := ob hf
      refine v_callV dX12_years_64 ⟨cb_X12_draw, ml_12_423, im_X12_draw⟩ se_12_X12_draw (ckf_X12_draw eq6) (ev_X12_draw eq6) (by decide) (As := [.int x5]) rfl (st := []) rfl (Nat.le_of_ble_eq_true rfl) rfl ?_
      refine v_istore dX12_years_67 (Nat.le_of_ble_eq_true rfl) (loc' := [some (.ref l0), some (.int l1), none, none, some (.int l4), some (.int q6.1), none, none]) rfl ?_
      refine v_aload_n dX12_years_69 rfl ?_
      refine v_aload_n dX12_years_70 rfl ?_
      obtain ⟨x7, ex7, hf⟩ := ob hf
      refine v_getR dX12_years_71 fl_12_61 ex7 ?_
      refine v_iload dX12_years_74 rfl ?_
      obtain ⟨q8, eq8, hf⟩ := ob hf
      refine v_callV dX12_years_76 ⟨cb_X12_can, ml_12_403, im_X12_can⟩ se_12_X12_can (ckf_X12_can eq8) (ev_X12_can eq8) (by decide) (As := [.ref x7, .int q6.1]) rfl (st := []) rfl (Nat.le_of_ble_eq_true rfl) rfl ?_
      refine v_if_eq dX12_years_79 (tgt := 98) (by decide) (fun c9 => ?_) (fun c9 => ?_)
      · replace hf := (if_pos c9).symm.trans hf
        exact xa_weak (loc := [some (.ref l0), some (.int l1), none, none, some (.int l4), none, none, none]) ⟨rfl, ⟨rfl, ⟨rfl, trivial⟩⟩⟩ (e_X12_years_b98 ih q8.2 l0 l1 l4 r hf)
      · replace hf := (if_neg c9).symm.trans hf
        refine v_aload_n dX12_years_82 rfl ?_
        refine v_aload_n dX12_years_83 rfl ?_
        obtain ⟨x10, ex10, hf⟩ := ob hf
        refine v_getR dX12_years_84 fl_12_61 ex10 ?_
        refine v_iload dX12_years_87 rfl ?_
        obtain ⟨q11, eq11, hf⟩ := ob hf
        refine v_callV dX12_years_89 ⟨cb_X12_crosses, ml_12_391, im_X12_crosses⟩ se_12_X12_crosses (ckf_X12_crosses eq11) (ev_X12_crosses eq11) (by decide) (As := [.ref x10, .int q6.1]) rfl (st := []) rfl (Nat.le_of_ble_eq_true rfl) rfl ?_
        refine v_aload_n dX12_years_92 rfl ?_
        refine v_iload dX12_years_93 rfl ?_
        obtain ⟨q12, eq12, hf⟩ := ob hf
        refine v_callV dX12_years_95 ⟨cb_X12_tells, ml_12_394, im_X12_tells⟩ se_12_X12_tells (ckf_X12_tells eq12) (ev_X12_tells eq12) (by decide) (As := [.int q6.1]) rfl (st := []) rfl (Nat.le_of_ble_eq_true rfl) rfl ?_
        exact xa_weak (loc := [some (.ref l0), some (.int l1), none, none, some (.int l4), none, none, none]) ⟨rfl, ⟨rfl, ⟨rfl, trivial⟩⟩⟩ (e_X12_years_b98 ih q12 l0 l1 l4 r hf)
def f_X12_years (h : xa_H) (l0 : Nat) (l1 : Int32) (l2 : Int64) : Option (Int32 × xa_H) :=
  (ck [12] h l0).bind fun _ =>
  (xp [12] 0 h l0 (.int (0 : Int32))).bind fun h1 =>
  (gI [12] 26 h1 l0).bind fun x2 =>
  if x2 = 0 then
    some ((-1 : Int32), h1)
  else
    (f_X12_isIn h1 l1.toInt64 (1 : Int64) (30 : Int64)).bind fun q4 =>
    if q4 = 0 then
      some ((-1 : Int32), h1)
    else
      (gR [12] 32 h1 l0).bind fun x6 =>
      (aI h1 x6 (50 : Int32)).bind fun x7 =>
      if (x7 + l1) ≤ (9999 : Int32) then
        (xp [12] 41 h1 l0 (.long l2)).bind fun h9 =>
        f_X12_years_b49 1048576 h9 l0 l1 (0 : Int32)
      else
        some ((-1 : Int32), h1)
set_option maxRecDepth 20000 in
theorem ev_X12_years {G : xa_G} {h : xa_H} {l0 : Nat} {l1 : Int32} {l2 : Int64} {r : (Int32 × xa_H)} (hf : f_X12_years h l0 l1 l2 = some r) : xa_Ev G M_X12_years 5 [.ref l0, .int l1, .long l2] h (some (.int r.1)) r.2 := by
  refine xa_entry (by decide +kernel) (loc := [some (.ref l0), some (.int l1), some (.long l2), none, none, none, none, none]) rfl (Nat.le_of_ble_eq_true rfl) ?_
  unfold f_X12_years at hf
  obtain ⟨u0, eu0, hf⟩ := ob hf
  refine v_aload_n dX12_years_0 rfl ?_
  refine v_iconst dX12_years_1 (by decide) (v := 0) ?_
  obtain ⟨h1, eh1, hf⟩ := ob hf
  refine v_put dX12_years_2 fp_12_111 (fun z => by cases z) (fun _ => rfl) (fun _ => rfl) eh1 ?_
  refine v_aload_n dX12_years_5 rfl ?_
  obtain ⟨x2, ex2, hf⟩ := ob hf
  refine v_getI dX12_years_6 fl_12_307 ex2 ?_
  refine v_if_eq dX12_years_9 (tgt := 39) (by decide) (fun c3 => ?_) (fun c3 => ?_)
  · replace hf := (if_pos c3).symm.trans hf
    refine v_iconst dX12_years_39 (by decide) (v := -1) ?_
    replace hf := Option.some.inj hf
    subst hf
    exact v_iret dX12_years_40 rfl
  · replace hf := (if_neg c3).symm.trans hf
    refine v_iload_n dX12_years_12 rfl ?_
    refine v_i2l dX12_years_13 ?_
    refine v_lconst dX12_years_14 (by decide) (v := 1) ?_
    refine v_ldc2 dX12_years_15 rfl col_12_421 ?_
    obtain ⟨q4, eq4, hf⟩ := ob hf
    refine v_callS dX12_years_18 ⟨cb_X12_isIn, ml_12_232, sm_X12_isIn⟩ (ev_X12_isIn eq4) (by decide) (As := [.long l1.toInt64, .long (1 : Int64), .long (30 : Int64)]) rfl (st := []) rfl (Nat.le_of_ble_eq_true rfl) rfl ?_
    refine v_if_eq dX12_years_21 (tgt := 39) (by decide) (fun c5 => ?_) (fun c5 => ?_)
    · replace hf := (if_pos c5).symm.trans hf
      refine v_iconst dX12_years_39 (by decide) (v := -1) ?_
      replace hf := Option.some.inj hf
      subst hf
      exact v_iret dX12_years_40 rfl
    · replace hf := (if_neg c5).symm.trans hf
      refine v_aload_n dX12_years_24 rfl ?_
      obtain ⟨x6, ex6, hf⟩ := ob hf
      refine v_getR dX12_years_25 fl_12_61 ex6 ?_
      refine v_bipush dX12_years_28 (by decide) (v := 50) ?_
      obtain ⟨x7, ex7, hf⟩ := ob hf
      refine v_ialoadI dX12_years_30 ex7 ?_
      refine v_iload_n dX12_years_31 rfl ?_
      refine v_iadd dX12_years_32 ?_
      refine v_sipush dX12_years_33 (by decide) (v := 9999) ?_
      refine v_icmp_le dX12_years_36 (tgt := 41) (by decide) (fun c8 => ?_) (fun c8 => ?_)
      · replace hf := (if_pos c8).symm.trans hf
        refine v_aload_n dX12_years_41 rfl ?_
        refine v_lload_n dX12_years_42 rfl ?_
        obtain ⟨h9, eh9, hf⟩ := ob hf
        refine v_put dX12_years_43 fp_12_413 (fun z => by cases z) (fun _ => rfl) (fun _ => rfl) eh9 ?_
        refine v_iconst dX12_years_46 (by decide) (v := 0) ?_
        refine v_istore dX12_years_47 (Nat.le_of_ble_eq_true rfl) (loc' := [some (.ref l0), some (.int l1), some (.long l2), none, some (.int (0 : Int32)), none, none, none]) rfl ?_
        exact xa_weak (loc := [some (.ref l0), some (.int l1), none, none, some (.int (0 : Int32)), none, none, none]) ⟨rfl, ⟨rfl, ⟨rfl, trivial⟩⟩⟩ (e_X12_years_b49 1048576 h9 l0 l1 (0 : Int32) r hf)
      · replace hf := (if_neg c8).symm.trans hf
        refine v_iconst dX12_years_39 (by decide) (v := -1) ?_
        replace hf := Option.some.inj hf
        subst hf
        exact v_iret dX12_years_40 rfl
theorem ckf_X12_years {h : xa_H} {l0 : Nat} {l1 : Int32} {l2 : Int64} {r : (Int32 × xa_H)} (hf : f_X12_years h l0 l1 l2 = some r) : ck [12] h l0 = some () := by
  obtain ⟨u, e, -⟩ := ob hf
  exact e
