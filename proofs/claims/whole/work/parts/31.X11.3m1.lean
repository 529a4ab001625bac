def M_X11_sungApart : xa_M := (yX11_sungApart, cX11_sungApart, 4, some .boolean)
theorem cb_X11_sungApart : xa_CB M_X11_sungApart 2 := ⟨gws_at 995 (by decide +kernel) rfl, gws_at 109 (by decide +kernel) rfl, by decide +kernel, Nat.le_of_ble_eq_true rfl⟩
def f_X11_sungApart_b36 : Nat → xa_H → Nat → Int32 → Int32 → Int32 → Option (Int32 × xa_H)
  | 0, _, _, _, _, _ => none
  | n + 1, h, l0, l1, l2, l3 =>
    if l2 ≤ l3 then
      some ((1 : Int32), h)
    else
      (gR [11] 8 h l0).bind fun x2 =>
      (gR [11] 5 h l0).bind fun x3 =>
      (gR [5] 0 h x3).bind fun x4 =>
      (aR 5 h x4 l1).bind fun x5 =>
      (gR [11] 5 h l0).bind fun x6 =>
      (gR [5] 1 h x6).bind fun x7 =>
      (aI h x7 l1).bind fun x8 =>
      (f_X0_follow h x2 x5 x8).bind fun q9 =>
      if q9.1 = 0 then
        some ((0 : Int32), q9.2)
      else
        f_X11_sungApart_b36 n q9.2 l0 l1 l2 (l3 + (1 : Int32))
set_option maxRecDepth 20000 in
theorem e_X11_sungApart_b36 {G : xa_G} : ∀ (n : Nat) (h : xa_H) (l0 : Nat) (l1 : Int32) (l2 : Int32) (l3 : Int32) (r : (Int32 × xa_H)), f_X11_sungApart_b36 n h l0 l1 l2 l3 = some r → xa_V G M_X11_sungApart 4 36 [some (.ref l0), some (.int l1), some (.int l2), some (.int l3)] [] h (some (.int r.1)) r.2 := by
  intro n
  induction n with
  | zero =>
    intro h l0 l1 l2 l3 r hf
    cases (show (none : Option (Int32 × xa_H)) = some r from hf)
  | succ n ih =>
    intro h l0 l1 l2 l3 r hf
    rw [f_X11_sungApart_b36] at hf
    refine v_iload_n dX11_sungApart_36 rfl ?_
    refine v_iload_n dX11_sungApart_37 rfl ?_
    refine v_icmp_ge dX11_sungApart_38 (tgt := 77) (by decide) (fun c1 => ?_) (fun c1 => ?_)
    · replace hf := (if_pos c1).symm.trans hf
      refine v_iconst dX11_sungApart_77 (by decide) (v := 1) ?_
      replace hf := Option.some.inj hf
      subst hf
      exact v_zret dX11_sungApart_78 rfl (by decide)
    · replace hf := (if_neg c1).symm.trans hf
      refine v_aload_n dX11_sungApart_41 rfl ?_
      obtain ⟨x2, ex2, hf⟩ := ob hf
      refine v_getR dX11_sungApart_42 fl_11_56 ex2 ?_
      refine v_aload_n dX11_sungApart_45 rfl ?_
      obtain ⟨x3, ex3, hf⟩ := ob hf
      refine v_getR dX11_sungApart_46 fl_11_43 ex3 ?_
      obtain ⟨x4, ex4, hf⟩ := ob hf
      refine v_getR dX11_sungApart_49 fl_11_198 ex4 ?_
      refine v_iload_n dX11_sungApart_52 rfl ?_
      obtain ⟨x5, ex5, hf⟩ := ob hf
      refine v_aaload dX11_sungApart_53 (t := 5) (by decide) ex5 ?_
      refine v_aload_n dX11_sungApart_54 rfl ?_
      obtain ⟨x6, ex6, hf⟩ := ob hf
      refine v_getR dX11_sungApart_55 fl_11_43 ex6 ?_
      obtain ⟨x7, ex7, hf⟩ := ob hf
      refine v_getR dX11_sungApart_58 fl_11_202 ex7 ?_
      refine v_iload_n dX11_sungApart_61 rfl ?_
      obtain ⟨x8, ex8, hf⟩ := ob hf
      refine v_ialoadI dX11_sungApart_62 ex8 ?_
      obtain ⟨q9, eq9, hf⟩ := ob hf
      refine v_callV dX11_sungApart_63 ⟨cb_X0_follow, ml_11_298, im_X0_follow⟩ se_0_X0_follow (ckf_X0_follow eq9) (ev_X0_follow eq9) (by decide) (As := [.ref x5, .int x8]) rfl (st := []) rfl (Nat.le_of_ble_eq_true rfl) rfl ?_
      refine v_if_ne dX11_sungApart_66 (tgt := 71) (by decide) (fun c10 => ?_) (fun c10 => ?_)
      · replace hf := (if_neg c10).symm.trans hf
        refine v_iinc dX11_sungApart_71 rfl (v := (l3 + (1 : Int32))) rfl (Nat.le_of_ble_eq_true rfl) (loc' := [some (.ref l0), some (.int l1), some (.int l2), some (.int (l3 + (1 : Int32)))]) rfl ?_
        refine v_goto dX11_sungApart_74 (tgt := 36) (by decide) ?_
        exact ih q9.2 l0 l1 l2 (l3 + (1 : Int32)) r hf
      · replace hf := (if_pos c10).symm.trans hf
        refine v_iconst dX11_sungApart_69 (by decide) (v := 0) ?_
        replace hf := Option.some.inj hf
        subst hf
        exact v_zret dX11_sungApart_70 rfl (by decide)
def f_X11_sungApart (h : xa_H) (l0 : Nat) (l1 : Int32) (l2 : Int32) : Option (Int32 × xa_H) :=
  (ck [11] h l0).bind fun _ =>
  (gR [11] 5 h l0).bind fun x1 =>
  (f_X5_has h x1 l1).bind fun q2 =>
  if q2 = 0 then
    some ((0 : Int32), h)
  else
    if l2 < 0 then
      some ((0 : Int32), h)
    else
      if l2 ≤ (60 : Int32) then
        (gR [11] 8 h l0).bind fun x6 =>
        (gR [11] 6 h l0).bind fun x7 =>
        (f_X0_become h x6 x7).bind fun q8 =>
        f_X11_sungApart_b36 1048576 q8 l0 l1 l2 (0 : Int32)
      else
        some ((0 : Int32), h)
set_option maxRecDepth 20000 in
theorem ev_X11_sungApart {G : xa_G} {h : xa_H} {l0 : Nat} {l1 : Int32} {l2 : Int32} {r : (Int32 × xa_H)} (hf : f_X11_sungApart h l0 l1 l2 = some r) : xa_Ev G M_X11_sungApart 4 [.ref l0, .int l1, .int l2] h (some (.int r.1)) r.2 := by
  refine xa_entry (by decide +kernel) (loc := [some (.ref l0), some (.int l1), some (.int l2), none]) rfl (Nat.le_of_ble_eq_true rfl) ?_
  unfold f_X11_sungApart at hf
  obtain ⟨u0, eu0, hf⟩ := ob hf
  refine v_aload_n dX11_sungApart_0 rfl ?_
  obtain ⟨x1, ex1, hf⟩ := ob hf
  refine v_getR dX11_sungApart_1 fl_11_43 ex1 ?_
  refine v_iload_n dX11_sungApart_4 rfl ?_
  obtain ⟨q2, eq2, hf⟩ := ob hf
  refine v_callV dX11_sungApart_5 ⟨cb_X5_has, ml_11_221, im_X5_has⟩ se_5_X5_has (ckf_X5_has eq2) (ev_X5_has eq2) (by decide) (As := [.int l1]) rfl (st := []) rfl (Nat.le_of_ble_eq_true rfl) rfl ?_
  refine v_if_eq dX11_sungApart_8 (tgt := 21) (by decide) (fun c3 => ?_) (fun c3 => ?_)
  · replace hf := (if_pos c3).symm.trans hf
    refine v_iconst dX11_sungApart_21 (by decide) (v := 0) ?_
    replace hf := Option.some.inj hf
    subst hf
    exact v_zret dX11_sungApart_22 rfl (by decide)
  · replace hf := (if_neg c3).symm.trans hf
    refine v_iload_n dX11_sungApart_11 rfl ?_
    refine v_if_lt dX11_sungApart_12 (tgt := 21) (by decide) (fun c4 => ?_) (fun c4 => ?_)
    · replace hf := (if_pos c4).symm.trans hf
      refine v_iconst dX11_sungApart_21 (by decide) (v := 0) ?_
      replace hf := Option.some.inj hf
      subst hf
      exact v_zret dX11_sungApart_22 rfl (by decide)
    · replace hf := (if_neg c4).symm.trans hf
      refine v_iload_n dX11_sungApart_15 rfl ?_
      refine v_bipush dX11_sungApart_16 (by decide) (v := 60) ?_
      refine v_icmp_le dX11_sungApart_18 (tgt := 23) (by decide) (fun c5 => ?_) (fun c5 => ?_)
      · replace hf := (if_pos c5).symm.trans hf
        refine v_aload_n dX11_sungApart_23 rfl ?_
        obtain ⟨x6, ex6, hf⟩ := ob hf
        refine v_getR dX11_sungApart_24 fl_11_56 ex6 ?_
        refine v_aload_n dX11_sungApart_27 rfl ?_
        obtain ⟨x7, ex7, hf⟩ := ob hf
        refine v_getR dX11_sungApart_28 fl_11_49 ex7 ?_
        obtain ⟨q8, eq8, hf⟩ := ob hf
        refine v_callV dX11_sungApart_31 ⟨cb_X0_become, ml_11_142, im_X0_become⟩ se_0_X0_become (ckf_X0_become eq8) (ev_X0_become eq8) (by decide) (As := [.ref x7]) rfl (st := []) rfl (Nat.le_of_ble_eq_true rfl) rfl ?_
        refine v_iconst dX11_sungApart_34 (by decide) (v := 0) ?_
        refine v_istore_n (i := 3) rfl dX11_sungApart_35 (Nat.le_of_ble_eq_true rfl) (loc' := [some (.ref l0), some (.int l1), some (.int l2), some (.int (0 : Int32))]) rfl ?_
        exact e_X11_sungApart_b36 1048576 q8 l0 l1 l2 (0 : Int32) r hf
      · replace hf := (if_neg c5).symm.trans hf
        refine v_iconst dX11_sungApart_21 (by decide) (v := 0) ?_
        replace hf := Option.some.inj hf
        subst hf
        exact v_zret dX11_sungApart_22 rfl (by decide)
theorem ckf_X11_sungApart {h : xa_H} {l0 : Nat} {l1 : Int32} {l2 : Int32} {r : (Int32 × xa_H)} (hf : f_X11_sungApart h l0 l1 l2 = some r) : ck [11] h l0 = some () := by
  obtain ⟨u, e, -⟩ := ob hf
  exact e
def M_X11_after : xa_M := (yX11_after, cX11_after, 5, some .int)
theorem cb_X11_after : xa_CB M_X11_after 4 := ⟨gws_at 991 (by decide +kernel) rfl, gws_at 109 (by decide +kernel) rfl, by decide +kernel, Nat.le_of_ble_eq_true rfl⟩
def f_X11_after (h : xa_H) (l0 : Nat) (l1 : Int32) (l2 : Int32) (l3 : Int32) (l4 : Int32) : Option (Int32 × xa_H) :=
  (ck [11] h l0).bind fun _ =>
  (gR [11] 6 h l0).bind fun x1 =>
  (f_X0_has h x1 l3).bind fun q2 =>
  if q2 = 0 then
    some ((-1000000 : Int32), h)
  else
    (gR [11] 6 h l0).bind fun x4 =>
    (f_X0_has h x4 l4).bind fun q5 =>
    if q5 = 0 then
      some ((-1000000 : Int32), h)
    else
      (f_X11_sungApart h l0 l1 l2).bind fun q7 =>
      if q7.1 = 0 then
        some ((-1000000 : Int32), q7.2)
      else
        (gR [11] 8 q7.2 l0).bind fun x9 =>
        (f_X0_debt q7.2 x9 l3 l4).bind fun q10 =>
        some (q10, q7.2)
set_option maxRecDepth 20000 in
theorem ev_X11_after {G : xa_G} {h : xa_H} {l0 : Nat} {l1 : Int32} {l2 : Int32} {l3 : Int32} {l4 : Int32} {r : (Int32 × xa_H)} (hf : f_X11_after h l0 l1 l2 l3 l4 = some r) : xa_Ev G M_X11_after 5 [.ref l0, .int l1, .int l2, .int l3, .int l4] h (some (.int r.1)) r.2 := by
  refine xa_entry (by decide +kernel) (loc := [some (.ref l0), some (.int l1), some (.int l2), some (.int l3), some (.int l4)]) rfl (Nat.le_of_ble_eq_true rfl) ?_
  unfold f_X11_after at hf
  obtain ⟨u0, eu0, hf⟩ := ob hf
  refine v_aload_n dX11_after_0 rfl ?_
  obtain ⟨x1, ex1, hf⟩ := ob hf
  refine v_getR dX11_after_1 fl_11_49 ex1 ?_
  refine v_iload_n dX11_after_4 rfl ?_
  obtain ⟨q2, eq2, hf⟩ := ob hf
  refine v_callV dX11_after_5 ⟨cb_X0_has, ml_11_157, im_X0_has⟩ se_0_X0_has (ckf_X0_has eq2) (ev_X0_has eq2) (by decide) (As := [.int l3]) rfl (st := []) rfl (Nat.le_of_ble_eq_true rfl) rfl ?_
  refine v_if_eq dX11_after_8 (tgt := 32) (by decide) (fun c3 => ?_) (fun c3 => ?_)
  · replace hf := (if_pos c3).symm.trans hf
    refine v_ldc dX11_after_32 rfl co_11_220 ?_
    replace hf := Option.some.inj hf
    subst hf
    exact v_iret dX11_after_34 rfl
  · replace hf := (if_neg c3).symm.trans hf
    refine v_aload_n dX11_after_11 rfl ?_
    obtain ⟨x4, ex4, hf⟩ := ob hf
    refine v_getR dX11_after_12 fl_11_49 ex4 ?_
    refine v_iload dX11_after_15 rfl ?_
    obtain ⟨q5, eq5, hf⟩ := ob hf
    refine v_callV dX11_after_17 ⟨cb_X0_has, ml_11_157, im_X0_has⟩ se_0_X0_has (ckf_X0_has eq5) (ev_X0_has eq5) (by decide) (As := [.int l4]) rfl (st := []) rfl (Nat.le_of_ble_eq_true rfl) rfl ?_
    refine v_if_eq dX11_after_20 (tgt := 32) (by decide) (fun c6 => ?_) (fun c6 => ?_)
    · replace hf := (if_pos c6).symm.trans hf
      refine v_ldc dX11_after_32 rfl co_11_220 ?_
      replace hf := Option.some.inj hf
      subst hf
      exact v_iret dX11_after_34 rfl
    · replace hf := (if_neg c6).symm.trans hf
      refine v_aload_n dX11_after_23 rfl ?_
      refine v_iload_n dX11_after_24 rfl ?_
      refine v_iload_n dX11_after_25 rfl ?_
      obtain ⟨q7, eq7, hf⟩ := ob hf
      refine v_callV dX11_after_26 ⟨cb_X11_sungApart, ml_11_294, im_X11_sungApart⟩ se_11_X11_sungApart (ckf_X11_sungApart eq7) (ev_X11_sungApart eq7) (by decide) (As := [.int l1, .int l2]) rfl (st := []) rfl (Nat.le_of_ble_eq_true rfl) rfl ?_
      refine v_if_ne dX11_after_29 (tgt := 35) (by decide) (fun c8 => ?_) (fun c8 => ?_)
      · replace hf := (if_neg c8).symm.trans hf
        refine v_aload_n dX11_after_35 rfl ?_
        obtain ⟨x9, ex9, hf⟩ := ob hf
        refine v_getR dX11_after_36 fl_11_56 ex9 ?_
        refine v_iload_n dX11_after_39 rfl ?_
        refine v_iload dX11_after_40 rfl ?_
        obtain ⟨q10, eq10, hf⟩ := ob hf
        refine v_callV dX11_after_42 ⟨cb_X0_debt, ml_11_217, im_X0_debt⟩ se_0_X0_debt (ckf_X0_debt eq10) (ev_X0_debt eq10) (by decide) (As := [.int l3, .int l4]) rfl (st := []) rfl (Nat.le_of_ble_eq_true rfl) rfl ?_
        replace hf := Option.some.inj hf
        subst hf
        exact v_iret dX11_after_45 rfl
      · replace hf := (if_pos c8).symm.trans hf
        refine v_ldc dX11_after_32 rfl co_11_220 ?_
        replace hf := Option.some.inj hf
        subst hf
        exact v_iret dX11_after_34 rfl
theorem ckf_X11_after {h : xa_H} {l0 : Nat} {l1 : Int32} {l2 : Int32} {l3 : Int32} {l4 : Int32} {r : (Int32 × xa_H)} (hf : f_X11_after h l0 l1 l2 l3 l4 = some r) : ck [11] h l0 = some () := by
  obtain ⟨u, e, -⟩ := ob hf
  exact e
def M_X11_again : xa_M := (yX11_again, cX11_again, 4, some .int)
theorem cb_X11_again : xa_CB M_X11_again 2 := ⟨gws_at 1009 (by decide +kernel) rfl, gws_at 109 (by decide +kernel) rfl, by decide +kernel, Nat.le_of_ble_eq_true rfl⟩
def f_X11_again_b115 (k45 : xa_H → Nat → Int32 → Int32 → Int32 → Option (Int32 × xa_H)) (h : xa_H) (l0 : Nat) (l1 : Int32) (l2 : Int32) (l3 : Int32) : Option (Int32 × xa_H) :=
  k45 h l0 l1 l2 (l3 + (1 : Int32))
set_option maxRecDepth 20000 in
theorem e_X11_again_b115 {G : xa_G} {k45 : xa_H → Nat → Int32 → Int32 → Int32 → Option (Int32 × xa_H)} (hk45 : ∀ (h : xa_H) (l0 : Nat) (l1 : Int32) (l2 : Int32) (l3 : Int32) (r : (Int32 × xa_H)), k45 h l0 l1 l2 l3 = some r → xa_V G M_X11_again 4 45 [some (.ref l0), some (.int l1), some (.int l2), some (.int l3)] [] h (some (.int r.1)) r.2) : ∀ (h : xa_H) (l0 : Nat) (l1 : Int32) (l2 : Int32) (l3 : Int32) (r : (Int32 × xa_H)), f_X11_again_b115 k45 h l0 l1 l2 l3 = some r → xa_V G M_X11_again 4 115 [some (.ref l0), some (.int l1), some (.int l2), some (.int l3)] [] h (some (.int r.1)) r.2 := by
  intro h l0 l1 l2 l3 r hf
  unfold f_X11_again_b115 at hf
  refine v_iinc dX11_again_115 rfl (v := (l3 + (1 : Int32))) rfl (Nat.le_of_ble_eq_true rfl) (loc' := [some (.ref l0), some (.int l1), some (.int l2), some (.int (l3 + (1 : Int32)))]) rfl ?_
  refine v_goto dX11_again_118 (tgt := 45) (by decide) ?_
  exact hk45 h l0 l1 l2 (l3 + (1 : Int32)) r hf
def f_X11_again_b113 (h : xa_H) (l3 : Int32) : Option (Int32 × xa_H) :=
  some (l3, h)
set_option maxRecDepth 20000 in
theorem e_X11_again_b113 {G : xa_G} : ∀ (h : xa_H) (l3 : Int32) (r : (Int32 × xa_H)), f_X11_again_b113 h l3 = some r → xa_V G M_X11_again 4 113 [none, none, none, some (.int l3)] [] h (some (.int r.1)) r.2 := by
  intro h l3 r hf
  unfold f_X11_again_b113 at hf
  refine v_iload_n dX11_again_113 rfl ?_
  replace hf := Option.some.inj hf
  subst hf
  exact v_iret dX11_again_114 rfl
def f_X11_again_b45 : Nat → xa_H → Nat → Int32 → Int32 → Int32 → Option (Int32 × xa_H)
  | 0, _, _, _, _, _ => none
  | n + 1, h, l0, l1, l2, l3 =>
    if (60 : Int32) < l3 then
      some ((-1 : Int32), h)
    else
      (gR [11] 8 h l0).bind fun x2 =>
      (gR [11] 5 h l0).bind fun x3 =>
      (gR [5] 0 h x3).bind fun x4 =>
      (aR 5 h x4 l1).bind fun x5 =>
      (gR [11] 5 h l0).bind fun x6 =>
      (gR [5] 1 h x6).bind fun x7 =>
      (aI h x7 l1).bind fun x8 =>
      (f_X0_follow h x2 x5 x8).bind fun q9 =>
      if q9.1 = 0 then
        some ((-1 : Int32), q9.2)
      else
        (gR [11] 8 q9.2 l0).bind fun x11 =>
        (gR [11] 6 q9.2 l0).bind fun x12 =>
        (f_X0_hasDebtsOf q9.2 x11 x12).bind fun q13 =>
        if q13 = 0 then
          f_X11_again_b115 (fun h l0 l1 l2 l3 => f_X11_again_b45 n h l0 l1 l2 l3) q9.2 l0 l1 l2 l3
        else
          if l2 = 0 then
            f_X11_again_b113 q9.2 l3
          else
            (gR [11] 8 q9.2 l0).bind fun x16 =>
            (gR [11] 6 q9.2 l0).bind fun x17 =>
            (f_X0_hasWorthsOf q9.2 x16 x17).bind fun q18 =>
            if q18 = 0 then
              f_X11_again_b115 (fun h l0 l1 l2 l3 => f_X11_again_b45 n h l0 l1 l2 l3) q9.2 l0 l1 l2 l3
            else
              f_X11_again_b113 q9.2 l3
set_option maxRecDepth 20000 in
theorem e_X11_again_b45 {G : xa_G} : ∀ (n : Nat) (h : xa_H) (l0 : Nat) (l1 : Int32) (l2 : Int32) (l3 : Int32) (r : (Int32 × xa_H)), f_X11_again_b45 n h l0 l1 l2 l3 = some r → xa_V G M_X11_again 4 45 [some (.ref l0), some (.int l1), some (.int l2), some (.int l3)] [] h (some (.int r.1)) r.2 := by
  intro n
  induction n with
  | zero =>
    intro h l0 l1 l2 l3 r hf
    cases (show (none : Option (Int32 × xa_H)) = some r from hf)
  | succ n ih =>
    intro h l0 l1 l2 l3 r hf
    rw [f_X11_again_b45] at hf
    refine v_iload_n dX11_again_45 rfl ?_
    refine v_bipush dX11_again_46 (by decide) (v := 60) ?_
    refine v_icmp_gt dX11_again_48 (tgt := 121) (by decide) (fun c1 => ?_) (fun c1 => ?_)
    · replace hf := (if_pos c1).symm.trans hf
      refine v_iconst dX11_again_121 (by decide) (v := -1) ?_
      replace hf := Option.some.inj hf
      subst hf
      exact v_iret dX11_again_122 rfl
    · replace hf := (if_neg c1).symm.trans hf
      refine v_aload_n dX11_again_51 rfl ?_
      obtain ⟨x2, ex2, hf⟩ := ob hf
      refine v_getR dX11_again_52 fl_11_56 ex2 ?_
      refine v_aload_n dX11_again_55 rfl ?_
      obtain ⟨x3, ex3, hf⟩ := ob hf
      refine v_getR dX11_again_56 fl_11_43 ex3 ?_
      obtain ⟨x4, ex4, hf⟩ := ob hf
      refine v_getR dX11_again_59 fl_11_198 ex4 ?_
      refine v_iload_n dX11_again_62 rfl ?_
      obtain ⟨x5, ex5, hf⟩ := ob hf
      refine v_aaload dX11_again_63 (t := 5) (by decide) ex5 ?_
      refine v_aload_n dX11_again_64 rfl ?_
      obtain ⟨x6, ex6, hf⟩ := ob hf
      refine v_getR dX11_again_65 fl_11_43 ex6 ?_
      obtain ⟨x7, ex7, hf⟩ := ob hf
      refine v_getR dX11_again_68 fl_11_202 ex7 ?_
      refine v_iload_n dX11_again_71 rfl ?_
      obtain ⟨x8, ex8, hf⟩ := ob hf
      refine v_ialoadI dX11_again_72 ex8 ?_
      obtain ⟨q9, eq9, hf⟩ := ob hf
      refine v_callV dX11_again_73 ⟨cb_X0_follow, ml_11_298, im_X0_follow⟩ se_0_X0_follow (ckf_X0_follow eq9) (ev_X0_follow eq9) (by decide) (As := [.ref x5, .int x8]) rfl (st := []) rfl (Nat.le_of_ble_eq_true rfl) rfl ?_
      refine v_if_ne dX11_again_76 (tgt := 81) (by decide) (fun c10 => ?_) (fun c10 => ?_)
      · replace hf := (if_neg c10).symm.trans hf
        refine v_aload_n dX11_again_81 rfl ?_
        obtain ⟨x11, ex11, hf⟩ := ob hf
        refine v_getR dX11_again_82 fl_11_56 ex11 ?_
        refine v_aload_n dX11_again_85 rfl ?_
        obtain ⟨x12, ex12, hf⟩ := ob hf
        refine v_getR dX11_again_86 fl_11_49 ex12 ?_
        obtain ⟨q13, eq13, hf⟩ := ob hf
        refine v_callV dX11_again_89 ⟨cb_X0_hasDebtsOf, ml_11_302, im_X0_hasDebtsOf⟩ se_0_X0_hasDebtsOf (ckf_X0_hasDebtsOf eq13) (ev_X0_hasDebtsOf eq13) (by decide) (As := [.ref x12]) rfl (st := []) rfl (Nat.le_of_ble_eq_true rfl) rfl ?_
        refine v_if_eq dX11_again_92 (tgt := 115) (by decide) (fun c14 => ?_) (fun c14 => ?_)
        · replace hf := (if_pos c14).symm.trans hf
          exact e_X11_again_b115 ih q9.2 l0 l1 l2 l3 r hf
        · replace hf := (if_neg c14).symm.trans hf
          refine v_iload_n dX11_again_95 rfl ?_
          refine v_if_eq dX11_again_96 (tgt := 113) (by decide) (fun c15 => ?_) (fun c15 => ?_)
          · replace hf := (if_pos c15).symm.trans hf
            exact xa_weak (loc := [none, none, none, some (.int l3)]) ⟨rfl, trivial⟩ (e_X11_again_b113 q9.2 l3 r hf)
          · replace hf := (if_neg c15).symm.trans hf
            refine v_aload_n dX11_again_99 rfl ?_
            obtain ⟨x16, ex16, hf⟩ := ob hf
            refine v_getR dX11_again_100 fl_11_56 ex16 ?_
            refine v_aload_n dX11_again_103 rfl ?_
            obtain ⟨x17, ex17, hf⟩ := ob hf
            refine v_getR dX11_again_104 fl_11_49 ex17 ?_
            obtain ⟨q18, eq18, hf⟩ := ob hf
            refine v_callV dX11_again_107 ⟨cb_X0_hasWorthsOf, ml_11_305, im_X0_hasWorthsOf⟩ se_0_X0_hasWorthsOf (ckf_X0_hasWorthsOf eq18) (ev_X0_hasWorthsOf eq18) (by decide) (As := [.ref x17]) rfl (st := []) rfl (Nat.le_of_ble_eq_true rfl) rfl ?_
            refine v_if_eq dX11_again_110 (tgt := 115) (by decide) (fun c19 => ?_) (fun c19 => ?_)
            · replace hf := (if_pos c19).symm.trans hf
              exact e_X11_again_b115 ih q9.2 l0 l1 l2 l3 r hf
            · replace hf := (if_neg c19).symm.trans hf
              exact xa_weak (loc := [none, none, none, some (.int l3)]) ⟨rfl, trivial⟩ (e_X11_again_b113 q9.2 l3 r hf)
      · replace hf := (if_pos c10).symm.trans hf
        refine v_iconst dX11_again_79 (by decide) (v := -1) ?_
        replace hf := Option.some.inj hf
        subst hf
        exact v_iret dX11_again_80 rfl
def f_X11_again (h : xa_H) (l0 : Nat) (l1 : Int32) (l2 : Int32) : Option (Int32 × xa_H) :=
  (ck [11] h l0).bind fun _ =>
  (gR [11] 5 h l0).bind fun x1 =>
  (f_X5_has h x1 l1).bind fun q2 =>
  if q2 = 0 then
    some ((-1 : Int32), h)
  else
    (gR [11] 6 h l0).bind fun x4 =>
    (gI [0] 4 h x4).bind fun x5 =>
    if x5 = 0 then
      some ((-1 : Int32), h)
    else
      if l2 < 0 then
        some ((-1 : Int32), h)
      else
        if l2 ≤ (1 : Int32) then
          (gR [11] 8 h l0).bind fun x9 =>
          (gR [11] 6 h l0).bind fun x10 =>
          (f_X0_become h x9 x10).bind fun q11 =>
          f_X11_again_b45 1048576 q11 l0 l1 l2 (1 : Int32)
        else
          some ((-1 : Int32), h)
set_option maxRecDepth 20000 in
theorem ev_X11_again {G : xa_G} {h : xa_H} {l0 : Nat} {l1 : Int32} {l2 : Int32} {r : (Int32 × xa_H)} (hf : f_X11_again h l0 l1 l2 = some r) : xa_Ev G M_X11_again 4 [.ref l0, .int l1, .int l2] h (some (.int r.1)) r.2 := by
  refine xa_entry (by decide +kernel) (loc := [some (.ref l0), some (.int l1), some (.int l2), none]) rfl (Nat.le_of_ble_eq_true rfl) ?_
  unfold f_X11_again at hf
  obtain ⟨u0, eu0, hf⟩ := ob hf
  refine v_aload_n dX11_again_0 rfl ?_
  obtain ⟨x1, ex1, hf⟩ := ob hf
  refine v_getR dX11_again_1 fl_11_43 ex1 ?_
  refine v_iload_n dX11_again_4 rfl ?_
  obtain ⟨q2, eq2, hf⟩ := ob hf
  refine v_callV dX11_again_5 ⟨cb_X5_has, ml_11_221, im_X5_has⟩ se_5_X5_has (ckf_X5_has eq2) (ev_X5_has eq2) (by decide) (As := [.int l1]) rfl (st := []) rfl (Nat.le_of_ble_eq_true rfl) rfl ?_
  refine v_if_eq dX11_again_8 (tgt := 30) (by decide) (fun c3 => ?_) (fun c3 => ?_)
  · replace hf := (if_pos c3).symm.trans hf
    refine v_iconst dX11_again_30 (by decide) (v := -1) ?_
    replace hf := Option.some.inj hf
    subst hf
    exact v_iret dX11_again_31 rfl
  · replace hf := (if_neg c3).symm.trans hf
    refine v_aload_n dX11_again_11 rfl ?_
    obtain ⟨x4, ex4, hf⟩ := ob hf
    refine v_getR dX11_again_12 fl_11_49 ex4 ?_
    obtain ⟨x5, ex5, hf⟩ := ob hf
    refine v_getI dX11_again_15 fl_11_154 ex5 ?_
    refine v_if_eq dX11_again_18 (tgt := 30) (by decide) (fun c6 => ?_) (fun c6 => ?_)
    · replace hf := (if_pos c6).symm.trans hf
      refine v_iconst dX11_again_30 (by decide) (v := -1) ?_
      replace hf := Option.some.inj hf
      subst hf
      exact v_iret dX11_again_31 rfl
    · replace hf := (if_neg c6).symm.trans hf
      refine v_iload_n dX11_again_21 rfl ?_
      refine v_if_lt dX11_again_22 (tgt := 30) (by decide) (fun c7 => ?_) (fun c7 => ?_)
      · replace hf := (if_pos c7).symm.trans hf
        refine v_iconst dX11_again_30 (by decide) (v := -1) ?_
        replace hf := Option.some.inj hf
        subst hf
        exact v_iret dX11_again_31 rfl
      · replace hf := (if_neg c7).symm.trans hf
        refine v_iload_n dX11_again_25 rfl ?_
        refine v_iconst dX11_again_26 (by decide) (v := 1) ?_
        refine v_icmp_le dX11_again_27 (tgt := 32) (by decide) (fun c8 => ?_) (fun c8 => ?_)
        · replace hf := (if_pos c8).symm.trans hf
          refine v_aload_n dX11_again_32 rfl ?_
          obtain ⟨x9, ex9, hf⟩ := ob hf
          refine v_getR dX11_again_33 fl_11_56 ex9 ?_
          refine v_aload_n dX11_again_36 rfl ?_
          obtain ⟨x10, ex10, hf⟩ := ob hf
          refine v_getR dX11_again_37 fl_11_49 ex10 ?_
          obtain ⟨q11, eq11, hf⟩ := ob hf
          refine v_callV dX11_again_40 ⟨cb_X0_become, ml_11_142, im_X0_become⟩ se_0_X0_become (ckf_X0_become eq11) (ev_X0_become eq11) (by decide) (As := [.ref x10]) rfl (st := []) rfl (Nat.le_of_ble_eq_true rfl) rfl ?_
          refine v_iconst dX11_again_43 (by decide) (v := 1) ?_
          refine v_istore_n (i := 3) rfl dX11_again_44 (Nat.le_of_ble_eq_true rfl) (loc' := [some (.ref l0), some (.int l1), some (.int l2), some (.int (1 : Int32))]) rfl ?_
          exact e_X11_again_b45 1048576 q11 l0 l1 l2 (1 : Int32) r hf
        · replace hf := (if_neg c8).symm.trans hf
          refine v_iconst dX11_again_30 (by decide) (v := -1) ?_
          replace hf := Option.some.inj hf
          subst hf
          exact v_iret dX11_again_31 rfl
theorem ckf_X11_again {h : xa_H} {l0 : Nat} {l1 : Int32} {l2 : Int32} {r : (Int32 × xa_H)} (hf : f_X11_again h l0 l1 l2 = some r) : ck [11] h l0 = some () := by
  obtain ⟨u, e, -⟩ := ob hf
  exact e
def M_X11_agrees : xa_M := (yX11_agrees, cX11_agrees, 4, some .boolean)
theorem cb_X11_agrees : xa_CB M_X11_agrees 1 := ⟨gws_at 1101 (by decide +kernel) rfl, gws_at 109 (by decide +kernel) rfl, by decide +kernel, Nat.le_of_ble_eq_true rfl⟩
def f_X11_agrees_b58 (k15 : xa_H → Nat → Int32 → Int32 → Int32 → Option (Int32 × xa_H)) (h : xa_H) (l0 : Nat) (l1 : Int32) (l3 : Int32) (s0 : Int32) : Option (Int32 × xa_H) :=
  (gR [11] 11 h l0).bind fun x1 =>
  (gR [11] 8 h l0).bind fun x2 =>
  (f_X6_agree h x1 l3 s0 x2).bind fun q3 =>
  if q3 = 0 then
    some ((0 : Int32), h)
  else
    k15 h l0 l1 s0 (l3 + (1 : Int32))
set_option maxRecDepth 20000 in
theorem e_X11_agrees_b58 {G : xa_G} {k15 : xa_H → Nat → Int32 → Int32 → Int32 → Option (Int32 × xa_H)} (hk15 : ∀ (h : xa_H) (l0 : Nat) (l1 : Int32) (l2 : Int32) (l3 : Int32) (r : (Int32 × xa_H)), k15 h l0 l1 l2 l3 = some r → xa_V G M_X11_agrees 4 15 [some (.ref l0), some (.int l1), some (.int l2), some (.int l3)] [] h (some (.int r.1)) r.2) : ∀ (h : xa_H) (l0 : Nat) (l1 : Int32) (l3 : Int32) (s0 : Int32) (r : (Int32 × xa_H)), f_X11_agrees_b58 k15 h l0 l1 l3 s0 = some r → xa_V G M_X11_agrees 4 58 [some (.ref l0), some (.int l1), none, some (.int l3)] [.int s0] h (some (.int r.1)) r.2 := by
  intro h l0 l1 l3 s0 r hf
  unfold f_X11_agrees_b58 at hf
  refine v_istore_n (i := 2) rfl dX11_agrees_58 (Nat.le_of_ble_eq_true rfl) (loc' := [some (.ref l0), some (.int l1), some (.int s0), some (.int l3)]) rfl ?_
  refine v_aload_n dX11_agrees_59 rfl ?_
  obtain ⟨x1, ex1, hf⟩ := ob hf
  refine v_getR dX11_agrees_60 fl_11_76 ex1 ?_
  refine v_iload_n dX11_agrees_63 rfl ?_
  refine v_iload_n dX11_agrees_64 rfl ?_
  refine v_aload_n dX11_agrees_65 rfl ?_
  obtain ⟨x2, ex2, hf⟩ := ob hf
  refine v_getR dX11_agrees_66 fl_11_56 ex2 ?_
  obtain ⟨q3, eq3, hf⟩ := ob hf
  refine v_callV dX11_agrees_69 ⟨cb_X6_agree, ml_11_338, im_X6_agree⟩ se_6_X6_agree (ckf_X6_agree eq3) (ev_X6_agree eq3) (by decide) (As := [.int l3, .int s0, .ref x2]) rfl (st := []) rfl (Nat.le_of_ble_eq_true rfl) rfl ?_
  refine v_if_ne dX11_agrees_72 (tgt := 77) (by decide) (fun c4 => ?_) (fun c4 => ?_)
  · replace hf := (if_neg c4).symm.trans hf
    refine v_iinc dX11_agrees_77 rfl (v := (l3 + (1 : Int32))) rfl (Nat.le_of_ble_eq_true rfl) (loc' := [some (.ref l0), some (.int l1), some (.int s0), some (.int (l3 + (1 : Int32)))]) rfl ?_
    refine v_goto dX11_agrees_80 (tgt := 15) (by decide) ?_
    exact hk15 h l0 l1 s0 (l3 + (1 : Int32)) r hf
  · replace hf := (if_pos c4).symm.trans hf
    refine v_iconst dX11_agrees_75 (by decide) (v := 0) ?_
    replace hf := Option.some.inj hf
    subst hf
    exact v_zret dX11_agrees_76 rfl (by decide)
def f_X11_agrees_b57 (k15 : xa_H → Nat → Int32 → Int32 → Int32 → Option (Int32 × xa_H)) (h : xa_H) (l0 : Nat) (l1 : Int32) (l3 : Int32) : Option (Int32 × xa_H) :=
  f_X11_agrees_b58 k15 h l0 l1 l3 (0 : Int32)
set_option maxRecDepth 20000 in
theorem e_X11_agrees_b57 {G : xa_G} {k15 : xa_H → Nat → Int32 → Int32 → Int32 → Option (Int32 × xa_H)} (hk15 : ∀ (h : xa_H) (l0 : Nat) (l1 : Int32) (l2 : Int32) (l3 : Int32) (r : (Int32 × xa_H)), k15 h l0 l1 l2 l3 = some r → xa_V G M_X11_agrees 4 15 [some (.ref l0), some (.int l1), some (.int l2), some (.int l3)] [] h (some (.int r.1)) r.2) : ∀ (h : xa_H) (l0 : Nat) (l1 : Int32) (l3 : Int32) (r : (Int32 × xa_H)), f_X11_agrees_b57 k15 h l0 l1 l3 = some r → xa_V G M_X11_agrees 4 57 [some (.ref l0), some (.int l1), none, some (.int l3)] [] h (some (.int r.1)) r.2 := by
  intro h l0 l1 l3 r hf
  unfold f_X11_agrees_b57 at hf
  refine v_iconst dX11_agrees_57 (by decide) (v := 0) ?_
  exact e_X11_agrees_b58 hk15 h l0 l1 l3 (0 : Int32) r hf
def f_X11_agrees_b15 : Nat → xa_H → Nat → Int32 → Int32 → Int32 → Option (Int32 × xa_H)
  | 0, _, _, _, _, _ => none
  | n + 1, h, l0, l1, l2, l3 =>
    if (9 : Int32) < l3 then
      some ((1 : Int32), h)
    else
      if l2 = 0 then
        f_X11_agrees_b57 (fun h l0 l1 l2 l3 => f_X11_agrees_b15 n h l0 l1 l2 l3) h l0 l1 l3
      else
        (gR [11] 8 h l0).bind fun x3 =>
        (gR [11] 5 h l0).bind fun x4 =>
        (gR [5] 0 h x4).bind fun x5 =>
        (aR 5 h x5 l1).bind fun x6 =>
        (gR [11] 5 h l0).bind fun x7 =>
        (gR [5] 1 h x7).bind fun x8 =>
        (aI h x8 l1).bind fun x9 =>
        (f_X0_follow h x3 x6 x9).bind fun q10 =>
        if q10.1 = 0 then
          f_X11_agrees_b57 (fun h l0 l1 l2 l3 => f_X11_agrees_b15 n h l0 l1 l2 l3) q10.2 l0 l1 l3
        else
          f_X11_agrees_b58 (fun h l0 l1 l2 l3 => f_X11_agrees_b15 n h l0 l1 l2 l3) q10.2 l0 l1 l3 (1 : Int32)
set_option maxRecDepth 20000 in
theorem e_X11_agrees_b15 {G : xa_G} : ∀ (n : Nat) (h : xa_H) (l0 : Nat) (l1 : Int32) (l2 : Int32) (l3 : Int32) (r : (Int32 × xa_H)), f_X11_agrees_b15 n h l0 l1 l2 l3 = some r → xa_V G M_X11_agrees 4 15 [some (.ref l0), some (.int l1), some (.int l2), some (.int l3)] [] h (some (.int r.1)) r.2 := by
  intro n
  induction n with
  | zero =>
    intro h l0 l1 l2 l3 r hf
    cases (show (none : Option (Int32 × xa_H)) = some r from hf)
  | succ n ih =>
    intro h l0 l1 l2 l3 r hf
    rw [f_X11_agrees_b15] at hf
    refine v_iload_n dX11_agrees_15 rfl ?_
    refine v_bipush dX11_agrees_16 (by decide) (v := 9) ?_
    refine v_icmp_gt dX11_agrees_18 (tgt := 83) (by decide) (fun c1 => ?_) (fun c1 => ?_)
    · replace hf := (if_pos c1).symm.trans hf
      refine v_iconst dX11_agrees_83 (by decide) (v := 1) ?_
      replace hf := Option.some.inj hf
      subst hf
      exact v_zret dX11_agrees_84 rfl (by decide)
    · replace hf := (if_neg c1).symm.trans hf
      refine v_iload_n dX11_agrees_21 rfl ?_
      refine v_if_eq dX11_agrees_22 (tgt := 57) (by decide) (fun c2 => ?_) (fun c2 => ?_)
      · replace hf := (if_pos c2).symm.trans hf
        exact xa_weak (loc := [some (.ref l0), some (.int l1), none, some (.int l3)]) ⟨rfl, ⟨rfl, ⟨rfl, trivial⟩⟩⟩ (e_X11_agrees_b57 ih h l0 l1 l3 r hf)
      · replace hf := (if_neg c2).symm.trans hf
        refine v_aload_n dX11_agrees_25 rfl ?_
        obtain ⟨x3, ex3, hf⟩ := ob hf
        refine v_getR dX11_agrees_26 fl_11_56 ex3 ?_
        refine v_aload_n dX11_agrees_29 rfl ?_
        obtain ⟨x4, ex4, hf⟩ := ob hf
        refine v_getR dX11_agrees_30 fl_11_43 ex4 ?_
        obtain ⟨x5, ex5, hf⟩ := ob hf
        refine v_getR dX11_agrees_33 fl_11_198 ex5 ?_
        refine v_iload_n dX11_agrees_36 rfl ?_
        obtain ⟨x6, ex6, hf⟩ := ob hf
        refine v_aaload dX11_agrees_37 (t := 5) (by decide) ex6 ?_
        refine v_aload_n dX11_agrees_38 rfl ?_
        obtain ⟨x7, ex7, hf⟩ := ob hf
        refine v_getR dX11_agrees_39 fl_11_43 ex7 ?_
        obtain ⟨x8, ex8, hf⟩ := ob hf
        refine v_getR dX11_agrees_42 fl_11_202 ex8 ?_
        refine v_iload_n dX11_agrees_45 rfl ?_
        obtain ⟨x9, ex9, hf⟩ := ob hf
        refine v_ialoadI dX11_agrees_46 ex9 ?_
        obtain ⟨q10, eq10, hf⟩ := ob hf
        refine v_callV dX11_agrees_47 ⟨cb_X0_follow, ml_11_298, im_X0_follow⟩ se_0_X0_follow (ckf_X0_follow eq10) (ev_X0_follow eq10) (by decide) (As := [.ref x6, .int x9]) rfl (st := []) rfl (Nat.le_of_ble_eq_true rfl) rfl ?_
        refine v_if_eq dX11_agrees_50 (tgt := 57) (by decide) (fun c11 => ?_) (fun c11 => ?_)
        · replace hf := (if_pos c11).symm.trans hf
          exact xa_weak (loc := [some (.ref l0), some (.int l1), none, some (.int l3)]) ⟨rfl, ⟨rfl, ⟨rfl, trivial⟩⟩⟩ (e_X11_agrees_b57 ih q10.2 l0 l1 l3 r hf)
        · replace hf := (if_neg c11).symm.trans hf
          refine v_iconst dX11_agrees_53 (by decide) (v := 1) ?_
          refine v_goto dX11_agrees_54 (tgt := 58) (by decide) ?_
          exact xa_weak (loc := [some (.ref l0), some (.int l1), none, some (.int l3)]) ⟨rfl, ⟨rfl, ⟨rfl, trivial⟩⟩⟩ (e_X11_agrees_b58 ih q10.2 l0 l1 l3 (1 : Int32) r hf)
def f_X11_agrees (h : xa_H) (l0 : Nat) (l1 : Int32) : Option (Int32 × xa_H) :=
  (ck [11] h l0).bind fun _ =>
  (gR [11] 8 h l0).bind fun x1 =>
  (gR [11] 7 h l0).bind fun x2 =>
  (f_X0_become h x1 x2).bind fun q3 =>
  f_X11_agrees_b15 1048576 q3 l0 l1 (1 : Int32) (1 : Int32)
set_option maxRecDepth 20000 in
theorem ev_X11_agrees {G : xa_G} {h : xa_H} {l0 : Nat} {l1 : Int32} {r : (Int32 × xa_H)} (hf : f_X11_agrees h l0 l1 = some r) : xa_Ev G M_X11_agrees 4 [.ref l0, .int l1] h (some (.int r.1)) r.2 := by
  refine xa_entry (by decide +kernel) (loc := [some (.ref l0), some (.int l1), none, none]) rfl (Nat.le_of_ble_eq_true rfl) ?_
  unfold f_X11_agrees at hf
  obtain ⟨u0, eu0, hf⟩ := ob hf
  refine v_aload_n dX11_agrees_0 rfl ?_
  obtain ⟨x1, ex1, hf⟩ := ob hf
  refine v_getR dX11_agrees_1 fl_11_56 ex1 ?_
  refine v_aload_n dX11_agrees_4 rfl ?_
  obtain ⟨x2, ex2, hf⟩ := ob hf
  refine v_getR dX11_agrees_5 fl_11_53 ex2 ?_
  obtain ⟨q3, eq3, hf⟩ := ob hf
  refine v_callV dX11_agrees_8 ⟨cb_X0_become, ml_11_142, im_X0_become⟩ se_0_X0_become (ckf_X0_become eq3) (ev_X0_become eq3) (by decide) (As := [.ref x2]) rfl (st := []) rfl (Nat.le_of_ble_eq_true rfl) rfl ?_
  refine v_iconst dX11_agrees_11 (by decide) (v := 1) ?_
  refine v_istore_n (i := 2) rfl dX11_agrees_12 (Nat.le_of_ble_eq_true rfl) (loc' := [some (.ref l0), some (.int l1), some (.int (1 : Int32)), none]) rfl ?_
  refine v_iconst dX11_agrees_13 (by decide) (v := 1) ?_
  refine v_istore_n (i := 3) rfl dX11_agrees_14 (Nat.le_of_ble_eq_true rfl) (loc' := [some (.ref l0), some (.int l1), some (.int (1 : Int32)), some (.int (1 : Int32))]) rfl ?_
  exact e_X11_agrees_b15 1048576 q3 l0 l1 (1 : Int32) (1 : Int32) r hf
theorem ckf_X11_agrees {h : xa_H} {l0 : Nat} {l1 : Int32} {r : (Int32 × xa_H)} (hf : f_X11_agrees h l0 l1 = some r) : ck [11] h l0 = some () := by
  obtain ⟨u, e, -⟩ := ob hf
  exact e
def M_X11_amountOf : xa_M := (yX11_amountOf, cX11_amountOf, 3, some .int)
theorem cb_X11_amountOf : xa_CB M_X11_amountOf 2 := ⟨gws_at 1174 (by decide +kernel) rfl, gws_at 109 (by decide +kernel) rfl, by decide +kernel, Nat.le_of_ble_eq_true rfl⟩
def f_X11_amountOf (h : xa_H) (l0 : Nat) (l1 : Int32) (l2 : Int32) : Option Int32 :=
  (ck [11] h l0).bind fun _ =>
  if l2 = (0 : Int32) then
    (gR [11] 6 h l0).bind fun x2 =>
    (f_X0_incoming h x2 l1).bind fun q3 =>
    some q3
  else if l2 = (1 : Int32) then
    (gR [11] 6 h l0).bind fun x5 =>
    (f_X0_outgoing h x5 l1).bind fun q6 =>
    some q6
  else if l2 = (2 : Int32) then
    (gR [11] 6 h l0).bind fun x8 =>
    (gR [0] 1 h x8).bind fun x9 =>
    (aI h x9 l1).bind fun x10 =>
    some x10
  else if l2 = (3 : Int32) then
    (gR [11] 6 h l0).bind fun x12 =>
    (gR [0] 3 h x12).bind fun x13 =>
    (aI h x13 l1).bind fun x14 =>
    some x14
  else 
    (gR [11] 6 h l0).bind fun x15 =>
    (gR [0] 2 h x15).bind fun x16 =>
    (aI h x16 l1).bind fun x17 =>
    some x17
set_option maxRecDepth 20000 in
theorem ev_X11_amountOf {G : xa_G} {h : xa_H} {l0 : Nat} {l1 : Int32} {l2 : Int32} {r : Int32} (hf : f_X11_amountOf h l0 l1 l2 = some r) : xa_Ev G M_X11_amountOf 2 [.ref l0, .int l1, .int l2] h (some (.int r)) h := by
  refine xa_entry (by decide +kernel) (loc := [some (.ref l0), some (.int l1), some (.int l2)]) rfl (Nat.le_of_ble_eq_true rfl) ?_
  unfold f_X11_amountOf at hf
  obtain ⟨u0, eu0, hf⟩ := ob hf
  refine v_iload_n dX11_amountOf_0 rfl ?_
  by_cases c1 : l2 = (0 : Int32)
  · replace hf := (if_pos c1).symm.trans hf
    refine v_tabIn dX11_amountOf_1 (0 : Int32) c1 (by decide) (by decide) (off := 31) rfl (tgt := 32) (by decide) ?_
    refine v_aload_n dX11_amountOf_32 rfl ?_
    obtain ⟨x2, ex2, hf⟩ := ob hf
    refine v_getR dX11_amountOf_33 fl_11_49 ex2 ?_
    refine v_iload_n dX11_amountOf_36 rfl ?_
    obtain ⟨q3, eq3, hf⟩ := ob hf
    refine v_callV dX11_amountOf_37 ⟨cb_X0_incoming, ml_11_180, im_X0_incoming⟩ se_0_X0_incoming (ckf_X0_incoming eq3) (ev_X0_incoming eq3) (by decide) (As := [.int l1]) rfl (st := []) rfl (Nat.le_of_ble_eq_true rfl) rfl ?_
    replace hf := Option.some.inj hf
    subst hf
    exact v_iret dX11_amountOf_40 rfl
  replace hf := (if_neg c1).symm.trans hf
  by_cases c4 : l2 = (1 : Int32)
  · replace hf := (if_pos c4).symm.trans hf
    refine v_tabIn dX11_amountOf_1 (1 : Int32) c4 (by decide) (by decide) (off := 40) rfl (tgt := 41) (by decide) ?_
    refine v_aload_n dX11_amountOf_41 rfl ?_
    obtain ⟨x5, ex5, hf⟩ := ob hf
    refine v_getR dX11_amountOf_42 fl_11_49 ex5 ?_
    refine v_iload_n dX11_amountOf_45 rfl ?_
    obtain ⟨q6, eq6, hf⟩ := ob hf
    refine v_callV dX11_amountOf_46 ⟨cb_X0_outgoing, ml_11_183, im_X0_outgoing⟩ se_0_X0_outgoing (ckf_X0_outgoing eq6) (ev_X0_outgoing eq6) (by decide) (As := [.int l1]) rfl (st := []) rfl (Nat.le_of_ble_eq_true rfl) rfl ?_
    replace hf := Option.some.inj hf
    subst hf
    exact v_iret dX11_amountOf_49 rfl
  replace hf := (if_neg c4).symm.trans hf
  by_cases c7 : l2 = (2 : Int32)
  · replace hf := (if_pos c7).symm.trans hf
    refine v_tabIn dX11_amountOf_1 (2 : Int32) c7 (by decide) (by decide) (off := 49) rfl (tgt := 50) (by decide) ?_
    refine v_aload_n dX11_amountOf_50 rfl ?_
    obtain ⟨x8, ex8, hf⟩ := ob hf
    refine v_getR dX11_amountOf_51 fl_11_49 ex8 ?_
    obtain ⟨x9, ex9, hf⟩ := ob hf
    refine v_getR dX11_amountOf_54 fl_11_168 ex9 ?_
    refine v_iload_n dX11_amountOf_57 rfl ?_
    obtain ⟨x10, ex10, hf⟩ := ob hf
    refine v_ialoadI dX11_amountOf_58 ex10 ?_
    replace hf := Option.some.inj hf
    subst hf
    exact v_iret dX11_amountOf_59 rfl
  replace hf := (if_neg c7).symm.trans hf
  by_cases c11 : l2 = (3 : Int32)
  · replace hf := (if_pos c11).symm.trans hf
    refine v_tabIn dX11_amountOf_1 (3 : Int32) c11 (by decide) (by decide) (off := 59) rfl (tgt := 60) (by decide) ?_
    refine v_aload_n dX11_amountOf_60 rfl ?_
    obtain ⟨x12, ex12, hf⟩ := ob hf
    refine v_getR dX11_amountOf_61 fl_11_49 ex12 ?_
    obtain ⟨x13, ex13, hf⟩ := ob hf
    refine v_getR dX11_amountOf_64 fl_11_177 ex13 ?_
    refine v_iload_n dX11_amountOf_67 rfl ?_
    obtain ⟨x14, ex14, hf⟩ := ob hf
    refine v_ialoadI dX11_amountOf_68 ex14 ?_
    replace hf := Option.some.inj hf
    subst hf
    exact v_iret dX11_amountOf_69 rfl
  replace hf := (if_neg c11).symm.trans hf
  refine v_tabOut dX11_amountOf_1 (by have zc1 := tsx (n := 0) (by decide) c1; have zc4 := tsx (n := 1) (by decide) c4; have zc7 := tsx (n := 2) (by decide) c7; have zc11 := tsx (n := 3) (by decide) c11; omega) (tgt := 70) (by decide) ?_
  refine v_aload_n dX11_amountOf_70 rfl ?_
  obtain ⟨x15, ex15, hf⟩ := ob hf
  refine v_getR dX11_amountOf_71 fl_11_49 ex15 ?_
  obtain ⟨x16, ex16, hf⟩ := ob hf
  refine v_getR dX11_amountOf_74 fl_11_171 ex16 ?_
  refine v_iload_n dX11_amountOf_77 rfl ?_
  obtain ⟨x17, ex17, hf⟩ := ob hf
  refine v_ialoadI dX11_amountOf_78 ex17 ?_
  replace hf := Option.some.inj hf
  subst hf
  exact v_iret dX11_amountOf_79 rfl
theorem ckf_X11_amountOf {h : xa_H} {l0 : Nat} {l1 : Int32} {l2 : Int32} {r : Int32} (hf : f_X11_amountOf h l0 l1 l2 = some r) : ck [11] h l0 = some () := by
  obtain ⟨u, e, -⟩ := ob hf
  exact e
def M_X11_houseWithMost : xa_M := (yX11_houseWithMost, cX11_houseWithMost, 4, some .int)
theorem cb_X11_houseWithMost : xa_CB M_X11_houseWithMost 1 := ⟨gws_at 1170 (by decide +kernel) rfl, gws_at 109 (by decide +kernel) rfl, by decide +kernel, Nat.le_of_ble_eq_true rfl⟩
def f_X11_houseWithMost_b32 (k4 : xa_H → Nat → Int32 → Int32 → Int32 → Option Int32) (h : xa_H) (l0 : Nat) (l1 : Int32) (l2 : Int32) (l3 : Int32) : Option Int32 :=
  k4 h l0 l1 l2 (l3 + (1 : Int32))
set_option maxRecDepth 20000 in
theorem e_X11_houseWithMost_b32 {G : xa_G} {k4 : xa_H → Nat → Int32 → Int32 → Int32 → Option Int32} (hk4 : ∀ (h : xa_H) (l0 : Nat) (l1 : Int32) (l2 : Int32) (l3 : Int32) (r : Int32), k4 h l0 l1 l2 l3 = some r → xa_V G M_X11_houseWithMost 3 4 [some (.ref l0), some (.int l1), some (.int l2), some (.int l3)] [] h (some (.int r)) h) : ∀ (h : xa_H) (l0 : Nat) (l1 : Int32) (l2 : Int32) (l3 : Int32) (r : Int32), f_X11_houseWithMost_b32 k4 h l0 l1 l2 l3 = some r → xa_V G M_X11_houseWithMost 3 32 [some (.ref l0), some (.int l1), some (.int l2), some (.int l3)] [] h (some (.int r)) h := by
  intro h l0 l1 l2 l3 r hf
  unfold f_X11_houseWithMost_b32 at hf
  refine v_iinc dX11_houseWithMost_32 rfl (v := (l3 + (1 : Int32))) rfl (Nat.le_of_ble_eq_true rfl) (loc' := [some (.ref l0), some (.int l1), some (.int l2), some (.int (l3 + (1 : Int32)))]) rfl ?_
  refine v_goto dX11_houseWithMost_35 (tgt := 4) (by decide) ?_
  exact hk4 h l0 l1 l2 (l3 + (1 : Int32)) r hf
def f_X11_houseWithMost_b4 : Nat → xa_H → Nat → Int32 → Int32 → Int32 → Option Int32
  | 0, _, _, _, _, _ => none
  | n + 1, h, l0, l1, l2, l3 =>
    (gR [11] 6 h l0).bind fun x1 =>
    (gI [0] 4 h x1).bind fun x2 =>
    if x2 ≤ l3 then
      some l2
    else
      (f_X11_amountOf h l0 l3 l1).bind fun q4 =>
      (f_X11_amountOf h l0 l2 l1).bind fun q5 =>
      if q4 ≤ q5 then
        f_X11_houseWithMost_b32 (fun h l0 l1 l2 l3 => f_X11_houseWithMost_b4 n h l0 l1 l2 l3) h l0 l1 l2 l3
      else
        f_X11_houseWithMost_b32 (fun h l0 l1 l2 l3 => f_X11_houseWithMost_b4 n h l0 l1 l2 l3) h l0 l1 l3 l3
set_option maxRecDepth 20000 in
theorem e_X11_houseWithMost_b4 {G : xa_G} : ∀ (n : Nat) (h : xa_H) (l0 : Nat) (l1 : Int32) (l2 : Int32) (l3 : Int32) (r : Int32), f_X11_houseWithMost_b4 n h l0 l1 l2 l3 = some r → xa_V G M_X11_houseWithMost 3 4 [some (.ref l0), some (.int l1), some (.int l2), some (.int l3)] [] h (some (.int r)) h := by
  intro n
  induction n with
  | zero =>
    intro h l0 l1 l2 l3 r hf
    cases (show (none : Option Int32) = some r from hf)
  | succ n ih =>
    intro h l0 l1 l2 l3 r hf
    rw [f_X11_houseWithMost_b4] at hf
    refine v_iload_n dX11_houseWithMost_4 rfl ?_
    refine v_aload_n dX11_houseWithMost_5 rfl ?_
    obtain ⟨x1, ex1, hf⟩ := ob hf
    refine v_getR dX11_houseWithMost_6 fl_11_49 ex1 ?_
    obtain ⟨x2, ex2, hf⟩ := ob hf
    refine v_getI dX11_houseWithMost_9 fl_11_154 ex2 ?_
    refine v_icmp_ge dX11_houseWithMost_12 (tgt := 38) (by decide) (fun c3 => ?_) (fun c3 => ?_)
    · replace hf := (if_pos c3).symm.trans hf
      refine v_iload_n dX11_houseWithMost_38 rfl ?_
      replace hf := Option.some.inj hf
      subst hf
      exact v_iret dX11_houseWithMost_39 rfl
    · replace hf := (if_neg c3).symm.trans hf
      refine v_aload_n dX11_houseWithMost_15 rfl ?_
      refine v_iload_n dX11_houseWithMost_16 rfl ?_
      refine v_iload_n dX11_houseWithMost_17 rfl ?_
      obtain ⟨q4, eq4, hf⟩ := ob hf
      refine v_callV dX11_houseWithMost_18 ⟨cb_X11_amountOf, ml_11_378, im_X11_amountOf⟩ se_11_X11_amountOf (ckf_X11_amountOf eq4) (ev_X11_amountOf eq4) (by decide) (As := [.int l3, .int l1]) rfl (st := []) rfl (Nat.le_of_ble_eq_true rfl) rfl ?_
      refine v_aload_n dX11_houseWithMost_21 rfl ?_
      refine v_iload_n dX11_houseWithMost_22 rfl ?_
      refine v_iload_n dX11_houseWithMost_23 rfl ?_
      obtain ⟨q5, eq5, hf⟩ := ob hf
      refine v_callV dX11_houseWithMost_24 ⟨cb_X11_amountOf, ml_11_378, im_X11_amountOf⟩ se_11_X11_amountOf (ckf_X11_amountOf eq5) (ev_X11_amountOf eq5) (by decide) (As := [.int l2, .int l1]) rfl (st := [.int q4]) rfl (Nat.le_of_ble_eq_true rfl) rfl ?_
      refine v_icmp_le dX11_houseWithMost_27 (tgt := 32) (by decide) (fun c6 => ?_) (fun c6 => ?_)
      · replace hf := (if_pos c6).symm.trans hf
        exact e_X11_houseWithMost_b32 ih h l0 l1 l2 l3 r hf
      · replace hf := (if_neg c6).symm.trans hf
        refine v_iload_n dX11_houseWithMost_30 rfl ?_
        refine v_istore_n (i := 2) rfl dX11_houseWithMost_31 (Nat.le_of_ble_eq_true rfl) (loc' := [some (.ref l0), some (.int l1), some (.int l3), some (.int l3)]) rfl ?_
        exact e_X11_houseWithMost_b32 ih h l0 l1 l3 l3 r hf
def f_X11_houseWithMost (h : xa_H) (l0 : Nat) (l1 : Int32) : Option Int32 :=
  (ck [11] h l0).bind fun _ =>
  f_X11_houseWithMost_b4 1048576 h l0 l1 (0 : Int32) (1 : Int32)
set_option maxRecDepth 20000 in
theorem ev_X11_houseWithMost {G : xa_G} {h : xa_H} {l0 : Nat} {l1 : Int32} {r : Int32} (hf : f_X11_houseWithMost h l0 l1 = some r) : xa_Ev G M_X11_houseWithMost 3 [.ref l0, .int l1] h (some (.int r)) h := by
  refine xa_entry (by decide +kernel) (loc := [some (.ref l0), some (.int l1), none, none]) rfl (Nat.le_of_ble_eq_true rfl) ?_
  unfold f_X11_houseWithMost at hf
  obtain ⟨u0, eu0, hf⟩ := ob hf
  refine v_iconst dX11_houseWithMost_0 (by decide) (v := 0) ?_
  refine v_istore_n (i := 2) rfl dX11_houseWithMost_1 (Nat.le_of_ble_eq_true rfl) (loc' := [some (.ref l0), some (.int l1), some (.int (0 : Int32)), none]) rfl ?_
  refine v_iconst dX11_houseWithMost_2 (by decide) (v := 1) ?_
  refine v_istore_n (i := 3) rfl dX11_houseWithMost_3 (Nat.le_of_ble_eq_true rfl) (loc' := [some (.ref l0), some (.int l1), some (.int (0 : Int32)), some (.int (1 : Int32))]) rfl ?_
  exact e_X11_houseWithMost_b4 1048576 h l0 l1 (0 : Int32) (1 : Int32) r hf
theorem ckf_X11_houseWithMost {h : xa_H} {l0 : Nat} {l1 : Int32} {r : Int32} (hf : f_X11_houseWithMost h l0 l1 = some r) : ck [11] h l0 = some () := by
  obtain ⟨u, e, -⟩ := ob hf
  exact e
def M_X11_isSuch : xa_M := (yX11_isSuch, cX11_isSuch, 5, some .boolean)
theorem cb_X11_isSuch : xa_CB M_X11_isSuch 2 := ⟨gws_at 1182 (by decide +kernel) rfl, gws_at 109 (by decide +kernel) rfl, by decide +kernel, Nat.le_of_ble_eq_true rfl⟩
def f_X11_isSuch_b33 (h : xa_H) (l0 : Nat) (l1 : Int32) (l2 : Int32) (l3 : Int32) (s0 : Int32) : Option Int32 :=
  if l2 = (7 : Int32) then
    if s0 = 0 then
      some (0 : Int32)
    else
      if l3 = 0 then
        some (1 : Int32)
      else
        some (0 : Int32)
  else if l2 = (8 : Int32) then
    if l3 = 0 then
      some (0 : Int32)
    else
      if s0 = 0 then
        some (1 : Int32)
      else
        some (0 : Int32)
  else if l2 = (9 : Int32) then
    if l3 = 0 then
      if s0 = 0 then
        some (1 : Int32)
      else
        some (0 : Int32)
    else
      some (0 : Int32)
  else if l2 = (10 : Int32) then
    (gR [11] 6 h l0).bind fun x11 =>
    (f_X0_isKept h x11 l1).bind fun q12 =>
    (zq q12).bind fun z13 =>
    some z13
  else 
    (gR [11] 6 h l0).bind fun x14 =>
    (f_X0_canTurn h x14 l1).bind fun q15 =>
    (zq q15).bind fun z16 =>
    some z16
set_option maxRecDepth 20000 in
theorem e_X11_isSuch_b33 {G : xa_G} : ∀ (h : xa_H) (l0 : Nat) (l1 : Int32) (l2 : Int32) (l3 : Int32) (s0 : Int32) (r : Int32), f_X11_isSuch_b33 h l0 l1 l2 l3 s0 = some r → xa_V G M_X11_isSuch 3 33 [some (.ref l0), some (.int l1), some (.int l2), some (.int l3), none] [.int s0] h (some (.int r)) h := by
  intro h l0 l1 l2 l3 s0 r hf
  unfold f_X11_isSuch_b33 at hf
  refine v_istore dX11_isSuch_33 (Nat.le_of_ble_eq_true rfl) (loc' := [some (.ref l0), some (.int l1), some (.int l2), some (.int l3), some (.int s0)]) rfl ?_
  refine v_iload_n dX11_isSuch_35 rfl ?_
  by_cases c1 : l2 = (7 : Int32)
  · replace hf := (if_pos c1).symm.trans hf
    refine v_tabIn dX11_isSuch_36 (7 : Int32) c1 (by decide) (by decide) (off := 32) rfl (tgt := 68) (by decide) ?_
    refine v_iload dX11_isSuch_68 rfl ?_
    refine v_if_eq dX11_isSuch_70 (tgt := 81) (by decide) (fun c2 => ?_) (fun c2 => ?_)
    · replace hf := (if_pos c2).symm.trans hf
      refine v_iconst dX11_isSuch_81 (by decide) (v := 0) ?_
      replace hf := Option.some.inj hf
      subst hf
      exact v_zret dX11_isSuch_82 rfl (by decide)
    · replace hf := (if_neg c2).symm.trans hf
      refine v_iload_n dX11_isSuch_73 rfl ?_
      refine v_if_ne dX11_isSuch_74 (tgt := 81) (by decide) (fun c3 => ?_) (fun c3 => ?_)
      · replace hf := (if_neg c3).symm.trans hf
        refine v_iconst dX11_isSuch_81 (by decide) (v := 0) ?_
        replace hf := Option.some.inj hf
        subst hf
        exact v_zret dX11_isSuch_82 rfl (by decide)
      · replace hf := (if_pos c3).symm.trans hf
        refine v_iconst dX11_isSuch_77 (by decide) (v := 1) ?_
        refine v_goto dX11_isSuch_78 (tgt := 82) (by decide) ?_
        replace hf := Option.some.inj hf
        subst hf
        exact v_zret dX11_isSuch_82 rfl (by decide)
  replace hf := (if_neg c1).symm.trans hf
  by_cases c4 : l2 = (8 : Int32)
  · replace hf := (if_pos c4).symm.trans hf
    refine v_tabIn dX11_isSuch_36 (8 : Int32) c4 (by decide) (by decide) (off := 47) rfl (tgt := 83) (by decide) ?_
    refine v_iload_n dX11_isSuch_83 rfl ?_
    refine v_if_eq dX11_isSuch_84 (tgt := 96) (by decide) (fun c5 => ?_) (fun c5 => ?_)
    · replace hf := (if_pos c5).symm.trans hf
      refine v_iconst dX11_isSuch_96 (by decide) (v := 0) ?_
      replace hf := Option.some.inj hf
      subst hf
      exact v_zret dX11_isSuch_97 rfl (by decide)
    · replace hf := (if_neg c5).symm.trans hf
      refine v_iload dX11_isSuch_87 rfl ?_
      refine v_if_ne dX11_isSuch_89 (tgt := 96) (by decide) (fun c6 => ?_) (fun c6 => ?_)
      · replace hf := (if_neg c6).symm.trans hf
        refine v_iconst dX11_isSuch_96 (by decide) (v := 0) ?_
        replace hf := Option.some.inj hf
        subst hf
        exact v_zret dX11_isSuch_97 rfl (by decide)
      · replace hf := (if_pos c6).symm.trans hf
        refine v_iconst dX11_isSuch_92 (by decide) (v := 1) ?_
        refine v_goto dX11_isSuch_93 (tgt := 97) (by decide) ?_
        replace hf := Option.some.inj hf
        subst hf
        exact v_zret dX11_isSuch_97 rfl (by decide)
  replace hf := (if_neg c4).symm.trans hf
  by_cases c7 : l2 = (9 : Int32)
  · replace hf := (if_pos c7).symm.trans hf
    refine v_tabIn dX11_isSuch_36 (9 : Int32) c7 (by decide) (by decide) (off := 62) rfl (tgt := 98) (by decide) ?_
    refine v_iload_n dX11_isSuch_98 rfl ?_
    refine v_if_ne dX11_isSuch_99 (tgt := 111) (by decide) (fun c8 => ?_) (fun c8 => ?_)
    · replace hf := (if_neg c8).symm.trans hf
      refine v_iconst dX11_isSuch_111 (by decide) (v := 0) ?_
      replace hf := Option.some.inj hf
      subst hf
      exact v_zret dX11_isSuch_112 rfl (by decide)
    · replace hf := (if_pos c8).symm.trans hf
      refine v_iload dX11_isSuch_102 rfl ?_
      refine v_if_ne dX11_isSuch_104 (tgt := 111) (by decide) (fun c9 => ?_) (fun c9 => ?_)
      · replace hf := (if_neg c9).symm.trans hf
        refine v_iconst dX11_isSuch_111 (by decide) (v := 0) ?_
        replace hf := Option.some.inj hf
        subst hf
        exact v_zret dX11_isSuch_112 rfl (by decide)
      · replace hf := (if_pos c9).symm.trans hf
        refine v_iconst dX11_isSuch_107 (by decide) (v := 1) ?_
        refine v_goto dX11_isSuch_108 (tgt := 112) (by decide) ?_
        replace hf := Option.some.inj hf
        subst hf
        exact v_zret dX11_isSuch_112 rfl (by decide)
  replace hf := (if_neg c7).symm.trans hf
  by_cases c10 : l2 = (10 : Int32)
  · replace hf := (if_pos c10).symm.trans hf
    refine v_tabIn dX11_isSuch_36 (10 : Int32) c10 (by decide) (by decide) (off := 77) rfl (tgt := 113) (by decide) ?_
    refine v_aload_n dX11_isSuch_113 rfl ?_
    obtain ⟨x11, ex11, hf⟩ := ob hf
    refine v_getR dX11_isSuch_114 fl_11_49 ex11 ?_
    refine v_iload_n dX11_isSuch_117 rfl ?_
    obtain ⟨q12, eq12, hf⟩ := ob hf
    refine v_callV dX11_isSuch_118 ⟨cb_X0_isKept, ml_11_174, im_X0_isKept⟩ se_0_X0_isKept (ckf_X0_isKept eq12) (ev_X0_isKept eq12) (by decide) (As := [.int l1]) rfl (st := []) rfl (Nat.le_of_ble_eq_true rfl) rfl ?_
    obtain ⟨z13, ez13, hf⟩ := ob hf
    obtain ⟨wz13, qz13⟩ := zq_of ez13
    rw [wz13] at hf
    replace hf := Option.some.inj hf
    subst hf
    exact v_zret dX11_isSuch_121 rfl qz13
  replace hf := (if_neg c10).symm.trans hf
  refine v_tabOut dX11_isSuch_36 (by have zc1 := tsx (n := 7) (by decide) c1; have zc4 := tsx (n := 8) (by decide) c4; have zc7 := tsx (n := 9) (by decide) c7; have zc10 := tsx (n := 10) (by decide) c10; omega) (tgt := 122) (by decide) ?_
  refine v_aload_n dX11_isSuch_122 rfl ?_
  obtain ⟨x14, ex14, hf⟩ := ob hf
  refine v_getR dX11_isSuch_123 fl_11_49 ex14 ?_
  refine v_iload_n dX11_isSuch_126 rfl ?_
  obtain ⟨q15, eq15, hf⟩ := ob hf
  refine v_callV dX11_isSuch_127 ⟨cb_X0_canTurn, ml_11_232, im_X0_canTurn⟩ se_0_X0_canTurn (ckf_X0_canTurn eq15) (ev_X0_canTurn eq15) (by decide) (As := [.int l1]) rfl (st := []) rfl (Nat.le_of_ble_eq_true rfl) rfl ?_
  obtain ⟨z16, ez16, hf⟩ := ob hf
  obtain ⟨wz16, qz16⟩ := zq_of ez16
  rw [wz16] at hf
  replace hf := Option.some.inj hf
  subst hf
  exact v_zret dX11_isSuch_130 rfl qz16
def f_X11_isSuch_b16 (h : xa_H) (l0 : Nat) (l1 : Int32) (l2 : Int32) (s0 : Int32) : Option Int32 :=
  (gR [11] 6 h l0).bind fun x1 =>
  (f_X0_outgoing h x1 l1).bind fun q2 =>
  if q2 ≤ 0 then
    f_X11_isSuch_b33 h l0 l1 l2 s0 (0 : Int32)
  else
    f_X11_isSuch_b33 h l0 l1 l2 s0 (1 : Int32)
set_option maxRecDepth 20000 in
theorem e_X11_isSuch_b16 {G : xa_G} : ∀ (h : xa_H) (l0 : Nat) (l1 : Int32) (l2 : Int32) (s0 : Int32) (r : Int32), f_X11_isSuch_b16 h l0 l1 l2 s0 = some r → xa_V G M_X11_isSuch 3 16 [some (.ref l0), some (.int l1), some (.int l2), none, none] [.int s0] h (some (.int r)) h := by
  intro h l0 l1 l2 s0 r hf
  unfold f_X11_isSuch_b16 at hf
  refine v_istore_n (i := 3) rfl dX11_isSuch_16 (Nat.le_of_ble_eq_true rfl) (loc' := [some (.ref l0), some (.int l1), some (.int l2), some (.int s0), none]) rfl ?_
  refine v_aload_n dX11_isSuch_17 rfl ?_
  obtain ⟨x1, ex1, hf⟩ := ob hf
  refine v_getR dX11_isSuch_18 fl_11_49 ex1 ?_
  refine v_iload_n dX11_isSuch_21 rfl ?_
  obtain ⟨q2, eq2, hf⟩ := ob hf
  refine v_callV dX11_isSuch_22 ⟨cb_X0_outgoing, ml_11_183, im_X0_outgoing⟩ se_0_X0_outgoing (ckf_X0_outgoing eq2) (ev_X0_outgoing eq2) (by decide) (As := [.int l1]) rfl (st := []) rfl (Nat.le_of_ble_eq_true rfl) rfl ?_
  refine v_if_le dX11_isSuch_25 (tgt := 32) (by decide) (fun c3 => ?_) (fun c3 => ?_)
  · replace hf := (if_pos c3).symm.trans hf
    refine v_iconst dX11_isSuch_32 (by decide) (v := 0) ?_
    exact e_X11_isSuch_b33 h l0 l1 l2 s0 (0 : Int32) r hf
  · replace hf := (if_neg c3).symm.trans hf
    refine v_iconst dX11_isSuch_28 (by decide) (v := 1) ?_
    refine v_goto dX11_isSuch_29 (tgt := 33) (by decide) ?_
    exact e_X11_isSuch_b33 h l0 l1 l2 s0 (1 : Int32) r hf
def f_X11_isSuch (h : xa_H) (l0 : Nat) (l1 : Int32) (l2 : Int32) : Option Int32 :=
  (ck [11] h l0).bind fun _ =>
  (gR [11] 6 h l0).bind fun x1 =>
  (f_X0_incoming h x1 l1).bind fun q2 =>
  if q2 ≤ 0 then
    f_X11_isSuch_b16 h l0 l1 l2 (0 : Int32)
  else
    f_X11_isSuch_b16 h l0 l1 l2 (1 : Int32)
set_option maxRecDepth 20000 in
theorem ev_X11_isSuch {G : xa_G} {h : xa_H} {l0 : Nat} {l1 : Int32} {l2 : Int32} {r : Int32} (hf : f_X11_isSuch h l0 l1 l2 = some r) : xa_Ev G M_X11_isSuch 3 [.ref l0, .int l1, .int l2] h (some (.int r)) h := by
  refine xa_entry (by decide +kernel) (loc := [some (.ref l0), some (.int l1), some (.int l2), none, none]) rfl (Nat.le_of_ble_eq_true rfl) ?_
  unfold f_X11_isSuch at hf
  obtain ⟨u0, eu0, hf⟩ := ob hf
  refine v_aload_n dX11_isSuch_0 rfl ?_
  obtain ⟨x1, ex1, hf⟩ := ob hf
  refine v_getR dX11_isSuch_1 fl_11_49 ex1 ?_
  refine v_iload_n dX11_isSuch_4 rfl ?_
  obtain ⟨q2, eq2, hf⟩ := ob hf
  refine v_callV dX11_isSuch_5 ⟨cb_X0_incoming, ml_11_180, im_X0_incoming⟩ se_0_X0_incoming (ckf_X0_incoming eq2) (ev_X0_incoming eq2) (by decide) (As := [.int l1]) rfl (st := []) rfl (Nat.le_of_ble_eq_true rfl) rfl ?_
  refine v_if_le dX11_isSuch_8 (tgt := 15) (by decide) (fun c3 => ?_) (fun c3 => ?_)
  · replace hf := (if_pos c3).symm.trans hf
    refine v_iconst dX11_isSuch_15 (by decide) (v := 0) ?_
    exact e_X11_isSuch_b16 h l0 l1 l2 (0 : Int32) r hf
  · replace hf := (if_neg c3).symm.trans hf
    refine v_iconst dX11_isSuch_11 (by decide) (v := 1) ?_
    refine v_goto dX11_isSuch_12 (tgt := 16) (by decide) ?_
    exact e_X11_isSuch_b16 h l0 l1 l2 (1 : Int32) r hf
theorem ckf_X11_isSuch {h : xa_H} {l0 : Nat} {l1 : Int32} {l2 : Int32} {r : Int32} (hf : f_X11_isSuch h l0 l1 l2 = some r) : ck [11] h l0 = some () := by
  obtain ⟨u, e, -⟩ := ob hf
  exact e
def M_X11_housesThatAre : xa_M := (yX11_housesThatAre, cX11_housesThatAre, 4, some .int)
theorem cb_X11_housesThatAre : xa_CB M_X11_housesThatAre 1 := ⟨gws_at 1178 (by decide +kernel) rfl, gws_at 109 (by decide +kernel) rfl, by decide +kernel, Nat.le_of_ble_eq_true rfl⟩
def f_X11_housesThatAre_b30 (k4 : xa_H → Nat → Int32 → Int32 → Int32 → Option Int32) (h : xa_H) (l0 : Nat) (l1 : Int32) (l2 : Int32) (l3 : Int32) : Option Int32 :=
  k4 h l0 l1 l2 (l3 + (1 : Int32))
set_option maxRecDepth 20000 in
theorem e_X11_housesThatAre_b30 {G : xa_G} {k4 : xa_H → Nat → Int32 → Int32 → Int32 → Option Int32} (hk4 : ∀ (h : xa_H) (l0 : Nat) (l1 : Int32) (l2 : Int32) (l3 : Int32) (r : Int32), k4 h l0 l1 l2 l3 = some r → xa_V G M_X11_housesThatAre 4 4 [some (.ref l0), some (.int l1), some (.int l2), some (.int l3)] [] h (some (.int r)) h) : ∀ (h : xa_H) (l0 : Nat) (l1 : Int32) (l2 : Int32) (l3 : Int32) (r : Int32), f_X11_housesThatAre_b30 k4 h l0 l1 l2 l3 = some r → xa_V G M_X11_housesThatAre 4 30 [some (.ref l0), some (.int l1), some (.int l2), some (.int l3)] [] h (some (.int r)) h := by
  intro h l0 l1 l2 l3 r hf
  unfold f_X11_housesThatAre_b30 at hf
  refine v_iinc dX11_housesThatAre_30 rfl (v := (l3 + (1 : Int32))) rfl (Nat.le_of_ble_eq_true rfl) (loc' := [some (.ref l0), some (.int l1), some (.int l2), some (.int (l3 + (1 : Int32)))]) rfl ?_
  refine v_goto dX11_housesThatAre_33 (tgt := 4) (by decide) ?_
  exact hk4 h l0 l1 l2 (l3 + (1 : Int32)) r hf
def f_X11_housesThatAre_b4 : Nat → xa_H → Nat → Int32 → Int32 → Int32 → Option Int32
  | 0, _, _, _, _, _ => none
  | n + 1, h, l0, l1, l2, l3 =>
    (gR [11] 6 h l0).bind fun x1 =>
    (gI [0] 4 h x1).bind fun x2 =>
    if x2 ≤ l3 then
      some l2
    else
      (f_X11_isSuch h l0 l3 l1).bind fun q4 =>
      if q4 = 0 then
        f_X11_housesThatAre_b30 (fun h l0 l1 l2 l3 => f_X11_housesThatAre_b4 n h l0 l1 l2 l3) h l0 l1 l2 l3
      else
        f_X11_housesThatAre_b30 (fun h l0 l1 l2 l3 => f_X11_housesThatAre_b4 n h l0 l1 l2 l3) h l0 l1 (l2 ||| (shl (1 : Int32) l3)) l3
set_option maxRecDepth 20000 in
theorem e_X11_housesThatAre_b4 {G : xa_G} : ∀ (n : Nat) (h : xa_H) (l0 : Nat) (l1 : Int32) (l2 : Int32) (l3 : Int32) (r : Int32), f_X11_housesThatAre_b4 n h l0 l1 l2 l3 = some r → xa_V G M_X11_housesThatAre 4 4 [some (.ref l0), some (.int l1), some (.int l2), some (.int l3)] [] h (some (.int r)) h := by
  intro n
  induction n with
  | zero =>
    intro h l0 l1 l2 l3 r hf
    cases (show (none : Option Int32) = some r from hf)
  | succ n ih =>
    intro h l0 l1 l2 l3 r hf
    rw [f_X11_housesThatAre_b4] at hf
    refine v_iload_n dX11_housesThatAre_4 rfl ?_
    refine v_aload_n dX11_housesThatAre_5 rfl ?_
    obtain ⟨x1, ex1, hf⟩ := ob hf
    refine v_getR dX11_housesThatAre_6 fl_11_49 ex1 ?_
    obtain ⟨x2, ex2, hf⟩ := ob hf
    refine v_getI dX11_housesThatAre_9 fl_11_154 ex2 ?_
    refine v_icmp_ge dX11_housesThatAre_12 (tgt := 36) (by decide) (fun c3 => ?_) (fun c3 => ?_)
    · replace hf := (if_pos c3).symm.trans hf
      refine v_iload_n dX11_housesThatAre_36 rfl ?_
      replace hf := Option.some.inj hf
      subst hf
      exact v_iret dX11_housesThatAre_37 rfl
    · replace hf := (if_neg c3).symm.trans hf
      refine v_aload_n dX11_housesThatAre_15 rfl ?_
      refine v_iload_n dX11_housesThatAre_16 rfl ?_
      refine v_iload_n dX11_housesThatAre_17 rfl ?_
      obtain ⟨q4, eq4, hf⟩ := ob hf
      refine v_callV dX11_housesThatAre_18 ⟨cb_X11_isSuch, ml_11_381, im_X11_isSuch⟩ se_11_X11_isSuch (ckf_X11_isSuch eq4) (ev_X11_isSuch eq4) (by decide) (As := [.int l3, .int l1]) rfl (st := []) rfl (Nat.le_of_ble_eq_true rfl) rfl ?_
      refine v_if_eq dX11_housesThatAre_21 (tgt := 30) (by decide) (fun c5 => ?_) (fun c5 => ?_)
      · replace hf := (if_pos c5).symm.trans hf
        exact e_X11_housesThatAre_b30 ih h l0 l1 l2 l3 r hf
      · replace hf := (if_neg c5).symm.trans hf
        refine v_iload_n dX11_housesThatAre_24 rfl ?_
        refine v_iconst dX11_housesThatAre_25 (by decide) (v := 1) ?_
        refine v_iload_n dX11_housesThatAre_26 rfl ?_
        refine w_ishl dX11_housesThatAre_27 ?_
        refine v_ior dX11_housesThatAre_28 ?_
        refine v_istore_n (i := 2) rfl dX11_housesThatAre_29 (Nat.le_of_ble_eq_true rfl) (loc' := [some (.ref l0), some (.int l1), some (.int (l2 ||| (shl (1 : Int32) l3))), some (.int l3)]) rfl ?_
        exact e_X11_housesThatAre_b30 ih h l0 l1 (l2 ||| (shl (1 : Int32) l3)) l3 r hf
def f_X11_housesThatAre (h : xa_H) (l0 : Nat) (l1 : Int32) : Option Int32 :=
  (ck [11] h l0).bind fun _ =>
  f_X11_housesThatAre_b4 1048576 h l0 l1 (0 : Int32) (0 : Int32)
set_option maxRecDepth 20000 in
theorem ev_X11_housesThatAre {G : xa_G} {h : xa_H} {l0 : Nat} {l1 : Int32} {r : Int32} (hf : f_X11_housesThatAre h l0 l1 = some r) : xa_Ev G M_X11_housesThatAre 4 [.ref l0, .int l1] h (some (.int r)) h := by
  refine xa_entry (by decide +kernel) (loc := [some (.ref l0), some (.int l1), none, none]) rfl (Nat.le_of_ble_eq_true rfl) ?_
  unfold f_X11_housesThatAre at hf
  obtain ⟨u0, eu0, hf⟩ := ob hf
  refine v_iconst dX11_housesThatAre_0 (by decide) (v := 0) ?_
  refine v_istore_n (i := 2) rfl dX11_housesThatAre_1 (Nat.le_of_ble_eq_true rfl) (loc' := [some (.ref l0), some (.int l1), some (.int (0 : Int32)), none]) rfl ?_
  refine v_iconst dX11_housesThatAre_2 (by decide) (v := 0) ?_
  refine v_istore_n (i := 3) rfl dX11_housesThatAre_3 (Nat.le_of_ble_eq_true rfl) (loc' := [some (.ref l0), some (.int l1), some (.int (0 : Int32)), some (.int (0 : Int32))]) rfl ?_
  exact e_X11_housesThatAre_b4 1048576 h l0 l1 (0 : Int32) (0 : Int32) r hf
theorem ckf_X11_housesThatAre {h : xa_H} {l0 : Nat} {l1 : Int32} {r : Int32} (hf : f_X11_housesThatAre h l0 l1 = some r) : ck [11] h l0 = some () := by
  obtain ⟨u, e, -⟩ := ob hf
  exact e
def M_X11_all : xa_M := (yX11_all, cX11_all, 2, some .int)
theorem cb_X11_all : xa_CB M_X11_all 1 := ⟨gws_at 1166 (by decide +kernel) rfl, gws_at 109 (by decide +kernel) rfl, by decide +kernel, Nat.le_of_ble_eq_true rfl⟩
def f_X11_all_b46 (h : xa_H) (l0 : Nat) (l1 : Int32) : Option Int32 :=
  if l1 = (5 : Int32) then
    (gR [11] 6 h l0).bind fun x2 =>
    (f_X0_favours h x2).bind fun q3 =>
    some q3
  else if l1 = (6 : Int32) then
    (gR [11] 6 h l0).bind fun x5 =>
    (f_X0_pairs h x5).bind fun q6 =>
    some q6
  else if l1 = (7 : Int32) then
    some (-1000000 : Int32)
  else if l1 = (8 : Int32) then
    some (-1000000 : Int32)
  else if l1 = (9 : Int32) then
    some (-1000000 : Int32)
  else if l1 = (10 : Int32) then
    some (-1000000 : Int32)
  else if l1 = (11 : Int32) then
    some (-1000000 : Int32)
  else if l1 = (12 : Int32) then
    (gR [11] 6 h l0).bind fun x13 =>
    (f_X0_levels h x13).bind fun q14 =>
    some q14
  else if l1 = (13 : Int32) then
    (gR [11] 6 h l0).bind fun x16 =>
    (f_X0_mostBetweenTwo h x16).bind fun q17 =>
    some q17
  else 
    some (-1000000 : Int32)
set_option maxRecDepth 20000 in
theorem e_X11_all_b46 {G : xa_G} : ∀ (h : xa_H) (l0 : Nat) (l1 : Int32) (r : Int32), f_X11_all_b46 h l0 l1 = some r → xa_V G M_X11_all 5 46 [some (.ref l0), some (.int l1)] [] h (some (.int r)) h := by
  intro h l0 l1 r hf
  unfold f_X11_all_b46 at hf
  refine v_iload_n dX11_all_46 rfl ?_
  by_cases c1 : l1 = (5 : Int32)
  · replace hf := (if_pos c1).symm.trans hf
    refine v_tabIn dX11_all_47 (5 : Int32) c1 (by decide) (by decide) (off := 49) rfl (tgt := 96) (by decide) ?_
    refine v_aload_n dX11_all_96 rfl ?_
    obtain ⟨x2, ex2, hf⟩ := ob hf
    refine v_getR dX11_all_97 fl_11_49 ex2 ?_
    obtain ⟨q3, eq3, hf⟩ := ob hf
    refine v_callV dX11_all_100 ⟨cb_X0_favours, ml_11_247, im_X0_favours⟩ se_0_X0_favours (ckf_X0_favours eq3) (ev_X0_favours eq3) (by decide) (As := []) rfl (st := []) rfl (Nat.le_of_ble_eq_true rfl) rfl ?_
    replace hf := Option.some.inj hf
    subst hf
    exact v_iret dX11_all_103 rfl
  replace hf := (if_neg c1).symm.trans hf
  by_cases c4 : l1 = (6 : Int32)
  · replace hf := (if_pos c4).symm.trans hf
    refine v_tabIn dX11_all_47 (6 : Int32) c4 (by decide) (by decide) (off := 57) rfl (tgt := 104) (by decide) ?_
    refine v_aload_n dX11_all_104 rfl ?_
    obtain ⟨x5, ex5, hf⟩ := ob hf
    refine v_getR dX11_all_105 fl_11_49 ex5 ?_
    obtain ⟨q6, eq6, hf⟩ := ob hf
    refine v_callV dX11_all_108 ⟨cb_X0_pairs, ml_11_372, im_X0_pairs⟩ se_0_X0_pairs (ckf_X0_pairs eq6) (ev_X0_pairs eq6) (by decide) (As := []) rfl (st := []) rfl (Nat.le_of_ble_eq_true rfl) rfl ?_
    replace hf := Option.some.inj hf
    subst hf
    exact v_iret dX11_all_111 rfl
  replace hf := (if_neg c4).symm.trans hf
  by_cases c7 : l1 = (7 : Int32)
  · replace hf := (if_pos c7).symm.trans hf
    refine v_tabIn dX11_all_47 (7 : Int32) c7 (by decide) (by decide) (off := 81) rfl (tgt := 128) (by decide) ?_
    refine v_ldc dX11_all_128 rfl co_11_220 ?_
    replace hf := Option.some.inj hf
    subst hf
    exact v_iret dX11_all_130 rfl
  replace hf := (if_neg c7).symm.trans hf
  by_cases c8 : l1 = (8 : Int32)
  · replace hf := (if_pos c8).symm.trans hf
    refine v_tabIn dX11_all_47 (8 : Int32) c8 (by decide) (by decide) (off := 81) rfl (tgt := 128) (by decide) ?_
    refine v_ldc dX11_all_128 rfl co_11_220 ?_
    replace hf := Option.some.inj hf
    subst hf
    exact v_iret dX11_all_130 rfl
  replace hf := (if_neg c8).symm.trans hf
  by_cases c9 : l1 = (9 : Int32)
  · replace hf := (if_pos c9).symm.trans hf
    refine v_tabIn dX11_all_47 (9 : Int32) c9 (by decide) (by decide) (off := 81) rfl (tgt := 128) (by decide) ?_
    refine v_ldc dX11_all_128 rfl co_11_220 ?_
    replace hf := Option.some.inj hf
    subst hf
    exact v_iret dX11_all_130 rfl
  replace hf := (if_neg c9).symm.trans hf
  by_cases c10 : l1 = (10 : Int32)
  · replace hf := (if_pos c10).symm.trans hf
    refine v_tabIn dX11_all_47 (10 : Int32) c10 (by decide) (by decide) (off := 81) rfl (tgt := 128) (by decide) ?_
    refine v_ldc dX11_all_128 rfl co_11_220 ?_
    replace hf := Option.some.inj hf
    subst hf
    exact v_iret dX11_all_130 rfl
  replace hf := (if_neg c10).symm.trans hf
  by_cases c11 : l1 = (11 : Int32)
  · replace hf := (if_pos c11).symm.trans hf
    refine v_tabIn dX11_all_47 (11 : Int32) c11 (by decide) (by decide) (off := 81) rfl (tgt := 128) (by decide) ?_
    refine v_ldc dX11_all_128 rfl co_11_220 ?_
    replace hf := Option.some.inj hf
    subst hf
    exact v_iret dX11_all_130 rfl
  replace hf := (if_neg c11).symm.trans hf
  by_cases c12 : l1 = (12 : Int32)
  · replace hf := (if_pos c12).symm.trans hf
    refine v_tabIn dX11_all_47 (12 : Int32) c12 (by decide) (by decide) (off := 65) rfl (tgt := 112) (by decide) ?_
    refine v_aload_n dX11_all_112 rfl ?_
    obtain ⟨x13, ex13, hf⟩ := ob hf
    refine v_getR dX11_all_113 fl_11_49 ex13 ?_
    obtain ⟨q14, eq14, hf⟩ := ob hf
    refine v_callV dX11_all_116 ⟨cb_X0_levels, ml_11_250, im_X0_levels⟩ se_0_X0_levels (ckf_X0_levels eq14) (ev_X0_levels eq14) (by decide) (As := []) rfl (st := []) rfl (Nat.le_of_ble_eq_true rfl) rfl ?_
    replace hf := Option.some.inj hf
    subst hf
    exact v_iret dX11_all_119 rfl
  replace hf := (if_neg c12).symm.trans hf
  by_cases c15 : l1 = (13 : Int32)
  · replace hf := (if_pos c15).symm.trans hf
    refine v_tabIn dX11_all_47 (13 : Int32) c15 (by decide) (by decide) (off := 73) rfl (tgt := 120) (by decide) ?_
    refine v_aload_n dX11_all_120 rfl ?_
    obtain ⟨x16, ex16, hf⟩ := ob hf
    refine v_getR dX11_all_121 fl_11_49 ex16 ?_
    obtain ⟨q17, eq17, hf⟩ := ob hf
    refine v_callV dX11_all_124 ⟨cb_X0_mostBetweenTwo, ml_11_375, im_X0_mostBetweenTwo⟩ se_0_X0_mostBetweenTwo (ckf_X0_mostBetweenTwo eq17) (ev_X0_mostBetweenTwo eq17) (by decide) (As := []) rfl (st := []) rfl (Nat.le_of_ble_eq_true rfl) rfl ?_
    replace hf := Option.some.inj hf
    subst hf
    exact v_iret dX11_all_127 rfl
  replace hf := (if_neg c15).symm.trans hf
  refine v_tabOut dX11_all_47 (by have zc1 := tsx (n := 5) (by decide) c1; have zc4 := tsx (n := 6) (by decide) c4; have zc7 := tsx (n := 7) (by decide) c7; have zc8 := tsx (n := 8) (by decide) c8; have zc9 := tsx (n := 9) (by decide) c9; have zc10 := tsx (n := 10) (by decide) c10; have zc11 := tsx (n := 11) (by decide) c11; have zc12 := tsx (n := 12) (by decide) c12; have zc15 := tsx (n := 13) (by decide) c15; omega) (tgt := 128) (by decide) ?_
  refine v_ldc dX11_all_128 rfl co_11_220 ?_
  replace hf := Option.some.inj hf
  subst hf
  exact v_iret dX11_all_130 rfl
def f_X11_all_b28 (h : xa_H) (l0 : Nat) (l1 : Int32) : Option Int32 :=
  if l1 < (7 : Int32) then
    f_X11_all_b46 h l0 l1
  else
    if (11 : Int32) < l1 then
      f_X11_all_b46 h l0 l1
    else
      (f_X11_housesThatAre h l0 l1).bind fun q3 =>
      some q3
set_option maxRecDepth 20000 in
theorem e_X11_all_b28 {G : xa_G} : ∀ (h : xa_H) (l0 : Nat) (l1 : Int32) (r : Int32), f_X11_all_b28 h l0 l1 = some r → xa_V G M_X11_all 5 28 [some (.ref l0), some (.int l1)] [] h (some (.int r)) h := by
  intro h l0 l1 r hf
  unfold f_X11_all_b28 at hf
  refine v_iload_n dX11_all_28 rfl ?_
  refine v_bipush dX11_all_29 (by decide) (v := 7) ?_
  refine v_icmp_lt dX11_all_31 (tgt := 46) (by decide) (fun c1 => ?_) (fun c1 => ?_)
  · replace hf := (if_pos c1).symm.trans hf
    exact e_X11_all_b46 h l0 l1 r hf
  · replace hf := (if_neg c1).symm.trans hf
    refine v_iload_n dX11_all_34 rfl ?_
    refine v_bipush dX11_all_35 (by decide) (v := 11) ?_
    refine v_icmp_gt dX11_all_37 (tgt := 46) (by decide) (fun c2 => ?_) (fun c2 => ?_)
    · replace hf := (if_pos c2).symm.trans hf
      exact e_X11_all_b46 h l0 l1 r hf
    · replace hf := (if_neg c2).symm.trans hf
      refine v_aload_n dX11_all_40 rfl ?_
      refine v_iload_n dX11_all_41 rfl ?_
      obtain ⟨q3, eq3, hf⟩ := ob hf
      refine v_callV dX11_all_42 ⟨cb_X11_housesThatAre, ml_11_369, im_X11_housesThatAre⟩ se_11_X11_housesThatAre (ckf_X11_housesThatAre eq3) (ev_X11_housesThatAre eq3) (by decide) (As := [.int l1]) rfl (st := []) rfl (Nat.le_of_ble_eq_true rfl) rfl ?_
      replace hf := Option.some.inj hf
      subst hf
      exact v_iret dX11_all_45 rfl
def f_X11_all (h : xa_H) (l0 : Nat) (l1 : Int32) : Option Int32 :=
  (ck [11] h l0).bind fun _ =>
  (gR [11] 6 h l0).bind fun x1 =>
  (gI [0] 4 h x1).bind fun x2 =>
  if x2 = 0 then
    some (-1000000 : Int32)
  else
    if l1 < 0 then
      f_X11_all_b28 h l0 l1
    else
      if (4 : Int32) < l1 then
        f_X11_all_b28 h l0 l1
      else
        (f_X11_houseWithMost h l0 l1).bind fun q6 =>
        some q6
set_option maxRecDepth 20000 in
theorem ev_X11_all {G : xa_G} {h : xa_H} {l0 : Nat} {l1 : Int32} {r : Int32} (hf : f_X11_all h l0 l1 = some r) : xa_Ev G M_X11_all 5 [.ref l0, .int l1] h (some (.int r)) h := by
  refine xa_entry (by decide +kernel) (loc := [some (.ref l0), some (.int l1)]) rfl (Nat.le_of_ble_eq_true rfl) ?_
  unfold f_X11_all at hf
  obtain ⟨u0, eu0, hf⟩ := ob hf
  refine v_aload_n dX11_all_0 rfl ?_
  obtain ⟨x1, ex1, hf⟩ := ob hf
  refine v_getR dX11_all_1 fl_11_49 ex1 ?_
  obtain ⟨x2, ex2, hf⟩ := ob hf
  refine v_getI dX11_all_4 fl_11_154 ex2 ?_
  refine v_if_ne dX11_all_7 (tgt := 13) (by decide) (fun c3 => ?_) (fun c3 => ?_)
  · replace hf := (if_neg c3).symm.trans hf
    refine v_iload_n dX11_all_13 rfl ?_
    refine v_if_lt dX11_all_14 (tgt := 28) (by decide) (fun c4 => ?_) (fun c4 => ?_)
    · replace hf := (if_pos c4).symm.trans hf
      exact e_X11_all_b28 h l0 l1 r hf
    · replace hf := (if_neg c4).symm.trans hf
      refine v_iload_n dX11_all_17 rfl ?_
      refine v_iconst dX11_all_18 (by decide) (v := 4) ?_
      refine v_icmp_gt dX11_all_19 (tgt := 28) (by decide) (fun c5 => ?_) (fun c5 => ?_)
      · replace hf := (if_pos c5).symm.trans hf
        exact e_X11_all_b28 h l0 l1 r hf
      · replace hf := (if_neg c5).symm.trans hf
        refine v_aload_n dX11_all_22 rfl ?_
        refine v_iload_n dX11_all_23 rfl ?_
        obtain ⟨q6, eq6, hf⟩ := ob hf
        refine v_callV dX11_all_24 ⟨cb_X11_houseWithMost, ml_11_366, im_X11_houseWithMost⟩ se_11_X11_houseWithMost (ckf_X11_houseWithMost eq6) (ev_X11_houseWithMost eq6) (by decide) (As := [.int l1]) rfl (st := []) rfl (Nat.le_of_ble_eq_true rfl) rfl ?_
        replace hf := Option.some.inj hf
        subst hf
        exact v_iret dX11_all_27 rfl
  · replace hf := (if_pos c3).symm.trans hf
    refine v_ldc dX11_all_10 rfl co_11_220 ?_
    replace hf := Option.some.inj hf
    subst hf
    exact v_iret dX11_all_12 rfl
theorem ckf_X11_all {h : xa_H} {l0 : Nat} {l1 : Int32} {r : Int32} (hf : f_X11_all h l0 l1 = some r) : ck [11] h l0 = some () := by
  obtain ⟨u, e, -⟩ := ob hf
  exact e
def M_X11_append : xa_M := (yX11_append, cX11_append, 4, none)
theorem cb_X11_append : xa_CB M_X11_append 1 := ⟨gws_at 539 (by decide +kernel) rfl, gws_at 109 (by decide +kernel) rfl, by decide +kernel, Nat.le_of_ble_eq_true rfl⟩
def f_X11_append_b49 (k3 : xa_H → Nat → Int32 → Int32 → Option xa_H) (h : xa_H) (l0 : Nat) (l1 : Int32) (l2 : Int32) : Option xa_H :=
  k3 h l0 l1 (l2 + (-8 : Int32))
set_option maxRecDepth 20000 in
theorem e_X11_append_b49 {G : xa_G} {k3 : xa_H → Nat → Int32 → Int32 → Option xa_H} (hk3 : ∀ (h : xa_H) (l0 : Nat) (l1 : Int32) (l2 : Int32) (r : xa_H), k3 h l0 l1 l2 = some r → xa_V G M_X11_append 0 3 [some (.ref l0), some (.int l1), some (.int l2), none] [] h none r) : ∀ (h : xa_H) (l0 : Nat) (l1 : Int32) (l2 : Int32) (r : xa_H), f_X11_append_b49 k3 h l0 l1 l2 = some r → xa_V G M_X11_append 0 49 [some (.ref l0), some (.int l1), some (.int l2), none] [] h none r := by
  intro h l0 l1 l2 r hf
  unfold f_X11_append_b49 at hf
  refine v_iinc dX11_append_49 rfl (v := (l2 + (-8 : Int32))) rfl (Nat.le_of_ble_eq_true rfl) (loc' := [some (.ref l0), some (.int l1), some (.int (l2 + (-8 : Int32))), none]) rfl ?_
  refine v_goto dX11_append_52 (tgt := 3) (by decide) ?_
  exact hk3 h l0 l1 (l2 + (-8 : Int32)) r hf
def f_X11_append_b3 : Nat → xa_H → Nat → Int32 → Int32 → Option xa_H
  | 0, _, _, _, _ => none
  | n + 1, h, l0, l1, l2 =>
    if l2 < 0 then
      some h
    else
      if ((ushr l1 l2) &&& (255 : Int32)) = 0 then
        f_X11_append_b49 (fun h l0 l1 l2 => f_X11_append_b3 n h l0 l1 l2) h l0 l1 l2
      else
        (gI [11] 16 h l0).bind fun x3 =>
        if (240 : Int32) ≤ x3 then
          f_X11_append_b49 (fun h l0 l1 l2 => f_X11_append_b3 n h l0 l1 l2) h l0 l1 l2
        else
          (gR [11] 0 h l0).bind fun x5 =>
          (gI [11] 16 h l0).bind fun x6 =>
          (pI h x5 x6 ((ushr l1 l2) &&& (255 : Int32))).bind fun h7 =>
          (gI [11] 16 h7 l0).bind fun x8 =>
          (xp [11] 16 h7 l0 (.int (x8 + (1 : Int32)))).bind fun h9 =>
          f_X11_append_b49 (fun h l0 l1 l2 => f_X11_append_b3 n h l0 l1 l2) h9 l0 l1 l2
set_option maxRecDepth 20000 in
theorem e_X11_append_b3 {G : xa_G} : ∀ (n : Nat) (h : xa_H) (l0 : Nat) (l1 : Int32) (l2 : Int32) (r : xa_H), f_X11_append_b3 n h l0 l1 l2 = some r → xa_V G M_X11_append 0 3 [some (.ref l0), some (.int l1), some (.int l2), none] [] h none r := by
  intro n
  induction n with
  | zero =>
    intro h l0 l1 l2 r hf
    cases (show (none : Option xa_H) = some r from hf)
  | succ n ih =>
    intro h l0 l1 l2 r hf
    rw [f_X11_append_b3] at hf
    refine v_iload_n dX11_append_3 rfl ?_
    refine v_if_lt dX11_append_4 (tgt := 55) (by decide) (fun c1 => ?_) (fun c1 => ?_)
    · replace hf := (if_pos c1).symm.trans hf
      replace hf := Option.some.inj hf
      subst hf
      exact v_vret dX11_append_55 rfl
    · replace hf := (if_neg c1).symm.trans hf
      refine v_iload_n dX11_append_7 rfl ?_
      refine v_iload_n dX11_append_8 rfl ?_
      refine w_iushr dX11_append_9 ?_
      refine v_sipush dX11_append_10 (by decide) (v := 255) ?_
      refine v_iand dX11_append_13 ?_
      refine v_istore_n (i := 3) rfl dX11_append_14 (Nat.le_of_ble_eq_true rfl) (loc' := [some (.ref l0), some (.int l1), some (.int l2), some (.int ((ushr l1 l2) &&& (255 : Int32)))]) rfl ?_
      refine v_iload_n dX11_append_15 rfl ?_
      refine v_if_eq dX11_append_16 (tgt := 49) (by decide) (fun c2 => ?_) (fun c2 => ?_)
      · replace hf := (if_pos c2).symm.trans hf
        exact xa_weak (loc := [some (.ref l0), some (.int l1), some (.int l2), none]) ⟨rfl, ⟨rfl, ⟨rfl, trivial⟩⟩⟩ (e_X11_append_b49 ih h l0 l1 l2 r hf)
      · replace hf := (if_neg c2).symm.trans hf
        refine v_aload_n dX11_append_19 rfl ?_
        obtain ⟨x3, ex3, hf⟩ := ob hf
        refine v_getI dX11_append_20 fl_11_100 ex3 ?_
        refine v_sipush dX11_append_23 (by decide) (v := 240) ?_
        refine v_icmp_ge dX11_append_26 (tgt := 49) (by decide) (fun c4 => ?_) (fun c4 => ?_)
        · replace hf := (if_pos c4).symm.trans hf
          exact xa_weak (loc := [some (.ref l0), some (.int l1), some (.int l2), none]) ⟨rfl, ⟨rfl, ⟨rfl, trivial⟩⟩⟩ (e_X11_append_b49 ih h l0 l1 l2 r hf)
        · replace hf := (if_neg c4).symm.trans hf
          refine v_aload_n dX11_append_29 rfl ?_
          obtain ⟨x5, ex5, hf⟩ := ob hf
          refine v_getR dX11_append_30 fl_11_9 ex5 ?_
          refine v_aload_n dX11_append_33 rfl ?_
          obtain ⟨x6, ex6, hf⟩ := ob hf
          refine v_getI dX11_append_34 fl_11_100 ex6 ?_
          refine v_iload_n dX11_append_37 rfl ?_
          obtain ⟨h7, eh7, hf⟩ := ob hf
          refine v_iastoreI dX11_append_38 eh7 ?_
          refine v_aload_n dX11_append_39 rfl ?_
          refine v_dup dX11_append_40 rfl ?_
          obtain ⟨x8, ex8, hf⟩ := ob hf
          refine v_getI dX11_append_41 fl_11_100 ex8 ?_
          refine v_iconst dX11_append_44 (by decide) (v := 1) ?_
          refine v_iadd dX11_append_45 ?_
          obtain ⟨h9, eh9, hf⟩ := ob hf
          refine v_put dX11_append_46 fp_11_100 (fun z => by cases z) (fun _ => rfl) (fun _ => rfl) eh9 ?_
          exact xa_weak (loc := [some (.ref l0), some (.int l1), some (.int l2), none]) ⟨rfl, ⟨rfl, ⟨rfl, trivial⟩⟩⟩ (e_X11_append_b49 ih h9 l0 l1 l2 r hf)
def f_X11_append (h : xa_H) (l0 : Nat) (l1 : Int32) : Option xa_H :=
  (ck [11] h l0).bind fun _ =>
  f_X11_append_b3 1048576 h l0 l1 (24 : Int32)
set_option maxRecDepth 20000 in
theorem ev_X11_append {G : xa_G} {h : xa_H} {l0 : Nat} {l1 : Int32} {r : xa_H} (hf : f_X11_append h l0 l1 = some r) : xa_Ev G M_X11_append 0 [.ref l0, .int l1] h none r := by
  refine xa_entry (by decide +kernel) (loc := [some (.ref l0), some (.int l1), none, none]) rfl (Nat.le_of_ble_eq_true rfl) ?_
  unfold f_X11_append at hf
  obtain ⟨u0, eu0, hf⟩ := ob hf
  refine v_bipush dX11_append_0 (by decide) (v := 24) ?_
  refine v_istore_n (i := 2) rfl dX11_append_2 (Nat.le_of_ble_eq_true rfl) (loc' := [some (.ref l0), some (.int l1), some (.int (24 : Int32)), none]) rfl ?_
  exact e_X11_append_b3 1048576 h l0 l1 (24 : Int32) r hf
theorem ckf_X11_append {h : xa_H} {l0 : Nat} {l1 : Int32} {r : xa_H} (hf : f_X11_append h l0 l1 = some r) : ck [11] h l0 = some () := by
  obtain ⟨u, e, -⟩ := ob hf
  exact e
def M_X11_fits : xa_M := (yX11_fits, cX11_fits, 3, some .int)
theorem cb_X11_fits : xa_CB M_X11_fits 0 := ⟨gws_at 1097 (by decide +kernel) rfl, gws_at 109 (by decide +kernel) rfl, by decide +kernel, Nat.le_of_ble_eq_true rfl⟩
def f_X11_fits_b41 (k16 : xa_H → Nat → Int32 → Int32 → Option (Int32 × xa_H)) (h : xa_H) (l0 : Nat) (l1 : Int32) (l2 : Int32) : Option (Int32 × xa_H) :=
  k16 h l0 l1 (l2 + (1 : Int32))
set_option maxRecDepth 20000 in
theorem e_X11_fits_b41 {G : xa_G} {k16 : xa_H → Nat → Int32 → Int32 → Option (Int32 × xa_H)} (hk16 : ∀ (h : xa_H) (l0 : Nat) (l1 : Int32) (l2 : Int32) (r : (Int32 × xa_H)), k16 h l0 l1 l2 = some r → xa_V G M_X11_fits 5 16 [some (.ref l0), some (.int l1), some (.int l2)] [] h (some (.int r.1)) r.2) : ∀ (h : xa_H) (l0 : Nat) (l1 : Int32) (l2 : Int32) (r : (Int32 × xa_H)), f_X11_fits_b41 k16 h l0 l1 l2 = some r → xa_V G M_X11_fits 5 41 [some (.ref l0), some (.int l1), some (.int l2)] [] h (some (.int r.1)) r.2 := by
  intro h l0 l1 l2 r hf
  unfold f_X11_fits_b41 at hf
  refine v_iinc dX11_fits_41 rfl (v := (l2 + (1 : Int32))) rfl (Nat.le_of_ble_eq_true rfl) (loc' := [some (.ref l0), some (.int l1), some (.int (l2 + (1 : Int32)))]) rfl ?_
  refine v_goto dX11_fits_44 (tgt := 16) (by decide) ?_
  exact hk16 h l0 l1 (l2 + (1 : Int32)) r hf
def f_X11_fits_b16 : Nat → xa_H → Nat → Int32 → Int32 → Option (Int32 × xa_H)
  | 0, _, _, _, _ => none
  | n + 1, h, l0, l1, l2 =>
    (gR [11] 5 h l0).bind fun x1 =>
    (gI [5] 3 h x1).bind fun x2 =>
    if x2 ≤ l2 then
      some (l1, h)
    else
      (f_X11_agrees h l0 l2).bind fun q4 =>
      if q4.1 = 0 then
        f_X11_fits_b41 (fun h l0 l1 l2 => f_X11_fits_b16 n h l0 l1 l2) q4.2 l0 l1 l2
      else
        f_X11_fits_b41 (fun h l0 l1 l2 => f_X11_fits_b16 n h l0 l1 l2) q4.2 l0 (l1 ||| (shl (1 : Int32) l2)) l2
set_option maxRecDepth 20000 in
theorem e_X11_fits_b16 {G : xa_G} : ∀ (n : Nat) (h : xa_H) (l0 : Nat) (l1 : Int32) (l2 : Int32) (r : (Int32 × xa_H)), f_X11_fits_b16 n h l0 l1 l2 = some r → xa_V G M_X11_fits 5 16 [some (.ref l0), some (.int l1), some (.int l2)] [] h (some (.int r.1)) r.2 := by
  intro n
  induction n with
  | zero =>
    intro h l0 l1 l2 r hf
    cases (show (none : Option (Int32 × xa_H)) = some r from hf)
  | succ n ih =>
    intro h l0 l1 l2 r hf
    rw [f_X11_fits_b16] at hf
    refine v_iload_n dX11_fits_16 rfl ?_
    refine v_aload_n dX11_fits_17 rfl ?_
    obtain ⟨x1, ex1, hf⟩ := ob hf
    refine v_getR dX11_fits_18 fl_11_43 ex1 ?_
    obtain ⟨x2, ex2, hf⟩ := ob hf
    refine v_getI dX11_fits_21 fl_11_191 ex2 ?_
    refine v_icmp_ge dX11_fits_24 (tgt := 47) (by decide) (fun c3 => ?_) (fun c3 => ?_)
    · replace hf := (if_pos c3).symm.trans hf
      refine v_iload_n dX11_fits_47 rfl ?_
      replace hf := Option.some.inj hf
      subst hf
      exact v_iret dX11_fits_48 rfl
    · replace hf := (if_neg c3).symm.trans hf
      refine v_aload_n dX11_fits_27 rfl ?_
      refine v_iload_n dX11_fits_28 rfl ?_
      obtain ⟨q4, eq4, hf⟩ := ob hf
      refine v_callV dX11_fits_29 ⟨cb_X11_agrees, ml_11_335, im_X11_agrees⟩ se_11_X11_agrees (ckf_X11_agrees eq4) (ev_X11_agrees eq4) (by decide) (As := [.int l2]) rfl (st := []) rfl (Nat.le_of_ble_eq_true rfl) rfl ?_
      refine v_if_eq dX11_fits_32 (tgt := 41) (by decide) (fun c5 => ?_) (fun c5 => ?_)
      · replace hf := (if_pos c5).symm.trans hf
        exact e_X11_fits_b41 ih q4.2 l0 l1 l2 r hf
      · replace hf := (if_neg c5).symm.trans hf
        refine v_iload_n dX11_fits_35 rfl ?_
        refine v_iconst dX11_fits_36 (by decide) (v := 1) ?_
        refine v_iload_n dX11_fits_37 rfl ?_
        refine w_ishl dX11_fits_38 ?_
        refine v_ior dX11_fits_39 ?_
        refine v_istore_n (i := 1) rfl dX11_fits_40 (Nat.le_of_ble_eq_true rfl) (loc' := [some (.ref l0), some (.int (l1 ||| (shl (1 : Int32) l2))), some (.int l2)]) rfl ?_
        exact e_X11_fits_b41 ih q4.2 l0 (l1 ||| (shl (1 : Int32) l2)) l2 r hf
def f_X11_fits (h : xa_H) (l0 : Nat) : Option (Int32 × xa_H) :=
  (ck [11] h l0).bind fun _ =>
  (gR [11] 6 h l0).bind fun x1 =>
  (gI [0] 4 h x1).bind fun x2 =>
  if x2 = 0 then
    some ((-1 : Int32), h)
  else
    f_X11_fits_b16 1048576 h l0 (0 : Int32) (0 : Int32)
set_option maxRecDepth 20000 in
theorem ev_X11_fits {G : xa_G} {h : xa_H} {l0 : Nat} {r : (Int32 × xa_H)} (hf : f_X11_fits h l0 = some r) : xa_Ev G M_X11_fits 5 [.ref l0] h (some (.int r.1)) r.2 := by
  refine xa_entry (by decide +kernel) (loc := [some (.ref l0), none, none]) rfl (Nat.le_of_ble_eq_true rfl) ?_
  unfold f_X11_fits at hf
  obtain ⟨u0, eu0, hf⟩ := ob hf
  refine v_aload_n dX11_fits_0 rfl ?_
  obtain ⟨x1, ex1, hf⟩ := ob hf
  refine v_getR dX11_fits_1 fl_11_49 ex1 ?_
  obtain ⟨x2, ex2, hf⟩ := ob hf
  refine v_getI dX11_fits_4 fl_11_154 ex2 ?_
  refine v_if_ne dX11_fits_7 (tgt := 12) (by decide) (fun c3 => ?_) (fun c3 => ?_)
  · replace hf := (if_neg c3).symm.trans hf
    refine v_iconst dX11_fits_12 (by decide) (v := 0) ?_
    refine v_istore_n (i := 1) rfl dX11_fits_13 (Nat.le_of_ble_eq_true rfl) (loc' := [some (.ref l0), some (.int (0 : Int32)), none]) rfl ?_
    refine v_iconst dX11_fits_14 (by decide) (v := 0) ?_
    refine v_istore_n (i := 2) rfl dX11_fits_15 (Nat.le_of_ble_eq_true rfl) (loc' := [some (.ref l0), some (.int (0 : Int32)), some (.int (0 : Int32))]) rfl ?_
    exact e_X11_fits_b16 1048576 h l0 (0 : Int32) (0 : Int32) r hf
  · replace hf := (if_pos c3).symm.trans hf
    refine v_iconst dX11_fits_10 (by decide) (v := -1) ?_
    replace hf := Option.some.inj hf
    subst hf
    exact v_iret dX11_fits_11 rfl
theorem ckf_X11_fits {h : xa_H} {l0 : Nat} {r : (Int32 × xa_H)} (hf : f_X11_fits h l0 = some r) : ck [11] h l0 = some () := by
  obtain ⟨u, e, -⟩ := ob hf
  exact e
def M_X11_foretell : xa_M := (yX11_foretell, cX11_foretell, 6, none)
theorem cb_X11_foretell : xa_CB M_X11_foretell 3 := ⟨gws_at 1115 (by decide +kernel) rfl, gws_at 109 (by decide +kernel) rfl, by decide +kernel, Nat.le_of_ble_eq_true rfl⟩
def f_X11_foretell_b94 (k17 : xa_H → Nat → Int32 → Int32 → Int32 → Int32 → Int32 → Option xa_H) (h : xa_H) (l0 : Nat) (l1 : Int32) (l2 : Int32) (l3 : Int32) (l4 : Int32) (l5 : Int32) (s0 : Int32) (s1 : Int32) (s2 : Nat) : Option xa_H :=
  (pI h s2 s1 s0).bind fun h1 =>
  k17 h1 l0 l1 l2 l3 l4 (l5 + (1 : Int32))
set_option maxRecDepth 20000 in
theorem e_X11_foretell_b94 {G : xa_G} {k17 : xa_H → Nat → Int32 → Int32 → Int32 → Int32 → Int32 → Option xa_H} (hk17 : ∀ (h : xa_H) (l0 : Nat) (l1 : Int32) (l2 : Int32) (l3 : Int32) (l4 : Int32) (l5 : Int32) (r : xa_H), k17 h l0 l1 l2 l3 l4 l5 = some r → xa_V G M_X11_foretell 4 17 [some (.ref l0), some (.int l1), some (.int l2), some (.int l3), some (.int l4), some (.int l5)] [] h none r) : ∀ (h : xa_H) (l0 : Nat) (l1 : Int32) (l2 : Int32) (l3 : Int32) (l4 : Int32) (l5 : Int32) (s0 : Int32) (s1 : Int32) (s2 : Nat) (r : xa_H), f_X11_foretell_b94 k17 h l0 l1 l2 l3 l4 l5 s0 s1 s2 = some r → xa_V G M_X11_foretell 4 94 [some (.ref l0), some (.int l1), some (.int l2), some (.int l3), some (.int l4), some (.int l5)] [.int s0, .int s1, .ref s2] h none r := by
  intro h l0 l1 l2 l3 l4 l5 s0 s1 s2 r hf
  unfold f_X11_foretell_b94 at hf
  obtain ⟨h1, eh1, hf⟩ := ob hf
  refine v_iastoreI dX11_foretell_94 eh1 ?_
  refine v_iinc dX11_foretell_95 rfl (v := (l5 + (1 : Int32))) rfl (Nat.le_of_ble_eq_true rfl) (loc' := [some (.ref l0), some (.int l1), some (.int l2), some (.int l3), some (.int l4), some (.int (l5 + (1 : Int32)))]) rfl ?_
  refine v_goto dX11_foretell_98 (tgt := 17) (by decide) ?_
  exact hk17 h1 l0 l1 l2 l3 l4 (l5 + (1 : Int32)) r hf
def f_X11_foretell_b62 (k17 : xa_H → Nat → Int32 → Int32 → Int32 → Int32 → Int32 → Option xa_H) (h : xa_H) (l0 : Nat) (l1 : Int32) (l2 : Int32) (l3 : Int32) (l5 : Int32) (s0 : Int32) : Option xa_H :=
  (gR [11] 11 h l0).bind fun x1 =>
  (gR [6] 5 h x1).bind fun x2 =>
  (aR 5 h x2 l1).bind fun x3 =>
  if s0 = 0 then
    f_X11_foretell_b94 k17 h l0 l1 l2 l3 s0 l5 (-1000000 : Int32) l5 x3
  else
    (gR [11] 8 h l0).bind fun x5 =>
    (f_X0_debt h x5 l2 l3).bind fun q6 =>
    f_X11_foretell_b94 k17 h l0 l1 l2 l3 s0 l5 q6 l5 x3
set_option maxRecDepth 20000 in
theorem e_X11_foretell_b62 {G : xa_G} {k17 : xa_H → Nat → Int32 → Int32 → Int32 → Int32 → Int32 → Option xa_H} (hk17 : ∀ (h : xa_H) (l0 : Nat) (l1 : Int32) (l2 : Int32) (l3 : Int32) (l4 : Int32) (l5 : Int32) (r : xa_H), k17 h l0 l1 l2 l3 l4 l5 = some r → xa_V G M_X11_foretell 4 17 [some (.ref l0), some (.int l1), some (.int l2), some (.int l3), some (.int l4), some (.int l5)] [] h none r) : ∀ (h : xa_H) (l0 : Nat) (l1 : Int32) (l2 : Int32) (l3 : Int32) (l5 : Int32) (s0 : Int32) (r : xa_H), f_X11_foretell_b62 k17 h l0 l1 l2 l3 l5 s0 = some r → xa_V G M_X11_foretell 4 62 [some (.ref l0), some (.int l1), some (.int l2), some (.int l3), none, some (.int l5)] [.int s0] h none r := by
  intro h l0 l1 l2 l3 l5 s0 r hf
  unfold f_X11_foretell_b62 at hf
  refine v_istore dX11_foretell_62 (Nat.le_of_ble_eq_true rfl) (loc' := [some (.ref l0), some (.int l1), some (.int l2), some (.int l3), some (.int s0), some (.int l5)]) rfl ?_
  refine v_aload_n dX11_foretell_64 rfl ?_
  obtain ⟨x1, ex1, hf⟩ := ob hf
  refine v_getR dX11_foretell_65 fl_11_76 ex1 ?_
  obtain ⟨x2, ex2, hf⟩ := ob hf
  refine v_getR dX11_foretell_68 fl_11_351 ex2 ?_
  refine v_iload_n dX11_foretell_71 rfl ?_
  obtain ⟨x3, ex3, hf⟩ := ob hf
  refine v_aaload dX11_foretell_72 (t := 5) (by decide) ex3 ?_
  refine v_iload dX11_foretell_73 rfl ?_
  refine v_iload dX11_foretell_75 rfl ?_
  refine v_if_eq dX11_foretell_77 (tgt := 92) (by decide) (fun c4 => ?_) (fun c4 => ?_)
  · replace hf := (if_pos c4).symm.trans hf
    refine v_ldc dX11_foretell_92 rfl co_11_220 ?_
    exact e_X11_foretell_b94 hk17 h l0 l1 l2 l3 s0 l5 (-1000000 : Int32) l5 x3 r hf
  · replace hf := (if_neg c4).symm.trans hf
    refine v_aload_n dX11_foretell_80 rfl ?_
    obtain ⟨x5, ex5, hf⟩ := ob hf
    refine v_getR dX11_foretell_81 fl_11_56 ex5 ?_
    refine v_iload_n dX11_foretell_84 rfl ?_
    refine v_iload_n dX11_foretell_85 rfl ?_
    obtain ⟨q6, eq6, hf⟩ := ob hf
    refine v_callV dX11_foretell_86 ⟨cb_X0_debt, ml_11_217, im_X0_debt⟩ se_0_X0_debt (ckf_X0_debt eq6) (ev_X0_debt eq6) (by decide) (As := [.int l2, .int l3]) rfl (st := [.int l5, .ref x3]) rfl (Nat.le_of_ble_eq_true rfl) rfl ?_
    refine v_goto dX11_foretell_89 (tgt := 94) (by decide) ?_
    exact e_X11_foretell_b94 hk17 h l0 l1 l2 l3 s0 l5 q6 l5 x3 r hf
def f_X11_foretell_b61 (k17 : xa_H → Nat → Int32 → Int32 → Int32 → Int32 → Int32 → Option xa_H) (h : xa_H) (l0 : Nat) (l1 : Int32) (l2 : Int32) (l3 : Int32) (l5 : Int32) : Option xa_H :=
  f_X11_foretell_b62 k17 h l0 l1 l2 l3 l5 (0 : Int32)
set_option maxRecDepth 20000 in
theorem e_X11_foretell_b61 {G : xa_G} {k17 : xa_H → Nat → Int32 → Int32 → Int32 → Int32 → Int32 → Option xa_H} (hk17 : ∀ (h : xa_H) (l0 : Nat) (l1 : Int32) (l2 : Int32) (l3 : Int32) (l4 : Int32) (l5 : Int32) (r : xa_H), k17 h l0 l1 l2 l3 l4 l5 = some r → xa_V G M_X11_foretell 4 17 [some (.ref l0), some (.int l1), some (.int l2), some (.int l3), some (.int l4), some (.int l5)] [] h none r) : ∀ (h : xa_H) (l0 : Nat) (l1 : Int32) (l2 : Int32) (l3 : Int32) (l5 : Int32) (r : xa_H), f_X11_foretell_b61 k17 h l0 l1 l2 l3 l5 = some r → xa_V G M_X11_foretell 4 61 [some (.ref l0), some (.int l1), some (.int l2), some (.int l3), none, some (.int l5)] [] h none r := by
  intro h l0 l1 l2 l3 l5 r hf
  unfold f_X11_foretell_b61 at hf
  refine v_iconst dX11_foretell_61 (by decide) (v := 0) ?_
  exact e_X11_foretell_b62 hk17 h l0 l1 l2 l3 l5 (0 : Int32) r hf
def f_X11_foretell_b17 : Nat → xa_H → Nat → Int32 → Int32 → Int32 → Int32 → Int32 → Option xa_H
  | 0, _, _, _, _, _, _, _ => none
  | n + 1, h, l0, l1, l2, l3, l4, l5 =>
    if (9 : Int32) < l5 then
      some h
    else
      if l4 = 0 then
        f_X11_foretell_b61 (fun h l0 l1 l2 l3 l4 l5 => f_X11_foretell_b17 n h l0 l1 l2 l3 l4 l5) h l0 l1 l2 l3 l5
      else
        (gR [11] 8 h l0).bind fun x3 =>
        (gR [11] 5 h l0).bind fun x4 =>
        (gR [5] 0 h x4).bind fun x5 =>
        (aR 5 h x5 l1).bind fun x6 =>
        (gR [11] 5 h l0).bind fun x7 =>
        (gR [5] 1 h x7).bind fun x8 =>
        (aI h x8 l1).bind fun x9 =>
        (f_X0_follow h x3 x6 x9).bind fun q10 =>
        if q10.1 = 0 then
          f_X11_foretell_b61 (fun h l0 l1 l2 l3 l4 l5 => f_X11_foretell_b17 n h l0 l1 l2 l3 l4 l5) q10.2 l0 l1 l2 l3 l5
        else
          f_X11_foretell_b62 (fun h l0 l1 l2 l3 l4 l5 => f_X11_foretell_b17 n h l0 l1 l2 l3 l4 l5) q10.2 l0 l1 l2 l3 l5 (1 : Int32)
set_option maxRecDepth 20000 in
theorem e_X11_foretell_b17 {G : xa_G} : ∀ (n : Nat) (h : xa_H) (l0 : Nat) (l1 : Int32) (l2 : Int32) (l3 : Int32) (l4 : Int32) (l5 : Int32) (r : xa_H), f_X11_foretell_b17 n h l0 l1 l2 l3 l4 l5 = some r → xa_V G M_X11_foretell 4 17 [some (.ref l0), some (.int l1), some (.int l2), some (.int l3), some (.int l4), some (.int l5)] [] h none r := by
  intro n
  induction n with
  | zero =>
    intro h l0 l1 l2 l3 l4 l5 r hf
    cases (show (none : Option xa_H) = some r from hf)
  | succ n ih =>
    intro h l0 l1 l2 l3 l4 l5 r hf
    rw [f_X11_foretell_b17] at hf
    refine v_iload dX11_foretell_17 rfl ?_
    refine v_bipush dX11_foretell_19 (by decide) (v := 9) ?_
    refine v_icmp_gt dX11_foretell_21 (tgt := 101) (by decide) (fun c1 => ?_) (fun c1 => ?_)
    · replace hf := (if_pos c1).symm.trans hf
      replace hf := Option.some.inj hf
      subst hf
      exact v_vret dX11_foretell_101 rfl
    · replace hf := (if_neg c1).symm.trans hf
      refine v_iload dX11_foretell_24 rfl ?_
      refine v_if_eq dX11_foretell_26 (tgt := 61) (by decide) (fun c2 => ?_) (fun c2 => ?_)
      · replace hf := (if_pos c2).symm.trans hf
        exact xa_weak (loc := [some (.ref l0), some (.int l1), some (.int l2), some (.int l3), none, some (.int l5)]) ⟨rfl, ⟨rfl, ⟨rfl, ⟨rfl, ⟨rfl, trivial⟩⟩⟩⟩⟩ (e_X11_foretell_b61 ih h l0 l1 l2 l3 l5 r hf)
      · replace hf := (if_neg c2).symm.trans hf
        refine v_aload_n dX11_foretell_29 rfl ?_
        obtain ⟨x3, ex3, hf⟩ := ob hf
        refine v_getR dX11_foretell_30 fl_11_56 ex3 ?_
        refine v_aload_n dX11_foretell_33 rfl ?_
        obtain ⟨x4, ex4, hf⟩ := ob hf
        refine v_getR dX11_foretell_34 fl_11_43 ex4 ?_
        obtain ⟨x5, ex5, hf⟩ := ob hf
        refine v_getR dX11_foretell_37 fl_11_198 ex5 ?_
        refine v_iload_n dX11_foretell_40 rfl ?_
        obtain ⟨x6, ex6, hf⟩ := ob hf
        refine v_aaload dX11_foretell_41 (t := 5) (by decide) ex6 ?_
        refine v_aload_n dX11_foretell_42 rfl ?_
        obtain ⟨x7, ex7, hf⟩ := ob hf
        refine v_getR dX11_foretell_43 fl_11_43 ex7 ?_
        obtain ⟨x8, ex8, hf⟩ := ob hf
        refine v_getR dX11_foretell_46 fl_11_202 ex8 ?_
        refine v_iload_n dX11_foretell_49 rfl ?_
        obtain ⟨x9, ex9, hf⟩ := ob hf
        refine v_ialoadI dX11_foretell_50 ex9 ?_
        obtain ⟨q10, eq10, hf⟩ := ob hf
        refine v_callV dX11_foretell_51 ⟨cb_X0_follow, ml_11_298, im_X0_follow⟩ se_0_X0_follow (ckf_X0_follow eq10) (ev_X0_follow eq10) (by decide) (As := [.ref x6, .int x9]) rfl (st := []) rfl (Nat.le_of_ble_eq_true rfl) rfl ?_
        refine v_if_eq dX11_foretell_54 (tgt := 61) (by decide) (fun c11 => ?_) (fun c11 => ?_)
        · replace hf := (if_pos c11).symm.trans hf
          exact xa_weak (loc := [some (.ref l0), some (.int l1), some (.int l2), some (.int l3), none, some (.int l5)]) ⟨rfl, ⟨rfl, ⟨rfl, ⟨rfl, ⟨rfl, trivial⟩⟩⟩⟩⟩ (e_X11_foretell_b61 ih q10.2 l0 l1 l2 l3 l5 r hf)
        · replace hf := (if_neg c11).symm.trans hf
          refine v_iconst dX11_foretell_57 (by decide) (v := 1) ?_
          refine v_goto dX11_foretell_58 (tgt := 62) (by decide) ?_
          exact xa_weak (loc := [some (.ref l0), some (.int l1), some (.int l2), some (.int l3), none, some (.int l5)]) ⟨rfl, ⟨rfl, ⟨rfl, ⟨rfl, ⟨rfl, trivial⟩⟩⟩⟩⟩ (e_X11_foretell_b62 ih q10.2 l0 l1 l2 l3 l5 (1 : Int32) r hf)
def f_X11_foretell (h : xa_H) (l0 : Nat) (l1 : Int32) (l2 : Int32) (l3 : Int32) : Option xa_H :=
  (ck [11] h l0).bind fun _ =>
  (gR [11] 8 h l0).bind fun x1 =>
  (gR [11] 7 h l0).bind fun x2 =>
  (f_X0_become h x1 x2).bind fun q3 =>
  f_X11_foretell_b17 1048576 q3 l0 l1 l2 l3 (1 : Int32) (1 : Int32)
set_option maxRecDepth 20000 in
theorem ev_X11_foretell {G : xa_G} {h : xa_H} {l0 : Nat} {l1 : Int32} {l2 : Int32} {l3 : Int32} {r : xa_H} (hf : f_X11_foretell h l0 l1 l2 l3 = some r) : xa_Ev G M_X11_foretell 4 [.ref l0, .int l1, .int l2, .int l3] h none r := by
  refine xa_entry (by decide +kernel) (loc := [some (.ref l0), some (.int l1), some (.int l2), some (.int l3), none, none]) rfl (Nat.le_of_ble_eq_true rfl) ?_
  unfold f_X11_foretell at hf
  obtain ⟨u0, eu0, hf⟩ := ob hf
  refine v_aload_n dX11_foretell_0 rfl ?_
  obtain ⟨x1, ex1, hf⟩ := ob hf
  refine v_getR dX11_foretell_1 fl_11_56 ex1 ?_
  refine v_aload_n dX11_foretell_4 rfl ?_
  obtain ⟨x2, ex2, hf⟩ := ob hf
  refine v_getR dX11_foretell_5 fl_11_53 ex2 ?_
  obtain ⟨q3, eq3, hf⟩ := ob hf
  refine v_callV dX11_foretell_8 ⟨cb_X0_become, ml_11_142, im_X0_become⟩ se_0_X0_become (ckf_X0_become eq3) (ev_X0_become eq3) (by decide) (As := [.ref x2]) rfl (st := []) rfl (Nat.le_of_ble_eq_true rfl) rfl ?_
  refine v_iconst dX11_foretell_11 (by decide) (v := 1) ?_
  refine v_istore dX11_foretell_12 (Nat.le_of_ble_eq_true rfl) (loc' := [some (.ref l0), some (.int l1), some (.int l2), some (.int l3), some (.int (1 : Int32)), none]) rfl ?_
  refine v_iconst dX11_foretell_14 (by decide) (v := 1) ?_
  refine v_istore dX11_foretell_15 (Nat.le_of_ble_eq_true rfl) (loc' := [some (.ref l0), some (.int l1), some (.int l2), some (.int l3), some (.int (1 : Int32)), some (.int (1 : Int32))]) rfl ?_
  exact e_X11_foretell_b17 1048576 q3 l0 l1 l2 l3 (1 : Int32) (1 : Int32) r hf
theorem ckf_X11_foretell {h : xa_H} {l0 : Nat} {l1 : Int32} {l2 : Int32} {l3 : Int32} {r : xa_H} (hf : f_X11_foretell h l0 l1 l2 l3 = some r) : ck [11] h l0 = some () := by
  obtain ⟨u, e, -⟩ := ob hf
  exact e
def M_X11_ask : xa_M := (yX11_ask, cX11_ask, 8, some .int)
theorem cb_X11_ask : xa_CB M_X11_ask 2 := ⟨gws_at 1110 (by decide +kernel) rfl, gws_at 109 (by decide +kernel) rfl, by decide +kernel, Nat.le_of_ble_eq_true rfl⟩
def f_X11_ask_b112 (k78 : xa_H → Nat → Int32 → Int32 → Int32 → Int32 → Option (Int32 × xa_H)) (h : xa_H) (l0 : Nat) (l3 : Int32) (l4 : Int32) (l5 : Int32) (l6 : Int32) : Option (Int32 × xa_H) :=
  k78 h l0 l3 l4 l5 (l6 + (1 : Int32))
set_option maxRecDepth 20000 in
theorem e_X11_ask_b112 {G : xa_G} {k78 : xa_H → Nat → Int32 → Int32 → Int32 → Int32 → Option (Int32 × xa_H)} (hk78 : ∀ (h : xa_H) (l0 : Nat) (l3 : Int32) (l4 : Int32) (l5 : Int32) (l6 : Int32) (r : (Int32 × xa_H)), k78 h l0 l3 l4 l5 l6 = some r → xa_V G M_X11_ask 6 78 [some (.ref l0), none, none, some (.int l3), some (.int l4), some (.int l5), some (.int l6), none] [] h (some (.int r.1)) r.2) : ∀ (h : xa_H) (l0 : Nat) (l3 : Int32) (l4 : Int32) (l5 : Int32) (l6 : Int32) (r : (Int32 × xa_H)), f_X11_ask_b112 k78 h l0 l3 l4 l5 l6 = some r → xa_V G M_X11_ask 6 112 [some (.ref l0), none, none, some (.int l3), some (.int l4), some (.int l5), some (.int l6), none] [] h (some (.int r.1)) r.2 := by
  intro h l0 l3 l4 l5 l6 r hf
  unfold f_X11_ask_b112 at hf
  refine v_iinc dX11_ask_112 rfl (v := (l6 + (1 : Int32))) rfl (Nat.le_of_ble_eq_true rfl) (loc' := [some (.ref l0), none, none, some (.int l3), some (.int l4), some (.int l5), some (.int (l6 + (1 : Int32))), none]) rfl ?_
  refine v_goto dX11_ask_115 (tgt := 78) (by decide) ?_
  exact hk78 h l0 l3 l4 l5 (l6 + (1 : Int32)) r hf
def f_X11_ask_b78 : Nat → xa_H → Nat → Int32 → Int32 → Int32 → Int32 → Option (Int32 × xa_H)
  | 0, _, _, _, _, _, _ => none
  | n + 1, h, l0, l3, l4, l5, l6 =>
    if (9 : Int32) < l6 then
      some (l4, h)
    else
      (gR [11] 11 h l0).bind fun x2 =>
      (f_X6_mostAlike h x2 l3 l6).bind fun q3 =>
      if l5 ≤ q3 then
        f_X11_ask_b112 (fun h l0 l3 l4 l5 l6 => f_X11_ask_b78 n h l0 l3 l4 l5 l6) h l0 l3 l4 l5 l6
      else
        f_X11_ask_b112 (fun h l0 l3 l4 l5 l6 => f_X11_ask_b78 n h l0 l3 l4 l5 l6) h l0 l3 l6 q3 l6
set_option maxRecDepth 20000 in
theorem e_X11_ask_b78 {G : xa_G} : ∀ (n : Nat) (h : xa_H) (l0 : Nat) (l3 : Int32) (l4 : Int32) (l5 : Int32) (l6 : Int32) (r : (Int32 × xa_H)), f_X11_ask_b78 n h l0 l3 l4 l5 l6 = some r → xa_V G M_X11_ask 6 78 [some (.ref l0), none, none, some (.int l3), some (.int l4), some (.int l5), some (.int l6), none] [] h (some (.int r.1)) r.2 := by
  intro n
  induction n with
  | zero =>
    intro h l0 l3 l4 l5 l6 r hf
    cases (show (none : Option (Int32 × xa_H)) = some r from hf)
  | succ n ih =>
    intro h l0 l3 l4 l5 l6 r hf
    rw [f_X11_ask_b78] at hf
    refine v_iload dX11_ask_78 rfl ?_
    refine v_bipush dX11_ask_80 (by decide) (v := 9) ?_
    refine v_icmp_gt dX11_ask_82 (tgt := 118) (by decide) (fun c1 => ?_) (fun c1 => ?_)
    · replace hf := (if_pos c1).symm.trans hf
      refine v_iload dX11_ask_118 rfl ?_
      replace hf := Option.some.inj hf
      subst hf
      exact v_iret dX11_ask_120 rfl
    · replace hf := (if_neg c1).symm.trans hf
      refine v_aload_n dX11_ask_85 rfl ?_
      obtain ⟨x2, ex2, hf⟩ := ob hf
      refine v_getR dX11_ask_86 fl_11_76 ex2 ?_
      refine v_iload_n dX11_ask_89 rfl ?_
      refine v_iload dX11_ask_90 rfl ?_
      obtain ⟨q3, eq3, hf⟩ := ob hf
      refine v_callV dX11_ask_92 ⟨cb_X6_mostAlike, ml_11_348, im_X6_mostAlike⟩ se_6_X6_mostAlike (ckf_X6_mostAlike eq3) (ev_X6_mostAlike eq3) (by decide) (As := [.int l3, .int l6]) rfl (st := []) rfl (Nat.le_of_ble_eq_true rfl) rfl ?_
      refine v_istore dX11_ask_95 (Nat.le_of_ble_eq_true rfl) (loc' := [some (.ref l0), none, none, some (.int l3), some (.int l4), some (.int l5), some (.int l6), some (.int q3)]) rfl ?_
      refine v_iload dX11_ask_97 rfl ?_
      refine v_iload dX11_ask_99 rfl ?_
      refine v_icmp_ge dX11_ask_101 (tgt := 112) (by decide) (fun c4 => ?_) (fun c4 => ?_)
      · replace hf := (if_pos c4).symm.trans hf
        exact xa_weak (loc := [some (.ref l0), none, none, some (.int l3), some (.int l4), some (.int l5), some (.int l6), none]) ⟨rfl, ⟨rfl, ⟨rfl, ⟨rfl, ⟨rfl, trivial⟩⟩⟩⟩⟩ (e_X11_ask_b112 ih h l0 l3 l4 l5 l6 r hf)
      · replace hf := (if_neg c4).symm.trans hf
        refine v_iload dX11_ask_104 rfl ?_
        refine v_istore dX11_ask_106 (Nat.le_of_ble_eq_true rfl) (loc' := [some (.ref l0), none, none, some (.int l3), some (.int l4), some (.int q3), some (.int l6), some (.int q3)]) rfl ?_
        refine v_iload dX11_ask_108 rfl ?_
        refine v_istore dX11_ask_110 (Nat.le_of_ble_eq_true rfl) (loc' := [some (.ref l0), none, none, some (.int l3), some (.int l6), some (.int q3), some (.int l6), some (.int q3)]) rfl ?_
        exact xa_weak (loc := [some (.ref l0), none, none, some (.int l3), some (.int l6), some (.int q3), some (.int l6), none]) ⟨rfl, ⟨rfl, ⟨rfl, ⟨rfl, ⟨rfl, trivial⟩⟩⟩⟩⟩ (e_X11_ask_b112 ih h l0 l3 l6 q3 l6 r hf)
def f_X11_ask_b43 : Nat → xa_H → Nat → Int32 → Int32 → Int32 → Int32 → Option (Int32 × xa_H)
  | 0, _, _, _, _, _, _ => none
  | n + 1, h, l0, l1, l2, l3, l4 =>
    (gR [11] 5 h l0).bind fun x1 =>
    (gI [5] 3 h x1).bind fun x2 =>
    if x2 ≤ l4 then
      f_X11_ask_b78 1048576 h l0 l3 (-1 : Int32) (5 : Int32) (1 : Int32)
    else
      (f_X11_foretell h l0 l4 l1 l2).bind fun q4 =>
      f_X11_ask_b43 n q4 l0 l1 l2 l3 (l4 + (1 : Int32))
set_option maxRecDepth 20000 in
theorem e_X11_ask_b43 {G : xa_G} : ∀ (n : Nat) (h : xa_H) (l0 : Nat) (l1 : Int32) (l2 : Int32) (l3 : Int32) (l4 : Int32) (r : (Int32 × xa_H)), f_X11_ask_b43 n h l0 l1 l2 l3 l4 = some r → xa_V G M_X11_ask 6 43 [some (.ref l0), some (.int l1), some (.int l2), some (.int l3), some (.int l4), none, none, none] [] h (some (.int r.1)) r.2 := by
  intro n
  induction n with
  | zero =>
    intro h l0 l1 l2 l3 l4 r hf
    cases (show (none : Option (Int32 × xa_H)) = some r from hf)
  | succ n ih =>
    intro h l0 l1 l2 l3 l4 r hf
    rw [f_X11_ask_b43] at hf
    refine v_iload dX11_ask_43 rfl ?_
    refine v_aload_n dX11_ask_45 rfl ?_
    obtain ⟨x1, ex1, hf⟩ := ob hf
    refine v_getR dX11_ask_46 fl_11_43 ex1 ?_
    obtain ⟨x2, ex2, hf⟩ := ob hf
    refine v_getI dX11_ask_49 fl_11_191 ex2 ?_
    refine v_icmp_ge dX11_ask_52 (tgt := 69) (by decide) (fun c3 => ?_) (fun c3 => ?_)
    · replace hf := (if_pos c3).symm.trans hf
      refine v_iconst dX11_ask_69 (by decide) (v := -1) ?_
      refine v_istore dX11_ask_70 (Nat.le_of_ble_eq_true rfl) (loc' := [some (.ref l0), some (.int l1), some (.int l2), some (.int l3), some (.int (-1 : Int32)), none, none, none]) rfl ?_
      refine v_iconst dX11_ask_72 (by decide) (v := 5) ?_
      refine v_istore dX11_ask_73 (Nat.le_of_ble_eq_true rfl) (loc' := [some (.ref l0), some (.int l1), some (.int l2), some (.int l3), some (.int (-1 : Int32)), some (.int (5 : Int32)), none, none]) rfl ?_
      refine v_iconst dX11_ask_75 (by decide) (v := 1) ?_
      refine v_istore dX11_ask_76 (Nat.le_of_ble_eq_true rfl) (loc' := [some (.ref l0), some (.int l1), some (.int l2), some (.int l3), some (.int (-1 : Int32)), some (.int (5 : Int32)), some (.int (1 : Int32)), none]) rfl ?_
      exact xa_weak (loc := [some (.ref l0), none, none, some (.int l3), some (.int (-1 : Int32)), some (.int (5 : Int32)), some (.int (1 : Int32)), none]) ⟨rfl, ⟨rfl, ⟨rfl, ⟨rfl, ⟨rfl, trivial⟩⟩⟩⟩⟩ (e_X11_ask_b78 1048576 h l0 l3 (-1 : Int32) (5 : Int32) (1 : Int32) r hf)
    · replace hf := (if_neg c3).symm.trans hf
      refine v_aload_n dX11_ask_55 rfl ?_
      refine v_iload dX11_ask_56 rfl ?_
      refine v_iload_n dX11_ask_58 rfl ?_
      refine v_iload_n dX11_ask_59 rfl ?_
      obtain ⟨q4, eq4, hf⟩ := ob hf
      refine v_callV dX11_ask_60 ⟨cb_X11_foretell, ml_11_345, im_X11_foretell⟩ se_11_X11_foretell (ckf_X11_foretell eq4) (ev_X11_foretell eq4) (by decide) (As := [.int l4, .int l1, .int l2]) rfl (st := []) rfl (Nat.le_of_ble_eq_true rfl) rfl ?_
      refine v_iinc dX11_ask_63 rfl (v := (l4 + (1 : Int32))) rfl (Nat.le_of_ble_eq_true rfl) (loc' := [some (.ref l0), some (.int l1), some (.int l2), some (.int l3), some (.int (l4 + (1 : Int32))), none, none, none]) rfl ?_
      refine v_goto dX11_ask_66 (tgt := 43) (by decide) ?_
      exact ih q4 l0 l1 l2 l3 (l4 + (1 : Int32)) r hf
def f_X11_ask (h : xa_H) (l0 : Nat) (l1 : Int32) (l2 : Int32) : Option (Int32 × xa_H) :=
  (ck [11] h l0).bind fun _ =>
  (gR [11] 6 h l0).bind fun x1 =>
  (f_X0_has h x1 l1).bind fun q2 =>
  if q2 = 0 then
    some ((-1 : Int32), h)
  else
    (gR [11] 6 h l0).bind fun x4 =>
    (f_X0_has h x4 l2).bind fun q5 =>
    if q5 = 0 then
      some ((-1 : Int32), h)
    else
      if l1 = l2 then
        some ((-1 : Int32), h)
      else
        (f_X11_fits h l0).bind fun q8 =>
        if 0 < q8.1 then
          f_X11_ask_b43 1048576 q8.2 l0 l1 l2 q8.1 (0 : Int32)
        else
          some ((-1 : Int32), q8.2)
set_option maxRecDepth 20000 in
theorem ev_X11_ask {G : xa_G} {h : xa_H} {l0 : Nat} {l1 : Int32} {l2 : Int32} {r : (Int32 × xa_H)} (hf : f_X11_ask h l0 l1 l2 = some r) : xa_Ev G M_X11_ask 6 [.ref l0, .int l1, .int l2] h (some (.int r.1)) r.2 := by
  refine xa_entry (by decide +kernel) (loc := [some (.ref l0), some (.int l1), some (.int l2), none, none, none, none, none]) rfl (Nat.le_of_ble_eq_true rfl) ?_
  unfold f_X11_ask at hf
  obtain ⟨u0, eu0, hf⟩ := ob hf
  refine v_aload_n dX11_ask_0 rfl ?_
  obtain ⟨x1, ex1, hf⟩ := ob hf
  refine v_getR dX11_ask_1 fl_11_49 ex1 ?_
  refine v_iload_n dX11_ask_4 rfl ?_
  obtain ⟨q2, eq2, hf⟩ := ob hf
  refine v_callV dX11_ask_5 ⟨cb_X0_has, ml_11_157, im_X0_has⟩ se_0_X0_has (ckf_X0_has eq2) (ev_X0_has eq2) (by decide) (As := [.int l1]) rfl (st := []) rfl (Nat.le_of_ble_eq_true rfl) rfl ?_
  refine v_if_eq dX11_ask_8 (tgt := 27) (by decide) (fun c3 => ?_) (fun c3 => ?_)
  · replace hf := (if_pos c3).symm.trans hf
    refine v_iconst dX11_ask_27 (by decide) (v := -1) ?_
    replace hf := Option.some.inj hf
    subst hf
    exact v_iret dX11_ask_28 rfl
  · replace hf := (if_neg c3).symm.trans hf
    refine v_aload_n dX11_ask_11 rfl ?_
    obtain ⟨x4, ex4, hf⟩ := ob hf
    refine v_getR dX11_ask_12 fl_11_49 ex4 ?_
    refine v_iload_n dX11_ask_15 rfl ?_
    obtain ⟨q5, eq5, hf⟩ := ob hf
    refine v_callV dX11_ask_16 ⟨cb_X0_has, ml_11_157, im_X0_has⟩ se_0_X0_has (ckf_X0_has eq5) (ev_X0_has eq5) (by decide) (As := [.int l2]) rfl (st := []) rfl (Nat.le_of_ble_eq_true rfl) rfl ?_
    refine v_if_eq dX11_ask_19 (tgt := 27) (by decide) (fun c6 => ?_) (fun c6 => ?_)
    · replace hf := (if_pos c6).symm.trans hf
      refine v_iconst dX11_ask_27 (by decide) (v := -1) ?_
      replace hf := Option.some.inj hf
      subst hf
      exact v_iret dX11_ask_28 rfl
    · replace hf := (if_neg c6).symm.trans hf
      refine v_iload_n dX11_ask_22 rfl ?_
      refine v_iload_n dX11_ask_23 rfl ?_
      refine v_icmp_ne dX11_ask_24 (tgt := 29) (by decide) (fun c7 => ?_) (fun c7 => ?_)
      · replace hf := (if_neg c7).symm.trans hf
        refine v_aload_n dX11_ask_29 rfl ?_
        obtain ⟨q8, eq8, hf⟩ := ob hf
        refine v_callV dX11_ask_30 ⟨cb_X11_fits, ml_11_342, im_X11_fits⟩ se_11_X11_fits (ckf_X11_fits eq8) (ev_X11_fits eq8) (by decide) (As := []) rfl (st := []) rfl (Nat.le_of_ble_eq_true rfl) rfl ?_
        refine v_istore_n (i := 3) rfl dX11_ask_33 (Nat.le_of_ble_eq_true rfl) (loc' := [some (.ref l0), some (.int l1), some (.int l2), some (.int q8.1), none, none, none, none]) rfl ?_
        refine v_iload_n dX11_ask_34 rfl ?_
        refine v_if_gt dX11_ask_35 (tgt := 40) (by decide) (fun c9 => ?_) (fun c9 => ?_)
        · replace hf := (if_pos c9).symm.trans hf
          refine v_iconst dX11_ask_40 (by decide) (v := 0) ?_
          refine v_istore dX11_ask_41 (Nat.le_of_ble_eq_true rfl) (loc' := [some (.ref l0), some (.int l1), some (.int l2), some (.int q8.1), some (.int (0 : Int32)), none, none, none]) rfl ?_
          exact e_X11_ask_b43 1048576 q8.2 l0 l1 l2 q8.1 (0 : Int32) r hf
        · replace hf := (if_neg c9).symm.trans hf
          refine v_iconst dX11_ask_38 (by decide) (v := -1) ?_
          replace hf := Option.some.inj hf
          subst hf
          exact v_iret dX11_ask_39 rfl
      · replace hf := (if_pos c7).symm.trans hf
        refine v_iconst dX11_ask_27 (by decide) (v := -1) ?_
        replace hf := Option.some.inj hf
        subst hf
        exact v_iret dX11_ask_28 rfl
theorem ckf_X11_ask {h : xa_H} {l0 : Nat} {l1 : Int32} {l2 : Int32} {r : (Int32 × xa_H)} (hf : f_X11_ask h l0 l1 l2 = some r) : ck [11] h l0 = some () := by
  obtain ⟨u, e, -⟩ := ob hf
  exact e
def M_X11_back : xa_M := (yX11_back, cX11_back, 1, some .int)
theorem cb_X11_back : xa_CB M_X11_back 0 := ⟨gws_at 1204 (by decide +kernel) rfl, gws_at 109 (by decide +kernel) rfl, by decide +kernel, Nat.le_of_ble_eq_true rfl⟩
def f_X11_back (h : xa_H) (l0 : Nat) : Option (Int32 × xa_H) :=
  (ck [11] h l0).bind fun _ =>
  (gR [11] 10 h l0).bind fun x1 =>
  (gR [11] 6 h l0).bind fun x2 =>
  (gR [11] 9 h l0).bind fun x3 =>
  (f_X3_bringBack h x1 x2 x3).bind fun q4 =>
  if q4.1 = 0 then
    some ((-1 : Int32), q4.2)
  else
    (gR [11] 6 q4.2 l0).bind fun x6 =>
    (gI [0] 8 q4.2 x6).bind fun x7 =>
    some (x7, q4.2)
set_option maxRecDepth 20000 in
theorem ev_X11_back {G : xa_G} {h : xa_H} {l0 : Nat} {r : (Int32 × xa_H)} (hf : f_X11_back h l0 = some r) : xa_Ev G M_X11_back 3 [.ref l0] h (some (.int r.1)) r.2 := by
  refine xa_entry (by decide +kernel) (loc := [some (.ref l0)]) rfl (Nat.le_of_ble_eq_true rfl) ?_
  unfold f_X11_back at hf
  obtain ⟨u0, eu0, hf⟩ := ob hf
  refine v_aload_n dX11_back_0 rfl ?_
  obtain ⟨x1, ex1, hf⟩ := ob hf
  refine v_getR dX11_back_1 fl_11_69 ex1 ?_
  refine v_aload_n dX11_back_4 rfl ?_
  obtain ⟨x2, ex2, hf⟩ := ob hf
  refine v_getR dX11_back_5 fl_11_49 ex2 ?_
  refine v_aload_n dX11_back_8 rfl ?_
  obtain ⟨x3, ex3, hf⟩ := ob hf
  refine v_getR dX11_back_9 fl_11_62 ex3 ?_
  obtain ⟨q4, eq4, hf⟩ := ob hf
  refine v_callV dX11_back_12 ⟨cb_X3_bringBack, ml_11_388, im_X3_bringBack⟩ se_3_X3_bringBack (ckf_X3_bringBack eq4) (ev_X3_bringBack eq4) (by decide) (As := [.ref x2, .ref x3]) rfl (st := []) rfl (Nat.le_of_ble_eq_true rfl) rfl ?_
  refine v_if_eq dX11_back_15 (tgt := 28) (by decide) (fun c5 => ?_) (fun c5 => ?_)
  · replace hf := (if_pos c5).symm.trans hf
    refine v_iconst dX11_back_28 (by decide) (v := -1) ?_
    replace hf := Option.some.inj hf
    subst hf
    exact v_iret dX11_back_29 rfl
  · replace hf := (if_neg c5).symm.trans hf
    refine v_aload_n dX11_back_18 rfl ?_
    obtain ⟨x6, ex6, hf⟩ := ob hf
    refine v_getR dX11_back_19 fl_11_49 ex6 ?_
    obtain ⟨x7, ex7, hf⟩ := ob hf
    refine v_getI dX11_back_22 fl_11_195 ex7 ?_
    refine v_goto dX11_back_25 (tgt := 29) (by decide) ?_
    replace hf := Option.some.inj hf
    subst hf
    exact v_iret dX11_back_29 rfl
theorem ckf_X11_back {h : xa_H} {l0 : Nat} {r : (Int32 × xa_H)} (hf : f_X11_back h l0 = some r) : ck [11] h l0 = some () := by
  obtain ⟨u, e, -⟩ := ob hf
  exact e
def M_X11_bytesIn : xa_M := (yX11_bytesIn, cX11_bytesIn, 3, some .int)
theorem cb_X11_bytesIn : xa_CB M_X11_bytesIn 1 := ⟨gws_at 535 (by decide +kernel) rfl, gws_at 109 (by decide +kernel) rfl, by decide +kernel, Nat.le_of_ble_eq_true rfl⟩
def f_X11_bytesIn_b22 (k5 : xa_H → Int32 → Int32 → Int32 → Option Int32) (h : xa_H) (l0 : Int32) (l1 : Int32) (l2 : Int32) : Option Int32 :=
  k5 h l0 l1 (l2 + (-8 : Int32))
set_option maxRecDepth 20000 in
theorem e_X11_bytesIn_b22 {G : xa_G} {k5 : xa_H → Int32 → Int32 → Int32 → Option Int32} (hk5 : ∀ (h : xa_H) (l0 : Int32) (l1 : Int32) (l2 : Int32) (r : Int32), k5 h l0 l1 l2 = some r → xa_V G M_X11_bytesIn 0 5 [some (.int l0), some (.int l1), some (.int l2)] [] h (some (.int r)) h) : ∀ (h : xa_H) (l0 : Int32) (l1 : Int32) (l2 : Int32) (r : Int32), f_X11_bytesIn_b22 k5 h l0 l1 l2 = some r → xa_V G M_X11_bytesIn 0 22 [some (.int l0), some (.int l1), some (.int l2)] [] h (some (.int r)) h := by
  intro h l0 l1 l2 r hf
  unfold f_X11_bytesIn_b22 at hf
  refine v_iinc dX11_bytesIn_22 rfl (v := (l2 + (-8 : Int32))) rfl (Nat.le_of_ble_eq_true rfl) (loc' := [some (.int l0), some (.int l1), some (.int (l2 + (-8 : Int32)))]) rfl ?_
  refine v_goto dX11_bytesIn_25 (tgt := 5) (by decide) ?_
  exact hk5 h l0 l1 (l2 + (-8 : Int32)) r hf
def f_X11_bytesIn_b5 : Nat → xa_H → Int32 → Int32 → Int32 → Option Int32
  | 0, _, _, _, _ => none
  | n + 1, h, l0, l1, l2 =>
    if l2 < 0 then
      some l1
    else
      if ((ushr l0 l2) &&& (255 : Int32)) = 0 then
        f_X11_bytesIn_b22 (fun h l0 l1 l2 => f_X11_bytesIn_b5 n h l0 l1 l2) h l0 l1 l2
      else
        f_X11_bytesIn_b22 (fun h l0 l1 l2 => f_X11_bytesIn_b5 n h l0 l1 l2) h l0 (l1 + (1 : Int32)) l2
set_option maxRecDepth 20000 in
theorem e_X11_bytesIn_b5 {G : xa_G} : ∀ (n : Nat) (h : xa_H) (l0 : Int32) (l1 : Int32) (l2 : Int32) (r : Int32), f_X11_bytesIn_b5 n h l0 l1 l2 = some r → xa_V G M_X11_bytesIn 0 5 [some (.int l0), some (.int l1), some (.int l2)] [] h (some (.int r)) h := by
  intro n
  induction n with
  | zero =>
    intro h l0 l1 l2 r hf
    cases (show (none : Option Int32) = some r from hf)
  | succ n ih =>
    intro h l0 l1 l2 r hf
    rw [f_X11_bytesIn_b5] at hf
    refine v_iload_n dX11_bytesIn_5 rfl ?_
    refine v_if_lt dX11_bytesIn_6 (tgt := 28) (by decide) (fun c1 => ?_) (fun c1 => ?_)
    · replace hf := (if_pos c1).symm.trans hf
      refine v_iload_n dX11_bytesIn_28 rfl ?_
      replace hf := Option.some.inj hf
      subst hf
      exact v_iret dX11_bytesIn_29 rfl
    · replace hf := (if_neg c1).symm.trans hf
      refine v_iload_n dX11_bytesIn_9 rfl ?_
      refine v_iload_n dX11_bytesIn_10 rfl ?_
      refine w_iushr dX11_bytesIn_11 ?_
      refine v_sipush dX11_bytesIn_12 (by decide) (v := 255) ?_
      refine v_iand dX11_bytesIn_15 ?_
      refine v_if_eq dX11_bytesIn_16 (tgt := 22) (by decide) (fun c2 => ?_) (fun c2 => ?_)
      · replace hf := (if_pos c2).symm.trans hf
        exact e_X11_bytesIn_b22 ih h l0 l1 l2 r hf
      · replace hf := (if_neg c2).symm.trans hf
        refine v_iinc dX11_bytesIn_19 rfl (v := (l1 + (1 : Int32))) rfl (Nat.le_of_ble_eq_true rfl) (loc' := [some (.int l0), some (.int (l1 + (1 : Int32))), some (.int l2)]) rfl ?_
        exact e_X11_bytesIn_b22 ih h l0 (l1 + (1 : Int32)) l2 r hf
def f_X11_bytesIn (h : xa_H) (l0 : Int32) : Option Int32 :=
  f_X11_bytesIn_b5 1048576 h l0 (0 : Int32) (24 : Int32)
set_option maxRecDepth 20000 in
theorem ev_X11_bytesIn {G : xa_G} {h : xa_H} {l0 : Int32} {r : Int32} (hf : f_X11_bytesIn h l0 = some r) : xa_Ev G M_X11_bytesIn 0 [.int l0] h (some (.int r)) h := by
  refine xa_entry (by decide +kernel) (loc := [some (.int l0), none, none]) rfl (Nat.le_of_ble_eq_true rfl) ?_
  unfold f_X11_bytesIn at hf
  refine v_iconst dX11_bytesIn_0 (by decide) (v := 0) ?_
  refine v_istore_n (i := 1) rfl dX11_bytesIn_1 (Nat.le_of_ble_eq_true rfl) (loc' := [some (.int l0), some (.int (0 : Int32)), none]) rfl ?_
  refine v_bipush dX11_bytesIn_2 (by decide) (v := 24) ?_
  refine v_istore_n (i := 2) rfl dX11_bytesIn_4 (Nat.le_of_ble_eq_true rfl) (loc' := [some (.int l0), some (.int (0 : Int32)), some (.int (24 : Int32))]) rfl ?_
  exact e_X11_bytesIn_b5 1048576 h l0 (0 : Int32) (24 : Int32) r hf
def M_X11_placeFits : xa_M := (yX11_placeFits, cX11_placeFits, 4, some .boolean)
theorem cb_X11_placeFits : xa_CB M_X11_placeFits 2 := ⟨gws_at 1029 (by decide +kernel) rfl, gws_at 109 (by decide +kernel) rfl, by decide +kernel, Nat.le_of_ble_eq_true rfl⟩
def f_X11_placeFits_b2 : Nat → xa_H → Nat → Int32 → Int32 → Int32 → Option Int32
  | 0, _, _, _, _, _ => none
  | n + 1, h, l0, l1, l2, l3 =>
    if l1 ≤ l3 then
      some (1 : Int32)
    else
      (gR [11] 8 h l0).bind fun x2 =>
      (gR [11] 15 h l0).bind fun x3 =>
      (aI h x3 l3).bind fun x4 =>
      (f_X0_debt h x2 l2 x4).bind fun q5 =>
      (gR [11] 6 h l0).bind fun x6 =>
      (f_X0_debt h x6 l1 l3).bind fun q7 =>
      if q5 = q7 then
        f_X11_placeFits_b2 n h l0 l1 l2 (l3 + (1 : Int32))
      else
        some (0 : Int32)
set_option maxRecDepth 20000 in
theorem e_X11_placeFits_b2 {G : xa_G} : ∀ (n : Nat) (h : xa_H) (l0 : Nat) (l1 : Int32) (l2 : Int32) (l3 : Int32) (r : Int32), f_X11_placeFits_b2 n h l0 l1 l2 l3 = some r → xa_V G M_X11_placeFits 1 2 [some (.ref l0), some (.int l1), some (.int l2), some (.int l3)] [] h (some (.int r)) h := by
  intro n
  induction n with
  | zero =>
    intro h l0 l1 l2 l3 r hf
    cases (show (none : Option Int32) = some r from hf)
  | succ n ih =>
    intro h l0 l1 l2 l3 r hf
    rw [f_X11_placeFits_b2] at hf
    refine v_iload_n dX11_placeFits_2 rfl ?_
    refine v_iload_n dX11_placeFits_3 rfl ?_
    refine v_icmp_ge dX11_placeFits_4 (tgt := 41) (by decide) (fun c1 => ?_) (fun c1 => ?_)
    · replace hf := (if_pos c1).symm.trans hf
      refine v_iconst dX11_placeFits_41 (by decide) (v := 1) ?_
      replace hf := Option.some.inj hf
      subst hf
      exact v_zret dX11_placeFits_42 rfl (by decide)
    · replace hf := (if_neg c1).symm.trans hf
      refine v_aload_n dX11_placeFits_7 rfl ?_
      obtain ⟨x2, ex2, hf⟩ := ob hf
      refine v_getR dX11_placeFits_8 fl_11_56 ex2 ?_
      refine v_iload_n dX11_placeFits_11 rfl ?_
      refine v_aload_n dX11_placeFits_12 rfl ?_
      obtain ⟨x3, ex3, hf⟩ := ob hf
      refine v_getR dX11_placeFits_13 fl_11_97 ex3 ?_
      refine v_iload_n dX11_placeFits_16 rfl ?_
      obtain ⟨x4, ex4, hf⟩ := ob hf
      refine v_ialoadI dX11_placeFits_17 ex4 ?_
      obtain ⟨q5, eq5, hf⟩ := ob hf
      refine v_callV dX11_placeFits_18 ⟨cb_X0_debt, ml_11_217, im_X0_debt⟩ se_0_X0_debt (ckf_X0_debt eq5) (ev_X0_debt eq5) (by decide) (As := [.int l2, .int x4]) rfl (st := []) rfl (Nat.le_of_ble_eq_true rfl) rfl ?_
      refine v_aload_n dX11_placeFits_21 rfl ?_
      obtain ⟨x6, ex6, hf⟩ := ob hf
      refine v_getR dX11_placeFits_22 fl_11_49 ex6 ?_
      refine v_iload_n dX11_placeFits_25 rfl ?_
      refine v_iload_n dX11_placeFits_26 rfl ?_
      obtain ⟨q7, eq7, hf⟩ := ob hf
      refine v_callV dX11_placeFits_27 ⟨cb_X0_debt, ml_11_217, im_X0_debt⟩ se_0_X0_debt (ckf_X0_debt eq7) (ev_X0_debt eq7) (by decide) (As := [.int l1, .int l3]) rfl (st := [.int q5]) rfl (Nat.le_of_ble_eq_true rfl) rfl ?_
      refine v_icmp_eq dX11_placeFits_30 (tgt := 35) (by decide) (fun c8 => ?_) (fun c8 => ?_)
      · replace hf := (if_pos c8).symm.trans hf
        refine v_iinc dX11_placeFits_35 rfl (v := (l3 + (1 : Int32))) rfl (Nat.le_of_ble_eq_true rfl) (loc' := [some (.ref l0), some (.int l1), some (.int l2), some (.int (l3 + (1 : Int32)))]) rfl ?_
        refine v_goto dX11_placeFits_38 (tgt := 2) (by decide) ?_
        exact ih h l0 l1 l2 (l3 + (1 : Int32)) r hf
      · replace hf := (if_neg c8).symm.trans hf
        refine v_iconst dX11_placeFits_33 (by decide) (v := 0) ?_
        replace hf := Option.some.inj hf
        subst hf
        exact v_zret dX11_placeFits_34 rfl (by decide)
def f_X11_placeFits (h : xa_H) (l0 : Nat) (l1 : Int32) (l2 : Int32) : Option Int32 :=
  (ck [11] h l0).bind fun _ =>
  f_X11_placeFits_b2 1048576 h l0 l1 l2 (0 : Int32)
set_option maxRecDepth 20000 in
theorem ev_X11_placeFits {G : xa_G} {h : xa_H} {l0 : Nat} {l1 : Int32} {l2 : Int32} {r : Int32} (hf : f_X11_placeFits h l0 l1 l2 = some r) : xa_Ev G M_X11_placeFits 1 [.ref l0, .int l1, .int l2] h (some (.int r)) h := by
  refine xa_entry (by decide +kernel) (loc := [some (.ref l0), some (.int l1), some (.int l2), none]) rfl (Nat.le_of_ble_eq_true rfl) ?_
  unfold f_X11_placeFits at hf
  obtain ⟨u0, eu0, hf⟩ := ob hf
  refine v_iconst dX11_placeFits_0 (by decide) (v := 0) ?_
  refine v_istore_n (i := 3) rfl dX11_placeFits_1 (Nat.le_of_ble_eq_true rfl) (loc' := [some (.ref l0), some (.int l1), some (.int l2), some (.int (0 : Int32))]) rfl ?_
  exact e_X11_placeFits_b2 1048576 h l0 l1 l2 (0 : Int32) r hf
theorem ckf_X11_placeFits {h : xa_H} {l0 : Nat} {l1 : Int32} {l2 : Int32} {r : Int32} (hf : f_X11_placeFits h l0 l1 l2 = some r) : ck [11] h l0 = some () := by
  obtain ⟨u, e, -⟩ := ob hf
  exact e
def M_X11_canPlace : xa_M := (yX11_canPlace, cX11_canPlace, 4, some .boolean)
theorem cb_X11_canPlace : xa_CB M_X11_canPlace 2 := ⟨gws_at 1025 (by decide +kernel) rfl, gws_at 109 (by decide +kernel) rfl, by decide +kernel, Nat.le_of_ble_eq_true rfl⟩
def f_X11_canPlace_b71 (c_X11_canPlace : xa_H → Nat → Int32 → Int32 → Option (Int32 × xa_H)) (k19 : xa_H → Nat → Int32 → Int32 → Int32 → Option (Int32 × xa_H)) (h : xa_H) (l0 : Nat) (l1 : Int32) (l2 : Int32) (l3 : Int32) : Option (Int32 × xa_H) :=
  k19 h l0 l1 l2 (l3 + (1 : Int32))
set_option maxRecDepth 20000 in
theorem e_X11_canPlace_b71 {G : xa_G} {d d1 : Nat} {c_X11_canPlace : xa_H → Nat → Int32 → Int32 → Option (Int32 × xa_H)} (hc_X11_canPlace : ∀ {h : xa_H} {a0 : Nat} {a1 : Int32} {a2 : Int32} {r : (Int32 × xa_H)}, c_X11_canPlace h a0 a1 a2 = some r → xa_Ev G M_X11_canPlace d1 [.ref a0, .int a1, .int a2] h (some (.int r.1)) r.2) (hck_X11_canPlace : ∀ {h : xa_H} {a0 : Nat} {a1 : Int32} {a2 : Int32} {r : (Int32 × xa_H)}, c_X11_canPlace h a0 a1 a2 = some r → ck [11] h a0 = some ()) (hdx : 2 ≤ d) (hd1 : d1 + 1 ≤ d) {k19 : xa_H → Nat → Int32 → Int32 → Int32 → Option (Int32 × xa_H)} (hk19 : ∀ (h : xa_H) (l0 : Nat) (l1 : Int32) (l2 : Int32) (l3 : Int32) (r : (Int32 × xa_H)), k19 h l0 l1 l2 l3 = some r → xa_V G M_X11_canPlace d 19 [some (.ref l0), some (.int l1), some (.int l2), some (.int l3)] [] h (some (.int r.1)) r.2) : ∀ (h : xa_H) (l0 : Nat) (l1 : Int32) (l2 : Int32) (l3 : Int32) (r : (Int32 × xa_H)), f_X11_canPlace_b71 c_X11_canPlace k19 h l0 l1 l2 l3 = some r → xa_V G M_X11_canPlace d 71 [some (.ref l0), some (.int l1), some (.int l2), some (.int l3)] [] h (some (.int r.1)) r.2 := by
  intro h l0 l1 l2 l3 r hf
  unfold f_X11_canPlace_b71 at hf
  refine v_iinc dX11_canPlace_71 rfl (v := (l3 + (1 : Int32))) rfl (Nat.le_of_ble_eq_true rfl) (loc' := [some (.ref l0), some (.int l1), some (.int l2), some (.int (l3 + (1 : Int32)))]) rfl ?_
  refine v_goto dX11_canPlace_74 (tgt := 19) (by decide) ?_
  exact hk19 h l0 l1 l2 (l3 + (1 : Int32)) r hf
def f_X11_canPlace_b19 (c_X11_canPlace : xa_H → Nat → Int32 → Int32 → Option (Int32 × xa_H)) : Nat → xa_H → Nat → Int32 → Int32 → Int32 → Option (Int32 × xa_H)
  | 0, _, _, _, _, _ => none
  | n + 1, h, l0, l1, l2, l3 =>
    (gR [11] 6 h l0).bind fun x1 =>
    (gI [0] 4 h x1).bind fun x2 =>
    if x2 ≤ l3 then
      some ((0 : Int32), h)
    else
      if ((shr l2 l3) &&& (1 : Int32)) = 0 then
        (f_X11_placeFits h l0 l1 l3).bind fun q5 =>
        if q5 = 0 then
          f_X11_canPlace_b71 c_X11_canPlace (fun h l0 l1 l2 l3 => f_X11_canPlace_b19 c_X11_canPlace n h l0 l1 l2 l3) h l0 l1 l2 l3
        else
          (gR [11] 15 h l0).bind fun x7 =>
          (pI h x7 l1 l3).bind fun h8 =>
          (c_X11_canPlace h8 l0 (l1 + (1 : Int32)) (l2 ||| (shl (1 : Int32) l3))).bind fun q9 =>
          if q9.1 = 0 then
            f_X11_canPlace_b71 c_X11_canPlace (fun h l0 l1 l2 l3 => f_X11_canPlace_b19 c_X11_canPlace n h l0 l1 l2 l3) q9.2 l0 l1 l2 l3
          else
            some ((1 : Int32), q9.2)
      else
        f_X11_canPlace_b71 c_X11_canPlace (fun h l0 l1 l2 l3 => f_X11_canPlace_b19 c_X11_canPlace n h l0 l1 l2 l3) h l0 l1 l2 l3
set_option maxRecDepth 20000 in
theorem e_X11_canPlace_b19 {G : xa_G} {d d1 : Nat} {c_X11_canPlace : xa_H → Nat → Int32 → Int32 → Option (Int32 × xa_H)} (hc_X11_canPlace : ∀ {h : xa_H} {a0 : Nat} {a1 : Int32} {a2 : Int32} {r : (Int32 × xa_H)}, c_X11_canPlace h a0 a1 a2 = some r → xa_Ev G M_X11_canPlace d1 [.ref a0, .int a1, .int a2] h (some (.int r.1)) r.2) (hck_X11_canPlace : ∀ {h : xa_H} {a0 : Nat} {a1 : Int32} {a2 : Int32} {r : (Int32 × xa_H)}, c_X11_canPlace h a0 a1 a2 = some r → ck [11] h a0 = some ()) (hdx : 2 ≤ d) (hd1 : d1 + 1 ≤ d) : ∀ (n : Nat) (h : xa_H) (l0 : Nat) (l1 : Int32) (l2 : Int32) (l3 : Int32) (r : (Int32 × xa_H)), f_X11_canPlace_b19 c_X11_canPlace n h l0 l1 l2 l3 = some r → xa_V G M_X11_canPlace d 19 [some (.ref l0), some (.int l1), some (.int l2), some (.int l3)] [] h (some (.int r.1)) r.2 := by
  intro n
  induction n with
  | zero =>
    intro h l0 l1 l2 l3 r hf
    cases (show (none : Option (Int32 × xa_H)) = some r from hf)
  | succ n ih =>
    intro h l0 l1 l2 l3 r hf
    rw [f_X11_canPlace_b19] at hf
    refine v_iload_n dX11_canPlace_19 rfl ?_
    refine v_aload_n dX11_canPlace_20 rfl ?_
    obtain ⟨x1, ex1, hf⟩ := ob hf
    refine v_getR dX11_canPlace_21 fl_11_49 ex1 ?_
    obtain ⟨x2, ex2, hf⟩ := ob hf
    refine v_getI dX11_canPlace_24 fl_11_154 ex2 ?_
    refine v_icmp_ge dX11_canPlace_27 (tgt := 77) (by decide) (fun c3 => ?_) (fun c3 => ?_)
    · replace hf := (if_pos c3).symm.trans hf
      refine v_iconst dX11_canPlace_77 (by decide) (v := 0) ?_
      replace hf := Option.some.inj hf
      subst hf
      exact v_zret dX11_canPlace_78 rfl (by decide)
    · replace hf := (if_neg c3).symm.trans hf
      refine v_iload_n dX11_canPlace_30 rfl ?_
      refine v_iload_n dX11_canPlace_31 rfl ?_
      refine w_ishr dX11_canPlace_32 ?_
      refine v_iconst dX11_canPlace_33 (by decide) (v := 1) ?_
      refine v_iand dX11_canPlace_34 ?_
      refine v_if_ne dX11_canPlace_35 (tgt := 71) (by decide) (fun c4 => ?_) (fun c4 => ?_)
      · replace hf := (if_neg c4).symm.trans hf
        exact e_X11_canPlace_b71 hc_X11_canPlace hck_X11_canPlace hdx hd1 ih h l0 l1 l2 l3 r hf
      · replace hf := (if_pos c4).symm.trans hf
        refine v_aload_n dX11_canPlace_38 rfl ?_
        refine v_iload_n dX11_canPlace_39 rfl ?_
        refine v_iload_n dX11_canPlace_40 rfl ?_
        obtain ⟨q5, eq5, hf⟩ := ob hf
        refine v_callV dX11_canPlace_41 ⟨cb_X11_placeFits, ml_11_311, im_X11_placeFits⟩ se_11_X11_placeFits (ckf_X11_placeFits eq5) (ev_X11_placeFits eq5) (Nat.le_trans (by decide) hdx) (As := [.int l1, .int l3]) rfl (st := []) rfl (Nat.le_of_ble_eq_true rfl) rfl ?_
        refine v_if_eq dX11_canPlace_44 (tgt := 71) (by decide) (fun c6 => ?_) (fun c6 => ?_)
        · replace hf := (if_pos c6).symm.trans hf
          exact e_X11_canPlace_b71 hc_X11_canPlace hck_X11_canPlace hdx hd1 ih h l0 l1 l2 l3 r hf
        · replace hf := (if_neg c6).symm.trans hf
          refine v_aload_n dX11_canPlace_47 rfl ?_
          obtain ⟨x7, ex7, hf⟩ := ob hf
          refine v_getR dX11_canPlace_48 fl_11_97 ex7 ?_
          refine v_iload_n dX11_canPlace_51 rfl ?_
          refine v_iload_n dX11_canPlace_52 rfl ?_
          obtain ⟨h8, eh8, hf⟩ := ob hf
          refine v_iastoreI dX11_canPlace_53 eh8 ?_
          refine v_aload_n dX11_canPlace_54 rfl ?_
          refine v_iload_n dX11_canPlace_55 rfl ?_
          refine v_iconst dX11_canPlace_56 (by decide) (v := 1) ?_
          refine v_iadd dX11_canPlace_57 ?_
          refine v_iload_n dX11_canPlace_58 rfl ?_
          refine v_iconst dX11_canPlace_59 (by decide) (v := 1) ?_
          refine v_iload_n dX11_canPlace_60 rfl ?_
          refine w_ishl dX11_canPlace_61 ?_
          refine v_ior dX11_canPlace_62 ?_
          obtain ⟨q9, eq9, hf⟩ := ob hf
          refine v_callV dX11_canPlace_63 ⟨cb_X11_canPlace, ml_11_308, im_X11_canPlace⟩ se_11_X11_canPlace (hck_X11_canPlace eq9) (hc_X11_canPlace eq9) hd1 (As := [.int (l1 + (1 : Int32)), .int (l2 ||| (shl (1 : Int32) l3))]) rfl (st := []) rfl (Nat.le_of_ble_eq_true rfl) rfl ?_
          refine v_if_eq dX11_canPlace_66 (tgt := 71) (by decide) (fun c10 => ?_) (fun c10 => ?_)
          · replace hf := (if_pos c10).symm.trans hf
            exact e_X11_canPlace_b71 hc_X11_canPlace hck_X11_canPlace hdx hd1 ih q9.2 l0 l1 l2 l3 r hf
          · replace hf := (if_neg c10).symm.trans hf
            refine v_iconst dX11_canPlace_69 (by decide) (v := 1) ?_
            replace hf := Option.some.inj hf
            subst hf
            exact v_zret dX11_canPlace_70 rfl (by decide)
def g_X11_canPlace (c_X11_canPlace : xa_H → Nat → Int32 → Int32 → Option (Int32 × xa_H)) (h : xa_H) (l0 : Nat) (l1 : Int32) (l2 : Int32) : Option (Int32 × xa_H) :=
  (ck [11] h l0).bind fun _ =>
  if l1 < 0 then
    some ((1 : Int32), h)
  else
    (gR [11] 6 h l0).bind fun x2 =>
    (gI [0] 4 h x2).bind fun x3 =>
    if l1 < x3 then
      f_X11_canPlace_b19 c_X11_canPlace 1048576 h l0 l1 l2 (0 : Int32)
    else
      some ((1 : Int32), h)
set_option maxRecDepth 20000 in
theorem eg_X11_canPlace {G : xa_G} {d d1 : Nat} {c_X11_canPlace : xa_H → Nat → Int32 → Int32 → Option (Int32 × xa_H)} (hc_X11_canPlace : ∀ {h : xa_H} {a0 : Nat} {a1 : Int32} {a2 : Int32} {r : (Int32 × xa_H)}, c_X11_canPlace h a0 a1 a2 = some r → xa_Ev G M_X11_canPlace d1 [.ref a0, .int a1, .int a2] h (some (.int r.1)) r.2) (hck_X11_canPlace : ∀ {h : xa_H} {a0 : Nat} {a1 : Int32} {a2 : Int32} {r : (Int32 × xa_H)}, c_X11_canPlace h a0 a1 a2 = some r → ck [11] h a0 = some ()) (hdx : 2 ≤ d) (hd1 : d1 + 1 ≤ d) {h : xa_H} {l0 : Nat} {l1 : Int32} {l2 : Int32} {r : (Int32 × xa_H)} (hf : g_X11_canPlace c_X11_canPlace h l0 l1 l2 = some r) : xa_Ev G M_X11_canPlace d [.ref l0, .int l1, .int l2] h (some (.int r.1)) r.2 := by
  refine xa_entry (by decide +kernel) (loc := [some (.ref l0), some (.int l1), some (.int l2), none]) rfl (Nat.le_of_ble_eq_true rfl) ?_
  unfold g_X11_canPlace at hf
  obtain ⟨u0, eu0, hf⟩ := ob hf
  refine v_iload_n dX11_canPlace_0 rfl ?_
  refine v_if_lt dX11_canPlace_1 (tgt := 15) (by decide) (fun c1 => ?_) (fun c1 => ?_)
  · replace hf := (if_pos c1).symm.trans hf
    refine v_iconst dX11_canPlace_15 (by decide) (v := 1) ?_
    replace hf := Option.some.inj hf
    subst hf
    exact v_zret dX11_canPlace_16 rfl (by decide)
  · replace hf := (if_neg c1).symm.trans hf
    refine v_iload_n dX11_canPlace_4 rfl ?_
    refine v_aload_n dX11_canPlace_5 rfl ?_
    obtain ⟨x2, ex2, hf⟩ := ob hf
    refine v_getR dX11_canPlace_6 fl_11_49 ex2 ?_
    obtain ⟨x3, ex3, hf⟩ := ob hf
    refine v_getI dX11_canPlace_9 fl_11_154 ex3 ?_
    refine v_icmp_lt dX11_canPlace_12 (tgt := 17) (by decide) (fun c4 => ?_) (fun c4 => ?_)
    · replace hf := (if_pos c4).symm.trans hf
      refine v_iconst dX11_canPlace_17 (by decide) (v := 0) ?_
      refine v_istore_n (i := 3) rfl dX11_canPlace_18 (Nat.le_of_ble_eq_true rfl) (loc' := [some (.ref l0), some (.int l1), some (.int l2), some (.int (0 : Int32))]) rfl ?_
      exact e_X11_canPlace_b19 hc_X11_canPlace hck_X11_canPlace hdx hd1 1048576 h l0 l1 l2 (0 : Int32) r hf
    · replace hf := (if_neg c4).symm.trans hf
      refine v_iconst dX11_canPlace_15 (by decide) (v := 1) ?_
      replace hf := Option.some.inj hf
      subst hf
      exact v_zret dX11_canPlace_16 rfl (by decide)
theorem cg_X11_canPlace {c_X11_canPlace : xa_H → Nat → Int32 → Int32 → Option (Int32 × xa_H)} {h : xa_H} {l0 : Nat} {l1 : Int32} {l2 : Int32} {r : (Int32 × xa_H)} (hf : g_X11_canPlace c_X11_canPlace h l0 l1 l2 = some r) : ck [11] h l0 = some () := by
  obtain ⟨u, e, -⟩ := ob hf
  exact e
def f_X11_canPlace : Nat → xa_H → Nat → Int32 → Int32 → Option (Int32 × xa_H)
  | 0, _, _, _, _ => none
  | n + 1, h, a0, a1, a2 => g_X11_canPlace (f_X11_canPlace n) h a0 a1 a2
theorem ckf_X11_canPlace {n : Nat} {h : xa_H} {a0 : Nat} {a1 : Int32} {a2 : Int32} {r : (Int32 × xa_H)} (hf : f_X11_canPlace n h a0 a1 a2 = some r) : ck [11] h a0 = some () := by
  cases n with
  | zero => cases (show (none : Option (Int32 × xa_H)) = some r from hf)
  | succ n => exact cg_X11_canPlace (c_X11_canPlace := (f_X11_canPlace n)) hf
theorem evg_X11_canPlace {G : xa_G} : ∀ n : Nat, (∀ {h : xa_H} {a0 : Nat} {a1 : Int32} {a2 : Int32} {r : (Int32 × xa_H)}, f_X11_canPlace n h a0 a1 a2 = some r → xa_Ev G M_X11_canPlace (2 + n) [.ref a0, .int a1, .int a2] h (some (.int r.1)) r.2) := by
  intro n
  induction n with
  | zero => exact (fun hf => by cases (show (none : Option (Int32 × xa_H)) = some _ from hf))
  | succ n ih => exact (fun hf => eg_X11_canPlace ih ckf_X11_canPlace (by omega) (by omega) hf)
theorem ev_X11_canPlace {G : xa_G} {n : Nat} {h : xa_H} {a0 : Nat} {a1 : Int32} {a2 : Int32} {r : (Int32 × xa_H)} (hf : f_X11_canPlace n h a0 a1 a2 = some r) : xa_Ev G M_X11_canPlace (2 + n) [.ref a0, .int a1, .int a2] h (some (.int r.1)) r.2 := (evg_X11_canPlace n) hf
def M_X11_chain : xa_M := (yX11_chain, cX11_chain, 3, some .int)
theorem cb_X11_chain : xa_CB M_X11_chain 2 := ⟨gws_at 1085 (by decide +kernel) rfl, gws_at 109 (by decide +kernel) rfl, by decide +kernel, Nat.le_of_ble_eq_true rfl⟩
def f_X11_chain (h : xa_H) (l0 : Nat) (l1 : Int32) (l2 : Int32) : Option Int32 :=
  (ck [11] h l0).bind fun _ =>
  (gR [11] 6 h l0).bind fun x1 =>
  (f_X0_has h x1 l1).bind fun q2 =>
  if q2 = 0 then
    some (-1 : Int32)
  else
    (gR [11] 6 h l0).bind fun x4 =>
    (f_X0_has h x4 l2).bind fun q5 =>
    if q5 = 0 then
      some (-1 : Int32)
    else
      if l1 = l2 then
        some (0 : Int32)
      else
        (gR [11] 6 h l0).bind fun x8 =>
        (f_X0_steps h x8 l1 l2).bind fun q9 =>
        some q9
set_option maxRecDepth 20000 in
theorem ev_X11_chain {G : xa_G} {h : xa_H} {l0 : Nat} {l1 : Int32} {l2 : Int32} {r : Int32} (hf : f_X11_chain h l0 l1 l2 = some r) : xa_Ev G M_X11_chain 3 [.ref l0, .int l1, .int l2] h (some (.int r)) h := by
  refine xa_entry (by decide +kernel) (loc := [some (.ref l0), some (.int l1), some (.int l2)]) rfl (Nat.le_of_ble_eq_true rfl) ?_
  unfold f_X11_chain at hf
  obtain ⟨u0, eu0, hf⟩ := ob hf
  refine v_aload_n dX11_chain_0 rfl ?_
  obtain ⟨x1, ex1, hf⟩ := ob hf
  refine v_getR dX11_chain_1 fl_11_49 ex1 ?_
  refine v_iload_n dX11_chain_4 rfl ?_
  obtain ⟨q2, eq2, hf⟩ := ob hf
  refine v_callV dX11_chain_5 ⟨cb_X0_has, ml_11_157, im_X0_has⟩ se_0_X0_has (ckf_X0_has eq2) (ev_X0_has eq2) (by decide) (As := [.int l1]) rfl (st := []) rfl (Nat.le_of_ble_eq_true rfl) rfl ?_
  refine v_if_eq dX11_chain_8 (tgt := 22) (by decide) (fun c3 => ?_) (fun c3 => ?_)
  · replace hf := (if_pos c3).symm.trans hf
    refine v_iconst dX11_chain_22 (by decide) (v := -1) ?_
    replace hf := Option.some.inj hf
    subst hf
    exact v_iret dX11_chain_23 rfl
  · replace hf := (if_neg c3).symm.trans hf
    refine v_aload_n dX11_chain_11 rfl ?_
    obtain ⟨x4, ex4, hf⟩ := ob hf
    refine v_getR dX11_chain_12 fl_11_49 ex4 ?_
    refine v_iload_n dX11_chain_15 rfl ?_
    obtain ⟨q5, eq5, hf⟩ := ob hf
    refine v_callV dX11_chain_16 ⟨cb_X0_has, ml_11_157, im_X0_has⟩ se_0_X0_has (ckf_X0_has eq5) (ev_X0_has eq5) (by decide) (As := [.int l2]) rfl (st := []) rfl (Nat.le_of_ble_eq_true rfl) rfl ?_
    refine v_if_ne dX11_chain_19 (tgt := 24) (by decide) (fun c6 => ?_) (fun c6 => ?_)
    · replace hf := (if_neg c6).symm.trans hf
      refine v_iload_n dX11_chain_24 rfl ?_
      refine v_iload_n dX11_chain_25 rfl ?_
      refine v_icmp_ne dX11_chain_26 (tgt := 33) (by decide) (fun c7 => ?_) (fun c7 => ?_)
      · replace hf := (if_neg c7).symm.trans hf
        refine v_aload_n dX11_chain_33 rfl ?_
        obtain ⟨x8, ex8, hf⟩ := ob hf
        refine v_getR dX11_chain_34 fl_11_49 ex8 ?_
        refine v_iload_n dX11_chain_37 rfl ?_
        refine v_iload_n dX11_chain_38 rfl ?_
        obtain ⟨q9, eq9, hf⟩ := ob hf
        refine v_callV dX11_chain_39 ⟨cb_X0_steps, ml_11_330, im_X0_steps⟩ se_0_X0_steps (ckf_X0_steps eq9) (ev_X0_steps eq9) (by decide) (As := [.int l1, .int l2]) rfl (st := []) rfl (Nat.le_of_ble_eq_true rfl) rfl ?_
        replace hf := Option.some.inj hf
        subst hf
        exact v_iret dX11_chain_42 rfl
      · replace hf := (if_pos c7).symm.trans hf
        refine v_iconst dX11_chain_29 (by decide) (v := 0) ?_
        refine v_goto dX11_chain_30 (tgt := 42) (by decide) ?_
        replace hf := Option.some.inj hf
        subst hf
        exact v_iret dX11_chain_42 rfl
    · replace hf := (if_pos c6).symm.trans hf
      refine v_iconst dX11_chain_22 (by decide) (v := -1) ?_
      replace hf := Option.some.inj hf
      subst hf
      exact v_iret dX11_chain_23 rfl
theorem ckf_X11_chain {h : xa_H} {l0 : Nat} {l1 : Int32} {l2 : Int32} {r : Int32} (hf : f_X11_chain h l0 l1 l2 = some r) : ck [11] h l0 = some () := by
  obtain ⟨u, e, -⟩ := ob hf
  exact e
def M_X11_costOf : xa_M := (yX11_costOf, cX11_costOf, 2, some .int)
theorem cb_X11_costOf : xa_CB M_X11_costOf 1 := ⟨gws_at 840 (by decide +kernel) rfl, gws_at 109 (by decide +kernel) rfl, by decide +kernel, Nat.le_of_ble_eq_true rfl⟩
def f_X11_costOf (h : xa_H) (l0 : Nat) (l1 : Int32) : Option (Int32 × xa_H) :=
  (ck [11] h l0).bind fun _ =>
  (gR [11] 6 h l0).bind fun x1 =>
  (f_X0_has h x1 l1).bind fun q2 =>
  if q2 = 0 then
    some ((0 : Int32), h)
  else
    (gI [11] 17 h l0).bind fun x4 =>
    if x4 < 0 then
      some ((1 : Int32), h)
    else
      (gI [11] 17 h l0).bind fun x6 =>
      (gR [11] 4 h l0).bind fun x7 =>
      (gI [5] 3 h x7).bind fun x8 =>
      if x6 < x8 then
        (gR [11] 2 h l0).bind fun x10 =>
        (gR [2] 4 h x10).bind fun x11 =>
        (gR [11] 6 h l0).bind fun x12 =>
        (f_X0_incoming h x12 l1).bind fun q13 =>
        (pI h x11 (0 : Int32) q13).bind fun h14 =>
        (gR [11] 2 h14 l0).bind fun x15 =>
        (gR [2] 4 h14 x15).bind fun x16 =>
        (gR [11] 6 h14 l0).bind fun x17 =>
        (f_X0_outgoing h14 x17 l1).bind fun q18 =>
        (pI h14 x16 (1 : Int32) q18).bind fun h19 =>
        (gR [11] 2 h19 l0).bind fun x20 =>
        (gR [2] 4 h19 x20).bind fun x21 =>
        (gR [11] 6 h19 l0).bind fun x22 =>
        (gR [0] 2 h19 x22).bind fun x23 =>
        (aI h19 x23 l1).bind fun x24 =>
        (pI h19 x21 (2 : Int32) x24).bind fun h25 =>
        (gR [11] 2 h25 l0).bind fun x26 =>
        (gR [2] 4 h25 x26).bind fun x27 =>
        (gR [11] 6 h25 l0).bind fun x28 =>
        (gR [0] 3 h25 x28).bind fun x29 =>
        (aI h25 x29 l1).bind fun x30 =>
        (pI h25 x27 (3 : Int32) (irem x30 (100 : Int32))).bind fun h31 =>
        (gR [11] 2 h31 l0).bind fun x32 =>
        (gR [2] 4 h31 x32).bind fun x33 =>
        (gR [11] 6 h31 l0).bind fun x34 =>
        (gR [0] 1 h31 x34).bind fun x35 =>
        (aI h31 x35 l1).bind fun x36 =>
        (pI h31 x33 (4 : Int32) (irem x36 (100 : Int32))).bind fun h37 =>
        (gR [11] 2 h37 l0).bind fun x38 =>
        (gR [2] 4 h37 x38).bind fun x39 =>
        (gR [11] 6 h37 l0).bind fun x40 =>
        (gI [0] 8 h37 x40).bind fun x41 =>
        (pI h37 x39 (5 : Int32) (irem x41 (100 : Int32))).bind fun h42 =>
        (gR [11] 2 h42 l0).bind fun x43 =>
        (gR [11] 4 h42 l0).bind fun x44 =>
        (gR [5] 0 h42 x44).bind fun x45 =>
        (gI [11] 17 h42 l0).bind fun x46 =>
        (aR 5 h42 x45 x46).bind fun x47 =>
        (gR [11] 4 h42 l0).bind fun x48 =>
        (gR [5] 1 h42 x48).bind fun x49 =>
        (gI [11] 17 h42 l0).bind fun x50 =>
        (aI h42 x49 x50).bind fun x51 =>
        (f_X2_read h42 x43 x47 x51).bind fun q52 =>
        (gR [11] 2 q52.2 l0).bind fun x53 =>
        (gI [2] 5 q52.2 x53).bind fun x54 =>
        some ((imax (0 : Int32) (imin (9 : Int32) x54)), q52.2)
      else
        some ((1 : Int32), h)
set_option maxRecDepth 20000 in
theorem ev_X11_costOf {G : xa_G} {h : xa_H} {l0 : Nat} {l1 : Int32} {r : (Int32 × xa_H)} (hf : f_X11_costOf h l0 l1 = some r) : xa_Ev G M_X11_costOf 127 [.ref l0, .int l1] h (some (.int r.1)) r.2 := by
  refine xa_entry (by decide +kernel) (loc := [some (.ref l0), some (.int l1)]) rfl (Nat.le_of_ble_eq_true rfl) ?_
  unfold f_X11_costOf at hf
  obtain ⟨u0, eu0, hf⟩ := ob hf
  refine v_aload_n dX11_costOf_0 rfl ?_
  obtain ⟨x1, ex1, hf⟩ := ob hf
  refine v_getR dX11_costOf_1 fl_11_49 ex1 ?_
  refine v_iload_n dX11_costOf_4 rfl ?_
  obtain ⟨q2, eq2, hf⟩ := ob hf
  refine v_callV dX11_costOf_5 ⟨cb_X0_has, ml_11_157, im_X0_has⟩ se_0_X0_has (ckf_X0_has eq2) (ev_X0_has eq2) (by decide) (As := [.int l1]) rfl (st := []) rfl (Nat.le_of_ble_eq_true rfl) rfl ?_
  refine v_if_ne dX11_costOf_8 (tgt := 13) (by decide) (fun c3 => ?_) (fun c3 => ?_)
  · replace hf := (if_neg c3).symm.trans hf
    refine v_aload_n dX11_costOf_13 rfl ?_
    obtain ⟨x4, ex4, hf⟩ := ob hf
    refine v_getI dX11_costOf_14 fl_11_104 ex4 ?_
    refine v_if_lt dX11_costOf_17 (tgt := 34) (by decide) (fun c5 => ?_) (fun c5 => ?_)
    · replace hf := (if_pos c5).symm.trans hf
      refine v_iconst dX11_costOf_34 (by decide) (v := 1) ?_
      replace hf := Option.some.inj hf
      subst hf
      exact v_iret dX11_costOf_35 rfl
    · replace hf := (if_neg c5).symm.trans hf
      refine v_aload_n dX11_costOf_20 rfl ?_
      obtain ⟨x6, ex6, hf⟩ := ob hf
      refine v_getI dX11_costOf_21 fl_11_104 ex6 ?_
      refine v_aload_n dX11_costOf_24 rfl ?_
      obtain ⟨x7, ex7, hf⟩ := ob hf
      refine v_getR dX11_costOf_25 fl_11_39 ex7 ?_
      obtain ⟨x8, ex8, hf⟩ := ob hf
      refine v_getI dX11_costOf_28 fl_11_191 ex8 ?_
      refine v_icmp_lt dX11_costOf_31 (tgt := 36) (by decide) (fun c9 => ?_) (fun c9 => ?_)
      · replace hf := (if_pos c9).symm.trans hf
        refine v_aload_n dX11_costOf_36 rfl ?_
        obtain ⟨x10, ex10, hf⟩ := ob hf
        refine v_getR dX11_costOf_37 fl_11_23 ex10 ?_
        obtain ⟨x11, ex11, hf⟩ := ob hf
        refine v_getR dX11_costOf_40 fl_11_192 ex11 ?_
        refine v_iconst dX11_costOf_43 (by decide) (v := 0) ?_
        refine v_aload_n dX11_costOf_44 rfl ?_
        obtain ⟨x12, ex12, hf⟩ := ob hf
        refine v_getR dX11_costOf_45 fl_11_49 ex12 ?_
        refine v_iload_n dX11_costOf_48 rfl ?_
        obtain ⟨q13, eq13, hf⟩ := ob hf
        refine v_callV dX11_costOf_49 ⟨cb_X0_incoming, ml_11_180, im_X0_incoming⟩ se_0_X0_incoming (ckf_X0_incoming eq13) (ev_X0_incoming eq13) (by decide) (As := [.int l1]) rfl (st := [.int (0 : Int32), .ref x11]) rfl (Nat.le_of_ble_eq_true rfl) rfl ?_
        obtain ⟨h14, eh14, hf⟩ := ob hf
        refine v_iastoreI dX11_costOf_52 eh14 ?_
        refine v_aload_n dX11_costOf_53 rfl ?_
        obtain ⟨x15, ex15, hf⟩ := ob hf
        refine v_getR dX11_costOf_54 fl_11_23 ex15 ?_
        obtain ⟨x16, ex16, hf⟩ := ob hf
        refine v_getR dX11_costOf_57 fl_11_192 ex16 ?_
        refine v_iconst dX11_costOf_60 (by decide) (v := 1) ?_
        refine v_aload_n dX11_costOf_61 rfl ?_
        obtain ⟨x17, ex17, hf⟩ := ob hf
        refine v_getR dX11_costOf_62 fl_11_49 ex17 ?_
        refine v_iload_n dX11_costOf_65 rfl ?_
        obtain ⟨q18, eq18, hf⟩ := ob hf
        refine v_callV dX11_costOf_66 ⟨cb_X0_outgoing, ml_11_183, im_X0_outgoing⟩ se_0_X0_outgoing (ckf_X0_outgoing eq18) (ev_X0_outgoing eq18) (by decide) (As := [.int l1]) rfl (st := [.int (1 : Int32), .ref x16]) rfl (Nat.le_of_ble_eq_true rfl) rfl ?_
        obtain ⟨h19, eh19, hf⟩ := ob hf
        refine v_iastoreI dX11_costOf_69 eh19 ?_
        refine v_aload_n dX11_costOf_70 rfl ?_
        obtain ⟨x20, ex20, hf⟩ := ob hf
        refine v_getR dX11_costOf_71 fl_11_23 ex20 ?_
        obtain ⟨x21, ex21, hf⟩ := ob hf
        refine v_getR dX11_costOf_74 fl_11_192 ex21 ?_
        refine v_iconst dX11_costOf_77 (by decide) (v := 2) ?_
        refine v_aload_n dX11_costOf_78 rfl ?_
        obtain ⟨x22, ex22, hf⟩ := ob hf
        refine v_getR dX11_costOf_79 fl_11_49 ex22 ?_
        obtain ⟨x23, ex23, hf⟩ := ob hf
        refine v_getR dX11_costOf_82 fl_11_171 ex23 ?_
        refine v_iload_n dX11_costOf_85 rfl ?_
        obtain ⟨x24, ex24, hf⟩ := ob hf
        refine v_ialoadI dX11_costOf_86 ex24 ?_
        obtain ⟨h25, eh25, hf⟩ := ob hf
        refine v_iastoreI dX11_costOf_87 eh25 ?_
        refine v_aload_n dX11_costOf_88 rfl ?_
        obtain ⟨x26, ex26, hf⟩ := ob hf
        refine v_getR dX11_costOf_89 fl_11_23 ex26 ?_
        obtain ⟨x27, ex27, hf⟩ := ob hf
        refine v_getR dX11_costOf_92 fl_11_192 ex27 ?_
        refine v_iconst dX11_costOf_95 (by decide) (v := 3) ?_
        refine v_aload_n dX11_costOf_96 rfl ?_
        obtain ⟨x28, ex28, hf⟩ := ob hf
        refine v_getR dX11_costOf_97 fl_11_49 ex28 ?_
        obtain ⟨x29, ex29, hf⟩ := ob hf
        refine v_getR dX11_costOf_100 fl_11_177 ex29 ?_
        refine v_iload_n dX11_costOf_103 rfl ?_
        obtain ⟨x30, ex30, hf⟩ := ob hf
        refine v_ialoadI dX11_costOf_104 ex30 ?_
        refine v_bipush dX11_costOf_105 (by decide) (v := 100) ?_
        refine w_irem dX11_costOf_107 (by decide) ?_
        obtain ⟨h31, eh31, hf⟩ := ob hf
        refine v_iastoreI dX11_costOf_108 eh31 ?_
        refine v_aload_n dX11_costOf_109 rfl ?_
        obtain ⟨x32, ex32, hf⟩ := ob hf
        refine v_getR dX11_costOf_110 fl_11_23 ex32 ?_
        obtain ⟨x33, ex33, hf⟩ := ob hf
        refine v_getR dX11_costOf_113 fl_11_192 ex33 ?_
        refine v_iconst dX11_costOf_116 (by decide) (v := 4) ?_
        refine v_aload_n dX11_costOf_117 rfl ?_
        obtain ⟨x34, ex34, hf⟩ := ob hf
        refine v_getR dX11_costOf_118 fl_11_49 ex34 ?_
        obtain ⟨x35, ex35, hf⟩ := ob hf
        refine v_getR dX11_costOf_121 fl_11_168 ex35 ?_
        refine v_iload_n dX11_costOf_124 rfl ?_
        obtain ⟨x36, ex36, hf⟩ := ob hf
        refine v_ialoadI dX11_costOf_125 ex36 ?_
        refine v_bipush dX11_costOf_126 (by decide) (v := 100) ?_
        refine w_irem dX11_costOf_128 (by decide) ?_
        obtain ⟨h37, eh37, hf⟩ := ob hf
        refine v_iastoreI dX11_costOf_129 eh37 ?_
        refine v_aload_n dX11_costOf_130 rfl ?_
        obtain ⟨x38, ex38, hf⟩ := ob hf
        refine v_getR dX11_costOf_131 fl_11_23 ex38 ?_
        obtain ⟨x39, ex39, hf⟩ := ob hf
        refine v_getR dX11_costOf_134 fl_11_192 ex39 ?_
        refine v_iconst dX11_costOf_137 (by decide) (v := 5) ?_
        refine v_aload_n dX11_costOf_138 rfl ?_
        obtain ⟨x40, ex40, hf⟩ := ob hf
        refine v_getR dX11_costOf_139 fl_11_49 ex40 ?_
        obtain ⟨x41, ex41, hf⟩ := ob hf
        refine v_getI dX11_costOf_142 fl_11_195 ex41 ?_
        refine v_bipush dX11_costOf_145 (by decide) (v := 100) ?_
        refine w_irem dX11_costOf_147 (by decide) ?_
        obtain ⟨h42, eh42, hf⟩ := ob hf
        refine v_iastoreI dX11_costOf_148 eh42 ?_
        refine v_aload_n dX11_costOf_149 rfl ?_
        obtain ⟨x43, ex43, hf⟩ := ob hf
        refine v_getR dX11_costOf_150 fl_11_23 ex43 ?_
        refine v_aload_n dX11_costOf_153 rfl ?_
        obtain ⟨x44, ex44, hf⟩ := ob hf
        refine v_getR dX11_costOf_154 fl_11_39 ex44 ?_
        obtain ⟨x45, ex45, hf⟩ := ob hf
        refine v_getR dX11_costOf_157 fl_11_198 ex45 ?_
        refine v_aload_n dX11_costOf_160 rfl ?_
        obtain ⟨x46, ex46, hf⟩ := ob hf
        refine v_getI dX11_costOf_161 fl_11_104 ex46 ?_
        obtain ⟨x47, ex47, hf⟩ := ob hf
        refine v_aaload dX11_costOf_164 (t := 5) (by decide) ex47 ?_
        refine v_aload_n dX11_costOf_165 rfl ?_
        obtain ⟨x48, ex48, hf⟩ := ob hf
        refine v_getR dX11_costOf_166 fl_11_39 ex48 ?_
        obtain ⟨x49, ex49, hf⟩ := ob hf
        refine v_getR dX11_costOf_169 fl_11_202 ex49 ?_
        refine v_aload_n dX11_costOf_172 rfl ?_
        obtain ⟨x50, ex50, hf⟩ := ob hf
        refine v_getI dX11_costOf_173 fl_11_104 ex50 ?_
        obtain ⟨x51, ex51, hf⟩ := ob hf
        refine v_ialoadI dX11_costOf_176 ex51 ?_
        obtain ⟨q52, eq52, hf⟩ := ob hf
        refine v_callV dX11_costOf_177 ⟨cb_X2_read, ml_11_121, im_X2_read⟩ se_2_X2_read (ckf_X2_read eq52) (ev_X2_read eq52) (by decide) (As := [.ref x47, .int x51]) rfl (st := []) rfl (Nat.le_of_ble_eq_true rfl) rfl ?_
        refine v_pop dX11_costOf_180 rfl ?_
        refine v_iconst dX11_costOf_181 (by decide) (v := 0) ?_
        refine v_bipush dX11_costOf_182 (by decide) (v := 9) ?_
        refine v_aload_n dX11_costOf_184 rfl ?_
        obtain ⟨x53, ex53, hf⟩ := ob hf
        refine v_getR dX11_costOf_185 fl_11_23 ex53 ?_
        obtain ⟨x54, ex54, hf⟩ := ob hf
        refine v_getI dX11_costOf_188 fl_11_205 ex54 ?_
        refine w_mmin dX11_costOf_191 mw_11_208 (by decide) (Nat.le_of_ble_eq_true rfl) ?_
        refine w_mmax dX11_costOf_194 mw_11_214 (by decide) (Nat.le_of_ble_eq_true rfl) ?_
        replace hf := Option.some.inj hf
        subst hf
        exact v_iret dX11_costOf_197 rfl
      · replace hf := (if_neg c9).symm.trans hf
        refine v_iconst dX11_costOf_34 (by decide) (v := 1) ?_
        replace hf := Option.some.inj hf
        subst hf
        exact v_iret dX11_costOf_35 rfl
  · replace hf := (if_pos c3).symm.trans hf
    refine v_iconst dX11_costOf_11 (by decide) (v := 0) ?_
    replace hf := Option.some.inj hf
    subst hf
    exact v_iret dX11_costOf_12 rfl
theorem ckf_X11_costOf {h : xa_H} {l0 : Nat} {l1 : Int32} {r : (Int32 × xa_H)} (hf : f_X11_costOf h l0 l1 = some r) : ck [11] h l0 = some () := by
  obtain ⟨u, e, -⟩ := ob hf
  exact e
def M_X11_logLength : xa_M := (yX11_logLength, cX11_logLength, 1, some .int)
theorem cb_X11_logLength : xa_CB M_X11_logLength 0 := ⟨gws_at 983 (by decide +kernel) rfl, gws_at 109 (by decide +kernel) rfl, by decide +kernel, Nat.le_of_ble_eq_true rfl⟩
def f_X11_logLength (h : xa_H) (l0 : Nat) : Option Int32 :=
  (ck [11] h l0).bind fun _ =>
  (gR [11] 6 h l0).bind fun x1 =>
  (gI [0] 8 h x1).bind fun x2 =>
  some (imin x2 (60 : Int32))
set_option maxRecDepth 20000 in
theorem ev_X11_logLength {G : xa_G} {h : xa_H} {l0 : Nat} {r : Int32} (hf : f_X11_logLength h l0 = some r) : xa_Ev G M_X11_logLength 1 [.ref l0] h (some (.int r)) h := by
  refine xa_entry (by decide +kernel) (loc := [some (.ref l0)]) rfl (Nat.le_of_ble_eq_true rfl) ?_
  unfold f_X11_logLength at hf
  obtain ⟨u0, eu0, hf⟩ := ob hf
  refine v_aload_n dX11_logLength_0 rfl ?_
  obtain ⟨x1, ex1, hf⟩ := ob hf
  refine v_getR dX11_logLength_1 fl_11_49 ex1 ?_
  obtain ⟨x2, ex2, hf⟩ := ob hf
  refine v_getI dX11_logLength_4 fl_11_195 ex2 ?_
  refine v_bipush dX11_logLength_7 (by decide) (v := 60) ?_
  refine w_mmin dX11_logLength_9 mw_11_208 (by decide) (Nat.le_of_ble_eq_true rfl) ?_
  replace hf := Option.some.inj hf
  subst hf
  exact v_iret dX11_logLength_12 rfl
theorem ckf_X11_logLength {h : xa_H} {l0 : Nat} {r : Int32} (hf : f_X11_logLength h l0 = some r) : ck [11] h l0 = some () := by
  obtain ⟨u, e, -⟩ := ob hf
  exact e
def M_X11_count : xa_M := (yX11_count, cX11_count, 2, some .int)
theorem cb_X11_count : xa_CB M_X11_count 1 := ⟨gws_at 1213 (by decide +kernel) rfl, gws_at 109 (by decide +kernel) rfl, by decide +kernel, Nat.le_of_ble_eq_true rfl⟩
def f_X11_count (h : xa_H) (l0 : Nat) (l1 : Int32) : Option Int32 :=
  (ck [11] h l0).bind fun _ =>
  if l1 = (0 : Int32) then
    (gR [11] 6 h l0).bind fun x2 =>
    (gI [0] 4 h x2).bind fun x3 =>
    some x3
  else if l1 = (1 : Int32) then
    (gR [11] 6 h l0).bind fun x5 =>
    (gI [0] 5 h x5).bind fun x6 =>
    some x6
  else if l1 = (2 : Int32) then
    (gR [11] 4 h l0).bind fun x8 =>
    (gI [5] 3 h x8).bind fun x9 =>
    some x9
  else if l1 = (3 : Int32) then
    (gR [11] 5 h l0).bind fun x11 =>
    (gI [5] 3 h x11).bind fun x12 =>
    some x12
  else if l1 = (4 : Int32) then
    (gI [11] 16 h l0).bind fun x14 =>
    some x14
  else if l1 = (5 : Int32) then
    (gI [11] 17 h l0).bind fun x16 =>
    some x16
  else if l1 = (6 : Int32) then
    (gR [11] 6 h l0).bind fun x18 =>
    (gI [0] 8 h x18).bind fun x19 =>
    some x19
  else if l1 = (7 : Int32) then
    (gR [11] 6 h l0).bind fun x21 =>
    (gI [0] 7 h x21).bind fun x22 =>
    some x22
  else if l1 = (8 : Int32) then
    (gI [11] 18 h l0).bind fun x24 =>
    some x24
  else if l1 = (9 : Int32) then
    (gR [11] 11 h l0).bind fun x26 =>
    (gI [6] 6 h x26).bind fun x27 =>
    some x27
  else if l1 = (10 : Int32) then
    (f_X11_logLength h l0).bind fun q29 =>
    some q29
  else if l1 = (11 : Int32) then
    (gR [11] 10 h l0).bind fun x31 =>
    (gI [3] 4 h x31).bind fun x32 =>
    some x32
  else 
    some (-1000000 : Int32)
set_option maxRecDepth 20000 in
theorem ev_X11_count {G : xa_G} {h : xa_H} {l0 : Nat} {l1 : Int32} {r : Int32} (hf : f_X11_count h l0 l1 = some r) : xa_Ev G M_X11_count 2 [.ref l0, .int l1] h (some (.int r)) h := by
  refine xa_entry (by decide +kernel) (loc := [some (.ref l0), some (.int l1)]) rfl (Nat.le_of_ble_eq_true rfl) ?_
  unfold f_X11_count at hf
  obtain ⟨u0, eu0, hf⟩ := ob hf
  refine v_iload_n dX11_count_0 rfl ?_
  by_cases c1 : l1 = (0 : Int32)
  · replace hf := (if_pos c1).symm.trans hf
    refine v_tabIn dX11_count_1 (0 : Int32) c1 (by decide) (by decide) (off := 63) rfl (tgt := 64) (by decide) ?_
    refine v_aload_n dX11_count_64 rfl ?_
    obtain ⟨x2, ex2, hf⟩ := ob hf
    refine v_getR dX11_count_65 fl_11_49 ex2 ?_
    obtain ⟨x3, ex3, hf⟩ := ob hf
    refine v_getI dX11_count_68 fl_11_154 ex3 ?_
    replace hf := Option.some.inj hf
    subst hf
    exact v_iret dX11_count_71 rfl
  replace hf := (if_neg c1).symm.trans hf
  by_cases c4 : l1 = (1 : Int32)
  · replace hf := (if_pos c4).symm.trans hf
    refine v_tabIn dX11_count_1 (1 : Int32) c4 (by decide) (by decide) (off := 71) rfl (tgt := 72) (by decide) ?_
    refine v_aload_n dX11_count_72 rfl ?_
    obtain ⟨x5, ex5, hf⟩ := ob hf
    refine v_getR dX11_count_73 fl_11_49 ex5 ?_
    obtain ⟨x6, ex6, hf⟩ := ob hf
    refine v_getI dX11_count_76 fl_11_257 ex6 ?_
    replace hf := Option.some.inj hf
    subst hf
    exact v_iret dX11_count_79 rfl
  replace hf := (if_neg c4).symm.trans hf
  by_cases c7 : l1 = (2 : Int32)
  · replace hf := (if_pos c7).symm.trans hf
    refine v_tabIn dX11_count_1 (2 : Int32) c7 (by decide) (by decide) (off := 79) rfl (tgt := 80) (by decide) ?_
    refine v_aload_n dX11_count_80 rfl ?_
    obtain ⟨x8, ex8, hf⟩ := ob hf
    refine v_getR dX11_count_81 fl_11_39 ex8 ?_
    obtain ⟨x9, ex9, hf⟩ := ob hf
    refine v_getI dX11_count_84 fl_11_191 ex9 ?_
    replace hf := Option.some.inj hf
    subst hf
    exact v_iret dX11_count_87 rfl
  replace hf := (if_neg c7).symm.trans hf
  by_cases c10 : l1 = (3 : Int32)
  · replace hf := (if_pos c10).symm.trans hf
    refine v_tabIn dX11_count_1 (3 : Int32) c10 (by decide) (by decide) (off := 87) rfl (tgt := 88) (by decide) ?_
    refine v_aload_n dX11_count_88 rfl ?_
    obtain ⟨x11, ex11, hf⟩ := ob hf
    refine v_getR dX11_count_89 fl_11_43 ex11 ?_
    obtain ⟨x12, ex12, hf⟩ := ob hf
    refine v_getI dX11_count_92 fl_11_191 ex12 ?_
    replace hf := Option.some.inj hf
    subst hf
    exact v_iret dX11_count_95 rfl
  replace hf := (if_neg c10).symm.trans hf
  by_cases c13 : l1 = (4 : Int32)
  · replace hf := (if_pos c13).symm.trans hf
    refine v_tabIn dX11_count_1 (4 : Int32) c13 (by decide) (by decide) (off := 95) rfl (tgt := 96) (by decide) ?_
    refine v_aload_n dX11_count_96 rfl ?_
    obtain ⟨x14, ex14, hf⟩ := ob hf
    refine v_getI dX11_count_97 fl_11_100 ex14 ?_
    replace hf := Option.some.inj hf
    subst hf
    exact v_iret dX11_count_100 rfl
  replace hf := (if_neg c13).symm.trans hf
  by_cases c15 : l1 = (5 : Int32)
  · replace hf := (if_pos c15).symm.trans hf
    refine v_tabIn dX11_count_1 (5 : Int32) c15 (by decide) (by decide) (off := 100) rfl (tgt := 101) (by decide) ?_
    refine v_aload_n dX11_count_101 rfl ?_
    obtain ⟨x16, ex16, hf⟩ := ob hf
    refine v_getI dX11_count_102 fl_11_104 ex16 ?_
    replace hf := Option.some.inj hf
    subst hf
    exact v_iret dX11_count_105 rfl
  replace hf := (if_neg c15).symm.trans hf
  by_cases c17 : l1 = (6 : Int32)
  · replace hf := (if_pos c17).symm.trans hf
    refine v_tabIn dX11_count_1 (6 : Int32) c17 (by decide) (by decide) (off := 105) rfl (tgt := 106) (by decide) ?_
    refine v_aload_n dX11_count_106 rfl ?_
    obtain ⟨x18, ex18, hf⟩ := ob hf
    refine v_getR dX11_count_107 fl_11_49 ex18 ?_
    obtain ⟨x19, ex19, hf⟩ := ob hf
    refine v_getI dX11_count_110 fl_11_195 ex19 ?_
    replace hf := Option.some.inj hf
    subst hf
    exact v_iret dX11_count_113 rfl
  replace hf := (if_neg c17).symm.trans hf
  by_cases c20 : l1 = (7 : Int32)
  · replace hf := (if_pos c20).symm.trans hf
    refine v_tabIn dX11_count_1 (7 : Int32) c20 (by decide) (by decide) (off := 113) rfl (tgt := 114) (by decide) ?_
    refine v_aload_n dX11_count_114 rfl ?_
    obtain ⟨x21, ex21, hf⟩ := ob hf
    refine v_getR dX11_count_115 fl_11_49 ex21 ?_
    obtain ⟨x22, ex22, hf⟩ := ob hf
    refine v_getI dX11_count_118 fl_11_235 ex22 ?_
    replace hf := Option.some.inj hf
    subst hf
    exact v_iret dX11_count_121 rfl
  replace hf := (if_neg c20).symm.trans hf
  by_cases c23 : l1 = (8 : Int32)
  · replace hf := (if_pos c23).symm.trans hf
    refine v_tabIn dX11_count_1 (8 : Int32) c23 (by decide) (by decide) (off := 121) rfl (tgt := 122) (by decide) ?_
    refine v_aload_n dX11_count_122 rfl ?_
    obtain ⟨x24, ex24, hf⟩ := ob hf
    refine v_getI dX11_count_123 fl_11_107 ex24 ?_
    replace hf := Option.some.inj hf
    subst hf
    exact v_iret dX11_count_126 rfl
  replace hf := (if_neg c23).symm.trans hf
  by_cases c25 : l1 = (9 : Int32)
  · replace hf := (if_pos c25).symm.trans hf
    refine v_tabIn dX11_count_1 (9 : Int32) c25 (by decide) (by decide) (off := 126) rfl (tgt := 127) (by decide) ?_
    refine v_aload_n dX11_count_127 rfl ?_
    obtain ⟨x26, ex26, hf⟩ := ob hf
    refine v_getR dX11_count_128 fl_11_76 ex26 ?_
    obtain ⟨x27, ex27, hf⟩ := ob hf
    refine v_getI dX11_count_131 fl_11_153 ex27 ?_
    replace hf := Option.some.inj hf
    subst hf
    exact v_iret dX11_count_134 rfl
  replace hf := (if_neg c25).symm.trans hf
  by_cases c28 : l1 = (10 : Int32)
  · replace hf := (if_pos c28).symm.trans hf
    refine v_tabIn dX11_count_1 (10 : Int32) c28 (by decide) (by decide) (off := 134) rfl (tgt := 135) (by decide) ?_
    refine v_aload_n dX11_count_135 rfl ?_
    obtain ⟨q29, eq29, hf⟩ := ob hf
    refine v_callV dX11_count_136 ⟨cb_X11_logLength, ml_11_289, im_X11_logLength⟩ se_11_X11_logLength (ckf_X11_logLength eq29) (ev_X11_logLength eq29) (by decide) (As := []) rfl (st := []) rfl (Nat.le_of_ble_eq_true rfl) rfl ?_
    replace hf := Option.some.inj hf
    subst hf
    exact v_iret dX11_count_139 rfl
  replace hf := (if_neg c28).symm.trans hf
  by_cases c30 : l1 = (11 : Int32)
  · replace hf := (if_pos c30).symm.trans hf
    refine v_tabIn dX11_count_1 (11 : Int32) c30 (by decide) (by decide) (off := 139) rfl (tgt := 140) (by decide) ?_
    refine v_aload_n dX11_count_140 rfl ?_
    obtain ⟨x31, ex31, hf⟩ := ob hf
    refine v_getR dX11_count_141 fl_11_69 ex31 ?_
    obtain ⟨x32, ex32, hf⟩ := ob hf
    refine v_getI dX11_count_144 fl_11_286 ex32 ?_
    replace hf := Option.some.inj hf
    subst hf
    exact v_iret dX11_count_147 rfl
  replace hf := (if_neg c30).symm.trans hf
  refine v_tabOut dX11_count_1 (by have zc1 := tsx (n := 0) (by decide) c1; have zc4 := tsx (n := 1) (by decide) c4; have zc7 := tsx (n := 2) (by decide) c7; have zc10 := tsx (n := 3) (by decide) c10; have zc13 := tsx (n := 4) (by decide) c13; have zc15 := tsx (n := 5) (by decide) c15; have zc17 := tsx (n := 6) (by decide) c17; have zc20 := tsx (n := 7) (by decide) c20; have zc23 := tsx (n := 8) (by decide) c23; have zc25 := tsx (n := 9) (by decide) c25; have zc28 := tsx (n := 10) (by decide) c28; have zc30 := tsx (n := 11) (by decide) c30; omega) (tgt := 148) (by decide) ?_
  refine v_ldc dX11_count_148 rfl co_11_220 ?_
  replace hf := Option.some.inj hf
  subst hf
  exact v_iret dX11_count_150 rfl
theorem ckf_X11_count {h : xa_H} {l0 : Nat} {l1 : Int32} {r : Int32} (hf : f_X11_count h l0 l1 = some r) : ck [11] h l0 = some () := by
  obtain ⟨u, e, -⟩ := ob hf
  exact e
