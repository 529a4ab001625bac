def M_X11_crossAndLog : xa_M := (yX11_crossAndLog, cX11_crossAndLog, 2, none)
theorem cb_X11_crossAndLog : xa_CB M_X11_crossAndLog 1 := ⟨gws_at 890 (by decide +kernel) rfl, gws_at 109 (by decide +kernel) rfl, by decide +kernel, Nat.le_of_ble_eq_true rfl⟩
def f_X11_crossAndLog_b69 (h : xa_H) (s0 : Int32) (s1 : Int32) (s2 : Int32) (s3 : Int32) (s4 : Nat) : Option xa_H :=
  (f_X1_write h s4 s3 s2 s1 s0).bind fun q1 =>
  some q1
set_option maxRecDepth 20000 in
theorem e_X11_crossAndLog_b69 {G : xa_G} : ∀ (h : xa_H) (s0 : Int32) (s1 : Int32) (s2 : Int32) (s3 : Int32) (s4 : Nat) (r : xa_H), f_X11_crossAndLog_b69 h s0 s1 s2 s3 s4 = some r → xa_V G M_X11_crossAndLog 3 69 [none, none] [.int s0, .int s1, .int s2, .int s3, .ref s4] h none r := by
  intro h s0 s1 s2 s3 s4 r hf
  unfold f_X11_crossAndLog_b69 at hf
  obtain ⟨q1, eq1, hf⟩ := ob hf
  refine v_callV dX11_crossAndLog_69 ⟨cb_X1_write, ml_11_253, im_X1_write⟩ se_1_X1_write (ckf_X1_write eq1) (ev_X1_write eq1) (by decide) (As := [.int s3, .int s2, .int s1, .int s0]) rfl (st := []) rfl (Nat.le_of_ble_eq_true rfl) rfl ?_
  replace hf := Option.some.inj hf
  subst hf
  exact v_vret dX11_crossAndLog_72 rfl
def f_X11_crossAndLog (h : xa_H) (l0 : Nat) (l1 : Int32) : Option xa_H :=
  (ck [11] h l0).bind fun _ =>
  (gR [11] 6 h l0).bind fun x1 =>
  (f_X0_turnOver h x1 l1).bind fun q2 =>
  (gR [11] 6 q2 l0).bind fun x3 =>
  (gR [0] 3 q2 x3).bind fun x4 =>
  (aI q2 x4 l1).bind fun x5 =>
  (pI q2 x4 l1 (x5 + (1 : Int32))).bind fun h6 =>
  (gR [11] 6 h6 l0).bind fun x7 =>
  (gI [0] 8 h6 x7).bind fun x8 =>
  (xp [0] 8 h6 x7 (.int (x8 + (1 : Int32)))).bind fun h9 =>
  (gR [11] 9 h9 l0).bind fun x10 =>
  (gR [11] 6 h9 l0).bind fun x11 =>
  (gI [0] 8 h9 x11).bind fun x12 =>
  (gR [11] 6 h9 l0).bind fun x13 =>
  (f_X0_favours h9 x13).bind fun q14 =>
  (gR [11] 6 h9 l0).bind fun x15 =>
  (f_X0_levels h9 x15).bind fun q16 =>
  if q16 = (-1 : Int32) then
    f_X11_crossAndLog_b69 h9 (1 : Int32) q14 l1 x12 x10
  else
    f_X11_crossAndLog_b69 h9 (0 : Int32) q14 l1 x12 x10
set_option maxRecDepth 20000 in
theorem ev_X11_crossAndLog {G : xa_G} {h : xa_H} {l0 : Nat} {l1 : Int32} {r : xa_H} (hf : f_X11_crossAndLog h l0 l1 = some r) : xa_Ev G M_X11_crossAndLog 3 [.ref l0, .int l1] h none r := by
  refine xa_entry (by decide +kernel) (loc := [some (.ref l0), some (.int l1)]) rfl (Nat.le_of_ble_eq_true rfl) ?_
  unfold f_X11_crossAndLog at hf
  obtain ⟨u0, eu0, hf⟩ := ob hf
  refine v_aload_n dX11_crossAndLog_0 rfl ?_
  obtain ⟨x1, ex1, hf⟩ := ob hf
  refine v_getR dX11_crossAndLog_1 fl_11_49 ex1 ?_
  refine v_iload_n dX11_crossAndLog_4 rfl ?_
  obtain ⟨q2, eq2, hf⟩ := ob hf
  refine v_callV dX11_crossAndLog_5 ⟨cb_X0_turnOver, ml_11_244, im_X0_turnOver⟩ se_0_X0_turnOver (ckf_X0_turnOver eq2) (ev_X0_turnOver eq2) (by decide) (As := [.int l1]) rfl (st := []) rfl (Nat.le_of_ble_eq_true rfl) rfl ?_
  refine v_aload_n dX11_crossAndLog_8 rfl ?_
  obtain ⟨x3, ex3, hf⟩ := ob hf
  refine v_getR dX11_crossAndLog_9 fl_11_49 ex3 ?_
  obtain ⟨x4, ex4, hf⟩ := ob hf
  refine v_getR dX11_crossAndLog_12 fl_11_177 ex4 ?_
  refine v_iload_n dX11_crossAndLog_15 rfl ?_
  refine v_dup2 dX11_crossAndLog_16 rfl rfl ?_
  obtain ⟨x5, ex5, hf⟩ := ob hf
  refine v_ialoadI dX11_crossAndLog_17 ex5 ?_
  refine v_iconst dX11_crossAndLog_18 (by decide) (v := 1) ?_
  refine v_iadd dX11_crossAndLog_19 ?_
  obtain ⟨h6, eh6, hf⟩ := ob hf
  refine v_iastoreI dX11_crossAndLog_20 eh6 ?_
  refine v_aload_n dX11_crossAndLog_21 rfl ?_
  obtain ⟨x7, ex7, hf⟩ := ob hf
  refine v_getR dX11_crossAndLog_22 fl_11_49 ex7 ?_
  refine v_dup dX11_crossAndLog_25 rfl ?_
  obtain ⟨x8, ex8, hf⟩ := ob hf
  refine v_getI dX11_crossAndLog_26 fl_11_195 ex8 ?_
  refine v_iconst dX11_crossAndLog_29 (by decide) (v := 1) ?_
  refine v_iadd dX11_crossAndLog_30 ?_
  obtain ⟨h9, eh9, hf⟩ := ob hf
  refine v_put dX11_crossAndLog_31 fp_11_195 (fun z => by cases z) (fun _ => rfl) (fun _ => rfl) eh9 ?_
  refine v_aload_n dX11_crossAndLog_34 rfl ?_
  obtain ⟨x10, ex10, hf⟩ := ob hf
  refine v_getR dX11_crossAndLog_35 fl_11_62 ex10 ?_
  refine v_aload_n dX11_crossAndLog_38 rfl ?_
  obtain ⟨x11, ex11, hf⟩ := ob hf
  refine v_getR dX11_crossAndLog_39 fl_11_49 ex11 ?_
  obtain ⟨x12, ex12, hf⟩ := ob hf
  refine v_getI dX11_crossAndLog_42 fl_11_195 ex12 ?_
  refine v_iload_n dX11_crossAndLog_45 rfl ?_
  refine v_aload_n dX11_crossAndLog_46 rfl ?_
  obtain ⟨x13, ex13, hf⟩ := ob hf
  refine v_getR dX11_crossAndLog_47 fl_11_49 ex13 ?_
  obtain ⟨q14, eq14, hf⟩ := ob hf
  refine v_callV dX11_crossAndLog_50 ⟨cb_X0_favours, ml_11_247, im_X0_favours⟩ se_0_X0_favours (ckf_X0_favours eq14) (ev_X0_favours eq14) (by decide) (As := []) rfl (st := [.int l1, .int x12, .ref x10]) rfl (Nat.le_of_ble_eq_true rfl) rfl ?_
  refine v_aload_n dX11_crossAndLog_53 rfl ?_
  obtain ⟨x15, ex15, hf⟩ := ob hf
  refine v_getR dX11_crossAndLog_54 fl_11_49 ex15 ?_
  obtain ⟨q16, eq16, hf⟩ := ob hf
  refine v_callV dX11_crossAndLog_57 ⟨cb_X0_levels, ml_11_250, im_X0_levels⟩ se_0_X0_levels (ckf_X0_levels eq16) (ev_X0_levels eq16) (by decide) (As := []) rfl (st := [.int q14, .int l1, .int x12, .ref x10]) rfl (Nat.le_of_ble_eq_true rfl) rfl ?_
  refine v_iconst dX11_crossAndLog_60 (by decide) (v := -1) ?_
  refine v_icmp_ne dX11_crossAndLog_61 (tgt := 68) (by decide) (fun c17 => ?_) (fun c17 => ?_)
  · replace hf := (if_neg c17).symm.trans hf
    refine v_iconst dX11_crossAndLog_68 (by decide) (v := 0) ?_
    exact xa_weak (loc := [none, none]) trivial (e_X11_crossAndLog_b69 h9 (0 : Int32) q14 l1 x12 x10 r hf)
  · replace hf := (if_pos c17).symm.trans hf
    refine v_iconst dX11_crossAndLog_64 (by decide) (v := 1) ?_
    refine v_goto dX11_crossAndLog_65 (tgt := 69) (by decide) ?_
    exact xa_weak (loc := [none, none]) trivial (e_X11_crossAndLog_b69 h9 (1 : Int32) q14 l1 x12 x10 r hf)
theorem ckf_X11_crossAndLog {h : xa_H} {l0 : Nat} {l1 : Int32} {r : xa_H} (hf : f_X11_crossAndLog h l0 l1 = some r) : ck [11] h l0 = some () := by
  obtain ⟨u, e, -⟩ := ob hf
  exact e
def M_X11_crossFor : xa_M := (yX11_crossFor, cX11_crossFor, 3, none)
theorem cb_X11_crossFor : xa_CB M_X11_crossFor 2 := ⟨gws_at 880 (by decide +kernel) rfl, gws_at 109 (by decide +kernel) rfl, by decide +kernel, Nat.le_of_ble_eq_true rfl⟩
def f_X11_crossFor (h : xa_H) (l0 : Nat) (l1 : Int32) (l2 : Int32) : Option xa_H :=
  (ck [11] h l0).bind fun _ =>
  (gR [11] 10 h l0).bind fun x1 =>
  (gR [11] 6 h l0).bind fun x2 =>
  (f_X3_remember h x1 x2).bind fun q3 =>
  (gR [11] 6 q3 l0).bind fun x4 =>
  (gI [0] 7 q3 x4).bind fun x5 =>
  (xp [0] 7 q3 x4 (.int (x5 - l2))).bind fun h6 =>
  (f_X11_crossAndLog h6 l0 l1).bind fun q7 =>
  some q7
set_option maxRecDepth 20000 in
theorem ev_X11_crossFor {G : xa_G} {h : xa_H} {l0 : Nat} {l1 : Int32} {l2 : Int32} {r : xa_H} (hf : f_X11_crossFor h l0 l1 l2 = some r) : xa_Ev G M_X11_crossFor 4 [.ref l0, .int l1, .int l2] h none r := by
  refine xa_entry (by decide +kernel) (loc := [some (.ref l0), some (.int l1), some (.int l2)]) rfl (Nat.le_of_ble_eq_true rfl) ?_
  unfold f_X11_crossFor at hf
  obtain ⟨u0, eu0, hf⟩ := ob hf
  refine v_aload_n dX11_crossFor_0 rfl ?_
  obtain ⟨x1, ex1, hf⟩ := ob hf
  refine v_getR dX11_crossFor_1 fl_11_69 ex1 ?_
  refine v_aload_n dX11_crossFor_4 rfl ?_
  obtain ⟨x2, ex2, hf⟩ := ob hf
  refine v_getR dX11_crossFor_5 fl_11_49 ex2 ?_
  obtain ⟨q3, eq3, hf⟩ := ob hf
  refine v_callV dX11_crossFor_8 ⟨cb_X3_remember, ml_11_238, im_X3_remember⟩ se_3_X3_remember (ckf_X3_remember eq3) (ev_X3_remember eq3) (by decide) (As := [.ref x2]) rfl (st := []) rfl (Nat.le_of_ble_eq_true rfl) rfl ?_
  refine v_aload_n dX11_crossFor_11 rfl ?_
  obtain ⟨x4, ex4, hf⟩ := ob hf
  refine v_getR dX11_crossFor_12 fl_11_49 ex4 ?_
  refine v_dup dX11_crossFor_15 rfl ?_
  obtain ⟨x5, ex5, hf⟩ := ob hf
  refine v_getI dX11_crossFor_16 fl_11_235 ex5 ?_
  refine v_iload_n dX11_crossFor_19 rfl ?_
  refine v_isub dX11_crossFor_20 ?_
  obtain ⟨h6, eh6, hf⟩ := ob hf
  refine v_put dX11_crossFor_21 fp_11_235 (fun z => by cases z) (fun _ => rfl) (fun _ => rfl) eh6 ?_
  refine v_aload_n dX11_crossFor_24 rfl ?_
  refine v_iload_n dX11_crossFor_25 rfl ?_
  obtain ⟨q7, eq7, hf⟩ := ob hf
  refine v_callV dX11_crossFor_26 ⟨cb_X11_crossAndLog, ml_11_241, im_X11_crossAndLog⟩ se_11_X11_crossAndLog (ckf_X11_crossAndLog eq7) (ev_X11_crossAndLog eq7) (by decide) (As := [.int l1]) rfl (st := []) rfl (Nat.le_of_ble_eq_true rfl) rfl ?_
  replace hf := Option.some.inj hf
  subst hf
  exact v_vret dX11_crossFor_29 rfl
theorem ckf_X11_crossFor {h : xa_H} {l0 : Nat} {l1 : Int32} {l2 : Int32} {r : xa_H} (hf : f_X11_crossFor h l0 l1 l2 = some r) : ck [11] h l0 = some () := by
  obtain ⟨u, e, -⟩ := ob hf
  exact e
def M_X11_hurdleOf : xa_M := (yX11_hurdleOf, cX11_hurdleOf, 3, some .int)
theorem cb_X11_hurdleOf : xa_CB M_X11_hurdleOf 2 := ⟨gws_at 855 (by decide +kernel) rfl, gws_at 109 (by decide +kernel) rfl, by decide +kernel, Nat.le_of_ble_eq_true rfl⟩
def f_X11_hurdleOf (h : xa_H) (l0 : Nat) (l1 : Int32) (l2 : Int32) : Option Int32 :=
  (ck [11] h l0).bind fun _ =>
  (gR [11] 6 h l0).bind fun x1 =>
  (f_X0_has h x1 l1).bind fun q2 =>
  if q2 = 0 then
    some (0 : Int32)
  else
    (gR [11] 6 h l0).bind fun x4 =>
    (f_X0_isKept h x4 l1).bind fun q5 =>
    if q5 = 0 then
      (gR [11] 6 h l0).bind fun x7 =>
      (f_X0_canTurn h x7 l1).bind fun q8 =>
      if q8 = 0 then
        some (3 : Int32)
      else
        (gR [11] 6 h l0).bind fun x10 =>
        (gI [0] 7 h x10).bind fun x11 =>
        if l2 ≤ x11 then
          (gR [11] 6 h l0).bind fun x13 =>
          (gI [0] 8 h x13).bind fun x14 =>
          if x14 < (9999 : Int32) then
            some (-1 : Int32)
          else
            some (5 : Int32)
        else
          some (4 : Int32)
    else
      some (2 : Int32)
set_option maxRecDepth 20000 in
theorem ev_X11_hurdleOf {G : xa_G} {h : xa_H} {l0 : Nat} {l1 : Int32} {l2 : Int32} {r : Int32} (hf : f_X11_hurdleOf h l0 l1 l2 = some r) : xa_Ev G M_X11_hurdleOf 3 [.ref l0, .int l1, .int l2] h (some (.int r)) h := by
  refine xa_entry (by decide +kernel) (loc := [some (.ref l0), some (.int l1), some (.int l2)]) rfl (Nat.le_of_ble_eq_true rfl) ?_
  unfold f_X11_hurdleOf at hf
  obtain ⟨u0, eu0, hf⟩ := ob hf
  refine v_aload_n dX11_hurdleOf_0 rfl ?_
  obtain ⟨x1, ex1, hf⟩ := ob hf
  refine v_getR dX11_hurdleOf_1 fl_11_49 ex1 ?_
  refine v_iload_n dX11_hurdleOf_4 rfl ?_
  obtain ⟨q2, eq2, hf⟩ := ob hf
  refine v_callV dX11_hurdleOf_5 ⟨cb_X0_has, ml_11_157, im_X0_has⟩ se_0_X0_has (ckf_X0_has eq2) (ev_X0_has eq2) (by decide) (As := [.int l1]) rfl (st := []) rfl (Nat.le_of_ble_eq_true rfl) rfl ?_
  refine v_if_ne dX11_hurdleOf_8 (tgt := 13) (by decide) (fun c3 => ?_) (fun c3 => ?_)
  · replace hf := (if_neg c3).symm.trans hf
    refine v_aload_n dX11_hurdleOf_13 rfl ?_
    obtain ⟨x4, ex4, hf⟩ := ob hf
    refine v_getR dX11_hurdleOf_14 fl_11_49 ex4 ?_
    refine v_iload_n dX11_hurdleOf_17 rfl ?_
    obtain ⟨q5, eq5, hf⟩ := ob hf
    refine v_callV dX11_hurdleOf_18 ⟨cb_X0_isKept, ml_11_174, im_X0_isKept⟩ se_0_X0_isKept (ckf_X0_isKept eq5) (ev_X0_isKept eq5) (by decide) (As := [.int l1]) rfl (st := []) rfl (Nat.le_of_ble_eq_true rfl) rfl ?_
    refine v_if_eq dX11_hurdleOf_21 (tgt := 26) (by decide) (fun c6 => ?_) (fun c6 => ?_)
    · replace hf := (if_pos c6).symm.trans hf
      refine v_aload_n dX11_hurdleOf_26 rfl ?_
      obtain ⟨x7, ex7, hf⟩ := ob hf
      refine v_getR dX11_hurdleOf_27 fl_11_49 ex7 ?_
      refine v_iload_n dX11_hurdleOf_30 rfl ?_
      obtain ⟨q8, eq8, hf⟩ := ob hf
      refine v_callV dX11_hurdleOf_31 ⟨cb_X0_canTurn, ml_11_232, im_X0_canTurn⟩ se_0_X0_canTurn (ckf_X0_canTurn eq8) (ev_X0_canTurn eq8) (by decide) (As := [.int l1]) rfl (st := []) rfl (Nat.le_of_ble_eq_true rfl) rfl ?_
      refine v_if_ne dX11_hurdleOf_34 (tgt := 39) (by decide) (fun c9 => ?_) (fun c9 => ?_)
      · replace hf := (if_neg c9).symm.trans hf
        refine v_aload_n dX11_hurdleOf_39 rfl ?_
        obtain ⟨x10, ex10, hf⟩ := ob hf
        refine v_getR dX11_hurdleOf_40 fl_11_49 ex10 ?_
        obtain ⟨x11, ex11, hf⟩ := ob hf
        refine v_getI dX11_hurdleOf_43 fl_11_235 ex11 ?_
        refine v_iload_n dX11_hurdleOf_46 rfl ?_
        refine v_icmp_ge dX11_hurdleOf_47 (tgt := 52) (by decide) (fun c12 => ?_) (fun c12 => ?_)
        · replace hf := (if_pos c12).symm.trans hf
          refine v_aload_n dX11_hurdleOf_52 rfl ?_
          obtain ⟨x13, ex13, hf⟩ := ob hf
          refine v_getR dX11_hurdleOf_53 fl_11_49 ex13 ?_
          obtain ⟨x14, ex14, hf⟩ := ob hf
          refine v_getI dX11_hurdleOf_56 fl_11_195 ex14 ?_
          refine v_sipush dX11_hurdleOf_59 (by decide) (v := 9999) ?_
          refine v_icmp_lt dX11_hurdleOf_62 (tgt := 69) (by decide) (fun c15 => ?_) (fun c15 => ?_)
          · replace hf := (if_pos c15).symm.trans hf
            refine v_iconst dX11_hurdleOf_69 (by decide) (v := -1) ?_
            replace hf := Option.some.inj hf
            subst hf
            exact v_iret dX11_hurdleOf_70 rfl
          · replace hf := (if_neg c15).symm.trans hf
            refine v_iconst dX11_hurdleOf_65 (by decide) (v := 5) ?_
            refine v_goto dX11_hurdleOf_66 (tgt := 70) (by decide) ?_
            replace hf := Option.some.inj hf
            subst hf
            exact v_iret dX11_hurdleOf_70 rfl
        · replace hf := (if_neg c12).symm.trans hf
          refine v_iconst dX11_hurdleOf_50 (by decide) (v := 4) ?_
          replace hf := Option.some.inj hf
          subst hf
          exact v_iret dX11_hurdleOf_51 rfl
      · replace hf := (if_pos c9).symm.trans hf
        refine v_iconst dX11_hurdleOf_37 (by decide) (v := 3) ?_
        replace hf := Option.some.inj hf
        subst hf
        exact v_iret dX11_hurdleOf_38 rfl
    · replace hf := (if_neg c6).symm.trans hf
      refine v_iconst dX11_hurdleOf_24 (by decide) (v := 2) ?_
      replace hf := Option.some.inj hf
      subst hf
      exact v_iret dX11_hurdleOf_25 rfl
  · replace hf := (if_pos c3).symm.trans hf
    refine v_iconst dX11_hurdleOf_11 (by decide) (v := 0) ?_
    replace hf := Option.some.inj hf
    subst hf
    exact v_iret dX11_hurdleOf_12 rfl
theorem ckf_X11_hurdleOf {h : xa_H} {l0 : Nat} {l1 : Int32} {l2 : Int32} {r : Int32} (hf : f_X11_hurdleOf h l0 l1 l2 = some r) : ck [11] h l0 = some () := by
  obtain ⟨u, e, -⟩ := ob hf
  exact e
def M_X11_refuse : xa_M := (yX11_refuse, cX11_refuse, 3, some .int)
theorem cb_X11_refuse : xa_CB M_X11_refuse 2 := ⟨gws_at 876 (by decide +kernel) rfl, gws_at 109 (by decide +kernel) rfl, by decide +kernel, Nat.le_of_ble_eq_true rfl⟩
def f_X11_refuse_b20 (h : xa_H) (l2 : Int32) : Option (Int32 × xa_H) :=
  some (l2, h)
set_option maxRecDepth 20000 in
theorem e_X11_refuse_b20 {G : xa_G} : ∀ (h : xa_H) (l2 : Int32) (r : (Int32 × xa_H)), f_X11_refuse_b20 h l2 = some r → xa_V G M_X11_refuse 0 20 [none, none, some (.int l2)] [] h (some (.int r.1)) r.2 := by
  intro h l2 r hf
  unfold f_X11_refuse_b20 at hf
  refine v_iload_n dX11_refuse_20 rfl ?_
  replace hf := Option.some.inj hf
  subst hf
  exact v_iret dX11_refuse_21 rfl
def f_X11_refuse (h : xa_H) (l0 : Nat) (l1 : Int32) (l2 : Int32) : Option (Int32 × xa_H) :=
  (ck [11] h l0).bind fun _ =>
  if l1 < 0 then
    f_X11_refuse_b20 h l2
  else
    if (6 : Int32) ≤ l1 then
      f_X11_refuse_b20 h l2
    else
      (gR [11] 14 h l0).bind fun x3 =>
      (aI h x3 l1).bind fun x4 =>
      (pI h x3 l1 (x4 + (1 : Int32))).bind fun h5 =>
      f_X11_refuse_b20 h5 l2
set_option maxRecDepth 20000 in
theorem ev_X11_refuse {G : xa_G} {h : xa_H} {l0 : Nat} {l1 : Int32} {l2 : Int32} {r : (Int32 × xa_H)} (hf : f_X11_refuse h l0 l1 l2 = some r) : xa_Ev G M_X11_refuse 0 [.ref l0, .int l1, .int l2] h (some (.int r.1)) r.2 := by
  refine xa_entry (by decide +kernel) (loc := [some (.ref l0), some (.int l1), some (.int l2)]) rfl (Nat.le_of_ble_eq_true rfl) ?_
  unfold f_X11_refuse at hf
  obtain ⟨u0, eu0, hf⟩ := ob hf
  refine v_iload_n dX11_refuse_0 rfl ?_
  refine v_if_lt dX11_refuse_1 (tgt := 20) (by decide) (fun c1 => ?_) (fun c1 => ?_)
  · replace hf := (if_pos c1).symm.trans hf
    exact xa_weak (loc := [none, none, some (.int l2)]) ⟨rfl, trivial⟩ (e_X11_refuse_b20 h l2 r hf)
  · replace hf := (if_neg c1).symm.trans hf
    refine v_iload_n dX11_refuse_4 rfl ?_
    refine v_bipush dX11_refuse_5 (by decide) (v := 6) ?_
    refine v_icmp_ge dX11_refuse_7 (tgt := 20) (by decide) (fun c2 => ?_) (fun c2 => ?_)
    · replace hf := (if_pos c2).symm.trans hf
      exact xa_weak (loc := [none, none, some (.int l2)]) ⟨rfl, trivial⟩ (e_X11_refuse_b20 h l2 r hf)
    · replace hf := (if_neg c2).symm.trans hf
      refine v_aload_n dX11_refuse_10 rfl ?_
      obtain ⟨x3, ex3, hf⟩ := ob hf
      refine v_getR dX11_refuse_11 fl_11_94 ex3 ?_
      refine v_iload_n dX11_refuse_14 rfl ?_
      refine v_dup2 dX11_refuse_15 rfl rfl ?_
      obtain ⟨x4, ex4, hf⟩ := ob hf
      refine v_ialoadI dX11_refuse_16 ex4 ?_
      refine v_iconst dX11_refuse_17 (by decide) (v := 1) ?_
      refine v_iadd dX11_refuse_18 ?_
      obtain ⟨h5, eh5, hf⟩ := ob hf
      refine v_iastoreI dX11_refuse_19 eh5 ?_
      exact xa_weak (loc := [none, none, some (.int l2)]) ⟨rfl, trivial⟩ (e_X11_refuse_b20 h5 l2 r hf)
theorem ckf_X11_refuse {h : xa_H} {l0 : Nat} {l1 : Int32} {l2 : Int32} {r : (Int32 × xa_H)} (hf : f_X11_refuse h l0 l1 l2 = some r) : ck [11] h l0 = some () := by
  obtain ⟨u, e, -⟩ := ob hf
  exact e
def M_X11_cross : xa_M := (yX11_cross, cX11_cross, 4, some .int)
theorem cb_X11_cross : xa_CB M_X11_cross 1 := ⟨gws_at 836 (by decide +kernel) rfl, gws_at 109 (by decide +kernel) rfl, by decide +kernel, Nat.le_of_ble_eq_true rfl⟩
def f_X11_cross (h : xa_H) (l0 : Nat) (l1 : Int32) : Option (Int32 × xa_H) :=
  (ck [11] h l0).bind fun _ =>
  (f_X11_costOf h l0 l1).bind fun q1 =>
  (f_X11_hurdleOf q1.2 l0 l1 q1.1).bind fun q2 =>
  if q2 = (-1 : Int32) then
    (f_X11_crossFor q1.2 l0 l1 q1.1).bind fun q4 =>
    (gR [11] 6 q4 l0).bind fun x5 =>
    (gR [0] 1 q4 x5).bind fun x6 =>
    (aI q4 x6 l1).bind fun x7 =>
    some (x7, q4)
  else
    (f_X11_refuse q1.2 l0 q2 (-1 : Int32)).bind fun q8 =>
    some (q8.1, q8.2)
set_option maxRecDepth 20000 in
theorem ev_X11_cross {G : xa_G} {h : xa_H} {l0 : Nat} {l1 : Int32} {r : (Int32 × xa_H)} (hf : f_X11_cross h l0 l1 = some r) : xa_Ev G M_X11_cross 128 [.ref l0, .int l1] h (some (.int r.1)) r.2 := by
  refine xa_entry (by decide +kernel) (loc := [some (.ref l0), some (.int l1), none, none]) rfl (Nat.le_of_ble_eq_true rfl) ?_
  unfold f_X11_cross at hf
  obtain ⟨u0, eu0, hf⟩ := ob hf
  refine v_aload_n dX11_cross_0 rfl ?_
  refine v_iload_n dX11_cross_1 rfl ?_
  obtain ⟨q1, eq1, hf⟩ := ob hf
  refine v_callV dX11_cross_2 ⟨cb_X11_costOf, ml_11_186, im_X11_costOf⟩ se_11_X11_costOf (ckf_X11_costOf eq1) (ev_X11_costOf eq1) (by decide) (As := [.int l1]) rfl (st := []) rfl (Nat.le_of_ble_eq_true rfl) rfl ?_
  refine v_istore_n (i := 2) rfl dX11_cross_5 (Nat.le_of_ble_eq_true rfl) (loc' := [some (.ref l0), some (.int l1), some (.int q1.1), none]) rfl ?_
  refine v_aload_n dX11_cross_6 rfl ?_
  refine v_iload_n dX11_cross_7 rfl ?_
  refine v_iload_n dX11_cross_8 rfl ?_
  obtain ⟨q2, eq2, hf⟩ := ob hf
  refine v_callV dX11_cross_9 ⟨cb_X11_hurdleOf, ml_11_222, im_X11_hurdleOf⟩ se_11_X11_hurdleOf (ckf_X11_hurdleOf eq2) (ev_X11_hurdleOf eq2) (by decide) (As := [.int l1, .int q1.1]) rfl (st := []) rfl (Nat.le_of_ble_eq_true rfl) rfl ?_
  refine v_istore_n (i := 3) rfl dX11_cross_12 (Nat.le_of_ble_eq_true rfl) (loc' := [some (.ref l0), some (.int l1), some (.int q1.1), some (.int q2)]) rfl ?_
  refine v_iload_n dX11_cross_13 rfl ?_
  refine v_iconst dX11_cross_14 (by decide) (v := -1) ?_
  refine v_icmp_eq dX11_cross_15 (tgt := 25) (by decide) (fun c3 => ?_) (fun c3 => ?_)
  · replace hf := (if_pos c3).symm.trans hf
    refine v_aload_n dX11_cross_25 rfl ?_
    refine v_iload_n dX11_cross_26 rfl ?_
    refine v_iload_n dX11_cross_27 rfl ?_
    obtain ⟨q4, eq4, hf⟩ := ob hf
    refine v_callV dX11_cross_28 ⟨cb_X11_crossFor, ml_11_228, im_X11_crossFor⟩ se_11_X11_crossFor (ckf_X11_crossFor eq4) (ev_X11_crossFor eq4) (by decide) (As := [.int l1, .int q1.1]) rfl (st := []) rfl (Nat.le_of_ble_eq_true rfl) rfl ?_
    refine v_aload_n dX11_cross_31 rfl ?_
    obtain ⟨x5, ex5, hf⟩ := ob hf
    refine v_getR dX11_cross_32 fl_11_49 ex5 ?_
    obtain ⟨x6, ex6, hf⟩ := ob hf
    refine v_getR dX11_cross_35 fl_11_168 ex6 ?_
    refine v_iload_n dX11_cross_38 rfl ?_
    obtain ⟨x7, ex7, hf⟩ := ob hf
    refine v_ialoadI dX11_cross_39 ex7 ?_
    replace hf := Option.some.inj hf
    subst hf
    exact v_iret dX11_cross_40 rfl
  · replace hf := (if_neg c3).symm.trans hf
    refine v_aload_n dX11_cross_18 rfl ?_
    refine v_iload_n dX11_cross_19 rfl ?_
    refine v_iconst dX11_cross_20 (by decide) (v := -1) ?_
    obtain ⟨q8, eq8, hf⟩ := ob hf
    refine v_callV dX11_cross_21 ⟨cb_X11_refuse, ml_11_225, im_X11_refuse⟩ se_11_X11_refuse (ckf_X11_refuse eq8) (ev_X11_refuse eq8) (by decide) (As := [.int q2, .int (-1 : Int32)]) rfl (st := []) rfl (Nat.le_of_ble_eq_true rfl) rfl ?_
    replace hf := Option.some.inj hf
    subst hf
    exact v_iret dX11_cross_24 rfl
theorem ckf_X11_cross {h : xa_H} {l0 : Nat} {l1 : Int32} {r : (Int32 × xa_H)} (hf : f_X11_cross h l0 l1 = some r) : ck [11] h l0 = some () := by
  obtain ⟨u, e, -⟩ := ob hf
  exact e
def M_X11_drawn : xa_M := (yX11_drawn, cX11_drawn, 3, some .int)
theorem cb_X11_drawn : xa_CB M_X11_drawn 2 := ⟨gws_at 963 (by decide +kernel) rfl, gws_at 109 (by decide +kernel) rfl, by decide +kernel, Nat.le_of_ble_eq_true rfl⟩
def f_X11_drawn (h : xa_H) (l0 : Int64) (l2 : Int32) : Option Int32 :=
  if l2 ≤ 0 then
    some (0 : Int32)
  else
    if l2.toInt64 = 0 then none else
    some ((lrem (lushr l0 (33 : Int32)) l2.toInt64)).toInt32
set_option maxRecDepth 20000 in
theorem ev_X11_drawn {G : xa_G} {h : xa_H} {l0 : Int64} {l2 : Int32} {r : Int32} (hf : f_X11_drawn h l0 l2 = some r) : xa_Ev G M_X11_drawn 0 [.long l0, .int l2] h (some (.int r)) h := by
  refine xa_entry (by decide +kernel) (loc := [some (.long l0), none, some (.int l2)]) rfl (Nat.le_of_ble_eq_true rfl) ?_
  unfold f_X11_drawn at hf
  refine v_iload_n dX11_drawn_0 rfl ?_
  refine v_if_le dX11_drawn_1 (tgt := 15) (by decide) (fun c1 => ?_) (fun c1 => ?_)
  · replace hf := (if_pos c1).symm.trans hf
    refine v_iconst dX11_drawn_15 (by decide) (v := 0) ?_
    replace hf := Option.some.inj hf
    subst hf
    exact v_iret dX11_drawn_16 rfl
  · replace hf := (if_neg c1).symm.trans hf
    refine v_lload_n dX11_drawn_4 rfl ?_
    refine v_bipush dX11_drawn_5 (by decide) (v := 33) ?_
    refine w_lushr dX11_drawn_7 ?_
    refine v_iload_n dX11_drawn_8 rfl ?_
    refine v_i2l dX11_drawn_9 ?_
    by_cases z2 : l2.toInt64 = 0
    · replace hf := (if_pos z2).symm.trans hf
      cases hf
    replace hf := (if_neg z2).symm.trans hf
    refine w_lrem dX11_drawn_10 z2 ?_
    refine v_l2i dX11_drawn_11 ?_
    refine v_goto dX11_drawn_12 (tgt := 16) (by decide) ?_
    replace hf := Option.some.inj hf
    subst hf
    exact v_iret dX11_drawn_16 rfl
def M_X11_end : xa_M := (yX11_end, cX11_end, 2, some .boolean)
theorem cb_X11_end : xa_CB M_X11_end 1 := ⟨gws_at 543 (by decide +kernel) rfl, gws_at 109 (by decide +kernel) rfl, by decide +kernel, Nat.le_of_ble_eq_true rfl⟩
def f_X11_end (h : xa_H) (l0 : Nat) (l1 : Int32) : Option (Int32 × xa_H) :=
  (ck [11] h l0).bind fun _ =>
  if l1 < 0 then
    some ((0 : Int32), h)
  else
    (gI [11] 16 h l0).bind fun x2 =>
    if l1 ≤ x2 then
      (xp [11] 16 h l0 (.int l1)).bind fun h4 =>
      some ((1 : Int32), h4)
    else
      some ((0 : Int32), h)
set_option maxRecDepth 20000 in
theorem ev_X11_end {G : xa_G} {h : xa_H} {l0 : Nat} {l1 : Int32} {r : (Int32 × xa_H)} (hf : f_X11_end h l0 l1 = some r) : xa_Ev G M_X11_end 0 [.ref l0, .int l1] h (some (.int r.1)) r.2 := by
  refine xa_entry (by decide +kernel) (loc := [some (.ref l0), some (.int l1)]) rfl (Nat.le_of_ble_eq_true rfl) ?_
  unfold f_X11_end at hf
  obtain ⟨u0, eu0, hf⟩ := ob hf
  refine v_iload_n dX11_end_0 rfl ?_
  refine v_if_lt dX11_end_1 (tgt := 12) (by decide) (fun c1 => ?_) (fun c1 => ?_)
  · replace hf := (if_pos c1).symm.trans hf
    refine v_iconst dX11_end_12 (by decide) (v := 0) ?_
    replace hf := Option.some.inj hf
    subst hf
    exact v_zret dX11_end_13 rfl (by decide)
  · replace hf := (if_neg c1).symm.trans hf
    refine v_iload_n dX11_end_4 rfl ?_
    refine v_aload_n dX11_end_5 rfl ?_
    obtain ⟨x2, ex2, hf⟩ := ob hf
    refine v_getI dX11_end_6 fl_11_100 ex2 ?_
    refine v_icmp_le dX11_end_9 (tgt := 14) (by decide) (fun c3 => ?_) (fun c3 => ?_)
    · replace hf := (if_pos c3).symm.trans hf
      refine v_aload_n dX11_end_14 rfl ?_
      refine v_iload_n dX11_end_15 rfl ?_
      obtain ⟨h4, eh4, hf⟩ := ob hf
      refine v_put dX11_end_16 fp_11_100 (fun z => by cases z) (fun _ => rfl) (fun _ => rfl) eh4 ?_
      refine v_iconst dX11_end_19 (by decide) (v := 1) ?_
      replace hf := Option.some.inj hf
      subst hf
      exact v_zret dX11_end_20 rfl (by decide)
    · replace hf := (if_neg c3).symm.trans hf
      refine v_iconst dX11_end_12 (by decide) (v := 0) ?_
      replace hf := Option.some.inj hf
      subst hf
      exact v_zret dX11_end_13 rfl (by decide)
theorem ckf_X11_end {h : xa_H} {l0 : Nat} {l1 : Int32} {r : (Int32 × xa_H)} (hf : f_X11_end h l0 l1 = some r) : ck [11] h l0 = some () := by
  obtain ⟨u, e, -⟩ := ob hf
  exact e
def M_X11_fault : xa_M := (yX11_fault, cX11_fault, 2, some .int)
theorem cb_X11_fault : xa_CB M_X11_fault 1 := ⟨gws_at 547 (by decide +kernel) rfl, gws_at 109 (by decide +kernel) rfl, by decide +kernel, Nat.le_of_ble_eq_true rfl⟩
def f_X11_fault (h : xa_H) (l0 : Nat) (l1 : Int32) : Option (Int32 × xa_H) :=
  (ck [11] h l0).bind fun _ =>
  if l1 = (0 : Int32) then
    (gR [11] 1 h l0).bind fun x2 =>
    (gR [11] 0 h l0).bind fun x3 =>
    (gI [11] 16 h l0).bind fun x4 =>
    (f_X9_read h x2 x3 x4).bind fun q5 =>
    some (q5.1, q5.2)
  else if l1 = (1 : Int32) then
    (gR [11] 2 h l0).bind fun x7 =>
    (gR [11] 0 h l0).bind fun x8 =>
    (gI [11] 16 h l0).bind fun x9 =>
    (f_X2_read h x7 x8 x9).bind fun q10 =>
    some (q10.1, q10.2)
  else if l1 = (2 : Int32) then
    (gR [11] 3 h l0).bind fun x12 =>
    (gR [11] 0 h l0).bind fun x13 =>
    (gI [11] 16 h l0).bind fun x14 =>
    (f_X8_read h x12 x13 x14).bind fun q15 =>
    some (q15.1, q15.2)
  else 
    some ((-2 : Int32), h)
set_option maxRecDepth 20000 in
theorem ev_X11_fault {G : xa_G} {h : xa_H} {l0 : Nat} {l1 : Int32} {r : (Int32 × xa_H)} (hf : f_X11_fault h l0 l1 = some r) : xa_Ev G M_X11_fault 127 [.ref l0, .int l1] h (some (.int r.1)) r.2 := by
  refine xa_entry (by decide +kernel) (loc := [some (.ref l0), some (.int l1)]) rfl (Nat.le_of_ble_eq_true rfl) ?_
  unfold f_X11_fault at hf
  obtain ⟨u0, eu0, hf⟩ := ob hf
  refine v_iload_n dX11_fault_0 rfl ?_
  by_cases c1 : l1 = (0 : Int32)
  · replace hf := (if_pos c1).symm.trans hf
    refine v_tabIn dX11_fault_1 (0 : Int32) c1 (by decide) (by decide) (off := 27) rfl (tgt := 28) (by decide) ?_
    refine v_aload_n dX11_fault_28 rfl ?_
    obtain ⟨x2, ex2, hf⟩ := ob hf
    refine v_getR dX11_fault_29 fl_11_16 ex2 ?_
    refine v_aload_n dX11_fault_32 rfl ?_
    obtain ⟨x3, ex3, hf⟩ := ob hf
    refine v_getR dX11_fault_33 fl_11_9 ex3 ?_
    refine v_aload_n dX11_fault_36 rfl ?_
    obtain ⟨x4, ex4, hf⟩ := ob hf
    refine v_getI dX11_fault_37 fl_11_100 ex4 ?_
    obtain ⟨q5, eq5, hf⟩ := ob hf
    refine v_callV dX11_fault_40 ⟨cb_X9_read, ml_11_117, im_X9_read⟩ se_9_X9_read (ckf_X9_read eq5) (ev_X9_read eq5) (by decide) (As := [.ref x3, .int x4]) rfl (st := []) rfl (Nat.le_of_ble_eq_true rfl) rfl ?_
    replace hf := Option.some.inj hf
    subst hf
    exact v_iret dX11_fault_43 rfl
  replace hf := (if_neg c1).symm.trans hf
  by_cases c6 : l1 = (1 : Int32)
  · replace hf := (if_pos c6).symm.trans hf
    refine v_tabIn dX11_fault_1 (1 : Int32) c6 (by decide) (by decide) (off := 43) rfl (tgt := 44) (by decide) ?_
    refine v_aload_n dX11_fault_44 rfl ?_
    obtain ⟨x7, ex7, hf⟩ := ob hf
    refine v_getR dX11_fault_45 fl_11_23 ex7 ?_
    refine v_aload_n dX11_fault_48 rfl ?_
    obtain ⟨x8, ex8, hf⟩ := ob hf
    refine v_getR dX11_fault_49 fl_11_9 ex8 ?_
    refine v_aload_n dX11_fault_52 rfl ?_
    obtain ⟨x9, ex9, hf⟩ := ob hf
    refine v_getI dX11_fault_53 fl_11_100 ex9 ?_
    obtain ⟨q10, eq10, hf⟩ := ob hf
    refine v_callV dX11_fault_56 ⟨cb_X2_read, ml_11_121, im_X2_read⟩ se_2_X2_read (ckf_X2_read eq10) (ev_X2_read eq10) (by decide) (As := [.ref x8, .int x9]) rfl (st := []) rfl (Nat.le_of_ble_eq_true rfl) rfl ?_
    replace hf := Option.some.inj hf
    subst hf
    exact v_iret dX11_fault_59 rfl
  replace hf := (if_neg c6).symm.trans hf
  by_cases c11 : l1 = (2 : Int32)
  · replace hf := (if_pos c11).symm.trans hf
    refine v_tabIn dX11_fault_1 (2 : Int32) c11 (by decide) (by decide) (off := 59) rfl (tgt := 60) (by decide) ?_
    refine v_aload_n dX11_fault_60 rfl ?_
    obtain ⟨x12, ex12, hf⟩ := ob hf
    refine v_getR dX11_fault_61 fl_11_30 ex12 ?_
    refine v_aload_n dX11_fault_64 rfl ?_
    obtain ⟨x13, ex13, hf⟩ := ob hf
    refine v_getR dX11_fault_65 fl_11_9 ex13 ?_
    refine v_aload_n dX11_fault_68 rfl ?_
    obtain ⟨x14, ex14, hf⟩ := ob hf
    refine v_getI dX11_fault_69 fl_11_100 ex14 ?_
    obtain ⟨q15, eq15, hf⟩ := ob hf
    refine v_callV dX11_fault_72 ⟨cb_X8_read, ml_11_122, im_X8_read⟩ se_8_X8_read (ckf_X8_read eq15) (ev_X8_read eq15) (by decide) (As := [.ref x13, .int x14]) rfl (st := []) rfl (Nat.le_of_ble_eq_true rfl) rfl ?_
    replace hf := Option.some.inj hf
    subst hf
    exact v_iret dX11_fault_75 rfl
  replace hf := (if_neg c11).symm.trans hf
  refine v_tabOut dX11_fault_1 (by have zc1 := tsx (n := 0) (by decide) c1; have zc6 := tsx (n := 1) (by decide) c6; have zc11 := tsx (n := 2) (by decide) c11; omega) (tgt := 76) (by decide) ?_
  refine v_bipush dX11_fault_76 (by decide) (v := -2) ?_
  replace hf := Option.some.inj hf
  subst hf
  exact v_iret dX11_fault_78 rfl
theorem ckf_X11_fault {h : xa_H} {l0 : Nat} {l1 : Int32} {r : (Int32 × xa_H)} (hf : f_X11_fault h l0 l1 = some r) : ck [11] h l0 = some () := by
  obtain ⟨u, e, -⟩ := ob hf
  exact e
def M_X11_feed : xa_M := (yX11_feed, cX11_feed, 7, some .int)
theorem cb_X11_feed : xa_CB M_X11_feed 5 := ⟨gws_at 532 (by decide +kernel) rfl, gws_at 109 (by decide +kernel) rfl, by decide +kernel, Nat.le_of_ble_eq_true rfl⟩
def f_X11_feed (h : xa_H) (l0 : Nat) (l1 : Int32) (l2 : Int32) (l3 : Int32) (l4 : Int32) (l5 : Int32) : Option (Int32 × xa_H) :=
  (ck [11] h l0).bind fun _ =>
  (f_X11_bytesIn h l1).bind fun q1 =>
  (f_X11_bytesIn h l2).bind fun q2 =>
  (f_X11_bytesIn h l3).bind fun q3 =>
  (f_X11_bytesIn h l4).bind fun q4 =>
  (f_X11_bytesIn h l5).bind fun q5 =>
  (gI [11] 16 h l0).bind fun x6 =>
  if (x6 + ((((q1 + q2) + q3) + q4) + q5)) ≤ (240 : Int32) then
    (f_X11_append h l0 l1).bind fun q8 =>
    (f_X11_append q8 l0 l2).bind fun q9 =>
    (f_X11_append q9 l0 l3).bind fun q10 =>
    (f_X11_append q10 l0 l4).bind fun q11 =>
    (f_X11_append q11 l0 l5).bind fun q12 =>
    (gI [11] 16 q12 l0).bind fun x13 =>
    some (x13, q12)
  else
    some ((-1 : Int32), h)
set_option maxRecDepth 20000 in
theorem ev_X11_feed {G : xa_G} {h : xa_H} {l0 : Nat} {l1 : Int32} {l2 : Int32} {l3 : Int32} {l4 : Int32} {l5 : Int32} {r : (Int32 × xa_H)} (hf : f_X11_feed h l0 l1 l2 l3 l4 l5 = some r) : xa_Ev G M_X11_feed 1 [.ref l0, .int l1, .int l2, .int l3, .int l4, .int l5] h (some (.int r.1)) r.2 := by
  refine xa_entry (by decide +kernel) (loc := [some (.ref l0), some (.int l1), some (.int l2), some (.int l3), some (.int l4), some (.int l5), none]) rfl (Nat.le_of_ble_eq_true rfl) ?_
  unfold f_X11_feed at hf
  obtain ⟨u0, eu0, hf⟩ := ob hf
  refine v_iload_n dX11_feed_0 rfl ?_
  obtain ⟨q1, eq1, hf⟩ := ob hf
  refine v_callS dX11_feed_1 ⟨cb_X11_bytesIn, ml_11_110, sm_X11_bytesIn⟩ (ev_X11_bytesIn eq1) (by decide) (As := [.int l1]) rfl (st := []) rfl (Nat.le_of_ble_eq_true rfl) rfl ?_
  refine v_iload_n dX11_feed_4 rfl ?_
  obtain ⟨q2, eq2, hf⟩ := ob hf
  refine v_callS dX11_feed_5 ⟨cb_X11_bytesIn, ml_11_110, sm_X11_bytesIn⟩ (ev_X11_bytesIn eq2) (by decide) (As := [.int l2]) rfl (st := [.int q1]) rfl (Nat.le_of_ble_eq_true rfl) rfl ?_
  refine v_iadd dX11_feed_8 ?_
  refine v_iload_n dX11_feed_9 rfl ?_
  obtain ⟨q3, eq3, hf⟩ := ob hf
  refine v_callS dX11_feed_10 ⟨cb_X11_bytesIn, ml_11_110, sm_X11_bytesIn⟩ (ev_X11_bytesIn eq3) (by decide) (As := [.int l3]) rfl (st := [.int (q1 + q2)]) rfl (Nat.le_of_ble_eq_true rfl) rfl ?_
  refine v_iadd dX11_feed_13 ?_
  refine v_iload dX11_feed_14 rfl ?_
  obtain ⟨q4, eq4, hf⟩ := ob hf
  refine v_callS dX11_feed_16 ⟨cb_X11_bytesIn, ml_11_110, sm_X11_bytesIn⟩ (ev_X11_bytesIn eq4) (by decide) (As := [.int l4]) rfl (st := [.int ((q1 + q2) + q3)]) rfl (Nat.le_of_ble_eq_true rfl) rfl ?_
  refine v_iadd dX11_feed_19 ?_
  refine v_iload dX11_feed_20 rfl ?_
  obtain ⟨q5, eq5, hf⟩ := ob hf
  refine v_callS dX11_feed_22 ⟨cb_X11_bytesIn, ml_11_110, sm_X11_bytesIn⟩ (ev_X11_bytesIn eq5) (by decide) (As := [.int l5]) rfl (st := [.int (((q1 + q2) + q3) + q4)]) rfl (Nat.le_of_ble_eq_true rfl) rfl ?_
  refine v_iadd dX11_feed_25 ?_
  refine v_istore dX11_feed_26 (Nat.le_of_ble_eq_true rfl) (loc' := [some (.ref l0), some (.int l1), some (.int l2), some (.int l3), some (.int l4), some (.int l5), some (.int ((((q1 + q2) + q3) + q4) + q5))]) rfl ?_
  refine v_aload_n dX11_feed_28 rfl ?_
  obtain ⟨x6, ex6, hf⟩ := ob hf
  refine v_getI dX11_feed_29 fl_11_100 ex6 ?_
  refine v_iload dX11_feed_32 rfl ?_
  refine v_iadd dX11_feed_34 ?_
  refine v_sipush dX11_feed_35 (by decide) (v := 240) ?_
  refine v_icmp_le dX11_feed_38 (tgt := 43) (by decide) (fun c7 => ?_) (fun c7 => ?_)
  · replace hf := (if_pos c7).symm.trans hf
    refine v_aload_n dX11_feed_43 rfl ?_
    refine v_iload_n dX11_feed_44 rfl ?_
    obtain ⟨q8, eq8, hf⟩ := ob hf
    refine v_callV dX11_feed_45 ⟨cb_X11_append, ml_11_114, im_X11_append⟩ se_11_X11_append (ckf_X11_append eq8) (ev_X11_append eq8) (by decide) (As := [.int l1]) rfl (st := []) rfl (Nat.le_of_ble_eq_true rfl) rfl ?_
    refine v_aload_n dX11_feed_48 rfl ?_
    refine v_iload_n dX11_feed_49 rfl ?_
    obtain ⟨q9, eq9, hf⟩ := ob hf
    refine v_callV dX11_feed_50 ⟨cb_X11_append, ml_11_114, im_X11_append⟩ se_11_X11_append (ckf_X11_append eq9) (ev_X11_append eq9) (by decide) (As := [.int l2]) rfl (st := []) rfl (Nat.le_of_ble_eq_true rfl) rfl ?_
    refine v_aload_n dX11_feed_53 rfl ?_
    refine v_iload_n dX11_feed_54 rfl ?_
    obtain ⟨q10, eq10, hf⟩ := ob hf
    refine v_callV dX11_feed_55 ⟨cb_X11_append, ml_11_114, im_X11_append⟩ se_11_X11_append (ckf_X11_append eq10) (ev_X11_append eq10) (by decide) (As := [.int l3]) rfl (st := []) rfl (Nat.le_of_ble_eq_true rfl) rfl ?_
    refine v_aload_n dX11_feed_58 rfl ?_
    refine v_iload dX11_feed_59 rfl ?_
    obtain ⟨q11, eq11, hf⟩ := ob hf
    refine v_callV dX11_feed_61 ⟨cb_X11_append, ml_11_114, im_X11_append⟩ se_11_X11_append (ckf_X11_append eq11) (ev_X11_append eq11) (by decide) (As := [.int l4]) rfl (st := []) rfl (Nat.le_of_ble_eq_true rfl) rfl ?_
    refine v_aload_n dX11_feed_64 rfl ?_
    refine v_iload dX11_feed_65 rfl ?_
    obtain ⟨q12, eq12, hf⟩ := ob hf
    refine v_callV dX11_feed_67 ⟨cb_X11_append, ml_11_114, im_X11_append⟩ se_11_X11_append (ckf_X11_append eq12) (ev_X11_append eq12) (by decide) (As := [.int l5]) rfl (st := []) rfl (Nat.le_of_ble_eq_true rfl) rfl ?_
    refine v_aload_n dX11_feed_70 rfl ?_
    obtain ⟨x13, ex13, hf⟩ := ob hf
    refine v_getI dX11_feed_71 fl_11_100 ex13 ?_
    replace hf := Option.some.inj hf
    subst hf
    exact v_iret dX11_feed_74 rfl
  · replace hf := (if_neg c7).symm.trans hf
    refine v_iconst dX11_feed_41 (by decide) (v := -1) ?_
    replace hf := Option.some.inj hf
    subst hf
    exact v_iret dX11_feed_42 rfl
theorem ckf_X11_feed {h : xa_H} {l0 : Nat} {l1 : Int32} {l2 : Int32} {l3 : Int32} {l4 : Int32} {l5 : Int32} {r : (Int32 × xa_H)} (hf : f_X11_feed h l0 l1 l2 l3 l4 l5 = some r) : ck [11] h l0 = some () := by
  obtain ⟨u, e, -⟩ := ob hf
  exact e
def M_X11_fewest : xa_M := (yX11_fewest, cX11_fewest, 3, some .int)
theorem cb_X11_fewest : xa_CB M_X11_fewest 2 := ⟨gws_at 1073 (by decide +kernel) rfl, gws_at 109 (by decide +kernel) rfl, by decide +kernel, Nat.le_of_ble_eq_true rfl⟩
def f_X11_fewest (h : xa_H) (l0 : Nat) (l1 : Int32) (l2 : Int32) : Option (Int32 × xa_H) :=
  (ck [11] h l0).bind fun _ =>
  (gR [11] 6 h l0).bind fun x1 =>
  (gI [0] 4 h x1).bind fun x2 =>
  if x2 = 0 then
    some ((-1 : Int32), h)
  else
    if l1 < 0 then
      some ((-1 : Int32), h)
    else
      if (4 : Int32) < l1 then
        some ((-1 : Int32), h)
      else
        if l2 < 0 then
          some ((-1 : Int32), h)
        else
          if l2 ≤ (1 : Int32) then
            (gR [11] 12 h l0).bind fun x8 =>
            (gR [11] 6 h l0).bind fun x9 =>
            (f_X10_search h x8 x9 l1 (2 : Int32)).bind fun q10 =>
            if l2 = 0 then
              (gR [11] 12 q10 l0).bind fun x14 =>
              (gI [10] 8 q10 x14).bind fun x15 =>
              some (x15, q10)
            else
              (gR [11] 12 q10 l0).bind fun x12 =>
              (gI [10] 10 q10 x12).bind fun x13 =>
              some (x13, q10)
          else
            some ((-1 : Int32), h)
set_option maxRecDepth 20000 in
theorem ev_X11_fewest {G : xa_G} {h : xa_H} {l0 : Nat} {l1 : Int32} {l2 : Int32} {r : (Int32 × xa_H)} (hf : f_X11_fewest h l0 l1 l2 = some r) : xa_Ev G M_X11_fewest 14 [.ref l0, .int l1, .int l2] h (some (.int r.1)) r.2 := by
  refine xa_entry (by decide +kernel) (loc := [some (.ref l0), some (.int l1), some (.int l2)]) rfl (Nat.le_of_ble_eq_true rfl) ?_
  unfold f_X11_fewest at hf
  obtain ⟨u0, eu0, hf⟩ := ob hf
  refine v_aload_n dX11_fewest_0 rfl ?_
  obtain ⟨x1, ex1, hf⟩ := ob hf
  refine v_getR dX11_fewest_1 fl_11_49 ex1 ?_
  obtain ⟨x2, ex2, hf⟩ := ob hf
  refine v_getI dX11_fewest_4 fl_11_154 ex2 ?_
  refine v_if_eq dX11_fewest_7 (tgt := 28) (by decide) (fun c3 => ?_) (fun c3 => ?_)
  · replace hf := (if_pos c3).symm.trans hf
    refine v_iconst dX11_fewest_28 (by decide) (v := -1) ?_
    replace hf := Option.some.inj hf
    subst hf
    exact v_iret dX11_fewest_29 rfl
  · replace hf := (if_neg c3).symm.trans hf
    refine v_iload_n dX11_fewest_10 rfl ?_
    refine v_if_lt dX11_fewest_11 (tgt := 28) (by decide) (fun c4 => ?_) (fun c4 => ?_)
    · replace hf := (if_pos c4).symm.trans hf
      refine v_iconst dX11_fewest_28 (by decide) (v := -1) ?_
      replace hf := Option.some.inj hf
      subst hf
      exact v_iret dX11_fewest_29 rfl
    · replace hf := (if_neg c4).symm.trans hf
      refine v_iload_n dX11_fewest_14 rfl ?_
      refine v_iconst dX11_fewest_15 (by decide) (v := 4) ?_
      refine v_icmp_gt dX11_fewest_16 (tgt := 28) (by decide) (fun c5 => ?_) (fun c5 => ?_)
      · replace hf := (if_pos c5).symm.trans hf
        refine v_iconst dX11_fewest_28 (by decide) (v := -1) ?_
        replace hf := Option.some.inj hf
        subst hf
        exact v_iret dX11_fewest_29 rfl
      · replace hf := (if_neg c5).symm.trans hf
        refine v_iload_n dX11_fewest_19 rfl ?_
        refine v_if_lt dX11_fewest_20 (tgt := 28) (by decide) (fun c6 => ?_) (fun c6 => ?_)
        · replace hf := (if_pos c6).symm.trans hf
          refine v_iconst dX11_fewest_28 (by decide) (v := -1) ?_
          replace hf := Option.some.inj hf
          subst hf
          exact v_iret dX11_fewest_29 rfl
        · replace hf := (if_neg c6).symm.trans hf
          refine v_iload_n dX11_fewest_23 rfl ?_
          refine v_iconst dX11_fewest_24 (by decide) (v := 1) ?_
          refine v_icmp_le dX11_fewest_25 (tgt := 30) (by decide) (fun c7 => ?_) (fun c7 => ?_)
          · replace hf := (if_pos c7).symm.trans hf
            refine v_aload_n dX11_fewest_30 rfl ?_
            obtain ⟨x8, ex8, hf⟩ := ob hf
            refine v_getR dX11_fewest_31 fl_11_83 ex8 ?_
            refine v_aload_n dX11_fewest_34 rfl ?_
            obtain ⟨x9, ex9, hf⟩ := ob hf
            refine v_getR dX11_fewest_35 fl_11_49 ex9 ?_
            refine v_iload_n dX11_fewest_38 rfl ?_
            refine v_iconst dX11_fewest_39 (by decide) (v := 2) ?_
            obtain ⟨q10, eq10, hf⟩ := ob hf
            refine v_callV dX11_fewest_40 ⟨cb_X10_search, ml_11_314, im_X10_search⟩ se_10_X10_search (ckf_X10_search eq10) (ev_X10_search eq10) (by decide) (As := [.ref x9, .int l1, .int (2 : Int32)]) rfl (st := []) rfl (Nat.le_of_ble_eq_true rfl) rfl ?_
            refine v_iload_n dX11_fewest_43 rfl ?_
            refine v_if_ne dX11_fewest_44 (tgt := 57) (by decide) (fun c11 => ?_) (fun c11 => ?_)
            · replace hf := (if_neg c11).symm.trans hf
              refine v_aload_n dX11_fewest_57 rfl ?_
              obtain ⟨x12, ex12, hf⟩ := ob hf
              refine v_getR dX11_fewest_58 fl_11_83 ex12 ?_
              obtain ⟨x13, ex13, hf⟩ := ob hf
              refine v_getI dX11_fewest_61 fl_11_327 ex13 ?_
              replace hf := Option.some.inj hf
              subst hf
              exact v_iret dX11_fewest_64 rfl
            · replace hf := (if_pos c11).symm.trans hf
              refine v_aload_n dX11_fewest_47 rfl ?_
              obtain ⟨x14, ex14, hf⟩ := ob hf
              refine v_getR dX11_fewest_48 fl_11_83 ex14 ?_
              obtain ⟨x15, ex15, hf⟩ := ob hf
              refine v_getI dX11_fewest_51 fl_11_321 ex15 ?_
              refine v_goto dX11_fewest_54 (tgt := 64) (by decide) ?_
              replace hf := Option.some.inj hf
              subst hf
              exact v_iret dX11_fewest_64 rfl
          · replace hf := (if_neg c7).symm.trans hf
            refine v_iconst dX11_fewest_28 (by decide) (v := -1) ?_
            replace hf := Option.some.inj hf
            subst hf
            exact v_iret dX11_fewest_29 rfl
theorem ckf_X11_fewest {h : xa_H} {l0 : Nat} {l1 : Int32} {l2 : Int32} {r : (Int32 × xa_H)} (hf : f_X11_fewest h l0 l1 l2 = some r) : ck [11] h l0 = some () := by
  obtain ⟨u, e, -⟩ := ob hf
  exact e
def M_X11_forgives : xa_M := (yX11_forgives, cX11_forgives, 4, some .int)
theorem cb_X11_forgives : xa_CB M_X11_forgives 2 := ⟨gws_at 939 (by decide +kernel) rfl, gws_at 109 (by decide +kernel) rfl, by decide +kernel, Nat.le_of_ble_eq_true rfl⟩
def f_X11_forgives_b22 (h : xa_H) (l0 : Nat) : Option (Int32 × xa_H) :=
  (f_X11_refuse h l0 (0 : Int32) (-1000000 : Int32)).bind fun q1 =>
  some (q1.1, q1.2)
set_option maxRecDepth 20000 in
theorem e_X11_forgives_b22 {G : xa_G} : ∀ (h : xa_H) (l0 : Nat) (r : (Int32 × xa_H)), f_X11_forgives_b22 h l0 = some r → xa_V G M_X11_forgives 3 22 [some (.ref l0), none, none, none] [] h (some (.int r.1)) r.2 := by
  intro h l0 r hf
  unfold f_X11_forgives_b22 at hf
  refine v_aload_n dX11_forgives_22 rfl ?_
  refine v_iconst dX11_forgives_23 (by decide) (v := 0) ?_
  refine v_ldc dX11_forgives_24 rfl co_11_220 ?_
  obtain ⟨q1, eq1, hf⟩ := ob hf
  refine v_callV dX11_forgives_26 ⟨cb_X11_refuse, ml_11_225, im_X11_refuse⟩ se_11_X11_refuse (ckf_X11_refuse eq1) (ev_X11_refuse eq1) (by decide) (As := [.int (0 : Int32), .int (-1000000 : Int32)]) rfl (st := []) rfl (Nat.le_of_ble_eq_true rfl) rfl ?_
  replace hf := Option.some.inj hf
  subst hf
  exact v_iret dX11_forgives_29 rfl
def f_X11_forgives (h : xa_H) (l0 : Nat) (l1 : Int32) (l2 : Int32) : Option (Int32 × xa_H) :=
  (ck [11] h l0).bind fun _ =>
  (gR [11] 6 h l0).bind fun x1 =>
  (f_X0_has h x1 l1).bind fun q2 =>
  if q2 = 0 then
    f_X11_forgives_b22 h l0
  else
    (gR [11] 6 h l0).bind fun x4 =>
    (f_X0_has h x4 l2).bind fun q5 =>
    if q5 = 0 then
      f_X11_forgives_b22 h l0
    else
      if l1 = l2 then
        (f_X11_refuse h l0 (1 : Int32) (-1000000 : Int32)).bind fun q17 =>
        some (q17.1, q17.2)
      else
        (gR [11] 6 h l0).bind fun x8 =>
        (f_X0_debt h x8 l1 l2).bind fun q9 =>
        if q9 = 0 then
          (f_X11_refuse h l0 (2 : Int32) (-1000000 : Int32)).bind fun q16 =>
          some (q16.1, q16.2)
        else
          (gR [11] 10 h l0).bind fun x11 =>
          (gR [11] 6 h l0).bind fun x12 =>
          (f_X3_remember h x11 x12).bind fun q13 =>
          (gR [11] 6 q13 l0).bind fun x14 =>
          (f_X0_setDebt q13 x14 l1 l2 (0 : Int32)).bind fun q15 =>
          some (q9, q15)
set_option maxRecDepth 20000 in
theorem ev_X11_forgives {G : xa_G} {h : xa_H} {l0 : Nat} {l1 : Int32} {l2 : Int32} {r : (Int32 × xa_H)} (hf : f_X11_forgives h l0 l1 l2 = some r) : xa_Ev G M_X11_forgives 3 [.ref l0, .int l1, .int l2] h (some (.int r.1)) r.2 := by
  refine xa_entry (by decide +kernel) (loc := [some (.ref l0), some (.int l1), some (.int l2), none]) rfl (Nat.le_of_ble_eq_true rfl) ?_
  unfold f_X11_forgives at hf
  obtain ⟨u0, eu0, hf⟩ := ob hf
  refine v_aload_n dX11_forgives_0 rfl ?_
  obtain ⟨x1, ex1, hf⟩ := ob hf
  refine v_getR dX11_forgives_1 fl_11_49 ex1 ?_
  refine v_iload_n dX11_forgives_4 rfl ?_
  obtain ⟨q2, eq2, hf⟩ := ob hf
  refine v_callV dX11_forgives_5 ⟨cb_X0_has, ml_11_157, im_X0_has⟩ se_0_X0_has (ckf_X0_has eq2) (ev_X0_has eq2) (by decide) (As := [.int l1]) rfl (st := []) rfl (Nat.le_of_ble_eq_true rfl) rfl ?_
  refine v_if_eq dX11_forgives_8 (tgt := 22) (by decide) (fun c3 => ?_) (fun c3 => ?_)
  · replace hf := (if_pos c3).symm.trans hf
    exact xa_weak (loc := [some (.ref l0), none, none, none]) ⟨rfl, trivial⟩ (e_X11_forgives_b22 h l0 r hf)
  · replace hf := (if_neg c3).symm.trans hf
    refine v_aload_n dX11_forgives_11 rfl ?_
    obtain ⟨x4, ex4, hf⟩ := ob hf
    refine v_getR dX11_forgives_12 fl_11_49 ex4 ?_
    refine v_iload_n dX11_forgives_15 rfl ?_
    obtain ⟨q5, eq5, hf⟩ := ob hf
    refine v_callV dX11_forgives_16 ⟨cb_X0_has, ml_11_157, im_X0_has⟩ se_0_X0_has (ckf_X0_has eq5) (ev_X0_has eq5) (by decide) (As := [.int l2]) rfl (st := []) rfl (Nat.le_of_ble_eq_true rfl) rfl ?_
    refine v_if_ne dX11_forgives_19 (tgt := 30) (by decide) (fun c6 => ?_) (fun c6 => ?_)
    · replace hf := (if_neg c6).symm.trans hf
      refine v_iload_n dX11_forgives_30 rfl ?_
      refine v_iload_n dX11_forgives_31 rfl ?_
      refine v_icmp_ne dX11_forgives_32 (tgt := 43) (by decide) (fun c7 => ?_) (fun c7 => ?_)
      · replace hf := (if_neg c7).symm.trans hf
        refine v_aload_n dX11_forgives_43 rfl ?_
        obtain ⟨x8, ex8, hf⟩ := ob hf
        refine v_getR dX11_forgives_44 fl_11_49 ex8 ?_
        refine v_iload_n dX11_forgives_47 rfl ?_
        refine v_iload_n dX11_forgives_48 rfl ?_
        obtain ⟨q9, eq9, hf⟩ := ob hf
        refine v_callV dX11_forgives_49 ⟨cb_X0_debt, ml_11_217, im_X0_debt⟩ se_0_X0_debt (ckf_X0_debt eq9) (ev_X0_debt eq9) (by decide) (As := [.int l1, .int l2]) rfl (st := []) rfl (Nat.le_of_ble_eq_true rfl) rfl ?_
        refine v_istore_n (i := 3) rfl dX11_forgives_52 (Nat.le_of_ble_eq_true rfl) (loc' := [some (.ref l0), some (.int l1), some (.int l2), some (.int q9)]) rfl ?_
        refine v_iload_n dX11_forgives_53 rfl ?_
        refine v_if_ne dX11_forgives_54 (tgt := 65) (by decide) (fun c10 => ?_) (fun c10 => ?_)
        · replace hf := (if_neg c10).symm.trans hf
          refine v_aload_n dX11_forgives_65 rfl ?_
          obtain ⟨x11, ex11, hf⟩ := ob hf
          refine v_getR dX11_forgives_66 fl_11_69 ex11 ?_
          refine v_aload_n dX11_forgives_69 rfl ?_
          obtain ⟨x12, ex12, hf⟩ := ob hf
          refine v_getR dX11_forgives_70 fl_11_49 ex12 ?_
          obtain ⟨q13, eq13, hf⟩ := ob hf
          refine v_callV dX11_forgives_73 ⟨cb_X3_remember, ml_11_238, im_X3_remember⟩ se_3_X3_remember (ckf_X3_remember eq13) (ev_X3_remember eq13) (by decide) (As := [.ref x12]) rfl (st := []) rfl (Nat.le_of_ble_eq_true rfl) rfl ?_
          refine v_aload_n dX11_forgives_76 rfl ?_
          obtain ⟨x14, ex14, hf⟩ := ob hf
          refine v_getR dX11_forgives_77 fl_11_49 ex14 ?_
          refine v_iload_n dX11_forgives_80 rfl ?_
          refine v_iload_n dX11_forgives_81 rfl ?_
          refine v_iconst dX11_forgives_82 (by decide) (v := 0) ?_
          obtain ⟨q15, eq15, hf⟩ := ob hf
          refine v_callV dX11_forgives_83 ⟨cb_X0_setDebt, ml_11_260, im_X0_setDebt⟩ se_0_X0_setDebt (ckf_X0_setDebt eq15) (ev_X0_setDebt eq15) (by decide) (As := [.int l1, .int l2, .int (0 : Int32)]) rfl (st := []) rfl (Nat.le_of_ble_eq_true rfl) rfl ?_
          refine v_iload_n dX11_forgives_86 rfl ?_
          replace hf := Option.some.inj hf
          subst hf
          exact v_iret dX11_forgives_87 rfl
        · replace hf := (if_pos c10).symm.trans hf
          refine v_aload_n dX11_forgives_57 rfl ?_
          refine v_iconst dX11_forgives_58 (by decide) (v := 2) ?_
          refine v_ldc dX11_forgives_59 rfl co_11_220 ?_
          obtain ⟨q16, eq16, hf⟩ := ob hf
          refine v_callV dX11_forgives_61 ⟨cb_X11_refuse, ml_11_225, im_X11_refuse⟩ se_11_X11_refuse (ckf_X11_refuse eq16) (ev_X11_refuse eq16) (by decide) (As := [.int (2 : Int32), .int (-1000000 : Int32)]) rfl (st := []) rfl (Nat.le_of_ble_eq_true rfl) rfl ?_
          replace hf := Option.some.inj hf
          subst hf
          exact v_iret dX11_forgives_64 rfl
      · replace hf := (if_pos c7).symm.trans hf
        refine v_aload_n dX11_forgives_35 rfl ?_
        refine v_iconst dX11_forgives_36 (by decide) (v := 1) ?_
        refine v_ldc dX11_forgives_37 rfl co_11_220 ?_
        obtain ⟨q17, eq17, hf⟩ := ob hf
        refine v_callV dX11_forgives_39 ⟨cb_X11_refuse, ml_11_225, im_X11_refuse⟩ se_11_X11_refuse (ckf_X11_refuse eq17) (ev_X11_refuse eq17) (by decide) (As := [.int (1 : Int32), .int (-1000000 : Int32)]) rfl (st := []) rfl (Nat.le_of_ble_eq_true rfl) rfl ?_
        replace hf := Option.some.inj hf
        subst hf
        exact v_iret dX11_forgives_42 rfl
    · replace hf := (if_pos c6).symm.trans hf
      exact xa_weak (loc := [some (.ref l0), none, none, none]) ⟨rfl, trivial⟩ (e_X11_forgives_b22 h l0 r hf)
theorem ckf_X11_forgives {h : xa_H} {l0 : Nat} {l1 : Int32} {l2 : Int32} {r : (Int32 × xa_H)} (hf : f_X11_forgives h l0 l1 l2 = some r) : ck [11] h l0 = some () := by
  obtain ⟨u, e, -⟩ := ob hf
  exact e
def M_X11_game : xa_M := (yX11_game, cX11_game, 8, some .int)
theorem cb_X11_game : xa_CB M_X11_game 5 := ⟨gws_at 1124 (by decide +kernel) rfl, gws_at 109 (by decide +kernel) rfl, by decide +kernel, Nat.le_of_ble_eq_true rfl⟩
def f_X11_game_b147 (h : xa_H) (l0 : Nat) (l6 : Int32) (s0 : Int32) : Option (Int32 × xa_H) :=
  (gR [11] 8 h l0).bind fun x1 =>
  (f_X0_incoming h x1 l6).bind fun q2 =>
  (gR [11] 8 h l0).bind fun x3 =>
  (f_X0_outgoing h x3 l6).bind fun q4 =>
  some (((q2 - q4) - s0), h)
set_option maxRecDepth 20000 in
theorem e_X11_game_b147 {G : xa_G} : ∀ (h : xa_H) (l0 : Nat) (l6 : Int32) (s0 : Int32) (r : (Int32 × xa_H)), f_X11_game_b147 h l0 l6 s0 = some r → xa_V G M_X11_game 3 147 [some (.ref l0), none, none, none, none, none, some (.int l6), none] [.int s0] h (some (.int r.1)) r.2 := by
  intro h l0 l6 s0 r hf
  unfold f_X11_game_b147 at hf
  refine v_istore dX11_game_147 (Nat.le_of_ble_eq_true rfl) (loc' := [some (.ref l0), none, none, none, none, none, some (.int l6), some (.int s0)]) rfl ?_
  refine v_aload_n dX11_game_149 rfl ?_
  obtain ⟨x1, ex1, hf⟩ := ob hf
  refine v_getR dX11_game_150 fl_11_56 ex1 ?_
  refine v_iload dX11_game_153 rfl ?_
  obtain ⟨q2, eq2, hf⟩ := ob hf
  refine v_callV dX11_game_155 ⟨cb_X0_incoming, ml_11_180, im_X0_incoming⟩ se_0_X0_incoming (ckf_X0_incoming eq2) (ev_X0_incoming eq2) (by decide) (As := [.int l6]) rfl (st := []) rfl (Nat.le_of_ble_eq_true rfl) rfl ?_
  refine v_aload_n dX11_game_158 rfl ?_
  obtain ⟨x3, ex3, hf⟩ := ob hf
  refine v_getR dX11_game_159 fl_11_56 ex3 ?_
  refine v_iload dX11_game_162 rfl ?_
  obtain ⟨q4, eq4, hf⟩ := ob hf
  refine v_callV dX11_game_164 ⟨cb_X0_outgoing, ml_11_183, im_X0_outgoing⟩ se_0_X0_outgoing (ckf_X0_outgoing eq4) (ev_X0_outgoing eq4) (by decide) (As := [.int l6]) rfl (st := [.int q2]) rfl (Nat.le_of_ble_eq_true rfl) rfl ?_
  refine v_isub dX11_game_167 ?_
  refine v_iload dX11_game_168 rfl ?_
  refine v_isub dX11_game_170 ?_
  replace hf := Option.some.inj hf
  subst hf
  exact v_iret dX11_game_171 rfl
def f_X11_game_b134 (h : xa_H) (l0 : Nat) (l3 : Int32) (l4 : Int32) (l5 : Int32) (s0 : Int32) : Option (Int32 × xa_H) :=
  if l5 = 0 then
    f_X11_game_b147 h l0 s0 l3
  else
    f_X11_game_b147 h l0 s0 l4
set_option maxRecDepth 20000 in
theorem e_X11_game_b134 {G : xa_G} : ∀ (h : xa_H) (l0 : Nat) (l3 : Int32) (l4 : Int32) (l5 : Int32) (s0 : Int32) (r : (Int32 × xa_H)), f_X11_game_b134 h l0 l3 l4 l5 s0 = some r → xa_V G M_X11_game 3 134 [some (.ref l0), none, none, some (.int l3), some (.int l4), some (.int l5), none, none] [.int s0] h (some (.int r.1)) r.2 := by
  intro h l0 l3 l4 l5 s0 r hf
  unfold f_X11_game_b134 at hf
  refine v_istore dX11_game_134 (Nat.le_of_ble_eq_true rfl) (loc' := [some (.ref l0), none, none, some (.int l3), some (.int l4), some (.int l5), some (.int s0), none]) rfl ?_
  refine v_iload dX11_game_136 rfl ?_
  refine v_if_ne dX11_game_138 (tgt := 145) (by decide) (fun c1 => ?_) (fun c1 => ?_)
  · replace hf := (if_neg c1).symm.trans hf
    refine v_iload dX11_game_145 rfl ?_
    exact xa_weak (loc := [some (.ref l0), none, none, none, none, none, some (.int s0), none]) ⟨rfl, ⟨rfl, trivial⟩⟩ (e_X11_game_b147 h l0 s0 l4 r hf)
  · replace hf := (if_pos c1).symm.trans hf
    refine v_iload_n dX11_game_141 rfl ?_
    refine v_goto dX11_game_142 (tgt := 147) (by decide) ?_
    exact xa_weak (loc := [some (.ref l0), none, none, none, none, none, some (.int s0), none]) ⟨rfl, ⟨rfl, trivial⟩⟩ (e_X11_game_b147 h l0 s0 l3 r hf)
def f_X11_game_b124 (h : xa_H) (l0 : Nat) (l1 : Int32) (l2 : Int32) (l3 : Int32) (l4 : Int32) (l5 : Int32) : Option (Int32 × xa_H) :=
  if l5 = 0 then
    f_X11_game_b134 h l0 l3 l4 l5 l1
  else
    f_X11_game_b134 h l0 l3 l4 l5 l2
set_option maxRecDepth 20000 in
theorem e_X11_game_b124 {G : xa_G} : ∀ (h : xa_H) (l0 : Nat) (l1 : Int32) (l2 : Int32) (l3 : Int32) (l4 : Int32) (l5 : Int32) (r : (Int32 × xa_H)), f_X11_game_b124 h l0 l1 l2 l3 l4 l5 = some r → xa_V G M_X11_game 3 124 [some (.ref l0), some (.int l1), some (.int l2), some (.int l3), some (.int l4), some (.int l5), none, none] [] h (some (.int r.1)) r.2 := by
  intro h l0 l1 l2 l3 l4 l5 r hf
  unfold f_X11_game_b124 at hf
  refine v_iload dX11_game_124 rfl ?_
  refine v_if_ne dX11_game_126 (tgt := 133) (by decide) (fun c1 => ?_) (fun c1 => ?_)
  · replace hf := (if_neg c1).symm.trans hf
    refine v_iload_n dX11_game_133 rfl ?_
    exact xa_weak (loc := [some (.ref l0), none, none, some (.int l3), some (.int l4), some (.int l5), none, none]) ⟨rfl, ⟨rfl, ⟨rfl, ⟨rfl, trivial⟩⟩⟩⟩ (e_X11_game_b134 h l0 l3 l4 l5 l2 r hf)
  · replace hf := (if_pos c1).symm.trans hf
    refine v_iload_n dX11_game_129 rfl ?_
    refine v_goto dX11_game_130 (tgt := 134) (by decide) ?_
    exact xa_weak (loc := [some (.ref l0), none, none, some (.int l3), some (.int l4), some (.int l5), none, none]) ⟨rfl, ⟨rfl, ⟨rfl, ⟨rfl, trivial⟩⟩⟩⟩ (e_X11_game_b134 h l0 l3 l4 l5 l1 r hf)
def f_X11_game_b99 (h : xa_H) (l0 : Nat) (l1 : Int32) (l2 : Int32) (l3 : Int32) (l4 : Int32) (l5 : Int32) : Option (Int32 × xa_H) :=
  if l4 = (1 : Int32) then
    (gR [11] 8 h l0).bind fun x2 =>
    (f_X0_canTurn h x2 l2).bind fun q3 =>
    if q3 = 0 then
      f_X11_game_b124 h l0 l1 l2 l3 l4 l5
    else
      (gR [11] 8 h l0).bind fun x5 =>
      (f_X0_turnOver h x5 l2).bind fun q6 =>
      f_X11_game_b124 q6 l0 l1 l2 l3 l4 l5
  else
    f_X11_game_b124 h l0 l1 l2 l3 l4 l5
set_option maxRecDepth 20000 in
theorem e_X11_game_b99 {G : xa_G} : ∀ (h : xa_H) (l0 : Nat) (l1 : Int32) (l2 : Int32) (l3 : Int32) (l4 : Int32) (l5 : Int32) (r : (Int32 × xa_H)), f_X11_game_b99 h l0 l1 l2 l3 l4 l5 = some r → xa_V G M_X11_game 3 99 [some (.ref l0), some (.int l1), some (.int l2), some (.int l3), some (.int l4), some (.int l5), none, none] [] h (some (.int r.1)) r.2 := by
  intro h l0 l1 l2 l3 l4 l5 r hf
  unfold f_X11_game_b99 at hf
  refine v_iload dX11_game_99 rfl ?_
  refine v_iconst dX11_game_101 (by decide) (v := 1) ?_
  refine v_icmp_ne dX11_game_102 (tgt := 124) (by decide) (fun c1 => ?_) (fun c1 => ?_)
  · replace hf := (if_neg c1).symm.trans hf
    exact e_X11_game_b124 h l0 l1 l2 l3 l4 l5 r hf
  · replace hf := (if_pos c1).symm.trans hf
    refine v_aload_n dX11_game_105 rfl ?_
    obtain ⟨x2, ex2, hf⟩ := ob hf
    refine v_getR dX11_game_106 fl_11_56 ex2 ?_
    refine v_iload_n dX11_game_109 rfl ?_
    obtain ⟨q3, eq3, hf⟩ := ob hf
    refine v_callV dX11_game_110 ⟨cb_X0_canTurn, ml_11_232, im_X0_canTurn⟩ se_0_X0_canTurn (ckf_X0_canTurn eq3) (ev_X0_canTurn eq3) (by decide) (As := [.int l2]) rfl (st := []) rfl (Nat.le_of_ble_eq_true rfl) rfl ?_
    refine v_if_eq dX11_game_113 (tgt := 124) (by decide) (fun c4 => ?_) (fun c4 => ?_)
    · replace hf := (if_pos c4).symm.trans hf
      exact e_X11_game_b124 h l0 l1 l2 l3 l4 l5 r hf
    · replace hf := (if_neg c4).symm.trans hf
      refine v_aload_n dX11_game_116 rfl ?_
      obtain ⟨x5, ex5, hf⟩ := ob hf
      refine v_getR dX11_game_117 fl_11_56 ex5 ?_
      refine v_iload_n dX11_game_120 rfl ?_
      obtain ⟨q6, eq6, hf⟩ := ob hf
      refine v_callV dX11_game_121 ⟨cb_X0_turnOver, ml_11_244, im_X0_turnOver⟩ se_0_X0_turnOver (ckf_X0_turnOver eq6) (ev_X0_turnOver eq6) (by decide) (As := [.int l2]) rfl (st := []) rfl (Nat.le_of_ble_eq_true rfl) rfl ?_
      exact e_X11_game_b124 q6 l0 l1 l2 l3 l4 l5 r hf
def f_X11_game (h : xa_H) (l0 : Nat) (l1 : Int32) (l2 : Int32) (l3 : Int32) (l4 : Int32) (l5 : Int32) : Option (Int32 × xa_H) :=
  (ck [11] h l0).bind fun _ =>
  (gR [11] 6 h l0).bind fun x1 =>
  (f_X0_has h x1 l1).bind fun q2 =>
  if q2 = 0 then
    some ((-1000000 : Int32), h)
  else
    (gR [11] 6 h l0).bind fun x4 =>
    (f_X0_has h x4 l2).bind fun q5 =>
    if q5 = 0 then
      some ((-1000000 : Int32), h)
    else
      if l1 = l2 then
        some ((-1000000 : Int32), h)
      else
        if l3 < 0 then
          some ((-1000000 : Int32), h)
        else
          if (1 : Int32) < l3 then
            some ((-1000000 : Int32), h)
          else
            if l4 < 0 then
              some ((-1000000 : Int32), h)
            else
              if (1 : Int32) < l4 then
                some ((-1000000 : Int32), h)
              else
                if l5 < 0 then
                  some ((-1000000 : Int32), h)
                else
                  if l5 ≤ (1 : Int32) then
                    (gR [11] 8 h l0).bind fun x14 =>
                    (gR [11] 6 h l0).bind fun x15 =>
                    (f_X0_become h x14 x15).bind fun q16 =>
                    if l3 = (1 : Int32) then
                      (gR [11] 8 q16 l0).bind fun x18 =>
                      (f_X0_canTurn q16 x18 l1).bind fun q19 =>
                      if q19 = 0 then
                        f_X11_game_b99 q16 l0 l1 l2 l3 l4 l5
                      else
                        (gR [11] 8 q16 l0).bind fun x21 =>
                        (f_X0_turnOver q16 x21 l1).bind fun q22 =>
                        f_X11_game_b99 q22 l0 l1 l2 l3 l4 l5
                    else
                      f_X11_game_b99 q16 l0 l1 l2 l3 l4 l5
                  else
                    some ((-1000000 : Int32), h)
set_option maxRecDepth 20000 in
theorem ev_X11_game {G : xa_G} {h : xa_H} {l0 : Nat} {l1 : Int32} {l2 : Int32} {l3 : Int32} {l4 : Int32} {l5 : Int32} {r : (Int32 × xa_H)} (hf : f_X11_game h l0 l1 l2 l3 l4 l5 = some r) : xa_Ev G M_X11_game 3 [.ref l0, .int l1, .int l2, .int l3, .int l4, .int l5] h (some (.int r.1)) r.2 := by
  refine xa_entry (by decide +kernel) (loc := [some (.ref l0), some (.int l1), some (.int l2), some (.int l3), some (.int l4), some (.int l5), none, none]) rfl (Nat.le_of_ble_eq_true rfl) ?_
  unfold f_X11_game at hf
  obtain ⟨u0, eu0, hf⟩ := ob hf
  refine v_aload_n dX11_game_0 rfl ?_
  obtain ⟨x1, ex1, hf⟩ := ob hf
  refine v_getR dX11_game_1 fl_11_49 ex1 ?_
  refine v_iload_n dX11_game_4 rfl ?_
  obtain ⟨q2, eq2, hf⟩ := ob hf
  refine v_callV dX11_game_5 ⟨cb_X0_has, ml_11_157, im_X0_has⟩ se_0_X0_has (ckf_X0_has eq2) (ev_X0_has eq2) (by decide) (As := [.int l1]) rfl (st := []) rfl (Nat.le_of_ble_eq_true rfl) rfl ?_
  refine v_if_eq dX11_game_8 (tgt := 27) (by decide) (fun c3 => ?_) (fun c3 => ?_)
  · replace hf := (if_pos c3).symm.trans hf
    refine v_ldc dX11_game_27 rfl co_11_220 ?_
    replace hf := Option.some.inj hf
    subst hf
    exact v_iret dX11_game_29 rfl
  · replace hf := (if_neg c3).symm.trans hf
    refine v_aload_n dX11_game_11 rfl ?_
    obtain ⟨x4, ex4, hf⟩ := ob hf
    refine v_getR dX11_game_12 fl_11_49 ex4 ?_
    refine v_iload_n dX11_game_15 rfl ?_
    obtain ⟨q5, eq5, hf⟩ := ob hf
    refine v_callV dX11_game_16 ⟨cb_X0_has, ml_11_157, im_X0_has⟩ se_0_X0_has (ckf_X0_has eq5) (ev_X0_has eq5) (by decide) (As := [.int l2]) rfl (st := []) rfl (Nat.le_of_ble_eq_true rfl) rfl ?_
    refine v_if_eq dX11_game_19 (tgt := 27) (by decide) (fun c6 => ?_) (fun c6 => ?_)
    · replace hf := (if_pos c6).symm.trans hf
      refine v_ldc dX11_game_27 rfl co_11_220 ?_
      replace hf := Option.some.inj hf
      subst hf
      exact v_iret dX11_game_29 rfl
    · replace hf := (if_neg c6).symm.trans hf
      refine v_iload_n dX11_game_22 rfl ?_
      refine v_iload_n dX11_game_23 rfl ?_
      refine v_icmp_ne dX11_game_24 (tgt := 30) (by decide) (fun c7 => ?_) (fun c7 => ?_)
      · replace hf := (if_neg c7).symm.trans hf
        refine v_iload_n dX11_game_30 rfl ?_
        refine v_if_lt dX11_game_31 (tgt := 61) (by decide) (fun c8 => ?_) (fun c8 => ?_)
        · replace hf := (if_pos c8).symm.trans hf
          refine v_ldc dX11_game_61 rfl co_11_220 ?_
          replace hf := Option.some.inj hf
          subst hf
          exact v_iret dX11_game_63 rfl
        · replace hf := (if_neg c8).symm.trans hf
          refine v_iload_n dX11_game_34 rfl ?_
          refine v_iconst dX11_game_35 (by decide) (v := 1) ?_
          refine v_icmp_gt dX11_game_36 (tgt := 61) (by decide) (fun c9 => ?_) (fun c9 => ?_)
          · replace hf := (if_pos c9).symm.trans hf
            refine v_ldc dX11_game_61 rfl co_11_220 ?_
            replace hf := Option.some.inj hf
            subst hf
            exact v_iret dX11_game_63 rfl
          · replace hf := (if_neg c9).symm.trans hf
            refine v_iload dX11_game_39 rfl ?_
            refine v_if_lt dX11_game_41 (tgt := 61) (by decide) (fun c10 => ?_) (fun c10 => ?_)
            · replace hf := (if_pos c10).symm.trans hf
              refine v_ldc dX11_game_61 rfl co_11_220 ?_
              replace hf := Option.some.inj hf
              subst hf
              exact v_iret dX11_game_63 rfl
            · replace hf := (if_neg c10).symm.trans hf
              refine v_iload dX11_game_44 rfl ?_
              refine v_iconst dX11_game_46 (by decide) (v := 1) ?_
              refine v_icmp_gt dX11_game_47 (tgt := 61) (by decide) (fun c11 => ?_) (fun c11 => ?_)
              · replace hf := (if_pos c11).symm.trans hf
                refine v_ldc dX11_game_61 rfl co_11_220 ?_
                replace hf := Option.some.inj hf
                subst hf
                exact v_iret dX11_game_63 rfl
              · replace hf := (if_neg c11).symm.trans hf
                refine v_iload dX11_game_50 rfl ?_
                refine v_if_lt dX11_game_52 (tgt := 61) (by decide) (fun c12 => ?_) (fun c12 => ?_)
                · replace hf := (if_pos c12).symm.trans hf
                  refine v_ldc dX11_game_61 rfl co_11_220 ?_
                  replace hf := Option.some.inj hf
                  subst hf
                  exact v_iret dX11_game_63 rfl
                · replace hf := (if_neg c12).symm.trans hf
                  refine v_iload dX11_game_55 rfl ?_
                  refine v_iconst dX11_game_57 (by decide) (v := 1) ?_
                  refine v_icmp_le dX11_game_58 (tgt := 64) (by decide) (fun c13 => ?_) (fun c13 => ?_)
                  · replace hf := (if_pos c13).symm.trans hf
                    refine v_aload_n dX11_game_64 rfl ?_
                    obtain ⟨x14, ex14, hf⟩ := ob hf
                    refine v_getR dX11_game_65 fl_11_56 ex14 ?_
                    refine v_aload_n dX11_game_68 rfl ?_
                    obtain ⟨x15, ex15, hf⟩ := ob hf
                    refine v_getR dX11_game_69 fl_11_49 ex15 ?_
                    obtain ⟨q16, eq16, hf⟩ := ob hf
                    refine v_callV dX11_game_72 ⟨cb_X0_become, ml_11_142, im_X0_become⟩ se_0_X0_become (ckf_X0_become eq16) (ev_X0_become eq16) (by decide) (As := [.ref x15]) rfl (st := []) rfl (Nat.le_of_ble_eq_true rfl) rfl ?_
                    refine v_iload_n dX11_game_75 rfl ?_
                    refine v_iconst dX11_game_76 (by decide) (v := 1) ?_
                    refine v_icmp_ne dX11_game_77 (tgt := 99) (by decide) (fun c17 => ?_) (fun c17 => ?_)
                    · replace hf := (if_neg c17).symm.trans hf
                      exact e_X11_game_b99 q16 l0 l1 l2 l3 l4 l5 r hf
                    · replace hf := (if_pos c17).symm.trans hf
                      refine v_aload_n dX11_game_80 rfl ?_
                      obtain ⟨x18, ex18, hf⟩ := ob hf
                      refine v_getR dX11_game_81 fl_11_56 ex18 ?_
                      refine v_iload_n dX11_game_84 rfl ?_
                      obtain ⟨q19, eq19, hf⟩ := ob hf
                      refine v_callV dX11_game_85 ⟨cb_X0_canTurn, ml_11_232, im_X0_canTurn⟩ se_0_X0_canTurn (ckf_X0_canTurn eq19) (ev_X0_canTurn eq19) (by decide) (As := [.int l1]) rfl (st := []) rfl (Nat.le_of_ble_eq_true rfl) rfl ?_
                      refine v_if_eq dX11_game_88 (tgt := 99) (by decide) (fun c20 => ?_) (fun c20 => ?_)
                      · replace hf := (if_pos c20).symm.trans hf
                        exact e_X11_game_b99 q16 l0 l1 l2 l3 l4 l5 r hf
                      · replace hf := (if_neg c20).symm.trans hf
                        refine v_aload_n dX11_game_91 rfl ?_
                        obtain ⟨x21, ex21, hf⟩ := ob hf
                        refine v_getR dX11_game_92 fl_11_56 ex21 ?_
                        refine v_iload_n dX11_game_95 rfl ?_
                        obtain ⟨q22, eq22, hf⟩ := ob hf
                        refine v_callV dX11_game_96 ⟨cb_X0_turnOver, ml_11_244, im_X0_turnOver⟩ se_0_X0_turnOver (ckf_X0_turnOver eq22) (ev_X0_turnOver eq22) (by decide) (As := [.int l1]) rfl (st := []) rfl (Nat.le_of_ble_eq_true rfl) rfl ?_
                        exact e_X11_game_b99 q22 l0 l1 l2 l3 l4 l5 r hf
                  · replace hf := (if_neg c13).symm.trans hf
                    refine v_ldc dX11_game_61 rfl co_11_220 ?_
                    replace hf := Option.some.inj hf
                    subst hf
                    exact v_iret dX11_game_63 rfl
      · replace hf := (if_pos c7).symm.trans hf
        refine v_ldc dX11_game_27 rfl co_11_220 ?_
        replace hf := Option.some.inj hf
        subst hf
        exact v_iret dX11_game_29 rfl
theorem ckf_X11_game {h : xa_H} {l0 : Nat} {l1 : Int32} {l2 : Int32} {l3 : Int32} {l4 : Int32} {l5 : Int32} {r : (Int32 × xa_H)} (hf : f_X11_game h l0 l1 l2 l3 l4 l5 = some r) : ck [11] h l0 = some () := by
  obtain ⟨u, e, -⟩ := ob hf
  exact e
def M_X11_give : xa_M := (yX11_give, cX11_give, 2, some .int)
theorem cb_X11_give : xa_CB M_X11_give 1 := ⟨gws_at 947 (by decide +kernel) rfl, gws_at 109 (by decide +kernel) rfl, by decide +kernel, Nat.le_of_ble_eq_true rfl⟩
def f_X11_give_b28 (h : xa_H) (l0 : Nat) : Option (Int32 × xa_H) :=
  (f_X11_refuse h l0 (1 : Int32) (-1 : Int32)).bind fun q1 =>
  some (q1.1, q1.2)
set_option maxRecDepth 20000 in
theorem e_X11_give_b28 {G : xa_G} : ∀ (h : xa_H) (l0 : Nat) (r : (Int32 × xa_H)), f_X11_give_b28 h l0 = some r → xa_V G M_X11_give 3 28 [some (.ref l0), none] [] h (some (.int r.1)) r.2 := by
  intro h l0 r hf
  unfold f_X11_give_b28 at hf
  refine v_aload_n dX11_give_28 rfl ?_
  refine v_iconst dX11_give_29 (by decide) (v := 1) ?_
  refine v_iconst dX11_give_30 (by decide) (v := -1) ?_
  obtain ⟨q1, eq1, hf⟩ := ob hf
  refine v_callV dX11_give_31 ⟨cb_X11_refuse, ml_11_225, im_X11_refuse⟩ se_11_X11_refuse (ckf_X11_refuse eq1) (ev_X11_refuse eq1) (by decide) (As := [.int (1 : Int32), .int (-1 : Int32)]) rfl (st := []) rfl (Nat.le_of_ble_eq_true rfl) rfl ?_
  replace hf := Option.some.inj hf
  subst hf
  exact v_iret dX11_give_34 rfl
def f_X11_give (h : xa_H) (l0 : Nat) (l1 : Int32) : Option (Int32 × xa_H) :=
  (ck [11] h l0).bind fun _ =>
  (gR [11] 6 h l0).bind fun x1 =>
  (gI [0] 4 h x1).bind fun x2 =>
  if x2 = 0 then
    (f_X11_refuse h l0 (0 : Int32) (-1 : Int32)).bind fun q18 =>
    some (q18.1, q18.2)
  else
    if l1 < (1 : Int32) then
      f_X11_give_b28 h l0
    else
      if l1 ≤ (50 : Int32) then
        (gR [11] 6 h l0).bind fun x6 =>
        (gI [0] 7 h x6).bind fun x7 =>
        if (x7 + l1) ≤ (999 : Int32) then
          (gR [11] 10 h l0).bind fun x9 =>
          (gR [11] 6 h l0).bind fun x10 =>
          (f_X3_remember h x9 x10).bind fun q11 =>
          (gR [11] 6 q11 l0).bind fun x12 =>
          (gI [0] 7 q11 x12).bind fun x13 =>
          (xp [0] 7 q11 x12 (.int (x13 + l1))).bind fun h14 =>
          (gR [11] 6 h14 l0).bind fun x15 =>
          (gI [0] 7 h14 x15).bind fun x16 =>
          some (x16, h14)
        else
          (f_X11_refuse h l0 (3 : Int32) (-1 : Int32)).bind fun q17 =>
          some (q17.1, q17.2)
      else
        f_X11_give_b28 h l0
set_option maxRecDepth 20000 in
theorem ev_X11_give {G : xa_G} {h : xa_H} {l0 : Nat} {l1 : Int32} {r : (Int32 × xa_H)} (hf : f_X11_give h l0 l1 = some r) : xa_Ev G M_X11_give 3 [.ref l0, .int l1] h (some (.int r.1)) r.2 := by
  refine xa_entry (by decide +kernel) (loc := [some (.ref l0), some (.int l1)]) rfl (Nat.le_of_ble_eq_true rfl) ?_
  unfold f_X11_give at hf
  obtain ⟨u0, eu0, hf⟩ := ob hf
  refine v_aload_n dX11_give_0 rfl ?_
  obtain ⟨x1, ex1, hf⟩ := ob hf
  refine v_getR dX11_give_1 fl_11_49 ex1 ?_
  obtain ⟨x2, ex2, hf⟩ := ob hf
  refine v_getI dX11_give_4 fl_11_154 ex2 ?_
  refine v_if_ne dX11_give_7 (tgt := 17) (by decide) (fun c3 => ?_) (fun c3 => ?_)
  · replace hf := (if_neg c3).symm.trans hf
    refine v_iload_n dX11_give_17 rfl ?_
    refine v_iconst dX11_give_18 (by decide) (v := 1) ?_
    refine v_icmp_lt dX11_give_19 (tgt := 28) (by decide) (fun c4 => ?_) (fun c4 => ?_)
    · replace hf := (if_pos c4).symm.trans hf
      exact xa_weak (loc := [some (.ref l0), none]) ⟨rfl, trivial⟩ (e_X11_give_b28 h l0 r hf)
    · replace hf := (if_neg c4).symm.trans hf
      refine v_iload_n dX11_give_22 rfl ?_
      refine v_bipush dX11_give_23 (by decide) (v := 50) ?_
      refine v_icmp_le dX11_give_25 (tgt := 35) (by decide) (fun c5 => ?_) (fun c5 => ?_)
      · replace hf := (if_pos c5).symm.trans hf
        refine v_aload_n dX11_give_35 rfl ?_
        obtain ⟨x6, ex6, hf⟩ := ob hf
        refine v_getR dX11_give_36 fl_11_49 ex6 ?_
        obtain ⟨x7, ex7, hf⟩ := ob hf
        refine v_getI dX11_give_39 fl_11_235 ex7 ?_
        refine v_iload_n dX11_give_42 rfl ?_
        refine v_iadd dX11_give_43 ?_
        refine v_sipush dX11_give_44 (by decide) (v := 999) ?_
        refine v_icmp_le dX11_give_47 (tgt := 57) (by decide) (fun c8 => ?_) (fun c8 => ?_)
        · replace hf := (if_pos c8).symm.trans hf
          refine v_aload_n dX11_give_57 rfl ?_
          obtain ⟨x9, ex9, hf⟩ := ob hf
          refine v_getR dX11_give_58 fl_11_69 ex9 ?_
          refine v_aload_n dX11_give_61 rfl ?_
          obtain ⟨x10, ex10, hf⟩ := ob hf
          refine v_getR dX11_give_62 fl_11_49 ex10 ?_
          obtain ⟨q11, eq11, hf⟩ := ob hf
          refine v_callV dX11_give_65 ⟨cb_X3_remember, ml_11_238, im_X3_remember⟩ se_3_X3_remember (ckf_X3_remember eq11) (ev_X3_remember eq11) (by decide) (As := [.ref x10]) rfl (st := []) rfl (Nat.le_of_ble_eq_true rfl) rfl ?_
          refine v_aload_n dX11_give_68 rfl ?_
          obtain ⟨x12, ex12, hf⟩ := ob hf
          refine v_getR dX11_give_69 fl_11_49 ex12 ?_
          refine v_dup dX11_give_72 rfl ?_
          obtain ⟨x13, ex13, hf⟩ := ob hf
          refine v_getI dX11_give_73 fl_11_235 ex13 ?_
          refine v_iload_n dX11_give_76 rfl ?_
          refine v_iadd dX11_give_77 ?_
          obtain ⟨h14, eh14, hf⟩ := ob hf
          refine v_put dX11_give_78 fp_11_235 (fun z => by cases z) (fun _ => rfl) (fun _ => rfl) eh14 ?_
          refine v_aload_n dX11_give_81 rfl ?_
          obtain ⟨x15, ex15, hf⟩ := ob hf
          refine v_getR dX11_give_82 fl_11_49 ex15 ?_
          obtain ⟨x16, ex16, hf⟩ := ob hf
          refine v_getI dX11_give_85 fl_11_235 ex16 ?_
          replace hf := Option.some.inj hf
          subst hf
          exact v_iret dX11_give_88 rfl
        · replace hf := (if_neg c8).symm.trans hf
          refine v_aload_n dX11_give_50 rfl ?_
          refine v_iconst dX11_give_51 (by decide) (v := 3) ?_
          refine v_iconst dX11_give_52 (by decide) (v := -1) ?_
          obtain ⟨q17, eq17, hf⟩ := ob hf
          refine v_callV dX11_give_53 ⟨cb_X11_refuse, ml_11_225, im_X11_refuse⟩ se_11_X11_refuse (ckf_X11_refuse eq17) (ev_X11_refuse eq17) (by decide) (As := [.int (3 : Int32), .int (-1 : Int32)]) rfl (st := []) rfl (Nat.le_of_ble_eq_true rfl) rfl ?_
          replace hf := Option.some.inj hf
          subst hf
          exact v_iret dX11_give_56 rfl
      · replace hf := (if_neg c5).symm.trans hf
        exact xa_weak (loc := [some (.ref l0), none]) ⟨rfl, trivial⟩ (e_X11_give_b28 h l0 r hf)
  · replace hf := (if_pos c3).symm.trans hf
    refine v_aload_n dX11_give_10 rfl ?_
    refine v_iconst dX11_give_11 (by decide) (v := 0) ?_
    refine v_iconst dX11_give_12 (by decide) (v := -1) ?_
    obtain ⟨q18, eq18, hf⟩ := ob hf
    refine v_callV dX11_give_13 ⟨cb_X11_refuse, ml_11_225, im_X11_refuse⟩ se_11_X11_refuse (ckf_X11_refuse eq18) (ev_X11_refuse eq18) (by decide) (As := [.int (0 : Int32), .int (-1 : Int32)]) rfl (st := []) rfl (Nat.le_of_ble_eq_true rfl) rfl ?_
    replace hf := Option.some.inj hf
    subst hf
    exact v_iret dX11_give_16 rfl
theorem ckf_X11_give {h : xa_H} {l0 : Nat} {l1 : Int32} {r : (Int32 × xa_H)} (hf : f_X11_give h l0 l1 = some r) : ck [11] h l0 = some () := by
  obtain ⟨u, e, -⟩ := ob hf
  exact e
def M_X11_gives : xa_M := (yX11_gives, cX11_gives, 5, some .int)
theorem cb_X11_gives : xa_CB M_X11_gives 3 := ⟨gws_at 934 (by decide +kernel) rfl, gws_at 109 (by decide +kernel) rfl, by decide +kernel, Nat.le_of_ble_eq_true rfl⟩
def f_X11_gives_b46 (h : xa_H) (l0 : Nat) : Option (Int32 × xa_H) :=
  (f_X11_refuse h l0 (1 : Int32) (-1000000 : Int32)).bind fun q1 =>
  some (q1.1, q1.2)
set_option maxRecDepth 20000 in
theorem e_X11_gives_b46 {G : xa_G} : ∀ (h : xa_H) (l0 : Nat) (r : (Int32 × xa_H)), f_X11_gives_b46 h l0 = some r → xa_V G M_X11_gives 3 46 [some (.ref l0), none, none, none, none] [] h (some (.int r.1)) r.2 := by
  intro h l0 r hf
  unfold f_X11_gives_b46 at hf
  refine v_aload_n dX11_gives_46 rfl ?_
  refine v_iconst dX11_gives_47 (by decide) (v := 1) ?_
  refine v_ldc dX11_gives_48 rfl co_11_220 ?_
  obtain ⟨q1, eq1, hf⟩ := ob hf
  refine v_callV dX11_gives_50 ⟨cb_X11_refuse, ml_11_225, im_X11_refuse⟩ se_11_X11_refuse (ckf_X11_refuse eq1) (ev_X11_refuse eq1) (by decide) (As := [.int (1 : Int32), .int (-1000000 : Int32)]) rfl (st := []) rfl (Nat.le_of_ble_eq_true rfl) rfl ?_
  replace hf := Option.some.inj hf
  subst hf
  exact v_iret dX11_gives_53 rfl
def f_X11_gives_b22 (h : xa_H) (l0 : Nat) : Option (Int32 × xa_H) :=
  (f_X11_refuse h l0 (0 : Int32) (-1000000 : Int32)).bind fun q1 =>
  some (q1.1, q1.2)
set_option maxRecDepth 20000 in
theorem e_X11_gives_b22 {G : xa_G} : ∀ (h : xa_H) (l0 : Nat) (r : (Int32 × xa_H)), f_X11_gives_b22 h l0 = some r → xa_V G M_X11_gives 3 22 [some (.ref l0), none, none, none, none] [] h (some (.int r.1)) r.2 := by
  intro h l0 r hf
  unfold f_X11_gives_b22 at hf
  refine v_aload_n dX11_gives_22 rfl ?_
  refine v_iconst dX11_gives_23 (by decide) (v := 0) ?_
  refine v_ldc dX11_gives_24 rfl co_11_220 ?_
  obtain ⟨q1, eq1, hf⟩ := ob hf
  refine v_callV dX11_gives_26 ⟨cb_X11_refuse, ml_11_225, im_X11_refuse⟩ se_11_X11_refuse (ckf_X11_refuse eq1) (ev_X11_refuse eq1) (by decide) (As := [.int (0 : Int32), .int (-1000000 : Int32)]) rfl (st := []) rfl (Nat.le_of_ble_eq_true rfl) rfl ?_
  replace hf := Option.some.inj hf
  subst hf
  exact v_iret dX11_gives_29 rfl
def f_X11_gives (h : xa_H) (l0 : Nat) (l1 : Int32) (l2 : Int32) (l3 : Int32) : Option (Int32 × xa_H) :=
  (ck [11] h l0).bind fun _ =>
  (gR [11] 6 h l0).bind fun x1 =>
  (f_X0_has h x1 l1).bind fun q2 =>
  if q2 = 0 then
    f_X11_gives_b22 h l0
  else
    (gR [11] 6 h l0).bind fun x4 =>
    (f_X0_has h x4 l2).bind fun q5 =>
    if q5 = 0 then
      f_X11_gives_b22 h l0
    else
      if l1 = l2 then
        f_X11_gives_b46 h l0
      else
        if l3 < (1 : Int32) then
          f_X11_gives_b46 h l0
        else
          if l3 ≤ (9 : Int32) then
            (gR [11] 6 h l0).bind fun x10 =>
            (f_X0_debt h x10 l1 l2).bind fun q11 =>
            (gR [11] 6 h l0).bind fun x12 =>
            (gI [0] 5 h x12).bind fun x13 =>
            if (q11 + l3) ≤ x13 then
              (gR [11] 10 h l0).bind fun x15 =>
              (gR [11] 6 h l0).bind fun x16 =>
              (f_X3_remember h x15 x16).bind fun q17 =>
              (gR [11] 6 q17 l0).bind fun x18 =>
              (f_X0_setDebt q17 x18 l1 l2 (q11 + l3)).bind fun q19 =>
              some ((q11 + l3), q19)
            else
              (f_X11_refuse h l0 (3 : Int32) (-1000000 : Int32)).bind fun q20 =>
              some (q20.1, q20.2)
          else
            f_X11_gives_b46 h l0
set_option maxRecDepth 20000 in
theorem ev_X11_gives {G : xa_G} {h : xa_H} {l0 : Nat} {l1 : Int32} {l2 : Int32} {l3 : Int32} {r : (Int32 × xa_H)} (hf : f_X11_gives h l0 l1 l2 l3 = some r) : xa_Ev G M_X11_gives 3 [.ref l0, .int l1, .int l2, .int l3] h (some (.int r.1)) r.2 := by
  refine xa_entry (by decide +kernel) (loc := [some (.ref l0), some (.int l1), some (.int l2), some (.int l3), none]) rfl (Nat.le_of_ble_eq_true rfl) ?_
  unfold f_X11_gives at hf
  obtain ⟨u0, eu0, hf⟩ := ob hf
  refine v_aload_n dX11_gives_0 rfl ?_
  obtain ⟨x1, ex1, hf⟩ := ob hf
  refine v_getR dX11_gives_1 fl_11_49 ex1 ?_
  refine v_iload_n dX11_gives_4 rfl ?_
  obtain ⟨q2, eq2, hf⟩ := ob hf
  refine v_callV dX11_gives_5 ⟨cb_X0_has, ml_11_157, im_X0_has⟩ se_0_X0_has (ckf_X0_has eq2) (ev_X0_has eq2) (by decide) (As := [.int l1]) rfl (st := []) rfl (Nat.le_of_ble_eq_true rfl) rfl ?_
  refine v_if_eq dX11_gives_8 (tgt := 22) (by decide) (fun c3 => ?_) (fun c3 => ?_)
  · replace hf := (if_pos c3).symm.trans hf
    exact xa_weak (loc := [some (.ref l0), none, none, none, none]) ⟨rfl, trivial⟩ (e_X11_gives_b22 h l0 r hf)
  · replace hf := (if_neg c3).symm.trans hf
    refine v_aload_n dX11_gives_11 rfl ?_
    obtain ⟨x4, ex4, hf⟩ := ob hf
    refine v_getR dX11_gives_12 fl_11_49 ex4 ?_
    refine v_iload_n dX11_gives_15 rfl ?_
    obtain ⟨q5, eq5, hf⟩ := ob hf
    refine v_callV dX11_gives_16 ⟨cb_X0_has, ml_11_157, im_X0_has⟩ se_0_X0_has (ckf_X0_has eq5) (ev_X0_has eq5) (by decide) (As := [.int l2]) rfl (st := []) rfl (Nat.le_of_ble_eq_true rfl) rfl ?_
    refine v_if_ne dX11_gives_19 (tgt := 30) (by decide) (fun c6 => ?_) (fun c6 => ?_)
    · replace hf := (if_neg c6).symm.trans hf
      refine v_iload_n dX11_gives_30 rfl ?_
      refine v_iload_n dX11_gives_31 rfl ?_
      refine v_icmp_eq dX11_gives_32 (tgt := 46) (by decide) (fun c7 => ?_) (fun c7 => ?_)
      · replace hf := (if_pos c7).symm.trans hf
        exact xa_weak (loc := [some (.ref l0), none, none, none, none]) ⟨rfl, trivial⟩ (e_X11_gives_b46 h l0 r hf)
      · replace hf := (if_neg c7).symm.trans hf
        refine v_iload_n dX11_gives_35 rfl ?_
        refine v_iconst dX11_gives_36 (by decide) (v := 1) ?_
        refine v_icmp_lt dX11_gives_37 (tgt := 46) (by decide) (fun c8 => ?_) (fun c8 => ?_)
        · replace hf := (if_pos c8).symm.trans hf
          exact xa_weak (loc := [some (.ref l0), none, none, none, none]) ⟨rfl, trivial⟩ (e_X11_gives_b46 h l0 r hf)
        · replace hf := (if_neg c8).symm.trans hf
          refine v_iload_n dX11_gives_40 rfl ?_
          refine v_bipush dX11_gives_41 (by decide) (v := 9) ?_
          refine v_icmp_le dX11_gives_43 (tgt := 54) (by decide) (fun c9 => ?_) (fun c9 => ?_)
          · replace hf := (if_pos c9).symm.trans hf
            refine v_aload_n dX11_gives_54 rfl ?_
            obtain ⟨x10, ex10, hf⟩ := ob hf
            refine v_getR dX11_gives_55 fl_11_49 ex10 ?_
            refine v_iload_n dX11_gives_58 rfl ?_
            refine v_iload_n dX11_gives_59 rfl ?_
            obtain ⟨q11, eq11, hf⟩ := ob hf
            refine v_callV dX11_gives_60 ⟨cb_X0_debt, ml_11_217, im_X0_debt⟩ se_0_X0_debt (ckf_X0_debt eq11) (ev_X0_debt eq11) (by decide) (As := [.int l1, .int l2]) rfl (st := []) rfl (Nat.le_of_ble_eq_true rfl) rfl ?_
            refine v_iload_n dX11_gives_63 rfl ?_
            refine v_iadd dX11_gives_64 ?_
            refine v_istore dX11_gives_65 (Nat.le_of_ble_eq_true rfl) (loc' := [some (.ref l0), some (.int l1), some (.int l2), some (.int l3), some (.int (q11 + l3))]) rfl ?_
            refine v_iload dX11_gives_67 rfl ?_
            refine v_aload_n dX11_gives_69 rfl ?_
            obtain ⟨x12, ex12, hf⟩ := ob hf
            refine v_getR dX11_gives_70 fl_11_49 ex12 ?_
            obtain ⟨x13, ex13, hf⟩ := ob hf
            refine v_getI dX11_gives_73 fl_11_257 ex13 ?_
            refine v_icmp_le dX11_gives_76 (tgt := 87) (by decide) (fun c14 => ?_) (fun c14 => ?_)
            · replace hf := (if_pos c14).symm.trans hf
              refine v_aload_n dX11_gives_87 rfl ?_
              obtain ⟨x15, ex15, hf⟩ := ob hf
              refine v_getR dX11_gives_88 fl_11_69 ex15 ?_
              refine v_aload_n dX11_gives_91 rfl ?_
              obtain ⟨x16, ex16, hf⟩ := ob hf
              refine v_getR dX11_gives_92 fl_11_49 ex16 ?_
              obtain ⟨q17, eq17, hf⟩ := ob hf
              refine v_callV dX11_gives_95 ⟨cb_X3_remember, ml_11_238, im_X3_remember⟩ se_3_X3_remember (ckf_X3_remember eq17) (ev_X3_remember eq17) (by decide) (As := [.ref x16]) rfl (st := []) rfl (Nat.le_of_ble_eq_true rfl) rfl ?_
              refine v_aload_n dX11_gives_98 rfl ?_
              obtain ⟨x18, ex18, hf⟩ := ob hf
              refine v_getR dX11_gives_99 fl_11_49 ex18 ?_
              refine v_iload_n dX11_gives_102 rfl ?_
              refine v_iload_n dX11_gives_103 rfl ?_
              refine v_iload dX11_gives_104 rfl ?_
              obtain ⟨q19, eq19, hf⟩ := ob hf
              refine v_callV dX11_gives_106 ⟨cb_X0_setDebt, ml_11_260, im_X0_setDebt⟩ se_0_X0_setDebt (ckf_X0_setDebt eq19) (ev_X0_setDebt eq19) (by decide) (As := [.int l1, .int l2, .int (q11 + l3)]) rfl (st := []) rfl (Nat.le_of_ble_eq_true rfl) rfl ?_
              refine v_iload dX11_gives_109 rfl ?_
              replace hf := Option.some.inj hf
              subst hf
              exact v_iret dX11_gives_111 rfl
            · replace hf := (if_neg c14).symm.trans hf
              refine v_aload_n dX11_gives_79 rfl ?_
              refine v_iconst dX11_gives_80 (by decide) (v := 3) ?_
              refine v_ldc dX11_gives_81 rfl co_11_220 ?_
              obtain ⟨q20, eq20, hf⟩ := ob hf
              refine v_callV dX11_gives_83 ⟨cb_X11_refuse, ml_11_225, im_X11_refuse⟩ se_11_X11_refuse (ckf_X11_refuse eq20) (ev_X11_refuse eq20) (by decide) (As := [.int (3 : Int32), .int (-1000000 : Int32)]) rfl (st := []) rfl (Nat.le_of_ble_eq_true rfl) rfl ?_
              replace hf := Option.some.inj hf
              subst hf
              exact v_iret dX11_gives_86 rfl
          · replace hf := (if_neg c9).symm.trans hf
            exact xa_weak (loc := [some (.ref l0), none, none, none, none]) ⟨rfl, trivial⟩ (e_X11_gives_b46 h l0 r hf)
    · replace hf := (if_pos c6).symm.trans hf
      exact xa_weak (loc := [some (.ref l0), none, none, none, none]) ⟨rfl, trivial⟩ (e_X11_gives_b22 h l0 r hf)
theorem ckf_X11_gives {h : xa_H} {l0 : Nat} {l1 : Int32} {l2 : Int32} {l3 : Int32} {r : (Int32 × xa_H)} (hf : f_X11_gives h l0 l1 l2 l3 = some r) : ck [11] h l0 = some () := by
  obtain ⟨u, e, -⟩ := ob hf
  exact e
def M_X11_grace : xa_M := (yX11_grace, cX11_grace, 2, some .boolean)
theorem cb_X11_grace : xa_CB M_X11_grace 1 := ⟨gws_at 832 (by decide +kernel) rfl, gws_at 109 (by decide +kernel) rfl, by decide +kernel, Nat.le_of_ble_eq_true rfl⟩
def f_X11_grace (h : xa_H) (l0 : Nat) (l1 : Int32) : Option (Int32 × xa_H) :=
  (ck [11] h l0).bind fun _ =>
  if l1 < 0 then
    some ((0 : Int32), h)
  else
    if (9 : Int32) < l1 then
      some ((0 : Int32), h)
    else
      (gI [11] 18 h l0).bind fun x3 =>
      if l1 = x3 then
        some ((0 : Int32), h)
      else
        (xp [11] 18 h l0 (.int l1)).bind fun h5 =>
        some ((1 : Int32), h5)
set_option maxRecDepth 20000 in
theorem ev_X11_grace {G : xa_G} {h : xa_H} {l0 : Nat} {l1 : Int32} {r : (Int32 × xa_H)} (hf : f_X11_grace h l0 l1 = some r) : xa_Ev G M_X11_grace 0 [.ref l0, .int l1] h (some (.int r.1)) r.2 := by
  refine xa_entry (by decide +kernel) (loc := [some (.ref l0), some (.int l1)]) rfl (Nat.le_of_ble_eq_true rfl) ?_
  unfold f_X11_grace at hf
  obtain ⟨u0, eu0, hf⟩ := ob hf
  refine v_iload_n dX11_grace_0 rfl ?_
  refine v_if_lt dX11_grace_1 (tgt := 18) (by decide) (fun c1 => ?_) (fun c1 => ?_)
  · replace hf := (if_pos c1).symm.trans hf
    refine v_iconst dX11_grace_18 (by decide) (v := 0) ?_
    replace hf := Option.some.inj hf
    subst hf
    exact v_zret dX11_grace_19 rfl (by decide)
  · replace hf := (if_neg c1).symm.trans hf
    refine v_iload_n dX11_grace_4 rfl ?_
    refine v_bipush dX11_grace_5 (by decide) (v := 9) ?_
    refine v_icmp_gt dX11_grace_7 (tgt := 18) (by decide) (fun c2 => ?_) (fun c2 => ?_)
    · replace hf := (if_pos c2).symm.trans hf
      refine v_iconst dX11_grace_18 (by decide) (v := 0) ?_
      replace hf := Option.some.inj hf
      subst hf
      exact v_zret dX11_grace_19 rfl (by decide)
    · replace hf := (if_neg c2).symm.trans hf
      refine v_iload_n dX11_grace_10 rfl ?_
      refine v_aload_n dX11_grace_11 rfl ?_
      obtain ⟨x3, ex3, hf⟩ := ob hf
      refine v_getI dX11_grace_12 fl_11_107 ex3 ?_
      refine v_icmp_ne dX11_grace_15 (tgt := 20) (by decide) (fun c4 => ?_) (fun c4 => ?_)
      · replace hf := (if_neg c4).symm.trans hf
        refine v_aload_n dX11_grace_20 rfl ?_
        refine v_iload_n dX11_grace_21 rfl ?_
        obtain ⟨h5, eh5, hf⟩ := ob hf
        refine v_put dX11_grace_22 fp_11_107 (fun z => by cases z) (fun _ => rfl) (fun _ => rfl) eh5 ?_
        refine v_iconst dX11_grace_25 (by decide) (v := 1) ?_
        replace hf := Option.some.inj hf
        subst hf
        exact v_zret dX11_grace_26 rfl (by decide)
      · replace hf := (if_pos c4).symm.trans hf
        refine v_iconst dX11_grace_18 (by decide) (v := 0) ?_
        replace hf := Option.some.inj hf
        subst hf
        exact v_zret dX11_grace_19 rfl (by decide)
theorem ckf_X11_grace {h : xa_H} {l0 : Nat} {l1 : Int32} {r : (Int32 × xa_H)} (hf : f_X11_grace h l0 l1 = some r) : ck [11] h l0 = some () := by
  obtain ⟨u, e, -⟩ := ob hf
  exact e
def M_X11_image : xa_M := (yX11_image, cX11_image, 1, some .int)
theorem cb_X11_image : xa_CB M_X11_image 0 := ⟨gws_at 1191 (by decide +kernel) rfl, gws_at 109 (by decide +kernel) rfl, by decide +kernel, Nat.le_of_ble_eq_true rfl⟩
def f_X11_image (h : xa_H) (l0 : Nat) : Option (Int32 × xa_H) :=
  (ck [11] h l0).bind fun _ =>
  (gR [11] 6 h l0).bind fun x1 =>
  (gI [0] 4 h x1).bind fun x2 =>
  if x2 = 0 then
    some ((-1 : Int32), h)
  else
    (gR [11] 10 h l0).bind fun x4 =>
    (gR [11] 6 h l0).bind fun x5 =>
    (gR [11] 9 h l0).bind fun x6 =>
    (f_X3_takeImage h x4 x5 x6).bind fun q7 =>
    (gR [11] 6 q7 l0).bind fun x8 =>
    (gI [0] 8 q7 x8).bind fun x9 =>
    some (x9, q7)
set_option maxRecDepth 20000 in
theorem ev_X11_image {G : xa_G} {h : xa_H} {l0 : Nat} {r : (Int32 × xa_H)} (hf : f_X11_image h l0 = some r) : xa_Ev G M_X11_image 3 [.ref l0] h (some (.int r.1)) r.2 := by
  refine xa_entry (by decide +kernel) (loc := [some (.ref l0)]) rfl (Nat.le_of_ble_eq_true rfl) ?_
  unfold f_X11_image at hf
  obtain ⟨u0, eu0, hf⟩ := ob hf
  refine v_aload_n dX11_image_0 rfl ?_
  obtain ⟨x1, ex1, hf⟩ := ob hf
  refine v_getR dX11_image_1 fl_11_49 ex1 ?_
  obtain ⟨x2, ex2, hf⟩ := ob hf
  refine v_getI dX11_image_4 fl_11_154 ex2 ?_
  refine v_if_ne dX11_image_7 (tgt := 12) (by decide) (fun c3 => ?_) (fun c3 => ?_)
  · replace hf := (if_neg c3).symm.trans hf
    refine v_aload_n dX11_image_12 rfl ?_
    obtain ⟨x4, ex4, hf⟩ := ob hf
    refine v_getR dX11_image_13 fl_11_69 ex4 ?_
    refine v_aload_n dX11_image_16 rfl ?_
    obtain ⟨x5, ex5, hf⟩ := ob hf
    refine v_getR dX11_image_17 fl_11_49 ex5 ?_
    refine v_aload_n dX11_image_20 rfl ?_
    obtain ⟨x6, ex6, hf⟩ := ob hf
    refine v_getR dX11_image_21 fl_11_62 ex6 ?_
    obtain ⟨q7, eq7, hf⟩ := ob hf
    refine v_callV dX11_image_24 ⟨cb_X3_takeImage, ml_11_384, im_X3_takeImage⟩ se_3_X3_takeImage (ckf_X3_takeImage eq7) (ev_X3_takeImage eq7) (by decide) (As := [.ref x5, .ref x6]) rfl (st := []) rfl (Nat.le_of_ble_eq_true rfl) rfl ?_
    refine v_aload_n dX11_image_27 rfl ?_
    obtain ⟨x8, ex8, hf⟩ := ob hf
    refine v_getR dX11_image_28 fl_11_49 ex8 ?_
    obtain ⟨x9, ex9, hf⟩ := ob hf
    refine v_getI dX11_image_31 fl_11_195 ex9 ?_
    replace hf := Option.some.inj hf
    subst hf
    exact v_iret dX11_image_34 rfl
  · replace hf := (if_pos c3).symm.trans hf
    refine v_iconst dX11_image_10 (by decide) (v := -1) ?_
    replace hf := Option.some.inj hf
    subst hf
    exact v_iret dX11_image_11 rfl
theorem ckf_X11_image {h : xa_H} {l0 : Nat} {r : (Int32 × xa_H)} (hf : f_X11_image h l0 = some r) : ck [11] h l0 = some () := by
  obtain ⟨u, e, -⟩ := ob hf
  exact e
def M_X11_init : xa_M := (yX11_init, cX11_init, 1, none)
theorem cb_X11_init : xa_CB M_X11_init 0 := ⟨gws_at 136 (by decide +kernel) rfl, gws_at 109 (by decide +kernel) rfl, by decide +kernel, Nat.le_of_ble_eq_true rfl⟩
def f_X11_init (h : xa_H) (l0 : Nat) : Option xa_H :=
  (ck [11] h l0).bind fun _ =>
  (nAI h (240 : Int32)).bind fun h1 =>
  (xp [11] 0 h1 l0 (.ref h.2.1)).bind fun h2 =>
  (nC h2 (.inr (9, [.null, .int 0, .int 0, .int 0, .null, .null, .int 0, .int 0, .int 0, .int 0])) 10).bind fun h3 =>
  (f_X9_init h3 h2.2.1).bind fun q4 =>
  (xp [11] 1 q4 l0 (.ref h2.2.1)).bind fun h5 =>
  (nC h5 (.inr (2, [.null, .int 0, .int 0, .int 0, .null, .int 0, .int 0])) 7).bind fun h6 =>
  (f_X2_init h6 h5.2.1).bind fun q7 =>
  (xp [11] 2 q7 l0 (.ref h5.2.1)).bind fun h8 =>
  (nC h8 (.inr (8, [.null, .int 0, .int 0, .int 0, .null, .int 0])) 6).bind fun h9 =>
  (f_X8_init h9 h8.2.1).bind fun q10 =>
  (xp [11] 3 q10 l0 (.ref h8.2.1)).bind fun h11 =>
  (nC h11 (.inr (5, [.null, .null, .int 0, .int 0])) 4).bind fun h12 =>
  (f_X5_init h12 h11.2.1 (240 : Int32)).bind fun q13 =>
  (xp [11] 4 q13 l0 (.ref h11.2.1)).bind fun h14 =>
  (nC h14 (.inr (5, [.null, .null, .int 0, .int 0])) 4).bind fun h15 =>
  (f_X5_init h15 h14.2.1 (16 : Int32)).bind fun q16 =>
  (xp [11] 5 q16 l0 (.ref h14.2.1)).bind fun h17 =>
  (nC h17 (.inr (0, [.null, .null, .null, .null, .int 0, .int 0, .int 0, .int 0, .int 0])) 9).bind fun h18 =>
  (f_X0_init h18 h17.2.1).bind fun q19 =>
  (xp [11] 6 q19 l0 (.ref h17.2.1)).bind fun h20 =>
  (nC h20 (.inr (0, [.null, .null, .null, .null, .int 0, .int 0, .int 0, .int 0, .int 0])) 9).bind fun h21 =>
  (f_X0_init h21 h20.2.1).bind fun q22 =>
  (xp [11] 7 q22 l0 (.ref h20.2.1)).bind fun h23 =>
  (nC h23 (.inr (0, [.null, .null, .null, .null, .int 0, .int 0, .int 0, .int 0, .int 0])) 9).bind fun h24 =>
  (f_X0_init h24 h23.2.1).bind fun q25 =>
  (xp [11] 8 q25 l0 (.ref h23.2.1)).bind fun h26 =>
  (nC h26 (.inr (1, [.null, .null, .null])) 3).bind fun h27 =>
  (f_X1_init h27 h26.2.1).bind fun q28 =>
  (xp [11] 9 q28 l0 (.ref h26.2.1)).bind fun h29 =>
  (nC h29 (.inr (3, [.null, .null, .null, .int 0, .int 0, .int 0])) 6).bind fun h30 =>
  (f_X3_init h30 h29.2.1).bind fun q31 =>
  (xp [11] 10 q31 l0 (.ref h29.2.1)).bind fun h32 =>
  (nC h32 (.inr (6, [.null, .null, .null, .null, .null, .null, .int 0])) 7).bind fun h33 =>
  (f_X6_init h33 h32.2.1).bind fun q34 =>
  (xp [11] 11 q34 l0 (.ref h32.2.1)).bind fun h35 =>
  (nC h35 (.inr (10, [.null, .null, .null, .null, .int 0, .int 0, .int 0, .int 0, .int 0, .int 0, .int 0])) 11).bind fun h36 =>
  (f_X10_init h36 h35.2.1).bind fun q37 =>
  (xp [11] 12 q37 l0 (.ref h35.2.1)).bind fun h38 =>
  (nC h38 (.inr (7, [.null, .null, .int 0, .int 0])) 4).bind fun h39 =>
  (f_X7_init h39 h38.2.1).bind fun q40 =>
  (xp [11] 13 q40 l0 (.ref h38.2.1)).bind fun h41 =>
  (nAI h41 (6 : Int32)).bind fun h42 =>
  (xp [11] 14 h42 l0 (.ref h41.2.1)).bind fun h43 =>
  (nAI h43 (6 : Int32)).bind fun h44 =>
  (xp [11] 15 h44 l0 (.ref h43.2.1)).bind fun h45 =>
  (xp [11] 16 h45 l0 (.int (0 : Int32))).bind fun h46 =>
  (xp [11] 17 h46 l0 (.int (-1 : Int32))).bind fun h47 =>
  (xp [11] 18 h47 l0 (.int (2 : Int32))).bind fun h48 =>
  some h48
set_option maxRecDepth 20000 in
theorem ev_X11_init {G : xa_G} {h : xa_H} {l0 : Nat} {r : xa_H} (hf : f_X11_init h l0 = some r) : xa_Ev G M_X11_init 3 [.ref l0] h none r := by
  refine xa_entry (by decide +kernel) (loc := [some (.ref l0)]) rfl (Nat.le_of_ble_eq_true rfl) ?_
  unfold f_X11_init at hf
  obtain ⟨u0, eu0, hf⟩ := ob hf
  refine v_aload_n dX11_init_0 rfl ?_
  refine v_objInit dX11_init_1 oi_11_1 (by decide) (Nat.le_of_ble_eq_true rfl) ?_
  refine v_aload_n dX11_init_4 rfl ?_
  refine v_sipush dX11_init_5 (by decide) (v := 240) ?_
  obtain ⟨h1, eh1, hf⟩ := ob hf
  refine w_newaI dX11_init_8 ac_int eh1 ?_
  obtain ⟨h2, eh2, hf⟩ := ob hf
  refine v_put dX11_init_10 fp_11_9 (fun _ => rfl) (fun _ => rfl) (fun _ => rfl) eh2 ?_
  refine v_aload_n dX11_init_13 rfl ?_
  obtain ⟨h3, eh3, hf⟩ := ob hf
  refine v_new dX11_init_14 nw_11_13 eh3 ?_
  refine v_dup dX11_init_17 rfl ?_
  obtain ⟨q4, eq4, hf⟩ := ob hf
  refine v_callIN dX11_init_18 ⟨cb_X9_init, mn_11_15, im_X9_init, rfl, rfl⟩ (ev_X9_init eq4) (by decide) (As := []) rfl (st := [.ref h2.2.1, .ref l0]) rfl (Nat.le_of_ble_eq_true rfl) rfl ?_
  obtain ⟨h5, eh5, hf⟩ := ob hf
  refine v_put dX11_init_21 fp_11_16 (fun _ => rfl) (fun _ => rfl) (fun _ => rfl) eh5 ?_
  refine v_aload_n dX11_init_24 rfl ?_
  obtain ⟨h6, eh6, hf⟩ := ob hf
  refine v_new dX11_init_25 nw_11_20 eh6 ?_
  refine v_dup dX11_init_28 rfl ?_
  obtain ⟨q7, eq7, hf⟩ := ob hf
  refine v_callIN dX11_init_29 ⟨cb_X2_init, mn_11_22, im_X2_init, rfl, rfl⟩ (ev_X2_init eq7) (by decide) (As := []) rfl (st := [.ref h5.2.1, .ref l0]) rfl (Nat.le_of_ble_eq_true rfl) rfl ?_
  obtain ⟨h8, eh8, hf⟩ := ob hf
  refine v_put dX11_init_32 fp_11_23 (fun _ => rfl) (fun _ => rfl) (fun _ => rfl) eh8 ?_
  refine v_aload_n dX11_init_35 rfl ?_
  obtain ⟨h9, eh9, hf⟩ := ob hf
  refine v_new dX11_init_36 nw_11_27 eh9 ?_
  refine v_dup dX11_init_39 rfl ?_
  obtain ⟨q10, eq10, hf⟩ := ob hf
  refine v_callIN dX11_init_40 ⟨cb_X8_init, mn_11_29, im_X8_init, rfl, rfl⟩ (ev_X8_init eq10) (by decide) (As := []) rfl (st := [.ref h8.2.1, .ref l0]) rfl (Nat.le_of_ble_eq_true rfl) rfl ?_
  obtain ⟨h11, eh11, hf⟩ := ob hf
  refine v_put dX11_init_43 fp_11_30 (fun _ => rfl) (fun _ => rfl) (fun _ => rfl) eh11 ?_
  refine v_aload_n dX11_init_46 rfl ?_
  obtain ⟨h12, eh12, hf⟩ := ob hf
  refine v_new dX11_init_47 nw_11_34 eh12 ?_
  refine v_dup dX11_init_50 rfl ?_
  refine v_sipush dX11_init_51 (by decide) (v := 240) ?_
  obtain ⟨q13, eq13, hf⟩ := ob hf
  refine v_callI dX11_init_54 ⟨cb_X5_init, ml_11_36, im_X5_init, rfl, rfl⟩ (ev_X5_init eq13) (by decide) (As := [.int (240 : Int32)]) rfl (st := [.ref h11.2.1, .ref l0]) rfl (Nat.le_of_ble_eq_true rfl) rfl ?_
  obtain ⟨h14, eh14, hf⟩ := ob hf
  refine v_put dX11_init_57 fp_11_39 (fun _ => rfl) (fun _ => rfl) (fun _ => rfl) eh14 ?_
  refine v_aload_n dX11_init_60 rfl ?_
  obtain ⟨h15, eh15, hf⟩ := ob hf
  refine v_new dX11_init_61 nw_11_34 eh15 ?_
  refine v_dup dX11_init_64 rfl ?_
  refine v_bipush dX11_init_65 (by decide) (v := 16) ?_
  obtain ⟨q16, eq16, hf⟩ := ob hf
  refine v_callI dX11_init_67 ⟨cb_X5_init, ml_11_36, im_X5_init, rfl, rfl⟩ (ev_X5_init eq16) (by decide) (As := [.int (16 : Int32)]) rfl (st := [.ref h14.2.1, .ref l0]) rfl (Nat.le_of_ble_eq_true rfl) rfl ?_
  obtain ⟨h17, eh17, hf⟩ := ob hf
  refine v_put dX11_init_70 fp_11_43 (fun _ => rfl) (fun _ => rfl) (fun _ => rfl) eh17 ?_
  refine v_aload_n dX11_init_73 rfl ?_
  obtain ⟨h18, eh18, hf⟩ := ob hf
  refine v_new dX11_init_74 nw_11_46 eh18 ?_
  refine v_dup dX11_init_77 rfl ?_
  obtain ⟨q19, eq19, hf⟩ := ob hf
  refine v_callIN dX11_init_78 ⟨cb_X0_init, mn_11_48, im_X0_init, rfl, rfl⟩ (ev_X0_init eq19) (by decide) (As := []) rfl (st := [.ref h17.2.1, .ref l0]) rfl (Nat.le_of_ble_eq_true rfl) rfl ?_
  obtain ⟨h20, eh20, hf⟩ := ob hf
  refine v_put dX11_init_81 fp_11_49 (fun _ => rfl) (fun _ => rfl) (fun _ => rfl) eh20 ?_
  refine v_aload_n dX11_init_84 rfl ?_
  obtain ⟨h21, eh21, hf⟩ := ob hf
  refine v_new dX11_init_85 nw_11_46 eh21 ?_
  refine v_dup dX11_init_88 rfl ?_
  obtain ⟨q22, eq22, hf⟩ := ob hf
  refine v_callIN dX11_init_89 ⟨cb_X0_init, mn_11_48, im_X0_init, rfl, rfl⟩ (ev_X0_init eq22) (by decide) (As := []) rfl (st := [.ref h20.2.1, .ref l0]) rfl (Nat.le_of_ble_eq_true rfl) rfl ?_
  obtain ⟨h23, eh23, hf⟩ := ob hf
  refine v_put dX11_init_92 fp_11_53 (fun _ => rfl) (fun _ => rfl) (fun _ => rfl) eh23 ?_
  refine v_aload_n dX11_init_95 rfl ?_
  obtain ⟨h24, eh24, hf⟩ := ob hf
  refine v_new dX11_init_96 nw_11_46 eh24 ?_
  refine v_dup dX11_init_99 rfl ?_
  obtain ⟨q25, eq25, hf⟩ := ob hf
  refine v_callIN dX11_init_100 ⟨cb_X0_init, mn_11_48, im_X0_init, rfl, rfl⟩ (ev_X0_init eq25) (by decide) (As := []) rfl (st := [.ref h23.2.1, .ref l0]) rfl (Nat.le_of_ble_eq_true rfl) rfl ?_
  obtain ⟨h26, eh26, hf⟩ := ob hf
  refine v_put dX11_init_103 fp_11_56 (fun _ => rfl) (fun _ => rfl) (fun _ => rfl) eh26 ?_
  refine v_aload_n dX11_init_106 rfl ?_
  obtain ⟨h27, eh27, hf⟩ := ob hf
  refine v_new dX11_init_107 nw_11_59 eh27 ?_
  refine v_dup dX11_init_110 rfl ?_
  obtain ⟨q28, eq28, hf⟩ := ob hf
  refine v_callIN dX11_init_111 ⟨cb_X1_init, mn_11_61, im_X1_init, rfl, rfl⟩ (ev_X1_init eq28) (by decide) (As := []) rfl (st := [.ref h26.2.1, .ref l0]) rfl (Nat.le_of_ble_eq_true rfl) rfl ?_
  obtain ⟨h29, eh29, hf⟩ := ob hf
  refine v_put dX11_init_114 fp_11_62 (fun _ => rfl) (fun _ => rfl) (fun _ => rfl) eh29 ?_
  refine v_aload_n dX11_init_117 rfl ?_
  obtain ⟨h30, eh30, hf⟩ := ob hf
  refine v_new dX11_init_118 nw_11_66 eh30 ?_
  refine v_dup dX11_init_121 rfl ?_
  obtain ⟨q31, eq31, hf⟩ := ob hf
  refine v_callI dX11_init_122 ⟨cb_X3_init, ml_11_68, im_X3_init, rfl, rfl⟩ (ev_X3_init eq31) (by decide) (As := []) rfl (st := [.ref h29.2.1, .ref l0]) rfl (Nat.le_of_ble_eq_true rfl) rfl ?_
  obtain ⟨h32, eh32, hf⟩ := ob hf
  refine v_put dX11_init_125 fp_11_69 (fun _ => rfl) (fun _ => rfl) (fun _ => rfl) eh32 ?_
  refine v_aload_n dX11_init_128 rfl ?_
  obtain ⟨h33, eh33, hf⟩ := ob hf
  refine v_new dX11_init_129 nw_11_73 eh33 ?_
  refine v_dup dX11_init_132 rfl ?_
  obtain ⟨q34, eq34, hf⟩ := ob hf
  refine v_callIN dX11_init_133 ⟨cb_X6_init, mn_11_75, im_X6_init, rfl, rfl⟩ (ev_X6_init eq34) (by decide) (As := []) rfl (st := [.ref h32.2.1, .ref l0]) rfl (Nat.le_of_ble_eq_true rfl) rfl ?_
  obtain ⟨h35, eh35, hf⟩ := ob hf
  refine v_put dX11_init_136 fp_11_76 (fun _ => rfl) (fun _ => rfl) (fun _ => rfl) eh35 ?_
  refine v_aload_n dX11_init_139 rfl ?_
  obtain ⟨h36, eh36, hf⟩ := ob hf
  refine v_new dX11_init_140 nw_11_80 eh36 ?_
  refine v_dup dX11_init_143 rfl ?_
  obtain ⟨q37, eq37, hf⟩ := ob hf
  refine v_callI dX11_init_144 ⟨cb_X10_init, ml_11_82, im_X10_init, rfl, rfl⟩ (ev_X10_init eq37) (by decide) (As := []) rfl (st := [.ref h35.2.1, .ref l0]) rfl (Nat.le_of_ble_eq_true rfl) rfl ?_
  obtain ⟨h38, eh38, hf⟩ := ob hf
  refine v_put dX11_init_147 fp_11_83 (fun _ => rfl) (fun _ => rfl) (fun _ => rfl) eh38 ?_
  refine v_aload_n dX11_init_150 rfl ?_
  obtain ⟨h39, eh39, hf⟩ := ob hf
  refine v_new dX11_init_151 nw_11_87 eh39 ?_
  refine v_dup dX11_init_154 rfl ?_
  obtain ⟨q40, eq40, hf⟩ := ob hf
  refine v_callI dX11_init_155 ⟨cb_X7_init, ml_11_89, im_X7_init, rfl, rfl⟩ (ev_X7_init eq40) (by decide) (As := []) rfl (st := [.ref h38.2.1, .ref l0]) rfl (Nat.le_of_ble_eq_true rfl) rfl ?_
  obtain ⟨h41, eh41, hf⟩ := ob hf
  refine v_put dX11_init_158 fp_11_90 (fun _ => rfl) (fun _ => rfl) (fun _ => rfl) eh41 ?_
  refine v_aload_n dX11_init_161 rfl ?_
  refine v_bipush dX11_init_162 (by decide) (v := 6) ?_
  obtain ⟨h42, eh42, hf⟩ := ob hf
  refine w_newaI dX11_init_164 ac_int eh42 ?_
  obtain ⟨h43, eh43, hf⟩ := ob hf
  refine v_put dX11_init_166 fp_11_94 (fun _ => rfl) (fun _ => rfl) (fun _ => rfl) eh43 ?_
  refine v_aload_n dX11_init_169 rfl ?_
  refine v_bipush dX11_init_170 (by decide) (v := 6) ?_
  obtain ⟨h44, eh44, hf⟩ := ob hf
  refine w_newaI dX11_init_172 ac_int eh44 ?_
  obtain ⟨h45, eh45, hf⟩ := ob hf
  refine v_put dX11_init_174 fp_11_97 (fun _ => rfl) (fun _ => rfl) (fun _ => rfl) eh45 ?_
  refine v_aload_n dX11_init_177 rfl ?_
  refine v_iconst dX11_init_178 (by decide) (v := 0) ?_
  obtain ⟨h46, eh46, hf⟩ := ob hf
  refine v_put dX11_init_179 fp_11_100 (fun z => by cases z) (fun _ => rfl) (fun _ => rfl) eh46 ?_
  refine v_aload_n dX11_init_182 rfl ?_
  refine v_iconst dX11_init_183 (by decide) (v := -1) ?_
  obtain ⟨h47, eh47, hf⟩ := ob hf
  refine v_put dX11_init_184 fp_11_104 (fun z => by cases z) (fun _ => rfl) (fun _ => rfl) eh47 ?_
  refine v_aload_n dX11_init_187 rfl ?_
  refine v_iconst dX11_init_188 (by decide) (v := 2) ?_
  obtain ⟨h48, eh48, hf⟩ := ob hf
  refine v_put dX11_init_189 fp_11_107 (fun z => by cases z) (fun _ => rfl) (fun _ => rfl) eh48 ?_
  replace hf := Option.some.inj hf
  subst hf
  exact v_vret dX11_init_192 rfl
theorem ckf_X11_init {h : xa_H} {l0 : Nat} {r : xa_H} (hf : f_X11_init h l0 = some r) : ck [11] h l0 = some () := by
  obtain ⟨u, e, -⟩ := ob hf
  exact e
def M_X11_isRest : xa_M := (yX11_isRest, cX11_isRest, 5, some .boolean)
theorem cb_X11_isRest : xa_CB M_X11_isRest 4 := ⟨gws_at 1132 (by decide +kernel) rfl, gws_at 109 (by decide +kernel) rfl, by decide +kernel, Nat.le_of_ble_eq_true rfl⟩
def f_X11_isRest (h : xa_H) (l0 : Nat) (l1 : Int32) (l2 : Int32) (l3 : Int32) (l4 : Int32) : Option (Int32 × xa_H) :=
  (ck [11] h l0).bind fun _ =>
  (f_X11_game h l0 l1 l2 l3 l4 (0 : Int32)).bind fun q1 =>
  (f_X11_game q1.2 l0 l1 l2 ((1 : Int32) - l3) l4 (0 : Int32)).bind fun q2 =>
  if q1.1 < q2.1 then
    some ((0 : Int32), q2.2)
  else
    (f_X11_game q2.2 l0 l1 l2 l3 l4 (1 : Int32)).bind fun q4 =>
    (f_X11_game q4.2 l0 l1 l2 l3 ((1 : Int32) - l4) (1 : Int32)).bind fun q5 =>
    if q4.1 < q5.1 then
      some ((0 : Int32), q5.2)
    else
      some ((1 : Int32), q5.2)
set_option maxRecDepth 20000 in
theorem ev_X11_isRest {G : xa_G} {h : xa_H} {l0 : Nat} {l1 : Int32} {l2 : Int32} {l3 : Int32} {l4 : Int32} {r : (Int32 × xa_H)} (hf : f_X11_isRest h l0 l1 l2 l3 l4 = some r) : xa_Ev G M_X11_isRest 4 [.ref l0, .int l1, .int l2, .int l3, .int l4] h (some (.int r.1)) r.2 := by
  refine xa_entry (by decide +kernel) (loc := [some (.ref l0), some (.int l1), some (.int l2), some (.int l3), some (.int l4)]) rfl (Nat.le_of_ble_eq_true rfl) ?_
  unfold f_X11_isRest at hf
  obtain ⟨u0, eu0, hf⟩ := ob hf
  refine v_aload_n dX11_isRest_0 rfl ?_
  refine v_iload_n dX11_isRest_1 rfl ?_
  refine v_iload_n dX11_isRest_2 rfl ?_
  refine v_iload_n dX11_isRest_3 rfl ?_
  refine v_iload dX11_isRest_4 rfl ?_
  refine v_iconst dX11_isRest_6 (by decide) (v := 0) ?_
  obtain ⟨q1, eq1, hf⟩ := ob hf
  refine v_callV dX11_isRest_7 ⟨cb_X11_game, ml_11_358, im_X11_game⟩ se_11_X11_game (ckf_X11_game eq1) (ev_X11_game eq1) (by decide) (As := [.int l1, .int l2, .int l3, .int l4, .int (0 : Int32)]) rfl (st := []) rfl (Nat.le_of_ble_eq_true rfl) rfl ?_
  refine v_aload_n dX11_isRest_10 rfl ?_
  refine v_iload_n dX11_isRest_11 rfl ?_
  refine v_iload_n dX11_isRest_12 rfl ?_
  refine v_iconst dX11_isRest_13 (by decide) (v := 1) ?_
  refine v_iload_n dX11_isRest_14 rfl ?_
  refine v_isub dX11_isRest_15 ?_
  refine v_iload dX11_isRest_16 rfl ?_
  refine v_iconst dX11_isRest_18 (by decide) (v := 0) ?_
  obtain ⟨q2, eq2, hf⟩ := ob hf
  refine v_callV dX11_isRest_19 ⟨cb_X11_game, ml_11_358, im_X11_game⟩ se_11_X11_game (ckf_X11_game eq2) (ev_X11_game eq2) (by decide) (As := [.int l1, .int l2, .int ((1 : Int32) - l3), .int l4, .int (0 : Int32)]) rfl (st := [.int q1.1]) rfl (Nat.le_of_ble_eq_true rfl) rfl ?_
  refine v_icmp_lt dX11_isRest_22 (tgt := 54) (by decide) (fun c3 => ?_) (fun c3 => ?_)
  · replace hf := (if_pos c3).symm.trans hf
    refine v_iconst dX11_isRest_54 (by decide) (v := 0) ?_
    replace hf := Option.some.inj hf
    subst hf
    exact v_zret dX11_isRest_55 rfl (by decide)
  · replace hf := (if_neg c3).symm.trans hf
    refine v_aload_n dX11_isRest_25 rfl ?_
    refine v_iload_n dX11_isRest_26 rfl ?_
    refine v_iload_n dX11_isRest_27 rfl ?_
    refine v_iload_n dX11_isRest_28 rfl ?_
    refine v_iload dX11_isRest_29 rfl ?_
    refine v_iconst dX11_isRest_31 (by decide) (v := 1) ?_
    obtain ⟨q4, eq4, hf⟩ := ob hf
    refine v_callV dX11_isRest_32 ⟨cb_X11_game, ml_11_358, im_X11_game⟩ se_11_X11_game (ckf_X11_game eq4) (ev_X11_game eq4) (by decide) (As := [.int l1, .int l2, .int l3, .int l4, .int (1 : Int32)]) rfl (st := []) rfl (Nat.le_of_ble_eq_true rfl) rfl ?_
    refine v_aload_n dX11_isRest_35 rfl ?_
    refine v_iload_n dX11_isRest_36 rfl ?_
    refine v_iload_n dX11_isRest_37 rfl ?_
    refine v_iload_n dX11_isRest_38 rfl ?_
    refine v_iconst dX11_isRest_39 (by decide) (v := 1) ?_
    refine v_iload dX11_isRest_40 rfl ?_
    refine v_isub dX11_isRest_42 ?_
    refine v_iconst dX11_isRest_43 (by decide) (v := 1) ?_
    obtain ⟨q5, eq5, hf⟩ := ob hf
    refine v_callV dX11_isRest_44 ⟨cb_X11_game, ml_11_358, im_X11_game⟩ se_11_X11_game (ckf_X11_game eq5) (ev_X11_game eq5) (by decide) (As := [.int l1, .int l2, .int l3, .int ((1 : Int32) - l4), .int (1 : Int32)]) rfl (st := [.int q4.1]) rfl (Nat.le_of_ble_eq_true rfl) rfl ?_
    refine v_icmp_lt dX11_isRest_47 (tgt := 54) (by decide) (fun c6 => ?_) (fun c6 => ?_)
    · replace hf := (if_pos c6).symm.trans hf
      refine v_iconst dX11_isRest_54 (by decide) (v := 0) ?_
      replace hf := Option.some.inj hf
      subst hf
      exact v_zret dX11_isRest_55 rfl (by decide)
    · replace hf := (if_neg c6).symm.trans hf
      refine v_iconst dX11_isRest_50 (by decide) (v := 1) ?_
      refine v_goto dX11_isRest_51 (tgt := 55) (by decide) ?_
      replace hf := Option.some.inj hf
      subst hf
      exact v_zret dX11_isRest_55 rfl (by decide)
theorem ckf_X11_isRest {h : xa_H} {l0 : Nat} {l1 : Int32} {l2 : Int32} {l3 : Int32} {l4 : Int32} {r : (Int32 × xa_H)} (hf : f_X11_isRest h l0 l1 l2 l3 l4 = some r) : ck [11] h l0 = some () := by
  obtain ⟨u, e, -⟩ := ob hf
  exact e
def M_X11_keep : xa_M := (yX11_keep, cX11_keep, 2, some .int)
theorem cb_X11_keep : xa_CB M_X11_keep 1 := ⟨gws_at 943 (by decide +kernel) rfl, gws_at 109 (by decide +kernel) rfl, by decide +kernel, Nat.le_of_ble_eq_true rfl⟩
def f_X11_keep (h : xa_H) (l0 : Nat) (l1 : Int32) : Option (Int32 × xa_H) :=
  (ck [11] h l0).bind fun _ =>
  (gR [11] 6 h l0).bind fun x1 =>
  (f_X0_has h x1 l1).bind fun q2 =>
  if q2 = 0 then
    (f_X11_refuse h l0 (0 : Int32) (-1 : Int32)).bind fun q13 =>
    some (q13.1, q13.2)
  else
    (gR [11] 10 h l0).bind fun x4 =>
    (gR [11] 6 h l0).bind fun x5 =>
    (f_X3_remember h x4 x5).bind fun q6 =>
    (gR [11] 6 q6 l0).bind fun x7 =>
    (gI [0] 6 q6 x7).bind fun x8 =>
    (xp [0] 6 q6 x7 (.int (x8 ^^^ (shl (1 : Int32) l1)))).bind fun h9 =>
    (gR [11] 6 h9 l0).bind fun x10 =>
    (f_X0_isKept h9 x10 l1).bind fun q11 =>
    if q11 = 0 then
      some ((0 : Int32), h9)
    else
      some ((1 : Int32), h9)
set_option maxRecDepth 20000 in
theorem ev_X11_keep {G : xa_G} {h : xa_H} {l0 : Nat} {l1 : Int32} {r : (Int32 × xa_H)} (hf : f_X11_keep h l0 l1 = some r) : xa_Ev G M_X11_keep 3 [.ref l0, .int l1] h (some (.int r.1)) r.2 := by
  refine xa_entry (by decide +kernel) (loc := [some (.ref l0), some (.int l1)]) rfl (Nat.le_of_ble_eq_true rfl) ?_
  unfold f_X11_keep at hf
  obtain ⟨u0, eu0, hf⟩ := ob hf
  refine v_aload_n dX11_keep_0 rfl ?_
  obtain ⟨x1, ex1, hf⟩ := ob hf
  refine v_getR dX11_keep_1 fl_11_49 ex1 ?_
  refine v_iload_n dX11_keep_4 rfl ?_
  obtain ⟨q2, eq2, hf⟩ := ob hf
  refine v_callV dX11_keep_5 ⟨cb_X0_has, ml_11_157, im_X0_has⟩ se_0_X0_has (ckf_X0_has eq2) (ev_X0_has eq2) (by decide) (As := [.int l1]) rfl (st := []) rfl (Nat.le_of_ble_eq_true rfl) rfl ?_
  refine v_if_ne dX11_keep_8 (tgt := 18) (by decide) (fun c3 => ?_) (fun c3 => ?_)
  · replace hf := (if_neg c3).symm.trans hf
    refine v_aload_n dX11_keep_18 rfl ?_
    obtain ⟨x4, ex4, hf⟩ := ob hf
    refine v_getR dX11_keep_19 fl_11_69 ex4 ?_
    refine v_aload_n dX11_keep_22 rfl ?_
    obtain ⟨x5, ex5, hf⟩ := ob hf
    refine v_getR dX11_keep_23 fl_11_49 ex5 ?_
    obtain ⟨q6, eq6, hf⟩ := ob hf
    refine v_callV dX11_keep_26 ⟨cb_X3_remember, ml_11_238, im_X3_remember⟩ se_3_X3_remember (ckf_X3_remember eq6) (ev_X3_remember eq6) (by decide) (As := [.ref x5]) rfl (st := []) rfl (Nat.le_of_ble_eq_true rfl) rfl ?_
    refine v_aload_n dX11_keep_29 rfl ?_
    obtain ⟨x7, ex7, hf⟩ := ob hf
    refine v_getR dX11_keep_30 fl_11_49 ex7 ?_
    refine v_dup dX11_keep_33 rfl ?_
    obtain ⟨x8, ex8, hf⟩ := ob hf
    refine v_getI dX11_keep_34 fl_11_264 ex8 ?_
    refine v_iconst dX11_keep_37 (by decide) (v := 1) ?_
    refine v_iload_n dX11_keep_38 rfl ?_
    refine w_ishl dX11_keep_39 ?_
    refine v_ixor dX11_keep_40 ?_
    obtain ⟨h9, eh9, hf⟩ := ob hf
    refine v_put dX11_keep_41 fp_11_264 (fun z => by cases z) (fun _ => rfl) (fun _ => rfl) eh9 ?_
    refine v_aload_n dX11_keep_44 rfl ?_
    obtain ⟨x10, ex10, hf⟩ := ob hf
    refine v_getR dX11_keep_45 fl_11_49 ex10 ?_
    refine v_iload_n dX11_keep_48 rfl ?_
    obtain ⟨q11, eq11, hf⟩ := ob hf
    refine v_callV dX11_keep_49 ⟨cb_X0_isKept, ml_11_174, im_X0_isKept⟩ se_0_X0_isKept (ckf_X0_isKept eq11) (ev_X0_isKept eq11) (by decide) (As := [.int l1]) rfl (st := []) rfl (Nat.le_of_ble_eq_true rfl) rfl ?_
    refine v_if_eq dX11_keep_52 (tgt := 59) (by decide) (fun c12 => ?_) (fun c12 => ?_)
    · replace hf := (if_pos c12).symm.trans hf
      refine v_iconst dX11_keep_59 (by decide) (v := 0) ?_
      replace hf := Option.some.inj hf
      subst hf
      exact v_iret dX11_keep_60 rfl
    · replace hf := (if_neg c12).symm.trans hf
      refine v_iconst dX11_keep_55 (by decide) (v := 1) ?_
      refine v_goto dX11_keep_56 (tgt := 60) (by decide) ?_
      replace hf := Option.some.inj hf
      subst hf
      exact v_iret dX11_keep_60 rfl
  · replace hf := (if_pos c3).symm.trans hf
    refine v_aload_n dX11_keep_11 rfl ?_
    refine v_iconst dX11_keep_12 (by decide) (v := 0) ?_
    refine v_iconst dX11_keep_13 (by decide) (v := -1) ?_
    obtain ⟨q13, eq13, hf⟩ := ob hf
    refine v_callV dX11_keep_14 ⟨cb_X11_refuse, ml_11_225, im_X11_refuse⟩ se_11_X11_refuse (ckf_X11_refuse eq13) (ev_X11_refuse eq13) (by decide) (As := [.int (0 : Int32), .int (-1 : Int32)]) rfl (st := []) rfl (Nat.le_of_ble_eq_true rfl) rfl ?_
    replace hf := Option.some.inj hf
    subst hf
    exact v_iret dX11_keep_17 rfl
theorem ckf_X11_keep {h : xa_H} {l0 : Nat} {l1 : Int32} {r : (Int32 × xa_H)} (hf : f_X11_keep h l0 l1 = some r) : ck [11] h l0 = some () := by
  obtain ⟨u, e, -⟩ := ob hf
  exact e
def M_X11_law : xa_M := (yX11_law, cX11_law, 2, some .boolean)
theorem cb_X11_law : xa_CB M_X11_law 1 := ⟨gws_at 820 (by decide +kernel) rfl, gws_at 109 (by decide +kernel) rfl, by decide +kernel, Nat.le_of_ble_eq_true rfl⟩
def f_X11_law_b18 (h : xa_H) (l0 : Nat) (l1 : Int32) : Option (Int32 × xa_H) :=
  (xp [11] 17 h l0 (.int l1)).bind fun h1 =>
  some ((1 : Int32), h1)
set_option maxRecDepth 20000 in
theorem e_X11_law_b18 {G : xa_G} : ∀ (h : xa_H) (l0 : Nat) (l1 : Int32) (r : (Int32 × xa_H)), f_X11_law_b18 h l0 l1 = some r → xa_V G M_X11_law 1 18 [some (.ref l0), some (.int l1)] [] h (some (.int r.1)) r.2 := by
  intro h l0 l1 r hf
  unfold f_X11_law_b18 at hf
  refine v_aload_n dX11_law_18 rfl ?_
  refine v_iload_n dX11_law_19 rfl ?_
  obtain ⟨h1, eh1, hf⟩ := ob hf
  refine v_put dX11_law_20 fp_11_104 (fun z => by cases z) (fun _ => rfl) (fun _ => rfl) eh1 ?_
  refine v_iconst dX11_law_23 (by decide) (v := 1) ?_
  replace hf := Option.some.inj hf
  subst hf
  exact v_zret dX11_law_24 rfl (by decide)
def f_X11_law (h : xa_H) (l0 : Nat) (l1 : Int32) : Option (Int32 × xa_H) :=
  (ck [11] h l0).bind fun _ =>
  if l1 = (-1 : Int32) then
    f_X11_law_b18 h l0 l1
  else
    (gR [11] 4 h l0).bind fun x2 =>
    (f_X5_has h x2 l1).bind fun q3 =>
    if q3 = 0 then
      some ((0 : Int32), h)
    else
      f_X11_law_b18 h l0 l1
set_option maxRecDepth 20000 in
theorem ev_X11_law {G : xa_G} {h : xa_H} {l0 : Nat} {l1 : Int32} {r : (Int32 × xa_H)} (hf : f_X11_law h l0 l1 = some r) : xa_Ev G M_X11_law 1 [.ref l0, .int l1] h (some (.int r.1)) r.2 := by
  refine xa_entry (by decide +kernel) (loc := [some (.ref l0), some (.int l1)]) rfl (Nat.le_of_ble_eq_true rfl) ?_
  unfold f_X11_law at hf
  obtain ⟨u0, eu0, hf⟩ := ob hf
  refine v_iload_n dX11_law_0 rfl ?_
  refine v_iconst dX11_law_1 (by decide) (v := -1) ?_
  refine v_icmp_eq dX11_law_2 (tgt := 18) (by decide) (fun c1 => ?_) (fun c1 => ?_)
  · replace hf := (if_pos c1).symm.trans hf
    exact e_X11_law_b18 h l0 l1 r hf
  · replace hf := (if_neg c1).symm.trans hf
    refine v_aload_n dX11_law_5 rfl ?_
    obtain ⟨x2, ex2, hf⟩ := ob hf
    refine v_getR dX11_law_6 fl_11_39 ex2 ?_
    refine v_iload_n dX11_law_9 rfl ?_
    obtain ⟨q3, eq3, hf⟩ := ob hf
    refine v_callV dX11_law_10 ⟨cb_X5_has, ml_11_221, im_X5_has⟩ se_5_X5_has (ckf_X5_has eq3) (ev_X5_has eq3) (by decide) (As := [.int l1]) rfl (st := []) rfl (Nat.le_of_ble_eq_true rfl) rfl ?_
    refine v_if_ne dX11_law_13 (tgt := 18) (by decide) (fun c4 => ?_) (fun c4 => ?_)
    · replace hf := (if_neg c4).symm.trans hf
      exact e_X11_law_b18 h l0 l1 r hf
    · replace hf := (if_pos c4).symm.trans hf
      refine v_iconst dX11_law_16 (by decide) (v := 0) ?_
      replace hf := Option.some.inj hf
      subst hf
      exact v_zret dX11_law_17 rfl (by decide)
theorem ckf_X11_law {h : xa_H} {l0 : Nat} {l1 : Int32} {r : (Int32 × xa_H)} (hf : f_X11_law h l0 l1 = some r) : ck [11] h l0 = some () := by
  obtain ⟨u, e, -⟩ := ob hf
  exact e
def M_X11_like : xa_M := (yX11_like, cX11_like, 2, some .int)
theorem cb_X11_like : xa_CB M_X11_like 1 := ⟨gws_at 1021 (by decide +kernel) rfl, gws_at 109 (by decide +kernel) rfl, by decide +kernel, Nat.le_of_ble_eq_true rfl⟩
def f_X11_like (h : xa_H) (l0 : Nat) (l1 : Int32) : Option (Int32 × xa_H) :=
  (ck [11] h l0).bind fun _ =>
  (gR [11] 6 h l0).bind fun x1 =>
  (gI [0] 4 h x1).bind fun x2 =>
  if x2 = 0 then
    some ((-1 : Int32), h)
  else
    (f_X11_sungApart h l0 l1 (1 : Int32)).bind fun q4 =>
    if q4.1 = 0 then
      some ((-1 : Int32), q4.2)
    else
      (f_X11_canPlace 10 q4.2 l0 (0 : Int32) (0 : Int32)).bind fun q6 =>
      if q6.1 = 0 then
        some ((0 : Int32), q6.2)
      else
        some ((1 : Int32), q6.2)
set_option maxRecDepth 20000 in
theorem ev_X11_like {G : xa_G} {h : xa_H} {l0 : Nat} {l1 : Int32} {r : (Int32 × xa_H)} (hf : f_X11_like h l0 l1 = some r) : xa_Ev G M_X11_like 13 [.ref l0, .int l1] h (some (.int r.1)) r.2 := by
  refine xa_entry (by decide +kernel) (loc := [some (.ref l0), some (.int l1)]) rfl (Nat.le_of_ble_eq_true rfl) ?_
  unfold f_X11_like at hf
  obtain ⟨u0, eu0, hf⟩ := ob hf
  refine v_aload_n dX11_like_0 rfl ?_
  obtain ⟨x1, ex1, hf⟩ := ob hf
  refine v_getR dX11_like_1 fl_11_49 ex1 ?_
  obtain ⟨x2, ex2, hf⟩ := ob hf
  refine v_getI dX11_like_4 fl_11_154 ex2 ?_
  refine v_if_eq dX11_like_7 (tgt := 19) (by decide) (fun c3 => ?_) (fun c3 => ?_)
  · replace hf := (if_pos c3).symm.trans hf
    refine v_iconst dX11_like_19 (by decide) (v := -1) ?_
    replace hf := Option.some.inj hf
    subst hf
    exact v_iret dX11_like_20 rfl
  · replace hf := (if_neg c3).symm.trans hf
    refine v_aload_n dX11_like_10 rfl ?_
    refine v_iload_n dX11_like_11 rfl ?_
    refine v_iconst dX11_like_12 (by decide) (v := 1) ?_
    obtain ⟨q4, eq4, hf⟩ := ob hf
    refine v_callV dX11_like_13 ⟨cb_X11_sungApart, ml_11_294, im_X11_sungApart⟩ se_11_X11_sungApart (ckf_X11_sungApart eq4) (ev_X11_sungApart eq4) (by decide) (As := [.int l1, .int (1 : Int32)]) rfl (st := []) rfl (Nat.le_of_ble_eq_true rfl) rfl ?_
    refine v_if_ne dX11_like_16 (tgt := 21) (by decide) (fun c5 => ?_) (fun c5 => ?_)
    · replace hf := (if_neg c5).symm.trans hf
      refine v_aload_n dX11_like_21 rfl ?_
      refine v_iconst dX11_like_22 (by decide) (v := 0) ?_
      refine v_iconst dX11_like_23 (by decide) (v := 0) ?_
      obtain ⟨q6, eq6, hf⟩ := ob hf
      refine v_callV dX11_like_24 ⟨cb_X11_canPlace, ml_11_308, im_X11_canPlace⟩ se_11_X11_canPlace (ckf_X11_canPlace eq6) (ev_X11_canPlace eq6) (by decide) (As := [.int (0 : Int32), .int (0 : Int32)]) rfl (st := []) rfl (Nat.le_of_ble_eq_true rfl) rfl ?_
      refine v_if_eq dX11_like_27 (tgt := 34) (by decide) (fun c7 => ?_) (fun c7 => ?_)
      · replace hf := (if_pos c7).symm.trans hf
        refine v_iconst dX11_like_34 (by decide) (v := 0) ?_
        replace hf := Option.some.inj hf
        subst hf
        exact v_iret dX11_like_35 rfl
      · replace hf := (if_neg c7).symm.trans hf
        refine v_iconst dX11_like_30 (by decide) (v := 1) ?_
        refine v_goto dX11_like_31 (tgt := 35) (by decide) ?_
        replace hf := Option.some.inj hf
        subst hf
        exact v_iret dX11_like_35 rfl
    · replace hf := (if_pos c5).symm.trans hf
      refine v_iconst dX11_like_19 (by decide) (v := -1) ?_
      replace hf := Option.some.inj hf
      subst hf
      exact v_iret dX11_like_20 rfl
theorem ckf_X11_like {h : xa_H} {l0 : Nat} {l1 : Int32} {r : (Int32 × xa_H)} (hf : f_X11_like h l0 l1 = some r) : ck [11] h l0 = some () := by
  obtain ⟨u, e, -⟩ := ob hf
  exact e
def M_X11_log : xa_M := (yX11_log, cX11_log, 3, some .int)
theorem cb_X11_log : xa_CB M_X11_log 2 := ⟨gws_at 979 (by decide +kernel) rfl, gws_at 109 (by decide +kernel) rfl, by decide +kernel, Nat.le_of_ble_eq_true rfl⟩
def f_X11_log (h : xa_H) (l0 : Nat) (l1 : Int32) (l2 : Int32) : Option Int32 :=
  (ck [11] h l0).bind fun _ =>
  if l1 < 0 then
    some (-1 : Int32)
  else
    (f_X11_logLength h l0).bind fun q2 =>
    if l1 < q2 then
      (gR [11] 9 h l0).bind fun x4 =>
      (gR [11] 6 h l0).bind fun x5 =>
      (gI [0] 8 h x5).bind fun x6 =>
      (f_X1_told h x4 (x6 - l1) l2).bind fun q7 =>
      some q7
    else
      some (-1 : Int32)
set_option maxRecDepth 20000 in
theorem ev_X11_log {G : xa_G} {h : xa_H} {l0 : Nat} {l1 : Int32} {l2 : Int32} {r : Int32} (hf : f_X11_log h l0 l1 l2 = some r) : xa_Ev G M_X11_log 2 [.ref l0, .int l1, .int l2] h (some (.int r)) h := by
  refine xa_entry (by decide +kernel) (loc := [some (.ref l0), some (.int l1), some (.int l2)]) rfl (Nat.le_of_ble_eq_true rfl) ?_
  unfold f_X11_log at hf
  obtain ⟨u0, eu0, hf⟩ := ob hf
  refine v_iload_n dX11_log_0 rfl ?_
  refine v_if_lt dX11_log_1 (tgt := 12) (by decide) (fun c1 => ?_) (fun c1 => ?_)
  · replace hf := (if_pos c1).symm.trans hf
    refine v_iconst dX11_log_12 (by decide) (v := -1) ?_
    replace hf := Option.some.inj hf
    subst hf
    exact v_iret dX11_log_13 rfl
  · replace hf := (if_neg c1).symm.trans hf
    refine v_iload_n dX11_log_4 rfl ?_
    refine v_aload_n dX11_log_5 rfl ?_
    obtain ⟨q2, eq2, hf⟩ := ob hf
    refine v_callV dX11_log_6 ⟨cb_X11_logLength, ml_11_289, im_X11_logLength⟩ se_11_X11_logLength (ckf_X11_logLength eq2) (ev_X11_logLength eq2) (by decide) (As := []) rfl (st := [.int l1]) rfl (Nat.le_of_ble_eq_true rfl) rfl ?_
    refine v_icmp_lt dX11_log_9 (tgt := 14) (by decide) (fun c3 => ?_) (fun c3 => ?_)
    · replace hf := (if_pos c3).symm.trans hf
      refine v_aload_n dX11_log_14 rfl ?_
      obtain ⟨x4, ex4, hf⟩ := ob hf
      refine v_getR dX11_log_15 fl_11_62 ex4 ?_
      refine v_aload_n dX11_log_18 rfl ?_
      obtain ⟨x5, ex5, hf⟩ := ob hf
      refine v_getR dX11_log_19 fl_11_49 ex5 ?_
      obtain ⟨x6, ex6, hf⟩ := ob hf
      refine v_getI dX11_log_22 fl_11_195 ex6 ?_
      refine v_iload_n dX11_log_25 rfl ?_
      refine v_isub dX11_log_26 ?_
      refine v_iload_n dX11_log_27 rfl ?_
      obtain ⟨q7, eq7, hf⟩ := ob hf
      refine v_callV dX11_log_28 ⟨cb_X1_told, ml_11_292, im_X1_told⟩ se_1_X1_told (ckf_X1_told eq7) (ev_X1_told eq7) (by decide) (As := [.int (x6 - l1), .int l2]) rfl (st := []) rfl (Nat.le_of_ble_eq_true rfl) rfl ?_
      replace hf := Option.some.inj hf
      subst hf
      exact v_iret dX11_log_31 rfl
    · replace hf := (if_neg c3).symm.trans hf
      refine v_iconst dX11_log_12 (by decide) (v := -1) ?_
      replace hf := Option.some.inj hf
      subst hf
      exact v_iret dX11_log_13 rfl
theorem ckf_X11_log {h : xa_H} {l0 : Nat} {l1 : Int32} {l2 : Int32} {r : Int32} (hf : f_X11_log h l0 l1 l2 = some r) : ck [11] h l0 = some () := by
  obtain ⟨u, e, -⟩ := ob hf
  exact e
def M_X11_odds : xa_M := (yX11_odds, cX11_odds, 3, some .int)
theorem cb_X11_odds : xa_CB M_X11_odds 2 := ⟨gws_at 1137 (by decide +kernel) rfl, gws_at 109 (by decide +kernel) rfl, by decide +kernel, Nat.le_of_ble_eq_true rfl⟩
def f_X11_odds (h : xa_H) (l0 : Nat) (l1 : Int32) (l2 : Int32) : Option (Int32 × xa_H) :=
  (ck [11] h l0).bind fun _ =>
  (gR [11] 5 h l0).bind fun x1 =>
  (f_X5_has h x1 l1).bind fun q2 =>
  if q2 = 0 then
    some ((-1 : Int32), h)
  else
    (gR [11] 6 h l0).bind fun x4 =>
    (gI [0] 4 h x4).bind fun x5 =>
    if x5 = 0 then
      some ((-1 : Int32), h)
    else
      if l2 < 0 then
        some ((-1 : Int32), h)
      else
        if l2 ≤ (100 : Int32) then
          (gR [11] 5 h l0).bind fun x9 =>
          (gR [5] 1 h x9).bind fun x10 =>
          (aI h x10 l1).bind fun x11 =>
          if x11 ≤ (8 : Int32) then
            (gR [11] 13 h l0).bind fun x13 =>
            (gR [11] 6 h l0).bind fun x14 =>
            (gR [11] 5 h l0).bind fun x15 =>
            (gR [5] 0 h x15).bind fun x16 =>
            (aR 5 h x16 l1).bind fun x17 =>
            (gR [11] 5 h l0).bind fun x18 =>
            (gR [5] 1 h x18).bind fun x19 =>
            (aI h x19 l1).bind fun x20 =>
            (f_X7_quietParts h x13 x14 x17 x20 l2).bind fun q21 =>
            some (q21.1, q21.2)
          else
            some ((-1 : Int32), h)
        else
          some ((-1 : Int32), h)
set_option maxRecDepth 20000 in
theorem ev_X11_odds {G : xa_G} {h : xa_H} {l0 : Nat} {l1 : Int32} {l2 : Int32} {r : (Int32 × xa_H)} (hf : f_X11_odds h l0 l1 l2 = some r) : xa_Ev G M_X11_odds 29 [.ref l0, .int l1, .int l2] h (some (.int r.1)) r.2 := by
  refine xa_entry (by decide +kernel) (loc := [some (.ref l0), some (.int l1), some (.int l2)]) rfl (Nat.le_of_ble_eq_true rfl) ?_
  unfold f_X11_odds at hf
  obtain ⟨u0, eu0, hf⟩ := ob hf
  refine v_aload_n dX11_odds_0 rfl ?_
  obtain ⟨x1, ex1, hf⟩ := ob hf
  refine v_getR dX11_odds_1 fl_11_43 ex1 ?_
  refine v_iload_n dX11_odds_4 rfl ?_
  obtain ⟨q2, eq2, hf⟩ := ob hf
  refine v_callV dX11_odds_5 ⟨cb_X5_has, ml_11_221, im_X5_has⟩ se_5_X5_has (ckf_X5_has eq2) (ev_X5_has eq2) (by decide) (As := [.int l1]) rfl (st := []) rfl (Nat.le_of_ble_eq_true rfl) rfl ?_
  refine v_if_eq dX11_odds_8 (tgt := 31) (by decide) (fun c3 => ?_) (fun c3 => ?_)
  · replace hf := (if_pos c3).symm.trans hf
    refine v_iconst dX11_odds_31 (by decide) (v := -1) ?_
    replace hf := Option.some.inj hf
    subst hf
    exact v_iret dX11_odds_32 rfl
  · replace hf := (if_neg c3).symm.trans hf
    refine v_aload_n dX11_odds_11 rfl ?_
    obtain ⟨x4, ex4, hf⟩ := ob hf
    refine v_getR dX11_odds_12 fl_11_49 ex4 ?_
    obtain ⟨x5, ex5, hf⟩ := ob hf
    refine v_getI dX11_odds_15 fl_11_154 ex5 ?_
    refine v_if_eq dX11_odds_18 (tgt := 31) (by decide) (fun c6 => ?_) (fun c6 => ?_)
    · replace hf := (if_pos c6).symm.trans hf
      refine v_iconst dX11_odds_31 (by decide) (v := -1) ?_
      replace hf := Option.some.inj hf
      subst hf
      exact v_iret dX11_odds_32 rfl
    · replace hf := (if_neg c6).symm.trans hf
      refine v_iload_n dX11_odds_21 rfl ?_
      refine v_if_lt dX11_odds_22 (tgt := 31) (by decide) (fun c7 => ?_) (fun c7 => ?_)
      · replace hf := (if_pos c7).symm.trans hf
        refine v_iconst dX11_odds_31 (by decide) (v := -1) ?_
        replace hf := Option.some.inj hf
        subst hf
        exact v_iret dX11_odds_32 rfl
      · replace hf := (if_neg c7).symm.trans hf
        refine v_iload_n dX11_odds_25 rfl ?_
        refine v_bipush dX11_odds_26 (by decide) (v := 100) ?_
        refine v_icmp_le dX11_odds_28 (tgt := 33) (by decide) (fun c8 => ?_) (fun c8 => ?_)
        · replace hf := (if_pos c8).symm.trans hf
          refine v_aload_n dX11_odds_33 rfl ?_
          obtain ⟨x9, ex9, hf⟩ := ob hf
          refine v_getR dX11_odds_34 fl_11_43 ex9 ?_
          obtain ⟨x10, ex10, hf⟩ := ob hf
          refine v_getR dX11_odds_37 fl_11_202 ex10 ?_
          refine v_iload_n dX11_odds_40 rfl ?_
          obtain ⟨x11, ex11, hf⟩ := ob hf
          refine v_ialoadI dX11_odds_41 ex11 ?_
          refine v_bipush dX11_odds_42 (by decide) (v := 8) ?_
          refine v_icmp_le dX11_odds_44 (tgt := 49) (by decide) (fun c12 => ?_) (fun c12 => ?_)
          · replace hf := (if_pos c12).symm.trans hf
            refine v_aload_n dX11_odds_49 rfl ?_
            obtain ⟨x13, ex13, hf⟩ := ob hf
            refine v_getR dX11_odds_50 fl_11_90 ex13 ?_
            refine v_aload_n dX11_odds_53 rfl ?_
            obtain ⟨x14, ex14, hf⟩ := ob hf
            refine v_getR dX11_odds_54 fl_11_49 ex14 ?_
            refine v_aload_n dX11_odds_57 rfl ?_
            obtain ⟨x15, ex15, hf⟩ := ob hf
            refine v_getR dX11_odds_58 fl_11_43 ex15 ?_
            obtain ⟨x16, ex16, hf⟩ := ob hf
            refine v_getR dX11_odds_61 fl_11_198 ex16 ?_
            refine v_iload_n dX11_odds_64 rfl ?_
            obtain ⟨x17, ex17, hf⟩ := ob hf
            refine v_aaload dX11_odds_65 (t := 5) (by decide) ex17 ?_
            refine v_aload_n dX11_odds_66 rfl ?_
            obtain ⟨x18, ex18, hf⟩ := ob hf
            refine v_getR dX11_odds_67 fl_11_43 ex18 ?_
            obtain ⟨x19, ex19, hf⟩ := ob hf
            refine v_getR dX11_odds_70 fl_11_202 ex19 ?_
            refine v_iload_n dX11_odds_73 rfl ?_
            obtain ⟨x20, ex20, hf⟩ := ob hf
            refine v_ialoadI dX11_odds_74 ex20 ?_
            refine v_iload_n dX11_odds_75 rfl ?_
            obtain ⟨q21, eq21, hf⟩ := ob hf
            refine v_callV dX11_odds_76 ⟨cb_X7_quietParts, ml_11_362, im_X7_quietParts⟩ se_7_X7_quietParts (ckf_X7_quietParts eq21) (ev_X7_quietParts eq21) (by decide) (As := [.ref x14, .ref x17, .int x20, .int l2]) rfl (st := []) rfl (Nat.le_of_ble_eq_true rfl) rfl ?_
            replace hf := Option.some.inj hf
            subst hf
            exact v_iret dX11_odds_79 rfl
          · replace hf := (if_neg c12).symm.trans hf
            refine v_iconst dX11_odds_47 (by decide) (v := -1) ?_
            replace hf := Option.some.inj hf
            subst hf
            exact v_iret dX11_odds_48 rfl
        · replace hf := (if_neg c8).symm.trans hf
          refine v_iconst dX11_odds_31 (by decide) (v := -1) ?_
          replace hf := Option.some.inj hf
          subst hf
          exact v_iret dX11_odds_32 rfl
theorem ckf_X11_odds {h : xa_H} {l0 : Nat} {l1 : Int32} {l2 : Int32} {r : (Int32 × xa_H)} (hf : f_X11_odds h l0 l1 l2 = some r) : ck [11] h l0 = some () := by
  obtain ⟨u, e, -⟩ := ob hf
  exact e
def M_X11_owes : xa_M := (yX11_owes, cX11_owes, 3, some .int)
theorem cb_X11_owes : xa_CB M_X11_owes 2 := ⟨gws_at 810 (by decide +kernel) rfl, gws_at 109 (by decide +kernel) rfl, by decide +kernel, Nat.le_of_ble_eq_true rfl⟩
def f_X11_owes (h : xa_H) (l0 : Nat) (l1 : Int32) (l2 : Int32) : Option Int32 :=
  (ck [11] h l0).bind fun _ =>
  (gR [11] 6 h l0).bind fun x1 =>
  (f_X0_has h x1 l1).bind fun q2 =>
  if q2 = 0 then
    some (-1000000 : Int32)
  else
    (gR [11] 6 h l0).bind fun x4 =>
    (f_X0_has h x4 l2).bind fun q5 =>
    if q5 = 0 then
      some (-1000000 : Int32)
    else
      (gR [11] 6 h l0).bind fun x7 =>
      (f_X0_debt h x7 l1 l2).bind fun q8 =>
      some q8
set_option maxRecDepth 20000 in
theorem ev_X11_owes {G : xa_G} {h : xa_H} {l0 : Nat} {l1 : Int32} {l2 : Int32} {r : Int32} (hf : f_X11_owes h l0 l1 l2 = some r) : xa_Ev G M_X11_owes 1 [.ref l0, .int l1, .int l2] h (some (.int r)) h := by
  refine xa_entry (by decide +kernel) (loc := [some (.ref l0), some (.int l1), some (.int l2)]) rfl (Nat.le_of_ble_eq_true rfl) ?_
  unfold f_X11_owes at hf
  obtain ⟨u0, eu0, hf⟩ := ob hf
  refine v_aload_n dX11_owes_0 rfl ?_
  obtain ⟨x1, ex1, hf⟩ := ob hf
  refine v_getR dX11_owes_1 fl_11_49 ex1 ?_
  refine v_iload_n dX11_owes_4 rfl ?_
  obtain ⟨q2, eq2, hf⟩ := ob hf
  refine v_callV dX11_owes_5 ⟨cb_X0_has, ml_11_157, im_X0_has⟩ se_0_X0_has (ckf_X0_has eq2) (ev_X0_has eq2) (by decide) (As := [.int l1]) rfl (st := []) rfl (Nat.le_of_ble_eq_true rfl) rfl ?_
  refine v_if_eq dX11_owes_8 (tgt := 34) (by decide) (fun c3 => ?_) (fun c3 => ?_)
  · replace hf := (if_pos c3).symm.trans hf
    refine v_ldc dX11_owes_34 rfl co_11_220 ?_
    replace hf := Option.some.inj hf
    subst hf
    exact v_iret dX11_owes_36 rfl
  · replace hf := (if_neg c3).symm.trans hf
    refine v_aload_n dX11_owes_11 rfl ?_
    obtain ⟨x4, ex4, hf⟩ := ob hf
    refine v_getR dX11_owes_12 fl_11_49 ex4 ?_
    refine v_iload_n dX11_owes_15 rfl ?_
    obtain ⟨q5, eq5, hf⟩ := ob hf
    refine v_callV dX11_owes_16 ⟨cb_X0_has, ml_11_157, im_X0_has⟩ se_0_X0_has (ckf_X0_has eq5) (ev_X0_has eq5) (by decide) (As := [.int l2]) rfl (st := []) rfl (Nat.le_of_ble_eq_true rfl) rfl ?_
    refine v_if_eq dX11_owes_19 (tgt := 34) (by decide) (fun c6 => ?_) (fun c6 => ?_)
    · replace hf := (if_pos c6).symm.trans hf
      refine v_ldc dX11_owes_34 rfl co_11_220 ?_
      replace hf := Option.some.inj hf
      subst hf
      exact v_iret dX11_owes_36 rfl
    · replace hf := (if_neg c6).symm.trans hf
      refine v_aload_n dX11_owes_22 rfl ?_
      obtain ⟨x7, ex7, hf⟩ := ob hf
      refine v_getR dX11_owes_23 fl_11_49 ex7 ?_
      refine v_iload_n dX11_owes_26 rfl ?_
      refine v_iload_n dX11_owes_27 rfl ?_
      obtain ⟨q8, eq8, hf⟩ := ob hf
      refine v_callV dX11_owes_28 ⟨cb_X0_debt, ml_11_217, im_X0_debt⟩ se_0_X0_debt (ckf_X0_debt eq8) (ev_X0_debt eq8) (by decide) (As := [.int l1, .int l2]) rfl (st := []) rfl (Nat.le_of_ble_eq_true rfl) rfl ?_
      refine v_goto dX11_owes_31 (tgt := 36) (by decide) ?_
      replace hf := Option.some.inj hf
      subst hf
      exact v_iret dX11_owes_36 rfl
theorem ckf_X11_owes {h : xa_H} {l0 : Nat} {l1 : Int32} {l2 : Int32} {r : Int32} (hf : f_X11_owes h l0 l1 l2 = some r) : ck [11] h l0 = some () := by
  obtain ⟨u, e, -⟩ := ob hf
  exact e
def M_X11_stir : xa_M := (yX11_stir, cX11_stir, 2, some .long)
theorem cb_X11_stir : xa_CB M_X11_stir 1 := ⟨gws_at 958 (by decide +kernel) rfl, gws_at 109 (by decide +kernel) rfl, by decide +kernel, Nat.le_of_ble_eq_true rfl⟩
def f_X11_stir (h : xa_H) (l0 : Int64) : Option Int64 :=
  some ((l0 * (6364136223846793005 : Int64)) + (1442695040888963407 : Int64))
set_option maxRecDepth 20000 in
theorem ev_X11_stir {G : xa_G} {h : xa_H} {l0 : Int64} {r : Int64} (hf : f_X11_stir h l0 = some r) : xa_Ev G M_X11_stir 0 [.long l0] h (some (.long r)) h := by
  refine xa_entry (by decide +kernel) (loc := [some (.long l0), none]) rfl (Nat.le_of_ble_eq_true rfl) ?_
  unfold f_X11_stir at hf
  refine v_lload_n dX11_stir_0 rfl ?_
  refine v_ldc2 dX11_stir_1 rfl col_11_278 ?_
  refine v_lmul dX11_stir_4 ?_
  refine v_ldc2 dX11_stir_5 rfl col_11_280 ?_
  refine v_ladd dX11_stir_8 ?_
  replace hf := Option.some.inj hf
  subst hf
  exact v_lret dX11_stir_9 rfl
def M_X11_pass : xa_M := (yX11_pass, cX11_pass, 8, some .long)
theorem cb_X11_pass : xa_CB M_X11_pass 1 := ⟨gws_at 955 (by decide +kernel) rfl, gws_at 109 (by decide +kernel) rfl, by decide +kernel, Nat.le_of_ble_eq_true rfl⟩
def f_X11_pass_b113 (h : xa_H) (l3 : Int64) : Option (Int64 × xa_H) :=
  some (l3, h)
set_option maxRecDepth 20000 in
theorem e_X11_pass_b113 {G : xa_G} : ∀ (h : xa_H) (l3 : Int64) (r : (Int64 × xa_H)), f_X11_pass_b113 h l3 = some r → xa_V G M_X11_pass 4 113 [none, none, none, some (.long l3), none, none, none, none] [] h (some (.long r.1)) r.2 := by
  intro h l3 r hf
  unfold f_X11_pass_b113 at hf
  refine v_lload_n dX11_pass_113 rfl ?_
  replace hf := Option.some.inj hf
  subst hf
  exact v_lret dX11_pass_114 rfl
def f_X11_pass_b47 (h : xa_H) (l0 : Nat) (l3 : Int64) : Option (Int64 × xa_H) :=
  (f_X11_stir h l3).bind fun q1 =>
  (f_X11_drawn h q1 (10 : Int32)).bind fun q2 =>
  (gI [11] 18 h l0).bind fun x3 =>
  if x3 ≤ q2 then
    f_X11_pass_b113 h q1
  else
    (f_X11_stir h q1).bind fun q5 =>
    (gR [11] 6 h l0).bind fun x6 =>
    (gI [0] 4 h x6).bind fun x7 =>
    (f_X11_drawn h q5 x7).bind fun q8 =>
    (f_X11_stir h q5).bind fun q9 =>
    (gR [11] 6 h l0).bind fun x10 =>
    (gI [0] 4 h x10).bind fun x11 =>
    (f_X11_drawn h q9 x11).bind fun q12 =>
    (gR [11] 6 h l0).bind fun x13 =>
    (f_X0_setDebt h x13 q8 q12 (0 : Int32)).bind fun q14 =>
    f_X11_pass_b113 q14 q9
set_option maxRecDepth 20000 in
theorem e_X11_pass_b47 {G : xa_G} : ∀ (h : xa_H) (l0 : Nat) (l3 : Int64) (r : (Int64 × xa_H)), f_X11_pass_b47 h l0 l3 = some r → xa_V G M_X11_pass 4 47 [some (.ref l0), none, none, some (.long l3), none, none, none, none] [] h (some (.long r.1)) r.2 := by
  intro h l0 l3 r hf
  unfold f_X11_pass_b47 at hf
  refine v_lload_n dX11_pass_47 rfl ?_
  obtain ⟨q1, eq1, hf⟩ := ob hf
  refine v_callS dX11_pass_48 ⟨cb_X11_stir, ml_11_271, sm_X11_stir⟩ (ev_X11_stir eq1) (by decide) (As := [.long l3]) rfl (st := []) rfl (Nat.le_of_ble_eq_true rfl) rfl ?_
  refine v_lstore_n (i := 3) rfl dX11_pass_51 (Nat.le_of_ble_eq_true rfl) (loc' := [some (.ref l0), none, none, some (.long q1), none, none, none, none]) rfl ?_
  refine v_lload_n dX11_pass_52 rfl ?_
  refine v_bipush dX11_pass_53 (by decide) (v := 10) ?_
  obtain ⟨q2, eq2, hf⟩ := ob hf
  refine v_callS dX11_pass_55 ⟨cb_X11_drawn, ml_11_274, sm_X11_drawn⟩ (ev_X11_drawn eq2) (by decide) (As := [.long q1, .int (10 : Int32)]) rfl (st := []) rfl (Nat.le_of_ble_eq_true rfl) rfl ?_
  refine v_aload_n dX11_pass_58 rfl ?_
  obtain ⟨x3, ex3, hf⟩ := ob hf
  refine v_getI dX11_pass_59 fl_11_107 ex3 ?_
  refine v_icmp_ge dX11_pass_62 (tgt := 113) (by decide) (fun c4 => ?_) (fun c4 => ?_)
  · replace hf := (if_pos c4).symm.trans hf
    exact xa_weak (loc := [none, none, none, some (.long q1), none, none, none, none]) ⟨rfl, trivial⟩ (e_X11_pass_b113 h q1 r hf)
  · replace hf := (if_neg c4).symm.trans hf
    refine v_lload_n dX11_pass_65 rfl ?_
    obtain ⟨q5, eq5, hf⟩ := ob hf
    refine v_callS dX11_pass_66 ⟨cb_X11_stir, ml_11_271, sm_X11_stir⟩ (ev_X11_stir eq5) (by decide) (As := [.long q1]) rfl (st := []) rfl (Nat.le_of_ble_eq_true rfl) rfl ?_
    refine v_lstore_n (i := 3) rfl dX11_pass_69 (Nat.le_of_ble_eq_true rfl) (loc' := [some (.ref l0), none, none, some (.long q5), none, none, none, none]) rfl ?_
    refine v_lload_n dX11_pass_70 rfl ?_
    refine v_aload_n dX11_pass_71 rfl ?_
    obtain ⟨x6, ex6, hf⟩ := ob hf
    refine v_getR dX11_pass_72 fl_11_49 ex6 ?_
    obtain ⟨x7, ex7, hf⟩ := ob hf
    refine v_getI dX11_pass_75 fl_11_154 ex7 ?_
    obtain ⟨q8, eq8, hf⟩ := ob hf
    refine v_callS dX11_pass_78 ⟨cb_X11_drawn, ml_11_274, sm_X11_drawn⟩ (ev_X11_drawn eq8) (by decide) (As := [.long q5, .int x7]) rfl (st := []) rfl (Nat.le_of_ble_eq_true rfl) rfl ?_
    refine v_istore dX11_pass_81 (Nat.le_of_ble_eq_true rfl) (loc' := [some (.ref l0), none, none, some (.long q5), none, none, some (.int q8), none]) rfl ?_
    refine v_lload_n dX11_pass_83 rfl ?_
    obtain ⟨q9, eq9, hf⟩ := ob hf
    refine v_callS dX11_pass_84 ⟨cb_X11_stir, ml_11_271, sm_X11_stir⟩ (ev_X11_stir eq9) (by decide) (As := [.long q5]) rfl (st := []) rfl (Nat.le_of_ble_eq_true rfl) rfl ?_
    refine v_lstore_n (i := 3) rfl dX11_pass_87 (Nat.le_of_ble_eq_true rfl) (loc' := [some (.ref l0), none, none, some (.long q9), none, none, some (.int q8), none]) rfl ?_
    refine v_lload_n dX11_pass_88 rfl ?_
    refine v_aload_n dX11_pass_89 rfl ?_
    obtain ⟨x10, ex10, hf⟩ := ob hf
    refine v_getR dX11_pass_90 fl_11_49 ex10 ?_
    obtain ⟨x11, ex11, hf⟩ := ob hf
    refine v_getI dX11_pass_93 fl_11_154 ex11 ?_
    obtain ⟨q12, eq12, hf⟩ := ob hf
    refine v_callS dX11_pass_96 ⟨cb_X11_drawn, ml_11_274, sm_X11_drawn⟩ (ev_X11_drawn eq12) (by decide) (As := [.long q9, .int x11]) rfl (st := []) rfl (Nat.le_of_ble_eq_true rfl) rfl ?_
    refine v_istore dX11_pass_99 (Nat.le_of_ble_eq_true rfl) (loc' := [some (.ref l0), none, none, some (.long q9), none, none, some (.int q8), some (.int q12)]) rfl ?_
    refine v_aload_n dX11_pass_101 rfl ?_
    obtain ⟨x13, ex13, hf⟩ := ob hf
    refine v_getR dX11_pass_102 fl_11_49 ex13 ?_
    refine v_iload dX11_pass_105 rfl ?_
    refine v_iload dX11_pass_107 rfl ?_
    refine v_iconst dX11_pass_109 (by decide) (v := 0) ?_
    obtain ⟨q14, eq14, hf⟩ := ob hf
    refine v_callV dX11_pass_110 ⟨cb_X0_setDebt, ml_11_260, im_X0_setDebt⟩ se_0_X0_setDebt (ckf_X0_setDebt eq14) (ev_X0_setDebt eq14) (by decide) (As := [.int q8, .int q12, .int (0 : Int32)]) rfl (st := []) rfl (Nat.le_of_ble_eq_true rfl) rfl ?_
    exact xa_weak (loc := [none, none, none, some (.long q9), none, none, none, none]) ⟨rfl, trivial⟩ (e_X11_pass_b113 q14 q9 r hf)
def f_X11_pass (h : xa_H) (l0 : Nat) (l1 : Int64) : Option (Int64 × xa_H) :=
  (ck [11] h l0).bind fun _ =>
  (gR [11] 10 h l0).bind fun x1 =>
  (gR [11] 6 h l0).bind fun x2 =>
  (f_X3_remember h x1 x2).bind fun q3 =>
  (f_X11_stir q3 l1).bind fun q4 =>
  (gR [11] 6 q3 l0).bind fun x5 =>
  (gI [0] 4 q3 x5).bind fun x6 =>
  (f_X11_drawn q3 q4 x6).bind fun q7 =>
  (gR [11] 6 q3 l0).bind fun x8 =>
  (f_X0_canTurn q3 x8 q7).bind fun q9 =>
  if q9 = 0 then
    f_X11_pass_b47 q3 l0 q4
  else
    (f_X11_crossAndLog q3 l0 q7).bind fun q11 =>
    f_X11_pass_b47 q11 l0 q4
set_option maxRecDepth 20000 in
theorem ev_X11_pass {G : xa_G} {h : xa_H} {l0 : Nat} {l1 : Int64} {r : (Int64 × xa_H)} (hf : f_X11_pass h l0 l1 = some r) : xa_Ev G M_X11_pass 4 [.ref l0, .long l1] h (some (.long r.1)) r.2 := by
  refine xa_entry (by decide +kernel) (loc := [some (.ref l0), some (.long l1), none, none, none, none, none, none]) rfl (Nat.le_of_ble_eq_true rfl) ?_
  unfold f_X11_pass at hf
  obtain ⟨u0, eu0, hf⟩ := ob hf
  refine v_aload_n dX11_pass_0 rfl ?_
  obtain ⟨x1, ex1, hf⟩ := ob hf
  refine v_getR dX11_pass_1 fl_11_69 ex1 ?_
  refine v_aload_n dX11_pass_4 rfl ?_
  obtain ⟨x2, ex2, hf⟩ := ob hf
  refine v_getR dX11_pass_5 fl_11_49 ex2 ?_
  obtain ⟨q3, eq3, hf⟩ := ob hf
  refine v_callV dX11_pass_8 ⟨cb_X3_remember, ml_11_238, im_X3_remember⟩ se_3_X3_remember (ckf_X3_remember eq3) (ev_X3_remember eq3) (by decide) (As := [.ref x2]) rfl (st := []) rfl (Nat.le_of_ble_eq_true rfl) rfl ?_
  refine v_lload_n dX11_pass_11 rfl ?_
  obtain ⟨q4, eq4, hf⟩ := ob hf
  refine v_callS dX11_pass_12 ⟨cb_X11_stir, ml_11_271, sm_X11_stir⟩ (ev_X11_stir eq4) (by decide) (As := [.long l1]) rfl (st := []) rfl (Nat.le_of_ble_eq_true rfl) rfl ?_
  refine v_lstore_n (i := 3) rfl dX11_pass_15 (Nat.le_of_ble_eq_true rfl) (loc' := [some (.ref l0), some (.long l1), none, some (.long q4), none, none, none, none]) rfl ?_
  refine v_lload_n dX11_pass_16 rfl ?_
  refine v_aload_n dX11_pass_17 rfl ?_
  obtain ⟨x5, ex5, hf⟩ := ob hf
  refine v_getR dX11_pass_18 fl_11_49 ex5 ?_
  obtain ⟨x6, ex6, hf⟩ := ob hf
  refine v_getI dX11_pass_21 fl_11_154 ex6 ?_
  obtain ⟨q7, eq7, hf⟩ := ob hf
  refine v_callS dX11_pass_24 ⟨cb_X11_drawn, ml_11_274, sm_X11_drawn⟩ (ev_X11_drawn eq7) (by decide) (As := [.long q4, .int x6]) rfl (st := []) rfl (Nat.le_of_ble_eq_true rfl) rfl ?_
  refine v_istore dX11_pass_27 (Nat.le_of_ble_eq_true rfl) (loc' := [some (.ref l0), some (.long l1), none, some (.long q4), none, some (.int q7), none, none]) rfl ?_
  refine v_aload_n dX11_pass_29 rfl ?_
  obtain ⟨x8, ex8, hf⟩ := ob hf
  refine v_getR dX11_pass_30 fl_11_49 ex8 ?_
  refine v_iload dX11_pass_33 rfl ?_
  obtain ⟨q9, eq9, hf⟩ := ob hf
  refine v_callV dX11_pass_35 ⟨cb_X0_canTurn, ml_11_232, im_X0_canTurn⟩ se_0_X0_canTurn (ckf_X0_canTurn eq9) (ev_X0_canTurn eq9) (by decide) (As := [.int q7]) rfl (st := []) rfl (Nat.le_of_ble_eq_true rfl) rfl ?_
  refine v_if_eq dX11_pass_38 (tgt := 47) (by decide) (fun c10 => ?_) (fun c10 => ?_)
  · replace hf := (if_pos c10).symm.trans hf
    exact xa_weak (loc := [some (.ref l0), none, none, some (.long q4), none, none, none, none]) ⟨rfl, ⟨rfl, trivial⟩⟩ (e_X11_pass_b47 q3 l0 q4 r hf)
  · replace hf := (if_neg c10).symm.trans hf
    refine v_aload_n dX11_pass_41 rfl ?_
    refine v_iload dX11_pass_42 rfl ?_
    obtain ⟨q11, eq11, hf⟩ := ob hf
    refine v_callV dX11_pass_44 ⟨cb_X11_crossAndLog, ml_11_241, im_X11_crossAndLog⟩ se_11_X11_crossAndLog (ckf_X11_crossAndLog eq11) (ev_X11_crossAndLog eq11) (by decide) (As := [.int q7]) rfl (st := []) rfl (Nat.le_of_ble_eq_true rfl) rfl ?_
    exact xa_weak (loc := [some (.ref l0), none, none, some (.long q4), none, none, none, none]) ⟨rfl, ⟨rfl, trivial⟩⟩ (e_X11_pass_b47 q11 l0 q4 r hf)
theorem ckf_X11_pass {h : xa_H} {l0 : Nat} {l1 : Int64} {r : (Int64 × xa_H)} (hf : f_X11_pass h l0 l1 = some r) : ck [11] h l0 = some () := by
  obtain ⟨u, e, -⟩ := ob hf
  exact e
def M_X11_reach : xa_M := (yX11_reach, cX11_reach, 2, some .int)
theorem cb_X11_reach : xa_CB M_X11_reach 1 := ⟨gws_at 1033 (by decide +kernel) rfl, gws_at 109 (by decide +kernel) rfl, by decide +kernel, Nat.le_of_ble_eq_true rfl⟩
def f_X11_reach (h : xa_H) (l0 : Nat) (l1 : Int32) : Option (Int32 × xa_H) :=
  (ck [11] h l0).bind fun _ =>
  (gR [11] 6 h l0).bind fun x1 =>
  (gI [0] 4 h x1).bind fun x2 =>
  if x2 = 0 then
    some ((-1 : Int32), h)
  else
    if l1 < 0 then
      some ((-1 : Int32), h)
    else
      if l1 ≤ (4 : Int32) then
        (gR [11] 12 h l0).bind fun x6 =>
        (gR [11] 6 h l0).bind fun x7 =>
        (f_X10_search h x6 x7 l1 (0 : Int32)).bind fun q8 =>
        (gR [11] 12 q8 l0).bind fun x9 =>
        (gI [10] 5 q8 x9).bind fun x10 =>
        some (x10, q8)
      else
        some ((-1 : Int32), h)
set_option maxRecDepth 20000 in
theorem ev_X11_reach {G : xa_G} {h : xa_H} {l0 : Nat} {l1 : Int32} {r : (Int32 × xa_H)} (hf : f_X11_reach h l0 l1 = some r) : xa_Ev G M_X11_reach 14 [.ref l0, .int l1] h (some (.int r.1)) r.2 := by
  refine xa_entry (by decide +kernel) (loc := [some (.ref l0), some (.int l1)]) rfl (Nat.le_of_ble_eq_true rfl) ?_
  unfold f_X11_reach at hf
  obtain ⟨u0, eu0, hf⟩ := ob hf
  refine v_aload_n dX11_reach_0 rfl ?_
  obtain ⟨x1, ex1, hf⟩ := ob hf
  refine v_getR dX11_reach_1 fl_11_49 ex1 ?_
  obtain ⟨x2, ex2, hf⟩ := ob hf
  refine v_getI dX11_reach_4 fl_11_154 ex2 ?_
  refine v_if_eq dX11_reach_7 (tgt := 19) (by decide) (fun c3 => ?_) (fun c3 => ?_)
  · replace hf := (if_pos c3).symm.trans hf
    refine v_iconst dX11_reach_19 (by decide) (v := -1) ?_
    replace hf := Option.some.inj hf
    subst hf
    exact v_iret dX11_reach_20 rfl
  · replace hf := (if_neg c3).symm.trans hf
    refine v_iload_n dX11_reach_10 rfl ?_
    refine v_if_lt dX11_reach_11 (tgt := 19) (by decide) (fun c4 => ?_) (fun c4 => ?_)
    · replace hf := (if_pos c4).symm.trans hf
      refine v_iconst dX11_reach_19 (by decide) (v := -1) ?_
      replace hf := Option.some.inj hf
      subst hf
      exact v_iret dX11_reach_20 rfl
    · replace hf := (if_neg c4).symm.trans hf
      refine v_iload_n dX11_reach_14 rfl ?_
      refine v_iconst dX11_reach_15 (by decide) (v := 4) ?_
      refine v_icmp_le dX11_reach_16 (tgt := 21) (by decide) (fun c5 => ?_) (fun c5 => ?_)
      · replace hf := (if_pos c5).symm.trans hf
        refine v_aload_n dX11_reach_21 rfl ?_
        obtain ⟨x6, ex6, hf⟩ := ob hf
        refine v_getR dX11_reach_22 fl_11_83 ex6 ?_
        refine v_aload_n dX11_reach_25 rfl ?_
        obtain ⟨x7, ex7, hf⟩ := ob hf
        refine v_getR dX11_reach_26 fl_11_49 ex7 ?_
        refine v_iload_n dX11_reach_29 rfl ?_
        refine v_iconst dX11_reach_30 (by decide) (v := 0) ?_
        obtain ⟨q8, eq8, hf⟩ := ob hf
        refine v_callV dX11_reach_31 ⟨cb_X10_search, ml_11_314, im_X10_search⟩ se_10_X10_search (ckf_X10_search eq8) (ev_X10_search eq8) (by decide) (As := [.ref x7, .int l1, .int (0 : Int32)]) rfl (st := []) rfl (Nat.le_of_ble_eq_true rfl) rfl ?_
        refine v_aload_n dX11_reach_34 rfl ?_
        obtain ⟨x9, ex9, hf⟩ := ob hf
        refine v_getR dX11_reach_35 fl_11_83 ex9 ?_
        obtain ⟨x10, ex10, hf⟩ := ob hf
        refine v_getI dX11_reach_38 fl_11_318 ex10 ?_
        replace hf := Option.some.inj hf
        subst hf
        exact v_iret dX11_reach_41 rfl
      · replace hf := (if_neg c5).symm.trans hf
        refine v_iconst dX11_reach_19 (by decide) (v := -1) ?_
        replace hf := Option.some.inj hf
        subst hf
        exact v_iret dX11_reach_20 rfl
theorem ckf_X11_reach {h : xa_H} {l0 : Nat} {l1 : Int32} {r : (Int32 × xa_H)} (hf : f_X11_reach h l0 l1 = some r) : ck [11] h l0 = some () := by
  obtain ⟨u, e, -⟩ := ob hf
  exact e
def M_X11_rests : xa_M := (yX11_rests, cX11_rests, 8, some .int)
theorem cb_X11_rests : xa_CB M_X11_rests 3 := ⟨gws_at 1128 (by decide +kernel) rfl, gws_at 109 (by decide +kernel) rfl, by decide +kernel, Nat.le_of_ble_eq_true rfl⟩
def f_X11_rests_b84 (k35 : xa_H → Nat → Int32 → Int32 → Int32 → Int32 → Int32 → Option (Int32 × xa_H)) (h : xa_H) (l0 : Nat) (l1 : Int32) (l2 : Int32) (l3 : Int32) (l4 : Int32) (l5 : Int32) : Option (Int32 × xa_H) :=
  k35 h l0 l1 l2 l3 l4 (l5 + (1 : Int32))
set_option maxRecDepth 20000 in
theorem e_X11_rests_b84 {G : xa_G} {k35 : xa_H → Nat → Int32 → Int32 → Int32 → Int32 → Int32 → Option (Int32 × xa_H)} (hk35 : ∀ (h : xa_H) (l0 : Nat) (l1 : Int32) (l2 : Int32) (l3 : Int32) (l4 : Int32) (l5 : Int32) (r : (Int32 × xa_H)), k35 h l0 l1 l2 l3 l4 l5 = some r → xa_V G M_X11_rests 5 35 [some (.ref l0), some (.int l1), some (.int l2), some (.int l3), some (.int l4), some (.int l5), none, none] [] h (some (.int r.1)) r.2) : ∀ (h : xa_H) (l0 : Nat) (l1 : Int32) (l2 : Int32) (l3 : Int32) (l4 : Int32) (l5 : Int32) (r : (Int32 × xa_H)), f_X11_rests_b84 k35 h l0 l1 l2 l3 l4 l5 = some r → xa_V G M_X11_rests 5 84 [some (.ref l0), some (.int l1), some (.int l2), some (.int l3), some (.int l4), some (.int l5), none, none] [] h (some (.int r.1)) r.2 := by
  intro h l0 l1 l2 l3 l4 l5 r hf
  unfold f_X11_rests_b84 at hf
  refine v_iinc dX11_rests_84 rfl (v := (l5 + (1 : Int32))) rfl (Nat.le_of_ble_eq_true rfl) (loc' := [some (.ref l0), some (.int l1), some (.int l2), some (.int l3), some (.int l4), some (.int (l5 + (1 : Int32))), none, none]) rfl ?_
  refine v_goto dX11_rests_87 (tgt := 35) (by decide) ?_
  exact hk35 h l0 l1 l2 l3 l4 (l5 + (1 : Int32)) r hf
def f_X11_rests_b35 : Nat → xa_H → Nat → Int32 → Int32 → Int32 → Int32 → Int32 → Option (Int32 × xa_H)
  | 0, _, _, _, _, _, _, _ => none
  | n + 1, h, l0, l1, l2, l3, l4, l5 =>
    if (4 : Int32) ≤ l5 then
      if l3 = (-1 : Int32) then
        some (l4, h)
      else
        some ((-1 : Int32), h)
    else
      (f_X11_isRest h l0 l1 l2 (l5 / (2 : Int32)) (irem l5 (2 : Int32))).bind fun q3 =>
      if q3.1 = 0 then
        f_X11_rests_b84 (fun h l0 l1 l2 l3 l4 l5 => f_X11_rests_b35 n h l0 l1 l2 l3 l4 l5) q3.2 l0 l1 l2 l3 l4 l5
      else
        if l4 = l3 then
          some ((((10 : Int32) * (l5 / (2 : Int32))) + (irem l5 (2 : Int32))), q3.2)
        else
          f_X11_rests_b84 (fun h l0 l1 l2 l3 l4 l5 => f_X11_rests_b35 n h l0 l1 l2 l3 l4 l5) q3.2 l0 l1 l2 l3 (l4 + (1 : Int32)) l5
set_option maxRecDepth 20000 in
theorem e_X11_rests_b35 {G : xa_G} : ∀ (n : Nat) (h : xa_H) (l0 : Nat) (l1 : Int32) (l2 : Int32) (l3 : Int32) (l4 : Int32) (l5 : Int32) (r : (Int32 × xa_H)), f_X11_rests_b35 n h l0 l1 l2 l3 l4 l5 = some r → xa_V G M_X11_rests 5 35 [some (.ref l0), some (.int l1), some (.int l2), some (.int l3), some (.int l4), some (.int l5), none, none] [] h (some (.int r.1)) r.2 := by
  intro n
  induction n with
  | zero =>
    intro h l0 l1 l2 l3 l4 l5 r hf
    cases (show (none : Option (Int32 × xa_H)) = some r from hf)
  | succ n ih =>
    intro h l0 l1 l2 l3 l4 l5 r hf
    rw [f_X11_rests_b35] at hf
    refine v_iload dX11_rests_35 rfl ?_
    refine v_iconst dX11_rests_37 (by decide) (v := 4) ?_
    refine v_icmp_ge dX11_rests_38 (tgt := 90) (by decide) (fun c1 => ?_) (fun c1 => ?_)
    · replace hf := (if_pos c1).symm.trans hf
      refine v_iload_n dX11_rests_90 rfl ?_
      refine v_iconst dX11_rests_91 (by decide) (v := -1) ?_
      refine v_icmp_ne dX11_rests_92 (tgt := 100) (by decide) (fun c2 => ?_) (fun c2 => ?_)
      · replace hf := (if_neg c2).symm.trans hf
        refine v_iconst dX11_rests_100 (by decide) (v := -1) ?_
        replace hf := Option.some.inj hf
        subst hf
        exact v_iret dX11_rests_101 rfl
      · replace hf := (if_pos c2).symm.trans hf
        refine v_iload dX11_rests_95 rfl ?_
        refine v_goto dX11_rests_97 (tgt := 101) (by decide) ?_
        replace hf := Option.some.inj hf
        subst hf
        exact v_iret dX11_rests_101 rfl
    · replace hf := (if_neg c1).symm.trans hf
      refine v_iload dX11_rests_41 rfl ?_
      refine v_iconst dX11_rests_43 (by decide) (v := 2) ?_
      refine v_idiv dX11_rests_44 (by decide) ?_
      refine v_istore dX11_rests_45 (Nat.le_of_ble_eq_true rfl) (loc' := [some (.ref l0), some (.int l1), some (.int l2), some (.int l3), some (.int l4), some (.int l5), some (.int (l5 / (2 : Int32))), none]) rfl ?_
      refine v_iload dX11_rests_47 rfl ?_
      refine v_iconst dX11_rests_49 (by decide) (v := 2) ?_
      refine w_irem dX11_rests_50 (by decide) ?_
      refine v_istore dX11_rests_51 (Nat.le_of_ble_eq_true rfl) (loc' := [some (.ref l0), some (.int l1), some (.int l2), some (.int l3), some (.int l4), some (.int l5), some (.int (l5 / (2 : Int32))), some (.int (irem l5 (2 : Int32)))]) rfl ?_
      refine v_aload_n dX11_rests_53 rfl ?_
      refine v_iload_n dX11_rests_54 rfl ?_
      refine v_iload_n dX11_rests_55 rfl ?_
      refine v_iload dX11_rests_56 rfl ?_
      refine v_iload dX11_rests_58 rfl ?_
      obtain ⟨q3, eq3, hf⟩ := ob hf
      refine v_callV dX11_rests_60 ⟨cb_X11_isRest, ml_11_354, im_X11_isRest⟩ se_11_X11_isRest (ckf_X11_isRest eq3) (ev_X11_isRest eq3) (by decide) (As := [.int l1, .int l2, .int (l5 / (2 : Int32)), .int (irem l5 (2 : Int32))]) rfl (st := []) rfl (Nat.le_of_ble_eq_true rfl) rfl ?_
      refine v_if_eq dX11_rests_63 (tgt := 84) (by decide) (fun c4 => ?_) (fun c4 => ?_)
      · replace hf := (if_pos c4).symm.trans hf
        exact xa_weak (loc := [some (.ref l0), some (.int l1), some (.int l2), some (.int l3), some (.int l4), some (.int l5), none, none]) ⟨rfl, ⟨rfl, ⟨rfl, ⟨rfl, ⟨rfl, ⟨rfl, trivial⟩⟩⟩⟩⟩⟩ (e_X11_rests_b84 ih q3.2 l0 l1 l2 l3 l4 l5 r hf)
      · replace hf := (if_neg c4).symm.trans hf
        refine v_iload dX11_rests_66 rfl ?_
        refine v_iload_n dX11_rests_68 rfl ?_
        refine v_icmp_ne dX11_rests_69 (tgt := 81) (by decide) (fun c5 => ?_) (fun c5 => ?_)
        · replace hf := (if_neg c5).symm.trans hf
          refine v_iinc dX11_rests_81 rfl (v := (l4 + (1 : Int32))) rfl (Nat.le_of_ble_eq_true rfl) (loc' := [some (.ref l0), some (.int l1), some (.int l2), some (.int l3), some (.int (l4 + (1 : Int32))), some (.int l5), some (.int (l5 / (2 : Int32))), some (.int (irem l5 (2 : Int32)))]) rfl ?_
          exact xa_weak (loc := [some (.ref l0), some (.int l1), some (.int l2), some (.int l3), some (.int (l4 + (1 : Int32))), some (.int l5), none, none]) ⟨rfl, ⟨rfl, ⟨rfl, ⟨rfl, ⟨rfl, ⟨rfl, trivial⟩⟩⟩⟩⟩⟩ (e_X11_rests_b84 ih q3.2 l0 l1 l2 l3 (l4 + (1 : Int32)) l5 r hf)
        · replace hf := (if_pos c5).symm.trans hf
          refine v_bipush dX11_rests_72 (by decide) (v := 10) ?_
          refine v_iload dX11_rests_74 rfl ?_
          refine v_imul dX11_rests_76 ?_
          refine v_iload dX11_rests_77 rfl ?_
          refine v_iadd dX11_rests_79 ?_
          replace hf := Option.some.inj hf
          subst hf
          exact v_iret dX11_rests_80 rfl
def f_X11_rests (h : xa_H) (l0 : Nat) (l1 : Int32) (l2 : Int32) (l3 : Int32) : Option (Int32 × xa_H) :=
  (ck [11] h l0).bind fun _ =>
  (gR [11] 6 h l0).bind fun x1 =>
  (f_X0_has h x1 l1).bind fun q2 =>
  if q2 = 0 then
    some ((-1 : Int32), h)
  else
    (gR [11] 6 h l0).bind fun x4 =>
    (f_X0_has h x4 l2).bind fun q5 =>
    if q5 = 0 then
      some ((-1 : Int32), h)
    else
      if l1 = l2 then
        some ((-1 : Int32), h)
      else
        f_X11_rests_b35 1048576 h l0 l1 l2 l3 (0 : Int32) (0 : Int32)
set_option maxRecDepth 20000 in
theorem ev_X11_rests {G : xa_G} {h : xa_H} {l0 : Nat} {l1 : Int32} {l2 : Int32} {l3 : Int32} {r : (Int32 × xa_H)} (hf : f_X11_rests h l0 l1 l2 l3 = some r) : xa_Ev G M_X11_rests 5 [.ref l0, .int l1, .int l2, .int l3] h (some (.int r.1)) r.2 := by
  refine xa_entry (by decide +kernel) (loc := [some (.ref l0), some (.int l1), some (.int l2), some (.int l3), none, none, none, none]) rfl (Nat.le_of_ble_eq_true rfl) ?_
  unfold f_X11_rests at hf
  obtain ⟨u0, eu0, hf⟩ := ob hf
  refine v_aload_n dX11_rests_0 rfl ?_
  obtain ⟨x1, ex1, hf⟩ := ob hf
  refine v_getR dX11_rests_1 fl_11_49 ex1 ?_
  refine v_iload_n dX11_rests_4 rfl ?_
  obtain ⟨q2, eq2, hf⟩ := ob hf
  refine v_callV dX11_rests_5 ⟨cb_X0_has, ml_11_157, im_X0_has⟩ se_0_X0_has (ckf_X0_has eq2) (ev_X0_has eq2) (by decide) (As := [.int l1]) rfl (st := []) rfl (Nat.le_of_ble_eq_true rfl) rfl ?_
  refine v_if_eq dX11_rests_8 (tgt := 27) (by decide) (fun c3 => ?_) (fun c3 => ?_)
  · replace hf := (if_pos c3).symm.trans hf
    refine v_iconst dX11_rests_27 (by decide) (v := -1) ?_
    replace hf := Option.some.inj hf
    subst hf
    exact v_iret dX11_rests_28 rfl
  · replace hf := (if_neg c3).symm.trans hf
    refine v_aload_n dX11_rests_11 rfl ?_
    obtain ⟨x4, ex4, hf⟩ := ob hf
    refine v_getR dX11_rests_12 fl_11_49 ex4 ?_
    refine v_iload_n dX11_rests_15 rfl ?_
    obtain ⟨q5, eq5, hf⟩ := ob hf
    refine v_callV dX11_rests_16 ⟨cb_X0_has, ml_11_157, im_X0_has⟩ se_0_X0_has (ckf_X0_has eq5) (ev_X0_has eq5) (by decide) (As := [.int l2]) rfl (st := []) rfl (Nat.le_of_ble_eq_true rfl) rfl ?_
    refine v_if_eq dX11_rests_19 (tgt := 27) (by decide) (fun c6 => ?_) (fun c6 => ?_)
    · replace hf := (if_pos c6).symm.trans hf
      refine v_iconst dX11_rests_27 (by decide) (v := -1) ?_
      replace hf := Option.some.inj hf
      subst hf
      exact v_iret dX11_rests_28 rfl
    · replace hf := (if_neg c6).symm.trans hf
      refine v_iload_n dX11_rests_22 rfl ?_
      refine v_iload_n dX11_rests_23 rfl ?_
      refine v_icmp_ne dX11_rests_24 (tgt := 29) (by decide) (fun c7 => ?_) (fun c7 => ?_)
      · replace hf := (if_neg c7).symm.trans hf
        refine v_iconst dX11_rests_29 (by decide) (v := 0) ?_
        refine v_istore dX11_rests_30 (Nat.le_of_ble_eq_true rfl) (loc' := [some (.ref l0), some (.int l1), some (.int l2), some (.int l3), some (.int (0 : Int32)), none, none, none]) rfl ?_
        refine v_iconst dX11_rests_32 (by decide) (v := 0) ?_
        refine v_istore dX11_rests_33 (Nat.le_of_ble_eq_true rfl) (loc' := [some (.ref l0), some (.int l1), some (.int l2), some (.int l3), some (.int (0 : Int32)), some (.int (0 : Int32)), none, none]) rfl ?_
        exact e_X11_rests_b35 1048576 h l0 l1 l2 l3 (0 : Int32) (0 : Int32) r hf
      · replace hf := (if_pos c7).symm.trans hf
        refine v_iconst dX11_rests_27 (by decide) (v := -1) ?_
        replace hf := Option.some.inj hf
        subst hf
        exact v_iret dX11_rests_28 rfl
theorem ckf_X11_rests {h : xa_H} {l0 : Nat} {l1 : Int32} {l2 : Int32} {l3 : Int32} {r : (Int32 × xa_H)} (hf : f_X11_rests h l0 l1 l2 l3 = some r) : ck [11] h l0 = some () := by
  obtain ⟨u, e, -⟩ := ob hf
  exact e
