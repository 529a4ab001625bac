def M_X3_forgetActs : xa_M := (yX3_forgetActs, cX3_forgetActs, 1, none)
theorem cb_X3_forgetActs : xa_CB M_X3_forgetActs 0 := ⟨gws_at 801 (by decide +kernel) rfl, gws_at 118 (by decide +kernel) rfl, by decide +kernel, Nat.le_of_ble_eq_true rfl⟩
def f_X3_forgetActs (h : xa_H) (l0 : Nat) : Option xa_H :=
  (ck [3] h l0).bind fun _ =>
  (xp [3] 3 h l0 (.int (0 : Int32))).bind fun h1 =>
  (xp [3] 4 h1 l0 (.int (0 : Int32))).bind fun h2 =>
  some h2
set_option maxRecDepth 20000 in
theorem ev_X3_forgetActs {G : xa_G} {h : xa_H} {l0 : Nat} {r : xa_H} (hf : f_X3_forgetActs h l0 = some r) : xa_Ev G M_X3_forgetActs 0 [.ref l0] h none r := by
  refine xa_entry (by decide +kernel) (loc := [some (.ref l0)]) rfl (Nat.le_of_ble_eq_true rfl) ?_
  unfold f_X3_forgetActs at hf
  obtain ⟨u0, eu0, hf⟩ := ob hf
  refine v_aload_n dX3_forgetActs_0 rfl ?_
  refine v_iconst dX3_forgetActs_1 (by decide) (v := 0) ?_
  obtain ⟨h1, eh1, hf⟩ := ob hf
  refine v_put dX3_forgetActs_2 fp_3_29 (fun z => by cases z) (fun _ => rfl) (fun _ => rfl) eh1 ?_
  refine v_aload_n dX3_forgetActs_5 rfl ?_
  refine v_iconst dX3_forgetActs_6 (by decide) (v := 0) ?_
  obtain ⟨h2, eh2, hf⟩ := ob hf
  refine v_put dX3_forgetActs_7 fp_3_33 (fun z => by cases z) (fun _ => rfl) (fun _ => rfl) eh2 ?_
  replace hf := Option.some.inj hf
  subst hf
  exact v_vret dX3_forgetActs_10 rfl
theorem ckf_X3_forgetActs {h : xa_H} {l0 : Nat} {r : xa_H} (hf : f_X3_forgetActs h l0 = some r) : ck [3] h l0 = some () := by
  obtain ⟨u, e, -⟩ := ob hf
  exact e
def M_X3_bringBack : xa_M := (yX3_bringBack, cX3_bringBack, 3, some .boolean)
theorem cb_X3_bringBack : xa_CB M_X3_bringBack 2 := ⟨gws_at 1208 (by decide +kernel) rfl, gws_at 118 (by decide +kernel) rfl, by decide +kernel, Nat.le_of_ble_eq_true rfl⟩
def f_X3_bringBack (h : xa_H) (l0 : Nat) (l1 : Nat) (l2 : Nat) : Option (Int32 × xa_H) :=
  (ck [3] h l0).bind fun _ =>
  (gI [3] 5 h l0).bind fun x1 =>
  if x1 = 0 then
    some ((0 : Int32), h)
  else
    (gR [3] 1 h l0).bind fun x3 =>
    (f_X0_become h l1 x3).bind fun q4 =>
    (gR [3] 2 q4 l0).bind fun x5 =>
    (f_X1_become q4 l2 x5).bind fun q6 =>
    (f_X3_forgetActs q6 l0).bind fun q7 =>
    some ((1 : Int32), q7)
set_option maxRecDepth 20000 in
theorem ev_X3_bringBack {G : xa_G} {h : xa_H} {l0 : Nat} {l1 : Nat} {l2 : Nat} {r : (Int32 × xa_H)} (hf : f_X3_bringBack h l0 l1 l2 = some r) : xa_Ev G M_X3_bringBack 2 [.ref l0, .ref l1, .ref l2] h (some (.int r.1)) r.2 := by
  refine xa_entry (by decide +kernel) (loc := [some (.ref l0), some (.ref l1), some (.ref l2)]) rfl (Nat.le_of_ble_eq_true rfl) ?_
  unfold f_X3_bringBack at hf
  obtain ⟨u0, eu0, hf⟩ := ob hf
  refine v_aload_n dX3_bringBack_0 rfl ?_
  obtain ⟨x1, ex1, hf⟩ := ob hf
  refine v_getI dX3_bringBack_1 fl_3_36 ex1 ?_
  refine v_if_ne dX3_bringBack_4 (tgt := 9) (by decide) (fun c2 => ?_) (fun c2 => ?_)
  · replace hf := (if_neg c2).symm.trans hf
    refine v_aload_n dX3_bringBack_9 rfl ?_
    refine v_aload_n dX3_bringBack_10 rfl ?_
    obtain ⟨x3, ex3, hf⟩ := ob hf
    refine v_getR dX3_bringBack_11 fl_3_18 ex3 ?_
    obtain ⟨q4, eq4, hf⟩ := ob hf
    refine v_callV dX3_bringBack_14 ⟨cb_X0_become, ml_3_40, im_X0_become⟩ se_0_X0_become (ckf_X0_become eq4) (ev_X0_become eq4) (by decide) (As := [.ref x3]) rfl (st := []) rfl (Nat.le_of_ble_eq_true rfl) rfl ?_
    refine v_aload_n dX3_bringBack_17 rfl ?_
    refine v_aload_n dX3_bringBack_18 rfl ?_
    obtain ⟨x5, ex5, hf⟩ := ob hf
    refine v_getR dX3_bringBack_19 fl_3_25 ex5 ?_
    obtain ⟨q6, eq6, hf⟩ := ob hf
    refine v_callV dX3_bringBack_22 ⟨cb_X1_become, ml_3_50, im_X1_become⟩ se_1_X1_become (ckf_X1_become eq6) (ev_X1_become eq6) (by decide) (As := [.ref x5]) rfl (st := []) rfl (Nat.le_of_ble_eq_true rfl) rfl ?_
    refine v_aload_n dX3_bringBack_25 rfl ?_
    obtain ⟨q7, eq7, hf⟩ := ob hf
    refine v_callV dX3_bringBack_26 ⟨cb_X3_forgetActs, ml_3_53, im_X3_forgetActs⟩ se_3_X3_forgetActs (ckf_X3_forgetActs eq7) (ev_X3_forgetActs eq7) (by decide) (As := []) rfl (st := []) rfl (Nat.le_of_ble_eq_true rfl) rfl ?_
    refine v_iconst dX3_bringBack_29 (by decide) (v := 1) ?_
    replace hf := Option.some.inj hf
    subst hf
    exact v_zret dX3_bringBack_30 rfl (by decide)
  · replace hf := (if_pos c2).symm.trans hf
    refine v_iconst dX3_bringBack_7 (by decide) (v := 0) ?_
    replace hf := Option.some.inj hf
    subst hf
    exact v_zret dX3_bringBack_8 rfl (by decide)
theorem ckf_X3_bringBack {h : xa_H} {l0 : Nat} {l1 : Nat} {l2 : Nat} {r : (Int32 × xa_H)} (hf : f_X3_bringBack h l0 l1 l2 = some r) : ck [3] h l0 = some () := by
  obtain ⟨u, e, -⟩ := ob hf
  exact e
def M_X3_remember : xa_M := (yX3_remember, cX3_remember, 2, none)
theorem cb_X3_remember : xa_CB M_X3_remember 1 := ⟨gws_at 884 (by decide +kernel) rfl, gws_at 118 (by decide +kernel) rfl, by decide +kernel, Nat.le_of_ble_eq_true rfl⟩
def f_X3_remember (h : xa_H) (l0 : Nat) (l1 : Nat) : Option xa_H :=
  (ck [3] h l0).bind fun _ =>
  (gR [3] 0 h l0).bind fun x1 =>
  (gI [3] 3 h l0).bind fun x2 =>
  (aR 4 h x1 x2).bind fun x3 =>
  (f_X0_become h x3 l1).bind fun q4 =>
  (gI [3] 3 q4 l0).bind fun x5 =>
  (xp [3] 3 q4 l0 (.int (irem (x5 + (1 : Int32)) (40 : Int32)))).bind fun h6 =>
  (gI [3] 4 h6 l0).bind fun x7 =>
  (xp [3] 4 h6 l0 (.int (imin (x7 + (1 : Int32)) (40 : Int32)))).bind fun h8 =>
  some h8
set_option maxRecDepth 20000 in
theorem ev_X3_remember {G : xa_G} {h : xa_H} {l0 : Nat} {l1 : Nat} {r : xa_H} (hf : f_X3_remember h l0 l1 = some r) : xa_Ev G M_X3_remember 2 [.ref l0, .ref l1] h none r := by
  refine xa_entry (by decide +kernel) (loc := [some (.ref l0), some (.ref l1)]) rfl (Nat.le_of_ble_eq_true rfl) ?_
  unfold f_X3_remember at hf
  obtain ⟨u0, eu0, hf⟩ := ob hf
  refine v_aload_n dX3_remember_0 rfl ?_
  obtain ⟨x1, ex1, hf⟩ := ob hf
  refine v_getR dX3_remember_1 fl_3_11 ex1 ?_
  refine v_aload_n dX3_remember_4 rfl ?_
  obtain ⟨x2, ex2, hf⟩ := ob hf
  refine v_getI dX3_remember_5 fl_3_29 ex2 ?_
  obtain ⟨x3, ex3, hf⟩ := ob hf
  refine v_aaload dX3_remember_8 (t := 4) (by decide) ex3 ?_
  refine v_aload_n dX3_remember_9 rfl ?_
  obtain ⟨q4, eq4, hf⟩ := ob hf
  refine v_callV dX3_remember_10 ⟨cb_X0_become, ml_3_40, im_X0_become⟩ se_0_X0_become (ckf_X0_become eq4) (ev_X0_become eq4) (by decide) (As := [.ref l1]) rfl (st := []) rfl (Nat.le_of_ble_eq_true rfl) rfl ?_
  refine v_aload_n dX3_remember_13 rfl ?_
  refine v_aload_n dX3_remember_14 rfl ?_
  obtain ⟨x5, ex5, hf⟩ := ob hf
  refine v_getI dX3_remember_15 fl_3_29 ex5 ?_
  refine v_iconst dX3_remember_18 (by decide) (v := 1) ?_
  refine v_iadd dX3_remember_19 ?_
  refine v_bipush dX3_remember_20 (by decide) (v := 40) ?_
  refine w_irem dX3_remember_22 (by decide) ?_
  obtain ⟨h6, eh6, hf⟩ := ob hf
  refine v_put dX3_remember_23 fp_3_29 (fun z => by cases z) (fun _ => rfl) (fun _ => rfl) eh6 ?_
  refine v_aload_n dX3_remember_26 rfl ?_
  refine v_aload_n dX3_remember_27 rfl ?_
  obtain ⟨x7, ex7, hf⟩ := ob hf
  refine v_getI dX3_remember_28 fl_3_33 ex7 ?_
  refine v_iconst dX3_remember_31 (by decide) (v := 1) ?_
  refine v_iadd dX3_remember_32 ?_
  refine v_bipush dX3_remember_33 (by decide) (v := 40) ?_
  refine w_mmin dX3_remember_35 mw_3_44 (by decide) (Nat.le_of_ble_eq_true rfl) ?_
  obtain ⟨h8, eh8, hf⟩ := ob hf
  refine v_put dX3_remember_38 fp_3_33 (fun z => by cases z) (fun _ => rfl) (fun _ => rfl) eh8 ?_
  replace hf := Option.some.inj hf
  subst hf
  exact v_vret dX3_remember_41 rfl
theorem ckf_X3_remember {h : xa_H} {l0 : Nat} {l1 : Nat} {r : xa_H} (hf : f_X3_remember h l0 l1 = some r) : ck [3] h l0 = some () := by
  obtain ⟨u, e, -⟩ := ob hf
  exact e
def M_X3_takeImage : xa_M := (yX3_takeImage, cX3_takeImage, 3, none)
theorem cb_X3_takeImage : xa_CB M_X3_takeImage 2 := ⟨gws_at 1195 (by decide +kernel) rfl, gws_at 118 (by decide +kernel) rfl, by decide +kernel, Nat.le_of_ble_eq_true rfl⟩
def f_X3_takeImage (h : xa_H) (l0 : Nat) (l1 : Nat) (l2 : Nat) : Option xa_H :=
  (ck [3] h l0).bind fun _ =>
  (gR [3] 1 h l0).bind fun x1 =>
  (f_X0_become h x1 l1).bind fun q2 =>
  (gR [3] 2 q2 l0).bind fun x3 =>
  (f_X1_become q2 x3 l2).bind fun q4 =>
  (xp [3] 5 q4 l0 (.int (1 : Int32))).bind fun h5 =>
  some h5
set_option maxRecDepth 20000 in
theorem ev_X3_takeImage {G : xa_G} {h : xa_H} {l0 : Nat} {l1 : Nat} {l2 : Nat} {r : xa_H} (hf : f_X3_takeImage h l0 l1 l2 = some r) : xa_Ev G M_X3_takeImage 2 [.ref l0, .ref l1, .ref l2] h none r := by
  refine xa_entry (by decide +kernel) (loc := [some (.ref l0), some (.ref l1), some (.ref l2)]) rfl (Nat.le_of_ble_eq_true rfl) ?_
  unfold f_X3_takeImage at hf
  obtain ⟨u0, eu0, hf⟩ := ob hf
  refine v_aload_n dX3_takeImage_0 rfl ?_
  obtain ⟨x1, ex1, hf⟩ := ob hf
  refine v_getR dX3_takeImage_1 fl_3_18 ex1 ?_
  refine v_aload_n dX3_takeImage_4 rfl ?_
  obtain ⟨q2, eq2, hf⟩ := ob hf
  refine v_callV dX3_takeImage_5 ⟨cb_X0_become, ml_3_40, im_X0_become⟩ se_0_X0_become (ckf_X0_become eq2) (ev_X0_become eq2) (by decide) (As := [.ref l1]) rfl (st := []) rfl (Nat.le_of_ble_eq_true rfl) rfl ?_
  refine v_aload_n dX3_takeImage_8 rfl ?_
  obtain ⟨x3, ex3, hf⟩ := ob hf
  refine v_getR dX3_takeImage_9 fl_3_25 ex3 ?_
  refine v_aload_n dX3_takeImage_12 rfl ?_
  obtain ⟨q4, eq4, hf⟩ := ob hf
  refine v_callV dX3_takeImage_13 ⟨cb_X1_become, ml_3_50, im_X1_become⟩ se_1_X1_become (ckf_X1_become eq4) (ev_X1_become eq4) (by decide) (As := [.ref l2]) rfl (st := []) rfl (Nat.le_of_ble_eq_true rfl) rfl ?_
  refine v_aload_n dX3_takeImage_16 rfl ?_
  refine v_iconst dX3_takeImage_17 (by decide) (v := 1) ?_
  obtain ⟨h5, eh5, hf⟩ := ob hf
  refine v_put dX3_takeImage_18 fp_3_36 (fun z => by cases z) (fun _ => rfl) (fun _ => rfl) eh5 ?_
  replace hf := Option.some.inj hf
  subst hf
  exact v_vret dX3_takeImage_21 rfl
theorem ckf_X3_takeImage {h : xa_H} {l0 : Nat} {l1 : Nat} {l2 : Nat} {r : xa_H} (hf : f_X3_takeImage h l0 l1 l2 = some r) : ck [3] h l0 = some () := by
  obtain ⟨u, e, -⟩ := ob hf
  exact e
def M_X3_init : xa_M := (yX3_init, cX3_init, 2, none)
theorem cb_X3_init : xa_CB M_X3_init 0 := ⟨gws_at 343 (by decide +kernel) rfl, gws_at 118 (by decide +kernel) rfl, by decide +kernel, Nat.le_of_ble_eq_true rfl⟩
def f_X3_init_b52 : Nat → xa_H → Nat → Int32 → Option xa_H
  | 0, _, _, _ => none
  | n + 1, h, l0, l1 =>
    if (40 : Int32) ≤ l1 then
      some h
    else
      (gR [3] 0 h l0).bind fun x2 =>
      (nC h (.inr (0, [.null, .null, .null, .null, .int 0, .int 0, .int 0, .int 0, .int 0])) 9).bind fun h3 =>
      (f_X0_init h3 h.2.1).bind fun q4 =>
      (pR q4 x2 l1 h.2.1).bind fun h5 =>
      f_X3_init_b52 n h5 l0 (l1 + (1 : Int32))
set_option maxRecDepth 20000 in
theorem e_X3_init_b52 {G : xa_G} : ∀ (n : Nat) (h : xa_H) (l0 : Nat) (l1 : Int32) (r : xa_H), f_X3_init_b52 n h l0 l1 = some r → xa_V G M_X3_init 2 52 [some (.ref l0), some (.int l1)] [] h none r := by
  intro n
  induction n with
  | zero =>
    intro h l0 l1 r hf
    cases (show (none : Option xa_H) = some r from hf)
  | succ n ih =>
    intro h l0 l1 r hf
    rw [f_X3_init_b52] at hf
    refine v_iload_n dX3_init_52 rfl ?_
    refine v_bipush dX3_init_53 (by decide) (v := 40) ?_
    refine v_icmp_ge dX3_init_55 (tgt := 77) (by decide) (fun c1 => ?_) (fun c1 => ?_)
    · replace hf := (if_pos c1).symm.trans hf
      replace hf := Option.some.inj hf
      subst hf
      exact v_vret dX3_init_77 rfl
    · replace hf := (if_neg c1).symm.trans hf
      refine v_aload_n dX3_init_58 rfl ?_
      obtain ⟨x2, ex2, hf⟩ := ob hf
      refine v_getR dX3_init_59 fl_3_11 ex2 ?_
      refine v_iload_n dX3_init_62 rfl ?_
      obtain ⟨h3, eh3, hf⟩ := ob hf
      refine v_new dX3_init_63 nw_3_9 eh3 ?_
      refine v_dup dX3_init_66 rfl ?_
      obtain ⟨q4, eq4, hf⟩ := ob hf
      refine v_callIN dX3_init_67 ⟨cb_X0_init, mn_3_17, im_X0_init, rfl, rfl⟩ (ev_X0_init eq4) (by decide) (As := []) rfl (st := [.ref h.2.1, .int l1, .ref x2]) rfl (Nat.le_of_ble_eq_true rfl) rfl ?_
      obtain ⟨h5, eh5, hf⟩ := ob hf
      refine v_aastore dX3_init_70 eh5 ?_
      refine v_iinc dX3_init_71 rfl (v := (l1 + (1 : Int32))) rfl (Nat.le_of_ble_eq_true rfl) (loc' := [some (.ref l0), some (.int (l1 + (1 : Int32)))]) rfl ?_
      refine v_goto dX3_init_74 (tgt := 52) (by decide) ?_
      exact ih h5 l0 (l1 + (1 : Int32)) r hf
def f_X3_init (h : xa_H) (l0 : Nat) : Option xa_H :=
  (ck [3] h l0).bind fun _ =>
  (nAR h (40 : Int32)).bind fun h1 =>
  (xp [3] 0 h1 l0 (.ref h.2.1)).bind fun h2 =>
  (nC h2 (.inr (0, [.null, .null, .null, .null, .int 0, .int 0, .int 0, .int 0, .int 0])) 9).bind fun h3 =>
  (f_X0_init h3 h2.2.1).bind fun q4 =>
  (xp [3] 1 q4 l0 (.ref h2.2.1)).bind fun h5 =>
  (nC h5 (.inr (1, [.null, .null, .null])) 3).bind fun h6 =>
  (f_X1_init h6 h5.2.1).bind fun q7 =>
  (xp [3] 2 q7 l0 (.ref h5.2.1)).bind fun h8 =>
  (xp [3] 3 h8 l0 (.int (0 : Int32))).bind fun h9 =>
  (xp [3] 4 h9 l0 (.int (0 : Int32))).bind fun h10 =>
  (xp [3] 5 h10 l0 (.int (0 : Int32))).bind fun h11 =>
  f_X3_init_b52 1048576 h11 l0 (0 : Int32)
set_option maxRecDepth 20000 in
theorem ev_X3_init {G : xa_G} {h : xa_H} {l0 : Nat} {r : xa_H} (hf : f_X3_init h l0 = some r) : xa_Ev G M_X3_init 2 [.ref l0] h none r := by
  refine xa_entry (by decide +kernel) (loc := [some (.ref l0), none]) rfl (Nat.le_of_ble_eq_true rfl) ?_
  unfold f_X3_init at hf
  obtain ⟨u0, eu0, hf⟩ := ob hf
  refine v_aload_n dX3_init_0 rfl ?_
  refine v_objInit dX3_init_1 oi_3_3 (by decide) (Nat.le_of_ble_eq_true rfl) ?_
  refine v_aload_n dX3_init_4 rfl ?_
  refine v_bipush dX3_init_5 (by decide) (v := 40) ?_
  obtain ⟨h1, eh1, hf⟩ := ob hf
  refine w_anew dX3_init_7 kl_3_9 eh1 ?_
  obtain ⟨h2, eh2, hf⟩ := ob hf
  refine v_put dX3_init_10 fp_3_11 (fun _ => rfl) (fun _ => rfl) (fun _ => rfl) eh2 ?_
  refine v_aload_n dX3_init_13 rfl ?_
  obtain ⟨h3, eh3, hf⟩ := ob hf
  refine v_new dX3_init_14 nw_3_9 eh3 ?_
  refine v_dup dX3_init_17 rfl ?_
  obtain ⟨q4, eq4, hf⟩ := ob hf
  refine v_callIN dX3_init_18 ⟨cb_X0_init, mn_3_17, im_X0_init, rfl, rfl⟩ (ev_X0_init eq4) (by decide) (As := []) rfl (st := [.ref h2.2.1, .ref l0]) rfl (Nat.le_of_ble_eq_true rfl) rfl ?_
  obtain ⟨h5, eh5, hf⟩ := ob hf
  refine v_put dX3_init_21 fp_3_18 (fun _ => rfl) (fun _ => rfl) (fun _ => rfl) eh5 ?_
  refine v_aload_n dX3_init_24 rfl ?_
  obtain ⟨h6, eh6, hf⟩ := ob hf
  refine v_new dX3_init_25 nw_3_22 eh6 ?_
  refine v_dup dX3_init_28 rfl ?_
  obtain ⟨q7, eq7, hf⟩ := ob hf
  refine v_callIN dX3_init_29 ⟨cb_X1_init, mn_3_24, im_X1_init, rfl, rfl⟩ (ev_X1_init eq7) (by decide) (As := []) rfl (st := [.ref h5.2.1, .ref l0]) rfl (Nat.le_of_ble_eq_true rfl) rfl ?_
  obtain ⟨h8, eh8, hf⟩ := ob hf
  refine v_put dX3_init_32 fp_3_25 (fun _ => rfl) (fun _ => rfl) (fun _ => rfl) eh8 ?_
  refine v_aload_n dX3_init_35 rfl ?_
  refine v_iconst dX3_init_36 (by decide) (v := 0) ?_
  obtain ⟨h9, eh9, hf⟩ := ob hf
  refine v_put dX3_init_37 fp_3_29 (fun z => by cases z) (fun _ => rfl) (fun _ => rfl) eh9 ?_
  refine v_aload_n dX3_init_40 rfl ?_
  refine v_iconst dX3_init_41 (by decide) (v := 0) ?_
  obtain ⟨h10, eh10, hf⟩ := ob hf
  refine v_put dX3_init_42 fp_3_33 (fun z => by cases z) (fun _ => rfl) (fun _ => rfl) eh10 ?_
  refine v_aload_n dX3_init_45 rfl ?_
  refine v_iconst dX3_init_46 (by decide) (v := 0) ?_
  obtain ⟨h11, eh11, hf⟩ := ob hf
  refine v_put dX3_init_47 fp_3_36 (fun z => by cases z) (fun _ => rfl) (fun _ => rfl) eh11 ?_
  refine v_iconst dX3_init_50 (by decide) (v := 0) ?_
  refine v_istore_n (i := 1) rfl dX3_init_51 (Nat.le_of_ble_eq_true rfl) (loc' := [some (.ref l0), some (.int (0 : Int32))]) rfl ?_
  exact e_X3_init_b52 1048576 h11 l0 (0 : Int32) r hf
theorem ckf_X3_init {h : xa_H} {l0 : Nat} {r : xa_H} (hf : f_X3_init h l0 = some r) : ck [3] h l0 = some () := by
  obtain ⟨u, e, -⟩ := ob hf
  exact e
def M_X3_recall : xa_M := (yX3_recall, cX3_recall, 2, some .boolean)
theorem cb_X3_recall : xa_CB M_X3_recall 1 := ⟨gws_at 975 (by decide +kernel) rfl, gws_at 118 (by decide +kernel) rfl, by decide +kernel, Nat.le_of_ble_eq_true rfl⟩
def f_X3_recall (h : xa_H) (l0 : Nat) (l1 : Nat) : Option (Int32 × xa_H) :=
  (ck [3] h l0).bind fun _ =>
  (gI [3] 4 h l0).bind fun x1 =>
  if 0 < x1 then
    (gI [3] 3 h l0).bind fun x3 =>
    (xp [3] 3 h l0 (.int (irem ((x3 + (40 : Int32)) - (1 : Int32)) (40 : Int32)))).bind fun h4 =>
    (gI [3] 4 h4 l0).bind fun x5 =>
    (xp [3] 4 h4 l0 (.int (x5 - (1 : Int32)))).bind fun h6 =>
    (gR [3] 0 h6 l0).bind fun x7 =>
    (gI [3] 3 h6 l0).bind fun x8 =>
    (aR 4 h6 x7 x8).bind fun x9 =>
    (f_X0_become h6 l1 x9).bind fun q10 =>
    some ((1 : Int32), q10)
  else
    some ((0 : Int32), h)
set_option maxRecDepth 20000 in
theorem ev_X3_recall {G : xa_G} {h : xa_H} {l0 : Nat} {l1 : Nat} {r : (Int32 × xa_H)} (hf : f_X3_recall h l0 l1 = some r) : xa_Ev G M_X3_recall 2 [.ref l0, .ref l1] h (some (.int r.1)) r.2 := by
  refine xa_entry (by decide +kernel) (loc := [some (.ref l0), some (.ref l1)]) rfl (Nat.le_of_ble_eq_true rfl) ?_
  unfold f_X3_recall at hf
  obtain ⟨u0, eu0, hf⟩ := ob hf
  refine v_aload_n dX3_recall_0 rfl ?_
  obtain ⟨x1, ex1, hf⟩ := ob hf
  refine v_getI dX3_recall_1 fl_3_33 ex1 ?_
  refine v_if_gt dX3_recall_4 (tgt := 9) (by decide) (fun c2 => ?_) (fun c2 => ?_)
  · replace hf := (if_pos c2).symm.trans hf
    refine v_aload_n dX3_recall_9 rfl ?_
    refine v_aload_n dX3_recall_10 rfl ?_
    obtain ⟨x3, ex3, hf⟩ := ob hf
    refine v_getI dX3_recall_11 fl_3_29 ex3 ?_
    refine v_bipush dX3_recall_14 (by decide) (v := 40) ?_
    refine v_iadd dX3_recall_16 ?_
    refine v_iconst dX3_recall_17 (by decide) (v := 1) ?_
    refine v_isub dX3_recall_18 ?_
    refine v_bipush dX3_recall_19 (by decide) (v := 40) ?_
    refine w_irem dX3_recall_21 (by decide) ?_
    obtain ⟨h4, eh4, hf⟩ := ob hf
    refine v_put dX3_recall_22 fp_3_29 (fun z => by cases z) (fun _ => rfl) (fun _ => rfl) eh4 ?_
    refine v_aload_n dX3_recall_25 rfl ?_
    refine v_dup dX3_recall_26 rfl ?_
    obtain ⟨x5, ex5, hf⟩ := ob hf
    refine v_getI dX3_recall_27 fl_3_33 ex5 ?_
    refine v_iconst dX3_recall_30 (by decide) (v := 1) ?_
    refine v_isub dX3_recall_31 ?_
    obtain ⟨h6, eh6, hf⟩ := ob hf
    refine v_put dX3_recall_32 fp_3_33 (fun z => by cases z) (fun _ => rfl) (fun _ => rfl) eh6 ?_
    refine v_aload_n dX3_recall_35 rfl ?_
    refine v_aload_n dX3_recall_36 rfl ?_
    obtain ⟨x7, ex7, hf⟩ := ob hf
    refine v_getR dX3_recall_37 fl_3_11 ex7 ?_
    refine v_aload_n dX3_recall_40 rfl ?_
    obtain ⟨x8, ex8, hf⟩ := ob hf
    refine v_getI dX3_recall_41 fl_3_29 ex8 ?_
    obtain ⟨x9, ex9, hf⟩ := ob hf
    refine v_aaload dX3_recall_44 (t := 4) (by decide) ex9 ?_
    obtain ⟨q10, eq10, hf⟩ := ob hf
    refine v_callV dX3_recall_45 ⟨cb_X0_become, ml_3_40, im_X0_become⟩ se_0_X0_become (ckf_X0_become eq10) (ev_X0_become eq10) (by decide) (As := [.ref x9]) rfl (st := []) rfl (Nat.le_of_ble_eq_true rfl) rfl ?_
    refine v_iconst dX3_recall_48 (by decide) (v := 1) ?_
    replace hf := Option.some.inj hf
    subst hf
    exact v_zret dX3_recall_49 rfl (by decide)
  · replace hf := (if_neg c2).symm.trans hf
    refine v_iconst dX3_recall_7 (by decide) (v := 0) ?_
    replace hf := Option.some.inj hf
    subst hf
    exact v_zret dX3_recall_8 rfl (by decide)
theorem ckf_X3_recall {h : xa_H} {l0 : Nat} {l1 : Nat} {r : (Int32 × xa_H)} (hf : f_X3_recall h l0 l1 = some r) : ck [3] h l0 = some () := by
  obtain ⟨u, e, -⟩ := ob hf
  exact e
