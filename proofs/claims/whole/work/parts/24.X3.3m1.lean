def M_X3_forgetActs : xa_M := (yX3_forgetActs, cX3_forgetActs, 1, none)
theorem cb_X3_forgetActs : xa_CB M_X3_forgetActs 0 := ⟨gws_at 801 (by decide +kernel) rfl, gws_at 118 (by decide +kernel) rfl, by decide +kernel, Nat.le_of_ble_eq_true rfl⟩
def f_X3_forgetActs (h : xa_H) (l0 : Nat) : Option xa_H :=
  (ck [3] h l0).bind fun _ =>
  (xp [3] 3 h l0 (.int (0 : Int32))).bind fun h1 =>
  (xp [3] 4 h1 l0 (.int (0 : Int32))).bind fun h2 =>
  some h2
set_option maxRecDepth 20000 in
theorem ev_X3_forgetActs {G : xa_G} {h : xa_H} {l0 : Nat} {r : xa_H} (hf : f_X3_forgetActs h l0 = some r) : xa_Ev G M_X3_forgetActs 0 [.ref l0] h none r := by
  refine xa_entry (by decide +kernel) (loc := [some (.ref l0)]) rfl (Nat.le_of_ble_eq_true rfl) ?_
  unfold f_X3_forgetActs at hf
  obtain ⟨u0, eu0, hf⟩ := ob hf
  refine v_aload_n dX3_forgetActs_0 rfl ?_
  refine v_iconst dX3_forgetActs_1 (by decide) (v := 0) ?_
  obtain ⟨h1, eh1, hf⟩ := ob hf
  refine v_put dX3_forgetActs_2 fp_3_29 (fun z => by cases z) (fun _ => rfl) (fun _ => rfl) eh1 ?_
  refine v_aload_n dX3_forgetActs_5 rfl ?_
  refine v_iconst dX3_forgetActs_6 (by decide) (v := 0) ?_
  obtain ⟨h2, eh2, hf⟩ := ob hf
  refine v_put dX3_forgetActs_7 fp_3_33 (fun z => by cases z) (fun _ => rfl) (fun _ => rfl) eh2 ?_
  replace hf := Option.some.inj hf
  subst hf
  exact v_vret dX3_forgetActs_10 rfl
theorem ckf_X3_forgetActs {h : xa_H} {l0 : Nat} {r : xa_H} (hf : f_X3_forgetActs h l0 = some r) : ck [3] h l0 = some () := by
  obtain ⟨u, e, -⟩ := ob hf
  exact e
def M_X3_bringBack : xa_M := (yX3_bringBack, cX3_bringBack, 3, some .boolean)
theorem cb_X3_bringBack : xa_CB M_X3_bringBack 2 := ⟨gws_at 1208 (by decide +kernel) rfl, gws_at 118 (by decide +kernel) rfl, by decide +kernel, Nat.le_of_ble_eq_true rfl⟩
def f_X3_bringBack (h : xa_H) (l0 : Nat) (l1 : Nat) (l2 : Nat) : Option (Int32 × xa_H) :=
  (ck [3] h l0).bind fun _ =>
  (gI [3] 5 h l0).bind fun x1 =>
  if x1 = 0 then
    some ((0 : Int32), h)
  else
    (gR [3] 1 h l0).bind fun x3 =>
    (f_X0_become h l1 x3).bind fun q4 =>
    (gR [3] 2 q4 l0).bind fun x5 =>
    (f_X1_become q4 l2 x5).bind fun q6 =>
    (f_X3_forgetActs q6 l0).bind fun q7 =>
    some ((1 : Int32), q7)
set_option maxRecDepth 20000 in
theorem ev_X3_bringBack {G : xa_G} {h : xa_H} {l0 : Nat} {l1 : Nat} {l2 : Nat} {r : (Int32 × xa_H)} (hf : f_X3_bringBack h l0 l1 l2 = some r) : xa_Ev G M_X3_bringBack 2 [.ref l0, .ref l1, .ref l2] h (some (.int r.1)) r.2 := by
  refine xa_entry (by decide +kernel) (loc := [some (.ref l0), some (.ref l1), some (.ref l2)]) rfl (Nat.le_of_ble_eq_true rfl) ?_
  unfold f_X3_bringBack at hf
  obtain ⟨u0, eu0, hf⟩ := ob hf
  refine v_aload_n dX3_bringBack_0 rfl ?_
  obtain ⟨x1, ex1, hf⟩ := ob hf
  refine v_getI dX3_bringBack_1 fl_3_36 ex1 ?_
  refine v_if_ne dX3_bringBack_4 (tgt := 9) (by decide) (fun c2 => ?_) (fun c2 => ?_)
  · replace hf := (if_neg c2).symm.trans hf
    refine v_aload_n dX3_bringBack_9 rfl ?_
    refine v_aload_n dX3_bringBack_10 rfl ?_
    obtain ⟨x3, ex3, hf⟩ := ob hf
    refine v_getR dX3_bringBack_11 fl_3_18 ex3 ?_
    obtain ⟨q4, eq4, hf⟩ := ob hf
    refine v_callV dX3_bringBack_14 ⟨cb_X0_become, ml_3_40, im_X0_become⟩ se_0_X0_become (ckf_X0_become eq4) (ev_X0_become eq4) (by decide) (As := [.ref x3]) rfl (st := []) rfl (Nat.le_of_ble_eq_true rfl) rfl ?_
    refine v_aload_n dX3_bringBack_17 rfl ?_
    refine v_aload_n dX3_bringBack_18 rfl ?_
    obtain ⟨x5, ex5, hf⟩ := ob hf
    refine v_getR dX3_bringBack_19 fl_3_25 ex5 ?_
    obtain ⟨q6, eq6, hf⟩ := ob hf
    refine v_callV dX3_bringBack_22 ⟨cb_X1_become, ml_3_50, im_X1_become⟩ se_1_X1_become (ckf_X1_become eq6) (ev_X1_become eq6) (by decide) (As := [.ref x5]) rfl (st := []) rfl (Nat.le_of_ble_eq_true rfl) rfl ?_
    refine v_aload_n dX3_bringBack_25 rfl ?_
    obtain ⟨q7, eq7, hf⟩ := ob hf
    refine v_callV dX3_bringBack_26 ⟨cb_X3_forgetActs, ml_3_53, im_X3_forgetActs⟩ se_3_X3_forgetActs (ckf_X3_forgetActs eq7) (ev_X3_forgetActs eq7) (by decide) (As := []) rfl (st := []) rfl (Nat.le_of_ble_eq_true rfl) rfl ?_
    refine v_iconst dX3_bringBack_29 (by decide) (v := 1) ?_
    replace hf := Option.some.inj hf
    subst hf
    exact v_zret dX3_bringBack_30 rfl (by decide)
  · replace hf := (if_pos c2).symm.trans hf
    refine v_iconst dX3_bringBack_7 (by decide) (v := 0) ?_
    replace hf := Option.some.inj hf
    subst hf
    exact v_zret dX3_bringBack_8 rfl (by decide)
theorem ckf_X3_bringBack {h : xa_H} {l0 : Nat} {l1 : Nat} {l2 : Nat} {r : (Int32 × xa_H)} (hf : f_X3_bringBack h l0 l1 l2 = some r) : ck [3] h l0 = some () := by
  obtain ⟨u, e, -⟩ := ob hf
  exact e
def M_X3_remember : xa_M := (yX3_remember, cX3_remember, 2, none)
theorem cb_X3_remember : xa_CB M_X3_remember 1 := ⟨gws_at 884 (by decide +kernel) rfl, gws_at 118 (by decide +kernel) rfl, by decide +kernel, Nat.le_of_ble_eq_true rfl⟩
def f_X3_remember (h : xa_H) (l0 : Nat) (l1 : Nat) : Option xa_H :=
  (ck [3] h l0).bind fun _ =>
  (gR [3] 0 h l0).bind fun x1 =>
  (gI [3] 3 h l0).bind fun x2 =>
  (aR 4 h x1 x2).bind fun x3 =>
  (f_X0_become h x3 l1).bind fun q4 =>
  (gI [3] 3 q4 l0).bind fun x5 =>
  (xp [3] 3 q4 l0 (.int (irem (x5 + (1 : Int32)) (40 : Int32)))).bind fun h6 =>
  (gI [3] 4 h6 l0).bind fun x7 =>
  (xp [3] 4 h6 l0 (.int (imin (x7 + (1 : Int32)) (40 : Int32)))).bind fun h8 =>
  some h8
set_option maxRecDepth 20000 in
theorem ev_X3_remember {G : xa_G} {h : xa_H} {l0 : Nat} {l1 : Nat} {r : xa_H} (hf : f_X3_remember h l0 l1 = some r) : xa_Ev G M_X3_remember 2 [.ref l0, .ref l1] h none r := by
  refine xa_entry (by decide +kernel) (loc := [some (.ref l0), some (.ref l1)]) rfl (Nat.le_of_ble_eq_true rfl) ?_
  unfold f_X3_remember at hf
  obtain ⟨u0, eu0, hf⟩ := ob hf
  refine v_aload_n dX3_remember_0 rfl ?_
  obtain ⟨x1, ex1, hf⟩ := ob hf
  refine v_getR dX3_remember_1 fl_3_11 ex1 ?_
  refine v_aload_n dX3_remember_4 rfl ?_
  obtain ⟨x2, ex2, hf⟩ := ob hf
  refine v_getI dX3_remember_5 fl_3_29 ex2 ?_
  obtain ⟨x3, ex3, hf⟩ := ob hf
  refine v_aaload dX3_remember_8 (t := 4) (by decide) ex3 ?_
  refine v_aload_n dX3_remember_9 rfl ?_
  obtain ⟨q4, eq4, hf⟩ := ob hf
  refine v_callV dX3_remember_10 ⟨cb_X0_become, ml_3_40, im_X0_become⟩ se_0_X0_become (ckf_X0_become eq4) (ev_X0_become eq4) (by decide) (As := [.ref l1]) rfl (st := []) rfl (Nat.le_of_ble_eq_true rfl) rfl ?_
  refine v_aload_n dX3_remember_13 rfl ?_
  refine v_aload_n dX3_remember_14 rfl ?_
  obtain ⟨x5, ex5, hf⟩ := ob hf
  refine v_getI dX3_remember_15 fl_3_29 ex5 ?_
  refine v_iconst dX3_remember_18 (by decide) (v := 1) ?_
  refine v_iadd dX3_remember_19 ?_
  refine v_bipush dX3_remember_20 (by decide) (v := 40) ?_
  refine w_irem dX3_remember_22 (by decide) ?_
  obtain ⟨h6, eh6, hf⟩ := ob hf
  refine v_put dX3_remember_23 fp_3_29 (fun z => by cases z) (fun _ => rfl) (fun _ => rfl) eh6 ?_
  refine v_aload_n dX3_remember_26 rfl ?_
  refine v_aload_n dX3_remember_27 rfl ?_
  obtain ⟨x7, ex7, hf⟩ := ob hf
  refine v_getI dX3_remember_28 fl_3_33 ex7 ?_
  refine v_iconst dX3_remember_31 (by decide) (v := 1) ?_
  refine v_iadd dX3_remember_32 ?_
  refine v_bipush dX3_remember_33 (by decide) (v := 40) ?_
  refine w_mmin dX3_remember_35 mw_3_44 (by decide) (Nat.le_of_ble_eq_true rfl) ?_
  obtain ⟨h8, eh8, hf⟩ := ob hf
  refine v_put dX3_remember_38 fp_3_33 (fun z => by cases z) (fun _ => rfl) (fun _ => rfl) eh8 ?_
  replace hf := Option.some.inj hf
  subst hf
  exact v_vret dX3_remember_41 rfl
theorem ckf_X3_remember {h : xa_H} {l0 : Nat} {l1 : Nat} {r : xa_H} (hf : f_X3_remember h l0 l1 = some r) : ck [3] h l0 = some () := by
  obtain ⟨u, e, -⟩ := ob hf
  exact e
def M_X3_takeImage : xa_M := (yX3_takeImage, cX3_takeImage, 3, none)
theorem cb_X3_takeImage : xa_CB M_X3_takeImage 2 := ⟨gws_at 1195 (by decide +kernel) rfl, gws_at 118 (by decide +kernel) rfl, by decide +kernel, Nat.le_of_ble_eq_true rfl⟩
def f_X3_takeImage (h : xa_H) (l0 : Nat) (l1 : Nat) (l2 : Nat) : Option xa_H :=
  (ck [3] h l0).bind fun _ =>
  (gR [3] 1 h l0).bind fun x1 =>
  (f_X0_become h x1 l1).bind fun q2 =>
  (gR [3] 2 q2 l0).bind fun x3 =>
  (f_X1_become q2 x3 l2).bind fun q4 =>
  (xp [3] 5 q4 l0 (.int (1 : Int32))).bind fun h5 =>
  some h5
set_option maxRecDepth 20000 in
theorem ev_X3_takeImage {G : xa_G} {h : xa_H} {l0 : Nat} {l1 : Nat} {l2 : Nat} {r : xa_H} (hf : f_X3_takeImage h l0 l1 l2 = some r) : xa_Ev G M_X3_takeImage 2 [.ref l0, .ref l1, .ref l2] h none r := by
  refine xa_entry (by decide +kernel) (loc := [some (.ref l0), some (.ref l1), some (.ref l2)]) rfl (Nat.le_of_ble_eq_true rfl) ?_
  unfold f_X3_takeImage at hf
  obtain ⟨u0, eu0, hf⟩ := ob hf
  refine v_aload_n dX3_takeImage_0 rfl ?_
  obtain ⟨x1, ex1, hf⟩ := ob hf
  refine v_getR dX3_takeImage_1 fl_3_18 ex1 ?_
  refine v_aload_n dX3_takeImage_4 rfl ?_
  obtain ⟨q2, eq2, hf⟩ := ob hf
  refine v_callV dX3_takeImage_5 ⟨cb_X0_become, ml_3_40, im_X0_become⟩ se_0_X0_become (ckf_X0_become eq2) (ev_X0_become eq2) (by decide) (As := [.ref l1]) rfl (st := []) rfl (Nat.le_of_ble_eq_true rfl) rfl ?_
  refine v_aload_n dX3_takeImage_8 rfl ?_
  obtain ⟨x3, ex3, hf⟩ := ob hf
  refine v_getR dX3_takeImage_9 fl_3_25 ex3 ?_
  refine v_aload_n dX3_takeImage_12 rfl ?_
  obtain ⟨q4, eq4, hf⟩ := ob hf
  refine v_callV dX3_takeImage_13 ⟨cb_X1_become, ml_3_50, im_X1_become⟩ se_1_X1_become (ckf_X1_become eq4) (ev_X1_become eq4) (by decide) (As := [.ref l2]) rfl (st := []) rfl (Nat.le_of_ble_eq_true rfl) rfl ?_
  refine v_aload_n dX3_takeImage_16 rfl ?_
  refine v_iconst dX3_takeImage_17 (by decide) (v := 1) ?_
  obtain ⟨h5, eh5, hf⟩ := ob hf
  refine v_put dX3_takeImage_18 fp_3_36 (fun z => by cases z) (fun _ => rfl) (fun _ => rfl) eh5 ?_
  replace hf := Option.some.inj hf
  subst hf
  exact v_vret dX3_takeImage_21 rfl
theorem ckf_X3_takeImage {h : xa_H} {l0 : Nat} {l1 : Nat} {l2 : Nat} {r : xa_H} (hf : f_X3_takeImage h l0 l1 l2 = some r) : ck [3] h l0 = some () := by
  obtain ⟨u, e, -⟩ := ob hf
  exact e
def M_X3_recall : xa_M := (yX3_recall, cX3_recall, 2, some .boolean)
theorem cb_X3_recall : xa_CB M_X3_recall 1 := ⟨gws_at 975 (by decide +kernel) rfl, gws_at 118 (by decide +kernel) rfl, by decide +kernel, Nat.le_of_ble_eq_true rfl⟩
def f_X3_recall (h : xa_H) (l0 : Nat) (l1 : Nat) : Option (Int32 × xa_H) :=
  (ck [3] h l0).bind fun _ =>
  (gI [3] 4 h l0).bind fun x1 =>
  if 0 < x1 then
    (gI [3] 3 h l0).bind fun x3 =>
    (xp [3] 3 h l0 (.int (irem ((x3 + (40 : Int32)) - (1 : Int32)) (40 : Int32)))).bind fun h4 =>
    (gI [3] 4 h4 l0).bind fun x5 =>
    (xp [3] 4 h4 l0 (.int (x5 - (1 : Int32)))).bind fun h6 =>
    (gR [3] 0 h6 l0).bind fun x7 =>
    (gI [3] 3 h6 l0).bind fun x8 =>
    (aR 4 h6 x7 x8).bind fun x9 =>
    (f_X0_become h6 l1 x9).bind fun q10 =>
    some ((1 : Int32), q10)
  else
    some ((0 : Int32), h)
set_option maxRecDepth 20000 in
theorem ev_X3_recall {G : xa_G} {h : xa_H} {l0 : Nat} {l1 : Nat} {r : (Int32 × xa_H)} (hf : f_X3_recall h l0 l1 = some r) : xa_Ev G M_X3_recall 2 [.ref l0, .ref l1] h (some (.int r.1)) r.2 := by
  refine xa_entry (by decide +kernel) (loc := [some (.ref l0), some (.ref l1)]) rfl (Nat.le_of_ble_eq_true rfl) ?_
  unfold f_X3_recall at hf
  obtain ⟨u0, eu0, hf⟩ := ob hf
  refine v_aload_n dX3_recall_0 rfl ?_
  obtain ⟨x1, ex1, hf⟩ := ob hf
  refine v_getI dX3_recall_1 fl_3_33 ex1 ?_
  refine v_if_gt dX3_recall_4 (tgt := 9) (by decide) (fun c2 => ?_) (fun c2 => ?_)
  · replace hf := (if_pos c2).symm.trans hf
    refine v_aload_n dX3_recall_9 rfl ?_
    refine v_aload_n dX3_recall_10 rfl ?_
    obtain ⟨x3, ex3, hf⟩ := ob hf
    refine v_getI dX3_recall_11 fl_3_29 ex3 ?_
    refine v_bipush dX3_recall_14 (by decide) (v := 40) ?_
    refine v_iadd dX3_recall_16 ?_
    refine v_iconst dX3_recall_17 (by decide) (v := 1) ?_
    refine v_isub dX3_recall_18 ?_
    refine v_bipush dX3_recall_19 (by decide) (v := 40) ?_
    refine w_irem dX3_recall_21 (by decide) ?_
    obtain ⟨h4, eh4, hf⟩ := ob hf
    refine v_put dX3_recall_22 fp_3_29 (fun z => by cases z) (fun _ => rfl) (fun _ => rfl) eh4 ?_
    refine v_aload_n dX3_recall_25 rfl ?_
    refine v_dup dX3_recall_26 rfl ?_
    obtain ⟨x5, ex5, hf⟩ := ob hf
    refine v_getI dX3_recall_27 fl_3_33 ex5 ?_
    refine v_iconst dX3_recall_30 (by decide) (v := 1) ?_
    refine v_isub dX3_recall_31 ?_
    obtain ⟨h6, eh6, hf⟩ := ob hf
    refine v_put dX3_recall_32 fp_3_33 (fun z => by cases z) (fun _ => rfl) (fun _ => rfl) eh6 ?_
    refine v_aload_n dX3_recall_35 rfl ?_
    refine v_aload_n dX3_recall_36 rfl ?_
    obtain ⟨x7, ex7, hf⟩ := ob hf
    refine v_getR dX3_recall_37 fl_3_11 ex7 ?_
    refine v_aload_n dX3_recall_40 rfl ?_
    obtain ⟨x8, ex8, hf⟩ := ob hf
    refine v_getI dX3_recall_41 fl_3_29 ex8 ?_
    obtain ⟨x9, ex9, hf⟩ := ob hf
    refine v_aaload dX3_recall_44 (t := 4) (by decide) ex9 ?_
    obtain ⟨q10, eq10, hf⟩ := ob hf
    refine v_callV dX3_recall_45 ⟨cb_X0_become, ml_3_40, im_X0_become⟩ se_0_X0_become (ckf_X0_become eq10) (ev_X0_become eq10) (by decide) (As := [.ref x9]) rfl (st := []) rfl (Nat.le_of_ble_eq_true rfl) rfl ?_
    refine v_iconst dX3_recall_48 (by decide) (v := 1) ?_
    replace hf := Option.some.inj hf
    subst hf
    exact v_zret dX3_recall_49 rfl (by decide)
  · replace hf := (if_neg c2).symm.trans hf
    refine v_iconst dX3_recall_7 (by decide) (v := 0) ?_
    replace hf := Option.some.inj hf
    subst hf
    exact v_zret dX3_recall_8 rfl (by decide)
theorem ckf_X3_recall {h : xa_H} {l0 : Nat} {l1 : Nat} {r : (Int32 × xa_H)} (hf : f_X3_recall h l0 l1 = some r) : ck [3] h l0 = some () := by
  obtain ⟨u, e, -⟩ := ob hf
  exact e
