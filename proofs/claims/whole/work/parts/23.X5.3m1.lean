def M_X5_has : xa_M := (yX5_has, cX5_has, 2, some .boolean)
theorem cb_X5_has : xa_CB M_X5_has 1 := ⟨gws_at 824 (by decide +kernel) rfl, gws_at 116 (by decide +kernel) rfl, by decide +kernel, Nat.le_of_ble_eq_true rfl⟩
def f_X5_has (h : xa_H) (l0 : Nat) (l1 : Int32) : Option Int32 :=
  (ck [5] h l0).bind fun _ =>
  if l1 < 0 then
    some (0 : Int32)
  else
    (gI [5] 3 h l0).bind fun x2 =>
    if x2 ≤ l1 then
      some (0 : Int32)
    else
      some (1 : Int32)
set_option maxRecDepth 20000 in
theorem ev_X5_has {G : xa_G} {h : xa_H} {l0 : Nat} {l1 : Int32} {r : Int32} (hf : f_X5_has h l0 l1 = some r) : xa_Ev G M_X5_has 0 [.ref l0, .int l1] h (some (.int r)) h := by
  refine xa_entry (by decide +kernel) (loc := [some (.ref l0), some (.int l1)]) rfl (Nat.le_of_ble_eq_true rfl) ?_
  unfold f_X5_has at hf
  obtain ⟨u0, eu0, hf⟩ := ob hf
  refine v_iload_n dX5_has_0 rfl ?_
  refine v_if_lt dX5_has_1 (tgt := 16) (by decide) (fun c1 => ?_) (fun c1 => ?_)
  · replace hf := (if_pos c1).symm.trans hf
    refine v_iconst dX5_has_16 (by decide) (v := 0) ?_
    replace hf := Option.some.inj hf
    subst hf
    exact v_zret dX5_has_17 rfl (by decide)
  · replace hf := (if_neg c1).symm.trans hf
    refine v_iload_n dX5_has_4 rfl ?_
    refine v_aload_n dX5_has_5 rfl ?_
    obtain ⟨x2, ex2, hf⟩ := ob hf
    refine v_getI dX5_has_6 fl_5_15 ex2 ?_
    refine v_icmp_ge dX5_has_9 (tgt := 16) (by decide) (fun c3 => ?_) (fun c3 => ?_)
    · replace hf := (if_pos c3).symm.trans hf
      refine v_iconst dX5_has_16 (by decide) (v := 0) ?_
      replace hf := Option.some.inj hf
      subst hf
      exact v_zret dX5_has_17 rfl (by decide)
    · replace hf := (if_neg c3).symm.trans hf
      refine v_iconst dX5_has_12 (by decide) (v := 1) ?_
      refine v_goto dX5_has_13 (tgt := 17) (by decide) ?_
      replace hf := Option.some.inj hf
      subst hf
      exact v_zret dX5_has_17 rfl (by decide)
theorem ckf_X5_has {h : xa_H} {l0 : Nat} {l1 : Int32} {r : Int32} (hf : f_X5_has h l0 l1 = some r) : ck [5] h l0 = some () := by
  obtain ⟨u, e, -⟩ := ob hf
  exact e
def M_X5_init : xa_M := (yX5_init, cX5_init, 2, none)
theorem cb_X5_init : xa_CB M_X5_init 1 := ⟨gws_at 301 (by decide +kernel) rfl, gws_at 116 (by decide +kernel) rfl, by decide +kernel, Nat.le_of_ble_eq_true rfl⟩
def f_X5_init (h : xa_H) (l0 : Nat) (l1 : Int32) : Option xa_H :=
  (ck [5] h l0).bind fun _ =>
  (nAI h (4 : Int32)).bind fun h1 =>
  (xp [5] 1 h1 l0 (.ref h.2.1)).bind fun h2 =>
  (xp [5] 3 h2 l0 (.int (0 : Int32))).bind fun h3 =>
  (xp [5] 2 h3 l0 (.int l1)).bind fun h4 =>
  (nM h4 (4 : Int32) l1).bind fun h5 =>
  (xp [5] 0 h5 l0 (.ref h4.2.1)).bind fun h6 =>
  some h6
set_option maxRecDepth 20000 in
theorem ev_X5_init {G : xa_G} {h : xa_H} {l0 : Nat} {l1 : Int32} {r : xa_H} (hf : f_X5_init h l0 l1 = some r) : xa_Ev G M_X5_init 1 [.ref l0, .int l1] h none r := by
  refine xa_entry (by decide +kernel) (loc := [some (.ref l0), some (.int l1)]) rfl (Nat.le_of_ble_eq_true rfl) ?_
  unfold f_X5_init at hf
  obtain ⟨u0, eu0, hf⟩ := ob hf
  refine v_aload_n dX5_init_0 rfl ?_
  refine v_objInit dX5_init_1 oi_5_3 (by decide) (Nat.le_of_ble_eq_true rfl) ?_
  refine v_aload_n dX5_init_4 rfl ?_
  refine v_iconst dX5_init_5 (by decide) (v := 4) ?_
  obtain ⟨h1, eh1, hf⟩ := ob hf
  refine w_newaI dX5_init_6 ac_int eh1 ?_
  obtain ⟨h2, eh2, hf⟩ := ob hf
  refine v_put dX5_init_8 fp_5_9 (fun _ => rfl) (fun _ => rfl) (fun _ => rfl) eh2 ?_
  refine v_aload_n dX5_init_11 rfl ?_
  refine v_iconst dX5_init_12 (by decide) (v := 0) ?_
  obtain ⟨h3, eh3, hf⟩ := ob hf
  refine v_put dX5_init_13 fp_5_15 (fun z => by cases z) (fun _ => rfl) (fun _ => rfl) eh3 ?_
  refine v_aload_n dX5_init_16 rfl ?_
  refine v_iload_n dX5_init_17 rfl ?_
  obtain ⟨h4, eh4, hf⟩ := ob hf
  refine v_put dX5_init_18 fp_5_19 (fun _ => rfl) (fun _ => rfl) (fun _ => rfl) eh4 ?_
  refine v_aload_n dX5_init_21 rfl ?_
  refine v_iconst dX5_init_22 (by decide) (v := 4) ?_
  refine v_iload_n dX5_init_23 rfl ?_
  obtain ⟨h5, eh5, hf⟩ := ob hf
  refine v_mna dX5_init_24 ⟨kl_5_22, ac_int⟩ eh5 ?_
  obtain ⟨h6, eh6, hf⟩ := ob hf
  refine v_put dX5_init_28 fp_5_24 (fun _ => rfl) (fun _ => rfl) (fun _ => rfl) eh6 ?_
  replace hf := Option.some.inj hf
  subst hf
  exact v_vret dX5_init_31 rfl
theorem ckf_X5_init {h : xa_H} {l0 : Nat} {l1 : Int32} {r : xa_H} (hf : f_X5_init h l0 l1 = some r) : ck [5] h l0 = some () := by
  obtain ⟨u, e, -⟩ := ob hf
  exact e
def M_X5_put : xa_M := (yX5_put, cX5_put, 3, some .int)
theorem cb_X5_put : xa_CB M_X5_put 2 := ⟨gws_at 805 (by decide +kernel) rfl, gws_at 116 (by decide +kernel) rfl, by decide +kernel, Nat.le_of_ble_eq_true rfl⟩
def f_X5_put (h : xa_H) (l0 : Nat) (l1 : Nat) (l2 : Int32) : Option (Int32 × xa_H) :=
  (ck [5] h l0).bind fun _ =>
  (gI [5] 3 h l0).bind fun x1 =>
  if (4 : Int32) ≤ x1 then
    some ((-1 : Int32), h)
  else
    if l2 < 0 then
      some ((-1 : Int32), h)
    else
      (gI [5] 2 h l0).bind fun x4 =>
      if x4 < l2 then
        some ((-1 : Int32), h)
      else
        (aN h l1).bind fun x6 =>
        if l2 ≤ x6 then
          (gR [5] 0 h l0).bind fun x8 =>
          (gI [5] 3 h l0).bind fun x9 =>
          (aR 5 h x8 x9).bind fun x10 =>
          (cpI h l1 (0 : Int32) x10 (0 : Int32) l2).bind fun h11 =>
          (gR [5] 1 h11 l0).bind fun x12 =>
          (gI [5] 3 h11 l0).bind fun x13 =>
          (pI h11 x12 x13 l2).bind fun h14 =>
          (gI [5] 3 h14 l0).bind fun x15 =>
          (xp [5] 3 h14 l0 (.int (x15 + (1 : Int32)))).bind fun h16 =>
          (gI [5] 3 h16 l0).bind fun x17 =>
          some ((x17 - (1 : Int32)), h16)
        else
          some ((-1 : Int32), h)
set_option maxRecDepth 20000 in
theorem ev_X5_put {G : xa_G} {h : xa_H} {l0 : Nat} {l1 : Nat} {l2 : Int32} {r : (Int32 × xa_H)} (hf : f_X5_put h l0 l1 l2 = some r) : xa_Ev G M_X5_put 1 [.ref l0, .ref l1, .int l2] h (some (.int r.1)) r.2 := by
  refine xa_entry (by decide +kernel) (loc := [some (.ref l0), some (.ref l1), some (.int l2)]) rfl (Nat.le_of_ble_eq_true rfl) ?_
  unfold f_X5_put at hf
  obtain ⟨u0, eu0, hf⟩ := ob hf
  refine v_aload_n dX5_put_0 rfl ?_
  obtain ⟨x1, ex1, hf⟩ := ob hf
  refine v_getI dX5_put_1 fl_5_15 ex1 ?_
  refine v_iconst dX5_put_4 (by decide) (v := 4) ?_
  refine v_icmp_ge dX5_put_5 (tgt := 26) (by decide) (fun c2 => ?_) (fun c2 => ?_)
  · replace hf := (if_pos c2).symm.trans hf
    refine v_iconst dX5_put_26 (by decide) (v := -1) ?_
    replace hf := Option.some.inj hf
    subst hf
    exact v_iret dX5_put_27 rfl
  · replace hf := (if_neg c2).symm.trans hf
    refine v_iload_n dX5_put_8 rfl ?_
    refine v_if_lt dX5_put_9 (tgt := 26) (by decide) (fun c3 => ?_) (fun c3 => ?_)
    · replace hf := (if_pos c3).symm.trans hf
      refine v_iconst dX5_put_26 (by decide) (v := -1) ?_
      replace hf := Option.some.inj hf
      subst hf
      exact v_iret dX5_put_27 rfl
    · replace hf := (if_neg c3).symm.trans hf
      refine v_iload_n dX5_put_12 rfl ?_
      refine v_aload_n dX5_put_13 rfl ?_
      obtain ⟨x4, ex4, hf⟩ := ob hf
      refine v_getI dX5_put_14 fl_5_19 ex4 ?_
      refine v_icmp_gt dX5_put_17 (tgt := 26) (by decide) (fun c5 => ?_) (fun c5 => ?_)
      · replace hf := (if_pos c5).symm.trans hf
        refine v_iconst dX5_put_26 (by decide) (v := -1) ?_
        replace hf := Option.some.inj hf
        subst hf
        exact v_iret dX5_put_27 rfl
      · replace hf := (if_neg c5).symm.trans hf
        refine v_iload_n dX5_put_20 rfl ?_
        refine v_aload_n dX5_put_21 rfl ?_
        obtain ⟨x6, ex6, hf⟩ := ob hf
        refine v_alen dX5_put_22 ex6 ?_
        refine v_icmp_le dX5_put_23 (tgt := 28) (by decide) (fun c7 => ?_) (fun c7 => ?_)
        · replace hf := (if_pos c7).symm.trans hf
          refine v_aload_n dX5_put_28 rfl ?_
          refine v_iconst dX5_put_29 (by decide) (v := 0) ?_
          refine v_aload_n dX5_put_30 rfl ?_
          obtain ⟨x8, ex8, hf⟩ := ob hf
          refine v_getR dX5_put_31 fl_5_24 ex8 ?_
          refine v_aload_n dX5_put_34 rfl ?_
          obtain ⟨x9, ex9, hf⟩ := ob hf
          refine v_getI dX5_put_35 fl_5_15 ex9 ?_
          obtain ⟨x10, ex10, hf⟩ := ob hf
          refine v_aaload dX5_put_38 (t := 5) (by decide) ex10 ?_
          refine v_iconst dX5_put_39 (by decide) (v := 0) ?_
          refine v_iload_n dX5_put_40 rfl ?_
          obtain ⟨h11, eh11, hf⟩ := ob hf
          refine v_copy dX5_put_41 cw_5_27 (by decide) (Nat.le_of_ble_eq_true rfl) (by decide) eh11 ?_
          refine v_aload_n dX5_put_44 rfl ?_
          obtain ⟨x12, ex12, hf⟩ := ob hf
          refine v_getR dX5_put_45 fl_5_9 ex12 ?_
          refine v_aload_n dX5_put_48 rfl ?_
          obtain ⟨x13, ex13, hf⟩ := ob hf
          refine v_getI dX5_put_49 fl_5_15 ex13 ?_
          refine v_iload_n dX5_put_52 rfl ?_
          obtain ⟨h14, eh14, hf⟩ := ob hf
          refine v_iastoreI dX5_put_53 eh14 ?_
          refine v_aload_n dX5_put_54 rfl ?_
          refine v_dup dX5_put_55 rfl ?_
          obtain ⟨x15, ex15, hf⟩ := ob hf
          refine v_getI dX5_put_56 fl_5_15 ex15 ?_
          refine v_iconst dX5_put_59 (by decide) (v := 1) ?_
          refine v_iadd dX5_put_60 ?_
          obtain ⟨h16, eh16, hf⟩ := ob hf
          refine v_put dX5_put_61 fp_5_15 (fun z => by cases z) (fun _ => rfl) (fun _ => rfl) eh16 ?_
          refine v_aload_n dX5_put_64 rfl ?_
          obtain ⟨x17, ex17, hf⟩ := ob hf
          refine v_getI dX5_put_65 fl_5_15 ex17 ?_
          refine v_iconst dX5_put_68 (by decide) (v := 1) ?_
          refine v_isub dX5_put_69 ?_
          replace hf := Option.some.inj hf
          subst hf
          exact v_iret dX5_put_70 rfl
        · replace hf := (if_neg c7).symm.trans hf
          refine v_iconst dX5_put_26 (by decide) (v := -1) ?_
          replace hf := Option.some.inj hf
          subst hf
          exact v_iret dX5_put_27 rfl
theorem ckf_X5_put {h : xa_H} {l0 : Nat} {l1 : Nat} {l2 : Int32} {r : (Int32 × xa_H)} (hf : f_X5_put h l0 l1 l2 = some r) : ck [5] h l0 = some () := by
  obtain ⟨u, e, -⟩ := ob hf
  exact e
