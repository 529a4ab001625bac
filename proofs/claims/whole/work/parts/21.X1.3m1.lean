def M_X1_become : xa_M := (yX1_become, cX1_become, 2, none)
theorem cb_X1_become : xa_CB M_X1_become 1 := ⟨gws_at 1199 (by decide +kernel) rfl, gws_at 117 (by decide +kernel) rfl, by decide +kernel, Nat.le_of_ble_eq_true rfl⟩
def f_X1_become (h : xa_H) (l0 : Nat) (l1 : Nat) : Option xa_H :=
  (ck [1] h l0).bind fun _ =>
  (gR [1] 0 h l1).bind fun x1 =>
  (gR [1] 0 h l0).bind fun x2 =>
  (cpI h x1 (0 : Int32) x2 (0 : Int32) (128 : Int32)).bind fun h3 =>
  (gR [1] 1 h3 l1).bind fun x4 =>
  (gR [1] 1 h3 l0).bind fun x5 =>
  (cpI h3 x4 (0 : Int32) x5 (0 : Int32) (128 : Int32)).bind fun h6 =>
  (gR [1] 2 h6 l1).bind fun x7 =>
  (gR [1] 2 h6 l0).bind fun x8 =>
  (cpI h6 x7 (0 : Int32) x8 (0 : Int32) (128 : Int32)).bind fun h9 =>
  some h9
set_option maxRecDepth 20000 in
theorem ev_X1_become {G : xa_G} {h : xa_H} {l0 : Nat} {l1 : Nat} {r : xa_H} (hf : f_X1_become h l0 l1 = some r) : xa_Ev G M_X1_become 1 [.ref l0, .ref l1] h none r := by
  refine xa_entry (by decide +kernel) (loc := [some (.ref l0), some (.ref l1)]) rfl (Nat.le_of_ble_eq_true rfl) ?_
  unfold f_X1_become at hf
  obtain ⟨u0, eu0, hf⟩ := ob hf
  refine v_aload_n dX1_become_0 rfl ?_
  obtain ⟨x1, ex1, hf⟩ := ob hf
  refine v_getR dX1_become_1 fl_1_11 ex1 ?_
  refine v_iconst dX1_become_4 (by decide) (v := 0) ?_
  refine v_aload_n dX1_become_5 rfl ?_
  obtain ⟨x2, ex2, hf⟩ := ob hf
  refine v_getR dX1_become_6 fl_1_11 ex2 ?_
  refine v_iconst dX1_become_9 (by decide) (v := 0) ?_
  refine v_sipush dX1_become_10 (by decide) (v := 128) ?_
  obtain ⟨h3, eh3, hf⟩ := ob hf
  refine v_copy dX1_become_13 cw_1_21 (by decide) (Nat.le_of_ble_eq_true rfl) (by decide) eh3 ?_
  refine v_aload_n dX1_become_16 rfl ?_
  obtain ⟨x4, ex4, hf⟩ := ob hf
  refine v_getR dX1_become_17 fl_1_15 ex4 ?_
  refine v_iconst dX1_become_20 (by decide) (v := 0) ?_
  refine v_aload_n dX1_become_21 rfl ?_
  obtain ⟨x5, ex5, hf⟩ := ob hf
  refine v_getR dX1_become_22 fl_1_15 ex5 ?_
  refine v_iconst dX1_become_25 (by decide) (v := 0) ?_
  refine v_sipush dX1_become_26 (by decide) (v := 128) ?_
  obtain ⟨h6, eh6, hf⟩ := ob hf
  refine v_copy dX1_become_29 cw_1_21 (by decide) (Nat.le_of_ble_eq_true rfl) (by decide) eh6 ?_
  refine v_aload_n dX1_become_32 rfl ?_
  obtain ⟨x7, ex7, hf⟩ := ob hf
  refine v_getR dX1_become_33 fl_1_18 ex7 ?_
  refine v_iconst dX1_become_36 (by decide) (v := 0) ?_
  refine v_aload_n dX1_become_37 rfl ?_
  obtain ⟨x8, ex8, hf⟩ := ob hf
  refine v_getR dX1_become_38 fl_1_18 ex8 ?_
  refine v_iconst dX1_become_41 (by decide) (v := 0) ?_
  refine v_sipush dX1_become_42 (by decide) (v := 128) ?_
  obtain ⟨h9, eh9, hf⟩ := ob hf
  refine v_copy dX1_become_45 cw_1_21 (by decide) (Nat.le_of_ble_eq_true rfl) (by decide) eh9 ?_
  replace hf := Option.some.inj hf
  subst hf
  exact v_vret dX1_become_48 rfl
theorem ckf_X1_become {h : xa_H} {l0 : Nat} {l1 : Nat} {r : xa_H} (hf : f_X1_become h l0 l1 = some r) : ck [1] h l0 = some () := by
  obtain ⟨u, e, -⟩ := ob hf
  exact e
def M_X1_write : xa_M := (yX1_write, cX1_write, 6, none)
theorem cb_X1_write : xa_CB M_X1_write 4 := ⟨gws_at 926 (by decide +kernel) rfl, gws_at 117 (by decide +kernel) rfl, by decide +kernel, Nat.le_of_ble_eq_true rfl⟩
def f_X1_write_b38 (h : xa_H) (s0 : Int32) (s1 : Int32) (s2 : Nat) : Option xa_H :=
  (pI h s2 s1 s0).bind fun h1 =>
  some h1
set_option maxRecDepth 20000 in
theorem e_X1_write_b38 {G : xa_G} : ∀ (h : xa_H) (s0 : Int32) (s1 : Int32) (s2 : Nat) (r : xa_H), f_X1_write_b38 h s0 s1 s2 = some r → xa_V G M_X1_write 0 38 [none, none, none, none, none, none] [.int s0, .int s1, .ref s2] h none r := by
  intro h s0 s1 s2 r hf
  unfold f_X1_write_b38 at hf
  obtain ⟨h1, eh1, hf⟩ := ob hf
  refine v_iastoreI dX1_write_38 eh1 ?_
  replace hf := Option.some.inj hf
  subst hf
  exact v_vret dX1_write_39 rfl
def f_X1_write (h : xa_H) (l0 : Nat) (l1 : Int32) (l2 : Int32) (l3 : Int32) (l4 : Int32) : Option xa_H :=
  (ck [1] h l0).bind fun _ =>
  (gR [1] 0 h l0).bind fun x1 =>
  (pI h x1 (l1 &&& (127 : Int32)) l2).bind fun h2 =>
  (gR [1] 1 h2 l0).bind fun x3 =>
  (pI h2 x3 (l1 &&& (127 : Int32)) l3).bind fun h4 =>
  (gR [1] 2 h4 l0).bind fun x5 =>
  if l4 = 0 then
    f_X1_write_b38 h4 (0 : Int32) (l1 &&& (127 : Int32)) x5
  else
    f_X1_write_b38 h4 (1 : Int32) (l1 &&& (127 : Int32)) x5
set_option maxRecDepth 20000 in
theorem ev_X1_write {G : xa_G} {h : xa_H} {l0 : Nat} {l1 : Int32} {l2 : Int32} {l3 : Int32} {l4 : Int32} {r : xa_H} (hf : f_X1_write h l0 l1 l2 l3 l4 = some r) : xa_Ev G M_X1_write 0 [.ref l0, .int l1, .int l2, .int l3, .int l4] h none r := by
  refine xa_entry (by decide +kernel) (loc := [some (.ref l0), some (.int l1), some (.int l2), some (.int l3), some (.int l4), none]) rfl (Nat.le_of_ble_eq_true rfl) ?_
  unfold f_X1_write at hf
  obtain ⟨u0, eu0, hf⟩ := ob hf
  refine v_iload_n dX1_write_0 rfl ?_
  refine v_bipush dX1_write_1 (by decide) (v := 127) ?_
  refine v_iand dX1_write_3 ?_
  refine v_istore dX1_write_4 (Nat.le_of_ble_eq_true rfl) (loc' := [some (.ref l0), some (.int l1), some (.int l2), some (.int l3), some (.int l4), some (.int (l1 &&& (127 : Int32)))]) rfl ?_
  refine v_aload_n dX1_write_6 rfl ?_
  obtain ⟨x1, ex1, hf⟩ := ob hf
  refine v_getR dX1_write_7 fl_1_11 ex1 ?_
  refine v_iload dX1_write_10 rfl ?_
  refine v_iload_n dX1_write_12 rfl ?_
  obtain ⟨h2, eh2, hf⟩ := ob hf
  refine v_iastoreI dX1_write_13 eh2 ?_
  refine v_aload_n dX1_write_14 rfl ?_
  obtain ⟨x3, ex3, hf⟩ := ob hf
  refine v_getR dX1_write_15 fl_1_15 ex3 ?_
  refine v_iload dX1_write_18 rfl ?_
  refine v_iload_n dX1_write_20 rfl ?_
  obtain ⟨h4, eh4, hf⟩ := ob hf
  refine v_iastoreI dX1_write_21 eh4 ?_
  refine v_aload_n dX1_write_22 rfl ?_
  obtain ⟨x5, ex5, hf⟩ := ob hf
  refine v_getR dX1_write_23 fl_1_18 ex5 ?_
  refine v_iload dX1_write_26 rfl ?_
  refine v_iload dX1_write_28 rfl ?_
  refine v_if_eq dX1_write_30 (tgt := 37) (by decide) (fun c6 => ?_) (fun c6 => ?_)
  · replace hf := (if_pos c6).symm.trans hf
    refine v_iconst dX1_write_37 (by decide) (v := 0) ?_
    exact xa_weak (loc := [none, none, none, none, none, none]) trivial (e_X1_write_b38 h4 (0 : Int32) (l1 &&& (127 : Int32)) x5 r hf)
  · replace hf := (if_neg c6).symm.trans hf
    refine v_iconst dX1_write_33 (by decide) (v := 1) ?_
    refine v_goto dX1_write_34 (tgt := 38) (by decide) ?_
    exact xa_weak (loc := [none, none, none, none, none, none]) trivial (e_X1_write_b38 h4 (1 : Int32) (l1 &&& (127 : Int32)) x5 r hf)
theorem ckf_X1_write {h : xa_H} {l0 : Nat} {l1 : Int32} {l2 : Int32} {l3 : Int32} {l4 : Int32} {r : xa_H} (hf : f_X1_write h l0 l1 l2 l3 l4 = some r) : ck [1] h l0 = some () := by
  obtain ⟨u, e, -⟩ := ob hf
  exact e
def M_X1_init : xa_M := (yX1_init, cX1_init, 1, none)
theorem cb_X1_init : xa_CB M_X1_init 0 := ⟨gws_at 327 (by decide +kernel) rfl, gws_at 117 (by decide +kernel) rfl, by decide +kernel, Nat.le_of_ble_eq_true rfl⟩
def f_X1_init (h : xa_H) (l0 : Nat) : Option xa_H :=
  (ck [1] h l0).bind fun _ =>
  (nAI h (128 : Int32)).bind fun h1 =>
  (xp [1] 0 h1 l0 (.ref h.2.1)).bind fun h2 =>
  (nAI h2 (128 : Int32)).bind fun h3 =>
  (xp [1] 1 h3 l0 (.ref h2.2.1)).bind fun h4 =>
  (nAI h4 (128 : Int32)).bind fun h5 =>
  (xp [1] 2 h5 l0 (.ref h4.2.1)).bind fun h6 =>
  some h6
set_option maxRecDepth 20000 in
theorem ev_X1_init {G : xa_G} {h : xa_H} {l0 : Nat} {r : xa_H} (hf : f_X1_init h l0 = some r) : xa_Ev G M_X1_init 1 [.ref l0] h none r := by
  refine xa_entry (by decide +kernel) (loc := [some (.ref l0)]) rfl (Nat.le_of_ble_eq_true rfl) ?_
  unfold f_X1_init at hf
  obtain ⟨u0, eu0, hf⟩ := ob hf
  refine v_aload_n dX1_init_0 rfl ?_
  refine v_objInit dX1_init_1 oi_1_3 (by decide) (Nat.le_of_ble_eq_true rfl) ?_
  refine v_aload_n dX1_init_4 rfl ?_
  refine v_sipush dX1_init_5 (by decide) (v := 128) ?_
  obtain ⟨h1, eh1, hf⟩ := ob hf
  refine w_newaI dX1_init_8 ac_int eh1 ?_
  obtain ⟨h2, eh2, hf⟩ := ob hf
  refine v_put dX1_init_10 fp_1_11 (fun _ => rfl) (fun _ => rfl) (fun _ => rfl) eh2 ?_
  refine v_aload_n dX1_init_13 rfl ?_
  refine v_sipush dX1_init_14 (by decide) (v := 128) ?_
  obtain ⟨h3, eh3, hf⟩ := ob hf
  refine w_newaI dX1_init_17 ac_int eh3 ?_
  obtain ⟨h4, eh4, hf⟩ := ob hf
  refine v_put dX1_init_19 fp_1_15 (fun _ => rfl) (fun _ => rfl) (fun _ => rfl) eh4 ?_
  refine v_aload_n dX1_init_22 rfl ?_
  refine v_sipush dX1_init_23 (by decide) (v := 128) ?_
  obtain ⟨h5, eh5, hf⟩ := ob hf
  refine w_newaI dX1_init_26 ac_int eh5 ?_
  obtain ⟨h6, eh6, hf⟩ := ob hf
  refine v_put dX1_init_28 fp_1_18 (fun _ => rfl) (fun _ => rfl) (fun _ => rfl) eh6 ?_
  replace hf := Option.some.inj hf
  subst hf
  exact v_vret dX1_init_31 rfl
theorem ckf_X1_init {h : xa_H} {l0 : Nat} {r : xa_H} (hf : f_X1_init h l0 = some r) : ck [1] h l0 = some () := by
  obtain ⟨u, e, -⟩ := ob hf
  exact e
def M_X1_told : xa_M := (yX1_told, cX1_told, 4, some .int)
theorem cb_X1_told : xa_CB M_X1_told 2 := ⟨gws_at 987 (by decide +kernel) rfl, gws_at 117 (by decide +kernel) rfl, by decide +kernel, Nat.le_of_ble_eq_true rfl⟩
def f_X1_told (h : xa_H) (l0 : Nat) (l1 : Int32) (l2 : Int32) : Option Int32 :=
  (ck [1] h l0).bind fun _ =>
  if l2 = (0 : Int32) then
    (gR [1] 0 h l0).bind fun x2 =>
    (aI h x2 (l1 &&& (127 : Int32))).bind fun x3 =>
    some x3
  else if l2 = (1 : Int32) then
    (gR [1] 1 h l0).bind fun x5 =>
    (aI h x5 (l1 &&& (127 : Int32))).bind fun x6 =>
    some x6
  else if l2 = (2 : Int32) then
    (gR [1] 2 h l0).bind fun x8 =>
    (aI h x8 (l1 &&& (127 : Int32))).bind fun x9 =>
    some x9
  else 
    some (-1 : Int32)
set_option maxRecDepth 20000 in
theorem ev_X1_told {G : xa_G} {h : xa_H} {l0 : Nat} {l1 : Int32} {l2 : Int32} {r : Int32} (hf : f_X1_told h l0 l1 l2 = some r) : xa_Ev G M_X1_told 0 [.ref l0, .int l1, .int l2] h (some (.int r)) h := by
  refine xa_entry (by decide +kernel) (loc := [some (.ref l0), some (.int l1), some (.int l2), none]) rfl (Nat.le_of_ble_eq_true rfl) ?_
  unfold f_X1_told at hf
  obtain ⟨u0, eu0, hf⟩ := ob hf
  refine v_iload_n dX1_told_0 rfl ?_
  refine v_bipush dX1_told_1 (by decide) (v := 127) ?_
  refine v_iand dX1_told_3 ?_
  refine v_istore_n (i := 3) rfl dX1_told_4 (Nat.le_of_ble_eq_true rfl) (loc' := [some (.ref l0), some (.int l1), some (.int l2), some (.int (l1 &&& (127 : Int32)))]) rfl ?_
  refine v_iload_n dX1_told_5 rfl ?_
  by_cases c1 : l2 = (0 : Int32)
  · replace hf := (if_pos c1).symm.trans hf
    refine v_tabIn dX1_told_6 (0 : Int32) c1 (by decide) (by decide) (off := 26) rfl (tgt := 32) (by decide) ?_
    refine v_aload_n dX1_told_32 rfl ?_
    obtain ⟨x2, ex2, hf⟩ := ob hf
    refine v_getR dX1_told_33 fl_1_11 ex2 ?_
    refine v_iload_n dX1_told_36 rfl ?_
    obtain ⟨x3, ex3, hf⟩ := ob hf
    refine v_ialoadI dX1_told_37 ex3 ?_
    replace hf := Option.some.inj hf
    subst hf
    exact v_iret dX1_told_38 rfl
  replace hf := (if_neg c1).symm.trans hf
  by_cases c4 : l2 = (1 : Int32)
  · replace hf := (if_pos c4).symm.trans hf
    refine v_tabIn dX1_told_6 (1 : Int32) c4 (by decide) (by decide) (off := 33) rfl (tgt := 39) (by decide) ?_
    refine v_aload_n dX1_told_39 rfl ?_
    obtain ⟨x5, ex5, hf⟩ := ob hf
    refine v_getR dX1_told_40 fl_1_15 ex5 ?_
    refine v_iload_n dX1_told_43 rfl ?_
    obtain ⟨x6, ex6, hf⟩ := ob hf
    refine v_ialoadI dX1_told_44 ex6 ?_
    replace hf := Option.some.inj hf
    subst hf
    exact v_iret dX1_told_45 rfl
  replace hf := (if_neg c4).symm.trans hf
  by_cases c7 : l2 = (2 : Int32)
  · replace hf := (if_pos c7).symm.trans hf
    refine v_tabIn dX1_told_6 (2 : Int32) c7 (by decide) (by decide) (off := 40) rfl (tgt := 46) (by decide) ?_
    refine v_aload_n dX1_told_46 rfl ?_
    obtain ⟨x8, ex8, hf⟩ := ob hf
    refine v_getR dX1_told_47 fl_1_18 ex8 ?_
    refine v_iload_n dX1_told_50 rfl ?_
    obtain ⟨x9, ex9, hf⟩ := ob hf
    refine v_ialoadI dX1_told_51 ex9 ?_
    replace hf := Option.some.inj hf
    subst hf
    exact v_iret dX1_told_52 rfl
  replace hf := (if_neg c7).symm.trans hf
  refine v_tabOut dX1_told_6 (by have zc1 := tsx (n := 0) (by decide) c1; have zc4 := tsx (n := 1) (by decide) c4; have zc7 := tsx (n := 2) (by decide) c7; omega) (tgt := 53) (by decide) ?_
  refine v_iconst dX1_told_53 (by decide) (v := -1) ?_
  replace hf := Option.some.inj hf
  subst hf
  exact v_iret dX1_told_54 rfl
theorem ckf_X1_told {h : xa_H} {l0 : Nat} {l1 : Int32} {l2 : Int32} {r : Int32} (hf : f_X1_told h l0 l1 l2 = some r) : ck [1] h l0 = some () := by
  obtain ⟨u, e, -⟩ := ob hf
  exact e
