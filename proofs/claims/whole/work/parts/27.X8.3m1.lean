def M_X8_read : xa_M := (yX8_read, cX8_read, 5, some .int)
theorem cb_X8_read : xa_CB M_X8_read 2 := ⟨gws_at 770 (by decide +kernel) rfl, gws_at 115 (by decide +kernel) rfl, by decide +kernel, Nat.le_of_ble_eq_true rfl⟩
def f_X8_read_b93 (h : xa_H) (l0 : Nat) : Option (Int32 × xa_H) :=
  (ck [8] h l0).bind fun u2 =>
  (f_X4_wrongAt h l0).bind fun q1 =>
  some (q1, h)
set_option maxRecDepth 20000 in
theorem e_X8_read_b93 {G : xa_G} : ∀ (h : xa_H) (l0 : Nat) (r : (Int32 × xa_H)), f_X8_read_b93 h l0 = some r → xa_V G M_X8_read 2 93 [some (.ref l0), none, none, none, none] [] h (some (.int r.1)) r.2 := by
  intro h l0 r hf
  unfold f_X8_read_b93 at hf
  refine v_aload_n dX8_read_93 rfl ?_
  obtain ⟨u2, eu2, hf⟩ := ob hf
  obtain ⟨q1, eq1, hf⟩ := ob hf
  refine v_callU dX8_read_94 ⟨cb_X4_wrongAt, ml_8_38, im_X4_wrongAt, sm2_8_X4_wrongAt, by decide +kernel, by decide +kernel, by decide +kernel, by decide +kernel⟩ se_8_X4_wrongAt_8 eu2 (ev_X4_wrongAt eq1) (by decide) (As := []) rfl (st := []) rfl (Nat.le_of_ble_eq_true rfl) rfl ?_
  replace hf := Option.some.inj hf
  subst hf
  exact v_iret dX8_read_97 rfl
def f_X8_read_b88 (h : xa_H) (l0 : Nat) : Option (Int32 × xa_H) :=
  (xp [8] 3 h l0 (.int (1 : Int32))).bind fun h1 =>
  f_X8_read_b93 h1 l0
set_option maxRecDepth 20000 in
theorem e_X8_read_b88 {G : xa_G} : ∀ (h : xa_H) (l0 : Nat) (r : (Int32 × xa_H)), f_X8_read_b88 h l0 = some r → xa_V G M_X8_read 2 88 [some (.ref l0), none, none, none, none] [] h (some (.int r.1)) r.2 := by
  intro h l0 r hf
  unfold f_X8_read_b88 at hf
  refine v_aload_n dX8_read_88 rfl ?_
  refine v_iconst dX8_read_89 (by decide) (v := 1) ?_
  obtain ⟨h1, eh1, hf⟩ := ob hf
  refine v_put dX8_read_90 fp_8_34 (fun z => by cases z) (fun _ => rfl) (fun _ => rfl) eh1 ?_
  exact e_X8_read_b93 h1 l0 r hf
def f_X8_read_b73 (h : xa_H) (l0 : Nat) : Option (Int32 × xa_H) :=
  (gI [8] 5 h l0).bind fun x1 =>
  if x1 = 0 then
    f_X8_read_b88 h l0
  else
    (ck [8] h l0).bind fun u4 =>
    (f_X4_peek h l0).bind fun q3 =>
    if q3.1 = (-1 : Int32) then
      f_X8_read_b93 q3.2 l0
    else
      f_X8_read_b88 q3.2 l0
set_option maxRecDepth 20000 in
theorem e_X8_read_b73 {G : xa_G} : ∀ (h : xa_H) (l0 : Nat) (r : (Int32 × xa_H)), f_X8_read_b73 h l0 = some r → xa_V G M_X8_read 2 73 [some (.ref l0), none, none, none, none] [] h (some (.int r.1)) r.2 := by
  intro h l0 r hf
  unfold f_X8_read_b73 at hf
  refine v_aload_n dX8_read_73 rfl ?_
  obtain ⟨x1, ex1, hf⟩ := ob hf
  refine v_getI dX8_read_74 fl_8_15 ex1 ?_
  refine v_if_eq dX8_read_77 (tgt := 88) (by decide) (fun c2 => ?_) (fun c2 => ?_)
  · replace hf := (if_pos c2).symm.trans hf
    exact e_X8_read_b88 h l0 r hf
  · replace hf := (if_neg c2).symm.trans hf
    refine v_aload_n dX8_read_80 rfl ?_
    obtain ⟨u4, eu4, hf⟩ := ob hf
    obtain ⟨q3, eq3, hf⟩ := ob hf
    refine v_callU dX8_read_81 ⟨cb_X4_peek, ml_8_23, im_X4_peek, sm2_8_X4_peek, by decide +kernel, by decide +kernel, by decide +kernel, by decide +kernel⟩ se_8_X4_peek_8 eu4 (ev_X4_peek eq3) (by decide) (As := []) rfl (st := []) rfl (Nat.le_of_ble_eq_true rfl) rfl ?_
    refine v_iconst dX8_read_84 (by decide) (v := -1) ?_
    refine v_icmp_eq dX8_read_85 (tgt := 93) (by decide) (fun c5 => ?_) (fun c5 => ?_)
    · replace hf := (if_pos c5).symm.trans hf
      exact e_X8_read_b93 q3.2 l0 r hf
    · replace hf := (if_neg c5).symm.trans hf
      exact e_X8_read_b88 q3.2 l0 r hf
def f_X8_read_b13 : Nat → xa_H → Nat → Int32 → Option (Int32 × xa_H)
  | 0, _, _, _ => none
  | n + 1, h, l0, l3 =>
    if (16 : Int32) ≤ l3 then
      f_X8_read_b73 h l0
    else
      (ck [8] h l0).bind fun u3 =>
      (f_X4_peek h l0).bind fun q2 =>
      (f_X4_isDigit q2.2 q2.1).bind fun q4 =>
      if q4 = 0 then
        f_X8_read_b73 q2.2 l0
      else
        (gR [8] 4 q2.2 l0).bind fun x6 =>
        (pI q2.2 x6 l3 (q2.1 - (48 : Int32))).bind fun h7 =>
        (gI [8] 2 h7 l0).bind fun x8 =>
        (xp [8] 2 h7 l0 (.int (x8 + (1 : Int32)))).bind fun h9 =>
        (gI [8] 5 h9 l0).bind fun x10 =>
        (xp [8] 5 h9 l0 (.int (x10 + (1 : Int32)))).bind fun h11 =>
        f_X8_read_b13 n h11 l0 (l3 + (1 : Int32))
set_option maxRecDepth 20000 in
theorem e_X8_read_b13 {G : xa_G} : ∀ (n : Nat) (h : xa_H) (l0 : Nat) (l3 : Int32) (r : (Int32 × xa_H)), f_X8_read_b13 n h l0 l3 = some r → xa_V G M_X8_read 2 13 [some (.ref l0), none, none, some (.int l3), none] [] h (some (.int r.1)) r.2 := by
  intro n
  induction n with
  | zero =>
    intro h l0 l3 r hf
    cases (show (none : Option (Int32 × xa_H)) = some r from hf)
  | succ n ih =>
    intro h l0 l3 r hf
    rw [f_X8_read_b13] at hf
    refine v_iload_n dX8_read_13 rfl ?_
    refine v_bipush dX8_read_14 (by decide) (v := 16) ?_
    refine v_icmp_ge dX8_read_16 (tgt := 73) (by decide) (fun c1 => ?_) (fun c1 => ?_)
    · replace hf := (if_pos c1).symm.trans hf
      exact xa_weak (loc := [some (.ref l0), none, none, none, none]) ⟨rfl, trivial⟩ (e_X8_read_b73 h l0 r hf)
    · replace hf := (if_neg c1).symm.trans hf
      refine v_aload_n dX8_read_19 rfl ?_
      obtain ⟨u3, eu3, hf⟩ := ob hf
      obtain ⟨q2, eq2, hf⟩ := ob hf
      refine v_callU dX8_read_20 ⟨cb_X4_peek, ml_8_23, im_X4_peek, sm2_8_X4_peek, by decide +kernel, by decide +kernel, by decide +kernel, by decide +kernel⟩ se_8_X4_peek_8 eu3 (ev_X4_peek eq2) (by decide) (As := []) rfl (st := []) rfl (Nat.le_of_ble_eq_true rfl) rfl ?_
      refine v_istore dX8_read_23 (Nat.le_of_ble_eq_true rfl) (loc' := [some (.ref l0), none, none, some (.int l3), some (.int q2.1)]) rfl ?_
      refine v_iload dX8_read_25 rfl ?_
      obtain ⟨q4, eq4, hf⟩ := ob hf
      refine v_callSU dX8_read_27 ⟨cb_X4_isDigit, ml_8_27, sm_X4_isDigit, sm2_8_X4_isDigit, by decide +kernel, by decide +kernel, by decide +kernel⟩ (ev_X4_isDigit eq4) (by decide) (As := [.int q2.1]) rfl (st := []) rfl (Nat.le_of_ble_eq_true rfl) rfl ?_
      refine v_if_ne dX8_read_30 (tgt := 36) (by decide) (fun c5 => ?_) (fun c5 => ?_)
      · replace hf := (if_neg c5).symm.trans hf
        refine v_aload_n dX8_read_36 rfl ?_
        obtain ⟨x6, ex6, hf⟩ := ob hf
        refine v_getR dX8_read_37 fl_8_9 ex6 ?_
        refine v_iload_n dX8_read_40 rfl ?_
        refine v_iload dX8_read_41 rfl ?_
        refine v_bipush dX8_read_43 (by decide) (v := 48) ?_
        refine v_isub dX8_read_45 ?_
        obtain ⟨h7, eh7, hf⟩ := ob hf
        refine v_iastoreI dX8_read_46 eh7 ?_
        refine v_aload_n dX8_read_47 rfl ?_
        refine v_dup dX8_read_48 rfl ?_
        obtain ⟨x8, ex8, hf⟩ := ob hf
        refine v_getI dX8_read_49 fl_8_31 ex8 ?_
        refine v_iconst dX8_read_52 (by decide) (v := 1) ?_
        refine v_iadd dX8_read_53 ?_
        obtain ⟨h9, eh9, hf⟩ := ob hf
        refine v_put dX8_read_54 fp_8_31 (fun z => by cases z) (fun _ => rfl) (fun _ => rfl) eh9 ?_
        refine v_aload_n dX8_read_57 rfl ?_
        refine v_dup dX8_read_58 rfl ?_
        obtain ⟨x10, ex10, hf⟩ := ob hf
        refine v_getI dX8_read_59 fl_8_15 ex10 ?_
        refine v_iconst dX8_read_62 (by decide) (v := 1) ?_
        refine v_iadd dX8_read_63 ?_
        obtain ⟨h11, eh11, hf⟩ := ob hf
        refine v_put dX8_read_64 fp_8_15 (fun z => by cases z) (fun _ => rfl) (fun _ => rfl) eh11 ?_
        refine v_iinc dX8_read_67 rfl (v := (l3 + (1 : Int32))) rfl (Nat.le_of_ble_eq_true rfl) (loc' := [some (.ref l0), none, none, some (.int (l3 + (1 : Int32))), some (.int q2.1)]) rfl ?_
        refine v_goto dX8_read_70 (tgt := 13) (by decide) ?_
        exact xa_weak (loc := [some (.ref l0), none, none, some (.int (l3 + (1 : Int32))), none]) ⟨rfl, ⟨rfl, trivial⟩⟩ (ih h11 l0 (l3 + (1 : Int32)) r hf)
      · replace hf := (if_pos c5).symm.trans hf
        refine v_goto dX8_read_33 (tgt := 73) (by decide) ?_
        exact xa_weak (loc := [some (.ref l0), none, none, none, none]) ⟨rfl, trivial⟩ (e_X8_read_b73 q2.2 l0 r hf)
def f_X8_read (h : xa_H) (l0 : Nat) (l1 : Nat) (l2 : Int32) : Option (Int32 × xa_H) :=
  (ck [8] h l0).bind fun _ =>
  (ck [8] h l0).bind fun u2 =>
  (f_X4_start h l0 l1 l2).bind fun q1 =>
  (xp [8] 5 q1 l0 (.int (0 : Int32))).bind fun h3 =>
  f_X8_read_b13 1048576 h3 l0 (0 : Int32)
set_option maxRecDepth 20000 in
theorem ev_X8_read {G : xa_G} {h : xa_H} {l0 : Nat} {l1 : Nat} {l2 : Int32} {r : (Int32 × xa_H)} (hf : f_X8_read h l0 l1 l2 = some r) : xa_Ev G M_X8_read 2 [.ref l0, .ref l1, .int l2] h (some (.int r.1)) r.2 := by
  refine xa_entry (by decide +kernel) (loc := [some (.ref l0), some (.ref l1), some (.int l2), none, none]) rfl (Nat.le_of_ble_eq_true rfl) ?_
  unfold f_X8_read at hf
  obtain ⟨u0, eu0, hf⟩ := ob hf
  refine v_aload_n dX8_read_0 rfl ?_
  refine v_aload_n dX8_read_1 rfl ?_
  refine v_iload_n dX8_read_2 rfl ?_
  obtain ⟨u2, eu2, hf⟩ := ob hf
  obtain ⟨q1, eq1, hf⟩ := ob hf
  refine v_callU dX8_read_3 ⟨cb_X4_start, ml_8_19, im_X4_start, sm2_8_X4_start, by decide +kernel, by decide +kernel, by decide +kernel, by decide +kernel⟩ se_8_X4_start_8 eu2 (ev_X4_start eq1) (by decide) (As := [.ref l1, .int l2]) rfl (st := []) rfl (Nat.le_of_ble_eq_true rfl) rfl ?_
  refine v_aload_n dX8_read_6 rfl ?_
  refine v_iconst dX8_read_7 (by decide) (v := 0) ?_
  obtain ⟨h3, eh3, hf⟩ := ob hf
  refine v_put dX8_read_8 fp_8_15 (fun z => by cases z) (fun _ => rfl) (fun _ => rfl) eh3 ?_
  refine v_iconst dX8_read_11 (by decide) (v := 0) ?_
  refine v_istore_n (i := 3) rfl dX8_read_12 (Nat.le_of_ble_eq_true rfl) (loc' := [some (.ref l0), some (.ref l1), some (.int l2), some (.int (0 : Int32)), none]) rfl ?_
  exact xa_weak (loc := [some (.ref l0), none, none, some (.int (0 : Int32)), none]) ⟨rfl, ⟨rfl, trivial⟩⟩ (e_X8_read_b13 1048576 h3 l0 (0 : Int32) r hf)
theorem ckf_X8_read {h : xa_H} {l0 : Nat} {l1 : Nat} {l2 : Int32} {r : (Int32 × xa_H)} (hf : f_X8_read h l0 l1 l2 = some r) : ck [8] h l0 = some () := by
  obtain ⟨u, e, -⟩ := ob hf
  exact e
def M_X8_init : xa_M := (yX8_init, cX8_init, 1, none)
theorem cb_X8_init : xa_CB M_X8_init 0 := ⟨gws_at 282 (by decide +kernel) rfl, gws_at 115 (by decide +kernel) rfl, by decide +kernel, Nat.le_of_ble_eq_true rfl⟩
def f_X8_init (h : xa_H) (l0 : Nat) : Option xa_H :=
  (ck [8] h l0).bind fun _ =>
  (f_X4_init h l0).bind fun q1 =>
  (nAI q1 (16 : Int32)).bind fun h2 =>
  (xp [8] 4 h2 l0 (.ref q1.2.1)).bind fun h3 =>
  (xp [8] 5 h3 l0 (.int (0 : Int32))).bind fun h4 =>
  some h4
set_option maxRecDepth 20000 in
theorem ev_X8_init {G : xa_G} {h : xa_H} {l0 : Nat} {r : xa_H} (hf : f_X8_init h l0 = some r) : xa_Ev G M_X8_init 2 [.ref l0] h none r := by
  refine xa_entry (by decide +kernel) (loc := [some (.ref l0)]) rfl (Nat.le_of_ble_eq_true rfl) ?_
  unfold f_X8_init at hf
  obtain ⟨u0, eu0, hf⟩ := ob hf
  refine v_aload_n dX8_init_0 rfl ?_
  obtain ⟨q1, eq1, hf⟩ := ob hf
  refine v_callIN dX8_init_1 ⟨cb_X4_init, mn_8_3, im_X4_init, rfl, rfl⟩ (ev_X4_init eq1) (by decide) (As := []) rfl (st := []) rfl (Nat.le_of_ble_eq_true rfl) rfl ?_
  refine v_aload_n dX8_init_4 rfl ?_
  refine v_bipush dX8_init_5 (by decide) (v := 16) ?_
  obtain ⟨h2, eh2, hf⟩ := ob hf
  refine w_newaI dX8_init_7 ac_int eh2 ?_
  obtain ⟨h3, eh3, hf⟩ := ob hf
  refine v_put dX8_init_9 fp_8_9 (fun _ => rfl) (fun _ => rfl) (fun _ => rfl) eh3 ?_
  refine v_aload_n dX8_init_12 rfl ?_
  refine v_iconst dX8_init_13 (by decide) (v := 0) ?_
  obtain ⟨h4, eh4, hf⟩ := ob hf
  refine v_put dX8_init_14 fp_8_15 (fun z => by cases z) (fun _ => rfl) (fun _ => rfl) eh4 ?_
  replace hf := Option.some.inj hf
  subst hf
  exact v_vret dX8_init_17 rfl
theorem ckf_X8_init {h : xa_H} {l0 : Nat} {r : xa_H} (hf : f_X8_init h l0 = some r) : ck [8] h l0 = some () := by
  obtain ⟨u, e, -⟩ := ob hf
  exact e
