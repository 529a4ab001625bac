def M_X4_peek : xa_M := (yX4_peek, cX4_peek, 1, some .int)
theorem cb_X4_peek : xa_CB M_X4_peek 0 := ⟨gws_at 583 (by decide +kernel) rfl, gws_at 110 (by decide +kernel) rfl, by decide +kernel, Nat.le_of_ble_eq_true rfl⟩
def f_X4_peek_b47 (h : xa_H) (l0 : Nat) : Option (Int32 × xa_H) :=
  (gI [2, 8, 9] 2 h l0).bind fun x1 =>
  (gI [2, 8, 9] 1 h l0).bind fun x2 =>
  if x2 ≤ x1 then
    some ((-1 : Int32), h)
  else
    (gR [2, 8, 9] 0 h l0).bind fun x4 =>
    (gI [2, 8, 9] 2 h l0).bind fun x5 =>
    (aI h x4 x5).bind fun x6 =>
    some (x6, h)
set_option maxRecDepth 20000 in
theorem e_X4_peek_b47 {G : xa_G} : ∀ (h : xa_H) (l0 : Nat) (r : (Int32 × xa_H)), f_X4_peek_b47 h l0 = some r → xa_V G M_X4_peek 0 47 [some (.ref l0)] [] h (some (.int r.1)) r.2 := by
  intro h l0 r hf
  unfold f_X4_peek_b47 at hf
  refine v_aload_n dX4_peek_47 rfl ?_
  obtain ⟨x1, ex1, hf⟩ := ob hf
  refine v_getI dX4_peek_48 fl_4_19 ex1 ?_
  refine v_aload_n dX4_peek_51 rfl ?_
  obtain ⟨x2, ex2, hf⟩ := ob hf
  refine v_getI dX4_peek_52 fl_4_15 ex2 ?_
  refine v_icmp_ge dX4_peek_55 (tgt := 70) (by decide) (fun c3 => ?_) (fun c3 => ?_)
  · replace hf := (if_pos c3).symm.trans hf
    refine v_iconst dX4_peek_70 (by decide) (v := -1) ?_
    replace hf := Option.some.inj hf
    subst hf
    exact v_iret dX4_peek_71 rfl
  · replace hf := (if_neg c3).symm.trans hf
    refine v_aload_n dX4_peek_58 rfl ?_
    obtain ⟨x4, ex4, hf⟩ := ob hf
    refine v_getR dX4_peek_59 fl_4_9 ex4 ?_
    refine v_aload_n dX4_peek_62 rfl ?_
    obtain ⟨x5, ex5, hf⟩ := ob hf
    refine v_getI dX4_peek_63 fl_4_19 ex5 ?_
    obtain ⟨x6, ex6, hf⟩ := ob hf
    refine v_ialoadI dX4_peek_66 ex6 ?_
    refine v_goto dX4_peek_67 (tgt := 71) (by decide) ?_
    replace hf := Option.some.inj hf
    subst hf
    exact v_iret dX4_peek_71 rfl
def f_X4_peek_b9 : Nat → xa_H → Nat → Option (Int32 × xa_H)
  | 0, _, _ => none
  | n + 1, h, l0 =>
    (gI [2, 8, 9] 2 h l0).bind fun x1 =>
    (gI [2, 8, 9] 1 h l0).bind fun x2 =>
    if x2 ≤ x1 then
      f_X4_peek_b47 h l0
    else
      (gR [2, 8, 9] 0 h l0).bind fun x4 =>
      (gI [2, 8, 9] 2 h l0).bind fun x5 =>
      (aI h x4 x5).bind fun x6 =>
      if x6 = (32 : Int32) then
        (gI [2, 8, 9] 2 h l0).bind fun x8 =>
        (xp [2, 8, 9] 2 h l0 (.int (x8 + (1 : Int32)))).bind fun h9 =>
        f_X4_peek_b9 n h9 l0
      else
        f_X4_peek_b47 h l0
set_option maxRecDepth 20000 in
theorem e_X4_peek_b9 {G : xa_G} : ∀ (n : Nat) (h : xa_H) (l0 : Nat) (r : (Int32 × xa_H)), f_X4_peek_b9 n h l0 = some r → xa_V G M_X4_peek 0 9 [some (.ref l0)] [] h (some (.int r.1)) r.2 := by
  intro n
  induction n with
  | zero =>
    intro h l0 r hf
    cases (show (none : Option (Int32 × xa_H)) = some r from hf)
  | succ n ih =>
    intro h l0 r hf
    rw [f_X4_peek_b9] at hf
    refine v_aload_n dX4_peek_9 rfl ?_
    obtain ⟨x1, ex1, hf⟩ := ob hf
    refine v_getI dX4_peek_10 fl_4_19 ex1 ?_
    refine v_aload_n dX4_peek_13 rfl ?_
    obtain ⟨x2, ex2, hf⟩ := ob hf
    refine v_getI dX4_peek_14 fl_4_15 ex2 ?_
    refine v_icmp_ge dX4_peek_17 (tgt := 47) (by decide) (fun c3 => ?_) (fun c3 => ?_)
    · replace hf := (if_pos c3).symm.trans hf
      exact e_X4_peek_b47 h l0 r hf
    · replace hf := (if_neg c3).symm.trans hf
      refine v_aload_n dX4_peek_20 rfl ?_
      obtain ⟨x4, ex4, hf⟩ := ob hf
      refine v_getR dX4_peek_21 fl_4_9 ex4 ?_
      refine v_aload_n dX4_peek_24 rfl ?_
      obtain ⟨x5, ex5, hf⟩ := ob hf
      refine v_getI dX4_peek_25 fl_4_19 ex5 ?_
      obtain ⟨x6, ex6, hf⟩ := ob hf
      refine v_ialoadI dX4_peek_28 ex6 ?_
      refine v_bipush dX4_peek_29 (by decide) (v := 32) ?_
      refine v_icmp_ne dX4_peek_31 (tgt := 47) (by decide) (fun c7 => ?_) (fun c7 => ?_)
      · replace hf := (if_neg c7).symm.trans hf
        exact e_X4_peek_b47 h l0 r hf
      · replace hf := (if_pos c7).symm.trans hf
        refine v_aload_n dX4_peek_34 rfl ?_
        refine v_dup dX4_peek_35 rfl ?_
        obtain ⟨x8, ex8, hf⟩ := ob hf
        refine v_getI dX4_peek_36 fl_4_19 ex8 ?_
        refine v_iconst dX4_peek_39 (by decide) (v := 1) ?_
        refine v_iadd dX4_peek_40 ?_
        obtain ⟨h9, eh9, hf⟩ := ob hf
        refine v_put dX4_peek_41 fp_4_19 (fun z => by cases z) (fun _ => rfl) (fun _ => rfl) eh9 ?_
        refine v_goto dX4_peek_44 (tgt := 9) (by decide) ?_
        exact ih h9 l0 r hf
def f_X4_peek (h : xa_H) (l0 : Nat) : Option (Int32 × xa_H) :=
  (ck [2, 8, 9] h l0).bind fun _ =>
  (gI [2, 8, 9] 3 h l0).bind fun x1 =>
  if x1 = 0 then
    f_X4_peek_b9 1048576 h l0
  else
    some ((-1 : Int32), h)
set_option maxRecDepth 20000 in
theorem ev_X4_peek {G : xa_G} {h : xa_H} {l0 : Nat} {r : (Int32 × xa_H)} (hf : f_X4_peek h l0 = some r) : xa_Ev G M_X4_peek 0 [.ref l0] h (some (.int r.1)) r.2 := by
  refine xa_entry (by decide +kernel) (loc := [some (.ref l0)]) rfl (Nat.le_of_ble_eq_true rfl) ?_
  unfold f_X4_peek at hf
  obtain ⟨u0, eu0, hf⟩ := ob hf
  refine v_aload_n dX4_peek_0 rfl ?_
  obtain ⟨x1, ex1, hf⟩ := ob hf
  refine v_getI dX4_peek_1 fl_4_22 ex1 ?_
  refine v_if_eq dX4_peek_4 (tgt := 9) (by decide) (fun c2 => ?_) (fun c2 => ?_)
  · replace hf := (if_pos c2).symm.trans hf
    exact e_X4_peek_b9 1048576 h l0 r hf
  · replace hf := (if_neg c2).symm.trans hf
    refine v_iconst dX4_peek_7 (by decide) (v := -1) ?_
    replace hf := Option.some.inj hf
    subst hf
    exact v_iret dX4_peek_8 rfl
theorem ckf_X4_peek {h : xa_H} {l0 : Nat} {r : (Int32 × xa_H)} (hf : f_X4_peek h l0 = some r) : ck [2, 8, 9] h l0 = some () := by
  obtain ⟨u, e, -⟩ := ob hf
  exact e
def M_X4_need : xa_M := (yX4_need, cX4_need, 2, none)
theorem cb_X4_need : xa_CB M_X4_need 1 := ⟨gws_at 707 (by decide +kernel) rfl, gws_at 110 (by decide +kernel) rfl, by decide +kernel, Nat.le_of_ble_eq_true rfl⟩
def f_X4_need (h : xa_H) (l0 : Nat) (l1 : Int32) : Option xa_H :=
  (ck [2, 8, 9] h l0).bind fun _ =>
  (f_X4_peek h l0).bind fun q1 =>
  if q1.1 = l1 then
    (gI [2, 8, 9] 2 q1.2 l0).bind fun x4 =>
    (xp [2, 8, 9] 2 q1.2 l0 (.int (x4 + (1 : Int32)))).bind fun h5 =>
    some h5
  else
    (xp [2, 8, 9] 3 q1.2 l0 (.int (1 : Int32))).bind fun h3 =>
    some h3
set_option maxRecDepth 20000 in
theorem ev_X4_need {G : xa_G} {h : xa_H} {l0 : Nat} {l1 : Int32} {r : xa_H} (hf : f_X4_need h l0 l1 = some r) : xa_Ev G M_X4_need 1 [.ref l0, .int l1] h none r := by
  refine xa_entry (by decide +kernel) (loc := [some (.ref l0), some (.int l1)]) rfl (Nat.le_of_ble_eq_true rfl) ?_
  unfold f_X4_need at hf
  obtain ⟨u0, eu0, hf⟩ := ob hf
  refine v_aload_n dX4_need_0 rfl ?_
  obtain ⟨q1, eq1, hf⟩ := ob hf
  refine v_callU dX4_need_1 ⟨cb_X4_peek, ml_4_35, im_X4_peek, sm2_4_X4_peek, by decide +kernel, by decide +kernel, by decide +kernel, by decide +kernel⟩ se_2_8_9_X4_peek (ckf_X4_peek eq1) (ev_X4_peek eq1) (by decide) (As := []) rfl (st := []) rfl (Nat.le_of_ble_eq_true rfl) rfl ?_
  refine v_iload_n dX4_need_4 rfl ?_
  refine v_icmp_ne dX4_need_5 (tgt := 21) (by decide) (fun c2 => ?_) (fun c2 => ?_)
  · replace hf := (if_neg c2).symm.trans hf
    refine v_aload_n dX4_need_21 rfl ?_
    refine v_iconst dX4_need_22 (by decide) (v := 1) ?_
    obtain ⟨h3, eh3, hf⟩ := ob hf
    refine v_put dX4_need_23 fp_4_22 (fun z => by cases z) (fun _ => rfl) (fun _ => rfl) eh3 ?_
    replace hf := Option.some.inj hf
    subst hf
    exact v_vret dX4_need_26 rfl
  · replace hf := (if_pos c2).symm.trans hf
    refine v_aload_n dX4_need_8 rfl ?_
    refine v_dup dX4_need_9 rfl ?_
    obtain ⟨x4, ex4, hf⟩ := ob hf
    refine v_getI dX4_need_10 fl_4_19 ex4 ?_
    refine v_iconst dX4_need_13 (by decide) (v := 1) ?_
    refine v_iadd dX4_need_14 ?_
    obtain ⟨h5, eh5, hf⟩ := ob hf
    refine v_put dX4_need_15 fp_4_19 (fun z => by cases z) (fun _ => rfl) (fun _ => rfl) eh5 ?_
    refine v_goto dX4_need_18 (tgt := 26) (by decide) ?_
    replace hf := Option.some.inj hf
    subst hf
    exact v_vret dX4_need_26 rfl
theorem ckf_X4_need {h : xa_H} {l0 : Nat} {l1 : Int32} {r : xa_H} (hf : f_X4_need h l0 l1 = some r) : ck [2, 8, 9] h l0 = some () := by
  obtain ⟨u, e, -⟩ := ob hf
  exact e
def M_X4_isDigit : xa_M := (yX4_isDigit, cX4_isDigit, 1, some .boolean)
theorem cb_X4_isDigit : xa_CB M_X4_isDigit 1 := ⟨gws_at 640 (by decide +kernel) rfl, gws_at 110 (by decide +kernel) rfl, by decide +kernel, Nat.le_of_ble_eq_true rfl⟩
def f_X4_isDigit (h : xa_H) (l0 : Int32) : Option Int32 :=
  if l0 < (48 : Int32) then
    some (0 : Int32)
  else
    if (57 : Int32) < l0 then
      some (0 : Int32)
    else
      some (1 : Int32)
set_option maxRecDepth 20000 in
theorem ev_X4_isDigit {G : xa_G} {h : xa_H} {l0 : Int32} {r : Int32} (hf : f_X4_isDigit h l0 = some r) : xa_Ev G M_X4_isDigit 0 [.int l0] h (some (.int r)) h := by
  refine xa_entry (by decide +kernel) (loc := [some (.int l0)]) rfl (Nat.le_of_ble_eq_true rfl) ?_
  unfold f_X4_isDigit at hf
  refine v_iload_n dX4_isDigit_0 rfl ?_
  refine v_bipush dX4_isDigit_1 (by decide) (v := 48) ?_
  refine v_icmp_lt dX4_isDigit_3 (tgt := 16) (by decide) (fun c1 => ?_) (fun c1 => ?_)
  · replace hf := (if_pos c1).symm.trans hf
    refine v_iconst dX4_isDigit_16 (by decide) (v := 0) ?_
    replace hf := Option.some.inj hf
    subst hf
    exact v_zret dX4_isDigit_17 rfl (by decide)
  · replace hf := (if_neg c1).symm.trans hf
    refine v_iload_n dX4_isDigit_6 rfl ?_
    refine v_bipush dX4_isDigit_7 (by decide) (v := 57) ?_
    refine v_icmp_gt dX4_isDigit_9 (tgt := 16) (by decide) (fun c2 => ?_) (fun c2 => ?_)
    · replace hf := (if_pos c2).symm.trans hf
      refine v_iconst dX4_isDigit_16 (by decide) (v := 0) ?_
      replace hf := Option.some.inj hf
      subst hf
      exact v_zret dX4_isDigit_17 rfl (by decide)
    · replace hf := (if_neg c2).symm.trans hf
      refine v_iconst dX4_isDigit_12 (by decide) (v := 1) ?_
      refine v_goto dX4_isDigit_13 (tgt := 17) (by decide) ?_
      replace hf := Option.some.inj hf
      subst hf
      exact v_zret dX4_isDigit_17 rfl (by decide)
def M_X4_number : xa_M := (yX4_number, cX4_number, 4, some .int)
theorem cb_X4_number : xa_CB M_X4_number 1 := ⟨gws_at 636 (by decide +kernel) rfl, gws_at 110 (by decide +kernel) rfl, by decide +kernel, Nat.le_of_ble_eq_true rfl⟩
def f_X4_number_b117 (h : xa_H) (l2 : Int32) : Option (Int32 × xa_H) :=
  some (l2, h)
set_option maxRecDepth 20000 in
theorem e_X4_number_b117 {G : xa_G} : ∀ (h : xa_H) (l2 : Int32) (r : (Int32 × xa_H)), f_X4_number_b117 h l2 = some r → xa_V G M_X4_number 1 117 [none, none, some (.int l2), none] [] h (some (.int r.1)) r.2 := by
  intro h l2 r hf
  unfold f_X4_number_b117 at hf
  refine v_iload_n dX4_number_117 rfl ?_
  replace hf := Option.some.inj hf
  subst hf
  exact v_iret dX4_number_118 rfl
def f_X4_number_b86 (h : xa_H) (l0 : Nat) (l2 : Int32) : Option (Int32 × xa_H) :=
  (gI [2, 8, 9] 2 h l0).bind fun x1 =>
  (gI [2, 8, 9] 1 h l0).bind fun x2 =>
  if x2 ≤ x1 then
    f_X4_number_b117 h l2
  else
    (gR [2, 8, 9] 0 h l0).bind fun x4 =>
    (gI [2, 8, 9] 2 h l0).bind fun x5 =>
    (aI h x4 x5).bind fun x6 =>
    (f_X4_isDigit h x6).bind fun q7 =>
    if q7 = 0 then
      f_X4_number_b117 h l2
    else
      (xp [2, 8, 9] 3 h l0 (.int (1 : Int32))).bind fun h9 =>
      f_X4_number_b117 h9 l2
set_option maxRecDepth 20000 in
theorem e_X4_number_b86 {G : xa_G} : ∀ (h : xa_H) (l0 : Nat) (l2 : Int32) (r : (Int32 × xa_H)), f_X4_number_b86 h l0 l2 = some r → xa_V G M_X4_number 1 86 [some (.ref l0), none, some (.int l2), none] [] h (some (.int r.1)) r.2 := by
  intro h l0 l2 r hf
  unfold f_X4_number_b86 at hf
  refine v_aload_n dX4_number_86 rfl ?_
  obtain ⟨x1, ex1, hf⟩ := ob hf
  refine v_getI dX4_number_87 fl_4_19 ex1 ?_
  refine v_aload_n dX4_number_90 rfl ?_
  obtain ⟨x2, ex2, hf⟩ := ob hf
  refine v_getI dX4_number_91 fl_4_15 ex2 ?_
  refine v_icmp_ge dX4_number_94 (tgt := 117) (by decide) (fun c3 => ?_) (fun c3 => ?_)
  · replace hf := (if_pos c3).symm.trans hf
    exact xa_weak (loc := [none, none, some (.int l2), none]) ⟨rfl, trivial⟩ (e_X4_number_b117 h l2 r hf)
  · replace hf := (if_neg c3).symm.trans hf
    refine v_aload_n dX4_number_97 rfl ?_
    obtain ⟨x4, ex4, hf⟩ := ob hf
    refine v_getR dX4_number_98 fl_4_9 ex4 ?_
    refine v_aload_n dX4_number_101 rfl ?_
    obtain ⟨x5, ex5, hf⟩ := ob hf
    refine v_getI dX4_number_102 fl_4_19 ex5 ?_
    obtain ⟨x6, ex6, hf⟩ := ob hf
    refine v_ialoadI dX4_number_105 ex6 ?_
    obtain ⟨q7, eq7, hf⟩ := ob hf
    refine v_callS dX4_number_106 ⟨cb_X4_isDigit, ml_4_39, sm_X4_isDigit⟩ (ev_X4_isDigit eq7) (by decide) (As := [.int x6]) rfl (st := []) rfl (Nat.le_of_ble_eq_true rfl) rfl ?_
    refine v_if_eq dX4_number_109 (tgt := 117) (by decide) (fun c8 => ?_) (fun c8 => ?_)
    · replace hf := (if_pos c8).symm.trans hf
      exact xa_weak (loc := [none, none, some (.int l2), none]) ⟨rfl, trivial⟩ (e_X4_number_b117 h l2 r hf)
    · replace hf := (if_neg c8).symm.trans hf
      refine v_aload_n dX4_number_112 rfl ?_
      refine v_iconst dX4_number_113 (by decide) (v := 1) ?_
      obtain ⟨h9, eh9, hf⟩ := ob hf
      refine v_put dX4_number_114 fp_4_22 (fun z => by cases z) (fun _ => rfl) (fun _ => rfl) eh9 ?_
      exact xa_weak (loc := [none, none, some (.int l2), none]) ⟨rfl, trivial⟩ (e_X4_number_b117 h9 l2 r hf)
def f_X4_number_b21 : Nat → xa_H → Nat → Int32 → Int32 → Int32 → Option (Int32 × xa_H)
  | 0, _, _, _, _, _ => none
  | n + 1, h, l0, l1, l2, l3 =>
    if l1 ≤ l3 then
      f_X4_number_b86 h l0 l2
    else
      (gI [2, 8, 9] 2 h l0).bind fun x2 =>
      (gI [2, 8, 9] 1 h l0).bind fun x3 =>
      if x3 ≤ x2 then
        f_X4_number_b86 h l0 l2
      else
        (gR [2, 8, 9] 0 h l0).bind fun x5 =>
        (gI [2, 8, 9] 2 h l0).bind fun x6 =>
        (aI h x5 x6).bind fun x7 =>
        (f_X4_isDigit h x7).bind fun q8 =>
        if q8 = 0 then
          f_X4_number_b86 h l0 l2
        else
          (gR [2, 8, 9] 0 h l0).bind fun x10 =>
          (gI [2, 8, 9] 2 h l0).bind fun x11 =>
          (aI h x10 x11).bind fun x12 =>
          (gI [2, 8, 9] 2 h l0).bind fun x13 =>
          (xp [2, 8, 9] 2 h l0 (.int (x13 + (1 : Int32)))).bind fun h14 =>
          f_X4_number_b21 n h14 l0 l1 ((((10 : Int32) * l2) + x12) - (48 : Int32)) (l3 + (1 : Int32))
set_option maxRecDepth 20000 in
theorem e_X4_number_b21 {G : xa_G} : ∀ (n : Nat) (h : xa_H) (l0 : Nat) (l1 : Int32) (l2 : Int32) (l3 : Int32) (r : (Int32 × xa_H)), f_X4_number_b21 n h l0 l1 l2 l3 = some r → xa_V G M_X4_number 1 21 [some (.ref l0), some (.int l1), some (.int l2), some (.int l3)] [] h (some (.int r.1)) r.2 := by
  intro n
  induction n with
  | zero =>
    intro h l0 l1 l2 l3 r hf
    cases (show (none : Option (Int32 × xa_H)) = some r from hf)
  | succ n ih =>
    intro h l0 l1 l2 l3 r hf
    rw [f_X4_number_b21] at hf
    refine v_iload_n dX4_number_21 rfl ?_
    refine v_iload_n dX4_number_22 rfl ?_
    refine v_icmp_ge dX4_number_23 (tgt := 86) (by decide) (fun c1 => ?_) (fun c1 => ?_)
    · replace hf := (if_pos c1).symm.trans hf
      exact xa_weak (loc := [some (.ref l0), none, some (.int l2), none]) ⟨rfl, ⟨rfl, trivial⟩⟩ (e_X4_number_b86 h l0 l2 r hf)
    · replace hf := (if_neg c1).symm.trans hf
      refine v_aload_n dX4_number_26 rfl ?_
      obtain ⟨x2, ex2, hf⟩ := ob hf
      refine v_getI dX4_number_27 fl_4_19 ex2 ?_
      refine v_aload_n dX4_number_30 rfl ?_
      obtain ⟨x3, ex3, hf⟩ := ob hf
      refine v_getI dX4_number_31 fl_4_15 ex3 ?_
      refine v_icmp_ge dX4_number_34 (tgt := 86) (by decide) (fun c4 => ?_) (fun c4 => ?_)
      · replace hf := (if_pos c4).symm.trans hf
        exact xa_weak (loc := [some (.ref l0), none, some (.int l2), none]) ⟨rfl, ⟨rfl, trivial⟩⟩ (e_X4_number_b86 h l0 l2 r hf)
      · replace hf := (if_neg c4).symm.trans hf
        refine v_aload_n dX4_number_37 rfl ?_
        obtain ⟨x5, ex5, hf⟩ := ob hf
        refine v_getR dX4_number_38 fl_4_9 ex5 ?_
        refine v_aload_n dX4_number_41 rfl ?_
        obtain ⟨x6, ex6, hf⟩ := ob hf
        refine v_getI dX4_number_42 fl_4_19 ex6 ?_
        obtain ⟨x7, ex7, hf⟩ := ob hf
        refine v_ialoadI dX4_number_45 ex7 ?_
        obtain ⟨q8, eq8, hf⟩ := ob hf
        refine v_callS dX4_number_46 ⟨cb_X4_isDigit, ml_4_39, sm_X4_isDigit⟩ (ev_X4_isDigit eq8) (by decide) (As := [.int x7]) rfl (st := []) rfl (Nat.le_of_ble_eq_true rfl) rfl ?_
        refine v_if_eq dX4_number_49 (tgt := 86) (by decide) (fun c9 => ?_) (fun c9 => ?_)
        · replace hf := (if_pos c9).symm.trans hf
          exact xa_weak (loc := [some (.ref l0), none, some (.int l2), none]) ⟨rfl, ⟨rfl, trivial⟩⟩ (e_X4_number_b86 h l0 l2 r hf)
        · replace hf := (if_neg c9).symm.trans hf
          refine v_bipush dX4_number_52 (by decide) (v := 10) ?_
          refine v_iload_n dX4_number_54 rfl ?_
          refine v_imul dX4_number_55 ?_
          refine v_aload_n dX4_number_56 rfl ?_
          obtain ⟨x10, ex10, hf⟩ := ob hf
          refine v_getR dX4_number_57 fl_4_9 ex10 ?_
          refine v_aload_n dX4_number_60 rfl ?_
          obtain ⟨x11, ex11, hf⟩ := ob hf
          refine v_getI dX4_number_61 fl_4_19 ex11 ?_
          obtain ⟨x12, ex12, hf⟩ := ob hf
          refine v_ialoadI dX4_number_64 ex12 ?_
          refine v_iadd dX4_number_65 ?_
          refine v_bipush dX4_number_66 (by decide) (v := 48) ?_
          refine v_isub dX4_number_68 ?_
          refine v_istore_n (i := 2) rfl dX4_number_69 (Nat.le_of_ble_eq_true rfl) (loc' := [some (.ref l0), some (.int l1), some (.int ((((10 : Int32) * l2) + x12) - (48 : Int32))), some (.int l3)]) rfl ?_
          refine v_aload_n dX4_number_70 rfl ?_
          refine v_dup dX4_number_71 rfl ?_
          obtain ⟨x13, ex13, hf⟩ := ob hf
          refine v_getI dX4_number_72 fl_4_19 ex13 ?_
          refine v_iconst dX4_number_75 (by decide) (v := 1) ?_
          refine v_iadd dX4_number_76 ?_
          obtain ⟨h14, eh14, hf⟩ := ob hf
          refine v_put dX4_number_77 fp_4_19 (fun z => by cases z) (fun _ => rfl) (fun _ => rfl) eh14 ?_
          refine v_iinc dX4_number_80 rfl (v := (l3 + (1 : Int32))) rfl (Nat.le_of_ble_eq_true rfl) (loc' := [some (.ref l0), some (.int l1), some (.int ((((10 : Int32) * l2) + x12) - (48 : Int32))), some (.int (l3 + (1 : Int32)))]) rfl ?_
          refine v_goto dX4_number_83 (tgt := 21) (by decide) ?_
          exact ih h14 l0 l1 ((((10 : Int32) * l2) + x12) - (48 : Int32)) (l3 + (1 : Int32)) r hf
def f_X4_number (h : xa_H) (l0 : Nat) (l1 : Int32) : Option (Int32 × xa_H) :=
  (ck [2, 8, 9] h l0).bind fun _ =>
  (f_X4_peek h l0).bind fun q1 =>
  (f_X4_isDigit q1.2 q1.1).bind fun q2 =>
  if q2 = 0 then
    (xp [2, 8, 9] 3 q1.2 l0 (.int (1 : Int32))).bind fun h4 =>
    some ((0 : Int32), h4)
  else
    f_X4_number_b21 1048576 q1.2 l0 l1 (0 : Int32) (0 : Int32)
set_option maxRecDepth 20000 in
theorem ev_X4_number {G : xa_G} {h : xa_H} {l0 : Nat} {l1 : Int32} {r : (Int32 × xa_H)} (hf : f_X4_number h l0 l1 = some r) : xa_Ev G M_X4_number 1 [.ref l0, .int l1] h (some (.int r.1)) r.2 := by
  refine xa_entry (by decide +kernel) (loc := [some (.ref l0), some (.int l1), none, none]) rfl (Nat.le_of_ble_eq_true rfl) ?_
  unfold f_X4_number at hf
  obtain ⟨u0, eu0, hf⟩ := ob hf
  refine v_aload_n dX4_number_0 rfl ?_
  obtain ⟨q1, eq1, hf⟩ := ob hf
  refine v_callU dX4_number_1 ⟨cb_X4_peek, ml_4_35, im_X4_peek, sm2_4_X4_peek, by decide +kernel, by decide +kernel, by decide +kernel, by decide +kernel⟩ se_2_8_9_X4_peek (ckf_X4_peek eq1) (ev_X4_peek eq1) (by decide) (As := []) rfl (st := []) rfl (Nat.le_of_ble_eq_true rfl) rfl ?_
  obtain ⟨q2, eq2, hf⟩ := ob hf
  refine v_callS dX4_number_4 ⟨cb_X4_isDigit, ml_4_39, sm_X4_isDigit⟩ (ev_X4_isDigit eq2) (by decide) (As := [.int q1.1]) rfl (st := []) rfl (Nat.le_of_ble_eq_true rfl) rfl ?_
  refine v_if_ne dX4_number_7 (tgt := 17) (by decide) (fun c3 => ?_) (fun c3 => ?_)
  · replace hf := (if_neg c3).symm.trans hf
    refine v_iconst dX4_number_17 (by decide) (v := 0) ?_
    refine v_istore_n (i := 2) rfl dX4_number_18 (Nat.le_of_ble_eq_true rfl) (loc' := [some (.ref l0), some (.int l1), some (.int (0 : Int32)), none]) rfl ?_
    refine v_iconst dX4_number_19 (by decide) (v := 0) ?_
    refine v_istore_n (i := 3) rfl dX4_number_20 (Nat.le_of_ble_eq_true rfl) (loc' := [some (.ref l0), some (.int l1), some (.int (0 : Int32)), some (.int (0 : Int32))]) rfl ?_
    exact e_X4_number_b21 1048576 q1.2 l0 l1 (0 : Int32) (0 : Int32) r hf
  · replace hf := (if_pos c3).symm.trans hf
    refine v_aload_n dX4_number_10 rfl ?_
    refine v_iconst dX4_number_11 (by decide) (v := 1) ?_
    obtain ⟨h4, eh4, hf⟩ := ob hf
    refine v_put dX4_number_12 fp_4_22 (fun z => by cases z) (fun _ => rfl) (fun _ => rfl) eh4 ?_
    refine v_iconst dX4_number_15 (by decide) (v := 0) ?_
    replace hf := Option.some.inj hf
    subst hf
    exact v_iret dX4_number_16 rfl
theorem ckf_X4_number {h : xa_H} {l0 : Nat} {l1 : Int32} {r : (Int32 × xa_H)} (hf : f_X4_number h l0 l1 = some r) : ck [2, 8, 9] h l0 = some () := by
  obtain ⟨u, e, -⟩ := ob hf
  exact e
def M_X4_start : xa_M := (yX4_start, cX4_start, 3, none)
theorem cb_X4_start : xa_CB M_X4_start 2 := ⟨gws_at 557 (by decide +kernel) rfl, gws_at 110 (by decide +kernel) rfl, by decide +kernel, Nat.le_of_ble_eq_true rfl⟩
def f_X4_start (h : xa_H) (l0 : Nat) (l1 : Nat) (l2 : Int32) : Option xa_H :=
  (ck [2, 8, 9] h l0).bind fun _ =>
  (xp [2, 8, 9] 0 h l0 (.ref l1)).bind fun h1 =>
  (aN h1 l1).bind fun x2 =>
  (xp [2, 8, 9] 1 h1 l0 (.int (imax (0 : Int32) (imin l2 x2)))).bind fun h3 =>
  (xp [2, 8, 9] 2 h3 l0 (.int (0 : Int32))).bind fun h4 =>
  (xp [2, 8, 9] 3 h4 l0 (.int (0 : Int32))).bind fun h5 =>
  some h5
set_option maxRecDepth 20000 in
theorem ev_X4_start {G : xa_G} {h : xa_H} {l0 : Nat} {l1 : Nat} {l2 : Int32} {r : xa_H} (hf : f_X4_start h l0 l1 l2 = some r) : xa_Ev G M_X4_start 1 [.ref l0, .ref l1, .int l2] h none r := by
  refine xa_entry (by decide +kernel) (loc := [some (.ref l0), some (.ref l1), some (.int l2)]) rfl (Nat.le_of_ble_eq_true rfl) ?_
  unfold f_X4_start at hf
  obtain ⟨u0, eu0, hf⟩ := ob hf
  refine v_aload_n dX4_start_0 rfl ?_
  refine v_aload_n dX4_start_1 rfl ?_
  obtain ⟨h1, eh1, hf⟩ := ob hf
  refine v_put dX4_start_2 fp_4_9 (fun z => by cases z) (fun _ => rfl) (fun _ => rfl) eh1 ?_
  refine v_aload_n dX4_start_5 rfl ?_
  refine v_iconst dX4_start_6 (by decide) (v := 0) ?_
  refine v_iload_n dX4_start_7 rfl ?_
  refine v_aload_n dX4_start_8 rfl ?_
  obtain ⟨x2, ex2, hf⟩ := ob hf
  refine v_alen dX4_start_9 ex2 ?_
  refine w_mmin dX4_start_10 mw_4_26 (by decide) (Nat.le_of_ble_eq_true rfl) ?_
  refine w_mmax dX4_start_13 mw_4_32 (by decide) (Nat.le_of_ble_eq_true rfl) ?_
  obtain ⟨h3, eh3, hf⟩ := ob hf
  refine v_put dX4_start_16 fp_4_15 (fun z => by cases z) (fun _ => rfl) (fun _ => rfl) eh3 ?_
  refine v_aload_n dX4_start_19 rfl ?_
  refine v_iconst dX4_start_20 (by decide) (v := 0) ?_
  obtain ⟨h4, eh4, hf⟩ := ob hf
  refine v_put dX4_start_21 fp_4_19 (fun z => by cases z) (fun _ => rfl) (fun _ => rfl) eh4 ?_
  refine v_aload_n dX4_start_24 rfl ?_
  refine v_iconst dX4_start_25 (by decide) (v := 0) ?_
  obtain ⟨h5, eh5, hf⟩ := ob hf
  refine v_put dX4_start_26 fp_4_22 (fun z => by cases z) (fun _ => rfl) (fun _ => rfl) eh5 ?_
  replace hf := Option.some.inj hf
  subst hf
  exact v_vret dX4_start_29 rfl
theorem ckf_X4_start {h : xa_H} {l0 : Nat} {l1 : Nat} {l2 : Int32} {r : xa_H} (hf : f_X4_start h l0 l1 l2 = some r) : ck [2, 8, 9] h l0 = some () := by
  obtain ⟨u, e, -⟩ := ob hf
  exact e
def M_X4_take : xa_M := (yX4_take, cX4_take, 2, some .boolean)
theorem cb_X4_take : xa_CB M_X4_take 1 := ⟨gws_at 675 (by decide +kernel) rfl, gws_at 110 (by decide +kernel) rfl, by decide +kernel, Nat.le_of_ble_eq_true rfl⟩
def f_X4_take (h : xa_H) (l0 : Nat) (l1 : Int32) : Option (Int32 × xa_H) :=
  (ck [2, 8, 9] h l0).bind fun _ =>
  (f_X4_peek h l0).bind fun q1 =>
  if q1.1 = l1 then
    (gI [2, 8, 9] 2 q1.2 l0).bind fun x3 =>
    (xp [2, 8, 9] 2 q1.2 l0 (.int (x3 + (1 : Int32)))).bind fun h4 =>
    some ((1 : Int32), h4)
  else
    some ((0 : Int32), q1.2)
set_option maxRecDepth 20000 in
theorem ev_X4_take {G : xa_G} {h : xa_H} {l0 : Nat} {l1 : Int32} {r : (Int32 × xa_H)} (hf : f_X4_take h l0 l1 = some r) : xa_Ev G M_X4_take 1 [.ref l0, .int l1] h (some (.int r.1)) r.2 := by
  refine xa_entry (by decide +kernel) (loc := [some (.ref l0), some (.int l1)]) rfl (Nat.le_of_ble_eq_true rfl) ?_
  unfold f_X4_take at hf
  obtain ⟨u0, eu0, hf⟩ := ob hf
  refine v_aload_n dX4_take_0 rfl ?_
  obtain ⟨q1, eq1, hf⟩ := ob hf
  refine v_callU dX4_take_1 ⟨cb_X4_peek, ml_4_35, im_X4_peek, sm2_4_X4_peek, by decide +kernel, by decide +kernel, by decide +kernel, by decide +kernel⟩ se_2_8_9_X4_peek (ckf_X4_peek eq1) (ev_X4_peek eq1) (by decide) (As := []) rfl (st := []) rfl (Nat.le_of_ble_eq_true rfl) rfl ?_
  refine v_iload_n dX4_take_4 rfl ?_
  refine v_icmp_eq dX4_take_5 (tgt := 10) (by decide) (fun c2 => ?_) (fun c2 => ?_)
  · replace hf := (if_pos c2).symm.trans hf
    refine v_aload_n dX4_take_10 rfl ?_
    refine v_dup dX4_take_11 rfl ?_
    obtain ⟨x3, ex3, hf⟩ := ob hf
    refine v_getI dX4_take_12 fl_4_19 ex3 ?_
    refine v_iconst dX4_take_15 (by decide) (v := 1) ?_
    refine v_iadd dX4_take_16 ?_
    obtain ⟨h4, eh4, hf⟩ := ob hf
    refine v_put dX4_take_17 fp_4_19 (fun z => by cases z) (fun _ => rfl) (fun _ => rfl) eh4 ?_
    refine v_iconst dX4_take_20 (by decide) (v := 1) ?_
    replace hf := Option.some.inj hf
    subst hf
    exact v_zret dX4_take_21 rfl (by decide)
  · replace hf := (if_neg c2).symm.trans hf
    refine v_iconst dX4_take_8 (by decide) (v := 0) ?_
    replace hf := Option.some.inj hf
    subst hf
    exact v_zret dX4_take_9 rfl (by decide)
theorem ckf_X4_take {h : xa_H} {l0 : Nat} {l1 : Int32} {r : (Int32 × xa_H)} (hf : f_X4_take h l0 l1 = some r) : ck [2, 8, 9] h l0 = some () := by
  obtain ⟨u, e, -⟩ := ob hf
  exact e
def M_X4_wrongAt : xa_M := (yX4_wrongAt, cX4_wrongAt, 1, some .int)
theorem cb_X4_wrongAt : xa_CB M_X4_wrongAt 0 := ⟨gws_at 690 (by decide +kernel) rfl, gws_at 110 (by decide +kernel) rfl, by decide +kernel, Nat.le_of_ble_eq_true rfl⟩
def f_X4_wrongAt (h : xa_H) (l0 : Nat) : Option Int32 :=
  (ck [2, 8, 9] h l0).bind fun _ =>
  (gI [2, 8, 9] 3 h l0).bind fun x1 =>
  if x1 = 0 then
    some (-1 : Int32)
  else
    (gI [2, 8, 9] 2 h l0).bind fun x3 =>
    some x3
set_option maxRecDepth 20000 in
theorem ev_X4_wrongAt {G : xa_G} {h : xa_H} {l0 : Nat} {r : Int32} (hf : f_X4_wrongAt h l0 = some r) : xa_Ev G M_X4_wrongAt 0 [.ref l0] h (some (.int r)) h := by
  refine xa_entry (by decide +kernel) (loc := [some (.ref l0)]) rfl (Nat.le_of_ble_eq_true rfl) ?_
  unfold f_X4_wrongAt at hf
  obtain ⟨u0, eu0, hf⟩ := ob hf
  refine v_aload_n dX4_wrongAt_0 rfl ?_
  obtain ⟨x1, ex1, hf⟩ := ob hf
  refine v_getI dX4_wrongAt_1 fl_4_22 ex1 ?_
  refine v_if_eq dX4_wrongAt_4 (tgt := 14) (by decide) (fun c2 => ?_) (fun c2 => ?_)
  · replace hf := (if_pos c2).symm.trans hf
    refine v_iconst dX4_wrongAt_14 (by decide) (v := -1) ?_
    replace hf := Option.some.inj hf
    subst hf
    exact v_iret dX4_wrongAt_15 rfl
  · replace hf := (if_neg c2).symm.trans hf
    refine v_aload_n dX4_wrongAt_7 rfl ?_
    obtain ⟨x3, ex3, hf⟩ := ob hf
    refine v_getI dX4_wrongAt_8 fl_4_19 ex3 ?_
    refine v_goto dX4_wrongAt_11 (tgt := 15) (by decide) ?_
    replace hf := Option.some.inj hf
    subst hf
    exact v_iret dX4_wrongAt_15 rfl
theorem ckf_X4_wrongAt {h : xa_H} {l0 : Nat} {r : Int32} (hf : f_X4_wrongAt h l0 = some r) : ck [2, 8, 9] h l0 = some () := by
  obtain ⟨u, e, -⟩ := ob hf
  exact e
def M_X4_init : xa_M := (yX4_init, cX4_init, 1, none)
theorem cb_X4_init : xa_CB M_X4_init 0 := ⟨gws_at 147 (by decide +kernel) rfl, gws_at 110 (by decide +kernel) rfl, by decide +kernel, Nat.le_of_ble_eq_true rfl⟩
def f_X4_init (h : xa_H) (l0 : Nat) : Option xa_H :=
  (ck [2, 8, 9] h l0).bind fun _ =>
  (nAI h (0 : Int32)).bind fun h1 =>
  (xp [2, 8, 9] 0 h1 l0 (.ref h.2.1)).bind fun h2 =>
  (xp [2, 8, 9] 1 h2 l0 (.int (0 : Int32))).bind fun h3 =>
  (xp [2, 8, 9] 2 h3 l0 (.int (0 : Int32))).bind fun h4 =>
  (xp [2, 8, 9] 3 h4 l0 (.int (0 : Int32))).bind fun h5 =>
  some h5
set_option maxRecDepth 20000 in
theorem ev_X4_init {G : xa_G} {h : xa_H} {l0 : Nat} {r : xa_H} (hf : f_X4_init h l0 = some r) : xa_Ev G M_X4_init 1 [.ref l0] h none r := by
  refine xa_entry (by decide +kernel) (loc := [some (.ref l0)]) rfl (Nat.le_of_ble_eq_true rfl) ?_
  unfold f_X4_init at hf
  obtain ⟨u0, eu0, hf⟩ := ob hf
  refine v_aload_n dX4_init_0 rfl ?_
  refine v_objInit dX4_init_1 oi_4_3 (by decide) (Nat.le_of_ble_eq_true rfl) ?_
  refine v_aload_n dX4_init_4 rfl ?_
  refine v_iconst dX4_init_5 (by decide) (v := 0) ?_
  obtain ⟨h1, eh1, hf⟩ := ob hf
  refine w_newaI dX4_init_6 ac_int eh1 ?_
  obtain ⟨h2, eh2, hf⟩ := ob hf
  refine v_put dX4_init_8 fp_4_9 (fun z => by cases z) (fun _ => rfl) (fun _ => rfl) eh2 ?_
  refine v_aload_n dX4_init_11 rfl ?_
  refine v_iconst dX4_init_12 (by decide) (v := 0) ?_
  obtain ⟨h3, eh3, hf⟩ := ob hf
  refine v_put dX4_init_13 fp_4_15 (fun z => by cases z) (fun _ => rfl) (fun _ => rfl) eh3 ?_
  refine v_aload_n dX4_init_16 rfl ?_
  refine v_iconst dX4_init_17 (by decide) (v := 0) ?_
  obtain ⟨h4, eh4, hf⟩ := ob hf
  refine v_put dX4_init_18 fp_4_19 (fun z => by cases z) (fun _ => rfl) (fun _ => rfl) eh4 ?_
  refine v_aload_n dX4_init_21 rfl ?_
  refine v_iconst dX4_init_22 (by decide) (v := 0) ?_
  obtain ⟨h5, eh5, hf⟩ := ob hf
  refine v_put dX4_init_23 fp_4_22 (fun z => by cases z) (fun _ => rfl) (fun _ => rfl) eh5 ?_
  replace hf := Option.some.inj hf
  subst hf
  exact v_vret dX4_init_26 rfl
theorem ckf_X4_init {h : xa_H} {l0 : Nat} {r : xa_H} (hf : f_X4_init h l0 = some r) : ck [2, 8, 9] h l0 = some () := by
  obtain ⟨u, e, -⟩ := ob hf
  exact e
