def M_X9_canStand : xa_M := (yX9_canStand, cX9_canStand, 1, some .boolean)
theorem cb_X9_canStand : xa_CB M_X9_canStand 0 := ⟨gws_at 679 (by decide +kernel) rfl, gws_at 111 (by decide +kernel) rfl, by decide +kernel, Nat.le_of_ble_eq_true rfl⟩
def f_X9_canStand (h : xa_H) (l0 : Nat) : Option Int32 :=
  (ck [9] h l0).bind fun _ =>
  (gR [9] 4 h l0).bind fun x1 =>
  (gI [0] 4 h x1).bind fun x2 =>
  if x2 < (2 : Int32) then
    some (0 : Int32)
  else
    (gI [9] 8 h l0).bind fun x4 =>
    (gR [9] 4 h l0).bind fun x5 =>
    (gI [0] 4 h x5).bind fun x6 =>
    if x6 ≤ x4 then
      some (0 : Int32)
    else
      (gI [9] 9 h l0).bind fun x8 =>
      if x8 = 0 then
        (gR [9] 4 h l0).bind fun x10 =>
        (f_X0_mostBetweenTwo h x10).bind fun q11 =>
        (gR [9] 4 h l0).bind fun x12 =>
        (gI [0] 5 h x12).bind fun x13 =>
        if x13 < q11 then
          some (0 : Int32)
        else
          some (1 : Int32)
      else
        some (0 : Int32)
set_option maxRecDepth 20000 in
theorem ev_X9_canStand {G : xa_G} {h : xa_H} {l0 : Nat} {r : Int32} (hf : f_X9_canStand h l0 = some r) : xa_Ev G M_X9_canStand 2 [.ref l0] h (some (.int r)) h := by
  refine xa_entry (by decide +kernel) (loc := [some (.ref l0)]) rfl (Nat.le_of_ble_eq_true rfl) ?_
  unfold f_X9_canStand at hf
  obtain ⟨u0, eu0, hf⟩ := ob hf
  refine v_aload_n dX9_canStand_0 rfl ?_
  obtain ⟨x1, ex1, hf⟩ := ob hf
  refine v_getR dX9_canStand_1 fl_9_12 ex1 ?_
  obtain ⟨x2, ex2, hf⟩ := ob hf
  refine v_getI dX9_canStand_4 fl_9_83 ex2 ?_
  refine v_iconst dX9_canStand_7 (by decide) (v := 2) ?_
  refine v_icmp_lt dX9_canStand_8 (tgt := 53) (by decide) (fun c3 => ?_) (fun c3 => ?_)
  · replace hf := (if_pos c3).symm.trans hf
    refine v_iconst dX9_canStand_53 (by decide) (v := 0) ?_
    replace hf := Option.some.inj hf
    subst hf
    exact v_zret dX9_canStand_54 rfl (by decide)
  · replace hf := (if_neg c3).symm.trans hf
    refine v_aload_n dX9_canStand_11 rfl ?_
    obtain ⟨x4, ex4, hf⟩ := ob hf
    refine v_getI dX9_canStand_12 fl_9_30 ex4 ?_
    refine v_aload_n dX9_canStand_15 rfl ?_
    obtain ⟨x5, ex5, hf⟩ := ob hf
    refine v_getR dX9_canStand_16 fl_9_12 ex5 ?_
    obtain ⟨x6, ex6, hf⟩ := ob hf
    refine v_getI dX9_canStand_19 fl_9_83 ex6 ?_
    refine v_icmp_ge dX9_canStand_22 (tgt := 53) (by decide) (fun c7 => ?_) (fun c7 => ?_)
    · replace hf := (if_pos c7).symm.trans hf
      refine v_iconst dX9_canStand_53 (by decide) (v := 0) ?_
      replace hf := Option.some.inj hf
      subst hf
      exact v_zret dX9_canStand_54 rfl (by decide)
    · replace hf := (if_neg c7).symm.trans hf
      refine v_aload_n dX9_canStand_25 rfl ?_
      obtain ⟨x8, ex8, hf⟩ := ob hf
      refine v_getI dX9_canStand_26 fl_9_33 ex8 ?_
      refine v_if_ne dX9_canStand_29 (tgt := 53) (by decide) (fun c9 => ?_) (fun c9 => ?_)
      · replace hf := (if_neg c9).symm.trans hf
        refine v_iconst dX9_canStand_53 (by decide) (v := 0) ?_
        replace hf := Option.some.inj hf
        subst hf
        exact v_zret dX9_canStand_54 rfl (by decide)
      · replace hf := (if_pos c9).symm.trans hf
        refine v_aload_n dX9_canStand_32 rfl ?_
        obtain ⟨x10, ex10, hf⟩ := ob hf
        refine v_getR dX9_canStand_33 fl_9_12 ex10 ?_
        obtain ⟨q11, eq11, hf⟩ := ob hf
        refine v_callV dX9_canStand_36 ⟨cb_X0_mostBetweenTwo, ml_9_145, im_X0_mostBetweenTwo⟩ se_0_X0_mostBetweenTwo (ckf_X0_mostBetweenTwo eq11) (ev_X0_mostBetweenTwo eq11) (by decide) (As := []) rfl (st := []) rfl (Nat.le_of_ble_eq_true rfl) rfl ?_
        refine v_aload_n dX9_canStand_39 rfl ?_
        obtain ⟨x12, ex12, hf⟩ := ob hf
        refine v_getR dX9_canStand_40 fl_9_12 ex12 ?_
        obtain ⟨x13, ex13, hf⟩ := ob hf
        refine v_getI dX9_canStand_43 fl_9_70 ex13 ?_
        refine v_icmp_gt dX9_canStand_46 (tgt := 53) (by decide) (fun c14 => ?_) (fun c14 => ?_)
        · replace hf := (if_pos c14).symm.trans hf
          refine v_iconst dX9_canStand_53 (by decide) (v := 0) ?_
          replace hf := Option.some.inj hf
          subst hf
          exact v_zret dX9_canStand_54 rfl (by decide)
        · replace hf := (if_neg c14).symm.trans hf
          refine v_iconst dX9_canStand_49 (by decide) (v := 1) ?_
          refine v_goto dX9_canStand_50 (tgt := 54) (by decide) ?_
          replace hf := Option.some.inj hf
          subst hf
          exact v_zret dX9_canStand_54 rfl (by decide)
theorem ckf_X9_canStand {h : xa_H} {l0 : Nat} {r : Int32} (hf : f_X9_canStand h l0 = some r) : ck [9] h l0 = some () := by
  obtain ⟨u, e, -⟩ := ob hf
  exact e
def M_X9_bounded : xa_M := (yX9_bounded, cX9_bounded, 3, some .int)
theorem cb_X9_bounded : xa_CB M_X9_bounded 2 := ⟨gws_at 644 (by decide +kernel) rfl, gws_at 111 (by decide +kernel) rfl, by decide +kernel, Nat.le_of_ble_eq_true rfl⟩
def f_X9_bounded_b40 (h : xa_H) (l0 : Nat) (l1 : Int32) (l2 : Int32) : Option (Int32 × xa_H) :=
  (gI [9] 3 h l0).bind fun x1 =>
  if x1 = 0 then
    some (l1, h)
  else
    (aS 3 l2).bind fun x3 =>
    some (x3, h)
set_option maxRecDepth 20000 in
theorem e_X9_bounded_b40 {G : xa_G} : ∀ (h : xa_H) (l0 : Nat) (l1 : Int32) (l2 : Int32) (r : (Int32 × xa_H)), f_X9_bounded_b40 h l0 l1 l2 = some r → xa_V G M_X9_bounded 0 40 [some (.ref l0), some (.int l1), some (.int l2)] [] h (some (.int r.1)) r.2 := by
  intro h l0 l1 l2 r hf
  unfold f_X9_bounded_b40 at hf
  refine v_aload_n dX9_bounded_40 rfl ?_
  obtain ⟨x1, ex1, hf⟩ := ob hf
  refine v_getI dX9_bounded_41 fl_9_54 ex1 ?_
  refine v_if_eq dX9_bounded_44 (tgt := 55) (by decide) (fun c2 => ?_) (fun c2 => ?_)
  · replace hf := (if_pos c2).symm.trans hf
    refine v_iload_n dX9_bounded_55 rfl ?_
    replace hf := Option.some.inj hf
    subst hf
    exact v_iret dX9_bounded_56 rfl
  · replace hf := (if_neg c2).symm.trans hf
    refine v_gets dX9_bounded_47 (j := 3) (List.mem_of_getElem? (i := 2) rfl) gs_9_64 ?_
    refine v_iload_n dX9_bounded_50 rfl ?_
    obtain ⟨x3, ex3, hf⟩ := ob hf
    refine v_ialoadS dX9_bounded_51 ex3 ?_
    refine v_goto dX9_bounded_52 (tgt := 56) (by decide) ?_
    replace hf := Option.some.inj hf
    subst hf
    exact v_iret dX9_bounded_56 rfl
def f_X9_bounded_b25 (h : xa_H) (l0 : Nat) (l1 : Int32) (l2 : Int32) : Option (Int32 × xa_H) :=
  (gI [9] 2 h l0).bind fun x1 =>
  (xp [9] 2 h l0 (.int (x1 - (1 : Int32)))).bind fun h2 =>
  (xp [9] 3 h2 l0 (.int (1 : Int32))).bind fun h3 =>
  f_X9_bounded_b40 h3 l0 l1 l2
set_option maxRecDepth 20000 in
theorem e_X9_bounded_b25 {G : xa_G} : ∀ (h : xa_H) (l0 : Nat) (l1 : Int32) (l2 : Int32) (r : (Int32 × xa_H)), f_X9_bounded_b25 h l0 l1 l2 = some r → xa_V G M_X9_bounded 0 25 [some (.ref l0), some (.int l1), some (.int l2)] [] h (some (.int r.1)) r.2 := by
  intro h l0 l1 l2 r hf
  unfold f_X9_bounded_b25 at hf
  refine v_aload_n dX9_bounded_25 rfl ?_
  refine v_dup dX9_bounded_26 rfl ?_
  obtain ⟨x1, ex1, hf⟩ := ob hf
  refine v_getI dX9_bounded_27 fl_9_92 ex1 ?_
  refine v_iconst dX9_bounded_30 (by decide) (v := 1) ?_
  refine v_isub dX9_bounded_31 ?_
  obtain ⟨h2, eh2, hf⟩ := ob hf
  refine v_put dX9_bounded_32 fp_9_92 (fun z => by cases z) (fun _ => rfl) (fun _ => rfl) eh2 ?_
  refine v_aload_n dX9_bounded_35 rfl ?_
  refine v_iconst dX9_bounded_36 (by decide) (v := 1) ?_
  obtain ⟨h3, eh3, hf⟩ := ob hf
  refine v_put dX9_bounded_37 fp_9_54 (fun z => by cases z) (fun _ => rfl) (fun _ => rfl) eh3 ?_
  exact e_X9_bounded_b40 h3 l0 l1 l2 r hf
def f_X9_bounded (h : xa_H) (l0 : Nat) (l1 : Int32) (l2 : Int32) : Option (Int32 × xa_H) :=
  (ck [9] h l0).bind fun _ =>
  (gI [9] 3 h l0).bind fun x1 =>
  if x1 = 0 then
    (aS 1 l2).bind fun x3 =>
    if l1 < x3 then
      f_X9_bounded_b25 h l0 l1 l2
    else
      (aS 2 l2).bind fun x5 =>
      if l1 ≤ x5 then
        f_X9_bounded_b40 h l0 l1 l2
      else
        f_X9_bounded_b25 h l0 l1 l2
  else
    f_X9_bounded_b40 h l0 l1 l2
set_option maxRecDepth 20000 in
theorem ev_X9_bounded {G : xa_G} {h : xa_H} {l0 : Nat} {l1 : Int32} {l2 : Int32} {r : (Int32 × xa_H)} (hf : f_X9_bounded h l0 l1 l2 = some r) : xa_Ev G M_X9_bounded 0 [.ref l0, .int l1, .int l2] h (some (.int r.1)) r.2 := by
  refine xa_entry (by decide +kernel) (loc := [some (.ref l0), some (.int l1), some (.int l2)]) rfl (Nat.le_of_ble_eq_true rfl) ?_
  unfold f_X9_bounded at hf
  obtain ⟨u0, eu0, hf⟩ := ob hf
  refine v_aload_n dX9_bounded_0 rfl ?_
  obtain ⟨x1, ex1, hf⟩ := ob hf
  refine v_getI dX9_bounded_1 fl_9_54 ex1 ?_
  refine v_if_ne dX9_bounded_4 (tgt := 40) (by decide) (fun c2 => ?_) (fun c2 => ?_)
  · replace hf := (if_neg c2).symm.trans hf
    exact e_X9_bounded_b40 h l0 l1 l2 r hf
  · replace hf := (if_pos c2).symm.trans hf
    refine v_iload_n dX9_bounded_7 rfl ?_
    refine v_gets dX9_bounded_8 (j := 1) (List.mem_of_getElem? (i := 0) rfl) gs_9_118 ?_
    refine v_iload_n dX9_bounded_11 rfl ?_
    obtain ⟨x3, ex3, hf⟩ := ob hf
    refine v_ialoadS dX9_bounded_12 ex3 ?_
    refine v_icmp_lt dX9_bounded_13 (tgt := 25) (by decide) (fun c4 => ?_) (fun c4 => ?_)
    · replace hf := (if_pos c4).symm.trans hf
      exact e_X9_bounded_b25 h l0 l1 l2 r hf
    · replace hf := (if_neg c4).symm.trans hf
      refine v_iload_n dX9_bounded_16 rfl ?_
      refine v_gets dX9_bounded_17 (j := 2) (List.mem_of_getElem? (i := 1) rfl) gs_9_121 ?_
      refine v_iload_n dX9_bounded_20 rfl ?_
      obtain ⟨x5, ex5, hf⟩ := ob hf
      refine v_ialoadS dX9_bounded_21 ex5 ?_
      refine v_icmp_le dX9_bounded_22 (tgt := 40) (by decide) (fun c6 => ?_) (fun c6 => ?_)
      · replace hf := (if_pos c6).symm.trans hf
        exact e_X9_bounded_b40 h l0 l1 l2 r hf
      · replace hf := (if_neg c6).symm.trans hf
        exact e_X9_bounded_b25 h l0 l1 l2 r hf
theorem ckf_X9_bounded {h : xa_H} {l0 : Nat} {l1 : Int32} {l2 : Int32} {r : (Int32 × xa_H)} (hf : f_X9_bounded h l0 l1 l2 = some r) : ck [9] h l0 = some () := by
  obtain ⟨u, e, -⟩ := ob hf
  exact e
def M_X9_itemOf : xa_M := (yX9_itemOf, cX9_itemOf, 4, some .int)
theorem cb_X9_itemOf : xa_CB M_X9_itemOf 3 := ⟨gws_at 590 (by decide +kernel) rfl, gws_at 111 (by decide +kernel) rfl, by decide +kernel, Nat.le_of_ble_eq_true rfl⟩
def f_X9_itemOf_b2 : Nat → xa_H → Int32 → Int32 → Int32 → Option Int32
  | 0, _, _, _, _ => none
  | n + 1, h, l0, l2, l3 =>
    if l2 ≤ l3 then
      some (-1 : Int32)
    else
      (sLen (1000000010 + 1)).bind fun x2 =>
      if x2 ≤ l3 then
        some (-1 : Int32)
      else
        (sAt (1000000010 + 1) l3).bind fun x4 =>
        if x4 = l0 then
          some l3
        else
          f_X9_itemOf_b2 n h l0 l2 (l3 + (1 : Int32))
set_option maxRecDepth 20000 in
theorem e_X9_itemOf_b2 {G : xa_G} : ∀ (n : Nat) (h : xa_H) (l0 : Int32) (l2 : Int32) (l3 : Int32) (r : Int32), f_X9_itemOf_b2 n h l0 l2 l3 = some r → xa_V G M_X9_itemOf 4 2 [some (.int l0), none, some (.int l2), some (.int l3)] [] h (some (.int r)) h := by
  intro n
  induction n with
  | zero =>
    intro h l0 l2 l3 r hf
    cases (show (none : Option Int32) = some r from hf)
  | succ n ih =>
    intro h l0 l2 l3 r hf
    rw [f_X9_itemOf_b2] at hf
    refine v_iload_n dX9_itemOf_2 rfl ?_
    refine v_iload_n dX9_itemOf_3 rfl ?_
    refine v_icmp_ge dX9_itemOf_4 (tgt := 34) (by decide) (fun c1 => ?_) (fun c1 => ?_)
    · replace hf := (if_pos c1).symm.trans hf
      refine v_iconst dX9_itemOf_34 (by decide) (v := -1) ?_
      replace hf := Option.some.inj hf
      subst hf
      exact v_iret dX9_itemOf_35 rfl
    · replace hf := (if_neg c1).symm.trans hf
      refine v_iload_n dX9_itemOf_7 rfl ?_
      refine v_ldcs dX9_itemOf_8 (List.mem_of_getElem? (i := 1) rfl) ?_
      obtain ⟨x2, ex2, hf⟩ := ob hf
      refine v_slen dX9_itemOf_10 ml_9_109 (by decide) (Nat.le_of_ble_eq_true rfl) ex2 ?_
      refine v_icmp_ge dX9_itemOf_13 (tgt := 34) (by decide) (fun c3 => ?_) (fun c3 => ?_)
      · replace hf := (if_pos c3).symm.trans hf
        refine v_iconst dX9_itemOf_34 (by decide) (v := -1) ?_
        replace hf := Option.some.inj hf
        subst hf
        exact v_iret dX9_itemOf_35 rfl
      · replace hf := (if_neg c3).symm.trans hf
        refine v_ldcs dX9_itemOf_16 (List.mem_of_getElem? (i := 1) rfl) ?_
        refine v_iload_n dX9_itemOf_18 rfl ?_
        obtain ⟨x4, ex4, hf⟩ := ob hf
        refine v_sat dX9_itemOf_19 ml_9_114 (by decide) (Nat.le_of_ble_eq_true rfl) ex4 ?_
        refine v_iload_n dX9_itemOf_22 rfl ?_
        refine v_icmp_ne dX9_itemOf_23 (tgt := 28) (by decide) (fun c5 => ?_) (fun c5 => ?_)
        · replace hf := (if_neg c5).symm.trans hf
          refine v_iinc dX9_itemOf_28 rfl (v := (l3 + (1 : Int32))) rfl (Nat.le_of_ble_eq_true rfl) (loc' := [some (.int l0), none, some (.int l2), some (.int (l3 + (1 : Int32)))]) rfl ?_
          refine v_goto dX9_itemOf_31 (tgt := 2) (by decide) ?_
          exact ih h l0 l2 (l3 + (1 : Int32)) r hf
        · replace hf := (if_pos c5).symm.trans hf
          refine v_iload_n dX9_itemOf_26 rfl ?_
          replace hf := Option.some.inj hf
          subst hf
          exact v_iret dX9_itemOf_27 rfl
def f_X9_itemOf (h : xa_H) (l0 : Int32) (l1 : Int32) (l2 : Int32) : Option Int32 :=
  f_X9_itemOf_b2 1048576 h l0 l2 l1
set_option maxRecDepth 20000 in
theorem ev_X9_itemOf {G : xa_G} {h : xa_H} {l0 : Int32} {l1 : Int32} {l2 : Int32} {r : Int32} (hf : f_X9_itemOf h l0 l1 l2 = some r) : xa_Ev G M_X9_itemOf 4 [.int l0, .int l1, .int l2] h (some (.int r)) h := by
  refine xa_entry (by decide +kernel) (loc := [some (.int l0), some (.int l1), some (.int l2), none]) rfl (Nat.le_of_ble_eq_true rfl) ?_
  unfold f_X9_itemOf at hf
  refine v_iload_n dX9_itemOf_0 rfl ?_
  refine v_istore_n (i := 3) rfl dX9_itemOf_1 (Nat.le_of_ble_eq_true rfl) (loc' := [some (.int l0), some (.int l1), some (.int l2), some (.int l1)]) rfl ?_
  exact xa_weak (loc := [some (.int l0), none, some (.int l2), some (.int l1)]) ⟨rfl, ⟨rfl, ⟨rfl, trivial⟩⟩⟩ (e_X9_itemOf_b2 1048576 h l0 l2 l1 r hf)
def M_X9_items : xa_M := (yX9_items, cX9_items, 7, none)
theorem cb_X9_items : xa_CB M_X9_items 2 := ⟨gws_at 587 (by decide +kernel) rfl, gws_at 111 (by decide +kernel) rfl, by decide +kernel, Nat.le_of_ble_eq_true rfl⟩
def f_X9_items_b90 (h : xa_H) (l0 : Nat) : Option xa_H :=
  (xp [9] 3 h l0 (.int (1 : Int32))).bind fun h1 =>
  some h1
set_option maxRecDepth 20000 in
theorem e_X9_items_b90 {G : xa_G} : ∀ (h : xa_H) (l0 : Nat) (r : xa_H), f_X9_items_b90 h l0 = some r → xa_V G M_X9_items 5 90 [some (.ref l0), none, none, none, none, none, none] [] h none r := by
  intro h l0 r hf
  unfold f_X9_items_b90 at hf
  refine v_aload_n dX9_items_90 rfl ?_
  refine v_iconst dX9_items_91 (by decide) (v := 1) ?_
  obtain ⟨h1, eh1, hf⟩ := ob hf
  refine v_put dX9_items_92 fp_9_54 (fun z => by cases z) (fun _ => rfl) (fun _ => rfl) eh1 ?_
  replace hf := Option.some.inj hf
  subst hf
  exact v_vret dX9_items_95 rfl
def f_X9_items_b39 : Nat → xa_H → Nat → Int32 → Int32 → Int32 → Int32 → Option xa_H
  | 0, _, _, _, _, _, _ => none
  | n + 1, h, l0, l1, l2, l3, l4 =>
    if l2 < l4 then
      some h
    else
      (ck [9] h l0).bind fun u3 =>
      (f_X4_peek h l0).bind fun q2 =>
      if q2.1 = (59 : Int32) then
        some q2.2
      else
        if q2.1 = (-1 : Int32) then
          some q2.2
        else
          (f_X9_itemOf q2.2 q2.1 l1 l2).bind fun q6 =>
          if q6 = (-1 : Int32) then
            f_X9_items_b90 q2.2 l0
          else
            if ((shr l3 q6) &&& (1 : Int32)) = (1 : Int32) then
              f_X9_items_b90 q2.2 l0
            else
              (gI [9] 2 q2.2 l0).bind fun x9 =>
              (xp [9] 2 q2.2 l0 (.int (x9 + (1 : Int32)))).bind fun h10 =>
              (gR [9] 5 h10 l0).bind fun x11 =>
              (ck [9] h10 l0).bind fun u13 =>
              (f_X4_number h10 l0 (2 : Int32)).bind fun q12 =>
              (f_X9_bounded q12.2 l0 q12.1 q6).bind fun q14 =>
              (pI q14.2 x11 q6 q14.1).bind fun h15 =>
              f_X9_items_b39 n h15 l0 l1 l2 (l3 ||| (shl (1 : Int32) q6)) (l4 + (1 : Int32))
set_option maxRecDepth 20000 in
theorem e_X9_items_b39 {G : xa_G} : ∀ (n : Nat) (h : xa_H) (l0 : Nat) (l1 : Int32) (l2 : Int32) (l3 : Int32) (l4 : Int32) (r : xa_H), f_X9_items_b39 n h l0 l1 l2 l3 l4 = some r → xa_V G M_X9_items 5 39 [some (.ref l0), some (.int l1), some (.int l2), some (.int l3), some (.int l4), none, none] [] h none r := by
  intro n
  induction n with
  | zero =>
    intro h l0 l1 l2 l3 l4 r hf
    cases (show (none : Option xa_H) = some r from hf)
  | succ n ih =>
    intro h l0 l1 l2 l3 l4 r hf
    rw [f_X9_items_b39] at hf
    refine v_iload dX9_items_39 rfl ?_
    refine v_iload_n dX9_items_41 rfl ?_
    refine v_icmp_gt dX9_items_42 (tgt := 137) (by decide) (fun c1 => ?_) (fun c1 => ?_)
    · replace hf := (if_pos c1).symm.trans hf
      replace hf := Option.some.inj hf
      subst hf
      exact v_vret dX9_items_137 rfl
    · replace hf := (if_neg c1).symm.trans hf
      refine v_aload_n dX9_items_45 rfl ?_
      obtain ⟨u3, eu3, hf⟩ := ob hf
      obtain ⟨q2, eq2, hf⟩ := ob hf
      refine v_callU dX9_items_46 ⟨cb_X4_peek, ml_9_73, im_X4_peek, sm2_9_X4_peek, by decide +kernel, by decide +kernel, by decide +kernel, by decide +kernel⟩ se_9_X4_peek_9 eu3 (ev_X4_peek eq2) (by decide) (As := []) rfl (st := []) rfl (Nat.le_of_ble_eq_true rfl) rfl ?_
      refine v_istore dX9_items_49 (Nat.le_of_ble_eq_true rfl) (loc' := [some (.ref l0), some (.int l1), some (.int l2), some (.int l3), some (.int l4), some (.int q2.1), none]) rfl ?_
      refine v_iload dX9_items_51 rfl ?_
      refine v_bipush dX9_items_53 (by decide) (v := 59) ?_
      refine v_icmp_eq dX9_items_55 (tgt := 64) (by decide) (fun c4 => ?_) (fun c4 => ?_)
      · replace hf := (if_pos c4).symm.trans hf
        replace hf := Option.some.inj hf
        subst hf
        exact v_vret dX9_items_64 rfl
      · replace hf := (if_neg c4).symm.trans hf
        refine v_iload dX9_items_58 rfl ?_
        refine v_iconst dX9_items_60 (by decide) (v := -1) ?_
        refine v_icmp_ne dX9_items_61 (tgt := 65) (by decide) (fun c5 => ?_) (fun c5 => ?_)
        · replace hf := (if_neg c5).symm.trans hf
          refine v_iload dX9_items_65 rfl ?_
          refine v_iload_n dX9_items_67 rfl ?_
          refine v_iload_n dX9_items_68 rfl ?_
          obtain ⟨q6, eq6, hf⟩ := ob hf
          refine v_callS dX9_items_69 ⟨cb_X9_itemOf, ml_9_95, sm_X9_itemOf⟩ (ev_X9_itemOf eq6) (by decide) (As := [.int q2.1, .int l1, .int l2]) rfl (st := []) rfl (Nat.le_of_ble_eq_true rfl) rfl ?_
          refine v_istore dX9_items_72 (Nat.le_of_ble_eq_true rfl) (loc' := [some (.ref l0), some (.int l1), some (.int l2), some (.int l3), some (.int l4), some (.int q2.1), some (.int q6)]) rfl ?_
          refine v_iload dX9_items_74 rfl ?_
          refine v_iconst dX9_items_76 (by decide) (v := -1) ?_
          refine v_icmp_eq dX9_items_77 (tgt := 90) (by decide) (fun c7 => ?_) (fun c7 => ?_)
          · replace hf := (if_pos c7).symm.trans hf
            exact xa_weak (loc := [some (.ref l0), none, none, none, none, none, none]) ⟨rfl, trivial⟩ (e_X9_items_b90 q2.2 l0 r hf)
          · replace hf := (if_neg c7).symm.trans hf
            refine v_iload_n dX9_items_80 rfl ?_
            refine v_iload dX9_items_81 rfl ?_
            refine w_ishr dX9_items_83 ?_
            refine v_iconst dX9_items_84 (by decide) (v := 1) ?_
            refine v_iand dX9_items_85 ?_
            refine v_iconst dX9_items_86 (by decide) (v := 1) ?_
            refine v_icmp_ne dX9_items_87 (tgt := 96) (by decide) (fun c8 => ?_) (fun c8 => ?_)
            · replace hf := (if_neg c8).symm.trans hf
              refine v_iload_n dX9_items_96 rfl ?_
              refine v_iconst dX9_items_97 (by decide) (v := 1) ?_
              refine v_iload dX9_items_98 rfl ?_
              refine w_ishl dX9_items_100 ?_
              refine v_ior dX9_items_101 ?_
              refine v_istore_n (i := 3) rfl dX9_items_102 (Nat.le_of_ble_eq_true rfl) (loc' := [some (.ref l0), some (.int l1), some (.int l2), some (.int (l3 ||| (shl (1 : Int32) q6))), some (.int l4), some (.int q2.1), some (.int q6)]) rfl ?_
              refine v_aload_n dX9_items_103 rfl ?_
              refine v_dup dX9_items_104 rfl ?_
              obtain ⟨x9, ex9, hf⟩ := ob hf
              refine v_getI dX9_items_105 fl_9_92 ex9 ?_
              refine v_iconst dX9_items_108 (by decide) (v := 1) ?_
              refine v_iadd dX9_items_109 ?_
              obtain ⟨h10, eh10, hf⟩ := ob hf
              refine v_put dX9_items_110 fp_9_92 (fun z => by cases z) (fun _ => rfl) (fun _ => rfl) eh10 ?_
              refine v_aload_n dX9_items_113 rfl ?_
              obtain ⟨x11, ex11, hf⟩ := ob hf
              refine v_getR dX9_items_114 fl_9_18 ex11 ?_
              refine v_iload dX9_items_117 rfl ?_
              refine v_aload_n dX9_items_119 rfl ?_
              refine v_aload_n dX9_items_120 rfl ?_
              refine v_iconst dX9_items_121 (by decide) (v := 2) ?_
              obtain ⟨u13, eu13, hf⟩ := ob hf
              obtain ⟨q12, eq12, hf⟩ := ob hf
              refine v_callU dX9_items_122 ⟨cb_X4_number, ml_9_99, im_X4_number, sm2_9_X4_number, by decide +kernel, by decide +kernel, by decide +kernel, by decide +kernel⟩ se_9_X4_number_9 eu13 (ev_X4_number eq12) (by decide) (As := [.int (2 : Int32)]) rfl (st := [.ref l0, .int q6, .ref x11]) rfl (Nat.le_of_ble_eq_true rfl) rfl ?_
              refine v_iload dX9_items_125 rfl ?_
              obtain ⟨q14, eq14, hf⟩ := ob hf
              refine v_callV dX9_items_127 ⟨cb_X9_bounded, ml_9_103, im_X9_bounded⟩ se_9_X9_bounded (ckf_X9_bounded eq14) (ev_X9_bounded eq14) (by decide) (As := [.int q12.1, .int q6]) rfl (st := [.int q6, .ref x11]) rfl (Nat.le_of_ble_eq_true rfl) rfl ?_
              obtain ⟨h15, eh15, hf⟩ := ob hf
              refine v_iastoreI dX9_items_130 eh15 ?_
              refine v_iinc dX9_items_131 rfl (v := (l4 + (1 : Int32))) rfl (Nat.le_of_ble_eq_true rfl) (loc' := [some (.ref l0), some (.int l1), some (.int l2), some (.int (l3 ||| (shl (1 : Int32) q6))), some (.int (l4 + (1 : Int32))), some (.int q2.1), some (.int q6)]) rfl ?_
              refine v_goto dX9_items_134 (tgt := 39) (by decide) ?_
              exact xa_weak (loc := [some (.ref l0), some (.int l1), some (.int l2), some (.int (l3 ||| (shl (1 : Int32) q6))), some (.int (l4 + (1 : Int32))), none, none]) ⟨rfl, ⟨rfl, ⟨rfl, ⟨rfl, ⟨rfl, trivial⟩⟩⟩⟩⟩ (ih h15 l0 l1 l2 (l3 ||| (shl (1 : Int32) q6)) (l4 + (1 : Int32)) r hf)
            · replace hf := (if_pos c8).symm.trans hf
              exact xa_weak (loc := [some (.ref l0), none, none, none, none, none, none]) ⟨rfl, trivial⟩ (e_X9_items_b90 q2.2 l0 r hf)
        · replace hf := (if_pos c5).symm.trans hf
          replace hf := Option.some.inj hf
          subst hf
          exact v_vret dX9_items_64 rfl
def f_X9_items_b12 : Nat → xa_H → Nat → Int32 → Int32 → Int32 → Option xa_H
  | 0, _, _, _, _, _ => none
  | n + 1, h, l0, l1, l2, l3 =>
    if l2 ≤ l3 then
      f_X9_items_b39 1048576 h l0 l1 l2 (0 : Int32) l1
    else
      (gR [9] 5 h l0).bind fun x2 =>
      (aS 3 l3).bind fun x3 =>
      (pI h x2 l3 x3).bind fun h4 =>
      f_X9_items_b12 n h4 l0 l1 l2 (l3 + (1 : Int32))
set_option maxRecDepth 20000 in
theorem e_X9_items_b12 {G : xa_G} : ∀ (n : Nat) (h : xa_H) (l0 : Nat) (l1 : Int32) (l2 : Int32) (l3 : Int32) (r : xa_H), f_X9_items_b12 n h l0 l1 l2 l3 = some r → xa_V G M_X9_items 5 12 [some (.ref l0), some (.int l1), some (.int l2), some (.int l3), none, none, none] [] h none r := by
  intro n
  induction n with
  | zero =>
    intro h l0 l1 l2 l3 r hf
    cases (show (none : Option xa_H) = some r from hf)
  | succ n ih =>
    intro h l0 l1 l2 l3 r hf
    rw [f_X9_items_b12] at hf
    refine v_iload_n dX9_items_12 rfl ?_
    refine v_iload_n dX9_items_13 rfl ?_
    refine v_icmp_ge dX9_items_14 (tgt := 34) (by decide) (fun c1 => ?_) (fun c1 => ?_)
    · replace hf := (if_pos c1).symm.trans hf
      refine v_iconst dX9_items_34 (by decide) (v := 0) ?_
      refine v_istore_n (i := 3) rfl dX9_items_35 (Nat.le_of_ble_eq_true rfl) (loc' := [some (.ref l0), some (.int l1), some (.int l2), some (.int (0 : Int32)), none, none, none]) rfl ?_
      refine v_iload_n dX9_items_36 rfl ?_
      refine v_istore dX9_items_37 (Nat.le_of_ble_eq_true rfl) (loc' := [some (.ref l0), some (.int l1), some (.int l2), some (.int (0 : Int32)), some (.int l1), none, none]) rfl ?_
      exact e_X9_items_b39 1048576 h l0 l1 l2 (0 : Int32) l1 r hf
    · replace hf := (if_neg c1).symm.trans hf
      refine v_aload_n dX9_items_17 rfl ?_
      obtain ⟨x2, ex2, hf⟩ := ob hf
      refine v_getR dX9_items_18 fl_9_18 ex2 ?_
      refine v_iload_n dX9_items_21 rfl ?_
      refine v_gets dX9_items_22 (j := 3) (List.mem_of_getElem? (i := 2) rfl) gs_9_64 ?_
      refine v_iload_n dX9_items_25 rfl ?_
      obtain ⟨x3, ex3, hf⟩ := ob hf
      refine v_ialoadS dX9_items_26 ex3 ?_
      obtain ⟨h4, eh4, hf⟩ := ob hf
      refine v_iastoreI dX9_items_27 eh4 ?_
      refine v_iinc dX9_items_28 rfl (v := (l3 + (1 : Int32))) rfl (Nat.le_of_ble_eq_true rfl) (loc' := [some (.ref l0), some (.int l1), some (.int l2), some (.int (l3 + (1 : Int32))), none, none, none]) rfl ?_
      refine v_goto dX9_items_31 (tgt := 12) (by decide) ?_
      exact ih h4 l0 l1 l2 (l3 + (1 : Int32)) r hf
def f_X9_items (h : xa_H) (l0 : Nat) (l1 : Int32) (l2 : Int32) : Option xa_H :=
  (ck [9] h l0).bind fun _ =>
  (gI [9] 2 h l0).bind fun x1 =>
  (xp [9] 2 h l0 (.int (x1 + (1 : Int32)))).bind fun h2 =>
  f_X9_items_b12 1048576 h2 l0 l1 l2 l1
set_option maxRecDepth 20000 in
theorem ev_X9_items {G : xa_G} {h : xa_H} {l0 : Nat} {l1 : Int32} {l2 : Int32} {r : xa_H} (hf : f_X9_items h l0 l1 l2 = some r) : xa_Ev G M_X9_items 5 [.ref l0, .int l1, .int l2] h none r := by
  refine xa_entry (by decide +kernel) (loc := [some (.ref l0), some (.int l1), some (.int l2), none, none, none, none]) rfl (Nat.le_of_ble_eq_true rfl) ?_
  unfold f_X9_items at hf
  obtain ⟨u0, eu0, hf⟩ := ob hf
  refine v_aload_n dX9_items_0 rfl ?_
  refine v_dup dX9_items_1 rfl ?_
  obtain ⟨x1, ex1, hf⟩ := ob hf
  refine v_getI dX9_items_2 fl_9_92 ex1 ?_
  refine v_iconst dX9_items_5 (by decide) (v := 1) ?_
  refine v_iadd dX9_items_6 ?_
  obtain ⟨h2, eh2, hf⟩ := ob hf
  refine v_put dX9_items_7 fp_9_92 (fun z => by cases z) (fun _ => rfl) (fun _ => rfl) eh2 ?_
  refine v_iload_n dX9_items_10 rfl ?_
  refine v_istore_n (i := 3) rfl dX9_items_11 (Nat.le_of_ble_eq_true rfl) (loc' := [some (.ref l0), some (.int l1), some (.int l2), some (.int l1), none, none, none]) rfl ?_
  exact e_X9_items_b12 1048576 h2 l0 l1 l2 l1 r hf
theorem ckf_X9_items {h : xa_H} {l0 : Nat} {l1 : Int32} {l2 : Int32} {r : xa_H} (hf : f_X9_items h l0 l1 l2 = some r) : ck [9] h l0 = some () := by
  obtain ⟨u, e, -⟩ := ob hf
  exact e
def M_X9_tellFavours : xa_M := (yX9_tellFavours, cX9_tellFavours, 3, none)
theorem cb_X9_tellFavours : xa_CB M_X9_tellFavours 0 := ⟨gws_at 660 (by decide +kernel) rfl, gws_at 111 (by decide +kernel) rfl, by decide +kernel, Nat.le_of_ble_eq_true rfl⟩
def f_X9_tellFavours (h : xa_H) (l0 : Nat) : Option xa_H :=
  (ck [9] h l0).bind fun _ =>
  (gR [9] 5 h l0).bind fun x1 =>
  (aI h x1 (5 : Int32)).bind fun x2 =>
  (gR [9] 5 h l0).bind fun x3 =>
  (aI h x3 (6 : Int32)).bind fun x4 =>
  (gI [9] 7 h l0).bind fun x5 =>
  (xp [9] 7 h l0 (.int (x5 + (1 : Int32)))).bind fun h6 =>
  (gI [9] 8 h6 l0).bind fun x7 =>
  (xp [9] 8 h6 l0 (.int (imax x7 (imax x2 x4)))).bind fun h8 =>
  if x2 = x4 then
    (xp [9] 9 h8 l0 (.int (1 : Int32))).bind fun h16 =>
    some h16
  else
    (gR [9] 4 h8 l0).bind fun x10 =>
    (gR [9] 4 h8 l0).bind fun x11 =>
    (f_X0_debt h8 x11 x2 x4).bind fun q12 =>
    (gR [9] 5 h8 l0).bind fun x13 =>
    (aI h8 x13 (7 : Int32)).bind fun x14 =>
    (f_X0_setDebt h8 x10 x2 x4 (q12 + x14)).bind fun q15 =>
    some q15
set_option maxRecDepth 20000 in
theorem ev_X9_tellFavours {G : xa_G} {h : xa_H} {l0 : Nat} {r : xa_H} (hf : f_X9_tellFavours h l0 = some r) : xa_Ev G M_X9_tellFavours 1 [.ref l0] h none r := by
  refine xa_entry (by decide +kernel) (loc := [some (.ref l0), none, none]) rfl (Nat.le_of_ble_eq_true rfl) ?_
  unfold f_X9_tellFavours at hf
  obtain ⟨u0, eu0, hf⟩ := ob hf
  refine v_aload_n dX9_tellFavours_0 rfl ?_
  obtain ⟨x1, ex1, hf⟩ := ob hf
  refine v_getR dX9_tellFavours_1 fl_9_18 ex1 ?_
  refine v_iconst dX9_tellFavours_4 (by decide) (v := 5) ?_
  obtain ⟨x2, ex2, hf⟩ := ob hf
  refine v_ialoadI dX9_tellFavours_5 ex2 ?_
  refine v_istore_n (i := 1) rfl dX9_tellFavours_6 (Nat.le_of_ble_eq_true rfl) (loc' := [some (.ref l0), some (.int x2), none]) rfl ?_
  refine v_aload_n dX9_tellFavours_7 rfl ?_
  obtain ⟨x3, ex3, hf⟩ := ob hf
  refine v_getR dX9_tellFavours_8 fl_9_18 ex3 ?_
  refine v_bipush dX9_tellFavours_11 (by decide) (v := 6) ?_
  obtain ⟨x4, ex4, hf⟩ := ob hf
  refine v_ialoadI dX9_tellFavours_13 ex4 ?_
  refine v_istore_n (i := 2) rfl dX9_tellFavours_14 (Nat.le_of_ble_eq_true rfl) (loc' := [some (.ref l0), some (.int x2), some (.int x4)]) rfl ?_
  refine v_aload_n dX9_tellFavours_15 rfl ?_
  refine v_dup dX9_tellFavours_16 rfl ?_
  obtain ⟨x5, ex5, hf⟩ := ob hf
  refine v_getI dX9_tellFavours_17 fl_9_26 ex5 ?_
  refine v_iconst dX9_tellFavours_20 (by decide) (v := 1) ?_
  refine v_iadd dX9_tellFavours_21 ?_
  obtain ⟨h6, eh6, hf⟩ := ob hf
  refine v_put dX9_tellFavours_22 fp_9_26 (fun z => by cases z) (fun _ => rfl) (fun _ => rfl) eh6 ?_
  refine v_aload_n dX9_tellFavours_25 rfl ?_
  refine v_aload_n dX9_tellFavours_26 rfl ?_
  obtain ⟨x7, ex7, hf⟩ := ob hf
  refine v_getI dX9_tellFavours_27 fl_9_30 ex7 ?_
  refine v_iload_n dX9_tellFavours_30 rfl ?_
  refine v_iload_n dX9_tellFavours_31 rfl ?_
  refine w_mmax dX9_tellFavours_32 mw_9_133 (by decide) (Nat.le_of_ble_eq_true rfl) ?_
  refine w_mmax dX9_tellFavours_35 mw_9_133 (by decide) (Nat.le_of_ble_eq_true rfl) ?_
  obtain ⟨h8, eh8, hf⟩ := ob hf
  refine v_put dX9_tellFavours_38 fp_9_30 (fun z => by cases z) (fun _ => rfl) (fun _ => rfl) eh8 ?_
  refine v_iload_n dX9_tellFavours_41 rfl ?_
  refine v_iload_n dX9_tellFavours_42 rfl ?_
  refine v_icmp_ne dX9_tellFavours_43 (tgt := 54) (by decide) (fun c9 => ?_) (fun c9 => ?_)
  · replace hf := (if_neg c9).symm.trans hf
    refine v_aload_n dX9_tellFavours_54 rfl ?_
    obtain ⟨x10, ex10, hf⟩ := ob hf
    refine v_getR dX9_tellFavours_55 fl_9_12 ex10 ?_
    refine v_iload_n dX9_tellFavours_58 rfl ?_
    refine v_iload_n dX9_tellFavours_59 rfl ?_
    refine v_aload_n dX9_tellFavours_60 rfl ?_
    obtain ⟨x11, ex11, hf⟩ := ob hf
    refine v_getR dX9_tellFavours_61 fl_9_12 ex11 ?_
    refine v_iload_n dX9_tellFavours_64 rfl ?_
    refine v_iload_n dX9_tellFavours_65 rfl ?_
    obtain ⟨q12, eq12, hf⟩ := ob hf
    refine v_callV dX9_tellFavours_66 ⟨cb_X0_debt, ml_9_138, im_X0_debt⟩ se_0_X0_debt (ckf_X0_debt eq12) (ev_X0_debt eq12) (by decide) (As := [.int x2, .int x4]) rfl (st := [.int x4, .int x2, .ref x10]) rfl (Nat.le_of_ble_eq_true rfl) rfl ?_
    refine v_aload_n dX9_tellFavours_69 rfl ?_
    obtain ⟨x13, ex13, hf⟩ := ob hf
    refine v_getR dX9_tellFavours_70 fl_9_18 ex13 ?_
    refine v_bipush dX9_tellFavours_73 (by decide) (v := 7) ?_
    obtain ⟨x14, ex14, hf⟩ := ob hf
    refine v_ialoadI dX9_tellFavours_75 ex14 ?_
    refine v_iadd dX9_tellFavours_76 ?_
    obtain ⟨q15, eq15, hf⟩ := ob hf
    refine v_callV dX9_tellFavours_77 ⟨cb_X0_setDebt, ml_9_141, im_X0_setDebt⟩ se_0_X0_setDebt (ckf_X0_setDebt eq15) (ev_X0_setDebt eq15) (by decide) (As := [.int x2, .int x4, .int (q12 + x14)]) rfl (st := []) rfl (Nat.le_of_ble_eq_true rfl) rfl ?_
    replace hf := Option.some.inj hf
    subst hf
    exact v_vret dX9_tellFavours_80 rfl
  · replace hf := (if_pos c9).symm.trans hf
    refine v_aload_n dX9_tellFavours_46 rfl ?_
    refine v_iconst dX9_tellFavours_47 (by decide) (v := 1) ?_
    obtain ⟨h16, eh16, hf⟩ := ob hf
    refine v_put dX9_tellFavours_48 fp_9_33 (fun z => by cases z) (fun _ => rfl) (fun _ => rfl) eh16 ?_
    refine v_goto dX9_tellFavours_51 (tgt := 80) (by decide) ?_
    replace hf := Option.some.inj hf
    subst hf
    exact v_vret dX9_tellFavours_80 rfl
theorem ckf_X9_tellFavours {h : xa_H} {l0 : Nat} {r : xa_H} (hf : f_X9_tellFavours h l0 = some r) : ck [9] h l0 = some () := by
  obtain ⟨u, e, -⟩ := ob hf
  exact e
def M_X9_tellHouse : xa_M := (yX9_tellHouse, cX9_tellHouse, 2, none)
theorem cb_X9_tellHouse : xa_CB M_X9_tellHouse 0 := ⟨gws_at 656 (by decide +kernel) rfl, gws_at 111 (by decide +kernel) rfl, by decide +kernel, Nat.le_of_ble_eq_true rfl⟩
def f_X9_tellHouse (h : xa_H) (l0 : Nat) : Option xa_H :=
  (ck [9] h l0).bind fun _ =>
  (gR [9] 4 h l0).bind fun x1 =>
  (gI [0] 4 h x1).bind fun x2 =>
  (gR [9] 4 h l0).bind fun x3 =>
  (gR [0] 1 h x3).bind fun x4 =>
  (gR [9] 5 h l0).bind fun x5 =>
  (aI h x5 (2 : Int32)).bind fun x6 =>
  (pI h x4 x2 x6).bind fun h7 =>
  (gR [9] 4 h7 l0).bind fun x8 =>
  (gR [0] 2 h7 x8).bind fun x9 =>
  (gR [9] 5 h7 l0).bind fun x10 =>
  (aI h7 x10 (3 : Int32)).bind fun x11 =>
  (pI h7 x9 x2 x11).bind fun h12 =>
  (gR [9] 4 h12 l0).bind fun x13 =>
  (gI [0] 6 h12 x13).bind fun x14 =>
  (gR [9] 5 h12 l0).bind fun x15 =>
  (aI h12 x15 (4 : Int32)).bind fun x16 =>
  (xp [0] 6 h12 x13 (.int (x14 ||| (shl x16 x2)))).bind fun h17 =>
  (gR [9] 4 h17 l0).bind fun x18 =>
  (gI [0] 4 h17 x18).bind fun x19 =>
  (xp [0] 4 h17 x18 (.int (x19 + (1 : Int32)))).bind fun h20 =>
  some h20
set_option maxRecDepth 20000 in
theorem ev_X9_tellHouse {G : xa_G} {h : xa_H} {l0 : Nat} {r : xa_H} (hf : f_X9_tellHouse h l0 = some r) : xa_Ev G M_X9_tellHouse 0 [.ref l0] h none r := by
  refine xa_entry (by decide +kernel) (loc := [some (.ref l0), none]) rfl (Nat.le_of_ble_eq_true rfl) ?_
  unfold f_X9_tellHouse at hf
  obtain ⟨u0, eu0, hf⟩ := ob hf
  refine v_aload_n dX9_tellHouse_0 rfl ?_
  obtain ⟨x1, ex1, hf⟩ := ob hf
  refine v_getR dX9_tellHouse_1 fl_9_12 ex1 ?_
  obtain ⟨x2, ex2, hf⟩ := ob hf
  refine v_getI dX9_tellHouse_4 fl_9_83 ex2 ?_
  refine v_istore_n (i := 1) rfl dX9_tellHouse_7 (Nat.le_of_ble_eq_true rfl) (loc' := [some (.ref l0), some (.int x2)]) rfl ?_
  refine v_aload_n dX9_tellHouse_8 rfl ?_
  obtain ⟨x3, ex3, hf⟩ := ob hf
  refine v_getR dX9_tellHouse_9 fl_9_12 ex3 ?_
  obtain ⟨x4, ex4, hf⟩ := ob hf
  refine v_getR dX9_tellHouse_12 fl_9_124 ex4 ?_
  refine v_iload_n dX9_tellHouse_15 rfl ?_
  refine v_aload_n dX9_tellHouse_16 rfl ?_
  obtain ⟨x5, ex5, hf⟩ := ob hf
  refine v_getR dX9_tellHouse_17 fl_9_18 ex5 ?_
  refine v_iconst dX9_tellHouse_20 (by decide) (v := 2) ?_
  obtain ⟨x6, ex6, hf⟩ := ob hf
  refine v_ialoadI dX9_tellHouse_21 ex6 ?_
  obtain ⟨h7, eh7, hf⟩ := ob hf
  refine v_iastoreI dX9_tellHouse_22 eh7 ?_
  refine v_aload_n dX9_tellHouse_23 rfl ?_
  obtain ⟨x8, ex8, hf⟩ := ob hf
  refine v_getR dX9_tellHouse_24 fl_9_12 ex8 ?_
  obtain ⟨x9, ex9, hf⟩ := ob hf
  refine v_getR dX9_tellHouse_27 fl_9_127 ex9 ?_
  refine v_iload_n dX9_tellHouse_30 rfl ?_
  refine v_aload_n dX9_tellHouse_31 rfl ?_
  obtain ⟨x10, ex10, hf⟩ := ob hf
  refine v_getR dX9_tellHouse_32 fl_9_18 ex10 ?_
  refine v_iconst dX9_tellHouse_35 (by decide) (v := 3) ?_
  obtain ⟨x11, ex11, hf⟩ := ob hf
  refine v_ialoadI dX9_tellHouse_36 ex11 ?_
  obtain ⟨h12, eh12, hf⟩ := ob hf
  refine v_iastoreI dX9_tellHouse_37 eh12 ?_
  refine v_aload_n dX9_tellHouse_38 rfl ?_
  obtain ⟨x13, ex13, hf⟩ := ob hf
  refine v_getR dX9_tellHouse_39 fl_9_12 ex13 ?_
  refine v_dup dX9_tellHouse_42 rfl ?_
  obtain ⟨x14, ex14, hf⟩ := ob hf
  refine v_getI dX9_tellHouse_43 fl_9_130 ex14 ?_
  refine v_aload_n dX9_tellHouse_46 rfl ?_
  obtain ⟨x15, ex15, hf⟩ := ob hf
  refine v_getR dX9_tellHouse_47 fl_9_18 ex15 ?_
  refine v_iconst dX9_tellHouse_50 (by decide) (v := 4) ?_
  obtain ⟨x16, ex16, hf⟩ := ob hf
  refine v_ialoadI dX9_tellHouse_51 ex16 ?_
  refine v_iload_n dX9_tellHouse_52 rfl ?_
  refine w_ishl dX9_tellHouse_53 ?_
  refine v_ior dX9_tellHouse_54 ?_
  obtain ⟨h17, eh17, hf⟩ := ob hf
  refine v_put dX9_tellHouse_55 fp_9_130 (fun z => by cases z) (fun _ => rfl) (fun _ => rfl) eh17 ?_
  refine v_aload_n dX9_tellHouse_58 rfl ?_
  obtain ⟨x18, ex18, hf⟩ := ob hf
  refine v_getR dX9_tellHouse_59 fl_9_12 ex18 ?_
  refine v_dup dX9_tellHouse_62 rfl ?_
  obtain ⟨x19, ex19, hf⟩ := ob hf
  refine v_getI dX9_tellHouse_63 fl_9_83 ex19 ?_
  refine v_iconst dX9_tellHouse_66 (by decide) (v := 1) ?_
  refine v_iadd dX9_tellHouse_67 ?_
  obtain ⟨h20, eh20, hf⟩ := ob hf
  refine v_put dX9_tellHouse_68 fp_9_83 (fun z => by cases z) (fun _ => rfl) (fun _ => rfl) eh20 ?_
  replace hf := Option.some.inj hf
  subst hf
  exact v_vret dX9_tellHouse_71 rfl
theorem ckf_X9_tellHouse {h : xa_H} {l0 : Nat} {r : xa_H} (hf : f_X9_tellHouse h l0 = some r) : ck [9] h l0 = some () := by
  obtain ⟨u, e, -⟩ := ob hf
  exact e
def M_X9_tellRules : xa_M := (yX9_tellRules, cX9_tellRules, 1, none)
theorem cb_X9_tellRules : xa_CB M_X9_tellRules 0 := ⟨gws_at 652 (by decide +kernel) rfl, gws_at 111 (by decide +kernel) rfl, by decide +kernel, Nat.le_of_ble_eq_true rfl⟩
def f_X9_tellRules (h : xa_H) (l0 : Nat) : Option xa_H :=
  (ck [9] h l0).bind fun _ =>
  (gR [9] 4 h l0).bind fun x1 =>
  (gR [9] 5 h l0).bind fun x2 =>
  (aI h x2 (0 : Int32)).bind fun x3 =>
  (xp [0] 7 h x1 (.int x3)).bind fun h4 =>
  (gR [9] 4 h4 l0).bind fun x5 =>
  (gR [9] 5 h4 l0).bind fun x6 =>
  (aI h4 x6 (1 : Int32)).bind fun x7 =>
  (xp [0] 5 h4 x5 (.int x7)).bind fun h8 =>
  (xp [9] 6 h8 l0 (.int (1 : Int32))).bind fun h9 =>
  some h9
set_option maxRecDepth 20000 in
theorem ev_X9_tellRules {G : xa_G} {h : xa_H} {l0 : Nat} {r : xa_H} (hf : f_X9_tellRules h l0 = some r) : xa_Ev G M_X9_tellRules 0 [.ref l0] h none r := by
  refine xa_entry (by decide +kernel) (loc := [some (.ref l0)]) rfl (Nat.le_of_ble_eq_true rfl) ?_
  unfold f_X9_tellRules at hf
  obtain ⟨u0, eu0, hf⟩ := ob hf
  refine v_aload_n dX9_tellRules_0 rfl ?_
  obtain ⟨x1, ex1, hf⟩ := ob hf
  refine v_getR dX9_tellRules_1 fl_9_12 ex1 ?_
  refine v_aload_n dX9_tellRules_4 rfl ?_
  obtain ⟨x2, ex2, hf⟩ := ob hf
  refine v_getR dX9_tellRules_5 fl_9_18 ex2 ?_
  refine v_iconst dX9_tellRules_8 (by decide) (v := 0) ?_
  obtain ⟨x3, ex3, hf⟩ := ob hf
  refine v_ialoadI dX9_tellRules_9 ex3 ?_
  obtain ⟨h4, eh4, hf⟩ := ob hf
  refine v_put dX9_tellRules_10 fp_9_67 (fun z => by cases z) (fun _ => rfl) (fun _ => rfl) eh4 ?_
  refine v_aload_n dX9_tellRules_13 rfl ?_
  obtain ⟨x5, ex5, hf⟩ := ob hf
  refine v_getR dX9_tellRules_14 fl_9_12 ex5 ?_
  refine v_aload_n dX9_tellRules_17 rfl ?_
  obtain ⟨x6, ex6, hf⟩ := ob hf
  refine v_getR dX9_tellRules_18 fl_9_18 ex6 ?_
  refine v_iconst dX9_tellRules_21 (by decide) (v := 1) ?_
  obtain ⟨x7, ex7, hf⟩ := ob hf
  refine v_ialoadI dX9_tellRules_22 ex7 ?_
  obtain ⟨h8, eh8, hf⟩ := ob hf
  refine v_put dX9_tellRules_23 fp_9_70 (fun z => by cases z) (fun _ => rfl) (fun _ => rfl) eh8 ?_
  refine v_aload_n dX9_tellRules_26 rfl ?_
  refine v_iconst dX9_tellRules_27 (by decide) (v := 1) ?_
  obtain ⟨h9, eh9, hf⟩ := ob hf
  refine v_put dX9_tellRules_28 fp_9_22 (fun z => by cases z) (fun _ => rfl) (fun _ => rfl) eh9 ?_
  replace hf := Option.some.inj hf
  subst hf
  exact v_vret dX9_tellRules_31 rfl
theorem ckf_X9_tellRules {h : xa_H} {l0 : Nat} {r : xa_H} (hf : f_X9_tellRules h l0 = some r) : ck [9] h l0 = some () := by
  obtain ⟨u, e, -⟩ := ob hf
  exact e
def M_X9_clause : xa_M := (yX9_clause, cX9_clause, 2, none)
theorem cb_X9_clause : xa_CB M_X9_clause 0 := ⟨gws_at 577 (by decide +kernel) rfl, gws_at 111 (by decide +kernel) rfl, by decide +kernel, Nat.le_of_ble_eq_true rfl⟩
def f_X9_clause_b91 (h : xa_H) (l0 : Nat) : Option xa_H :=
  (xp [9] 3 h l0 (.int (1 : Int32))).bind fun h1 =>
  some h1
set_option maxRecDepth 20000 in
theorem e_X9_clause_b91 {G : xa_G} : ∀ (h : xa_H) (l0 : Nat) (r : xa_H), f_X9_clause_b91 h l0 = some r → xa_V G M_X9_clause 6 91 [some (.ref l0), none] [] h none r := by
  intro h l0 r hf
  unfold f_X9_clause_b91 at hf
  refine v_aload_n dX9_clause_91 rfl ?_
  refine v_iconst dX9_clause_92 (by decide) (v := 1) ?_
  obtain ⟨h1, eh1, hf⟩ := ob hf
  refine v_put dX9_clause_93 fp_9_54 (fun z => by cases z) (fun _ => rfl) (fun _ => rfl) eh1 ?_
  replace hf := Option.some.inj hf
  subst hf
  exact v_vret dX9_clause_96 rfl
def f_X9_clause_b62 (h : xa_H) (l0 : Nat) (l1 : Int32) : Option xa_H :=
  if l1 = (102 : Int32) then
    (gI [9] 7 h l0).bind fun x2 =>
    if (12 : Int32) ≤ x2 then
      f_X9_clause_b91 h l0
    else
      (f_X9_items h l0 (5 : Int32) (8 : Int32)).bind fun q4 =>
      (f_X9_tellFavours q4 l0).bind fun q5 =>
      some q5
  else
    f_X9_clause_b91 h l0
set_option maxRecDepth 20000 in
theorem e_X9_clause_b62 {G : xa_G} : ∀ (h : xa_H) (l0 : Nat) (l1 : Int32) (r : xa_H), f_X9_clause_b62 h l0 l1 = some r → xa_V G M_X9_clause 6 62 [some (.ref l0), some (.int l1)] [] h none r := by
  intro h l0 l1 r hf
  unfold f_X9_clause_b62 at hf
  refine v_iload_n dX9_clause_62 rfl ?_
  refine v_bipush dX9_clause_63 (by decide) (v := 102) ?_
  refine v_icmp_ne dX9_clause_65 (tgt := 91) (by decide) (fun c1 => ?_) (fun c1 => ?_)
  · replace hf := (if_neg c1).symm.trans hf
    exact xa_weak (loc := [some (.ref l0), none]) ⟨rfl, trivial⟩ (e_X9_clause_b91 h l0 r hf)
  · replace hf := (if_pos c1).symm.trans hf
    refine v_aload_n dX9_clause_68 rfl ?_
    obtain ⟨x2, ex2, hf⟩ := ob hf
    refine v_getI dX9_clause_69 fl_9_26 ex2 ?_
    refine v_bipush dX9_clause_72 (by decide) (v := 12) ?_
    refine v_icmp_ge dX9_clause_74 (tgt := 91) (by decide) (fun c3 => ?_) (fun c3 => ?_)
    · replace hf := (if_pos c3).symm.trans hf
      exact xa_weak (loc := [some (.ref l0), none]) ⟨rfl, trivial⟩ (e_X9_clause_b91 h l0 r hf)
    · replace hf := (if_neg c3).symm.trans hf
      refine v_aload_n dX9_clause_77 rfl ?_
      refine v_iconst dX9_clause_78 (by decide) (v := 5) ?_
      refine v_bipush dX9_clause_79 (by decide) (v := 8) ?_
      obtain ⟨q4, eq4, hf⟩ := ob hf
      refine v_callV dX9_clause_81 ⟨cb_X9_items, ml_9_76, im_X9_items⟩ se_9_X9_items (ckf_X9_items eq4) (ev_X9_items eq4) (by decide) (As := [.int (5 : Int32), .int (8 : Int32)]) rfl (st := []) rfl (Nat.le_of_ble_eq_true rfl) rfl ?_
      refine v_aload_n dX9_clause_84 rfl ?_
      obtain ⟨q5, eq5, hf⟩ := ob hf
      refine v_callV dX9_clause_85 ⟨cb_X9_tellFavours, ml_9_89, im_X9_tellFavours⟩ se_9_X9_tellFavours (ckf_X9_tellFavours eq5) (ev_X9_tellFavours eq5) (by decide) (As := []) rfl (st := []) rfl (Nat.le_of_ble_eq_true rfl) rfl ?_
      refine v_goto dX9_clause_88 (tgt := 96) (by decide) ?_
      replace hf := Option.some.inj hf
      subst hf
      exact v_vret dX9_clause_96 rfl
def f_X9_clause_b31 (h : xa_H) (l0 : Nat) (l1 : Int32) : Option xa_H :=
  if l1 = (112 : Int32) then
    (gR [9] 4 h l0).bind fun x2 =>
    (gI [0] 4 h x2).bind fun x3 =>
    if (6 : Int32) ≤ x3 then
      f_X9_clause_b62 h l0 l1
    else
      (f_X9_items h l0 (2 : Int32) (5 : Int32)).bind fun q5 =>
      (f_X9_tellHouse q5 l0).bind fun q6 =>
      some q6
  else
    f_X9_clause_b62 h l0 l1
set_option maxRecDepth 20000 in
theorem e_X9_clause_b31 {G : xa_G} : ∀ (h : xa_H) (l0 : Nat) (l1 : Int32) (r : xa_H), f_X9_clause_b31 h l0 l1 = some r → xa_V G M_X9_clause 6 31 [some (.ref l0), some (.int l1)] [] h none r := by
  intro h l0 l1 r hf
  unfold f_X9_clause_b31 at hf
  refine v_iload_n dX9_clause_31 rfl ?_
  refine v_bipush dX9_clause_32 (by decide) (v := 112) ?_
  refine v_icmp_ne dX9_clause_34 (tgt := 62) (by decide) (fun c1 => ?_) (fun c1 => ?_)
  · replace hf := (if_neg c1).symm.trans hf
    exact e_X9_clause_b62 h l0 l1 r hf
  · replace hf := (if_pos c1).symm.trans hf
    refine v_aload_n dX9_clause_37 rfl ?_
    obtain ⟨x2, ex2, hf⟩ := ob hf
    refine v_getR dX9_clause_38 fl_9_12 ex2 ?_
    obtain ⟨x3, ex3, hf⟩ := ob hf
    refine v_getI dX9_clause_41 fl_9_83 ex3 ?_
    refine v_bipush dX9_clause_44 (by decide) (v := 6) ?_
    refine v_icmp_ge dX9_clause_46 (tgt := 62) (by decide) (fun c4 => ?_) (fun c4 => ?_)
    · replace hf := (if_pos c4).symm.trans hf
      exact e_X9_clause_b62 h l0 l1 r hf
    · replace hf := (if_neg c4).symm.trans hf
      refine v_aload_n dX9_clause_49 rfl ?_
      refine v_iconst dX9_clause_50 (by decide) (v := 2) ?_
      refine v_iconst dX9_clause_51 (by decide) (v := 5) ?_
      obtain ⟨q5, eq5, hf⟩ := ob hf
      refine v_callV dX9_clause_52 ⟨cb_X9_items, ml_9_76, im_X9_items⟩ se_9_X9_items (ckf_X9_items eq5) (ev_X9_items eq5) (by decide) (As := [.int (2 : Int32), .int (5 : Int32)]) rfl (st := []) rfl (Nat.le_of_ble_eq_true rfl) rfl ?_
      refine v_aload_n dX9_clause_55 rfl ?_
      obtain ⟨q6, eq6, hf⟩ := ob hf
      refine v_callV dX9_clause_56 ⟨cb_X9_tellHouse, ml_9_86, im_X9_tellHouse⟩ se_9_X9_tellHouse (ckf_X9_tellHouse eq6) (ev_X9_tellHouse eq6) (by decide) (As := []) rfl (st := []) rfl (Nat.le_of_ble_eq_true rfl) rfl ?_
      refine v_goto dX9_clause_59 (tgt := 96) (by decide) ?_
      replace hf := Option.some.inj hf
      subst hf
      exact v_vret dX9_clause_96 rfl
def f_X9_clause (h : xa_H) (l0 : Nat) : Option xa_H :=
  (ck [9] h l0).bind fun _ =>
  (ck [9] h l0).bind fun u2 =>
  (f_X4_peek h l0).bind fun q1 =>
  if q1.1 = (115 : Int32) then
    (gI [9] 6 q1.2 l0).bind fun x4 =>
    if x4 = 0 then
      (f_X9_items q1.2 l0 (0 : Int32) (2 : Int32)).bind fun q6 =>
      (f_X9_tellRules q6 l0).bind fun q7 =>
      some q7
    else
      f_X9_clause_b31 q1.2 l0 q1.1
  else
    f_X9_clause_b31 q1.2 l0 q1.1
set_option maxRecDepth 20000 in
theorem ev_X9_clause {G : xa_G} {h : xa_H} {l0 : Nat} {r : xa_H} (hf : f_X9_clause h l0 = some r) : xa_Ev G M_X9_clause 6 [.ref l0] h none r := by
  refine xa_entry (by decide +kernel) (loc := [some (.ref l0), none]) rfl (Nat.le_of_ble_eq_true rfl) ?_
  unfold f_X9_clause at hf
  obtain ⟨u0, eu0, hf⟩ := ob hf
  refine v_aload_n dX9_clause_0 rfl ?_
  obtain ⟨u2, eu2, hf⟩ := ob hf
  obtain ⟨q1, eq1, hf⟩ := ob hf
  refine v_callU dX9_clause_1 ⟨cb_X4_peek, ml_9_73, im_X4_peek, sm2_9_X4_peek, by decide +kernel, by decide +kernel, by decide +kernel, by decide +kernel⟩ se_9_X4_peek_9 eu2 (ev_X4_peek eq1) (by decide) (As := []) rfl (st := []) rfl (Nat.le_of_ble_eq_true rfl) rfl ?_
  refine v_istore_n (i := 1) rfl dX9_clause_4 (Nat.le_of_ble_eq_true rfl) (loc' := [some (.ref l0), some (.int q1.1)]) rfl ?_
  refine v_iload_n dX9_clause_5 rfl ?_
  refine v_bipush dX9_clause_6 (by decide) (v := 115) ?_
  refine v_icmp_ne dX9_clause_8 (tgt := 31) (by decide) (fun c3 => ?_) (fun c3 => ?_)
  · replace hf := (if_neg c3).symm.trans hf
    exact e_X9_clause_b31 q1.2 l0 q1.1 r hf
  · replace hf := (if_pos c3).symm.trans hf
    refine v_aload_n dX9_clause_11 rfl ?_
    obtain ⟨x4, ex4, hf⟩ := ob hf
    refine v_getI dX9_clause_12 fl_9_22 ex4 ?_
    refine v_if_ne dX9_clause_15 (tgt := 31) (by decide) (fun c5 => ?_) (fun c5 => ?_)
    · replace hf := (if_neg c5).symm.trans hf
      exact e_X9_clause_b31 q1.2 l0 q1.1 r hf
    · replace hf := (if_pos c5).symm.trans hf
      refine v_aload_n dX9_clause_18 rfl ?_
      refine v_iconst dX9_clause_19 (by decide) (v := 0) ?_
      refine v_iconst dX9_clause_20 (by decide) (v := 2) ?_
      obtain ⟨q6, eq6, hf⟩ := ob hf
      refine v_callV dX9_clause_21 ⟨cb_X9_items, ml_9_76, im_X9_items⟩ se_9_X9_items (ckf_X9_items eq6) (ev_X9_items eq6) (by decide) (As := [.int (0 : Int32), .int (2 : Int32)]) rfl (st := []) rfl (Nat.le_of_ble_eq_true rfl) rfl ?_
      refine v_aload_n dX9_clause_24 rfl ?_
      obtain ⟨q7, eq7, hf⟩ := ob hf
      refine v_callV dX9_clause_25 ⟨cb_X9_tellRules, ml_9_80, im_X9_tellRules⟩ se_9_X9_tellRules (ckf_X9_tellRules eq7) (ev_X9_tellRules eq7) (by decide) (As := []) rfl (st := []) rfl (Nat.le_of_ble_eq_true rfl) rfl ?_
      refine v_goto dX9_clause_28 (tgt := 96) (by decide) ?_
      replace hf := Option.some.inj hf
      subst hf
      exact v_vret dX9_clause_96 rfl
theorem ckf_X9_clause {h : xa_H} {l0 : Nat} {r : xa_H} (hf : f_X9_clause h l0 = some r) : ck [9] h l0 = some () := by
  obtain ⟨u, e, -⟩ := ob hf
  exact e
def M_X9_forget : xa_M := (yX9_forget, cX9_forget, 1, none)
theorem cb_X9_forget : xa_CB M_X9_forget 0 := ⟨gws_at 567 (by decide +kernel) rfl, gws_at 111 (by decide +kernel) rfl, by decide +kernel, Nat.le_of_ble_eq_true rfl⟩
def f_X9_forget (h : xa_H) (l0 : Nat) : Option xa_H :=
  (ck [9] h l0).bind fun _ =>
  (gR [9] 4 h l0).bind fun x1 =>
  (f_X0_clear h x1).bind fun q2 =>
  (gR [9] 4 q2 l0).bind fun x3 =>
  (aS 3 (0 : Int32)).bind fun x4 =>
  (xp [0] 7 q2 x3 (.int x4)).bind fun h5 =>
  (gR [9] 4 h5 l0).bind fun x6 =>
  (aS 3 (1 : Int32)).bind fun x7 =>
  (xp [0] 5 h5 x6 (.int x7)).bind fun h8 =>
  (xp [9] 6 h8 l0 (.int (0 : Int32))).bind fun h9 =>
  (xp [9] 7 h9 l0 (.int (0 : Int32))).bind fun h10 =>
  (xp [9] 8 h10 l0 (.int (-1 : Int32))).bind fun h11 =>
  (xp [9] 9 h11 l0 (.int (0 : Int32))).bind fun h12 =>
  some h12
set_option maxRecDepth 20000 in
theorem ev_X9_forget {G : xa_G} {h : xa_H} {l0 : Nat} {r : xa_H} (hf : f_X9_forget h l0 = some r) : xa_Ev G M_X9_forget 1 [.ref l0] h none r := by
  refine xa_entry (by decide +kernel) (loc := [some (.ref l0)]) rfl (Nat.le_of_ble_eq_true rfl) ?_
  unfold f_X9_forget at hf
  obtain ⟨u0, eu0, hf⟩ := ob hf
  refine v_aload_n dX9_forget_0 rfl ?_
  obtain ⟨x1, ex1, hf⟩ := ob hf
  refine v_getR dX9_forget_1 fl_9_12 ex1 ?_
  obtain ⟨q2, eq2, hf⟩ := ob hf
  refine v_callV dX9_forget_4 ⟨cb_X0_clear, ml_9_61, im_X0_clear⟩ se_0_X0_clear (ckf_X0_clear eq2) (ev_X0_clear eq2) (by decide) (As := []) rfl (st := []) rfl (Nat.le_of_ble_eq_true rfl) rfl ?_
  refine v_aload_n dX9_forget_7 rfl ?_
  obtain ⟨x3, ex3, hf⟩ := ob hf
  refine v_getR dX9_forget_8 fl_9_12 ex3 ?_
  refine v_gets dX9_forget_11 (j := 3) (List.mem_of_getElem? (i := 2) rfl) gs_9_64 ?_
  refine v_iconst dX9_forget_14 (by decide) (v := 0) ?_
  obtain ⟨x4, ex4, hf⟩ := ob hf
  refine v_ialoadS dX9_forget_15 ex4 ?_
  obtain ⟨h5, eh5, hf⟩ := ob hf
  refine v_put dX9_forget_16 fp_9_67 (fun z => by cases z) (fun _ => rfl) (fun _ => rfl) eh5 ?_
  refine v_aload_n dX9_forget_19 rfl ?_
  obtain ⟨x6, ex6, hf⟩ := ob hf
  refine v_getR dX9_forget_20 fl_9_12 ex6 ?_
  refine v_gets dX9_forget_23 (j := 3) (List.mem_of_getElem? (i := 2) rfl) gs_9_64 ?_
  refine v_iconst dX9_forget_26 (by decide) (v := 1) ?_
  obtain ⟨x7, ex7, hf⟩ := ob hf
  refine v_ialoadS dX9_forget_27 ex7 ?_
  obtain ⟨h8, eh8, hf⟩ := ob hf
  refine v_put dX9_forget_28 fp_9_70 (fun z => by cases z) (fun _ => rfl) (fun _ => rfl) eh8 ?_
  refine v_aload_n dX9_forget_31 rfl ?_
  refine v_iconst dX9_forget_32 (by decide) (v := 0) ?_
  obtain ⟨h9, eh9, hf⟩ := ob hf
  refine v_put dX9_forget_33 fp_9_22 (fun z => by cases z) (fun _ => rfl) (fun _ => rfl) eh9 ?_
  refine v_aload_n dX9_forget_36 rfl ?_
  refine v_iconst dX9_forget_37 (by decide) (v := 0) ?_
  obtain ⟨h10, eh10, hf⟩ := ob hf
  refine v_put dX9_forget_38 fp_9_26 (fun z => by cases z) (fun _ => rfl) (fun _ => rfl) eh10 ?_
  refine v_aload_n dX9_forget_41 rfl ?_
  refine v_iconst dX9_forget_42 (by decide) (v := -1) ?_
  obtain ⟨h11, eh11, hf⟩ := ob hf
  refine v_put dX9_forget_43 fp_9_30 (fun z => by cases z) (fun _ => rfl) (fun _ => rfl) eh11 ?_
  refine v_aload_n dX9_forget_46 rfl ?_
  refine v_iconst dX9_forget_47 (by decide) (v := 0) ?_
  obtain ⟨h12, eh12, hf⟩ := ob hf
  refine v_put dX9_forget_48 fp_9_33 (fun z => by cases z) (fun _ => rfl) (fun _ => rfl) eh12 ?_
  replace hf := Option.some.inj hf
  subst hf
  exact v_vret dX9_forget_51 rfl
theorem ckf_X9_forget {h : xa_H} {l0 : Nat} {r : xa_H} (hf : f_X9_forget h l0 = some r) : ck [9] h l0 = some () := by
  obtain ⟨u, e, -⟩ := ob hf
  exact e
def M_X9_read : xa_M := (yX9_read, cX9_read, 4, some .int)
theorem cb_X9_read : xa_CB M_X9_read 2 := ⟨gws_at 551 (by decide +kernel) rfl, gws_at 111 (by decide +kernel) rfl, by decide +kernel, Nat.le_of_ble_eq_true rfl⟩
def f_X9_read_b54 (h : xa_H) (l0 : Nat) : Option (Int32 × xa_H) :=
  (ck [9] h l0).bind fun u2 =>
  (f_X4_wrongAt h l0).bind fun q1 =>
  some (q1, h)
set_option maxRecDepth 20000 in
theorem e_X9_read_b54 {G : xa_G} : ∀ (h : xa_H) (l0 : Nat) (r : (Int32 × xa_H)), f_X9_read_b54 h l0 = some r → xa_V G M_X9_read 7 54 [some (.ref l0), none, none, none] [] h (some (.int r.1)) r.2 := by
  intro h l0 r hf
  unfold f_X9_read_b54 at hf
  refine v_aload_n dX9_read_54 rfl ?_
  obtain ⟨u2, eu2, hf⟩ := ob hf
  obtain ⟨q1, eq1, hf⟩ := ob hf
  refine v_callU dX9_read_55 ⟨cb_X4_wrongAt, ml_9_57, im_X4_wrongAt, sm2_9_X4_wrongAt, by decide +kernel, by decide +kernel, by decide +kernel, by decide +kernel⟩ se_9_X4_wrongAt_9 eu2 (ev_X4_wrongAt eq1) (by decide) (As := []) rfl (st := []) rfl (Nat.le_of_ble_eq_true rfl) rfl ?_
  replace hf := Option.some.inj hf
  subst hf
  exact v_iret dX9_read_58 rfl
def f_X9_read_b42 (h : xa_H) (l0 : Nat) : Option (Int32 × xa_H) :=
  (f_X9_canStand h l0).bind fun q1 =>
  if q1 = 0 then
    (xp [9] 3 h l0 (.int (1 : Int32))).bind fun h3 =>
    f_X9_read_b54 h3 l0
  else
    f_X9_read_b54 h l0
set_option maxRecDepth 20000 in
theorem e_X9_read_b42 {G : xa_G} : ∀ (h : xa_H) (l0 : Nat) (r : (Int32 × xa_H)), f_X9_read_b42 h l0 = some r → xa_V G M_X9_read 7 42 [some (.ref l0), none, none, none] [] h (some (.int r.1)) r.2 := by
  intro h l0 r hf
  unfold f_X9_read_b42 at hf
  refine v_aload_n dX9_read_42 rfl ?_
  obtain ⟨q1, eq1, hf⟩ := ob hf
  refine v_callV dX9_read_43 ⟨cb_X9_canStand, ml_9_50, im_X9_canStand⟩ se_9_X9_canStand (ckf_X9_canStand eq1) (ev_X9_canStand eq1) (by decide) (As := []) rfl (st := []) rfl (Nat.le_of_ble_eq_true rfl) rfl ?_
  refine v_if_ne dX9_read_46 (tgt := 54) (by decide) (fun c2 => ?_) (fun c2 => ?_)
  · replace hf := (if_neg c2).symm.trans hf
    exact e_X9_read_b54 h l0 r hf
  · replace hf := (if_pos c2).symm.trans hf
    refine v_aload_n dX9_read_49 rfl ?_
    refine v_iconst dX9_read_50 (by decide) (v := 1) ?_
    obtain ⟨h3, eh3, hf⟩ := ob hf
    refine v_put dX9_read_51 fp_9_54 (fun z => by cases z) (fun _ => rfl) (fun _ => rfl) eh3 ?_
    exact e_X9_read_b54 h3 l0 r hf
def f_X9_read_b16 : Nat → xa_H → Nat → Int32 → Option (Int32 × xa_H)
  | 0, _, _, _ => none
  | n + 1, h, l0, l3 =>
    if (240 : Int32) ≤ l3 then
      f_X9_read_b42 h l0
    else
      (ck [9] h l0).bind fun u3 =>
      (f_X4_take h l0 (59 : Int32)).bind fun q2 =>
      if q2.1 = 0 then
        f_X9_read_b42 q2.2 l0
      else
        (f_X9_clause q2.2 l0).bind fun q5 =>
        f_X9_read_b16 n q5 l0 (l3 + (1 : Int32))
set_option maxRecDepth 20000 in
theorem e_X9_read_b16 {G : xa_G} : ∀ (n : Nat) (h : xa_H) (l0 : Nat) (l3 : Int32) (r : (Int32 × xa_H)), f_X9_read_b16 n h l0 l3 = some r → xa_V G M_X9_read 7 16 [some (.ref l0), none, none, some (.int l3)] [] h (some (.int r.1)) r.2 := by
  intro n
  induction n with
  | zero =>
    intro h l0 l3 r hf
    cases (show (none : Option (Int32 × xa_H)) = some r from hf)
  | succ n ih =>
    intro h l0 l3 r hf
    rw [f_X9_read_b16] at hf
    refine v_iload_n dX9_read_16 rfl ?_
    refine v_sipush dX9_read_17 (by decide) (v := 240) ?_
    refine v_icmp_ge dX9_read_20 (tgt := 42) (by decide) (fun c1 => ?_) (fun c1 => ?_)
    · replace hf := (if_pos c1).symm.trans hf
      exact xa_weak (loc := [some (.ref l0), none, none, none]) ⟨rfl, trivial⟩ (e_X9_read_b42 h l0 r hf)
    · replace hf := (if_neg c1).symm.trans hf
      refine v_aload_n dX9_read_23 rfl ?_
      refine v_bipush dX9_read_24 (by decide) (v := 59) ?_
      obtain ⟨u3, eu3, hf⟩ := ob hf
      obtain ⟨q2, eq2, hf⟩ := ob hf
      refine v_callU dX9_read_26 ⟨cb_X4_take, ml_9_46, im_X4_take, sm2_9_X4_take, by decide +kernel, by decide +kernel, by decide +kernel, by decide +kernel⟩ se_9_X4_take_9 eu3 (ev_X4_take eq2) (by decide) (As := [.int (59 : Int32)]) rfl (st := []) rfl (Nat.le_of_ble_eq_true rfl) rfl ?_
      refine v_if_eq dX9_read_29 (tgt := 42) (by decide) (fun c4 => ?_) (fun c4 => ?_)
      · replace hf := (if_pos c4).symm.trans hf
        exact xa_weak (loc := [some (.ref l0), none, none, none]) ⟨rfl, trivial⟩ (e_X9_read_b42 q2.2 l0 r hf)
      · replace hf := (if_neg c4).symm.trans hf
        refine v_aload_n dX9_read_32 rfl ?_
        obtain ⟨q5, eq5, hf⟩ := ob hf
        refine v_callV dX9_read_33 ⟨cb_X9_clause, ml_9_43, im_X9_clause⟩ se_9_X9_clause (ckf_X9_clause eq5) (ev_X9_clause eq5) (by decide) (As := []) rfl (st := []) rfl (Nat.le_of_ble_eq_true rfl) rfl ?_
        refine v_iinc dX9_read_36 rfl (v := (l3 + (1 : Int32))) rfl (Nat.le_of_ble_eq_true rfl) (loc' := [some (.ref l0), none, none, some (.int (l3 + (1 : Int32)))]) rfl ?_
        refine v_goto dX9_read_39 (tgt := 16) (by decide) ?_
        exact ih q5 l0 (l3 + (1 : Int32)) r hf
def f_X9_read (h : xa_H) (l0 : Nat) (l1 : Nat) (l2 : Int32) : Option (Int32 × xa_H) :=
  (ck [9] h l0).bind fun _ =>
  (ck [9] h l0).bind fun u2 =>
  (f_X4_start h l0 l1 l2).bind fun q1 =>
  (f_X9_forget q1 l0).bind fun q3 =>
  (f_X9_clause q3 l0).bind fun q4 =>
  f_X9_read_b16 1048576 q4 l0 (0 : Int32)
set_option maxRecDepth 20000 in
theorem ev_X9_read {G : xa_G} {h : xa_H} {l0 : Nat} {l1 : Nat} {l2 : Int32} {r : (Int32 × xa_H)} (hf : f_X9_read h l0 l1 l2 = some r) : xa_Ev G M_X9_read 7 [.ref l0, .ref l1, .int l2] h (some (.int r.1)) r.2 := by
  refine xa_entry (by decide +kernel) (loc := [some (.ref l0), some (.ref l1), some (.int l2), none]) rfl (Nat.le_of_ble_eq_true rfl) ?_
  unfold f_X9_read at hf
  obtain ⟨u0, eu0, hf⟩ := ob hf
  refine v_aload_n dX9_read_0 rfl ?_
  refine v_aload_n dX9_read_1 rfl ?_
  refine v_iload_n dX9_read_2 rfl ?_
  obtain ⟨u2, eu2, hf⟩ := ob hf
  obtain ⟨q1, eq1, hf⟩ := ob hf
  refine v_callU dX9_read_3 ⟨cb_X4_start, ml_9_36, im_X4_start, sm2_9_X4_start, by decide +kernel, by decide +kernel, by decide +kernel, by decide +kernel⟩ se_9_X4_start_9 eu2 (ev_X4_start eq1) (by decide) (As := [.ref l1, .int l2]) rfl (st := []) rfl (Nat.le_of_ble_eq_true rfl) rfl ?_
  refine v_aload_n dX9_read_6 rfl ?_
  obtain ⟨q3, eq3, hf⟩ := ob hf
  refine v_callV dX9_read_7 ⟨cb_X9_forget, ml_9_40, im_X9_forget⟩ se_9_X9_forget (ckf_X9_forget eq3) (ev_X9_forget eq3) (by decide) (As := []) rfl (st := []) rfl (Nat.le_of_ble_eq_true rfl) rfl ?_
  refine v_aload_n dX9_read_10 rfl ?_
  obtain ⟨q4, eq4, hf⟩ := ob hf
  refine v_callV dX9_read_11 ⟨cb_X9_clause, ml_9_43, im_X9_clause⟩ se_9_X9_clause (ckf_X9_clause eq4) (ev_X9_clause eq4) (by decide) (As := []) rfl (st := []) rfl (Nat.le_of_ble_eq_true rfl) rfl ?_
  refine v_iconst dX9_read_14 (by decide) (v := 0) ?_
  refine v_istore_n (i := 3) rfl dX9_read_15 (Nat.le_of_ble_eq_true rfl) (loc' := [some (.ref l0), some (.ref l1), some (.int l2), some (.int (0 : Int32))]) rfl ?_
  exact xa_weak (loc := [some (.ref l0), none, none, some (.int (0 : Int32))]) ⟨rfl, ⟨rfl, trivial⟩⟩ (e_X9_read_b16 1048576 q4 l0 (0 : Int32) r hf)
theorem ckf_X9_read {h : xa_H} {l0 : Nat} {l1 : Nat} {l2 : Int32} {r : (Int32 × xa_H)} (hf : f_X9_read h l0 l1 l2 = some r) : ck [9] h l0 = some () := by
  obtain ⟨u, e, -⟩ := ob hf
  exact e
def M_X9_init : xa_M := (yX9_init, cX9_init, 1, none)
theorem cb_X9_init : xa_CB M_X9_init 0 := ⟨gws_at 144 (by decide +kernel) rfl, gws_at 111 (by decide +kernel) rfl, by decide +kernel, Nat.le_of_ble_eq_true rfl⟩
def f_X9_init (h : xa_H) (l0 : Nat) : Option xa_H :=
  (ck [9] h l0).bind fun _ =>
  (f_X4_init h l0).bind fun q1 =>
  (nC q1 (.inr (0, [.null, .null, .null, .null, .int 0, .int 0, .int 0, .int 0, .int 0])) 9).bind fun h2 =>
  (f_X0_init h2 q1.2.1).bind fun q3 =>
  (xp [9] 4 q3 l0 (.ref q1.2.1)).bind fun h4 =>
  (nAI h4 (8 : Int32)).bind fun h5 =>
  (xp [9] 5 h5 l0 (.ref h4.2.1)).bind fun h6 =>
  (xp [9] 6 h6 l0 (.int (0 : Int32))).bind fun h7 =>
  (xp [9] 7 h7 l0 (.int (0 : Int32))).bind fun h8 =>
  (xp [9] 8 h8 l0 (.int (-1 : Int32))).bind fun h9 =>
  (xp [9] 9 h9 l0 (.int (0 : Int32))).bind fun h10 =>
  some h10
set_option maxRecDepth 20000 in
theorem ev_X9_init {G : xa_G} {h : xa_H} {l0 : Nat} {r : xa_H} (hf : f_X9_init h l0 = some r) : xa_Ev G M_X9_init 2 [.ref l0] h none r := by
  refine xa_entry (by decide +kernel) (loc := [some (.ref l0)]) rfl (Nat.le_of_ble_eq_true rfl) ?_
  unfold f_X9_init at hf
  obtain ⟨u0, eu0, hf⟩ := ob hf
  refine v_aload_n dX9_init_0 rfl ?_
  obtain ⟨q1, eq1, hf⟩ := ob hf
  refine v_callIN dX9_init_1 ⟨cb_X4_init, mn_9_3, im_X4_init, rfl, rfl⟩ (ev_X4_init eq1) (by decide) (As := []) rfl (st := []) rfl (Nat.le_of_ble_eq_true rfl) rfl ?_
  refine v_aload_n dX9_init_4 rfl ?_
  obtain ⟨h2, eh2, hf⟩ := ob hf
  refine v_new dX9_init_5 nw_9_9 eh2 ?_
  refine v_dup dX9_init_8 rfl ?_
  obtain ⟨q3, eq3, hf⟩ := ob hf
  refine v_callIN dX9_init_9 ⟨cb_X0_init, mn_9_11, im_X0_init, rfl, rfl⟩ (ev_X0_init eq3) (by decide) (As := []) rfl (st := [.ref q1.2.1, .ref l0]) rfl (Nat.le_of_ble_eq_true rfl) rfl ?_
  obtain ⟨h4, eh4, hf⟩ := ob hf
  refine v_put dX9_init_12 fp_9_12 (fun _ => rfl) (fun _ => rfl) (fun _ => rfl) eh4 ?_
  refine v_aload_n dX9_init_15 rfl ?_
  refine v_bipush dX9_init_16 (by decide) (v := 8) ?_
  obtain ⟨h5, eh5, hf⟩ := ob hf
  refine w_newaI dX9_init_18 ac_int eh5 ?_
  obtain ⟨h6, eh6, hf⟩ := ob hf
  refine v_put dX9_init_20 fp_9_18 (fun _ => rfl) (fun _ => rfl) (fun _ => rfl) eh6 ?_
  refine v_aload_n dX9_init_23 rfl ?_
  refine v_iconst dX9_init_24 (by decide) (v := 0) ?_
  obtain ⟨h7, eh7, hf⟩ := ob hf
  refine v_put dX9_init_25 fp_9_22 (fun z => by cases z) (fun _ => rfl) (fun _ => rfl) eh7 ?_
  refine v_aload_n dX9_init_28 rfl ?_
  refine v_iconst dX9_init_29 (by decide) (v := 0) ?_
  obtain ⟨h8, eh8, hf⟩ := ob hf
  refine v_put dX9_init_30 fp_9_26 (fun z => by cases z) (fun _ => rfl) (fun _ => rfl) eh8 ?_
  refine v_aload_n dX9_init_33 rfl ?_
  refine v_iconst dX9_init_34 (by decide) (v := -1) ?_
  obtain ⟨h9, eh9, hf⟩ := ob hf
  refine v_put dX9_init_35 fp_9_30 (fun z => by cases z) (fun _ => rfl) (fun _ => rfl) eh9 ?_
  refine v_aload_n dX9_init_38 rfl ?_
  refine v_iconst dX9_init_39 (by decide) (v := 0) ?_
  obtain ⟨h10, eh10, hf⟩ := ob hf
  refine v_put dX9_init_40 fp_9_33 (fun z => by cases z) (fun _ => rfl) (fun _ => rfl) eh10 ?_
  replace hf := Option.some.inj hf
  subst hf
  exact v_vret dX9_init_43 rfl
theorem ckf_X9_init {h : xa_H} {l0 : Nat} {r : xa_H} (hf : f_X9_init h l0 = some r) : ck [9] h l0 = some () := by
  obtain ⟨u, e, -⟩ := ob hf
  exact e
