def M_X2_isComparison : xa_M := (yX2_isComparison, cX2_isComparison, 1, some .boolean)
theorem cb_X2_isComparison : xa_CB M_X2_isComparison 1 := ⟨gws_at 733 (by decide +kernel) rfl, gws_at 113 (by decide +kernel) rfl, by decide +kernel, Nat.le_of_ble_eq_true rfl⟩
def f_X2_isComparison_b18 (h : xa_H) : Option Int32 :=
  some (1 : Int32)
set_option maxRecDepth 20000 in
theorem e_X2_isComparison_b18 {G : xa_G} : ∀ (h : xa_H) (r : Int32), f_X2_isComparison_b18 h = some r → xa_V G M_X2_isComparison 0 18 [none] [] h (some (.int r)) h := by
  intro h r hf
  unfold f_X2_isComparison_b18 at hf
  refine v_iconst dX2_isComparison_18 (by decide) (v := 1) ?_
  refine v_goto dX2_isComparison_19 (tgt := 23) (by decide) ?_
  replace hf := Option.some.inj hf
  subst hf
  exact v_zret dX2_isComparison_23 rfl (by decide)
def f_X2_isComparison (h : xa_H) (l0 : Int32) : Option Int32 :=
  if l0 = (61 : Int32) then
    f_X2_isComparison_b18 h
  else
    if l0 = (60 : Int32) then
      f_X2_isComparison_b18 h
    else
      if l0 = (62 : Int32) then
        f_X2_isComparison_b18 h
      else
        some (0 : Int32)
set_option maxRecDepth 20000 in
theorem ev_X2_isComparison {G : xa_G} {h : xa_H} {l0 : Int32} {r : Int32} (hf : f_X2_isComparison h l0 = some r) : xa_Ev G M_X2_isComparison 0 [.int l0] h (some (.int r)) h := by
  refine xa_entry (by decide +kernel) (loc := [some (.int l0)]) rfl (Nat.le_of_ble_eq_true rfl) ?_
  unfold f_X2_isComparison at hf
  refine v_iload_n dX2_isComparison_0 rfl ?_
  refine v_bipush dX2_isComparison_1 (by decide) (v := 61) ?_
  refine v_icmp_eq dX2_isComparison_3 (tgt := 18) (by decide) (fun c1 => ?_) (fun c1 => ?_)
  · replace hf := (if_pos c1).symm.trans hf
    exact xa_weak (loc := [none]) trivial (e_X2_isComparison_b18 h r hf)
  · replace hf := (if_neg c1).symm.trans hf
    refine v_iload_n dX2_isComparison_6 rfl ?_
    refine v_bipush dX2_isComparison_7 (by decide) (v := 60) ?_
    refine v_icmp_eq dX2_isComparison_9 (tgt := 18) (by decide) (fun c2 => ?_) (fun c2 => ?_)
    · replace hf := (if_pos c2).symm.trans hf
      exact xa_weak (loc := [none]) trivial (e_X2_isComparison_b18 h r hf)
    · replace hf := (if_neg c2).symm.trans hf
      refine v_iload_n dX2_isComparison_12 rfl ?_
      refine v_bipush dX2_isComparison_13 (by decide) (v := 62) ?_
      refine v_icmp_ne dX2_isComparison_15 (tgt := 22) (by decide) (fun c3 => ?_) (fun c3 => ?_)
      · replace hf := (if_neg c3).symm.trans hf
        refine v_iconst dX2_isComparison_22 (by decide) (v := 0) ?_
        replace hf := Option.some.inj hf
        subst hf
        exact v_zret dX2_isComparison_23 rfl (by decide)
      · replace hf := (if_pos c3).symm.trans hf
        exact xa_weak (loc := [none]) trivial (e_X2_isComparison_b18 h r hf)
def M_X2_closed : xa_M := (yX2_closed, cX2_closed, 3, some .int)
theorem cb_X2_closed : xa_CB M_X2_closed 2 := ⟨gws_at 726 (by decide +kernel) rfl, gws_at 113 (by decide +kernel) rfl, by decide +kernel, Nat.le_of_ble_eq_true rfl⟩
def f_X2_closed (h : xa_H) (l0 : Nat) (l1 : Int32) (l2 : Int32) : Option (Int32 × xa_H) :=
  (ck [2] h l0).bind fun _ =>
  (ck [2] h l0).bind fun u2 =>
  (f_X4_need h l0 l2).bind fun q1 =>
  some (l1, q1)
set_option maxRecDepth 20000 in
theorem ev_X2_closed {G : xa_G} {h : xa_H} {l0 : Nat} {l1 : Int32} {l2 : Int32} {r : (Int32 × xa_H)} (hf : f_X2_closed h l0 l1 l2 = some r) : xa_Ev G M_X2_closed 2 [.ref l0, .int l1, .int l2] h (some (.int r.1)) r.2 := by
  refine xa_entry (by decide +kernel) (loc := [some (.ref l0), some (.int l1), some (.int l2)]) rfl (Nat.le_of_ble_eq_true rfl) ?_
  unfold f_X2_closed at hf
  obtain ⟨u0, eu0, hf⟩ := ob hf
  refine v_aload_n dX2_closed_0 rfl ?_
  refine v_iload_n dX2_closed_1 rfl ?_
  obtain ⟨u2, eu2, hf⟩ := ob hf
  obtain ⟨q1, eq1, hf⟩ := ob hf
  refine v_callU dX2_closed_2 ⟨cb_X4_need, ml_2_51, im_X4_need, sm2_2_X4_need, by decide +kernel, by decide +kernel, by decide +kernel, by decide +kernel⟩ se_2_X4_need_2 eu2 (ev_X4_need eq1) (by decide) (As := [.int l2]) rfl (st := []) rfl (Nat.le_of_ble_eq_true rfl) rfl ?_
  refine v_iload_n dX2_closed_5 rfl ?_
  replace hf := Option.some.inj hf
  subst hf
  exact v_iret dX2_closed_6 rfl
theorem ckf_X2_closed {h : xa_H} {l0 : Nat} {l1 : Int32} {l2 : Int32} {r : (Int32 × xa_H)} (hf : f_X2_closed h l0 l1 l2 = some r) : ck [2] h l0 = some () := by
  obtain ⟨u, e, -⟩ := ob hf
  exact e
def M_X2_goesIn : xa_M := (yX2_goesIn, cX2_goesIn, 2, some .boolean)
theorem cb_X2_goesIn : xa_CB M_X2_goesIn 1 := ⟨gws_at 722 (by decide +kernel) rfl, gws_at 113 (by decide +kernel) rfl, by decide +kernel, Nat.le_of_ble_eq_true rfl⟩
def f_X2_goesIn_b13 (h : xa_H) (l0 : Nat) : Option (Int32 × xa_H) :=
  (xp [2] 3 h l0 (.int (1 : Int32))).bind fun h1 =>
  some ((0 : Int32), h1)
set_option maxRecDepth 20000 in
theorem e_X2_goesIn_b13 {G : xa_G} : ∀ (h : xa_H) (l0 : Nat) (r : (Int32 × xa_H)), f_X2_goesIn_b13 h l0 = some r → xa_V G M_X2_goesIn 0 13 [some (.ref l0), none] [] h (some (.int r.1)) r.2 := by
  intro h l0 r hf
  unfold f_X2_goesIn_b13 at hf
  refine v_aload_n dX2_goesIn_13 rfl ?_
  refine v_iconst dX2_goesIn_14 (by decide) (v := 1) ?_
  obtain ⟨h1, eh1, hf⟩ := ob hf
  refine v_put dX2_goesIn_15 fp_2_45 (fun z => by cases z) (fun _ => rfl) (fun _ => rfl) eh1 ?_
  refine v_iconst dX2_goesIn_18 (by decide) (v := 0) ?_
  replace hf := Option.some.inj hf
  subst hf
  exact v_zret dX2_goesIn_19 rfl (by decide)
def f_X2_goesIn (h : xa_H) (l0 : Nat) (l1 : Int32) : Option (Int32 × xa_H) :=
  (ck [2] h l0).bind fun _ =>
  (gI [2] 3 h l0).bind fun x1 =>
  if x1 = 0 then
    if l1 < (6 : Int32) then
      (gI [2] 2 h l0).bind fun x4 =>
      (xp [2] 2 h l0 (.int (x4 + (1 : Int32)))).bind fun h5 =>
      some ((1 : Int32), h5)
    else
      f_X2_goesIn_b13 h l0
  else
    f_X2_goesIn_b13 h l0
set_option maxRecDepth 20000 in
theorem ev_X2_goesIn {G : xa_G} {h : xa_H} {l0 : Nat} {l1 : Int32} {r : (Int32 × xa_H)} (hf : f_X2_goesIn h l0 l1 = some r) : xa_Ev G M_X2_goesIn 0 [.ref l0, .int l1] h (some (.int r.1)) r.2 := by
  refine xa_entry (by decide +kernel) (loc := [some (.ref l0), some (.int l1)]) rfl (Nat.le_of_ble_eq_true rfl) ?_
  unfold f_X2_goesIn at hf
  obtain ⟨u0, eu0, hf⟩ := ob hf
  refine v_aload_n dX2_goesIn_0 rfl ?_
  obtain ⟨x1, ex1, hf⟩ := ob hf
  refine v_getI dX2_goesIn_1 fl_2_45 ex1 ?_
  refine v_if_ne dX2_goesIn_4 (tgt := 13) (by decide) (fun c2 => ?_) (fun c2 => ?_)
  · replace hf := (if_neg c2).symm.trans hf
    exact xa_weak (loc := [some (.ref l0), none]) ⟨rfl, trivial⟩ (e_X2_goesIn_b13 h l0 r hf)
  · replace hf := (if_pos c2).symm.trans hf
    refine v_iload_n dX2_goesIn_7 rfl ?_
    refine v_bipush dX2_goesIn_8 (by decide) (v := 6) ?_
    refine v_icmp_lt dX2_goesIn_10 (tgt := 20) (by decide) (fun c3 => ?_) (fun c3 => ?_)
    · replace hf := (if_pos c3).symm.trans hf
      refine v_aload_n dX2_goesIn_20 rfl ?_
      refine v_dup dX2_goesIn_21 rfl ?_
      obtain ⟨x4, ex4, hf⟩ := ob hf
      refine v_getI dX2_goesIn_22 fl_2_82 ex4 ?_
      refine v_iconst dX2_goesIn_25 (by decide) (v := 1) ?_
      refine v_iadd dX2_goesIn_26 ?_
      obtain ⟨h5, eh5, hf⟩ := ob hf
      refine v_put dX2_goesIn_27 fp_2_82 (fun z => by cases z) (fun _ => rfl) (fun _ => rfl) eh5 ?_
      refine v_iconst dX2_goesIn_30 (by decide) (v := 1) ?_
      replace hf := Option.some.inj hf
      subst hf
      exact v_zret dX2_goesIn_31 rfl (by decide)
    · replace hf := (if_neg c3).symm.trans hf
      exact xa_weak (loc := [some (.ref l0), none]) ⟨rfl, trivial⟩ (e_X2_goesIn_b13 h l0 r hf)
theorem ckf_X2_goesIn {h : xa_H} {l0 : Nat} {l1 : Int32} {r : (Int32 × xa_H)} (hf : f_X2_goesIn h l0 l1 = some r) : ck [2] h l0 = some () := by
  obtain ⟨u, e, -⟩ := ob hf
  exact e
def M_X2_held : xa_M := (yX2_held, cX2_held, 2, some .int)
theorem cb_X2_held : xa_CB M_X2_held 1 := ⟨gws_at 752 (by decide +kernel) rfl, gws_at 113 (by decide +kernel) rfl, by decide +kernel, Nat.le_of_ble_eq_true rfl⟩
def f_X2_held (h : xa_H) (l0 : Int64) : Option Int32 :=
  some ((lmax (-1000000 : Int64) (lmin (1000000 : Int64) l0))).toInt32
set_option maxRecDepth 20000 in
theorem ev_X2_held {G : xa_G} {h : xa_H} {l0 : Int64} {r : Int32} (hf : f_X2_held h l0 = some r) : xa_Ev G M_X2_held 1 [.long l0] h (some (.int r)) h := by
  refine xa_entry (by decide +kernel) (loc := [some (.long l0), none]) rfl (Nat.le_of_ble_eq_true rfl) ?_
  unfold f_X2_held at hf
  refine v_ldc2 dX2_held_0 rfl col_2_92 ?_
  refine v_ldc2 dX2_held_3 rfl col_2_94 ?_
  refine v_lload_n dX2_held_6 rfl ?_
  refine w_mminL dX2_held_7 mw_2_96 (by decide) (Nat.le_of_ble_eq_true rfl) ?_
  refine w_mmaxL dX2_held_10 mw_2_102 (by decide) (Nat.le_of_ble_eq_true rfl) ?_
  refine v_l2i dX2_held_13 ?_
  replace hf := Option.some.inj hf
  subst hf
  exact v_iret dX2_held_14 rfl
def M_X2_joined : xa_M := (yX2_joined, cX2_joined, 3, some .int)
theorem cb_X2_joined : xa_CB M_X2_joined 3 := ⟨gws_at 749 (by decide +kernel) rfl, gws_at 113 (by decide +kernel) rfl, by decide +kernel, Nat.le_of_ble_eq_true rfl⟩
def f_X2_joined (h : xa_H) (l0 : Int32) (l1 : Int32) (l2 : Int32) : Option Int32 :=
  if l1 = (38 : Int32) then
    some (l0 &&& l2)
  else if l1 = (42 : Int32) then
    (f_X2_held h (l0.toInt64 * l2.toInt64)).bind fun q3 =>
    some q3
  else if l1 = (43 : Int32) then
    (f_X2_held h (l0.toInt64 + l2.toInt64)).bind fun q5 =>
    some q5
  else if l1 = (45 : Int32) then
    (f_X2_held h (l0.toInt64 - l2.toInt64)).bind fun q7 =>
    some q7
  else if l1 = (124 : Int32) then
    some (l0 ||| l2)
  else 
    if l2 = 0 then
      some (0 : Int32)
    else
      if l2 = 0 then none else
      some (l0 / l2)
set_option maxRecDepth 20000 in
theorem ev_X2_joined {G : xa_G} {h : xa_H} {l0 : Int32} {l1 : Int32} {l2 : Int32} {r : Int32} (hf : f_X2_joined h l0 l1 l2 = some r) : xa_Ev G M_X2_joined 2 [.int l0, .int l1, .int l2] h (some (.int r)) h := by
  refine xa_entry (by decide +kernel) (loc := [some (.int l0), some (.int l1), some (.int l2)]) rfl (Nat.le_of_ble_eq_true rfl) ?_
  unfold f_X2_joined at hf
  refine v_iload_n dX2_joined_0 rfl ?_
  by_cases c1 : l1 = (38 : Int32)
  · replace hf := (if_pos c1).symm.trans hf
    refine v_lookup dX2_joined_1 (by decide) (off := 55) (by rw [c1]; decide) (tgt := 56) (by decide) ?_
    refine v_iload_n dX2_joined_56 rfl ?_
    refine v_iload_n dX2_joined_57 rfl ?_
    refine v_iand dX2_joined_58 ?_
    replace hf := Option.some.inj hf
    subst hf
    exact v_iret dX2_joined_59 rfl
  replace hf := (if_neg c1).symm.trans hf
  by_cases c2 : l1 = (42 : Int32)
  · replace hf := (if_pos c2).symm.trans hf
    refine v_lookup dX2_joined_1 (by decide) (off := 77) (by rw [c2]; decide) (tgt := 78) (by decide) ?_
    refine v_iload_n dX2_joined_78 rfl ?_
    refine v_i2l dX2_joined_79 ?_
    refine v_iload_n dX2_joined_80 rfl ?_
    refine v_i2l dX2_joined_81 ?_
    refine v_lmul dX2_joined_82 ?_
    obtain ⟨q3, eq3, hf⟩ := ob hf
    refine v_callS dX2_joined_83 ⟨cb_X2_held, ml_2_88, sm_X2_held⟩ (ev_X2_held eq3) (by decide) (As := [.long (l0.toInt64 * l2.toInt64)]) rfl (st := []) rfl (Nat.le_of_ble_eq_true rfl) rfl ?_
    replace hf := Option.some.inj hf
    subst hf
    exact v_iret dX2_joined_86 rfl
  replace hf := (if_neg c2).symm.trans hf
  by_cases c4 : l1 = (43 : Int32)
  · replace hf := (if_pos c4).symm.trans hf
    refine v_lookup dX2_joined_1 (by decide) (off := 59) (by rw [c4]; decide) (tgt := 60) (by decide) ?_
    refine v_iload_n dX2_joined_60 rfl ?_
    refine v_i2l dX2_joined_61 ?_
    refine v_iload_n dX2_joined_62 rfl ?_
    refine v_i2l dX2_joined_63 ?_
    refine v_ladd dX2_joined_64 ?_
    obtain ⟨q5, eq5, hf⟩ := ob hf
    refine v_callS dX2_joined_65 ⟨cb_X2_held, ml_2_88, sm_X2_held⟩ (ev_X2_held eq5) (by decide) (As := [.long (l0.toInt64 + l2.toInt64)]) rfl (st := []) rfl (Nat.le_of_ble_eq_true rfl) rfl ?_
    replace hf := Option.some.inj hf
    subst hf
    exact v_iret dX2_joined_68 rfl
  replace hf := (if_neg c4).symm.trans hf
  by_cases c6 : l1 = (45 : Int32)
  · replace hf := (if_pos c6).symm.trans hf
    refine v_lookup dX2_joined_1 (by decide) (off := 68) (by rw [c6]; decide) (tgt := 69) (by decide) ?_
    refine v_iload_n dX2_joined_69 rfl ?_
    refine v_i2l dX2_joined_70 ?_
    refine v_iload_n dX2_joined_71 rfl ?_
    refine v_i2l dX2_joined_72 ?_
    refine v_lsub dX2_joined_73 ?_
    obtain ⟨q7, eq7, hf⟩ := ob hf
    refine v_callS dX2_joined_74 ⟨cb_X2_held, ml_2_88, sm_X2_held⟩ (ev_X2_held eq7) (by decide) (As := [.long (l0.toInt64 - l2.toInt64)]) rfl (st := []) rfl (Nat.le_of_ble_eq_true rfl) rfl ?_
    replace hf := Option.some.inj hf
    subst hf
    exact v_iret dX2_joined_77 rfl
  replace hf := (if_neg c6).symm.trans hf
  by_cases c8 : l1 = (124 : Int32)
  · replace hf := (if_pos c8).symm.trans hf
    refine v_lookup dX2_joined_1 (by decide) (off := 51) (by rw [c8]; decide) (tgt := 52) (by decide) ?_
    refine v_iload_n dX2_joined_52 rfl ?_
    refine v_iload_n dX2_joined_53 rfl ?_
    refine v_ior dX2_joined_54 ?_
    replace hf := Option.some.inj hf
    subst hf
    exact v_iret dX2_joined_55 rfl
  replace hf := (if_neg c8).symm.trans hf
  refine v_lookup dX2_joined_1 (by decide) (off := 86) (by show Op.lookupswitch.offset [(38, 55), (42, 77), (43, 59), (45, 68), (124, 51)] 86 (l1).toInt = _; rw [lv_osw c1 (k := 38) (by decide), lv_osw c2 (k := 42) (by decide), lv_osw c4 (k := 43) (by decide), lv_osw c6 (k := 45) (by decide), lv_osw c8 (k := 124) (by decide)]; rfl) (tgt := 87) (by decide) ?_
  refine v_iload_n dX2_joined_87 rfl ?_
  refine v_if_ne dX2_joined_88 (tgt := 95) (by decide) (fun c9 => ?_) (fun c9 => ?_)
  · replace hf := (if_neg c9).symm.trans hf
    refine v_iload_n dX2_joined_95 rfl ?_
    refine v_iload_n dX2_joined_96 rfl ?_
    by_cases z10 : l2 = 0
    · replace hf := (if_pos z10).symm.trans hf
      cases hf
    replace hf := (if_neg z10).symm.trans hf
    refine v_idiv dX2_joined_97 z10 ?_
    replace hf := Option.some.inj hf
    subst hf
    exact v_iret dX2_joined_98 rfl
  · replace hf := (if_pos c9).symm.trans hf
    refine v_iconst dX2_joined_91 (by decide) (v := 0) ?_
    refine v_goto dX2_joined_92 (tgt := 98) (by decide) ?_
    replace hf := Option.some.inj hf
    subst hf
    exact v_iret dX2_joined_98 rfl
def M_X2_atom : xa_M := (yX2_atom, cX2_atom, 4, some .int)
theorem cb_X2_atom : xa_CB M_X2_atom 1 := ⟨gws_at 737 (by decide +kernel) rfl, gws_at 113 (by decide +kernel) rfl, by decide +kernel, Nat.le_of_ble_eq_true rfl⟩
def M_X2_compared : xa_M := (yX2_compared, cX2_compared, 6, some .int)
theorem cb_X2_compared : xa_CB M_X2_compared 2 := ⟨gws_at 730 (by decide +kernel) rfl, gws_at 113 (by decide +kernel) rfl, by decide +kernel, Nat.le_of_ble_eq_true rfl⟩
def M_X2_part : xa_M := (yX2_part, cX2_part, 3, some .int)
theorem cb_X2_part : xa_CB M_X2_part 2 := ⟨gws_at 714 (by decide +kernel) rfl, gws_at 113 (by decide +kernel) rfl, by decide +kernel, Nat.le_of_ble_eq_true rfl⟩
def M_X2_row : xa_M := (yX2_row, cX2_row, 7, some .int)
theorem cb_X2_row : xa_CB M_X2_row 3 := ⟨gws_at 745 (by decide +kernel) rfl, gws_at 113 (by decide +kernel) rfl, by decide +kernel, Nat.le_of_ble_eq_true rfl⟩
def M_X2_unit : xa_M := (yX2_unit, cX2_unit, 3, some .int)
theorem cb_X2_unit : xa_CB M_X2_unit 1 := ⟨gws_at 718 (by decide +kernel) rfl, gws_at 113 (by decide +kernel) rfl, by decide +kernel, Nat.le_of_ble_eq_true rfl⟩
def f_X2_atom_b40 (c_X2_atom : xa_H → Nat → Int32 → Option (Int32 × xa_H)) (c_X2_compared : xa_H → Nat → Int32 → Int32 → Option (Int32 × xa_H)) (c_X2_part : xa_H → Nat → Int32 → Int32 → Option (Int32 × xa_H)) (c_X2_row : xa_H → Nat → Int32 → Int32 → Int32 → Option (Int32 × xa_H)) (c_X2_unit : xa_H → Nat → Int32 → Option (Int32 × xa_H)) : Nat → xa_H → Nat → Int32 → Int32 → Option (Int32 × xa_H)
  | 0, _, _, _, _ => none
  | n + 1, h, l0, l2, l3 =>
    (gR [2] 4 h l0).bind fun x1 =>
    (aN h x1).bind fun x2 =>
    if x2 ≤ l3 then
      (ck [2] h l0).bind fun u5 =>
      (f_X4_number h l0 (4 : Int32)).bind fun q4 =>
      some (q4.1, q4.2)
    else
      (sAt (1000000010 + 0) l3).bind fun x6 =>
      if x6 = l2 then
        (gI [2] 2 h l0).bind fun x8 =>
        (xp [2] 2 h l0 (.int (x8 + (1 : Int32)))).bind fun h9 =>
        (gR [2] 4 h9 l0).bind fun x10 =>
        (aI h9 x10 l3).bind fun x11 =>
        some (x11, h9)
      else
        f_X2_atom_b40 c_X2_atom c_X2_compared c_X2_part c_X2_row c_X2_unit n h l0 l2 (l3 + (1 : Int32))
set_option maxRecDepth 20000 in
theorem e_X2_atom_b40 {G : xa_G} {d d1 : Nat} {c_X2_atom : xa_H → Nat → Int32 → Option (Int32 × xa_H)} (hc_X2_atom : ∀ {h : xa_H} {a0 : Nat} {a1 : Int32} {r : (Int32 × xa_H)}, c_X2_atom h a0 a1 = some r → xa_Ev G M_X2_atom d1 [.ref a0, .int a1] h (some (.int r.1)) r.2) (hck_X2_atom : ∀ {h : xa_H} {a0 : Nat} {a1 : Int32} {r : (Int32 × xa_H)}, c_X2_atom h a0 a1 = some r → ck [2] h a0 = some ()) {c_X2_compared : xa_H → Nat → Int32 → Int32 → Option (Int32 × xa_H)} (hc_X2_compared : ∀ {h : xa_H} {a0 : Nat} {a1 : Int32} {a2 : Int32} {r : (Int32 × xa_H)}, c_X2_compared h a0 a1 a2 = some r → xa_Ev G M_X2_compared d1 [.ref a0, .int a1, .int a2] h (some (.int r.1)) r.2) (hck_X2_compared : ∀ {h : xa_H} {a0 : Nat} {a1 : Int32} {a2 : Int32} {r : (Int32 × xa_H)}, c_X2_compared h a0 a1 a2 = some r → ck [2] h a0 = some ()) {c_X2_part : xa_H → Nat → Int32 → Int32 → Option (Int32 × xa_H)} (hc_X2_part : ∀ {h : xa_H} {a0 : Nat} {a1 : Int32} {a2 : Int32} {r : (Int32 × xa_H)}, c_X2_part h a0 a1 a2 = some r → xa_Ev G M_X2_part d1 [.ref a0, .int a1, .int a2] h (some (.int r.1)) r.2) (hck_X2_part : ∀ {h : xa_H} {a0 : Nat} {a1 : Int32} {a2 : Int32} {r : (Int32 × xa_H)}, c_X2_part h a0 a1 a2 = some r → ck [2] h a0 = some ()) {c_X2_row : xa_H → Nat → Int32 → Int32 → Int32 → Option (Int32 × xa_H)} (hc_X2_row : ∀ {h : xa_H} {a0 : Nat} {a1 : Int32} {a2 : Int32} {a3 : Int32} {r : (Int32 × xa_H)}, c_X2_row h a0 a1 a2 a3 = some r → xa_Ev G M_X2_row d1 [.ref a0, .int a1, .int a2, .int a3] h (some (.int r.1)) r.2) (hck_X2_row : ∀ {h : xa_H} {a0 : Nat} {a1 : Int32} {a2 : Int32} {a3 : Int32} {r : (Int32 × xa_H)}, c_X2_row h a0 a1 a2 a3 = some r → ck [2] h a0 = some ()) {c_X2_unit : xa_H → Nat → Int32 → Option (Int32 × xa_H)} (hc_X2_unit : ∀ {h : xa_H} {a0 : Nat} {a1 : Int32} {r : (Int32 × xa_H)}, c_X2_unit h a0 a1 = some r → xa_Ev G M_X2_unit d1 [.ref a0, .int a1] h (some (.int r.1)) r.2) (hck_X2_unit : ∀ {h : xa_H} {a0 : Nat} {a1 : Int32} {r : (Int32 × xa_H)}, c_X2_unit h a0 a1 = some r → ck [2] h a0 = some ()) (hdx : 4 ≤ d) (hd1 : d1 + 1 ≤ d) : ∀ (n : Nat) (h : xa_H) (l0 : Nat) (l2 : Int32) (l3 : Int32) (r : (Int32 × xa_H)), f_X2_atom_b40 c_X2_atom c_X2_compared c_X2_part c_X2_row c_X2_unit n h l0 l2 l3 = some r → xa_V G M_X2_atom d 40 [some (.ref l0), none, some (.int l2), some (.int l3)] [] h (some (.int r.1)) r.2 := by
  intro n
  induction n with
  | zero =>
    intro h l0 l2 l3 r hf
    cases (show (none : Option (Int32 × xa_H)) = some r from hf)
  | succ n ih =>
    intro h l0 l2 l3 r hf
    rw [f_X2_atom_b40] at hf
    refine v_iload_n dX2_atom_40 rfl ?_
    refine v_aload_n dX2_atom_41 rfl ?_
    obtain ⟨x1, ex1, hf⟩ := ob hf
    refine v_getR dX2_atom_42 fl_2_19 ex1 ?_
    obtain ⟨x2, ex2, hf⟩ := ob hf
    refine v_alen dX2_atom_45 ex2 ?_
    refine v_icmp_ge dX2_atom_46 (tgt := 82) (by decide) (fun c3 => ?_) (fun c3 => ?_)
    · replace hf := (if_pos c3).symm.trans hf
      refine v_aload_n dX2_atom_82 rfl ?_
      refine v_iconst dX2_atom_83 (by decide) (v := 4) ?_
      obtain ⟨u5, eu5, hf⟩ := ob hf
      obtain ⟨q4, eq4, hf⟩ := ob hf
      refine v_callU dX2_atom_84 ⟨cb_X4_number, ml_2_111, im_X4_number, sm2_2_X4_number, by decide +kernel, by decide +kernel, by decide +kernel, by decide +kernel⟩ se_2_X4_number_2 eu5 (ev_X4_number eq4) (Nat.le_trans (by decide) hdx) (As := [.int (4 : Int32)]) rfl (st := []) rfl (Nat.le_of_ble_eq_true rfl) rfl ?_
      replace hf := Option.some.inj hf
      subst hf
      exact v_iret dX2_atom_87 rfl
    · replace hf := (if_neg c3).symm.trans hf
      refine v_ldcs dX2_atom_49 (List.mem_of_getElem? (i := 0) rfl) ?_
      refine v_iload_n dX2_atom_51 rfl ?_
      obtain ⟨x6, ex6, hf⟩ := ob hf
      refine v_sat dX2_atom_52 ml_2_78 (Nat.le_trans (by decide) hdx) (Nat.le_of_ble_eq_true rfl) ex6 ?_
      refine v_iload_n dX2_atom_55 rfl ?_
      refine v_icmp_ne dX2_atom_56 (tgt := 76) (by decide) (fun c7 => ?_) (fun c7 => ?_)
      · replace hf := (if_neg c7).symm.trans hf
        refine v_iinc dX2_atom_76 rfl (v := (l3 + (1 : Int32))) rfl (Nat.le_of_ble_eq_true rfl) (loc' := [some (.ref l0), none, some (.int l2), some (.int (l3 + (1 : Int32)))]) rfl ?_
        refine v_goto dX2_atom_79 (tgt := 40) (by decide) ?_
        exact ih h l0 l2 (l3 + (1 : Int32)) r hf
      · replace hf := (if_pos c7).symm.trans hf
        refine v_aload_n dX2_atom_59 rfl ?_
        refine v_dup dX2_atom_60 rfl ?_
        obtain ⟨x8, ex8, hf⟩ := ob hf
        refine v_getI dX2_atom_61 fl_2_82 ex8 ?_
        refine v_iconst dX2_atom_64 (by decide) (v := 1) ?_
        refine v_iadd dX2_atom_65 ?_
        obtain ⟨h9, eh9, hf⟩ := ob hf
        refine v_put dX2_atom_66 fp_2_82 (fun z => by cases z) (fun _ => rfl) (fun _ => rfl) eh9 ?_
        refine v_aload_n dX2_atom_69 rfl ?_
        obtain ⟨x10, ex10, hf⟩ := ob hf
        refine v_getR dX2_atom_70 fl_2_19 ex10 ?_
        refine v_iload_n dX2_atom_73 rfl ?_
        obtain ⟨x11, ex11, hf⟩ := ob hf
        refine v_ialoadI dX2_atom_74 ex11 ?_
        replace hf := Option.some.inj hf
        subst hf
        exact v_iret dX2_atom_75 rfl
def g_X2_atom (c_X2_atom : xa_H → Nat → Int32 → Option (Int32 × xa_H)) (c_X2_compared : xa_H → Nat → Int32 → Int32 → Option (Int32 × xa_H)) (c_X2_part : xa_H → Nat → Int32 → Int32 → Option (Int32 × xa_H)) (c_X2_row : xa_H → Nat → Int32 → Int32 → Int32 → Option (Int32 × xa_H)) (c_X2_unit : xa_H → Nat → Int32 → Option (Int32 × xa_H)) (h : xa_H) (l0 : Nat) (l1 : Int32) : Option (Int32 × xa_H) :=
  (ck [2] h l0).bind fun _ =>
  (ck [2] h l0).bind fun u2 =>
  (f_X4_peek h l0).bind fun q1 =>
  if q1.1 = (91 : Int32) then
    (f_X2_goesIn q1.2 l0 l1).bind fun q4 =>
    if q4.1 = 0 then
      some ((0 : Int32), q4.2)
    else
      (c_X2_part q4.2 l0 (3 : Int32) (l1 + (1 : Int32))).bind fun q6 =>
      (f_X2_closed q6.2 l0 q6.1 (93 : Int32)).bind fun q7 =>
      some (q7.1, q7.2)
  else
    f_X2_atom_b40 c_X2_atom c_X2_compared c_X2_part c_X2_row c_X2_unit 1048576 q1.2 l0 q1.1 (0 : Int32)
set_option maxRecDepth 20000 in
theorem eg_X2_atom {G : xa_G} {d d1 : Nat} {c_X2_atom : xa_H → Nat → Int32 → Option (Int32 × xa_H)} (hc_X2_atom : ∀ {h : xa_H} {a0 : Nat} {a1 : Int32} {r : (Int32 × xa_H)}, c_X2_atom h a0 a1 = some r → xa_Ev G M_X2_atom d1 [.ref a0, .int a1] h (some (.int r.1)) r.2) (hck_X2_atom : ∀ {h : xa_H} {a0 : Nat} {a1 : Int32} {r : (Int32 × xa_H)}, c_X2_atom h a0 a1 = some r → ck [2] h a0 = some ()) {c_X2_compared : xa_H → Nat → Int32 → Int32 → Option (Int32 × xa_H)} (hc_X2_compared : ∀ {h : xa_H} {a0 : Nat} {a1 : Int32} {a2 : Int32} {r : (Int32 × xa_H)}, c_X2_compared h a0 a1 a2 = some r → xa_Ev G M_X2_compared d1 [.ref a0, .int a1, .int a2] h (some (.int r.1)) r.2) (hck_X2_compared : ∀ {h : xa_H} {a0 : Nat} {a1 : Int32} {a2 : Int32} {r : (Int32 × xa_H)}, c_X2_compared h a0 a1 a2 = some r → ck [2] h a0 = some ()) {c_X2_part : xa_H → Nat → Int32 → Int32 → Option (Int32 × xa_H)} (hc_X2_part : ∀ {h : xa_H} {a0 : Nat} {a1 : Int32} {a2 : Int32} {r : (Int32 × xa_H)}, c_X2_part h a0 a1 a2 = some r → xa_Ev G M_X2_part d1 [.ref a0, .int a1, .int a2] h (some (.int r.1)) r.2) (hck_X2_part : ∀ {h : xa_H} {a0 : Nat} {a1 : Int32} {a2 : Int32} {r : (Int32 × xa_H)}, c_X2_part h a0 a1 a2 = some r → ck [2] h a0 = some ()) {c_X2_row : xa_H → Nat → Int32 → Int32 → Int32 → Option (Int32 × xa_H)} (hc_X2_row : ∀ {h : xa_H} {a0 : Nat} {a1 : Int32} {a2 : Int32} {a3 : Int32} {r : (Int32 × xa_H)}, c_X2_row h a0 a1 a2 a3 = some r → xa_Ev G M_X2_row d1 [.ref a0, .int a1, .int a2, .int a3] h (some (.int r.1)) r.2) (hck_X2_row : ∀ {h : xa_H} {a0 : Nat} {a1 : Int32} {a2 : Int32} {a3 : Int32} {r : (Int32 × xa_H)}, c_X2_row h a0 a1 a2 a3 = some r → ck [2] h a0 = some ()) {c_X2_unit : xa_H → Nat → Int32 → Option (Int32 × xa_H)} (hc_X2_unit : ∀ {h : xa_H} {a0 : Nat} {a1 : Int32} {r : (Int32 × xa_H)}, c_X2_unit h a0 a1 = some r → xa_Ev G M_X2_unit d1 [.ref a0, .int a1] h (some (.int r.1)) r.2) (hck_X2_unit : ∀ {h : xa_H} {a0 : Nat} {a1 : Int32} {r : (Int32 × xa_H)}, c_X2_unit h a0 a1 = some r → ck [2] h a0 = some ()) (hdx : 4 ≤ d) (hd1 : d1 + 1 ≤ d) {h : xa_H} {l0 : Nat} {l1 : Int32} {r : (Int32 × xa_H)} (hf : g_X2_atom c_X2_atom c_X2_compared c_X2_part c_X2_row c_X2_unit h l0 l1 = some r) : xa_Ev G M_X2_atom d [.ref l0, .int l1] h (some (.int r.1)) r.2 := by
  refine xa_entry (by decide +kernel) (loc := [some (.ref l0), some (.int l1), none, none]) rfl (Nat.le_of_ble_eq_true rfl) ?_
  unfold g_X2_atom at hf
  obtain ⟨u0, eu0, hf⟩ := ob hf
  refine v_aload_n dX2_atom_0 rfl ?_
  obtain ⟨u2, eu2, hf⟩ := ob hf
  obtain ⟨q1, eq1, hf⟩ := ob hf
  refine v_callU dX2_atom_1 ⟨cb_X4_peek, ml_2_42, im_X4_peek, sm2_2_X4_peek, by decide +kernel, by decide +kernel, by decide +kernel, by decide +kernel⟩ se_2_X4_peek_2 eu2 (ev_X4_peek eq1) (Nat.le_trans (by decide) hdx) (As := []) rfl (st := []) rfl (Nat.le_of_ble_eq_true rfl) rfl ?_
  refine v_istore_n (i := 2) rfl dX2_atom_4 (Nat.le_of_ble_eq_true rfl) (loc' := [some (.ref l0), some (.int l1), some (.int q1.1), none]) rfl ?_
  refine v_iload_n dX2_atom_5 rfl ?_
  refine v_bipush dX2_atom_6 (by decide) (v := 91) ?_
  refine v_icmp_ne dX2_atom_8 (tgt := 38) (by decide) (fun c3 => ?_) (fun c3 => ?_)
  · replace hf := (if_neg c3).symm.trans hf
    refine v_iconst dX2_atom_38 (by decide) (v := 0) ?_
    refine v_istore_n (i := 3) rfl dX2_atom_39 (Nat.le_of_ble_eq_true rfl) (loc' := [some (.ref l0), some (.int l1), some (.int q1.1), some (.int (0 : Int32))]) rfl ?_
    exact xa_weak (loc := [some (.ref l0), none, some (.int q1.1), some (.int (0 : Int32))]) ⟨rfl, ⟨rfl, ⟨rfl, trivial⟩⟩⟩ (e_X2_atom_b40 hc_X2_atom hck_X2_atom hc_X2_compared hck_X2_compared hc_X2_part hck_X2_part hc_X2_row hck_X2_row hc_X2_unit hck_X2_unit hdx hd1 1048576 q1.2 l0 q1.1 (0 : Int32) r hf)
  · replace hf := (if_pos c3).symm.trans hf
    refine v_aload_n dX2_atom_11 rfl ?_
    refine v_iload_n dX2_atom_12 rfl ?_
    obtain ⟨q4, eq4, hf⟩ := ob hf
    refine v_callV dX2_atom_13 ⟨cb_X2_goesIn, ml_2_105, im_X2_goesIn⟩ se_2_X2_goesIn (ckf_X2_goesIn eq4) (ev_X2_goesIn eq4) (Nat.le_trans (by decide) hdx) (As := [.int l1]) rfl (st := []) rfl (Nat.le_of_ble_eq_true rfl) rfl ?_
    refine v_if_eq dX2_atom_16 (tgt := 36) (by decide) (fun c5 => ?_) (fun c5 => ?_)
    · replace hf := (if_pos c5).symm.trans hf
      refine v_iconst dX2_atom_36 (by decide) (v := 0) ?_
      replace hf := Option.some.inj hf
      subst hf
      exact v_iret dX2_atom_37 rfl
    · replace hf := (if_neg c5).symm.trans hf
      refine v_aload_n dX2_atom_19 rfl ?_
      refine v_aload_n dX2_atom_20 rfl ?_
      refine v_iconst dX2_atom_21 (by decide) (v := 3) ?_
      refine v_iload_n dX2_atom_22 rfl ?_
      refine v_iconst dX2_atom_23 (by decide) (v := 1) ?_
      refine v_iadd dX2_atom_24 ?_
      obtain ⟨q6, eq6, hf⟩ := ob hf
      refine v_callV dX2_atom_25 ⟨cb_X2_part, ml_2_55, im_X2_part⟩ se_2_X2_part (hck_X2_part eq6) (hc_X2_part eq6) hd1 (As := [.int (3 : Int32), .int (l1 + (1 : Int32))]) rfl (st := [.ref l0]) rfl (Nat.le_of_ble_eq_true rfl) rfl ?_
      refine v_bipush dX2_atom_28 (by decide) (v := 93) ?_
      obtain ⟨q7, eq7, hf⟩ := ob hf
      refine v_callV dX2_atom_30 ⟨cb_X2_closed, ml_2_108, im_X2_closed⟩ se_2_X2_closed (ckf_X2_closed eq7) (ev_X2_closed eq7) (Nat.le_trans (by decide) hdx) (As := [.int q6.1, .int (93 : Int32)]) rfl (st := []) rfl (Nat.le_of_ble_eq_true rfl) rfl ?_
      refine v_goto dX2_atom_33 (tgt := 37) (by decide) ?_
      replace hf := Option.some.inj hf
      subst hf
      exact v_iret dX2_atom_37 rfl
theorem cg_X2_atom {c_X2_atom : xa_H → Nat → Int32 → Option (Int32 × xa_H)} {c_X2_compared : xa_H → Nat → Int32 → Int32 → Option (Int32 × xa_H)} {c_X2_part : xa_H → Nat → Int32 → Int32 → Option (Int32 × xa_H)} {c_X2_row : xa_H → Nat → Int32 → Int32 → Int32 → Option (Int32 × xa_H)} {c_X2_unit : xa_H → Nat → Int32 → Option (Int32 × xa_H)} {h : xa_H} {l0 : Nat} {l1 : Int32} {r : (Int32 × xa_H)} (hf : g_X2_atom c_X2_atom c_X2_compared c_X2_part c_X2_row c_X2_unit h l0 l1 = some r) : ck [2] h l0 = some () := by
  obtain ⟨u, e, -⟩ := ob hf
  exact e
def f_X2_compared_b88 (c_X2_atom : xa_H → Nat → Int32 → Option (Int32 × xa_H)) (c_X2_compared : xa_H → Nat → Int32 → Int32 → Option (Int32 × xa_H)) (c_X2_part : xa_H → Nat → Int32 → Int32 → Option (Int32 × xa_H)) (c_X2_row : xa_H → Nat → Int32 → Int32 → Int32 → Option (Int32 × xa_H)) (c_X2_unit : xa_H → Nat → Int32 → Option (Int32 × xa_H)) (h : xa_H) (s0 : Int32) : Option (Int32 × xa_H) :=
  if s0 = 0 then
    some ((0 : Int32), h)
  else
    some ((1 : Int32), h)
set_option maxRecDepth 20000 in
theorem e_X2_compared_b88 {G : xa_G} {d d1 : Nat} {c_X2_atom : xa_H → Nat → Int32 → Option (Int32 × xa_H)} (hc_X2_atom : ∀ {h : xa_H} {a0 : Nat} {a1 : Int32} {r : (Int32 × xa_H)}, c_X2_atom h a0 a1 = some r → xa_Ev G M_X2_atom d1 [.ref a0, .int a1] h (some (.int r.1)) r.2) (hck_X2_atom : ∀ {h : xa_H} {a0 : Nat} {a1 : Int32} {r : (Int32 × xa_H)}, c_X2_atom h a0 a1 = some r → ck [2] h a0 = some ()) {c_X2_compared : xa_H → Nat → Int32 → Int32 → Option (Int32 × xa_H)} (hc_X2_compared : ∀ {h : xa_H} {a0 : Nat} {a1 : Int32} {a2 : Int32} {r : (Int32 × xa_H)}, c_X2_compared h a0 a1 a2 = some r → xa_Ev G M_X2_compared d1 [.ref a0, .int a1, .int a2] h (some (.int r.1)) r.2) (hck_X2_compared : ∀ {h : xa_H} {a0 : Nat} {a1 : Int32} {a2 : Int32} {r : (Int32 × xa_H)}, c_X2_compared h a0 a1 a2 = some r → ck [2] h a0 = some ()) {c_X2_part : xa_H → Nat → Int32 → Int32 → Option (Int32 × xa_H)} (hc_X2_part : ∀ {h : xa_H} {a0 : Nat} {a1 : Int32} {a2 : Int32} {r : (Int32 × xa_H)}, c_X2_part h a0 a1 a2 = some r → xa_Ev G M_X2_part d1 [.ref a0, .int a1, .int a2] h (some (.int r.1)) r.2) (hck_X2_part : ∀ {h : xa_H} {a0 : Nat} {a1 : Int32} {a2 : Int32} {r : (Int32 × xa_H)}, c_X2_part h a0 a1 a2 = some r → ck [2] h a0 = some ()) {c_X2_row : xa_H → Nat → Int32 → Int32 → Int32 → Option (Int32 × xa_H)} (hc_X2_row : ∀ {h : xa_H} {a0 : Nat} {a1 : Int32} {a2 : Int32} {a3 : Int32} {r : (Int32 × xa_H)}, c_X2_row h a0 a1 a2 a3 = some r → xa_Ev G M_X2_row d1 [.ref a0, .int a1, .int a2, .int a3] h (some (.int r.1)) r.2) (hck_X2_row : ∀ {h : xa_H} {a0 : Nat} {a1 : Int32} {a2 : Int32} {a3 : Int32} {r : (Int32 × xa_H)}, c_X2_row h a0 a1 a2 a3 = some r → ck [2] h a0 = some ()) {c_X2_unit : xa_H → Nat → Int32 → Option (Int32 × xa_H)} (hc_X2_unit : ∀ {h : xa_H} {a0 : Nat} {a1 : Int32} {r : (Int32 × xa_H)}, c_X2_unit h a0 a1 = some r → xa_Ev G M_X2_unit d1 [.ref a0, .int a1] h (some (.int r.1)) r.2) (hck_X2_unit : ∀ {h : xa_H} {a0 : Nat} {a1 : Int32} {r : (Int32 × xa_H)}, c_X2_unit h a0 a1 = some r → ck [2] h a0 = some ()) (hdx : 4 ≤ d) (hd1 : d1 + 1 ≤ d) : ∀ (h : xa_H) (s0 : Int32) (r : (Int32 × xa_H)), f_X2_compared_b88 c_X2_atom c_X2_compared c_X2_part c_X2_row c_X2_unit h s0 = some r → xa_V G M_X2_compared d 88 [none, none, none, none, none, none] [.int s0] h (some (.int r.1)) r.2 := by
  intro h s0 r hf
  unfold f_X2_compared_b88 at hf
  refine v_istore dX2_compared_88 (Nat.le_of_ble_eq_true rfl) (loc' := [none, none, none, none, none, some (.int s0)]) rfl ?_
  refine v_iload dX2_compared_90 rfl ?_
  refine v_if_eq dX2_compared_92 (tgt := 99) (by decide) (fun c1 => ?_) (fun c1 => ?_)
  · replace hf := (if_pos c1).symm.trans hf
    refine v_iconst dX2_compared_99 (by decide) (v := 0) ?_
    replace hf := Option.some.inj hf
    subst hf
    exact v_iret dX2_compared_100 rfl
  · replace hf := (if_neg c1).symm.trans hf
    refine v_iconst dX2_compared_95 (by decide) (v := 1) ?_
    refine v_goto dX2_compared_96 (tgt := 100) (by decide) ?_
    replace hf := Option.some.inj hf
    subst hf
    exact v_iret dX2_compared_100 rfl
def g_X2_compared (c_X2_atom : xa_H → Nat → Int32 → Option (Int32 × xa_H)) (c_X2_compared : xa_H → Nat → Int32 → Int32 → Option (Int32 × xa_H)) (c_X2_part : xa_H → Nat → Int32 → Int32 → Option (Int32 × xa_H)) (c_X2_row : xa_H → Nat → Int32 → Int32 → Int32 → Option (Int32 × xa_H)) (c_X2_unit : xa_H → Nat → Int32 → Option (Int32 × xa_H)) (h : xa_H) (l0 : Nat) (l1 : Int32) (l2 : Int32) : Option (Int32 × xa_H) :=
  (ck [2] h l0).bind fun _ =>
  (ck [2] h l0).bind fun u2 =>
  (f_X4_peek h l0).bind fun q1 =>
  (f_X2_isComparison q1.2 q1.1).bind fun q3 =>
  if q3 = 0 then
    (xp [2] 3 q1.2 l0 (.int (1 : Int32))).bind fun h13 =>
    some ((0 : Int32), h13)
  else
    (gI [2] 2 q1.2 l0).bind fun x5 =>
    (xp [2] 2 q1.2 l0 (.int (x5 + (1 : Int32)))).bind fun h6 =>
    (c_X2_part h6 l0 (3 : Int32) l2).bind fun q7 =>
    if q1.1 = (61 : Int32) then
      if l1 = q7.1 then
        f_X2_compared_b88 c_X2_atom c_X2_compared c_X2_part c_X2_row c_X2_unit q7.2 (1 : Int32)
      else
        f_X2_compared_b88 c_X2_atom c_X2_compared c_X2_part c_X2_row c_X2_unit q7.2 (0 : Int32)
    else
      if q1.1 = (60 : Int32) then
        if q7.1 ≤ l1 then
          f_X2_compared_b88 c_X2_atom c_X2_compared c_X2_part c_X2_row c_X2_unit q7.2 (0 : Int32)
        else
          f_X2_compared_b88 c_X2_atom c_X2_compared c_X2_part c_X2_row c_X2_unit q7.2 (1 : Int32)
      else
        if l1 ≤ q7.1 then
          f_X2_compared_b88 c_X2_atom c_X2_compared c_X2_part c_X2_row c_X2_unit q7.2 (0 : Int32)
        else
          f_X2_compared_b88 c_X2_atom c_X2_compared c_X2_part c_X2_row c_X2_unit q7.2 (1 : Int32)
set_option maxRecDepth 20000 in
theorem eg_X2_compared {G : xa_G} {d d1 : Nat} {c_X2_atom : xa_H → Nat → Int32 → Option (Int32 × xa_H)} (hc_X2_atom : ∀ {h : xa_H} {a0 : Nat} {a1 : Int32} {r : (Int32 × xa_H)}, c_X2_atom h a0 a1 = some r → xa_Ev G M_X2_atom d1 [.ref a0, .int a1] h (some (.int r.1)) r.2) (hck_X2_atom : ∀ {h : xa_H} {a0 : Nat} {a1 : Int32} {r : (Int32 × xa_H)}, c_X2_atom h a0 a1 = some r → ck [2] h a0 = some ()) {c_X2_compared : xa_H → Nat → Int32 → Int32 → Option (Int32 × xa_H)} (hc_X2_compared : ∀ {h : xa_H} {a0 : Nat} {a1 : Int32} {a2 : Int32} {r : (Int32 × xa_H)}, c_X2_compared h a0 a1 a2 = some r → xa_Ev G M_X2_compared d1 [.ref a0, .int a1, .int a2] h (some (.int r.1)) r.2) (hck_X2_compared : ∀ {h : xa_H} {a0 : Nat} {a1 : Int32} {a2 : Int32} {r : (Int32 × xa_H)}, c_X2_compared h a0 a1 a2 = some r → ck [2] h a0 = some ()) {c_X2_part : xa_H → Nat → Int32 → Int32 → Option (Int32 × xa_H)} (hc_X2_part : ∀ {h : xa_H} {a0 : Nat} {a1 : Int32} {a2 : Int32} {r : (Int32 × xa_H)}, c_X2_part h a0 a1 a2 = some r → xa_Ev G M_X2_part d1 [.ref a0, .int a1, .int a2] h (some (.int r.1)) r.2) (hck_X2_part : ∀ {h : xa_H} {a0 : Nat} {a1 : Int32} {a2 : Int32} {r : (Int32 × xa_H)}, c_X2_part h a0 a1 a2 = some r → ck [2] h a0 = some ()) {c_X2_row : xa_H → Nat → Int32 → Int32 → Int32 → Option (Int32 × xa_H)} (hc_X2_row : ∀ {h : xa_H} {a0 : Nat} {a1 : Int32} {a2 : Int32} {a3 : Int32} {r : (Int32 × xa_H)}, c_X2_row h a0 a1 a2 a3 = some r → xa_Ev G M_X2_row d1 [.ref a0, .int a1, .int a2, .int a3] h (some (.int r.1)) r.2) (hck_X2_row : ∀ {h : xa_H} {a0 : Nat} {a1 : Int32} {a2 : Int32} {a3 : Int32} {r : (Int32 × xa_H)}, c_X2_row h a0 a1 a2 a3 = some r → ck [2] h a0 = some ()) {c_X2_unit : xa_H → Nat → Int32 → Option (Int32 × xa_H)} (hc_X2_unit : ∀ {h : xa_H} {a0 : Nat} {a1 : Int32} {r : (Int32 × xa_H)}, c_X2_unit h a0 a1 = some r → xa_Ev G M_X2_unit d1 [.ref a0, .int a1] h (some (.int r.1)) r.2) (hck_X2_unit : ∀ {h : xa_H} {a0 : Nat} {a1 : Int32} {r : (Int32 × xa_H)}, c_X2_unit h a0 a1 = some r → ck [2] h a0 = some ()) (hdx : 4 ≤ d) (hd1 : d1 + 1 ≤ d) {h : xa_H} {l0 : Nat} {l1 : Int32} {l2 : Int32} {r : (Int32 × xa_H)} (hf : g_X2_compared c_X2_atom c_X2_compared c_X2_part c_X2_row c_X2_unit h l0 l1 l2 = some r) : xa_Ev G M_X2_compared d [.ref l0, .int l1, .int l2] h (some (.int r.1)) r.2 := by
  refine xa_entry (by decide +kernel) (loc := [some (.ref l0), some (.int l1), some (.int l2), none, none, none]) rfl (Nat.le_of_ble_eq_true rfl) ?_
  unfold g_X2_compared at hf
  obtain ⟨u0, eu0, hf⟩ := ob hf
  refine v_aload_n dX2_compared_0 rfl ?_
  obtain ⟨u2, eu2, hf⟩ := ob hf
  obtain ⟨q1, eq1, hf⟩ := ob hf
  refine v_callU dX2_compared_1 ⟨cb_X4_peek, ml_2_42, im_X4_peek, sm2_2_X4_peek, by decide +kernel, by decide +kernel, by decide +kernel, by decide +kernel⟩ se_2_X4_peek_2 eu2 (ev_X4_peek eq1) (Nat.le_trans (by decide) hdx) (As := []) rfl (st := []) rfl (Nat.le_of_ble_eq_true rfl) rfl ?_
  refine v_istore_n (i := 3) rfl dX2_compared_4 (Nat.le_of_ble_eq_true rfl) (loc' := [some (.ref l0), some (.int l1), some (.int l2), some (.int q1.1), none, none]) rfl ?_
  refine v_iload_n dX2_compared_5 rfl ?_
  obtain ⟨q3, eq3, hf⟩ := ob hf
  refine v_callS dX2_compared_6 ⟨cb_X2_isComparison, ml_2_59, sm_X2_isComparison⟩ (ev_X2_isComparison eq3) (Nat.le_trans (by decide) hdx) (As := [.int q1.1]) rfl (st := []) rfl (Nat.le_of_ble_eq_true rfl) rfl ?_
  refine v_if_ne dX2_compared_9 (tgt := 19) (by decide) (fun c4 => ?_) (fun c4 => ?_)
  · replace hf := (if_neg c4).symm.trans hf
    refine v_aload_n dX2_compared_19 rfl ?_
    refine v_dup dX2_compared_20 rfl ?_
    obtain ⟨x5, ex5, hf⟩ := ob hf
    refine v_getI dX2_compared_21 fl_2_82 ex5 ?_
    refine v_iconst dX2_compared_24 (by decide) (v := 1) ?_
    refine v_iadd dX2_compared_25 ?_
    obtain ⟨h6, eh6, hf⟩ := ob hf
    refine v_put dX2_compared_26 fp_2_82 (fun z => by cases z) (fun _ => rfl) (fun _ => rfl) eh6 ?_
    refine v_aload_n dX2_compared_29 rfl ?_
    refine v_iconst dX2_compared_30 (by decide) (v := 3) ?_
    refine v_iload_n dX2_compared_31 rfl ?_
    obtain ⟨q7, eq7, hf⟩ := ob hf
    refine v_callV dX2_compared_32 ⟨cb_X2_part, ml_2_55, im_X2_part⟩ se_2_X2_part (hck_X2_part eq7) (hc_X2_part eq7) hd1 (As := [.int (3 : Int32), .int l2]) rfl (st := []) rfl (Nat.le_of_ble_eq_true rfl) rfl ?_
    refine v_istore dX2_compared_35 (Nat.le_of_ble_eq_true rfl) (loc' := [some (.ref l0), some (.int l1), some (.int l2), some (.int q1.1), some (.int q7.1), none]) rfl ?_
    refine v_iload_n dX2_compared_37 rfl ?_
    refine v_bipush dX2_compared_38 (by decide) (v := 61) ?_
    refine v_icmp_ne dX2_compared_40 (tgt := 57) (by decide) (fun c8 => ?_) (fun c8 => ?_)
    · replace hf := (if_neg c8).symm.trans hf
      refine v_iload_n dX2_compared_57 rfl ?_
      refine v_bipush dX2_compared_58 (by decide) (v := 60) ?_
      refine v_icmp_ne dX2_compared_60 (tgt := 77) (by decide) (fun c9 => ?_) (fun c9 => ?_)
      · replace hf := (if_neg c9).symm.trans hf
        refine v_iload_n dX2_compared_77 rfl ?_
        refine v_iload dX2_compared_78 rfl ?_
        refine v_icmp_le dX2_compared_80 (tgt := 87) (by decide) (fun c10 => ?_) (fun c10 => ?_)
        · replace hf := (if_pos c10).symm.trans hf
          refine v_iconst dX2_compared_87 (by decide) (v := 0) ?_
          exact xa_weak (loc := [none, none, none, none, none, none]) trivial (e_X2_compared_b88 hc_X2_atom hck_X2_atom hc_X2_compared hck_X2_compared hc_X2_part hck_X2_part hc_X2_row hck_X2_row hc_X2_unit hck_X2_unit hdx hd1 q7.2 (0 : Int32) r hf)
        · replace hf := (if_neg c10).symm.trans hf
          refine v_iconst dX2_compared_83 (by decide) (v := 1) ?_
          refine v_goto dX2_compared_84 (tgt := 88) (by decide) ?_
          exact xa_weak (loc := [none, none, none, none, none, none]) trivial (e_X2_compared_b88 hc_X2_atom hck_X2_atom hc_X2_compared hck_X2_compared hc_X2_part hck_X2_part hc_X2_row hck_X2_row hc_X2_unit hck_X2_unit hdx hd1 q7.2 (1 : Int32) r hf)
      · replace hf := (if_pos c9).symm.trans hf
        refine v_iload_n dX2_compared_63 rfl ?_
        refine v_iload dX2_compared_64 rfl ?_
        refine v_icmp_ge dX2_compared_66 (tgt := 73) (by decide) (fun c11 => ?_) (fun c11 => ?_)
        · replace hf := (if_pos c11).symm.trans hf
          refine v_iconst dX2_compared_73 (by decide) (v := 0) ?_
          refine v_goto dX2_compared_74 (tgt := 88) (by decide) ?_
          exact xa_weak (loc := [none, none, none, none, none, none]) trivial (e_X2_compared_b88 hc_X2_atom hck_X2_atom hc_X2_compared hck_X2_compared hc_X2_part hck_X2_part hc_X2_row hck_X2_row hc_X2_unit hck_X2_unit hdx hd1 q7.2 (0 : Int32) r hf)
        · replace hf := (if_neg c11).symm.trans hf
          refine v_iconst dX2_compared_69 (by decide) (v := 1) ?_
          refine v_goto dX2_compared_70 (tgt := 88) (by decide) ?_
          exact xa_weak (loc := [none, none, none, none, none, none]) trivial (e_X2_compared_b88 hc_X2_atom hck_X2_atom hc_X2_compared hck_X2_compared hc_X2_part hck_X2_part hc_X2_row hck_X2_row hc_X2_unit hck_X2_unit hdx hd1 q7.2 (1 : Int32) r hf)
    · replace hf := (if_pos c8).symm.trans hf
      refine v_iload_n dX2_compared_43 rfl ?_
      refine v_iload dX2_compared_44 rfl ?_
      refine v_icmp_ne dX2_compared_46 (tgt := 53) (by decide) (fun c12 => ?_) (fun c12 => ?_)
      · replace hf := (if_neg c12).symm.trans hf
        refine v_iconst dX2_compared_53 (by decide) (v := 0) ?_
        refine v_goto dX2_compared_54 (tgt := 88) (by decide) ?_
        exact xa_weak (loc := [none, none, none, none, none, none]) trivial (e_X2_compared_b88 hc_X2_atom hck_X2_atom hc_X2_compared hck_X2_compared hc_X2_part hck_X2_part hc_X2_row hck_X2_row hc_X2_unit hck_X2_unit hdx hd1 q7.2 (0 : Int32) r hf)
      · replace hf := (if_pos c12).symm.trans hf
        refine v_iconst dX2_compared_49 (by decide) (v := 1) ?_
        refine v_goto dX2_compared_50 (tgt := 88) (by decide) ?_
        exact xa_weak (loc := [none, none, none, none, none, none]) trivial (e_X2_compared_b88 hc_X2_atom hck_X2_atom hc_X2_compared hck_X2_compared hc_X2_part hck_X2_part hc_X2_row hck_X2_row hc_X2_unit hck_X2_unit hdx hd1 q7.2 (1 : Int32) r hf)
  · replace hf := (if_pos c4).symm.trans hf
    refine v_aload_n dX2_compared_12 rfl ?_
    refine v_iconst dX2_compared_13 (by decide) (v := 1) ?_
    obtain ⟨h13, eh13, hf⟩ := ob hf
    refine v_put dX2_compared_14 fp_2_45 (fun z => by cases z) (fun _ => rfl) (fun _ => rfl) eh13 ?_
    refine v_iconst dX2_compared_17 (by decide) (v := 0) ?_
    replace hf := Option.some.inj hf
    subst hf
    exact v_iret dX2_compared_18 rfl
theorem cg_X2_compared {c_X2_atom : xa_H → Nat → Int32 → Option (Int32 × xa_H)} {c_X2_compared : xa_H → Nat → Int32 → Int32 → Option (Int32 × xa_H)} {c_X2_part : xa_H → Nat → Int32 → Int32 → Option (Int32 × xa_H)} {c_X2_row : xa_H → Nat → Int32 → Int32 → Int32 → Option (Int32 × xa_H)} {c_X2_unit : xa_H → Nat → Int32 → Option (Int32 × xa_H)} {h : xa_H} {l0 : Nat} {l1 : Int32} {l2 : Int32} {r : (Int32 × xa_H)} (hf : g_X2_compared c_X2_atom c_X2_compared c_X2_part c_X2_row c_X2_unit h l0 l1 l2 = some r) : ck [2] h l0 = some () := by
  obtain ⟨u, e, -⟩ := ob hf
  exact e
def g_X2_part (c_X2_atom : xa_H → Nat → Int32 → Option (Int32 × xa_H)) (c_X2_compared : xa_H → Nat → Int32 → Int32 → Option (Int32 × xa_H)) (c_X2_part : xa_H → Nat → Int32 → Int32 → Option (Int32 × xa_H)) (c_X2_row : xa_H → Nat → Int32 → Int32 → Int32 → Option (Int32 × xa_H)) (c_X2_unit : xa_H → Nat → Int32 → Option (Int32 × xa_H)) (h : xa_H) (l0 : Nat) (l1 : Int32) (l2 : Int32) : Option (Int32 × xa_H) :=
  (ck [2] h l0).bind fun _ =>
  if l1 = (2 : Int32) then
    (c_X2_unit h l0 l2).bind fun q6 =>
    some (q6.1, q6.2)
  else
    if l1 < (5 : Int32) then
      (c_X2_part h l0 (l1 + (1 : Int32)) l2).bind fun q3 =>
      (c_X2_row q3.2 l0 q3.1 l1 l2).bind fun q4 =>
      some (q4.1, q4.2)
    else
      (c_X2_atom h l0 l2).bind fun q5 =>
      some (q5.1, q5.2)
set_option maxRecDepth 20000 in
theorem eg_X2_part {G : xa_G} {d d1 : Nat} {c_X2_atom : xa_H → Nat → Int32 → Option (Int32 × xa_H)} (hc_X2_atom : ∀ {h : xa_H} {a0 : Nat} {a1 : Int32} {r : (Int32 × xa_H)}, c_X2_atom h a0 a1 = some r → xa_Ev G M_X2_atom d1 [.ref a0, .int a1] h (some (.int r.1)) r.2) (hck_X2_atom : ∀ {h : xa_H} {a0 : Nat} {a1 : Int32} {r : (Int32 × xa_H)}, c_X2_atom h a0 a1 = some r → ck [2] h a0 = some ()) {c_X2_compared : xa_H → Nat → Int32 → Int32 → Option (Int32 × xa_H)} (hc_X2_compared : ∀ {h : xa_H} {a0 : Nat} {a1 : Int32} {a2 : Int32} {r : (Int32 × xa_H)}, c_X2_compared h a0 a1 a2 = some r → xa_Ev G M_X2_compared d1 [.ref a0, .int a1, .int a2] h (some (.int r.1)) r.2) (hck_X2_compared : ∀ {h : xa_H} {a0 : Nat} {a1 : Int32} {a2 : Int32} {r : (Int32 × xa_H)}, c_X2_compared h a0 a1 a2 = some r → ck [2] h a0 = some ()) {c_X2_part : xa_H → Nat → Int32 → Int32 → Option (Int32 × xa_H)} (hc_X2_part : ∀ {h : xa_H} {a0 : Nat} {a1 : Int32} {a2 : Int32} {r : (Int32 × xa_H)}, c_X2_part h a0 a1 a2 = some r → xa_Ev G M_X2_part d1 [.ref a0, .int a1, .int a2] h (some (.int r.1)) r.2) (hck_X2_part : ∀ {h : xa_H} {a0 : Nat} {a1 : Int32} {a2 : Int32} {r : (Int32 × xa_H)}, c_X2_part h a0 a1 a2 = some r → ck [2] h a0 = some ()) {c_X2_row : xa_H → Nat → Int32 → Int32 → Int32 → Option (Int32 × xa_H)} (hc_X2_row : ∀ {h : xa_H} {a0 : Nat} {a1 : Int32} {a2 : Int32} {a3 : Int32} {r : (Int32 × xa_H)}, c_X2_row h a0 a1 a2 a3 = some r → xa_Ev G M_X2_row d1 [.ref a0, .int a1, .int a2, .int a3] h (some (.int r.1)) r.2) (hck_X2_row : ∀ {h : xa_H} {a0 : Nat} {a1 : Int32} {a2 : Int32} {a3 : Int32} {r : (Int32 × xa_H)}, c_X2_row h a0 a1 a2 a3 = some r → ck [2] h a0 = some ()) {c_X2_unit : xa_H → Nat → Int32 → Option (Int32 × xa_H)} (hc_X2_unit : ∀ {h : xa_H} {a0 : Nat} {a1 : Int32} {r : (Int32 × xa_H)}, c_X2_unit h a0 a1 = some r → xa_Ev G M_X2_unit d1 [.ref a0, .int a1] h (some (.int r.1)) r.2) (hck_X2_unit : ∀ {h : xa_H} {a0 : Nat} {a1 : Int32} {r : (Int32 × xa_H)}, c_X2_unit h a0 a1 = some r → ck [2] h a0 = some ()) (hdx : 4 ≤ d) (hd1 : d1 + 1 ≤ d) {h : xa_H} {l0 : Nat} {l1 : Int32} {l2 : Int32} {r : (Int32 × xa_H)} (hf : g_X2_part c_X2_atom c_X2_compared c_X2_part c_X2_row c_X2_unit h l0 l1 l2 = some r) : xa_Ev G M_X2_part d [.ref l0, .int l1, .int l2] h (some (.int r.1)) r.2 := by
  refine xa_entry (by decide +kernel) (loc := [some (.ref l0), some (.int l1), some (.int l2)]) rfl (Nat.le_of_ble_eq_true rfl) ?_
  unfold g_X2_part at hf
  obtain ⟨u0, eu0, hf⟩ := ob hf
  refine v_iload_n dX2_part_0 rfl ?_
  refine v_iconst dX2_part_1 (by decide) (v := 2) ?_
  refine v_icmp_ne dX2_part_2 (tgt := 11) (by decide) (fun c1 => ?_) (fun c1 => ?_)
  · replace hf := (if_neg c1).symm.trans hf
    refine v_iload_n dX2_part_11 rfl ?_
    refine v_iconst dX2_part_12 (by decide) (v := 5) ?_
    refine v_icmp_lt dX2_part_13 (tgt := 22) (by decide) (fun c2 => ?_) (fun c2 => ?_)
    · replace hf := (if_pos c2).symm.trans hf
      refine v_aload_n dX2_part_22 rfl ?_
      refine v_aload_n dX2_part_23 rfl ?_
      refine v_iload_n dX2_part_24 rfl ?_
      refine v_iconst dX2_part_25 (by decide) (v := 1) ?_
      refine v_iadd dX2_part_26 ?_
      refine v_iload_n dX2_part_27 rfl ?_
      obtain ⟨q3, eq3, hf⟩ := ob hf
      refine v_callV dX2_part_28 ⟨cb_X2_part, ml_2_55, im_X2_part⟩ se_2_X2_part (hck_X2_part eq3) (hc_X2_part eq3) hd1 (As := [.int (l1 + (1 : Int32)), .int l2]) rfl (st := [.ref l0]) rfl (Nat.le_of_ble_eq_true rfl) rfl ?_
      refine v_iload_n dX2_part_31 rfl ?_
      refine v_iload_n dX2_part_32 rfl ?_
      obtain ⟨q4, eq4, hf⟩ := ob hf
      refine v_callV dX2_part_33 ⟨cb_X2_row, ml_2_65, im_X2_row⟩ se_2_X2_row (hck_X2_row eq4) (hc_X2_row eq4) hd1 (As := [.int q3.1, .int l1, .int l2]) rfl (st := []) rfl (Nat.le_of_ble_eq_true rfl) rfl ?_
      replace hf := Option.some.inj hf
      subst hf
      exact v_iret dX2_part_36 rfl
    · replace hf := (if_neg c2).symm.trans hf
      refine v_aload_n dX2_part_16 rfl ?_
      refine v_iload_n dX2_part_17 rfl ?_
      obtain ⟨q5, eq5, hf⟩ := ob hf
      refine v_callV dX2_part_18 ⟨cb_X2_atom, ml_2_73, im_X2_atom⟩ se_2_X2_atom (hck_X2_atom eq5) (hc_X2_atom eq5) hd1 (As := [.int l2]) rfl (st := []) rfl (Nat.le_of_ble_eq_true rfl) rfl ?_
      replace hf := Option.some.inj hf
      subst hf
      exact v_iret dX2_part_21 rfl
  · replace hf := (if_pos c1).symm.trans hf
    refine v_aload_n dX2_part_5 rfl ?_
    refine v_iload_n dX2_part_6 rfl ?_
    obtain ⟨q6, eq6, hf⟩ := ob hf
    refine v_callV dX2_part_7 ⟨cb_X2_unit, ml_2_69, im_X2_unit⟩ se_2_X2_unit (hck_X2_unit eq6) (hc_X2_unit eq6) hd1 (As := [.int l2]) rfl (st := []) rfl (Nat.le_of_ble_eq_true rfl) rfl ?_
    replace hf := Option.some.inj hf
    subst hf
    exact v_iret dX2_part_10 rfl
theorem cg_X2_part {c_X2_atom : xa_H → Nat → Int32 → Option (Int32 × xa_H)} {c_X2_compared : xa_H → Nat → Int32 → Int32 → Option (Int32 × xa_H)} {c_X2_part : xa_H → Nat → Int32 → Int32 → Option (Int32 × xa_H)} {c_X2_row : xa_H → Nat → Int32 → Int32 → Int32 → Option (Int32 × xa_H)} {c_X2_unit : xa_H → Nat → Int32 → Option (Int32 × xa_H)} {h : xa_H} {l0 : Nat} {l1 : Int32} {l2 : Int32} {r : (Int32 × xa_H)} (hf : g_X2_part c_X2_atom c_X2_compared c_X2_part c_X2_row c_X2_unit h l0 l1 l2 = some r) : ck [2] h l0 = some () := by
  obtain ⟨u, e, -⟩ := ob hf
  exact e
def f_X2_row_b84 (c_X2_atom : xa_H → Nat → Int32 → Option (Int32 × xa_H)) (c_X2_compared : xa_H → Nat → Int32 → Int32 → Option (Int32 × xa_H)) (c_X2_part : xa_H → Nat → Int32 → Int32 → Option (Int32 × xa_H)) (c_X2_row : xa_H → Nat → Int32 → Int32 → Int32 → Option (Int32 × xa_H)) (c_X2_unit : xa_H → Nat → Int32 → Option (Int32 × xa_H)) (h : xa_H) (l4 : Int32) : Option (Int32 × xa_H) :=
  some (l4, h)
set_option maxRecDepth 20000 in
theorem e_X2_row_b84 {G : xa_G} {d d1 : Nat} {c_X2_atom : xa_H → Nat → Int32 → Option (Int32 × xa_H)} (hc_X2_atom : ∀ {h : xa_H} {a0 : Nat} {a1 : Int32} {r : (Int32 × xa_H)}, c_X2_atom h a0 a1 = some r → xa_Ev G M_X2_atom d1 [.ref a0, .int a1] h (some (.int r.1)) r.2) (hck_X2_atom : ∀ {h : xa_H} {a0 : Nat} {a1 : Int32} {r : (Int32 × xa_H)}, c_X2_atom h a0 a1 = some r → ck [2] h a0 = some ()) {c_X2_compared : xa_H → Nat → Int32 → Int32 → Option (Int32 × xa_H)} (hc_X2_compared : ∀ {h : xa_H} {a0 : Nat} {a1 : Int32} {a2 : Int32} {r : (Int32 × xa_H)}, c_X2_compared h a0 a1 a2 = some r → xa_Ev G M_X2_compared d1 [.ref a0, .int a1, .int a2] h (some (.int r.1)) r.2) (hck_X2_compared : ∀ {h : xa_H} {a0 : Nat} {a1 : Int32} {a2 : Int32} {r : (Int32 × xa_H)}, c_X2_compared h a0 a1 a2 = some r → ck [2] h a0 = some ()) {c_X2_part : xa_H → Nat → Int32 → Int32 → Option (Int32 × xa_H)} (hc_X2_part : ∀ {h : xa_H} {a0 : Nat} {a1 : Int32} {a2 : Int32} {r : (Int32 × xa_H)}, c_X2_part h a0 a1 a2 = some r → xa_Ev G M_X2_part d1 [.ref a0, .int a1, .int a2] h (some (.int r.1)) r.2) (hck_X2_part : ∀ {h : xa_H} {a0 : Nat} {a1 : Int32} {a2 : Int32} {r : (Int32 × xa_H)}, c_X2_part h a0 a1 a2 = some r → ck [2] h a0 = some ()) {c_X2_row : xa_H → Nat → Int32 → Int32 → Int32 → Option (Int32 × xa_H)} (hc_X2_row : ∀ {h : xa_H} {a0 : Nat} {a1 : Int32} {a2 : Int32} {a3 : Int32} {r : (Int32 × xa_H)}, c_X2_row h a0 a1 a2 a3 = some r → xa_Ev G M_X2_row d1 [.ref a0, .int a1, .int a2, .int a3] h (some (.int r.1)) r.2) (hck_X2_row : ∀ {h : xa_H} {a0 : Nat} {a1 : Int32} {a2 : Int32} {a3 : Int32} {r : (Int32 × xa_H)}, c_X2_row h a0 a1 a2 a3 = some r → ck [2] h a0 = some ()) {c_X2_unit : xa_H → Nat → Int32 → Option (Int32 × xa_H)} (hc_X2_unit : ∀ {h : xa_H} {a0 : Nat} {a1 : Int32} {r : (Int32 × xa_H)}, c_X2_unit h a0 a1 = some r → xa_Ev G M_X2_unit d1 [.ref a0, .int a1] h (some (.int r.1)) r.2) (hck_X2_unit : ∀ {h : xa_H} {a0 : Nat} {a1 : Int32} {r : (Int32 × xa_H)}, c_X2_unit h a0 a1 = some r → ck [2] h a0 = some ()) (hdx : 4 ≤ d) (hd1 : d1 + 1 ≤ d) : ∀ (h : xa_H) (l4 : Int32) (r : (Int32 × xa_H)), f_X2_row_b84 c_X2_atom c_X2_compared c_X2_part c_X2_row c_X2_unit h l4 = some r → xa_V G M_X2_row d 84 [none, none, none, none, some (.int l4), none, none] [] h (some (.int r.1)) r.2 := by
  intro h l4 r hf
  unfold f_X2_row_b84 at hf
  refine v_iload dX2_row_84 rfl ?_
  replace hf := Option.some.inj hf
  subst hf
  exact v_iret dX2_row_86 rfl
def f_X2_row_b51 (c_X2_atom : xa_H → Nat → Int32 → Option (Int32 × xa_H)) (c_X2_compared : xa_H → Nat → Int32 → Int32 → Option (Int32 × xa_H)) (c_X2_part : xa_H → Nat → Int32 → Int32 → Option (Int32 × xa_H)) (c_X2_row : xa_H → Nat → Int32 → Int32 → Int32 → Option (Int32 × xa_H)) (c_X2_unit : xa_H → Nat → Int32 → Option (Int32 × xa_H)) (k6 : xa_H → Nat → Int32 → Int32 → Int32 → Int32 → Option (Int32 × xa_H)) (h : xa_H) (l0 : Nat) (l2 : Int32) (l3 : Int32) (l4 : Int32) (l5 : Int32) (l6 : Int32) : Option (Int32 × xa_H) :=
  (gI [2] 2 h l0).bind fun x1 =>
  (xp [2] 2 h l0 (.int (x1 + (1 : Int32)))).bind fun h2 =>
  (c_X2_part h2 l0 (l2 + (1 : Int32)) l3).bind fun q3 =>
  (f_X2_joined q3.2 l4 l6 q3.1).bind fun q4 =>
  k6 q3.2 l0 l2 l3 q4 (l5 + (1 : Int32))
set_option maxRecDepth 20000 in
theorem e_X2_row_b51 {G : xa_G} {d d1 : Nat} {c_X2_atom : xa_H → Nat → Int32 → Option (Int32 × xa_H)} (hc_X2_atom : ∀ {h : xa_H} {a0 : Nat} {a1 : Int32} {r : (Int32 × xa_H)}, c_X2_atom h a0 a1 = some r → xa_Ev G M_X2_atom d1 [.ref a0, .int a1] h (some (.int r.1)) r.2) (hck_X2_atom : ∀ {h : xa_H} {a0 : Nat} {a1 : Int32} {r : (Int32 × xa_H)}, c_X2_atom h a0 a1 = some r → ck [2] h a0 = some ()) {c_X2_compared : xa_H → Nat → Int32 → Int32 → Option (Int32 × xa_H)} (hc_X2_compared : ∀ {h : xa_H} {a0 : Nat} {a1 : Int32} {a2 : Int32} {r : (Int32 × xa_H)}, c_X2_compared h a0 a1 a2 = some r → xa_Ev G M_X2_compared d1 [.ref a0, .int a1, .int a2] h (some (.int r.1)) r.2) (hck_X2_compared : ∀ {h : xa_H} {a0 : Nat} {a1 : Int32} {a2 : Int32} {r : (Int32 × xa_H)}, c_X2_compared h a0 a1 a2 = some r → ck [2] h a0 = some ()) {c_X2_part : xa_H → Nat → Int32 → Int32 → Option (Int32 × xa_H)} (hc_X2_part : ∀ {h : xa_H} {a0 : Nat} {a1 : Int32} {a2 : Int32} {r : (Int32 × xa_H)}, c_X2_part h a0 a1 a2 = some r → xa_Ev G M_X2_part d1 [.ref a0, .int a1, .int a2] h (some (.int r.1)) r.2) (hck_X2_part : ∀ {h : xa_H} {a0 : Nat} {a1 : Int32} {a2 : Int32} {r : (Int32 × xa_H)}, c_X2_part h a0 a1 a2 = some r → ck [2] h a0 = some ()) {c_X2_row : xa_H → Nat → Int32 → Int32 → Int32 → Option (Int32 × xa_H)} (hc_X2_row : ∀ {h : xa_H} {a0 : Nat} {a1 : Int32} {a2 : Int32} {a3 : Int32} {r : (Int32 × xa_H)}, c_X2_row h a0 a1 a2 a3 = some r → xa_Ev G M_X2_row d1 [.ref a0, .int a1, .int a2, .int a3] h (some (.int r.1)) r.2) (hck_X2_row : ∀ {h : xa_H} {a0 : Nat} {a1 : Int32} {a2 : Int32} {a3 : Int32} {r : (Int32 × xa_H)}, c_X2_row h a0 a1 a2 a3 = some r → ck [2] h a0 = some ()) {c_X2_unit : xa_H → Nat → Int32 → Option (Int32 × xa_H)} (hc_X2_unit : ∀ {h : xa_H} {a0 : Nat} {a1 : Int32} {r : (Int32 × xa_H)}, c_X2_unit h a0 a1 = some r → xa_Ev G M_X2_unit d1 [.ref a0, .int a1] h (some (.int r.1)) r.2) (hck_X2_unit : ∀ {h : xa_H} {a0 : Nat} {a1 : Int32} {r : (Int32 × xa_H)}, c_X2_unit h a0 a1 = some r → ck [2] h a0 = some ()) (hdx : 4 ≤ d) (hd1 : d1 + 1 ≤ d) {k6 : xa_H → Nat → Int32 → Int32 → Int32 → Int32 → Option (Int32 × xa_H)} (hk6 : ∀ (h : xa_H) (l0 : Nat) (l2 : Int32) (l3 : Int32) (l4 : Int32) (l5 : Int32) (r : (Int32 × xa_H)), k6 h l0 l2 l3 l4 l5 = some r → xa_V G M_X2_row d 6 [some (.ref l0), none, some (.int l2), some (.int l3), some (.int l4), some (.int l5), none] [] h (some (.int r.1)) r.2) : ∀ (h : xa_H) (l0 : Nat) (l2 : Int32) (l3 : Int32) (l4 : Int32) (l5 : Int32) (l6 : Int32) (r : (Int32 × xa_H)), f_X2_row_b51 c_X2_atom c_X2_compared c_X2_part c_X2_row c_X2_unit k6 h l0 l2 l3 l4 l5 l6 = some r → xa_V G M_X2_row d 51 [some (.ref l0), none, some (.int l2), some (.int l3), some (.int l4), some (.int l5), some (.int l6)] [] h (some (.int r.1)) r.2 := by
  intro h l0 l2 l3 l4 l5 l6 r hf
  unfold f_X2_row_b51 at hf
  refine v_aload_n dX2_row_51 rfl ?_
  refine v_dup dX2_row_52 rfl ?_
  obtain ⟨x1, ex1, hf⟩ := ob hf
  refine v_getI dX2_row_53 fl_2_82 ex1 ?_
  refine v_iconst dX2_row_56 (by decide) (v := 1) ?_
  refine v_iadd dX2_row_57 ?_
  obtain ⟨h2, eh2, hf⟩ := ob hf
  refine v_put dX2_row_58 fp_2_82 (fun z => by cases z) (fun _ => rfl) (fun _ => rfl) eh2 ?_
  refine v_iload dX2_row_61 rfl ?_
  refine v_iload dX2_row_63 rfl ?_
  refine v_aload_n dX2_row_65 rfl ?_
  refine v_iload_n dX2_row_66 rfl ?_
  refine v_iconst dX2_row_67 (by decide) (v := 1) ?_
  refine v_iadd dX2_row_68 ?_
  refine v_iload_n dX2_row_69 rfl ?_
  obtain ⟨q3, eq3, hf⟩ := ob hf
  refine v_callV dX2_row_70 ⟨cb_X2_part, ml_2_55, im_X2_part⟩ se_2_X2_part (hck_X2_part eq3) (hc_X2_part eq3) hd1 (As := [.int (l2 + (1 : Int32)), .int l3]) rfl (st := [.int l6, .int l4]) rfl (Nat.le_of_ble_eq_true rfl) rfl ?_
  obtain ⟨q4, eq4, hf⟩ := ob hf
  refine v_callS dX2_row_73 ⟨cb_X2_joined, ml_2_85, sm_X2_joined⟩ (ev_X2_joined eq4) (Nat.le_trans (by decide) hdx) (As := [.int l4, .int l6, .int q3.1]) rfl (st := []) rfl (Nat.le_of_ble_eq_true rfl) rfl ?_
  refine v_istore dX2_row_76 (Nat.le_of_ble_eq_true rfl) (loc' := [some (.ref l0), none, some (.int l2), some (.int l3), some (.int q4), some (.int l5), some (.int l6)]) rfl ?_
  refine v_iinc dX2_row_78 rfl (v := (l5 + (1 : Int32))) rfl (Nat.le_of_ble_eq_true rfl) (loc' := [some (.ref l0), none, some (.int l2), some (.int l3), some (.int q4), some (.int (l5 + (1 : Int32))), some (.int l6)]) rfl ?_
  refine v_goto dX2_row_81 (tgt := 6) (by decide) ?_
  exact xa_weak (loc := [some (.ref l0), none, some (.int l2), some (.int l3), some (.int q4), some (.int (l5 + (1 : Int32))), none]) ⟨rfl, ⟨rfl, ⟨rfl, ⟨rfl, ⟨rfl, trivial⟩⟩⟩⟩⟩ (hk6 q3.2 l0 l2 l3 q4 (l5 + (1 : Int32)) r hf)
def f_X2_row_b6 (c_X2_atom : xa_H → Nat → Int32 → Option (Int32 × xa_H)) (c_X2_compared : xa_H → Nat → Int32 → Int32 → Option (Int32 × xa_H)) (c_X2_part : xa_H → Nat → Int32 → Int32 → Option (Int32 × xa_H)) (c_X2_row : xa_H → Nat → Int32 → Int32 → Int32 → Option (Int32 × xa_H)) (c_X2_unit : xa_H → Nat → Int32 → Option (Int32 × xa_H)) : Nat → xa_H → Nat → Int32 → Int32 → Int32 → Int32 → Option (Int32 × xa_H)
  | 0, _, _, _, _, _, _ => none
  | n + 1, h, l0, l2, l3, l4, l5 =>
    if (240 : Int32) ≤ l5 then
      f_X2_row_b84 c_X2_atom c_X2_compared c_X2_part c_X2_row c_X2_unit h l4
    else
      (ck [2] h l0).bind fun u3 =>
      (f_X4_peek h l0).bind fun q2 =>
      (sAt (1000000010 + 2) ((2 : Int32) * l2)).bind fun x4 =>
      if q2.1 = x4 then
        f_X2_row_b51 c_X2_atom c_X2_compared c_X2_part c_X2_row c_X2_unit (fun h l0 l2 l3 l4 l5 => f_X2_row_b6 c_X2_atom c_X2_compared c_X2_part c_X2_row c_X2_unit n h l0 l2 l3 l4 l5) q2.2 l0 l2 l3 l4 l5 q2.1
      else
        (sAt (1000000010 + 2) (((2 : Int32) * l2) + (1 : Int32))).bind fun x6 =>
        if q2.1 = x6 then
          f_X2_row_b51 c_X2_atom c_X2_compared c_X2_part c_X2_row c_X2_unit (fun h l0 l2 l3 l4 l5 => f_X2_row_b6 c_X2_atom c_X2_compared c_X2_part c_X2_row c_X2_unit n h l0 l2 l3 l4 l5) q2.2 l0 l2 l3 l4 l5 q2.1
        else
          f_X2_row_b84 c_X2_atom c_X2_compared c_X2_part c_X2_row c_X2_unit q2.2 l4
set_option maxRecDepth 20000 in
theorem e_X2_row_b6 {G : xa_G} {d d1 : Nat} {c_X2_atom : xa_H → Nat → Int32 → Option (Int32 × xa_H)} (hc_X2_atom : ∀ {h : xa_H} {a0 : Nat} {a1 : Int32} {r : (Int32 × xa_H)}, c_X2_atom h a0 a1 = some r → xa_Ev G M_X2_atom d1 [.ref a0, .int a1] h (some (.int r.1)) r.2) (hck_X2_atom : ∀ {h : xa_H} {a0 : Nat} {a1 : Int32} {r : (Int32 × xa_H)}, c_X2_atom h a0 a1 = some r → ck [2] h a0 = some ()) {c_X2_compared : xa_H → Nat → Int32 → Int32 → Option (Int32 × xa_H)} (hc_X2_compared : ∀ {h : xa_H} {a0 : Nat} {a1 : Int32} {a2 : Int32} {r : (Int32 × xa_H)}, c_X2_compared h a0 a1 a2 = some r → xa_Ev G M_X2_compared d1 [.ref a0, .int a1, .int a2] h (some (.int r.1)) r.2) (hck_X2_compared : ∀ {h : xa_H} {a0 : Nat} {a1 : Int32} {a2 : Int32} {r : (Int32 × xa_H)}, c_X2_compared h a0 a1 a2 = some r → ck [2] h a0 = some ()) {c_X2_part : xa_H → Nat → Int32 → Int32 → Option (Int32 × xa_H)} (hc_X2_part : ∀ {h : xa_H} {a0 : Nat} {a1 : Int32} {a2 : Int32} {r : (Int32 × xa_H)}, c_X2_part h a0 a1 a2 = some r → xa_Ev G M_X2_part d1 [.ref a0, .int a1, .int a2] h (some (.int r.1)) r.2) (hck_X2_part : ∀ {h : xa_H} {a0 : Nat} {a1 : Int32} {a2 : Int32} {r : (Int32 × xa_H)}, c_X2_part h a0 a1 a2 = some r → ck [2] h a0 = some ()) {c_X2_row : xa_H → Nat → Int32 → Int32 → Int32 → Option (Int32 × xa_H)} (hc_X2_row : ∀ {h : xa_H} {a0 : Nat} {a1 : Int32} {a2 : Int32} {a3 : Int32} {r : (Int32 × xa_H)}, c_X2_row h a0 a1 a2 a3 = some r → xa_Ev G M_X2_row d1 [.ref a0, .int a1, .int a2, .int a3] h (some (.int r.1)) r.2) (hck_X2_row : ∀ {h : xa_H} {a0 : Nat} {a1 : Int32} {a2 : Int32} {a3 : Int32} {r : (Int32 × xa_H)}, c_X2_row h a0 a1 a2 a3 = some r → ck [2] h a0 = some ()) {c_X2_unit : xa_H → Nat → Int32 → Option (Int32 × xa_H)} (hc_X2_unit : ∀ {h : xa_H} {a0 : Nat} {a1 : Int32} {r : (Int32 × xa_H)}, c_X2_unit h a0 a1 = some r → xa_Ev G M_X2_unit d1 [.ref a0, .int a1] h (some (.int r.1)) r.2) (hck_X2_unit : ∀ {h : xa_H} {a0 : Nat} {a1 : Int32} {r : (Int32 × xa_H)}, c_X2_unit h a0 a1 = some r → ck [2] h a0 = some ()) (hdx : 4 ≤ d) (hd1 : d1 + 1 ≤ d) : ∀ (n : Nat) (h : xa_H) (l0 : Nat) (l2 : Int32) (l3 : Int32) (l4 : Int32) (l5 : Int32) (r : (Int32 × xa_H)), f_X2_row_b6 c_X2_atom c_X2_compared c_X2_part c_X2_row c_X2_unit n h l0 l2 l3 l4 l5 = some r → xa_V G M_X2_row d 6 [some (.ref l0), none, some (.int l2), some (.int l3), some (.int l4), some (.int l5), none] [] h (some (.int r.1)) r.2 := by
  intro n
  induction n with
  | zero =>
    intro h l0 l2 l3 l4 l5 r hf
    cases (show (none : Option (Int32 × xa_H)) = some r from hf)
  | succ n ih =>
    intro h l0 l2 l3 l4 l5 r hf
    rw [f_X2_row_b6] at hf
    refine v_iload dX2_row_6 rfl ?_
    refine v_sipush dX2_row_8 (by decide) (v := 240) ?_
    refine v_icmp_ge dX2_row_11 (tgt := 84) (by decide) (fun c1 => ?_) (fun c1 => ?_)
    · replace hf := (if_pos c1).symm.trans hf
      exact xa_weak (loc := [none, none, none, none, some (.int l4), none, none]) ⟨rfl, trivial⟩ (e_X2_row_b84 hc_X2_atom hck_X2_atom hc_X2_compared hck_X2_compared hc_X2_part hck_X2_part hc_X2_row hck_X2_row hc_X2_unit hck_X2_unit hdx hd1 h l4 r hf)
    · replace hf := (if_neg c1).symm.trans hf
      refine v_aload_n dX2_row_14 rfl ?_
      obtain ⟨u3, eu3, hf⟩ := ob hf
      obtain ⟨q2, eq2, hf⟩ := ob hf
      refine v_callU dX2_row_15 ⟨cb_X4_peek, ml_2_42, im_X4_peek, sm2_2_X4_peek, by decide +kernel, by decide +kernel, by decide +kernel, by decide +kernel⟩ se_2_X4_peek_2 eu3 (ev_X4_peek eq2) (Nat.le_trans (by decide) hdx) (As := []) rfl (st := []) rfl (Nat.le_of_ble_eq_true rfl) rfl ?_
      refine v_istore dX2_row_18 (Nat.le_of_ble_eq_true rfl) (loc' := [some (.ref l0), none, some (.int l2), some (.int l3), some (.int l4), some (.int l5), some (.int q2.1)]) rfl ?_
      refine v_iload dX2_row_20 rfl ?_
      refine v_ldcs dX2_row_22 (List.mem_of_getElem? (i := 2) rfl) ?_
      refine v_iconst dX2_row_24 (by decide) (v := 2) ?_
      refine v_iload_n dX2_row_25 rfl ?_
      refine v_imul dX2_row_26 ?_
      obtain ⟨x4, ex4, hf⟩ := ob hf
      refine v_sat dX2_row_27 ml_2_78 (Nat.le_trans (by decide) hdx) (Nat.le_of_ble_eq_true rfl) ex4 ?_
      refine v_icmp_eq dX2_row_30 (tgt := 51) (by decide) (fun c5 => ?_) (fun c5 => ?_)
      · replace hf := (if_pos c5).symm.trans hf
        exact e_X2_row_b51 hc_X2_atom hck_X2_atom hc_X2_compared hck_X2_compared hc_X2_part hck_X2_part hc_X2_row hck_X2_row hc_X2_unit hck_X2_unit hdx hd1 ih q2.2 l0 l2 l3 l4 l5 q2.1 r hf
      · replace hf := (if_neg c5).symm.trans hf
        refine v_iload dX2_row_33 rfl ?_
        refine v_ldcs dX2_row_35 (List.mem_of_getElem? (i := 2) rfl) ?_
        refine v_iconst dX2_row_37 (by decide) (v := 2) ?_
        refine v_iload_n dX2_row_38 rfl ?_
        refine v_imul dX2_row_39 ?_
        refine v_iconst dX2_row_40 (by decide) (v := 1) ?_
        refine v_iadd dX2_row_41 ?_
        obtain ⟨x6, ex6, hf⟩ := ob hf
        refine v_sat dX2_row_42 ml_2_78 (Nat.le_trans (by decide) hdx) (Nat.le_of_ble_eq_true rfl) ex6 ?_
        refine v_icmp_eq dX2_row_45 (tgt := 51) (by decide) (fun c7 => ?_) (fun c7 => ?_)
        · replace hf := (if_pos c7).symm.trans hf
          exact e_X2_row_b51 hc_X2_atom hck_X2_atom hc_X2_compared hck_X2_compared hc_X2_part hck_X2_part hc_X2_row hck_X2_row hc_X2_unit hck_X2_unit hdx hd1 ih q2.2 l0 l2 l3 l4 l5 q2.1 r hf
        · replace hf := (if_neg c7).symm.trans hf
          refine v_goto dX2_row_48 (tgt := 84) (by decide) ?_
          exact xa_weak (loc := [none, none, none, none, some (.int l4), none, none]) ⟨rfl, trivial⟩ (e_X2_row_b84 hc_X2_atom hck_X2_atom hc_X2_compared hck_X2_compared hc_X2_part hck_X2_part hc_X2_row hck_X2_row hc_X2_unit hck_X2_unit hdx hd1 q2.2 l4 r hf)
def g_X2_row (c_X2_atom : xa_H → Nat → Int32 → Option (Int32 × xa_H)) (c_X2_compared : xa_H → Nat → Int32 → Int32 → Option (Int32 × xa_H)) (c_X2_part : xa_H → Nat → Int32 → Int32 → Option (Int32 × xa_H)) (c_X2_row : xa_H → Nat → Int32 → Int32 → Int32 → Option (Int32 × xa_H)) (c_X2_unit : xa_H → Nat → Int32 → Option (Int32 × xa_H)) (h : xa_H) (l0 : Nat) (l1 : Int32) (l2 : Int32) (l3 : Int32) : Option (Int32 × xa_H) :=
  (ck [2] h l0).bind fun _ =>
  f_X2_row_b6 c_X2_atom c_X2_compared c_X2_part c_X2_row c_X2_unit 1048576 h l0 l2 l3 l1 (0 : Int32)
set_option maxRecDepth 20000 in
theorem eg_X2_row {G : xa_G} {d d1 : Nat} {c_X2_atom : xa_H → Nat → Int32 → Option (Int32 × xa_H)} (hc_X2_atom : ∀ {h : xa_H} {a0 : Nat} {a1 : Int32} {r : (Int32 × xa_H)}, c_X2_atom h a0 a1 = some r → xa_Ev G M_X2_atom d1 [.ref a0, .int a1] h (some (.int r.1)) r.2) (hck_X2_atom : ∀ {h : xa_H} {a0 : Nat} {a1 : Int32} {r : (Int32 × xa_H)}, c_X2_atom h a0 a1 = some r → ck [2] h a0 = some ()) {c_X2_compared : xa_H → Nat → Int32 → Int32 → Option (Int32 × xa_H)} (hc_X2_compared : ∀ {h : xa_H} {a0 : Nat} {a1 : Int32} {a2 : Int32} {r : (Int32 × xa_H)}, c_X2_compared h a0 a1 a2 = some r → xa_Ev G M_X2_compared d1 [.ref a0, .int a1, .int a2] h (some (.int r.1)) r.2) (hck_X2_compared : ∀ {h : xa_H} {a0 : Nat} {a1 : Int32} {a2 : Int32} {r : (Int32 × xa_H)}, c_X2_compared h a0 a1 a2 = some r → ck [2] h a0 = some ()) {c_X2_part : xa_H → Nat → Int32 → Int32 → Option (Int32 × xa_H)} (hc_X2_part : ∀ {h : xa_H} {a0 : Nat} {a1 : Int32} {a2 : Int32} {r : (Int32 × xa_H)}, c_X2_part h a0 a1 a2 = some r → xa_Ev G M_X2_part d1 [.ref a0, .int a1, .int a2] h (some (.int r.1)) r.2) (hck_X2_part : ∀ {h : xa_H} {a0 : Nat} {a1 : Int32} {a2 : Int32} {r : (Int32 × xa_H)}, c_X2_part h a0 a1 a2 = some r → ck [2] h a0 = some ()) {c_X2_row : xa_H → Nat → Int32 → Int32 → Int32 → Option (Int32 × xa_H)} (hc_X2_row : ∀ {h : xa_H} {a0 : Nat} {a1 : Int32} {a2 : Int32} {a3 : Int32} {r : (Int32 × xa_H)}, c_X2_row h a0 a1 a2 a3 = some r → xa_Ev G M_X2_row d1 [.ref a0, .int a1, .int a2, .int a3] h (some (.int r.1)) r.2) (hck_X2_row : ∀ {h : xa_H} {a0 : Nat} {a1 : Int32} {a2 : Int32} {a3 : Int32} {r : (Int32 × xa_H)}, c_X2_row h a0 a1 a2 a3 = some r → ck [2] h a0 = some ()) {c_X2_unit : xa_H → Nat → Int32 → Option (Int32 × xa_H)} (hc_X2_unit : ∀ {h : xa_H} {a0 : Nat} {a1 : Int32} {r : (Int32 × xa_H)}, c_X2_unit h a0 a1 = some r → xa_Ev G M_X2_unit d1 [.ref a0, .int a1] h (some (.int r.1)) r.2) (hck_X2_unit : ∀ {h : xa_H} {a0 : Nat} {a1 : Int32} {r : (Int32 × xa_H)}, c_X2_unit h a0 a1 = some r → ck [2] h a0 = some ()) (hdx : 4 ≤ d) (hd1 : d1 + 1 ≤ d) {h : xa_H} {l0 : Nat} {l1 : Int32} {l2 : Int32} {l3 : Int32} {r : (Int32 × xa_H)} (hf : g_X2_row c_X2_atom c_X2_compared c_X2_part c_X2_row c_X2_unit h l0 l1 l2 l3 = some r) : xa_Ev G M_X2_row d [.ref l0, .int l1, .int l2, .int l3] h (some (.int r.1)) r.2 := by
  refine xa_entry (by decide +kernel) (loc := [some (.ref l0), some (.int l1), some (.int l2), some (.int l3), none, none, none]) rfl (Nat.le_of_ble_eq_true rfl) ?_
  unfold g_X2_row at hf
  obtain ⟨u0, eu0, hf⟩ := ob hf
  refine v_iload_n dX2_row_0 rfl ?_
  refine v_istore dX2_row_1 (Nat.le_of_ble_eq_true rfl) (loc' := [some (.ref l0), some (.int l1), some (.int l2), some (.int l3), some (.int l1), none, none]) rfl ?_
  refine v_iconst dX2_row_3 (by decide) (v := 0) ?_
  refine v_istore dX2_row_4 (Nat.le_of_ble_eq_true rfl) (loc' := [some (.ref l0), some (.int l1), some (.int l2), some (.int l3), some (.int l1), some (.int (0 : Int32)), none]) rfl ?_
  exact xa_weak (loc := [some (.ref l0), none, some (.int l2), some (.int l3), some (.int l1), some (.int (0 : Int32)), none]) ⟨rfl, ⟨rfl, ⟨rfl, ⟨rfl, ⟨rfl, trivial⟩⟩⟩⟩⟩ (e_X2_row_b6 hc_X2_atom hck_X2_atom hc_X2_compared hck_X2_compared hc_X2_part hck_X2_part hc_X2_row hck_X2_row hc_X2_unit hck_X2_unit hdx hd1 1048576 h l0 l2 l3 l1 (0 : Int32) r hf)
theorem cg_X2_row {c_X2_atom : xa_H → Nat → Int32 → Option (Int32 × xa_H)} {c_X2_compared : xa_H → Nat → Int32 → Int32 → Option (Int32 × xa_H)} {c_X2_part : xa_H → Nat → Int32 → Int32 → Option (Int32 × xa_H)} {c_X2_row : xa_H → Nat → Int32 → Int32 → Int32 → Option (Int32 × xa_H)} {c_X2_unit : xa_H → Nat → Int32 → Option (Int32 × xa_H)} {h : xa_H} {l0 : Nat} {l1 : Int32} {l2 : Int32} {l3 : Int32} {r : (Int32 × xa_H)} (hf : g_X2_row c_X2_atom c_X2_compared c_X2_part c_X2_row c_X2_unit h l0 l1 l2 l3 = some r) : ck [2] h l0 = some () := by
  obtain ⟨u, e, -⟩ := ob hf
  exact e
def g_X2_unit (c_X2_atom : xa_H → Nat → Int32 → Option (Int32 × xa_H)) (c_X2_compared : xa_H → Nat → Int32 → Int32 → Option (Int32 × xa_H)) (c_X2_part : xa_H → Nat → Int32 → Int32 → Option (Int32 × xa_H)) (c_X2_row : xa_H → Nat → Int32 → Int32 → Int32 → Option (Int32 × xa_H)) (c_X2_unit : xa_H → Nat → Int32 → Option (Int32 × xa_H)) (h : xa_H) (l0 : Nat) (l1 : Int32) : Option (Int32 × xa_H) :=
  (ck [2] h l0).bind fun _ =>
  (ck [2] h l0).bind fun u2 =>
  (f_X4_peek h l0).bind fun q1 =>
  if q1.1 = (33 : Int32) then
    (f_X2_goesIn q1.2 l0 l1).bind fun q11 =>
    if q11.1 = 0 then
      some ((0 : Int32), q11.2)
    else
      (c_X2_unit q11.2 l0 (l1 + (1 : Int32))).bind fun q13 =>
      some (((1 : Int32) - q13.1), q13.2)
  else
    if q1.1 = (40 : Int32) then
      (f_X2_goesIn q1.2 l0 l1).bind fun q7 =>
      if q7.1 = 0 then
        some ((0 : Int32), q7.2)
      else
        (c_X2_part q7.2 l0 (0 : Int32) (l1 + (1 : Int32))).bind fun q9 =>
        (f_X2_closed q9.2 l0 q9.1 (41 : Int32)).bind fun q10 =>
        some (q10.1, q10.2)
    else
      (c_X2_part q1.2 l0 (3 : Int32) l1).bind fun q5 =>
      (c_X2_compared q5.2 l0 q5.1 l1).bind fun q6 =>
      some (q6.1, q6.2)
set_option maxRecDepth 20000 in
theorem eg_X2_unit {G : xa_G} {d d1 : Nat} {c_X2_atom : xa_H → Nat → Int32 → Option (Int32 × xa_H)} (hc_X2_atom : ∀ {h : xa_H} {a0 : Nat} {a1 : Int32} {r : (Int32 × xa_H)}, c_X2_atom h a0 a1 = some r → xa_Ev G M_X2_atom d1 [.ref a0, .int a1] h (some (.int r.1)) r.2) (hck_X2_atom : ∀ {h : xa_H} {a0 : Nat} {a1 : Int32} {r : (Int32 × xa_H)}, c_X2_atom h a0 a1 = some r → ck [2] h a0 = some ()) {c_X2_compared : xa_H → Nat → Int32 → Int32 → Option (Int32 × xa_H)} (hc_X2_compared : ∀ {h : xa_H} {a0 : Nat} {a1 : Int32} {a2 : Int32} {r : (Int32 × xa_H)}, c_X2_compared h a0 a1 a2 = some r → xa_Ev G M_X2_compared d1 [.ref a0, .int a1, .int a2] h (some (.int r.1)) r.2) (hck_X2_compared : ∀ {h : xa_H} {a0 : Nat} {a1 : Int32} {a2 : Int32} {r : (Int32 × xa_H)}, c_X2_compared h a0 a1 a2 = some r → ck [2] h a0 = some ()) {c_X2_part : xa_H → Nat → Int32 → Int32 → Option (Int32 × xa_H)} (hc_X2_part : ∀ {h : xa_H} {a0 : Nat} {a1 : Int32} {a2 : Int32} {r : (Int32 × xa_H)}, c_X2_part h a0 a1 a2 = some r → xa_Ev G M_X2_part d1 [.ref a0, .int a1, .int a2] h (some (.int r.1)) r.2) (hck_X2_part : ∀ {h : xa_H} {a0 : Nat} {a1 : Int32} {a2 : Int32} {r : (Int32 × xa_H)}, c_X2_part h a0 a1 a2 = some r → ck [2] h a0 = some ()) {c_X2_row : xa_H → Nat → Int32 → Int32 → Int32 → Option (Int32 × xa_H)} (hc_X2_row : ∀ {h : xa_H} {a0 : Nat} {a1 : Int32} {a2 : Int32} {a3 : Int32} {r : (Int32 × xa_H)}, c_X2_row h a0 a1 a2 a3 = some r → xa_Ev G M_X2_row d1 [.ref a0, .int a1, .int a2, .int a3] h (some (.int r.1)) r.2) (hck_X2_row : ∀ {h : xa_H} {a0 : Nat} {a1 : Int32} {a2 : Int32} {a3 : Int32} {r : (Int32 × xa_H)}, c_X2_row h a0 a1 a2 a3 = some r → ck [2] h a0 = some ()) {c_X2_unit : xa_H → Nat → Int32 → Option (Int32 × xa_H)} (hc_X2_unit : ∀ {h : xa_H} {a0 : Nat} {a1 : Int32} {r : (Int32 × xa_H)}, c_X2_unit h a0 a1 = some r → xa_Ev G M_X2_unit d1 [.ref a0, .int a1] h (some (.int r.1)) r.2) (hck_X2_unit : ∀ {h : xa_H} {a0 : Nat} {a1 : Int32} {r : (Int32 × xa_H)}, c_X2_unit h a0 a1 = some r → ck [2] h a0 = some ()) (hdx : 4 ≤ d) (hd1 : d1 + 1 ≤ d) {h : xa_H} {l0 : Nat} {l1 : Int32} {r : (Int32 × xa_H)} (hf : g_X2_unit c_X2_atom c_X2_compared c_X2_part c_X2_row c_X2_unit h l0 l1 = some r) : xa_Ev G M_X2_unit d [.ref l0, .int l1] h (some (.int r.1)) r.2 := by
  refine xa_entry (by decide +kernel) (loc := [some (.ref l0), some (.int l1), none]) rfl (Nat.le_of_ble_eq_true rfl) ?_
  unfold g_X2_unit at hf
  obtain ⟨u0, eu0, hf⟩ := ob hf
  refine v_aload_n dX2_unit_0 rfl ?_
  obtain ⟨u2, eu2, hf⟩ := ob hf
  obtain ⟨q1, eq1, hf⟩ := ob hf
  refine v_callU dX2_unit_1 ⟨cb_X4_peek, ml_2_42, im_X4_peek, sm2_2_X4_peek, by decide +kernel, by decide +kernel, by decide +kernel, by decide +kernel⟩ se_2_X4_peek_2 eu2 (ev_X4_peek eq1) (Nat.le_trans (by decide) hdx) (As := []) rfl (st := []) rfl (Nat.le_of_ble_eq_true rfl) rfl ?_
  refine v_istore_n (i := 2) rfl dX2_unit_4 (Nat.le_of_ble_eq_true rfl) (loc' := [some (.ref l0), some (.int l1), some (.int q1.1)]) rfl ?_
  refine v_iload_n dX2_unit_5 rfl ?_
  refine v_bipush dX2_unit_6 (by decide) (v := 33) ?_
  refine v_icmp_ne dX2_unit_8 (tgt := 33) (by decide) (fun c3 => ?_) (fun c3 => ?_)
  · replace hf := (if_neg c3).symm.trans hf
    refine v_iload_n dX2_unit_33 rfl ?_
    refine v_bipush dX2_unit_34 (by decide) (v := 40) ?_
    refine v_icmp_ne dX2_unit_36 (tgt := 66) (by decide) (fun c4 => ?_) (fun c4 => ?_)
    · replace hf := (if_neg c4).symm.trans hf
      refine v_aload_n dX2_unit_66 rfl ?_
      refine v_aload_n dX2_unit_67 rfl ?_
      refine v_iconst dX2_unit_68 (by decide) (v := 3) ?_
      refine v_iload_n dX2_unit_69 rfl ?_
      obtain ⟨q5, eq5, hf⟩ := ob hf
      refine v_callV dX2_unit_70 ⟨cb_X2_part, ml_2_55, im_X2_part⟩ se_2_X2_part (hck_X2_part eq5) (hc_X2_part eq5) hd1 (As := [.int (3 : Int32), .int l1]) rfl (st := [.ref l0]) rfl (Nat.le_of_ble_eq_true rfl) rfl ?_
      refine v_iload_n dX2_unit_73 rfl ?_
      obtain ⟨q6, eq6, hf⟩ := ob hf
      refine v_callV dX2_unit_74 ⟨cb_X2_compared, ml_2_62, im_X2_compared⟩ se_2_X2_compared (hck_X2_compared eq6) (hc_X2_compared eq6) hd1 (As := [.int q5.1, .int l1]) rfl (st := []) rfl (Nat.le_of_ble_eq_true rfl) rfl ?_
      replace hf := Option.some.inj hf
      subst hf
      exact v_iret dX2_unit_77 rfl
    · replace hf := (if_pos c4).symm.trans hf
      refine v_aload_n dX2_unit_39 rfl ?_
      refine v_iload_n dX2_unit_40 rfl ?_
      obtain ⟨q7, eq7, hf⟩ := ob hf
      refine v_callV dX2_unit_41 ⟨cb_X2_goesIn, ml_2_105, im_X2_goesIn⟩ se_2_X2_goesIn (ckf_X2_goesIn eq7) (ev_X2_goesIn eq7) (Nat.le_trans (by decide) hdx) (As := [.int l1]) rfl (st := []) rfl (Nat.le_of_ble_eq_true rfl) rfl ?_
      refine v_if_eq dX2_unit_44 (tgt := 64) (by decide) (fun c8 => ?_) (fun c8 => ?_)
      · replace hf := (if_pos c8).symm.trans hf
        refine v_iconst dX2_unit_64 (by decide) (v := 0) ?_
        replace hf := Option.some.inj hf
        subst hf
        exact v_iret dX2_unit_65 rfl
      · replace hf := (if_neg c8).symm.trans hf
        refine v_aload_n dX2_unit_47 rfl ?_
        refine v_aload_n dX2_unit_48 rfl ?_
        refine v_iconst dX2_unit_49 (by decide) (v := 0) ?_
        refine v_iload_n dX2_unit_50 rfl ?_
        refine v_iconst dX2_unit_51 (by decide) (v := 1) ?_
        refine v_iadd dX2_unit_52 ?_
        obtain ⟨q9, eq9, hf⟩ := ob hf
        refine v_callV dX2_unit_53 ⟨cb_X2_part, ml_2_55, im_X2_part⟩ se_2_X2_part (hck_X2_part eq9) (hc_X2_part eq9) hd1 (As := [.int (0 : Int32), .int (l1 + (1 : Int32))]) rfl (st := [.ref l0]) rfl (Nat.le_of_ble_eq_true rfl) rfl ?_
        refine v_bipush dX2_unit_56 (by decide) (v := 41) ?_
        obtain ⟨q10, eq10, hf⟩ := ob hf
        refine v_callV dX2_unit_58 ⟨cb_X2_closed, ml_2_108, im_X2_closed⟩ se_2_X2_closed (ckf_X2_closed eq10) (ev_X2_closed eq10) (Nat.le_trans (by decide) hdx) (As := [.int q9.1, .int (41 : Int32)]) rfl (st := []) rfl (Nat.le_of_ble_eq_true rfl) rfl ?_
        refine v_goto dX2_unit_61 (tgt := 65) (by decide) ?_
        replace hf := Option.some.inj hf
        subst hf
        exact v_iret dX2_unit_65 rfl
  · replace hf := (if_pos c3).symm.trans hf
    refine v_aload_n dX2_unit_11 rfl ?_
    refine v_iload_n dX2_unit_12 rfl ?_
    obtain ⟨q11, eq11, hf⟩ := ob hf
    refine v_callV dX2_unit_13 ⟨cb_X2_goesIn, ml_2_105, im_X2_goesIn⟩ se_2_X2_goesIn (ckf_X2_goesIn eq11) (ev_X2_goesIn eq11) (Nat.le_trans (by decide) hdx) (As := [.int l1]) rfl (st := []) rfl (Nat.le_of_ble_eq_true rfl) rfl ?_
    refine v_if_eq dX2_unit_16 (tgt := 31) (by decide) (fun c12 => ?_) (fun c12 => ?_)
    · replace hf := (if_pos c12).symm.trans hf
      refine v_iconst dX2_unit_31 (by decide) (v := 0) ?_
      replace hf := Option.some.inj hf
      subst hf
      exact v_iret dX2_unit_32 rfl
    · replace hf := (if_neg c12).symm.trans hf
      refine v_iconst dX2_unit_19 (by decide) (v := 1) ?_
      refine v_aload_n dX2_unit_20 rfl ?_
      refine v_iload_n dX2_unit_21 rfl ?_
      refine v_iconst dX2_unit_22 (by decide) (v := 1) ?_
      refine v_iadd dX2_unit_23 ?_
      obtain ⟨q13, eq13, hf⟩ := ob hf
      refine v_callV dX2_unit_24 ⟨cb_X2_unit, ml_2_69, im_X2_unit⟩ se_2_X2_unit (hck_X2_unit eq13) (hc_X2_unit eq13) hd1 (As := [.int (l1 + (1 : Int32))]) rfl (st := [.int (1 : Int32)]) rfl (Nat.le_of_ble_eq_true rfl) rfl ?_
      refine v_isub dX2_unit_27 ?_
      refine v_goto dX2_unit_28 (tgt := 32) (by decide) ?_
      replace hf := Option.some.inj hf
      subst hf
      exact v_iret dX2_unit_32 rfl
theorem cg_X2_unit {c_X2_atom : xa_H → Nat → Int32 → Option (Int32 × xa_H)} {c_X2_compared : xa_H → Nat → Int32 → Int32 → Option (Int32 × xa_H)} {c_X2_part : xa_H → Nat → Int32 → Int32 → Option (Int32 × xa_H)} {c_X2_row : xa_H → Nat → Int32 → Int32 → Int32 → Option (Int32 × xa_H)} {c_X2_unit : xa_H → Nat → Int32 → Option (Int32 × xa_H)} {h : xa_H} {l0 : Nat} {l1 : Int32} {r : (Int32 × xa_H)} (hf : g_X2_unit c_X2_atom c_X2_compared c_X2_part c_X2_row c_X2_unit h l0 l1 = some r) : ck [2] h l0 = some () := by
  obtain ⟨u, e, -⟩ := ob hf
  exact e
def fg_X2_atom : Nat → (xa_H → Nat → Int32 → Option (Int32 × xa_H)) × (xa_H → Nat → Int32 → Int32 → Option (Int32 × xa_H)) × (xa_H → Nat → Int32 → Int32 → Option (Int32 × xa_H)) × (xa_H → Nat → Int32 → Int32 → Int32 → Option (Int32 × xa_H)) × (xa_H → Nat → Int32 → Option (Int32 × xa_H))
  | 0 => (fun _ _ _ => none, fun _ _ _ _ => none, fun _ _ _ _ => none, fun _ _ _ _ _ => none, fun _ _ _ => none)
  | n + 1 => (g_X2_atom ((fg_X2_atom n).1) ((fg_X2_atom n).2.1) ((fg_X2_atom n).2.2.1) ((fg_X2_atom n).2.2.2.1) ((fg_X2_atom n).2.2.2.2), g_X2_compared ((fg_X2_atom n).1) ((fg_X2_atom n).2.1) ((fg_X2_atom n).2.2.1) ((fg_X2_atom n).2.2.2.1) ((fg_X2_atom n).2.2.2.2), g_X2_part ((fg_X2_atom n).1) ((fg_X2_atom n).2.1) ((fg_X2_atom n).2.2.1) ((fg_X2_atom n).2.2.2.1) ((fg_X2_atom n).2.2.2.2), g_X2_row ((fg_X2_atom n).1) ((fg_X2_atom n).2.1) ((fg_X2_atom n).2.2.1) ((fg_X2_atom n).2.2.2.1) ((fg_X2_atom n).2.2.2.2), g_X2_unit ((fg_X2_atom n).1) ((fg_X2_atom n).2.1) ((fg_X2_atom n).2.2.1) ((fg_X2_atom n).2.2.2.1) ((fg_X2_atom n).2.2.2.2))
def f_X2_atom (n : Nat) : xa_H → Nat → Int32 → Option (Int32 × xa_H) := (fg_X2_atom n).1
def f_X2_compared (n : Nat) : xa_H → Nat → Int32 → Int32 → Option (Int32 × xa_H) := (fg_X2_atom n).2.1
def f_X2_part (n : Nat) : xa_H → Nat → Int32 → Int32 → Option (Int32 × xa_H) := (fg_X2_atom n).2.2.1
def f_X2_row (n : Nat) : xa_H → Nat → Int32 → Int32 → Int32 → Option (Int32 × xa_H) := (fg_X2_atom n).2.2.2.1
def f_X2_unit (n : Nat) : xa_H → Nat → Int32 → Option (Int32 × xa_H) := (fg_X2_atom n).2.2.2.2
theorem ckf_X2_atom {n : Nat} {h : xa_H} {a0 : Nat} {a1 : Int32} {r : (Int32 × xa_H)} (hf : f_X2_atom n h a0 a1 = some r) : ck [2] h a0 = some () := by
  cases n with
  | zero => cases (show (none : Option (Int32 × xa_H)) = some r from hf)
  | succ n => exact cg_X2_atom (c_X2_atom := (fg_X2_atom n).1) (c_X2_compared := (fg_X2_atom n).2.1) (c_X2_part := (fg_X2_atom n).2.2.1) (c_X2_row := (fg_X2_atom n).2.2.2.1) (c_X2_unit := (fg_X2_atom n).2.2.2.2) hf
theorem ckf_X2_compared {n : Nat} {h : xa_H} {a0 : Nat} {a1 : Int32} {a2 : Int32} {r : (Int32 × xa_H)} (hf : f_X2_compared n h a0 a1 a2 = some r) : ck [2] h a0 = some () := by
  cases n with
  | zero => cases (show (none : Option (Int32 × xa_H)) = some r from hf)
  | succ n => exact cg_X2_compared (c_X2_atom := (fg_X2_atom n).1) (c_X2_compared := (fg_X2_atom n).2.1) (c_X2_part := (fg_X2_atom n).2.2.1) (c_X2_row := (fg_X2_atom n).2.2.2.1) (c_X2_unit := (fg_X2_atom n).2.2.2.2) hf
theorem ckf_X2_part {n : Nat} {h : xa_H} {a0 : Nat} {a1 : Int32} {a2 : Int32} {r : (Int32 × xa_H)} (hf : f_X2_part n h a0 a1 a2 = some r) : ck [2] h a0 = some () := by
  cases n with
  | zero => cases (show (none : Option (Int32 × xa_H)) = some r from hf)
  | succ n => exact cg_X2_part (c_X2_atom := (fg_X2_atom n).1) (c_X2_compared := (fg_X2_atom n).2.1) (c_X2_part := (fg_X2_atom n).2.2.1) (c_X2_row := (fg_X2_atom n).2.2.2.1) (c_X2_unit := (fg_X2_atom n).2.2.2.2) hf
theorem ckf_X2_row {n : Nat} {h : xa_H} {a0 : Nat} {a1 : Int32} {a2 : Int32} {a3 : Int32} {r : (Int32 × xa_H)} (hf : f_X2_row n h a0 a1 a2 a3 = some r) : ck [2] h a0 = some () := by
  cases n with
  | zero => cases (show (none : Option (Int32 × xa_H)) = some r from hf)
  | succ n => exact cg_X2_row (c_X2_atom := (fg_X2_atom n).1) (c_X2_compared := (fg_X2_atom n).2.1) (c_X2_part := (fg_X2_atom n).2.2.1) (c_X2_row := (fg_X2_atom n).2.2.2.1) (c_X2_unit := (fg_X2_atom n).2.2.2.2) hf
theorem ckf_X2_unit {n : Nat} {h : xa_H} {a0 : Nat} {a1 : Int32} {r : (Int32 × xa_H)} (hf : f_X2_unit n h a0 a1 = some r) : ck [2] h a0 = some () := by
  cases n with
  | zero => cases (show (none : Option (Int32 × xa_H)) = some r from hf)
  | succ n => exact cg_X2_unit (c_X2_atom := (fg_X2_atom n).1) (c_X2_compared := (fg_X2_atom n).2.1) (c_X2_part := (fg_X2_atom n).2.2.1) (c_X2_row := (fg_X2_atom n).2.2.2.1) (c_X2_unit := (fg_X2_atom n).2.2.2.2) hf
theorem evg_X2_atom {G : xa_G} : ∀ n : Nat, (∀ {h : xa_H} {a0 : Nat} {a1 : Int32} {r : (Int32 × xa_H)}, f_X2_atom n h a0 a1 = some r → xa_Ev G M_X2_atom (4 + n) [.ref a0, .int a1] h (some (.int r.1)) r.2) ∧ (∀ {h : xa_H} {a0 : Nat} {a1 : Int32} {a2 : Int32} {r : (Int32 × xa_H)}, f_X2_compared n h a0 a1 a2 = some r → xa_Ev G M_X2_compared (4 + n) [.ref a0, .int a1, .int a2] h (some (.int r.1)) r.2) ∧ (∀ {h : xa_H} {a0 : Nat} {a1 : Int32} {a2 : Int32} {r : (Int32 × xa_H)}, f_X2_part n h a0 a1 a2 = some r → xa_Ev G M_X2_part (4 + n) [.ref a0, .int a1, .int a2] h (some (.int r.1)) r.2) ∧ (∀ {h : xa_H} {a0 : Nat} {a1 : Int32} {a2 : Int32} {a3 : Int32} {r : (Int32 × xa_H)}, f_X2_row n h a0 a1 a2 a3 = some r → xa_Ev G M_X2_row (4 + n) [.ref a0, .int a1, .int a2, .int a3] h (some (.int r.1)) r.2) ∧ (∀ {h : xa_H} {a0 : Nat} {a1 : Int32} {r : (Int32 × xa_H)}, f_X2_unit n h a0 a1 = some r → xa_Ev G M_X2_unit (4 + n) [.ref a0, .int a1] h (some (.int r.1)) r.2) := by
  intro n
  induction n with
  | zero => exact ⟨(fun hf => by cases (show (none : Option (Int32 × xa_H)) = some _ from hf)), (fun hf => by cases (show (none : Option (Int32 × xa_H)) = some _ from hf)), (fun hf => by cases (show (none : Option (Int32 × xa_H)) = some _ from hf)), (fun hf => by cases (show (none : Option (Int32 × xa_H)) = some _ from hf)), (fun hf => by cases (show (none : Option (Int32 × xa_H)) = some _ from hf))⟩
  | succ n ih => exact ⟨(fun hf => eg_X2_atom ih.1 ckf_X2_atom ih.2.1 ckf_X2_compared ih.2.2.1 ckf_X2_part ih.2.2.2.1 ckf_X2_row ih.2.2.2.2 ckf_X2_unit (by omega) (by omega) hf), (fun hf => eg_X2_compared ih.1 ckf_X2_atom ih.2.1 ckf_X2_compared ih.2.2.1 ckf_X2_part ih.2.2.2.1 ckf_X2_row ih.2.2.2.2 ckf_X2_unit (by omega) (by omega) hf), (fun hf => eg_X2_part ih.1 ckf_X2_atom ih.2.1 ckf_X2_compared ih.2.2.1 ckf_X2_part ih.2.2.2.1 ckf_X2_row ih.2.2.2.2 ckf_X2_unit (by omega) (by omega) hf), (fun hf => eg_X2_row ih.1 ckf_X2_atom ih.2.1 ckf_X2_compared ih.2.2.1 ckf_X2_part ih.2.2.2.1 ckf_X2_row ih.2.2.2.2 ckf_X2_unit (by omega) (by omega) hf), (fun hf => eg_X2_unit ih.1 ckf_X2_atom ih.2.1 ckf_X2_compared ih.2.2.1 ckf_X2_part ih.2.2.2.1 ckf_X2_row ih.2.2.2.2 ckf_X2_unit (by omega) (by omega) hf)⟩
theorem ev_X2_atom {G : xa_G} {n : Nat} {h : xa_H} {a0 : Nat} {a1 : Int32} {r : (Int32 × xa_H)} (hf : f_X2_atom n h a0 a1 = some r) : xa_Ev G M_X2_atom (4 + n) [.ref a0, .int a1] h (some (.int r.1)) r.2 := (evg_X2_atom n).1 hf
theorem ev_X2_compared {G : xa_G} {n : Nat} {h : xa_H} {a0 : Nat} {a1 : Int32} {a2 : Int32} {r : (Int32 × xa_H)} (hf : f_X2_compared n h a0 a1 a2 = some r) : xa_Ev G M_X2_compared (4 + n) [.ref a0, .int a1, .int a2] h (some (.int r.1)) r.2 := (evg_X2_atom n).2.1 hf
theorem ev_X2_part {G : xa_G} {n : Nat} {h : xa_H} {a0 : Nat} {a1 : Int32} {a2 : Int32} {r : (Int32 × xa_H)} (hf : f_X2_part n h a0 a1 a2 = some r) : xa_Ev G M_X2_part (4 + n) [.ref a0, .int a1, .int a2] h (some (.int r.1)) r.2 := (evg_X2_atom n).2.2.1 hf
theorem ev_X2_row {G : xa_G} {n : Nat} {h : xa_H} {a0 : Nat} {a1 : Int32} {a2 : Int32} {a3 : Int32} {r : (Int32 × xa_H)} (hf : f_X2_row n h a0 a1 a2 a3 = some r) : xa_Ev G M_X2_row (4 + n) [.ref a0, .int a1, .int a2, .int a3] h (some (.int r.1)) r.2 := (evg_X2_atom n).2.2.2.1 hf
theorem ev_X2_unit {G : xa_G} {n : Nat} {h : xa_H} {a0 : Nat} {a1 : Int32} {r : (Int32 × xa_H)} (hf : f_X2_unit n h a0 a1 = some r) : xa_Ev G M_X2_unit (4 + n) [.ref a0, .int a1] h (some (.int r.1)) r.2 := (evg_X2_atom n).2.2.2.2 hf
def M_X2_clause : xa_M := (yX2_clause, cX2_clause, 5, none)
theorem cb_X2_clause : xa_CB M_X2_clause 0 := ⟨gws_at 701 (by decide +kernel) rfl, gws_at 113 (by decide +kernel) rfl, by decide +kernel, Nat.le_of_ble_eq_true rfl⟩
def f_X2_clause_b113 (h : xa_H) (l0 : Nat) (l2 : Int32) (l3 : Int32) : Option xa_H :=
  if l2 = (1 : Int32) then
    (gI [2] 6 h l0).bind fun x2 =>
    if x2 = 0 then
      (xp [2] 6 h l0 (.int (1 : Int32))).bind fun h4 =>
      (xp [2] 5 h4 l0 (.int l3)).bind fun h5 =>
      some h5
    else
      some h
  else
    some h
set_option maxRecDepth 20000 in
theorem e_X2_clause_b113 {G : xa_G} : ∀ (h : xa_H) (l0 : Nat) (l2 : Int32) (l3 : Int32) (r : xa_H), f_X2_clause_b113 h l0 l2 l3 = some r → xa_V G M_X2_clause 125 113 [some (.ref l0), none, some (.int l2), some (.int l3), none] [] h none r := by
  intro h l0 l2 l3 r hf
  unfold f_X2_clause_b113 at hf
  refine v_iload_n dX2_clause_113 rfl ?_
  refine v_iconst dX2_clause_114 (by decide) (v := 1) ?_
  refine v_icmp_ne dX2_clause_115 (tgt := 135) (by decide) (fun c1 => ?_) (fun c1 => ?_)
  · replace hf := (if_neg c1).symm.trans hf
    replace hf := Option.some.inj hf
    subst hf
    exact v_vret dX2_clause_135 rfl
  · replace hf := (if_pos c1).symm.trans hf
    refine v_aload_n dX2_clause_118 rfl ?_
    obtain ⟨x2, ex2, hf⟩ := ob hf
    refine v_getI dX2_clause_119 fl_2_27 ex2 ?_
    refine v_if_ne dX2_clause_122 (tgt := 135) (by decide) (fun c3 => ?_) (fun c3 => ?_)
    · replace hf := (if_neg c3).symm.trans hf
      replace hf := Option.some.inj hf
      subst hf
      exact v_vret dX2_clause_135 rfl
    · replace hf := (if_pos c3).symm.trans hf
      refine v_aload_n dX2_clause_125 rfl ?_
      refine v_iconst dX2_clause_126 (by decide) (v := 1) ?_
      obtain ⟨h4, eh4, hf⟩ := ob hf
      refine v_put dX2_clause_127 fp_2_27 (fun z => by cases z) (fun _ => rfl) (fun _ => rfl) eh4 ?_
      refine v_aload_n dX2_clause_130 rfl ?_
      refine v_iload_n dX2_clause_131 rfl ?_
      obtain ⟨h5, eh5, hf⟩ := ob hf
      refine v_put dX2_clause_132 fp_2_23 (fun z => by cases z) (fun _ => rfl) (fun _ => rfl) eh5 ?_
      replace hf := Option.some.inj hf
      subst hf
      exact v_vret dX2_clause_135 rfl
def f_X2_clause_b95 (h : xa_H) (l0 : Nat) (l2 : Int32) (l3 : Int32) (l4 : Int32) : Option xa_H :=
  if l4 = 0 then
    f_X2_clause_b113 h l0 l2 l3
  else
    (ck [2] h l0).bind fun u3 =>
    (f_X4_need h l0 (63 : Int32)).bind fun q2 =>
    (f_X2_part 120 q2 l0 (3 : Int32) (0 : Int32)).bind fun q4 =>
    f_X2_clause_b113 q4.2 l0 l2 q4.1
set_option maxRecDepth 20000 in
theorem e_X2_clause_b95 {G : xa_G} : ∀ (h : xa_H) (l0 : Nat) (l2 : Int32) (l3 : Int32) (l4 : Int32) (r : xa_H), f_X2_clause_b95 h l0 l2 l3 l4 = some r → xa_V G M_X2_clause 125 95 [some (.ref l0), none, some (.int l2), some (.int l3), some (.int l4)] [] h none r := by
  intro h l0 l2 l3 l4 r hf
  unfold f_X2_clause_b95 at hf
  refine v_iload dX2_clause_95 rfl ?_
  refine v_if_eq dX2_clause_97 (tgt := 113) (by decide) (fun c1 => ?_) (fun c1 => ?_)
  · replace hf := (if_pos c1).symm.trans hf
    exact xa_weak (loc := [some (.ref l0), none, some (.int l2), some (.int l3), none]) ⟨rfl, ⟨rfl, ⟨rfl, trivial⟩⟩⟩ (e_X2_clause_b113 h l0 l2 l3 r hf)
  · replace hf := (if_neg c1).symm.trans hf
    refine v_aload_n dX2_clause_100 rfl ?_
    refine v_bipush dX2_clause_101 (by decide) (v := 63) ?_
    obtain ⟨u3, eu3, hf⟩ := ob hf
    obtain ⟨q2, eq2, hf⟩ := ob hf
    refine v_callU dX2_clause_103 ⟨cb_X4_need, ml_2_51, im_X4_need, sm2_2_X4_need, by decide +kernel, by decide +kernel, by decide +kernel, by decide +kernel⟩ se_2_X4_need_2 eu3 (ev_X4_need eq2) (by decide) (As := [.int (63 : Int32)]) rfl (st := []) rfl (Nat.le_of_ble_eq_true rfl) rfl ?_
    refine v_aload_n dX2_clause_106 rfl ?_
    refine v_iconst dX2_clause_107 (by decide) (v := 3) ?_
    refine v_iconst dX2_clause_108 (by decide) (v := 0) ?_
    obtain ⟨q4, eq4, hf⟩ := ob hf
    refine v_callV dX2_clause_109 ⟨cb_X2_part, ml_2_55, im_X2_part⟩ se_2_X2_part (ckf_X2_part eq4) (ev_X2_part eq4) (by decide) (As := [.int (3 : Int32), .int (0 : Int32)]) rfl (st := []) rfl (Nat.le_of_ble_eq_true rfl) rfl ?_
    refine v_istore_n (i := 3) rfl dX2_clause_112 (Nat.le_of_ble_eq_true rfl) (loc' := [some (.ref l0), none, some (.int l2), some (.int q4.1), some (.int l4)]) rfl ?_
    exact xa_weak (loc := [some (.ref l0), none, some (.int l2), some (.int q4.1), none]) ⟨rfl, ⟨rfl, ⟨rfl, trivial⟩⟩⟩ (e_X2_clause_b113 q4.2 l0 l2 q4.1 r hf)
def f_X2_clause_b38 (h : xa_H) (l0 : Nat) (l2 : Int32) (l3 : Int32) (s0 : Int32) : Option xa_H :=
  if s0 = 0 then
    (f_X2_part 120 h l0 (3 : Int32) (0 : Int32)).bind fun q2 =>
    (ck [2] q2.2 l0).bind fun u4 =>
    (f_X4_peek q2.2 l0).bind fun q3 =>
    (f_X2_isComparison q3.2 q3.1).bind fun q5 =>
    if q5 = 0 then
      f_X2_clause_b95 q3.2 l0 l2 q2.1 q5
    else
      (f_X2_compared 120 q3.2 l0 q2.1 (0 : Int32)).bind fun q7 =>
      (f_X2_row 120 q7.2 l0 q7.1 (1 : Int32) (0 : Int32)).bind fun q8 =>
      (f_X2_row 120 q8.2 l0 q8.1 (0 : Int32) (0 : Int32)).bind fun q9 =>
      f_X2_clause_b95 q9.2 l0 q9.1 q2.1 q5
  else
    (f_X2_part 120 h l0 (0 : Int32) (0 : Int32)).bind fun q10 =>
    f_X2_clause_b95 q10.2 l0 q10.1 l3 s0
set_option maxRecDepth 20000 in
theorem e_X2_clause_b38 {G : xa_G} : ∀ (h : xa_H) (l0 : Nat) (l2 : Int32) (l3 : Int32) (s0 : Int32) (r : xa_H), f_X2_clause_b38 h l0 l2 l3 s0 = some r → xa_V G M_X2_clause 125 38 [some (.ref l0), none, some (.int l2), some (.int l3), none] [.int s0] h none r := by
  intro h l0 l2 l3 s0 r hf
  unfold f_X2_clause_b38 at hf
  refine v_istore dX2_clause_38 (Nat.le_of_ble_eq_true rfl) (loc' := [some (.ref l0), none, some (.int l2), some (.int l3), some (.int s0)]) rfl ?_
  refine v_iload dX2_clause_40 rfl ?_
  refine v_if_eq dX2_clause_42 (tgt := 55) (by decide) (fun c1 => ?_) (fun c1 => ?_)
  · replace hf := (if_pos c1).symm.trans hf
    refine v_aload_n dX2_clause_55 rfl ?_
    refine v_iconst dX2_clause_56 (by decide) (v := 3) ?_
    refine v_iconst dX2_clause_57 (by decide) (v := 0) ?_
    obtain ⟨q2, eq2, hf⟩ := ob hf
    refine v_callV dX2_clause_58 ⟨cb_X2_part, ml_2_55, im_X2_part⟩ se_2_X2_part (ckf_X2_part eq2) (ev_X2_part eq2) (by decide) (As := [.int (3 : Int32), .int (0 : Int32)]) rfl (st := []) rfl (Nat.le_of_ble_eq_true rfl) rfl ?_
    refine v_istore_n (i := 3) rfl dX2_clause_61 (Nat.le_of_ble_eq_true rfl) (loc' := [some (.ref l0), none, some (.int l2), some (.int q2.1), some (.int s0)]) rfl ?_
    refine v_aload_n dX2_clause_62 rfl ?_
    obtain ⟨u4, eu4, hf⟩ := ob hf
    obtain ⟨q3, eq3, hf⟩ := ob hf
    refine v_callU dX2_clause_63 ⟨cb_X4_peek, ml_2_42, im_X4_peek, sm2_2_X4_peek, by decide +kernel, by decide +kernel, by decide +kernel, by decide +kernel⟩ se_2_X4_peek_2 eu4 (ev_X4_peek eq3) (by decide) (As := []) rfl (st := []) rfl (Nat.le_of_ble_eq_true rfl) rfl ?_
    obtain ⟨q5, eq5, hf⟩ := ob hf
    refine v_callS dX2_clause_66 ⟨cb_X2_isComparison, ml_2_59, sm_X2_isComparison⟩ (ev_X2_isComparison eq5) (by decide) (As := [.int q3.1]) rfl (st := []) rfl (Nat.le_of_ble_eq_true rfl) rfl ?_
    refine v_istore dX2_clause_69 (Nat.le_of_ble_eq_true rfl) (loc' := [some (.ref l0), none, some (.int l2), some (.int q2.1), some (.int q5)]) rfl ?_
    refine v_iload dX2_clause_71 rfl ?_
    refine v_if_eq dX2_clause_73 (tgt := 95) (by decide) (fun c6 => ?_) (fun c6 => ?_)
    · replace hf := (if_pos c6).symm.trans hf
      exact e_X2_clause_b95 q3.2 l0 l2 q2.1 q5 r hf
    · replace hf := (if_neg c6).symm.trans hf
      refine v_aload_n dX2_clause_76 rfl ?_
      refine v_aload_n dX2_clause_77 rfl ?_
      refine v_aload_n dX2_clause_78 rfl ?_
      refine v_iload_n dX2_clause_79 rfl ?_
      refine v_iconst dX2_clause_80 (by decide) (v := 0) ?_
      obtain ⟨q7, eq7, hf⟩ := ob hf
      refine v_callV dX2_clause_81 ⟨cb_X2_compared, ml_2_62, im_X2_compared⟩ se_2_X2_compared (ckf_X2_compared eq7) (ev_X2_compared eq7) (by decide) (As := [.int q2.1, .int (0 : Int32)]) rfl (st := [.ref l0, .ref l0]) rfl (Nat.le_of_ble_eq_true rfl) rfl ?_
      refine v_iconst dX2_clause_84 (by decide) (v := 1) ?_
      refine v_iconst dX2_clause_85 (by decide) (v := 0) ?_
      obtain ⟨q8, eq8, hf⟩ := ob hf
      refine v_callV dX2_clause_86 ⟨cb_X2_row, ml_2_65, im_X2_row⟩ se_2_X2_row (ckf_X2_row eq8) (ev_X2_row eq8) (by decide) (As := [.int q7.1, .int (1 : Int32), .int (0 : Int32)]) rfl (st := [.ref l0]) rfl (Nat.le_of_ble_eq_true rfl) rfl ?_
      refine v_iconst dX2_clause_89 (by decide) (v := 0) ?_
      refine v_iconst dX2_clause_90 (by decide) (v := 0) ?_
      obtain ⟨q9, eq9, hf⟩ := ob hf
      refine v_callV dX2_clause_91 ⟨cb_X2_row, ml_2_65, im_X2_row⟩ se_2_X2_row (ckf_X2_row eq9) (ev_X2_row eq9) (by decide) (As := [.int q8.1, .int (0 : Int32), .int (0 : Int32)]) rfl (st := []) rfl (Nat.le_of_ble_eq_true rfl) rfl ?_
      refine v_istore_n (i := 2) rfl dX2_clause_94 (Nat.le_of_ble_eq_true rfl) (loc' := [some (.ref l0), none, some (.int q9.1), some (.int q2.1), some (.int q5)]) rfl ?_
      exact e_X2_clause_b95 q9.2 l0 q9.1 q2.1 q5 r hf
  · replace hf := (if_neg c1).symm.trans hf
    refine v_aload_n dX2_clause_45 rfl ?_
    refine v_iconst dX2_clause_46 (by decide) (v := 0) ?_
    refine v_iconst dX2_clause_47 (by decide) (v := 0) ?_
    obtain ⟨q10, eq10, hf⟩ := ob hf
    refine v_callV dX2_clause_48 ⟨cb_X2_part, ml_2_55, im_X2_part⟩ se_2_X2_part (ckf_X2_part eq10) (ev_X2_part eq10) (by decide) (As := [.int (0 : Int32), .int (0 : Int32)]) rfl (st := []) rfl (Nat.le_of_ble_eq_true rfl) rfl ?_
    refine v_istore_n (i := 2) rfl dX2_clause_51 (Nat.le_of_ble_eq_true rfl) (loc' := [some (.ref l0), none, some (.int q10.1), some (.int l3), some (.int s0)]) rfl ?_
    refine v_goto dX2_clause_52 (tgt := 95) (by decide) ?_
    exact e_X2_clause_b95 q10.2 l0 q10.1 l3 s0 r hf
def f_X2_clause_b33 (h : xa_H) (l0 : Nat) (l2 : Int32) (l3 : Int32) : Option xa_H :=
  f_X2_clause_b38 h l0 l2 l3 (1 : Int32)
set_option maxRecDepth 20000 in
theorem e_X2_clause_b33 {G : xa_G} : ∀ (h : xa_H) (l0 : Nat) (l2 : Int32) (l3 : Int32) (r : xa_H), f_X2_clause_b33 h l0 l2 l3 = some r → xa_V G M_X2_clause 125 33 [some (.ref l0), none, some (.int l2), some (.int l3), none] [] h none r := by
  intro h l0 l2 l3 r hf
  unfold f_X2_clause_b33 at hf
  refine v_iconst dX2_clause_33 (by decide) (v := 1) ?_
  refine v_goto dX2_clause_34 (tgt := 38) (by decide) ?_
  exact e_X2_clause_b38 h l0 l2 l3 (1 : Int32) r hf
def f_X2_clause (h : xa_H) (l0 : Nat) : Option xa_H :=
  (ck [2] h l0).bind fun _ =>
  (ck [2] h l0).bind fun u2 =>
  (f_X4_need h l0 (121 : Int32)).bind fun q1 =>
  (ck [2] q1 l0).bind fun u4 =>
  (f_X4_need q1 l0 (58 : Int32)).bind fun q3 =>
  (ck [2] q3 l0).bind fun u6 =>
  (f_X4_peek q3 l0).bind fun q5 =>
  if q5.1 = (33 : Int32) then
    f_X2_clause_b33 q5.2 l0 (1 : Int32) (0 : Int32)
  else
    if q5.1 = (40 : Int32) then
      f_X2_clause_b33 q5.2 l0 (1 : Int32) (0 : Int32)
    else
      f_X2_clause_b38 q5.2 l0 (1 : Int32) (0 : Int32) (0 : Int32)
set_option maxRecDepth 20000 in
theorem ev_X2_clause {G : xa_G} {h : xa_H} {l0 : Nat} {r : xa_H} (hf : f_X2_clause h l0 = some r) : xa_Ev G M_X2_clause 125 [.ref l0] h none r := by
  refine xa_entry (by decide +kernel) (loc := [some (.ref l0), none, none, none, none]) rfl (Nat.le_of_ble_eq_true rfl) ?_
  unfold f_X2_clause at hf
  obtain ⟨u0, eu0, hf⟩ := ob hf
  refine v_aload_n dX2_clause_0 rfl ?_
  refine v_bipush dX2_clause_1 (by decide) (v := 121) ?_
  obtain ⟨u2, eu2, hf⟩ := ob hf
  obtain ⟨q1, eq1, hf⟩ := ob hf
  refine v_callU dX2_clause_3 ⟨cb_X4_need, ml_2_51, im_X4_need, sm2_2_X4_need, by decide +kernel, by decide +kernel, by decide +kernel, by decide +kernel⟩ se_2_X4_need_2 eu2 (ev_X4_need eq1) (by decide) (As := [.int (121 : Int32)]) rfl (st := []) rfl (Nat.le_of_ble_eq_true rfl) rfl ?_
  refine v_aload_n dX2_clause_6 rfl ?_
  refine v_bipush dX2_clause_7 (by decide) (v := 58) ?_
  obtain ⟨u4, eu4, hf⟩ := ob hf
  obtain ⟨q3, eq3, hf⟩ := ob hf
  refine v_callU dX2_clause_9 ⟨cb_X4_need, ml_2_51, im_X4_need, sm2_2_X4_need, by decide +kernel, by decide +kernel, by decide +kernel, by decide +kernel⟩ se_2_X4_need_2 eu4 (ev_X4_need eq3) (by decide) (As := [.int (58 : Int32)]) rfl (st := []) rfl (Nat.le_of_ble_eq_true rfl) rfl ?_
  refine v_aload_n dX2_clause_12 rfl ?_
  obtain ⟨u6, eu6, hf⟩ := ob hf
  obtain ⟨q5, eq5, hf⟩ := ob hf
  refine v_callU dX2_clause_13 ⟨cb_X4_peek, ml_2_42, im_X4_peek, sm2_2_X4_peek, by decide +kernel, by decide +kernel, by decide +kernel, by decide +kernel⟩ se_2_X4_peek_2 eu6 (ev_X4_peek eq5) (by decide) (As := []) rfl (st := []) rfl (Nat.le_of_ble_eq_true rfl) rfl ?_
  refine v_istore_n (i := 1) rfl dX2_clause_16 (Nat.le_of_ble_eq_true rfl) (loc' := [some (.ref l0), some (.int q5.1), none, none, none]) rfl ?_
  refine v_iconst dX2_clause_17 (by decide) (v := 1) ?_
  refine v_istore_n (i := 2) rfl dX2_clause_18 (Nat.le_of_ble_eq_true rfl) (loc' := [some (.ref l0), some (.int q5.1), some (.int (1 : Int32)), none, none]) rfl ?_
  refine v_iconst dX2_clause_19 (by decide) (v := 0) ?_
  refine v_istore_n (i := 3) rfl dX2_clause_20 (Nat.le_of_ble_eq_true rfl) (loc' := [some (.ref l0), some (.int q5.1), some (.int (1 : Int32)), some (.int (0 : Int32)), none]) rfl ?_
  refine v_iload_n dX2_clause_21 rfl ?_
  refine v_bipush dX2_clause_22 (by decide) (v := 33) ?_
  refine v_icmp_eq dX2_clause_24 (tgt := 33) (by decide) (fun c7 => ?_) (fun c7 => ?_)
  · replace hf := (if_pos c7).symm.trans hf
    exact xa_weak (loc := [some (.ref l0), none, some (.int (1 : Int32)), some (.int (0 : Int32)), none]) ⟨rfl, ⟨rfl, ⟨rfl, trivial⟩⟩⟩ (e_X2_clause_b33 q5.2 l0 (1 : Int32) (0 : Int32) r hf)
  · replace hf := (if_neg c7).symm.trans hf
    refine v_iload_n dX2_clause_27 rfl ?_
    refine v_bipush dX2_clause_28 (by decide) (v := 40) ?_
    refine v_icmp_ne dX2_clause_30 (tgt := 37) (by decide) (fun c8 => ?_) (fun c8 => ?_)
    · replace hf := (if_neg c8).symm.trans hf
      refine v_iconst dX2_clause_37 (by decide) (v := 0) ?_
      exact xa_weak (loc := [some (.ref l0), none, some (.int (1 : Int32)), some (.int (0 : Int32)), none]) ⟨rfl, ⟨rfl, ⟨rfl, trivial⟩⟩⟩ (e_X2_clause_b38 q5.2 l0 (1 : Int32) (0 : Int32) (0 : Int32) r hf)
    · replace hf := (if_pos c8).symm.trans hf
      exact xa_weak (loc := [some (.ref l0), none, some (.int (1 : Int32)), some (.int (0 : Int32)), none]) ⟨rfl, ⟨rfl, ⟨rfl, trivial⟩⟩⟩ (e_X2_clause_b33 q5.2 l0 (1 : Int32) (0 : Int32) r hf)
theorem ckf_X2_clause {h : xa_H} {l0 : Nat} {r : xa_H} (hf : f_X2_clause h l0 = some r) : ck [2] h l0 = some () := by
  obtain ⟨u, e, -⟩ := ob hf
  exact e
def M_X2_read : xa_M := (yX2_read, cX2_read, 4, some .int)
theorem cb_X2_read : xa_CB M_X2_read 2 := ⟨gws_at 694 (by decide +kernel) rfl, gws_at 113 (by decide +kernel) rfl, by decide +kernel, Nat.le_of_ble_eq_true rfl⟩
def f_X2_read_b61 (h : xa_H) (l0 : Nat) : Option (Int32 × xa_H) :=
  (ck [2] h l0).bind fun u2 =>
  (f_X4_wrongAt h l0).bind fun q1 =>
  some (q1, h)
set_option maxRecDepth 20000 in
theorem e_X2_read_b61 {G : xa_G} : ∀ (h : xa_H) (l0 : Nat) (r : (Int32 × xa_H)), f_X2_read_b61 h l0 = some r → xa_V G M_X2_read 126 61 [some (.ref l0), none, none, none] [] h (some (.int r.1)) r.2 := by
  intro h l0 r hf
  unfold f_X2_read_b61 at hf
  refine v_aload_n dX2_read_61 rfl ?_
  obtain ⟨u2, eu2, hf⟩ := ob hf
  obtain ⟨q1, eq1, hf⟩ := ob hf
  refine v_callU dX2_read_62 ⟨cb_X4_wrongAt, ml_2_48, im_X4_wrongAt, sm2_2_X4_wrongAt, by decide +kernel, by decide +kernel, by decide +kernel, by decide +kernel⟩ se_2_X4_wrongAt_2 eu2 (ev_X4_wrongAt eq1) (by decide) (As := []) rfl (st := []) rfl (Nat.le_of_ble_eq_true rfl) rfl ?_
  replace hf := Option.some.inj hf
  subst hf
  exact v_iret dX2_read_65 rfl
def f_X2_read_b48 (h : xa_H) (l0 : Nat) : Option (Int32 × xa_H) :=
  (ck [2] h l0).bind fun u2 =>
  (f_X4_peek h l0).bind fun q1 =>
  if q1.1 = (-1 : Int32) then
    f_X2_read_b61 q1.2 l0
  else
    (xp [2] 3 q1.2 l0 (.int (1 : Int32))).bind fun h4 =>
    f_X2_read_b61 h4 l0
set_option maxRecDepth 20000 in
theorem e_X2_read_b48 {G : xa_G} : ∀ (h : xa_H) (l0 : Nat) (r : (Int32 × xa_H)), f_X2_read_b48 h l0 = some r → xa_V G M_X2_read 126 48 [some (.ref l0), none, none, none] [] h (some (.int r.1)) r.2 := by
  intro h l0 r hf
  unfold f_X2_read_b48 at hf
  refine v_aload_n dX2_read_48 rfl ?_
  obtain ⟨u2, eu2, hf⟩ := ob hf
  obtain ⟨q1, eq1, hf⟩ := ob hf
  refine v_callU dX2_read_49 ⟨cb_X4_peek, ml_2_42, im_X4_peek, sm2_2_X4_peek, by decide +kernel, by decide +kernel, by decide +kernel, by decide +kernel⟩ se_2_X4_peek_2 eu2 (ev_X4_peek eq1) (by decide) (As := []) rfl (st := []) rfl (Nat.le_of_ble_eq_true rfl) rfl ?_
  refine v_iconst dX2_read_52 (by decide) (v := -1) ?_
  refine v_icmp_eq dX2_read_53 (tgt := 61) (by decide) (fun c3 => ?_) (fun c3 => ?_)
  · replace hf := (if_pos c3).symm.trans hf
    exact e_X2_read_b61 q1.2 l0 r hf
  · replace hf := (if_neg c3).symm.trans hf
    refine v_aload_n dX2_read_56 rfl ?_
    refine v_iconst dX2_read_57 (by decide) (v := 1) ?_
    obtain ⟨h4, eh4, hf⟩ := ob hf
    refine v_put dX2_read_58 fp_2_45 (fun z => by cases z) (fun _ => rfl) (fun _ => rfl) eh4 ?_
    exact e_X2_read_b61 h4 l0 r hf
def f_X2_read_b22 : Nat → xa_H → Nat → Int32 → Option (Int32 × xa_H)
  | 0, _, _, _ => none
  | n + 1, h, l0, l3 =>
    if (240 : Int32) ≤ l3 then
      f_X2_read_b48 h l0
    else
      (ck [2] h l0).bind fun u3 =>
      (f_X4_take h l0 (59 : Int32)).bind fun q2 =>
      if q2.1 = 0 then
        f_X2_read_b48 q2.2 l0
      else
        (f_X2_clause q2.2 l0).bind fun q5 =>
        f_X2_read_b22 n q5 l0 (l3 + (1 : Int32))
set_option maxRecDepth 20000 in
theorem e_X2_read_b22 {G : xa_G} : ∀ (n : Nat) (h : xa_H) (l0 : Nat) (l3 : Int32) (r : (Int32 × xa_H)), f_X2_read_b22 n h l0 l3 = some r → xa_V G M_X2_read 126 22 [some (.ref l0), none, none, some (.int l3)] [] h (some (.int r.1)) r.2 := by
  intro n
  induction n with
  | zero =>
    intro h l0 l3 r hf
    cases (show (none : Option (Int32 × xa_H)) = some r from hf)
  | succ n ih =>
    intro h l0 l3 r hf
    rw [f_X2_read_b22] at hf
    refine v_iload_n dX2_read_22 rfl ?_
    refine v_sipush dX2_read_23 (by decide) (v := 240) ?_
    refine v_icmp_ge dX2_read_26 (tgt := 48) (by decide) (fun c1 => ?_) (fun c1 => ?_)
    · replace hf := (if_pos c1).symm.trans hf
      exact xa_weak (loc := [some (.ref l0), none, none, none]) ⟨rfl, trivial⟩ (e_X2_read_b48 h l0 r hf)
    · replace hf := (if_neg c1).symm.trans hf
      refine v_aload_n dX2_read_29 rfl ?_
      refine v_bipush dX2_read_30 (by decide) (v := 59) ?_
      obtain ⟨u3, eu3, hf⟩ := ob hf
      obtain ⟨q2, eq2, hf⟩ := ob hf
      refine v_callU dX2_read_32 ⟨cb_X4_take, ml_2_38, im_X4_take, sm2_2_X4_take, by decide +kernel, by decide +kernel, by decide +kernel, by decide +kernel⟩ se_2_X4_take_2 eu3 (ev_X4_take eq2) (by decide) (As := [.int (59 : Int32)]) rfl (st := []) rfl (Nat.le_of_ble_eq_true rfl) rfl ?_
      refine v_if_eq dX2_read_35 (tgt := 48) (by decide) (fun c4 => ?_) (fun c4 => ?_)
      · replace hf := (if_pos c4).symm.trans hf
        exact xa_weak (loc := [some (.ref l0), none, none, none]) ⟨rfl, trivial⟩ (e_X2_read_b48 q2.2 l0 r hf)
      · replace hf := (if_neg c4).symm.trans hf
        refine v_aload_n dX2_read_38 rfl ?_
        obtain ⟨q5, eq5, hf⟩ := ob hf
        refine v_callV dX2_read_39 ⟨cb_X2_clause, ml_2_35, im_X2_clause⟩ se_2_X2_clause (ckf_X2_clause eq5) (ev_X2_clause eq5) (by decide) (As := []) rfl (st := []) rfl (Nat.le_of_ble_eq_true rfl) rfl ?_
        refine v_iinc dX2_read_42 rfl (v := (l3 + (1 : Int32))) rfl (Nat.le_of_ble_eq_true rfl) (loc' := [some (.ref l0), none, none, some (.int (l3 + (1 : Int32)))]) rfl ?_
        refine v_goto dX2_read_45 (tgt := 22) (by decide) ?_
        exact ih q5 l0 (l3 + (1 : Int32)) r hf
def f_X2_read (h : xa_H) (l0 : Nat) (l1 : Nat) (l2 : Int32) : Option (Int32 × xa_H) :=
  (ck [2] h l0).bind fun _ =>
  (ck [2] h l0).bind fun u2 =>
  (f_X4_start h l0 l1 l2).bind fun q1 =>
  (xp [2] 5 q1 l0 (.int (0 : Int32))).bind fun h3 =>
  (xp [2] 6 h3 l0 (.int (0 : Int32))).bind fun h4 =>
  (f_X2_clause h4 l0).bind fun q5 =>
  f_X2_read_b22 1048576 q5 l0 (0 : Int32)
set_option maxRecDepth 20000 in
theorem ev_X2_read {G : xa_G} {h : xa_H} {l0 : Nat} {l1 : Nat} {l2 : Int32} {r : (Int32 × xa_H)} (hf : f_X2_read h l0 l1 l2 = some r) : xa_Ev G M_X2_read 126 [.ref l0, .ref l1, .int l2] h (some (.int r.1)) r.2 := by
  refine xa_entry (by decide +kernel) (loc := [some (.ref l0), some (.ref l1), some (.int l2), none]) rfl (Nat.le_of_ble_eq_true rfl) ?_
  unfold f_X2_read at hf
  obtain ⟨u0, eu0, hf⟩ := ob hf
  refine v_aload_n dX2_read_0 rfl ?_
  refine v_aload_n dX2_read_1 rfl ?_
  refine v_iload_n dX2_read_2 rfl ?_
  obtain ⟨u2, eu2, hf⟩ := ob hf
  obtain ⟨q1, eq1, hf⟩ := ob hf
  refine v_callU dX2_read_3 ⟨cb_X4_start, ml_2_31, im_X4_start, sm2_2_X4_start, by decide +kernel, by decide +kernel, by decide +kernel, by decide +kernel⟩ se_2_X4_start_2 eu2 (ev_X4_start eq1) (by decide) (As := [.ref l1, .int l2]) rfl (st := []) rfl (Nat.le_of_ble_eq_true rfl) rfl ?_
  refine v_aload_n dX2_read_6 rfl ?_
  refine v_iconst dX2_read_7 (by decide) (v := 0) ?_
  obtain ⟨h3, eh3, hf⟩ := ob hf
  refine v_put dX2_read_8 fp_2_23 (fun z => by cases z) (fun _ => rfl) (fun _ => rfl) eh3 ?_
  refine v_aload_n dX2_read_11 rfl ?_
  refine v_iconst dX2_read_12 (by decide) (v := 0) ?_
  obtain ⟨h4, eh4, hf⟩ := ob hf
  refine v_put dX2_read_13 fp_2_27 (fun z => by cases z) (fun _ => rfl) (fun _ => rfl) eh4 ?_
  refine v_aload_n dX2_read_16 rfl ?_
  obtain ⟨q5, eq5, hf⟩ := ob hf
  refine v_callV dX2_read_17 ⟨cb_X2_clause, ml_2_35, im_X2_clause⟩ se_2_X2_clause (ckf_X2_clause eq5) (ev_X2_clause eq5) (by decide) (As := []) rfl (st := []) rfl (Nat.le_of_ble_eq_true rfl) rfl ?_
  refine v_iconst dX2_read_20 (by decide) (v := 0) ?_
  refine v_istore_n (i := 3) rfl dX2_read_21 (Nat.le_of_ble_eq_true rfl) (loc' := [some (.ref l0), some (.ref l1), some (.int l2), some (.int (0 : Int32))]) rfl ?_
  exact xa_weak (loc := [some (.ref l0), none, none, some (.int (0 : Int32))]) ⟨rfl, ⟨rfl, trivial⟩⟩ (e_X2_read_b22 1048576 q5 l0 (0 : Int32) r hf)
theorem ckf_X2_read {h : xa_H} {l0 : Nat} {l1 : Nat} {l2 : Int32} {r : (Int32 × xa_H)} (hf : f_X2_read h l0 l1 l2 = some r) : ck [2] h l0 = some () := by
  obtain ⟨u, e, -⟩ := ob hf
  exact e
def M_X2_init : xa_M := (yX2_init, cX2_init, 1, none)
theorem cb_X2_init : xa_CB M_X2_init 0 := ⟨gws_at 248 (by decide +kernel) rfl, gws_at 113 (by decide +kernel) rfl, by decide +kernel, Nat.le_of_ble_eq_true rfl⟩
def f_X2_init (h : xa_H) (l0 : Nat) : Option xa_H :=
  (ck [2] h l0).bind fun _ =>
  (f_X4_init h l0).bind fun q1 =>
  (sLen (1000000010 + 0)).bind fun x2 =>
  (nAI q1 x2).bind fun h3 =>
  (xp [2] 4 h3 l0 (.ref q1.2.1)).bind fun h4 =>
  (xp [2] 5 h4 l0 (.int (0 : Int32))).bind fun h5 =>
  (xp [2] 6 h5 l0 (.int (0 : Int32))).bind fun h6 =>
  some h6
set_option maxRecDepth 20000 in
theorem ev_X2_init {G : xa_G} {h : xa_H} {l0 : Nat} {r : xa_H} (hf : f_X2_init h l0 = some r) : xa_Ev G M_X2_init 2 [.ref l0] h none r := by
  refine xa_entry (by decide +kernel) (loc := [some (.ref l0)]) rfl (Nat.le_of_ble_eq_true rfl) ?_
  unfold f_X2_init at hf
  obtain ⟨u0, eu0, hf⟩ := ob hf
  refine v_aload_n dX2_init_0 rfl ?_
  obtain ⟨q1, eq1, hf⟩ := ob hf
  refine v_callIN dX2_init_1 ⟨cb_X4_init, mn_2_3, im_X4_init, rfl, rfl⟩ (ev_X4_init eq1) (by decide) (As := []) rfl (st := []) rfl (Nat.le_of_ble_eq_true rfl) rfl ?_
  refine v_aload_n dX2_init_4 rfl ?_
  refine v_ldcs dX2_init_5 (List.mem_of_getElem? (i := 0) rfl) ?_
  obtain ⟨x2, ex2, hf⟩ := ob hf
  refine v_slen dX2_init_7 ml_2_13 (by decide) (Nat.le_of_ble_eq_true rfl) ex2 ?_
  obtain ⟨h3, eh3, hf⟩ := ob hf
  refine w_newaI dX2_init_10 ac_int eh3 ?_
  obtain ⟨h4, eh4, hf⟩ := ob hf
  refine v_put dX2_init_12 fp_2_19 (fun _ => rfl) (fun _ => rfl) (fun _ => rfl) eh4 ?_
  refine v_aload_n dX2_init_15 rfl ?_
  refine v_iconst dX2_init_16 (by decide) (v := 0) ?_
  obtain ⟨h5, eh5, hf⟩ := ob hf
  refine v_put dX2_init_17 fp_2_23 (fun z => by cases z) (fun _ => rfl) (fun _ => rfl) eh5 ?_
  refine v_aload_n dX2_init_20 rfl ?_
  refine v_iconst dX2_init_21 (by decide) (v := 0) ?_
  obtain ⟨h6, eh6, hf⟩ := ob hf
  refine v_put dX2_init_22 fp_2_27 (fun z => by cases z) (fun _ => rfl) (fun _ => rfl) eh6 ?_
  replace hf := Option.some.inj hf
  subst hf
  exact v_vret dX2_init_25 rfl
theorem ckf_X2_init {h : xa_H} {l0 : Nat} {r : xa_H} (hf : f_X2_init h l0 = some r) : ck [2] h l0 = some () := by
  obtain ⟨u, e, -⟩ := ob hf
  exact e
