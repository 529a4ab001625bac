def M_X10_fillIn : xa_M := (yX10_fillIn, cX10_fillIn, 7, none)
theorem cb_X10_fillIn : xa_CB M_X10_fillIn 2 := ⟨gws_at 1058 (by decide +kernel) rfl, gws_at 120 (by decide +kernel) rfl, by decide +kernel, Nat.le_of_ble_eq_true rfl⟩
def f_X10_fillIn_b109 (k24 : xa_H → Nat → Int64 → Int64 → Int32 → Int32 → Option xa_H) (h : xa_H) (l0 : Nat) (l1 : Int64) (l3 : Int64) (l5 : Int32) (l6 : Int32) : Option xa_H :=
  k24 h l0 l1 l3 ((l5 + (1 : Int32)) &&& (2047 : Int32)) (l6 + (1 : Int32))
set_option maxRecDepth 20000 in
theorem e_X10_fillIn_b109 {G : xa_G} {k24 : xa_H → Nat → Int64 → Int64 → Int32 → Int32 → Option xa_H} (hk24 : ∀ (h : xa_H) (l0 : Nat) (l1 : Int64) (l3 : Int64) (l5 : Int32) (l6 : Int32) (r : xa_H), k24 h l0 l1 l3 l5 l6 = some r → xa_V G M_X10_fillIn 0 24 [some (.ref l0), some (.long l1), none, some (.long l3), none, some (.int l5), some (.int l6)] [] h none r) : ∀ (h : xa_H) (l0 : Nat) (l1 : Int64) (l3 : Int64) (l5 : Int32) (l6 : Int32) (r : xa_H), f_X10_fillIn_b109 k24 h l0 l1 l3 l5 l6 = some r → xa_V G M_X10_fillIn 0 109 [some (.ref l0), some (.long l1), none, some (.long l3), none, some (.int l5), some (.int l6)] [] h none r := by
  intro h l0 l1 l3 l5 l6 r hf
  unfold f_X10_fillIn_b109 at hf
  refine v_iload dX10_fillIn_109 rfl ?_
  refine v_iconst dX10_fillIn_111 (by decide) (v := 1) ?_
  refine v_iadd dX10_fillIn_112 ?_
  refine v_sipush dX10_fillIn_113 (by decide) (v := 2047) ?_
  refine v_iand dX10_fillIn_116 ?_
  refine v_istore dX10_fillIn_117 (Nat.le_of_ble_eq_true rfl) (loc' := [some (.ref l0), some (.long l1), none, some (.long l3), none, some (.int ((l5 + (1 : Int32)) &&& (2047 : Int32))), some (.int l6)]) rfl ?_
  refine v_iinc dX10_fillIn_119 rfl (v := (l6 + (1 : Int32))) rfl (Nat.le_of_ble_eq_true rfl) (loc' := [some (.ref l0), some (.long l1), none, some (.long l3), none, some (.int ((l5 + (1 : Int32)) &&& (2047 : Int32))), some (.int (l6 + (1 : Int32)))]) rfl ?_
  refine v_goto dX10_fillIn_122 (tgt := 24) (by decide) ?_
  exact hk24 h l0 l1 l3 ((l5 + (1 : Int32)) &&& (2047 : Int32)) (l6 + (1 : Int32)) r hf
def f_X10_fillIn_b24 : Nat → xa_H → Nat → Int64 → Int64 → Int32 → Int32 → Option xa_H
  | 0, _, _, _, _, _, _ => none
  | n + 1, h, l0, l1, l3, l5, l6 =>
    if (2048 : Int32) ≤ l6 then
      some h
    else
      (gR [10] 3 h l0).bind fun x2 =>
      (aI h x2 l5).bind fun x3 =>
      (gI [10] 4 h l0).bind fun x4 =>
      if x3 = x4 then
        (gR [10] 1 h l0).bind fun x6 =>
        (aL h x6 l5).bind fun x7 =>
        if (lg_cmp x7 l1) = 0 then
          (gR [10] 2 h l0).bind fun x9 =>
          (aL h x9 l5).bind fun x10 =>
          if (lg_cmp x10 l3) = 0 then
            some h
          else
            f_X10_fillIn_b109 (fun h l0 l1 l3 l5 l6 => f_X10_fillIn_b24 n h l0 l1 l3 l5 l6) h l0 l1 l3 l5 l6
        else
          f_X10_fillIn_b109 (fun h l0 l1 l3 l5 l6 => f_X10_fillIn_b24 n h l0 l1 l3 l5 l6) h l0 l1 l3 l5 l6
      else
        (gR [10] 3 h l0).bind fun x12 =>
        (gI [10] 4 h l0).bind fun x13 =>
        (pI h x12 l5 x13).bind fun h14 =>
        (gR [10] 1 h14 l0).bind fun x15 =>
        (pL h14 x15 l5 l1).bind fun h16 =>
        (gR [10] 2 h16 l0).bind fun x17 =>
        (pL h16 x17 l5 l3).bind fun h18 =>
        (gI [10] 5 h18 l0).bind fun x19 =>
        (xp [10] 5 h18 l0 (.int (x19 + (1 : Int32)))).bind fun h20 =>
        some h20
set_option maxRecDepth 20000 in
theorem e_X10_fillIn_b24 {G : xa_G} : ∀ (n : Nat) (h : xa_H) (l0 : Nat) (l1 : Int64) (l3 : Int64) (l5 : Int32) (l6 : Int32) (r : xa_H), f_X10_fillIn_b24 n h l0 l1 l3 l5 l6 = some r → xa_V G M_X10_fillIn 0 24 [some (.ref l0), some (.long l1), none, some (.long l3), none, some (.int l5), some (.int l6)] [] h none r := by
  intro n
  induction n with
  | zero =>
    intro h l0 l1 l3 l5 l6 r hf
    cases (show (none : Option xa_H) = some r from hf)
  | succ n ih =>
    intro h l0 l1 l3 l5 l6 r hf
    rw [f_X10_fillIn_b24] at hf
    refine v_iload dX10_fillIn_24 rfl ?_
    refine v_sipush dX10_fillIn_26 (by decide) (v := 2048) ?_
    refine v_icmp_ge dX10_fillIn_29 (tgt := 125) (by decide) (fun c1 => ?_) (fun c1 => ?_)
    · replace hf := (if_pos c1).symm.trans hf
      replace hf := Option.some.inj hf
      subst hf
      exact v_vret dX10_fillIn_125 rfl
    · replace hf := (if_neg c1).symm.trans hf
      refine v_aload_n dX10_fillIn_32 rfl ?_
      obtain ⟨x2, ex2, hf⟩ := ob hf
      refine v_getR dX10_fillIn_33 fl_10_24 ex2 ?_
      refine v_iload dX10_fillIn_36 rfl ?_
      obtain ⟨x3, ex3, hf⟩ := ob hf
      refine v_ialoadI dX10_fillIn_38 ex3 ?_
      refine v_aload_n dX10_fillIn_39 rfl ?_
      obtain ⟨x4, ex4, hf⟩ := ob hf
      refine v_getI dX10_fillIn_40 fl_10_28 ex4 ?_
      refine v_icmp_eq dX10_fillIn_43 (tgt := 84) (by decide) (fun c5 => ?_) (fun c5 => ?_)
      · replace hf := (if_pos c5).symm.trans hf
        refine v_aload_n dX10_fillIn_84 rfl ?_
        obtain ⟨x6, ex6, hf⟩ := ob hf
        refine v_getR dX10_fillIn_85 fl_10_17 ex6 ?_
        refine v_iload dX10_fillIn_88 rfl ?_
        obtain ⟨x7, ex7, hf⟩ := ob hf
        refine v_laloadL dX10_fillIn_90 ex7 ?_
        refine v_lload_n dX10_fillIn_91 rfl ?_
        refine v_lcmp dX10_fillIn_92 ?_
        refine v_if_ne dX10_fillIn_93 (tgt := 109) (by decide) (fun c8 => ?_) (fun c8 => ?_)
        · replace hf := (if_neg c8).symm.trans hf
          exact e_X10_fillIn_b109 ih h l0 l1 l3 l5 l6 r hf
        · replace hf := (if_pos c8).symm.trans hf
          refine v_aload_n dX10_fillIn_96 rfl ?_
          obtain ⟨x9, ex9, hf⟩ := ob hf
          refine v_getR dX10_fillIn_97 fl_10_21 ex9 ?_
          refine v_iload dX10_fillIn_100 rfl ?_
          obtain ⟨x10, ex10, hf⟩ := ob hf
          refine v_laloadL dX10_fillIn_102 ex10 ?_
          refine v_lload_n dX10_fillIn_103 rfl ?_
          refine v_lcmp dX10_fillIn_104 ?_
          refine v_if_ne dX10_fillIn_105 (tgt := 109) (by decide) (fun c11 => ?_) (fun c11 => ?_)
          · replace hf := (if_neg c11).symm.trans hf
            exact e_X10_fillIn_b109 ih h l0 l1 l3 l5 l6 r hf
          · replace hf := (if_pos c11).symm.trans hf
            replace hf := Option.some.inj hf
            subst hf
            exact v_vret dX10_fillIn_108 rfl
      · replace hf := (if_neg c5).symm.trans hf
        refine v_aload_n dX10_fillIn_46 rfl ?_
        obtain ⟨x12, ex12, hf⟩ := ob hf
        refine v_getR dX10_fillIn_47 fl_10_24 ex12 ?_
        refine v_iload dX10_fillIn_50 rfl ?_
        refine v_aload_n dX10_fillIn_52 rfl ?_
        obtain ⟨x13, ex13, hf⟩ := ob hf
        refine v_getI dX10_fillIn_53 fl_10_28 ex13 ?_
        obtain ⟨h14, eh14, hf⟩ := ob hf
        refine v_iastoreI dX10_fillIn_56 eh14 ?_
        refine v_aload_n dX10_fillIn_57 rfl ?_
        obtain ⟨x15, ex15, hf⟩ := ob hf
        refine v_getR dX10_fillIn_58 fl_10_17 ex15 ?_
        refine v_iload dX10_fillIn_61 rfl ?_
        refine v_lload_n dX10_fillIn_63 rfl ?_
        obtain ⟨h16, eh16, hf⟩ := ob hf
        refine v_lastoreL dX10_fillIn_64 eh16 ?_
        refine v_aload_n dX10_fillIn_65 rfl ?_
        obtain ⟨x17, ex17, hf⟩ := ob hf
        refine v_getR dX10_fillIn_66 fl_10_21 ex17 ?_
        refine v_iload dX10_fillIn_69 rfl ?_
        refine v_lload_n dX10_fillIn_71 rfl ?_
        obtain ⟨h18, eh18, hf⟩ := ob hf
        refine v_lastoreL dX10_fillIn_72 eh18 ?_
        refine v_aload_n dX10_fillIn_73 rfl ?_
        refine v_dup dX10_fillIn_74 rfl ?_
        obtain ⟨x19, ex19, hf⟩ := ob hf
        refine v_getI dX10_fillIn_75 fl_10_32 ex19 ?_
        refine v_iconst dX10_fillIn_78 (by decide) (v := 1) ?_
        refine v_iadd dX10_fillIn_79 ?_
        obtain ⟨h20, eh20, hf⟩ := ob hf
        refine v_put dX10_fillIn_80 fp_10_32 (fun z => by cases z) (fun _ => rfl) (fun _ => rfl) eh20 ?_
        replace hf := Option.some.inj hf
        subst hf
        exact v_vret dX10_fillIn_83 rfl
def f_X10_fillIn (h : xa_H) (l0 : Nat) (l1 : Int64) (l3 : Int64) : Option xa_H :=
  (ck [10] h l0).bind fun _ =>
  f_X10_fillIn_b24 1048576 h l0 l1 l3 (((lushr (((l1 * (31 : Int64)) + l3) * (-7046029254386353131 : Int64)) (53 : Int32))).toInt32 &&& (2047 : Int32)) (0 : Int32)
set_option maxRecDepth 20000 in
theorem ev_X10_fillIn {G : xa_G} {h : xa_H} {l0 : Nat} {l1 : Int64} {l3 : Int64} {r : xa_H} (hf : f_X10_fillIn h l0 l1 l3 = some r) : xa_Ev G M_X10_fillIn 0 [.ref l0, .long l1, .long l3] h none r := by
  refine xa_entry (by decide +kernel) (loc := [some (.ref l0), some (.long l1), none, some (.long l3), none, none, none]) rfl (Nat.le_of_ble_eq_true rfl) ?_
  unfold f_X10_fillIn at hf
  obtain ⟨u0, eu0, hf⟩ := ob hf
  refine v_lload_n dX10_fillIn_0 rfl ?_
  refine v_ldc2 dX10_fillIn_1 rfl col_10_104 ?_
  refine v_lmul dX10_fillIn_4 ?_
  refine v_lload_n dX10_fillIn_5 rfl ?_
  refine v_ladd dX10_fillIn_6 ?_
  refine v_ldc2 dX10_fillIn_7 rfl col_10_106 ?_
  refine v_lmul dX10_fillIn_10 ?_
  refine v_bipush dX10_fillIn_11 (by decide) (v := 53) ?_
  refine w_lushr dX10_fillIn_13 ?_
  refine v_l2i dX10_fillIn_14 ?_
  refine v_sipush dX10_fillIn_15 (by decide) (v := 2047) ?_
  refine v_iand dX10_fillIn_18 ?_
  refine v_istore dX10_fillIn_19 (Nat.le_of_ble_eq_true rfl) (loc' := [some (.ref l0), some (.long l1), none, some (.long l3), none, some (.int (((lushr (((l1 * (31 : Int64)) + l3) * (-7046029254386353131 : Int64)) (53 : Int32))).toInt32 &&& (2047 : Int32))), none]) rfl ?_
  refine v_iconst dX10_fillIn_21 (by decide) (v := 0) ?_
  refine v_istore dX10_fillIn_22 (Nat.le_of_ble_eq_true rfl) (loc' := [some (.ref l0), some (.long l1), none, some (.long l3), none, some (.int (((lushr (((l1 * (31 : Int64)) + l3) * (-7046029254386353131 : Int64)) (53 : Int32))).toInt32 &&& (2047 : Int32))), some (.int (0 : Int32))]) rfl ?_
  exact e_X10_fillIn_b24 1048576 h l0 l1 l3 (((lushr (((l1 * (31 : Int64)) + l3) * (-7046029254386353131 : Int64)) (53 : Int32))).toInt32 &&& (2047 : Int32)) (0 : Int32) r hf
theorem ckf_X10_fillIn {h : xa_H} {l0 : Nat} {l1 : Int64} {l3 : Int64} {r : xa_H} (hf : f_X10_fillIn h l0 l1 l3 = some r) : ck [10] h l0 = some () := by
  obtain ⟨u, e, -⟩ := ob hf
  exact e
def M_X10_addTable : xa_M := (yX10_addTable, cX10_addTable, 10, none)
theorem cb_X10_addTable : xa_CB M_X10_addTable 1 := ⟨gws_at 1053 (by decide +kernel) rfl, gws_at 120 (by decide +kernel) rfl, by decide +kernel, Nat.le_of_ble_eq_true rfl⟩
def f_X10_addTable_b75 (k11 : xa_H → Nat → Nat → Int64 → Int64 → Int32 → Int32 → Option xa_H) (k24 : xa_H → Nat → Nat → Int64 → Int64 → Int32 → Int32 → Int32 → Option xa_H) (h : xa_H) (l0 : Nat) (l1 : Nat) (l2 : Int64) (l4 : Int64) (l6 : Int32) (l7 : Int32) (l8 : Int32) : Option xa_H :=
  k24 h l0 l1 l2 l4 (l6 + (1 : Int32)) l7 (l8 + (1 : Int32))
set_option maxRecDepth 20000 in
theorem e_X10_addTable_b75 {G : xa_G} {k11 : xa_H → Nat → Nat → Int64 → Int64 → Int32 → Int32 → Option xa_H} (hk11 : ∀ (h : xa_H) (l0 : Nat) (l1 : Nat) (l2 : Int64) (l4 : Int64) (l6 : Int32) (l7 : Int32) (r : xa_H), k11 h l0 l1 l2 l4 l6 l7 = some r → xa_V G M_X10_addTable 1 11 [some (.ref l0), some (.ref l1), some (.long l2), none, some (.long l4), none, some (.int l6), some (.int l7), none, none] [] h none r) {k24 : xa_H → Nat → Nat → Int64 → Int64 → Int32 → Int32 → Int32 → Option xa_H} (hk24 : ∀ (h : xa_H) (l0 : Nat) (l1 : Nat) (l2 : Int64) (l4 : Int64) (l6 : Int32) (l7 : Int32) (l8 : Int32) (r : xa_H), k24 h l0 l1 l2 l4 l6 l7 l8 = some r → xa_V G M_X10_addTable 1 24 [some (.ref l0), some (.ref l1), some (.long l2), none, some (.long l4), none, some (.int l6), some (.int l7), some (.int l8), none] [] h none r) : ∀ (h : xa_H) (l0 : Nat) (l1 : Nat) (l2 : Int64) (l4 : Int64) (l6 : Int32) (l7 : Int32) (l8 : Int32) (r : xa_H), f_X10_addTable_b75 k11 k24 h l0 l1 l2 l4 l6 l7 l8 = some r → xa_V G M_X10_addTable 1 75 [some (.ref l0), some (.ref l1), some (.long l2), none, some (.long l4), none, some (.int l6), some (.int l7), some (.int l8), none] [] h none r := by
  intro h l0 l1 l2 l4 l6 l7 l8 r hf
  unfold f_X10_addTable_b75 at hf
  refine v_iinc dX10_addTable_75 rfl (v := (l6 + (1 : Int32))) rfl (Nat.le_of_ble_eq_true rfl) (loc' := [some (.ref l0), some (.ref l1), some (.long l2), none, some (.long l4), none, some (.int (l6 + (1 : Int32))), some (.int l7), some (.int l8), none]) rfl ?_
  refine v_iinc dX10_addTable_78 rfl (v := (l8 + (1 : Int32))) rfl (Nat.le_of_ble_eq_true rfl) (loc' := [some (.ref l0), some (.ref l1), some (.long l2), none, some (.long l4), none, some (.int (l6 + (1 : Int32))), some (.int l7), some (.int (l8 + (1 : Int32))), none]) rfl ?_
  refine v_goto dX10_addTable_81 (tgt := 24) (by decide) ?_
  exact hk24 h l0 l1 l2 l4 (l6 + (1 : Int32)) l7 (l8 + (1 : Int32)) r hf
def f_X10_addTable_b24 (k11 : xa_H → Nat → Nat → Int64 → Int64 → Int32 → Int32 → Option xa_H) : Nat → xa_H → Nat → Nat → Int64 → Int64 → Int32 → Int32 → Int32 → Option xa_H
  | 0, _, _, _, _, _, _, _, _ => none
  | n + 1, h, l0, l1, l2, l4, l6, l7, l8 =>
    if (6 : Int32) ≤ l8 then
      k11 h l0 l1 l2 l4 l6 (l7 + (1 : Int32))
    else
      (f_X0_debt h l1 l7 l8).bind fun q2 =>
      if (8 : Int32) ≤ l6 then
        f_X10_addTable_b75 k11 (fun h l0 l1 l2 l4 l6 l7 l8 => f_X10_addTable_b24 k11 n h l0 l1 l2 l4 l6 l7 l8) h l0 l1 l2 ((lshl l4 (8 : Int32)) ||| ((q2 + (128 : Int32))).toInt64) l6 l7 l8
      else
        f_X10_addTable_b75 k11 (fun h l0 l1 l2 l4 l6 l7 l8 => f_X10_addTable_b24 k11 n h l0 l1 l2 l4 l6 l7 l8) h l0 l1 ((lshl l2 (8 : Int32)) ||| ((q2 + (128 : Int32))).toInt64) l4 l6 l7 l8
set_option maxRecDepth 20000 in
theorem e_X10_addTable_b24 {G : xa_G} {k11 : xa_H → Nat → Nat → Int64 → Int64 → Int32 → Int32 → Option xa_H} (hk11 : ∀ (h : xa_H) (l0 : Nat) (l1 : Nat) (l2 : Int64) (l4 : Int64) (l6 : Int32) (l7 : Int32) (r : xa_H), k11 h l0 l1 l2 l4 l6 l7 = some r → xa_V G M_X10_addTable 1 11 [some (.ref l0), some (.ref l1), some (.long l2), none, some (.long l4), none, some (.int l6), some (.int l7), none, none] [] h none r) : ∀ (n : Nat) (h : xa_H) (l0 : Nat) (l1 : Nat) (l2 : Int64) (l4 : Int64) (l6 : Int32) (l7 : Int32) (l8 : Int32) (r : xa_H), f_X10_addTable_b24 k11 n h l0 l1 l2 l4 l6 l7 l8 = some r → xa_V G M_X10_addTable 1 24 [some (.ref l0), some (.ref l1), some (.long l2), none, some (.long l4), none, some (.int l6), some (.int l7), some (.int l8), none] [] h none r := by
  intro n
  induction n with
  | zero =>
    intro h l0 l1 l2 l4 l6 l7 l8 r hf
    cases (show (none : Option xa_H) = some r from hf)
  | succ n ih =>
    intro h l0 l1 l2 l4 l6 l7 l8 r hf
    rw [f_X10_addTable_b24] at hf
    refine v_iload dX10_addTable_24 rfl ?_
    refine v_bipush dX10_addTable_26 (by decide) (v := 6) ?_
    refine v_icmp_ge dX10_addTable_28 (tgt := 84) (by decide) (fun c1 => ?_) (fun c1 => ?_)
    · replace hf := (if_pos c1).symm.trans hf
      refine v_iinc dX10_addTable_84 rfl (v := (l7 + (1 : Int32))) rfl (Nat.le_of_ble_eq_true rfl) (loc' := [some (.ref l0), some (.ref l1), some (.long l2), none, some (.long l4), none, some (.int l6), some (.int (l7 + (1 : Int32))), some (.int l8), none]) rfl ?_
      refine v_goto dX10_addTable_87 (tgt := 11) (by decide) ?_
      exact xa_weak (loc := [some (.ref l0), some (.ref l1), some (.long l2), none, some (.long l4), none, some (.int l6), some (.int (l7 + (1 : Int32))), none, none]) ⟨rfl, ⟨rfl, ⟨rfl, ⟨rfl, ⟨rfl, ⟨rfl, trivial⟩⟩⟩⟩⟩⟩ (hk11 h l0 l1 l2 l4 l6 (l7 + (1 : Int32)) r hf)
    · replace hf := (if_neg c1).symm.trans hf
      refine v_aload_n dX10_addTable_31 rfl ?_
      refine v_iload dX10_addTable_32 rfl ?_
      refine v_iload dX10_addTable_34 rfl ?_
      obtain ⟨q2, eq2, hf⟩ := ob hf
      refine v_callV dX10_addTable_36 ⟨cb_X0_debt, ml_10_97, im_X0_debt⟩ se_0_X0_debt (ckf_X0_debt eq2) (ev_X0_debt eq2) (by decide) (As := [.int l7, .int l8]) rfl (st := []) rfl (Nat.le_of_ble_eq_true rfl) rfl ?_
      refine v_sipush dX10_addTable_39 (by decide) (v := 128) ?_
      refine v_iadd dX10_addTable_42 ?_
      refine v_istore dX10_addTable_43 (Nat.le_of_ble_eq_true rfl) (loc' := [some (.ref l0), some (.ref l1), some (.long l2), none, some (.long l4), none, some (.int l6), some (.int l7), some (.int l8), some (.int (q2 + (128 : Int32)))]) rfl ?_
      refine v_iload dX10_addTable_45 rfl ?_
      refine v_bipush dX10_addTable_47 (by decide) (v := 8) ?_
      refine v_icmp_ge dX10_addTable_49 (tgt := 64) (by decide) (fun c3 => ?_) (fun c3 => ?_)
      · replace hf := (if_pos c3).symm.trans hf
        refine v_lload dX10_addTable_64 rfl ?_
        refine v_bipush dX10_addTable_66 (by decide) (v := 8) ?_
        refine w_lshl dX10_addTable_68 ?_
        refine v_iload dX10_addTable_69 rfl ?_
        refine v_i2l dX10_addTable_71 ?_
        refine v_lor dX10_addTable_72 ?_
        refine v_lstore dX10_addTable_73 (Nat.le_of_ble_eq_true rfl) (loc' := [some (.ref l0), some (.ref l1), some (.long l2), none, some (.long ((lshl l4 (8 : Int32)) ||| ((q2 + (128 : Int32))).toInt64)), none, some (.int l6), some (.int l7), some (.int l8), some (.int (q2 + (128 : Int32)))]) rfl ?_
        exact xa_weak (loc := [some (.ref l0), some (.ref l1), some (.long l2), none, some (.long ((lshl l4 (8 : Int32)) ||| ((q2 + (128 : Int32))).toInt64)), none, some (.int l6), some (.int l7), some (.int l8), none]) ⟨rfl, ⟨rfl, ⟨rfl, ⟨rfl, ⟨rfl, ⟨rfl, ⟨rfl, trivial⟩⟩⟩⟩⟩⟩⟩ (e_X10_addTable_b75 hk11 ih h l0 l1 l2 ((lshl l4 (8 : Int32)) ||| ((q2 + (128 : Int32))).toInt64) l6 l7 l8 r hf)
      · replace hf := (if_neg c3).symm.trans hf
        refine v_lload_n dX10_addTable_52 rfl ?_
        refine v_bipush dX10_addTable_53 (by decide) (v := 8) ?_
        refine w_lshl dX10_addTable_55 ?_
        refine v_iload dX10_addTable_56 rfl ?_
        refine v_i2l dX10_addTable_58 ?_
        refine v_lor dX10_addTable_59 ?_
        refine v_lstore_n (i := 2) rfl dX10_addTable_60 (Nat.le_of_ble_eq_true rfl) (loc' := [some (.ref l0), some (.ref l1), some (.long ((lshl l2 (8 : Int32)) ||| ((q2 + (128 : Int32))).toInt64)), none, some (.long l4), none, some (.int l6), some (.int l7), some (.int l8), some (.int (q2 + (128 : Int32)))]) rfl ?_
        refine v_goto dX10_addTable_61 (tgt := 75) (by decide) ?_
        exact xa_weak (loc := [some (.ref l0), some (.ref l1), some (.long ((lshl l2 (8 : Int32)) ||| ((q2 + (128 : Int32))).toInt64)), none, some (.long l4), none, some (.int l6), some (.int l7), some (.int l8), none]) ⟨rfl, ⟨rfl, ⟨rfl, ⟨rfl, ⟨rfl, ⟨rfl, ⟨rfl, trivial⟩⟩⟩⟩⟩⟩⟩ (e_X10_addTable_b75 hk11 ih h l0 l1 ((lshl l2 (8 : Int32)) ||| ((q2 + (128 : Int32))).toInt64) l4 l6 l7 l8 r hf)
def f_X10_addTable_b11 : Nat → xa_H → Nat → Nat → Int64 → Int64 → Int32 → Int32 → Option xa_H
  | 0, _, _, _, _, _, _, _ => none
  | n + 1, h, l0, l1, l2, l4, l6, l7 =>
    if (6 : Int32) ≤ l7 then
      (f_X10_fillIn h l0 l2 l4).bind fun q2 =>
      some q2
    else
      f_X10_addTable_b24 (fun h l0 l1 l2 l4 l6 l7 => f_X10_addTable_b11 n h l0 l1 l2 l4 l6 l7) 1048576 h l0 l1 l2 l4 l6 l7 (l7 + (1 : Int32))
set_option maxRecDepth 20000 in
theorem e_X10_addTable_b11 {G : xa_G} : ∀ (n : Nat) (h : xa_H) (l0 : Nat) (l1 : Nat) (l2 : Int64) (l4 : Int64) (l6 : Int32) (l7 : Int32) (r : xa_H), f_X10_addTable_b11 n h l0 l1 l2 l4 l6 l7 = some r → xa_V G M_X10_addTable 1 11 [some (.ref l0), some (.ref l1), some (.long l2), none, some (.long l4), none, some (.int l6), some (.int l7), none, none] [] h none r := by
  intro n
  induction n with
  | zero =>
    intro h l0 l1 l2 l4 l6 l7 r hf
    cases (show (none : Option xa_H) = some r from hf)
  | succ n ih =>
    intro h l0 l1 l2 l4 l6 l7 r hf
    rw [f_X10_addTable_b11] at hf
    refine v_iload dX10_addTable_11 rfl ?_
    refine v_bipush dX10_addTable_13 (by decide) (v := 6) ?_
    refine v_icmp_ge dX10_addTable_15 (tgt := 90) (by decide) (fun c1 => ?_) (fun c1 => ?_)
    · replace hf := (if_pos c1).symm.trans hf
      refine v_aload_n dX10_addTable_90 rfl ?_
      refine v_lload_n dX10_addTable_91 rfl ?_
      refine v_lload dX10_addTable_92 rfl ?_
      obtain ⟨q2, eq2, hf⟩ := ob hf
      refine v_callV dX10_addTable_94 ⟨cb_X10_fillIn, ml_10_100, im_X10_fillIn⟩ se_10_X10_fillIn (ckf_X10_fillIn eq2) (ev_X10_fillIn eq2) (by decide) (As := [.long l2, .long l4]) rfl (st := []) rfl (Nat.le_of_ble_eq_true rfl) rfl ?_
      replace hf := Option.some.inj hf
      subst hf
      exact v_vret dX10_addTable_97 rfl
    · replace hf := (if_neg c1).symm.trans hf
      refine v_iload dX10_addTable_18 rfl ?_
      refine v_iconst dX10_addTable_20 (by decide) (v := 1) ?_
      refine v_iadd dX10_addTable_21 ?_
      refine v_istore dX10_addTable_22 (Nat.le_of_ble_eq_true rfl) (loc' := [some (.ref l0), some (.ref l1), some (.long l2), none, some (.long l4), none, some (.int l6), some (.int l7), some (.int (l7 + (1 : Int32))), none]) rfl ?_
      exact e_X10_addTable_b24 ih 1048576 h l0 l1 l2 l4 l6 l7 (l7 + (1 : Int32)) r hf
def f_X10_addTable (h : xa_H) (l0 : Nat) (l1 : Nat) : Option xa_H :=
  (ck [10] h l0).bind fun _ =>
  f_X10_addTable_b11 1048576 h l0 l1 (0 : Int64) (0 : Int64) (0 : Int32) (0 : Int32)
set_option maxRecDepth 20000 in
theorem ev_X10_addTable {G : xa_G} {h : xa_H} {l0 : Nat} {l1 : Nat} {r : xa_H} (hf : f_X10_addTable h l0 l1 = some r) : xa_Ev G M_X10_addTable 1 [.ref l0, .ref l1] h none r := by
  refine xa_entry (by decide +kernel) (loc := [some (.ref l0), some (.ref l1), none, none, none, none, none, none, none, none]) rfl (Nat.le_of_ble_eq_true rfl) ?_
  unfold f_X10_addTable at hf
  obtain ⟨u0, eu0, hf⟩ := ob hf
  refine v_lconst dX10_addTable_0 (by decide) (v := 0) ?_
  refine v_lstore_n (i := 2) rfl dX10_addTable_1 (Nat.le_of_ble_eq_true rfl) (loc' := [some (.ref l0), some (.ref l1), some (.long (0 : Int64)), none, none, none, none, none, none, none]) rfl ?_
  refine v_lconst dX10_addTable_2 (by decide) (v := 0) ?_
  refine v_lstore dX10_addTable_3 (Nat.le_of_ble_eq_true rfl) (loc' := [some (.ref l0), some (.ref l1), some (.long (0 : Int64)), none, some (.long (0 : Int64)), none, none, none, none, none]) rfl ?_
  refine v_iconst dX10_addTable_5 (by decide) (v := 0) ?_
  refine v_istore dX10_addTable_6 (Nat.le_of_ble_eq_true rfl) (loc' := [some (.ref l0), some (.ref l1), some (.long (0 : Int64)), none, some (.long (0 : Int64)), none, some (.int (0 : Int32)), none, none, none]) rfl ?_
  refine v_iconst dX10_addTable_8 (by decide) (v := 0) ?_
  refine v_istore dX10_addTable_9 (Nat.le_of_ble_eq_true rfl) (loc' := [some (.ref l0), some (.ref l1), some (.long (0 : Int64)), none, some (.long (0 : Int64)), none, some (.int (0 : Int32)), some (.int (0 : Int32)), none, none]) rfl ?_
  exact e_X10_addTable_b11 1048576 h l0 l1 (0 : Int64) (0 : Int64) (0 : Int32) (0 : Int32) r hf
theorem ckf_X10_addTable {h : xa_H} {l0 : Nat} {l1 : Nat} {r : xa_H} (hf : f_X10_addTable h l0 l1 = some r) : ck [10] h l0 = some () := by
  obtain ⟨u, e, -⟩ := ob hf
  exact e
def M_X10_init : xa_M := (yX10_init, cX10_init, 2, none)
theorem cb_X10_init : xa_CB M_X10_init 0 := ⟨gws_at 407 (by decide +kernel) rfl, gws_at 120 (by decide +kernel) rfl, by decide +kernel, Nat.le_of_ble_eq_true rfl⟩
def f_X10_init_b76 : Nat → xa_H → Nat → Int32 → Option xa_H
  | 0, _, _, _ => none
  | n + 1, h, l0, l1 =>
    if (4 : Int32) < l1 then
      some h
    else
      (gR [10] 0 h l0).bind fun x2 =>
      (nC h (.inr (0, [.null, .null, .null, .null, .int 0, .int 0, .int 0, .int 0, .int 0])) 9).bind fun h3 =>
      (f_X0_init h3 h.2.1).bind fun q4 =>
      (pR q4 x2 l1 h.2.1).bind fun h5 =>
      f_X10_init_b76 n h5 l0 (l1 + (1 : Int32))
set_option maxRecDepth 20000 in
theorem e_X10_init_b76 {G : xa_G} : ∀ (n : Nat) (h : xa_H) (l0 : Nat) (l1 : Int32) (r : xa_H), f_X10_init_b76 n h l0 l1 = some r → xa_V G M_X10_init 2 76 [some (.ref l0), some (.int l1)] [] h none r := by
  intro n
  induction n with
  | zero =>
    intro h l0 l1 r hf
    cases (show (none : Option xa_H) = some r from hf)
  | succ n ih =>
    intro h l0 l1 r hf
    rw [f_X10_init_b76] at hf
    refine v_iload_n dX10_init_76 rfl ?_
    refine v_iconst dX10_init_77 (by decide) (v := 4) ?_
    refine v_icmp_gt dX10_init_78 (tgt := 100) (by decide) (fun c1 => ?_) (fun c1 => ?_)
    · replace hf := (if_pos c1).symm.trans hf
      replace hf := Option.some.inj hf
      subst hf
      exact v_vret dX10_init_100 rfl
    · replace hf := (if_neg c1).symm.trans hf
      refine v_aload_n dX10_init_81 rfl ?_
      obtain ⟨x2, ex2, hf⟩ := ob hf
      refine v_getR dX10_init_82 fl_10_11 ex2 ?_
      refine v_iload_n dX10_init_85 rfl ?_
      obtain ⟨h3, eh3, hf⟩ := ob hf
      refine v_new dX10_init_86 nw_10_9 eh3 ?_
      refine v_dup dX10_init_89 rfl ?_
      obtain ⟨q4, eq4, hf⟩ := ob hf
      refine v_callIN dX10_init_90 ⟨cb_X0_init, mn_10_50, im_X0_init, rfl, rfl⟩ (ev_X0_init eq4) (by decide) (As := []) rfl (st := [.ref h.2.1, .int l1, .ref x2]) rfl (Nat.le_of_ble_eq_true rfl) rfl ?_
      obtain ⟨h5, eh5, hf⟩ := ob hf
      refine v_aastore dX10_init_93 eh5 ?_
      refine v_iinc dX10_init_94 rfl (v := (l1 + (1 : Int32))) rfl (Nat.le_of_ble_eq_true rfl) (loc' := [some (.ref l0), some (.int (l1 + (1 : Int32)))]) rfl ?_
      refine v_goto dX10_init_97 (tgt := 76) (by decide) ?_
      exact ih h5 l0 (l1 + (1 : Int32)) r hf
def f_X10_init (h : xa_H) (l0 : Nat) : Option xa_H :=
  (ck [10] h l0).bind fun _ =>
  (nAR h (5 : Int32)).bind fun h1 =>
  (xp [10] 0 h1 l0 (.ref h.2.1)).bind fun h2 =>
  (nAL h2 (2048 : Int32)).bind fun h3 =>
  (xp [10] 1 h3 l0 (.ref h2.2.1)).bind fun h4 =>
  (nAL h4 (2048 : Int32)).bind fun h5 =>
  (xp [10] 2 h5 l0 (.ref h4.2.1)).bind fun h6 =>
  (nAI h6 (2048 : Int32)).bind fun h7 =>
  (xp [10] 3 h7 l0 (.ref h6.2.1)).bind fun h8 =>
  (xp [10] 4 h8 l0 (.int (0 : Int32))).bind fun h9 =>
  (xp [10] 5 h9 l0 (.int (0 : Int32))).bind fun h10 =>
  (xp [10] 6 h10 l0 (.int (0 : Int32))).bind fun h11 =>
  (xp [10] 7 h11 l0 (.int (0 : Int32))).bind fun h12 =>
  (xp [10] 8 h12 l0 (.int (0 : Int32))).bind fun h13 =>
  (xp [10] 9 h13 l0 (.int (0 : Int32))).bind fun h14 =>
  (xp [10] 10 h14 l0 (.int (0 : Int32))).bind fun h15 =>
  f_X10_init_b76 1048576 h15 l0 (0 : Int32)
set_option maxRecDepth 20000 in
theorem ev_X10_init {G : xa_G} {h : xa_H} {l0 : Nat} {r : xa_H} (hf : f_X10_init h l0 = some r) : xa_Ev G M_X10_init 2 [.ref l0] h none r := by
  refine xa_entry (by decide +kernel) (loc := [some (.ref l0), none]) rfl (Nat.le_of_ble_eq_true rfl) ?_
  unfold f_X10_init at hf
  obtain ⟨u0, eu0, hf⟩ := ob hf
  refine v_aload_n dX10_init_0 rfl ?_
  refine v_objInit dX10_init_1 oi_10_3 (by decide) (Nat.le_of_ble_eq_true rfl) ?_
  refine v_aload_n dX10_init_4 rfl ?_
  refine v_iconst dX10_init_5 (by decide) (v := 5) ?_
  obtain ⟨h1, eh1, hf⟩ := ob hf
  refine w_anew dX10_init_6 kl_10_9 eh1 ?_
  obtain ⟨h2, eh2, hf⟩ := ob hf
  refine v_put dX10_init_9 fp_10_11 (fun _ => rfl) (fun _ => rfl) (fun _ => rfl) eh2 ?_
  refine v_aload_n dX10_init_12 rfl ?_
  refine v_sipush dX10_init_13 (by decide) (v := 2048) ?_
  obtain ⟨h3, eh3, hf⟩ := ob hf
  refine w_newaL dX10_init_16 ac_long eh3 ?_
  obtain ⟨h4, eh4, hf⟩ := ob hf
  refine v_put dX10_init_18 fp_10_17 (fun _ => rfl) (fun _ => rfl) (fun _ => rfl) eh4 ?_
  refine v_aload_n dX10_init_21 rfl ?_
  refine v_sipush dX10_init_22 (by decide) (v := 2048) ?_
  obtain ⟨h5, eh5, hf⟩ := ob hf
  refine w_newaL dX10_init_25 ac_long eh5 ?_
  obtain ⟨h6, eh6, hf⟩ := ob hf
  refine v_put dX10_init_27 fp_10_21 (fun _ => rfl) (fun _ => rfl) (fun _ => rfl) eh6 ?_
  refine v_aload_n dX10_init_30 rfl ?_
  refine v_sipush dX10_init_31 (by decide) (v := 2048) ?_
  obtain ⟨h7, eh7, hf⟩ := ob hf
  refine w_newaI dX10_init_34 ac_int eh7 ?_
  obtain ⟨h8, eh8, hf⟩ := ob hf
  refine v_put dX10_init_36 fp_10_24 (fun _ => rfl) (fun _ => rfl) (fun _ => rfl) eh8 ?_
  refine v_aload_n dX10_init_39 rfl ?_
  refine v_iconst dX10_init_40 (by decide) (v := 0) ?_
  obtain ⟨h9, eh9, hf⟩ := ob hf
  refine v_put dX10_init_41 fp_10_28 (fun z => by cases z) (fun _ => rfl) (fun _ => rfl) eh9 ?_
  refine v_aload_n dX10_init_44 rfl ?_
  refine v_iconst dX10_init_45 (by decide) (v := 0) ?_
  obtain ⟨h10, eh10, hf⟩ := ob hf
  refine v_put dX10_init_46 fp_10_32 (fun z => by cases z) (fun _ => rfl) (fun _ => rfl) eh10 ?_
  refine v_aload_n dX10_init_49 rfl ?_
  refine v_iconst dX10_init_50 (by decide) (v := 0) ?_
  obtain ⟨h11, eh11, hf⟩ := ob hf
  refine v_put dX10_init_51 fp_10_35 (fun z => by cases z) (fun _ => rfl) (fun _ => rfl) eh11 ?_
  refine v_aload_n dX10_init_54 rfl ?_
  refine v_iconst dX10_init_55 (by decide) (v := 0) ?_
  obtain ⟨h12, eh12, hf⟩ := ob hf
  refine v_put dX10_init_56 fp_10_38 (fun z => by cases z) (fun _ => rfl) (fun _ => rfl) eh12 ?_
  refine v_aload_n dX10_init_59 rfl ?_
  refine v_iconst dX10_init_60 (by decide) (v := 0) ?_
  obtain ⟨h13, eh13, hf⟩ := ob hf
  refine v_put dX10_init_61 fp_10_41 (fun z => by cases z) (fun _ => rfl) (fun _ => rfl) eh13 ?_
  refine v_aload_n dX10_init_64 rfl ?_
  refine v_iconst dX10_init_65 (by decide) (v := 0) ?_
  obtain ⟨h14, eh14, hf⟩ := ob hf
  refine v_put dX10_init_66 fp_10_44 (fun z => by cases z) (fun _ => rfl) (fun _ => rfl) eh14 ?_
  refine v_aload_n dX10_init_69 rfl ?_
  refine v_iconst dX10_init_70 (by decide) (v := 0) ?_
  obtain ⟨h15, eh15, hf⟩ := ob hf
  refine v_put dX10_init_71 fp_10_47 (fun z => by cases z) (fun _ => rfl) (fun _ => rfl) eh15 ?_
  refine v_iconst dX10_init_74 (by decide) (v := 0) ?_
  refine v_istore_n (i := 1) rfl dX10_init_75 (Nat.le_of_ble_eq_true rfl) (loc' := [some (.ref l0), some (.int (0 : Int32))]) rfl ?_
  exact e_X10_init_b76 1048576 h15 l0 (0 : Int32) r hf
theorem ckf_X10_init {h : xa_H} {l0 : Nat} {r : xa_H} (hf : f_X10_init h l0 = some r) : ck [10] h l0 = some () := by
  obtain ⟨u, e, -⟩ := ob hf
  exact e
def M_X10_weigh : xa_M := (yX10_weigh, cX10_weigh, 5, none)
theorem cb_X10_weigh : xa_CB M_X10_weigh 3 := ⟨gws_at 1049 (by decide +kernel) rfl, gws_at 120 (by decide +kernel) rfl, by decide +kernel, Nat.le_of_ble_eq_true rfl⟩
def f_X10_weigh_b68 (h : xa_H) (l0 : Nat) (l2 : Int32) (l3 : Int32) (l4 : Int32) : Option xa_H :=
  (xp [10] 8 h l0 (.int l4)).bind fun h1 =>
  (xp [10] 9 h1 l0 (.int l2)).bind fun h2 =>
  (xp [10] 10 h2 l0 (.int l3)).bind fun h3 =>
  some h3
set_option maxRecDepth 20000 in
theorem e_X10_weigh_b68 {G : xa_G} : ∀ (h : xa_H) (l0 : Nat) (l2 : Int32) (l3 : Int32) (l4 : Int32) (r : xa_H), f_X10_weigh_b68 h l0 l2 l3 l4 = some r → xa_V G M_X10_weigh 3 68 [some (.ref l0), none, some (.int l2), some (.int l3), some (.int l4)] [] h none r := by
  intro h l0 l2 l3 l4 r hf
  unfold f_X10_weigh_b68 at hf
  refine v_aload_n dX10_weigh_68 rfl ?_
  refine v_iload dX10_weigh_69 rfl ?_
  obtain ⟨h1, eh1, hf⟩ := ob hf
  refine v_put dX10_weigh_71 fp_10_41 (fun z => by cases z) (fun _ => rfl) (fun _ => rfl) eh1 ?_
  refine v_aload_n dX10_weigh_74 rfl ?_
  refine v_iload_n dX10_weigh_75 rfl ?_
  obtain ⟨h2, eh2, hf⟩ := ob hf
  refine v_put dX10_weigh_76 fp_10_44 (fun z => by cases z) (fun _ => rfl) (fun _ => rfl) eh2 ?_
  refine v_aload_n dX10_weigh_79 rfl ?_
  refine v_iload_n dX10_weigh_80 rfl ?_
  obtain ⟨h3, eh3, hf⟩ := ob hf
  refine v_put dX10_weigh_81 fp_10_47 (fun z => by cases z) (fun _ => rfl) (fun _ => rfl) eh3 ?_
  replace hf := Option.some.inj hf
  subst hf
  exact v_vret dX10_weigh_84 rfl
def f_X10_weigh_b42 (h : xa_H) (l0 : Nat) (l2 : Int32) (l3 : Int32) (l4 : Int32) : Option xa_H :=
  (gI [10] 8 h l0).bind fun x1 =>
  if l4 < x1 then
    f_X10_weigh_b68 h l0 l2 l3 l4
  else
    (gI [10] 8 h l0).bind fun x3 =>
    if l4 = x3 then
      (gI [10] 9 h l0).bind fun x5 =>
      if x5 ≤ l2 then
        some h
      else
        f_X10_weigh_b68 h l0 l2 l3 l4
    else
      some h
set_option maxRecDepth 20000 in
theorem e_X10_weigh_b42 {G : xa_G} : ∀ (h : xa_H) (l0 : Nat) (l2 : Int32) (l3 : Int32) (l4 : Int32) (r : xa_H), f_X10_weigh_b42 h l0 l2 l3 l4 = some r → xa_V G M_X10_weigh 3 42 [some (.ref l0), none, some (.int l2), some (.int l3), some (.int l4)] [] h none r := by
  intro h l0 l2 l3 l4 r hf
  unfold f_X10_weigh_b42 at hf
  refine v_iload dX10_weigh_42 rfl ?_
  refine v_aload_n dX10_weigh_44 rfl ?_
  obtain ⟨x1, ex1, hf⟩ := ob hf
  refine v_getI dX10_weigh_45 fl_10_41 ex1 ?_
  refine v_icmp_lt dX10_weigh_48 (tgt := 68) (by decide) (fun c2 => ?_) (fun c2 => ?_)
  · replace hf := (if_pos c2).symm.trans hf
    exact e_X10_weigh_b68 h l0 l2 l3 l4 r hf
  · replace hf := (if_neg c2).symm.trans hf
    refine v_iload dX10_weigh_51 rfl ?_
    refine v_aload_n dX10_weigh_53 rfl ?_
    obtain ⟨x3, ex3, hf⟩ := ob hf
    refine v_getI dX10_weigh_54 fl_10_41 ex3 ?_
    refine v_icmp_ne dX10_weigh_57 (tgt := 84) (by decide) (fun c4 => ?_) (fun c4 => ?_)
    · replace hf := (if_neg c4).symm.trans hf
      replace hf := Option.some.inj hf
      subst hf
      exact v_vret dX10_weigh_84 rfl
    · replace hf := (if_pos c4).symm.trans hf
      refine v_iload_n dX10_weigh_60 rfl ?_
      refine v_aload_n dX10_weigh_61 rfl ?_
      obtain ⟨x5, ex5, hf⟩ := ob hf
      refine v_getI dX10_weigh_62 fl_10_44 ex5 ?_
      refine v_icmp_ge dX10_weigh_65 (tgt := 84) (by decide) (fun c6 => ?_) (fun c6 => ?_)
      · replace hf := (if_pos c6).symm.trans hf
        replace hf := Option.some.inj hf
        subst hf
        exact v_vret dX10_weigh_84 rfl
      · replace hf := (if_neg c6).symm.trans hf
        exact e_X10_weigh_b68 h l0 l2 l3 l4 r hf
def f_X10_weigh_b40 (h : xa_H) (l0 : Nat) (l2 : Int32) (l3 : Int32) (s0 : Int32) : Option xa_H :=
  f_X10_weigh_b42 h l0 l2 l3 s0
set_option maxRecDepth 20000 in
theorem e_X10_weigh_b40 {G : xa_G} : ∀ (h : xa_H) (l0 : Nat) (l2 : Int32) (l3 : Int32) (s0 : Int32) (r : xa_H), f_X10_weigh_b40 h l0 l2 l3 s0 = some r → xa_V G M_X10_weigh 3 40 [some (.ref l0), none, some (.int l2), some (.int l3), none] [.int s0] h none r := by
  intro h l0 l2 l3 s0 r hf
  unfold f_X10_weigh_b40 at hf
  refine v_istore dX10_weigh_40 (Nat.le_of_ble_eq_true rfl) (loc' := [some (.ref l0), none, some (.int l2), some (.int l3), some (.int s0)]) rfl ?_
  exact e_X10_weigh_b42 h l0 l2 l3 s0 r hf
def f_X10_weigh (h : xa_H) (l0 : Nat) (l1 : Nat) (l2 : Int32) (l3 : Int32) : Option xa_H :=
  (ck [10] h l0).bind fun _ =>
  (gI [10] 7 h l0).bind fun x1 =>
  if x1 = 0 then
    (f_X10_addTable h l0 l1).bind fun q8 =>
    some q8
  else
    (f_X0_favours h l1).bind fun q3 =>
    (gI [10] 7 h l0).bind fun x4 =>
    if x4 = (1 : Int32) then
      (f_X0_levels h l1).bind fun q6 =>
      if q6 = (-1 : Int32) then
        f_X10_weigh_b40 h l0 l2 l3 (1 : Int32)
      else
        f_X10_weigh_b40 h l0 l2 l3 (0 : Int32)
    else
      f_X10_weigh_b42 h l0 l2 l3 q3
set_option maxRecDepth 20000 in
theorem ev_X10_weigh {G : xa_G} {h : xa_H} {l0 : Nat} {l1 : Nat} {l2 : Int32} {l3 : Int32} {r : xa_H} (hf : f_X10_weigh h l0 l1 l2 l3 = some r) : xa_Ev G M_X10_weigh 3 [.ref l0, .ref l1, .int l2, .int l3] h none r := by
  refine xa_entry (by decide +kernel) (loc := [some (.ref l0), some (.ref l1), some (.int l2), some (.int l3), none]) rfl (Nat.le_of_ble_eq_true rfl) ?_
  unfold f_X10_weigh at hf
  obtain ⟨u0, eu0, hf⟩ := ob hf
  refine v_aload_n dX10_weigh_0 rfl ?_
  obtain ⟨x1, ex1, hf⟩ := ob hf
  refine v_getI dX10_weigh_1 fl_10_38 ex1 ?_
  refine v_if_ne dX10_weigh_4 (tgt := 13) (by decide) (fun c2 => ?_) (fun c2 => ?_)
  · replace hf := (if_neg c2).symm.trans hf
    refine v_aload_n dX10_weigh_13 rfl ?_
    obtain ⟨q3, eq3, hf⟩ := ob hf
    refine v_callV dX10_weigh_14 ⟨cb_X0_favours, ml_10_90, im_X0_favours⟩ se_0_X0_favours (ckf_X0_favours eq3) (ev_X0_favours eq3) (by decide) (As := []) rfl (st := []) rfl (Nat.le_of_ble_eq_true rfl) rfl ?_
    refine v_istore dX10_weigh_17 (Nat.le_of_ble_eq_true rfl) (loc' := [some (.ref l0), some (.ref l1), some (.int l2), some (.int l3), some (.int q3)]) rfl ?_
    refine v_aload_n dX10_weigh_19 rfl ?_
    obtain ⟨x4, ex4, hf⟩ := ob hf
    refine v_getI dX10_weigh_20 fl_10_38 ex4 ?_
    refine v_iconst dX10_weigh_23 (by decide) (v := 1) ?_
    refine v_icmp_ne dX10_weigh_24 (tgt := 42) (by decide) (fun c5 => ?_) (fun c5 => ?_)
    · replace hf := (if_neg c5).symm.trans hf
      exact xa_weak (loc := [some (.ref l0), none, some (.int l2), some (.int l3), some (.int q3)]) ⟨rfl, ⟨rfl, ⟨rfl, ⟨rfl, trivial⟩⟩⟩⟩ (e_X10_weigh_b42 h l0 l2 l3 q3 r hf)
    · replace hf := (if_pos c5).symm.trans hf
      refine v_aload_n dX10_weigh_27 rfl ?_
      obtain ⟨q6, eq6, hf⟩ := ob hf
      refine v_callV dX10_weigh_28 ⟨cb_X0_levels, ml_10_94, im_X0_levels⟩ se_0_X0_levels (ckf_X0_levels eq6) (ev_X0_levels eq6) (by decide) (As := []) rfl (st := []) rfl (Nat.le_of_ble_eq_true rfl) rfl ?_
      refine v_iconst dX10_weigh_31 (by decide) (v := -1) ?_
      refine v_icmp_ne dX10_weigh_32 (tgt := 39) (by decide) (fun c7 => ?_) (fun c7 => ?_)
      · replace hf := (if_neg c7).symm.trans hf
        refine v_iconst dX10_weigh_39 (by decide) (v := 0) ?_
        exact xa_weak (loc := [some (.ref l0), none, some (.int l2), some (.int l3), none]) ⟨rfl, ⟨rfl, ⟨rfl, trivial⟩⟩⟩ (e_X10_weigh_b40 h l0 l2 l3 (0 : Int32) r hf)
      · replace hf := (if_pos c7).symm.trans hf
        refine v_iconst dX10_weigh_35 (by decide) (v := 1) ?_
        refine v_goto dX10_weigh_36 (tgt := 40) (by decide) ?_
        exact xa_weak (loc := [some (.ref l0), none, some (.int l2), some (.int l3), none]) ⟨rfl, ⟨rfl, ⟨rfl, trivial⟩⟩⟩ (e_X10_weigh_b40 h l0 l2 l3 (1 : Int32) r hf)
  · replace hf := (if_pos c2).symm.trans hf
    refine v_aload_n dX10_weigh_7 rfl ?_
    refine v_aload_n dX10_weigh_8 rfl ?_
    obtain ⟨q8, eq8, hf⟩ := ob hf
    refine v_callV dX10_weigh_9 ⟨cb_X10_addTable, ml_10_87, im_X10_addTable⟩ se_10_X10_addTable (ckf_X10_addTable eq8) (ev_X10_addTable eq8) (by decide) (As := [.ref l1]) rfl (st := []) rfl (Nat.le_of_ble_eq_true rfl) rfl ?_
    replace hf := Option.some.inj hf
    subst hf
    exact v_vret dX10_weigh_12 rfl
theorem ckf_X10_weigh {h : xa_H} {l0 : Nat} {l1 : Nat} {l2 : Int32} {l3 : Int32} {r : xa_H} (hf : f_X10_weigh h l0 l1 l2 l3 = some r) : ck [10] h l0 = some () := by
  obtain ⟨u, e, -⟩ := ob hf
  exact e
def M_X10_visit : xa_M := (yX10_visit, cX10_visit, 8, none)
theorem cb_X10_visit : xa_CB M_X10_visit 3 := ⟨gws_at 1045 (by decide +kernel) rfl, gws_at 120 (by decide +kernel) rfl, by decide +kernel, Nat.le_of_ble_eq_true rfl⟩
def f_X10_visit_b143 (c_X10_visit : xa_H → Nat → Int32 → Int32 → Int32 → Option xa_H) (k67 : xa_H → Nat → Int32 → Int32 → Int32 → Nat → Nat → Int32 → Option xa_H) (h : xa_H) (l0 : Nat) (l1 : Int32) (l2 : Int32) (l3 : Int32) (l4 : Nat) (l6 : Nat) (l7 : Int32) : Option xa_H :=
  k67 h l0 l1 l2 l3 l4 l6 (l7 + (1 : Int32))
set_option maxRecDepth 20000 in
theorem e_X10_visit_b143 {G : xa_G} {d d1 : Nat} {c_X10_visit : xa_H → Nat → Int32 → Int32 → Int32 → Option xa_H} (hc_X10_visit : ∀ {h : xa_H} {a0 : Nat} {a1 : Int32} {a2 : Int32} {a3 : Int32} {r : xa_H}, c_X10_visit h a0 a1 a2 a3 = some r → xa_Ev G M_X10_visit d1 [.ref a0, .int a1, .int a2, .int a3] h none r) (hck_X10_visit : ∀ {h : xa_H} {a0 : Nat} {a1 : Int32} {a2 : Int32} {a3 : Int32} {r : xa_H}, c_X10_visit h a0 a1 a2 a3 = some r → ck [10] h a0 = some ()) (hdx : 4 ≤ d) (hd1 : d1 + 1 ≤ d) {k67 : xa_H → Nat → Int32 → Int32 → Int32 → Nat → Nat → Int32 → Option xa_H} (hk67 : ∀ (h : xa_H) (l0 : Nat) (l1 : Int32) (l2 : Int32) (l3 : Int32) (l4 : Nat) (l6 : Nat) (l7 : Int32) (r : xa_H), k67 h l0 l1 l2 l3 l4 l6 l7 = some r → xa_V G M_X10_visit d 67 [some (.ref l0), some (.int l1), some (.int l2), some (.int l3), some (.ref l4), none, some (.ref l6), some (.int l7)] [] h none r) : ∀ (h : xa_H) (l0 : Nat) (l1 : Int32) (l2 : Int32) (l3 : Int32) (l4 : Nat) (l6 : Nat) (l7 : Int32) (r : xa_H), f_X10_visit_b143 c_X10_visit k67 h l0 l1 l2 l3 l4 l6 l7 = some r → xa_V G M_X10_visit d 143 [some (.ref l0), some (.int l1), some (.int l2), some (.int l3), some (.ref l4), none, some (.ref l6), some (.int l7)] [] h none r := by
  intro h l0 l1 l2 l3 l4 l6 l7 r hf
  unfold f_X10_visit_b143 at hf
  refine v_iinc dX10_visit_143 rfl (v := (l7 + (1 : Int32))) rfl (Nat.le_of_ble_eq_true rfl) (loc' := [some (.ref l0), some (.int l1), some (.int l2), some (.int l3), some (.ref l4), none, some (.ref l6), some (.int (l7 + (1 : Int32)))]) rfl ?_
  refine v_goto dX10_visit_146 (tgt := 67) (by decide) ?_
  exact hk67 h l0 l1 l2 l3 l4 l6 (l7 + (1 : Int32)) r hf
def f_X10_visit_b120 (c_X10_visit : xa_H → Nat → Int32 → Int32 → Int32 → Option xa_H) (k67 : xa_H → Nat → Int32 → Int32 → Int32 → Nat → Nat → Int32 → Option xa_H) (h : xa_H) (l0 : Nat) (l1 : Int32) (l2 : Int32) (l3 : Int32) (l4 : Nat) (l6 : Nat) (l7 : Int32) : Option xa_H :=
  (f_X0_turnDebts h l6 l7).bind fun q1 =>
  (c_X10_visit q1 l0 (l1 + (1 : Int32)) l7 (((10 : Int32) * l3) + l7)).bind fun q2 =>
  f_X10_visit_b143 c_X10_visit k67 q2 l0 l1 l2 l3 l4 l6 l7
set_option maxRecDepth 20000 in
theorem e_X10_visit_b120 {G : xa_G} {d d1 : Nat} {c_X10_visit : xa_H → Nat → Int32 → Int32 → Int32 → Option xa_H} (hc_X10_visit : ∀ {h : xa_H} {a0 : Nat} {a1 : Int32} {a2 : Int32} {a3 : Int32} {r : xa_H}, c_X10_visit h a0 a1 a2 a3 = some r → xa_Ev G M_X10_visit d1 [.ref a0, .int a1, .int a2, .int a3] h none r) (hck_X10_visit : ∀ {h : xa_H} {a0 : Nat} {a1 : Int32} {a2 : Int32} {a3 : Int32} {r : xa_H}, c_X10_visit h a0 a1 a2 a3 = some r → ck [10] h a0 = some ()) (hdx : 4 ≤ d) (hd1 : d1 + 1 ≤ d) {k67 : xa_H → Nat → Int32 → Int32 → Int32 → Nat → Nat → Int32 → Option xa_H} (hk67 : ∀ (h : xa_H) (l0 : Nat) (l1 : Int32) (l2 : Int32) (l3 : Int32) (l4 : Nat) (l6 : Nat) (l7 : Int32) (r : xa_H), k67 h l0 l1 l2 l3 l4 l6 l7 = some r → xa_V G M_X10_visit d 67 [some (.ref l0), some (.int l1), some (.int l2), some (.int l3), some (.ref l4), none, some (.ref l6), some (.int l7)] [] h none r) : ∀ (h : xa_H) (l0 : Nat) (l1 : Int32) (l2 : Int32) (l3 : Int32) (l4 : Nat) (l6 : Nat) (l7 : Int32) (r : xa_H), f_X10_visit_b120 c_X10_visit k67 h l0 l1 l2 l3 l4 l6 l7 = some r → xa_V G M_X10_visit d 120 [some (.ref l0), some (.int l1), some (.int l2), some (.int l3), some (.ref l4), none, some (.ref l6), some (.int l7)] [] h none r := by
  intro h l0 l1 l2 l3 l4 l6 l7 r hf
  unfold f_X10_visit_b120 at hf
  refine v_aload dX10_visit_120 rfl ?_
  refine v_iload dX10_visit_122 rfl ?_
  obtain ⟨q1, eq1, hf⟩ := ob hf
  refine v_callV dX10_visit_124 ⟨cb_X0_turnDebts, ml_10_84, im_X0_turnDebts⟩ se_0_X0_turnDebts (ckf_X0_turnDebts eq1) (ev_X0_turnDebts eq1) (Nat.le_trans (by decide) hdx) (As := [.int l7]) rfl (st := []) rfl (Nat.le_of_ble_eq_true rfl) rfl ?_
  refine v_aload_n dX10_visit_127 rfl ?_
  refine v_iload_n dX10_visit_128 rfl ?_
  refine v_iconst dX10_visit_129 (by decide) (v := 1) ?_
  refine v_iadd dX10_visit_130 ?_
  refine v_iload dX10_visit_131 rfl ?_
  refine v_bipush dX10_visit_133 (by decide) (v := 10) ?_
  refine v_iload_n dX10_visit_135 rfl ?_
  refine v_imul dX10_visit_136 ?_
  refine v_iload dX10_visit_137 rfl ?_
  refine v_iadd dX10_visit_139 ?_
  obtain ⟨q2, eq2, hf⟩ := ob hf
  refine v_callV dX10_visit_140 ⟨cb_X10_visit, ml_10_65, im_X10_visit⟩ se_10_X10_visit (hck_X10_visit eq2) (hc_X10_visit eq2) hd1 (As := [.int (l1 + (1 : Int32)), .int l7, .int (((10 : Int32) * l3) + l7)]) rfl (st := []) rfl (Nat.le_of_ble_eq_true rfl) rfl ?_
  exact e_X10_visit_b143 hc_X10_visit hck_X10_visit hdx hd1 hk67 q2 l0 l1 l2 l3 l4 l6 l7 r hf
def f_X10_visit_b67 (c_X10_visit : xa_H → Nat → Int32 → Int32 → Int32 → Option xa_H) : Nat → xa_H → Nat → Int32 → Int32 → Int32 → Nat → Nat → Int32 → Option xa_H
  | 0, _, _, _, _, _, _, _, _ => none
  | n + 1, h, l0, l1, l2, l3, l4, l6, l7 =>
    (gI [0] 4 h l4).bind fun x1 =>
    if x1 ≤ l7 then
      some h
    else
      if l7 = l2 then
        f_X10_visit_b143 c_X10_visit (fun h l0 l1 l2 l3 l4 l6 l7 => f_X10_visit_b67 c_X10_visit n h l0 l1 l2 l3 l4 l6 l7) h l0 l1 l2 l3 l4 l6 l7
      else
        (f_X0_canTurn h l4 l7).bind fun q4 =>
        if q4 = 0 then
          f_X10_visit_b143 c_X10_visit (fun h l0 l1 l2 l3 l4 l6 l7 => f_X10_visit_b67 c_X10_visit n h l0 l1 l2 l3 l4 l6 l7) h l0 l1 l2 l3 l4 l6 l7
        else
          (f_X0_become h l6 l4).bind fun q6 =>
          (gI [10] 6 q6 l0).bind fun x7 =>
          if x7 ≤ (l1 + (2 : Int32)) then
            f_X10_visit_b120 c_X10_visit (fun h l0 l1 l2 l3 l4 l6 l7 => f_X10_visit_b67 c_X10_visit n h l0 l1 l2 l3 l4 l6 l7) q6 l0 l1 l2 l3 l4 l6 l7
          else
            (f_X0_renewWorth q6 l6 l7).bind fun q9 =>
            f_X10_visit_b120 c_X10_visit (fun h l0 l1 l2 l3 l4 l6 l7 => f_X10_visit_b67 c_X10_visit n h l0 l1 l2 l3 l4 l6 l7) q9 l0 l1 l2 l3 l4 l6 l7
set_option maxRecDepth 20000 in
theorem e_X10_visit_b67 {G : xa_G} {d d1 : Nat} {c_X10_visit : xa_H → Nat → Int32 → Int32 → Int32 → Option xa_H} (hc_X10_visit : ∀ {h : xa_H} {a0 : Nat} {a1 : Int32} {a2 : Int32} {a3 : Int32} {r : xa_H}, c_X10_visit h a0 a1 a2 a3 = some r → xa_Ev G M_X10_visit d1 [.ref a0, .int a1, .int a2, .int a3] h none r) (hck_X10_visit : ∀ {h : xa_H} {a0 : Nat} {a1 : Int32} {a2 : Int32} {a3 : Int32} {r : xa_H}, c_X10_visit h a0 a1 a2 a3 = some r → ck [10] h a0 = some ()) (hdx : 4 ≤ d) (hd1 : d1 + 1 ≤ d) : ∀ (n : Nat) (h : xa_H) (l0 : Nat) (l1 : Int32) (l2 : Int32) (l3 : Int32) (l4 : Nat) (l6 : Nat) (l7 : Int32) (r : xa_H), f_X10_visit_b67 c_X10_visit n h l0 l1 l2 l3 l4 l6 l7 = some r → xa_V G M_X10_visit d 67 [some (.ref l0), some (.int l1), some (.int l2), some (.int l3), some (.ref l4), none, some (.ref l6), some (.int l7)] [] h none r := by
  intro n
  induction n with
  | zero =>
    intro h l0 l1 l2 l3 l4 l6 l7 r hf
    cases (show (none : Option xa_H) = some r from hf)
  | succ n ih =>
    intro h l0 l1 l2 l3 l4 l6 l7 r hf
    rw [f_X10_visit_b67] at hf
    refine v_iload dX10_visit_67 rfl ?_
    refine v_aload dX10_visit_69 rfl ?_
    obtain ⟨x1, ex1, hf⟩ := ob hf
    refine v_getI dX10_visit_71 fl_10_73 ex1 ?_
    refine v_icmp_ge dX10_visit_74 (tgt := 149) (by decide) (fun c2 => ?_) (fun c2 => ?_)
    · replace hf := (if_pos c2).symm.trans hf
      replace hf := Option.some.inj hf
      subst hf
      exact v_vret dX10_visit_149 rfl
    · replace hf := (if_neg c2).symm.trans hf
      refine v_iload dX10_visit_77 rfl ?_
      refine v_iload_n dX10_visit_79 rfl ?_
      refine v_icmp_eq dX10_visit_80 (tgt := 143) (by decide) (fun c3 => ?_) (fun c3 => ?_)
      · replace hf := (if_pos c3).symm.trans hf
        exact e_X10_visit_b143 hc_X10_visit hck_X10_visit hdx hd1 ih h l0 l1 l2 l3 l4 l6 l7 r hf
      · replace hf := (if_neg c3).symm.trans hf
        refine v_aload dX10_visit_83 rfl ?_
        refine v_iload dX10_visit_85 rfl ?_
        obtain ⟨q4, eq4, hf⟩ := ob hf
        refine v_callV dX10_visit_87 ⟨cb_X0_canTurn, ml_10_76, im_X0_canTurn⟩ se_0_X0_canTurn (ckf_X0_canTurn eq4) (ev_X0_canTurn eq4) (Nat.le_trans (by decide) hdx) (As := [.int l7]) rfl (st := []) rfl (Nat.le_of_ble_eq_true rfl) rfl ?_
        refine v_if_ne dX10_visit_90 (tgt := 96) (by decide) (fun c5 => ?_) (fun c5 => ?_)
        · replace hf := (if_neg c5).symm.trans hf
          refine v_aload dX10_visit_96 rfl ?_
          refine v_aload dX10_visit_98 rfl ?_
          obtain ⟨q6, eq6, hf⟩ := ob hf
          refine v_callV dX10_visit_100 ⟨cb_X0_become, ml_10_61, im_X0_become⟩ se_0_X0_become (ckf_X0_become eq6) (ev_X0_become eq6) (Nat.le_trans (by decide) hdx) (As := [.ref l4]) rfl (st := []) rfl (Nat.le_of_ble_eq_true rfl) rfl ?_
          refine v_iload_n dX10_visit_103 rfl ?_
          refine v_iconst dX10_visit_104 (by decide) (v := 2) ?_
          refine v_iadd dX10_visit_105 ?_
          refine v_aload_n dX10_visit_106 rfl ?_
          obtain ⟨x7, ex7, hf⟩ := ob hf
          refine v_getI dX10_visit_107 fl_10_35 ex7 ?_
          refine v_icmp_ge dX10_visit_110 (tgt := 120) (by decide) (fun c8 => ?_) (fun c8 => ?_)
          · replace hf := (if_pos c8).symm.trans hf
            exact e_X10_visit_b120 hc_X10_visit hck_X10_visit hdx hd1 ih q6 l0 l1 l2 l3 l4 l6 l7 r hf
          · replace hf := (if_neg c8).symm.trans hf
            refine v_aload dX10_visit_113 rfl ?_
            refine v_iload dX10_visit_115 rfl ?_
            obtain ⟨q9, eq9, hf⟩ := ob hf
            refine v_callV dX10_visit_117 ⟨cb_X0_renewWorth, ml_10_80, im_X0_renewWorth⟩ se_0_X0_renewWorth (ckf_X0_renewWorth eq9) (ev_X0_renewWorth eq9) (Nat.le_trans (by decide) hdx) (As := [.int l7]) rfl (st := []) rfl (Nat.le_of_ble_eq_true rfl) rfl ?_
            exact e_X10_visit_b120 hc_X10_visit hck_X10_visit hdx hd1 ih q9 l0 l1 l2 l3 l4 l6 l7 r hf
        · replace hf := (if_pos c5).symm.trans hf
          refine v_goto dX10_visit_93 (tgt := 143) (by decide) ?_
          exact e_X10_visit_b143 hc_X10_visit hck_X10_visit hdx hd1 ih h l0 l1 l2 l3 l4 l6 l7 r hf
def f_X10_visit_b38 (c_X10_visit : xa_H → Nat → Int32 → Int32 → Int32 → Option xa_H) (h : xa_H) (l0 : Nat) (l1 : Int32) (l2 : Int32) (l3 : Int32) (l4 : Nat) (s0 : Int32) : Option xa_H :=
  (gI [10] 6 h l0).bind fun x1 =>
  if x1 ≤ l1 then
    some h
  else
    if s0 = 0 then
      (gR [10] 0 h l0).bind fun x4 =>
      (aR 4 h x4 (l1 + (1 : Int32))).bind fun x5 =>
      f_X10_visit_b67 c_X10_visit 1048576 h l0 l1 l2 l3 l4 x5 (0 : Int32)
    else
      some h
set_option maxRecDepth 20000 in
theorem e_X10_visit_b38 {G : xa_G} {d d1 : Nat} {c_X10_visit : xa_H → Nat → Int32 → Int32 → Int32 → Option xa_H} (hc_X10_visit : ∀ {h : xa_H} {a0 : Nat} {a1 : Int32} {a2 : Int32} {a3 : Int32} {r : xa_H}, c_X10_visit h a0 a1 a2 a3 = some r → xa_Ev G M_X10_visit d1 [.ref a0, .int a1, .int a2, .int a3] h none r) (hck_X10_visit : ∀ {h : xa_H} {a0 : Nat} {a1 : Int32} {a2 : Int32} {a3 : Int32} {r : xa_H}, c_X10_visit h a0 a1 a2 a3 = some r → ck [10] h a0 = some ()) (hdx : 4 ≤ d) (hd1 : d1 + 1 ≤ d) : ∀ (h : xa_H) (l0 : Nat) (l1 : Int32) (l2 : Int32) (l3 : Int32) (l4 : Nat) (s0 : Int32) (r : xa_H), f_X10_visit_b38 c_X10_visit h l0 l1 l2 l3 l4 s0 = some r → xa_V G M_X10_visit d 38 [some (.ref l0), some (.int l1), some (.int l2), some (.int l3), some (.ref l4), none, none, none] [.int s0] h none r := by
  intro h l0 l1 l2 l3 l4 s0 r hf
  unfold f_X10_visit_b38 at hf
  refine v_istore dX10_visit_38 (Nat.le_of_ble_eq_true rfl) (loc' := [some (.ref l0), some (.int l1), some (.int l2), some (.int l3), some (.ref l4), some (.int s0), none, none]) rfl ?_
  refine v_iload_n dX10_visit_40 rfl ?_
  refine v_aload_n dX10_visit_41 rfl ?_
  obtain ⟨x1, ex1, hf⟩ := ob hf
  refine v_getI dX10_visit_42 fl_10_35 ex1 ?_
  refine v_icmp_ge dX10_visit_45 (tgt := 53) (by decide) (fun c2 => ?_) (fun c2 => ?_)
  · replace hf := (if_pos c2).symm.trans hf
    replace hf := Option.some.inj hf
    subst hf
    exact v_vret dX10_visit_53 rfl
  · replace hf := (if_neg c2).symm.trans hf
    refine v_iload dX10_visit_48 rfl ?_
    refine v_if_eq dX10_visit_50 (tgt := 54) (by decide) (fun c3 => ?_) (fun c3 => ?_)
    · replace hf := (if_pos c3).symm.trans hf
      refine v_aload_n dX10_visit_54 rfl ?_
      obtain ⟨x4, ex4, hf⟩ := ob hf
      refine v_getR dX10_visit_55 fl_10_11 ex4 ?_
      refine v_iload_n dX10_visit_58 rfl ?_
      refine v_iconst dX10_visit_59 (by decide) (v := 1) ?_
      refine v_iadd dX10_visit_60 ?_
      obtain ⟨x5, ex5, hf⟩ := ob hf
      refine v_aaload dX10_visit_61 (t := 4) (by decide) ex5 ?_
      refine v_astore dX10_visit_62 (Nat.le_of_ble_eq_true rfl) (loc' := [some (.ref l0), some (.int l1), some (.int l2), some (.int l3), some (.ref l4), some (.int s0), some (.ref x5), none]) rfl ?_
      refine v_iconst dX10_visit_64 (by decide) (v := 0) ?_
      refine v_istore dX10_visit_65 (Nat.le_of_ble_eq_true rfl) (loc' := [some (.ref l0), some (.int l1), some (.int l2), some (.int l3), some (.ref l4), some (.int s0), some (.ref x5), some (.int (0 : Int32))]) rfl ?_
      exact xa_weak (loc := [some (.ref l0), some (.int l1), some (.int l2), some (.int l3), some (.ref l4), none, some (.ref x5), some (.int (0 : Int32))]) ⟨rfl, ⟨rfl, ⟨rfl, ⟨rfl, ⟨rfl, ⟨rfl, ⟨rfl, trivial⟩⟩⟩⟩⟩⟩⟩ (e_X10_visit_b67 hc_X10_visit hck_X10_visit hdx hd1 1048576 h l0 l1 l2 l3 l4 x5 (0 : Int32) r hf)
    · replace hf := (if_neg c3).symm.trans hf
      replace hf := Option.some.inj hf
      subst hf
      exact v_vret dX10_visit_53 rfl
def f_X10_visit_b37 (c_X10_visit : xa_H → Nat → Int32 → Int32 → Int32 → Option xa_H) (h : xa_H) (l0 : Nat) (l1 : Int32) (l2 : Int32) (l3 : Int32) (l4 : Nat) : Option xa_H :=
  f_X10_visit_b38 c_X10_visit h l0 l1 l2 l3 l4 (0 : Int32)
set_option maxRecDepth 20000 in
theorem e_X10_visit_b37 {G : xa_G} {d d1 : Nat} {c_X10_visit : xa_H → Nat → Int32 → Int32 → Int32 → Option xa_H} (hc_X10_visit : ∀ {h : xa_H} {a0 : Nat} {a1 : Int32} {a2 : Int32} {a3 : Int32} {r : xa_H}, c_X10_visit h a0 a1 a2 a3 = some r → xa_Ev G M_X10_visit d1 [.ref a0, .int a1, .int a2, .int a3] h none r) (hck_X10_visit : ∀ {h : xa_H} {a0 : Nat} {a1 : Int32} {a2 : Int32} {a3 : Int32} {r : xa_H}, c_X10_visit h a0 a1 a2 a3 = some r → ck [10] h a0 = some ()) (hdx : 4 ≤ d) (hd1 : d1 + 1 ≤ d) : ∀ (h : xa_H) (l0 : Nat) (l1 : Int32) (l2 : Int32) (l3 : Int32) (l4 : Nat) (r : xa_H), f_X10_visit_b37 c_X10_visit h l0 l1 l2 l3 l4 = some r → xa_V G M_X10_visit d 37 [some (.ref l0), some (.int l1), some (.int l2), some (.int l3), some (.ref l4), none, none, none] [] h none r := by
  intro h l0 l1 l2 l3 l4 r hf
  unfold f_X10_visit_b37 at hf
  refine v_iconst dX10_visit_37 (by decide) (v := 0) ?_
  exact e_X10_visit_b38 hc_X10_visit hck_X10_visit hdx hd1 h l0 l1 l2 l3 l4 (0 : Int32) r hf
def g_X10_visit (c_X10_visit : xa_H → Nat → Int32 → Int32 → Int32 → Option xa_H) (h : xa_H) (l0 : Nat) (l1 : Int32) (l2 : Int32) (l3 : Int32) : Option xa_H :=
  (ck [10] h l0).bind fun _ =>
  (gR [10] 0 h l0).bind fun x1 =>
  (aR 4 h x1 l1).bind fun x2 =>
  (f_X10_weigh h l0 x2 l1 l3).bind fun q3 =>
  (gI [10] 8 q3 l0).bind fun x4 =>
  if x4 = 0 then
    (gI [10] 9 q3 l0).bind fun x6 =>
    if (l1 + (1 : Int32)) < x6 then
      f_X10_visit_b37 c_X10_visit q3 l0 l1 l2 l3 x2
    else
      f_X10_visit_b38 c_X10_visit q3 l0 l1 l2 l3 x2 (1 : Int32)
  else
    f_X10_visit_b37 c_X10_visit q3 l0 l1 l2 l3 x2
set_option maxRecDepth 20000 in
theorem eg_X10_visit {G : xa_G} {d d1 : Nat} {c_X10_visit : xa_H → Nat → Int32 → Int32 → Int32 → Option xa_H} (hc_X10_visit : ∀ {h : xa_H} {a0 : Nat} {a1 : Int32} {a2 : Int32} {a3 : Int32} {r : xa_H}, c_X10_visit h a0 a1 a2 a3 = some r → xa_Ev G M_X10_visit d1 [.ref a0, .int a1, .int a2, .int a3] h none r) (hck_X10_visit : ∀ {h : xa_H} {a0 : Nat} {a1 : Int32} {a2 : Int32} {a3 : Int32} {r : xa_H}, c_X10_visit h a0 a1 a2 a3 = some r → ck [10] h a0 = some ()) (hdx : 4 ≤ d) (hd1 : d1 + 1 ≤ d) {h : xa_H} {l0 : Nat} {l1 : Int32} {l2 : Int32} {l3 : Int32} {r : xa_H} (hf : g_X10_visit c_X10_visit h l0 l1 l2 l3 = some r) : xa_Ev G M_X10_visit d [.ref l0, .int l1, .int l2, .int l3] h none r := by
  refine xa_entry (by decide +kernel) (loc := [some (.ref l0), some (.int l1), some (.int l2), some (.int l3), none, none, none, none]) rfl (Nat.le_of_ble_eq_true rfl) ?_
  unfold g_X10_visit at hf
  obtain ⟨u0, eu0, hf⟩ := ob hf
  refine v_aload_n dX10_visit_0 rfl ?_
  obtain ⟨x1, ex1, hf⟩ := ob hf
  refine v_getR dX10_visit_1 fl_10_11 ex1 ?_
  refine v_iload_n dX10_visit_4 rfl ?_
  obtain ⟨x2, ex2, hf⟩ := ob hf
  refine v_aaload dX10_visit_5 (t := 4) (by decide) ex2 ?_
  refine v_astore dX10_visit_6 (Nat.le_of_ble_eq_true rfl) (loc' := [some (.ref l0), some (.int l1), some (.int l2), some (.int l3), some (.ref x2), none, none, none]) rfl ?_
  refine v_aload_n dX10_visit_8 rfl ?_
  refine v_aload dX10_visit_9 rfl ?_
  refine v_iload_n dX10_visit_11 rfl ?_
  refine v_iload_n dX10_visit_12 rfl ?_
  obtain ⟨q3, eq3, hf⟩ := ob hf
  refine v_callV dX10_visit_13 ⟨cb_X10_weigh, ml_10_69, im_X10_weigh⟩ se_10_X10_weigh (ckf_X10_weigh eq3) (ev_X10_weigh eq3) (Nat.le_trans (by decide) hdx) (As := [.ref x2, .int l1, .int l3]) rfl (st := []) rfl (Nat.le_of_ble_eq_true rfl) rfl ?_
  refine v_aload_n dX10_visit_16 rfl ?_
  obtain ⟨x4, ex4, hf⟩ := ob hf
  refine v_getI dX10_visit_17 fl_10_41 ex4 ?_
  refine v_if_ne dX10_visit_20 (tgt := 37) (by decide) (fun c5 => ?_) (fun c5 => ?_)
  · replace hf := (if_neg c5).symm.trans hf
    exact e_X10_visit_b37 hc_X10_visit hck_X10_visit hdx hd1 q3 l0 l1 l2 l3 x2 r hf
  · replace hf := (if_pos c5).symm.trans hf
    refine v_iload_n dX10_visit_23 rfl ?_
    refine v_iconst dX10_visit_24 (by decide) (v := 1) ?_
    refine v_iadd dX10_visit_25 ?_
    refine v_aload_n dX10_visit_26 rfl ?_
    obtain ⟨x6, ex6, hf⟩ := ob hf
    refine v_getI dX10_visit_27 fl_10_44 ex6 ?_
    refine v_icmp_lt dX10_visit_30 (tgt := 37) (by decide) (fun c7 => ?_) (fun c7 => ?_)
    · replace hf := (if_pos c7).symm.trans hf
      exact e_X10_visit_b37 hc_X10_visit hck_X10_visit hdx hd1 q3 l0 l1 l2 l3 x2 r hf
    · replace hf := (if_neg c7).symm.trans hf
      refine v_iconst dX10_visit_33 (by decide) (v := 1) ?_
      refine v_goto dX10_visit_34 (tgt := 38) (by decide) ?_
      exact e_X10_visit_b38 hc_X10_visit hck_X10_visit hdx hd1 q3 l0 l1 l2 l3 x2 (1 : Int32) r hf
theorem cg_X10_visit {c_X10_visit : xa_H → Nat → Int32 → Int32 → Int32 → Option xa_H} {h : xa_H} {l0 : Nat} {l1 : Int32} {l2 : Int32} {l3 : Int32} {r : xa_H} (hf : g_X10_visit c_X10_visit h l0 l1 l2 l3 = some r) : ck [10] h l0 = some () := by
  obtain ⟨u, e, -⟩ := ob hf
  exact e
def f_X10_visit : Nat → xa_H → Nat → Int32 → Int32 → Int32 → Option xa_H
  | 0, _, _, _, _, _ => none
  | n + 1, h, a0, a1, a2, a3 => g_X10_visit (f_X10_visit n) h a0 a1 a2 a3
theorem ckf_X10_visit {n : Nat} {h : xa_H} {a0 : Nat} {a1 : Int32} {a2 : Int32} {a3 : Int32} {r : xa_H} (hf : f_X10_visit n h a0 a1 a2 a3 = some r) : ck [10] h a0 = some () := by
  cases n with
  | zero => cases (show (none : Option xa_H) = some r from hf)
  | succ n => exact cg_X10_visit (c_X10_visit := (f_X10_visit n)) hf
theorem evg_X10_visit {G : xa_G} : ∀ n : Nat, (∀ {h : xa_H} {a0 : Nat} {a1 : Int32} {a2 : Int32} {a3 : Int32} {r : xa_H}, f_X10_visit n h a0 a1 a2 a3 = some r → xa_Ev G M_X10_visit (4 + n) [.ref a0, .int a1, .int a2, .int a3] h none r) := by
  intro n
  induction n with
  | zero => exact (fun hf => by cases (show (none : Option xa_H) = some _ from hf))
  | succ n ih => exact (fun hf => eg_X10_visit ih ckf_X10_visit (by omega) (by omega) hf)
theorem ev_X10_visit {G : xa_G} {n : Nat} {h : xa_H} {a0 : Nat} {a1 : Int32} {a2 : Int32} {a3 : Int32} {r : xa_H} (hf : f_X10_visit n h a0 a1 a2 a3 = some r) : xa_Ev G M_X10_visit (4 + n) [.ref a0, .int a1, .int a2, .int a3] h none r := (evg_X10_visit n) hf
def M_X10_search : xa_M := (yX10_search, cX10_search, 4, none)
theorem cb_X10_search : xa_CB M_X10_search 3 := ⟨gws_at 1037 (by decide +kernel) rfl, gws_at 120 (by decide +kernel) rfl, by decide +kernel, Nat.le_of_ble_eq_true rfl⟩
def f_X10_search (h : xa_H) (l0 : Nat) (l1 : Nat) (l2 : Int32) (l3 : Int32) : Option xa_H :=
  (ck [10] h l0).bind fun _ =>
  (xp [10] 6 h l0 (.int (imax (0 : Int32) (imin (4 : Int32) l2)))).bind fun h1 =>
  (xp [10] 7 h1 l0 (.int l3)).bind fun h2 =>
  (gI [10] 4 h2 l0).bind fun x3 =>
  (xp [10] 4 h2 l0 (.int (x3 + (1 : Int32)))).bind fun h4 =>
  (xp [10] 5 h4 l0 (.int (0 : Int32))).bind fun h5 =>
  (xp [10] 8 h5 l0 (.int (1000000 : Int32))).bind fun h6 =>
  (xp [10] 9 h6 l0 (.int (0 : Int32))).bind fun h7 =>
  (xp [10] 10 h7 l0 (.int (0 : Int32))).bind fun h8 =>
  (gR [10] 0 h8 l0).bind fun x9 =>
  (aR 4 h8 x9 (0 : Int32)).bind fun x10 =>
  (f_X0_become h8 x10 l1).bind fun q11 =>
  (f_X10_visit 8 q11 l0 (0 : Int32) (-1 : Int32) (0 : Int32)).bind fun q12 =>
  some q12
set_option maxRecDepth 20000 in
theorem ev_X10_search {G : xa_G} {h : xa_H} {l0 : Nat} {l1 : Nat} {l2 : Int32} {l3 : Int32} {r : xa_H} (hf : f_X10_search h l0 l1 l2 l3 = some r) : xa_Ev G M_X10_search 13 [.ref l0, .ref l1, .int l2, .int l3] h none r := by
  refine xa_entry (by decide +kernel) (loc := [some (.ref l0), some (.ref l1), some (.int l2), some (.int l3)]) rfl (Nat.le_of_ble_eq_true rfl) ?_
  unfold f_X10_search at hf
  obtain ⟨u0, eu0, hf⟩ := ob hf
  refine v_aload_n dX10_search_0 rfl ?_
  refine v_iconst dX10_search_1 (by decide) (v := 0) ?_
  refine v_iconst dX10_search_2 (by decide) (v := 4) ?_
  refine v_iload_n dX10_search_3 rfl ?_
  refine w_mmin dX10_search_4 mw_10_51 (by decide) (Nat.le_of_ble_eq_true rfl) ?_
  refine w_mmax dX10_search_7 mw_10_57 (by decide) (Nat.le_of_ble_eq_true rfl) ?_
  obtain ⟨h1, eh1, hf⟩ := ob hf
  refine v_put dX10_search_10 fp_10_35 (fun z => by cases z) (fun _ => rfl) (fun _ => rfl) eh1 ?_
  refine v_aload_n dX10_search_13 rfl ?_
  refine v_iload_n dX10_search_14 rfl ?_
  obtain ⟨h2, eh2, hf⟩ := ob hf
  refine v_put dX10_search_15 fp_10_38 (fun z => by cases z) (fun _ => rfl) (fun _ => rfl) eh2 ?_
  refine v_aload_n dX10_search_18 rfl ?_
  refine v_dup dX10_search_19 rfl ?_
  obtain ⟨x3, ex3, hf⟩ := ob hf
  refine v_getI dX10_search_20 fl_10_28 ex3 ?_
  refine v_iconst dX10_search_23 (by decide) (v := 1) ?_
  refine v_iadd dX10_search_24 ?_
  obtain ⟨h4, eh4, hf⟩ := ob hf
  refine v_put dX10_search_25 fp_10_28 (fun z => by cases z) (fun _ => rfl) (fun _ => rfl) eh4 ?_
  refine v_aload_n dX10_search_28 rfl ?_
  refine v_iconst dX10_search_29 (by decide) (v := 0) ?_
  obtain ⟨h5, eh5, hf⟩ := ob hf
  refine v_put dX10_search_30 fp_10_32 (fun z => by cases z) (fun _ => rfl) (fun _ => rfl) eh5 ?_
  refine v_aload_n dX10_search_33 rfl ?_
  refine v_ldc dX10_search_34 rfl co_10_60 ?_
  obtain ⟨h6, eh6, hf⟩ := ob hf
  refine v_put dX10_search_36 fp_10_41 (fun z => by cases z) (fun _ => rfl) (fun _ => rfl) eh6 ?_
  refine v_aload_n dX10_search_39 rfl ?_
  refine v_iconst dX10_search_40 (by decide) (v := 0) ?_
  obtain ⟨h7, eh7, hf⟩ := ob hf
  refine v_put dX10_search_41 fp_10_44 (fun z => by cases z) (fun _ => rfl) (fun _ => rfl) eh7 ?_
  refine v_aload_n dX10_search_44 rfl ?_
  refine v_iconst dX10_search_45 (by decide) (v := 0) ?_
  obtain ⟨h8, eh8, hf⟩ := ob hf
  refine v_put dX10_search_46 fp_10_47 (fun z => by cases z) (fun _ => rfl) (fun _ => rfl) eh8 ?_
  refine v_aload_n dX10_search_49 rfl ?_
  obtain ⟨x9, ex9, hf⟩ := ob hf
  refine v_getR dX10_search_50 fl_10_11 ex9 ?_
  refine v_iconst dX10_search_53 (by decide) (v := 0) ?_
  obtain ⟨x10, ex10, hf⟩ := ob hf
  refine v_aaload dX10_search_54 (t := 4) (by decide) ex10 ?_
  refine v_aload_n dX10_search_55 rfl ?_
  obtain ⟨q11, eq11, hf⟩ := ob hf
  refine v_callV dX10_search_56 ⟨cb_X0_become, ml_10_61, im_X0_become⟩ se_0_X0_become (ckf_X0_become eq11) (ev_X0_become eq11) (by decide) (As := [.ref l1]) rfl (st := []) rfl (Nat.le_of_ble_eq_true rfl) rfl ?_
  refine v_aload_n dX10_search_59 rfl ?_
  refine v_iconst dX10_search_60 (by decide) (v := 0) ?_
  refine v_iconst dX10_search_61 (by decide) (v := -1) ?_
  refine v_iconst dX10_search_62 (by decide) (v := 0) ?_
  obtain ⟨q12, eq12, hf⟩ := ob hf
  refine v_callV dX10_search_63 ⟨cb_X10_visit, ml_10_65, im_X10_visit⟩ se_10_X10_visit (ckf_X10_visit eq12) (ev_X10_visit eq12) (by decide) (As := [.int (0 : Int32), .int (-1 : Int32), .int (0 : Int32)]) rfl (st := []) rfl (Nat.le_of_ble_eq_true rfl) rfl ?_
  replace hf := Option.some.inj hf
  subst hf
  exact v_vret dX10_search_66 rfl
theorem ckf_X10_search {h : xa_H} {l0 : Nat} {l1 : Nat} {l2 : Int32} {l3 : Int32} {r : xa_H} (hf : f_X10_search h l0 l1 l2 l3 = some r) : ck [10] h l0 = some () := by
  obtain ⟨u, e, -⟩ := ob hf
  exact e
