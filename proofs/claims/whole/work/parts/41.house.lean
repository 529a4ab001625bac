theorem dX11_house_0 : decode cX11_house 0 = .ok (.aload_n 0, 1) := by decide +kernel
theorem dX11_house_1 : decode cX11_house 1 = .ok (.getfield 49, 3) := by decide +kernel
theorem dX11_house_4 : decode cX11_house 4 = .ok (.iload_n 1, 1) := by decide +kernel
theorem dX11_house_5 : decode cX11_house 5 = .ok (.invokevirtual 157, 3) := by decide +kernel
theorem dX11_house_8 : decode cX11_house 8 = .ok (.ifCond .ne 13, 3) := by decide +kernel
theorem dX11_house_11 : decode cX11_house 11 = .ok (.new 161, 3) := by decide +kernel
theorem dX11_house_14 : decode cX11_house 14 = .ok (.dup, 1) := by decide +kernel
theorem dX11_house_15 : decode cX11_house 15 = .ok (.ldc 163, 2) := by decide +kernel
theorem dX11_house_17 : decode cX11_house 17 = .ok (.invokespecial 165, 3) := by decide +kernel
theorem dX11_house_20 : decode cX11_house 20 = .ok (.athrow, 1) := by decide +kernel
theorem dX11_house_21 : decode cX11_house 21 = .ok (.iload_n 2, 1) := by decide +kernel
theorem dX11_house_22 : decode cX11_house 22 = .ok (.tableswitch 113 0 6 #[42, 52, 62, 79, 89, 98, 107], 42) := by decide +kernel
theorem dX11_house_64 : decode cX11_house 64 = .ok (.aload_n 0, 1) := by decide +kernel
theorem dX11_house_65 : decode cX11_house 65 = .ok (.getfield 49, 3) := by decide +kernel
theorem dX11_house_68 : decode cX11_house 68 = .ok (.getfield 168, 3) := by decide +kernel
theorem dX11_house_71 : decode cX11_house 71 = .ok (.iload_n 1, 1) := by decide +kernel
theorem dX11_house_72 : decode cX11_house 72 = .ok (.iaload, 1) := by decide +kernel
theorem dX11_house_73 : decode cX11_house 73 = .ok (.ireturn, 1) := by decide +kernel
theorem dX11_house_74 : decode cX11_house 74 = .ok (.aload_n 0, 1) := by decide +kernel
theorem dX11_house_75 : decode cX11_house 75 = .ok (.getfield 49, 3) := by decide +kernel
theorem dX11_house_78 : decode cX11_house 78 = .ok (.getfield 171, 3) := by decide +kernel
theorem dX11_house_81 : decode cX11_house 81 = .ok (.iload_n 1, 1) := by decide +kernel
theorem dX11_house_82 : decode cX11_house 82 = .ok (.iaload, 1) := by decide +kernel
theorem dX11_house_83 : decode cX11_house 83 = .ok (.ireturn, 1) := by decide +kernel
theorem dX11_house_84 : decode cX11_house 84 = .ok (.aload_n 0, 1) := by decide +kernel
theorem dX11_house_85 : decode cX11_house 85 = .ok (.getfield 49, 3) := by decide +kernel
theorem dX11_house_88 : decode cX11_house 88 = .ok (.iload_n 1, 1) := by decide +kernel
theorem dX11_house_89 : decode cX11_house 89 = .ok (.invokevirtual 174, 3) := by decide +kernel
theorem dX11_house_92 : decode cX11_house 92 = .ok (.ifCond .eq 7, 3) := by decide +kernel
theorem dX11_house_95 : decode cX11_house 95 = .ok (.iconst 1, 1) := by decide +kernel
theorem dX11_house_96 : decode cX11_house 96 = .ok (.goto 4, 3) := by decide +kernel
theorem dX11_house_99 : decode cX11_house 99 = .ok (.iconst 0, 1) := by decide +kernel
theorem dX11_house_100 : decode cX11_house 100 = .ok (.ireturn, 1) := by decide +kernel
theorem dX11_house_101 : decode cX11_house 101 = .ok (.aload_n 0, 1) := by decide +kernel
theorem dX11_house_102 : decode cX11_house 102 = .ok (.getfield 49, 3) := by decide +kernel
theorem dX11_house_105 : decode cX11_house 105 = .ok (.getfield 177, 3) := by decide +kernel
theorem dX11_house_108 : decode cX11_house 108 = .ok (.iload_n 1, 1) := by decide +kernel
theorem dX11_house_109 : decode cX11_house 109 = .ok (.iaload, 1) := by decide +kernel
theorem dX11_house_110 : decode cX11_house 110 = .ok (.ireturn, 1) := by decide +kernel
theorem dX11_house_111 : decode cX11_house 111 = .ok (.aload_n 0, 1) := by decide +kernel
theorem dX11_house_112 : decode cX11_house 112 = .ok (.getfield 49, 3) := by decide +kernel
theorem dX11_house_115 : decode cX11_house 115 = .ok (.iload_n 1, 1) := by decide +kernel
theorem dX11_house_116 : decode cX11_house 116 = .ok (.invokevirtual 180, 3) := by decide +kernel
theorem dX11_house_119 : decode cX11_house 119 = .ok (.ireturn, 1) := by decide +kernel
theorem dX11_house_120 : decode cX11_house 120 = .ok (.aload_n 0, 1) := by decide +kernel
theorem dX11_house_121 : decode cX11_house 121 = .ok (.getfield 49, 3) := by decide +kernel
theorem dX11_house_124 : decode cX11_house 124 = .ok (.iload_n 1, 1) := by decide +kernel
theorem dX11_house_125 : decode cX11_house 125 = .ok (.invokevirtual 183, 3) := by decide +kernel
theorem dX11_house_128 : decode cX11_house 128 = .ok (.ireturn, 1) := by decide +kernel
theorem dX11_house_129 : decode cX11_house 129 = .ok (.aload_n 0, 1) := by decide +kernel
theorem dX11_house_130 : decode cX11_house 130 = .ok (.iload_n 1, 1) := by decide +kernel
theorem dX11_house_131 : decode cX11_house 131 = .ok (.invokevirtual 186, 3) := by decide +kernel
theorem dX11_house_134 : decode cX11_house 134 = .ok (.ireturn, 1) := by decide +kernel
theorem dX11_house_135 : decode cX11_house 135 = .ok (.new 161, 3) := by decide +kernel
theorem dX11_house_138 : decode cX11_house 138 = .ok (.dup, 1) := by decide +kernel
theorem dX11_house_139 : decode cX11_house 139 = .ok (.ldc 189, 2) := by decide +kernel
theorem dX11_house_141 : decode cX11_house 141 = .ok (.invokespecial 165, 3) := by decide +kernel
theorem dX11_house_144 : decode cX11_house 144 = .ok (.athrow, 1) := by decide +kernel

def M_X11_house : xa_M := (yX11_house, cX11_house, 3, some .int)
theorem cb_X11_house : xa_CB M_X11_house 2 := ⟨gws_at 1221 (by decide +kernel) rfl, gws_at 109 (by decide +kernel) rfl, by decide +kernel, Nat.le_of_ble_eq_true rfl⟩
def f_X11_house (h : xa_H) (l0 : Nat) (l1 : Int32) (l2 : Int32) : Option (Int32 × xa_H) :=
  (ck [11] h l0).bind fun _ =>
  (gR [11] 6 h l0).bind fun x1 =>
  (f_X0_has h x1 l1).bind fun q2 =>
  if q2 = 0 then
    none
  else
    if l2 = (0 : Int32) then
      (gR [11] 6 h l0).bind fun x5 =>
      (gR [0] 1 h x5).bind fun x6 =>
      (aI h x6 l1).bind fun x7 =>
      some (x7, h)
    else if l2 = (1 : Int32) then
      (gR [11] 6 h l0).bind fun x9 =>
      (gR [0] 2 h x9).bind fun x10 =>
      (aI h x10 l1).bind fun x11 =>
      some (x11, h)
    else if l2 = (2 : Int32) then
      (gR [11] 6 h l0).bind fun x13 =>
      (f_X0_isKept h x13 l1).bind fun q14 =>
      if q14 = 0 then
        some ((0 : Int32), h)
      else
        some ((1 : Int32), h)
    else if l2 = (3 : Int32) then
      (gR [11] 6 h l0).bind fun x17 =>
      (gR [0] 3 h x17).bind fun x18 =>
      (aI h x18 l1).bind fun x19 =>
      some (x19, h)
    else if l2 = (4 : Int32) then
      (gR [11] 6 h l0).bind fun x21 =>
      (f_X0_incoming h x21 l1).bind fun q22 =>
      some (q22, h)
    else if l2 = (5 : Int32) then
      (gR [11] 6 h l0).bind fun x24 =>
      (f_X0_outgoing h x24 l1).bind fun q25 =>
      some (q25, h)
    else if l2 = (6 : Int32) then
      (f_X11_costOf h l0 l1).bind fun q27 =>
      some (q27.1, q27.2)
    else 
      none
set_option maxRecDepth 20000 in
theorem ev_X11_house {G : xa_G} {h : xa_H} {l0 : Nat} {l1 : Int32} {l2 : Int32} {r : (Int32 × xa_H)} (hf : f_X11_house h l0 l1 l2 = some r) : xa_Ev G M_X11_house 128 [.ref l0, .int l1, .int l2] h (some (.int r.1)) r.2 := by
  refine xa_entry (by decide +kernel) (loc := [some (.ref l0), some (.int l1), some (.int l2)]) rfl (Nat.le_of_ble_eq_true rfl) ?_
  unfold f_X11_house at hf
  obtain ⟨u0, eu0, hf⟩ := ob hf
  refine v_aload_n dX11_house_0 rfl ?_
  obtain ⟨x1, ex1, hf⟩ := ob hf
  refine v_getR dX11_house_1 fl_11_49 ex1 ?_
  refine v_iload_n dX11_house_4 rfl ?_
  obtain ⟨q2, eq2, hf⟩ := ob hf
  refine v_callV dX11_house_5 ⟨cb_X0_has, ml_11_157, im_X0_has⟩ se_0_X0_has (ckf_X0_has eq2) (ev_X0_has eq2) (by decide) (As := [.int l1]) rfl (st := []) rfl (Nat.le_of_ble_eq_true rfl) rfl ?_
  refine v_if_ne dX11_house_8 (tgt := 21) (by decide) (fun c3 => ?_) (fun c3 => ?_)
  · replace hf := (if_neg c3).symm.trans hf
    refine v_iload_n dX11_house_21 rfl ?_
    by_cases c4 : l2 = (0 : Int32)
    · replace hf := (if_pos c4).symm.trans hf
      refine v_tabIn dX11_house_22 (0 : Int32) c4 (by decide) (by decide) (off := 42) rfl (tgt := 64) (by decide) ?_
      refine v_aload_n dX11_house_64 rfl ?_
      obtain ⟨x5, ex5, hf⟩ := ob hf
      refine v_getR dX11_house_65 fl_11_49 ex5 ?_
      obtain ⟨x6, ex6, hf⟩ := ob hf
      refine v_getR dX11_house_68 fl_11_168 ex6 ?_
      refine v_iload_n dX11_house_71 rfl ?_
      obtain ⟨x7, ex7, hf⟩ := ob hf
      refine v_ialoadI dX11_house_72 ex7 ?_
      replace hf := Option.some.inj hf
      subst hf
      exact v_iret dX11_house_73 rfl
    replace hf := (if_neg c4).symm.trans hf
    by_cases c8 : l2 = (1 : Int32)
    · replace hf := (if_pos c8).symm.trans hf
      refine v_tabIn dX11_house_22 (1 : Int32) c8 (by decide) (by decide) (off := 52) rfl (tgt := 74) (by decide) ?_
      refine v_aload_n dX11_house_74 rfl ?_
      obtain ⟨x9, ex9, hf⟩ := ob hf
      refine v_getR dX11_house_75 fl_11_49 ex9 ?_
      obtain ⟨x10, ex10, hf⟩ := ob hf
      refine v_getR dX11_house_78 fl_11_171 ex10 ?_
      refine v_iload_n dX11_house_81 rfl ?_
      obtain ⟨x11, ex11, hf⟩ := ob hf
      refine v_ialoadI dX11_house_82 ex11 ?_
      replace hf := Option.some.inj hf
      subst hf
      exact v_iret dX11_house_83 rfl
    replace hf := (if_neg c8).symm.trans hf
    by_cases c12 : l2 = (2 : Int32)
    · replace hf := (if_pos c12).symm.trans hf
      refine v_tabIn dX11_house_22 (2 : Int32) c12 (by decide) (by decide) (off := 62) rfl (tgt := 84) (by decide) ?_
      refine v_aload_n dX11_house_84 rfl ?_
      obtain ⟨x13, ex13, hf⟩ := ob hf
      refine v_getR dX11_house_85 fl_11_49 ex13 ?_
      refine v_iload_n dX11_house_88 rfl ?_
      obtain ⟨q14, eq14, hf⟩ := ob hf
      refine v_callV dX11_house_89 ⟨cb_X0_isKept, ml_11_174, im_X0_isKept⟩ se_0_X0_isKept (ckf_X0_isKept eq14) (ev_X0_isKept eq14) (by decide) (As := [.int l1]) rfl (st := []) rfl (Nat.le_of_ble_eq_true rfl) rfl ?_
      refine v_if_eq dX11_house_92 (tgt := 99) (by decide) (fun c15 => ?_) (fun c15 => ?_)
      · replace hf := (if_pos c15).symm.trans hf
        refine v_iconst dX11_house_99 (by decide) (v := 0) ?_
        replace hf := Option.some.inj hf
        subst hf
        exact v_iret dX11_house_100 rfl
      · replace hf := (if_neg c15).symm.trans hf
        refine v_iconst dX11_house_95 (by decide) (v := 1) ?_
        refine v_goto dX11_house_96 (tgt := 100) (by decide) ?_
        replace hf := Option.some.inj hf
        subst hf
        exact v_iret dX11_house_100 rfl
    replace hf := (if_neg c12).symm.trans hf
    by_cases c16 : l2 = (3 : Int32)
    · replace hf := (if_pos c16).symm.trans hf
      refine v_tabIn dX11_house_22 (3 : Int32) c16 (by decide) (by decide) (off := 79) rfl (tgt := 101) (by decide) ?_
      refine v_aload_n dX11_house_101 rfl ?_
      obtain ⟨x17, ex17, hf⟩ := ob hf
      refine v_getR dX11_house_102 fl_11_49 ex17 ?_
      obtain ⟨x18, ex18, hf⟩ := ob hf
      refine v_getR dX11_house_105 fl_11_177 ex18 ?_
      refine v_iload_n dX11_house_108 rfl ?_
      obtain ⟨x19, ex19, hf⟩ := ob hf
      refine v_ialoadI dX11_house_109 ex19 ?_
      replace hf := Option.some.inj hf
      subst hf
      exact v_iret dX11_house_110 rfl
    replace hf := (if_neg c16).symm.trans hf
    by_cases c20 : l2 = (4 : Int32)
    · replace hf := (if_pos c20).symm.trans hf
      refine v_tabIn dX11_house_22 (4 : Int32) c20 (by decide) (by decide) (off := 89) rfl (tgt := 111) (by decide) ?_
      refine v_aload_n dX11_house_111 rfl ?_
      obtain ⟨x21, ex21, hf⟩ := ob hf
      refine v_getR dX11_house_112 fl_11_49 ex21 ?_
      refine v_iload_n dX11_house_115 rfl ?_
      obtain ⟨q22, eq22, hf⟩ := ob hf
      refine v_callV dX11_house_116 ⟨cb_X0_incoming, ml_11_180, im_X0_incoming⟩ se_0_X0_incoming (ckf_X0_incoming eq22) (ev_X0_incoming eq22) (by decide) (As := [.int l1]) rfl (st := []) rfl (Nat.le_of_ble_eq_true rfl) rfl ?_
      replace hf := Option.some.inj hf
      subst hf
      exact v_iret dX11_house_119 rfl
    replace hf := (if_neg c20).symm.trans hf
    by_cases c23 : l2 = (5 : Int32)
    · replace hf := (if_pos c23).symm.trans hf
      refine v_tabIn dX11_house_22 (5 : Int32) c23 (by decide) (by decide) (off := 98) rfl (tgt := 120) (by decide) ?_
      refine v_aload_n dX11_house_120 rfl ?_
      obtain ⟨x24, ex24, hf⟩ := ob hf
      refine v_getR dX11_house_121 fl_11_49 ex24 ?_
      refine v_iload_n dX11_house_124 rfl ?_
      obtain ⟨q25, eq25, hf⟩ := ob hf
      refine v_callV dX11_house_125 ⟨cb_X0_outgoing, ml_11_183, im_X0_outgoing⟩ se_0_X0_outgoing (ckf_X0_outgoing eq25) (ev_X0_outgoing eq25) (by decide) (As := [.int l1]) rfl (st := []) rfl (Nat.le_of_ble_eq_true rfl) rfl ?_
      replace hf := Option.some.inj hf
      subst hf
      exact v_iret dX11_house_128 rfl
    replace hf := (if_neg c23).symm.trans hf
    by_cases c26 : l2 = (6 : Int32)
    · replace hf := (if_pos c26).symm.trans hf
      refine v_tabIn dX11_house_22 (6 : Int32) c26 (by decide) (by decide) (off := 107) rfl (tgt := 129) (by decide) ?_
      refine v_aload_n dX11_house_129 rfl ?_
      refine v_iload_n dX11_house_130 rfl ?_
      obtain ⟨q27, eq27, hf⟩ := ob hf
      refine v_callV dX11_house_131 ⟨cb_X11_costOf, ml_11_186, im_X11_costOf⟩ se_11_X11_costOf (ckf_X11_costOf eq27) (ev_X11_costOf eq27) (by decide) (As := [.int l1]) rfl (st := []) rfl (Nat.le_of_ble_eq_true rfl) rfl ?_
      replace hf := Option.some.inj hf
      subst hf
      exact v_iret dX11_house_134 rfl
    replace hf := (if_neg c26).symm.trans hf
    refine v_tabOut dX11_house_22 (by have zc4 := tsx (n := 0) (by decide) c4; have zc8 := tsx (n := 1) (by decide) c8; have zc12 := tsx (n := 2) (by decide) c12; have zc16 := tsx (n := 3) (by decide) c16; have zc20 := tsx (n := 4) (by decide) c20; have zc23 := tsx (n := 5) (by decide) c23; have zc26 := tsx (n := 6) (by decide) c26; omega) (tgt := 135) (by decide) ?_
    cases hf
  · replace hf := (if_pos c3).symm.trans hf
    cases hf
theorem ckf_X11_house {h : xa_H} {l0 : Nat} {l1 : Int32} {l2 : Int32} {r : (Int32 × xa_H)} (hf : f_X11_house h l0 l1 l2 = some r) : ck [11] h l0 = some () := by
  obtain ⟨u, e, -⟩ := ob hf
  exact e
