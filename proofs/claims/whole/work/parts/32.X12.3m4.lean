def M_X12_clears : xa_M := (yX12_clears, cX12_clears, 3, none)
theorem cb_X12_clears : xa_CB M_X12_clears 3 := ⟨gws_at 1755 (by decide +kernel) rfl, gws_at 122 (by decide +kernel) rfl, by decide +kernel, Nat.le_of_ble_eq_true rfl⟩
def f_X12_clears (h : xa_H) (l0 : Nat) (l1 : Int32) (l2 : Int32) : Option xa_H :=
  (pI h l0 (((6 : Int32) * l1) + l2) (0 : Int32)).bind fun h1 =>
  (pI h1 l0 (((6 : Int32) * l2) + l1) (0 : Int32)).bind fun h2 =>
  some h2
set_option maxRecDepth 20000 in
theorem ev_X12_clears {G : xa_G} {h : xa_H} {l0 : Nat} {l1 : Int32} {l2 : Int32} {r : xa_H} (hf : f_X12_clears h l0 l1 l2 = some r) : xa_Ev G M_X12_clears 0 [.ref l0, .int l1, .int l2] h none r := by
  refine xa_entry (by decide +kernel) (loc := [some (.ref l0), some (.int l1), some (.int l2)]) rfl (Nat.le_of_ble_eq_true rfl) ?_
  unfold f_X12_clears at hf
  refine v_aload_n dX12_clears_0 rfl ?_
  refine v_bipush dX12_clears_1 (by decide) (v := 6) ?_
  refine v_iload_n dX12_clears_3 rfl ?_
  refine v_imul dX12_clears_4 ?_
  refine v_iload_n dX12_clears_5 rfl ?_
  refine v_iadd dX12_clears_6 ?_
  refine v_iconst dX12_clears_7 (by decide) (v := 0) ?_
  obtain ⟨h1, eh1, hf⟩ := ob hf
  refine v_iastoreI dX12_clears_8 eh1 ?_
  refine v_aload_n dX12_clears_9 rfl ?_
  refine v_bipush dX12_clears_10 (by decide) (v := 6) ?_
  refine v_iload_n dX12_clears_12 rfl ?_
  refine v_imul dX12_clears_13 ?_
  refine v_iload_n dX12_clears_14 rfl ?_
  refine v_iadd dX12_clears_15 ?_
  refine v_iconst dX12_clears_16 (by decide) (v := 0) ?_
  obtain ⟨h2, eh2, hf⟩ := ob hf
  refine v_iastoreI dX12_clears_17 eh2 ?_
  replace hf := Option.some.inj hf
  subst hf
  exact v_vret dX12_clears_18 rfl
def M_X12_starts : xa_M := (yX12_starts, cX12_starts, 4, none)
theorem cb_X12_starts : xa_CB M_X12_starts 3 := ⟨gws_at 1503 (by decide +kernel) rfl, gws_at 122 (by decide +kernel) rfl, by decide +kernel, Nat.le_of_ble_eq_true rfl⟩
def f_X12_starts (h : xa_H) (l0 : Nat) (l1 : Nat) (l2 : Int32) (l3 : Int32) : Option xa_H :=
  (ck [12] h l0).bind fun _ =>
  (xp [12] 5 h l0 (.ref l1)).bind fun h1 =>
  (xp [12] 8 h1 l0 (.int l2)).bind fun h2 =>
  (xp [12] 9 h2 l0 (.int l3)).bind fun h3 =>
  (xp [12] 10 h3 l0 (.int (0 : Int32))).bind fun h4 =>
  (xp [12] 11 h4 l0 (.int (-1 : Int32))).bind fun h5 =>
  some h5
set_option maxRecDepth 20000 in
theorem ev_X12_starts {G : xa_G} {h : xa_H} {l0 : Nat} {l1 : Nat} {l2 : Int32} {l3 : Int32} {r : xa_H} (hf : f_X12_starts h l0 l1 l2 l3 = some r) : xa_Ev G M_X12_starts 0 [.ref l0, .ref l1, .int l2, .int l3] h none r := by
  refine xa_entry (by decide +kernel) (loc := [some (.ref l0), some (.ref l1), some (.int l2), some (.int l3)]) rfl (Nat.le_of_ble_eq_true rfl) ?_
  unfold f_X12_starts at hf
  obtain ⟨u0, eu0, hf⟩ := ob hf
  refine v_aload_n dX12_starts_0 rfl ?_
  refine v_aload_n dX12_starts_1 rfl ?_
  obtain ⟨h1, eh1, hf⟩ := ob hf
  refine v_put dX12_starts_2 fp_12_23 (fun z => by cases z) (fun _ => rfl) (fun _ => rfl) eh1 ?_
  refine v_aload_n dX12_starts_5 rfl ?_
  refine v_iload_n dX12_starts_6 rfl ?_
  obtain ⟨h2, eh2, hf⟩ := ob hf
  refine v_put dX12_starts_7 fp_12_140 (fun z => by cases z) (fun _ => rfl) (fun _ => rfl) eh2 ?_
  refine v_aload_n dX12_starts_10 rfl ?_
  refine v_iload_n dX12_starts_11 rfl ?_
  obtain ⟨h3, eh3, hf⟩ := ob hf
  refine v_put dX12_starts_12 fp_12_137 (fun z => by cases z) (fun _ => rfl) (fun _ => rfl) eh3 ?_
  refine v_aload_n dX12_starts_15 rfl ?_
  refine v_iconst dX12_starts_16 (by decide) (v := 0) ?_
  obtain ⟨h4, eh4, hf⟩ := ob hf
  refine v_put dX12_starts_17 fp_12_134 (fun z => by cases z) (fun _ => rfl) (fun _ => rfl) eh4 ?_
  refine v_aload_n dX12_starts_20 rfl ?_
  refine v_iconst dX12_starts_21 (by decide) (v := -1) ?_
  obtain ⟨h5, eh5, hf⟩ := ob hf
  refine v_put dX12_starts_22 fp_12_143 (fun z => by cases z) (fun _ => rfl) (fun _ => rfl) eh5 ?_
  replace hf := Option.some.inj hf
  subst hf
  exact v_vret dX12_starts_25 rfl
theorem ckf_X12_starts {h : xa_H} {l0 : Nat} {l1 : Nat} {l2 : Int32} {l3 : Int32} {r : xa_H} (hf : f_X12_starts h l0 l1 l2 l3 = some r) : ck [12] h l0 = some () := by
  obtain ⟨u, e, -⟩ := ob hf
  exact e
def M_X12_goThrough : xa_M := (yX12_goThrough, cX12_goThrough, 4, none)
theorem cb_X12_goThrough : xa_CB M_X12_goThrough 3 := ⟨gws_at 1564 (by decide +kernel) rfl, gws_at 122 (by decide +kernel) rfl, by decide +kernel, Nat.le_of_ble_eq_true rfl⟩
def f_X12_goThrough_b66 (h : xa_H) (l0 : Nat) : Option xa_H :=
  (gI [12] 11 h l0).bind fun x1 =>
  if x1 = (-1 : Int32) then
    (f_X12_look h l0).bind fun q3 =>
    if q3.1 = (-1 : Int32) then
      some q3.2
    else
      (f_X12_fails q3.2 l0).bind fun q5 =>
      some q5.2
  else
    some h
set_option maxRecDepth 20000 in
theorem e_X12_goThrough_b66 {G : xa_G} : ∀ (h : xa_H) (l0 : Nat) (r : xa_H), f_X12_goThrough_b66 h l0 = some r → xa_V G M_X12_goThrough 189 66 [some (.ref l0), none, none, none] [] h none r := by
  intro h l0 r hf
  unfold f_X12_goThrough_b66 at hf
  refine v_aload_n dX12_goThrough_66 rfl ?_
  obtain ⟨x1, ex1, hf⟩ := ob hf
  refine v_getI dX12_goThrough_67 fl_12_143 ex1 ?_
  refine v_iconst dX12_goThrough_70 (by decide) (v := -1) ?_
  refine v_icmp_ne dX12_goThrough_71 (tgt := 87) (by decide) (fun c2 => ?_) (fun c2 => ?_)
  · replace hf := (if_neg c2).symm.trans hf
    replace hf := Option.some.inj hf
    subst hf
    exact v_vret dX12_goThrough_87 rfl
  · replace hf := (if_pos c2).symm.trans hf
    refine v_aload_n dX12_goThrough_74 rfl ?_
    obtain ⟨q3, eq3, hf⟩ := ob hf
    refine v_callV dX12_goThrough_75 ⟨cb_X12_look, ml_12_153, im_X12_look⟩ se_12_X12_look (ckf_X12_look eq3) (ev_X12_look eq3) (by decide) (As := []) rfl (st := []) rfl (Nat.le_of_ble_eq_true rfl) rfl ?_
    refine v_iconst dX12_goThrough_78 (by decide) (v := -1) ?_
    refine v_icmp_eq dX12_goThrough_79 (tgt := 87) (by decide) (fun c4 => ?_) (fun c4 => ?_)
    · replace hf := (if_pos c4).symm.trans hf
      replace hf := Option.some.inj hf
      subst hf
      exact v_vret dX12_goThrough_87 rfl
    · replace hf := (if_neg c4).symm.trans hf
      refine v_aload_n dX12_goThrough_82 rfl ?_
      obtain ⟨q5, eq5, hf⟩ := ob hf
      refine v_callV dX12_goThrough_83 ⟨cb_X12_fails, ml_12_149, im_X12_fails⟩ se_12_X12_fails (ckf_X12_fails eq5) (ev_X12_fails eq5) (by decide) (As := []) rfl (st := []) rfl (Nat.le_of_ble_eq_true rfl) rfl ?_
      refine v_pop dX12_goThrough_86 rfl ?_
      replace hf := Option.some.inj hf
      subst hf
      exact v_vret dX12_goThrough_87 rfl
def f_X12_goThrough_b32 : Nat → xa_H → Nat → Option xa_H
  | 0, _, _ => none
  | n + 1, h, l0 =>
    (gI [12] 11 h l0).bind fun x1 =>
    if x1 = (-1 : Int32) then
      (f_X12_look h l0).bind fun q3 =>
      if q3.1 = (59 : Int32) then
        (gI [12] 10 q3.2 l0).bind fun x5 =>
        (xp [12] 10 q3.2 l0 (.int (x5 + (1 : Int32)))).bind fun h6 =>
        (f_X12_clause h6 l0).bind fun q7 =>
        f_X12_goThrough_b32 n q7 l0
      else
        f_X12_goThrough_b66 q3.2 l0
    else
      f_X12_goThrough_b66 h l0
set_option maxRecDepth 20000 in
theorem e_X12_goThrough_b32 {G : xa_G} : ∀ (n : Nat) (h : xa_H) (l0 : Nat) (r : xa_H), f_X12_goThrough_b32 n h l0 = some r → xa_V G M_X12_goThrough 189 32 [some (.ref l0), none, none, none] [] h none r := by
  intro n
  induction n with
  | zero =>
    intro h l0 r hf
    cases (show (none : Option xa_H) = some r from hf)
  | succ n ih =>
    intro h l0 r hf
    rw [f_X12_goThrough_b32] at hf
    refine v_aload_n dX12_goThrough_32 rfl ?_
    obtain ⟨x1, ex1, hf⟩ := ob hf
    refine v_getI dX12_goThrough_33 fl_12_143 ex1 ?_
    refine v_iconst dX12_goThrough_36 (by decide) (v := -1) ?_
    refine v_icmp_ne dX12_goThrough_37 (tgt := 66) (by decide) (fun c2 => ?_) (fun c2 => ?_)
    · replace hf := (if_neg c2).symm.trans hf
      exact e_X12_goThrough_b66 h l0 r hf
    · replace hf := (if_pos c2).symm.trans hf
      refine v_aload_n dX12_goThrough_40 rfl ?_
      obtain ⟨q3, eq3, hf⟩ := ob hf
      refine v_callV dX12_goThrough_41 ⟨cb_X12_look, ml_12_153, im_X12_look⟩ se_12_X12_look (ckf_X12_look eq3) (ev_X12_look eq3) (by decide) (As := []) rfl (st := []) rfl (Nat.le_of_ble_eq_true rfl) rfl ?_
      refine v_bipush dX12_goThrough_44 (by decide) (v := 59) ?_
      refine v_icmp_ne dX12_goThrough_46 (tgt := 66) (by decide) (fun c4 => ?_) (fun c4 => ?_)
      · replace hf := (if_neg c4).symm.trans hf
        exact e_X12_goThrough_b66 q3.2 l0 r hf
      · replace hf := (if_pos c4).symm.trans hf
        refine v_aload_n dX12_goThrough_49 rfl ?_
        refine v_dup dX12_goThrough_50 rfl ?_
        obtain ⟨x5, ex5, hf⟩ := ob hf
        refine v_getI dX12_goThrough_51 fl_12_134 ex5 ?_
        refine v_iconst dX12_goThrough_54 (by decide) (v := 1) ?_
        refine v_iadd dX12_goThrough_55 ?_
        obtain ⟨h6, eh6, hf⟩ := ob hf
        refine v_put dX12_goThrough_56 fp_12_134 (fun z => by cases z) (fun _ => rfl) (fun _ => rfl) eh6 ?_
        refine v_aload_n dX12_goThrough_59 rfl ?_
        obtain ⟨q7, eq7, hf⟩ := ob hf
        refine v_callV dX12_goThrough_60 ⟨cb_X12_clause, ml_12_226, im_X12_clause⟩ se_12_X12_clause (ckf_X12_clause eq7) (ev_X12_clause eq7) (by decide) (As := []) rfl (st := []) rfl (Nat.le_of_ble_eq_true rfl) rfl ?_
        refine v_goto dX12_goThrough_63 (tgt := 32) (by decide) ?_
        exact ih q7 l0 r hf
def f_X12_goThrough (h : xa_H) (l0 : Nat) (l1 : Nat) (l2 : Int32) (l3 : Int32) : Option xa_H :=
  (ck [12] h l0).bind fun _ =>
  (f_X12_starts h l0 l1 l2 l3).bind fun q1 =>
  (xp [12] 13 q1 l0 (.int (121 : Int32))).bind fun h2 =>
  (xp [12] 12 h2 l0 (.int (0 : Int32))).bind fun h3 =>
  (xp [12] 17 h3 l0 (.int (0 : Int32))).bind fun h4 =>
  (xp [12] 14 h4 l0 (.int (0 : Int32))).bind fun h5 =>
  (f_X12_clause h5 l0).bind fun q6 =>
  f_X12_goThrough_b32 1048576 q6 l0
set_option maxRecDepth 20000 in
theorem ev_X12_goThrough {G : xa_G} {h : xa_H} {l0 : Nat} {l1 : Nat} {l2 : Int32} {l3 : Int32} {r : xa_H} (hf : f_X12_goThrough h l0 l1 l2 l3 = some r) : xa_Ev G M_X12_goThrough 189 [.ref l0, .ref l1, .int l2, .int l3] h none r := by
  refine xa_entry (by decide +kernel) (loc := [some (.ref l0), some (.ref l1), some (.int l2), some (.int l3)]) rfl (Nat.le_of_ble_eq_true rfl) ?_
  unfold f_X12_goThrough at hf
  obtain ⟨u0, eu0, hf⟩ := ob hf
  refine v_aload_n dX12_goThrough_0 rfl ?_
  refine v_aload_n dX12_goThrough_1 rfl ?_
  refine v_iload_n dX12_goThrough_2 rfl ?_
  refine v_iload_n dX12_goThrough_3 rfl ?_
  obtain ⟨q1, eq1, hf⟩ := ob hf
  refine v_callV dX12_goThrough_4 ⟨cb_X12_starts, ml_12_222, im_X12_starts⟩ se_12_X12_starts (ckf_X12_starts eq1) (ev_X12_starts eq1) (by decide) (As := [.ref l1, .int l2, .int l3]) rfl (st := []) rfl (Nat.le_of_ble_eq_true rfl) rfl ?_
  refine v_aload_n dX12_goThrough_7 rfl ?_
  refine v_bipush dX12_goThrough_8 (by decide) (v := 121) ?_
  obtain ⟨h2, eh2, hf⟩ := ob hf
  refine v_put dX12_goThrough_10 fp_12_216 (fun z => by cases z) (fun _ => rfl) (fun _ => rfl) eh2 ?_
  refine v_aload_n dX12_goThrough_13 rfl ?_
  refine v_iconst dX12_goThrough_14 (by decide) (v := 0) ?_
  obtain ⟨h3, eh3, hf⟩ := ob hf
  refine v_put dX12_goThrough_15 fp_12_146 (fun z => by cases z) (fun _ => rfl) (fun _ => rfl) eh3 ?_
  refine v_aload_n dX12_goThrough_18 rfl ?_
  refine v_iconst dX12_goThrough_19 (by decide) (v := 0) ?_
  obtain ⟨h4, eh4, hf⟩ := ob hf
  refine v_put dX12_goThrough_20 fp_12_212 (fun z => by cases z) (fun _ => rfl) (fun _ => rfl) eh4 ?_
  refine v_aload_n dX12_goThrough_23 rfl ?_
  refine v_iconst dX12_goThrough_24 (by decide) (v := 0) ?_
  obtain ⟨h5, eh5, hf⟩ := ob hf
  refine v_put dX12_goThrough_25 fp_12_219 (fun z => by cases z) (fun _ => rfl) (fun _ => rfl) eh5 ?_
  refine v_aload_n dX12_goThrough_28 rfl ?_
  obtain ⟨q6, eq6, hf⟩ := ob hf
  refine v_callV dX12_goThrough_29 ⟨cb_X12_clause, ml_12_226, im_X12_clause⟩ se_12_X12_clause (ckf_X12_clause eq6) (ev_X12_clause eq6) (by decide) (As := []) rfl (st := []) rfl (Nat.le_of_ble_eq_true rfl) rfl ?_
  exact xa_weak (loc := [some (.ref l0), none, none, none]) ⟨rfl, trivial⟩ (e_X12_goThrough_b32 1048576 q6 l0 r hf)
theorem ckf_X12_goThrough {h : xa_H} {l0 : Nat} {l1 : Nat} {l2 : Int32} {l3 : Int32} {r : xa_H} (hf : f_X12_goThrough h l0 l1 l2 l3 = some r) : ck [12] h l0 = some () := by
  obtain ⟨u, e, -⟩ := ob hf
  exact e
def M_X12_cost : xa_M := (yX12_cost, cX12_cost, 2, some .int)
theorem cb_X12_cost : xa_CB M_X12_cost 1 := ⟨gws_at 1652 (by decide +kernel) rfl, gws_at 122 (by decide +kernel) rfl, by decide +kernel, Nat.le_of_ble_eq_true rfl⟩
def f_X12_cost (h : xa_H) (l0 : Nat) (l1 : Int32) : Option (Int32 × xa_H) :=
  (ck [12] h l0).bind fun _ =>
  (gI [12] 35 h l0).bind fun x1 =>
  if x1 = (-1 : Int32) then
    some ((1 : Int32), h)
  else
    (gR [12] 4 h l0).bind fun x3 =>
    (gR [12] 32 h l0).bind fun x4 =>
    (f_X12_in h l0 x4 l1).bind fun q5 =>
    (pI h x3 (105 : Int32) q5).bind fun h6 =>
    (gR [12] 4 h6 l0).bind fun x7 =>
    (gR [12] 32 h6 l0).bind fun x8 =>
    (f_X12_out h6 l0 x8 l1).bind fun q9 =>
    (pI h6 x7 (111 : Int32) q9).bind fun h10 =>
    (gR [12] 4 h10 l0).bind fun x11 =>
    (gR [12] 20 h10 l0).bind fun x12 =>
    (aI h10 x12 (((3 : Int32) * l1) + (1 : Int32))).bind fun x13 =>
    (pI h10 x11 (116 : Int32) x13).bind fun h14 =>
    (gR [12] 4 h14 l0).bind fun x15 =>
    (gR [12] 32 h14 l0).bind fun x16 =>
    (aI h14 x16 ((42 : Int32) + l1)).bind fun x17 =>
    (pI h14 x15 (110 : Int32) (irem x17 (100 : Int32))).bind fun h18 =>
    (gR [12] 4 h18 l0).bind fun x19 =>
    (gR [12] 32 h18 l0).bind fun x20 =>
    (aI h18 x20 ((36 : Int32) + l1)).bind fun x21 =>
    (pI h18 x19 (119 : Int32) (irem x21 (100 : Int32))).bind fun h22 =>
    (gR [12] 4 h22 l0).bind fun x23 =>
    (gR [12] 32 h22 l0).bind fun x24 =>
    (aI h22 x24 (50 : Int32)).bind fun x25 =>
    (pI h22 x23 (100 : Int32) (irem x25 (100 : Int32))).bind fun h26 =>
    (gR [12] 2 h26 l0).bind fun x27 =>
    (gI [12] 35 h26 l0).bind fun x28 =>
    (gR [12] 3 h26 l0).bind fun x29 =>
    (gI [12] 35 h26 l0).bind fun x30 =>
    (aI h26 x29 x30).bind fun x31 =>
    (f_X12_goThrough h26 l0 x27 ((240 : Int32) * x28) x31).bind fun q32 =>
    (gI [12] 14 q32 l0).bind fun x33 =>
    some ((imax (0 : Int32) (imin (9 : Int32) x33)), q32)
set_option maxRecDepth 20000 in
theorem ev_X12_cost {G : xa_G} {h : xa_H} {l0 : Nat} {l1 : Int32} {r : (Int32 × xa_H)} (hf : f_X12_cost h l0 l1 = some r) : xa_Ev G M_X12_cost 190 [.ref l0, .int l1] h (some (.int r.1)) r.2 := by
  refine xa_entry (by decide +kernel) (loc := [some (.ref l0), some (.int l1)]) rfl (Nat.le_of_ble_eq_true rfl) ?_
  unfold f_X12_cost at hf
  obtain ⟨u0, eu0, hf⟩ := ob hf
  refine v_aload_n dX12_cost_0 rfl ?_
  obtain ⟨x1, ex1, hf⟩ := ob hf
  refine v_getI dX12_cost_1 fl_12_70 ex1 ?_
  refine v_iconst dX12_cost_4 (by decide) (v := -1) ?_
  refine v_icmp_ne dX12_cost_5 (tgt := 10) (by decide) (fun c2 => ?_) (fun c2 => ?_)
  · replace hf := (if_neg c2).symm.trans hf
    refine v_aload_n dX12_cost_10 rfl ?_
    obtain ⟨x3, ex3, hf⟩ := ob hf
    refine v_getR dX12_cost_11 fl_12_20 ex3 ?_
    refine v_bipush dX12_cost_14 (by decide) (v := 105) ?_
    refine v_aload_n dX12_cost_16 rfl ?_
    refine v_aload_n dX12_cost_17 rfl ?_
    obtain ⟨x4, ex4, hf⟩ := ob hf
    refine v_getR dX12_cost_18 fl_12_61 ex4 ?_
    refine v_iload_n dX12_cost_21 rfl ?_
    obtain ⟨q5, eq5, hf⟩ := ob hf
    refine v_callV dX12_cost_22 ⟨cb_X12_in, ml_12_370, im_X12_in⟩ se_12_X12_in (ckf_X12_in eq5) (ev_X12_in eq5) (by decide) (As := [.ref x4, .int l1]) rfl (st := [.int (105 : Int32), .ref x3]) rfl (Nat.le_of_ble_eq_true rfl) rfl ?_
    obtain ⟨h6, eh6, hf⟩ := ob hf
    refine v_iastoreI dX12_cost_25 eh6 ?_
    refine v_aload_n dX12_cost_26 rfl ?_
    obtain ⟨x7, ex7, hf⟩ := ob hf
    refine v_getR dX12_cost_27 fl_12_20 ex7 ?_
    refine v_bipush dX12_cost_30 (by decide) (v := 111) ?_
    refine v_aload_n dX12_cost_32 rfl ?_
    refine v_aload_n dX12_cost_33 rfl ?_
    obtain ⟨x8, ex8, hf⟩ := ob hf
    refine v_getR dX12_cost_34 fl_12_61 ex8 ?_
    refine v_iload_n dX12_cost_37 rfl ?_
    obtain ⟨q9, eq9, hf⟩ := ob hf
    refine v_callV dX12_cost_38 ⟨cb_X12_out, ml_12_353, im_X12_out⟩ se_12_X12_out (ckf_X12_out eq9) (ev_X12_out eq9) (by decide) (As := [.ref x8, .int l1]) rfl (st := [.int (111 : Int32), .ref x7]) rfl (Nat.le_of_ble_eq_true rfl) rfl ?_
    obtain ⟨h10, eh10, hf⟩ := ob hf
    refine v_iastoreI dX12_cost_41 eh10 ?_
    refine v_aload_n dX12_cost_42 rfl ?_
    obtain ⟨x11, ex11, hf⟩ := ob hf
    refine v_getR dX12_cost_43 fl_12_20 ex11 ?_
    refine v_bipush dX12_cost_46 (by decide) (v := 116) ?_
    refine v_aload_n dX12_cost_48 rfl ?_
    obtain ⟨x12, ex12, hf⟩ := ob hf
    refine v_getR dX12_cost_49 fl_12_43 ex12 ?_
    refine v_iconst dX12_cost_52 (by decide) (v := 3) ?_
    refine v_iload_n dX12_cost_53 rfl ?_
    refine v_imul dX12_cost_54 ?_
    refine v_iconst dX12_cost_55 (by decide) (v := 1) ?_
    refine v_iadd dX12_cost_56 ?_
    obtain ⟨x13, ex13, hf⟩ := ob hf
    refine v_ialoadI dX12_cost_57 ex13 ?_
    obtain ⟨h14, eh14, hf⟩ := ob hf
    refine v_iastoreI dX12_cost_58 eh14 ?_
    refine v_aload_n dX12_cost_59 rfl ?_
    obtain ⟨x15, ex15, hf⟩ := ob hf
    refine v_getR dX12_cost_60 fl_12_20 ex15 ?_
    refine v_bipush dX12_cost_63 (by decide) (v := 110) ?_
    refine v_aload_n dX12_cost_65 rfl ?_
    obtain ⟨x16, ex16, hf⟩ := ob hf
    refine v_getR dX12_cost_66 fl_12_61 ex16 ?_
    refine v_bipush dX12_cost_69 (by decide) (v := 42) ?_
    refine v_iload_n dX12_cost_71 rfl ?_
    refine v_iadd dX12_cost_72 ?_
    obtain ⟨x17, ex17, hf⟩ := ob hf
    refine v_ialoadI dX12_cost_73 ex17 ?_
    refine v_bipush dX12_cost_74 (by decide) (v := 100) ?_
    refine w_irem dX12_cost_76 (by decide) ?_
    obtain ⟨h18, eh18, hf⟩ := ob hf
    refine v_iastoreI dX12_cost_77 eh18 ?_
    refine v_aload_n dX12_cost_78 rfl ?_
    obtain ⟨x19, ex19, hf⟩ := ob hf
    refine v_getR dX12_cost_79 fl_12_20 ex19 ?_
    refine v_bipush dX12_cost_82 (by decide) (v := 119) ?_
    refine v_aload_n dX12_cost_84 rfl ?_
    obtain ⟨x20, ex20, hf⟩ := ob hf
    refine v_getR dX12_cost_85 fl_12_61 ex20 ?_
    refine v_bipush dX12_cost_88 (by decide) (v := 36) ?_
    refine v_iload_n dX12_cost_90 rfl ?_
    refine v_iadd dX12_cost_91 ?_
    obtain ⟨x21, ex21, hf⟩ := ob hf
    refine v_ialoadI dX12_cost_92 ex21 ?_
    refine v_bipush dX12_cost_93 (by decide) (v := 100) ?_
    refine w_irem dX12_cost_95 (by decide) ?_
    obtain ⟨h22, eh22, hf⟩ := ob hf
    refine v_iastoreI dX12_cost_96 eh22 ?_
    refine v_aload_n dX12_cost_97 rfl ?_
    obtain ⟨x23, ex23, hf⟩ := ob hf
    refine v_getR dX12_cost_98 fl_12_20 ex23 ?_
    refine v_bipush dX12_cost_101 (by decide) (v := 100) ?_
    refine v_aload_n dX12_cost_103 rfl ?_
    obtain ⟨x24, ex24, hf⟩ := ob hf
    refine v_getR dX12_cost_104 fl_12_61 ex24 ?_
    refine v_bipush dX12_cost_107 (by decide) (v := 50) ?_
    obtain ⟨x25, ex25, hf⟩ := ob hf
    refine v_ialoadI dX12_cost_109 ex25 ?_
    refine v_bipush dX12_cost_110 (by decide) (v := 100) ?_
    refine w_irem dX12_cost_112 (by decide) ?_
    obtain ⟨h26, eh26, hf⟩ := ob hf
    refine v_iastoreI dX12_cost_113 eh26 ?_
    refine v_aload_n dX12_cost_114 rfl ?_
    refine v_aload_n dX12_cost_115 rfl ?_
    obtain ⟨x27, ex27, hf⟩ := ob hf
    refine v_getR dX12_cost_116 fl_12_13 ex27 ?_
    refine v_sipush dX12_cost_119 (by decide) (v := 240) ?_
    refine v_aload_n dX12_cost_122 rfl ?_
    obtain ⟨x28, ex28, hf⟩ := ob hf
    refine v_getI dX12_cost_123 fl_12_70 ex28 ?_
    refine v_imul dX12_cost_126 ?_
    refine v_aload_n dX12_cost_127 rfl ?_
    obtain ⟨x29, ex29, hf⟩ := ob hf
    refine v_getR dX12_cost_128 fl_12_16 ex29 ?_
    refine v_aload_n dX12_cost_131 rfl ?_
    obtain ⟨x30, ex30, hf⟩ := ob hf
    refine v_getI dX12_cost_132 fl_12_70 ex30 ?_
    obtain ⟨x31, ex31, hf⟩ := ob hf
    refine v_ialoadI dX12_cost_135 ex31 ?_
    obtain ⟨q32, eq32, hf⟩ := ob hf
    refine v_callV dX12_cost_136 ⟨cb_X12_goThrough, ml_12_293, im_X12_goThrough⟩ se_12_X12_goThrough (ckf_X12_goThrough eq32) (ev_X12_goThrough eq32) (by decide) (As := [.ref x27, .int ((240 : Int32) * x28), .int x31]) rfl (st := []) rfl (Nat.le_of_ble_eq_true rfl) rfl ?_
    refine v_iconst dX12_cost_139 (by decide) (v := 0) ?_
    refine v_bipush dX12_cost_140 (by decide) (v := 9) ?_
    refine v_aload_n dX12_cost_142 rfl ?_
    obtain ⟨x33, ex33, hf⟩ := ob hf
    refine v_getI dX12_cost_143 fl_12_219 ex33 ?_
    refine w_mmin dX12_cost_146 mw_12_373 (by decide) (Nat.le_of_ble_eq_true rfl) ?_
    refine w_mmax dX12_cost_149 mw_12_326 (by decide) (Nat.le_of_ble_eq_true rfl) ?_
    replace hf := Option.some.inj hf
    subst hf
    exact v_iret dX12_cost_152 rfl
  · replace hf := (if_pos c2).symm.trans hf
    refine v_iconst dX12_cost_8 (by decide) (v := 1) ?_
    replace hf := Option.some.inj hf
    subst hf
    exact v_iret dX12_cost_9 rfl
theorem ckf_X12_cost {h : xa_H} {l0 : Nat} {l1 : Int32} {r : (Int32 × xa_H)} (hf : f_X12_cost h l0 l1 = some r) : ck [12] h l0 = some () := by
  obtain ⟨u, e, -⟩ := ob hf
  exact e
def M_X12_count : xa_M := (yX12_count, cX12_count, 2, some .int)
theorem cb_X12_count : xa_CB M_X12_count 1 := ⟨gws_at 1962 (by decide +kernel) rfl, gws_at 122 (by decide +kernel) rfl, by decide +kernel, Nat.le_of_ble_eq_true rfl⟩
def f_X12_count (h : xa_H) (l0 : Nat) (l1 : Int32) : Option (Int32 × xa_H) :=
  (ck [12] h l0).bind fun _ =>
  (xp [12] 0 h l0 (.int (0 : Int32))).bind fun h1 =>
  if l1 = (0 : Int32) then
    (gI [12] 26 h1 l0).bind fun x3 =>
    some (x3, h1)
  else if l1 = (1 : Int32) then
    (gR [12] 18 h1 l0).bind fun x5 =>
    (aI h1 x5 (1 : Int32)).bind fun x6 =>
    some (x6, h1)
  else if l1 = (2 : Int32) then
    (gI [12] 7 h1 l0).bind fun x8 =>
    some (x8, h1)
  else if l1 = (3 : Int32) then
    (gI [12] 30 h1 l0).bind fun x10 =>
    some (x10, h1)
  else if l1 = (4 : Int32) then
    (gI [12] 6 h1 l0).bind fun x12 =>
    some (x12, h1)
  else if l1 = (5 : Int32) then
    (gI [12] 35 h1 l0).bind fun x14 =>
    some (x14, h1)
  else if l1 = (6 : Int32) then
    (gR [12] 32 h1 l0).bind fun x16 =>
    (aI h1 x16 (50 : Int32)).bind fun x17 =>
    some (x17, h1)
  else if l1 = (7 : Int32) then
    (gR [12] 32 h1 l0).bind fun x19 =>
    (aI h1 x19 (49 : Int32)).bind fun x20 =>
    some (x20, h1)
  else if l1 = (8 : Int32) then
    (gI [12] 36 h1 l0).bind fun x22 =>
    some (x22, h1)
  else if l1 = (9 : Int32) then
    (gI [12] 51 h1 l0).bind fun x24 =>
    some (x24, h1)
  else if l1 = (10 : Int32) then
    (gR [12] 32 h1 l0).bind fun x26 =>
    (aI h1 x26 (51 : Int32)).bind fun x27 =>
    some (x27, h1)
  else if l1 = (11 : Int32) then
    (gI [12] 40 h1 l0).bind fun x29 =>
    some (x29, h1)
  else 
    some ((-1000000 : Int32), h1)
set_option maxRecDepth 20000 in
theorem ev_X12_count {G : xa_G} {h : xa_H} {l0 : Nat} {l1 : Int32} {r : (Int32 × xa_H)} (hf : f_X12_count h l0 l1 = some r) : xa_Ev G M_X12_count 0 [.ref l0, .int l1] h (some (.int r.1)) r.2 := by
  refine xa_entry (by decide +kernel) (loc := [some (.ref l0), some (.int l1)]) rfl (Nat.le_of_ble_eq_true rfl) ?_
  unfold f_X12_count at hf
  obtain ⟨u0, eu0, hf⟩ := ob hf
  refine v_aload_n dX12_count_0 rfl ?_
  refine v_iconst dX12_count_1 (by decide) (v := 0) ?_
  obtain ⟨h1, eh1, hf⟩ := ob hf
  refine v_put dX12_count_2 fp_12_111 (fun z => by cases z) (fun _ => rfl) (fun _ => rfl) eh1 ?_
  refine v_iload_n dX12_count_5 rfl ?_
  by_cases c2 : l1 = (0 : Int32)
  · replace hf := (if_pos c2).symm.trans hf
    refine v_tabIn dX12_count_6 (0 : Int32) c2 (by decide) (by decide) (off := 62) rfl (tgt := 68) (by decide) ?_
    refine v_aload_n dX12_count_68 rfl ?_
    obtain ⟨x3, ex3, hf⟩ := ob hf
    refine v_getI dX12_count_69 fl_12_307 ex3 ?_
    replace hf := Option.some.inj hf
    subst hf
    exact v_iret dX12_count_72 rfl
  replace hf := (if_neg c2).symm.trans hf
  by_cases c4 : l1 = (1 : Int32)
  · replace hf := (if_pos c4).symm.trans hf
    refine v_tabIn dX12_count_6 (1 : Int32) c4 (by decide) (by decide) (off := 67) rfl (tgt := 73) (by decide) ?_
    refine v_aload_n dX12_count_73 rfl ?_
    obtain ⟨x5, ex5, hf⟩ := ob hf
    refine v_getR dX12_count_74 fl_12_37 ex5 ?_
    refine v_iconst dX12_count_77 (by decide) (v := 1) ?_
    obtain ⟨x6, ex6, hf⟩ := ob hf
    refine v_ialoadI dX12_count_78 ex6 ?_
    replace hf := Option.some.inj hf
    subst hf
    exact v_iret dX12_count_79 rfl
  replace hf := (if_neg c4).symm.trans hf
  by_cases c7 : l1 = (2 : Int32)
  · replace hf := (if_pos c7).symm.trans hf
    refine v_tabIn dX12_count_6 (2 : Int32) c7 (by decide) (by decide) (off := 74) rfl (tgt := 80) (by decide) ?_
    refine v_aload_n dX12_count_80 rfl ?_
    obtain ⟨x8, ex8, hf⟩ := ob hf
    refine v_getI dX12_count_81 fl_12_299 ex8 ?_
    replace hf := Option.some.inj hf
    subst hf
    exact v_iret dX12_count_84 rfl
  replace hf := (if_neg c7).symm.trans hf
  by_cases c9 : l1 = (3 : Int32)
  · replace hf := (if_pos c9).symm.trans hf
    refine v_tabIn dX12_count_6 (3 : Int32) c9 (by decide) (by decide) (off := 79) rfl (tgt := 85) (by decide) ?_
    refine v_aload_n dX12_count_85 rfl ?_
    obtain ⟨x10, ex10, hf⟩ := ob hf
    refine v_getI dX12_count_86 fl_12_302 ex10 ?_
    replace hf := Option.some.inj hf
    subst hf
    exact v_iret dX12_count_89 rfl
  replace hf := (if_neg c9).symm.trans hf
  by_cases c11 : l1 = (4 : Int32)
  · replace hf := (if_pos c11).symm.trans hf
    refine v_tabIn dX12_count_6 (4 : Int32) c11 (by decide) (by decide) (off := 84) rfl (tgt := 90) (by decide) ?_
    refine v_aload_n dX12_count_90 rfl ?_
    obtain ⟨x12, ex12, hf⟩ := ob hf
    refine v_getI dX12_count_91 fl_12_124 ex12 ?_
    replace hf := Option.some.inj hf
    subst hf
    exact v_iret dX12_count_94 rfl
  replace hf := (if_neg c11).symm.trans hf
  by_cases c13 : l1 = (5 : Int32)
  · replace hf := (if_pos c13).symm.trans hf
    refine v_tabIn dX12_count_6 (5 : Int32) c13 (by decide) (by decide) (off := 89) rfl (tgt := 95) (by decide) ?_
    refine v_aload_n dX12_count_95 rfl ?_
    obtain ⟨x14, ex14, hf⟩ := ob hf
    refine v_getI dX12_count_96 fl_12_70 ex14 ?_
    replace hf := Option.some.inj hf
    subst hf
    exact v_iret dX12_count_99 rfl
  replace hf := (if_neg c13).symm.trans hf
  by_cases c15 : l1 = (6 : Int32)
  · replace hf := (if_pos c15).symm.trans hf
    refine v_tabIn dX12_count_6 (6 : Int32) c15 (by decide) (by decide) (off := 94) rfl (tgt := 100) (by decide) ?_
    refine v_aload_n dX12_count_100 rfl ?_
    obtain ⟨x16, ex16, hf⟩ := ob hf
    refine v_getR dX12_count_101 fl_12_61 ex16 ?_
    refine v_bipush dX12_count_104 (by decide) (v := 50) ?_
    obtain ⟨x17, ex17, hf⟩ := ob hf
    refine v_ialoadI dX12_count_106 ex17 ?_
    replace hf := Option.some.inj hf
    subst hf
    exact v_iret dX12_count_107 rfl
  replace hf := (if_neg c15).symm.trans hf
  by_cases c18 : l1 = (7 : Int32)
  · replace hf := (if_pos c18).symm.trans hf
    refine v_tabIn dX12_count_6 (7 : Int32) c18 (by decide) (by decide) (off := 102) rfl (tgt := 108) (by decide) ?_
    refine v_aload_n dX12_count_108 rfl ?_
    obtain ⟨x19, ex19, hf⟩ := ob hf
    refine v_getR dX12_count_109 fl_12_61 ex19 ?_
    refine v_bipush dX12_count_112 (by decide) (v := 49) ?_
    obtain ⟨x20, ex20, hf⟩ := ob hf
    refine v_ialoadI dX12_count_114 ex20 ?_
    replace hf := Option.some.inj hf
    subst hf
    exact v_iret dX12_count_115 rfl
  replace hf := (if_neg c18).symm.trans hf
  by_cases c21 : l1 = (8 : Int32)
  · replace hf := (if_pos c21).symm.trans hf
    refine v_tabIn dX12_count_6 (8 : Int32) c21 (by decide) (by decide) (off := 110) rfl (tgt := 116) (by decide) ?_
    refine v_aload_n dX12_count_116 rfl ?_
    obtain ⟨x22, ex22, hf⟩ := ob hf
    refine v_getI dX12_count_117 fl_12_74 ex22 ?_
    replace hf := Option.some.inj hf
    subst hf
    exact v_iret dX12_count_120 rfl
  replace hf := (if_neg c21).symm.trans hf
  by_cases c23 : l1 = (9 : Int32)
  · replace hf := (if_pos c23).symm.trans hf
    refine v_tabIn dX12_count_6 (9 : Int32) c23 (by decide) (by decide) (off := 115) rfl (tgt := 121) (by decide) ?_
    refine v_aload_n dX12_count_121 rfl ?_
    obtain ⟨x24, ex24, hf⟩ := ob hf
    refine v_getI dX12_count_122 fl_12_317 ex24 ?_
    replace hf := Option.some.inj hf
    subst hf
    exact v_iret dX12_count_125 rfl
  replace hf := (if_neg c23).symm.trans hf
  by_cases c25 : l1 = (10 : Int32)
  · replace hf := (if_pos c25).symm.trans hf
    refine v_tabIn dX12_count_6 (10 : Int32) c25 (by decide) (by decide) (off := 120) rfl (tgt := 126) (by decide) ?_
    refine v_aload_n dX12_count_126 rfl ?_
    obtain ⟨x26, ex26, hf⟩ := ob hf
    refine v_getR dX12_count_127 fl_12_61 ex26 ?_
    refine v_bipush dX12_count_130 (by decide) (v := 51) ?_
    obtain ⟨x27, ex27, hf⟩ := ob hf
    refine v_ialoadI dX12_count_132 ex27 ?_
    replace hf := Option.some.inj hf
    subst hf
    exact v_iret dX12_count_133 rfl
  replace hf := (if_neg c25).symm.trans hf
  by_cases c28 : l1 = (11 : Int32)
  · replace hf := (if_pos c28).symm.trans hf
    refine v_tabIn dX12_count_6 (11 : Int32) c28 (by decide) (by decide) (off := 128) rfl (tgt := 134) (by decide) ?_
    refine v_aload_n dX12_count_134 rfl ?_
    obtain ⟨x29, ex29, hf⟩ := ob hf
    refine v_getI dX12_count_135 fl_12_320 ex29 ?_
    replace hf := Option.some.inj hf
    subst hf
    exact v_iret dX12_count_138 rfl
  replace hf := (if_neg c28).symm.trans hf
  refine v_tabOut dX12_count_6 (by have zc2 := tsx (n := 0) (by decide) c2; have zc4 := tsx (n := 1) (by decide) c4; have zc7 := tsx (n := 2) (by decide) c7; have zc9 := tsx (n := 3) (by decide) c9; have zc11 := tsx (n := 4) (by decide) c11; have zc13 := tsx (n := 5) (by decide) c13; have zc15 := tsx (n := 6) (by decide) c15; have zc18 := tsx (n := 7) (by decide) c18; have zc21 := tsx (n := 8) (by decide) c21; have zc23 := tsx (n := 9) (by decide) c23; have zc25 := tsx (n := 10) (by decide) c25; have zc28 := tsx (n := 11) (by decide) c28; omega) (tgt := 139) (by decide) ?_
  refine v_ldcw dX12_count_139 rfl co_12_380 ?_
  replace hf := Option.some.inj hf
  subst hf
  exact v_iret dX12_count_142 rfl
theorem ckf_X12_count {h : xa_H} {l0 : Nat} {l1 : Int32} {r : (Int32 × xa_H)} (hf : f_X12_count h l0 l1 = some r) : ck [12] h l0 = some () := by
  obtain ⟨u, e, -⟩ := ob hf
  exact e
def M_X12_remember : xa_M := (yX12_remember, cX12_remember, 2, none)
theorem cb_X12_remember : xa_CB M_X12_remember 0 := ⟨gws_at 1700 (by decide +kernel) rfl, gws_at 122 (by decide +kernel) rfl, by decide +kernel, Nat.le_of_ble_eq_true rfl⟩
def f_X12_remember_b52 : Nat → xa_H → Nat → Int32 → Option xa_H
  | 0, _, _, _ => none
  | n + 1, h, l0, l1 =>
    if (232 : Int32) ≤ l1 then
      (gI [12] 40 h l0).bind fun x2 =>
      (xp [12] 40 h l0 (.int (x2 + (1 : Int32)))).bind fun h3 =>
      some h3
    else
      (gR [12] 39 h l0).bind fun x4 =>
      (gI [12] 40 h l0).bind fun x5 =>
      (gR [12] 32 h l0).bind fun x6 =>
      (aI h x6 l1).bind fun x7 =>
      (pI h x4 (((232 : Int32) * x5) + l1) x7).bind fun h8 =>
      f_X12_remember_b52 n h8 l0 (l1 + (1 : Int32))
set_option maxRecDepth 20000 in
theorem e_X12_remember_b52 {G : xa_G} : ∀ (n : Nat) (h : xa_H) (l0 : Nat) (l1 : Int32) (r : xa_H), f_X12_remember_b52 n h l0 l1 = some r → xa_V G M_X12_remember 0 52 [some (.ref l0), some (.int l1)] [] h none r := by
  intro n
  induction n with
  | zero =>
    intro h l0 l1 r hf
    cases (show (none : Option xa_H) = some r from hf)
  | succ n ih =>
    intro h l0 l1 r hf
    rw [f_X12_remember_b52] at hf
    refine v_iload_n dX12_remember_52 rfl ?_
    refine v_sipush dX12_remember_53 (by decide) (v := 232) ?_
    refine v_icmp_ge dX12_remember_56 (tgt := 86) (by decide) (fun c1 => ?_) (fun c1 => ?_)
    · replace hf := (if_pos c1).symm.trans hf
      refine v_aload_n dX12_remember_86 rfl ?_
      refine v_dup dX12_remember_87 rfl ?_
      obtain ⟨x2, ex2, hf⟩ := ob hf
      refine v_getI dX12_remember_88 fl_12_320 ex2 ?_
      refine v_iconst dX12_remember_91 (by decide) (v := 1) ?_
      refine v_iadd dX12_remember_92 ?_
      obtain ⟨h3, eh3, hf⟩ := ob hf
      refine v_put dX12_remember_93 fp_12_320 (fun z => by cases z) (fun _ => rfl) (fun _ => rfl) eh3 ?_
      replace hf := Option.some.inj hf
      subst hf
      exact v_vret dX12_remember_96 rfl
    · replace hf := (if_neg c1).symm.trans hf
      refine v_aload_n dX12_remember_59 rfl ?_
      obtain ⟨x4, ex4, hf⟩ := ob hf
      refine v_getR dX12_remember_60 fl_12_83 ex4 ?_
      refine v_sipush dX12_remember_63 (by decide) (v := 232) ?_
      refine v_aload_n dX12_remember_66 rfl ?_
      obtain ⟨x5, ex5, hf⟩ := ob hf
      refine v_getI dX12_remember_67 fl_12_320 ex5 ?_
      refine v_imul dX12_remember_70 ?_
      refine v_iload_n dX12_remember_71 rfl ?_
      refine v_iadd dX12_remember_72 ?_
      refine v_aload_n dX12_remember_73 rfl ?_
      obtain ⟨x6, ex6, hf⟩ := ob hf
      refine v_getR dX12_remember_74 fl_12_61 ex6 ?_
      refine v_iload_n dX12_remember_77 rfl ?_
      obtain ⟨x7, ex7, hf⟩ := ob hf
      refine v_ialoadI dX12_remember_78 ex7 ?_
      obtain ⟨h8, eh8, hf⟩ := ob hf
      refine v_iastoreI dX12_remember_79 eh8 ?_
      refine v_iinc dX12_remember_80 rfl (v := (l1 + (1 : Int32))) rfl (Nat.le_of_ble_eq_true rfl) (loc' := [some (.ref l0), some (.int (l1 + (1 : Int32)))]) rfl ?_
      refine v_goto dX12_remember_83 (tgt := 52) (by decide) ?_
      exact ih h8 l0 (l1 + (1 : Int32)) r hf
def f_X12_remember_b50 (h : xa_H) (l0 : Nat) : Option xa_H :=
  f_X12_remember_b52 1048576 h l0 (0 : Int32)
set_option maxRecDepth 20000 in
theorem e_X12_remember_b50 {G : xa_G} : ∀ (h : xa_H) (l0 : Nat) (r : xa_H), f_X12_remember_b50 h l0 = some r → xa_V G M_X12_remember 0 50 [some (.ref l0), none] [] h none r := by
  intro h l0 r hf
  unfold f_X12_remember_b50 at hf
  refine v_iconst dX12_remember_50 (by decide) (v := 0) ?_
  refine v_istore_n (i := 1) rfl dX12_remember_51 (Nat.le_of_ble_eq_true rfl) (loc' := [some (.ref l0), some (.int (0 : Int32))]) rfl ?_
  exact e_X12_remember_b52 1048576 h l0 (0 : Int32) r hf
def f_X12_remember_b11 : Nat → xa_H → Nat → Int32 → Option xa_H
  | 0, _, _, _ => none
  | n + 1, h, l0, l1 =>
    if (9048 : Int32) ≤ l1 then
      (gI [12] 40 h l0).bind fun x2 =>
      (xp [12] 40 h l0 (.int (x2 - (1 : Int32)))).bind fun h3 =>
      f_X12_remember_b50 h3 l0
    else
      (gR [12] 39 h l0).bind fun x4 =>
      (gR [12] 39 h l0).bind fun x5 =>
      (aI h x5 (l1 + (232 : Int32))).bind fun x6 =>
      (pI h x4 l1 x6).bind fun h7 =>
      f_X12_remember_b11 n h7 l0 (l1 + (1 : Int32))
set_option maxRecDepth 20000 in
theorem e_X12_remember_b11 {G : xa_G} : ∀ (n : Nat) (h : xa_H) (l0 : Nat) (l1 : Int32) (r : xa_H), f_X12_remember_b11 n h l0 l1 = some r → xa_V G M_X12_remember 0 11 [some (.ref l0), some (.int l1)] [] h none r := by
  intro n
  induction n with
  | zero =>
    intro h l0 l1 r hf
    cases (show (none : Option xa_H) = some r from hf)
  | succ n ih =>
    intro h l0 l1 r hf
    rw [f_X12_remember_b11] at hf
    refine v_iload_n dX12_remember_11 rfl ?_
    refine v_sipush dX12_remember_12 (by decide) (v := 9048) ?_
    refine v_icmp_ge dX12_remember_15 (tgt := 40) (by decide) (fun c1 => ?_) (fun c1 => ?_)
    · replace hf := (if_pos c1).symm.trans hf
      refine v_aload_n dX12_remember_40 rfl ?_
      refine v_dup dX12_remember_41 rfl ?_
      obtain ⟨x2, ex2, hf⟩ := ob hf
      refine v_getI dX12_remember_42 fl_12_320 ex2 ?_
      refine v_iconst dX12_remember_45 (by decide) (v := 1) ?_
      refine v_isub dX12_remember_46 ?_
      obtain ⟨h3, eh3, hf⟩ := ob hf
      refine v_put dX12_remember_47 fp_12_320 (fun z => by cases z) (fun _ => rfl) (fun _ => rfl) eh3 ?_
      exact xa_weak (loc := [some (.ref l0), none]) ⟨rfl, trivial⟩ (e_X12_remember_b50 h3 l0 r hf)
    · replace hf := (if_neg c1).symm.trans hf
      refine v_aload_n dX12_remember_18 rfl ?_
      obtain ⟨x4, ex4, hf⟩ := ob hf
      refine v_getR dX12_remember_19 fl_12_83 ex4 ?_
      refine v_iload_n dX12_remember_22 rfl ?_
      refine v_aload_n dX12_remember_23 rfl ?_
      obtain ⟨x5, ex5, hf⟩ := ob hf
      refine v_getR dX12_remember_24 fl_12_83 ex5 ?_
      refine v_iload_n dX12_remember_27 rfl ?_
      refine v_sipush dX12_remember_28 (by decide) (v := 232) ?_
      refine v_iadd dX12_remember_31 ?_
      obtain ⟨x6, ex6, hf⟩ := ob hf
      refine v_ialoadI dX12_remember_32 ex6 ?_
      obtain ⟨h7, eh7, hf⟩ := ob hf
      refine v_iastoreI dX12_remember_33 eh7 ?_
      refine v_iinc dX12_remember_34 rfl (v := (l1 + (1 : Int32))) rfl (Nat.le_of_ble_eq_true rfl) (loc' := [some (.ref l0), some (.int (l1 + (1 : Int32)))]) rfl ?_
      refine v_goto dX12_remember_37 (tgt := 11) (by decide) ?_
      exact ih h7 l0 (l1 + (1 : Int32)) r hf
def f_X12_remember (h : xa_H) (l0 : Nat) : Option xa_H :=
  (ck [12] h l0).bind fun _ =>
  (gI [12] 40 h l0).bind fun x1 =>
  if x1 = (40 : Int32) then
    f_X12_remember_b11 1048576 h l0 (0 : Int32)
  else
    f_X12_remember_b50 h l0
set_option maxRecDepth 20000 in
theorem ev_X12_remember {G : xa_G} {h : xa_H} {l0 : Nat} {r : xa_H} (hf : f_X12_remember h l0 = some r) : xa_Ev G M_X12_remember 0 [.ref l0] h none r := by
  refine xa_entry (by decide +kernel) (loc := [some (.ref l0), none]) rfl (Nat.le_of_ble_eq_true rfl) ?_
  unfold f_X12_remember at hf
  obtain ⟨u0, eu0, hf⟩ := ob hf
  refine v_aload_n dX12_remember_0 rfl ?_
  obtain ⟨x1, ex1, hf⟩ := ob hf
  refine v_getI dX12_remember_1 fl_12_320 ex1 ?_
  refine v_bipush dX12_remember_4 (by decide) (v := 40) ?_
  refine v_icmp_ne dX12_remember_6 (tgt := 50) (by decide) (fun c2 => ?_) (fun c2 => ?_)
  · replace hf := (if_neg c2).symm.trans hf
    exact e_X12_remember_b50 h l0 r hf
  · replace hf := (if_pos c2).symm.trans hf
    refine v_iconst dX12_remember_9 (by decide) (v := 0) ?_
    refine v_istore_n (i := 1) rfl dX12_remember_10 (Nat.le_of_ble_eq_true rfl) (loc' := [some (.ref l0), some (.int (0 : Int32))]) rfl ?_
    exact e_X12_remember_b11 1048576 h l0 (0 : Int32) r hf
theorem ckf_X12_remember {h : xa_H} {l0 : Nat} {r : xa_H} (hf : f_X12_remember h l0 = some r) : ck [12] h l0 = some () := by
  obtain ⟨u, e, -⟩ := ob hf
  exact e
def M_X12_tells : xa_M := (yX12_tells, cX12_tells, 3, none)
theorem cb_X12_tells : xa_CB M_X12_tells 1 := ⟨gws_at 1720 (by decide +kernel) rfl, gws_at 122 (by decide +kernel) rfl, by decide +kernel, Nat.le_of_ble_eq_true rfl⟩
def f_X12_tells_b117 (h : xa_H) (l0 : Nat) (s0 : Int32) (s1 : Int32) (s2 : Nat) : Option xa_H :=
  (pI h s2 s1 s0).bind fun h1 =>
  (gR [12] 32 h1 l0).bind fun x2 =>
  (aI h1 x2 (51 : Int32)).bind fun x3 =>
  (pI h1 x2 (51 : Int32) (x3 + (1 : Int32))).bind fun h4 =>
  some h4
set_option maxRecDepth 20000 in
theorem e_X12_tells_b117 {G : xa_G} : ∀ (h : xa_H) (l0 : Nat) (s0 : Int32) (s1 : Int32) (s2 : Nat) (r : xa_H), f_X12_tells_b117 h l0 s0 s1 s2 = some r → xa_V G M_X12_tells 4 117 [some (.ref l0), none, none] [.int s0, .int s1, .ref s2] h none r := by
  intro h l0 s0 s1 s2 r hf
  unfold f_X12_tells_b117 at hf
  obtain ⟨h1, eh1, hf⟩ := ob hf
  refine v_iastoreI dX12_tells_117 eh1 ?_
  refine v_aload_n dX12_tells_118 rfl ?_
  obtain ⟨x2, ex2, hf⟩ := ob hf
  refine v_getR dX12_tells_119 fl_12_61 ex2 ?_
  refine v_bipush dX12_tells_122 (by decide) (v := 51) ?_
  refine v_dup2 dX12_tells_124 rfl rfl ?_
  obtain ⟨x3, ex3, hf⟩ := ob hf
  refine v_ialoadI dX12_tells_125 ex3 ?_
  refine v_iconst dX12_tells_126 (by decide) (v := 1) ?_
  refine v_iadd dX12_tells_127 ?_
  obtain ⟨h4, eh4, hf⟩ := ob hf
  refine v_iastoreI dX12_tells_128 eh4 ?_
  replace hf := Option.some.inj hf
  subst hf
  exact v_vret dX12_tells_129 rfl
def f_X12_tells_b58 (h : xa_H) (l0 : Nat) (l1 : Int32) : Option xa_H :=
  (gR [12] 32 h l0).bind fun x1 =>
  (aI h x1 (51 : Int32)).bind fun x2 =>
  (gR [12] 32 h l0).bind fun x3 =>
  (pI h x3 ((52 : Int32) + ((3 : Int32) * x2)) l1).bind fun h4 =>
  (gR [12] 32 h4 l0).bind fun x5 =>
  (gR [12] 32 h4 l0).bind fun x6 =>
  (f_X12_allFavours h4 l0 x6).bind fun q7 =>
  (pI h4 x5 (((52 : Int32) + ((3 : Int32) * x2)) + (1 : Int32)) q7).bind fun h8 =>
  (gR [12] 32 h8 l0).bind fun x9 =>
  (gR [12] 32 h8 l0).bind fun x10 =>
  (f_X12_hasRing h8 l0 x10).bind fun q11 =>
  if q11.1 = 0 then
    f_X12_tells_b117 q11.2 l0 (0 : Int32) (((52 : Int32) + ((3 : Int32) * x2)) + (2 : Int32)) x9
  else
    f_X12_tells_b117 q11.2 l0 (1 : Int32) (((52 : Int32) + ((3 : Int32) * x2)) + (2 : Int32)) x9
set_option maxRecDepth 20000 in
theorem e_X12_tells_b58 {G : xa_G} : ∀ (h : xa_H) (l0 : Nat) (l1 : Int32) (r : xa_H), f_X12_tells_b58 h l0 l1 = some r → xa_V G M_X12_tells 4 58 [some (.ref l0), some (.int l1), none] [] h none r := by
  intro h l0 l1 r hf
  unfold f_X12_tells_b58 at hf
  refine v_bipush dX12_tells_58 (by decide) (v := 52) ?_
  refine v_iconst dX12_tells_60 (by decide) (v := 3) ?_
  refine v_aload_n dX12_tells_61 rfl ?_
  obtain ⟨x1, ex1, hf⟩ := ob hf
  refine v_getR dX12_tells_62 fl_12_61 ex1 ?_
  refine v_bipush dX12_tells_65 (by decide) (v := 51) ?_
  obtain ⟨x2, ex2, hf⟩ := ob hf
  refine v_ialoadI dX12_tells_67 ex2 ?_
  refine v_imul dX12_tells_68 ?_
  refine v_iadd dX12_tells_69 ?_
  refine v_istore_n (i := 2) rfl dX12_tells_70 (Nat.le_of_ble_eq_true rfl) (loc' := [some (.ref l0), some (.int l1), some (.int ((52 : Int32) + ((3 : Int32) * x2)))]) rfl ?_
  refine v_aload_n dX12_tells_71 rfl ?_
  obtain ⟨x3, ex3, hf⟩ := ob hf
  refine v_getR dX12_tells_72 fl_12_61 ex3 ?_
  refine v_iload_n dX12_tells_75 rfl ?_
  refine v_iload_n dX12_tells_76 rfl ?_
  obtain ⟨h4, eh4, hf⟩ := ob hf
  refine v_iastoreI dX12_tells_77 eh4 ?_
  refine v_aload_n dX12_tells_78 rfl ?_
  obtain ⟨x5, ex5, hf⟩ := ob hf
  refine v_getR dX12_tells_79 fl_12_61 ex5 ?_
  refine v_iload_n dX12_tells_82 rfl ?_
  refine v_iconst dX12_tells_83 (by decide) (v := 1) ?_
  refine v_iadd dX12_tells_84 ?_
  refine v_aload_n dX12_tells_85 rfl ?_
  refine v_aload_n dX12_tells_86 rfl ?_
  obtain ⟨x6, ex6, hf⟩ := ob hf
  refine v_getR dX12_tells_87 fl_12_61 ex6 ?_
  obtain ⟨q7, eq7, hf⟩ := ob hf
  refine v_callV dX12_tells_90 ⟨cb_X12_allFavours, ml_12_363, im_X12_allFavours⟩ se_12_X12_allFavours (ckf_X12_allFavours eq7) (ev_X12_allFavours eq7) (by decide) (As := [.ref x6]) rfl (st := [.int (((52 : Int32) + ((3 : Int32) * x2)) + (1 : Int32)), .ref x5]) rfl (Nat.le_of_ble_eq_true rfl) rfl ?_
  obtain ⟨h8, eh8, hf⟩ := ob hf
  refine v_iastoreI dX12_tells_93 eh8 ?_
  refine v_aload_n dX12_tells_94 rfl ?_
  obtain ⟨x9, ex9, hf⟩ := ob hf
  refine v_getR dX12_tells_95 fl_12_61 ex9 ?_
  refine v_iload_n dX12_tells_98 rfl ?_
  refine v_iconst dX12_tells_99 (by decide) (v := 2) ?_
  refine v_iadd dX12_tells_100 ?_
  refine v_aload_n dX12_tells_101 rfl ?_
  refine v_aload_n dX12_tells_102 rfl ?_
  obtain ⟨x10, ex10, hf⟩ := ob hf
  refine v_getR dX12_tells_103 fl_12_61 ex10 ?_
  obtain ⟨q11, eq11, hf⟩ := ob hf
  refine v_callV dX12_tells_106 ⟨cb_X12_hasRing, ml_12_366, im_X12_hasRing⟩ se_12_X12_hasRing (ckf_X12_hasRing eq11) (ev_X12_hasRing eq11) (by decide) (As := [.ref x10]) rfl (st := [.int (((52 : Int32) + ((3 : Int32) * x2)) + (2 : Int32)), .ref x9]) rfl (Nat.le_of_ble_eq_true rfl) rfl ?_
  refine v_if_eq dX12_tells_109 (tgt := 116) (by decide) (fun c12 => ?_) (fun c12 => ?_)
  · replace hf := (if_pos c12).symm.trans hf
    refine v_iconst dX12_tells_116 (by decide) (v := 0) ?_
    exact xa_weak (loc := [some (.ref l0), none, none]) ⟨rfl, trivial⟩ (e_X12_tells_b117 q11.2 l0 (0 : Int32) (((52 : Int32) + ((3 : Int32) * x2)) + (2 : Int32)) x9 r hf)
  · replace hf := (if_neg c12).symm.trans hf
    refine v_iconst dX12_tells_112 (by decide) (v := 1) ?_
    refine v_goto dX12_tells_113 (tgt := 117) (by decide) ?_
    exact xa_weak (loc := [some (.ref l0), none, none]) ⟨rfl, trivial⟩ (e_X12_tells_b117 q11.2 l0 (1 : Int32) (((52 : Int32) + ((3 : Int32) * x2)) + (2 : Int32)) x9 r hf)
def f_X12_tells_b14 : Nat → xa_H → Nat → Int32 → Int32 → Option xa_H
  | 0, _, _, _, _ => none
  | n + 1, h, l0, l1, l2 =>
    if (177 : Int32) < l2 then
      (gR [12] 32 h l0).bind fun x2 =>
      (aI h x2 (51 : Int32)).bind fun x3 =>
      (pI h x2 (51 : Int32) (x3 - (1 : Int32))).bind fun h4 =>
      f_X12_tells_b58 h4 l0 l1
    else
      (gR [12] 32 h l0).bind fun x5 =>
      (gR [12] 32 h l0).bind fun x6 =>
      (aI h x6 (((51 : Int32) + l2) + (3 : Int32))).bind fun x7 =>
      (pI h x5 ((51 : Int32) + l2) x7).bind fun h8 =>
      f_X12_tells_b14 n h8 l0 l1 (l2 + (1 : Int32))
set_option maxRecDepth 20000 in
theorem e_X12_tells_b14 {G : xa_G} : ∀ (n : Nat) (h : xa_H) (l0 : Nat) (l1 : Int32) (l2 : Int32) (r : xa_H), f_X12_tells_b14 n h l0 l1 l2 = some r → xa_V G M_X12_tells 4 14 [some (.ref l0), some (.int l1), some (.int l2)] [] h none r := by
  intro n
  induction n with
  | zero =>
    intro h l0 l1 l2 r hf
    cases (show (none : Option xa_H) = some r from hf)
  | succ n ih =>
    intro h l0 l1 l2 r hf
    rw [f_X12_tells_b14] at hf
    refine v_iload_n dX12_tells_14 rfl ?_
    refine v_sipush dX12_tells_15 (by decide) (v := 177) ?_
    refine v_icmp_gt dX12_tells_18 (tgt := 47) (by decide) (fun c1 => ?_) (fun c1 => ?_)
    · replace hf := (if_pos c1).symm.trans hf
      refine v_aload_n dX12_tells_47 rfl ?_
      obtain ⟨x2, ex2, hf⟩ := ob hf
      refine v_getR dX12_tells_48 fl_12_61 ex2 ?_
      refine v_bipush dX12_tells_51 (by decide) (v := 51) ?_
      refine v_dup2 dX12_tells_53 rfl rfl ?_
      obtain ⟨x3, ex3, hf⟩ := ob hf
      refine v_ialoadI dX12_tells_54 ex3 ?_
      refine v_iconst dX12_tells_55 (by decide) (v := 1) ?_
      refine v_isub dX12_tells_56 ?_
      obtain ⟨h4, eh4, hf⟩ := ob hf
      refine v_iastoreI dX12_tells_57 eh4 ?_
      exact xa_weak (loc := [some (.ref l0), some (.int l1), none]) ⟨rfl, ⟨rfl, trivial⟩⟩ (e_X12_tells_b58 h4 l0 l1 r hf)
    · replace hf := (if_neg c1).symm.trans hf
      refine v_aload_n dX12_tells_21 rfl ?_
      obtain ⟨x5, ex5, hf⟩ := ob hf
      refine v_getR dX12_tells_22 fl_12_61 ex5 ?_
      refine v_bipush dX12_tells_25 (by decide) (v := 51) ?_
      refine v_iload_n dX12_tells_27 rfl ?_
      refine v_iadd dX12_tells_28 ?_
      refine v_aload_n dX12_tells_29 rfl ?_
      obtain ⟨x6, ex6, hf⟩ := ob hf
      refine v_getR dX12_tells_30 fl_12_61 ex6 ?_
      refine v_bipush dX12_tells_33 (by decide) (v := 51) ?_
      refine v_iload_n dX12_tells_35 rfl ?_
      refine v_iadd dX12_tells_36 ?_
      refine v_iconst dX12_tells_37 (by decide) (v := 3) ?_
      refine v_iadd dX12_tells_38 ?_
      obtain ⟨x7, ex7, hf⟩ := ob hf
      refine v_ialoadI dX12_tells_39 ex7 ?_
      obtain ⟨h8, eh8, hf⟩ := ob hf
      refine v_iastoreI dX12_tells_40 eh8 ?_
      refine v_iinc dX12_tells_41 rfl (v := (l2 + (1 : Int32))) rfl (Nat.le_of_ble_eq_true rfl) (loc' := [some (.ref l0), some (.int l1), some (.int (l2 + (1 : Int32)))]) rfl ?_
      refine v_goto dX12_tells_44 (tgt := 14) (by decide) ?_
      exact ih h8 l0 l1 (l2 + (1 : Int32)) r hf
def f_X12_tells (h : xa_H) (l0 : Nat) (l1 : Int32) : Option xa_H :=
  (ck [12] h l0).bind fun _ =>
  (gR [12] 32 h l0).bind fun x1 =>
  (aI h x1 (51 : Int32)).bind fun x2 =>
  if x2 = (60 : Int32) then
    f_X12_tells_b14 1048576 h l0 l1 (1 : Int32)
  else
    f_X12_tells_b58 h l0 l1
set_option maxRecDepth 20000 in
theorem ev_X12_tells {G : xa_G} {h : xa_H} {l0 : Nat} {l1 : Int32} {r : xa_H} (hf : f_X12_tells h l0 l1 = some r) : xa_Ev G M_X12_tells 4 [.ref l0, .int l1] h none r := by
  refine xa_entry (by decide +kernel) (loc := [some (.ref l0), some (.int l1), none]) rfl (Nat.le_of_ble_eq_true rfl) ?_
  unfold f_X12_tells at hf
  obtain ⟨u0, eu0, hf⟩ := ob hf
  refine v_aload_n dX12_tells_0 rfl ?_
  obtain ⟨x1, ex1, hf⟩ := ob hf
  refine v_getR dX12_tells_1 fl_12_61 ex1 ?_
  refine v_bipush dX12_tells_4 (by decide) (v := 51) ?_
  obtain ⟨x2, ex2, hf⟩ := ob hf
  refine v_ialoadI dX12_tells_6 ex2 ?_
  refine v_bipush dX12_tells_7 (by decide) (v := 60) ?_
  refine v_icmp_ne dX12_tells_9 (tgt := 58) (by decide) (fun c3 => ?_) (fun c3 => ?_)
  · replace hf := (if_neg c3).symm.trans hf
    exact e_X12_tells_b58 h l0 l1 r hf
  · replace hf := (if_pos c3).symm.trans hf
    refine v_iconst dX12_tells_12 (by decide) (v := 1) ?_
    refine v_istore_n (i := 2) rfl dX12_tells_13 (Nat.le_of_ble_eq_true rfl) (loc' := [some (.ref l0), some (.int l1), some (.int (1 : Int32))]) rfl ?_
    exact e_X12_tells_b14 1048576 h l0 l1 (1 : Int32) r hf
theorem ckf_X12_tells {h : xa_H} {l0 : Nat} {l1 : Int32} {r : xa_H} (hf : f_X12_tells h l0 l1 = some r) : ck [12] h l0 = some () := by
  obtain ⟨u, e, -⟩ := ob hf
  exact e
def M_X12_pays : xa_M := (yX12_pays, cX12_pays, 3, none)
theorem cb_X12_pays : xa_CB M_X12_pays 1 := ⟨gws_at 1696 (by decide +kernel) rfl, gws_at 122 (by decide +kernel) rfl, by decide +kernel, Nat.le_of_ble_eq_true rfl⟩
def f_X12_pays (h : xa_H) (l0 : Nat) (l1 : Int32) : Option xa_H :=
  (ck [12] h l0).bind fun _ =>
  (f_X12_cost h l0 l1).bind fun q1 =>
  (f_X12_remember q1.2 l0).bind fun q2 =>
  (gR [12] 32 q2 l0).bind fun x3 =>
  (aI q2 x3 (49 : Int32)).bind fun x4 =>
  (pI q2 x3 (49 : Int32) (x4 - q1.1)).bind fun h5 =>
  (gR [12] 32 h5 l0).bind fun x6 =>
  (f_X12_crosses h5 l0 x6 l1).bind fun q7 =>
  (f_X12_tells q7 l0 l1).bind fun q8 =>
  some q8
set_option maxRecDepth 20000 in
theorem ev_X12_pays {G : xa_G} {h : xa_H} {l0 : Nat} {l1 : Int32} {r : xa_H} (hf : f_X12_pays h l0 l1 = some r) : xa_Ev G M_X12_pays 191 [.ref l0, .int l1] h none r := by
  refine xa_entry (by decide +kernel) (loc := [some (.ref l0), some (.int l1), none]) rfl (Nat.le_of_ble_eq_true rfl) ?_
  unfold f_X12_pays at hf
  obtain ⟨u0, eu0, hf⟩ := ob hf
  refine v_aload_n dX12_pays_0 rfl ?_
  refine v_iload_n dX12_pays_1 rfl ?_
  obtain ⟨q1, eq1, hf⟩ := ob hf
  refine v_callV dX12_pays_2 ⟨cb_X12_cost, ml_12_377, im_X12_cost⟩ se_12_X12_cost (ckf_X12_cost eq1) (ev_X12_cost eq1) (by decide) (As := [.int l1]) rfl (st := []) rfl (Nat.le_of_ble_eq_true rfl) rfl ?_
  refine v_istore_n (i := 2) rfl dX12_pays_5 (Nat.le_of_ble_eq_true rfl) (loc' := [some (.ref l0), some (.int l1), some (.int q1.1)]) rfl ?_
  refine v_aload_n dX12_pays_6 rfl ?_
  obtain ⟨q2, eq2, hf⟩ := ob hf
  refine v_callV dX12_pays_7 ⟨cb_X12_remember, ml_12_388, im_X12_remember⟩ se_12_X12_remember (ckf_X12_remember eq2) (ev_X12_remember eq2) (by decide) (As := []) rfl (st := []) rfl (Nat.le_of_ble_eq_true rfl) rfl ?_
  refine v_aload_n dX12_pays_10 rfl ?_
  obtain ⟨x3, ex3, hf⟩ := ob hf
  refine v_getR dX12_pays_11 fl_12_61 ex3 ?_
  refine v_bipush dX12_pays_14 (by decide) (v := 49) ?_
  refine v_dup2 dX12_pays_16 rfl rfl ?_
  obtain ⟨x4, ex4, hf⟩ := ob hf
  refine v_ialoadI dX12_pays_17 ex4 ?_
  refine v_iload_n dX12_pays_18 rfl ?_
  refine v_isub dX12_pays_19 ?_
  obtain ⟨h5, eh5, hf⟩ := ob hf
  refine v_iastoreI dX12_pays_20 eh5 ?_
  refine v_aload_n dX12_pays_21 rfl ?_
  refine v_aload_n dX12_pays_22 rfl ?_
  obtain ⟨x6, ex6, hf⟩ := ob hf
  refine v_getR dX12_pays_23 fl_12_61 ex6 ?_
  refine v_iload_n dX12_pays_26 rfl ?_
  obtain ⟨q7, eq7, hf⟩ := ob hf
  refine v_callV dX12_pays_27 ⟨cb_X12_crosses, ml_12_391, im_X12_crosses⟩ se_12_X12_crosses (ckf_X12_crosses eq7) (ev_X12_crosses eq7) (by decide) (As := [.ref x6, .int l1]) rfl (st := []) rfl (Nat.le_of_ble_eq_true rfl) rfl ?_
  refine v_aload_n dX12_pays_30 rfl ?_
  refine v_iload_n dX12_pays_31 rfl ?_
  obtain ⟨q8, eq8, hf⟩ := ob hf
  refine v_callV dX12_pays_32 ⟨cb_X12_tells, ml_12_394, im_X12_tells⟩ se_12_X12_tells (ckf_X12_tells eq8) (ev_X12_tells eq8) (by decide) (As := [.int l1]) rfl (st := []) rfl (Nat.le_of_ble_eq_true rfl) rfl ?_
  replace hf := Option.some.inj hf
  subst hf
  exact v_vret dX12_pays_35 rfl
theorem ckf_X12_pays {h : xa_H} {l0 : Nat} {l1 : Int32} {r : xa_H} (hf : f_X12_pays h l0 l1 = some r) : ck [12] h l0 = some () := by
  obtain ⟨u, e, -⟩ := ob hf
  exact e
def M_X12_refused : xa_M := (yX12_refused, cX12_refused, 3, some .int)
theorem cb_X12_refused : xa_CB M_X12_refused 2 := ⟨gws_at 1684 (by decide +kernel) rfl, gws_at 122 (by decide +kernel) rfl, by decide +kernel, Nat.le_of_ble_eq_true rfl⟩
def f_X12_refused (h : xa_H) (l0 : Nat) (l1 : Int32) (l2 : Int32) : Option (Int32 × xa_H) :=
  (ck [12] h l0).bind fun _ =>
  (gR [12] 34 h l0).bind fun x1 =>
  (aI h x1 l1).bind fun x2 =>
  (pI h x1 l1 (x2 + (1 : Int32))).bind fun h3 =>
  some (l2, h3)
set_option maxRecDepth 20000 in
theorem ev_X12_refused {G : xa_G} {h : xa_H} {l0 : Nat} {l1 : Int32} {l2 : Int32} {r : (Int32 × xa_H)} (hf : f_X12_refused h l0 l1 l2 = some r) : xa_Ev G M_X12_refused 0 [.ref l0, .int l1, .int l2] h (some (.int r.1)) r.2 := by
  refine xa_entry (by decide +kernel) (loc := [some (.ref l0), some (.int l1), some (.int l2)]) rfl (Nat.le_of_ble_eq_true rfl) ?_
  unfold f_X12_refused at hf
  obtain ⟨u0, eu0, hf⟩ := ob hf
  refine v_aload_n dX12_refused_0 rfl ?_
  obtain ⟨x1, ex1, hf⟩ := ob hf
  refine v_getR dX12_refused_1 fl_12_67 ex1 ?_
  refine v_iload_n dX12_refused_4 rfl ?_
  refine v_dup2 dX12_refused_5 rfl rfl ?_
  obtain ⟨x2, ex2, hf⟩ := ob hf
  refine v_ialoadI dX12_refused_6 ex2 ?_
  refine v_iconst dX12_refused_7 (by decide) (v := 1) ?_
  refine v_iadd dX12_refused_8 ?_
  obtain ⟨h3, eh3, hf⟩ := ob hf
  refine v_iastoreI dX12_refused_9 eh3 ?_
  refine v_iload_n dX12_refused_10 rfl ?_
  replace hf := Option.some.inj hf
  subst hf
  exact v_iret dX12_refused_11 rfl
theorem ckf_X12_refused {h : xa_H} {l0 : Nat} {l1 : Int32} {l2 : Int32} {r : (Int32 × xa_H)} (hf : f_X12_refused h l0 l1 l2 = some r) : ck [12] h l0 = some () := by
  obtain ⟨u, e, -⟩ := ob hf
  exact e
def M_X12_cross : xa_M := (yX12_cross, cX12_cross, 3, some .int)
theorem cb_X12_cross : xa_CB M_X12_cross 1 := ⟨gws_at 1680 (by decide +kernel) rfl, gws_at 122 (by decide +kernel) rfl, by decide +kernel, Nat.le_of_ble_eq_true rfl⟩
def f_X12_cross (h : xa_H) (l0 : Nat) (l1 : Int32) : Option (Int32 × xa_H) :=
  (ck [12] h l0).bind fun _ =>
  (xp [12] 0 h l0 (.int (0 : Int32))).bind fun h1 =>
  (f_X12_isHouse h1 l0 l1).bind fun q2 =>
  if q2 = 0 then
    (f_X12_refused h1 l0 (0 : Int32) (-1 : Int32)).bind fun q20 =>
    some (q20.1, q20.2)
  else
    (gR [12] 32 h1 l0).bind fun x4 =>
    (f_X12_stops h1 l0 x4 l1).bind fun q5 =>
    if q5.1 = (-1 : Int32) then
      (gR [12] 32 q5.2 l0).bind fun x7 =>
      (aI q5.2 x7 (49 : Int32)).bind fun x8 =>
      (f_X12_cost q5.2 l0 l1).bind fun q9 =>
      if q9.1 ≤ x8 then
        (gR [12] 32 q9.2 l0).bind fun x11 =>
        (aI q9.2 x11 (50 : Int32)).bind fun x12 =>
        if x12 = (9999 : Int32) then
          (f_X12_refused q9.2 l0 (5 : Int32) (-1 : Int32)).bind fun q17 =>
          some (q17.1, q17.2)
        else
          (f_X12_pays q9.2 l0 l1).bind fun q14 =>
          (gR [12] 32 q14 l0).bind fun x15 =>
          (aI q14 x15 ((36 : Int32) + l1)).bind fun x16 =>
          some (x16, q14)
      else
        (f_X12_refused q9.2 l0 (4 : Int32) (-1 : Int32)).bind fun q18 =>
        some (q18.1, q18.2)
    else
      (f_X12_refused q5.2 l0 q5.1 (-1 : Int32)).bind fun q19 =>
      some (q19.1, q19.2)
set_option maxRecDepth 20000 in
theorem ev_X12_cross {G : xa_G} {h : xa_H} {l0 : Nat} {l1 : Int32} {r : (Int32 × xa_H)} (hf : f_X12_cross h l0 l1 = some r) : xa_Ev G M_X12_cross 192 [.ref l0, .int l1] h (some (.int r.1)) r.2 := by
  refine xa_entry (by decide +kernel) (loc := [some (.ref l0), some (.int l1), none]) rfl (Nat.le_of_ble_eq_true rfl) ?_
  unfold f_X12_cross at hf
  obtain ⟨u0, eu0, hf⟩ := ob hf
  refine v_aload_n dX12_cross_0 rfl ?_
  refine v_iconst dX12_cross_1 (by decide) (v := 0) ?_
  obtain ⟨h1, eh1, hf⟩ := ob hf
  refine v_put dX12_cross_2 fp_12_111 (fun z => by cases z) (fun _ => rfl) (fun _ => rfl) eh1 ?_
  refine v_aload_n dX12_cross_5 rfl ?_
  refine v_iload_n dX12_cross_6 rfl ?_
  obtain ⟨q2, eq2, hf⟩ := ob hf
  refine v_callV dX12_cross_7 ⟨cb_X12_isHouse, ml_12_335, im_X12_isHouse⟩ se_12_X12_isHouse (ckf_X12_isHouse eq2) (ev_X12_isHouse eq2) (by decide) (As := [.int l1]) rfl (st := []) rfl (Nat.le_of_ble_eq_true rfl) rfl ?_
  refine v_if_ne dX12_cross_10 (tgt := 20) (by decide) (fun c3 => ?_) (fun c3 => ?_)
  · replace hf := (if_neg c3).symm.trans hf
    refine v_aload_n dX12_cross_20 rfl ?_
    refine v_aload_n dX12_cross_21 rfl ?_
    obtain ⟨x4, ex4, hf⟩ := ob hf
    refine v_getR dX12_cross_22 fl_12_61 ex4 ?_
    refine v_iload_n dX12_cross_25 rfl ?_
    obtain ⟨q5, eq5, hf⟩ := ob hf
    refine v_callV dX12_cross_26 ⟨cb_X12_stops, ml_12_338, im_X12_stops⟩ se_12_X12_stops (ckf_X12_stops eq5) (ev_X12_stops eq5) (by decide) (As := [.ref x4, .int l1]) rfl (st := []) rfl (Nat.le_of_ble_eq_true rfl) rfl ?_
    refine v_istore_n (i := 2) rfl dX12_cross_29 (Nat.le_of_ble_eq_true rfl) (loc' := [some (.ref l0), some (.int l1), some (.int q5.1)]) rfl ?_
    refine v_iload_n dX12_cross_30 rfl ?_
    refine v_iconst dX12_cross_31 (by decide) (v := -1) ?_
    refine v_icmp_eq dX12_cross_32 (tgt := 42) (by decide) (fun c6 => ?_) (fun c6 => ?_)
    · replace hf := (if_pos c6).symm.trans hf
      refine v_aload_n dX12_cross_42 rfl ?_
      obtain ⟨x7, ex7, hf⟩ := ob hf
      refine v_getR dX12_cross_43 fl_12_61 ex7 ?_
      refine v_bipush dX12_cross_46 (by decide) (v := 49) ?_
      obtain ⟨x8, ex8, hf⟩ := ob hf
      refine v_ialoadI dX12_cross_48 ex8 ?_
      refine v_aload_n dX12_cross_49 rfl ?_
      refine v_iload_n dX12_cross_50 rfl ?_
      obtain ⟨q9, eq9, hf⟩ := ob hf
      refine v_callV dX12_cross_51 ⟨cb_X12_cost, ml_12_377, im_X12_cost⟩ se_12_X12_cost (ckf_X12_cost eq9) (ev_X12_cost eq9) (by decide) (As := [.int l1]) rfl (st := [.int x8]) rfl (Nat.le_of_ble_eq_true rfl) rfl ?_
      refine v_icmp_ge dX12_cross_54 (tgt := 64) (by decide) (fun c10 => ?_) (fun c10 => ?_)
      · replace hf := (if_pos c10).symm.trans hf
        refine v_aload_n dX12_cross_64 rfl ?_
        obtain ⟨x11, ex11, hf⟩ := ob hf
        refine v_getR dX12_cross_65 fl_12_61 ex11 ?_
        refine v_bipush dX12_cross_68 (by decide) (v := 50) ?_
        obtain ⟨x12, ex12, hf⟩ := ob hf
        refine v_ialoadI dX12_cross_70 ex12 ?_
        refine v_sipush dX12_cross_71 (by decide) (v := 9999) ?_
        refine v_icmp_ne dX12_cross_74 (tgt := 84) (by decide) (fun c13 => ?_) (fun c13 => ?_)
        · replace hf := (if_neg c13).symm.trans hf
          refine v_aload_n dX12_cross_84 rfl ?_
          refine v_iload_n dX12_cross_85 rfl ?_
          obtain ⟨q14, eq14, hf⟩ := ob hf
          refine v_callV dX12_cross_86 ⟨cb_X12_pays, ml_12_400, im_X12_pays⟩ se_12_X12_pays (ckf_X12_pays eq14) (ev_X12_pays eq14) (by decide) (As := [.int l1]) rfl (st := []) rfl (Nat.le_of_ble_eq_true rfl) rfl ?_
          refine v_aload_n dX12_cross_89 rfl ?_
          obtain ⟨x15, ex15, hf⟩ := ob hf
          refine v_getR dX12_cross_90 fl_12_61 ex15 ?_
          refine v_bipush dX12_cross_93 (by decide) (v := 36) ?_
          refine v_iload_n dX12_cross_95 rfl ?_
          refine v_iadd dX12_cross_96 ?_
          obtain ⟨x16, ex16, hf⟩ := ob hf
          refine v_ialoadI dX12_cross_97 ex16 ?_
          replace hf := Option.some.inj hf
          subst hf
          exact v_iret dX12_cross_98 rfl
        · replace hf := (if_pos c13).symm.trans hf
          refine v_aload_n dX12_cross_77 rfl ?_
          refine v_iconst dX12_cross_78 (by decide) (v := 5) ?_
          refine v_iconst dX12_cross_79 (by decide) (v := -1) ?_
          obtain ⟨q17, eq17, hf⟩ := ob hf
          refine v_callV dX12_cross_80 ⟨cb_X12_refused, ml_12_397, im_X12_refused⟩ se_12_X12_refused (ckf_X12_refused eq17) (ev_X12_refused eq17) (by decide) (As := [.int (5 : Int32), .int (-1 : Int32)]) rfl (st := []) rfl (Nat.le_of_ble_eq_true rfl) rfl ?_
          replace hf := Option.some.inj hf
          subst hf
          exact v_iret dX12_cross_83 rfl
      · replace hf := (if_neg c10).symm.trans hf
        refine v_aload_n dX12_cross_57 rfl ?_
        refine v_iconst dX12_cross_58 (by decide) (v := 4) ?_
        refine v_iconst dX12_cross_59 (by decide) (v := -1) ?_
        obtain ⟨q18, eq18, hf⟩ := ob hf
        refine v_callV dX12_cross_60 ⟨cb_X12_refused, ml_12_397, im_X12_refused⟩ se_12_X12_refused (ckf_X12_refused eq18) (ev_X12_refused eq18) (by decide) (As := [.int (4 : Int32), .int (-1 : Int32)]) rfl (st := []) rfl (Nat.le_of_ble_eq_true rfl) rfl ?_
        replace hf := Option.some.inj hf
        subst hf
        exact v_iret dX12_cross_63 rfl
    · replace hf := (if_neg c6).symm.trans hf
      refine v_aload_n dX12_cross_35 rfl ?_
      refine v_iload_n dX12_cross_36 rfl ?_
      refine v_iconst dX12_cross_37 (by decide) (v := -1) ?_
      obtain ⟨q19, eq19, hf⟩ := ob hf
      refine v_callV dX12_cross_38 ⟨cb_X12_refused, ml_12_397, im_X12_refused⟩ se_12_X12_refused (ckf_X12_refused eq19) (ev_X12_refused eq19) (by decide) (As := [.int q5.1, .int (-1 : Int32)]) rfl (st := []) rfl (Nat.le_of_ble_eq_true rfl) rfl ?_
      replace hf := Option.some.inj hf
      subst hf
      exact v_iret dX12_cross_41 rfl
  · replace hf := (if_pos c3).symm.trans hf
    refine v_aload_n dX12_cross_13 rfl ?_
    refine v_iconst dX12_cross_14 (by decide) (v := 0) ?_
    refine v_iconst dX12_cross_15 (by decide) (v := -1) ?_
    obtain ⟨q20, eq20, hf⟩ := ob hf
    refine v_callV dX12_cross_16 ⟨cb_X12_refused, ml_12_397, im_X12_refused⟩ se_12_X12_refused (ckf_X12_refused eq20) (ev_X12_refused eq20) (by decide) (As := [.int (0 : Int32), .int (-1 : Int32)]) rfl (st := []) rfl (Nat.le_of_ble_eq_true rfl) rfl ?_
    replace hf := Option.some.inj hf
    subst hf
    exact v_iret dX12_cross_19 rfl
theorem ckf_X12_cross {h : xa_H} {l0 : Nat} {l1 : Int32} {r : (Int32 × xa_H)} (hf : f_X12_cross h l0 l1 = some r) : ck [12] h l0 = some () := by
  obtain ⟨u, e, -⟩ := ob hf
  exact e
def M_X12_draw : xa_M := (yX12_draw, cX12_draw, 2, some .int)
theorem cb_X12_draw : xa_CB M_X12_draw 1 := ⟨gws_at 1773 (by decide +kernel) rfl, gws_at 122 (by decide +kernel) rfl, by decide +kernel, Nat.le_of_ble_eq_true rfl⟩
def f_X12_draw (h : xa_H) (l0 : Nat) (l1 : Int32) : Option (Int32 × xa_H) :=
  (ck [12] h l0).bind fun _ =>
  (gL [12] 41 h l0).bind fun x1 =>
  (xp [12] 41 h l0 (.long ((x1 * (6364136223846793005 : Int64)) + (1442695040888963407 : Int64)))).bind fun h2 =>
  (gL [12] 41 h2 l0).bind fun x3 =>
  if l1.toInt64 = 0 then none else
  some (((lrem (lushr x3 (33 : Int32)) l1.toInt64)).toInt32, h2)
set_option maxRecDepth 20000 in
theorem ev_X12_draw {G : xa_G} {h : xa_H} {l0 : Nat} {l1 : Int32} {r : (Int32 × xa_H)} (hf : f_X12_draw h l0 l1 = some r) : xa_Ev G M_X12_draw 0 [.ref l0, .int l1] h (some (.int r.1)) r.2 := by
  refine xa_entry (by decide +kernel) (loc := [some (.ref l0), some (.int l1)]) rfl (Nat.le_of_ble_eq_true rfl) ?_
  unfold f_X12_draw at hf
  obtain ⟨u0, eu0, hf⟩ := ob hf
  refine v_aload_n dX12_draw_0 rfl ?_
  refine v_aload_n dX12_draw_1 rfl ?_
  obtain ⟨x1, ex1, hf⟩ := ob hf
  refine v_getL dX12_draw_2 fl_12_413 ex1 ?_
  refine v_ldc2 dX12_draw_5 rfl col_12_417 ?_
  refine v_lmul dX12_draw_8 ?_
  refine v_ldc2 dX12_draw_9 rfl col_12_419 ?_
  refine v_ladd dX12_draw_12 ?_
  obtain ⟨h2, eh2, hf⟩ := ob hf
  refine v_put dX12_draw_13 fp_12_413 (fun z => by cases z) (fun _ => rfl) (fun _ => rfl) eh2 ?_
  refine v_aload_n dX12_draw_16 rfl ?_
  obtain ⟨x3, ex3, hf⟩ := ob hf
  refine v_getL dX12_draw_17 fl_12_413 ex3 ?_
  refine v_bipush dX12_draw_20 (by decide) (v := 33) ?_
  refine w_lushr dX12_draw_22 ?_
  refine v_iload_n dX12_draw_23 rfl ?_
  refine v_i2l dX12_draw_24 ?_
  by_cases z4 : l1.toInt64 = 0
  · replace hf := (if_pos z4).symm.trans hf
    cases hf
  replace hf := (if_neg z4).symm.trans hf
  refine w_lrem dX12_draw_25 z4 ?_
  refine v_l2i dX12_draw_26 ?_
  replace hf := Option.some.inj hf
  subst hf
  exact v_iret dX12_draw_27 rfl
theorem ckf_X12_draw {h : xa_H} {l0 : Nat} {l1 : Int32} {r : (Int32 × xa_H)} (hf : f_X12_draw h l0 l1 = some r) : ck [12] h l0 = some () := by
  obtain ⟨u, e, -⟩ := ob hf
  exact e
def M_X12_end : xa_M := (yX12_end, cX12_end, 2, some .boolean)
theorem cb_X12_end : xa_CB M_X12_end 1 := ⟨gws_at 1487 (by decide +kernel) rfl, gws_at 122 (by decide +kernel) rfl, by decide +kernel, Nat.le_of_ble_eq_true rfl⟩
def f_X12_end (h : xa_H) (l0 : Nat) (l1 : Int32) : Option (Int32 × xa_H) :=
  (ck [12] h l0).bind fun _ =>
  (xp [12] 0 h l0 (.int (0 : Int32))).bind fun h1 =>
  if l1 < 0 then
    some ((0 : Int32), h1)
  else
    (gI [12] 6 h1 l0).bind fun x3 =>
    if l1 ≤ x3 then
      (xp [12] 6 h1 l0 (.int l1)).bind fun h5 =>
      some ((1 : Int32), h5)
    else
      some ((0 : Int32), h1)
set_option maxRecDepth 20000 in
theorem ev_X12_end {G : xa_G} {h : xa_H} {l0 : Nat} {l1 : Int32} {r : (Int32 × xa_H)} (hf : f_X12_end h l0 l1 = some r) : xa_Ev G M_X12_end 0 [.ref l0, .int l1] h (some (.int r.1)) r.2 := by
  refine xa_entry (by decide +kernel) (loc := [some (.ref l0), some (.int l1)]) rfl (Nat.le_of_ble_eq_true rfl) ?_
  unfold f_X12_end at hf
  obtain ⟨u0, eu0, hf⟩ := ob hf
  refine v_aload_n dX12_end_0 rfl ?_
  refine v_iconst dX12_end_1 (by decide) (v := 0) ?_
  obtain ⟨h1, eh1, hf⟩ := ob hf
  refine v_put dX12_end_2 fp_12_111 (fun z => by cases z) (fun _ => rfl) (fun _ => rfl) eh1 ?_
  refine v_iload_n dX12_end_5 rfl ?_
  refine v_if_lt dX12_end_6 (tgt := 17) (by decide) (fun c2 => ?_) (fun c2 => ?_)
  · replace hf := (if_pos c2).symm.trans hf
    refine v_iconst dX12_end_17 (by decide) (v := 0) ?_
    replace hf := Option.some.inj hf
    subst hf
    exact v_zret dX12_end_18 rfl (by decide)
  · replace hf := (if_neg c2).symm.trans hf
    refine v_iload_n dX12_end_9 rfl ?_
    refine v_aload_n dX12_end_10 rfl ?_
    obtain ⟨x3, ex3, hf⟩ := ob hf
    refine v_getI dX12_end_11 fl_12_124 ex3 ?_
    refine v_icmp_le dX12_end_14 (tgt := 19) (by decide) (fun c4 => ?_) (fun c4 => ?_)
    · replace hf := (if_pos c4).symm.trans hf
      refine v_aload_n dX12_end_19 rfl ?_
      refine v_iload_n dX12_end_20 rfl ?_
      obtain ⟨h5, eh5, hf⟩ := ob hf
      refine v_put dX12_end_21 fp_12_124 (fun z => by cases z) (fun _ => rfl) (fun _ => rfl) eh5 ?_
      refine v_iconst dX12_end_24 (by decide) (v := 1) ?_
      replace hf := Option.some.inj hf
      subst hf
      exact v_zret dX12_end_25 rfl (by decide)
    · replace hf := (if_neg c4).symm.trans hf
      refine v_iconst dX12_end_17 (by decide) (v := 0) ?_
      replace hf := Option.some.inj hf
      subst hf
      exact v_zret dX12_end_18 rfl (by decide)
theorem ckf_X12_end {h : xa_H} {l0 : Nat} {l1 : Int32} {r : (Int32 × xa_H)} (hf : f_X12_end h l0 l1 = some r) : ck [12] h l0 = some () := by
  obtain ⟨u, e, -⟩ := ob hf
  exact e
def M_X12_here : xa_M := (yX12_here, cX12_here, 1, some .int)
theorem cb_X12_here : xa_CB M_X12_here 0 := ⟨gws_at 1549 (by decide +kernel) rfl, gws_at 122 (by decide +kernel) rfl, by decide +kernel, Nat.le_of_ble_eq_true rfl⟩
def f_X12_here (h : xa_H) (l0 : Nat) : Option Int32 :=
  (ck [12] h l0).bind fun _ =>
  (gI [12] 10 h l0).bind fun x1 =>
  (gI [12] 9 h l0).bind fun x2 =>
  if x2 ≤ x1 then
    some (-1 : Int32)
  else
    (gR [12] 5 h l0).bind fun x4 =>
    (gI [12] 8 h l0).bind fun x5 =>
    (gI [12] 10 h l0).bind fun x6 =>
    (aB h x4 (x5 + x6)).bind fun x7 =>
    some (x7 &&& (255 : Int32))
set_option maxRecDepth 20000 in
theorem ev_X12_here {G : xa_G} {h : xa_H} {l0 : Nat} {r : Int32} (hf : f_X12_here h l0 = some r) : xa_Ev G M_X12_here 0 [.ref l0] h (some (.int r)) h := by
  refine xa_entry (by decide +kernel) (loc := [some (.ref l0)]) rfl (Nat.le_of_ble_eq_true rfl) ?_
  unfold f_X12_here at hf
  obtain ⟨u0, eu0, hf⟩ := ob hf
  refine v_aload_n dX12_here_0 rfl ?_
  obtain ⟨x1, ex1, hf⟩ := ob hf
  refine v_getI dX12_here_1 fl_12_134 ex1 ?_
  refine v_aload_n dX12_here_4 rfl ?_
  obtain ⟨x2, ex2, hf⟩ := ob hf
  refine v_getI dX12_here_5 fl_12_137 ex2 ?_
  refine v_icmp_ge dX12_here_8 (tgt := 32) (by decide) (fun c3 => ?_) (fun c3 => ?_)
  · replace hf := (if_pos c3).symm.trans hf
    refine v_iconst dX12_here_32 (by decide) (v := -1) ?_
    replace hf := Option.some.inj hf
    subst hf
    exact v_iret dX12_here_33 rfl
  · replace hf := (if_neg c3).symm.trans hf
    refine v_aload_n dX12_here_11 rfl ?_
    obtain ⟨x4, ex4, hf⟩ := ob hf
    refine v_getR dX12_here_12 fl_12_23 ex4 ?_
    refine v_aload_n dX12_here_15 rfl ?_
    obtain ⟨x5, ex5, hf⟩ := ob hf
    refine v_getI dX12_here_16 fl_12_140 ex5 ?_
    refine v_aload_n dX12_here_19 rfl ?_
    obtain ⟨x6, ex6, hf⟩ := ob hf
    refine v_getI dX12_here_20 fl_12_134 ex6 ?_
    refine v_iadd dX12_here_23 ?_
    obtain ⟨x7, ex7, hf⟩ := ob hf
    refine v_baloadB dX12_here_24 ex7 ?_
    refine v_sipush dX12_here_25 (by decide) (v := 255) ?_
    refine v_iand dX12_here_28 ?_
    refine v_goto dX12_here_29 (tgt := 33) (by decide) ?_
    replace hf := Option.some.inj hf
    subst hf
    exact v_iret dX12_here_33 rfl
theorem ckf_X12_here {h : xa_H} {l0 : Nat} {r : Int32} (hf : f_X12_here h l0 = some r) : ck [12] h l0 = some () := by
  obtain ⟨u, e, -⟩ := ob hf
  exact e
def M_X12_readSong : xa_M := (yX12_readSong, cX12_readSong, 3, none)
theorem cb_X12_readSong : xa_CB M_X12_readSong 0 := ⟨gws_at 1621 (by decide +kernel) rfl, gws_at 122 (by decide +kernel) rfl, by decide +kernel, Nat.le_of_ble_eq_true rfl⟩
def f_X12_readSong_b92 (h : xa_H) (l0 : Nat) : Option xa_H :=
  (f_X12_fails h l0).bind fun q1 =>
  some q1.2
set_option maxRecDepth 20000 in
theorem e_X12_readSong_b92 {G : xa_G} : ∀ (h : xa_H) (l0 : Nat) (r : xa_H), f_X12_readSong_b92 h l0 = some r → xa_V G M_X12_readSong 1 92 [some (.ref l0), none, none] [] h none r := by
  intro h l0 r hf
  unfold f_X12_readSong_b92 at hf
  refine v_aload_n dX12_readSong_92 rfl ?_
  obtain ⟨q1, eq1, hf⟩ := ob hf
  refine v_callV dX12_readSong_93 ⟨cb_X12_fails, ml_12_149, im_X12_fails⟩ se_12_X12_fails (ckf_X12_fails eq1) (ev_X12_fails eq1) (by decide) (As := []) rfl (st := []) rfl (Nat.le_of_ble_eq_true rfl) rfl ?_
  refine v_pop dX12_readSong_96 rfl ?_
  replace hf := Option.some.inj hf
  subst hf
  exact v_vret dX12_readSong_97 rfl
def f_X12_readSong_b20 : Nat → xa_H → Nat → Int32 → Int32 → Option xa_H
  | 0, _, _, _, _ => none
  | n + 1, h, l0, l1, l2 =>
    (f_X12_isDigit h l0).bind fun q1 =>
    if q1 = 0 then
      (gR [12] 25 h l0).bind fun x3 =>
      (pI h x3 (4 : Int32) l1).bind fun h4 =>
      if l1 = 0 then
        f_X12_readSong_b92 h4 l0
      else
        if l2 = (-1 : Int32) then
          some h4
        else
          f_X12_readSong_b92 h4 l0
    else
      if l1 = (16 : Int32) then
        (f_X12_fails h l0).bind fun q14 =>
        some q14.2
      else
        (gR [12] 24 h l0).bind fun x8 =>
        (f_X12_here h l0).bind fun q9 =>
        (pI h x8 ((64 : Int32) + l1) (q9 - (48 : Int32))).bind fun h10 =>
        (gI [12] 10 h10 l0).bind fun x11 =>
        (xp [12] 10 h10 l0 (.int (x11 + (1 : Int32)))).bind fun h12 =>
        (f_X12_look h12 l0).bind fun q13 =>
        f_X12_readSong_b20 n q13.2 l0 (l1 + (1 : Int32)) q13.1
set_option maxRecDepth 20000 in
theorem e_X12_readSong_b20 {G : xa_G} : ∀ (n : Nat) (h : xa_H) (l0 : Nat) (l1 : Int32) (l2 : Int32) (r : xa_H), f_X12_readSong_b20 n h l0 l1 l2 = some r → xa_V G M_X12_readSong 1 20 [some (.ref l0), some (.int l1), some (.int l2)] [] h none r := by
  intro n
  induction n with
  | zero =>
    intro h l0 l1 l2 r hf
    cases (show (none : Option xa_H) = some r from hf)
  | succ n ih =>
    intro h l0 l1 l2 r hf
    rw [f_X12_readSong_b20] at hf
    refine v_aload_n dX12_readSong_20 rfl ?_
    obtain ⟨q1, eq1, hf⟩ := ob hf
    refine v_callV dX12_readSong_21 ⟨cb_X12_isDigit, ml_12_183, im_X12_isDigit⟩ se_12_X12_isDigit (ckf_X12_isDigit eq1) (ev_X12_isDigit eq1) (by decide) (As := []) rfl (st := []) rfl (Nat.le_of_ble_eq_true rfl) rfl ?_
    refine v_if_eq dX12_readSong_24 (tgt := 76) (by decide) (fun c2 => ?_) (fun c2 => ?_)
    · replace hf := (if_pos c2).symm.trans hf
      refine v_aload_n dX12_readSong_76 rfl ?_
      obtain ⟨x3, ex3, hf⟩ := ob hf
      refine v_getR dX12_readSong_77 fl_12_58 ex3 ?_
      refine v_iconst dX12_readSong_80 (by decide) (v := 4) ?_
      refine v_iload_n dX12_readSong_81 rfl ?_
      obtain ⟨h4, eh4, hf⟩ := ob hf
      refine v_iastoreI dX12_readSong_82 eh4 ?_
      refine v_iload_n dX12_readSong_83 rfl ?_
      refine v_if_eq dX12_readSong_84 (tgt := 92) (by decide) (fun c5 => ?_) (fun c5 => ?_)
      · replace hf := (if_pos c5).symm.trans hf
        exact xa_weak (loc := [some (.ref l0), none, none]) ⟨rfl, trivial⟩ (e_X12_readSong_b92 h4 l0 r hf)
      · replace hf := (if_neg c5).symm.trans hf
        refine v_iload_n dX12_readSong_87 rfl ?_
        refine v_iconst dX12_readSong_88 (by decide) (v := -1) ?_
        refine v_icmp_eq dX12_readSong_89 (tgt := 97) (by decide) (fun c6 => ?_) (fun c6 => ?_)
        · replace hf := (if_pos c6).symm.trans hf
          replace hf := Option.some.inj hf
          subst hf
          exact v_vret dX12_readSong_97 rfl
        · replace hf := (if_neg c6).symm.trans hf
          exact xa_weak (loc := [some (.ref l0), none, none]) ⟨rfl, trivial⟩ (e_X12_readSong_b92 h4 l0 r hf)
    · replace hf := (if_neg c2).symm.trans hf
      refine v_iload_n dX12_readSong_27 rfl ?_
      refine v_bipush dX12_readSong_28 (by decide) (v := 16) ?_
      refine v_icmp_ne dX12_readSong_30 (tgt := 39) (by decide) (fun c7 => ?_) (fun c7 => ?_)
      · replace hf := (if_neg c7).symm.trans hf
        refine v_aload_n dX12_readSong_39 rfl ?_
        obtain ⟨x8, ex8, hf⟩ := ob hf
        refine v_getR dX12_readSong_40 fl_12_55 ex8 ?_
        refine v_bipush dX12_readSong_43 (by decide) (v := 64) ?_
        refine v_iload_n dX12_readSong_45 rfl ?_
        refine v_iadd dX12_readSong_46 ?_
        refine v_aload_n dX12_readSong_47 rfl ?_
        obtain ⟨q9, eq9, hf⟩ := ob hf
        refine v_callV dX12_readSong_48 ⟨cb_X12_here, ml_12_229, im_X12_here⟩ se_12_X12_here (ckf_X12_here eq9) (ev_X12_here eq9) (by decide) (As := []) rfl (st := [.int ((64 : Int32) + l1), .ref x8]) rfl (Nat.le_of_ble_eq_true rfl) rfl ?_
        refine v_bipush dX12_readSong_51 (by decide) (v := 48) ?_
        refine v_isub dX12_readSong_53 ?_
        obtain ⟨h10, eh10, hf⟩ := ob hf
        refine v_iastoreI dX12_readSong_54 eh10 ?_
        refine v_iinc dX12_readSong_55 rfl (v := (l1 + (1 : Int32))) rfl (Nat.le_of_ble_eq_true rfl) (loc' := [some (.ref l0), some (.int (l1 + (1 : Int32))), some (.int l2)]) rfl ?_
        refine v_aload_n dX12_readSong_58 rfl ?_
        refine v_dup dX12_readSong_59 rfl ?_
        obtain ⟨x11, ex11, hf⟩ := ob hf
        refine v_getI dX12_readSong_60 fl_12_134 ex11 ?_
        refine v_iconst dX12_readSong_63 (by decide) (v := 1) ?_
        refine v_iadd dX12_readSong_64 ?_
        obtain ⟨h12, eh12, hf⟩ := ob hf
        refine v_put dX12_readSong_65 fp_12_134 (fun z => by cases z) (fun _ => rfl) (fun _ => rfl) eh12 ?_
        refine v_aload_n dX12_readSong_68 rfl ?_
        obtain ⟨q13, eq13, hf⟩ := ob hf
        refine v_callV dX12_readSong_69 ⟨cb_X12_look, ml_12_153, im_X12_look⟩ se_12_X12_look (ckf_X12_look eq13) (ev_X12_look eq13) (by decide) (As := []) rfl (st := []) rfl (Nat.le_of_ble_eq_true rfl) rfl ?_
        refine v_istore_n (i := 2) rfl dX12_readSong_72 (Nat.le_of_ble_eq_true rfl) (loc' := [some (.ref l0), some (.int (l1 + (1 : Int32))), some (.int q13.1)]) rfl ?_
        refine v_goto dX12_readSong_73 (tgt := 20) (by decide) ?_
        exact ih q13.2 l0 (l1 + (1 : Int32)) q13.1 r hf
      · replace hf := (if_pos c7).symm.trans hf
        refine v_aload_n dX12_readSong_33 rfl ?_
        obtain ⟨q14, eq14, hf⟩ := ob hf
        refine v_callV dX12_readSong_34 ⟨cb_X12_fails, ml_12_149, im_X12_fails⟩ se_12_X12_fails (ckf_X12_fails eq14) (ev_X12_fails eq14) (by decide) (As := []) rfl (st := []) rfl (Nat.le_of_ble_eq_true rfl) rfl ?_
        refine v_pop dX12_readSong_37 rfl ?_
        replace hf := Option.some.inj hf
        subst hf
        exact v_vret dX12_readSong_38 rfl
def f_X12_readSong (h : xa_H) (l0 : Nat) : Option xa_H :=
  (ck [12] h l0).bind fun _ =>
  (gR [12] 1 h l0).bind fun x1 =>
  (gI [12] 6 h l0).bind fun x2 =>
  (f_X12_starts h l0 x1 (0 : Int32) x2).bind fun q3 =>
  (f_X12_look q3 l0).bind fun q4 =>
  f_X12_readSong_b20 1048576 q4.2 l0 (0 : Int32) q4.1
set_option maxRecDepth 20000 in
theorem ev_X12_readSong {G : xa_G} {h : xa_H} {l0 : Nat} {r : xa_H} (hf : f_X12_readSong h l0 = some r) : xa_Ev G M_X12_readSong 1 [.ref l0] h none r := by
  refine xa_entry (by decide +kernel) (loc := [some (.ref l0), none, none]) rfl (Nat.le_of_ble_eq_true rfl) ?_
  unfold f_X12_readSong at hf
  obtain ⟨u0, eu0, hf⟩ := ob hf
  refine v_aload_n dX12_readSong_0 rfl ?_
  refine v_aload_n dX12_readSong_1 rfl ?_
  obtain ⟨x1, ex1, hf⟩ := ob hf
  refine v_getR dX12_readSong_2 fl_12_9 ex1 ?_
  refine v_iconst dX12_readSong_5 (by decide) (v := 0) ?_
  refine v_aload_n dX12_readSong_6 rfl ?_
  obtain ⟨x2, ex2, hf⟩ := ob hf
  refine v_getI dX12_readSong_7 fl_12_124 ex2 ?_
  obtain ⟨q3, eq3, hf⟩ := ob hf
  refine v_callV dX12_readSong_10 ⟨cb_X12_starts, ml_12_222, im_X12_starts⟩ se_12_X12_starts (ckf_X12_starts eq3) (ev_X12_starts eq3) (by decide) (As := [.ref x1, .int (0 : Int32), .int x2]) rfl (st := []) rfl (Nat.le_of_ble_eq_true rfl) rfl ?_
  refine v_iconst dX12_readSong_13 (by decide) (v := 0) ?_
  refine v_istore_n (i := 1) rfl dX12_readSong_14 (Nat.le_of_ble_eq_true rfl) (loc' := [some (.ref l0), some (.int (0 : Int32)), none]) rfl ?_
  refine v_aload_n dX12_readSong_15 rfl ?_
  obtain ⟨q4, eq4, hf⟩ := ob hf
  refine v_callV dX12_readSong_16 ⟨cb_X12_look, ml_12_153, im_X12_look⟩ se_12_X12_look (ckf_X12_look eq4) (ev_X12_look eq4) (by decide) (As := []) rfl (st := []) rfl (Nat.le_of_ble_eq_true rfl) rfl ?_
  refine v_istore_n (i := 2) rfl dX12_readSong_19 (Nat.le_of_ble_eq_true rfl) (loc' := [some (.ref l0), some (.int (0 : Int32)), some (.int q4.1)]) rfl ?_
  exact e_X12_readSong_b20 1048576 q4.2 l0 (0 : Int32) q4.1 r hf
theorem ckf_X12_readSong {h : xa_H} {l0 : Nat} {r : xa_H} (hf : f_X12_readSong h l0 = some r) : ck [12] h l0 = some () := by
  obtain ⟨u, e, -⟩ := ob hf
  exact e
def M_X12_readBetween : xa_M := (yX12_readBetween, cX12_readBetween, 5, some .int)
theorem cb_X12_readBetween : xa_CB M_X12_readBetween 2 := ⟨gws_at 1559 (by decide +kernel) rfl, gws_at 122 (by decide +kernel) rfl, by decide +kernel, Nat.le_of_ble_eq_true rfl⟩
def f_X12_readBetween_b88 (k5 : xa_H → Nat → Int32 → Int32 → Int32 → Int32 → Option Int32) (h : xa_H) (l0 : Nat) (l1 : Int32) (l2 : Int32) (l3 : Int32) (l4 : Int32) : Option Int32 :=
  k5 h l0 l1 l2 l3 (l4 + (3 : Int32))
set_option maxRecDepth 20000 in
theorem e_X12_readBetween_b88 {G : xa_G} {k5 : xa_H → Nat → Int32 → Int32 → Int32 → Int32 → Option Int32} (hk5 : ∀ (h : xa_H) (l0 : Nat) (l1 : Int32) (l2 : Int32) (l3 : Int32) (l4 : Int32) (r : Int32), k5 h l0 l1 l2 l3 l4 = some r → xa_V G M_X12_readBetween 0 5 [some (.ref l0), some (.int l1), some (.int l2), some (.int l3), some (.int l4)] [] h (some (.int r)) h) : ∀ (h : xa_H) (l0 : Nat) (l1 : Int32) (l2 : Int32) (l3 : Int32) (l4 : Int32) (r : Int32), f_X12_readBetween_b88 k5 h l0 l1 l2 l3 l4 = some r → xa_V G M_X12_readBetween 0 88 [some (.ref l0), some (.int l1), some (.int l2), some (.int l3), some (.int l4)] [] h (some (.int r)) h := by
  intro h l0 l1 l2 l3 l4 r hf
  unfold f_X12_readBetween_b88 at hf
  refine v_iinc dX12_readBetween_88 rfl (v := (l4 + (3 : Int32))) rfl (Nat.le_of_ble_eq_true rfl) (loc' := [some (.ref l0), some (.int l1), some (.int l2), some (.int l3), some (.int (l4 + (3 : Int32)))]) rfl ?_
  refine v_goto dX12_readBetween_91 (tgt := 5) (by decide) ?_
  exact hk5 h l0 l1 l2 l3 (l4 + (3 : Int32)) r hf
def f_X12_readBetween_b52 (k5 : xa_H → Nat → Int32 → Int32 → Int32 → Int32 → Option Int32) (h : xa_H) (l0 : Nat) (l1 : Int32) (l2 : Int32) (l3 : Int32) (l4 : Int32) : Option Int32 :=
  (gR [12] 23 h l0).bind fun x1 =>
  (aI h x1 l4).bind fun x2 =>
  if x2 = l2 then
    (gR [12] 23 h l0).bind fun x4 =>
    (aI h x4 (l4 + (1 : Int32))).bind fun x5 =>
    if x5 = l1 then
      (gR [12] 23 h l0).bind fun x7 =>
      (aI h x7 (l4 + (2 : Int32))).bind fun x8 =>
      f_X12_readBetween_b88 k5 h l0 l1 l2 (l3 - x8) l4
    else
      f_X12_readBetween_b88 k5 h l0 l1 l2 l3 l4
  else
    f_X12_readBetween_b88 k5 h l0 l1 l2 l3 l4
set_option maxRecDepth 20000 in
theorem e_X12_readBetween_b52 {G : xa_G} {k5 : xa_H → Nat → Int32 → Int32 → Int32 → Int32 → Option Int32} (hk5 : ∀ (h : xa_H) (l0 : Nat) (l1 : Int32) (l2 : Int32) (l3 : Int32) (l4 : Int32) (r : Int32), k5 h l0 l1 l2 l3 l4 = some r → xa_V G M_X12_readBetween 0 5 [some (.ref l0), some (.int l1), some (.int l2), some (.int l3), some (.int l4)] [] h (some (.int r)) h) : ∀ (h : xa_H) (l0 : Nat) (l1 : Int32) (l2 : Int32) (l3 : Int32) (l4 : Int32) (r : Int32), f_X12_readBetween_b52 k5 h l0 l1 l2 l3 l4 = some r → xa_V G M_X12_readBetween 0 52 [some (.ref l0), some (.int l1), some (.int l2), some (.int l3), some (.int l4)] [] h (some (.int r)) h := by
  intro h l0 l1 l2 l3 l4 r hf
  unfold f_X12_readBetween_b52 at hf
  refine v_aload_n dX12_readBetween_52 rfl ?_
  obtain ⟨x1, ex1, hf⟩ := ob hf
  refine v_getR dX12_readBetween_53 fl_12_52 ex1 ?_
  refine v_iload dX12_readBetween_56 rfl ?_
  obtain ⟨x2, ex2, hf⟩ := ob hf
  refine v_ialoadI dX12_readBetween_58 ex2 ?_
  refine v_iload_n dX12_readBetween_59 rfl ?_
  refine v_icmp_ne dX12_readBetween_60 (tgt := 88) (by decide) (fun c3 => ?_) (fun c3 => ?_)
  · replace hf := (if_neg c3).symm.trans hf
    exact e_X12_readBetween_b88 hk5 h l0 l1 l2 l3 l4 r hf
  · replace hf := (if_pos c3).symm.trans hf
    refine v_aload_n dX12_readBetween_63 rfl ?_
    obtain ⟨x4, ex4, hf⟩ := ob hf
    refine v_getR dX12_readBetween_64 fl_12_52 ex4 ?_
    refine v_iload dX12_readBetween_67 rfl ?_
    refine v_iconst dX12_readBetween_69 (by decide) (v := 1) ?_
    refine v_iadd dX12_readBetween_70 ?_
    obtain ⟨x5, ex5, hf⟩ := ob hf
    refine v_ialoadI dX12_readBetween_71 ex5 ?_
    refine v_iload_n dX12_readBetween_72 rfl ?_
    refine v_icmp_ne dX12_readBetween_73 (tgt := 88) (by decide) (fun c6 => ?_) (fun c6 => ?_)
    · replace hf := (if_neg c6).symm.trans hf
      exact e_X12_readBetween_b88 hk5 h l0 l1 l2 l3 l4 r hf
    · replace hf := (if_pos c6).symm.trans hf
      refine v_iload_n dX12_readBetween_76 rfl ?_
      refine v_aload_n dX12_readBetween_77 rfl ?_
      obtain ⟨x7, ex7, hf⟩ := ob hf
      refine v_getR dX12_readBetween_78 fl_12_52 ex7 ?_
      refine v_iload dX12_readBetween_81 rfl ?_
      refine v_iconst dX12_readBetween_83 (by decide) (v := 2) ?_
      refine v_iadd dX12_readBetween_84 ?_
      obtain ⟨x8, ex8, hf⟩ := ob hf
      refine v_ialoadI dX12_readBetween_85 ex8 ?_
      refine v_isub dX12_readBetween_86 ?_
      refine v_istore_n (i := 3) rfl dX12_readBetween_87 (Nat.le_of_ble_eq_true rfl) (loc' := [some (.ref l0), some (.int l1), some (.int l2), some (.int (l3 - x8)), some (.int l4)]) rfl ?_
      exact e_X12_readBetween_b88 hk5 h l0 l1 l2 (l3 - x8) l4 r hf
def f_X12_readBetween_b5 : Nat → xa_H → Nat → Int32 → Int32 → Int32 → Int32 → Option Int32
  | 0, _, _, _, _, _, _ => none
  | n + 1, h, l0, l1, l2, l3, l4 =>
    (gI [12] 29 h l0).bind fun x1 =>
    if ((3 : Int32) * x1) ≤ l4 then
      some l3
    else
      (gR [12] 23 h l0).bind fun x3 =>
      (aI h x3 l4).bind fun x4 =>
      if x4 = l1 then
        (gR [12] 23 h l0).bind fun x6 =>
        (aI h x6 (l4 + (1 : Int32))).bind fun x7 =>
        if x7 = l2 then
          (gR [12] 23 h l0).bind fun x9 =>
          (aI h x9 (l4 + (2 : Int32))).bind fun x10 =>
          f_X12_readBetween_b52 (fun h l0 l1 l2 l3 l4 => f_X12_readBetween_b5 n h l0 l1 l2 l3 l4) h l0 l1 l2 (l3 + x10) l4
        else
          f_X12_readBetween_b52 (fun h l0 l1 l2 l3 l4 => f_X12_readBetween_b5 n h l0 l1 l2 l3 l4) h l0 l1 l2 l3 l4
      else
        f_X12_readBetween_b52 (fun h l0 l1 l2 l3 l4 => f_X12_readBetween_b5 n h l0 l1 l2 l3 l4) h l0 l1 l2 l3 l4
set_option maxRecDepth 20000 in
theorem e_X12_readBetween_b5 {G : xa_G} : ∀ (n : Nat) (h : xa_H) (l0 : Nat) (l1 : Int32) (l2 : Int32) (l3 : Int32) (l4 : Int32) (r : Int32), f_X12_readBetween_b5 n h l0 l1 l2 l3 l4 = some r → xa_V G M_X12_readBetween 0 5 [some (.ref l0), some (.int l1), some (.int l2), some (.int l3), some (.int l4)] [] h (some (.int r)) h := by
  intro n
  induction n with
  | zero =>
    intro h l0 l1 l2 l3 l4 r hf
    cases (show (none : Option Int32) = some r from hf)
  | succ n ih =>
    intro h l0 l1 l2 l3 l4 r hf
    rw [f_X12_readBetween_b5] at hf
    refine v_iload dX12_readBetween_5 rfl ?_
    refine v_iconst dX12_readBetween_7 (by decide) (v := 3) ?_
    refine v_aload_n dX12_readBetween_8 rfl ?_
    obtain ⟨x1, ex1, hf⟩ := ob hf
    refine v_getI dX12_readBetween_9 fl_12_263 ex1 ?_
    refine v_imul dX12_readBetween_12 ?_
    refine v_icmp_ge dX12_readBetween_13 (tgt := 94) (by decide) (fun c2 => ?_) (fun c2 => ?_)
    · replace hf := (if_pos c2).symm.trans hf
      refine v_iload_n dX12_readBetween_94 rfl ?_
      replace hf := Option.some.inj hf
      subst hf
      exact v_iret dX12_readBetween_95 rfl
    · replace hf := (if_neg c2).symm.trans hf
      refine v_aload_n dX12_readBetween_16 rfl ?_
      obtain ⟨x3, ex3, hf⟩ := ob hf
      refine v_getR dX12_readBetween_17 fl_12_52 ex3 ?_
      refine v_iload dX12_readBetween_20 rfl ?_
      obtain ⟨x4, ex4, hf⟩ := ob hf
      refine v_ialoadI dX12_readBetween_22 ex4 ?_
      refine v_iload_n dX12_readBetween_23 rfl ?_
      refine v_icmp_ne dX12_readBetween_24 (tgt := 52) (by decide) (fun c5 => ?_) (fun c5 => ?_)
      · replace hf := (if_neg c5).symm.trans hf
        exact e_X12_readBetween_b52 ih h l0 l1 l2 l3 l4 r hf
      · replace hf := (if_pos c5).symm.trans hf
        refine v_aload_n dX12_readBetween_27 rfl ?_
        obtain ⟨x6, ex6, hf⟩ := ob hf
        refine v_getR dX12_readBetween_28 fl_12_52 ex6 ?_
        refine v_iload dX12_readBetween_31 rfl ?_
        refine v_iconst dX12_readBetween_33 (by decide) (v := 1) ?_
        refine v_iadd dX12_readBetween_34 ?_
        obtain ⟨x7, ex7, hf⟩ := ob hf
        refine v_ialoadI dX12_readBetween_35 ex7 ?_
        refine v_iload_n dX12_readBetween_36 rfl ?_
        refine v_icmp_ne dX12_readBetween_37 (tgt := 52) (by decide) (fun c8 => ?_) (fun c8 => ?_)
        · replace hf := (if_neg c8).symm.trans hf
          exact e_X12_readBetween_b52 ih h l0 l1 l2 l3 l4 r hf
        · replace hf := (if_pos c8).symm.trans hf
          refine v_iload_n dX12_readBetween_40 rfl ?_
          refine v_aload_n dX12_readBetween_41 rfl ?_
          obtain ⟨x9, ex9, hf⟩ := ob hf
          refine v_getR dX12_readBetween_42 fl_12_52 ex9 ?_
          refine v_iload dX12_readBetween_45 rfl ?_
          refine v_iconst dX12_readBetween_47 (by decide) (v := 2) ?_
          refine v_iadd dX12_readBetween_48 ?_
          obtain ⟨x10, ex10, hf⟩ := ob hf
          refine v_ialoadI dX12_readBetween_49 ex10 ?_
          refine v_iadd dX12_readBetween_50 ?_
          refine v_istore_n (i := 3) rfl dX12_readBetween_51 (Nat.le_of_ble_eq_true rfl) (loc' := [some (.ref l0), some (.int l1), some (.int l2), some (.int (l3 + x10)), some (.int l4)]) rfl ?_
          exact e_X12_readBetween_b52 ih h l0 l1 l2 (l3 + x10) l4 r hf
def f_X12_readBetween (h : xa_H) (l0 : Nat) (l1 : Int32) (l2 : Int32) : Option Int32 :=
  (ck [12] h l0).bind fun _ =>
  f_X12_readBetween_b5 1048576 h l0 l1 l2 (0 : Int32) (0 : Int32)
set_option maxRecDepth 20000 in
theorem ev_X12_readBetween {G : xa_G} {h : xa_H} {l0 : Nat} {l1 : Int32} {l2 : Int32} {r : Int32} (hf : f_X12_readBetween h l0 l1 l2 = some r) : xa_Ev G M_X12_readBetween 0 [.ref l0, .int l1, .int l2] h (some (.int r)) h := by
  refine xa_entry (by decide +kernel) (loc := [some (.ref l0), some (.int l1), some (.int l2), none, none]) rfl (Nat.le_of_ble_eq_true rfl) ?_
  unfold f_X12_readBetween at hf
  obtain ⟨u0, eu0, hf⟩ := ob hf
  refine v_iconst dX12_readBetween_0 (by decide) (v := 0) ?_
  refine v_istore_n (i := 3) rfl dX12_readBetween_1 (Nat.le_of_ble_eq_true rfl) (loc' := [some (.ref l0), some (.int l1), some (.int l2), some (.int (0 : Int32)), none]) rfl ?_
  refine v_iconst dX12_readBetween_2 (by decide) (v := 0) ?_
  refine v_istore dX12_readBetween_3 (Nat.le_of_ble_eq_true rfl) (loc' := [some (.ref l0), some (.int l1), some (.int l2), some (.int (0 : Int32)), some (.int (0 : Int32))]) rfl ?_
  exact e_X12_readBetween_b5 1048576 h l0 l1 l2 (0 : Int32) (0 : Int32) r hf
theorem ckf_X12_readBetween {h : xa_H} {l0 : Nat} {l1 : Int32} {l2 : Int32} {r : Int32} (hf : f_X12_readBetween h l0 l1 l2 = some r) : ck [12] h l0 = some () := by
  obtain ⟨u, e, -⟩ := ob hf
  exact e
def M_X12_isWhole : xa_M := (yX12_isWhole, cX12_isWhole, 3, some .boolean)
theorem cb_X12_isWhole : xa_CB M_X12_isWhole 0 := ⟨gws_at 1555 (by decide +kernel) rfl, gws_at 122 (by decide +kernel) rfl, by decide +kernel, Nat.le_of_ble_eq_true rfl⟩
def f_X12_isWhole_b77 (k67 : xa_H → Nat → Int32 → Option Int32) : Nat → xa_H → Nat → Int32 → Int32 → Option Int32
  | 0, _, _, _, _ => none
  | n + 1, h, l0, l1, l2 =>
    if l1 ≤ l2 then
      k67 h l0 (l1 + (1 : Int32))
    else
      (f_X12_readBetween h l0 l1 l2).bind fun q2 =>
      (gR [12] 19 h l0).bind fun x3 =>
      (aI h x3 (1 : Int32)).bind fun x4 =>
      if (iabs q2) ≤ x4 then
        f_X12_isWhole_b77 k67 n h l0 l1 (l2 + (1 : Int32))
      else
        some (0 : Int32)
set_option maxRecDepth 20000 in
theorem e_X12_isWhole_b77 {G : xa_G} {k67 : xa_H → Nat → Int32 → Option Int32} (hk67 : ∀ (h : xa_H) (l0 : Nat) (l1 : Int32) (r : Int32), k67 h l0 l1 = some r → xa_V G M_X12_isWhole 1 67 [some (.ref l0), some (.int l1), none] [] h (some (.int r)) h) : ∀ (n : Nat) (h : xa_H) (l0 : Nat) (l1 : Int32) (l2 : Int32) (r : Int32), f_X12_isWhole_b77 k67 n h l0 l1 l2 = some r → xa_V G M_X12_isWhole 1 77 [some (.ref l0), some (.int l1), some (.int l2)] [] h (some (.int r)) h := by
  intro n
  induction n with
  | zero =>
    intro h l0 l1 l2 r hf
    cases (show (none : Option Int32) = some r from hf)
  | succ n ih =>
    intro h l0 l1 l2 r hf
    rw [f_X12_isWhole_b77] at hf
    refine v_iload_n dX12_isWhole_77 rfl ?_
    refine v_iload_n dX12_isWhole_78 rfl ?_
    refine v_icmp_ge dX12_isWhole_79 (tgt := 108) (by decide) (fun c1 => ?_) (fun c1 => ?_)
    · replace hf := (if_pos c1).symm.trans hf
      refine v_iinc dX12_isWhole_108 rfl (v := (l1 + (1 : Int32))) rfl (Nat.le_of_ble_eq_true rfl) (loc' := [some (.ref l0), some (.int (l1 + (1 : Int32))), some (.int l2)]) rfl ?_
      refine v_goto dX12_isWhole_111 (tgt := 67) (by decide) ?_
      exact xa_weak (loc := [some (.ref l0), some (.int (l1 + (1 : Int32))), none]) ⟨rfl, ⟨rfl, trivial⟩⟩ (hk67 h l0 (l1 + (1 : Int32)) r hf)
    · replace hf := (if_neg c1).symm.trans hf
      refine v_aload_n dX12_isWhole_82 rfl ?_
      refine v_iload_n dX12_isWhole_83 rfl ?_
      refine v_iload_n dX12_isWhole_84 rfl ?_
      obtain ⟨q2, eq2, hf⟩ := ob hf
      refine v_callV dX12_isWhole_85 ⟨cb_X12_readBetween, ml_12_276, im_X12_readBetween⟩ se_12_X12_readBetween (ckf_X12_readBetween eq2) (ev_X12_readBetween eq2) (by decide) (As := [.int l1, .int l2]) rfl (st := []) rfl (Nat.le_of_ble_eq_true rfl) rfl ?_
      refine w_mabs dX12_isWhole_88 mw_12_279 (by decide) (Nat.le_of_ble_eq_true rfl) ?_
      refine v_aload_n dX12_isWhole_91 rfl ?_
      obtain ⟨x3, ex3, hf⟩ := ob hf
      refine v_getR dX12_isWhole_92 fl_12_40 ex3 ?_
      refine v_iconst dX12_isWhole_95 (by decide) (v := 1) ?_
      obtain ⟨x4, ex4, hf⟩ := ob hf
      refine v_ialoadI dX12_isWhole_96 ex4 ?_
      refine v_icmp_le dX12_isWhole_97 (tgt := 102) (by decide) (fun c5 => ?_) (fun c5 => ?_)
      · replace hf := (if_pos c5).symm.trans hf
        refine v_iinc dX12_isWhole_102 rfl (v := (l2 + (1 : Int32))) rfl (Nat.le_of_ble_eq_true rfl) (loc' := [some (.ref l0), some (.int l1), some (.int (l2 + (1 : Int32)))]) rfl ?_
        refine v_goto dX12_isWhole_105 (tgt := 77) (by decide) ?_
        exact ih h l0 l1 (l2 + (1 : Int32)) r hf
      · replace hf := (if_neg c5).symm.trans hf
        refine v_iconst dX12_isWhole_100 (by decide) (v := 0) ?_
        replace hf := Option.some.inj hf
        subst hf
        exact v_zret dX12_isWhole_101 rfl (by decide)
def f_X12_isWhole_b67 : Nat → xa_H → Nat → Int32 → Option Int32
  | 0, _, _, _ => none
  | n + 1, h, l0, l1 =>
    (gI [12] 28 h l0).bind fun x1 =>
    if x1 ≤ l1 then
      (gI [12] 28 h l0).bind fun x3 =>
      if x3 ≤ (1 : Int32) then
        some (0 : Int32)
      else
        some (1 : Int32)
    else
      f_X12_isWhole_b77 (fun h l0 l1 => f_X12_isWhole_b67 n h l0 l1) 1048576 h l0 l1 (0 : Int32)
set_option maxRecDepth 20000 in
theorem e_X12_isWhole_b67 {G : xa_G} : ∀ (n : Nat) (h : xa_H) (l0 : Nat) (l1 : Int32) (r : Int32), f_X12_isWhole_b67 n h l0 l1 = some r → xa_V G M_X12_isWhole 1 67 [some (.ref l0), some (.int l1), none] [] h (some (.int r)) h := by
  intro n
  induction n with
  | zero =>
    intro h l0 l1 r hf
    cases (show (none : Option Int32) = some r from hf)
  | succ n ih =>
    intro h l0 l1 r hf
    rw [f_X12_isWhole_b67] at hf
    refine v_iload_n dX12_isWhole_67 rfl ?_
    refine v_aload_n dX12_isWhole_68 rfl ?_
    obtain ⟨x1, ex1, hf⟩ := ob hf
    refine v_getI dX12_isWhole_69 fl_12_260 ex1 ?_
    refine v_icmp_ge dX12_isWhole_72 (tgt := 114) (by decide) (fun c2 => ?_) (fun c2 => ?_)
    · replace hf := (if_pos c2).symm.trans hf
      refine v_aload_n dX12_isWhole_114 rfl ?_
      obtain ⟨x3, ex3, hf⟩ := ob hf
      refine v_getI dX12_isWhole_115 fl_12_260 ex3 ?_
      refine v_iconst dX12_isWhole_118 (by decide) (v := 1) ?_
      refine v_icmp_le dX12_isWhole_119 (tgt := 126) (by decide) (fun c4 => ?_) (fun c4 => ?_)
      · replace hf := (if_pos c4).symm.trans hf
        refine v_iconst dX12_isWhole_126 (by decide) (v := 0) ?_
        replace hf := Option.some.inj hf
        subst hf
        exact v_zret dX12_isWhole_127 rfl (by decide)
      · replace hf := (if_neg c4).symm.trans hf
        refine v_iconst dX12_isWhole_122 (by decide) (v := 1) ?_
        refine v_goto dX12_isWhole_123 (tgt := 127) (by decide) ?_
        replace hf := Option.some.inj hf
        subst hf
        exact v_zret dX12_isWhole_127 rfl (by decide)
    · replace hf := (if_neg c2).symm.trans hf
      refine v_iconst dX12_isWhole_75 (by decide) (v := 0) ?_
      refine v_istore_n (i := 2) rfl dX12_isWhole_76 (Nat.le_of_ble_eq_true rfl) (loc' := [some (.ref l0), some (.int l1), some (.int (0 : Int32))]) rfl ?_
      exact e_X12_isWhole_b77 ih 1048576 h l0 l1 (0 : Int32) r hf
def f_X12_isWhole_b2 : Nat → xa_H → Nat → Int32 → Option Int32
  | 0, _, _, _ => none
  | n + 1, h, l0, l1 =>
    (gI [12] 29 h l0).bind fun x1 =>
    if ((3 : Int32) * x1) ≤ l1 then
      f_X12_isWhole_b67 1048576 h l0 (0 : Int32)
    else
      (gR [12] 23 h l0).bind fun x3 =>
      (aI h x3 l1).bind fun x4 =>
      (gI [12] 28 h l0).bind fun x5 =>
      if x5 ≤ x4 then
        some (0 : Int32)
      else
        (gR [12] 23 h l0).bind fun x7 =>
        (aI h x7 (l1 + (1 : Int32))).bind fun x8 =>
        (gI [12] 28 h l0).bind fun x9 =>
        if x9 ≤ x8 then
          some (0 : Int32)
        else
          (gR [12] 23 h l0).bind fun x11 =>
          (aI h x11 l1).bind fun x12 =>
          (gR [12] 23 h l0).bind fun x13 =>
          (aI h x13 (l1 + (1 : Int32))).bind fun x14 =>
          if x12 = x14 then
            some (0 : Int32)
          else
            f_X12_isWhole_b2 n h l0 (l1 + (3 : Int32))
set_option maxRecDepth 20000 in
theorem e_X12_isWhole_b2 {G : xa_G} : ∀ (n : Nat) (h : xa_H) (l0 : Nat) (l1 : Int32) (r : Int32), f_X12_isWhole_b2 n h l0 l1 = some r → xa_V G M_X12_isWhole 1 2 [some (.ref l0), some (.int l1), none] [] h (some (.int r)) h := by
  intro n
  induction n with
  | zero =>
    intro h l0 l1 r hf
    cases (show (none : Option Int32) = some r from hf)
  | succ n ih =>
    intro h l0 l1 r hf
    rw [f_X12_isWhole_b2] at hf
    refine v_iload_n dX12_isWhole_2 rfl ?_
    refine v_iconst dX12_isWhole_3 (by decide) (v := 3) ?_
    refine v_aload_n dX12_isWhole_4 rfl ?_
    obtain ⟨x1, ex1, hf⟩ := ob hf
    refine v_getI dX12_isWhole_5 fl_12_263 ex1 ?_
    refine v_imul dX12_isWhole_8 ?_
    refine v_icmp_ge dX12_isWhole_9 (tgt := 65) (by decide) (fun c2 => ?_) (fun c2 => ?_)
    · replace hf := (if_pos c2).symm.trans hf
      refine v_iconst dX12_isWhole_65 (by decide) (v := 0) ?_
      refine v_istore_n (i := 1) rfl dX12_isWhole_66 (Nat.le_of_ble_eq_true rfl) (loc' := [some (.ref l0), some (.int (0 : Int32)), none]) rfl ?_
      exact e_X12_isWhole_b67 1048576 h l0 (0 : Int32) r hf
    · replace hf := (if_neg c2).symm.trans hf
      refine v_aload_n dX12_isWhole_12 rfl ?_
      obtain ⟨x3, ex3, hf⟩ := ob hf
      refine v_getR dX12_isWhole_13 fl_12_52 ex3 ?_
      refine v_iload_n dX12_isWhole_16 rfl ?_
      obtain ⟨x4, ex4, hf⟩ := ob hf
      refine v_ialoadI dX12_isWhole_17 ex4 ?_
      refine v_aload_n dX12_isWhole_18 rfl ?_
      obtain ⟨x5, ex5, hf⟩ := ob hf
      refine v_getI dX12_isWhole_19 fl_12_260 ex5 ?_
      refine v_icmp_ge dX12_isWhole_22 (tgt := 57) (by decide) (fun c6 => ?_) (fun c6 => ?_)
      · replace hf := (if_pos c6).symm.trans hf
        refine v_iconst dX12_isWhole_57 (by decide) (v := 0) ?_
        replace hf := Option.some.inj hf
        subst hf
        exact v_zret dX12_isWhole_58 rfl (by decide)
      · replace hf := (if_neg c6).symm.trans hf
        refine v_aload_n dX12_isWhole_25 rfl ?_
        obtain ⟨x7, ex7, hf⟩ := ob hf
        refine v_getR dX12_isWhole_26 fl_12_52 ex7 ?_
        refine v_iload_n dX12_isWhole_29 rfl ?_
        refine v_iconst dX12_isWhole_30 (by decide) (v := 1) ?_
        refine v_iadd dX12_isWhole_31 ?_
        obtain ⟨x8, ex8, hf⟩ := ob hf
        refine v_ialoadI dX12_isWhole_32 ex8 ?_
        refine v_aload_n dX12_isWhole_33 rfl ?_
        obtain ⟨x9, ex9, hf⟩ := ob hf
        refine v_getI dX12_isWhole_34 fl_12_260 ex9 ?_
        refine v_icmp_ge dX12_isWhole_37 (tgt := 57) (by decide) (fun c10 => ?_) (fun c10 => ?_)
        · replace hf := (if_pos c10).symm.trans hf
          refine v_iconst dX12_isWhole_57 (by decide) (v := 0) ?_
          replace hf := Option.some.inj hf
          subst hf
          exact v_zret dX12_isWhole_58 rfl (by decide)
        · replace hf := (if_neg c10).symm.trans hf
          refine v_aload_n dX12_isWhole_40 rfl ?_
          obtain ⟨x11, ex11, hf⟩ := ob hf
          refine v_getR dX12_isWhole_41 fl_12_52 ex11 ?_
          refine v_iload_n dX12_isWhole_44 rfl ?_
          obtain ⟨x12, ex12, hf⟩ := ob hf
          refine v_ialoadI dX12_isWhole_45 ex12 ?_
          refine v_aload_n dX12_isWhole_46 rfl ?_
          obtain ⟨x13, ex13, hf⟩ := ob hf
          refine v_getR dX12_isWhole_47 fl_12_52 ex13 ?_
          refine v_iload_n dX12_isWhole_50 rfl ?_
          refine v_iconst dX12_isWhole_51 (by decide) (v := 1) ?_
          refine v_iadd dX12_isWhole_52 ?_
          obtain ⟨x14, ex14, hf⟩ := ob hf
          refine v_ialoadI dX12_isWhole_53 ex14 ?_
          refine v_icmp_ne dX12_isWhole_54 (tgt := 59) (by decide) (fun c15 => ?_) (fun c15 => ?_)
          · replace hf := (if_neg c15).symm.trans hf
            refine v_iinc dX12_isWhole_59 rfl (v := (l1 + (3 : Int32))) rfl (Nat.le_of_ble_eq_true rfl) (loc' := [some (.ref l0), some (.int (l1 + (3 : Int32))), none]) rfl ?_
            refine v_goto dX12_isWhole_62 (tgt := 2) (by decide) ?_
            exact ih h l0 (l1 + (3 : Int32)) r hf
          · replace hf := (if_pos c15).symm.trans hf
            refine v_iconst dX12_isWhole_57 (by decide) (v := 0) ?_
            replace hf := Option.some.inj hf
            subst hf
            exact v_zret dX12_isWhole_58 rfl (by decide)
def f_X12_isWhole (h : xa_H) (l0 : Nat) : Option Int32 :=
  (ck [12] h l0).bind fun _ =>
  f_X12_isWhole_b2 1048576 h l0 (0 : Int32)
set_option maxRecDepth 20000 in
theorem ev_X12_isWhole {G : xa_G} {h : xa_H} {l0 : Nat} {r : Int32} (hf : f_X12_isWhole h l0 = some r) : xa_Ev G M_X12_isWhole 1 [.ref l0] h (some (.int r)) h := by
  refine xa_entry (by decide +kernel) (loc := [some (.ref l0), none, none]) rfl (Nat.le_of_ble_eq_true rfl) ?_
  unfold f_X12_isWhole at hf
  obtain ⟨u0, eu0, hf⟩ := ob hf
  refine v_iconst dX12_isWhole_0 (by decide) (v := 0) ?_
  refine v_istore_n (i := 1) rfl dX12_isWhole_1 (Nat.le_of_ble_eq_true rfl) (loc' := [some (.ref l0), some (.int (0 : Int32)), none]) rfl ?_
  exact e_X12_isWhole_b2 1048576 h l0 (0 : Int32) r hf
theorem ckf_X12_isWhole {h : xa_H} {l0 : Nat} {r : Int32} (hf : f_X12_isWhole h l0 = some r) : ck [12] h l0 = some () := by
  obtain ⟨u, e, -⟩ := ob hf
  exact e
def M_X12_leastOf : xa_M := (yX12_leastOf, cX12_leastOf, 2, some .int)
theorem cb_X12_leastOf : xa_CB M_X12_leastOf 2 := ⟨gws_at 1534 (by decide +kernel) rfl, gws_at 122 (by decide +kernel) rfl, by decide +kernel, Nat.le_of_ble_eq_true rfl⟩
def f_X12_leastOf_b32 (h : xa_H) : Option Int32 :=
  some (1 : Int32)
set_option maxRecDepth 20000 in
theorem e_X12_leastOf_b32 {G : xa_G} : ∀ (h : xa_H) (r : Int32), f_X12_leastOf_b32 h = some r → xa_V G M_X12_leastOf 0 32 [none, none] [] h (some (.int r)) h := by
  intro h r hf
  unfold f_X12_leastOf_b32 at hf
  refine v_iconst dX12_leastOf_32 (by decide) (v := 1) ?_
  refine v_goto dX12_leastOf_33 (tgt := 37) (by decide) ?_
  replace hf := Option.some.inj hf
  subst hf
  exact v_iret dX12_leastOf_37 rfl
def f_X12_leastOf_b21 (h : xa_H) (l0 : Int32) (l1 : Int32) : Option Int32 :=
  if l0 = (102 : Int32) then
    if l1 = (2 : Int32) then
      f_X12_leastOf_b32 h
    else
      some (0 : Int32)
  else
    some (0 : Int32)
set_option maxRecDepth 20000 in
theorem e_X12_leastOf_b21 {G : xa_G} : ∀ (h : xa_H) (l0 : Int32) (l1 : Int32) (r : Int32), f_X12_leastOf_b21 h l0 l1 = some r → xa_V G M_X12_leastOf 0 21 [some (.int l0), some (.int l1)] [] h (some (.int r)) h := by
  intro h l0 l1 r hf
  unfold f_X12_leastOf_b21 at hf
  refine v_iload_n dX12_leastOf_21 rfl ?_
  refine v_bipush dX12_leastOf_22 (by decide) (v := 102) ?_
  refine v_icmp_ne dX12_leastOf_24 (tgt := 36) (by decide) (fun c1 => ?_) (fun c1 => ?_)
  · replace hf := (if_neg c1).symm.trans hf
    refine v_iconst dX12_leastOf_36 (by decide) (v := 0) ?_
    replace hf := Option.some.inj hf
    subst hf
    exact v_iret dX12_leastOf_37 rfl
  · replace hf := (if_pos c1).symm.trans hf
    refine v_iload_n dX12_leastOf_27 rfl ?_
    refine v_iconst dX12_leastOf_28 (by decide) (v := 2) ?_
    refine v_icmp_ne dX12_leastOf_29 (tgt := 36) (by decide) (fun c2 => ?_) (fun c2 => ?_)
    · replace hf := (if_neg c2).symm.trans hf
      refine v_iconst dX12_leastOf_36 (by decide) (v := 0) ?_
      replace hf := Option.some.inj hf
      subst hf
      exact v_iret dX12_leastOf_37 rfl
    · replace hf := (if_pos c2).symm.trans hf
      exact xa_weak (loc := [none, none]) trivial (e_X12_leastOf_b32 h r hf)
def f_X12_leastOf_b11 (h : xa_H) (l0 : Int32) (l1 : Int32) : Option Int32 :=
  if l0 = (112 : Int32) then
    if l1 = 0 then
      f_X12_leastOf_b32 h
    else
      f_X12_leastOf_b21 h l0 l1
  else
    f_X12_leastOf_b21 h l0 l1
set_option maxRecDepth 20000 in
theorem e_X12_leastOf_b11 {G : xa_G} : ∀ (h : xa_H) (l0 : Int32) (l1 : Int32) (r : Int32), f_X12_leastOf_b11 h l0 l1 = some r → xa_V G M_X12_leastOf 0 11 [some (.int l0), some (.int l1)] [] h (some (.int r)) h := by
  intro h l0 l1 r hf
  unfold f_X12_leastOf_b11 at hf
  refine v_iload_n dX12_leastOf_11 rfl ?_
  refine v_bipush dX12_leastOf_12 (by decide) (v := 112) ?_
  refine v_icmp_ne dX12_leastOf_14 (tgt := 21) (by decide) (fun c1 => ?_) (fun c1 => ?_)
  · replace hf := (if_neg c1).symm.trans hf
    exact e_X12_leastOf_b21 h l0 l1 r hf
  · replace hf := (if_pos c1).symm.trans hf
    refine v_iload_n dX12_leastOf_17 rfl ?_
    refine v_if_eq dX12_leastOf_18 (tgt := 32) (by decide) (fun c2 => ?_) (fun c2 => ?_)
    · replace hf := (if_pos c2).symm.trans hf
      exact xa_weak (loc := [none, none]) trivial (e_X12_leastOf_b32 h r hf)
    · replace hf := (if_neg c2).symm.trans hf
      exact e_X12_leastOf_b21 h l0 l1 r hf
def f_X12_leastOf (h : xa_H) (l0 : Int32) (l1 : Int32) : Option Int32 :=
  if l0 = (115 : Int32) then
    if l1 = (1 : Int32) then
      f_X12_leastOf_b32 h
    else
      f_X12_leastOf_b11 h l0 l1
  else
    f_X12_leastOf_b11 h l0 l1
set_option maxRecDepth 20000 in
theorem ev_X12_leastOf {G : xa_G} {h : xa_H} {l0 : Int32} {l1 : Int32} {r : Int32} (hf : f_X12_leastOf h l0 l1 = some r) : xa_Ev G M_X12_leastOf 0 [.int l0, .int l1] h (some (.int r)) h := by
  refine xa_entry (by decide +kernel) (loc := [some (.int l0), some (.int l1)]) rfl (Nat.le_of_ble_eq_true rfl) ?_
  unfold f_X12_leastOf at hf
  refine v_iload_n dX12_leastOf_0 rfl ?_
  refine v_bipush dX12_leastOf_1 (by decide) (v := 115) ?_
  refine v_icmp_ne dX12_leastOf_3 (tgt := 11) (by decide) (fun c1 => ?_) (fun c1 => ?_)
  · replace hf := (if_neg c1).symm.trans hf
    exact e_X12_leastOf_b11 h l0 l1 r hf
  · replace hf := (if_pos c1).symm.trans hf
    refine v_iload_n dX12_leastOf_6 rfl ?_
    refine v_iconst dX12_leastOf_7 (by decide) (v := 1) ?_
    refine v_icmp_eq dX12_leastOf_8 (tgt := 32) (by decide) (fun c2 => ?_) (fun c2 => ?_)
    · replace hf := (if_pos c2).symm.trans hf
      exact xa_weak (loc := [none, none]) trivial (e_X12_leastOf_b32 h r hf)
    · replace hf := (if_neg c2).symm.trans hf
      exact e_X12_leastOf_b11 h l0 l1 r hf
def M_X12_mostOf : xa_M := (yX12_mostOf, cX12_mostOf, 2, some .int)
theorem cb_X12_mostOf : xa_CB M_X12_mostOf 2 := ⟨gws_at 1537 (by decide +kernel) rfl, gws_at 122 (by decide +kernel) rfl, by decide +kernel, Nat.le_of_ble_eq_true rfl⟩
def f_X12_mostOf (h : xa_H) (l0 : Int32) (l1 : Int32) : Option Int32 :=
  if l0 = (115 : Int32) then
    some (99 : Int32)
  else
    if l0 = (112 : Int32) then
      if l1 = (2 : Int32) then
        some (1 : Int32)
      else
        some (9 : Int32)
    else
      if (2 : Int32) ≤ l1 then
        some (9 : Int32)
      else
        some (5 : Int32)
set_option maxRecDepth 20000 in
theorem ev_X12_mostOf {G : xa_G} {h : xa_H} {l0 : Int32} {l1 : Int32} {r : Int32} (hf : f_X12_mostOf h l0 l1 = some r) : xa_Ev G M_X12_mostOf 0 [.int l0, .int l1] h (some (.int r)) h := by
  refine xa_entry (by decide +kernel) (loc := [some (.int l0), some (.int l1)]) rfl (Nat.le_of_ble_eq_true rfl) ?_
  unfold f_X12_mostOf at hf
  refine v_iload_n dX12_mostOf_0 rfl ?_
  refine v_bipush dX12_mostOf_1 (by decide) (v := 115) ?_
  refine v_icmp_ne dX12_mostOf_3 (tgt := 9) (by decide) (fun c1 => ?_) (fun c1 => ?_)
  · replace hf := (if_neg c1).symm.trans hf
    refine v_iload_n dX12_mostOf_9 rfl ?_
    refine v_bipush dX12_mostOf_10 (by decide) (v := 112) ?_
    refine v_icmp_ne dX12_mostOf_12 (tgt := 27) (by decide) (fun c2 => ?_) (fun c2 => ?_)
    · replace hf := (if_neg c2).symm.trans hf
      refine v_iload_n dX12_mostOf_27 rfl ?_
      refine v_iconst dX12_mostOf_28 (by decide) (v := 2) ?_
      refine v_icmp_ge dX12_mostOf_29 (tgt := 36) (by decide) (fun c3 => ?_) (fun c3 => ?_)
      · replace hf := (if_pos c3).symm.trans hf
        refine v_bipush dX12_mostOf_36 (by decide) (v := 9) ?_
        replace hf := Option.some.inj hf
        subst hf
        exact v_iret dX12_mostOf_38 rfl
      · replace hf := (if_neg c3).symm.trans hf
        refine v_iconst dX12_mostOf_32 (by decide) (v := 5) ?_
        refine v_goto dX12_mostOf_33 (tgt := 38) (by decide) ?_
        replace hf := Option.some.inj hf
        subst hf
        exact v_iret dX12_mostOf_38 rfl
    · replace hf := (if_pos c2).symm.trans hf
      refine v_iload_n dX12_mostOf_15 rfl ?_
      refine v_iconst dX12_mostOf_16 (by decide) (v := 2) ?_
      refine v_icmp_ne dX12_mostOf_17 (tgt := 24) (by decide) (fun c4 => ?_) (fun c4 => ?_)
      · replace hf := (if_neg c4).symm.trans hf
        refine v_bipush dX12_mostOf_24 (by decide) (v := 9) ?_
        replace hf := Option.some.inj hf
        subst hf
        exact v_iret dX12_mostOf_26 rfl
      · replace hf := (if_pos c4).symm.trans hf
        refine v_iconst dX12_mostOf_20 (by decide) (v := 1) ?_
        refine v_goto dX12_mostOf_21 (tgt := 26) (by decide) ?_
        replace hf := Option.some.inj hf
        subst hf
        exact v_iret dX12_mostOf_26 rfl
  · replace hf := (if_pos c1).symm.trans hf
    refine v_bipush dX12_mostOf_6 (by decide) (v := 99) ?_
    replace hf := Option.some.inj hf
    subst hf
    exact v_iret dX12_mostOf_8 rfl
def M_X12_number : xa_M := (yX12_number, cX12_number, 5, some .int)
theorem cb_X12_number : xa_CB M_X12_number 2 := ⟨gws_at 1541 (by decide +kernel) rfl, gws_at 122 (by decide +kernel) rfl, by decide +kernel, Nat.le_of_ble_eq_true rfl⟩
def f_X12_number_b109 (h : xa_H) (l4 : Int32) : Option (Int32 × xa_H) :=
  some (l4, h)
set_option maxRecDepth 20000 in
theorem e_X12_number_b109 {G : xa_G} : ∀ (h : xa_H) (l4 : Int32) (r : (Int32 × xa_H)), f_X12_number_b109 h l4 = some r → xa_V G M_X12_number 1 109 [none, none, none, none, some (.int l4)] [] h (some (.int r.1)) r.2 := by
  intro h l4 r hf
  unfold f_X12_number_b109 at hf
  refine v_iload dX12_number_109 rfl ?_
  replace hf := Option.some.inj hf
  subst hf
  exact v_iret dX12_number_111 rfl
def f_X12_number_b67 (h : xa_H) (l0 : Nat) (l1 : Int32) (l2 : Int32) (l4 : Int32) : Option (Int32 × xa_H) :=
  (f_X12_isDigit h l0).bind fun q1 =>
  if q1 = 0 then
    (f_X12_isIn h l4.toInt64 l1.toInt64 l2.toInt64).bind fun q3 =>
    if q3 = 0 then
      (gI [12] 10 h l0).bind fun x5 =>
      (xp [12] 10 h l0 (.int (x5 - (1 : Int32)))).bind fun h6 =>
      (f_X12_fails h6 l0).bind fun q7 =>
      f_X12_number_b109 q7.2 l4
    else
      f_X12_number_b109 h l4
  else
    (f_X12_fails h l0).bind fun q8 =>
    some ((0 : Int32), q8.2)
set_option maxRecDepth 20000 in
theorem e_X12_number_b67 {G : xa_G} : ∀ (h : xa_H) (l0 : Nat) (l1 : Int32) (l2 : Int32) (l4 : Int32) (r : (Int32 × xa_H)), f_X12_number_b67 h l0 l1 l2 l4 = some r → xa_V G M_X12_number 1 67 [some (.ref l0), some (.int l1), some (.int l2), none, some (.int l4)] [] h (some (.int r.1)) r.2 := by
  intro h l0 l1 l2 l4 r hf
  unfold f_X12_number_b67 at hf
  refine v_aload_n dX12_number_67 rfl ?_
  obtain ⟨q1, eq1, hf⟩ := ob hf
  refine v_callV dX12_number_68 ⟨cb_X12_isDigit, ml_12_183, im_X12_isDigit⟩ se_12_X12_isDigit (ckf_X12_isDigit eq1) (ev_X12_isDigit eq1) (by decide) (As := []) rfl (st := []) rfl (Nat.le_of_ble_eq_true rfl) rfl ?_
  refine v_if_eq dX12_number_71 (tgt := 81) (by decide) (fun c2 => ?_) (fun c2 => ?_)
  · replace hf := (if_pos c2).symm.trans hf
    refine v_iload dX12_number_81 rfl ?_
    refine v_i2l dX12_number_83 ?_
    refine v_iload_n dX12_number_84 rfl ?_
    refine v_i2l dX12_number_85 ?_
    refine v_iload_n dX12_number_86 rfl ?_
    refine v_i2l dX12_number_87 ?_
    obtain ⟨q3, eq3, hf⟩ := ob hf
    refine v_callS dX12_number_88 ⟨cb_X12_isIn, ml_12_232, sm_X12_isIn⟩ (ev_X12_isIn eq3) (by decide) (As := [.long l4.toInt64, .long l1.toInt64, .long l2.toInt64]) rfl (st := []) rfl (Nat.le_of_ble_eq_true rfl) rfl ?_
    refine v_if_ne dX12_number_91 (tgt := 109) (by decide) (fun c4 => ?_) (fun c4 => ?_)
    · replace hf := (if_neg c4).symm.trans hf
      exact xa_weak (loc := [none, none, none, none, some (.int l4)]) ⟨rfl, trivial⟩ (e_X12_number_b109 h l4 r hf)
    · replace hf := (if_pos c4).symm.trans hf
      refine v_aload_n dX12_number_94 rfl ?_
      refine v_dup dX12_number_95 rfl ?_
      obtain ⟨x5, ex5, hf⟩ := ob hf
      refine v_getI dX12_number_96 fl_12_134 ex5 ?_
      refine v_iconst dX12_number_99 (by decide) (v := 1) ?_
      refine v_isub dX12_number_100 ?_
      obtain ⟨h6, eh6, hf⟩ := ob hf
      refine v_put dX12_number_101 fp_12_134 (fun z => by cases z) (fun _ => rfl) (fun _ => rfl) eh6 ?_
      refine v_aload_n dX12_number_104 rfl ?_
      obtain ⟨q7, eq7, hf⟩ := ob hf
      refine v_callV dX12_number_105 ⟨cb_X12_fails, ml_12_149, im_X12_fails⟩ se_12_X12_fails (ckf_X12_fails eq7) (ev_X12_fails eq7) (by decide) (As := []) rfl (st := []) rfl (Nat.le_of_ble_eq_true rfl) rfl ?_
      refine v_pop dX12_number_108 rfl ?_
      exact xa_weak (loc := [none, none, none, none, some (.int l4)]) ⟨rfl, trivial⟩ (e_X12_number_b109 q7.2 l4 r hf)
  · replace hf := (if_neg c2).symm.trans hf
    refine v_aload_n dX12_number_74 rfl ?_
    obtain ⟨q8, eq8, hf⟩ := ob hf
    refine v_callV dX12_number_75 ⟨cb_X12_fails, ml_12_149, im_X12_fails⟩ se_12_X12_fails (ckf_X12_fails eq8) (ev_X12_fails eq8) (by decide) (As := []) rfl (st := []) rfl (Nat.le_of_ble_eq_true rfl) rfl ?_
    refine v_pop dX12_number_78 rfl ?_
    refine v_iconst dX12_number_79 (by decide) (v := 0) ?_
    replace hf := Option.some.inj hf
    subst hf
    exact v_iret dX12_number_80 rfl
def f_X12_number (h : xa_H) (l0 : Nat) (l1 : Int32) (l2 : Int32) : Option (Int32 × xa_H) :=
  (ck [12] h l0).bind fun _ =>
  (f_X12_look h l0).bind fun q1 =>
  (f_X12_isDigit q1.2 l0).bind fun q2 =>
  if q2 = 0 then
    (f_X12_fails q1.2 l0).bind fun q11 =>
    some ((0 : Int32), q11.2)
  else
    (gI [12] 10 q1.2 l0).bind fun x4 =>
    (xp [12] 10 q1.2 l0 (.int (x4 + (1 : Int32)))).bind fun h5 =>
    (f_X12_isDigit h5 l0).bind fun q6 =>
    if q6 = 0 then
      f_X12_number_b67 h5 l0 l1 l2 (q1.1 - (48 : Int32))
    else
      (f_X12_here h5 l0).bind fun q8 =>
      (gI [12] 10 h5 l0).bind fun x9 =>
      (xp [12] 10 h5 l0 (.int (x9 + (1 : Int32)))).bind fun h10 =>
      f_X12_number_b67 h10 l0 l1 l2 ((((10 : Int32) * (q1.1 - (48 : Int32))) + q8) - (48 : Int32))
set_option maxRecDepth 20000 in
theorem ev_X12_number {G : xa_G} {h : xa_H} {l0 : Nat} {l1 : Int32} {l2 : Int32} {r : (Int32 × xa_H)} (hf : f_X12_number h l0 l1 l2 = some r) : xa_Ev G M_X12_number 1 [.ref l0, .int l1, .int l2] h (some (.int r.1)) r.2 := by
  refine xa_entry (by decide +kernel) (loc := [some (.ref l0), some (.int l1), some (.int l2), none, none]) rfl (Nat.le_of_ble_eq_true rfl) ?_
  unfold f_X12_number at hf
  obtain ⟨u0, eu0, hf⟩ := ob hf
  refine v_aload_n dX12_number_0 rfl ?_
  obtain ⟨q1, eq1, hf⟩ := ob hf
  refine v_callV dX12_number_1 ⟨cb_X12_look, ml_12_153, im_X12_look⟩ se_12_X12_look (ckf_X12_look eq1) (ev_X12_look eq1) (by decide) (As := []) rfl (st := []) rfl (Nat.le_of_ble_eq_true rfl) rfl ?_
  refine v_istore_n (i := 3) rfl dX12_number_4 (Nat.le_of_ble_eq_true rfl) (loc' := [some (.ref l0), some (.int l1), some (.int l2), some (.int q1.1), none]) rfl ?_
  refine v_aload_n dX12_number_5 rfl ?_
  obtain ⟨q2, eq2, hf⟩ := ob hf
  refine v_callV dX12_number_6 ⟨cb_X12_isDigit, ml_12_183, im_X12_isDigit⟩ se_12_X12_isDigit (ckf_X12_isDigit eq2) (ev_X12_isDigit eq2) (by decide) (As := []) rfl (st := []) rfl (Nat.le_of_ble_eq_true rfl) rfl ?_
  refine v_if_ne dX12_number_9 (tgt := 19) (by decide) (fun c3 => ?_) (fun c3 => ?_)
  · replace hf := (if_neg c3).symm.trans hf
    refine v_iload_n dX12_number_19 rfl ?_
    refine v_bipush dX12_number_20 (by decide) (v := 48) ?_
    refine v_isub dX12_number_22 ?_
    refine v_istore dX12_number_23 (Nat.le_of_ble_eq_true rfl) (loc' := [some (.ref l0), some (.int l1), some (.int l2), some (.int q1.1), some (.int (q1.1 - (48 : Int32)))]) rfl ?_
    refine v_aload_n dX12_number_25 rfl ?_
    refine v_dup dX12_number_26 rfl ?_
    obtain ⟨x4, ex4, hf⟩ := ob hf
    refine v_getI dX12_number_27 fl_12_134 ex4 ?_
    refine v_iconst dX12_number_30 (by decide) (v := 1) ?_
    refine v_iadd dX12_number_31 ?_
    obtain ⟨h5, eh5, hf⟩ := ob hf
    refine v_put dX12_number_32 fp_12_134 (fun z => by cases z) (fun _ => rfl) (fun _ => rfl) eh5 ?_
    refine v_aload_n dX12_number_35 rfl ?_
    obtain ⟨q6, eq6, hf⟩ := ob hf
    refine v_callV dX12_number_36 ⟨cb_X12_isDigit, ml_12_183, im_X12_isDigit⟩ se_12_X12_isDigit (ckf_X12_isDigit eq6) (ev_X12_isDigit eq6) (by decide) (As := []) rfl (st := []) rfl (Nat.le_of_ble_eq_true rfl) rfl ?_
    refine v_if_eq dX12_number_39 (tgt := 67) (by decide) (fun c7 => ?_) (fun c7 => ?_)
    · replace hf := (if_pos c7).symm.trans hf
      exact xa_weak (loc := [some (.ref l0), some (.int l1), some (.int l2), none, some (.int (q1.1 - (48 : Int32)))]) ⟨rfl, ⟨rfl, ⟨rfl, ⟨rfl, trivial⟩⟩⟩⟩ (e_X12_number_b67 h5 l0 l1 l2 (q1.1 - (48 : Int32)) r hf)
    · replace hf := (if_neg c7).symm.trans hf
      refine v_bipush dX12_number_42 (by decide) (v := 10) ?_
      refine v_iload dX12_number_44 rfl ?_
      refine v_imul dX12_number_46 ?_
      refine v_aload_n dX12_number_47 rfl ?_
      obtain ⟨q8, eq8, hf⟩ := ob hf
      refine v_callV dX12_number_48 ⟨cb_X12_here, ml_12_229, im_X12_here⟩ se_12_X12_here (ckf_X12_here eq8) (ev_X12_here eq8) (by decide) (As := []) rfl (st := [.int ((10 : Int32) * (q1.1 - (48 : Int32)))]) rfl (Nat.le_of_ble_eq_true rfl) rfl ?_
      refine v_iadd dX12_number_51 ?_
      refine v_bipush dX12_number_52 (by decide) (v := 48) ?_
      refine v_isub dX12_number_54 ?_
      refine v_istore dX12_number_55 (Nat.le_of_ble_eq_true rfl) (loc' := [some (.ref l0), some (.int l1), some (.int l2), some (.int q1.1), some (.int ((((10 : Int32) * (q1.1 - (48 : Int32))) + q8) - (48 : Int32)))]) rfl ?_
      refine v_aload_n dX12_number_57 rfl ?_
      refine v_dup dX12_number_58 rfl ?_
      obtain ⟨x9, ex9, hf⟩ := ob hf
      refine v_getI dX12_number_59 fl_12_134 ex9 ?_
      refine v_iconst dX12_number_62 (by decide) (v := 1) ?_
      refine v_iadd dX12_number_63 ?_
      obtain ⟨h10, eh10, hf⟩ := ob hf
      refine v_put dX12_number_64 fp_12_134 (fun z => by cases z) (fun _ => rfl) (fun _ => rfl) eh10 ?_
      exact xa_weak (loc := [some (.ref l0), some (.int l1), some (.int l2), none, some (.int ((((10 : Int32) * (q1.1 - (48 : Int32))) + q8) - (48 : Int32)))]) ⟨rfl, ⟨rfl, ⟨rfl, ⟨rfl, trivial⟩⟩⟩⟩ (e_X12_number_b67 h10 l0 l1 l2 ((((10 : Int32) * (q1.1 - (48 : Int32))) + q8) - (48 : Int32)) r hf)
  · replace hf := (if_pos c3).symm.trans hf
    refine v_aload_n dX12_number_12 rfl ?_
    obtain ⟨q11, eq11, hf⟩ := ob hf
    refine v_callV dX12_number_13 ⟨cb_X12_fails, ml_12_149, im_X12_fails⟩ se_12_X12_fails (ckf_X12_fails eq11) (ev_X12_fails eq11) (by decide) (As := []) rfl (st := []) rfl (Nat.le_of_ble_eq_true rfl) rfl ?_
    refine v_pop dX12_number_16 rfl ?_
    refine v_iconst dX12_number_17 (by decide) (v := 0) ?_
    replace hf := Option.some.inj hf
    subst hf
    exact v_iret dX12_number_18 rfl
theorem ckf_X12_number {h : xa_H} {l0 : Nat} {l1 : Int32} {l2 : Int32} {r : (Int32 × xa_H)} (hf : f_X12_number h l0 l1 l2 = some r) : ck [12] h l0 = some () := by
  obtain ⟨u, e, -⟩ := ob hf
  exact e
def M_X12_spotOf : xa_M := (yX12_spotOf, cX12_spotOf, 3, some .int)
theorem cb_X12_spotOf : xa_CB M_X12_spotOf 2 := ⟨gws_at 1527 (by decide +kernel) rfl, gws_at 122 (by decide +kernel) rfl, by decide +kernel, Nat.le_of_ble_eq_true rfl⟩
def f_X12_spotOf_b2 : Nat → xa_H → Nat → Int32 → Int32 → Option Int32
  | 0, _, _, _, _ => none
  | n + 1, h, l0, l1, l2 =>
    (sLen l0).bind fun x1 =>
    if x1 ≤ l2 then
      some (-1 : Int32)
    else
      (sAt l0 l2).bind fun x3 =>
      if x3 = l1 then
        some l2
      else
        f_X12_spotOf_b2 n h l0 l1 (l2 + (1 : Int32))
set_option maxRecDepth 20000 in
theorem e_X12_spotOf_b2 {G : xa_G} : ∀ (n : Nat) (h : xa_H) (l0 : Nat) (l1 : Int32) (l2 : Int32) (r : Int32), f_X12_spotOf_b2 n h l0 l1 l2 = some r → xa_V G M_X12_spotOf 4 2 [some (.ref l0), some (.int l1), some (.int l2)] [] h (some (.int r)) h := by
  intro n
  induction n with
  | zero =>
    intro h l0 l1 l2 r hf
    cases (show (none : Option Int32) = some r from hf)
  | succ n ih =>
    intro h l0 l1 l2 r hf
    rw [f_X12_spotOf_b2] at hf
    refine v_iload_n dX12_spotOf_2 rfl ?_
    refine v_aload_n dX12_spotOf_3 rfl ?_
    obtain ⟨x1, ex1, hf⟩ := ob hf
    refine v_slen dX12_spotOf_4 ml_12_114 (by decide) (Nat.le_of_ble_eq_true rfl) ex1 ?_
    refine v_icmp_ge dX12_spotOf_7 (tgt := 27) (by decide) (fun c2 => ?_) (fun c2 => ?_)
    · replace hf := (if_pos c2).symm.trans hf
      refine v_iconst dX12_spotOf_27 (by decide) (v := -1) ?_
      replace hf := Option.some.inj hf
      subst hf
      exact v_iret dX12_spotOf_28 rfl
    · replace hf := (if_neg c2).symm.trans hf
      refine v_aload_n dX12_spotOf_10 rfl ?_
      refine v_iload_n dX12_spotOf_11 rfl ?_
      obtain ⟨x3, ex3, hf⟩ := ob hf
      refine v_sat dX12_spotOf_12 ml_12_120 (by decide) (Nat.le_of_ble_eq_true rfl) ex3 ?_
      refine v_iload_n dX12_spotOf_15 rfl ?_
      refine v_icmp_ne dX12_spotOf_16 (tgt := 21) (by decide) (fun c4 => ?_) (fun c4 => ?_)
      · replace hf := (if_neg c4).symm.trans hf
        refine v_iinc dX12_spotOf_21 rfl (v := (l2 + (1 : Int32))) rfl (Nat.le_of_ble_eq_true rfl) (loc' := [some (.ref l0), some (.int l1), some (.int (l2 + (1 : Int32)))]) rfl ?_
        refine v_goto dX12_spotOf_24 (tgt := 2) (by decide) ?_
        exact ih h l0 l1 (l2 + (1 : Int32)) r hf
      · replace hf := (if_pos c4).symm.trans hf
        refine v_iload_n dX12_spotOf_19 rfl ?_
        replace hf := Option.some.inj hf
        subst hf
        exact v_iret dX12_spotOf_20 rfl
def f_X12_spotOf (h : xa_H) (l0 : Nat) (l1 : Int32) : Option Int32 :=
  f_X12_spotOf_b2 1048576 h l0 l1 (0 : Int32)
set_option maxRecDepth 20000 in
theorem ev_X12_spotOf {G : xa_G} {h : xa_H} {l0 : Nat} {l1 : Int32} {r : Int32} (hf : f_X12_spotOf h l0 l1 = some r) : xa_Ev G M_X12_spotOf 4 [.ref l0, .int l1] h (some (.int r)) h := by
  refine xa_entry (by decide +kernel) (loc := [some (.ref l0), some (.int l1), none]) rfl (Nat.le_of_ble_eq_true rfl) ?_
  unfold f_X12_spotOf at hf
  refine v_iconst dX12_spotOf_0 (by decide) (v := 0) ?_
  refine v_istore_n (i := 2) rfl dX12_spotOf_1 (Nat.le_of_ble_eq_true rfl) (loc' := [some (.ref l0), some (.int l1), some (.int (0 : Int32))]) rfl ?_
  exact e_X12_spotOf_b2 1048576 h l0 l1 (0 : Int32) r hf
def M_X12_usual : xa_M := (yX12_usual, cX12_usual, 2, some .int)
theorem cb_X12_usual : xa_CB M_X12_usual 2 := ⟨gws_at 1506 (by decide +kernel) rfl, gws_at 122 (by decide +kernel) rfl, by decide +kernel, Nat.le_of_ble_eq_true rfl⟩
def f_X12_usual (h : xa_H) (l0 : Int32) (l1 : Int32) : Option Int32 :=
  if l0 = (115 : Int32) then
    some (20 : Int32)
  else
    if l0 = (112 : Int32) then
      if l1 = 0 then
        some (1 : Int32)
      else
        if l1 = (1 : Int32) then
          some (2 : Int32)
        else
          some (0 : Int32)
    else
      if l1 = 0 then
        some (0 : Int32)
      else
        some (1 : Int32)
set_option maxRecDepth 20000 in
theorem ev_X12_usual {G : xa_G} {h : xa_H} {l0 : Int32} {l1 : Int32} {r : Int32} (hf : f_X12_usual h l0 l1 = some r) : xa_Ev G M_X12_usual 0 [.int l0, .int l1] h (some (.int r)) h := by
  refine xa_entry (by decide +kernel) (loc := [some (.int l0), some (.int l1)]) rfl (Nat.le_of_ble_eq_true rfl) ?_
  unfold f_X12_usual at hf
  refine v_iload_n dX12_usual_0 rfl ?_
  refine v_bipush dX12_usual_1 (by decide) (v := 115) ?_
  refine v_icmp_ne dX12_usual_3 (tgt := 9) (by decide) (fun c1 => ?_) (fun c1 => ?_)
  · replace hf := (if_neg c1).symm.trans hf
    refine v_iload_n dX12_usual_9 rfl ?_
    refine v_bipush dX12_usual_10 (by decide) (v := 112) ?_
    refine v_icmp_ne dX12_usual_12 (tgt := 34) (by decide) (fun c2 => ?_) (fun c2 => ?_)
    · replace hf := (if_neg c2).symm.trans hf
      refine v_iload_n dX12_usual_34 rfl ?_
      refine v_if_ne dX12_usual_35 (tgt := 42) (by decide) (fun c3 => ?_) (fun c3 => ?_)
      · replace hf := (if_neg c3).symm.trans hf
        refine v_iconst dX12_usual_42 (by decide) (v := 1) ?_
        replace hf := Option.some.inj hf
        subst hf
        exact v_iret dX12_usual_43 rfl
      · replace hf := (if_pos c3).symm.trans hf
        refine v_iconst dX12_usual_38 (by decide) (v := 0) ?_
        refine v_goto dX12_usual_39 (tgt := 43) (by decide) ?_
        replace hf := Option.some.inj hf
        subst hf
        exact v_iret dX12_usual_43 rfl
    · replace hf := (if_pos c2).symm.trans hf
      refine v_iload_n dX12_usual_15 rfl ?_
      refine v_if_ne dX12_usual_16 (tgt := 23) (by decide) (fun c4 => ?_) (fun c4 => ?_)
      · replace hf := (if_neg c4).symm.trans hf
        refine v_iload_n dX12_usual_23 rfl ?_
        refine v_iconst dX12_usual_24 (by decide) (v := 1) ?_
        refine v_icmp_ne dX12_usual_25 (tgt := 32) (by decide) (fun c5 => ?_) (fun c5 => ?_)
        · replace hf := (if_neg c5).symm.trans hf
          refine v_iconst dX12_usual_32 (by decide) (v := 0) ?_
          replace hf := Option.some.inj hf
          subst hf
          exact v_iret dX12_usual_33 rfl
        · replace hf := (if_pos c5).symm.trans hf
          refine v_iconst dX12_usual_28 (by decide) (v := 2) ?_
          refine v_goto dX12_usual_29 (tgt := 33) (by decide) ?_
          replace hf := Option.some.inj hf
          subst hf
          exact v_iret dX12_usual_33 rfl
      · replace hf := (if_pos c4).symm.trans hf
        refine v_iconst dX12_usual_19 (by decide) (v := 1) ?_
        refine v_goto dX12_usual_20 (tgt := 33) (by decide) ?_
        replace hf := Option.some.inj hf
        subst hf
        exact v_iret dX12_usual_33 rfl
  · replace hf := (if_pos c1).symm.trans hf
    refine v_bipush dX12_usual_6 (by decide) (v := 20) ?_
    replace hf := Option.some.inj hf
    subst hf
    exact v_iret dX12_usual_8 rfl
def M_X12_readItems : xa_M := (yX12_readItems, cX12_readItems, 7, none)
theorem cb_X12_readItems : xa_CB M_X12_readItems 4 := ⟨gws_at 1523 (by decide +kernel) rfl, gws_at 122 (by decide +kernel) rfl, by decide +kernel, Nat.le_of_ble_eq_true rfl⟩
def f_X12_readItems_b45 : Nat → xa_H → Nat → Int32 → Nat → Int32 → Nat → Int32 → Int32 → Option xa_H
  | 0, _, _, _, _, _, _, _, _ => none
  | n + 1, h, l0, l1, l2, l3, l4, l5, l6 =>
    if l6 = (-1 : Int32) then
      some h
    else
      (gI [12] 11 h l0).bind fun x2 =>
      if x2 = (-1 : Int32) then
        (f_X12_has h l5 l6).bind fun q4 =>
        if q4 = 0 then
          (gI [12] 10 h l0).bind fun x6 =>
          (xp [12] 10 h l0 (.int (x6 + (1 : Int32)))).bind fun h7 =>
          (f_X12_leastOf h7 l1 l6).bind fun q8 =>
          (f_X12_mostOf h7 l1 l6).bind fun q9 =>
          (f_X12_number h7 l0 q8 q9).bind fun q10 =>
          (pI q10.2 l2 (l3 + l6) q10.1).bind fun h11 =>
          (gI [12] 11 h11 l0).bind fun x12 =>
          if x12 = (-1 : Int32) then
            (f_X12_look h11 l0).bind fun q14 =>
            (f_X12_spotOf q14.2 l4 q14.1).bind fun q15 =>
            f_X12_readItems_b45 n q14.2 l0 l1 l2 l3 l4 (l5 ||| (shl (1 : Int32) l6)) q15
          else
            f_X12_readItems_b45 n h11 l0 l1 l2 l3 l4 (l5 ||| (shl (1 : Int32) l6)) l6
        else
          (f_X12_fails h l0).bind fun q16 =>
          some q16.2
      else
        some h
set_option maxRecDepth 20000 in
theorem e_X12_readItems_b45 {G : xa_G} : ∀ (n : Nat) (h : xa_H) (l0 : Nat) (l1 : Int32) (l2 : Nat) (l3 : Int32) (l4 : Nat) (l5 : Int32) (l6 : Int32) (r : xa_H), f_X12_readItems_b45 n h l0 l1 l2 l3 l4 l5 l6 = some r → xa_V G M_X12_readItems 5 45 [some (.ref l0), some (.int l1), some (.ref l2), some (.int l3), some (.ref l4), some (.int l5), some (.int l6)] [] h none r := by
  intro n
  induction n with
  | zero =>
    intro h l0 l1 l2 l3 l4 l5 l6 r hf
    cases (show (none : Option xa_H) = some r from hf)
  | succ n ih =>
    intro h l0 l1 l2 l3 l4 l5 l6 r hf
    rw [f_X12_readItems_b45] at hf
    refine v_iload dX12_readItems_45 rfl ?_
    refine v_iconst dX12_readItems_47 (by decide) (v := -1) ?_
    refine v_icmp_eq dX12_readItems_48 (tgt := 138) (by decide) (fun c1 => ?_) (fun c1 => ?_)
    · replace hf := (if_pos c1).symm.trans hf
      replace hf := Option.some.inj hf
      subst hf
      exact v_vret dX12_readItems_138 rfl
    · replace hf := (if_neg c1).symm.trans hf
      refine v_aload_n dX12_readItems_51 rfl ?_
      obtain ⟨x2, ex2, hf⟩ := ob hf
      refine v_getI dX12_readItems_52 fl_12_143 ex2 ?_
      refine v_iconst dX12_readItems_55 (by decide) (v := -1) ?_
      refine v_icmp_ne dX12_readItems_56 (tgt := 138) (by decide) (fun c3 => ?_) (fun c3 => ?_)
      · replace hf := (if_neg c3).symm.trans hf
        replace hf := Option.some.inj hf
        subst hf
        exact v_vret dX12_readItems_138 rfl
      · replace hf := (if_pos c3).symm.trans hf
        refine v_iload dX12_readItems_59 rfl ?_
        refine v_iload dX12_readItems_61 rfl ?_
        obtain ⟨q4, eq4, hf⟩ := ob hf
        refine v_callS dX12_readItems_63 ⟨cb_X12_has, ml_12_244, sm_X12_has⟩ (ev_X12_has eq4) (by decide) (As := [.int l5, .int l6]) rfl (st := []) rfl (Nat.le_of_ble_eq_true rfl) rfl ?_
        refine v_if_eq dX12_readItems_66 (tgt := 75) (by decide) (fun c5 => ?_) (fun c5 => ?_)
        · replace hf := (if_pos c5).symm.trans hf
          refine v_iload dX12_readItems_75 rfl ?_
          refine v_iconst dX12_readItems_77 (by decide) (v := 1) ?_
          refine v_iload dX12_readItems_78 rfl ?_
          refine w_ishl dX12_readItems_80 ?_
          refine v_ior dX12_readItems_81 ?_
          refine v_istore dX12_readItems_82 (Nat.le_of_ble_eq_true rfl) (loc' := [some (.ref l0), some (.int l1), some (.ref l2), some (.int l3), some (.ref l4), some (.int (l5 ||| (shl (1 : Int32) l6))), some (.int l6)]) rfl ?_
          refine v_aload_n dX12_readItems_84 rfl ?_
          refine v_dup dX12_readItems_85 rfl ?_
          obtain ⟨x6, ex6, hf⟩ := ob hf
          refine v_getI dX12_readItems_86 fl_12_134 ex6 ?_
          refine v_iconst dX12_readItems_89 (by decide) (v := 1) ?_
          refine v_iadd dX12_readItems_90 ?_
          obtain ⟨h7, eh7, hf⟩ := ob hf
          refine v_put dX12_readItems_91 fp_12_134 (fun z => by cases z) (fun _ => rfl) (fun _ => rfl) eh7 ?_
          refine v_aload_n dX12_readItems_94 rfl ?_
          refine v_iload_n dX12_readItems_95 rfl ?_
          refine v_iload dX12_readItems_96 rfl ?_
          refine v_iadd dX12_readItems_98 ?_
          refine v_aload_n dX12_readItems_99 rfl ?_
          refine v_iload_n dX12_readItems_100 rfl ?_
          refine v_iload dX12_readItems_101 rfl ?_
          obtain ⟨q8, eq8, hf⟩ := ob hf
          refine v_callS dX12_readItems_103 ⟨cb_X12_leastOf, ml_12_248, sm_X12_leastOf⟩ (ev_X12_leastOf eq8) (by decide) (As := [.int l1, .int l6]) rfl (st := [.ref l0, .int (l3 + l6), .ref l2]) rfl (Nat.le_of_ble_eq_true rfl) rfl ?_
          refine v_iload_n dX12_readItems_106 rfl ?_
          refine v_iload dX12_readItems_107 rfl ?_
          obtain ⟨q9, eq9, hf⟩ := ob hf
          refine v_callS dX12_readItems_109 ⟨cb_X12_mostOf, ml_12_251, sm_X12_mostOf⟩ (ev_X12_mostOf eq9) (by decide) (As := [.int l1, .int l6]) rfl (st := [.int q8, .ref l0, .int (l3 + l6), .ref l2]) rfl (Nat.le_of_ble_eq_true rfl) rfl ?_
          obtain ⟨q10, eq10, hf⟩ := ob hf
          refine v_callV dX12_readItems_112 ⟨cb_X12_number, ml_12_254, im_X12_number⟩ se_12_X12_number (ckf_X12_number eq10) (ev_X12_number eq10) (by decide) (As := [.int q8, .int q9]) rfl (st := [.int (l3 + l6), .ref l2]) rfl (Nat.le_of_ble_eq_true rfl) rfl ?_
          obtain ⟨h11, eh11, hf⟩ := ob hf
          refine v_iastoreI dX12_readItems_115 eh11 ?_
          refine v_aload_n dX12_readItems_116 rfl ?_
          obtain ⟨x12, ex12, hf⟩ := ob hf
          refine v_getI dX12_readItems_117 fl_12_143 ex12 ?_
          refine v_iconst dX12_readItems_120 (by decide) (v := -1) ?_
          refine v_icmp_ne dX12_readItems_121 (tgt := 45) (by decide) (fun c13 => ?_) (fun c13 => ?_)
          · replace hf := (if_neg c13).symm.trans hf
            exact ih h11 l0 l1 l2 l3 l4 (l5 ||| (shl (1 : Int32) l6)) l6 r hf
          · replace hf := (if_pos c13).symm.trans hf
            refine v_aload dX12_readItems_124 rfl ?_
            refine v_aload_n dX12_readItems_126 rfl ?_
            obtain ⟨q14, eq14, hf⟩ := ob hf
            refine v_callV dX12_readItems_127 ⟨cb_X12_look, ml_12_153, im_X12_look⟩ se_12_X12_look (ckf_X12_look eq14) (ev_X12_look eq14) (by decide) (As := []) rfl (st := [.ref l4]) rfl (Nat.le_of_ble_eq_true rfl) rfl ?_
            obtain ⟨q15, eq15, hf⟩ := ob hf
            refine v_callS dX12_readItems_130 ⟨cb_X12_spotOf, ml_12_240, sm_X12_spotOf⟩ (ev_X12_spotOf eq15) (by decide) (As := [.ref l4, .int q14.1]) rfl (st := []) rfl (Nat.le_of_ble_eq_true rfl) rfl ?_
            refine v_istore dX12_readItems_133 (Nat.le_of_ble_eq_true rfl) (loc' := [some (.ref l0), some (.int l1), some (.ref l2), some (.int l3), some (.ref l4), some (.int (l5 ||| (shl (1 : Int32) l6))), some (.int q15)]) rfl ?_
            refine v_goto dX12_readItems_135 (tgt := 45) (by decide) ?_
            exact ih q14.2 l0 l1 l2 l3 l4 (l5 ||| (shl (1 : Int32) l6)) q15 r hf
        · replace hf := (if_neg c5).symm.trans hf
          refine v_aload_n dX12_readItems_69 rfl ?_
          obtain ⟨q16, eq16, hf⟩ := ob hf
          refine v_callV dX12_readItems_70 ⟨cb_X12_fails, ml_12_149, im_X12_fails⟩ se_12_X12_fails (ckf_X12_fails eq16) (ev_X12_fails eq16) (by decide) (As := []) rfl (st := []) rfl (Nat.le_of_ble_eq_true rfl) rfl ?_
          refine v_pop dX12_readItems_73 rfl ?_
          replace hf := Option.some.inj hf
          subst hf
          exact v_vret dX12_readItems_74 rfl
def f_X12_readItems_b3 : Nat → xa_H → Nat → Int32 → Nat → Int32 → Nat → Int32 → Option xa_H
  | 0, _, _, _, _, _, _, _ => none
  | n + 1, h, l0, l1, l2, l3, l4, l5 =>
    (sLen l4).bind fun x1 =>
    if x1 ≤ l5 then
      (f_X12_look h l0).bind fun q3 =>
      (f_X12_spotOf q3.2 l4 q3.1).bind fun q4 =>
      f_X12_readItems_b45 1048576 q3.2 l0 l1 l2 l3 l4 (0 : Int32) q4
    else
      (f_X12_usual h l1 l5).bind fun q5 =>
      (pI h l2 (l3 + l5) q5).bind fun h6 =>
      f_X12_readItems_b3 n h6 l0 l1 l2 l3 l4 (l5 + (1 : Int32))
set_option maxRecDepth 20000 in
theorem e_X12_readItems_b3 {G : xa_G} : ∀ (n : Nat) (h : xa_H) (l0 : Nat) (l1 : Int32) (l2 : Nat) (l3 : Int32) (l4 : Nat) (l5 : Int32) (r : xa_H), f_X12_readItems_b3 n h l0 l1 l2 l3 l4 l5 = some r → xa_V G M_X12_readItems 5 3 [some (.ref l0), some (.int l1), some (.ref l2), some (.int l3), some (.ref l4), some (.int l5), none] [] h none r := by
  intro n
  induction n with
  | zero =>
    intro h l0 l1 l2 l3 l4 l5 r hf
    cases (show (none : Option xa_H) = some r from hf)
  | succ n ih =>
    intro h l0 l1 l2 l3 l4 l5 r hf
    rw [f_X12_readItems_b3] at hf
    refine v_iload dX12_readItems_3 rfl ?_
    refine v_aload dX12_readItems_5 rfl ?_
    obtain ⟨x1, ex1, hf⟩ := ob hf
    refine v_slen dX12_readItems_7 ml_12_114 (by decide) (Nat.le_of_ble_eq_true rfl) ex1 ?_
    refine v_icmp_ge dX12_readItems_10 (tgt := 31) (by decide) (fun c2 => ?_) (fun c2 => ?_)
    · replace hf := (if_pos c2).symm.trans hf
      refine v_iconst dX12_readItems_31 (by decide) (v := 0) ?_
      refine v_istore dX12_readItems_32 (Nat.le_of_ble_eq_true rfl) (loc' := [some (.ref l0), some (.int l1), some (.ref l2), some (.int l3), some (.ref l4), some (.int (0 : Int32)), none]) rfl ?_
      refine v_aload dX12_readItems_34 rfl ?_
      refine v_aload_n dX12_readItems_36 rfl ?_
      obtain ⟨q3, eq3, hf⟩ := ob hf
      refine v_callV dX12_readItems_37 ⟨cb_X12_look, ml_12_153, im_X12_look⟩ se_12_X12_look (ckf_X12_look eq3) (ev_X12_look eq3) (by decide) (As := []) rfl (st := [.ref l4]) rfl (Nat.le_of_ble_eq_true rfl) rfl ?_
      obtain ⟨q4, eq4, hf⟩ := ob hf
      refine v_callS dX12_readItems_40 ⟨cb_X12_spotOf, ml_12_240, sm_X12_spotOf⟩ (ev_X12_spotOf eq4) (by decide) (As := [.ref l4, .int q3.1]) rfl (st := []) rfl (Nat.le_of_ble_eq_true rfl) rfl ?_
      refine v_istore dX12_readItems_43 (Nat.le_of_ble_eq_true rfl) (loc' := [some (.ref l0), some (.int l1), some (.ref l2), some (.int l3), some (.ref l4), some (.int (0 : Int32)), some (.int q4)]) rfl ?_
      exact e_X12_readItems_b45 1048576 q3.2 l0 l1 l2 l3 l4 (0 : Int32) q4 r hf
    · replace hf := (if_neg c2).symm.trans hf
      refine v_aload_n dX12_readItems_13 rfl ?_
      refine v_iload_n dX12_readItems_14 rfl ?_
      refine v_iload dX12_readItems_15 rfl ?_
      refine v_iadd dX12_readItems_17 ?_
      refine v_iload_n dX12_readItems_18 rfl ?_
      refine v_iload dX12_readItems_19 rfl ?_
      obtain ⟨q5, eq5, hf⟩ := ob hf
      refine v_callS dX12_readItems_21 ⟨cb_X12_usual, ml_12_236, sm_X12_usual⟩ (ev_X12_usual eq5) (by decide) (As := [.int l1, .int l5]) rfl (st := [.int (l3 + l5), .ref l2]) rfl (Nat.le_of_ble_eq_true rfl) rfl ?_
      obtain ⟨h6, eh6, hf⟩ := ob hf
      refine v_iastoreI dX12_readItems_24 eh6 ?_
      refine v_iinc dX12_readItems_25 rfl (v := (l5 + (1 : Int32))) rfl (Nat.le_of_ble_eq_true rfl) (loc' := [some (.ref l0), some (.int l1), some (.ref l2), some (.int l3), some (.ref l4), some (.int (l5 + (1 : Int32))), none]) rfl ?_
      refine v_goto dX12_readItems_28 (tgt := 3) (by decide) ?_
      exact ih h6 l0 l1 l2 l3 l4 (l5 + (1 : Int32)) r hf
def f_X12_readItems (h : xa_H) (l0 : Nat) (l1 : Int32) (l2 : Nat) (l3 : Int32) (l4 : Nat) : Option xa_H :=
  (ck [12] h l0).bind fun _ =>
  f_X12_readItems_b3 1048576 h l0 l1 l2 l3 l4 (0 : Int32)
set_option maxRecDepth 20000 in
theorem ev_X12_readItems {G : xa_G} {h : xa_H} {l0 : Nat} {l1 : Int32} {l2 : Nat} {l3 : Int32} {l4 : Nat} {r : xa_H} (hf : f_X12_readItems h l0 l1 l2 l3 l4 = some r) : xa_Ev G M_X12_readItems 5 [.ref l0, .int l1, .ref l2, .int l3, .ref l4] h none r := by
  refine xa_entry (by decide +kernel) (loc := [some (.ref l0), some (.int l1), some (.ref l2), some (.int l3), some (.ref l4), none, none]) rfl (Nat.le_of_ble_eq_true rfl) ?_
  unfold f_X12_readItems at hf
  obtain ⟨u0, eu0, hf⟩ := ob hf
  refine v_iconst dX12_readItems_0 (by decide) (v := 0) ?_
  refine v_istore dX12_readItems_1 (Nat.le_of_ble_eq_true rfl) (loc' := [some (.ref l0), some (.int l1), some (.ref l2), some (.int l3), some (.ref l4), some (.int (0 : Int32)), none]) rfl ?_
  exact e_X12_readItems_b3 1048576 h l0 l1 l2 l3 l4 (0 : Int32) r hf
theorem ckf_X12_readItems {h : xa_H} {l0 : Nat} {l1 : Int32} {l2 : Nat} {l3 : Int32} {l4 : Nat} {r : xa_H} (hf : f_X12_readItems h l0 l1 l2 l3 l4 = some r) : ck [12] h l0 = some () := by
  obtain ⟨u, e, -⟩ := ob hf
  exact e
def M_X12_readClause : xa_M := (yX12_readClause, cX12_readClause, 3, none)
theorem cb_X12_readClause : xa_CB M_X12_readClause 0 := ⟨gws_at 1510 (by decide +kernel) rfl, gws_at 122 (by decide +kernel) rfl, by decide +kernel, Nat.le_of_ble_eq_true rfl⟩
def f_X12_readClause_b53 (h : xa_H) (l0 : Nat) (l1 : Int32) (s0 : Int32) : Option xa_H :=
  if s0 = 0 then
    (f_X12_fails h l0).bind fun q19 =>
    some q19.2
  else
    (gI [12] 10 h l0).bind fun x2 =>
    (xp [12] 10 h l0 (.int (x2 + (1 : Int32)))).bind fun h3 =>
    if l1 = (115 : Int32) then
      (xp [12] 31 h3 l0 (.int (1 : Int32))).bind fun h16 =>
      (gR [12] 19 h16 l0).bind fun x17 =>
      (f_X12_readItems h16 l0 l1 x17 (0 : Int32) (1000000010 + 6)).bind fun q18 =>
      some q18
    else
      if l1 = (112 : Int32) then
        (gI [12] 28 h3 l0).bind fun x11 =>
        (xp [12] 28 h3 l0 (.int (x11 + (1 : Int32)))).bind fun h12 =>
        (gR [12] 21 h12 l0).bind fun x13 =>
        (gI [12] 28 h12 l0).bind fun x14 =>
        (f_X12_readItems h12 l0 l1 x13 ((3 : Int32) * (x14 - (1 : Int32))) (1000000010 + 7)).bind fun q15 =>
        some q15
      else
        (gI [12] 29 h3 l0).bind fun x6 =>
        (xp [12] 29 h3 l0 (.int (x6 + (1 : Int32)))).bind fun h7 =>
        (gR [12] 23 h7 l0).bind fun x8 =>
        (gI [12] 29 h7 l0).bind fun x9 =>
        (f_X12_readItems h7 l0 l1 x8 ((3 : Int32) * (x9 - (1 : Int32))) (1000000010 + 8)).bind fun q10 =>
        some q10
set_option maxRecDepth 20000 in
theorem e_X12_readClause_b53 {G : xa_G} : ∀ (h : xa_H) (l0 : Nat) (l1 : Int32) (s0 : Int32) (r : xa_H), f_X12_readClause_b53 h l0 l1 s0 = some r → xa_V G M_X12_readClause 6 53 [some (.ref l0), some (.int l1), none] [.int s0] h none r := by
  intro h l0 l1 s0 r hf
  unfold f_X12_readClause_b53 at hf
  refine v_istore_n (i := 2) rfl dX12_readClause_53 (Nat.le_of_ble_eq_true rfl) (loc' := [some (.ref l0), some (.int l1), some (.int s0)]) rfl ?_
  refine v_iload_n dX12_readClause_54 rfl ?_
  refine v_if_ne dX12_readClause_55 (tgt := 64) (by decide) (fun c1 => ?_) (fun c1 => ?_)
  · replace hf := (if_neg c1).symm.trans hf
    refine v_aload_n dX12_readClause_64 rfl ?_
    refine v_dup dX12_readClause_65 rfl ?_
    obtain ⟨x2, ex2, hf⟩ := ob hf
    refine v_getI dX12_readClause_66 fl_12_134 ex2 ?_
    refine v_iconst dX12_readClause_69 (by decide) (v := 1) ?_
    refine v_iadd dX12_readClause_70 ?_
    obtain ⟨h3, eh3, hf⟩ := ob hf
    refine v_put dX12_readClause_71 fp_12_134 (fun z => by cases z) (fun _ => rfl) (fun _ => rfl) eh3 ?_
    refine v_iload_n dX12_readClause_74 rfl ?_
    refine v_bipush dX12_readClause_75 (by decide) (v := 115) ?_
    refine v_icmp_ne dX12_readClause_77 (tgt := 101) (by decide) (fun c4 => ?_) (fun c4 => ?_)
    · replace hf := (if_neg c4).symm.trans hf
      refine v_iload_n dX12_readClause_101 rfl ?_
      refine v_bipush dX12_readClause_102 (by decide) (v := 112) ?_
      refine v_icmp_ne dX12_readClause_104 (tgt := 140) (by decide) (fun c5 => ?_) (fun c5 => ?_)
      · replace hf := (if_neg c5).symm.trans hf
        refine v_aload_n dX12_readClause_140 rfl ?_
        refine v_dup dX12_readClause_141 rfl ?_
        obtain ⟨x6, ex6, hf⟩ := ob hf
        refine v_getI dX12_readClause_142 fl_12_263 ex6 ?_
        refine v_iconst dX12_readClause_145 (by decide) (v := 1) ?_
        refine v_iadd dX12_readClause_146 ?_
        obtain ⟨h7, eh7, hf⟩ := ob hf
        refine v_put dX12_readClause_147 fp_12_263 (fun z => by cases z) (fun _ => rfl) (fun _ => rfl) eh7 ?_
        refine v_aload_n dX12_readClause_150 rfl ?_
        refine v_iload_n dX12_readClause_151 rfl ?_
        refine v_aload_n dX12_readClause_152 rfl ?_
        obtain ⟨x8, ex8, hf⟩ := ob hf
        refine v_getR dX12_readClause_153 fl_12_52 ex8 ?_
        refine v_iconst dX12_readClause_156 (by decide) (v := 3) ?_
        refine v_aload_n dX12_readClause_157 rfl ?_
        obtain ⟨x9, ex9, hf⟩ := ob hf
        refine v_getI dX12_readClause_158 fl_12_263 ex9 ?_
        refine v_iconst dX12_readClause_161 (by decide) (v := 1) ?_
        refine v_isub dX12_readClause_162 ?_
        refine v_imul dX12_readClause_163 ?_
        refine v_ldcsw dX12_readClause_164 (List.mem_of_getElem? (i := 9) rfl) ?_
        obtain ⟨q10, eq10, hf⟩ := ob hf
        refine v_callV dX12_readClause_167 ⟨cb_X12_readItems, ml_12_268, im_X12_readItems⟩ se_12_X12_readItems (ckf_X12_readItems eq10) (ev_X12_readItems eq10) (by decide) (As := [.int l1, .ref x8, .int ((3 : Int32) * (x9 - (1 : Int32))), .ref (1000000010 + 8)]) rfl (st := []) rfl (Nat.le_of_ble_eq_true rfl) rfl ?_
        replace hf := Option.some.inj hf
        subst hf
        exact v_vret dX12_readClause_170 rfl
      · replace hf := (if_pos c5).symm.trans hf
        refine v_aload_n dX12_readClause_107 rfl ?_
        refine v_dup dX12_readClause_108 rfl ?_
        obtain ⟨x11, ex11, hf⟩ := ob hf
        refine v_getI dX12_readClause_109 fl_12_260 ex11 ?_
        refine v_iconst dX12_readClause_112 (by decide) (v := 1) ?_
        refine v_iadd dX12_readClause_113 ?_
        obtain ⟨h12, eh12, hf⟩ := ob hf
        refine v_put dX12_readClause_114 fp_12_260 (fun z => by cases z) (fun _ => rfl) (fun _ => rfl) eh12 ?_
        refine v_aload_n dX12_readClause_117 rfl ?_
        refine v_iload_n dX12_readClause_118 rfl ?_
        refine v_aload_n dX12_readClause_119 rfl ?_
        obtain ⟨x13, ex13, hf⟩ := ob hf
        refine v_getR dX12_readClause_120 fl_12_46 ex13 ?_
        refine v_iconst dX12_readClause_123 (by decide) (v := 3) ?_
        refine v_aload_n dX12_readClause_124 rfl ?_
        obtain ⟨x14, ex14, hf⟩ := ob hf
        refine v_getI dX12_readClause_125 fl_12_260 ex14 ?_
        refine v_iconst dX12_readClause_128 (by decide) (v := 1) ?_
        refine v_isub dX12_readClause_129 ?_
        refine v_imul dX12_readClause_130 ?_
        refine v_ldcsw dX12_readClause_131 (List.mem_of_getElem? (i := 8) rfl) ?_
        obtain ⟨q15, eq15, hf⟩ := ob hf
        refine v_callV dX12_readClause_134 ⟨cb_X12_readItems, ml_12_268, im_X12_readItems⟩ se_12_X12_readItems (ckf_X12_readItems eq15) (ev_X12_readItems eq15) (by decide) (As := [.int l1, .ref x13, .int ((3 : Int32) * (x14 - (1 : Int32))), .ref (1000000010 + 7)]) rfl (st := []) rfl (Nat.le_of_ble_eq_true rfl) rfl ?_
        refine v_goto dX12_readClause_137 (tgt := 170) (by decide) ?_
        replace hf := Option.some.inj hf
        subst hf
        exact v_vret dX12_readClause_170 rfl
    · replace hf := (if_pos c4).symm.trans hf
      refine v_aload_n dX12_readClause_80 rfl ?_
      refine v_iconst dX12_readClause_81 (by decide) (v := 1) ?_
      obtain ⟨h16, eh16, hf⟩ := ob hf
      refine v_put dX12_readClause_82 fp_12_257 (fun z => by cases z) (fun _ => rfl) (fun _ => rfl) eh16 ?_
      refine v_aload_n dX12_readClause_85 rfl ?_
      refine v_iload_n dX12_readClause_86 rfl ?_
      refine v_aload_n dX12_readClause_87 rfl ?_
      obtain ⟨x17, ex17, hf⟩ := ob hf
      refine v_getR dX12_readClause_88 fl_12_40 ex17 ?_
      refine v_iconst dX12_readClause_91 (by decide) (v := 0) ?_
      refine v_ldcsw dX12_readClause_92 (List.mem_of_getElem? (i := 7) rfl) ?_
      obtain ⟨q18, eq18, hf⟩ := ob hf
      refine v_callV dX12_readClause_95 ⟨cb_X12_readItems, ml_12_268, im_X12_readItems⟩ se_12_X12_readItems (ckf_X12_readItems eq18) (ev_X12_readItems eq18) (by decide) (As := [.int l1, .ref x17, .int (0 : Int32), .ref (1000000010 + 6)]) rfl (st := []) rfl (Nat.le_of_ble_eq_true rfl) rfl ?_
      refine v_goto dX12_readClause_98 (tgt := 170) (by decide) ?_
      replace hf := Option.some.inj hf
      subst hf
      exact v_vret dX12_readClause_170 rfl
  · replace hf := (if_pos c1).symm.trans hf
    refine v_aload_n dX12_readClause_58 rfl ?_
    obtain ⟨q19, eq19, hf⟩ := ob hf
    refine v_callV dX12_readClause_59 ⟨cb_X12_fails, ml_12_149, im_X12_fails⟩ se_12_X12_fails (ckf_X12_fails eq19) (ev_X12_fails eq19) (by decide) (As := []) rfl (st := []) rfl (Nat.le_of_ble_eq_true rfl) rfl ?_
    refine v_pop dX12_readClause_62 rfl ?_
    replace hf := Option.some.inj hf
    subst hf
    exact v_vret dX12_readClause_63 rfl
def f_X12_readClause_b52 (h : xa_H) (l0 : Nat) (l1 : Int32) : Option xa_H :=
  f_X12_readClause_b53 h l0 l1 (0 : Int32)
set_option maxRecDepth 20000 in
theorem e_X12_readClause_b52 {G : xa_G} : ∀ (h : xa_H) (l0 : Nat) (l1 : Int32) (r : xa_H), f_X12_readClause_b52 h l0 l1 = some r → xa_V G M_X12_readClause 6 52 [some (.ref l0), some (.int l1), none] [] h none r := by
  intro h l0 l1 r hf
  unfold f_X12_readClause_b52 at hf
  refine v_iconst dX12_readClause_52 (by decide) (v := 0) ?_
  exact e_X12_readClause_b53 h l0 l1 (0 : Int32) r hf
def f_X12_readClause_b48 (h : xa_H) (l0 : Nat) (l1 : Int32) : Option xa_H :=
  f_X12_readClause_b53 h l0 l1 (1 : Int32)
set_option maxRecDepth 20000 in
theorem e_X12_readClause_b48 {G : xa_G} : ∀ (h : xa_H) (l0 : Nat) (l1 : Int32) (r : xa_H), f_X12_readClause_b48 h l0 l1 = some r → xa_V G M_X12_readClause 6 48 [some (.ref l0), some (.int l1), none] [] h none r := by
  intro h l0 l1 r hf
  unfold f_X12_readClause_b48 at hf
  refine v_iconst dX12_readClause_48 (by decide) (v := 1) ?_
  refine v_goto dX12_readClause_49 (tgt := 53) (by decide) ?_
  exact e_X12_readClause_b53 h l0 l1 (1 : Int32) r hf
def f_X12_readClause_b33 (h : xa_H) (l0 : Nat) (l1 : Int32) : Option xa_H :=
  if l1 = (102 : Int32) then
    (gI [12] 29 h l0).bind fun x2 =>
    if (12 : Int32) ≤ x2 then
      f_X12_readClause_b52 h l0 l1
    else
      f_X12_readClause_b48 h l0 l1
  else
    f_X12_readClause_b52 h l0 l1
set_option maxRecDepth 20000 in
theorem e_X12_readClause_b33 {G : xa_G} : ∀ (h : xa_H) (l0 : Nat) (l1 : Int32) (r : xa_H), f_X12_readClause_b33 h l0 l1 = some r → xa_V G M_X12_readClause 6 33 [some (.ref l0), some (.int l1), none] [] h none r := by
  intro h l0 l1 r hf
  unfold f_X12_readClause_b33 at hf
  refine v_iload_n dX12_readClause_33 rfl ?_
  refine v_bipush dX12_readClause_34 (by decide) (v := 102) ?_
  refine v_icmp_ne dX12_readClause_36 (tgt := 52) (by decide) (fun c1 => ?_) (fun c1 => ?_)
  · replace hf := (if_neg c1).symm.trans hf
    exact e_X12_readClause_b52 h l0 l1 r hf
  · replace hf := (if_pos c1).symm.trans hf
    refine v_aload_n dX12_readClause_39 rfl ?_
    obtain ⟨x2, ex2, hf⟩ := ob hf
    refine v_getI dX12_readClause_40 fl_12_263 ex2 ?_
    refine v_bipush dX12_readClause_43 (by decide) (v := 12) ?_
    refine v_icmp_ge dX12_readClause_45 (tgt := 52) (by decide) (fun c3 => ?_) (fun c3 => ?_)
    · replace hf := (if_pos c3).symm.trans hf
      exact e_X12_readClause_b52 h l0 l1 r hf
    · replace hf := (if_neg c3).symm.trans hf
      exact e_X12_readClause_b48 h l0 l1 r hf
def f_X12_readClause_b18 (h : xa_H) (l0 : Nat) (l1 : Int32) : Option xa_H :=
  if l1 = (112 : Int32) then
    (gI [12] 28 h l0).bind fun x2 =>
    if x2 < (6 : Int32) then
      f_X12_readClause_b48 h l0 l1
    else
      f_X12_readClause_b33 h l0 l1
  else
    f_X12_readClause_b33 h l0 l1
set_option maxRecDepth 20000 in
theorem e_X12_readClause_b18 {G : xa_G} : ∀ (h : xa_H) (l0 : Nat) (l1 : Int32) (r : xa_H), f_X12_readClause_b18 h l0 l1 = some r → xa_V G M_X12_readClause 6 18 [some (.ref l0), some (.int l1), none] [] h none r := by
  intro h l0 l1 r hf
  unfold f_X12_readClause_b18 at hf
  refine v_iload_n dX12_readClause_18 rfl ?_
  refine v_bipush dX12_readClause_19 (by decide) (v := 112) ?_
  refine v_icmp_ne dX12_readClause_21 (tgt := 33) (by decide) (fun c1 => ?_) (fun c1 => ?_)
  · replace hf := (if_neg c1).symm.trans hf
    exact e_X12_readClause_b33 h l0 l1 r hf
  · replace hf := (if_pos c1).symm.trans hf
    refine v_aload_n dX12_readClause_24 rfl ?_
    obtain ⟨x2, ex2, hf⟩ := ob hf
    refine v_getI dX12_readClause_25 fl_12_260 ex2 ?_
    refine v_bipush dX12_readClause_28 (by decide) (v := 6) ?_
    refine v_icmp_lt dX12_readClause_30 (tgt := 48) (by decide) (fun c3 => ?_) (fun c3 => ?_)
    · replace hf := (if_pos c3).symm.trans hf
      exact e_X12_readClause_b48 h l0 l1 r hf
    · replace hf := (if_neg c3).symm.trans hf
      exact e_X12_readClause_b33 h l0 l1 r hf
def f_X12_readClause (h : xa_H) (l0 : Nat) : Option xa_H :=
  (ck [12] h l0).bind fun _ =>
  (f_X12_look h l0).bind fun q1 =>
  if q1.1 = (115 : Int32) then
    (gI [12] 31 q1.2 l0).bind fun x3 =>
    if x3 = 0 then
      f_X12_readClause_b48 q1.2 l0 q1.1
    else
      f_X12_readClause_b18 q1.2 l0 q1.1
  else
    f_X12_readClause_b18 q1.2 l0 q1.1
set_option maxRecDepth 20000 in
theorem ev_X12_readClause {G : xa_G} {h : xa_H} {l0 : Nat} {r : xa_H} (hf : f_X12_readClause h l0 = some r) : xa_Ev G M_X12_readClause 6 [.ref l0] h none r := by
  refine xa_entry (by decide +kernel) (loc := [some (.ref l0), none, none]) rfl (Nat.le_of_ble_eq_true rfl) ?_
  unfold f_X12_readClause at hf
  obtain ⟨u0, eu0, hf⟩ := ob hf
  refine v_aload_n dX12_readClause_0 rfl ?_
  obtain ⟨q1, eq1, hf⟩ := ob hf
  refine v_callV dX12_readClause_1 ⟨cb_X12_look, ml_12_153, im_X12_look⟩ se_12_X12_look (ckf_X12_look eq1) (ev_X12_look eq1) (by decide) (As := []) rfl (st := []) rfl (Nat.le_of_ble_eq_true rfl) rfl ?_
  refine v_istore_n (i := 1) rfl dX12_readClause_4 (Nat.le_of_ble_eq_true rfl) (loc' := [some (.ref l0), some (.int q1.1), none]) rfl ?_
  refine v_iload_n dX12_readClause_5 rfl ?_
  refine v_bipush dX12_readClause_6 (by decide) (v := 115) ?_
  refine v_icmp_ne dX12_readClause_8 (tgt := 18) (by decide) (fun c2 => ?_) (fun c2 => ?_)
  · replace hf := (if_neg c2).symm.trans hf
    exact e_X12_readClause_b18 q1.2 l0 q1.1 r hf
  · replace hf := (if_pos c2).symm.trans hf
    refine v_aload_n dX12_readClause_11 rfl ?_
    obtain ⟨x3, ex3, hf⟩ := ob hf
    refine v_getI dX12_readClause_12 fl_12_257 ex3 ?_
    refine v_if_eq dX12_readClause_15 (tgt := 48) (by decide) (fun c4 => ?_) (fun c4 => ?_)
    · replace hf := (if_pos c4).symm.trans hf
      exact e_X12_readClause_b48 q1.2 l0 q1.1 r hf
    · replace hf := (if_neg c4).symm.trans hf
      exact e_X12_readClause_b18 q1.2 l0 q1.1 r hf
theorem ckf_X12_readClause {h : xa_H} {l0 : Nat} {r : xa_H} (hf : f_X12_readClause h l0 = some r) : ck [12] h l0 = some () := by
  obtain ⟨u, e, -⟩ := ob hf
  exact e
