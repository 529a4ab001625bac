def M_X0_become : xa_M := (yX0_become, cX0_become, 2, none)
theorem cb_X0_become : xa_CB M_X0_become 1 := ⟨gws_at 794 (by decide +kernel) rfl, gws_at 112 (by decide +kernel) rfl, by decide +kernel, Nat.le_of_ble_eq_true rfl⟩
def f_X0_become (h : xa_H) (l0 : Nat) (l1 : Nat) : Option xa_H :=
  (ck [0] h l0).bind fun _ =>
  (gR [0] 0 h l1).bind fun x1 =>
  (gR [0] 0 h l0).bind fun x2 =>
  (gR [0] 0 h l0).bind fun x3 =>
  (aN h x3).bind fun x4 =>
  (cpI h x1 (0 : Int32) x2 (0 : Int32) x4).bind fun h5 =>
  (gR [0] 1 h5 l1).bind fun x6 =>
  (gR [0] 1 h5 l0).bind fun x7 =>
  (cpI h5 x6 (0 : Int32) x7 (0 : Int32) (6 : Int32)).bind fun h8 =>
  (gR [0] 2 h8 l1).bind fun x9 =>
  (gR [0] 2 h8 l0).bind fun x10 =>
  (cpI h8 x9 (0 : Int32) x10 (0 : Int32) (6 : Int32)).bind fun h11 =>
  (gR [0] 3 h11 l1).bind fun x12 =>
  (gR [0] 3 h11 l0).bind fun x13 =>
  (cpI h11 x12 (0 : Int32) x13 (0 : Int32) (6 : Int32)).bind fun h14 =>
  (gI [0] 4 h14 l1).bind fun x15 =>
  (xp [0] 4 h14 l0 (.int x15)).bind fun h16 =>
  (gI [0] 5 h16 l1).bind fun x17 =>
  (xp [0] 5 h16 l0 (.int x17)).bind fun h18 =>
  (gI [0] 6 h18 l1).bind fun x19 =>
  (xp [0] 6 h18 l0 (.int x19)).bind fun h20 =>
  (gI [0] 7 h20 l1).bind fun x21 =>
  (xp [0] 7 h20 l0 (.int x21)).bind fun h22 =>
  (gI [0] 8 h22 l1).bind fun x23 =>
  (xp [0] 8 h22 l0 (.int x23)).bind fun h24 =>
  some h24
set_option maxRecDepth 20000 in
theorem ev_X0_become {G : xa_G} {h : xa_H} {l0 : Nat} {l1 : Nat} {r : xa_H} (hf : f_X0_become h l0 l1 = some r) : xa_Ev G M_X0_become 1 [.ref l0, .ref l1] h none r := by
  refine xa_entry (by decide +kernel) (loc := [some (.ref l0), some (.ref l1)]) rfl (Nat.le_of_ble_eq_true rfl) ?_
  unfold f_X0_become at hf
  obtain ⟨u0, eu0, hf⟩ := ob hf
  refine v_aload_n dX0_become_0 rfl ?_
  obtain ⟨x1, ex1, hf⟩ := ob hf
  refine v_getR dX0_become_1 fl_0_9 ex1 ?_
  refine v_iconst dX0_become_4 (by decide) (v := 0) ?_
  refine v_aload_n dX0_become_5 rfl ?_
  obtain ⟨x2, ex2, hf⟩ := ob hf
  refine v_getR dX0_become_6 fl_0_9 ex2 ?_
  refine v_iconst dX0_become_9 (by decide) (v := 0) ?_
  refine v_aload_n dX0_become_10 rfl ?_
  obtain ⟨x3, ex3, hf⟩ := ob hf
  refine v_getR dX0_become_11 fl_0_9 ex3 ?_
  obtain ⟨x4, ex4, hf⟩ := ob hf
  refine v_alen dX0_become_14 ex4 ?_
  obtain ⟨h5, eh5, hf⟩ := ob hf
  refine v_copy dX0_become_15 cw_0_40 (by decide) (Nat.le_of_ble_eq_true rfl) (by decide) eh5 ?_
  refine v_aload_n dX0_become_18 rfl ?_
  obtain ⟨x6, ex6, hf⟩ := ob hf
  refine v_getR dX0_become_19 fl_0_15 ex6 ?_
  refine v_iconst dX0_become_22 (by decide) (v := 0) ?_
  refine v_aload_n dX0_become_23 rfl ?_
  obtain ⟨x7, ex7, hf⟩ := ob hf
  refine v_getR dX0_become_24 fl_0_15 ex7 ?_
  refine v_iconst dX0_become_27 (by decide) (v := 0) ?_
  refine v_bipush dX0_become_28 (by decide) (v := 6) ?_
  obtain ⟨h8, eh8, hf⟩ := ob hf
  refine v_copy dX0_become_30 cw_0_40 (by decide) (Nat.le_of_ble_eq_true rfl) (by decide) eh8 ?_
  refine v_aload_n dX0_become_33 rfl ?_
  obtain ⟨x9, ex9, hf⟩ := ob hf
  refine v_getR dX0_become_34 fl_0_18 ex9 ?_
  refine v_iconst dX0_become_37 (by decide) (v := 0) ?_
  refine v_aload_n dX0_become_38 rfl ?_
  obtain ⟨x10, ex10, hf⟩ := ob hf
  refine v_getR dX0_become_39 fl_0_18 ex10 ?_
  refine v_iconst dX0_become_42 (by decide) (v := 0) ?_
  refine v_bipush dX0_become_43 (by decide) (v := 6) ?_
  obtain ⟨h11, eh11, hf⟩ := ob hf
  refine v_copy dX0_become_45 cw_0_40 (by decide) (Nat.le_of_ble_eq_true rfl) (by decide) eh11 ?_
  refine v_aload_n dX0_become_48 rfl ?_
  obtain ⟨x12, ex12, hf⟩ := ob hf
  refine v_getR dX0_become_49 fl_0_21 ex12 ?_
  refine v_iconst dX0_become_52 (by decide) (v := 0) ?_
  refine v_aload_n dX0_become_53 rfl ?_
  obtain ⟨x13, ex13, hf⟩ := ob hf
  refine v_getR dX0_become_54 fl_0_21 ex13 ?_
  refine v_iconst dX0_become_57 (by decide) (v := 0) ?_
  refine v_bipush dX0_become_58 (by decide) (v := 6) ?_
  obtain ⟨h14, eh14, hf⟩ := ob hf
  refine v_copy dX0_become_60 cw_0_40 (by decide) (Nat.le_of_ble_eq_true rfl) (by decide) eh14 ?_
  refine v_aload_n dX0_become_63 rfl ?_
  refine v_aload_n dX0_become_64 rfl ?_
  obtain ⟨x15, ex15, hf⟩ := ob hf
  refine v_getI dX0_become_65 fl_0_24 ex15 ?_
  obtain ⟨h16, eh16, hf⟩ := ob hf
  refine v_put dX0_become_68 fp_0_24 (fun z => by cases z) (fun _ => rfl) (fun _ => rfl) eh16 ?_
  refine v_aload_n dX0_become_71 rfl ?_
  refine v_aload_n dX0_become_72 rfl ?_
  obtain ⟨x17, ex17, hf⟩ := ob hf
  refine v_getI dX0_become_73 fl_0_28 ex17 ?_
  obtain ⟨h18, eh18, hf⟩ := ob hf
  refine v_put dX0_become_76 fp_0_28 (fun z => by cases z) (fun _ => rfl) (fun _ => rfl) eh18 ?_
  refine v_aload_n dX0_become_79 rfl ?_
  refine v_aload_n dX0_become_80 rfl ?_
  obtain ⟨x19, ex19, hf⟩ := ob hf
  refine v_getI dX0_become_81 fl_0_31 ex19 ?_
  obtain ⟨h20, eh20, hf⟩ := ob hf
  refine v_put dX0_become_84 fp_0_31 (fun z => by cases z) (fun _ => rfl) (fun _ => rfl) eh20 ?_
  refine v_aload_n dX0_become_87 rfl ?_
  refine v_aload_n dX0_become_88 rfl ?_
  obtain ⟨x21, ex21, hf⟩ := ob hf
  refine v_getI dX0_become_89 fl_0_34 ex21 ?_
  obtain ⟨h22, eh22, hf⟩ := ob hf
  refine v_put dX0_become_92 fp_0_34 (fun z => by cases z) (fun _ => rfl) (fun _ => rfl) eh22 ?_
  refine v_aload_n dX0_become_95 rfl ?_
  refine v_aload_n dX0_become_96 rfl ?_
  obtain ⟨x23, ex23, hf⟩ := ob hf
  refine v_getI dX0_become_97 fl_0_37 ex23 ?_
  obtain ⟨h24, eh24, hf⟩ := ob hf
  refine v_put dX0_become_100 fp_0_37 (fun z => by cases z) (fun _ => rfl) (fun _ => rfl) eh24 ?_
  replace hf := Option.some.inj hf
  subst hf
  exact v_vret dX0_become_103 rfl
theorem ckf_X0_become {h : xa_H} {l0 : Nat} {l1 : Nat} {r : xa_H} (hf : f_X0_become h l0 l1 = some r) : ck [0] h l0 = some () := by
  obtain ⟨u, e, -⟩ := ob hf
  exact e
def M_X0_has : xa_M := (yX0_has, cX0_has, 2, some .boolean)
theorem cb_X0_has : xa_CB M_X0_has 1 := ⟨gws_at 814 (by decide +kernel) rfl, gws_at 112 (by decide +kernel) rfl, by decide +kernel, Nat.le_of_ble_eq_true rfl⟩
def f_X0_has (h : xa_H) (l0 : Nat) (l1 : Int32) : Option Int32 :=
  (ck [0] h l0).bind fun _ =>
  if l1 < 0 then
    some (0 : Int32)
  else
    (gI [0] 4 h l0).bind fun x2 =>
    if x2 ≤ l1 then
      some (0 : Int32)
    else
      some (1 : Int32)
set_option maxRecDepth 20000 in
theorem ev_X0_has {G : xa_G} {h : xa_H} {l0 : Nat} {l1 : Int32} {r : Int32} (hf : f_X0_has h l0 l1 = some r) : xa_Ev G M_X0_has 0 [.ref l0, .int l1] h (some (.int r)) h := by
  refine xa_entry (by decide +kernel) (loc := [some (.ref l0), some (.int l1)]) rfl (Nat.le_of_ble_eq_true rfl) ?_
  unfold f_X0_has at hf
  obtain ⟨u0, eu0, hf⟩ := ob hf
  refine v_iload_n dX0_has_0 rfl ?_
  refine v_if_lt dX0_has_1 (tgt := 16) (by decide) (fun c1 => ?_) (fun c1 => ?_)
  · replace hf := (if_pos c1).symm.trans hf
    refine v_iconst dX0_has_16 (by decide) (v := 0) ?_
    replace hf := Option.some.inj hf
    subst hf
    exact v_zret dX0_has_17 rfl (by decide)
  · replace hf := (if_neg c1).symm.trans hf
    refine v_iload_n dX0_has_4 rfl ?_
    refine v_aload_n dX0_has_5 rfl ?_
    obtain ⟨x2, ex2, hf⟩ := ob hf
    refine v_getI dX0_has_6 fl_0_24 ex2 ?_
    refine v_icmp_ge dX0_has_9 (tgt := 16) (by decide) (fun c3 => ?_) (fun c3 => ?_)
    · replace hf := (if_pos c3).symm.trans hf
      refine v_iconst dX0_has_16 (by decide) (v := 0) ?_
      replace hf := Option.some.inj hf
      subst hf
      exact v_zret dX0_has_17 rfl (by decide)
    · replace hf := (if_neg c3).symm.trans hf
      refine v_iconst dX0_has_12 (by decide) (v := 1) ?_
      refine v_goto dX0_has_13 (tgt := 17) (by decide) ?_
      replace hf := Option.some.inj hf
      subst hf
      exact v_zret dX0_has_17 rfl (by decide)
theorem ckf_X0_has {h : xa_H} {l0 : Nat} {l1 : Int32} {r : Int32} (hf : f_X0_has h l0 l1 = some r) : ck [0] h l0 = some () := by
  obtain ⟨u, e, -⟩ := ob hf
  exact e
def M_X0_debt : xa_M := (yX0_debt, cX0_debt, 3, some .int)
theorem cb_X0_debt : xa_CB M_X0_debt 2 := ⟨gws_at 665 (by decide +kernel) rfl, gws_at 112 (by decide +kernel) rfl, by decide +kernel, Nat.le_of_ble_eq_true rfl⟩
def f_X0_debt (h : xa_H) (l0 : Nat) (l1 : Int32) (l2 : Int32) : Option Int32 :=
  (ck [0] h l0).bind fun _ =>
  (gR [0] 0 h l0).bind fun x1 =>
  (aI h x1 (((6 : Int32) * l1) + l2)).bind fun x2 =>
  some x2
set_option maxRecDepth 20000 in
theorem ev_X0_debt {G : xa_G} {h : xa_H} {l0 : Nat} {l1 : Int32} {l2 : Int32} {r : Int32} (hf : f_X0_debt h l0 l1 l2 = some r) : xa_Ev G M_X0_debt 0 [.ref l0, .int l1, .int l2] h (some (.int r)) h := by
  refine xa_entry (by decide +kernel) (loc := [some (.ref l0), some (.int l1), some (.int l2)]) rfl (Nat.le_of_ble_eq_true rfl) ?_
  unfold f_X0_debt at hf
  obtain ⟨u0, eu0, hf⟩ := ob hf
  refine v_aload_n dX0_debt_0 rfl ?_
  obtain ⟨x1, ex1, hf⟩ := ob hf
  refine v_getR dX0_debt_1 fl_0_9 ex1 ?_
  refine v_bipush dX0_debt_4 (by decide) (v := 6) ?_
  refine v_iload_n dX0_debt_6 rfl ?_
  refine v_imul dX0_debt_7 ?_
  refine v_iload_n dX0_debt_8 rfl ?_
  refine v_iadd dX0_debt_9 ?_
  obtain ⟨x2, ex2, hf⟩ := ob hf
  refine v_ialoadI dX0_debt_10 ex2 ?_
  replace hf := Option.some.inj hf
  subst hf
  exact v_iret dX0_debt_11 rfl
theorem ckf_X0_debt {h : xa_H} {l0 : Nat} {l1 : Int32} {l2 : Int32} {r : Int32} (hf : f_X0_debt h l0 l1 l2 = some r) : ck [0] h l0 = some () := by
  obtain ⟨u, e, -⟩ := ob hf
  exact e
def M_X0_isFull : xa_M := (yX0_isFull, cX0_isFull, 6, some .boolean)
theorem cb_X0_isFull : xa_CB M_X0_isFull 1 := ⟨gws_at 869 (by decide +kernel) rfl, gws_at 112 (by decide +kernel) rfl, by decide +kernel, Nat.le_of_ble_eq_true rfl⟩
def f_X0_isFull_b80 (k2 : xa_H → Nat → Int32 → Int32 → Option Int32) (h : xa_H) (l0 : Nat) (l1 : Int32) (l2 : Int32) : Option Int32 :=
  k2 h l0 l1 (l2 + (1 : Int32))
set_option maxRecDepth 20000 in
theorem e_X0_isFull_b80 {G : xa_G} {k2 : xa_H → Nat → Int32 → Int32 → Option Int32} (hk2 : ∀ (h : xa_H) (l0 : Nat) (l1 : Int32) (l2 : Int32) (r : Int32), k2 h l0 l1 l2 = some r → xa_V G M_X0_isFull 1 2 [some (.ref l0), some (.int l1), some (.int l2), none, none, none] [] h (some (.int r)) h) : ∀ (h : xa_H) (l0 : Nat) (l1 : Int32) (l2 : Int32) (r : Int32), f_X0_isFull_b80 k2 h l0 l1 l2 = some r → xa_V G M_X0_isFull 1 80 [some (.ref l0), some (.int l1), some (.int l2), none, none, none] [] h (some (.int r)) h := by
  intro h l0 l1 l2 r hf
  unfold f_X0_isFull_b80 at hf
  refine v_iinc dX0_isFull_80 rfl (v := (l2 + (1 : Int32))) rfl (Nat.le_of_ble_eq_true rfl) (loc' := [some (.ref l0), some (.int l1), some (.int (l2 + (1 : Int32))), none, none, none]) rfl ?_
  refine v_goto dX0_isFull_83 (tgt := 2) (by decide) ?_
  exact hk2 h l0 l1 (l2 + (1 : Int32)) r hf
def f_X0_isFull_b74 (k2 : xa_H → Nat → Int32 → Int32 → Option Int32) (k27 : xa_H → Nat → Int32 → Int32 → Int32 → Int32 → Option Int32) (h : xa_H) (l0 : Nat) (l1 : Int32) (l2 : Int32) (l3 : Int32) (l4 : Int32) : Option Int32 :=
  k27 h l0 l1 l2 l3 (l4 + (1 : Int32))
set_option maxRecDepth 20000 in
theorem e_X0_isFull_b74 {G : xa_G} {k2 : xa_H → Nat → Int32 → Int32 → Option Int32} (hk2 : ∀ (h : xa_H) (l0 : Nat) (l1 : Int32) (l2 : Int32) (r : Int32), k2 h l0 l1 l2 = some r → xa_V G M_X0_isFull 1 2 [some (.ref l0), some (.int l1), some (.int l2), none, none, none] [] h (some (.int r)) h) {k27 : xa_H → Nat → Int32 → Int32 → Int32 → Int32 → Option Int32} (hk27 : ∀ (h : xa_H) (l0 : Nat) (l1 : Int32) (l2 : Int32) (l3 : Int32) (l4 : Int32) (r : Int32), k27 h l0 l1 l2 l3 l4 = some r → xa_V G M_X0_isFull 1 27 [some (.ref l0), some (.int l1), some (.int l2), some (.int l3), some (.int l4), none] [] h (some (.int r)) h) : ∀ (h : xa_H) (l0 : Nat) (l1 : Int32) (l2 : Int32) (l3 : Int32) (l4 : Int32) (r : Int32), f_X0_isFull_b74 k2 k27 h l0 l1 l2 l3 l4 = some r → xa_V G M_X0_isFull 1 74 [some (.ref l0), some (.int l1), some (.int l2), some (.int l3), some (.int l4), none] [] h (some (.int r)) h := by
  intro h l0 l1 l2 l3 l4 r hf
  unfold f_X0_isFull_b74 at hf
  refine v_iinc dX0_isFull_74 rfl (v := (l4 + (1 : Int32))) rfl (Nat.le_of_ble_eq_true rfl) (loc' := [some (.ref l0), some (.int l1), some (.int l2), some (.int l3), some (.int (l4 + (1 : Int32))), none]) rfl ?_
  refine v_goto dX0_isFull_77 (tgt := 27) (by decide) ?_
  exact hk27 h l0 l1 l2 l3 (l4 + (1 : Int32)) r hf
def f_X0_isFull_b27 (k2 : xa_H → Nat → Int32 → Int32 → Option Int32) : Nat → xa_H → Nat → Int32 → Int32 → Int32 → Int32 → Option Int32
  | 0, _, _, _, _, _, _ => none
  | n + 1, h, l0, l1, l2, l3, l4 =>
    (gI [0] 4 h l0).bind fun x1 =>
    if x1 ≤ l4 then
      f_X0_isFull_b80 k2 h l0 l1 l2
    else
      (f_X0_debt h l0 l1 l4).bind fun q3 =>
      if q3 ≤ 0 then
        f_X0_isFull_b74 k2 (fun h l0 l1 l2 l3 l4 => f_X0_isFull_b27 k2 n h l0 l1 l2 l3 l4) h l0 l1 l2 l3 l4
      else
        (f_X0_debt h l0 l2 l4).bind fun q5 =>
        (gI [0] 5 h l0).bind fun x6 =>
        if (iabs (q5 + (l3 * q3))) ≤ x6 then
          f_X0_isFull_b74 k2 (fun h l0 l1 l2 l3 l4 => f_X0_isFull_b27 k2 n h l0 l1 l2 l3 l4) h l0 l1 l2 l3 l4
        else
          some (1 : Int32)
set_option maxRecDepth 20000 in
theorem e_X0_isFull_b27 {G : xa_G} {k2 : xa_H → Nat → Int32 → Int32 → Option Int32} (hk2 : ∀ (h : xa_H) (l0 : Nat) (l1 : Int32) (l2 : Int32) (r : Int32), k2 h l0 l1 l2 = some r → xa_V G M_X0_isFull 1 2 [some (.ref l0), some (.int l1), some (.int l2), none, none, none] [] h (some (.int r)) h) : ∀ (n : Nat) (h : xa_H) (l0 : Nat) (l1 : Int32) (l2 : Int32) (l3 : Int32) (l4 : Int32) (r : Int32), f_X0_isFull_b27 k2 n h l0 l1 l2 l3 l4 = some r → xa_V G M_X0_isFull 1 27 [some (.ref l0), some (.int l1), some (.int l2), some (.int l3), some (.int l4), none] [] h (some (.int r)) h := by
  intro n
  induction n with
  | zero =>
    intro h l0 l1 l2 l3 l4 r hf
    cases (show (none : Option Int32) = some r from hf)
  | succ n ih =>
    intro h l0 l1 l2 l3 l4 r hf
    rw [f_X0_isFull_b27] at hf
    refine v_iload dX0_isFull_27 rfl ?_
    refine v_aload_n dX0_isFull_29 rfl ?_
    obtain ⟨x1, ex1, hf⟩ := ob hf
    refine v_getI dX0_isFull_30 fl_0_24 ex1 ?_
    refine v_icmp_ge dX0_isFull_33 (tgt := 80) (by decide) (fun c2 => ?_) (fun c2 => ?_)
    · replace hf := (if_pos c2).symm.trans hf
      exact xa_weak (loc := [some (.ref l0), some (.int l1), some (.int l2), none, none, none]) ⟨rfl, ⟨rfl, ⟨rfl, trivial⟩⟩⟩ (e_X0_isFull_b80 hk2 h l0 l1 l2 r hf)
    · replace hf := (if_neg c2).symm.trans hf
      refine v_aload_n dX0_isFull_36 rfl ?_
      refine v_iload_n dX0_isFull_37 rfl ?_
      refine v_iload dX0_isFull_38 rfl ?_
      obtain ⟨q3, eq3, hf⟩ := ob hf
      refine v_callV dX0_isFull_40 ⟨cb_X0_debt, ml_0_46, im_X0_debt⟩ se_0_X0_debt (ckf_X0_debt eq3) (ev_X0_debt eq3) (by decide) (As := [.int l1, .int l4]) rfl (st := []) rfl (Nat.le_of_ble_eq_true rfl) rfl ?_
      refine v_istore dX0_isFull_43 (Nat.le_of_ble_eq_true rfl) (loc' := [some (.ref l0), some (.int l1), some (.int l2), some (.int l3), some (.int l4), some (.int q3)]) rfl ?_
      refine v_iload dX0_isFull_45 rfl ?_
      refine v_if_le dX0_isFull_47 (tgt := 74) (by decide) (fun c4 => ?_) (fun c4 => ?_)
      · replace hf := (if_pos c4).symm.trans hf
        exact xa_weak (loc := [some (.ref l0), some (.int l1), some (.int l2), some (.int l3), some (.int l4), none]) ⟨rfl, ⟨rfl, ⟨rfl, ⟨rfl, ⟨rfl, trivial⟩⟩⟩⟩⟩ (e_X0_isFull_b74 hk2 ih h l0 l1 l2 l3 l4 r hf)
      · replace hf := (if_neg c4).symm.trans hf
        refine v_aload_n dX0_isFull_50 rfl ?_
        refine v_iload_n dX0_isFull_51 rfl ?_
        refine v_iload dX0_isFull_52 rfl ?_
        obtain ⟨q5, eq5, hf⟩ := ob hf
        refine v_callV dX0_isFull_54 ⟨cb_X0_debt, ml_0_46, im_X0_debt⟩ se_0_X0_debt (ckf_X0_debt eq5) (ev_X0_debt eq5) (by decide) (As := [.int l2, .int l4]) rfl (st := []) rfl (Nat.le_of_ble_eq_true rfl) rfl ?_
        refine v_iload_n dX0_isFull_57 rfl ?_
        refine v_iload dX0_isFull_58 rfl ?_
        refine v_imul dX0_isFull_60 ?_
        refine v_iadd dX0_isFull_61 ?_
        refine w_mabs dX0_isFull_62 mw_0_65 (by decide) (Nat.le_of_ble_eq_true rfl) ?_
        refine v_aload_n dX0_isFull_65 rfl ?_
        obtain ⟨x6, ex6, hf⟩ := ob hf
        refine v_getI dX0_isFull_66 fl_0_28 ex6 ?_
        refine v_icmp_le dX0_isFull_69 (tgt := 74) (by decide) (fun c7 => ?_) (fun c7 => ?_)
        · replace hf := (if_pos c7).symm.trans hf
          exact xa_weak (loc := [some (.ref l0), some (.int l1), some (.int l2), some (.int l3), some (.int l4), none]) ⟨rfl, ⟨rfl, ⟨rfl, ⟨rfl, ⟨rfl, trivial⟩⟩⟩⟩⟩ (e_X0_isFull_b74 hk2 ih h l0 l1 l2 l3 l4 r hf)
        · replace hf := (if_neg c7).symm.trans hf
          refine v_iconst dX0_isFull_72 (by decide) (v := 1) ?_
          replace hf := Option.some.inj hf
          subst hf
          exact v_zret dX0_isFull_73 rfl (by decide)
def f_X0_isFull_b2 : Nat → xa_H → Nat → Int32 → Int32 → Option Int32
  | 0, _, _, _, _ => none
  | n + 1, h, l0, l1, l2 =>
    (gI [0] 4 h l0).bind fun x1 =>
    if x1 ≤ l2 then
      some (0 : Int32)
    else
      (f_X0_debt h l0 l2 l1).bind fun q3 =>
      if 0 < q3 then
        f_X0_isFull_b27 (fun h l0 l1 l2 => f_X0_isFull_b2 n h l0 l1 l2) 1048576 h l0 l1 l2 q3 (0 : Int32)
      else
        f_X0_isFull_b80 (fun h l0 l1 l2 => f_X0_isFull_b2 n h l0 l1 l2) h l0 l1 l2
set_option maxRecDepth 20000 in
theorem e_X0_isFull_b2 {G : xa_G} : ∀ (n : Nat) (h : xa_H) (l0 : Nat) (l1 : Int32) (l2 : Int32) (r : Int32), f_X0_isFull_b2 n h l0 l1 l2 = some r → xa_V G M_X0_isFull 1 2 [some (.ref l0), some (.int l1), some (.int l2), none, none, none] [] h (some (.int r)) h := by
  intro n
  induction n with
  | zero =>
    intro h l0 l1 l2 r hf
    cases (show (none : Option Int32) = some r from hf)
  | succ n ih =>
    intro h l0 l1 l2 r hf
    rw [f_X0_isFull_b2] at hf
    refine v_iload_n dX0_isFull_2 rfl ?_
    refine v_aload_n dX0_isFull_3 rfl ?_
    obtain ⟨x1, ex1, hf⟩ := ob hf
    refine v_getI dX0_isFull_4 fl_0_24 ex1 ?_
    refine v_icmp_ge dX0_isFull_7 (tgt := 86) (by decide) (fun c2 => ?_) (fun c2 => ?_)
    · replace hf := (if_pos c2).symm.trans hf
      refine v_iconst dX0_isFull_86 (by decide) (v := 0) ?_
      replace hf := Option.some.inj hf
      subst hf
      exact v_zret dX0_isFull_87 rfl (by decide)
    · replace hf := (if_neg c2).symm.trans hf
      refine v_aload_n dX0_isFull_10 rfl ?_
      refine v_iload_n dX0_isFull_11 rfl ?_
      refine v_iload_n dX0_isFull_12 rfl ?_
      obtain ⟨q3, eq3, hf⟩ := ob hf
      refine v_callV dX0_isFull_13 ⟨cb_X0_debt, ml_0_46, im_X0_debt⟩ se_0_X0_debt (ckf_X0_debt eq3) (ev_X0_debt eq3) (by decide) (As := [.int l2, .int l1]) rfl (st := []) rfl (Nat.le_of_ble_eq_true rfl) rfl ?_
      refine v_istore_n (i := 3) rfl dX0_isFull_16 (Nat.le_of_ble_eq_true rfl) (loc' := [some (.ref l0), some (.int l1), some (.int l2), some (.int q3), none, none]) rfl ?_
      refine v_iload_n dX0_isFull_17 rfl ?_
      refine v_if_gt dX0_isFull_18 (tgt := 24) (by decide) (fun c4 => ?_) (fun c4 => ?_)
      · replace hf := (if_pos c4).symm.trans hf
        refine v_iconst dX0_isFull_24 (by decide) (v := 0) ?_
        refine v_istore dX0_isFull_25 (Nat.le_of_ble_eq_true rfl) (loc' := [some (.ref l0), some (.int l1), some (.int l2), some (.int q3), some (.int (0 : Int32)), none]) rfl ?_
        exact e_X0_isFull_b27 ih 1048576 h l0 l1 l2 q3 (0 : Int32) r hf
      · replace hf := (if_neg c4).symm.trans hf
        refine v_goto dX0_isFull_21 (tgt := 80) (by decide) ?_
        exact xa_weak (loc := [some (.ref l0), some (.int l1), some (.int l2), none, none, none]) ⟨rfl, ⟨rfl, ⟨rfl, trivial⟩⟩⟩ (e_X0_isFull_b80 ih h l0 l1 l2 r hf)
def f_X0_isFull (h : xa_H) (l0 : Nat) (l1 : Int32) : Option Int32 :=
  (ck [0] h l0).bind fun _ =>
  f_X0_isFull_b2 1048576 h l0 l1 (0 : Int32)
set_option maxRecDepth 20000 in
theorem ev_X0_isFull {G : xa_G} {h : xa_H} {l0 : Nat} {l1 : Int32} {r : Int32} (hf : f_X0_isFull h l0 l1 = some r) : xa_Ev G M_X0_isFull 1 [.ref l0, .int l1] h (some (.int r)) h := by
  refine xa_entry (by decide +kernel) (loc := [some (.ref l0), some (.int l1), none, none, none, none]) rfl (Nat.le_of_ble_eq_true rfl) ?_
  unfold f_X0_isFull at hf
  obtain ⟨u0, eu0, hf⟩ := ob hf
  refine v_iconst dX0_isFull_0 (by decide) (v := 0) ?_
  refine v_istore_n (i := 2) rfl dX0_isFull_1 (Nat.le_of_ble_eq_true rfl) (loc' := [some (.ref l0), some (.int l1), some (.int (0 : Int32)), none, none, none]) rfl ?_
  exact e_X0_isFull_b2 1048576 h l0 l1 (0 : Int32) r hf
theorem ckf_X0_isFull {h : xa_H} {l0 : Nat} {l1 : Int32} {r : Int32} (hf : f_X0_isFull h l0 l1 = some r) : ck [0] h l0 = some () := by
  obtain ⟨u, e, -⟩ := ob hf
  exact e
def M_X0_isKept : xa_M := (yX0_isKept, cX0_isKept, 2, some .boolean)
theorem cb_X0_isKept : xa_CB M_X0_isKept 1 := ⟨gws_at 859 (by decide +kernel) rfl, gws_at 112 (by decide +kernel) rfl, by decide +kernel, Nat.le_of_ble_eq_true rfl⟩
def f_X0_isKept (h : xa_H) (l0 : Nat) (l1 : Int32) : Option Int32 :=
  (ck [0] h l0).bind fun _ =>
  (gI [0] 6 h l0).bind fun x1 =>
  if ((shr x1 l1) &&& (1 : Int32)) = (1 : Int32) then
    some (1 : Int32)
  else
    some (0 : Int32)
set_option maxRecDepth 20000 in
theorem ev_X0_isKept {G : xa_G} {h : xa_H} {l0 : Nat} {l1 : Int32} {r : Int32} (hf : f_X0_isKept h l0 l1 = some r) : xa_Ev G M_X0_isKept 0 [.ref l0, .int l1] h (some (.int r)) h := by
  refine xa_entry (by decide +kernel) (loc := [some (.ref l0), some (.int l1)]) rfl (Nat.le_of_ble_eq_true rfl) ?_
  unfold f_X0_isKept at hf
  obtain ⟨u0, eu0, hf⟩ := ob hf
  refine v_aload_n dX0_isKept_0 rfl ?_
  obtain ⟨x1, ex1, hf⟩ := ob hf
  refine v_getI dX0_isKept_1 fl_0_31 ex1 ?_
  refine v_iload_n dX0_isKept_4 rfl ?_
  refine w_ishr dX0_isKept_5 ?_
  refine v_iconst dX0_isKept_6 (by decide) (v := 1) ?_
  refine v_iand dX0_isKept_7 ?_
  refine v_iconst dX0_isKept_8 (by decide) (v := 1) ?_
  refine v_icmp_ne dX0_isKept_9 (tgt := 16) (by decide) (fun c2 => ?_) (fun c2 => ?_)
  · replace hf := (if_neg c2).symm.trans hf
    refine v_iconst dX0_isKept_16 (by decide) (v := 0) ?_
    replace hf := Option.some.inj hf
    subst hf
    exact v_zret dX0_isKept_17 rfl (by decide)
  · replace hf := (if_pos c2).symm.trans hf
    refine v_iconst dX0_isKept_12 (by decide) (v := 1) ?_
    refine v_goto dX0_isKept_13 (tgt := 17) (by decide) ?_
    replace hf := Option.some.inj hf
    subst hf
    exact v_zret dX0_isKept_17 rfl (by decide)
theorem ckf_X0_isKept {h : xa_H} {l0 : Nat} {l1 : Int32} {r : Int32} (hf : f_X0_isKept h l0 l1 = some r) : ck [0] h l0 = some () := by
  obtain ⟨u, e, -⟩ := ob hf
  exact e
def M_X0_canTurn : xa_M := (yX0_canTurn, cX0_canTurn, 2, some .boolean)
theorem cb_X0_canTurn : xa_CB M_X0_canTurn 1 := ⟨gws_at 863 (by decide +kernel) rfl, gws_at 112 (by decide +kernel) rfl, by decide +kernel, Nat.le_of_ble_eq_true rfl⟩
def f_X0_canTurn (h : xa_H) (l0 : Nat) (l1 : Int32) : Option Int32 :=
  (ck [0] h l0).bind fun _ =>
  (f_X0_has h l0 l1).bind fun q1 =>
  if q1 = 0 then
    some (0 : Int32)
  else
    (f_X0_isKept h l0 l1).bind fun q3 =>
    if q3 = 0 then
      (gR [0] 1 h l0).bind fun x5 =>
      (aI h x5 l1).bind fun x6 =>
      if x6 = 0 then
        some (0 : Int32)
      else
        (f_X0_isFull h l0 l1).bind fun q8 =>
        if q8 = 0 then
          some (1 : Int32)
        else
          some (0 : Int32)
    else
      some (0 : Int32)
set_option maxRecDepth 20000 in
theorem ev_X0_canTurn {G : xa_G} {h : xa_H} {l0 : Nat} {l1 : Int32} {r : Int32} (hf : f_X0_canTurn h l0 l1 = some r) : xa_Ev G M_X0_canTurn 2 [.ref l0, .int l1] h (some (.int r)) h := by
  refine xa_entry (by decide +kernel) (loc := [some (.ref l0), some (.int l1)]) rfl (Nat.le_of_ble_eq_true rfl) ?_
  unfold f_X0_canTurn at hf
  obtain ⟨u0, eu0, hf⟩ := ob hf
  refine v_aload_n dX0_canTurn_0 rfl ?_
  refine v_iload_n dX0_canTurn_1 rfl ?_
  obtain ⟨q1, eq1, hf⟩ := ob hf
  refine v_callV dX0_canTurn_2 ⟨cb_X0_has, ml_0_55, im_X0_has⟩ se_0_X0_has (ckf_X0_has eq1) (ev_X0_has eq1) (by decide) (As := [.int l1]) rfl (st := []) rfl (Nat.le_of_ble_eq_true rfl) rfl ?_
  refine v_if_eq dX0_canTurn_5 (tgt := 37) (by decide) (fun c2 => ?_) (fun c2 => ?_)
  · replace hf := (if_pos c2).symm.trans hf
    refine v_iconst dX0_canTurn_37 (by decide) (v := 0) ?_
    replace hf := Option.some.inj hf
    subst hf
    exact v_zret dX0_canTurn_38 rfl (by decide)
  · replace hf := (if_neg c2).symm.trans hf
    refine v_aload_n dX0_canTurn_8 rfl ?_
    refine v_iload_n dX0_canTurn_9 rfl ?_
    obtain ⟨q3, eq3, hf⟩ := ob hf
    refine v_callV dX0_canTurn_10 ⟨cb_X0_isKept, ml_0_59, im_X0_isKept⟩ se_0_X0_isKept (ckf_X0_isKept eq3) (ev_X0_isKept eq3) (by decide) (As := [.int l1]) rfl (st := []) rfl (Nat.le_of_ble_eq_true rfl) rfl ?_
    refine v_if_ne dX0_canTurn_13 (tgt := 37) (by decide) (fun c4 => ?_) (fun c4 => ?_)
    · replace hf := (if_neg c4).symm.trans hf
      refine v_iconst dX0_canTurn_37 (by decide) (v := 0) ?_
      replace hf := Option.some.inj hf
      subst hf
      exact v_zret dX0_canTurn_38 rfl (by decide)
    · replace hf := (if_pos c4).symm.trans hf
      refine v_aload_n dX0_canTurn_16 rfl ?_
      obtain ⟨x5, ex5, hf⟩ := ob hf
      refine v_getR dX0_canTurn_17 fl_0_15 ex5 ?_
      refine v_iload_n dX0_canTurn_20 rfl ?_
      obtain ⟨x6, ex6, hf⟩ := ob hf
      refine v_ialoadI dX0_canTurn_21 ex6 ?_
      refine v_if_eq dX0_canTurn_22 (tgt := 37) (by decide) (fun c7 => ?_) (fun c7 => ?_)
      · replace hf := (if_pos c7).symm.trans hf
        refine v_iconst dX0_canTurn_37 (by decide) (v := 0) ?_
        replace hf := Option.some.inj hf
        subst hf
        exact v_zret dX0_canTurn_38 rfl (by decide)
      · replace hf := (if_neg c7).symm.trans hf
        refine v_aload_n dX0_canTurn_25 rfl ?_
        refine v_iload_n dX0_canTurn_26 rfl ?_
        obtain ⟨q8, eq8, hf⟩ := ob hf
        refine v_callV dX0_canTurn_27 ⟨cb_X0_isFull, ml_0_62, im_X0_isFull⟩ se_0_X0_isFull (ckf_X0_isFull eq8) (ev_X0_isFull eq8) (by decide) (As := [.int l1]) rfl (st := []) rfl (Nat.le_of_ble_eq_true rfl) rfl ?_
        refine v_if_ne dX0_canTurn_30 (tgt := 37) (by decide) (fun c9 => ?_) (fun c9 => ?_)
        · replace hf := (if_neg c9).symm.trans hf
          refine v_iconst dX0_canTurn_37 (by decide) (v := 0) ?_
          replace hf := Option.some.inj hf
          subst hf
          exact v_zret dX0_canTurn_38 rfl (by decide)
        · replace hf := (if_pos c9).symm.trans hf
          refine v_iconst dX0_canTurn_33 (by decide) (v := 1) ?_
          refine v_goto dX0_canTurn_34 (tgt := 38) (by decide) ?_
          replace hf := Option.some.inj hf
          subst hf
          exact v_zret dX0_canTurn_38 rfl (by decide)
theorem ckf_X0_canTurn {h : xa_H} {l0 : Nat} {l1 : Int32} {r : Int32} (hf : f_X0_canTurn h l0 l1 = some r) : ck [0] h l0 = some () := by
  obtain ⟨u, e, -⟩ := ob hf
  exact e
def M_X0_clear : xa_M := (yX0_clear, cX0_clear, 2, none)
theorem cb_X0_clear : xa_CB M_X0_clear 0 := ⟨gws_at 571 (by decide +kernel) rfl, gws_at 112 (by decide +kernel) rfl, by decide +kernel, Nat.le_of_ble_eq_true rfl⟩
def f_X0_clear_b26 : Nat → xa_H → Nat → Int32 → Option xa_H
  | 0, _, _, _ => none
  | n + 1, h, l0, l1 =>
    if (6 : Int32) ≤ l1 then
      (xp [0] 4 h l0 (.int (0 : Int32))).bind fun h2 =>
      (xp [0] 5 h2 l0 (.int (0 : Int32))).bind fun h3 =>
      (xp [0] 6 h3 l0 (.int (0 : Int32))).bind fun h4 =>
      (xp [0] 7 h4 l0 (.int (0 : Int32))).bind fun h5 =>
      (xp [0] 8 h5 l0 (.int (0 : Int32))).bind fun h6 =>
      some h6
    else
      (gR [0] 1 h l0).bind fun x7 =>
      (pI h x7 l1 (0 : Int32)).bind fun h8 =>
      (gR [0] 2 h8 l0).bind fun x9 =>
      (pI h8 x9 l1 (0 : Int32)).bind fun h10 =>
      (gR [0] 3 h10 l0).bind fun x11 =>
      (pI h10 x11 l1 (0 : Int32)).bind fun h12 =>
      f_X0_clear_b26 n h12 l0 (l1 + (1 : Int32))
set_option maxRecDepth 20000 in
theorem e_X0_clear_b26 {G : xa_G} : ∀ (n : Nat) (h : xa_H) (l0 : Nat) (l1 : Int32) (r : xa_H), f_X0_clear_b26 n h l0 l1 = some r → xa_V G M_X0_clear 0 26 [some (.ref l0), some (.int l1)] [] h none r := by
  intro n
  induction n with
  | zero =>
    intro h l0 l1 r hf
    cases (show (none : Option xa_H) = some r from hf)
  | succ n ih =>
    intro h l0 l1 r hf
    rw [f_X0_clear_b26] at hf
    refine v_iload_n dX0_clear_26 rfl ?_
    refine v_bipush dX0_clear_27 (by decide) (v := 6) ?_
    refine v_icmp_ge dX0_clear_29 (tgt := 59) (by decide) (fun c1 => ?_) (fun c1 => ?_)
    · replace hf := (if_pos c1).symm.trans hf
      refine v_aload_n dX0_clear_59 rfl ?_
      refine v_iconst dX0_clear_60 (by decide) (v := 0) ?_
      obtain ⟨h2, eh2, hf⟩ := ob hf
      refine v_put dX0_clear_61 fp_0_24 (fun z => by cases z) (fun _ => rfl) (fun _ => rfl) eh2 ?_
      refine v_aload_n dX0_clear_64 rfl ?_
      refine v_iconst dX0_clear_65 (by decide) (v := 0) ?_
      obtain ⟨h3, eh3, hf⟩ := ob hf
      refine v_put dX0_clear_66 fp_0_28 (fun z => by cases z) (fun _ => rfl) (fun _ => rfl) eh3 ?_
      refine v_aload_n dX0_clear_69 rfl ?_
      refine v_iconst dX0_clear_70 (by decide) (v := 0) ?_
      obtain ⟨h4, eh4, hf⟩ := ob hf
      refine v_put dX0_clear_71 fp_0_31 (fun z => by cases z) (fun _ => rfl) (fun _ => rfl) eh4 ?_
      refine v_aload_n dX0_clear_74 rfl ?_
      refine v_iconst dX0_clear_75 (by decide) (v := 0) ?_
      obtain ⟨h5, eh5, hf⟩ := ob hf
      refine v_put dX0_clear_76 fp_0_34 (fun z => by cases z) (fun _ => rfl) (fun _ => rfl) eh5 ?_
      refine v_aload_n dX0_clear_79 rfl ?_
      refine v_iconst dX0_clear_80 (by decide) (v := 0) ?_
      obtain ⟨h6, eh6, hf⟩ := ob hf
      refine v_put dX0_clear_81 fp_0_37 (fun z => by cases z) (fun _ => rfl) (fun _ => rfl) eh6 ?_
      replace hf := Option.some.inj hf
      subst hf
      exact v_vret dX0_clear_84 rfl
    · replace hf := (if_neg c1).symm.trans hf
      refine v_aload_n dX0_clear_32 rfl ?_
      obtain ⟨x7, ex7, hf⟩ := ob hf
      refine v_getR dX0_clear_33 fl_0_15 ex7 ?_
      refine v_iload_n dX0_clear_36 rfl ?_
      refine v_iconst dX0_clear_37 (by decide) (v := 0) ?_
      obtain ⟨h8, eh8, hf⟩ := ob hf
      refine v_iastoreI dX0_clear_38 eh8 ?_
      refine v_aload_n dX0_clear_39 rfl ?_
      obtain ⟨x9, ex9, hf⟩ := ob hf
      refine v_getR dX0_clear_40 fl_0_18 ex9 ?_
      refine v_iload_n dX0_clear_43 rfl ?_
      refine v_iconst dX0_clear_44 (by decide) (v := 0) ?_
      obtain ⟨h10, eh10, hf⟩ := ob hf
      refine v_iastoreI dX0_clear_45 eh10 ?_
      refine v_aload_n dX0_clear_46 rfl ?_
      obtain ⟨x11, ex11, hf⟩ := ob hf
      refine v_getR dX0_clear_47 fl_0_21 ex11 ?_
      refine v_iload_n dX0_clear_50 rfl ?_
      refine v_iconst dX0_clear_51 (by decide) (v := 0) ?_
      obtain ⟨h12, eh12, hf⟩ := ob hf
      refine v_iastoreI dX0_clear_52 eh12 ?_
      refine v_iinc dX0_clear_53 rfl (v := (l1 + (1 : Int32))) rfl (Nat.le_of_ble_eq_true rfl) (loc' := [some (.ref l0), some (.int (l1 + (1 : Int32)))]) rfl ?_
      refine v_goto dX0_clear_56 (tgt := 26) (by decide) ?_
      exact ih h12 l0 (l1 + (1 : Int32)) r hf
def f_X0_clear_b2 : Nat → xa_H → Nat → Int32 → Option xa_H
  | 0, _, _, _ => none
  | n + 1, h, l0, l1 =>
    (gR [0] 0 h l0).bind fun x1 =>
    (aN h x1).bind fun x2 =>
    if x2 ≤ l1 then
      f_X0_clear_b26 1048576 h l0 (0 : Int32)
    else
      (gR [0] 0 h l0).bind fun x4 =>
      (pI h x4 l1 (0 : Int32)).bind fun h5 =>
      f_X0_clear_b2 n h5 l0 (l1 + (1 : Int32))
set_option maxRecDepth 20000 in
theorem e_X0_clear_b2 {G : xa_G} : ∀ (n : Nat) (h : xa_H) (l0 : Nat) (l1 : Int32) (r : xa_H), f_X0_clear_b2 n h l0 l1 = some r → xa_V G M_X0_clear 0 2 [some (.ref l0), some (.int l1)] [] h none r := by
  intro n
  induction n with
  | zero =>
    intro h l0 l1 r hf
    cases (show (none : Option xa_H) = some r from hf)
  | succ n ih =>
    intro h l0 l1 r hf
    rw [f_X0_clear_b2] at hf
    refine v_iload_n dX0_clear_2 rfl ?_
    refine v_aload_n dX0_clear_3 rfl ?_
    obtain ⟨x1, ex1, hf⟩ := ob hf
    refine v_getR dX0_clear_4 fl_0_9 ex1 ?_
    obtain ⟨x2, ex2, hf⟩ := ob hf
    refine v_alen dX0_clear_7 ex2 ?_
    refine v_icmp_ge dX0_clear_8 (tgt := 24) (by decide) (fun c3 => ?_) (fun c3 => ?_)
    · replace hf := (if_pos c3).symm.trans hf
      refine v_iconst dX0_clear_24 (by decide) (v := 0) ?_
      refine v_istore_n (i := 1) rfl dX0_clear_25 (Nat.le_of_ble_eq_true rfl) (loc' := [some (.ref l0), some (.int (0 : Int32))]) rfl ?_
      exact e_X0_clear_b26 1048576 h l0 (0 : Int32) r hf
    · replace hf := (if_neg c3).symm.trans hf
      refine v_aload_n dX0_clear_11 rfl ?_
      obtain ⟨x4, ex4, hf⟩ := ob hf
      refine v_getR dX0_clear_12 fl_0_9 ex4 ?_
      refine v_iload_n dX0_clear_15 rfl ?_
      refine v_iconst dX0_clear_16 (by decide) (v := 0) ?_
      obtain ⟨h5, eh5, hf⟩ := ob hf
      refine v_iastoreI dX0_clear_17 eh5 ?_
      refine v_iinc dX0_clear_18 rfl (v := (l1 + (1 : Int32))) rfl (Nat.le_of_ble_eq_true rfl) (loc' := [some (.ref l0), some (.int (l1 + (1 : Int32)))]) rfl ?_
      refine v_goto dX0_clear_21 (tgt := 2) (by decide) ?_
      exact ih h5 l0 (l1 + (1 : Int32)) r hf
def f_X0_clear (h : xa_H) (l0 : Nat) : Option xa_H :=
  (ck [0] h l0).bind fun _ =>
  f_X0_clear_b2 1048576 h l0 (0 : Int32)
set_option maxRecDepth 20000 in
theorem ev_X0_clear {G : xa_G} {h : xa_H} {l0 : Nat} {r : xa_H} (hf : f_X0_clear h l0 = some r) : xa_Ev G M_X0_clear 0 [.ref l0] h none r := by
  refine xa_entry (by decide +kernel) (loc := [some (.ref l0), none]) rfl (Nat.le_of_ble_eq_true rfl) ?_
  unfold f_X0_clear at hf
  obtain ⟨u0, eu0, hf⟩ := ob hf
  refine v_iconst dX0_clear_0 (by decide) (v := 0) ?_
  refine v_istore_n (i := 1) rfl dX0_clear_1 (Nat.le_of_ble_eq_true rfl) (loc' := [some (.ref l0), some (.int (0 : Int32))]) rfl ?_
  exact e_X0_clear_b2 1048576 h l0 (0 : Int32) r hf
theorem ckf_X0_clear {h : xa_H} {l0 : Nat} {r : xa_H} (hf : f_X0_clear h l0 = some r) : ck [0] h l0 = some () := by
  obtain ⟨u, e, -⟩ := ob hf
  exact e
def M_X0_favours : xa_M := (yX0_favours, cX0_favours, 3, some .int)
theorem cb_X0_favours : xa_CB M_X0_favours 0 := ⟨gws_at 914 (by decide +kernel) rfl, gws_at 112 (by decide +kernel) rfl, by decide +kernel, Nat.le_of_ble_eq_true rfl⟩
def f_X0_favours_b4 : Nat → xa_H → Nat → Int32 → Int32 → Option Int32
  | 0, _, _, _, _ => none
  | n + 1, h, l0, l1, l2 =>
    (gR [0] 0 h l0).bind fun x1 =>
    (aN h x1).bind fun x2 =>
    if x2 ≤ l2 then
      some l1
    else
      (gR [0] 0 h l0).bind fun x4 =>
      (aI h x4 l2).bind fun x5 =>
      f_X0_favours_b4 n h l0 (l1 + (imax (0 : Int32) x5)) (l2 + (1 : Int32))
set_option maxRecDepth 20000 in
theorem e_X0_favours_b4 {G : xa_G} : ∀ (n : Nat) (h : xa_H) (l0 : Nat) (l1 : Int32) (l2 : Int32) (r : Int32), f_X0_favours_b4 n h l0 l1 l2 = some r → xa_V G M_X0_favours 1 4 [some (.ref l0), some (.int l1), some (.int l2)] [] h (some (.int r)) h := by
  intro n
  induction n with
  | zero =>
    intro h l0 l1 l2 r hf
    cases (show (none : Option Int32) = some r from hf)
  | succ n ih =>
    intro h l0 l1 l2 r hf
    rw [f_X0_favours_b4] at hf
    refine v_iload_n dX0_favours_4 rfl ?_
    refine v_aload_n dX0_favours_5 rfl ?_
    obtain ⟨x1, ex1, hf⟩ := ob hf
    refine v_getR dX0_favours_6 fl_0_9 ex1 ?_
    obtain ⟨x2, ex2, hf⟩ := ob hf
    refine v_alen dX0_favours_9 ex2 ?_
    refine v_icmp_ge dX0_favours_10 (tgt := 32) (by decide) (fun c3 => ?_) (fun c3 => ?_)
    · replace hf := (if_pos c3).symm.trans hf
      refine v_iload_n dX0_favours_32 rfl ?_
      replace hf := Option.some.inj hf
      subst hf
      exact v_iret dX0_favours_33 rfl
    · replace hf := (if_neg c3).symm.trans hf
      refine v_iload_n dX0_favours_13 rfl ?_
      refine v_iconst dX0_favours_14 (by decide) (v := 0) ?_
      refine v_aload_n dX0_favours_15 rfl ?_
      obtain ⟨x4, ex4, hf⟩ := ob hf
      refine v_getR dX0_favours_16 fl_0_9 ex4 ?_
      refine v_iload_n dX0_favours_19 rfl ?_
      obtain ⟨x5, ex5, hf⟩ := ob hf
      refine v_ialoadI dX0_favours_20 ex5 ?_
      refine w_mmax dX0_favours_21 mw_0_50 (by decide) (Nat.le_of_ble_eq_true rfl) ?_
      refine v_iadd dX0_favours_24 ?_
      refine v_istore_n (i := 1) rfl dX0_favours_25 (Nat.le_of_ble_eq_true rfl) (loc' := [some (.ref l0), some (.int (l1 + (imax (0 : Int32) x5))), some (.int l2)]) rfl ?_
      refine v_iinc dX0_favours_26 rfl (v := (l2 + (1 : Int32))) rfl (Nat.le_of_ble_eq_true rfl) (loc' := [some (.ref l0), some (.int (l1 + (imax (0 : Int32) x5))), some (.int (l2 + (1 : Int32)))]) rfl ?_
      refine v_goto dX0_favours_29 (tgt := 4) (by decide) ?_
      exact ih h l0 (l1 + (imax (0 : Int32) x5)) (l2 + (1 : Int32)) r hf
def f_X0_favours (h : xa_H) (l0 : Nat) : Option Int32 :=
  (ck [0] h l0).bind fun _ =>
  f_X0_favours_b4 1048576 h l0 (0 : Int32) (0 : Int32)
set_option maxRecDepth 20000 in
theorem ev_X0_favours {G : xa_G} {h : xa_H} {l0 : Nat} {r : Int32} (hf : f_X0_favours h l0 = some r) : xa_Ev G M_X0_favours 1 [.ref l0] h (some (.int r)) h := by
  refine xa_entry (by decide +kernel) (loc := [some (.ref l0), none, none]) rfl (Nat.le_of_ble_eq_true rfl) ?_
  unfold f_X0_favours at hf
  obtain ⟨u0, eu0, hf⟩ := ob hf
  refine v_iconst dX0_favours_0 (by decide) (v := 0) ?_
  refine v_istore_n (i := 1) rfl dX0_favours_1 (Nat.le_of_ble_eq_true rfl) (loc' := [some (.ref l0), some (.int (0 : Int32)), none]) rfl ?_
  refine v_iconst dX0_favours_2 (by decide) (v := 0) ?_
  refine v_istore_n (i := 2) rfl dX0_favours_3 (Nat.le_of_ble_eq_true rfl) (loc' := [some (.ref l0), some (.int (0 : Int32)), some (.int (0 : Int32))]) rfl ?_
  exact e_X0_favours_b4 1048576 h l0 (0 : Int32) (0 : Int32) r hf
theorem ckf_X0_favours {h : xa_H} {l0 : Nat} {r : Int32} (hf : f_X0_favours h l0 = some r) : ck [0] h l0 = some () := by
  obtain ⟨u, e, -⟩ := ob hf
  exact e
def M_X0_inverse : xa_M := (yX0_inverse, cX0_inverse, 16, some .long)
theorem cb_X0_inverse : xa_CB M_X0_inverse 1 := ⟨gws_at 905 (by decide +kernel) rfl, gws_at 112 (by decide +kernel) rfl, by decide +kernel, Nat.le_of_ble_eq_true rfl⟩
def f_X0_inverse_b68 (h : xa_H) (l7 : Int64) : Option Int64 :=
  some (lrem ((lrem l7 (1000003 : Int64)) + (1000003 : Int64)) (1000003 : Int64))
set_option maxRecDepth 20000 in
theorem e_X0_inverse_b68 {G : xa_G} : ∀ (h : xa_H) (l7 : Int64) (r : Int64), f_X0_inverse_b68 h l7 = some r → xa_V G M_X0_inverse 0 68 [none, none, none, none, none, none, none, some (.long l7), none, none, none, none, none, none, none, none] [] h (some (.long r)) h := by
  intro h l7 r hf
  unfold f_X0_inverse_b68 at hf
  refine v_lload dX0_inverse_68 rfl ?_
  refine v_ldc2 dX0_inverse_70 rfl col_0_84 ?_
  refine w_lrem dX0_inverse_73 (by decide) ?_
  refine v_ldc2 dX0_inverse_74 rfl col_0_84 ?_
  refine v_ladd dX0_inverse_77 ?_
  refine v_ldc2 dX0_inverse_78 rfl col_0_84 ?_
  refine w_lrem dX0_inverse_81 (by decide) ?_
  replace hf := Option.some.inj hf
  subst hf
  exact v_lret dX0_inverse_82 rfl
def f_X0_inverse_b16 : Nat → xa_H → Int64 → Int64 → Int64 → Int64 → Int32 → Option Int64
  | 0, _, _, _, _, _, _ => none
  | n + 1, h, l1, l3, l5, l7, l9 =>
    if (64 : Int32) ≤ l9 then
      f_X0_inverse_b68 h l7
    else
      if (lg_cmp l3 (1 : Int64)) ≤ 0 then
        f_X0_inverse_b68 h l7
      else
        if l3 = 0 then none else
        if l3 = 0 then none else
        f_X0_inverse_b16 n h l3 (lrem l1 l3) l7 (l5 - ((l1 / l3) * l7)) (l9 + (1 : Int32))
set_option maxRecDepth 20000 in
theorem e_X0_inverse_b16 {G : xa_G} : ∀ (n : Nat) (h : xa_H) (l1 : Int64) (l3 : Int64) (l5 : Int64) (l7 : Int64) (l9 : Int32) (r : Int64), f_X0_inverse_b16 n h l1 l3 l5 l7 l9 = some r → xa_V G M_X0_inverse 0 16 [none, some (.long l1), none, some (.long l3), none, some (.long l5), none, some (.long l7), none, some (.int l9), none, none, none, none, none, none] [] h (some (.long r)) h := by
  intro n
  induction n with
  | zero =>
    intro h l1 l3 l5 l7 l9 r hf
    cases (show (none : Option Int64) = some r from hf)
  | succ n ih =>
    intro h l1 l3 l5 l7 l9 r hf
    rw [f_X0_inverse_b16] at hf
    refine v_iload dX0_inverse_16 rfl ?_
    refine v_bipush dX0_inverse_18 (by decide) (v := 64) ?_
    refine v_icmp_ge dX0_inverse_20 (tgt := 68) (by decide) (fun c1 => ?_) (fun c1 => ?_)
    · replace hf := (if_pos c1).symm.trans hf
      exact xa_weak (loc := [none, none, none, none, none, none, none, some (.long l7), none, none, none, none, none, none, none, none]) ⟨rfl, trivial⟩ (e_X0_inverse_b68 h l7 r hf)
    · replace hf := (if_neg c1).symm.trans hf
      refine v_lload_n dX0_inverse_23 rfl ?_
      refine v_lconst dX0_inverse_24 (by decide) (v := 1) ?_
      refine v_lcmp dX0_inverse_25 ?_
      refine v_if_le dX0_inverse_26 (tgt := 68) (by decide) (fun c2 => ?_) (fun c2 => ?_)
      · replace hf := (if_pos c2).symm.trans hf
        exact xa_weak (loc := [none, none, none, none, none, none, none, some (.long l7), none, none, none, none, none, none, none, none]) ⟨rfl, trivial⟩ (e_X0_inverse_b68 h l7 r hf)
      · replace hf := (if_neg c2).symm.trans hf
        refine v_lload_n dX0_inverse_29 rfl ?_
        refine v_lload_n dX0_inverse_30 rfl ?_
        by_cases z3 : l3 = 0
        · replace hf := (if_pos z3).symm.trans hf
          cases hf
        replace hf := (if_neg z3).symm.trans hf
        refine v_ldiv dX0_inverse_31 z3 ?_
        refine v_lstore dX0_inverse_32 (Nat.le_of_ble_eq_true rfl) (loc' := [none, some (.long l1), none, some (.long l3), none, some (.long l5), none, some (.long l7), none, some (.int l9), some (.long (l1 / l3)), none, none, none, none, none]) rfl ?_
        refine v_lload_n dX0_inverse_34 rfl ?_
        refine v_lload_n dX0_inverse_35 rfl ?_
        by_cases z4 : l3 = 0
        · replace hf := (if_pos z4).symm.trans hf
          cases hf
        replace hf := (if_neg z4).symm.trans hf
        refine w_lrem dX0_inverse_36 z4 ?_
        refine v_lstore dX0_inverse_37 (Nat.le_of_ble_eq_true rfl) (loc' := [none, some (.long l1), none, some (.long l3), none, some (.long l5), none, some (.long l7), none, some (.int l9), some (.long (l1 / l3)), none, some (.long (lrem l1 l3)), none, none, none]) rfl ?_
        refine v_lload_n dX0_inverse_39 rfl ?_
        refine v_lstore_n (i := 1) rfl dX0_inverse_40 (Nat.le_of_ble_eq_true rfl) (loc' := [none, some (.long l3), none, some (.long l3), none, some (.long l5), none, some (.long l7), none, some (.int l9), some (.long (l1 / l3)), none, some (.long (lrem l1 l3)), none, none, none]) rfl ?_
        refine v_lload dX0_inverse_41 rfl ?_
        refine v_lstore_n (i := 3) rfl dX0_inverse_43 (Nat.le_of_ble_eq_true rfl) (loc' := [none, some (.long l3), none, some (.long (lrem l1 l3)), none, some (.long l5), none, some (.long l7), none, some (.int l9), some (.long (l1 / l3)), none, some (.long (lrem l1 l3)), none, none, none]) rfl ?_
        refine v_lload dX0_inverse_44 rfl ?_
        refine v_lload dX0_inverse_46 rfl ?_
        refine v_lload dX0_inverse_48 rfl ?_
        refine v_lmul dX0_inverse_50 ?_
        refine v_lsub dX0_inverse_51 ?_
        refine v_lstore dX0_inverse_52 (Nat.le_of_ble_eq_true rfl) (loc' := [none, some (.long l3), none, some (.long (lrem l1 l3)), none, some (.long l5), none, some (.long l7), none, some (.int l9), some (.long (l1 / l3)), none, some (.long (lrem l1 l3)), none, some (.long (l5 - ((l1 / l3) * l7))), none]) rfl ?_
        refine v_lload dX0_inverse_54 rfl ?_
        refine v_lstore dX0_inverse_56 (Nat.le_of_ble_eq_true rfl) (loc' := [none, some (.long l3), none, some (.long (lrem l1 l3)), none, some (.long l7), none, some (.long l7), none, some (.int l9), some (.long (l1 / l3)), none, some (.long (lrem l1 l3)), none, some (.long (l5 - ((l1 / l3) * l7))), none]) rfl ?_
        refine v_lload dX0_inverse_58 rfl ?_
        refine v_lstore dX0_inverse_60 (Nat.le_of_ble_eq_true rfl) (loc' := [none, some (.long l3), none, some (.long (lrem l1 l3)), none, some (.long l7), none, some (.long (l5 - ((l1 / l3) * l7))), none, some (.int l9), some (.long (l1 / l3)), none, some (.long (lrem l1 l3)), none, some (.long (l5 - ((l1 / l3) * l7))), none]) rfl ?_
        refine v_iinc dX0_inverse_62 rfl (v := (l9 + (1 : Int32))) rfl (Nat.le_of_ble_eq_true rfl) (loc' := [none, some (.long l3), none, some (.long (lrem l1 l3)), none, some (.long l7), none, some (.long (l5 - ((l1 / l3) * l7))), none, some (.int (l9 + (1 : Int32))), some (.long (l1 / l3)), none, some (.long (lrem l1 l3)), none, some (.long (l5 - ((l1 / l3) * l7))), none]) rfl ?_
        refine v_goto dX0_inverse_65 (tgt := 16) (by decide) ?_
        exact xa_weak (loc := [none, some (.long l3), none, some (.long (lrem l1 l3)), none, some (.long l7), none, some (.long (l5 - ((l1 / l3) * l7))), none, some (.int (l9 + (1 : Int32))), none, none, none, none, none, none]) ⟨rfl, ⟨rfl, ⟨rfl, ⟨rfl, ⟨rfl, trivial⟩⟩⟩⟩⟩ (ih h l3 (lrem l1 l3) l7 (l5 - ((l1 / l3) * l7)) (l9 + (1 : Int32)) r hf)
def f_X0_inverse (h : xa_H) (l0 : Int32) : Option Int64 :=
  f_X0_inverse_b16 1048576 h (1000003 : Int64) l0.toInt64 (0 : Int64) (1 : Int64) (0 : Int32)
set_option maxRecDepth 20000 in
theorem ev_X0_inverse {G : xa_G} {h : xa_H} {l0 : Int32} {r : Int64} (hf : f_X0_inverse h l0 = some r) : xa_Ev G M_X0_inverse 0 [.int l0] h (some (.long r)) h := by
  refine xa_entry (by decide +kernel) (loc := [some (.int l0), none, none, none, none, none, none, none, none, none, none, none, none, none, none, none]) rfl (Nat.le_of_ble_eq_true rfl) ?_
  unfold f_X0_inverse at hf
  refine v_ldc2 dX0_inverse_0 rfl col_0_84 ?_
  refine v_lstore_n (i := 1) rfl dX0_inverse_3 (Nat.le_of_ble_eq_true rfl) (loc' := [some (.int l0), some (.long (1000003 : Int64)), none, none, none, none, none, none, none, none, none, none, none, none, none, none]) rfl ?_
  refine v_iload_n dX0_inverse_4 rfl ?_
  refine v_i2l dX0_inverse_5 ?_
  refine v_lstore_n (i := 3) rfl dX0_inverse_6 (Nat.le_of_ble_eq_true rfl) (loc' := [some (.int l0), some (.long (1000003 : Int64)), none, some (.long l0.toInt64), none, none, none, none, none, none, none, none, none, none, none, none]) rfl ?_
  refine v_lconst dX0_inverse_7 (by decide) (v := 0) ?_
  refine v_lstore dX0_inverse_8 (Nat.le_of_ble_eq_true rfl) (loc' := [some (.int l0), some (.long (1000003 : Int64)), none, some (.long l0.toInt64), none, some (.long (0 : Int64)), none, none, none, none, none, none, none, none, none, none]) rfl ?_
  refine v_lconst dX0_inverse_10 (by decide) (v := 1) ?_
  refine v_lstore dX0_inverse_11 (Nat.le_of_ble_eq_true rfl) (loc' := [some (.int l0), some (.long (1000003 : Int64)), none, some (.long l0.toInt64), none, some (.long (0 : Int64)), none, some (.long (1 : Int64)), none, none, none, none, none, none, none, none]) rfl ?_
  refine v_iconst dX0_inverse_13 (by decide) (v := 0) ?_
  refine v_istore dX0_inverse_14 (Nat.le_of_ble_eq_true rfl) (loc' := [some (.int l0), some (.long (1000003 : Int64)), none, some (.long l0.toInt64), none, some (.long (0 : Int64)), none, some (.long (1 : Int64)), none, some (.int (0 : Int32)), none, none, none, none, none, none]) rfl ?_
  exact xa_weak (loc := [none, some (.long (1000003 : Int64)), none, some (.long l0.toInt64), none, some (.long (0 : Int64)), none, some (.long (1 : Int64)), none, some (.int (0 : Int32)), none, none, none, none, none, none]) ⟨rfl, ⟨rfl, ⟨rfl, ⟨rfl, ⟨rfl, trivial⟩⟩⟩⟩⟩ (e_X0_inverse_b16 1048576 h (1000003 : Int64) l0.toInt64 (0 : Int64) (1 : Int64) (0 : Int32) r hf)
def M_X0_power : xa_M := (yX0_power, cX0_power, 7, some .long)
theorem cb_X0_power : xa_CB M_X0_power 2 := ⟨gws_at 901 (by decide +kernel) rfl, gws_at 112 (by decide +kernel) rfl, by decide +kernel, Nat.le_of_ble_eq_true rfl⟩
def f_X0_power_b31 (k9 : xa_H → Int64 → Int64 → Int32 → Option Int64) (h : xa_H) (l2 : Int64) (l4 : Int64) (l6 : Int32) : Option Int64 :=
  k9 h l2 (lrem (l4 * l4) (1000003 : Int64)) (shr l6 (1 : Int32))
set_option maxRecDepth 20000 in
theorem e_X0_power_b31 {G : xa_G} {k9 : xa_H → Int64 → Int64 → Int32 → Option Int64} (hk9 : ∀ (h : xa_H) (l2 : Int64) (l4 : Int64) (l6 : Int32) (r : Int64), k9 h l2 l4 l6 = some r → xa_V G M_X0_power 0 9 [none, none, some (.long l2), none, some (.long l4), none, some (.int l6)] [] h (some (.long r)) h) : ∀ (h : xa_H) (l2 : Int64) (l4 : Int64) (l6 : Int32) (r : Int64), f_X0_power_b31 k9 h l2 l4 l6 = some r → xa_V G M_X0_power 0 31 [none, none, some (.long l2), none, some (.long l4), none, some (.int l6)] [] h (some (.long r)) h := by
  intro h l2 l4 l6 r hf
  unfold f_X0_power_b31 at hf
  refine v_lload dX0_power_31 rfl ?_
  refine v_lload dX0_power_33 rfl ?_
  refine v_lmul dX0_power_35 ?_
  refine v_ldc2 dX0_power_36 rfl col_0_84 ?_
  refine w_lrem dX0_power_39 (by decide) ?_
  refine v_lstore dX0_power_40 (Nat.le_of_ble_eq_true rfl) (loc' := [none, none, some (.long l2), none, some (.long (lrem (l4 * l4) (1000003 : Int64))), none, some (.int l6)]) rfl ?_
  refine v_iload dX0_power_42 rfl ?_
  refine v_iconst dX0_power_44 (by decide) (v := 1) ?_
  refine w_ishr dX0_power_45 ?_
  refine v_istore dX0_power_46 (Nat.le_of_ble_eq_true rfl) (loc' := [none, none, some (.long l2), none, some (.long (lrem (l4 * l4) (1000003 : Int64))), none, some (.int (shr l6 (1 : Int32)))]) rfl ?_
  refine v_goto dX0_power_48 (tgt := 9) (by decide) ?_
  exact hk9 h l2 (lrem (l4 * l4) (1000003 : Int64)) (shr l6 (1 : Int32)) r hf
def f_X0_power_b9 : Nat → xa_H → Int64 → Int64 → Int32 → Option Int64
  | 0, _, _, _, _ => none
  | n + 1, h, l2, l4, l6 =>
    if l6 ≤ 0 then
      some l2
    else
      if (l6 &&& (1 : Int32)) = (1 : Int32) then
        f_X0_power_b31 (fun h l2 l4 l6 => f_X0_power_b9 n h l2 l4 l6) h (lrem (l2 * l4) (1000003 : Int64)) l4 l6
      else
        f_X0_power_b31 (fun h l2 l4 l6 => f_X0_power_b9 n h l2 l4 l6) h l2 l4 l6
set_option maxRecDepth 20000 in
theorem e_X0_power_b9 {G : xa_G} : ∀ (n : Nat) (h : xa_H) (l2 : Int64) (l4 : Int64) (l6 : Int32) (r : Int64), f_X0_power_b9 n h l2 l4 l6 = some r → xa_V G M_X0_power 0 9 [none, none, some (.long l2), none, some (.long l4), none, some (.int l6)] [] h (some (.long r)) h := by
  intro n
  induction n with
  | zero =>
    intro h l2 l4 l6 r hf
    cases (show (none : Option Int64) = some r from hf)
  | succ n ih =>
    intro h l2 l4 l6 r hf
    rw [f_X0_power_b9] at hf
    refine v_iload dX0_power_9 rfl ?_
    refine v_if_le dX0_power_11 (tgt := 51) (by decide) (fun c1 => ?_) (fun c1 => ?_)
    · replace hf := (if_pos c1).symm.trans hf
      refine v_lload_n dX0_power_51 rfl ?_
      replace hf := Option.some.inj hf
      subst hf
      exact v_lret dX0_power_52 rfl
    · replace hf := (if_neg c1).symm.trans hf
      refine v_iload dX0_power_14 rfl ?_
      refine v_iconst dX0_power_16 (by decide) (v := 1) ?_
      refine v_iand dX0_power_17 ?_
      refine v_iconst dX0_power_18 (by decide) (v := 1) ?_
      refine v_icmp_ne dX0_power_19 (tgt := 31) (by decide) (fun c2 => ?_) (fun c2 => ?_)
      · replace hf := (if_neg c2).symm.trans hf
        exact e_X0_power_b31 ih h l2 l4 l6 r hf
      · replace hf := (if_pos c2).symm.trans hf
        refine v_lload_n dX0_power_22 rfl ?_
        refine v_lload dX0_power_23 rfl ?_
        refine v_lmul dX0_power_25 ?_
        refine v_ldc2 dX0_power_26 rfl col_0_84 ?_
        refine w_lrem dX0_power_29 (by decide) ?_
        refine v_lstore_n (i := 2) rfl dX0_power_30 (Nat.le_of_ble_eq_true rfl) (loc' := [none, none, some (.long (lrem (l2 * l4) (1000003 : Int64))), none, some (.long l4), none, some (.int l6)]) rfl ?_
        exact e_X0_power_b31 ih h (lrem (l2 * l4) (1000003 : Int64)) l4 l6 r hf
def f_X0_power (h : xa_H) (l0 : Int32) (l1 : Int32) : Option Int64 :=
  f_X0_power_b9 1048576 h (1 : Int64) l0.toInt64 l1
set_option maxRecDepth 20000 in
theorem ev_X0_power {G : xa_G} {h : xa_H} {l0 : Int32} {l1 : Int32} {r : Int64} (hf : f_X0_power h l0 l1 = some r) : xa_Ev G M_X0_power 0 [.int l0, .int l1] h (some (.long r)) h := by
  refine xa_entry (by decide +kernel) (loc := [some (.int l0), some (.int l1), none, none, none, none, none]) rfl (Nat.le_of_ble_eq_true rfl) ?_
  unfold f_X0_power at hf
  refine v_lconst dX0_power_0 (by decide) (v := 1) ?_
  refine v_lstore_n (i := 2) rfl dX0_power_1 (Nat.le_of_ble_eq_true rfl) (loc' := [some (.int l0), some (.int l1), some (.long (1 : Int64)), none, none, none, none]) rfl ?_
  refine v_iload_n dX0_power_2 rfl ?_
  refine v_i2l dX0_power_3 ?_
  refine v_lstore dX0_power_4 (Nat.le_of_ble_eq_true rfl) (loc' := [some (.int l0), some (.int l1), some (.long (1 : Int64)), none, some (.long l0.toInt64), none, none]) rfl ?_
  refine v_iload_n dX0_power_6 rfl ?_
  refine v_istore dX0_power_7 (Nat.le_of_ble_eq_true rfl) (loc' := [some (.int l0), some (.int l1), some (.long (1 : Int64)), none, some (.long l0.toInt64), none, some (.int l1)]) rfl ?_
  exact xa_weak (loc := [none, none, some (.long (1 : Int64)), none, some (.long l0.toInt64), none, some (.int l1)]) ⟨rfl, ⟨rfl, ⟨rfl, trivial⟩⟩⟩ (e_X0_power_b9 1048576 h (1 : Int64) l0.toInt64 l1 r hf)
def M_X0_renewWorth : xa_M := (yX0_renewWorth, cX0_renewWorth, 8, none)
theorem cb_X0_renewWorth : xa_CB M_X0_renewWorth 1 := ⟨gws_at 898 (by decide +kernel) rfl, gws_at 112 (by decide +kernel) rfl, by decide +kernel, Nat.le_of_ble_eq_true rfl⟩
def f_X0_renewWorth_b80 (k8 : xa_H → Nat → Int32 → Int64 → Int64 → Int32 → Option xa_H) (h : xa_H) (l0 : Nat) (l1 : Int32) (l2 : Int64) (l4 : Int64) (l6 : Int32) : Option xa_H :=
  k8 h l0 l1 l2 l4 (l6 + (1 : Int32))
set_option maxRecDepth 20000 in
theorem e_X0_renewWorth_b80 {G : xa_G} {k8 : xa_H → Nat → Int32 → Int64 → Int64 → Int32 → Option xa_H} (hk8 : ∀ (h : xa_H) (l0 : Nat) (l1 : Int32) (l2 : Int64) (l4 : Int64) (l6 : Int32) (r : xa_H), k8 h l0 l1 l2 l4 l6 = some r → xa_V G M_X0_renewWorth 1 8 [some (.ref l0), some (.int l1), some (.long l2), none, some (.long l4), none, some (.int l6), none] [] h none r) : ∀ (h : xa_H) (l0 : Nat) (l1 : Int32) (l2 : Int64) (l4 : Int64) (l6 : Int32) (r : xa_H), f_X0_renewWorth_b80 k8 h l0 l1 l2 l4 l6 = some r → xa_V G M_X0_renewWorth 1 80 [some (.ref l0), some (.int l1), some (.long l2), none, some (.long l4), none, some (.int l6), none] [] h none r := by
  intro h l0 l1 l2 l4 l6 r hf
  unfold f_X0_renewWorth_b80 at hf
  refine v_iinc dX0_renewWorth_80 rfl (v := (l6 + (1 : Int32))) rfl (Nat.le_of_ble_eq_true rfl) (loc' := [some (.ref l0), some (.int l1), some (.long l2), none, some (.long l4), none, some (.int (l6 + (1 : Int32))), none]) rfl ?_
  refine v_goto dX0_renewWorth_83 (tgt := 8) (by decide) ?_
  exact hk8 h l0 l1 l2 l4 (l6 + (1 : Int32)) r hf
def f_X0_renewWorth_b8 : Nat → xa_H → Nat → Int32 → Int64 → Int64 → Int32 → Option xa_H
  | 0, _, _, _, _, _, _ => none
  | n + 1, h, l0, l1, l2, l4, l6 =>
    (gI [0] 4 h l0).bind fun x1 =>
    if x1 ≤ l6 then
      (gR [0] 1 h l0).bind fun x3 =>
      (gR [0] 1 h l0).bind fun x4 =>
      (aI h x4 l1).bind fun x5 =>
      (f_X0_inverse h x5).bind fun q6 =>
      (pI h x3 l1 ((lrem ((lrem (l2 + l4) (1000003 : Int64)) * q6) (1000003 : Int64))).toInt32).bind fun h7 =>
      some h7
    else
      (f_X0_debt h l0 l6 l1).bind fun q8 =>
      if q8 ≤ 0 then
        if 0 ≤ q8 then
          f_X0_renewWorth_b80 (fun h l0 l1 l2 l4 l6 => f_X0_renewWorth_b8 n h l0 l1 l2 l4 l6) h l0 l1 l2 l4 l6
        else
          (gR [0] 1 h l0).bind fun x11 =>
          (aI h x11 l6).bind fun x12 =>
          (f_X0_power h x12 (-q8)).bind fun q13 =>
          f_X0_renewWorth_b80 (fun h l0 l1 l2 l4 l6 => f_X0_renewWorth_b8 n h l0 l1 l2 l4 l6) h l0 l1 l2 (lrem (l4 * q13) (1000003 : Int64)) l6
      else
        (gR [0] 1 h l0).bind fun x14 =>
        (aI h x14 l6).bind fun x15 =>
        (f_X0_power h x15 q8).bind fun q16 =>
        f_X0_renewWorth_b80 (fun h l0 l1 l2 l4 l6 => f_X0_renewWorth_b8 n h l0 l1 l2 l4 l6) h l0 l1 (lrem (l2 * q16) (1000003 : Int64)) l4 l6
set_option maxRecDepth 20000 in
theorem e_X0_renewWorth_b8 {G : xa_G} : ∀ (n : Nat) (h : xa_H) (l0 : Nat) (l1 : Int32) (l2 : Int64) (l4 : Int64) (l6 : Int32) (r : xa_H), f_X0_renewWorth_b8 n h l0 l1 l2 l4 l6 = some r → xa_V G M_X0_renewWorth 1 8 [some (.ref l0), some (.int l1), some (.long l2), none, some (.long l4), none, some (.int l6), none] [] h none r := by
  intro n
  induction n with
  | zero =>
    intro h l0 l1 l2 l4 l6 r hf
    cases (show (none : Option xa_H) = some r from hf)
  | succ n ih =>
    intro h l0 l1 l2 l4 l6 r hf
    rw [f_X0_renewWorth_b8] at hf
    refine v_iload dX0_renewWorth_8 rfl ?_
    refine v_aload_n dX0_renewWorth_10 rfl ?_
    obtain ⟨x1, ex1, hf⟩ := ob hf
    refine v_getI dX0_renewWorth_11 fl_0_24 ex1 ?_
    refine v_icmp_ge dX0_renewWorth_14 (tgt := 86) (by decide) (fun c2 => ?_) (fun c2 => ?_)
    · replace hf := (if_pos c2).symm.trans hf
      refine v_aload_n dX0_renewWorth_86 rfl ?_
      obtain ⟨x3, ex3, hf⟩ := ob hf
      refine v_getR dX0_renewWorth_87 fl_0_15 ex3 ?_
      refine v_iload_n dX0_renewWorth_90 rfl ?_
      refine v_lload_n dX0_renewWorth_91 rfl ?_
      refine v_lload dX0_renewWorth_92 rfl ?_
      refine v_ladd dX0_renewWorth_94 ?_
      refine v_ldc2 dX0_renewWorth_95 rfl col_0_84 ?_
      refine w_lrem dX0_renewWorth_98 (by decide) ?_
      refine v_aload_n dX0_renewWorth_99 rfl ?_
      obtain ⟨x4, ex4, hf⟩ := ob hf
      refine v_getR dX0_renewWorth_100 fl_0_15 ex4 ?_
      refine v_iload_n dX0_renewWorth_103 rfl ?_
      obtain ⟨x5, ex5, hf⟩ := ob hf
      refine v_ialoadI dX0_renewWorth_104 ex5 ?_
      obtain ⟨q6, eq6, hf⟩ := ob hf
      refine v_callS dX0_renewWorth_105 ⟨cb_X0_inverse, ml_0_86, sm_X0_inverse⟩ (ev_X0_inverse eq6) (by decide) (As := [.int x5]) rfl (st := [.long (lrem (l2 + l4) (1000003 : Int64)), .int l1, .ref x3]) rfl (Nat.le_of_ble_eq_true rfl) rfl ?_
      refine v_lmul dX0_renewWorth_108 ?_
      refine v_ldc2 dX0_renewWorth_109 rfl col_0_84 ?_
      refine w_lrem dX0_renewWorth_112 (by decide) ?_
      refine v_l2i dX0_renewWorth_113 ?_
      obtain ⟨h7, eh7, hf⟩ := ob hf
      refine v_iastoreI dX0_renewWorth_114 eh7 ?_
      replace hf := Option.some.inj hf
      subst hf
      exact v_vret dX0_renewWorth_115 rfl
    · replace hf := (if_neg c2).symm.trans hf
      refine v_aload_n dX0_renewWorth_17 rfl ?_
      refine v_iload dX0_renewWorth_18 rfl ?_
      refine v_iload_n dX0_renewWorth_20 rfl ?_
      obtain ⟨q8, eq8, hf⟩ := ob hf
      refine v_callV dX0_renewWorth_21 ⟨cb_X0_debt, ml_0_46, im_X0_debt⟩ se_0_X0_debt (ckf_X0_debt eq8) (ev_X0_debt eq8) (by decide) (As := [.int l6, .int l1]) rfl (st := []) rfl (Nat.le_of_ble_eq_true rfl) rfl ?_
      refine v_istore dX0_renewWorth_24 (Nat.le_of_ble_eq_true rfl) (loc' := [some (.ref l0), some (.int l1), some (.long l2), none, some (.long l4), none, some (.int l6), some (.int q8)]) rfl ?_
      refine v_iload dX0_renewWorth_26 rfl ?_
      refine v_if_le dX0_renewWorth_28 (tgt := 53) (by decide) (fun c9 => ?_) (fun c9 => ?_)
      · replace hf := (if_pos c9).symm.trans hf
        refine v_iload dX0_renewWorth_53 rfl ?_
        refine v_if_ge dX0_renewWorth_55 (tgt := 80) (by decide) (fun c10 => ?_) (fun c10 => ?_)
        · replace hf := (if_pos c10).symm.trans hf
          exact xa_weak (loc := [some (.ref l0), some (.int l1), some (.long l2), none, some (.long l4), none, some (.int l6), none]) ⟨rfl, ⟨rfl, ⟨rfl, ⟨rfl, ⟨rfl, trivial⟩⟩⟩⟩⟩ (e_X0_renewWorth_b80 ih h l0 l1 l2 l4 l6 r hf)
        · replace hf := (if_neg c10).symm.trans hf
          refine v_lload dX0_renewWorth_58 rfl ?_
          refine v_aload_n dX0_renewWorth_60 rfl ?_
          obtain ⟨x11, ex11, hf⟩ := ob hf
          refine v_getR dX0_renewWorth_61 fl_0_15 ex11 ?_
          refine v_iload dX0_renewWorth_64 rfl ?_
          obtain ⟨x12, ex12, hf⟩ := ob hf
          refine v_ialoadI dX0_renewWorth_66 ex12 ?_
          refine v_iload dX0_renewWorth_67 rfl ?_
          refine v_ineg dX0_renewWorth_69 ?_
          obtain ⟨q13, eq13, hf⟩ := ob hf
          refine v_callS dX0_renewWorth_70 ⟨cb_X0_power, ml_0_80, sm_X0_power⟩ (ev_X0_power eq13) (by decide) (As := [.int x12, .int (-q8)]) rfl (st := [.long l4]) rfl (Nat.le_of_ble_eq_true rfl) rfl ?_
          refine v_lmul dX0_renewWorth_73 ?_
          refine v_ldc2 dX0_renewWorth_74 rfl col_0_84 ?_
          refine w_lrem dX0_renewWorth_77 (by decide) ?_
          refine v_lstore dX0_renewWorth_78 (Nat.le_of_ble_eq_true rfl) (loc' := [some (.ref l0), some (.int l1), some (.long l2), none, some (.long (lrem (l4 * q13) (1000003 : Int64))), none, some (.int l6), some (.int q8)]) rfl ?_
          exact xa_weak (loc := [some (.ref l0), some (.int l1), some (.long l2), none, some (.long (lrem (l4 * q13) (1000003 : Int64))), none, some (.int l6), none]) ⟨rfl, ⟨rfl, ⟨rfl, ⟨rfl, ⟨rfl, trivial⟩⟩⟩⟩⟩ (e_X0_renewWorth_b80 ih h l0 l1 l2 (lrem (l4 * q13) (1000003 : Int64)) l6 r hf)
      · replace hf := (if_neg c9).symm.trans hf
        refine v_lload_n dX0_renewWorth_31 rfl ?_
        refine v_aload_n dX0_renewWorth_32 rfl ?_
        obtain ⟨x14, ex14, hf⟩ := ob hf
        refine v_getR dX0_renewWorth_33 fl_0_15 ex14 ?_
        refine v_iload dX0_renewWorth_36 rfl ?_
        obtain ⟨x15, ex15, hf⟩ := ob hf
        refine v_ialoadI dX0_renewWorth_38 ex15 ?_
        refine v_iload dX0_renewWorth_39 rfl ?_
        obtain ⟨q16, eq16, hf⟩ := ob hf
        refine v_callS dX0_renewWorth_41 ⟨cb_X0_power, ml_0_80, sm_X0_power⟩ (ev_X0_power eq16) (by decide) (As := [.int x15, .int q8]) rfl (st := [.long l2]) rfl (Nat.le_of_ble_eq_true rfl) rfl ?_
        refine v_lmul dX0_renewWorth_44 ?_
        refine v_ldc2 dX0_renewWorth_45 rfl col_0_84 ?_
        refine w_lrem dX0_renewWorth_48 (by decide) ?_
        refine v_lstore_n (i := 2) rfl dX0_renewWorth_49 (Nat.le_of_ble_eq_true rfl) (loc' := [some (.ref l0), some (.int l1), some (.long (lrem (l2 * q16) (1000003 : Int64))), none, some (.long l4), none, some (.int l6), some (.int q8)]) rfl ?_
        refine v_goto dX0_renewWorth_50 (tgt := 80) (by decide) ?_
        exact xa_weak (loc := [some (.ref l0), some (.int l1), some (.long (lrem (l2 * q16) (1000003 : Int64))), none, some (.long l4), none, some (.int l6), none]) ⟨rfl, ⟨rfl, ⟨rfl, ⟨rfl, ⟨rfl, trivial⟩⟩⟩⟩⟩ (e_X0_renewWorth_b80 ih h l0 l1 (lrem (l2 * q16) (1000003 : Int64)) l4 l6 r hf)
def f_X0_renewWorth (h : xa_H) (l0 : Nat) (l1 : Int32) : Option xa_H :=
  (ck [0] h l0).bind fun _ =>
  f_X0_renewWorth_b8 1048576 h l0 l1 (1 : Int64) (1 : Int64) (0 : Int32)
set_option maxRecDepth 20000 in
theorem ev_X0_renewWorth {G : xa_G} {h : xa_H} {l0 : Nat} {l1 : Int32} {r : xa_H} (hf : f_X0_renewWorth h l0 l1 = some r) : xa_Ev G M_X0_renewWorth 1 [.ref l0, .int l1] h none r := by
  refine xa_entry (by decide +kernel) (loc := [some (.ref l0), some (.int l1), none, none, none, none, none, none]) rfl (Nat.le_of_ble_eq_true rfl) ?_
  unfold f_X0_renewWorth at hf
  obtain ⟨u0, eu0, hf⟩ := ob hf
  refine v_lconst dX0_renewWorth_0 (by decide) (v := 1) ?_
  refine v_lstore_n (i := 2) rfl dX0_renewWorth_1 (Nat.le_of_ble_eq_true rfl) (loc' := [some (.ref l0), some (.int l1), some (.long (1 : Int64)), none, none, none, none, none]) rfl ?_
  refine v_lconst dX0_renewWorth_2 (by decide) (v := 1) ?_
  refine v_lstore dX0_renewWorth_3 (Nat.le_of_ble_eq_true rfl) (loc' := [some (.ref l0), some (.int l1), some (.long (1 : Int64)), none, some (.long (1 : Int64)), none, none, none]) rfl ?_
  refine v_iconst dX0_renewWorth_5 (by decide) (v := 0) ?_
  refine v_istore dX0_renewWorth_6 (Nat.le_of_ble_eq_true rfl) (loc' := [some (.ref l0), some (.int l1), some (.long (1 : Int64)), none, some (.long (1 : Int64)), none, some (.int (0 : Int32)), none]) rfl ?_
  exact e_X0_renewWorth_b8 1048576 h l0 l1 (1 : Int64) (1 : Int64) (0 : Int32) r hf
theorem ckf_X0_renewWorth {h : xa_H} {l0 : Nat} {l1 : Int32} {r : xa_H} (hf : f_X0_renewWorth h l0 l1 = some r) : ck [0] h l0 = some () := by
  obtain ⟨u, e, -⟩ := ob hf
  exact e
def M_X0_setDebt : xa_M := (yX0_setDebt, cX0_setDebt, 4, none)
theorem cb_X0_setDebt : xa_CB M_X0_setDebt 3 := ⟨gws_at 669 (by decide +kernel) rfl, gws_at 112 (by decide +kernel) rfl, by decide +kernel, Nat.le_of_ble_eq_true rfl⟩
def f_X0_setDebt (h : xa_H) (l0 : Nat) (l1 : Int32) (l2 : Int32) (l3 : Int32) : Option xa_H :=
  (ck [0] h l0).bind fun _ =>
  (gR [0] 0 h l0).bind fun x1 =>
  (pI h x1 (((6 : Int32) * l1) + l2) l3).bind fun h2 =>
  (gR [0] 0 h2 l0).bind fun x3 =>
  (pI h2 x3 (((6 : Int32) * l2) + l1) (-l3)).bind fun h4 =>
  some h4
set_option maxRecDepth 20000 in
theorem ev_X0_setDebt {G : xa_G} {h : xa_H} {l0 : Nat} {l1 : Int32} {l2 : Int32} {l3 : Int32} {r : xa_H} (hf : f_X0_setDebt h l0 l1 l2 l3 = some r) : xa_Ev G M_X0_setDebt 0 [.ref l0, .int l1, .int l2, .int l3] h none r := by
  refine xa_entry (by decide +kernel) (loc := [some (.ref l0), some (.int l1), some (.int l2), some (.int l3)]) rfl (Nat.le_of_ble_eq_true rfl) ?_
  unfold f_X0_setDebt at hf
  obtain ⟨u0, eu0, hf⟩ := ob hf
  refine v_aload_n dX0_setDebt_0 rfl ?_
  obtain ⟨x1, ex1, hf⟩ := ob hf
  refine v_getR dX0_setDebt_1 fl_0_9 ex1 ?_
  refine v_bipush dX0_setDebt_4 (by decide) (v := 6) ?_
  refine v_iload_n dX0_setDebt_6 rfl ?_
  refine v_imul dX0_setDebt_7 ?_
  refine v_iload_n dX0_setDebt_8 rfl ?_
  refine v_iadd dX0_setDebt_9 ?_
  refine v_iload_n dX0_setDebt_10 rfl ?_
  obtain ⟨h2, eh2, hf⟩ := ob hf
  refine v_iastoreI dX0_setDebt_11 eh2 ?_
  refine v_aload_n dX0_setDebt_12 rfl ?_
  obtain ⟨x3, ex3, hf⟩ := ob hf
  refine v_getR dX0_setDebt_13 fl_0_9 ex3 ?_
  refine v_bipush dX0_setDebt_16 (by decide) (v := 6) ?_
  refine v_iload_n dX0_setDebt_18 rfl ?_
  refine v_imul dX0_setDebt_19 ?_
  refine v_iload_n dX0_setDebt_20 rfl ?_
  refine v_iadd dX0_setDebt_21 ?_
  refine v_iload_n dX0_setDebt_22 rfl ?_
  refine v_ineg dX0_setDebt_23 ?_
  obtain ⟨h4, eh4, hf⟩ := ob hf
  refine v_iastoreI dX0_setDebt_24 eh4 ?_
  replace hf := Option.some.inj hf
  subst hf
  exact v_vret dX0_setDebt_25 rfl
theorem ckf_X0_setDebt {h : xa_H} {l0 : Nat} {l1 : Int32} {l2 : Int32} {l3 : Int32} {r : xa_H} (hf : f_X0_setDebt h l0 l1 l2 l3 = some r) : ck [0] h l0 = some () := by
  obtain ⟨u, e, -⟩ := ob hf
  exact e
def M_X0_turnDebts : xa_M := (yX0_turnDebts, cX0_turnDebts, 6, none)
theorem cb_X0_turnDebts : xa_CB M_X0_turnDebts 1 := ⟨gws_at 909 (by decide +kernel) rfl, gws_at 112 (by decide +kernel) rfl, by decide +kernel, Nat.le_of_ble_eq_true rfl⟩
def f_X0_turnDebts_b83 : Nat → xa_H → Nat → Int32 → Int32 → Option xa_H
  | 0, _, _, _, _ => none
  | n + 1, h, l0, l1, l2 =>
    (gI [0] 4 h l0).bind fun x1 =>
    if x1 ≤ l2 then
      some h
    else
      (f_X0_debt h l0 l2 l1).bind fun q3 =>
      (f_X0_setDebt h l0 l2 l1 (-q3)).bind fun q4 =>
      f_X0_turnDebts_b83 n q4 l0 l1 (l2 + (1 : Int32))
set_option maxRecDepth 20000 in
theorem e_X0_turnDebts_b83 {G : xa_G} : ∀ (n : Nat) (h : xa_H) (l0 : Nat) (l1 : Int32) (l2 : Int32) (r : xa_H), f_X0_turnDebts_b83 n h l0 l1 l2 = some r → xa_V G M_X0_turnDebts 1 83 [some (.ref l0), some (.int l1), some (.int l2), none, none, none] [] h none r := by
  intro n
  induction n with
  | zero =>
    intro h l0 l1 l2 r hf
    cases (show (none : Option xa_H) = some r from hf)
  | succ n ih =>
    intro h l0 l1 l2 r hf
    rw [f_X0_turnDebts_b83] at hf
    refine v_iload_n dX0_turnDebts_83 rfl ?_
    refine v_aload_n dX0_turnDebts_84 rfl ?_
    obtain ⟨x1, ex1, hf⟩ := ob hf
    refine v_getI dX0_turnDebts_85 fl_0_24 ex1 ?_
    refine v_icmp_ge dX0_turnDebts_88 (tgt := 110) (by decide) (fun c2 => ?_) (fun c2 => ?_)
    · replace hf := (if_pos c2).symm.trans hf
      replace hf := Option.some.inj hf
      subst hf
      exact v_vret dX0_turnDebts_110 rfl
    · replace hf := (if_neg c2).symm.trans hf
      refine v_aload_n dX0_turnDebts_91 rfl ?_
      refine v_iload_n dX0_turnDebts_92 rfl ?_
      refine v_iload_n dX0_turnDebts_93 rfl ?_
      refine v_aload_n dX0_turnDebts_94 rfl ?_
      refine v_iload_n dX0_turnDebts_95 rfl ?_
      refine v_iload_n dX0_turnDebts_96 rfl ?_
      obtain ⟨q3, eq3, hf⟩ := ob hf
      refine v_callV dX0_turnDebts_97 ⟨cb_X0_debt, ml_0_46, im_X0_debt⟩ se_0_X0_debt (ckf_X0_debt eq3) (ev_X0_debt eq3) (by decide) (As := [.int l2, .int l1]) rfl (st := [.int l1, .int l2, .ref l0]) rfl (Nat.le_of_ble_eq_true rfl) rfl ?_
      refine v_ineg dX0_turnDebts_100 ?_
      obtain ⟨q4, eq4, hf⟩ := ob hf
      refine v_callV dX0_turnDebts_101 ⟨cb_X0_setDebt, ml_0_76, im_X0_setDebt⟩ se_0_X0_setDebt (ckf_X0_setDebt eq4) (ev_X0_setDebt eq4) (by decide) (As := [.int l2, .int l1, .int (-q3)]) rfl (st := []) rfl (Nat.le_of_ble_eq_true rfl) rfl ?_
      refine v_iinc dX0_turnDebts_104 rfl (v := (l2 + (1 : Int32))) rfl (Nat.le_of_ble_eq_true rfl) (loc' := [some (.ref l0), some (.int l1), some (.int (l2 + (1 : Int32))), none, none, none]) rfl ?_
      refine v_goto dX0_turnDebts_107 (tgt := 83) (by decide) ?_
      exact ih q4 l0 l1 (l2 + (1 : Int32)) r hf
def f_X0_turnDebts_b75 (k2 : xa_H → Nat → Int32 → Int32 → Option xa_H) (h : xa_H) (l0 : Nat) (l1 : Int32) (l2 : Int32) : Option xa_H :=
  k2 h l0 l1 (l2 + (1 : Int32))
set_option maxRecDepth 20000 in
theorem e_X0_turnDebts_b75 {G : xa_G} {k2 : xa_H → Nat → Int32 → Int32 → Option xa_H} (hk2 : ∀ (h : xa_H) (l0 : Nat) (l1 : Int32) (l2 : Int32) (r : xa_H), k2 h l0 l1 l2 = some r → xa_V G M_X0_turnDebts 1 2 [some (.ref l0), some (.int l1), some (.int l2), none, none, none] [] h none r) : ∀ (h : xa_H) (l0 : Nat) (l1 : Int32) (l2 : Int32) (r : xa_H), f_X0_turnDebts_b75 k2 h l0 l1 l2 = some r → xa_V G M_X0_turnDebts 1 75 [some (.ref l0), some (.int l1), some (.int l2), none, none, none] [] h none r := by
  intro h l0 l1 l2 r hf
  unfold f_X0_turnDebts_b75 at hf
  refine v_iinc dX0_turnDebts_75 rfl (v := (l2 + (1 : Int32))) rfl (Nat.le_of_ble_eq_true rfl) (loc' := [some (.ref l0), some (.int l1), some (.int (l2 + (1 : Int32))), none, none, none]) rfl ?_
  refine v_goto dX0_turnDebts_78 (tgt := 2) (by decide) ?_
  exact hk2 h l0 l1 (l2 + (1 : Int32)) r hf
def f_X0_turnDebts_b69 (k2 : xa_H → Nat → Int32 → Int32 → Option xa_H) (k27 : xa_H → Nat → Int32 → Int32 → Int32 → Int32 → Option xa_H) (h : xa_H) (l0 : Nat) (l1 : Int32) (l2 : Int32) (l3 : Int32) (l4 : Int32) : Option xa_H :=
  k27 h l0 l1 l2 l3 (l4 + (1 : Int32))
set_option maxRecDepth 20000 in
theorem e_X0_turnDebts_b69 {G : xa_G} {k2 : xa_H → Nat → Int32 → Int32 → Option xa_H} (hk2 : ∀ (h : xa_H) (l0 : Nat) (l1 : Int32) (l2 : Int32) (r : xa_H), k2 h l0 l1 l2 = some r → xa_V G M_X0_turnDebts 1 2 [some (.ref l0), some (.int l1), some (.int l2), none, none, none] [] h none r) {k27 : xa_H → Nat → Int32 → Int32 → Int32 → Int32 → Option xa_H} (hk27 : ∀ (h : xa_H) (l0 : Nat) (l1 : Int32) (l2 : Int32) (l3 : Int32) (l4 : Int32) (r : xa_H), k27 h l0 l1 l2 l3 l4 = some r → xa_V G M_X0_turnDebts 1 27 [some (.ref l0), some (.int l1), some (.int l2), some (.int l3), some (.int l4), none] [] h none r) : ∀ (h : xa_H) (l0 : Nat) (l1 : Int32) (l2 : Int32) (l3 : Int32) (l4 : Int32) (r : xa_H), f_X0_turnDebts_b69 k2 k27 h l0 l1 l2 l3 l4 = some r → xa_V G M_X0_turnDebts 1 69 [some (.ref l0), some (.int l1), some (.int l2), some (.int l3), some (.int l4), none] [] h none r := by
  intro h l0 l1 l2 l3 l4 r hf
  unfold f_X0_turnDebts_b69 at hf
  refine v_iinc dX0_turnDebts_69 rfl (v := (l4 + (1 : Int32))) rfl (Nat.le_of_ble_eq_true rfl) (loc' := [some (.ref l0), some (.int l1), some (.int l2), some (.int l3), some (.int (l4 + (1 : Int32))), none]) rfl ?_
  refine v_goto dX0_turnDebts_72 (tgt := 27) (by decide) ?_
  exact hk27 h l0 l1 l2 l3 (l4 + (1 : Int32)) r hf
def f_X0_turnDebts_b27 (k2 : xa_H → Nat → Int32 → Int32 → Option xa_H) : Nat → xa_H → Nat → Int32 → Int32 → Int32 → Int32 → Option xa_H
  | 0, _, _, _, _, _, _ => none
  | n + 1, h, l0, l1, l2, l3, l4 =>
    (gI [0] 4 h l0).bind fun x1 =>
    if x1 ≤ l4 then
      f_X0_turnDebts_b75 k2 h l0 l1 l2
    else
      (f_X0_debt h l0 l1 l4).bind fun q3 =>
      if q3 ≤ 0 then
        f_X0_turnDebts_b69 k2 (fun h l0 l1 l2 l3 l4 => f_X0_turnDebts_b27 k2 n h l0 l1 l2 l3 l4) h l0 l1 l2 l3 l4
      else
        (f_X0_debt h l0 l2 l4).bind fun q5 =>
        (f_X0_setDebt h l0 l2 l4 (q5 + (l3 * q3))).bind fun q6 =>
        f_X0_turnDebts_b69 k2 (fun h l0 l1 l2 l3 l4 => f_X0_turnDebts_b27 k2 n h l0 l1 l2 l3 l4) q6 l0 l1 l2 l3 l4
set_option maxRecDepth 20000 in
theorem e_X0_turnDebts_b27 {G : xa_G} {k2 : xa_H → Nat → Int32 → Int32 → Option xa_H} (hk2 : ∀ (h : xa_H) (l0 : Nat) (l1 : Int32) (l2 : Int32) (r : xa_H), k2 h l0 l1 l2 = some r → xa_V G M_X0_turnDebts 1 2 [some (.ref l0), some (.int l1), some (.int l2), none, none, none] [] h none r) : ∀ (n : Nat) (h : xa_H) (l0 : Nat) (l1 : Int32) (l2 : Int32) (l3 : Int32) (l4 : Int32) (r : xa_H), f_X0_turnDebts_b27 k2 n h l0 l1 l2 l3 l4 = some r → xa_V G M_X0_turnDebts 1 27 [some (.ref l0), some (.int l1), some (.int l2), some (.int l3), some (.int l4), none] [] h none r := by
  intro n
  induction n with
  | zero =>
    intro h l0 l1 l2 l3 l4 r hf
    cases (show (none : Option xa_H) = some r from hf)
  | succ n ih =>
    intro h l0 l1 l2 l3 l4 r hf
    rw [f_X0_turnDebts_b27] at hf
    refine v_iload dX0_turnDebts_27 rfl ?_
    refine v_aload_n dX0_turnDebts_29 rfl ?_
    obtain ⟨x1, ex1, hf⟩ := ob hf
    refine v_getI dX0_turnDebts_30 fl_0_24 ex1 ?_
    refine v_icmp_ge dX0_turnDebts_33 (tgt := 75) (by decide) (fun c2 => ?_) (fun c2 => ?_)
    · replace hf := (if_pos c2).symm.trans hf
      exact xa_weak (loc := [some (.ref l0), some (.int l1), some (.int l2), none, none, none]) ⟨rfl, ⟨rfl, ⟨rfl, trivial⟩⟩⟩ (e_X0_turnDebts_b75 hk2 h l0 l1 l2 r hf)
    · replace hf := (if_neg c2).symm.trans hf
      refine v_aload_n dX0_turnDebts_36 rfl ?_
      refine v_iload_n dX0_turnDebts_37 rfl ?_
      refine v_iload dX0_turnDebts_38 rfl ?_
      obtain ⟨q3, eq3, hf⟩ := ob hf
      refine v_callV dX0_turnDebts_40 ⟨cb_X0_debt, ml_0_46, im_X0_debt⟩ se_0_X0_debt (ckf_X0_debt eq3) (ev_X0_debt eq3) (by decide) (As := [.int l1, .int l4]) rfl (st := []) rfl (Nat.le_of_ble_eq_true rfl) rfl ?_
      refine v_istore dX0_turnDebts_43 (Nat.le_of_ble_eq_true rfl) (loc' := [some (.ref l0), some (.int l1), some (.int l2), some (.int l3), some (.int l4), some (.int q3)]) rfl ?_
      refine v_iload dX0_turnDebts_45 rfl ?_
      refine v_if_le dX0_turnDebts_47 (tgt := 69) (by decide) (fun c4 => ?_) (fun c4 => ?_)
      · replace hf := (if_pos c4).symm.trans hf
        exact xa_weak (loc := [some (.ref l0), some (.int l1), some (.int l2), some (.int l3), some (.int l4), none]) ⟨rfl, ⟨rfl, ⟨rfl, ⟨rfl, ⟨rfl, trivial⟩⟩⟩⟩⟩ (e_X0_turnDebts_b69 hk2 ih h l0 l1 l2 l3 l4 r hf)
      · replace hf := (if_neg c4).symm.trans hf
        refine v_aload_n dX0_turnDebts_50 rfl ?_
        refine v_iload_n dX0_turnDebts_51 rfl ?_
        refine v_iload dX0_turnDebts_52 rfl ?_
        refine v_aload_n dX0_turnDebts_54 rfl ?_
        refine v_iload_n dX0_turnDebts_55 rfl ?_
        refine v_iload dX0_turnDebts_56 rfl ?_
        obtain ⟨q5, eq5, hf⟩ := ob hf
        refine v_callV dX0_turnDebts_58 ⟨cb_X0_debt, ml_0_46, im_X0_debt⟩ se_0_X0_debt (ckf_X0_debt eq5) (ev_X0_debt eq5) (by decide) (As := [.int l2, .int l4]) rfl (st := [.int l4, .int l2, .ref l0]) rfl (Nat.le_of_ble_eq_true rfl) rfl ?_
        refine v_iload_n dX0_turnDebts_61 rfl ?_
        refine v_iload dX0_turnDebts_62 rfl ?_
        refine v_imul dX0_turnDebts_64 ?_
        refine v_iadd dX0_turnDebts_65 ?_
        obtain ⟨q6, eq6, hf⟩ := ob hf
        refine v_callV dX0_turnDebts_66 ⟨cb_X0_setDebt, ml_0_76, im_X0_setDebt⟩ se_0_X0_setDebt (ckf_X0_setDebt eq6) (ev_X0_setDebt eq6) (by decide) (As := [.int l2, .int l4, .int (q5 + (l3 * q3))]) rfl (st := []) rfl (Nat.le_of_ble_eq_true rfl) rfl ?_
        exact xa_weak (loc := [some (.ref l0), some (.int l1), some (.int l2), some (.int l3), some (.int l4), none]) ⟨rfl, ⟨rfl, ⟨rfl, ⟨rfl, ⟨rfl, trivial⟩⟩⟩⟩⟩ (e_X0_turnDebts_b69 hk2 ih q6 l0 l1 l2 l3 l4 r hf)
def f_X0_turnDebts_b2 : Nat → xa_H → Nat → Int32 → Int32 → Option xa_H
  | 0, _, _, _, _ => none
  | n + 1, h, l0, l1, l2 =>
    (gI [0] 4 h l0).bind fun x1 =>
    if x1 ≤ l2 then
      f_X0_turnDebts_b83 1048576 h l0 l1 (0 : Int32)
    else
      (f_X0_debt h l0 l2 l1).bind fun q3 =>
      if 0 < q3 then
        f_X0_turnDebts_b27 (fun h l0 l1 l2 => f_X0_turnDebts_b2 n h l0 l1 l2) 1048576 h l0 l1 l2 q3 (0 : Int32)
      else
        f_X0_turnDebts_b75 (fun h l0 l1 l2 => f_X0_turnDebts_b2 n h l0 l1 l2) h l0 l1 l2
set_option maxRecDepth 20000 in
theorem e_X0_turnDebts_b2 {G : xa_G} : ∀ (n : Nat) (h : xa_H) (l0 : Nat) (l1 : Int32) (l2 : Int32) (r : xa_H), f_X0_turnDebts_b2 n h l0 l1 l2 = some r → xa_V G M_X0_turnDebts 1 2 [some (.ref l0), some (.int l1), some (.int l2), none, none, none] [] h none r := by
  intro n
  induction n with
  | zero =>
    intro h l0 l1 l2 r hf
    cases (show (none : Option xa_H) = some r from hf)
  | succ n ih =>
    intro h l0 l1 l2 r hf
    rw [f_X0_turnDebts_b2] at hf
    refine v_iload_n dX0_turnDebts_2 rfl ?_
    refine v_aload_n dX0_turnDebts_3 rfl ?_
    obtain ⟨x1, ex1, hf⟩ := ob hf
    refine v_getI dX0_turnDebts_4 fl_0_24 ex1 ?_
    refine v_icmp_ge dX0_turnDebts_7 (tgt := 81) (by decide) (fun c2 => ?_) (fun c2 => ?_)
    · replace hf := (if_pos c2).symm.trans hf
      refine v_iconst dX0_turnDebts_81 (by decide) (v := 0) ?_
      refine v_istore_n (i := 2) rfl dX0_turnDebts_82 (Nat.le_of_ble_eq_true rfl) (loc' := [some (.ref l0), some (.int l1), some (.int (0 : Int32)), none, none, none]) rfl ?_
      exact e_X0_turnDebts_b83 1048576 h l0 l1 (0 : Int32) r hf
    · replace hf := (if_neg c2).symm.trans hf
      refine v_aload_n dX0_turnDebts_10 rfl ?_
      refine v_iload_n dX0_turnDebts_11 rfl ?_
      refine v_iload_n dX0_turnDebts_12 rfl ?_
      obtain ⟨q3, eq3, hf⟩ := ob hf
      refine v_callV dX0_turnDebts_13 ⟨cb_X0_debt, ml_0_46, im_X0_debt⟩ se_0_X0_debt (ckf_X0_debt eq3) (ev_X0_debt eq3) (by decide) (As := [.int l2, .int l1]) rfl (st := []) rfl (Nat.le_of_ble_eq_true rfl) rfl ?_
      refine v_istore_n (i := 3) rfl dX0_turnDebts_16 (Nat.le_of_ble_eq_true rfl) (loc' := [some (.ref l0), some (.int l1), some (.int l2), some (.int q3), none, none]) rfl ?_
      refine v_iload_n dX0_turnDebts_17 rfl ?_
      refine v_if_gt dX0_turnDebts_18 (tgt := 24) (by decide) (fun c4 => ?_) (fun c4 => ?_)
      · replace hf := (if_pos c4).symm.trans hf
        refine v_iconst dX0_turnDebts_24 (by decide) (v := 0) ?_
        refine v_istore dX0_turnDebts_25 (Nat.le_of_ble_eq_true rfl) (loc' := [some (.ref l0), some (.int l1), some (.int l2), some (.int q3), some (.int (0 : Int32)), none]) rfl ?_
        exact e_X0_turnDebts_b27 ih 1048576 h l0 l1 l2 q3 (0 : Int32) r hf
      · replace hf := (if_neg c4).symm.trans hf
        refine v_goto dX0_turnDebts_21 (tgt := 75) (by decide) ?_
        exact xa_weak (loc := [some (.ref l0), some (.int l1), some (.int l2), none, none, none]) ⟨rfl, ⟨rfl, ⟨rfl, trivial⟩⟩⟩ (e_X0_turnDebts_b75 ih h l0 l1 l2 r hf)
def f_X0_turnDebts (h : xa_H) (l0 : Nat) (l1 : Int32) : Option xa_H :=
  (ck [0] h l0).bind fun _ =>
  f_X0_turnDebts_b2 1048576 h l0 l1 (0 : Int32)
set_option maxRecDepth 20000 in
theorem ev_X0_turnDebts {G : xa_G} {h : xa_H} {l0 : Nat} {l1 : Int32} {r : xa_H} (hf : f_X0_turnDebts h l0 l1 = some r) : xa_Ev G M_X0_turnDebts 1 [.ref l0, .int l1] h none r := by
  refine xa_entry (by decide +kernel) (loc := [some (.ref l0), some (.int l1), none, none, none, none]) rfl (Nat.le_of_ble_eq_true rfl) ?_
  unfold f_X0_turnDebts at hf
  obtain ⟨u0, eu0, hf⟩ := ob hf
  refine v_iconst dX0_turnDebts_0 (by decide) (v := 0) ?_
  refine v_istore_n (i := 2) rfl dX0_turnDebts_1 (Nat.le_of_ble_eq_true rfl) (loc' := [some (.ref l0), some (.int l1), some (.int (0 : Int32)), none, none, none]) rfl ?_
  exact e_X0_turnDebts_b2 1048576 h l0 l1 (0 : Int32) r hf
theorem ckf_X0_turnDebts {h : xa_H} {l0 : Nat} {l1 : Int32} {r : xa_H} (hf : f_X0_turnDebts h l0 l1 = some r) : ck [0] h l0 = some () := by
  obtain ⟨u, e, -⟩ := ob hf
  exact e
def M_X0_turnOver : xa_M := (yX0_turnOver, cX0_turnOver, 2, none)
theorem cb_X0_turnOver : xa_CB M_X0_turnOver 1 := ⟨gws_at 894 (by decide +kernel) rfl, gws_at 112 (by decide +kernel) rfl, by decide +kernel, Nat.le_of_ble_eq_true rfl⟩
def f_X0_turnOver (h : xa_H) (l0 : Nat) (l1 : Int32) : Option xa_H :=
  (ck [0] h l0).bind fun _ =>
  (f_X0_renewWorth h l0 l1).bind fun q1 =>
  (f_X0_turnDebts q1 l0 l1).bind fun q2 =>
  some q2
set_option maxRecDepth 20000 in
theorem ev_X0_turnOver {G : xa_G} {h : xa_H} {l0 : Nat} {l1 : Int32} {r : xa_H} (hf : f_X0_turnOver h l0 l1 = some r) : xa_Ev G M_X0_turnOver 2 [.ref l0, .int l1] h none r := by
  refine xa_entry (by decide +kernel) (loc := [some (.ref l0), some (.int l1)]) rfl (Nat.le_of_ble_eq_true rfl) ?_
  unfold f_X0_turnOver at hf
  obtain ⟨u0, eu0, hf⟩ := ob hf
  refine v_aload_n dX0_turnOver_0 rfl ?_
  refine v_iload_n dX0_turnOver_1 rfl ?_
  obtain ⟨q1, eq1, hf⟩ := ob hf
  refine v_callV dX0_turnOver_2 ⟨cb_X0_renewWorth, ml_0_69, im_X0_renewWorth⟩ se_0_X0_renewWorth (ckf_X0_renewWorth eq1) (ev_X0_renewWorth eq1) (by decide) (As := [.int l1]) rfl (st := []) rfl (Nat.le_of_ble_eq_true rfl) rfl ?_
  refine v_aload_n dX0_turnOver_5 rfl ?_
  refine v_iload_n dX0_turnOver_6 rfl ?_
  obtain ⟨q2, eq2, hf⟩ := ob hf
  refine v_callV dX0_turnOver_7 ⟨cb_X0_turnDebts, ml_0_73, im_X0_turnDebts⟩ se_0_X0_turnDebts (ckf_X0_turnDebts eq2) (ev_X0_turnDebts eq2) (by decide) (As := [.int l1]) rfl (st := []) rfl (Nat.le_of_ble_eq_true rfl) rfl ?_
  replace hf := Option.some.inj hf
  subst hf
  exact v_vret dX0_turnOver_10 rfl
theorem ckf_X0_turnOver {h : xa_H} {l0 : Nat} {l1 : Int32} {r : xa_H} (hf : f_X0_turnOver h l0 l1 = some r) : ck [0] h l0 = some () := by
  obtain ⟨u, e, -⟩ := ob hf
  exact e
def M_X0_follow : xa_M := (yX0_follow, cX0_follow, 4, some .boolean)
theorem cb_X0_follow : xa_CB M_X0_follow 2 := ⟨gws_at 999 (by decide +kernel) rfl, gws_at 112 (by decide +kernel) rfl, by decide +kernel, Nat.le_of_ble_eq_true rfl⟩
def f_X0_follow_b2 : Nat → xa_H → Nat → Nat → Int32 → Int32 → Option (Int32 × xa_H)
  | 0, _, _, _, _, _ => none
  | n + 1, h, l0, l1, l2, l3 =>
    if l2 ≤ l3 then
      some ((1 : Int32), h)
    else
      (aN h l1).bind fun x2 =>
      if x2 ≤ l3 then
        some ((1 : Int32), h)
      else
        (aI h l1 l3).bind fun x4 =>
        (f_X0_canTurn h l0 x4).bind fun q5 =>
        if q5 = 0 then
          some ((0 : Int32), h)
        else
          (aI h l1 l3).bind fun x7 =>
          (f_X0_turnOver h l0 x7).bind fun q8 =>
          f_X0_follow_b2 n q8 l0 l1 l2 (l3 + (1 : Int32))
set_option maxRecDepth 20000 in
theorem e_X0_follow_b2 {G : xa_G} : ∀ (n : Nat) (h : xa_H) (l0 : Nat) (l1 : Nat) (l2 : Int32) (l3 : Int32) (r : (Int32 × xa_H)), f_X0_follow_b2 n h l0 l1 l2 l3 = some r → xa_V G M_X0_follow 3 2 [some (.ref l0), some (.ref l1), some (.int l2), some (.int l3)] [] h (some (.int r.1)) r.2 := by
  intro n
  induction n with
  | zero =>
    intro h l0 l1 l2 l3 r hf
    cases (show (none : Option (Int32 × xa_H)) = some r from hf)
  | succ n ih =>
    intro h l0 l1 l2 l3 r hf
    rw [f_X0_follow_b2] at hf
    refine v_iload_n dX0_follow_2 rfl ?_
    refine v_iload_n dX0_follow_3 rfl ?_
    refine v_icmp_ge dX0_follow_4 (tgt := 38) (by decide) (fun c1 => ?_) (fun c1 => ?_)
    · replace hf := (if_pos c1).symm.trans hf
      refine v_iconst dX0_follow_38 (by decide) (v := 1) ?_
      replace hf := Option.some.inj hf
      subst hf
      exact v_zret dX0_follow_39 rfl (by decide)
    · replace hf := (if_neg c1).symm.trans hf
      refine v_iload_n dX0_follow_7 rfl ?_
      refine v_aload_n dX0_follow_8 rfl ?_
      obtain ⟨x2, ex2, hf⟩ := ob hf
      refine v_alen dX0_follow_9 ex2 ?_
      refine v_icmp_ge dX0_follow_10 (tgt := 38) (by decide) (fun c3 => ?_) (fun c3 => ?_)
      · replace hf := (if_pos c3).symm.trans hf
        refine v_iconst dX0_follow_38 (by decide) (v := 1) ?_
        replace hf := Option.some.inj hf
        subst hf
        exact v_zret dX0_follow_39 rfl (by decide)
      · replace hf := (if_neg c3).symm.trans hf
        refine v_aload_n dX0_follow_13 rfl ?_
        refine v_aload_n dX0_follow_14 rfl ?_
        refine v_iload_n dX0_follow_15 rfl ?_
        obtain ⟨x4, ex4, hf⟩ := ob hf
        refine v_ialoadI dX0_follow_16 ex4 ?_
        obtain ⟨q5, eq5, hf⟩ := ob hf
        refine v_callV dX0_follow_17 ⟨cb_X0_canTurn, ml_0_90, im_X0_canTurn⟩ se_0_X0_canTurn (ckf_X0_canTurn eq5) (ev_X0_canTurn eq5) (by decide) (As := [.int x4]) rfl (st := []) rfl (Nat.le_of_ble_eq_true rfl) rfl ?_
        refine v_if_ne dX0_follow_20 (tgt := 25) (by decide) (fun c6 => ?_) (fun c6 => ?_)
        · replace hf := (if_neg c6).symm.trans hf
          refine v_aload_n dX0_follow_25 rfl ?_
          refine v_aload_n dX0_follow_26 rfl ?_
          refine v_iload_n dX0_follow_27 rfl ?_
          obtain ⟨x7, ex7, hf⟩ := ob hf
          refine v_ialoadI dX0_follow_28 ex7 ?_
          obtain ⟨q8, eq8, hf⟩ := ob hf
          refine v_callV dX0_follow_29 ⟨cb_X0_turnOver, ml_0_93, im_X0_turnOver⟩ se_0_X0_turnOver (ckf_X0_turnOver eq8) (ev_X0_turnOver eq8) (by decide) (As := [.int x7]) rfl (st := []) rfl (Nat.le_of_ble_eq_true rfl) rfl ?_
          refine v_iinc dX0_follow_32 rfl (v := (l3 + (1 : Int32))) rfl (Nat.le_of_ble_eq_true rfl) (loc' := [some (.ref l0), some (.ref l1), some (.int l2), some (.int (l3 + (1 : Int32)))]) rfl ?_
          refine v_goto dX0_follow_35 (tgt := 2) (by decide) ?_
          exact ih q8 l0 l1 l2 (l3 + (1 : Int32)) r hf
        · replace hf := (if_pos c6).symm.trans hf
          refine v_iconst dX0_follow_23 (by decide) (v := 0) ?_
          replace hf := Option.some.inj hf
          subst hf
          exact v_zret dX0_follow_24 rfl (by decide)
def f_X0_follow (h : xa_H) (l0 : Nat) (l1 : Nat) (l2 : Int32) : Option (Int32 × xa_H) :=
  (ck [0] h l0).bind fun _ =>
  f_X0_follow_b2 1048576 h l0 l1 l2 (0 : Int32)
set_option maxRecDepth 20000 in
theorem ev_X0_follow {G : xa_G} {h : xa_H} {l0 : Nat} {l1 : Nat} {l2 : Int32} {r : (Int32 × xa_H)} (hf : f_X0_follow h l0 l1 l2 = some r) : xa_Ev G M_X0_follow 3 [.ref l0, .ref l1, .int l2] h (some (.int r.1)) r.2 := by
  refine xa_entry (by decide +kernel) (loc := [some (.ref l0), some (.ref l1), some (.int l2), none]) rfl (Nat.le_of_ble_eq_true rfl) ?_
  unfold f_X0_follow at hf
  obtain ⟨u0, eu0, hf⟩ := ob hf
  refine v_iconst dX0_follow_0 (by decide) (v := 0) ?_
  refine v_istore_n (i := 3) rfl dX0_follow_1 (Nat.le_of_ble_eq_true rfl) (loc' := [some (.ref l0), some (.ref l1), some (.int l2), some (.int (0 : Int32))]) rfl ?_
  exact e_X0_follow_b2 1048576 h l0 l1 l2 (0 : Int32) r hf
theorem ckf_X0_follow {h : xa_H} {l0 : Nat} {l1 : Nat} {l2 : Int32} {r : (Int32 × xa_H)} (hf : f_X0_follow h l0 l1 l2 = some r) : ck [0] h l0 = some () := by
  obtain ⟨u, e, -⟩ := ob hf
  exact e
def M_X0_hasDebtsOf : xa_M := (yX0_hasDebtsOf, cX0_hasDebtsOf, 3, some .boolean)
theorem cb_X0_hasDebtsOf : xa_CB M_X0_hasDebtsOf 1 := ⟨gws_at 1013 (by decide +kernel) rfl, gws_at 112 (by decide +kernel) rfl, by decide +kernel, Nat.le_of_ble_eq_true rfl⟩
def f_X0_hasDebtsOf_b2 : Nat → xa_H → Nat → Nat → Int32 → Option Int32
  | 0, _, _, _, _ => none
  | n + 1, h, l0, l1, l2 =>
    (gR [0] 0 h l0).bind fun x1 =>
    (aN h x1).bind fun x2 =>
    if x2 ≤ l2 then
      some (1 : Int32)
    else
      (gR [0] 0 h l0).bind fun x4 =>
      (aI h x4 l2).bind fun x5 =>
      (gR [0] 0 h l1).bind fun x6 =>
      (aI h x6 l2).bind fun x7 =>
      if x5 = x7 then
        f_X0_hasDebtsOf_b2 n h l0 l1 (l2 + (1 : Int32))
      else
        some (0 : Int32)
set_option maxRecDepth 20000 in
theorem e_X0_hasDebtsOf_b2 {G : xa_G} : ∀ (n : Nat) (h : xa_H) (l0 : Nat) (l1 : Nat) (l2 : Int32) (r : Int32), f_X0_hasDebtsOf_b2 n h l0 l1 l2 = some r → xa_V G M_X0_hasDebtsOf 0 2 [some (.ref l0), some (.ref l1), some (.int l2)] [] h (some (.int r)) h := by
  intro n
  induction n with
  | zero =>
    intro h l0 l1 l2 r hf
    cases (show (none : Option Int32) = some r from hf)
  | succ n ih =>
    intro h l0 l1 l2 r hf
    rw [f_X0_hasDebtsOf_b2] at hf
    refine v_iload_n dX0_hasDebtsOf_2 rfl ?_
    refine v_aload_n dX0_hasDebtsOf_3 rfl ?_
    obtain ⟨x1, ex1, hf⟩ := ob hf
    refine v_getR dX0_hasDebtsOf_4 fl_0_9 ex1 ?_
    obtain ⟨x2, ex2, hf⟩ := ob hf
    refine v_alen dX0_hasDebtsOf_7 ex2 ?_
    refine v_icmp_ge dX0_hasDebtsOf_8 (tgt := 34) (by decide) (fun c3 => ?_) (fun c3 => ?_)
    · replace hf := (if_pos c3).symm.trans hf
      refine v_iconst dX0_hasDebtsOf_34 (by decide) (v := 1) ?_
      replace hf := Option.some.inj hf
      subst hf
      exact v_zret dX0_hasDebtsOf_35 rfl (by decide)
    · replace hf := (if_neg c3).symm.trans hf
      refine v_aload_n dX0_hasDebtsOf_11 rfl ?_
      obtain ⟨x4, ex4, hf⟩ := ob hf
      refine v_getR dX0_hasDebtsOf_12 fl_0_9 ex4 ?_
      refine v_iload_n dX0_hasDebtsOf_15 rfl ?_
      obtain ⟨x5, ex5, hf⟩ := ob hf
      refine v_ialoadI dX0_hasDebtsOf_16 ex5 ?_
      refine v_aload_n dX0_hasDebtsOf_17 rfl ?_
      obtain ⟨x6, ex6, hf⟩ := ob hf
      refine v_getR dX0_hasDebtsOf_18 fl_0_9 ex6 ?_
      refine v_iload_n dX0_hasDebtsOf_21 rfl ?_
      obtain ⟨x7, ex7, hf⟩ := ob hf
      refine v_ialoadI dX0_hasDebtsOf_22 ex7 ?_
      refine v_icmp_eq dX0_hasDebtsOf_23 (tgt := 28) (by decide) (fun c8 => ?_) (fun c8 => ?_)
      · replace hf := (if_pos c8).symm.trans hf
        refine v_iinc dX0_hasDebtsOf_28 rfl (v := (l2 + (1 : Int32))) rfl (Nat.le_of_ble_eq_true rfl) (loc' := [some (.ref l0), some (.ref l1), some (.int (l2 + (1 : Int32)))]) rfl ?_
        refine v_goto dX0_hasDebtsOf_31 (tgt := 2) (by decide) ?_
        exact ih h l0 l1 (l2 + (1 : Int32)) r hf
      · replace hf := (if_neg c8).symm.trans hf
        refine v_iconst dX0_hasDebtsOf_26 (by decide) (v := 0) ?_
        replace hf := Option.some.inj hf
        subst hf
        exact v_zret dX0_hasDebtsOf_27 rfl (by decide)
def f_X0_hasDebtsOf (h : xa_H) (l0 : Nat) (l1 : Nat) : Option Int32 :=
  (ck [0] h l0).bind fun _ =>
  f_X0_hasDebtsOf_b2 1048576 h l0 l1 (0 : Int32)
set_option maxRecDepth 20000 in
theorem ev_X0_hasDebtsOf {G : xa_G} {h : xa_H} {l0 : Nat} {l1 : Nat} {r : Int32} (hf : f_X0_hasDebtsOf h l0 l1 = some r) : xa_Ev G M_X0_hasDebtsOf 0 [.ref l0, .ref l1] h (some (.int r)) h := by
  refine xa_entry (by decide +kernel) (loc := [some (.ref l0), some (.ref l1), none]) rfl (Nat.le_of_ble_eq_true rfl) ?_
  unfold f_X0_hasDebtsOf at hf
  obtain ⟨u0, eu0, hf⟩ := ob hf
  refine v_iconst dX0_hasDebtsOf_0 (by decide) (v := 0) ?_
  refine v_istore_n (i := 2) rfl dX0_hasDebtsOf_1 (Nat.le_of_ble_eq_true rfl) (loc' := [some (.ref l0), some (.ref l1), some (.int (0 : Int32))]) rfl ?_
  exact e_X0_hasDebtsOf_b2 1048576 h l0 l1 (0 : Int32) r hf
theorem ckf_X0_hasDebtsOf {h : xa_H} {l0 : Nat} {l1 : Nat} {r : Int32} (hf : f_X0_hasDebtsOf h l0 l1 = some r) : ck [0] h l0 = some () := by
  obtain ⟨u, e, -⟩ := ob hf
  exact e
def M_X0_hasWorthsOf : xa_M := (yX0_hasWorthsOf, cX0_hasWorthsOf, 3, some .boolean)
theorem cb_X0_hasWorthsOf : xa_CB M_X0_hasWorthsOf 1 := ⟨gws_at 1017 (by decide +kernel) rfl, gws_at 112 (by decide +kernel) rfl, by decide +kernel, Nat.le_of_ble_eq_true rfl⟩
def f_X0_hasWorthsOf_b2 : Nat → xa_H → Nat → Nat → Int32 → Option Int32
  | 0, _, _, _, _ => none
  | n + 1, h, l0, l1, l2 =>
    (gI [0] 4 h l0).bind fun x1 =>
    if x1 ≤ l2 then
      some (1 : Int32)
    else
      (gR [0] 1 h l0).bind fun x3 =>
      (aI h x3 l2).bind fun x4 =>
      (gR [0] 1 h l1).bind fun x5 =>
      (aI h x5 l2).bind fun x6 =>
      if x4 = x6 then
        f_X0_hasWorthsOf_b2 n h l0 l1 (l2 + (1 : Int32))
      else
        some (0 : Int32)
set_option maxRecDepth 20000 in
theorem e_X0_hasWorthsOf_b2 {G : xa_G} : ∀ (n : Nat) (h : xa_H) (l0 : Nat) (l1 : Nat) (l2 : Int32) (r : Int32), f_X0_hasWorthsOf_b2 n h l0 l1 l2 = some r → xa_V G M_X0_hasWorthsOf 0 2 [some (.ref l0), some (.ref l1), some (.int l2)] [] h (some (.int r)) h := by
  intro n
  induction n with
  | zero =>
    intro h l0 l1 l2 r hf
    cases (show (none : Option Int32) = some r from hf)
  | succ n ih =>
    intro h l0 l1 l2 r hf
    rw [f_X0_hasWorthsOf_b2] at hf
    refine v_iload_n dX0_hasWorthsOf_2 rfl ?_
    refine v_aload_n dX0_hasWorthsOf_3 rfl ?_
    obtain ⟨x1, ex1, hf⟩ := ob hf
    refine v_getI dX0_hasWorthsOf_4 fl_0_24 ex1 ?_
    refine v_icmp_ge dX0_hasWorthsOf_7 (tgt := 33) (by decide) (fun c2 => ?_) (fun c2 => ?_)
    · replace hf := (if_pos c2).symm.trans hf
      refine v_iconst dX0_hasWorthsOf_33 (by decide) (v := 1) ?_
      replace hf := Option.some.inj hf
      subst hf
      exact v_zret dX0_hasWorthsOf_34 rfl (by decide)
    · replace hf := (if_neg c2).symm.trans hf
      refine v_aload_n dX0_hasWorthsOf_10 rfl ?_
      obtain ⟨x3, ex3, hf⟩ := ob hf
      refine v_getR dX0_hasWorthsOf_11 fl_0_15 ex3 ?_
      refine v_iload_n dX0_hasWorthsOf_14 rfl ?_
      obtain ⟨x4, ex4, hf⟩ := ob hf
      refine v_ialoadI dX0_hasWorthsOf_15 ex4 ?_
      refine v_aload_n dX0_hasWorthsOf_16 rfl ?_
      obtain ⟨x5, ex5, hf⟩ := ob hf
      refine v_getR dX0_hasWorthsOf_17 fl_0_15 ex5 ?_
      refine v_iload_n dX0_hasWorthsOf_20 rfl ?_
      obtain ⟨x6, ex6, hf⟩ := ob hf
      refine v_ialoadI dX0_hasWorthsOf_21 ex6 ?_
      refine v_icmp_eq dX0_hasWorthsOf_22 (tgt := 27) (by decide) (fun c7 => ?_) (fun c7 => ?_)
      · replace hf := (if_pos c7).symm.trans hf
        refine v_iinc dX0_hasWorthsOf_27 rfl (v := (l2 + (1 : Int32))) rfl (Nat.le_of_ble_eq_true rfl) (loc' := [some (.ref l0), some (.ref l1), some (.int (l2 + (1 : Int32)))]) rfl ?_
        refine v_goto dX0_hasWorthsOf_30 (tgt := 2) (by decide) ?_
        exact ih h l0 l1 (l2 + (1 : Int32)) r hf
      · replace hf := (if_neg c7).symm.trans hf
        refine v_iconst dX0_hasWorthsOf_25 (by decide) (v := 0) ?_
        replace hf := Option.some.inj hf
        subst hf
        exact v_zret dX0_hasWorthsOf_26 rfl (by decide)
def f_X0_hasWorthsOf (h : xa_H) (l0 : Nat) (l1 : Nat) : Option Int32 :=
  (ck [0] h l0).bind fun _ =>
  f_X0_hasWorthsOf_b2 1048576 h l0 l1 (0 : Int32)
set_option maxRecDepth 20000 in
theorem ev_X0_hasWorthsOf {G : xa_G} {h : xa_H} {l0 : Nat} {l1 : Nat} {r : Int32} (hf : f_X0_hasWorthsOf h l0 l1 = some r) : xa_Ev G M_X0_hasWorthsOf 0 [.ref l0, .ref l1] h (some (.int r)) h := by
  refine xa_entry (by decide +kernel) (loc := [some (.ref l0), some (.ref l1), none]) rfl (Nat.le_of_ble_eq_true rfl) ?_
  unfold f_X0_hasWorthsOf at hf
  obtain ⟨u0, eu0, hf⟩ := ob hf
  refine v_iconst dX0_hasWorthsOf_0 (by decide) (v := 0) ?_
  refine v_istore_n (i := 2) rfl dX0_hasWorthsOf_1 (Nat.le_of_ble_eq_true rfl) (loc' := [some (.ref l0), some (.ref l1), some (.int (0 : Int32))]) rfl ?_
  exact e_X0_hasWorthsOf_b2 1048576 h l0 l1 (0 : Int32) r hf
theorem ckf_X0_hasWorthsOf {h : xa_H} {l0 : Nat} {l1 : Nat} {r : Int32} (hf : f_X0_hasWorthsOf h l0 l1 = some r) : ck [0] h l0 = some () := by
  obtain ⟨u, e, -⟩ := ob hf
  exact e
def M_X0_incoming : xa_M := (yX0_incoming, cX0_incoming, 4, some .int)
theorem cb_X0_incoming : xa_CB M_X0_incoming 1 := ⟨gws_at 844 (by decide +kernel) rfl, gws_at 112 (by decide +kernel) rfl, by decide +kernel, Nat.le_of_ble_eq_true rfl⟩
def f_X0_incoming_b4 : Nat → xa_H → Nat → Int32 → Int32 → Int32 → Option Int32
  | 0, _, _, _, _, _ => none
  | n + 1, h, l0, l1, l2, l3 =>
    (gI [0] 4 h l0).bind fun x1 =>
    if x1 ≤ l3 then
      some l2
    else
      (f_X0_debt h l0 l3 l1).bind fun q3 =>
      f_X0_incoming_b4 n h l0 l1 (l2 + (imax (0 : Int32) q3)) (l3 + (1 : Int32))
set_option maxRecDepth 20000 in
theorem e_X0_incoming_b4 {G : xa_G} : ∀ (n : Nat) (h : xa_H) (l0 : Nat) (l1 : Int32) (l2 : Int32) (l3 : Int32) (r : Int32), f_X0_incoming_b4 n h l0 l1 l2 l3 = some r → xa_V G M_X0_incoming 1 4 [some (.ref l0), some (.int l1), some (.int l2), some (.int l3)] [] h (some (.int r)) h := by
  intro n
  induction n with
  | zero =>
    intro h l0 l1 l2 l3 r hf
    cases (show (none : Option Int32) = some r from hf)
  | succ n ih =>
    intro h l0 l1 l2 l3 r hf
    rw [f_X0_incoming_b4] at hf
    refine v_iload_n dX0_incoming_4 rfl ?_
    refine v_aload_n dX0_incoming_5 rfl ?_
    obtain ⟨x1, ex1, hf⟩ := ob hf
    refine v_getI dX0_incoming_6 fl_0_24 ex1 ?_
    refine v_icmp_ge dX0_incoming_9 (tgt := 31) (by decide) (fun c2 => ?_) (fun c2 => ?_)
    · replace hf := (if_pos c2).symm.trans hf
      refine v_iload_n dX0_incoming_31 rfl ?_
      replace hf := Option.some.inj hf
      subst hf
      exact v_iret dX0_incoming_32 rfl
    · replace hf := (if_neg c2).symm.trans hf
      refine v_iload_n dX0_incoming_12 rfl ?_
      refine v_iconst dX0_incoming_13 (by decide) (v := 0) ?_
      refine v_aload_n dX0_incoming_14 rfl ?_
      refine v_iload_n dX0_incoming_15 rfl ?_
      refine v_iload_n dX0_incoming_16 rfl ?_
      obtain ⟨q3, eq3, hf⟩ := ob hf
      refine v_callV dX0_incoming_17 ⟨cb_X0_debt, ml_0_46, im_X0_debt⟩ se_0_X0_debt (ckf_X0_debt eq3) (ev_X0_debt eq3) (by decide) (As := [.int l3, .int l1]) rfl (st := [.int (0 : Int32), .int l2]) rfl (Nat.le_of_ble_eq_true rfl) rfl ?_
      refine w_mmax dX0_incoming_20 mw_0_50 (by decide) (Nat.le_of_ble_eq_true rfl) ?_
      refine v_iadd dX0_incoming_23 ?_
      refine v_istore_n (i := 2) rfl dX0_incoming_24 (Nat.le_of_ble_eq_true rfl) (loc' := [some (.ref l0), some (.int l1), some (.int (l2 + (imax (0 : Int32) q3))), some (.int l3)]) rfl ?_
      refine v_iinc dX0_incoming_25 rfl (v := (l3 + (1 : Int32))) rfl (Nat.le_of_ble_eq_true rfl) (loc' := [some (.ref l0), some (.int l1), some (.int (l2 + (imax (0 : Int32) q3))), some (.int (l3 + (1 : Int32)))]) rfl ?_
      refine v_goto dX0_incoming_28 (tgt := 4) (by decide) ?_
      exact ih h l0 l1 (l2 + (imax (0 : Int32) q3)) (l3 + (1 : Int32)) r hf
def f_X0_incoming (h : xa_H) (l0 : Nat) (l1 : Int32) : Option Int32 :=
  (ck [0] h l0).bind fun _ =>
  f_X0_incoming_b4 1048576 h l0 l1 (0 : Int32) (0 : Int32)
set_option maxRecDepth 20000 in
theorem ev_X0_incoming {G : xa_G} {h : xa_H} {l0 : Nat} {l1 : Int32} {r : Int32} (hf : f_X0_incoming h l0 l1 = some r) : xa_Ev G M_X0_incoming 1 [.ref l0, .int l1] h (some (.int r)) h := by
  refine xa_entry (by decide +kernel) (loc := [some (.ref l0), some (.int l1), none, none]) rfl (Nat.le_of_ble_eq_true rfl) ?_
  unfold f_X0_incoming at hf
  obtain ⟨u0, eu0, hf⟩ := ob hf
  refine v_iconst dX0_incoming_0 (by decide) (v := 0) ?_
  refine v_istore_n (i := 2) rfl dX0_incoming_1 (Nat.le_of_ble_eq_true rfl) (loc' := [some (.ref l0), some (.int l1), some (.int (0 : Int32)), none]) rfl ?_
  refine v_iconst dX0_incoming_2 (by decide) (v := 0) ?_
  refine v_istore_n (i := 3) rfl dX0_incoming_3 (Nat.le_of_ble_eq_true rfl) (loc' := [some (.ref l0), some (.int l1), some (.int (0 : Int32)), some (.int (0 : Int32))]) rfl ?_
  exact e_X0_incoming_b4 1048576 h l0 l1 (0 : Int32) (0 : Int32) r hf
theorem ckf_X0_incoming {h : xa_H} {l0 : Nat} {l1 : Int32} {r : Int32} (hf : f_X0_incoming h l0 l1 = some r) : ck [0] h l0 = some () := by
  obtain ⟨u, e, -⟩ := ob hf
  exact e
def M_X0_init : xa_M := (yX0_init, cX0_init, 1, none)
theorem cb_X0_init : xa_CB M_X0_init 0 := ⟨gws_at 153 (by decide +kernel) rfl, gws_at 112 (by decide +kernel) rfl, by decide +kernel, Nat.le_of_ble_eq_true rfl⟩
def f_X0_init (h : xa_H) (l0 : Nat) : Option xa_H :=
  (ck [0] h l0).bind fun _ =>
  (nAI h (36 : Int32)).bind fun h1 =>
  (xp [0] 0 h1 l0 (.ref h.2.1)).bind fun h2 =>
  (nAI h2 (6 : Int32)).bind fun h3 =>
  (xp [0] 1 h3 l0 (.ref h2.2.1)).bind fun h4 =>
  (nAI h4 (6 : Int32)).bind fun h5 =>
  (xp [0] 2 h5 l0 (.ref h4.2.1)).bind fun h6 =>
  (nAI h6 (6 : Int32)).bind fun h7 =>
  (xp [0] 3 h7 l0 (.ref h6.2.1)).bind fun h8 =>
  (xp [0] 4 h8 l0 (.int (0 : Int32))).bind fun h9 =>
  (xp [0] 5 h9 l0 (.int (0 : Int32))).bind fun h10 =>
  (xp [0] 6 h10 l0 (.int (0 : Int32))).bind fun h11 =>
  (xp [0] 7 h11 l0 (.int (0 : Int32))).bind fun h12 =>
  (xp [0] 8 h12 l0 (.int (0 : Int32))).bind fun h13 =>
  some h13
set_option maxRecDepth 20000 in
theorem ev_X0_init {G : xa_G} {h : xa_H} {l0 : Nat} {r : xa_H} (hf : f_X0_init h l0 = some r) : xa_Ev G M_X0_init 1 [.ref l0] h none r := by
  refine xa_entry (by decide +kernel) (loc := [some (.ref l0)]) rfl (Nat.le_of_ble_eq_true rfl) ?_
  unfold f_X0_init at hf
  obtain ⟨u0, eu0, hf⟩ := ob hf
  refine v_aload_n dX0_init_0 rfl ?_
  refine v_objInit dX0_init_1 oi_0_3 (by decide) (Nat.le_of_ble_eq_true rfl) ?_
  refine v_aload_n dX0_init_4 rfl ?_
  refine v_bipush dX0_init_5 (by decide) (v := 36) ?_
  obtain ⟨h1, eh1, hf⟩ := ob hf
  refine w_newaI dX0_init_7 ac_int eh1 ?_
  obtain ⟨h2, eh2, hf⟩ := ob hf
  refine v_put dX0_init_9 fp_0_9 (fun _ => rfl) (fun _ => rfl) (fun _ => rfl) eh2 ?_
  refine v_aload_n dX0_init_12 rfl ?_
  refine v_bipush dX0_init_13 (by decide) (v := 6) ?_
  obtain ⟨h3, eh3, hf⟩ := ob hf
  refine w_newaI dX0_init_15 ac_int eh3 ?_
  obtain ⟨h4, eh4, hf⟩ := ob hf
  refine v_put dX0_init_17 fp_0_15 (fun _ => rfl) (fun _ => rfl) (fun _ => rfl) eh4 ?_
  refine v_aload_n dX0_init_20 rfl ?_
  refine v_bipush dX0_init_21 (by decide) (v := 6) ?_
  obtain ⟨h5, eh5, hf⟩ := ob hf
  refine w_newaI dX0_init_23 ac_int eh5 ?_
  obtain ⟨h6, eh6, hf⟩ := ob hf
  refine v_put dX0_init_25 fp_0_18 (fun _ => rfl) (fun _ => rfl) (fun _ => rfl) eh6 ?_
  refine v_aload_n dX0_init_28 rfl ?_
  refine v_bipush dX0_init_29 (by decide) (v := 6) ?_
  obtain ⟨h7, eh7, hf⟩ := ob hf
  refine w_newaI dX0_init_31 ac_int eh7 ?_
  obtain ⟨h8, eh8, hf⟩ := ob hf
  refine v_put dX0_init_33 fp_0_21 (fun _ => rfl) (fun _ => rfl) (fun _ => rfl) eh8 ?_
  refine v_aload_n dX0_init_36 rfl ?_
  refine v_iconst dX0_init_37 (by decide) (v := 0) ?_
  obtain ⟨h9, eh9, hf⟩ := ob hf
  refine v_put dX0_init_38 fp_0_24 (fun z => by cases z) (fun _ => rfl) (fun _ => rfl) eh9 ?_
  refine v_aload_n dX0_init_41 rfl ?_
  refine v_iconst dX0_init_42 (by decide) (v := 0) ?_
  obtain ⟨h10, eh10, hf⟩ := ob hf
  refine v_put dX0_init_43 fp_0_28 (fun z => by cases z) (fun _ => rfl) (fun _ => rfl) eh10 ?_
  refine v_aload_n dX0_init_46 rfl ?_
  refine v_iconst dX0_init_47 (by decide) (v := 0) ?_
  obtain ⟨h11, eh11, hf⟩ := ob hf
  refine v_put dX0_init_48 fp_0_31 (fun z => by cases z) (fun _ => rfl) (fun _ => rfl) eh11 ?_
  refine v_aload_n dX0_init_51 rfl ?_
  refine v_iconst dX0_init_52 (by decide) (v := 0) ?_
  obtain ⟨h12, eh12, hf⟩ := ob hf
  refine v_put dX0_init_53 fp_0_34 (fun z => by cases z) (fun _ => rfl) (fun _ => rfl) eh12 ?_
  refine v_aload_n dX0_init_56 rfl ?_
  refine v_iconst dX0_init_57 (by decide) (v := 0) ?_
  obtain ⟨h13, eh13, hf⟩ := ob hf
  refine v_put dX0_init_58 fp_0_37 (fun z => by cases z) (fun _ => rfl) (fun _ => rfl) eh13 ?_
  replace hf := Option.some.inj hf
  subst hf
  exact v_vret dX0_init_61 rfl
theorem ckf_X0_init {h : xa_H} {l0 : Nat} {r : xa_H} (hf : f_X0_init h l0 = some r) : ck [0] h l0 = some () := by
  obtain ⟨u, e, -⟩ := ob hf
  exact e
def M_X0_owedBy : xa_M := (yX0_owedBy, cX0_owedBy, 4, some .int)
theorem cb_X0_owedBy : xa_CB M_X0_owedBy 1 := ⟨gws_at 922 (by decide +kernel) rfl, gws_at 112 (by decide +kernel) rfl, by decide +kernel, Nat.le_of_ble_eq_true rfl⟩
def f_X0_owedBy_b27 (k4 : xa_H → Nat → Int32 → Int32 → Int32 → Option Int32) (h : xa_H) (l0 : Nat) (l1 : Int32) (l2 : Int32) (l3 : Int32) : Option Int32 :=
  k4 h l0 l1 l2 (l3 + (1 : Int32))
set_option maxRecDepth 20000 in
theorem e_X0_owedBy_b27 {G : xa_G} {k4 : xa_H → Nat → Int32 → Int32 → Int32 → Option Int32} (hk4 : ∀ (h : xa_H) (l0 : Nat) (l1 : Int32) (l2 : Int32) (l3 : Int32) (r : Int32), k4 h l0 l1 l2 l3 = some r → xa_V G M_X0_owedBy 1 4 [some (.ref l0), some (.int l1), some (.int l2), some (.int l3)] [] h (some (.int r)) h) : ∀ (h : xa_H) (l0 : Nat) (l1 : Int32) (l2 : Int32) (l3 : Int32) (r : Int32), f_X0_owedBy_b27 k4 h l0 l1 l2 l3 = some r → xa_V G M_X0_owedBy 1 27 [some (.ref l0), some (.int l1), some (.int l2), some (.int l3)] [] h (some (.int r)) h := by
  intro h l0 l1 l2 l3 r hf
  unfold f_X0_owedBy_b27 at hf
  refine v_iinc dX0_owedBy_27 rfl (v := (l3 + (1 : Int32))) rfl (Nat.le_of_ble_eq_true rfl) (loc' := [some (.ref l0), some (.int l1), some (.int l2), some (.int (l3 + (1 : Int32)))]) rfl ?_
  refine v_goto dX0_owedBy_30 (tgt := 4) (by decide) ?_
  exact hk4 h l0 l1 l2 (l3 + (1 : Int32)) r hf
def f_X0_owedBy_b4 : Nat → xa_H → Nat → Int32 → Int32 → Int32 → Option Int32
  | 0, _, _, _, _, _ => none
  | n + 1, h, l0, l1, l2, l3 =>
    (gI [0] 4 h l0).bind fun x1 =>
    if x1 ≤ l3 then
      some l2
    else
      (f_X0_debt h l0 l1 l3).bind fun q3 =>
      if q3 ≤ 0 then
        f_X0_owedBy_b27 (fun h l0 l1 l2 l3 => f_X0_owedBy_b4 n h l0 l1 l2 l3) h l0 l1 l2 l3
      else
        f_X0_owedBy_b27 (fun h l0 l1 l2 l3 => f_X0_owedBy_b4 n h l0 l1 l2 l3) h l0 l1 (l2 ||| (shl (1 : Int32) l3)) l3
set_option maxRecDepth 20000 in
theorem e_X0_owedBy_b4 {G : xa_G} : ∀ (n : Nat) (h : xa_H) (l0 : Nat) (l1 : Int32) (l2 : Int32) (l3 : Int32) (r : Int32), f_X0_owedBy_b4 n h l0 l1 l2 l3 = some r → xa_V G M_X0_owedBy 1 4 [some (.ref l0), some (.int l1), some (.int l2), some (.int l3)] [] h (some (.int r)) h := by
  intro n
  induction n with
  | zero =>
    intro h l0 l1 l2 l3 r hf
    cases (show (none : Option Int32) = some r from hf)
  | succ n ih =>
    intro h l0 l1 l2 l3 r hf
    rw [f_X0_owedBy_b4] at hf
    refine v_iload_n dX0_owedBy_4 rfl ?_
    refine v_aload_n dX0_owedBy_5 rfl ?_
    obtain ⟨x1, ex1, hf⟩ := ob hf
    refine v_getI dX0_owedBy_6 fl_0_24 ex1 ?_
    refine v_icmp_ge dX0_owedBy_9 (tgt := 33) (by decide) (fun c2 => ?_) (fun c2 => ?_)
    · replace hf := (if_pos c2).symm.trans hf
      refine v_iload_n dX0_owedBy_33 rfl ?_
      replace hf := Option.some.inj hf
      subst hf
      exact v_iret dX0_owedBy_34 rfl
    · replace hf := (if_neg c2).symm.trans hf
      refine v_aload_n dX0_owedBy_12 rfl ?_
      refine v_iload_n dX0_owedBy_13 rfl ?_
      refine v_iload_n dX0_owedBy_14 rfl ?_
      obtain ⟨q3, eq3, hf⟩ := ob hf
      refine v_callV dX0_owedBy_15 ⟨cb_X0_debt, ml_0_46, im_X0_debt⟩ se_0_X0_debt (ckf_X0_debt eq3) (ev_X0_debt eq3) (by decide) (As := [.int l1, .int l3]) rfl (st := []) rfl (Nat.le_of_ble_eq_true rfl) rfl ?_
      refine v_if_le dX0_owedBy_18 (tgt := 27) (by decide) (fun c4 => ?_) (fun c4 => ?_)
      · replace hf := (if_pos c4).symm.trans hf
        exact e_X0_owedBy_b27 ih h l0 l1 l2 l3 r hf
      · replace hf := (if_neg c4).symm.trans hf
        refine v_iload_n dX0_owedBy_21 rfl ?_
        refine v_iconst dX0_owedBy_22 (by decide) (v := 1) ?_
        refine v_iload_n dX0_owedBy_23 rfl ?_
        refine w_ishl dX0_owedBy_24 ?_
        refine v_ior dX0_owedBy_25 ?_
        refine v_istore_n (i := 2) rfl dX0_owedBy_26 (Nat.le_of_ble_eq_true rfl) (loc' := [some (.ref l0), some (.int l1), some (.int (l2 ||| (shl (1 : Int32) l3))), some (.int l3)]) rfl ?_
        exact e_X0_owedBy_b27 ih h l0 l1 (l2 ||| (shl (1 : Int32) l3)) l3 r hf
def f_X0_owedBy (h : xa_H) (l0 : Nat) (l1 : Int32) : Option Int32 :=
  (ck [0] h l0).bind fun _ =>
  f_X0_owedBy_b4 1048576 h l0 l1 (0 : Int32) (0 : Int32)
set_option maxRecDepth 20000 in
theorem ev_X0_owedBy {G : xa_G} {h : xa_H} {l0 : Nat} {l1 : Int32} {r : Int32} (hf : f_X0_owedBy h l0 l1 = some r) : xa_Ev G M_X0_owedBy 1 [.ref l0, .int l1] h (some (.int r)) h := by
  refine xa_entry (by decide +kernel) (loc := [some (.ref l0), some (.int l1), none, none]) rfl (Nat.le_of_ble_eq_true rfl) ?_
  unfold f_X0_owedBy at hf
  obtain ⟨u0, eu0, hf⟩ := ob hf
  refine v_iconst dX0_owedBy_0 (by decide) (v := 0) ?_
  refine v_istore_n (i := 2) rfl dX0_owedBy_1 (Nat.le_of_ble_eq_true rfl) (loc' := [some (.ref l0), some (.int l1), some (.int (0 : Int32)), none]) rfl ?_
  refine v_iconst dX0_owedBy_2 (by decide) (v := 0) ?_
  refine v_istore_n (i := 3) rfl dX0_owedBy_3 (Nat.le_of_ble_eq_true rfl) (loc' := [some (.ref l0), some (.int l1), some (.int (0 : Int32)), some (.int (0 : Int32))]) rfl ?_
  exact e_X0_owedBy_b4 1048576 h l0 l1 (0 : Int32) (0 : Int32) r hf
theorem ckf_X0_owedBy {h : xa_H} {l0 : Nat} {l1 : Int32} {r : Int32} (hf : f_X0_owedBy h l0 l1 = some r) : ck [0] h l0 = some () := by
  obtain ⟨u, e, -⟩ := ob hf
  exact e
def M_X0_levels : xa_M := (yX0_levels, cX0_levels, 5, some .int)
theorem cb_X0_levels : xa_CB M_X0_levels 0 := ⟨gws_at 918 (by decide +kernel) rfl, gws_at 112 (by decide +kernel) rfl, by decide +kernel, Nat.le_of_ble_eq_true rfl⟩
def f_X0_levels_b67 (k11 : xa_H → Nat → Int32 → Int32 → Option Int32) (k30 : xa_H → Nat → Int32 → Int32 → Int32 → Int32 → Option Int32) (h : xa_H) (l0 : Nat) (l1 : Int32) (l2 : Int32) (l3 : Int32) (l4 : Int32) : Option Int32 :=
  k30 h l0 l1 l2 l3 (l4 + (1 : Int32))
set_option maxRecDepth 20000 in
theorem e_X0_levels_b67 {G : xa_G} {k11 : xa_H → Nat → Int32 → Int32 → Option Int32} (hk11 : ∀ (h : xa_H) (l0 : Nat) (l1 : Int32) (l2 : Int32) (r : Int32), k11 h l0 l1 l2 = some r → xa_V G M_X0_levels 2 11 [some (.ref l0), some (.int l1), some (.int l2), none, none] [] h (some (.int r)) h) {k30 : xa_H → Nat → Int32 → Int32 → Int32 → Int32 → Option Int32} (hk30 : ∀ (h : xa_H) (l0 : Nat) (l1 : Int32) (l2 : Int32) (l3 : Int32) (l4 : Int32) (r : Int32), k30 h l0 l1 l2 l3 l4 = some r → xa_V G M_X0_levels 2 30 [some (.ref l0), some (.int l1), some (.int l2), some (.int l3), some (.int l4)] [] h (some (.int r)) h) : ∀ (h : xa_H) (l0 : Nat) (l1 : Int32) (l2 : Int32) (l3 : Int32) (l4 : Int32) (r : Int32), f_X0_levels_b67 k11 k30 h l0 l1 l2 l3 l4 = some r → xa_V G M_X0_levels 2 67 [some (.ref l0), some (.int l1), some (.int l2), some (.int l3), some (.int l4)] [] h (some (.int r)) h := by
  intro h l0 l1 l2 l3 l4 r hf
  unfold f_X0_levels_b67 at hf
  refine v_iinc dX0_levels_67 rfl (v := (l4 + (1 : Int32))) rfl (Nat.le_of_ble_eq_true rfl) (loc' := [some (.ref l0), some (.int l1), some (.int l2), some (.int l3), some (.int (l4 + (1 : Int32)))]) rfl ?_
  refine v_goto dX0_levels_70 (tgt := 30) (by decide) ?_
  exact hk30 h l0 l1 l2 l3 (l4 + (1 : Int32)) r hf
def f_X0_levels_b30 (k11 : xa_H → Nat → Int32 → Int32 → Option Int32) : Nat → xa_H → Nat → Int32 → Int32 → Int32 → Int32 → Option Int32
  | 0, _, _, _, _, _, _ => none
  | n + 1, h, l0, l1, l2, l3, l4 =>
    (gI [0] 4 h l0).bind fun x1 =>
    if x1 ≤ l4 then
      k11 h l0 (l1 &&& (l3 ^^^ (-1 : Int32))) (l2 + (1 : Int32))
    else
      if ((shr l1 l4) &&& (1 : Int32)) = (1 : Int32) then
        (f_X0_owedBy h l0 l4).bind fun q4 =>
        if (q4 &&& l1) = 0 then
          f_X0_levels_b67 k11 (fun h l0 l1 l2 l3 l4 => f_X0_levels_b30 k11 n h l0 l1 l2 l3 l4) h l0 l1 l2 (l3 ||| (shl (1 : Int32) l4)) l4
        else
          f_X0_levels_b67 k11 (fun h l0 l1 l2 l3 l4 => f_X0_levels_b30 k11 n h l0 l1 l2 l3 l4) h l0 l1 l2 l3 l4
      else
        f_X0_levels_b67 k11 (fun h l0 l1 l2 l3 l4 => f_X0_levels_b30 k11 n h l0 l1 l2 l3 l4) h l0 l1 l2 l3 l4
set_option maxRecDepth 20000 in
theorem e_X0_levels_b30 {G : xa_G} {k11 : xa_H → Nat → Int32 → Int32 → Option Int32} (hk11 : ∀ (h : xa_H) (l0 : Nat) (l1 : Int32) (l2 : Int32) (r : Int32), k11 h l0 l1 l2 = some r → xa_V G M_X0_levels 2 11 [some (.ref l0), some (.int l1), some (.int l2), none, none] [] h (some (.int r)) h) : ∀ (n : Nat) (h : xa_H) (l0 : Nat) (l1 : Int32) (l2 : Int32) (l3 : Int32) (l4 : Int32) (r : Int32), f_X0_levels_b30 k11 n h l0 l1 l2 l3 l4 = some r → xa_V G M_X0_levels 2 30 [some (.ref l0), some (.int l1), some (.int l2), some (.int l3), some (.int l4)] [] h (some (.int r)) h := by
  intro n
  induction n with
  | zero =>
    intro h l0 l1 l2 l3 l4 r hf
    cases (show (none : Option Int32) = some r from hf)
  | succ n ih =>
    intro h l0 l1 l2 l3 l4 r hf
    rw [f_X0_levels_b30] at hf
    refine v_iload dX0_levels_30 rfl ?_
    refine v_aload_n dX0_levels_32 rfl ?_
    obtain ⟨x1, ex1, hf⟩ := ob hf
    refine v_getI dX0_levels_33 fl_0_24 ex1 ?_
    refine v_icmp_ge dX0_levels_36 (tgt := 73) (by decide) (fun c2 => ?_) (fun c2 => ?_)
    · replace hf := (if_pos c2).symm.trans hf
      refine v_iload_n dX0_levels_73 rfl ?_
      refine v_iload_n dX0_levels_74 rfl ?_
      refine v_iconst dX0_levels_75 (by decide) (v := -1) ?_
      refine v_ixor dX0_levels_76 ?_
      refine v_iand dX0_levels_77 ?_
      refine v_istore_n (i := 1) rfl dX0_levels_78 (Nat.le_of_ble_eq_true rfl) (loc' := [some (.ref l0), some (.int (l1 &&& (l3 ^^^ (-1 : Int32)))), some (.int l2), some (.int l3), some (.int l4)]) rfl ?_
      refine v_iinc dX0_levels_79 rfl (v := (l2 + (1 : Int32))) rfl (Nat.le_of_ble_eq_true rfl) (loc' := [some (.ref l0), some (.int (l1 &&& (l3 ^^^ (-1 : Int32)))), some (.int (l2 + (1 : Int32))), some (.int l3), some (.int l4)]) rfl ?_
      refine v_goto dX0_levels_82 (tgt := 11) (by decide) ?_
      exact xa_weak (loc := [some (.ref l0), some (.int (l1 &&& (l3 ^^^ (-1 : Int32)))), some (.int (l2 + (1 : Int32))), none, none]) ⟨rfl, ⟨rfl, ⟨rfl, trivial⟩⟩⟩ (hk11 h l0 (l1 &&& (l3 ^^^ (-1 : Int32))) (l2 + (1 : Int32)) r hf)
    · replace hf := (if_neg c2).symm.trans hf
      refine v_iload_n dX0_levels_39 rfl ?_
      refine v_iload dX0_levels_40 rfl ?_
      refine w_ishr dX0_levels_42 ?_
      refine v_iconst dX0_levels_43 (by decide) (v := 1) ?_
      refine v_iand dX0_levels_44 ?_
      refine v_iconst dX0_levels_45 (by decide) (v := 1) ?_
      refine v_icmp_ne dX0_levels_46 (tgt := 67) (by decide) (fun c3 => ?_) (fun c3 => ?_)
      · replace hf := (if_neg c3).symm.trans hf
        exact e_X0_levels_b67 hk11 ih h l0 l1 l2 l3 l4 r hf
      · replace hf := (if_pos c3).symm.trans hf
        refine v_aload_n dX0_levels_49 rfl ?_
        refine v_iload dX0_levels_50 rfl ?_
        obtain ⟨q4, eq4, hf⟩ := ob hf
        refine v_callV dX0_levels_52 ⟨cb_X0_owedBy, ml_0_96, im_X0_owedBy⟩ se_0_X0_owedBy (ckf_X0_owedBy eq4) (ev_X0_owedBy eq4) (by decide) (As := [.int l4]) rfl (st := []) rfl (Nat.le_of_ble_eq_true rfl) rfl ?_
        refine v_iload_n dX0_levels_55 rfl ?_
        refine v_iand dX0_levels_56 ?_
        refine v_if_ne dX0_levels_57 (tgt := 67) (by decide) (fun c5 => ?_) (fun c5 => ?_)
        · replace hf := (if_neg c5).symm.trans hf
          exact e_X0_levels_b67 hk11 ih h l0 l1 l2 l3 l4 r hf
        · replace hf := (if_pos c5).symm.trans hf
          refine v_iload_n dX0_levels_60 rfl ?_
          refine v_iconst dX0_levels_61 (by decide) (v := 1) ?_
          refine v_iload dX0_levels_62 rfl ?_
          refine w_ishl dX0_levels_64 ?_
          refine v_ior dX0_levels_65 ?_
          refine v_istore_n (i := 3) rfl dX0_levels_66 (Nat.le_of_ble_eq_true rfl) (loc' := [some (.ref l0), some (.int l1), some (.int l2), some (.int (l3 ||| (shl (1 : Int32) l4))), some (.int l4)]) rfl ?_
          exact e_X0_levels_b67 hk11 ih h l0 l1 l2 (l3 ||| (shl (1 : Int32) l4)) l4 r hf
def f_X0_levels_b11 : Nat → xa_H → Nat → Int32 → Int32 → Option Int32
  | 0, _, _, _, _ => none
  | n + 1, h, l0, l1, l2 =>
    (gI [0] 4 h l0).bind fun x1 =>
    if x1 < l2 then
      some (-1 : Int32)
    else
      if l1 = 0 then
        some l2
      else
        f_X0_levels_b30 (fun h l0 l1 l2 => f_X0_levels_b11 n h l0 l1 l2) 1048576 h l0 l1 l2 (0 : Int32) (0 : Int32)
set_option maxRecDepth 20000 in
theorem e_X0_levels_b11 {G : xa_G} : ∀ (n : Nat) (h : xa_H) (l0 : Nat) (l1 : Int32) (l2 : Int32) (r : Int32), f_X0_levels_b11 n h l0 l1 l2 = some r → xa_V G M_X0_levels 2 11 [some (.ref l0), some (.int l1), some (.int l2), none, none] [] h (some (.int r)) h := by
  intro n
  induction n with
  | zero =>
    intro h l0 l1 l2 r hf
    cases (show (none : Option Int32) = some r from hf)
  | succ n ih =>
    intro h l0 l1 l2 r hf
    rw [f_X0_levels_b11] at hf
    refine v_iload_n dX0_levels_11 rfl ?_
    refine v_aload_n dX0_levels_12 rfl ?_
    obtain ⟨x1, ex1, hf⟩ := ob hf
    refine v_getI dX0_levels_13 fl_0_24 ex1 ?_
    refine v_icmp_gt dX0_levels_16 (tgt := 85) (by decide) (fun c2 => ?_) (fun c2 => ?_)
    · replace hf := (if_pos c2).symm.trans hf
      refine v_iconst dX0_levels_85 (by decide) (v := -1) ?_
      replace hf := Option.some.inj hf
      subst hf
      exact v_iret dX0_levels_86 rfl
    · replace hf := (if_neg c2).symm.trans hf
      refine v_iload_n dX0_levels_19 rfl ?_
      refine v_if_ne dX0_levels_20 (tgt := 25) (by decide) (fun c3 => ?_) (fun c3 => ?_)
      · replace hf := (if_neg c3).symm.trans hf
        refine v_iconst dX0_levels_25 (by decide) (v := 0) ?_
        refine v_istore_n (i := 3) rfl dX0_levels_26 (Nat.le_of_ble_eq_true rfl) (loc' := [some (.ref l0), some (.int l1), some (.int l2), some (.int (0 : Int32)), none]) rfl ?_
        refine v_iconst dX0_levels_27 (by decide) (v := 0) ?_
        refine v_istore dX0_levels_28 (Nat.le_of_ble_eq_true rfl) (loc' := [some (.ref l0), some (.int l1), some (.int l2), some (.int (0 : Int32)), some (.int (0 : Int32))]) rfl ?_
        exact e_X0_levels_b30 ih 1048576 h l0 l1 l2 (0 : Int32) (0 : Int32) r hf
      · replace hf := (if_pos c3).symm.trans hf
        refine v_iload_n dX0_levels_23 rfl ?_
        replace hf := Option.some.inj hf
        subst hf
        exact v_iret dX0_levels_24 rfl
def f_X0_levels (h : xa_H) (l0 : Nat) : Option Int32 :=
  (ck [0] h l0).bind fun _ =>
  (gI [0] 4 h l0).bind fun x1 =>
  f_X0_levels_b11 1048576 h l0 ((shl (1 : Int32) x1) - (1 : Int32)) (0 : Int32)
set_option maxRecDepth 20000 in
theorem ev_X0_levels {G : xa_G} {h : xa_H} {l0 : Nat} {r : Int32} (hf : f_X0_levels h l0 = some r) : xa_Ev G M_X0_levels 2 [.ref l0] h (some (.int r)) h := by
  refine xa_entry (by decide +kernel) (loc := [some (.ref l0), none, none, none, none]) rfl (Nat.le_of_ble_eq_true rfl) ?_
  unfold f_X0_levels at hf
  obtain ⟨u0, eu0, hf⟩ := ob hf
  refine v_iconst dX0_levels_0 (by decide) (v := 1) ?_
  refine v_aload_n dX0_levels_1 rfl ?_
  obtain ⟨x1, ex1, hf⟩ := ob hf
  refine v_getI dX0_levels_2 fl_0_24 ex1 ?_
  refine w_ishl dX0_levels_5 ?_
  refine v_iconst dX0_levels_6 (by decide) (v := 1) ?_
  refine v_isub dX0_levels_7 ?_
  refine v_istore_n (i := 1) rfl dX0_levels_8 (Nat.le_of_ble_eq_true rfl) (loc' := [some (.ref l0), some (.int ((shl (1 : Int32) x1) - (1 : Int32))), none, none, none]) rfl ?_
  refine v_iconst dX0_levels_9 (by decide) (v := 0) ?_
  refine v_istore_n (i := 2) rfl dX0_levels_10 (Nat.le_of_ble_eq_true rfl) (loc' := [some (.ref l0), some (.int ((shl (1 : Int32) x1) - (1 : Int32))), some (.int (0 : Int32)), none, none]) rfl ?_
  exact e_X0_levels_b11 1048576 h l0 ((shl (1 : Int32) x1) - (1 : Int32)) (0 : Int32) r hf
theorem ckf_X0_levels {h : xa_H} {l0 : Nat} {r : Int32} (hf : f_X0_levels h l0 = some r) : ck [0] h l0 = some () := by
  obtain ⟨u, e, -⟩ := ob hf
  exact e
def M_X0_mostBetweenTwo : xa_M := (yX0_mostBetweenTwo, cX0_mostBetweenTwo, 3, some .int)
theorem cb_X0_mostBetweenTwo : xa_CB M_X0_mostBetweenTwo 0 := ⟨gws_at 683 (by decide +kernel) rfl, gws_at 112 (by decide +kernel) rfl, by decide +kernel, Nat.le_of_ble_eq_true rfl⟩
def f_X0_mostBetweenTwo_b4 : Nat → xa_H → Nat → Int32 → Int32 → Option Int32
  | 0, _, _, _, _ => none
  | n + 1, h, l0, l1, l2 =>
    (gR [0] 0 h l0).bind fun x1 =>
    (aN h x1).bind fun x2 =>
    if x2 ≤ l2 then
      some l1
    else
      (gR [0] 0 h l0).bind fun x4 =>
      (aI h x4 l2).bind fun x5 =>
      f_X0_mostBetweenTwo_b4 n h l0 (imax l1 x5) (l2 + (1 : Int32))
set_option maxRecDepth 20000 in
theorem e_X0_mostBetweenTwo_b4 {G : xa_G} : ∀ (n : Nat) (h : xa_H) (l0 : Nat) (l1 : Int32) (l2 : Int32) (r : Int32), f_X0_mostBetweenTwo_b4 n h l0 l1 l2 = some r → xa_V G M_X0_mostBetweenTwo 1 4 [some (.ref l0), some (.int l1), some (.int l2)] [] h (some (.int r)) h := by
  intro n
  induction n with
  | zero =>
    intro h l0 l1 l2 r hf
    cases (show (none : Option Int32) = some r from hf)
  | succ n ih =>
    intro h l0 l1 l2 r hf
    rw [f_X0_mostBetweenTwo_b4] at hf
    refine v_iload_n dX0_mostBetweenTwo_4 rfl ?_
    refine v_aload_n dX0_mostBetweenTwo_5 rfl ?_
    obtain ⟨x1, ex1, hf⟩ := ob hf
    refine v_getR dX0_mostBetweenTwo_6 fl_0_9 ex1 ?_
    obtain ⟨x2, ex2, hf⟩ := ob hf
    refine v_alen dX0_mostBetweenTwo_9 ex2 ?_
    refine v_icmp_ge dX0_mostBetweenTwo_10 (tgt := 30) (by decide) (fun c3 => ?_) (fun c3 => ?_)
    · replace hf := (if_pos c3).symm.trans hf
      refine v_iload_n dX0_mostBetweenTwo_30 rfl ?_
      replace hf := Option.some.inj hf
      subst hf
      exact v_iret dX0_mostBetweenTwo_31 rfl
    · replace hf := (if_neg c3).symm.trans hf
      refine v_iload_n dX0_mostBetweenTwo_13 rfl ?_
      refine v_aload_n dX0_mostBetweenTwo_14 rfl ?_
      obtain ⟨x4, ex4, hf⟩ := ob hf
      refine v_getR dX0_mostBetweenTwo_15 fl_0_9 ex4 ?_
      refine v_iload_n dX0_mostBetweenTwo_18 rfl ?_
      obtain ⟨x5, ex5, hf⟩ := ob hf
      refine v_ialoadI dX0_mostBetweenTwo_19 ex5 ?_
      refine w_mmax dX0_mostBetweenTwo_20 mw_0_50 (by decide) (Nat.le_of_ble_eq_true rfl) ?_
      refine v_istore_n (i := 1) rfl dX0_mostBetweenTwo_23 (Nat.le_of_ble_eq_true rfl) (loc' := [some (.ref l0), some (.int (imax l1 x5)), some (.int l2)]) rfl ?_
      refine v_iinc dX0_mostBetweenTwo_24 rfl (v := (l2 + (1 : Int32))) rfl (Nat.le_of_ble_eq_true rfl) (loc' := [some (.ref l0), some (.int (imax l1 x5)), some (.int (l2 + (1 : Int32)))]) rfl ?_
      refine v_goto dX0_mostBetweenTwo_27 (tgt := 4) (by decide) ?_
      exact ih h l0 (imax l1 x5) (l2 + (1 : Int32)) r hf
def f_X0_mostBetweenTwo (h : xa_H) (l0 : Nat) : Option Int32 :=
  (ck [0] h l0).bind fun _ =>
  f_X0_mostBetweenTwo_b4 1048576 h l0 (0 : Int32) (0 : Int32)
set_option maxRecDepth 20000 in
theorem ev_X0_mostBetweenTwo {G : xa_G} {h : xa_H} {l0 : Nat} {r : Int32} (hf : f_X0_mostBetweenTwo h l0 = some r) : xa_Ev G M_X0_mostBetweenTwo 1 [.ref l0] h (some (.int r)) h := by
  refine xa_entry (by decide +kernel) (loc := [some (.ref l0), none, none]) rfl (Nat.le_of_ble_eq_true rfl) ?_
  unfold f_X0_mostBetweenTwo at hf
  obtain ⟨u0, eu0, hf⟩ := ob hf
  refine v_iconst dX0_mostBetweenTwo_0 (by decide) (v := 0) ?_
  refine v_istore_n (i := 1) rfl dX0_mostBetweenTwo_1 (Nat.le_of_ble_eq_true rfl) (loc' := [some (.ref l0), some (.int (0 : Int32)), none]) rfl ?_
  refine v_iconst dX0_mostBetweenTwo_2 (by decide) (v := 0) ?_
  refine v_istore_n (i := 2) rfl dX0_mostBetweenTwo_3 (Nat.le_of_ble_eq_true rfl) (loc' := [some (.ref l0), some (.int (0 : Int32)), some (.int (0 : Int32))]) rfl ?_
  exact e_X0_mostBetweenTwo_b4 1048576 h l0 (0 : Int32) (0 : Int32) r hf
theorem ckf_X0_mostBetweenTwo {h : xa_H} {l0 : Nat} {r : Int32} (hf : f_X0_mostBetweenTwo h l0 = some r) : ck [0] h l0 = some () := by
  obtain ⟨u, e, -⟩ := ob hf
  exact e
def M_X0_outgoing : xa_M := (yX0_outgoing, cX0_outgoing, 4, some .int)
theorem cb_X0_outgoing : xa_CB M_X0_outgoing 1 := ⟨gws_at 849 (by decide +kernel) rfl, gws_at 112 (by decide +kernel) rfl, by decide +kernel, Nat.le_of_ble_eq_true rfl⟩
def f_X0_outgoing_b4 : Nat → xa_H → Nat → Int32 → Int32 → Int32 → Option Int32
  | 0, _, _, _, _, _ => none
  | n + 1, h, l0, l1, l2, l3 =>
    (gI [0] 4 h l0).bind fun x1 =>
    if x1 ≤ l3 then
      some l2
    else
      (f_X0_debt h l0 l1 l3).bind fun q3 =>
      f_X0_outgoing_b4 n h l0 l1 (l2 + (imax (0 : Int32) q3)) (l3 + (1 : Int32))
set_option maxRecDepth 20000 in
theorem e_X0_outgoing_b4 {G : xa_G} : ∀ (n : Nat) (h : xa_H) (l0 : Nat) (l1 : Int32) (l2 : Int32) (l3 : Int32) (r : Int32), f_X0_outgoing_b4 n h l0 l1 l2 l3 = some r → xa_V G M_X0_outgoing 1 4 [some (.ref l0), some (.int l1), some (.int l2), some (.int l3)] [] h (some (.int r)) h := by
  intro n
  induction n with
  | zero =>
    intro h l0 l1 l2 l3 r hf
    cases (show (none : Option Int32) = some r from hf)
  | succ n ih =>
    intro h l0 l1 l2 l3 r hf
    rw [f_X0_outgoing_b4] at hf
    refine v_iload_n dX0_outgoing_4 rfl ?_
    refine v_aload_n dX0_outgoing_5 rfl ?_
    obtain ⟨x1, ex1, hf⟩ := ob hf
    refine v_getI dX0_outgoing_6 fl_0_24 ex1 ?_
    refine v_icmp_ge dX0_outgoing_9 (tgt := 31) (by decide) (fun c2 => ?_) (fun c2 => ?_)
    · replace hf := (if_pos c2).symm.trans hf
      refine v_iload_n dX0_outgoing_31 rfl ?_
      replace hf := Option.some.inj hf
      subst hf
      exact v_iret dX0_outgoing_32 rfl
    · replace hf := (if_neg c2).symm.trans hf
      refine v_iload_n dX0_outgoing_12 rfl ?_
      refine v_iconst dX0_outgoing_13 (by decide) (v := 0) ?_
      refine v_aload_n dX0_outgoing_14 rfl ?_
      refine v_iload_n dX0_outgoing_15 rfl ?_
      refine v_iload_n dX0_outgoing_16 rfl ?_
      obtain ⟨q3, eq3, hf⟩ := ob hf
      refine v_callV dX0_outgoing_17 ⟨cb_X0_debt, ml_0_46, im_X0_debt⟩ se_0_X0_debt (ckf_X0_debt eq3) (ev_X0_debt eq3) (by decide) (As := [.int l1, .int l3]) rfl (st := [.int (0 : Int32), .int l2]) rfl (Nat.le_of_ble_eq_true rfl) rfl ?_
      refine w_mmax dX0_outgoing_20 mw_0_50 (by decide) (Nat.le_of_ble_eq_true rfl) ?_
      refine v_iadd dX0_outgoing_23 ?_
      refine v_istore_n (i := 2) rfl dX0_outgoing_24 (Nat.le_of_ble_eq_true rfl) (loc' := [some (.ref l0), some (.int l1), some (.int (l2 + (imax (0 : Int32) q3))), some (.int l3)]) rfl ?_
      refine v_iinc dX0_outgoing_25 rfl (v := (l3 + (1 : Int32))) rfl (Nat.le_of_ble_eq_true rfl) (loc' := [some (.ref l0), some (.int l1), some (.int (l2 + (imax (0 : Int32) q3))), some (.int (l3 + (1 : Int32)))]) rfl ?_
      refine v_goto dX0_outgoing_28 (tgt := 4) (by decide) ?_
      exact ih h l0 l1 (l2 + (imax (0 : Int32) q3)) (l3 + (1 : Int32)) r hf
def f_X0_outgoing (h : xa_H) (l0 : Nat) (l1 : Int32) : Option Int32 :=
  (ck [0] h l0).bind fun _ =>
  f_X0_outgoing_b4 1048576 h l0 l1 (0 : Int32) (0 : Int32)
set_option maxRecDepth 20000 in
theorem ev_X0_outgoing {G : xa_G} {h : xa_H} {l0 : Nat} {l1 : Int32} {r : Int32} (hf : f_X0_outgoing h l0 l1 = some r) : xa_Ev G M_X0_outgoing 1 [.ref l0, .int l1] h (some (.int r)) h := by
  refine xa_entry (by decide +kernel) (loc := [some (.ref l0), some (.int l1), none, none]) rfl (Nat.le_of_ble_eq_true rfl) ?_
  unfold f_X0_outgoing at hf
  obtain ⟨u0, eu0, hf⟩ := ob hf
  refine v_iconst dX0_outgoing_0 (by decide) (v := 0) ?_
  refine v_istore_n (i := 2) rfl dX0_outgoing_1 (Nat.le_of_ble_eq_true rfl) (loc' := [some (.ref l0), some (.int l1), some (.int (0 : Int32)), none]) rfl ?_
  refine v_iconst dX0_outgoing_2 (by decide) (v := 0) ?_
  refine v_istore_n (i := 3) rfl dX0_outgoing_3 (Nat.le_of_ble_eq_true rfl) (loc' := [some (.ref l0), some (.int l1), some (.int (0 : Int32)), some (.int (0 : Int32))]) rfl ?_
  exact e_X0_outgoing_b4 1048576 h l0 l1 (0 : Int32) (0 : Int32) r hf
theorem ckf_X0_outgoing {h : xa_H} {l0 : Nat} {l1 : Int32} {r : Int32} (hf : f_X0_outgoing h l0 l1 = some r) : ck [0] h l0 = some () := by
  obtain ⟨u, e, -⟩ := ob hf
  exact e
def M_X0_pairs : xa_M := (yX0_pairs, cX0_pairs, 3, some .int)
theorem cb_X0_pairs : xa_CB M_X0_pairs 0 := ⟨gws_at 1186 (by decide +kernel) rfl, gws_at 112 (by decide +kernel) rfl, by decide +kernel, Nat.le_of_ble_eq_true rfl⟩
def f_X0_pairs_b25 (k4 : xa_H → Nat → Int32 → Int32 → Option Int32) (h : xa_H) (l0 : Nat) (l1 : Int32) (l2 : Int32) : Option Int32 :=
  k4 h l0 l1 (l2 + (1 : Int32))
set_option maxRecDepth 20000 in
theorem e_X0_pairs_b25 {G : xa_G} {k4 : xa_H → Nat → Int32 → Int32 → Option Int32} (hk4 : ∀ (h : xa_H) (l0 : Nat) (l1 : Int32) (l2 : Int32) (r : Int32), k4 h l0 l1 l2 = some r → xa_V G M_X0_pairs 0 4 [some (.ref l0), some (.int l1), some (.int l2)] [] h (some (.int r)) h) : ∀ (h : xa_H) (l0 : Nat) (l1 : Int32) (l2 : Int32) (r : Int32), f_X0_pairs_b25 k4 h l0 l1 l2 = some r → xa_V G M_X0_pairs 0 25 [some (.ref l0), some (.int l1), some (.int l2)] [] h (some (.int r)) h := by
  intro h l0 l1 l2 r hf
  unfold f_X0_pairs_b25 at hf
  refine v_iinc dX0_pairs_25 rfl (v := (l2 + (1 : Int32))) rfl (Nat.le_of_ble_eq_true rfl) (loc' := [some (.ref l0), some (.int l1), some (.int (l2 + (1 : Int32)))]) rfl ?_
  refine v_goto dX0_pairs_28 (tgt := 4) (by decide) ?_
  exact hk4 h l0 l1 (l2 + (1 : Int32)) r hf
def f_X0_pairs_b4 : Nat → xa_H → Nat → Int32 → Int32 → Option Int32
  | 0, _, _, _, _ => none
  | n + 1, h, l0, l1, l2 =>
    (gR [0] 0 h l0).bind fun x1 =>
    (aN h x1).bind fun x2 =>
    if x2 ≤ l2 then
      some l1
    else
      (gR [0] 0 h l0).bind fun x4 =>
      (aI h x4 l2).bind fun x5 =>
      if x5 ≤ 0 then
        f_X0_pairs_b25 (fun h l0 l1 l2 => f_X0_pairs_b4 n h l0 l1 l2) h l0 l1 l2
      else
        f_X0_pairs_b25 (fun h l0 l1 l2 => f_X0_pairs_b4 n h l0 l1 l2) h l0 (l1 + (1 : Int32)) l2
set_option maxRecDepth 20000 in
theorem e_X0_pairs_b4 {G : xa_G} : ∀ (n : Nat) (h : xa_H) (l0 : Nat) (l1 : Int32) (l2 : Int32) (r : Int32), f_X0_pairs_b4 n h l0 l1 l2 = some r → xa_V G M_X0_pairs 0 4 [some (.ref l0), some (.int l1), some (.int l2)] [] h (some (.int r)) h := by
  intro n
  induction n with
  | zero =>
    intro h l0 l1 l2 r hf
    cases (show (none : Option Int32) = some r from hf)
  | succ n ih =>
    intro h l0 l1 l2 r hf
    rw [f_X0_pairs_b4] at hf
    refine v_iload_n dX0_pairs_4 rfl ?_
    refine v_aload_n dX0_pairs_5 rfl ?_
    obtain ⟨x1, ex1, hf⟩ := ob hf
    refine v_getR dX0_pairs_6 fl_0_9 ex1 ?_
    obtain ⟨x2, ex2, hf⟩ := ob hf
    refine v_alen dX0_pairs_9 ex2 ?_
    refine v_icmp_ge dX0_pairs_10 (tgt := 31) (by decide) (fun c3 => ?_) (fun c3 => ?_)
    · replace hf := (if_pos c3).symm.trans hf
      refine v_iload_n dX0_pairs_31 rfl ?_
      replace hf := Option.some.inj hf
      subst hf
      exact v_iret dX0_pairs_32 rfl
    · replace hf := (if_neg c3).symm.trans hf
      refine v_aload_n dX0_pairs_13 rfl ?_
      obtain ⟨x4, ex4, hf⟩ := ob hf
      refine v_getR dX0_pairs_14 fl_0_9 ex4 ?_
      refine v_iload_n dX0_pairs_17 rfl ?_
      obtain ⟨x5, ex5, hf⟩ := ob hf
      refine v_ialoadI dX0_pairs_18 ex5 ?_
      refine v_if_le dX0_pairs_19 (tgt := 25) (by decide) (fun c6 => ?_) (fun c6 => ?_)
      · replace hf := (if_pos c6).symm.trans hf
        exact e_X0_pairs_b25 ih h l0 l1 l2 r hf
      · replace hf := (if_neg c6).symm.trans hf
        refine v_iinc dX0_pairs_22 rfl (v := (l1 + (1 : Int32))) rfl (Nat.le_of_ble_eq_true rfl) (loc' := [some (.ref l0), some (.int (l1 + (1 : Int32))), some (.int l2)]) rfl ?_
        exact e_X0_pairs_b25 ih h l0 (l1 + (1 : Int32)) l2 r hf
def f_X0_pairs (h : xa_H) (l0 : Nat) : Option Int32 :=
  (ck [0] h l0).bind fun _ =>
  f_X0_pairs_b4 1048576 h l0 (0 : Int32) (0 : Int32)
set_option maxRecDepth 20000 in
theorem ev_X0_pairs {G : xa_G} {h : xa_H} {l0 : Nat} {r : Int32} (hf : f_X0_pairs h l0 = some r) : xa_Ev G M_X0_pairs 0 [.ref l0] h (some (.int r)) h := by
  refine xa_entry (by decide +kernel) (loc := [some (.ref l0), none, none]) rfl (Nat.le_of_ble_eq_true rfl) ?_
  unfold f_X0_pairs at hf
  obtain ⟨u0, eu0, hf⟩ := ob hf
  refine v_iconst dX0_pairs_0 (by decide) (v := 0) ?_
  refine v_istore_n (i := 1) rfl dX0_pairs_1 (Nat.le_of_ble_eq_true rfl) (loc' := [some (.ref l0), some (.int (0 : Int32)), none]) rfl ?_
  refine v_iconst dX0_pairs_2 (by decide) (v := 0) ?_
  refine v_istore_n (i := 2) rfl dX0_pairs_3 (Nat.le_of_ble_eq_true rfl) (loc' := [some (.ref l0), some (.int (0 : Int32)), some (.int (0 : Int32))]) rfl ?_
  exact e_X0_pairs_b4 1048576 h l0 (0 : Int32) (0 : Int32) r hf
theorem ckf_X0_pairs {h : xa_H} {l0 : Nat} {r : Int32} (hf : f_X0_pairs h l0 = some r) : ck [0] h l0 = some () := by
  obtain ⟨u, e, -⟩ := ob hf
  exact e
def M_X0_steps : xa_M := (yX0_steps, cX0_steps, 8, some .int)
theorem cb_X0_steps : xa_CB M_X0_steps 2 := ⟨gws_at 1081 (by decide +kernel) rfl, gws_at 112 (by decide +kernel) rfl, by decide +kernel, Nat.le_of_ble_eq_true rfl⟩
def f_X0_steps_b75 (k12 : xa_H → Nat → Int32 → Int32 → Int32 → Int32 → Option Int32) (k45 : xa_H → Nat → Int32 → Int32 → Int32 → Int32 → Int32 → Int32 → Option Int32) (h : xa_H) (l0 : Nat) (l2 : Int32) (l3 : Int32) (l4 : Int32) (l5 : Int32) (l6 : Int32) (l7 : Int32) : Option Int32 :=
  k45 h l0 l2 l3 l4 l5 l6 (l7 + (1 : Int32))
set_option maxRecDepth 20000 in
theorem e_X0_steps_b75 {G : xa_G} {k12 : xa_H → Nat → Int32 → Int32 → Int32 → Int32 → Option Int32} (hk12 : ∀ (h : xa_H) (l0 : Nat) (l2 : Int32) (l3 : Int32) (l4 : Int32) (l5 : Int32) (r : Int32), k12 h l0 l2 l3 l4 l5 = some r → xa_V G M_X0_steps 2 12 [some (.ref l0), none, some (.int l2), some (.int l3), some (.int l4), some (.int l5), none, none] [] h (some (.int r)) h) {k45 : xa_H → Nat → Int32 → Int32 → Int32 → Int32 → Int32 → Int32 → Option Int32} (hk45 : ∀ (h : xa_H) (l0 : Nat) (l2 : Int32) (l3 : Int32) (l4 : Int32) (l5 : Int32) (l6 : Int32) (l7 : Int32) (r : Int32), k45 h l0 l2 l3 l4 l5 l6 l7 = some r → xa_V G M_X0_steps 2 45 [some (.ref l0), none, some (.int l2), some (.int l3), some (.int l4), some (.int l5), some (.int l6), some (.int l7)] [] h (some (.int r)) h) : ∀ (h : xa_H) (l0 : Nat) (l2 : Int32) (l3 : Int32) (l4 : Int32) (l5 : Int32) (l6 : Int32) (l7 : Int32) (r : Int32), f_X0_steps_b75 k12 k45 h l0 l2 l3 l4 l5 l6 l7 = some r → xa_V G M_X0_steps 2 75 [some (.ref l0), none, some (.int l2), some (.int l3), some (.int l4), some (.int l5), some (.int l6), some (.int l7)] [] h (some (.int r)) h := by
  intro h l0 l2 l3 l4 l5 l6 l7 r hf
  unfold f_X0_steps_b75 at hf
  refine v_iinc dX0_steps_75 rfl (v := (l7 + (1 : Int32))) rfl (Nat.le_of_ble_eq_true rfl) (loc' := [some (.ref l0), none, some (.int l2), some (.int l3), some (.int l4), some (.int l5), some (.int l6), some (.int (l7 + (1 : Int32)))]) rfl ?_
  refine v_goto dX0_steps_78 (tgt := 45) (by decide) ?_
  exact hk45 h l0 l2 l3 l4 l5 l6 (l7 + (1 : Int32)) r hf
def f_X0_steps_b45 (k12 : xa_H → Nat → Int32 → Int32 → Int32 → Int32 → Option Int32) : Nat → xa_H → Nat → Int32 → Int32 → Int32 → Int32 → Int32 → Int32 → Option Int32
  | 0, _, _, _, _, _, _, _, _ => none
  | n + 1, h, l0, l2, l3, l4, l5, l6, l7 =>
    (gI [0] 4 h l0).bind fun x1 =>
    if x1 ≤ l7 then
      k12 h l0 l2 (l6 &&& (l4 ^^^ (-1 : Int32))) l4 (l5 + (1 : Int32))
    else
      if ((shr l3 l7) &&& (1 : Int32)) = (1 : Int32) then
        (f_X0_owedBy h l0 l7).bind fun q4 =>
        f_X0_steps_b75 k12 (fun h l0 l2 l3 l4 l5 l6 l7 => f_X0_steps_b45 k12 n h l0 l2 l3 l4 l5 l6 l7) h l0 l2 l3 l4 l5 (l6 ||| q4) l7
      else
        f_X0_steps_b75 k12 (fun h l0 l2 l3 l4 l5 l6 l7 => f_X0_steps_b45 k12 n h l0 l2 l3 l4 l5 l6 l7) h l0 l2 l3 l4 l5 l6 l7
set_option maxRecDepth 20000 in
theorem e_X0_steps_b45 {G : xa_G} {k12 : xa_H → Nat → Int32 → Int32 → Int32 → Int32 → Option Int32} (hk12 : ∀ (h : xa_H) (l0 : Nat) (l2 : Int32) (l3 : Int32) (l4 : Int32) (l5 : Int32) (r : Int32), k12 h l0 l2 l3 l4 l5 = some r → xa_V G M_X0_steps 2 12 [some (.ref l0), none, some (.int l2), some (.int l3), some (.int l4), some (.int l5), none, none] [] h (some (.int r)) h) : ∀ (n : Nat) (h : xa_H) (l0 : Nat) (l2 : Int32) (l3 : Int32) (l4 : Int32) (l5 : Int32) (l6 : Int32) (l7 : Int32) (r : Int32), f_X0_steps_b45 k12 n h l0 l2 l3 l4 l5 l6 l7 = some r → xa_V G M_X0_steps 2 45 [some (.ref l0), none, some (.int l2), some (.int l3), some (.int l4), some (.int l5), some (.int l6), some (.int l7)] [] h (some (.int r)) h := by
  intro n
  induction n with
  | zero =>
    intro h l0 l2 l3 l4 l5 l6 l7 r hf
    cases (show (none : Option Int32) = some r from hf)
  | succ n ih =>
    intro h l0 l2 l3 l4 l5 l6 l7 r hf
    rw [f_X0_steps_b45] at hf
    refine v_iload dX0_steps_45 rfl ?_
    refine v_aload_n dX0_steps_47 rfl ?_
    obtain ⟨x1, ex1, hf⟩ := ob hf
    refine v_getI dX0_steps_48 fl_0_24 ex1 ?_
    refine v_icmp_ge dX0_steps_51 (tgt := 81) (by decide) (fun c2 => ?_) (fun c2 => ?_)
    · replace hf := (if_pos c2).symm.trans hf
      refine v_iload dX0_steps_81 rfl ?_
      refine v_iload dX0_steps_83 rfl ?_
      refine v_iconst dX0_steps_85 (by decide) (v := -1) ?_
      refine v_ixor dX0_steps_86 ?_
      refine v_iand dX0_steps_87 ?_
      refine v_istore_n (i := 3) rfl dX0_steps_88 (Nat.le_of_ble_eq_true rfl) (loc' := [some (.ref l0), none, some (.int l2), some (.int (l6 &&& (l4 ^^^ (-1 : Int32)))), some (.int l4), some (.int l5), some (.int l6), some (.int l7)]) rfl ?_
      refine v_iinc dX0_steps_89 rfl (v := (l5 + (1 : Int32))) rfl (Nat.le_of_ble_eq_true rfl) (loc' := [some (.ref l0), none, some (.int l2), some (.int (l6 &&& (l4 ^^^ (-1 : Int32)))), some (.int l4), some (.int (l5 + (1 : Int32))), some (.int l6), some (.int l7)]) rfl ?_
      refine v_goto dX0_steps_92 (tgt := 12) (by decide) ?_
      exact xa_weak (loc := [some (.ref l0), none, some (.int l2), some (.int (l6 &&& (l4 ^^^ (-1 : Int32)))), some (.int l4), some (.int (l5 + (1 : Int32))), none, none]) ⟨rfl, ⟨rfl, ⟨rfl, ⟨rfl, ⟨rfl, trivial⟩⟩⟩⟩⟩ (hk12 h l0 l2 (l6 &&& (l4 ^^^ (-1 : Int32))) l4 (l5 + (1 : Int32)) r hf)
    · replace hf := (if_neg c2).symm.trans hf
      refine v_iload_n dX0_steps_54 rfl ?_
      refine v_iload dX0_steps_55 rfl ?_
      refine w_ishr dX0_steps_57 ?_
      refine v_iconst dX0_steps_58 (by decide) (v := 1) ?_
      refine v_iand dX0_steps_59 ?_
      refine v_iconst dX0_steps_60 (by decide) (v := 1) ?_
      refine v_icmp_ne dX0_steps_61 (tgt := 75) (by decide) (fun c3 => ?_) (fun c3 => ?_)
      · replace hf := (if_neg c3).symm.trans hf
        exact e_X0_steps_b75 hk12 ih h l0 l2 l3 l4 l5 l6 l7 r hf
      · replace hf := (if_pos c3).symm.trans hf
        refine v_iload dX0_steps_64 rfl ?_
        refine v_aload_n dX0_steps_66 rfl ?_
        refine v_iload dX0_steps_67 rfl ?_
        obtain ⟨q4, eq4, hf⟩ := ob hf
        refine v_callV dX0_steps_69 ⟨cb_X0_owedBy, ml_0_96, im_X0_owedBy⟩ se_0_X0_owedBy (ckf_X0_owedBy eq4) (ev_X0_owedBy eq4) (by decide) (As := [.int l7]) rfl (st := [.int l6]) rfl (Nat.le_of_ble_eq_true rfl) rfl ?_
        refine v_ior dX0_steps_72 ?_
        refine v_istore dX0_steps_73 (Nat.le_of_ble_eq_true rfl) (loc' := [some (.ref l0), none, some (.int l2), some (.int l3), some (.int l4), some (.int l5), some (.int (l6 ||| q4)), some (.int l7)]) rfl ?_
        exact e_X0_steps_b75 hk12 ih h l0 l2 l3 l4 l5 (l6 ||| q4) l7 r hf
def f_X0_steps_b12 : Nat → xa_H → Nat → Int32 → Int32 → Int32 → Int32 → Option Int32
  | 0, _, _, _, _, _, _ => none
  | n + 1, h, l0, l2, l3, l4, l5 =>
    (gI [0] 4 h l0).bind fun x1 =>
    if x1 < l5 then
      some (-1 : Int32)
    else
      if ((shr l3 l2) &&& (1 : Int32)) = (1 : Int32) then
        some l5
      else
        f_X0_steps_b45 (fun h l0 l2 l3 l4 l5 => f_X0_steps_b12 n h l0 l2 l3 l4 l5) 1048576 h l0 l2 l3 (l4 ||| l3) l5 (0 : Int32) (0 : Int32)
set_option maxRecDepth 20000 in
theorem e_X0_steps_b12 {G : xa_G} : ∀ (n : Nat) (h : xa_H) (l0 : Nat) (l2 : Int32) (l3 : Int32) (l4 : Int32) (l5 : Int32) (r : Int32), f_X0_steps_b12 n h l0 l2 l3 l4 l5 = some r → xa_V G M_X0_steps 2 12 [some (.ref l0), none, some (.int l2), some (.int l3), some (.int l4), some (.int l5), none, none] [] h (some (.int r)) h := by
  intro n
  induction n with
  | zero =>
    intro h l0 l2 l3 l4 l5 r hf
    cases (show (none : Option Int32) = some r from hf)
  | succ n ih =>
    intro h l0 l2 l3 l4 l5 r hf
    rw [f_X0_steps_b12] at hf
    refine v_iload dX0_steps_12 rfl ?_
    refine v_aload_n dX0_steps_14 rfl ?_
    obtain ⟨x1, ex1, hf⟩ := ob hf
    refine v_getI dX0_steps_15 fl_0_24 ex1 ?_
    refine v_icmp_gt dX0_steps_18 (tgt := 95) (by decide) (fun c2 => ?_) (fun c2 => ?_)
    · replace hf := (if_pos c2).symm.trans hf
      refine v_iconst dX0_steps_95 (by decide) (v := -1) ?_
      replace hf := Option.some.inj hf
      subst hf
      exact v_iret dX0_steps_96 rfl
    · replace hf := (if_neg c2).symm.trans hf
      refine v_iload_n dX0_steps_21 rfl ?_
      refine v_iload_n dX0_steps_22 rfl ?_
      refine w_ishr dX0_steps_23 ?_
      refine v_iconst dX0_steps_24 (by decide) (v := 1) ?_
      refine v_iand dX0_steps_25 ?_
      refine v_iconst dX0_steps_26 (by decide) (v := 1) ?_
      refine v_icmp_ne dX0_steps_27 (tgt := 33) (by decide) (fun c3 => ?_) (fun c3 => ?_)
      · replace hf := (if_neg c3).symm.trans hf
        refine v_iload dX0_steps_33 rfl ?_
        refine v_iload_n dX0_steps_35 rfl ?_
        refine v_ior dX0_steps_36 ?_
        refine v_istore dX0_steps_37 (Nat.le_of_ble_eq_true rfl) (loc' := [some (.ref l0), none, some (.int l2), some (.int l3), some (.int (l4 ||| l3)), some (.int l5), none, none]) rfl ?_
        refine v_iconst dX0_steps_39 (by decide) (v := 0) ?_
        refine v_istore dX0_steps_40 (Nat.le_of_ble_eq_true rfl) (loc' := [some (.ref l0), none, some (.int l2), some (.int l3), some (.int (l4 ||| l3)), some (.int l5), some (.int (0 : Int32)), none]) rfl ?_
        refine v_iconst dX0_steps_42 (by decide) (v := 0) ?_
        refine v_istore dX0_steps_43 (Nat.le_of_ble_eq_true rfl) (loc' := [some (.ref l0), none, some (.int l2), some (.int l3), some (.int (l4 ||| l3)), some (.int l5), some (.int (0 : Int32)), some (.int (0 : Int32))]) rfl ?_
        exact e_X0_steps_b45 ih 1048576 h l0 l2 l3 (l4 ||| l3) l5 (0 : Int32) (0 : Int32) r hf
      · replace hf := (if_pos c3).symm.trans hf
        refine v_iload dX0_steps_30 rfl ?_
        replace hf := Option.some.inj hf
        subst hf
        exact v_iret dX0_steps_32 rfl
def f_X0_steps (h : xa_H) (l0 : Nat) (l1 : Int32) (l2 : Int32) : Option Int32 :=
  (ck [0] h l0).bind fun _ =>
  (f_X0_owedBy h l0 l1).bind fun q1 =>
  f_X0_steps_b12 1048576 h l0 l2 q1 (0 : Int32) (1 : Int32)
set_option maxRecDepth 20000 in
theorem ev_X0_steps {G : xa_G} {h : xa_H} {l0 : Nat} {l1 : Int32} {l2 : Int32} {r : Int32} (hf : f_X0_steps h l0 l1 l2 = some r) : xa_Ev G M_X0_steps 2 [.ref l0, .int l1, .int l2] h (some (.int r)) h := by
  refine xa_entry (by decide +kernel) (loc := [some (.ref l0), some (.int l1), some (.int l2), none, none, none, none, none]) rfl (Nat.le_of_ble_eq_true rfl) ?_
  unfold f_X0_steps at hf
  obtain ⟨u0, eu0, hf⟩ := ob hf
  refine v_aload_n dX0_steps_0 rfl ?_
  refine v_iload_n dX0_steps_1 rfl ?_
  obtain ⟨q1, eq1, hf⟩ := ob hf
  refine v_callV dX0_steps_2 ⟨cb_X0_owedBy, ml_0_96, im_X0_owedBy⟩ se_0_X0_owedBy (ckf_X0_owedBy eq1) (ev_X0_owedBy eq1) (by decide) (As := [.int l1]) rfl (st := []) rfl (Nat.le_of_ble_eq_true rfl) rfl ?_
  refine v_istore_n (i := 3) rfl dX0_steps_5 (Nat.le_of_ble_eq_true rfl) (loc' := [some (.ref l0), some (.int l1), some (.int l2), some (.int q1), none, none, none, none]) rfl ?_
  refine v_iconst dX0_steps_6 (by decide) (v := 0) ?_
  refine v_istore dX0_steps_7 (Nat.le_of_ble_eq_true rfl) (loc' := [some (.ref l0), some (.int l1), some (.int l2), some (.int q1), some (.int (0 : Int32)), none, none, none]) rfl ?_
  refine v_iconst dX0_steps_9 (by decide) (v := 1) ?_
  refine v_istore dX0_steps_10 (Nat.le_of_ble_eq_true rfl) (loc' := [some (.ref l0), some (.int l1), some (.int l2), some (.int q1), some (.int (0 : Int32)), some (.int (1 : Int32)), none, none]) rfl ?_
  exact xa_weak (loc := [some (.ref l0), none, some (.int l2), some (.int q1), some (.int (0 : Int32)), some (.int (1 : Int32)), none, none]) ⟨rfl, ⟨rfl, ⟨rfl, ⟨rfl, ⟨rfl, trivial⟩⟩⟩⟩⟩ (e_X0_steps_b12 1048576 h l0 l2 q1 (0 : Int32) (1 : Int32) r hf)
theorem ckf_X0_steps {h : xa_H} {l0 : Nat} {l1 : Int32} {l2 : Int32} {r : Int32} (hf : f_X0_steps h l0 l1 l2 = some r) : ck [0] h l0 = some () := by
  obtain ⟨u, e, -⟩ := ob hf
  exact e
