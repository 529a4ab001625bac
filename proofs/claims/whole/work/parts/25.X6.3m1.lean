def M_X6_agree : xa_M := (yX6_agree, cX6_agree, 6, some .boolean)
theorem cb_X6_agree : xa_CB M_X6_agree 3 := ⟨gws_at 1105 (by decide +kernel) rfl, gws_at 119 (by decide +kernel) rfl, by decide +kernel, Nat.le_of_ble_eq_true rfl⟩
def f_X6_agree_b76 (k3 : xa_H → Nat → Int32 → Int32 → Nat → Int32 → Option Int32) (h : xa_H) (l0 : Nat) (l1 : Int32) (l2 : Int32) (l3 : Nat) (l4 : Int32) : Option Int32 :=
  k3 h l0 l1 l2 l3 (l4 + (1 : Int32))
set_option maxRecDepth 20000 in
theorem e_X6_agree_b76 {G : xa_G} {k3 : xa_H → Nat → Int32 → Int32 → Nat → Int32 → Option Int32} (hk3 : ∀ (h : xa_H) (l0 : Nat) (l1 : Int32) (l2 : Int32) (l3 : Nat) (l4 : Int32) (r : Int32), k3 h l0 l1 l2 l3 l4 = some r → xa_V G M_X6_agree 1 3 [some (.ref l0), some (.int l1), some (.int l2), some (.ref l3), some (.int l4), none] [] h (some (.int r)) h) : ∀ (h : xa_H) (l0 : Nat) (l1 : Int32) (l2 : Int32) (l3 : Nat) (l4 : Int32) (r : Int32), f_X6_agree_b76 k3 h l0 l1 l2 l3 l4 = some r → xa_V G M_X6_agree 1 76 [some (.ref l0), some (.int l1), some (.int l2), some (.ref l3), some (.int l4), none] [] h (some (.int r)) h := by
  intro h l0 l1 l2 l3 l4 r hf
  unfold f_X6_agree_b76 at hf
  refine v_iinc dX6_agree_76 rfl (v := (l4 + (1 : Int32))) rfl (Nat.le_of_ble_eq_true rfl) (loc' := [some (.ref l0), some (.int l1), some (.int l2), some (.ref l3), some (.int (l4 + (1 : Int32))), none]) rfl ?_
  refine v_goto dX6_agree_79 (tgt := 3) (by decide) ?_
  exact hk3 h l0 l1 l2 l3 (l4 + (1 : Int32)) r hf
def f_X6_agree_b60 (k3 : xa_H → Nat → Int32 → Int32 → Nat → Int32 → Option Int32) (h : xa_H) (l0 : Nat) (l1 : Int32) (l2 : Int32) (l3 : Nat) (l4 : Int32) (s0 : Int32) : Option Int32 :=
  (gR [6] 4 h l0).bind fun x1 =>
  (aZ h x1 l4).bind fun x2 =>
  if s0 = x2 then
    f_X6_agree_b76 k3 h l0 l1 l2 l3 l4
  else
    some (0 : Int32)
set_option maxRecDepth 20000 in
theorem e_X6_agree_b60 {G : xa_G} {k3 : xa_H → Nat → Int32 → Int32 → Nat → Int32 → Option Int32} (hk3 : ∀ (h : xa_H) (l0 : Nat) (l1 : Int32) (l2 : Int32) (l3 : Nat) (l4 : Int32) (r : Int32), k3 h l0 l1 l2 l3 l4 = some r → xa_V G M_X6_agree 1 3 [some (.ref l0), some (.int l1), some (.int l2), some (.ref l3), some (.int l4), none] [] h (some (.int r)) h) : ∀ (h : xa_H) (l0 : Nat) (l1 : Int32) (l2 : Int32) (l3 : Nat) (l4 : Int32) (s0 : Int32) (r : Int32), f_X6_agree_b60 k3 h l0 l1 l2 l3 l4 s0 = some r → xa_V G M_X6_agree 1 60 [some (.ref l0), some (.int l1), some (.int l2), some (.ref l3), some (.int l4), none] [.int s0] h (some (.int r)) h := by
  intro h l0 l1 l2 l3 l4 s0 r hf
  unfold f_X6_agree_b60 at hf
  refine v_istore dX6_agree_60 (Nat.le_of_ble_eq_true rfl) (loc' := [some (.ref l0), some (.int l1), some (.int l2), some (.ref l3), some (.int l4), some (.int s0)]) rfl ?_
  refine v_iload dX6_agree_62 rfl ?_
  refine v_aload_n dX6_agree_64 rfl ?_
  obtain ⟨x1, ex1, hf⟩ := ob hf
  refine v_getR dX6_agree_65 fl_6_24 ex1 ?_
  refine v_iload dX6_agree_68 rfl ?_
  obtain ⟨x2, ex2, hf⟩ := ob hf
  refine v_baloadZ dX6_agree_70 ex2 ?_
  refine v_icmp_eq dX6_agree_71 (tgt := 76) (by decide) (fun c3 => ?_) (fun c3 => ?_)
  · replace hf := (if_pos c3).symm.trans hf
    exact xa_weak (loc := [some (.ref l0), some (.int l1), some (.int l2), some (.ref l3), some (.int l4), none]) ⟨rfl, ⟨rfl, ⟨rfl, ⟨rfl, ⟨rfl, trivial⟩⟩⟩⟩⟩ (e_X6_agree_b76 hk3 h l0 l1 l2 l3 l4 r hf)
  · replace hf := (if_neg c3).symm.trans hf
    refine v_iconst dX6_agree_74 (by decide) (v := 0) ?_
    replace hf := Option.some.inj hf
    subst hf
    exact v_zret dX6_agree_75 rfl (by decide)
def f_X6_agree_b59 (k3 : xa_H → Nat → Int32 → Int32 → Nat → Int32 → Option Int32) (h : xa_H) (l0 : Nat) (l1 : Int32) (l2 : Int32) (l3 : Nat) (l4 : Int32) : Option Int32 :=
  f_X6_agree_b60 k3 h l0 l1 l2 l3 l4 (0 : Int32)
set_option maxRecDepth 20000 in
theorem e_X6_agree_b59 {G : xa_G} {k3 : xa_H → Nat → Int32 → Int32 → Nat → Int32 → Option Int32} (hk3 : ∀ (h : xa_H) (l0 : Nat) (l1 : Int32) (l2 : Int32) (l3 : Nat) (l4 : Int32) (r : Int32), k3 h l0 l1 l2 l3 l4 = some r → xa_V G M_X6_agree 1 3 [some (.ref l0), some (.int l1), some (.int l2), some (.ref l3), some (.int l4), none] [] h (some (.int r)) h) : ∀ (h : xa_H) (l0 : Nat) (l1 : Int32) (l2 : Int32) (l3 : Nat) (l4 : Int32) (r : Int32), f_X6_agree_b59 k3 h l0 l1 l2 l3 l4 = some r → xa_V G M_X6_agree 1 59 [some (.ref l0), some (.int l1), some (.int l2), some (.ref l3), some (.int l4), none] [] h (some (.int r)) h := by
  intro h l0 l1 l2 l3 l4 r hf
  unfold f_X6_agree_b59 at hf
  refine v_iconst dX6_agree_59 (by decide) (v := 0) ?_
  exact e_X6_agree_b60 hk3 h l0 l1 l2 l3 l4 (0 : Int32) r hf
def f_X6_agree_b3 : Nat → xa_H → Nat → Int32 → Int32 → Nat → Int32 → Option Int32
  | 0, _, _, _, _, _, _ => none
  | n + 1, h, l0, l1, l2, l3, l4 =>
    (gI [6] 6 h l0).bind fun x1 =>
    if x1 ≤ l4 then
      some (1 : Int32)
    else
      (gR [6] 2 h l0).bind fun x3 =>
      (aI h x3 l4).bind fun x4 =>
      if x4 = l1 then
        if l2 = 0 then
          f_X6_agree_b59 (fun h l0 l1 l2 l3 l4 => f_X6_agree_b3 n h l0 l1 l2 l3 l4) h l0 l1 l2 l3 l4
        else
          (gR [6] 0 h l0).bind fun x7 =>
          (aI h x7 l4).bind fun x8 =>
          (gR [6] 1 h l0).bind fun x9 =>
          (aI h x9 l4).bind fun x10 =>
          (f_X0_debt h l3 x8 x10).bind fun q11 =>
          (gR [6] 3 h l0).bind fun x12 =>
          (aI h x12 l4).bind fun x13 =>
          if q11 = x13 then
            f_X6_agree_b60 (fun h l0 l1 l2 l3 l4 => f_X6_agree_b3 n h l0 l1 l2 l3 l4) h l0 l1 l2 l3 l4 (1 : Int32)
          else
            f_X6_agree_b59 (fun h l0 l1 l2 l3 l4 => f_X6_agree_b3 n h l0 l1 l2 l3 l4) h l0 l1 l2 l3 l4
      else
        f_X6_agree_b76 (fun h l0 l1 l2 l3 l4 => f_X6_agree_b3 n h l0 l1 l2 l3 l4) h l0 l1 l2 l3 l4
set_option maxRecDepth 20000 in
theorem e_X6_agree_b3 {G : xa_G} : ∀ (n : Nat) (h : xa_H) (l0 : Nat) (l1 : Int32) (l2 : Int32) (l3 : Nat) (l4 : Int32) (r : Int32), f_X6_agree_b3 n h l0 l1 l2 l3 l4 = some r → xa_V G M_X6_agree 1 3 [some (.ref l0), some (.int l1), some (.int l2), some (.ref l3), some (.int l4), none] [] h (some (.int r)) h := by
  intro n
  induction n with
  | zero =>
    intro h l0 l1 l2 l3 l4 r hf
    cases (show (none : Option Int32) = some r from hf)
  | succ n ih =>
    intro h l0 l1 l2 l3 l4 r hf
    rw [f_X6_agree_b3] at hf
    refine v_iload dX6_agree_3 rfl ?_
    refine v_aload_n dX6_agree_5 rfl ?_
    obtain ⟨x1, ex1, hf⟩ := ob hf
    refine v_getI dX6_agree_6 fl_6_33 ex1 ?_
    refine v_icmp_ge dX6_agree_9 (tgt := 82) (by decide) (fun c2 => ?_) (fun c2 => ?_)
    · replace hf := (if_pos c2).symm.trans hf
      refine v_iconst dX6_agree_82 (by decide) (v := 1) ?_
      replace hf := Option.some.inj hf
      subst hf
      exact v_zret dX6_agree_83 rfl (by decide)
    · replace hf := (if_neg c2).symm.trans hf
      refine v_aload_n dX6_agree_12 rfl ?_
      obtain ⟨x3, ex3, hf⟩ := ob hf
      refine v_getR dX6_agree_13 fl_6_18 ex3 ?_
      refine v_iload dX6_agree_16 rfl ?_
      obtain ⟨x4, ex4, hf⟩ := ob hf
      refine v_ialoadI dX6_agree_18 ex4 ?_
      refine v_iload_n dX6_agree_19 rfl ?_
      refine v_icmp_ne dX6_agree_20 (tgt := 76) (by decide) (fun c5 => ?_) (fun c5 => ?_)
      · replace hf := (if_neg c5).symm.trans hf
        exact e_X6_agree_b76 ih h l0 l1 l2 l3 l4 r hf
      · replace hf := (if_pos c5).symm.trans hf
        refine v_iload_n dX6_agree_23 rfl ?_
        refine v_if_eq dX6_agree_24 (tgt := 59) (by decide) (fun c6 => ?_) (fun c6 => ?_)
        · replace hf := (if_pos c6).symm.trans hf
          exact e_X6_agree_b59 ih h l0 l1 l2 l3 l4 r hf
        · replace hf := (if_neg c6).symm.trans hf
          refine v_aload_n dX6_agree_27 rfl ?_
          refine v_aload_n dX6_agree_28 rfl ?_
          obtain ⟨x7, ex7, hf⟩ := ob hf
          refine v_getR dX6_agree_29 fl_6_9 ex7 ?_
          refine v_iload dX6_agree_32 rfl ?_
          obtain ⟨x8, ex8, hf⟩ := ob hf
          refine v_ialoadI dX6_agree_34 ex8 ?_
          refine v_aload_n dX6_agree_35 rfl ?_
          obtain ⟨x9, ex9, hf⟩ := ob hf
          refine v_getR dX6_agree_36 fl_6_15 ex9 ?_
          refine v_iload dX6_agree_39 rfl ?_
          obtain ⟨x10, ex10, hf⟩ := ob hf
          refine v_ialoadI dX6_agree_41 ex10 ?_
          obtain ⟨q11, eq11, hf⟩ := ob hf
          refine v_callV dX6_agree_42 ⟨cb_X0_debt, ml_6_37, im_X0_debt⟩ se_0_X0_debt (ckf_X0_debt eq11) (ev_X0_debt eq11) (by decide) (As := [.int x8, .int x10]) rfl (st := []) rfl (Nat.le_of_ble_eq_true rfl) rfl ?_
          refine v_aload_n dX6_agree_45 rfl ?_
          obtain ⟨x12, ex12, hf⟩ := ob hf
          refine v_getR dX6_agree_46 fl_6_21 ex12 ?_
          refine v_iload dX6_agree_49 rfl ?_
          obtain ⟨x13, ex13, hf⟩ := ob hf
          refine v_ialoadI dX6_agree_51 ex13 ?_
          refine v_icmp_ne dX6_agree_52 (tgt := 59) (by decide) (fun c14 => ?_) (fun c14 => ?_)
          · replace hf := (if_neg c14).symm.trans hf
            exact e_X6_agree_b59 ih h l0 l1 l2 l3 l4 r hf
          · replace hf := (if_pos c14).symm.trans hf
            refine v_iconst dX6_agree_55 (by decide) (v := 1) ?_
            refine v_goto dX6_agree_56 (tgt := 60) (by decide) ?_
            exact e_X6_agree_b60 ih h l0 l1 l2 l3 l4 (1 : Int32) r hf
def f_X6_agree (h : xa_H) (l0 : Nat) (l1 : Int32) (l2 : Int32) (l3 : Nat) : Option Int32 :=
  (ck [6] h l0).bind fun _ =>
  f_X6_agree_b3 1048576 h l0 l1 l2 l3 (0 : Int32)
set_option maxRecDepth 20000 in
theorem ev_X6_agree {G : xa_G} {h : xa_H} {l0 : Nat} {l1 : Int32} {l2 : Int32} {l3 : Nat} {r : Int32} (hf : f_X6_agree h l0 l1 l2 l3 = some r) : xa_Ev G M_X6_agree 1 [.ref l0, .int l1, .int l2, .ref l3] h (some (.int r)) h := by
  refine xa_entry (by decide +kernel) (loc := [some (.ref l0), some (.int l1), some (.int l2), some (.ref l3), none, none]) rfl (Nat.le_of_ble_eq_true rfl) ?_
  unfold f_X6_agree at hf
  obtain ⟨u0, eu0, hf⟩ := ob hf
  refine v_iconst dX6_agree_0 (by decide) (v := 0) ?_
  refine v_istore dX6_agree_1 (Nat.le_of_ble_eq_true rfl) (loc' := [some (.ref l0), some (.int l1), some (.int l2), some (.ref l3), some (.int (0 : Int32)), none]) rfl ?_
  exact e_X6_agree_b3 1048576 h l0 l1 l2 l3 (0 : Int32) r hf
theorem ckf_X6_agree {h : xa_H} {l0 : Nat} {l1 : Int32} {l2 : Int32} {l3 : Nat} {r : Int32} (hf : f_X6_agree h l0 l1 l2 l3 = some r) : ck [6] h l0 = some () := by
  obtain ⟨u, e, -⟩ := ob hf
  exact e
def M_X6_mostAlike : xa_M := (yX6_mostAlike, cX6_mostAlike, 7, some .int)
theorem cb_X6_mostAlike : xa_CB M_X6_mostAlike 2 := ⟨gws_at 1119 (by decide +kernel) rfl, gws_at 119 (by decide +kernel) rfl, by decide +kernel, Nat.le_of_ble_eq_true rfl⟩
def f_X6_mostAlike_b80 (k5 : xa_H → Nat → Int32 → Int32 → Int32 → Int32 → Option Int32) (h : xa_H) (l0 : Nat) (l1 : Int32) (l2 : Int32) (l3 : Int32) (l4 : Int32) : Option Int32 :=
  k5 h l0 l1 l2 l3 (l4 + (1 : Int32))
set_option maxRecDepth 20000 in
theorem e_X6_mostAlike_b80 {G : xa_G} {k5 : xa_H → Nat → Int32 → Int32 → Int32 → Int32 → Option Int32} (hk5 : ∀ (h : xa_H) (l0 : Nat) (l1 : Int32) (l2 : Int32) (l3 : Int32) (l4 : Int32) (r : Int32), k5 h l0 l1 l2 l3 l4 = some r → xa_V G M_X6_mostAlike 1 5 [some (.ref l0), some (.int l1), some (.int l2), some (.int l3), some (.int l4), none, none] [] h (some (.int r)) h) : ∀ (h : xa_H) (l0 : Nat) (l1 : Int32) (l2 : Int32) (l3 : Int32) (l4 : Int32) (r : Int32), f_X6_mostAlike_b80 k5 h l0 l1 l2 l3 l4 = some r → xa_V G M_X6_mostAlike 1 80 [some (.ref l0), some (.int l1), some (.int l2), some (.int l3), some (.int l4), none, none] [] h (some (.int r)) h := by
  intro h l0 l1 l2 l3 l4 r hf
  unfold f_X6_mostAlike_b80 at hf
  refine v_iinc dX6_mostAlike_80 rfl (v := (l4 + (1 : Int32))) rfl (Nat.le_of_ble_eq_true rfl) (loc' := [some (.ref l0), some (.int l1), some (.int l2), some (.int l3), some (.int (l4 + (1 : Int32))), none, none]) rfl ?_
  refine v_goto dX6_mostAlike_83 (tgt := 5) (by decide) ?_
  exact hk5 h l0 l1 l2 l3 (l4 + (1 : Int32)) r hf
def f_X6_mostAlike_b57 (k5 : xa_H → Nat → Int32 → Int32 → Int32 → Int32 → Option Int32) (k17 : xa_H → Nat → Int32 → Int32 → Int32 → Int32 → Int32 → Int32 → Option Int32) (h : xa_H) (l0 : Nat) (l1 : Int32) (l2 : Int32) (l3 : Int32) (l4 : Int32) (l5 : Int32) (l6 : Int32) : Option Int32 :=
  k17 h l0 l1 l2 l3 l4 l5 (l6 + (1 : Int32))
set_option maxRecDepth 20000 in
theorem e_X6_mostAlike_b57 {G : xa_G} {k5 : xa_H → Nat → Int32 → Int32 → Int32 → Int32 → Option Int32} (hk5 : ∀ (h : xa_H) (l0 : Nat) (l1 : Int32) (l2 : Int32) (l3 : Int32) (l4 : Int32) (r : Int32), k5 h l0 l1 l2 l3 l4 = some r → xa_V G M_X6_mostAlike 1 5 [some (.ref l0), some (.int l1), some (.int l2), some (.int l3), some (.int l4), none, none] [] h (some (.int r)) h) {k17 : xa_H → Nat → Int32 → Int32 → Int32 → Int32 → Int32 → Int32 → Option Int32} (hk17 : ∀ (h : xa_H) (l0 : Nat) (l1 : Int32) (l2 : Int32) (l3 : Int32) (l4 : Int32) (l5 : Int32) (l6 : Int32) (r : Int32), k17 h l0 l1 l2 l3 l4 l5 l6 = some r → xa_V G M_X6_mostAlike 1 17 [some (.ref l0), some (.int l1), some (.int l2), some (.int l3), some (.int l4), some (.int l5), some (.int l6)] [] h (some (.int r)) h) : ∀ (h : xa_H) (l0 : Nat) (l1 : Int32) (l2 : Int32) (l3 : Int32) (l4 : Int32) (l5 : Int32) (l6 : Int32) (r : Int32), f_X6_mostAlike_b57 k5 k17 h l0 l1 l2 l3 l4 l5 l6 = some r → xa_V G M_X6_mostAlike 1 57 [some (.ref l0), some (.int l1), some (.int l2), some (.int l3), some (.int l4), some (.int l5), some (.int l6)] [] h (some (.int r)) h := by
  intro h l0 l1 l2 l3 l4 l5 l6 r hf
  unfold f_X6_mostAlike_b57 at hf
  refine v_iinc dX6_mostAlike_57 rfl (v := (l6 + (1 : Int32))) rfl (Nat.le_of_ble_eq_true rfl) (loc' := [some (.ref l0), some (.int l1), some (.int l2), some (.int l3), some (.int l4), some (.int l5), some (.int (l6 + (1 : Int32)))]) rfl ?_
  refine v_goto dX6_mostAlike_60 (tgt := 17) (by decide) ?_
  exact hk17 h l0 l1 l2 l3 l4 l5 (l6 + (1 : Int32)) r hf
def f_X6_mostAlike_b17 (k5 : xa_H → Nat → Int32 → Int32 → Int32 → Int32 → Option Int32) : Nat → xa_H → Nat → Int32 → Int32 → Int32 → Int32 → Int32 → Int32 → Option Int32
  | 0, _, _, _, _, _, _, _, _ => none
  | n + 1, h, l0, l1, l2, l3, l4, l5, l6 =>
    if (4 : Int32) ≤ l6 then
      if ((shr l1 l4) &&& (1 : Int32)) = (1 : Int32) then
        f_X6_mostAlike_b80 k5 h l0 l1 l2 (imax l3 l5) l4
      else
        f_X6_mostAlike_b80 k5 h l0 l1 l2 l3 l4
    else
      if ((shr l1 l6) &&& (1 : Int32)) = (1 : Int32) then
        (gR [6] 5 h l0).bind fun x4 =>
        (aR 5 h x4 l6).bind fun x5 =>
        (aI h x5 l2).bind fun x6 =>
        (gR [6] 5 h l0).bind fun x7 =>
        (aR 5 h x7 l4).bind fun x8 =>
        (aI h x8 l2).bind fun x9 =>
        if x6 = x9 then
          f_X6_mostAlike_b57 k5 (fun h l0 l1 l2 l3 l4 l5 l6 => f_X6_mostAlike_b17 k5 n h l0 l1 l2 l3 l4 l5 l6) h l0 l1 l2 l3 l4 (l5 + (1 : Int32)) l6
        else
          f_X6_mostAlike_b57 k5 (fun h l0 l1 l2 l3 l4 l5 l6 => f_X6_mostAlike_b17 k5 n h l0 l1 l2 l3 l4 l5 l6) h l0 l1 l2 l3 l4 l5 l6
      else
        f_X6_mostAlike_b57 k5 (fun h l0 l1 l2 l3 l4 l5 l6 => f_X6_mostAlike_b17 k5 n h l0 l1 l2 l3 l4 l5 l6) h l0 l1 l2 l3 l4 l5 l6
set_option maxRecDepth 20000 in
theorem e_X6_mostAlike_b17 {G : xa_G} {k5 : xa_H → Nat → Int32 → Int32 → Int32 → Int32 → Option Int32} (hk5 : ∀ (h : xa_H) (l0 : Nat) (l1 : Int32) (l2 : Int32) (l3 : Int32) (l4 : Int32) (r : Int32), k5 h l0 l1 l2 l3 l4 = some r → xa_V G M_X6_mostAlike 1 5 [some (.ref l0), some (.int l1), some (.int l2), some (.int l3), some (.int l4), none, none] [] h (some (.int r)) h) : ∀ (n : Nat) (h : xa_H) (l0 : Nat) (l1 : Int32) (l2 : Int32) (l3 : Int32) (l4 : Int32) (l5 : Int32) (l6 : Int32) (r : Int32), f_X6_mostAlike_b17 k5 n h l0 l1 l2 l3 l4 l5 l6 = some r → xa_V G M_X6_mostAlike 1 17 [some (.ref l0), some (.int l1), some (.int l2), some (.int l3), some (.int l4), some (.int l5), some (.int l6)] [] h (some (.int r)) h := by
  intro n
  induction n with
  | zero =>
    intro h l0 l1 l2 l3 l4 l5 l6 r hf
    cases (show (none : Option Int32) = some r from hf)
  | succ n ih =>
    intro h l0 l1 l2 l3 l4 l5 l6 r hf
    rw [f_X6_mostAlike_b17] at hf
    refine v_iload dX6_mostAlike_17 rfl ?_
    refine v_iconst dX6_mostAlike_19 (by decide) (v := 4) ?_
    refine v_icmp_ge dX6_mostAlike_20 (tgt := 63) (by decide) (fun c1 => ?_) (fun c1 => ?_)
    · replace hf := (if_pos c1).symm.trans hf
      refine v_iload_n dX6_mostAlike_63 rfl ?_
      refine v_iload dX6_mostAlike_64 rfl ?_
      refine w_ishr dX6_mostAlike_66 ?_
      refine v_iconst dX6_mostAlike_67 (by decide) (v := 1) ?_
      refine v_iand dX6_mostAlike_68 ?_
      refine v_iconst dX6_mostAlike_69 (by decide) (v := 1) ?_
      refine v_icmp_ne dX6_mostAlike_70 (tgt := 80) (by decide) (fun c2 => ?_) (fun c2 => ?_)
      · replace hf := (if_neg c2).symm.trans hf
        exact xa_weak (loc := [some (.ref l0), some (.int l1), some (.int l2), some (.int l3), some (.int l4), none, none]) ⟨rfl, ⟨rfl, ⟨rfl, ⟨rfl, ⟨rfl, trivial⟩⟩⟩⟩⟩ (e_X6_mostAlike_b80 hk5 h l0 l1 l2 l3 l4 r hf)
      · replace hf := (if_pos c2).symm.trans hf
        refine v_iload_n dX6_mostAlike_73 rfl ?_
        refine v_iload dX6_mostAlike_74 rfl ?_
        refine w_mmax dX6_mostAlike_76 mw_6_43 (by decide) (Nat.le_of_ble_eq_true rfl) ?_
        refine v_istore_n (i := 3) rfl dX6_mostAlike_79 (Nat.le_of_ble_eq_true rfl) (loc' := [some (.ref l0), some (.int l1), some (.int l2), some (.int (imax l3 l5)), some (.int l4), some (.int l5), some (.int l6)]) rfl ?_
        exact xa_weak (loc := [some (.ref l0), some (.int l1), some (.int l2), some (.int (imax l3 l5)), some (.int l4), none, none]) ⟨rfl, ⟨rfl, ⟨rfl, ⟨rfl, ⟨rfl, trivial⟩⟩⟩⟩⟩ (e_X6_mostAlike_b80 hk5 h l0 l1 l2 (imax l3 l5) l4 r hf)
    · replace hf := (if_neg c1).symm.trans hf
      refine v_iload_n dX6_mostAlike_23 rfl ?_
      refine v_iload dX6_mostAlike_24 rfl ?_
      refine w_ishr dX6_mostAlike_26 ?_
      refine v_iconst dX6_mostAlike_27 (by decide) (v := 1) ?_
      refine v_iand dX6_mostAlike_28 ?_
      refine v_iconst dX6_mostAlike_29 (by decide) (v := 1) ?_
      refine v_icmp_ne dX6_mostAlike_30 (tgt := 57) (by decide) (fun c3 => ?_) (fun c3 => ?_)
      · replace hf := (if_neg c3).symm.trans hf
        exact e_X6_mostAlike_b57 hk5 ih h l0 l1 l2 l3 l4 l5 l6 r hf
      · replace hf := (if_pos c3).symm.trans hf
        refine v_aload_n dX6_mostAlike_33 rfl ?_
        obtain ⟨x4, ex4, hf⟩ := ob hf
        refine v_getR dX6_mostAlike_34 fl_6_30 ex4 ?_
        refine v_iload dX6_mostAlike_37 rfl ?_
        obtain ⟨x5, ex5, hf⟩ := ob hf
        refine v_aaload dX6_mostAlike_39 (t := 5) (by decide) ex5 ?_
        refine v_iload_n dX6_mostAlike_40 rfl ?_
        obtain ⟨x6, ex6, hf⟩ := ob hf
        refine v_ialoadI dX6_mostAlike_41 ex6 ?_
        refine v_aload_n dX6_mostAlike_42 rfl ?_
        obtain ⟨x7, ex7, hf⟩ := ob hf
        refine v_getR dX6_mostAlike_43 fl_6_30 ex7 ?_
        refine v_iload dX6_mostAlike_46 rfl ?_
        obtain ⟨x8, ex8, hf⟩ := ob hf
        refine v_aaload dX6_mostAlike_48 (t := 5) (by decide) ex8 ?_
        refine v_iload_n dX6_mostAlike_49 rfl ?_
        obtain ⟨x9, ex9, hf⟩ := ob hf
        refine v_ialoadI dX6_mostAlike_50 ex9 ?_
        refine v_icmp_ne dX6_mostAlike_51 (tgt := 57) (by decide) (fun c10 => ?_) (fun c10 => ?_)
        · replace hf := (if_neg c10).symm.trans hf
          exact e_X6_mostAlike_b57 hk5 ih h l0 l1 l2 l3 l4 l5 l6 r hf
        · replace hf := (if_pos c10).symm.trans hf
          refine v_iinc dX6_mostAlike_54 rfl (v := (l5 + (1 : Int32))) rfl (Nat.le_of_ble_eq_true rfl) (loc' := [some (.ref l0), some (.int l1), some (.int l2), some (.int l3), some (.int l4), some (.int (l5 + (1 : Int32))), some (.int l6)]) rfl ?_
          exact e_X6_mostAlike_b57 hk5 ih h l0 l1 l2 l3 l4 (l5 + (1 : Int32)) l6 r hf
def f_X6_mostAlike_b5 : Nat → xa_H → Nat → Int32 → Int32 → Int32 → Int32 → Option Int32
  | 0, _, _, _, _, _, _ => none
  | n + 1, h, l0, l1, l2, l3, l4 =>
    if (4 : Int32) ≤ l4 then
      some l3
    else
      f_X6_mostAlike_b17 (fun h l0 l1 l2 l3 l4 => f_X6_mostAlike_b5 n h l0 l1 l2 l3 l4) 1048576 h l0 l1 l2 l3 l4 (0 : Int32) (0 : Int32)
set_option maxRecDepth 20000 in
theorem e_X6_mostAlike_b5 {G : xa_G} : ∀ (n : Nat) (h : xa_H) (l0 : Nat) (l1 : Int32) (l2 : Int32) (l3 : Int32) (l4 : Int32) (r : Int32), f_X6_mostAlike_b5 n h l0 l1 l2 l3 l4 = some r → xa_V G M_X6_mostAlike 1 5 [some (.ref l0), some (.int l1), some (.int l2), some (.int l3), some (.int l4), none, none] [] h (some (.int r)) h := by
  intro n
  induction n with
  | zero =>
    intro h l0 l1 l2 l3 l4 r hf
    cases (show (none : Option Int32) = some r from hf)
  | succ n ih =>
    intro h l0 l1 l2 l3 l4 r hf
    rw [f_X6_mostAlike_b5] at hf
    refine v_iload dX6_mostAlike_5 rfl ?_
    refine v_iconst dX6_mostAlike_7 (by decide) (v := 4) ?_
    refine v_icmp_ge dX6_mostAlike_8 (tgt := 86) (by decide) (fun c1 => ?_) (fun c1 => ?_)
    · replace hf := (if_pos c1).symm.trans hf
      refine v_iload_n dX6_mostAlike_86 rfl ?_
      replace hf := Option.some.inj hf
      subst hf
      exact v_iret dX6_mostAlike_87 rfl
    · replace hf := (if_neg c1).symm.trans hf
      refine v_iconst dX6_mostAlike_11 (by decide) (v := 0) ?_
      refine v_istore dX6_mostAlike_12 (Nat.le_of_ble_eq_true rfl) (loc' := [some (.ref l0), some (.int l1), some (.int l2), some (.int l3), some (.int l4), some (.int (0 : Int32)), none]) rfl ?_
      refine v_iconst dX6_mostAlike_14 (by decide) (v := 0) ?_
      refine v_istore dX6_mostAlike_15 (Nat.le_of_ble_eq_true rfl) (loc' := [some (.ref l0), some (.int l1), some (.int l2), some (.int l3), some (.int l4), some (.int (0 : Int32)), some (.int (0 : Int32))]) rfl ?_
      exact e_X6_mostAlike_b17 ih 1048576 h l0 l1 l2 l3 l4 (0 : Int32) (0 : Int32) r hf
def f_X6_mostAlike (h : xa_H) (l0 : Nat) (l1 : Int32) (l2 : Int32) : Option Int32 :=
  (ck [6] h l0).bind fun _ =>
  f_X6_mostAlike_b5 1048576 h l0 l1 l2 (0 : Int32) (0 : Int32)
set_option maxRecDepth 20000 in
theorem ev_X6_mostAlike {G : xa_G} {h : xa_H} {l0 : Nat} {l1 : Int32} {l2 : Int32} {r : Int32} (hf : f_X6_mostAlike h l0 l1 l2 = some r) : xa_Ev G M_X6_mostAlike 1 [.ref l0, .int l1, .int l2] h (some (.int r)) h := by
  refine xa_entry (by decide +kernel) (loc := [some (.ref l0), some (.int l1), some (.int l2), none, none, none, none]) rfl (Nat.le_of_ble_eq_true rfl) ?_
  unfold f_X6_mostAlike at hf
  obtain ⟨u0, eu0, hf⟩ := ob hf
  refine v_iconst dX6_mostAlike_0 (by decide) (v := 0) ?_
  refine v_istore_n (i := 3) rfl dX6_mostAlike_1 (Nat.le_of_ble_eq_true rfl) (loc' := [some (.ref l0), some (.int l1), some (.int l2), some (.int (0 : Int32)), none, none, none]) rfl ?_
  refine v_iconst dX6_mostAlike_2 (by decide) (v := 0) ?_
  refine v_istore dX6_mostAlike_3 (Nat.le_of_ble_eq_true rfl) (loc' := [some (.ref l0), some (.int l1), some (.int l2), some (.int (0 : Int32)), some (.int (0 : Int32)), none, none]) rfl ?_
  exact e_X6_mostAlike_b5 1048576 h l0 l1 l2 (0 : Int32) (0 : Int32) r hf
theorem ckf_X6_mostAlike {h : xa_H} {l0 : Nat} {l1 : Int32} {l2 : Int32} {r : Int32} (hf : f_X6_mostAlike h l0 l1 l2 = some r) : ck [6] h l0 = some () := by
  obtain ⟨u, e, -⟩ := ob hf
  exact e
def M_X6_init : xa_M := (yX6_init, cX6_init, 1, none)
theorem cb_X6_init : xa_CB M_X6_init 0 := ⟨gws_at 375 (by decide +kernel) rfl, gws_at 119 (by decide +kernel) rfl, by decide +kernel, Nat.le_of_ble_eq_true rfl⟩
def f_X6_init (h : xa_H) (l0 : Nat) : Option xa_H :=
  (ck [6] h l0).bind fun _ =>
  (nAI h (10 : Int32)).bind fun h1 =>
  (xp [6] 0 h1 l0 (.ref h.2.1)).bind fun h2 =>
  (nAI h2 (10 : Int32)).bind fun h3 =>
  (xp [6] 1 h3 l0 (.ref h2.2.1)).bind fun h4 =>
  (nAI h4 (10 : Int32)).bind fun h5 =>
  (xp [6] 2 h5 l0 (.ref h4.2.1)).bind fun h6 =>
  (nAI h6 (10 : Int32)).bind fun h7 =>
  (xp [6] 3 h7 l0 (.ref h6.2.1)).bind fun h8 =>
  (nAZ h8 (10 : Int32)).bind fun h9 =>
  (xp [6] 4 h9 l0 (.ref h8.2.1)).bind fun h10 =>
  (nM h10 (4 : Int32) (10 : Int32)).bind fun h11 =>
  (xp [6] 5 h11 l0 (.ref h10.2.1)).bind fun h12 =>
  (xp [6] 6 h12 l0 (.int (0 : Int32))).bind fun h13 =>
  some h13
set_option maxRecDepth 20000 in
theorem ev_X6_init {G : xa_G} {h : xa_H} {l0 : Nat} {r : xa_H} (hf : f_X6_init h l0 = some r) : xa_Ev G M_X6_init 1 [.ref l0] h none r := by
  refine xa_entry (by decide +kernel) (loc := [some (.ref l0)]) rfl (Nat.le_of_ble_eq_true rfl) ?_
  unfold f_X6_init at hf
  obtain ⟨u0, eu0, hf⟩ := ob hf
  refine v_aload_n dX6_init_0 rfl ?_
  refine v_objInit dX6_init_1 oi_6_3 (by decide) (Nat.le_of_ble_eq_true rfl) ?_
  refine v_aload_n dX6_init_4 rfl ?_
  refine v_bipush dX6_init_5 (by decide) (v := 10) ?_
  obtain ⟨h1, eh1, hf⟩ := ob hf
  refine w_newaI dX6_init_7 ac_int eh1 ?_
  obtain ⟨h2, eh2, hf⟩ := ob hf
  refine v_put dX6_init_9 fp_6_9 (fun _ => rfl) (fun _ => rfl) (fun _ => rfl) eh2 ?_
  refine v_aload_n dX6_init_12 rfl ?_
  refine v_bipush dX6_init_13 (by decide) (v := 10) ?_
  obtain ⟨h3, eh3, hf⟩ := ob hf
  refine w_newaI dX6_init_15 ac_int eh3 ?_
  obtain ⟨h4, eh4, hf⟩ := ob hf
  refine v_put dX6_init_17 fp_6_15 (fun _ => rfl) (fun _ => rfl) (fun _ => rfl) eh4 ?_
  refine v_aload_n dX6_init_20 rfl ?_
  refine v_bipush dX6_init_21 (by decide) (v := 10) ?_
  obtain ⟨h5, eh5, hf⟩ := ob hf
  refine w_newaI dX6_init_23 ac_int eh5 ?_
  obtain ⟨h6, eh6, hf⟩ := ob hf
  refine v_put dX6_init_25 fp_6_18 (fun _ => rfl) (fun _ => rfl) (fun _ => rfl) eh6 ?_
  refine v_aload_n dX6_init_28 rfl ?_
  refine v_bipush dX6_init_29 (by decide) (v := 10) ?_
  obtain ⟨h7, eh7, hf⟩ := ob hf
  refine w_newaI dX6_init_31 ac_int eh7 ?_
  obtain ⟨h8, eh8, hf⟩ := ob hf
  refine v_put dX6_init_33 fp_6_21 (fun _ => rfl) (fun _ => rfl) (fun _ => rfl) eh8 ?_
  refine v_aload_n dX6_init_36 rfl ?_
  refine v_bipush dX6_init_37 (by decide) (v := 10) ?_
  obtain ⟨h9, eh9, hf⟩ := ob hf
  refine w_newaZ dX6_init_39 ac_boolean eh9 ?_
  obtain ⟨h10, eh10, hf⟩ := ob hf
  refine v_put dX6_init_41 fp_6_24 (fun _ => rfl) (fun _ => rfl) (fun _ => rfl) eh10 ?_
  refine v_aload_n dX6_init_44 rfl ?_
  refine v_iconst dX6_init_45 (by decide) (v := 4) ?_
  refine v_bipush dX6_init_46 (by decide) (v := 10) ?_
  obtain ⟨h11, eh11, hf⟩ := ob hf
  refine v_mna dX6_init_48 ⟨kl_6_28, ac_int⟩ eh11 ?_
  obtain ⟨h12, eh12, hf⟩ := ob hf
  refine v_put dX6_init_52 fp_6_30 (fun _ => rfl) (fun _ => rfl) (fun _ => rfl) eh12 ?_
  refine v_aload_n dX6_init_55 rfl ?_
  refine v_iconst dX6_init_56 (by decide) (v := 0) ?_
  obtain ⟨h13, eh13, hf⟩ := ob hf
  refine v_put dX6_init_57 fp_6_33 (fun z => by cases z) (fun _ => rfl) (fun _ => rfl) eh13 ?_
  replace hf := Option.some.inj hf
  subst hf
  exact v_vret dX6_init_60 rfl
theorem ckf_X6_init {h : xa_H} {l0 : Nat} {r : xa_H} (hf : f_X6_init h l0 = some r) : ck [6] h l0 = some () := by
  obtain ⟨u, e, -⟩ := ob hf
  exact e
def M_X6_put : xa_M := (yX6_put, cX6_put, 6, none)
theorem cb_X6_put : xa_CB M_X6_put 5 := ⟨gws_at 1093 (by decide +kernel) rfl, gws_at 119 (by decide +kernel) rfl, by decide +kernel, Nat.le_of_ble_eq_true rfl⟩
def f_X6_put (h : xa_H) (l0 : Nat) (l1 : Int32) (l2 : Int32) (l3 : Int32) (l4 : Int32) (l5 : Int32) : Option xa_H :=
  (ck [6] h l0).bind fun _ =>
  (gI [6] 6 h l0).bind fun x1 =>
  if x1 < 0 then
    some h
  else
    (gI [6] 6 h l0).bind fun x3 =>
    if x3 < (10 : Int32) then
      (gR [6] 0 h l0).bind fun x5 =>
      (gI [6] 6 h l0).bind fun x6 =>
      (pI h x5 x6 l1).bind fun h7 =>
      (gR [6] 1 h7 l0).bind fun x8 =>
      (gI [6] 6 h7 l0).bind fun x9 =>
      (pI h7 x8 x9 l2).bind fun h10 =>
      (gR [6] 2 h10 l0).bind fun x11 =>
      (gI [6] 6 h10 l0).bind fun x12 =>
      (pI h10 x11 x12 l3).bind fun h13 =>
      (gR [6] 3 h13 l0).bind fun x14 =>
      (gI [6] 6 h13 l0).bind fun x15 =>
      (pI h13 x14 x15 l4).bind fun h16 =>
      (gR [6] 4 h16 l0).bind fun x17 =>
      (gI [6] 6 h16 l0).bind fun x18 =>
      (pZ h16 x17 x18 l5).bind fun h19 =>
      (gI [6] 6 h19 l0).bind fun x20 =>
      (xp [6] 6 h19 l0 (.int (x20 + (1 : Int32)))).bind fun h21 =>
      some h21
    else
      some h
set_option maxRecDepth 20000 in
theorem ev_X6_put {G : xa_G} {h : xa_H} {l0 : Nat} {l1 : Int32} {l2 : Int32} {l3 : Int32} {l4 : Int32} {l5 : Int32} {r : xa_H} (hf : f_X6_put h l0 l1 l2 l3 l4 l5 = some r) : xa_Ev G M_X6_put 0 [.ref l0, .int l1, .int l2, .int l3, .int l4, .int l5] h none r := by
  refine xa_entry (by decide +kernel) (loc := [some (.ref l0), some (.int l1), some (.int l2), some (.int l3), some (.int l4), some (.int l5)]) rfl (Nat.le_of_ble_eq_true rfl) ?_
  unfold f_X6_put at hf
  obtain ⟨u0, eu0, hf⟩ := ob hf
  refine v_aload_n dX6_put_0 rfl ?_
  obtain ⟨x1, ex1, hf⟩ := ob hf
  refine v_getI dX6_put_1 fl_6_33 ex1 ?_
  refine v_if_lt dX6_put_4 (tgt := 16) (by decide) (fun c2 => ?_) (fun c2 => ?_)
  · replace hf := (if_pos c2).symm.trans hf
    replace hf := Option.some.inj hf
    subst hf
    exact v_vret dX6_put_16 rfl
  · replace hf := (if_neg c2).symm.trans hf
    refine v_aload_n dX6_put_7 rfl ?_
    obtain ⟨x3, ex3, hf⟩ := ob hf
    refine v_getI dX6_put_8 fl_6_33 ex3 ?_
    refine v_bipush dX6_put_11 (by decide) (v := 10) ?_
    refine v_icmp_lt dX6_put_13 (tgt := 17) (by decide) (fun c4 => ?_) (fun c4 => ?_)
    · replace hf := (if_pos c4).symm.trans hf
      refine v_aload_n dX6_put_17 rfl ?_
      obtain ⟨x5, ex5, hf⟩ := ob hf
      refine v_getR dX6_put_18 fl_6_9 ex5 ?_
      refine v_aload_n dX6_put_21 rfl ?_
      obtain ⟨x6, ex6, hf⟩ := ob hf
      refine v_getI dX6_put_22 fl_6_33 ex6 ?_
      refine v_iload_n dX6_put_25 rfl ?_
      obtain ⟨h7, eh7, hf⟩ := ob hf
      refine v_iastoreI dX6_put_26 eh7 ?_
      refine v_aload_n dX6_put_27 rfl ?_
      obtain ⟨x8, ex8, hf⟩ := ob hf
      refine v_getR dX6_put_28 fl_6_15 ex8 ?_
      refine v_aload_n dX6_put_31 rfl ?_
      obtain ⟨x9, ex9, hf⟩ := ob hf
      refine v_getI dX6_put_32 fl_6_33 ex9 ?_
      refine v_iload_n dX6_put_35 rfl ?_
      obtain ⟨h10, eh10, hf⟩ := ob hf
      refine v_iastoreI dX6_put_36 eh10 ?_
      refine v_aload_n dX6_put_37 rfl ?_
      obtain ⟨x11, ex11, hf⟩ := ob hf
      refine v_getR dX6_put_38 fl_6_18 ex11 ?_
      refine v_aload_n dX6_put_41 rfl ?_
      obtain ⟨x12, ex12, hf⟩ := ob hf
      refine v_getI dX6_put_42 fl_6_33 ex12 ?_
      refine v_iload_n dX6_put_45 rfl ?_
      obtain ⟨h13, eh13, hf⟩ := ob hf
      refine v_iastoreI dX6_put_46 eh13 ?_
      refine v_aload_n dX6_put_47 rfl ?_
      obtain ⟨x14, ex14, hf⟩ := ob hf
      refine v_getR dX6_put_48 fl_6_21 ex14 ?_
      refine v_aload_n dX6_put_51 rfl ?_
      obtain ⟨x15, ex15, hf⟩ := ob hf
      refine v_getI dX6_put_52 fl_6_33 ex15 ?_
      refine v_iload dX6_put_55 rfl ?_
      obtain ⟨h16, eh16, hf⟩ := ob hf
      refine v_iastoreI dX6_put_57 eh16 ?_
      refine v_aload_n dX6_put_58 rfl ?_
      obtain ⟨x17, ex17, hf⟩ := ob hf
      refine v_getR dX6_put_59 fl_6_24 ex17 ?_
      refine v_aload_n dX6_put_62 rfl ?_
      obtain ⟨x18, ex18, hf⟩ := ob hf
      refine v_getI dX6_put_63 fl_6_33 ex18 ?_
      refine v_iload dX6_put_66 rfl ?_
      obtain ⟨h19, eh19, hf⟩ := ob hf
      refine v_bastoreZ dX6_put_68 eh19 ?_
      refine v_aload_n dX6_put_69 rfl ?_
      refine v_dup dX6_put_70 rfl ?_
      obtain ⟨x20, ex20, hf⟩ := ob hf
      refine v_getI dX6_put_71 fl_6_33 ex20 ?_
      refine v_iconst dX6_put_74 (by decide) (v := 1) ?_
      refine v_iadd dX6_put_75 ?_
      obtain ⟨h21, eh21, hf⟩ := ob hf
      refine v_put dX6_put_76 fp_6_33 (fun z => by cases z) (fun _ => rfl) (fun _ => rfl) eh21 ?_
      replace hf := Option.some.inj hf
      subst hf
      exact v_vret dX6_put_79 rfl
    · replace hf := (if_neg c4).symm.trans hf
      replace hf := Option.some.inj hf
      subst hf
      exact v_vret dX6_put_16 rfl
theorem ckf_X6_put {h : xa_H} {l0 : Nat} {l1 : Int32} {l2 : Int32} {l3 : Int32} {l4 : Int32} {l5 : Int32} {r : xa_H} (hf : f_X6_put h l0 l1 l2 l3 l4 l5 = some r) : ck [6] h l0 = some () := by
  obtain ⟨u, e, -⟩ := ob hf
  exact e
