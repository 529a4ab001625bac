def M_X11_ring : xa_M := (yX11_ring, cX11_ring, 4, some .int)
theorem cb_X11_ring : xa_CB M_X11_ring 0 := ⟨gws_at 1077 (by decide +kernel) rfl, gws_at 109 (by decide +kernel) rfl, by decide +kernel, Nat.le_of_ble_eq_true rfl⟩
def f_X11_ring_b42 (k4 : xa_H → Nat → Int32 → Int32 → Option Int32) (h : xa_H) (l0 : Nat) (l1 : Int32) (l2 : Int32) : Option Int32 :=
  k4 h l0 l1 (l2 + (1 : Int32))
set_option maxRecDepth 20000 in
theorem e_X11_ring_b42 {G : xa_G} {k4 : xa_H → Nat → Int32 → Int32 → Option Int32} (hk4 : ∀ (h : xa_H) (l0 : Nat) (l1 : Int32) (l2 : Int32) (r : Int32), k4 h l0 l1 l2 = some r → xa_V G M_X11_ring 3 4 [some (.ref l0), some (.int l1), some (.int l2), none] [] h (some (.int r)) h) : ∀ (h : xa_H) (l0 : Nat) (l1 : Int32) (l2 : Int32) (r : Int32), f_X11_ring_b42 k4 h l0 l1 l2 = some r → xa_V G M_X11_ring 3 42 [some (.ref l0), some (.int l1), some (.int l2), none] [] h (some (.int r)) h := by
  intro h l0 l1 l2 r hf
  unfold f_X11_ring_b42 at hf
  refine v_iinc dX11_ring_42 rfl (v := (l2 + (1 : Int32))) rfl (Nat.le_of_ble_eq_true rfl) (loc' := [some (.ref l0), some (.int l1), some (.int (l2 + (1 : Int32))), none]) rfl ?_
  refine v_goto dX11_ring_45 (tgt := 4) (by decide) ?_
  exact hk4 h l0 l1 (l2 + (1 : Int32)) r hf
def f_X11_ring_b40 (k4 : xa_H → Nat → Int32 → Int32 → Option Int32) (h : xa_H) (l0 : Nat) (l2 : Int32) (l3 : Int32) : Option Int32 :=
  f_X11_ring_b42 k4 h l0 l3 l2
set_option maxRecDepth 20000 in
theorem e_X11_ring_b40 {G : xa_G} {k4 : xa_H → Nat → Int32 → Int32 → Option Int32} (hk4 : ∀ (h : xa_H) (l0 : Nat) (l1 : Int32) (l2 : Int32) (r : Int32), k4 h l0 l1 l2 = some r → xa_V G M_X11_ring 3 4 [some (.ref l0), some (.int l1), some (.int l2), none] [] h (some (.int r)) h) : ∀ (h : xa_H) (l0 : Nat) (l2 : Int32) (l3 : Int32) (r : Int32), f_X11_ring_b40 k4 h l0 l2 l3 = some r → xa_V G M_X11_ring 3 40 [some (.ref l0), none, some (.int l2), some (.int l3)] [] h (some (.int r)) h := by
  intro h l0 l2 l3 r hf
  unfold f_X11_ring_b40 at hf
  refine v_iload_n dX11_ring_40 rfl ?_
  refine v_istore_n (i := 1) rfl dX11_ring_41 (Nat.le_of_ble_eq_true rfl) (loc' := [some (.ref l0), some (.int l3), some (.int l2), some (.int l3)]) rfl ?_
  exact xa_weak (loc := [some (.ref l0), some (.int l3), some (.int l2), none]) ⟨rfl, ⟨rfl, ⟨rfl, trivial⟩⟩⟩ (e_X11_ring_b42 hk4 h l0 l3 l2 r hf)
def f_X11_ring_b4 : Nat → xa_H → Nat → Int32 → Int32 → Option Int32
  | 0, _, _, _, _ => none
  | n + 1, h, l0, l1, l2 =>
    (gR [11] 6 h l0).bind fun x1 =>
    (gI [0] 4 h x1).bind fun x2 =>
    if x2 ≤ l2 then
      some l1
    else
      (gR [11] 6 h l0).bind fun x4 =>
      (f_X0_steps h x4 l2 l2).bind fun q5 =>
      if q5 = (-1 : Int32) then
        f_X11_ring_b42 (fun h l0 l1 l2 => f_X11_ring_b4 n h l0 l1 l2) h l0 l1 l2
      else
        if l1 = (-1 : Int32) then
          f_X11_ring_b40 (fun h l0 l1 l2 => f_X11_ring_b4 n h l0 l1 l2) h l0 l2 q5
        else
          if l1 ≤ q5 then
            f_X11_ring_b42 (fun h l0 l1 l2 => f_X11_ring_b4 n h l0 l1 l2) h l0 l1 l2
          else
            f_X11_ring_b40 (fun h l0 l1 l2 => f_X11_ring_b4 n h l0 l1 l2) h l0 l2 q5
set_option maxRecDepth 20000 in
theorem e_X11_ring_b4 {G : xa_G} : ∀ (n : Nat) (h : xa_H) (l0 : Nat) (l1 : Int32) (l2 : Int32) (r : Int32), f_X11_ring_b4 n h l0 l1 l2 = some r → xa_V G M_X11_ring 3 4 [some (.ref l0), some (.int l1), some (.int l2), none] [] h (some (.int r)) h := by
  intro n
  induction n with
  | zero =>
    intro h l0 l1 l2 r hf
    cases (show (none : Option Int32) = some r from hf)
  | succ n ih =>
    intro h l0 l1 l2 r hf
    rw [f_X11_ring_b4] at hf
    refine v_iload_n dX11_ring_4 rfl ?_
    refine v_aload_n dX11_ring_5 rfl ?_
    obtain ⟨x1, ex1, hf⟩ := ob hf
    refine v_getR dX11_ring_6 fl_11_49 ex1 ?_
    obtain ⟨x2, ex2, hf⟩ := ob hf
    refine v_getI dX11_ring_9 fl_11_154 ex2 ?_
    refine v_icmp_ge dX11_ring_12 (tgt := 48) (by decide) (fun c3 => ?_) (fun c3 => ?_)
    · replace hf := (if_pos c3).symm.trans hf
      refine v_iload_n dX11_ring_48 rfl ?_
      replace hf := Option.some.inj hf
      subst hf
      exact v_iret dX11_ring_49 rfl
    · replace hf := (if_neg c3).symm.trans hf
      refine v_aload_n dX11_ring_15 rfl ?_
      obtain ⟨x4, ex4, hf⟩ := ob hf
      refine v_getR dX11_ring_16 fl_11_49 ex4 ?_
      refine v_iload_n dX11_ring_19 rfl ?_
      refine v_iload_n dX11_ring_20 rfl ?_
      obtain ⟨q5, eq5, hf⟩ := ob hf
      refine v_callV dX11_ring_21 ⟨cb_X0_steps, ml_11_330, im_X0_steps⟩ se_0_X0_steps (ckf_X0_steps eq5) (ev_X0_steps eq5) (by decide) (As := [.int l2, .int l2]) rfl (st := []) rfl (Nat.le_of_ble_eq_true rfl) rfl ?_
      refine v_istore_n (i := 3) rfl dX11_ring_24 (Nat.le_of_ble_eq_true rfl) (loc' := [some (.ref l0), some (.int l1), some (.int l2), some (.int q5)]) rfl ?_
      refine v_iload_n dX11_ring_25 rfl ?_
      refine v_iconst dX11_ring_26 (by decide) (v := -1) ?_
      refine v_icmp_eq dX11_ring_27 (tgt := 42) (by decide) (fun c6 => ?_) (fun c6 => ?_)
      · replace hf := (if_pos c6).symm.trans hf
        exact xa_weak (loc := [some (.ref l0), some (.int l1), some (.int l2), none]) ⟨rfl, ⟨rfl, ⟨rfl, trivial⟩⟩⟩ (e_X11_ring_b42 ih h l0 l1 l2 r hf)
      · replace hf := (if_neg c6).symm.trans hf
        refine v_iload_n dX11_ring_30 rfl ?_
        refine v_iconst dX11_ring_31 (by decide) (v := -1) ?_
        refine v_icmp_eq dX11_ring_32 (tgt := 40) (by decide) (fun c7 => ?_) (fun c7 => ?_)
        · replace hf := (if_pos c7).symm.trans hf
          exact xa_weak (loc := [some (.ref l0), none, some (.int l2), some (.int q5)]) ⟨rfl, ⟨rfl, ⟨rfl, trivial⟩⟩⟩ (e_X11_ring_b40 ih h l0 l2 q5 r hf)
        · replace hf := (if_neg c7).symm.trans hf
          refine v_iload_n dX11_ring_35 rfl ?_
          refine v_iload_n dX11_ring_36 rfl ?_
          refine v_icmp_ge dX11_ring_37 (tgt := 42) (by decide) (fun c8 => ?_) (fun c8 => ?_)
          · replace hf := (if_pos c8).symm.trans hf
            exact xa_weak (loc := [some (.ref l0), some (.int l1), some (.int l2), none]) ⟨rfl, ⟨rfl, ⟨rfl, trivial⟩⟩⟩ (e_X11_ring_b42 ih h l0 l1 l2 r hf)
          · replace hf := (if_neg c8).symm.trans hf
            exact xa_weak (loc := [some (.ref l0), none, some (.int l2), some (.int q5)]) ⟨rfl, ⟨rfl, ⟨rfl, trivial⟩⟩⟩ (e_X11_ring_b40 ih h l0 l2 q5 r hf)
def f_X11_ring (h : xa_H) (l0 : Nat) : Option Int32 :=
  (ck [11] h l0).bind fun _ =>
  f_X11_ring_b4 1048576 h l0 (-1 : Int32) (0 : Int32)
set_option maxRecDepth 20000 in
theorem ev_X11_ring {G : xa_G} {h : xa_H} {l0 : Nat} {r : Int32} (hf : f_X11_ring h l0 = some r) : xa_Ev G M_X11_ring 3 [.ref l0] h (some (.int r)) h := by
  refine xa_entry (by decide +kernel) (loc := [some (.ref l0), none, none, none]) rfl (Nat.le_of_ble_eq_true rfl) ?_
  unfold f_X11_ring at hf
  obtain ⟨u0, eu0, hf⟩ := ob hf
  refine v_iconst dX11_ring_0 (by decide) (v := -1) ?_
  refine v_istore_n (i := 1) rfl dX11_ring_1 (Nat.le_of_ble_eq_true rfl) (loc' := [some (.ref l0), some (.int (-1 : Int32)), none, none]) rfl ?_
  refine v_iconst dX11_ring_2 (by decide) (v := 0) ?_
  refine v_istore_n (i := 2) rfl dX11_ring_3 (Nat.le_of_ble_eq_true rfl) (loc' := [some (.ref l0), some (.int (-1 : Int32)), some (.int (0 : Int32)), none]) rfl ?_
  exact e_X11_ring_b4 1048576 h l0 (-1 : Int32) (0 : Int32) r hf
theorem ckf_X11_ring {h : xa_H} {l0 : Nat} {r : Int32} (hf : f_X11_ring h l0 = some r) : ck [11] h l0 = some () := by
  obtain ⟨u, e, -⟩ := ob hf
  exact e
def M_X11_seen : xa_M := (yX11_seen, cX11_seen, 6, some .int)
theorem cb_X11_seen : xa_CB M_X11_seen 5 := ⟨gws_at 1089 (by decide +kernel) rfl, gws_at 109 (by decide +kernel) rfl, by decide +kernel, Nat.le_of_ble_eq_true rfl⟩
def f_X11_seen (h : xa_H) (l0 : Nat) (l1 : Int32) (l2 : Int32) (l3 : Int32) (l4 : Int32) (l5 : Int32) : Option (Int32 × xa_H) :=
  (ck [11] h l0).bind fun _ =>
  (gR [11] 6 h l0).bind fun x1 =>
  (f_X0_has h x1 l1).bind fun q2 =>
  if q2 = 0 then
    some ((-1 : Int32), h)
  else
    (gR [11] 6 h l0).bind fun x4 =>
    (f_X0_has h x4 l2).bind fun q5 =>
    if q5 = 0 then
      some ((-1 : Int32), h)
    else
      if l1 = l2 then
        some ((-1 : Int32), h)
      else
        if l3 < (1 : Int32) then
          some ((-1 : Int32), h)
        else
          if (9 : Int32) < l3 then
            some ((-1 : Int32), h)
          else
            if l4 < (-99 : Int32) then
              some ((-1 : Int32), h)
            else
              if (99 : Int32) < l4 then
                some ((-1 : Int32), h)
              else
                (gR [11] 11 h l0).bind fun x12 =>
                (gI [6] 6 h x12).bind fun x13 =>
                if x13 < (10 : Int32) then
                  (gR [11] 11 h l0).bind fun x15 =>
                  (f_X6_put h x15 l1 l2 l3 l4 l5).bind fun q16 =>
                  (gR [11] 11 q16 l0).bind fun x17 =>
                  (gI [6] 6 q16 x17).bind fun x18 =>
                  some (x18, q16)
                else
                  some ((-1 : Int32), h)
set_option maxRecDepth 20000 in
theorem ev_X11_seen {G : xa_G} {h : xa_H} {l0 : Nat} {l1 : Int32} {l2 : Int32} {l3 : Int32} {l4 : Int32} {l5 : Int32} {r : (Int32 × xa_H)} (hf : f_X11_seen h l0 l1 l2 l3 l4 l5 = some r) : xa_Ev G M_X11_seen 1 [.ref l0, .int l1, .int l2, .int l3, .int l4, .int l5] h (some (.int r.1)) r.2 := by
  refine xa_entry (by decide +kernel) (loc := [some (.ref l0), some (.int l1), some (.int l2), some (.int l3), some (.int l4), some (.int l5)]) rfl (Nat.le_of_ble_eq_true rfl) ?_
  unfold f_X11_seen at hf
  obtain ⟨u0, eu0, hf⟩ := ob hf
  refine v_aload_n dX11_seen_0 rfl ?_
  obtain ⟨x1, ex1, hf⟩ := ob hf
  refine v_getR dX11_seen_1 fl_11_49 ex1 ?_
  refine v_iload_n dX11_seen_4 rfl ?_
  obtain ⟨q2, eq2, hf⟩ := ob hf
  refine v_callV dX11_seen_5 ⟨cb_X0_has, ml_11_157, im_X0_has⟩ se_0_X0_has (ckf_X0_has eq2) (ev_X0_has eq2) (by decide) (As := [.int l1]) rfl (st := []) rfl (Nat.le_of_ble_eq_true rfl) rfl ?_
  refine v_if_eq dX11_seen_8 (tgt := 27) (by decide) (fun c3 => ?_) (fun c3 => ?_)
  · replace hf := (if_pos c3).symm.trans hf
    refine v_iconst dX11_seen_27 (by decide) (v := -1) ?_
    replace hf := Option.some.inj hf
    subst hf
    exact v_iret dX11_seen_28 rfl
  · replace hf := (if_neg c3).symm.trans hf
    refine v_aload_n dX11_seen_11 rfl ?_
    obtain ⟨x4, ex4, hf⟩ := ob hf
    refine v_getR dX11_seen_12 fl_11_49 ex4 ?_
    refine v_iload_n dX11_seen_15 rfl ?_
    obtain ⟨q5, eq5, hf⟩ := ob hf
    refine v_callV dX11_seen_16 ⟨cb_X0_has, ml_11_157, im_X0_has⟩ se_0_X0_has (ckf_X0_has eq5) (ev_X0_has eq5) (by decide) (As := [.int l2]) rfl (st := []) rfl (Nat.le_of_ble_eq_true rfl) rfl ?_
    refine v_if_eq dX11_seen_19 (tgt := 27) (by decide) (fun c6 => ?_) (fun c6 => ?_)
    · replace hf := (if_pos c6).symm.trans hf
      refine v_iconst dX11_seen_27 (by decide) (v := -1) ?_
      replace hf := Option.some.inj hf
      subst hf
      exact v_iret dX11_seen_28 rfl
    · replace hf := (if_neg c6).symm.trans hf
      refine v_iload_n dX11_seen_22 rfl ?_
      refine v_iload_n dX11_seen_23 rfl ?_
      refine v_icmp_ne dX11_seen_24 (tgt := 29) (by decide) (fun c7 => ?_) (fun c7 => ?_)
      · replace hf := (if_neg c7).symm.trans hf
        refine v_iload_n dX11_seen_29 rfl ?_
        refine v_iconst dX11_seen_30 (by decide) (v := 1) ?_
        refine v_icmp_lt dX11_seen_31 (tgt := 66) (by decide) (fun c8 => ?_) (fun c8 => ?_)
        · replace hf := (if_pos c8).symm.trans hf
          refine v_iconst dX11_seen_66 (by decide) (v := -1) ?_
          replace hf := Option.some.inj hf
          subst hf
          exact v_iret dX11_seen_67 rfl
        · replace hf := (if_neg c8).symm.trans hf
          refine v_iload_n dX11_seen_34 rfl ?_
          refine v_bipush dX11_seen_35 (by decide) (v := 9) ?_
          refine v_icmp_gt dX11_seen_37 (tgt := 66) (by decide) (fun c9 => ?_) (fun c9 => ?_)
          · replace hf := (if_pos c9).symm.trans hf
            refine v_iconst dX11_seen_66 (by decide) (v := -1) ?_
            replace hf := Option.some.inj hf
            subst hf
            exact v_iret dX11_seen_67 rfl
          · replace hf := (if_neg c9).symm.trans hf
            refine v_iload dX11_seen_40 rfl ?_
            refine v_bipush dX11_seen_42 (by decide) (v := -99) ?_
            refine v_icmp_lt dX11_seen_44 (tgt := 66) (by decide) (fun c10 => ?_) (fun c10 => ?_)
            · replace hf := (if_pos c10).symm.trans hf
              refine v_iconst dX11_seen_66 (by decide) (v := -1) ?_
              replace hf := Option.some.inj hf
              subst hf
              exact v_iret dX11_seen_67 rfl
            · replace hf := (if_neg c10).symm.trans hf
              refine v_iload dX11_seen_47 rfl ?_
              refine v_bipush dX11_seen_49 (by decide) (v := 99) ?_
              refine v_icmp_gt dX11_seen_51 (tgt := 66) (by decide) (fun c11 => ?_) (fun c11 => ?_)
              · replace hf := (if_pos c11).symm.trans hf
                refine v_iconst dX11_seen_66 (by decide) (v := -1) ?_
                replace hf := Option.some.inj hf
                subst hf
                exact v_iret dX11_seen_67 rfl
              · replace hf := (if_neg c11).symm.trans hf
                refine v_aload_n dX11_seen_54 rfl ?_
                obtain ⟨x12, ex12, hf⟩ := ob hf
                refine v_getR dX11_seen_55 fl_11_76 ex12 ?_
                obtain ⟨x13, ex13, hf⟩ := ob hf
                refine v_getI dX11_seen_58 fl_11_153 ex13 ?_
                refine v_bipush dX11_seen_61 (by decide) (v := 10) ?_
                refine v_icmp_lt dX11_seen_63 (tgt := 68) (by decide) (fun c14 => ?_) (fun c14 => ?_)
                · replace hf := (if_pos c14).symm.trans hf
                  refine v_aload_n dX11_seen_68 rfl ?_
                  obtain ⟨x15, ex15, hf⟩ := ob hf
                  refine v_getR dX11_seen_69 fl_11_76 ex15 ?_
                  refine v_iload_n dX11_seen_72 rfl ?_
                  refine v_iload_n dX11_seen_73 rfl ?_
                  refine v_iload_n dX11_seen_74 rfl ?_
                  refine v_iload dX11_seen_75 rfl ?_
                  refine v_iload dX11_seen_77 rfl ?_
                  obtain ⟨q16, eq16, hf⟩ := ob hf
                  refine v_callV dX11_seen_79 ⟨cb_X6_put, ml_11_332, im_X6_put⟩ se_6_X6_put (ckf_X6_put eq16) (ev_X6_put eq16) (by decide) (As := [.int l1, .int l2, .int l3, .int l4, .int l5]) rfl (st := []) rfl (Nat.le_of_ble_eq_true rfl) rfl ?_
                  refine v_aload_n dX11_seen_82 rfl ?_
                  obtain ⟨x17, ex17, hf⟩ := ob hf
                  refine v_getR dX11_seen_83 fl_11_76 ex17 ?_
                  obtain ⟨x18, ex18, hf⟩ := ob hf
                  refine v_getI dX11_seen_86 fl_11_153 ex18 ?_
                  replace hf := Option.some.inj hf
                  subst hf
                  exact v_iret dX11_seen_89 rfl
                · replace hf := (if_neg c14).symm.trans hf
                  refine v_iconst dX11_seen_66 (by decide) (v := -1) ?_
                  replace hf := Option.some.inj hf
                  subst hf
                  exact v_iret dX11_seen_67 rfl
      · replace hf := (if_pos c7).symm.trans hf
        refine v_iconst dX11_seen_27 (by decide) (v := -1) ?_
        replace hf := Option.some.inj hf
        subst hf
        exact v_iret dX11_seen_28 rfl
theorem ckf_X11_seen {h : xa_H} {l0 : Nat} {l1 : Int32} {l2 : Int32} {l3 : Int32} {l4 : Int32} {l5 : Int32} {r : (Int32 × xa_H)} (hf : f_X11_seen h l0 l1 l2 l3 l4 l5 = some r) : ck [11] h l0 = some () := by
  obtain ⟨u, e, -⟩ := ob hf
  exact e
def M_X11_settle : xa_M := (yX11_settle, cX11_settle, 1, some .int)
theorem cb_X11_settle : xa_CB M_X11_settle 0 := ⟨gws_at 790 (by decide +kernel) rfl, gws_at 109 (by decide +kernel) rfl, by decide +kernel, Nat.le_of_ble_eq_true rfl⟩
def f_X11_settle (h : xa_H) (l0 : Nat) : Option (Int32 × xa_H) :=
  (ck [11] h l0).bind fun _ =>
  (gR [11] 7 h l0).bind fun x1 =>
  (gR [11] 1 h l0).bind fun x2 =>
  (gR [9] 4 h x2).bind fun x3 =>
  (f_X0_become h x1 x3).bind fun q4 =>
  (gR [11] 6 q4 l0).bind fun x5 =>
  (gR [11] 7 q4 l0).bind fun x6 =>
  (f_X0_become q4 x5 x6).bind fun q7 =>
  (gR [11] 10 q7 l0).bind fun x8 =>
  (f_X3_forgetActs q7 x8).bind fun q9 =>
  (gR [11] 10 q9 l0).bind fun x10 =>
  (xp [3] 5 q9 x10 (.int (0 : Int32))).bind fun h11 =>
  (gR [11] 11 h11 l0).bind fun x12 =>
  (xp [6] 6 h11 x12 (.int (0 : Int32))).bind fun h13 =>
  (gR [11] 6 h13 l0).bind fun x14 =>
  (gI [0] 4 h13 x14).bind fun x15 =>
  some (x15, h13)
set_option maxRecDepth 20000 in
theorem ev_X11_settle {G : xa_G} {h : xa_H} {l0 : Nat} {r : (Int32 × xa_H)} (hf : f_X11_settle h l0 = some r) : xa_Ev G M_X11_settle 2 [.ref l0] h (some (.int r.1)) r.2 := by
  refine xa_entry (by decide +kernel) (loc := [some (.ref l0)]) rfl (Nat.le_of_ble_eq_true rfl) ?_
  unfold f_X11_settle at hf
  obtain ⟨u0, eu0, hf⟩ := ob hf
  refine v_aload_n dX11_settle_0 rfl ?_
  obtain ⟨x1, ex1, hf⟩ := ob hf
  refine v_getR dX11_settle_1 fl_11_53 ex1 ?_
  refine v_aload_n dX11_settle_4 rfl ?_
  obtain ⟨x2, ex2, hf⟩ := ob hf
  refine v_getR dX11_settle_5 fl_11_16 ex2 ?_
  obtain ⟨x3, ex3, hf⟩ := ob hf
  refine v_getR dX11_settle_8 fl_11_139 ex3 ?_
  obtain ⟨q4, eq4, hf⟩ := ob hf
  refine v_callV dX11_settle_11 ⟨cb_X0_become, ml_11_142, im_X0_become⟩ se_0_X0_become (ckf_X0_become eq4) (ev_X0_become eq4) (by decide) (As := [.ref x3]) rfl (st := []) rfl (Nat.le_of_ble_eq_true rfl) rfl ?_
  refine v_aload_n dX11_settle_14 rfl ?_
  obtain ⟨x5, ex5, hf⟩ := ob hf
  refine v_getR dX11_settle_15 fl_11_49 ex5 ?_
  refine v_aload_n dX11_settle_18 rfl ?_
  obtain ⟨x6, ex6, hf⟩ := ob hf
  refine v_getR dX11_settle_19 fl_11_53 ex6 ?_
  obtain ⟨q7, eq7, hf⟩ := ob hf
  refine v_callV dX11_settle_22 ⟨cb_X0_become, ml_11_142, im_X0_become⟩ se_0_X0_become (ckf_X0_become eq7) (ev_X0_become eq7) (by decide) (As := [.ref x6]) rfl (st := []) rfl (Nat.le_of_ble_eq_true rfl) rfl ?_
  refine v_aload_n dX11_settle_25 rfl ?_
  obtain ⟨x8, ex8, hf⟩ := ob hf
  refine v_getR dX11_settle_26 fl_11_69 ex8 ?_
  obtain ⟨q9, eq9, hf⟩ := ob hf
  refine v_callV dX11_settle_29 ⟨cb_X3_forgetActs, ml_11_146, im_X3_forgetActs⟩ se_3_X3_forgetActs (ckf_X3_forgetActs eq9) (ev_X3_forgetActs eq9) (by decide) (As := []) rfl (st := []) rfl (Nat.le_of_ble_eq_true rfl) rfl ?_
  refine v_aload_n dX11_settle_32 rfl ?_
  obtain ⟨x10, ex10, hf⟩ := ob hf
  refine v_getR dX11_settle_33 fl_11_69 ex10 ?_
  refine v_iconst dX11_settle_36 (by decide) (v := 0) ?_
  obtain ⟨h11, eh11, hf⟩ := ob hf
  refine v_put dX11_settle_37 fp_11_149 (fun z => by cases z) (fun _ => rfl) (fun _ => rfl) eh11 ?_
  refine v_aload_n dX11_settle_40 rfl ?_
  obtain ⟨x12, ex12, hf⟩ := ob hf
  refine v_getR dX11_settle_41 fl_11_76 ex12 ?_
  refine v_iconst dX11_settle_44 (by decide) (v := 0) ?_
  obtain ⟨h13, eh13, hf⟩ := ob hf
  refine v_put dX11_settle_45 fp_11_153 (fun z => by cases z) (fun _ => rfl) (fun _ => rfl) eh13 ?_
  refine v_aload_n dX11_settle_48 rfl ?_
  obtain ⟨x14, ex14, hf⟩ := ob hf
  refine v_getR dX11_settle_49 fl_11_49 ex14 ?_
  obtain ⟨x15, ex15, hf⟩ := ob hf
  refine v_getI dX11_settle_52 fl_11_154 ex15 ?_
  replace hf := Option.some.inj hf
  subst hf
  exact v_iret dX11_settle_55 rfl
theorem ckf_X11_settle {h : xa_H} {l0 : Nat} {r : (Int32 × xa_H)} (hf : f_X11_settle h l0 = some r) : ck [11] h l0 = some () := by
  obtain ⟨u, e, -⟩ := ob hf
  exact e
def M_X11_shares : xa_M := (yX11_shares, cX11_shares, 4, some .int)
theorem cb_X11_shares : xa_CB M_X11_shares 2 := ⟨gws_at 1162 (by decide +kernel) rfl, gws_at 109 (by decide +kernel) rfl, by decide +kernel, Nat.le_of_ble_eq_true rfl⟩
def f_X11_shares (h : xa_H) (l0 : Nat) (l1 : Int32) (l2 : Int32) : Option Int32 :=
  (ck [11] h l0).bind fun _ =>
  (gR [11] 6 h l0).bind fun x1 =>
  (f_X0_has h x1 l1).bind fun q2 =>
  if q2 = 0 then
    some (-1 : Int32)
  else
    if l2 < 0 then
      some (-1 : Int32)
    else
      if l2 ≤ (999 : Int32) then
        (gR [11] 6 h l0).bind fun x6 =>
        (f_X0_favours h x6).bind fun q7 =>
        if q7 ≤ 0 then
          some (0 : Int32)
        else
          (gR [11] 6 h l0).bind fun x9 =>
          (f_X0_incoming h x9 l1).bind fun q10 =>
          if q7 = 0 then none else
          some ((l2 * q10) / q7)
      else
        some (-1 : Int32)
set_option maxRecDepth 20000 in
theorem ev_X11_shares {G : xa_G} {h : xa_H} {l0 : Nat} {l1 : Int32} {l2 : Int32} {r : Int32} (hf : f_X11_shares h l0 l1 l2 = some r) : xa_Ev G M_X11_shares 2 [.ref l0, .int l1, .int l2] h (some (.int r)) h := by
  refine xa_entry (by decide +kernel) (loc := [some (.ref l0), some (.int l1), some (.int l2), none]) rfl (Nat.le_of_ble_eq_true rfl) ?_
  unfold f_X11_shares at hf
  obtain ⟨u0, eu0, hf⟩ := ob hf
  refine v_aload_n dX11_shares_0 rfl ?_
  obtain ⟨x1, ex1, hf⟩ := ob hf
  refine v_getR dX11_shares_1 fl_11_49 ex1 ?_
  refine v_iload_n dX11_shares_4 rfl ?_
  obtain ⟨q2, eq2, hf⟩ := ob hf
  refine v_callV dX11_shares_5 ⟨cb_X0_has, ml_11_157, im_X0_has⟩ se_0_X0_has (ckf_X0_has eq2) (ev_X0_has eq2) (by decide) (As := [.int l1]) rfl (st := []) rfl (Nat.le_of_ble_eq_true rfl) rfl ?_
  refine v_if_eq dX11_shares_8 (tgt := 22) (by decide) (fun c3 => ?_) (fun c3 => ?_)
  · replace hf := (if_pos c3).symm.trans hf
    refine v_iconst dX11_shares_22 (by decide) (v := -1) ?_
    replace hf := Option.some.inj hf
    subst hf
    exact v_iret dX11_shares_23 rfl
  · replace hf := (if_neg c3).symm.trans hf
    refine v_iload_n dX11_shares_11 rfl ?_
    refine v_if_lt dX11_shares_12 (tgt := 22) (by decide) (fun c4 => ?_) (fun c4 => ?_)
    · replace hf := (if_pos c4).symm.trans hf
      refine v_iconst dX11_shares_22 (by decide) (v := -1) ?_
      replace hf := Option.some.inj hf
      subst hf
      exact v_iret dX11_shares_23 rfl
    · replace hf := (if_neg c4).symm.trans hf
      refine v_iload_n dX11_shares_15 rfl ?_
      refine v_sipush dX11_shares_16 (by decide) (v := 999) ?_
      refine v_icmp_le dX11_shares_19 (tgt := 24) (by decide) (fun c5 => ?_) (fun c5 => ?_)
      · replace hf := (if_pos c5).symm.trans hf
        refine v_aload_n dX11_shares_24 rfl ?_
        obtain ⟨x6, ex6, hf⟩ := ob hf
        refine v_getR dX11_shares_25 fl_11_49 ex6 ?_
        obtain ⟨q7, eq7, hf⟩ := ob hf
        refine v_callV dX11_shares_28 ⟨cb_X0_favours, ml_11_247, im_X0_favours⟩ se_0_X0_favours (ckf_X0_favours eq7) (ev_X0_favours eq7) (by decide) (As := []) rfl (st := []) rfl (Nat.le_of_ble_eq_true rfl) rfl ?_
        refine v_istore_n (i := 3) rfl dX11_shares_31 (Nat.le_of_ble_eq_true rfl) (loc' := [some (.ref l0), some (.int l1), some (.int l2), some (.int q7)]) rfl ?_
        refine v_iload_n dX11_shares_32 rfl ?_
        refine v_if_le dX11_shares_33 (tgt := 51) (by decide) (fun c8 => ?_) (fun c8 => ?_)
        · replace hf := (if_pos c8).symm.trans hf
          refine v_iconst dX11_shares_51 (by decide) (v := 0) ?_
          replace hf := Option.some.inj hf
          subst hf
          exact v_iret dX11_shares_52 rfl
        · replace hf := (if_neg c8).symm.trans hf
          refine v_iload_n dX11_shares_36 rfl ?_
          refine v_aload_n dX11_shares_37 rfl ?_
          obtain ⟨x9, ex9, hf⟩ := ob hf
          refine v_getR dX11_shares_38 fl_11_49 ex9 ?_
          refine v_iload_n dX11_shares_41 rfl ?_
          obtain ⟨q10, eq10, hf⟩ := ob hf
          refine v_callV dX11_shares_42 ⟨cb_X0_incoming, ml_11_180, im_X0_incoming⟩ se_0_X0_incoming (ckf_X0_incoming eq10) (ev_X0_incoming eq10) (by decide) (As := [.int l1]) rfl (st := [.int l2]) rfl (Nat.le_of_ble_eq_true rfl) rfl ?_
          refine v_imul dX11_shares_45 ?_
          refine v_iload_n dX11_shares_46 rfl ?_
          by_cases z11 : q7 = 0
          · replace hf := (if_pos z11).symm.trans hf
            cases hf
          replace hf := (if_neg z11).symm.trans hf
          refine v_idiv dX11_shares_47 z11 ?_
          refine v_goto dX11_shares_48 (tgt := 52) (by decide) ?_
          replace hf := Option.some.inj hf
          subst hf
          exact v_iret dX11_shares_52 rfl
      · replace hf := (if_neg c5).symm.trans hf
        refine v_iconst dX11_shares_22 (by decide) (v := -1) ?_
        replace hf := Option.some.inj hf
        subst hf
        exact v_iret dX11_shares_23 rfl
theorem ckf_X11_shares {h : xa_H} {l0 : Nat} {l1 : Int32} {l2 : Int32} {r : Int32} (hf : f_X11_shares h l0 l1 l2 = some r) : ck [11] h l0 = some () := by
  obtain ⟨u, e, -⟩ := ob hf
  exact e
def M_X11_sing : xa_M := (yX11_sing, cX11_sing, 6, some .int)
theorem cb_X11_sing : xa_CB M_X11_sing 1 := ⟨gws_at 930 (by decide +kernel) rfl, gws_at 109 (by decide +kernel) rfl, by decide +kernel, Nat.le_of_ble_eq_true rfl⟩
def f_X11_sing_b98 (h : xa_H) (l2 : Int32) : Option (Int32 × xa_H) :=
  some (l2, h)
set_option maxRecDepth 20000 in
theorem e_X11_sing_b98 {G : xa_G} : ∀ (h : xa_H) (l2 : Int32) (r : (Int32 × xa_H)), f_X11_sing_b98 h l2 = some r → xa_V G M_X11_sing 128 98 [none, none, some (.int l2), none, none, none] [] h (some (.int r.1)) r.2 := by
  intro h l2 r hf
  unfold f_X11_sing_b98 at hf
  refine v_iload_n dX11_sing_98 rfl ?_
  replace hf := Option.some.inj hf
  subst hf
  exact v_iret dX11_sing_99 rfl
def f_X11_sing_b32 : Nat → xa_H → Nat → Int32 → Int32 → Int32 → Option (Int32 × xa_H)
  | 0, _, _, _, _, _ => none
  | n + 1, h, l0, l1, l2, l3 =>
    (gR [11] 5 h l0).bind fun x1 =>
    (gR [5] 1 h x1).bind fun x2 =>
    (aI h x2 l1).bind fun x3 =>
    if x3 ≤ l3 then
      f_X11_sing_b98 h l2
    else
      (gR [11] 5 h l0).bind fun x5 =>
      (gR [5] 0 h x5).bind fun x6 =>
      (aR 5 h x6 l1).bind fun x7 =>
      (aI h x7 l3).bind fun x8 =>
      (f_X11_costOf h l0 x8).bind fun q9 =>
      (f_X11_hurdleOf q9.2 l0 x8 q9.1).bind fun q10 =>
      if q10 = (-1 : Int32) then
        (f_X11_crossFor q9.2 l0 x8 q9.1).bind fun q12 =>
        f_X11_sing_b32 n q12 l0 l1 (l2 + (1 : Int32)) (l3 + (1 : Int32))
      else
        f_X11_sing_b98 q9.2 l2
set_option maxRecDepth 20000 in
theorem e_X11_sing_b32 {G : xa_G} : ∀ (n : Nat) (h : xa_H) (l0 : Nat) (l1 : Int32) (l2 : Int32) (l3 : Int32) (r : (Int32 × xa_H)), f_X11_sing_b32 n h l0 l1 l2 l3 = some r → xa_V G M_X11_sing 128 32 [some (.ref l0), some (.int l1), some (.int l2), some (.int l3), none, none] [] h (some (.int r.1)) r.2 := by
  intro n
  induction n with
  | zero =>
    intro h l0 l1 l2 l3 r hf
    cases (show (none : Option (Int32 × xa_H)) = some r from hf)
  | succ n ih =>
    intro h l0 l1 l2 l3 r hf
    rw [f_X11_sing_b32] at hf
    refine v_iload_n dX11_sing_32 rfl ?_
    refine v_aload_n dX11_sing_33 rfl ?_
    obtain ⟨x1, ex1, hf⟩ := ob hf
    refine v_getR dX11_sing_34 fl_11_43 ex1 ?_
    obtain ⟨x2, ex2, hf⟩ := ob hf
    refine v_getR dX11_sing_37 fl_11_202 ex2 ?_
    refine v_iload_n dX11_sing_40 rfl ?_
    obtain ⟨x3, ex3, hf⟩ := ob hf
    refine v_ialoadI dX11_sing_41 ex3 ?_
    refine v_icmp_ge dX11_sing_42 (tgt := 98) (by decide) (fun c4 => ?_) (fun c4 => ?_)
    · replace hf := (if_pos c4).symm.trans hf
      exact xa_weak (loc := [none, none, some (.int l2), none, none, none]) ⟨rfl, trivial⟩ (e_X11_sing_b98 h l2 r hf)
    · replace hf := (if_neg c4).symm.trans hf
      refine v_aload_n dX11_sing_45 rfl ?_
      obtain ⟨x5, ex5, hf⟩ := ob hf
      refine v_getR dX11_sing_46 fl_11_43 ex5 ?_
      obtain ⟨x6, ex6, hf⟩ := ob hf
      refine v_getR dX11_sing_49 fl_11_198 ex6 ?_
      refine v_iload_n dX11_sing_52 rfl ?_
      obtain ⟨x7, ex7, hf⟩ := ob hf
      refine v_aaload dX11_sing_53 (t := 5) (by decide) ex7 ?_
      refine v_iload_n dX11_sing_54 rfl ?_
      obtain ⟨x8, ex8, hf⟩ := ob hf
      refine v_ialoadI dX11_sing_55 ex8 ?_
      refine v_istore dX11_sing_56 (Nat.le_of_ble_eq_true rfl) (loc' := [some (.ref l0), some (.int l1), some (.int l2), some (.int l3), some (.int x8), none]) rfl ?_
      refine v_aload_n dX11_sing_58 rfl ?_
      refine v_iload dX11_sing_59 rfl ?_
      obtain ⟨q9, eq9, hf⟩ := ob hf
      refine v_callV dX11_sing_61 ⟨cb_X11_costOf, ml_11_186, im_X11_costOf⟩ se_11_X11_costOf (ckf_X11_costOf eq9) (ev_X11_costOf eq9) (by decide) (As := [.int x8]) rfl (st := []) rfl (Nat.le_of_ble_eq_true rfl) rfl ?_
      refine v_istore dX11_sing_64 (Nat.le_of_ble_eq_true rfl) (loc' := [some (.ref l0), some (.int l1), some (.int l2), some (.int l3), some (.int x8), some (.int q9.1)]) rfl ?_
      refine v_aload_n dX11_sing_66 rfl ?_
      refine v_iload dX11_sing_67 rfl ?_
      refine v_iload dX11_sing_69 rfl ?_
      obtain ⟨q10, eq10, hf⟩ := ob hf
      refine v_callV dX11_sing_71 ⟨cb_X11_hurdleOf, ml_11_222, im_X11_hurdleOf⟩ se_11_X11_hurdleOf (ckf_X11_hurdleOf eq10) (ev_X11_hurdleOf eq10) (by decide) (As := [.int x8, .int q9.1]) rfl (st := []) rfl (Nat.le_of_ble_eq_true rfl) rfl ?_
      refine v_iconst dX11_sing_74 (by decide) (v := -1) ?_
      refine v_icmp_eq dX11_sing_75 (tgt := 81) (by decide) (fun c11 => ?_) (fun c11 => ?_)
      · replace hf := (if_pos c11).symm.trans hf
        refine v_aload_n dX11_sing_81 rfl ?_
        refine v_iload dX11_sing_82 rfl ?_
        refine v_iload dX11_sing_84 rfl ?_
        obtain ⟨q12, eq12, hf⟩ := ob hf
        refine v_callV dX11_sing_86 ⟨cb_X11_crossFor, ml_11_228, im_X11_crossFor⟩ se_11_X11_crossFor (ckf_X11_crossFor eq12) (ev_X11_crossFor eq12) (by decide) (As := [.int x8, .int q9.1]) rfl (st := []) rfl (Nat.le_of_ble_eq_true rfl) rfl ?_
        refine v_iinc dX11_sing_89 rfl (v := (l2 + (1 : Int32))) rfl (Nat.le_of_ble_eq_true rfl) (loc' := [some (.ref l0), some (.int l1), some (.int (l2 + (1 : Int32))), some (.int l3), some (.int x8), some (.int q9.1)]) rfl ?_
        refine v_iinc dX11_sing_92 rfl (v := (l3 + (1 : Int32))) rfl (Nat.le_of_ble_eq_true rfl) (loc' := [some (.ref l0), some (.int l1), some (.int (l2 + (1 : Int32))), some (.int (l3 + (1 : Int32))), some (.int x8), some (.int q9.1)]) rfl ?_
        refine v_goto dX11_sing_95 (tgt := 32) (by decide) ?_
        exact xa_weak (loc := [some (.ref l0), some (.int l1), some (.int (l2 + (1 : Int32))), some (.int (l3 + (1 : Int32))), none, none]) ⟨rfl, ⟨rfl, ⟨rfl, ⟨rfl, trivial⟩⟩⟩⟩ (ih q12 l0 l1 (l2 + (1 : Int32)) (l3 + (1 : Int32)) r hf)
      · replace hf := (if_neg c11).symm.trans hf
        refine v_goto dX11_sing_78 (tgt := 98) (by decide) ?_
        exact xa_weak (loc := [none, none, some (.int l2), none, none, none]) ⟨rfl, trivial⟩ (e_X11_sing_b98 q9.2 l2 r hf)
def f_X11_sing_b21 (h : xa_H) (l0 : Nat) : Option (Int32 × xa_H) :=
  (f_X11_refuse h l0 (0 : Int32) (-1 : Int32)).bind fun q1 =>
  some (q1.1, q1.2)
set_option maxRecDepth 20000 in
theorem e_X11_sing_b21 {G : xa_G} : ∀ (h : xa_H) (l0 : Nat) (r : (Int32 × xa_H)), f_X11_sing_b21 h l0 = some r → xa_V G M_X11_sing 128 21 [some (.ref l0), none, none, none, none, none] [] h (some (.int r.1)) r.2 := by
  intro h l0 r hf
  unfold f_X11_sing_b21 at hf
  refine v_aload_n dX11_sing_21 rfl ?_
  refine v_iconst dX11_sing_22 (by decide) (v := 0) ?_
  refine v_iconst dX11_sing_23 (by decide) (v := -1) ?_
  obtain ⟨q1, eq1, hf⟩ := ob hf
  refine v_callV dX11_sing_24 ⟨cb_X11_refuse, ml_11_225, im_X11_refuse⟩ se_11_X11_refuse (ckf_X11_refuse eq1) (ev_X11_refuse eq1) (by decide) (As := [.int (0 : Int32), .int (-1 : Int32)]) rfl (st := []) rfl (Nat.le_of_ble_eq_true rfl) rfl ?_
  replace hf := Option.some.inj hf
  subst hf
  exact v_iret dX11_sing_27 rfl
def f_X11_sing (h : xa_H) (l0 : Nat) (l1 : Int32) : Option (Int32 × xa_H) :=
  (ck [11] h l0).bind fun _ =>
  (gR [11] 5 h l0).bind fun x1 =>
  (f_X5_has h x1 l1).bind fun q2 =>
  if q2 = 0 then
    f_X11_sing_b21 h l0
  else
    (gR [11] 6 h l0).bind fun x4 =>
    (gI [0] 4 h x4).bind fun x5 =>
    if x5 = 0 then
      f_X11_sing_b21 h l0
    else
      f_X11_sing_b32 1048576 h l0 l1 (0 : Int32) (0 : Int32)
set_option maxRecDepth 20000 in
theorem ev_X11_sing {G : xa_G} {h : xa_H} {l0 : Nat} {l1 : Int32} {r : (Int32 × xa_H)} (hf : f_X11_sing h l0 l1 = some r) : xa_Ev G M_X11_sing 128 [.ref l0, .int l1] h (some (.int r.1)) r.2 := by
  refine xa_entry (by decide +kernel) (loc := [some (.ref l0), some (.int l1), none, none, none, none]) rfl (Nat.le_of_ble_eq_true rfl) ?_
  unfold f_X11_sing at hf
  obtain ⟨u0, eu0, hf⟩ := ob hf
  refine v_aload_n dX11_sing_0 rfl ?_
  obtain ⟨x1, ex1, hf⟩ := ob hf
  refine v_getR dX11_sing_1 fl_11_43 ex1 ?_
  refine v_iload_n dX11_sing_4 rfl ?_
  obtain ⟨q2, eq2, hf⟩ := ob hf
  refine v_callV dX11_sing_5 ⟨cb_X5_has, ml_11_221, im_X5_has⟩ se_5_X5_has (ckf_X5_has eq2) (ev_X5_has eq2) (by decide) (As := [.int l1]) rfl (st := []) rfl (Nat.le_of_ble_eq_true rfl) rfl ?_
  refine v_if_eq dX11_sing_8 (tgt := 21) (by decide) (fun c3 => ?_) (fun c3 => ?_)
  · replace hf := (if_pos c3).symm.trans hf
    exact xa_weak (loc := [some (.ref l0), none, none, none, none, none]) ⟨rfl, trivial⟩ (e_X11_sing_b21 h l0 r hf)
  · replace hf := (if_neg c3).symm.trans hf
    refine v_aload_n dX11_sing_11 rfl ?_
    obtain ⟨x4, ex4, hf⟩ := ob hf
    refine v_getR dX11_sing_12 fl_11_49 ex4 ?_
    obtain ⟨x5, ex5, hf⟩ := ob hf
    refine v_getI dX11_sing_15 fl_11_154 ex5 ?_
    refine v_if_ne dX11_sing_18 (tgt := 28) (by decide) (fun c6 => ?_) (fun c6 => ?_)
    · replace hf := (if_neg c6).symm.trans hf
      refine v_iconst dX11_sing_28 (by decide) (v := 0) ?_
      refine v_istore_n (i := 2) rfl dX11_sing_29 (Nat.le_of_ble_eq_true rfl) (loc' := [some (.ref l0), some (.int l1), some (.int (0 : Int32)), none, none, none]) rfl ?_
      refine v_iconst dX11_sing_30 (by decide) (v := 0) ?_
      refine v_istore_n (i := 3) rfl dX11_sing_31 (Nat.le_of_ble_eq_true rfl) (loc' := [some (.ref l0), some (.int l1), some (.int (0 : Int32)), some (.int (0 : Int32)), none, none]) rfl ?_
      exact e_X11_sing_b32 1048576 h l0 l1 (0 : Int32) (0 : Int32) r hf
    · replace hf := (if_pos c6).symm.trans hf
      exact xa_weak (loc := [some (.ref l0), none, none, none, none, none]) ⟨rfl, trivial⟩ (e_X11_sing_b21 h l0 r hf)
theorem ckf_X11_sing {h : xa_H} {l0 : Nat} {l1 : Int32} {r : (Int32 × xa_H)} (hf : f_X11_sing h l0 l1 = some r) : ck [11] h l0 = some () := by
  obtain ⟨u, e, -⟩ := ob hf
  exact e
def M_X11_status : xa_M := (yX11_status, cX11_status, 2, some .int)
theorem cb_X11_status : xa_CB M_X11_status 1 := ⟨gws_at 967 (by decide +kernel) rfl, gws_at 109 (by decide +kernel) rfl, by decide +kernel, Nat.le_of_ble_eq_true rfl⟩
def f_X11_status (h : xa_H) (l0 : Nat) (l1 : Int32) : Option Int32 :=
  (ck [11] h l0).bind fun _ =>
  if l1 < 0 then
    some (-1 : Int32)
  else
    if (6 : Int32) ≤ l1 then
      some (-1 : Int32)
    else
      (gR [11] 14 h l0).bind fun x3 =>
      (aI h x3 l1).bind fun x4 =>
      some x4
set_option maxRecDepth 20000 in
theorem ev_X11_status {G : xa_G} {h : xa_H} {l0 : Nat} {l1 : Int32} {r : Int32} (hf : f_X11_status h l0 l1 = some r) : xa_Ev G M_X11_status 0 [.ref l0, .int l1] h (some (.int r)) h := by
  refine xa_entry (by decide +kernel) (loc := [some (.ref l0), some (.int l1)]) rfl (Nat.le_of_ble_eq_true rfl) ?_
  unfold f_X11_status at hf
  obtain ⟨u0, eu0, hf⟩ := ob hf
  refine v_iload_n dX11_status_0 rfl ?_
  refine v_if_lt dX11_status_1 (tgt := 19) (by decide) (fun c1 => ?_) (fun c1 => ?_)
  · replace hf := (if_pos c1).symm.trans hf
    refine v_iconst dX11_status_19 (by decide) (v := -1) ?_
    replace hf := Option.some.inj hf
    subst hf
    exact v_iret dX11_status_20 rfl
  · replace hf := (if_neg c1).symm.trans hf
    refine v_iload_n dX11_status_4 rfl ?_
    refine v_bipush dX11_status_5 (by decide) (v := 6) ?_
    refine v_icmp_ge dX11_status_7 (tgt := 19) (by decide) (fun c2 => ?_) (fun c2 => ?_)
    · replace hf := (if_pos c2).symm.trans hf
      refine v_iconst dX11_status_19 (by decide) (v := -1) ?_
      replace hf := Option.some.inj hf
      subst hf
      exact v_iret dX11_status_20 rfl
    · replace hf := (if_neg c2).symm.trans hf
      refine v_aload_n dX11_status_10 rfl ?_
      obtain ⟨x3, ex3, hf⟩ := ob hf
      refine v_getR dX11_status_11 fl_11_94 ex3 ?_
      refine v_iload_n dX11_status_14 rfl ?_
      obtain ⟨x4, ex4, hf⟩ := ob hf
      refine v_ialoadI dX11_status_15 ex4 ?_
      refine v_goto dX11_status_16 (tgt := 20) (by decide) ?_
      replace hf := Option.some.inj hf
      subst hf
      exact v_iret dX11_status_20 rfl
theorem ckf_X11_status {h : xa_H} {l0 : Nat} {l1 : Int32} {r : Int32} (hf : f_X11_status h l0 l1 = some r) : ck [11] h l0 = some () := by
  obtain ⟨u, e, -⟩ := ob hf
  exact e
def M_X11_straight : xa_M := (yX11_straight, cX11_straight, 2, some .int)
theorem cb_X11_straight : xa_CB M_X11_straight 1 := ⟨gws_at 1069 (by decide +kernel) rfl, gws_at 109 (by decide +kernel) rfl, by decide +kernel, Nat.le_of_ble_eq_true rfl⟩
def f_X11_straight (h : xa_H) (l0 : Nat) (l1 : Int32) : Option (Int32 × xa_H) :=
  (ck [11] h l0).bind fun _ =>
  (gR [11] 6 h l0).bind fun x1 =>
  (gI [0] 4 h x1).bind fun x2 =>
  if x2 = 0 then
    some ((-1 : Int32), h)
  else
    if l1 < 0 then
      some ((-1 : Int32), h)
    else
      if l1 ≤ (1 : Int32) then
        (gR [11] 12 h l0).bind fun x6 =>
        (gR [11] 6 h l0).bind fun x7 =>
        (f_X10_search h x6 x7 (4 : Int32) (1 : Int32)).bind fun q8 =>
        (gR [11] 12 q8 l0).bind fun x9 =>
        (gI [10] 8 q8 x9).bind fun x10 =>
        if x10 = 0 then
          if l1 = 0 then
            (gR [11] 12 q8 l0).bind fun x15 =>
            (gI [10] 9 q8 x15).bind fun x16 =>
            some (x16, q8)
          else
            (gR [11] 12 q8 l0).bind fun x13 =>
            (gI [10] 10 q8 x13).bind fun x14 =>
            some (x14, q8)
        else
          some ((-1 : Int32), q8)
      else
        some ((-1 : Int32), h)
set_option maxRecDepth 20000 in
theorem ev_X11_straight {G : xa_G} {h : xa_H} {l0 : Nat} {l1 : Int32} {r : (Int32 × xa_H)} (hf : f_X11_straight h l0 l1 = some r) : xa_Ev G M_X11_straight 14 [.ref l0, .int l1] h (some (.int r.1)) r.2 := by
  refine xa_entry (by decide +kernel) (loc := [some (.ref l0), some (.int l1)]) rfl (Nat.le_of_ble_eq_true rfl) ?_
  unfold f_X11_straight at hf
  obtain ⟨u0, eu0, hf⟩ := ob hf
  refine v_aload_n dX11_straight_0 rfl ?_
  obtain ⟨x1, ex1, hf⟩ := ob hf
  refine v_getR dX11_straight_1 fl_11_49 ex1 ?_
  obtain ⟨x2, ex2, hf⟩ := ob hf
  refine v_getI dX11_straight_4 fl_11_154 ex2 ?_
  refine v_if_eq dX11_straight_7 (tgt := 19) (by decide) (fun c3 => ?_) (fun c3 => ?_)
  · replace hf := (if_pos c3).symm.trans hf
    refine v_iconst dX11_straight_19 (by decide) (v := -1) ?_
    replace hf := Option.some.inj hf
    subst hf
    exact v_iret dX11_straight_20 rfl
  · replace hf := (if_neg c3).symm.trans hf
    refine v_iload_n dX11_straight_10 rfl ?_
    refine v_if_lt dX11_straight_11 (tgt := 19) (by decide) (fun c4 => ?_) (fun c4 => ?_)
    · replace hf := (if_pos c4).symm.trans hf
      refine v_iconst dX11_straight_19 (by decide) (v := -1) ?_
      replace hf := Option.some.inj hf
      subst hf
      exact v_iret dX11_straight_20 rfl
    · replace hf := (if_neg c4).symm.trans hf
      refine v_iload_n dX11_straight_14 rfl ?_
      refine v_iconst dX11_straight_15 (by decide) (v := 1) ?_
      refine v_icmp_le dX11_straight_16 (tgt := 21) (by decide) (fun c5 => ?_) (fun c5 => ?_)
      · replace hf := (if_pos c5).symm.trans hf
        refine v_aload_n dX11_straight_21 rfl ?_
        obtain ⟨x6, ex6, hf⟩ := ob hf
        refine v_getR dX11_straight_22 fl_11_83 ex6 ?_
        refine v_aload_n dX11_straight_25 rfl ?_
        obtain ⟨x7, ex7, hf⟩ := ob hf
        refine v_getR dX11_straight_26 fl_11_49 ex7 ?_
        refine v_iconst dX11_straight_29 (by decide) (v := 4) ?_
        refine v_iconst dX11_straight_30 (by decide) (v := 1) ?_
        obtain ⟨q8, eq8, hf⟩ := ob hf
        refine v_callV dX11_straight_31 ⟨cb_X10_search, ml_11_314, im_X10_search⟩ se_10_X10_search (ckf_X10_search eq8) (ev_X10_search eq8) (by decide) (As := [.ref x7, .int (4 : Int32), .int (1 : Int32)]) rfl (st := []) rfl (Nat.le_of_ble_eq_true rfl) rfl ?_
        refine v_aload_n dX11_straight_34 rfl ?_
        obtain ⟨x9, ex9, hf⟩ := ob hf
        refine v_getR dX11_straight_35 fl_11_83 ex9 ?_
        obtain ⟨x10, ex10, hf⟩ := ob hf
        refine v_getI dX11_straight_38 fl_11_321 ex10 ?_
        refine v_if_eq dX11_straight_41 (tgt := 46) (by decide) (fun c11 => ?_) (fun c11 => ?_)
        · replace hf := (if_pos c11).symm.trans hf
          refine v_iload_n dX11_straight_46 rfl ?_
          refine v_if_ne dX11_straight_47 (tgt := 60) (by decide) (fun c12 => ?_) (fun c12 => ?_)
          · replace hf := (if_neg c12).symm.trans hf
            refine v_aload_n dX11_straight_60 rfl ?_
            obtain ⟨x13, ex13, hf⟩ := ob hf
            refine v_getR dX11_straight_61 fl_11_83 ex13 ?_
            obtain ⟨x14, ex14, hf⟩ := ob hf
            refine v_getI dX11_straight_64 fl_11_327 ex14 ?_
            replace hf := Option.some.inj hf
            subst hf
            exact v_iret dX11_straight_67 rfl
          · replace hf := (if_pos c12).symm.trans hf
            refine v_aload_n dX11_straight_50 rfl ?_
            obtain ⟨x15, ex15, hf⟩ := ob hf
            refine v_getR dX11_straight_51 fl_11_83 ex15 ?_
            obtain ⟨x16, ex16, hf⟩ := ob hf
            refine v_getI dX11_straight_54 fl_11_324 ex16 ?_
            refine v_goto dX11_straight_57 (tgt := 67) (by decide) ?_
            replace hf := Option.some.inj hf
            subst hf
            exact v_iret dX11_straight_67 rfl
        · replace hf := (if_neg c11).symm.trans hf
          refine v_iconst dX11_straight_44 (by decide) (v := -1) ?_
          replace hf := Option.some.inj hf
          subst hf
          exact v_iret dX11_straight_45 rfl
      · replace hf := (if_neg c5).symm.trans hf
        refine v_iconst dX11_straight_19 (by decide) (v := -1) ?_
        replace hf := Option.some.inj hf
        subst hf
        exact v_iret dX11_straight_20 rfl
theorem ckf_X11_straight {h : xa_H} {l0 : Nat} {l1 : Int32} {r : (Int32 × xa_H)} (hf : f_X11_straight h l0 l1 = some r) : ck [11] h l0 = some () := by
  obtain ⟨u, e, -⟩ := ob hf
  exact e
def M_X11_sung : xa_M := (yX11_sung, cX11_sung, 3, some .int)
theorem cb_X11_sung : xa_CB M_X11_sung 2 := ⟨gws_at 828 (by decide +kernel) rfl, gws_at 109 (by decide +kernel) rfl, by decide +kernel, Nat.le_of_ble_eq_true rfl⟩
def f_X11_sung (h : xa_H) (l0 : Nat) (l1 : Int32) (l2 : Int32) : Option Int32 :=
  (ck [11] h l0).bind fun _ =>
  (gR [11] 5 h l0).bind fun x1 =>
  (f_X5_has h x1 l1).bind fun q2 =>
  if q2 = 0 then
    some (-1 : Int32)
  else
    if l2 = (-1 : Int32) then
      (gR [11] 5 h l0).bind fun x14 =>
      (gR [5] 1 h x14).bind fun x15 =>
      (aI h x15 l1).bind fun x16 =>
      some x16
    else
      if l2 < 0 then
        some (-1 : Int32)
      else
        (gR [11] 5 h l0).bind fun x6 =>
        (gR [5] 1 h x6).bind fun x7 =>
        (aI h x7 l1).bind fun x8 =>
        if x8 ≤ l2 then
          some (-1 : Int32)
        else
          (gR [11] 5 h l0).bind fun x10 =>
          (gR [5] 0 h x10).bind fun x11 =>
          (aR 5 h x11 l1).bind fun x12 =>
          (aI h x12 l2).bind fun x13 =>
          some x13
set_option maxRecDepth 20000 in
theorem ev_X11_sung {G : xa_G} {h : xa_H} {l0 : Nat} {l1 : Int32} {l2 : Int32} {r : Int32} (hf : f_X11_sung h l0 l1 l2 = some r) : xa_Ev G M_X11_sung 1 [.ref l0, .int l1, .int l2] h (some (.int r)) h := by
  refine xa_entry (by decide +kernel) (loc := [some (.ref l0), some (.int l1), some (.int l2)]) rfl (Nat.le_of_ble_eq_true rfl) ?_
  unfold f_X11_sung at hf
  obtain ⟨u0, eu0, hf⟩ := ob hf
  refine v_aload_n dX11_sung_0 rfl ?_
  obtain ⟨x1, ex1, hf⟩ := ob hf
  refine v_getR dX11_sung_1 fl_11_43 ex1 ?_
  refine v_iload_n dX11_sung_4 rfl ?_
  obtain ⟨q2, eq2, hf⟩ := ob hf
  refine v_callV dX11_sung_5 ⟨cb_X5_has, ml_11_221, im_X5_has⟩ se_5_X5_has (ckf_X5_has eq2) (ev_X5_has eq2) (by decide) (As := [.int l1]) rfl (st := []) rfl (Nat.le_of_ble_eq_true rfl) rfl ?_
  refine v_if_ne dX11_sung_8 (tgt := 13) (by decide) (fun c3 => ?_) (fun c3 => ?_)
  · replace hf := (if_neg c3).symm.trans hf
    refine v_iload_n dX11_sung_13 rfl ?_
    refine v_iconst dX11_sung_14 (by decide) (v := -1) ?_
    refine v_icmp_ne dX11_sung_15 (tgt := 28) (by decide) (fun c4 => ?_) (fun c4 => ?_)
    · replace hf := (if_neg c4).symm.trans hf
      refine v_iload_n dX11_sung_28 rfl ?_
      refine v_if_lt dX11_sung_29 (tgt := 59) (by decide) (fun c5 => ?_) (fun c5 => ?_)
      · replace hf := (if_pos c5).symm.trans hf
        refine v_iconst dX11_sung_59 (by decide) (v := -1) ?_
        replace hf := Option.some.inj hf
        subst hf
        exact v_iret dX11_sung_60 rfl
      · replace hf := (if_neg c5).symm.trans hf
        refine v_iload_n dX11_sung_32 rfl ?_
        refine v_aload_n dX11_sung_33 rfl ?_
        obtain ⟨x6, ex6, hf⟩ := ob hf
        refine v_getR dX11_sung_34 fl_11_43 ex6 ?_
        obtain ⟨x7, ex7, hf⟩ := ob hf
        refine v_getR dX11_sung_37 fl_11_202 ex7 ?_
        refine v_iload_n dX11_sung_40 rfl ?_
        obtain ⟨x8, ex8, hf⟩ := ob hf
        refine v_ialoadI dX11_sung_41 ex8 ?_
        refine v_icmp_ge dX11_sung_42 (tgt := 59) (by decide) (fun c9 => ?_) (fun c9 => ?_)
        · replace hf := (if_pos c9).symm.trans hf
          refine v_iconst dX11_sung_59 (by decide) (v := -1) ?_
          replace hf := Option.some.inj hf
          subst hf
          exact v_iret dX11_sung_60 rfl
        · replace hf := (if_neg c9).symm.trans hf
          refine v_aload_n dX11_sung_45 rfl ?_
          obtain ⟨x10, ex10, hf⟩ := ob hf
          refine v_getR dX11_sung_46 fl_11_43 ex10 ?_
          obtain ⟨x11, ex11, hf⟩ := ob hf
          refine v_getR dX11_sung_49 fl_11_198 ex11 ?_
          refine v_iload_n dX11_sung_52 rfl ?_
          obtain ⟨x12, ex12, hf⟩ := ob hf
          refine v_aaload dX11_sung_53 (t := 5) (by decide) ex12 ?_
          refine v_iload_n dX11_sung_54 rfl ?_
          obtain ⟨x13, ex13, hf⟩ := ob hf
          refine v_ialoadI dX11_sung_55 ex13 ?_
          refine v_goto dX11_sung_56 (tgt := 60) (by decide) ?_
          replace hf := Option.some.inj hf
          subst hf
          exact v_iret dX11_sung_60 rfl
    · replace hf := (if_pos c4).symm.trans hf
      refine v_aload_n dX11_sung_18 rfl ?_
      obtain ⟨x14, ex14, hf⟩ := ob hf
      refine v_getR dX11_sung_19 fl_11_43 ex14 ?_
      obtain ⟨x15, ex15, hf⟩ := ob hf
      refine v_getR dX11_sung_22 fl_11_202 ex15 ?_
      refine v_iload_n dX11_sung_25 rfl ?_
      obtain ⟨x16, ex16, hf⟩ := ob hf
      refine v_ialoadI dX11_sung_26 ex16 ?_
      replace hf := Option.some.inj hf
      subst hf
      exact v_iret dX11_sung_27 rfl
  · replace hf := (if_pos c3).symm.trans hf
    refine v_iconst dX11_sung_11 (by decide) (v := -1) ?_
    replace hf := Option.some.inj hf
    subst hf
    exact v_iret dX11_sung_12 rfl
theorem ckf_X11_sung {h : xa_H} {l0 : Nat} {l1 : Int32} {l2 : Int32} {r : Int32} (hf : f_X11_sung h l0 l1 l2 = some r) : ck [11] h l0 = some () := by
  obtain ⟨u, e, -⟩ := ob hf
  exact e
def M_X11_text : xa_M := (yX11_text, cX11_text, 3, some .int)
theorem cb_X11_text : xa_CB M_X11_text 1 := ⟨gws_at 785 (by decide +kernel) rfl, gws_at 109 (by decide +kernel) rfl, by decide +kernel, Nat.le_of_ble_eq_true rfl⟩
def f_X11_text_b99 (h : xa_H) (l2 : Int32) : Option (Int32 × xa_H) :=
  some (l2, h)
set_option maxRecDepth 20000 in
theorem e_X11_text_b99 {G : xa_G} : ∀ (h : xa_H) (l2 : Int32) (r : (Int32 × xa_H)), f_X11_text_b99 h l2 = some r → xa_V G M_X11_text 128 99 [none, none, some (.int l2)] [] h (some (.int r.1)) r.2 := by
  intro h l2 r hf
  unfold f_X11_text_b99 at hf
  refine v_iload_n dX11_text_99 rfl ?_
  replace hf := Option.some.inj hf
  subst hf
  exact v_iret dX11_text_100 rfl
def f_X11_text_b89 (h : xa_H) (l0 : Nat) (l2 : Int32) : Option (Int32 × xa_H) :=
  if l2 = (-1 : Int32) then
    f_X11_text_b99 h l2
  else
    (xp [11] 16 h l0 (.int (0 : Int32))).bind fun h2 =>
    f_X11_text_b99 h2 l2
set_option maxRecDepth 20000 in
theorem e_X11_text_b89 {G : xa_G} : ∀ (h : xa_H) (l0 : Nat) (l2 : Int32) (r : (Int32 × xa_H)), f_X11_text_b89 h l0 l2 = some r → xa_V G M_X11_text 128 89 [some (.ref l0), none, some (.int l2)] [] h (some (.int r.1)) r.2 := by
  intro h l0 l2 r hf
  unfold f_X11_text_b89 at hf
  refine v_iload_n dX11_text_89 rfl ?_
  refine v_iconst dX11_text_90 (by decide) (v := -1) ?_
  refine v_icmp_eq dX11_text_91 (tgt := 99) (by decide) (fun c1 => ?_) (fun c1 => ?_)
  · replace hf := (if_pos c1).symm.trans hf
    exact xa_weak (loc := [none, none, some (.int l2)]) ⟨rfl, trivial⟩ (e_X11_text_b99 h l2 r hf)
  · replace hf := (if_neg c1).symm.trans hf
    refine v_aload_n dX11_text_94 rfl ?_
    refine v_iconst dX11_text_95 (by decide) (v := 0) ?_
    obtain ⟨h2, eh2, hf⟩ := ob hf
    refine v_put dX11_text_96 fp_11_100 (fun z => by cases z) (fun _ => rfl) (fun _ => rfl) eh2 ?_
    exact xa_weak (loc := [none, none, some (.int l2)]) ⟨rfl, trivial⟩ (e_X11_text_b99 h2 l2 r hf)
def f_X11_text (h : xa_H) (l0 : Nat) (l1 : Int32) : Option (Int32 × xa_H) :=
  (ck [11] h l0).bind fun _ =>
  (f_X11_fault h l0 l1).bind fun q1 =>
  if q1.1 = (-1 : Int32) then
    if l1 = (0 : Int32) then
      (f_X11_settle q1.2 l0).bind fun q4 =>
      f_X11_text_b89 q4.2 l0 q4.1
    else if l1 = (1 : Int32) then
      (gR [11] 4 q1.2 l0).bind fun x6 =>
      (gR [11] 0 q1.2 l0).bind fun x7 =>
      (gI [11] 16 q1.2 l0).bind fun x8 =>
      (f_X5_put q1.2 x6 x7 x8).bind fun q9 =>
      f_X11_text_b89 q9.2 l0 q9.1
    else 
      (gR [11] 5 q1.2 l0).bind fun x10 =>
      (gR [11] 3 q1.2 l0).bind fun x11 =>
      (gR [8] 4 q1.2 x11).bind fun x12 =>
      (gR [11] 3 q1.2 l0).bind fun x13 =>
      (gI [8] 5 q1.2 x13).bind fun x14 =>
      (f_X5_put q1.2 x10 x12 x14).bind fun q15 =>
      f_X11_text_b89 q15.2 l0 q15.1
  else
    some ((-1 : Int32), q1.2)
set_option maxRecDepth 20000 in
theorem ev_X11_text {G : xa_G} {h : xa_H} {l0 : Nat} {l1 : Int32} {r : (Int32 × xa_H)} (hf : f_X11_text h l0 l1 = some r) : xa_Ev G M_X11_text 128 [.ref l0, .int l1] h (some (.int r.1)) r.2 := by
  refine xa_entry (by decide +kernel) (loc := [some (.ref l0), some (.int l1), none]) rfl (Nat.le_of_ble_eq_true rfl) ?_
  unfold f_X11_text at hf
  obtain ⟨u0, eu0, hf⟩ := ob hf
  refine v_aload_n dX11_text_0 rfl ?_
  refine v_iload_n dX11_text_1 rfl ?_
  obtain ⟨q1, eq1, hf⟩ := ob hf
  refine v_callV dX11_text_2 ⟨cb_X11_fault, ml_11_123, im_X11_fault⟩ se_11_X11_fault (ckf_X11_fault eq1) (ev_X11_fault eq1) (by decide) (As := [.int l1]) rfl (st := []) rfl (Nat.le_of_ble_eq_true rfl) rfl ?_
  refine v_iconst dX11_text_5 (by decide) (v := -1) ?_
  refine v_icmp_eq dX11_text_6 (tgt := 11) (by decide) (fun c2 => ?_) (fun c2 => ?_)
  · replace hf := (if_pos c2).symm.trans hf
    refine v_iload_n dX11_text_11 rfl ?_
    by_cases c3 : l1 = (0 : Int32)
    · replace hf := (if_pos c3).symm.trans hf
      refine v_lookup dX11_text_12 (by decide) (off := 28) (by rw [c3]; decide) (tgt := 40) (by decide) ?_
      refine v_aload_n dX11_text_40 rfl ?_
      obtain ⟨q4, eq4, hf⟩ := ob hf
      refine v_callV dX11_text_41 ⟨cb_X11_settle, ml_11_126, im_X11_settle⟩ se_11_X11_settle (ckf_X11_settle eq4) (ev_X11_settle eq4) (by decide) (As := []) rfl (st := []) rfl (Nat.le_of_ble_eq_true rfl) rfl ?_
      refine v_istore_n (i := 2) rfl dX11_text_44 (Nat.le_of_ble_eq_true rfl) (loc' := [some (.ref l0), some (.int l1), some (.int q4.1)]) rfl ?_
      refine v_goto dX11_text_45 (tgt := 89) (by decide) ?_
      exact xa_weak (loc := [some (.ref l0), none, some (.int q4.1)]) ⟨rfl, ⟨rfl, trivial⟩⟩ (e_X11_text_b89 q4.2 l0 q4.1 r hf)
    replace hf := (if_neg c3).symm.trans hf
    by_cases c5 : l1 = (1 : Int32)
    · replace hf := (if_pos c5).symm.trans hf
      refine v_lookup dX11_text_12 (by decide) (off := 36) (by rw [c5]; decide) (tgt := 48) (by decide) ?_
      refine v_aload_n dX11_text_48 rfl ?_
      obtain ⟨x6, ex6, hf⟩ := ob hf
      refine v_getR dX11_text_49 fl_11_39 ex6 ?_
      refine v_aload_n dX11_text_52 rfl ?_
      obtain ⟨x7, ex7, hf⟩ := ob hf
      refine v_getR dX11_text_53 fl_11_9 ex7 ?_
      refine v_aload_n dX11_text_56 rfl ?_
      obtain ⟨x8, ex8, hf⟩ := ob hf
      refine v_getI dX11_text_57 fl_11_100 ex8 ?_
      obtain ⟨q9, eq9, hf⟩ := ob hf
      refine v_callV dX11_text_60 ⟨cb_X5_put, ml_11_130, im_X5_put⟩ se_5_X5_put (ckf_X5_put eq9) (ev_X5_put eq9) (by decide) (As := [.ref x7, .int x8]) rfl (st := []) rfl (Nat.le_of_ble_eq_true rfl) rfl ?_
      refine v_istore_n (i := 2) rfl dX11_text_63 (Nat.le_of_ble_eq_true rfl) (loc' := [some (.ref l0), some (.int l1), some (.int q9.1)]) rfl ?_
      refine v_goto dX11_text_64 (tgt := 89) (by decide) ?_
      exact xa_weak (loc := [some (.ref l0), none, some (.int q9.1)]) ⟨rfl, ⟨rfl, trivial⟩⟩ (e_X11_text_b89 q9.2 l0 q9.1 r hf)
    replace hf := (if_neg c5).symm.trans hf
    refine v_lookup dX11_text_12 (by decide) (off := 55) (by show Op.lookupswitch.offset [(0, 28), (1, 36)] 55 (l1).toInt = _; rw [lv_osw c3 (k := 0) (by decide), lv_osw c5 (k := 1) (by decide)]; rfl) (tgt := 67) (by decide) ?_
    refine v_aload_n dX11_text_67 rfl ?_
    obtain ⟨x10, ex10, hf⟩ := ob hf
    refine v_getR dX11_text_68 fl_11_43 ex10 ?_
    refine v_aload_n dX11_text_71 rfl ?_
    obtain ⟨x11, ex11, hf⟩ := ob hf
    refine v_getR dX11_text_72 fl_11_30 ex11 ?_
    obtain ⟨x12, ex12, hf⟩ := ob hf
    refine v_getR dX11_text_75 fl_11_133 ex12 ?_
    refine v_aload_n dX11_text_78 rfl ?_
    obtain ⟨x13, ex13, hf⟩ := ob hf
    refine v_getR dX11_text_79 fl_11_30 ex13 ?_
    obtain ⟨x14, ex14, hf⟩ := ob hf
    refine v_getI dX11_text_82 fl_11_136 ex14 ?_
    obtain ⟨q15, eq15, hf⟩ := ob hf
    refine v_callV dX11_text_85 ⟨cb_X5_put, ml_11_130, im_X5_put⟩ se_5_X5_put (ckf_X5_put eq15) (ev_X5_put eq15) (by decide) (As := [.ref x12, .int x14]) rfl (st := []) rfl (Nat.le_of_ble_eq_true rfl) rfl ?_
    refine v_istore_n (i := 2) rfl dX11_text_88 (Nat.le_of_ble_eq_true rfl) (loc' := [some (.ref l0), some (.int l1), some (.int q15.1)]) rfl ?_
    exact xa_weak (loc := [some (.ref l0), none, some (.int q15.1)]) ⟨rfl, ⟨rfl, trivial⟩⟩ (e_X11_text_b89 q15.2 l0 q15.1 r hf)
  · replace hf := (if_neg c2).symm.trans hf
    refine v_iconst dX11_text_9 (by decide) (v := -1) ?_
    replace hf := Option.some.inj hf
    subst hf
    exact v_iret dX11_text_10 rfl
theorem ckf_X11_text {h : xa_H} {l0 : Nat} {l1 : Int32} {r : (Int32 × xa_H)} (hf : f_X11_text h l0 l1 = some r) : ck [11] h l0 = some () := by
  obtain ⟨u, e, -⟩ := ob hf
  exact e
def M_X11_undo : xa_M := (yX11_undo, cX11_undo, 1, some .int)
theorem cb_X11_undo : xa_CB M_X11_undo 0 := ⟨gws_at 971 (by decide +kernel) rfl, gws_at 109 (by decide +kernel) rfl, by decide +kernel, Nat.le_of_ble_eq_true rfl⟩
def f_X11_undo (h : xa_H) (l0 : Nat) : Option (Int32 × xa_H) :=
  (ck [11] h l0).bind fun _ =>
  (gR [11] 10 h l0).bind fun x1 =>
  (gR [11] 6 h l0).bind fun x2 =>
  (f_X3_recall h x1 x2).bind fun q3 =>
  if q3.1 = 0 then
    some ((-1 : Int32), q3.2)
  else
    (gR [11] 10 q3.2 l0).bind fun x5 =>
    (gI [3] 4 q3.2 x5).bind fun x6 =>
    some (x6, q3.2)
set_option maxRecDepth 20000 in
theorem ev_X11_undo {G : xa_G} {h : xa_H} {l0 : Nat} {r : (Int32 × xa_H)} (hf : f_X11_undo h l0 = some r) : xa_Ev G M_X11_undo 3 [.ref l0] h (some (.int r.1)) r.2 := by
  refine xa_entry (by decide +kernel) (loc := [some (.ref l0)]) rfl (Nat.le_of_ble_eq_true rfl) ?_
  unfold f_X11_undo at hf
  obtain ⟨u0, eu0, hf⟩ := ob hf
  refine v_aload_n dX11_undo_0 rfl ?_
  obtain ⟨x1, ex1, hf⟩ := ob hf
  refine v_getR dX11_undo_1 fl_11_69 ex1 ?_
  refine v_aload_n dX11_undo_4 rfl ?_
  obtain ⟨x2, ex2, hf⟩ := ob hf
  refine v_getR dX11_undo_5 fl_11_49 ex2 ?_
  obtain ⟨q3, eq3, hf⟩ := ob hf
  refine v_callV dX11_undo_8 ⟨cb_X3_recall, ml_11_282, im_X3_recall⟩ se_3_X3_recall (ckf_X3_recall eq3) (ev_X3_recall eq3) (by decide) (As := [.ref x2]) rfl (st := []) rfl (Nat.le_of_ble_eq_true rfl) rfl ?_
  refine v_if_eq dX11_undo_11 (tgt := 24) (by decide) (fun c4 => ?_) (fun c4 => ?_)
  · replace hf := (if_pos c4).symm.trans hf
    refine v_iconst dX11_undo_24 (by decide) (v := -1) ?_
    replace hf := Option.some.inj hf
    subst hf
    exact v_iret dX11_undo_25 rfl
  · replace hf := (if_neg c4).symm.trans hf
    refine v_aload_n dX11_undo_14 rfl ?_
    obtain ⟨x5, ex5, hf⟩ := ob hf
    refine v_getR dX11_undo_15 fl_11_69 ex5 ?_
    obtain ⟨x6, ex6, hf⟩ := ob hf
    refine v_getI dX11_undo_18 fl_11_286 ex6 ?_
    refine v_goto dX11_undo_21 (tgt := 25) (by decide) ?_
    replace hf := Option.some.inj hf
    subst hf
    exact v_iret dX11_undo_25 rfl
theorem ckf_X11_undo {h : xa_H} {l0 : Nat} {r : (Int32 × xa_H)} (hf : f_X11_undo h l0 = some r) : ck [11] h l0 = some () := by
  obtain ⟨u, e, -⟩ := ob hf
  exact e
def M_X11_worthAfter : xa_M := (yX11_worthAfter, cX11_worthAfter, 4, some .int)
theorem cb_X11_worthAfter : xa_CB M_X11_worthAfter 3 := ⟨gws_at 1005 (by decide +kernel) rfl, gws_at 109 (by decide +kernel) rfl, by decide +kernel, Nat.le_of_ble_eq_true rfl⟩
def f_X11_worthAfter (h : xa_H) (l0 : Nat) (l1 : Int32) (l2 : Int32) (l3 : Int32) : Option (Int32 × xa_H) :=
  (ck [11] h l0).bind fun _ =>
  (gR [11] 6 h l0).bind fun x1 =>
  (f_X0_has h x1 l3).bind fun q2 =>
  if q2 = 0 then
    some ((-1000000 : Int32), h)
  else
    (f_X11_sungApart h l0 l1 l2).bind fun q4 =>
    if q4.1 = 0 then
      some ((-1000000 : Int32), q4.2)
    else
      (gR [11] 8 q4.2 l0).bind fun x6 =>
      (gR [0] 1 q4.2 x6).bind fun x7 =>
      (aI q4.2 x7 l3).bind fun x8 =>
      some (x8, q4.2)
set_option maxRecDepth 20000 in
theorem ev_X11_worthAfter {G : xa_G} {h : xa_H} {l0 : Nat} {l1 : Int32} {l2 : Int32} {l3 : Int32} {r : (Int32 × xa_H)} (hf : f_X11_worthAfter h l0 l1 l2 l3 = some r) : xa_Ev G M_X11_worthAfter 5 [.ref l0, .int l1, .int l2, .int l3] h (some (.int r.1)) r.2 := by
  refine xa_entry (by decide +kernel) (loc := [some (.ref l0), some (.int l1), some (.int l2), some (.int l3)]) rfl (Nat.le_of_ble_eq_true rfl) ?_
  unfold f_X11_worthAfter at hf
  obtain ⟨u0, eu0, hf⟩ := ob hf
  refine v_aload_n dX11_worthAfter_0 rfl ?_
  obtain ⟨x1, ex1, hf⟩ := ob hf
  refine v_getR dX11_worthAfter_1 fl_11_49 ex1 ?_
  refine v_iload_n dX11_worthAfter_4 rfl ?_
  obtain ⟨q2, eq2, hf⟩ := ob hf
  refine v_callV dX11_worthAfter_5 ⟨cb_X0_has, ml_11_157, im_X0_has⟩ se_0_X0_has (ckf_X0_has eq2) (ev_X0_has eq2) (by decide) (As := [.int l3]) rfl (st := []) rfl (Nat.le_of_ble_eq_true rfl) rfl ?_
  refine v_if_eq dX11_worthAfter_8 (tgt := 20) (by decide) (fun c3 => ?_) (fun c3 => ?_)
  · replace hf := (if_pos c3).symm.trans hf
    refine v_ldc dX11_worthAfter_20 rfl co_11_220 ?_
    replace hf := Option.some.inj hf
    subst hf
    exact v_iret dX11_worthAfter_22 rfl
  · replace hf := (if_neg c3).symm.trans hf
    refine v_aload_n dX11_worthAfter_11 rfl ?_
    refine v_iload_n dX11_worthAfter_12 rfl ?_
    refine v_iload_n dX11_worthAfter_13 rfl ?_
    obtain ⟨q4, eq4, hf⟩ := ob hf
    refine v_callV dX11_worthAfter_14 ⟨cb_X11_sungApart, ml_11_294, im_X11_sungApart⟩ se_11_X11_sungApart (ckf_X11_sungApart eq4) (ev_X11_sungApart eq4) (by decide) (As := [.int l1, .int l2]) rfl (st := []) rfl (Nat.le_of_ble_eq_true rfl) rfl ?_
    refine v_if_ne dX11_worthAfter_17 (tgt := 23) (by decide) (fun c5 => ?_) (fun c5 => ?_)
    · replace hf := (if_neg c5).symm.trans hf
      refine v_aload_n dX11_worthAfter_23 rfl ?_
      obtain ⟨x6, ex6, hf⟩ := ob hf
      refine v_getR dX11_worthAfter_24 fl_11_56 ex6 ?_
      obtain ⟨x7, ex7, hf⟩ := ob hf
      refine v_getR dX11_worthAfter_27 fl_11_168 ex7 ?_
      refine v_iload_n dX11_worthAfter_30 rfl ?_
      obtain ⟨x8, ex8, hf⟩ := ob hf
      refine v_ialoadI dX11_worthAfter_31 ex8 ?_
      replace hf := Option.some.inj hf
      subst hf
      exact v_iret dX11_worthAfter_32 rfl
    · replace hf := (if_pos c5).symm.trans hf
      refine v_ldc dX11_worthAfter_20 rfl co_11_220 ?_
      replace hf := Option.some.inj hf
      subst hf
      exact v_iret dX11_worthAfter_22 rfl
theorem ckf_X11_worthAfter {h : xa_H} {l0 : Nat} {l1 : Int32} {l2 : Int32} {l3 : Int32} {r : (Int32 × xa_H)} (hf : f_X11_worthAfter h l0 l1 l2 l3 = some r) : ck [11] h l0 = some () := by
  obtain ⟨u, e, -⟩ := ob hf
  exact e
def M_X11_years : xa_M := (yX11_years, cX11_years, 7, some .int)
theorem cb_X11_years : xa_CB M_X11_years 2 := ⟨gws_at 951 (by decide +kernel) rfl, gws_at 109 (by decide +kernel) rfl, by decide +kernel, Nat.le_of_ble_eq_true rfl⟩
def f_X11_years_b44 : Nat → xa_H → Nat → Int32 → Int64 → Int32 → Option (Int32 × xa_H)
  | 0, _, _, _, _, _ => none
  | n + 1, h, l0, l1, l4, l6 =>
    if l1 ≤ l6 then
      (gR [11] 6 h l0).bind fun x2 =>
      (gI [0] 8 h x2).bind fun x3 =>
      some (x3, h)
    else
      (f_X11_pass h l0 l4).bind fun q4 =>
      f_X11_years_b44 n q4.2 l0 l1 q4.1 (l6 + (1 : Int32))
set_option maxRecDepth 20000 in
theorem e_X11_years_b44 {G : xa_G} : ∀ (n : Nat) (h : xa_H) (l0 : Nat) (l1 : Int32) (l4 : Int64) (l6 : Int32) (r : (Int32 × xa_H)), f_X11_years_b44 n h l0 l1 l4 l6 = some r → xa_V G M_X11_years 5 44 [some (.ref l0), some (.int l1), none, none, some (.long l4), none, some (.int l6)] [] h (some (.int r.1)) r.2 := by
  intro n
  induction n with
  | zero =>
    intro h l0 l1 l4 l6 r hf
    cases (show (none : Option (Int32 × xa_H)) = some r from hf)
  | succ n ih =>
    intro h l0 l1 l4 l6 r hf
    rw [f_X11_years_b44] at hf
    refine v_iload dX11_years_44 rfl ?_
    refine v_iload_n dX11_years_46 rfl ?_
    refine v_icmp_ge dX11_years_47 (tgt := 64) (by decide) (fun c1 => ?_) (fun c1 => ?_)
    · replace hf := (if_pos c1).symm.trans hf
      refine v_aload_n dX11_years_64 rfl ?_
      obtain ⟨x2, ex2, hf⟩ := ob hf
      refine v_getR dX11_years_65 fl_11_49 ex2 ?_
      obtain ⟨x3, ex3, hf⟩ := ob hf
      refine v_getI dX11_years_68 fl_11_195 ex3 ?_
      replace hf := Option.some.inj hf
      subst hf
      exact v_iret dX11_years_71 rfl
    · replace hf := (if_neg c1).symm.trans hf
      refine v_aload_n dX11_years_50 rfl ?_
      refine v_lload dX11_years_51 rfl ?_
      obtain ⟨q4, eq4, hf⟩ := ob hf
      refine v_callV dX11_years_53 ⟨cb_X11_pass, ml_11_267, im_X11_pass⟩ se_11_X11_pass (ckf_X11_pass eq4) (ev_X11_pass eq4) (by decide) (As := [.long l4]) rfl (st := []) rfl (Nat.le_of_ble_eq_true rfl) rfl ?_
      refine v_lstore dX11_years_56 (Nat.le_of_ble_eq_true rfl) (loc' := [some (.ref l0), some (.int l1), none, none, some (.long q4.1), none, some (.int l6)]) rfl ?_
      refine v_iinc dX11_years_58 rfl (v := (l6 + (1 : Int32))) rfl (Nat.le_of_ble_eq_true rfl) (loc' := [some (.ref l0), some (.int l1), none, none, some (.long q4.1), none, some (.int (l6 + (1 : Int32)))]) rfl ?_
      refine v_goto dX11_years_61 (tgt := 44) (by decide) ?_
      exact ih q4.2 l0 l1 q4.1 (l6 + (1 : Int32)) r hf
def f_X11_years (h : xa_H) (l0 : Nat) (l1 : Int32) (l2 : Int64) : Option (Int32 × xa_H) :=
  (ck [11] h l0).bind fun _ =>
  (gR [11] 6 h l0).bind fun x1 =>
  (gI [0] 4 h x1).bind fun x2 =>
  if x2 = 0 then
    some ((-1 : Int32), h)
  else
    if l1 < (1 : Int32) then
      some ((-1 : Int32), h)
    else
      if (30 : Int32) < l1 then
        some ((-1 : Int32), h)
      else
        (gR [11] 6 h l0).bind fun x6 =>
        (gI [0] 8 h x6).bind fun x7 =>
        if (x7 + l1) ≤ (9999 : Int32) then
          f_X11_years_b44 1048576 h l0 l1 l2 (0 : Int32)
        else
          some ((-1 : Int32), h)
set_option maxRecDepth 20000 in
theorem ev_X11_years {G : xa_G} {h : xa_H} {l0 : Nat} {l1 : Int32} {l2 : Int64} {r : (Int32 × xa_H)} (hf : f_X11_years h l0 l1 l2 = some r) : xa_Ev G M_X11_years 5 [.ref l0, .int l1, .long l2] h (some (.int r.1)) r.2 := by
  refine xa_entry (by decide +kernel) (loc := [some (.ref l0), some (.int l1), some (.long l2), none, none, none, none]) rfl (Nat.le_of_ble_eq_true rfl) ?_
  unfold f_X11_years at hf
  obtain ⟨u0, eu0, hf⟩ := ob hf
  refine v_aload_n dX11_years_0 rfl ?_
  obtain ⟨x1, ex1, hf⟩ := ob hf
  refine v_getR dX11_years_1 fl_11_49 ex1 ?_
  obtain ⟨x2, ex2, hf⟩ := ob hf
  refine v_getI dX11_years_4 fl_11_154 ex2 ?_
  refine v_if_eq dX11_years_7 (tgt := 36) (by decide) (fun c3 => ?_) (fun c3 => ?_)
  · replace hf := (if_pos c3).symm.trans hf
    refine v_iconst dX11_years_36 (by decide) (v := -1) ?_
    replace hf := Option.some.inj hf
    subst hf
    exact v_iret dX11_years_37 rfl
  · replace hf := (if_neg c3).symm.trans hf
    refine v_iload_n dX11_years_10 rfl ?_
    refine v_iconst dX11_years_11 (by decide) (v := 1) ?_
    refine v_icmp_lt dX11_years_12 (tgt := 36) (by decide) (fun c4 => ?_) (fun c4 => ?_)
    · replace hf := (if_pos c4).symm.trans hf
      refine v_iconst dX11_years_36 (by decide) (v := -1) ?_
      replace hf := Option.some.inj hf
      subst hf
      exact v_iret dX11_years_37 rfl
    · replace hf := (if_neg c4).symm.trans hf
      refine v_iload_n dX11_years_15 rfl ?_
      refine v_bipush dX11_years_16 (by decide) (v := 30) ?_
      refine v_icmp_gt dX11_years_18 (tgt := 36) (by decide) (fun c5 => ?_) (fun c5 => ?_)
      · replace hf := (if_pos c5).symm.trans hf
        refine v_iconst dX11_years_36 (by decide) (v := -1) ?_
        replace hf := Option.some.inj hf
        subst hf
        exact v_iret dX11_years_37 rfl
      · replace hf := (if_neg c5).symm.trans hf
        refine v_aload_n dX11_years_21 rfl ?_
        obtain ⟨x6, ex6, hf⟩ := ob hf
        refine v_getR dX11_years_22 fl_11_49 ex6 ?_
        obtain ⟨x7, ex7, hf⟩ := ob hf
        refine v_getI dX11_years_25 fl_11_195 ex7 ?_
        refine v_iload_n dX11_years_28 rfl ?_
        refine v_iadd dX11_years_29 ?_
        refine v_sipush dX11_years_30 (by decide) (v := 9999) ?_
        refine v_icmp_le dX11_years_33 (tgt := 38) (by decide) (fun c8 => ?_) (fun c8 => ?_)
        · replace hf := (if_pos c8).symm.trans hf
          refine v_lload_n dX11_years_38 rfl ?_
          refine v_lstore dX11_years_39 (Nat.le_of_ble_eq_true rfl) (loc' := [some (.ref l0), some (.int l1), some (.long l2), none, some (.long l2), none, none]) rfl ?_
          refine v_iconst dX11_years_41 (by decide) (v := 0) ?_
          refine v_istore dX11_years_42 (Nat.le_of_ble_eq_true rfl) (loc' := [some (.ref l0), some (.int l1), some (.long l2), none, some (.long l2), none, some (.int (0 : Int32))]) rfl ?_
          exact xa_weak (loc := [some (.ref l0), some (.int l1), none, none, some (.long l2), none, some (.int (0 : Int32))]) ⟨rfl, ⟨rfl, ⟨rfl, ⟨rfl, trivial⟩⟩⟩⟩ (e_X11_years_b44 1048576 h l0 l1 l2 (0 : Int32) r hf)
        · replace hf := (if_neg c8).symm.trans hf
          refine v_iconst dX11_years_36 (by decide) (v := -1) ?_
          replace hf := Option.some.inj hf
          subst hf
          exact v_iret dX11_years_37 rfl
theorem ckf_X11_years {h : xa_H} {l0 : Nat} {l1 : Int32} {l2 : Int64} {r : (Int32 × xa_H)} (hf : f_X11_years h l0 l1 l2 = some r) : ck [11] h l0 = some () := by
  obtain ⟨u, e, -⟩ := ob hf
  exact e
