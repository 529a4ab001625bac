def M_X7_init : xa_M := (yX7_init, cX7_init, 2, none)
theorem cb_X7_init : xa_CB M_X7_init 0 := ⟨gws_at 454 (by decide +kernel) rfl, gws_at 121 (by decide +kernel) rfl, by decide +kernel, Nat.le_of_ble_eq_true rfl⟩
def f_X7_init_b32 : Nat → xa_H → Nat → Int32 → Option xa_H
  | 0, _, _, _ => none
  | n + 1, h, l0, l1 =>
    if (8 : Int32) < l1 then
      some h
    else
      (gR [7] 0 h l0).bind fun x2 =>
      (nC h (.inr (0, [.null, .null, .null, .null, .int 0, .int 0, .int 0, .int 0, .int 0])) 9).bind fun h3 =>
      (f_X0_init h3 h.2.1).bind fun q4 =>
      (pR q4 x2 l1 h.2.1).bind fun h5 =>
      f_X7_init_b32 n h5 l0 (l1 + (1 : Int32))
set_option maxRecDepth 20000 in
theorem e_X7_init_b32 {G : xa_G} : ∀ (n : Nat) (h : xa_H) (l0 : Nat) (l1 : Int32) (r : xa_H), f_X7_init_b32 n h l0 l1 = some r → xa_V G M_X7_init 2 32 [some (.ref l0), some (.int l1)] [] h none r := by
  intro n
  induction n with
  | zero =>
    intro h l0 l1 r hf
    cases (show (none : Option xa_H) = some r from hf)
  | succ n ih =>
    intro h l0 l1 r hf
    rw [f_X7_init_b32] at hf
    refine v_iload_n dX7_init_32 rfl ?_
    refine v_bipush dX7_init_33 (by decide) (v := 8) ?_
    refine v_icmp_gt dX7_init_35 (tgt := 57) (by decide) (fun c1 => ?_) (fun c1 => ?_)
    · replace hf := (if_pos c1).symm.trans hf
      replace hf := Option.some.inj hf
      subst hf
      exact v_vret dX7_init_57 rfl
    · replace hf := (if_neg c1).symm.trans hf
      refine v_aload_n dX7_init_38 rfl ?_
      obtain ⟨x2, ex2, hf⟩ := ob hf
      refine v_getR dX7_init_39 fl_7_11 ex2 ?_
      refine v_iload_n dX7_init_42 rfl ?_
      obtain ⟨h3, eh3, hf⟩ := ob hf
      refine v_new dX7_init_43 nw_7_9 eh3 ?_
      refine v_dup dX7_init_46 rfl ?_
      obtain ⟨q4, eq4, hf⟩ := ob hf
      refine v_callIN dX7_init_47 ⟨cb_X0_init, mn_7_28, im_X0_init, rfl, rfl⟩ (ev_X0_init eq4) (by decide) (As := []) rfl (st := [.ref h.2.1, .int l1, .ref x2]) rfl (Nat.le_of_ble_eq_true rfl) rfl ?_
      obtain ⟨h5, eh5, hf⟩ := ob hf
      refine v_aastore dX7_init_50 eh5 ?_
      refine v_iinc dX7_init_51 rfl (v := (l1 + (1 : Int32))) rfl (Nat.le_of_ble_eq_true rfl) (loc' := [some (.ref l0), some (.int (l1 + (1 : Int32)))]) rfl ?_
      refine v_goto dX7_init_54 (tgt := 32) (by decide) ?_
      exact ih h5 l0 (l1 + (1 : Int32)) r hf
def f_X7_init (h : xa_H) (l0 : Nat) : Option xa_H :=
  (ck [7] h l0).bind fun _ =>
  (nAR h (9 : Int32)).bind fun h1 =>
  (xp [7] 0 h1 l0 (.ref h.2.1)).bind fun h2 =>
  (nAI h2 (0 : Int32)).bind fun h3 =>
  (xp [7] 1 h3 l0 (.ref h2.2.1)).bind fun h4 =>
  (xp [7] 2 h4 l0 (.int (0 : Int32))).bind fun h5 =>
  (xp [7] 3 h5 l0 (.int (0 : Int32))).bind fun h6 =>
  f_X7_init_b32 1048576 h6 l0 (0 : Int32)
set_option maxRecDepth 20000 in
theorem ev_X7_init {G : xa_G} {h : xa_H} {l0 : Nat} {r : xa_H} (hf : f_X7_init h l0 = some r) : xa_Ev G M_X7_init 2 [.ref l0] h none r := by
  refine xa_entry (by decide +kernel) (loc := [some (.ref l0), none]) rfl (Nat.le_of_ble_eq_true rfl) ?_
  unfold f_X7_init at hf
  obtain ⟨u0, eu0, hf⟩ := ob hf
  refine v_aload_n dX7_init_0 rfl ?_
  refine v_objInit dX7_init_1 oi_7_3 (by decide) (Nat.le_of_ble_eq_true rfl) ?_
  refine v_aload_n dX7_init_4 rfl ?_
  refine v_bipush dX7_init_5 (by decide) (v := 9) ?_
  obtain ⟨h1, eh1, hf⟩ := ob hf
  refine w_anew dX7_init_7 kl_7_9 eh1 ?_
  obtain ⟨h2, eh2, hf⟩ := ob hf
  refine v_put dX7_init_10 fp_7_11 (fun _ => rfl) (fun _ => rfl) (fun _ => rfl) eh2 ?_
  refine v_aload_n dX7_init_13 rfl ?_
  refine v_iconst dX7_init_14 (by decide) (v := 0) ?_
  obtain ⟨h3, eh3, hf⟩ := ob hf
  refine w_newaI dX7_init_15 ac_int eh3 ?_
  obtain ⟨h4, eh4, hf⟩ := ob hf
  refine v_put dX7_init_17 fp_7_17 (fun z => by cases z) (fun _ => rfl) (fun _ => rfl) eh4 ?_
  refine v_aload_n dX7_init_20 rfl ?_
  refine v_iconst dX7_init_21 (by decide) (v := 0) ?_
  obtain ⟨h5, eh5, hf⟩ := ob hf
  refine v_put dX7_init_22 fp_7_21 (fun z => by cases z) (fun _ => rfl) (fun _ => rfl) eh5 ?_
  refine v_aload_n dX7_init_25 rfl ?_
  refine v_iconst dX7_init_26 (by decide) (v := 0) ?_
  obtain ⟨h6, eh6, hf⟩ := ob hf
  refine v_put dX7_init_27 fp_7_25 (fun z => by cases z) (fun _ => rfl) (fun _ => rfl) eh6 ?_
  refine v_iconst dX7_init_30 (by decide) (v := 0) ?_
  refine v_istore_n (i := 1) rfl dX7_init_31 (Nat.le_of_ble_eq_true rfl) (loc' := [some (.ref l0), some (.int (0 : Int32))]) rfl ?_
  exact e_X7_init_b32 1048576 h6 l0 (0 : Int32) r hf
theorem ckf_X7_init {h : xa_H} {l0 : Nat} {r : xa_H} (hf : f_X7_init h l0 = some r) : ck [7] h l0 = some () := by
  obtain ⟨u, e, -⟩ := ob hf
  exact e
def M_X7_branch : xa_M := (yX7_branch, cX7_branch, 6, some .long)
theorem cb_X7_branch : xa_CB M_X7_branch 3 := ⟨gws_at 1155 (by decide +kernel) rfl, gws_at 121 (by decide +kernel) rfl, by decide +kernel, Nat.le_of_ble_eq_true rfl⟩
def M_X7_quiet : xa_M := (yX7_quiet, cX7_quiet, 11, some .long)
theorem cb_X7_quiet : xa_CB M_X7_quiet 2 := ⟨gws_at 1149 (by decide +kernel) rfl, gws_at 121 (by decide +kernel) rfl, by decide +kernel, Nat.le_of_ble_eq_true rfl⟩
def f_X7_branch_b44 (c_X7_branch : xa_H → Nat → Int32 → Int32 → Int64 → Option (Int64 × xa_H)) (c_X7_quiet : xa_H → Nat → Int32 → Int64 → Option (Int64 × xa_H)) (h : xa_H) (l0 : Nat) (l1 : Int32) (l3 : Int64) : Option (Int64 × xa_H) :=
  (c_X7_quiet h l0 (l1 + (1 : Int32)) l3).bind fun q1 =>
  some (q1.1, q1.2)
set_option maxRecDepth 20000 in
theorem e_X7_branch_b44 {G : xa_G} {d d1 : Nat} {c_X7_branch : xa_H → Nat → Int32 → Int32 → Int64 → Option (Int64 × xa_H)} (hc_X7_branch : ∀ {h : xa_H} {a0 : Nat} {a1 : Int32} {a2 : Int32} {a3 : Int64} {r : (Int64 × xa_H)}, c_X7_branch h a0 a1 a2 a3 = some r → xa_Ev G M_X7_branch d1 [.ref a0, .int a1, .int a2, .long a3] h (some (.long r.1)) r.2) (hck_X7_branch : ∀ {h : xa_H} {a0 : Nat} {a1 : Int32} {a2 : Int32} {a3 : Int64} {r : (Int64 × xa_H)}, c_X7_branch h a0 a1 a2 a3 = some r → ck [7] h a0 = some ()) {c_X7_quiet : xa_H → Nat → Int32 → Int64 → Option (Int64 × xa_H)} (hc_X7_quiet : ∀ {h : xa_H} {a0 : Nat} {a1 : Int32} {a2 : Int64} {r : (Int64 × xa_H)}, c_X7_quiet h a0 a1 a2 = some r → xa_Ev G M_X7_quiet d1 [.ref a0, .int a1, .long a2] h (some (.long r.1)) r.2) (hck_X7_quiet : ∀ {h : xa_H} {a0 : Nat} {a1 : Int32} {a2 : Int64} {r : (Int64 × xa_H)}, c_X7_quiet h a0 a1 a2 = some r → ck [7] h a0 = some ()) (hdx : 3 ≤ d) (hd1 : d1 + 1 ≤ d) : ∀ (h : xa_H) (l0 : Nat) (l1 : Int32) (l3 : Int64) (r : (Int64 × xa_H)), f_X7_branch_b44 c_X7_branch c_X7_quiet h l0 l1 l3 = some r → xa_V G M_X7_branch d 44 [some (.ref l0), some (.int l1), none, some (.long l3), none, none] [] h (some (.long r.1)) r.2 := by
  intro h l0 l1 l3 r hf
  unfold f_X7_branch_b44 at hf
  refine v_aload_n dX7_branch_44 rfl ?_
  refine v_iload_n dX7_branch_45 rfl ?_
  refine v_iconst dX7_branch_46 (by decide) (v := 1) ?_
  refine v_iadd dX7_branch_47 ?_
  refine v_lload_n dX7_branch_48 rfl ?_
  obtain ⟨q1, eq1, hf⟩ := ob hf
  refine v_callV dX7_branch_49 ⟨cb_X7_quiet, ml_7_44, im_X7_quiet⟩ se_7_X7_quiet (hck_X7_quiet eq1) (hc_X7_quiet eq1) hd1 (As := [.int (l1 + (1 : Int32)), .long l3]) rfl (st := []) rfl (Nat.le_of_ble_eq_true rfl) rfl ?_
  replace hf := Option.some.inj hf
  subst hf
  exact v_lret dX7_branch_52 rfl
def g_X7_branch (c_X7_branch : xa_H → Nat → Int32 → Int32 → Int64 → Option (Int64 × xa_H)) (c_X7_quiet : xa_H → Nat → Int32 → Int64 → Option (Int64 × xa_H)) (h : xa_H) (l0 : Nat) (l1 : Int32) (l2 : Int32) (l3 : Int64) : Option (Int64 × xa_H) :=
  (ck [7] h l0).bind fun _ =>
  if 0 < (lg_cmp l3 (0 : Int64)) then
    (gR [7] 0 h l0).bind fun x2 =>
    (aR 4 h x2 (l1 + (1 : Int32))).bind fun x3 =>
    (gR [7] 0 h l0).bind fun x4 =>
    (aR 4 h x4 l1).bind fun x5 =>
    (f_X0_become h x3 x5).bind fun q6 =>
    (f_X0_canTurn q6 x3 l2).bind fun q7 =>
    if q7 = 0 then
      f_X7_branch_b44 c_X7_branch c_X7_quiet q6 l0 l1 l3
    else
      (f_X0_turnOver q6 x3 l2).bind fun q9 =>
      f_X7_branch_b44 c_X7_branch c_X7_quiet q9 l0 l1 l3
  else
    some ((0 : Int64), h)
set_option maxRecDepth 20000 in
theorem eg_X7_branch {G : xa_G} {d d1 : Nat} {c_X7_branch : xa_H → Nat → Int32 → Int32 → Int64 → Option (Int64 × xa_H)} (hc_X7_branch : ∀ {h : xa_H} {a0 : Nat} {a1 : Int32} {a2 : Int32} {a3 : Int64} {r : (Int64 × xa_H)}, c_X7_branch h a0 a1 a2 a3 = some r → xa_Ev G M_X7_branch d1 [.ref a0, .int a1, .int a2, .long a3] h (some (.long r.1)) r.2) (hck_X7_branch : ∀ {h : xa_H} {a0 : Nat} {a1 : Int32} {a2 : Int32} {a3 : Int64} {r : (Int64 × xa_H)}, c_X7_branch h a0 a1 a2 a3 = some r → ck [7] h a0 = some ()) {c_X7_quiet : xa_H → Nat → Int32 → Int64 → Option (Int64 × xa_H)} (hc_X7_quiet : ∀ {h : xa_H} {a0 : Nat} {a1 : Int32} {a2 : Int64} {r : (Int64 × xa_H)}, c_X7_quiet h a0 a1 a2 = some r → xa_Ev G M_X7_quiet d1 [.ref a0, .int a1, .long a2] h (some (.long r.1)) r.2) (hck_X7_quiet : ∀ {h : xa_H} {a0 : Nat} {a1 : Int32} {a2 : Int64} {r : (Int64 × xa_H)}, c_X7_quiet h a0 a1 a2 = some r → ck [7] h a0 = some ()) (hdx : 3 ≤ d) (hd1 : d1 + 1 ≤ d) {h : xa_H} {l0 : Nat} {l1 : Int32} {l2 : Int32} {l3 : Int64} {r : (Int64 × xa_H)} (hf : g_X7_branch c_X7_branch c_X7_quiet h l0 l1 l2 l3 = some r) : xa_Ev G M_X7_branch d [.ref l0, .int l1, .int l2, .long l3] h (some (.long r.1)) r.2 := by
  refine xa_entry (by decide +kernel) (loc := [some (.ref l0), some (.int l1), some (.int l2), some (.long l3), none, none]) rfl (Nat.le_of_ble_eq_true rfl) ?_
  unfold g_X7_branch at hf
  obtain ⟨u0, eu0, hf⟩ := ob hf
  refine v_lload_n dX7_branch_0 rfl ?_
  refine v_lconst dX7_branch_1 (by decide) (v := 0) ?_
  refine v_lcmp dX7_branch_2 ?_
  refine v_if_gt dX7_branch_3 (tgt := 8) (by decide) (fun c1 => ?_) (fun c1 => ?_)
  · replace hf := (if_pos c1).symm.trans hf
    refine v_aload_n dX7_branch_8 rfl ?_
    obtain ⟨x2, ex2, hf⟩ := ob hf
    refine v_getR dX7_branch_9 fl_7_11 ex2 ?_
    refine v_iload_n dX7_branch_12 rfl ?_
    refine v_iconst dX7_branch_13 (by decide) (v := 1) ?_
    refine v_iadd dX7_branch_14 ?_
    obtain ⟨x3, ex3, hf⟩ := ob hf
    refine v_aaload dX7_branch_15 (t := 4) (by decide) ex3 ?_
    refine v_astore dX7_branch_16 (Nat.le_of_ble_eq_true rfl) (loc' := [some (.ref l0), some (.int l1), some (.int l2), some (.long l3), none, some (.ref x3)]) rfl ?_
    refine v_aload dX7_branch_18 rfl ?_
    refine v_aload_n dX7_branch_20 rfl ?_
    obtain ⟨x4, ex4, hf⟩ := ob hf
    refine v_getR dX7_branch_21 fl_7_11 ex4 ?_
    refine v_iload_n dX7_branch_24 rfl ?_
    obtain ⟨x5, ex5, hf⟩ := ob hf
    refine v_aaload dX7_branch_25 (t := 4) (by decide) ex5 ?_
    obtain ⟨q6, eq6, hf⟩ := ob hf
    refine v_callV dX7_branch_26 ⟨cb_X0_become, ml_7_38, im_X0_become⟩ se_0_X0_become (ckf_X0_become eq6) (ev_X0_become eq6) (Nat.le_trans (by decide) hdx) (As := [.ref x5]) rfl (st := []) rfl (Nat.le_of_ble_eq_true rfl) rfl ?_
    refine v_aload dX7_branch_29 rfl ?_
    refine v_iload_n dX7_branch_31 rfl ?_
    obtain ⟨q7, eq7, hf⟩ := ob hf
    refine v_callV dX7_branch_32 ⟨cb_X0_canTurn, ml_7_65, im_X0_canTurn⟩ se_0_X0_canTurn (ckf_X0_canTurn eq7) (ev_X0_canTurn eq7) (Nat.le_trans (by decide) hdx) (As := [.int l2]) rfl (st := []) rfl (Nat.le_of_ble_eq_true rfl) rfl ?_
    refine v_if_eq dX7_branch_35 (tgt := 44) (by decide) (fun c8 => ?_) (fun c8 => ?_)
    · replace hf := (if_pos c8).symm.trans hf
      exact xa_weak (loc := [some (.ref l0), some (.int l1), none, some (.long l3), none, none]) ⟨rfl, ⟨rfl, ⟨rfl, trivial⟩⟩⟩ (e_X7_branch_b44 hc_X7_branch hck_X7_branch hc_X7_quiet hck_X7_quiet hdx hd1 q6 l0 l1 l3 r hf)
    · replace hf := (if_neg c8).symm.trans hf
      refine v_aload dX7_branch_38 rfl ?_
      refine v_iload_n dX7_branch_40 rfl ?_
      obtain ⟨q9, eq9, hf⟩ := ob hf
      refine v_callV dX7_branch_41 ⟨cb_X0_turnOver, ml_7_68, im_X0_turnOver⟩ se_0_X0_turnOver (ckf_X0_turnOver eq9) (ev_X0_turnOver eq9) (Nat.le_trans (by decide) hdx) (As := [.int l2]) rfl (st := []) rfl (Nat.le_of_ble_eq_true rfl) rfl ?_
      exact xa_weak (loc := [some (.ref l0), some (.int l1), none, some (.long l3), none, none]) ⟨rfl, ⟨rfl, ⟨rfl, trivial⟩⟩⟩ (e_X7_branch_b44 hc_X7_branch hck_X7_branch hc_X7_quiet hck_X7_quiet hdx hd1 q9 l0 l1 l3 r hf)
  · replace hf := (if_neg c1).symm.trans hf
    refine v_lconst dX7_branch_6 (by decide) (v := 0) ?_
    replace hf := Option.some.inj hf
    subst hf
    exact v_lret dX7_branch_7 rfl
theorem cg_X7_branch {c_X7_branch : xa_H → Nat → Int32 → Int32 → Int64 → Option (Int64 × xa_H)} {c_X7_quiet : xa_H → Nat → Int32 → Int64 → Option (Int64 × xa_H)} {h : xa_H} {l0 : Nat} {l1 : Int32} {l2 : Int32} {l3 : Int64} {r : (Int64 × xa_H)} (hf : g_X7_branch c_X7_branch c_X7_quiet h l0 l1 l2 l3 = some r) : ck [7] h l0 = some () := by
  obtain ⟨u, e, -⟩ := ob hf
  exact e
def f_X7_quiet_b107 (c_X7_branch : xa_H → Nat → Int32 → Int32 → Int64 → Option (Int64 × xa_H)) (c_X7_quiet : xa_H → Nat → Int32 → Int64 → Option (Int64 × xa_H)) (h : xa_H) (l6 : Int64) (s0 : Int32) (s1 : Int32) (s2 : Nat) (s3 : Int64) : Option (Int64 × xa_H) :=
  (c_X7_branch h s2 s1 s0 l6).bind fun q1 =>
  some ((s3 + q1.1), q1.2)
set_option maxRecDepth 20000 in
theorem e_X7_quiet_b107 {G : xa_G} {d d1 : Nat} {c_X7_branch : xa_H → Nat → Int32 → Int32 → Int64 → Option (Int64 × xa_H)} (hc_X7_branch : ∀ {h : xa_H} {a0 : Nat} {a1 : Int32} {a2 : Int32} {a3 : Int64} {r : (Int64 × xa_H)}, c_X7_branch h a0 a1 a2 a3 = some r → xa_Ev G M_X7_branch d1 [.ref a0, .int a1, .int a2, .long a3] h (some (.long r.1)) r.2) (hck_X7_branch : ∀ {h : xa_H} {a0 : Nat} {a1 : Int32} {a2 : Int32} {a3 : Int64} {r : (Int64 × xa_H)}, c_X7_branch h a0 a1 a2 a3 = some r → ck [7] h a0 = some ()) {c_X7_quiet : xa_H → Nat → Int32 → Int64 → Option (Int64 × xa_H)} (hc_X7_quiet : ∀ {h : xa_H} {a0 : Nat} {a1 : Int32} {a2 : Int64} {r : (Int64 × xa_H)}, c_X7_quiet h a0 a1 a2 = some r → xa_Ev G M_X7_quiet d1 [.ref a0, .int a1, .long a2] h (some (.long r.1)) r.2) (hck_X7_quiet : ∀ {h : xa_H} {a0 : Nat} {a1 : Int32} {a2 : Int64} {r : (Int64 × xa_H)}, c_X7_quiet h a0 a1 a2 = some r → ck [7] h a0 = some ()) (hdx : 3 ≤ d) (hd1 : d1 + 1 ≤ d) : ∀ (h : xa_H) (l6 : Int64) (s0 : Int32) (s1 : Int32) (s2 : Nat) (s3 : Int64) (r : (Int64 × xa_H)), f_X7_quiet_b107 c_X7_branch c_X7_quiet h l6 s0 s1 s2 s3 = some r → xa_V G M_X7_quiet d 107 [none, none, none, none, none, none, some (.long l6), none, none, none, none] [.int s0, .int s1, .ref s2, .long s3] h (some (.long r.1)) r.2 := by
  intro h l6 s0 s1 s2 s3 r hf
  unfold f_X7_quiet_b107 at hf
  refine v_lload dX7_quiet_107 rfl ?_
  obtain ⟨q1, eq1, hf⟩ := ob hf
  refine v_callV dX7_quiet_109 ⟨cb_X7_branch, ml_7_57, im_X7_branch⟩ se_7_X7_branch (hck_X7_branch eq1) (hc_X7_branch eq1) hd1 (As := [.int s1, .int s0, .long l6]) rfl (st := [.long s3]) rfl (Nat.le_of_ble_eq_true rfl) rfl ?_
  refine v_ladd dX7_quiet_112 ?_
  replace hf := Option.some.inj hf
  subst hf
  exact v_lret dX7_quiet_113 rfl
def f_X7_quiet_b72 (c_X7_branch : xa_H → Nat → Int32 → Int32 → Int64 → Option (Int64 × xa_H)) (c_X7_quiet : xa_H → Nat → Int32 → Int64 → Option (Int64 × xa_H)) (h : xa_H) (l0 : Nat) (l1 : Int32) (l2 : Int64) (l4 : Nat) (l5 : Int32) (l6 : Int64) (s0 : Int32) : Option (Int64 × xa_H) :=
  (c_X7_branch h l0 l1 l5 (l2 - l6)).bind fun q1 =>
  (f_X0_has q1.2 l4 l5).bind fun q2 =>
  if q2 = 0 then
    f_X7_quiet_b107 c_X7_branch c_X7_quiet q1.2 l6 (-1 : Int32) l1 l0 q1.1
  else
    f_X7_quiet_b107 c_X7_branch c_X7_quiet q1.2 l6 s0 l1 l0 q1.1
set_option maxRecDepth 20000 in
theorem e_X7_quiet_b72 {G : xa_G} {d d1 : Nat} {c_X7_branch : xa_H → Nat → Int32 → Int32 → Int64 → Option (Int64 × xa_H)} (hc_X7_branch : ∀ {h : xa_H} {a0 : Nat} {a1 : Int32} {a2 : Int32} {a3 : Int64} {r : (Int64 × xa_H)}, c_X7_branch h a0 a1 a2 a3 = some r → xa_Ev G M_X7_branch d1 [.ref a0, .int a1, .int a2, .long a3] h (some (.long r.1)) r.2) (hck_X7_branch : ∀ {h : xa_H} {a0 : Nat} {a1 : Int32} {a2 : Int32} {a3 : Int64} {r : (Int64 × xa_H)}, c_X7_branch h a0 a1 a2 a3 = some r → ck [7] h a0 = some ()) {c_X7_quiet : xa_H → Nat → Int32 → Int64 → Option (Int64 × xa_H)} (hc_X7_quiet : ∀ {h : xa_H} {a0 : Nat} {a1 : Int32} {a2 : Int64} {r : (Int64 × xa_H)}, c_X7_quiet h a0 a1 a2 = some r → xa_Ev G M_X7_quiet d1 [.ref a0, .int a1, .long a2] h (some (.long r.1)) r.2) (hck_X7_quiet : ∀ {h : xa_H} {a0 : Nat} {a1 : Int32} {a2 : Int64} {r : (Int64 × xa_H)}, c_X7_quiet h a0 a1 a2 = some r → ck [7] h a0 = some ()) (hdx : 3 ≤ d) (hd1 : d1 + 1 ≤ d) : ∀ (h : xa_H) (l0 : Nat) (l1 : Int32) (l2 : Int64) (l4 : Nat) (l5 : Int32) (l6 : Int64) (s0 : Int32) (r : (Int64 × xa_H)), f_X7_quiet_b72 c_X7_branch c_X7_quiet h l0 l1 l2 l4 l5 l6 s0 = some r → xa_V G M_X7_quiet d 72 [some (.ref l0), some (.int l1), some (.long l2), none, some (.ref l4), some (.int l5), some (.long l6), none, none, none, none] [.int s0] h (some (.long r.1)) r.2 := by
  intro h l0 l1 l2 l4 l5 l6 s0 r hf
  unfold f_X7_quiet_b72 at hf
  refine v_istore dX7_quiet_72 (Nat.le_of_ble_eq_true rfl) (loc' := [some (.ref l0), some (.int l1), some (.long l2), none, some (.ref l4), some (.int l5), some (.long l6), none, some (.int s0), none, none]) rfl ?_
  refine v_aload_n dX7_quiet_74 rfl ?_
  refine v_iload_n dX7_quiet_75 rfl ?_
  refine v_iload dX7_quiet_76 rfl ?_
  refine v_lload_n dX7_quiet_78 rfl ?_
  refine v_lload dX7_quiet_79 rfl ?_
  refine v_lsub dX7_quiet_81 ?_
  obtain ⟨q1, eq1, hf⟩ := ob hf
  refine v_callV dX7_quiet_82 ⟨cb_X7_branch, ml_7_57, im_X7_branch⟩ se_7_X7_branch (hck_X7_branch eq1) (hc_X7_branch eq1) hd1 (As := [.int l1, .int l5, .long (l2 - l6)]) rfl (st := []) rfl (Nat.le_of_ble_eq_true rfl) rfl ?_
  refine v_lstore dX7_quiet_85 (Nat.le_of_ble_eq_true rfl) (loc' := [some (.ref l0), some (.int l1), some (.long l2), none, some (.ref l4), some (.int l5), some (.long l6), none, some (.int s0), some (.long q1.1), none]) rfl ?_
  refine v_lload dX7_quiet_87 rfl ?_
  refine v_aload_n dX7_quiet_89 rfl ?_
  refine v_iload_n dX7_quiet_90 rfl ?_
  refine v_aload dX7_quiet_91 rfl ?_
  refine v_iload dX7_quiet_93 rfl ?_
  obtain ⟨q2, eq2, hf⟩ := ob hf
  refine v_callV dX7_quiet_95 ⟨cb_X0_has, ml_7_61, im_X0_has⟩ se_0_X0_has (ckf_X0_has eq2) (ev_X0_has eq2) (Nat.le_trans (by decide) hdx) (As := [.int l5]) rfl (st := [.int l1, .ref l0, .long q1.1]) rfl (Nat.le_of_ble_eq_true rfl) rfl ?_
  refine v_if_eq dX7_quiet_98 (tgt := 106) (by decide) (fun c3 => ?_) (fun c3 => ?_)
  · replace hf := (if_pos c3).symm.trans hf
    refine v_iconst dX7_quiet_106 (by decide) (v := -1) ?_
    exact xa_weak (loc := [none, none, none, none, none, none, some (.long l6), none, none, none, none]) ⟨rfl, trivial⟩ (e_X7_quiet_b107 hc_X7_branch hck_X7_branch hc_X7_quiet hck_X7_quiet hdx hd1 q1.2 l6 (-1 : Int32) l1 l0 q1.1 r hf)
  · replace hf := (if_neg c3).symm.trans hf
    refine v_iload dX7_quiet_101 rfl ?_
    refine v_goto dX7_quiet_103 (tgt := 107) (by decide) ?_
    exact xa_weak (loc := [none, none, none, none, none, none, some (.long l6), none, none, none, none]) ⟨rfl, trivial⟩ (e_X7_quiet_b107 hc_X7_branch hck_X7_branch hc_X7_quiet hck_X7_quiet hdx hd1 q1.2 l6 s0 l1 l0 q1.1 r hf)
def g_X7_quiet (c_X7_branch : xa_H → Nat → Int32 → Int32 → Int64 → Option (Int64 × xa_H)) (c_X7_quiet : xa_H → Nat → Int32 → Int64 → Option (Int64 × xa_H)) (h : xa_H) (l0 : Nat) (l1 : Int32) (l2 : Int64) : Option (Int64 × xa_H) :=
  (ck [7] h l0).bind fun _ =>
  (gR [7] 0 h l0).bind fun x1 =>
  (aR 4 h x1 l1).bind fun x2 =>
  (gI [7] 2 h l0).bind fun x3 =>
  if l1 < x3 then
    (gR [7] 1 h l0).bind fun x5 =>
    (aI h x5 l1).bind fun x6 =>
    (gI [7] 3 h l0).bind fun x7 =>
    (gI [0] 4 h x2).bind fun x8 =>
    if (x6 + (1 : Int32)) = x8 then
      f_X7_quiet_b72 c_X7_branch c_X7_quiet h l0 l1 l2 x2 x6 ((l2 * x7.toInt64) / (100 : Int64)) (0 : Int32)
    else
      f_X7_quiet_b72 c_X7_branch c_X7_quiet h l0 l1 l2 x2 x6 ((l2 * x7.toInt64) / (100 : Int64)) (x6 + (1 : Int32))
  else
    (f_X0_levels h x2).bind fun q10 =>
    if q10 = (-1 : Int32) then
      some ((0 : Int64), h)
    else
      some (l2, h)
set_option maxRecDepth 20000 in
theorem eg_X7_quiet {G : xa_G} {d d1 : Nat} {c_X7_branch : xa_H → Nat → Int32 → Int32 → Int64 → Option (Int64 × xa_H)} (hc_X7_branch : ∀ {h : xa_H} {a0 : Nat} {a1 : Int32} {a2 : Int32} {a3 : Int64} {r : (Int64 × xa_H)}, c_X7_branch h a0 a1 a2 a3 = some r → xa_Ev G M_X7_branch d1 [.ref a0, .int a1, .int a2, .long a3] h (some (.long r.1)) r.2) (hck_X7_branch : ∀ {h : xa_H} {a0 : Nat} {a1 : Int32} {a2 : Int32} {a3 : Int64} {r : (Int64 × xa_H)}, c_X7_branch h a0 a1 a2 a3 = some r → ck [7] h a0 = some ()) {c_X7_quiet : xa_H → Nat → Int32 → Int64 → Option (Int64 × xa_H)} (hc_X7_quiet : ∀ {h : xa_H} {a0 : Nat} {a1 : Int32} {a2 : Int64} {r : (Int64 × xa_H)}, c_X7_quiet h a0 a1 a2 = some r → xa_Ev G M_X7_quiet d1 [.ref a0, .int a1, .long a2] h (some (.long r.1)) r.2) (hck_X7_quiet : ∀ {h : xa_H} {a0 : Nat} {a1 : Int32} {a2 : Int64} {r : (Int64 × xa_H)}, c_X7_quiet h a0 a1 a2 = some r → ck [7] h a0 = some ()) (hdx : 3 ≤ d) (hd1 : d1 + 1 ≤ d) {h : xa_H} {l0 : Nat} {l1 : Int32} {l2 : Int64} {r : (Int64 × xa_H)} (hf : g_X7_quiet c_X7_branch c_X7_quiet h l0 l1 l2 = some r) : xa_Ev G M_X7_quiet d [.ref l0, .int l1, .long l2] h (some (.long r.1)) r.2 := by
  refine xa_entry (by decide +kernel) (loc := [some (.ref l0), some (.int l1), some (.long l2), none, none, none, none, none, none, none, none]) rfl (Nat.le_of_ble_eq_true rfl) ?_
  unfold g_X7_quiet at hf
  obtain ⟨u0, eu0, hf⟩ := ob hf
  refine v_aload_n dX7_quiet_0 rfl ?_
  obtain ⟨x1, ex1, hf⟩ := ob hf
  refine v_getR dX7_quiet_1 fl_7_11 ex1 ?_
  refine v_iload_n dX7_quiet_4 rfl ?_
  obtain ⟨x2, ex2, hf⟩ := ob hf
  refine v_aaload dX7_quiet_5 (t := 4) (by decide) ex2 ?_
  refine v_astore dX7_quiet_6 (Nat.le_of_ble_eq_true rfl) (loc' := [some (.ref l0), some (.int l1), some (.long l2), none, some (.ref x2), none, none, none, none, none, none]) rfl ?_
  refine v_iload_n dX7_quiet_8 rfl ?_
  refine v_aload_n dX7_quiet_9 rfl ?_
  obtain ⟨x3, ex3, hf⟩ := ob hf
  refine v_getI dX7_quiet_10 fl_7_21 ex3 ?_
  refine v_icmp_lt dX7_quiet_13 (tgt := 31) (by decide) (fun c4 => ?_) (fun c4 => ?_)
  · replace hf := (if_pos c4).symm.trans hf
    refine v_aload_n dX7_quiet_31 rfl ?_
    obtain ⟨x5, ex5, hf⟩ := ob hf
    refine v_getR dX7_quiet_32 fl_7_17 ex5 ?_
    refine v_iload_n dX7_quiet_35 rfl ?_
    obtain ⟨x6, ex6, hf⟩ := ob hf
    refine v_ialoadI dX7_quiet_36 ex6 ?_
    refine v_istore dX7_quiet_37 (Nat.le_of_ble_eq_true rfl) (loc' := [some (.ref l0), some (.int l1), some (.long l2), none, some (.ref x2), some (.int x6), none, none, none, none, none]) rfl ?_
    refine v_lload_n dX7_quiet_39 rfl ?_
    refine v_aload_n dX7_quiet_40 rfl ?_
    obtain ⟨x7, ex7, hf⟩ := ob hf
    refine v_getI dX7_quiet_41 fl_7_25 ex7 ?_
    refine v_i2l dX7_quiet_44 ?_
    refine v_lmul dX7_quiet_45 ?_
    refine v_ldc2 dX7_quiet_46 rfl col_7_52 ?_
    refine v_ldiv dX7_quiet_49 (by decide) ?_
    refine v_lstore dX7_quiet_50 (Nat.le_of_ble_eq_true rfl) (loc' := [some (.ref l0), some (.int l1), some (.long l2), none, some (.ref x2), some (.int x6), some (.long ((l2 * x7.toInt64) / (100 : Int64))), none, none, none, none]) rfl ?_
    refine v_iload dX7_quiet_52 rfl ?_
    refine v_iconst dX7_quiet_54 (by decide) (v := 1) ?_
    refine v_iadd dX7_quiet_55 ?_
    refine v_aload dX7_quiet_56 rfl ?_
    obtain ⟨x8, ex8, hf⟩ := ob hf
    refine v_getI dX7_quiet_58 fl_7_54 ex8 ?_
    refine v_icmp_ne dX7_quiet_61 (tgt := 68) (by decide) (fun c9 => ?_) (fun c9 => ?_)
    · replace hf := (if_neg c9).symm.trans hf
      refine v_iload dX7_quiet_68 rfl ?_
      refine v_iconst dX7_quiet_70 (by decide) (v := 1) ?_
      refine v_iadd dX7_quiet_71 ?_
      exact e_X7_quiet_b72 hc_X7_branch hck_X7_branch hc_X7_quiet hck_X7_quiet hdx hd1 h l0 l1 l2 x2 x6 ((l2 * x7.toInt64) / (100 : Int64)) (x6 + (1 : Int32)) r hf
    · replace hf := (if_pos c9).symm.trans hf
      refine v_iconst dX7_quiet_64 (by decide) (v := 0) ?_
      refine v_goto dX7_quiet_65 (tgt := 72) (by decide) ?_
      exact e_X7_quiet_b72 hc_X7_branch hck_X7_branch hc_X7_quiet hck_X7_quiet hdx hd1 h l0 l1 l2 x2 x6 ((l2 * x7.toInt64) / (100 : Int64)) (0 : Int32) r hf
  · replace hf := (if_neg c4).symm.trans hf
    refine v_aload dX7_quiet_16 rfl ?_
    obtain ⟨q10, eq10, hf⟩ := ob hf
    refine v_callV dX7_quiet_18 ⟨cb_X0_levels, ml_7_48, im_X0_levels⟩ se_0_X0_levels (ckf_X0_levels eq10) (ev_X0_levels eq10) (Nat.le_trans (by decide) hdx) (As := []) rfl (st := []) rfl (Nat.le_of_ble_eq_true rfl) rfl ?_
    refine v_iconst dX7_quiet_21 (by decide) (v := -1) ?_
    refine v_icmp_ne dX7_quiet_22 (tgt := 29) (by decide) (fun c11 => ?_) (fun c11 => ?_)
    · replace hf := (if_neg c11).symm.trans hf
      refine v_lload_n dX7_quiet_29 rfl ?_
      replace hf := Option.some.inj hf
      subst hf
      exact v_lret dX7_quiet_30 rfl
    · replace hf := (if_pos c11).symm.trans hf
      refine v_lconst dX7_quiet_25 (by decide) (v := 0) ?_
      refine v_goto dX7_quiet_26 (tgt := 30) (by decide) ?_
      replace hf := Option.some.inj hf
      subst hf
      exact v_lret dX7_quiet_30 rfl
theorem cg_X7_quiet {c_X7_branch : xa_H → Nat → Int32 → Int32 → Int64 → Option (Int64 × xa_H)} {c_X7_quiet : xa_H → Nat → Int32 → Int64 → Option (Int64 × xa_H)} {h : xa_H} {l0 : Nat} {l1 : Int32} {l2 : Int64} {r : (Int64 × xa_H)} (hf : g_X7_quiet c_X7_branch c_X7_quiet h l0 l1 l2 = some r) : ck [7] h l0 = some () := by
  obtain ⟨u, e, -⟩ := ob hf
  exact e
def fg_X7_branch : Nat → (xa_H → Nat → Int32 → Int32 → Int64 → Option (Int64 × xa_H)) × (xa_H → Nat → Int32 → Int64 → Option (Int64 × xa_H))
  | 0 => (fun _ _ _ _ _ => none, fun _ _ _ _ => none)
  | n + 1 => (g_X7_branch ((fg_X7_branch n).1) ((fg_X7_branch n).2), g_X7_quiet ((fg_X7_branch n).1) ((fg_X7_branch n).2))
def f_X7_branch (n : Nat) : xa_H → Nat → Int32 → Int32 → Int64 → Option (Int64 × xa_H) := (fg_X7_branch n).1
def f_X7_quiet (n : Nat) : xa_H → Nat → Int32 → Int64 → Option (Int64 × xa_H) := (fg_X7_branch n).2
theorem ckf_X7_branch {n : Nat} {h : xa_H} {a0 : Nat} {a1 : Int32} {a2 : Int32} {a3 : Int64} {r : (Int64 × xa_H)} (hf : f_X7_branch n h a0 a1 a2 a3 = some r) : ck [7] h a0 = some () := by
  cases n with
  | zero => cases (show (none : Option (Int64 × xa_H)) = some r from hf)
  | succ n => exact cg_X7_branch (c_X7_branch := (fg_X7_branch n).1) (c_X7_quiet := (fg_X7_branch n).2) hf
theorem ckf_X7_quiet {n : Nat} {h : xa_H} {a0 : Nat} {a1 : Int32} {a2 : Int64} {r : (Int64 × xa_H)} (hf : f_X7_quiet n h a0 a1 a2 = some r) : ck [7] h a0 = some () := by
  cases n with
  | zero => cases (show (none : Option (Int64 × xa_H)) = some r from hf)
  | succ n => exact cg_X7_quiet (c_X7_branch := (fg_X7_branch n).1) (c_X7_quiet := (fg_X7_branch n).2) hf
theorem evg_X7_branch {G : xa_G} : ∀ n : Nat, (∀ {h : xa_H} {a0 : Nat} {a1 : Int32} {a2 : Int32} {a3 : Int64} {r : (Int64 × xa_H)}, f_X7_branch n h a0 a1 a2 a3 = some r → xa_Ev G M_X7_branch (3 + n) [.ref a0, .int a1, .int a2, .long a3] h (some (.long r.1)) r.2) ∧ (∀ {h : xa_H} {a0 : Nat} {a1 : Int32} {a2 : Int64} {r : (Int64 × xa_H)}, f_X7_quiet n h a0 a1 a2 = some r → xa_Ev G M_X7_quiet (3 + n) [.ref a0, .int a1, .long a2] h (some (.long r.1)) r.2) := by
  intro n
  induction n with
  | zero => exact ⟨(fun hf => by cases (show (none : Option (Int64 × xa_H)) = some _ from hf)), (fun hf => by cases (show (none : Option (Int64 × xa_H)) = some _ from hf))⟩
  | succ n ih => exact ⟨(fun hf => eg_X7_branch ih.1 ckf_X7_branch ih.2 ckf_X7_quiet (by omega) (by omega) hf), (fun hf => eg_X7_quiet ih.1 ckf_X7_branch ih.2 ckf_X7_quiet (by omega) (by omega) hf)⟩
theorem ev_X7_branch {G : xa_G} {n : Nat} {h : xa_H} {a0 : Nat} {a1 : Int32} {a2 : Int32} {a3 : Int64} {r : (Int64 × xa_H)} (hf : f_X7_branch n h a0 a1 a2 a3 = some r) : xa_Ev G M_X7_branch (3 + n) [.ref a0, .int a1, .int a2, .long a3] h (some (.long r.1)) r.2 := (evg_X7_branch n).1 hf
theorem ev_X7_quiet {G : xa_G} {n : Nat} {h : xa_H} {a0 : Nat} {a1 : Int32} {a2 : Int64} {r : (Int64 × xa_H)} (hf : f_X7_quiet n h a0 a1 a2 = some r) : xa_Ev G M_X7_quiet (3 + n) [.ref a0, .int a1, .long a2] h (some (.long r.1)) r.2 := (evg_X7_branch n).2 hf
def M_X7_quietParts : xa_M := (yX7_quietParts, cX7_quietParts, 5, some .int)
theorem cb_X7_quietParts : xa_CB M_X7_quietParts 4 := ⟨gws_at 1141 (by decide +kernel) rfl, gws_at 121 (by decide +kernel) rfl, by decide +kernel, Nat.le_of_ble_eq_true rfl⟩
def f_X7_quietParts (h : xa_H) (l0 : Nat) (l1 : Nat) (l2 : Nat) (l3 : Int32) (l4 : Int32) : Option (Int32 × xa_H) :=
  (ck [7] h l0).bind fun _ =>
  (xp [7] 1 h l0 (.ref l2)).bind fun h1 =>
  (aN h1 l2).bind fun x2 =>
  (xp [7] 2 h1 l0 (.int (imax (0 : Int32) (imin (imin l3 (8 : Int32)) x2)))).bind fun h3 =>
  (xp [7] 3 h3 l0 (.int l4)).bind fun h4 =>
  (gR [7] 0 h4 l0).bind fun x5 =>
  (aR 4 h4 x5 (0 : Int32)).bind fun x6 =>
  (f_X0_become h4 x6 l1).bind fun q7 =>
  (f_X7_quiet 24 q7 l0 (0 : Int32) (1000000000 : Int64)).bind fun q8 =>
  some ((q8.1).toInt32, q8.2)
set_option maxRecDepth 20000 in
theorem ev_X7_quietParts {G : xa_G} {h : xa_H} {l0 : Nat} {l1 : Nat} {l2 : Nat} {l3 : Int32} {l4 : Int32} {r : (Int32 × xa_H)} (hf : f_X7_quietParts h l0 l1 l2 l3 l4 = some r) : xa_Ev G M_X7_quietParts 28 [.ref l0, .ref l1, .ref l2, .int l3, .int l4] h (some (.int r.1)) r.2 := by
  refine xa_entry (by decide +kernel) (loc := [some (.ref l0), some (.ref l1), some (.ref l2), some (.int l3), some (.int l4)]) rfl (Nat.le_of_ble_eq_true rfl) ?_
  unfold f_X7_quietParts at hf
  obtain ⟨u0, eu0, hf⟩ := ob hf
  refine v_aload_n dX7_quietParts_0 rfl ?_
  refine v_aload_n dX7_quietParts_1 rfl ?_
  obtain ⟨h1, eh1, hf⟩ := ob hf
  refine v_put dX7_quietParts_2 fp_7_17 (fun z => by cases z) (fun _ => rfl) (fun _ => rfl) eh1 ?_
  refine v_aload_n dX7_quietParts_5 rfl ?_
  refine v_iconst dX7_quietParts_6 (by decide) (v := 0) ?_
  refine v_iload_n dX7_quietParts_7 rfl ?_
  refine v_bipush dX7_quietParts_8 (by decide) (v := 8) ?_
  refine w_mmin dX7_quietParts_10 mw_7_29 (by decide) (Nat.le_of_ble_eq_true rfl) ?_
  refine v_aload_n dX7_quietParts_13 rfl ?_
  obtain ⟨x2, ex2, hf⟩ := ob hf
  refine v_alen dX7_quietParts_14 ex2 ?_
  refine w_mmin dX7_quietParts_15 mw_7_29 (by decide) (Nat.le_of_ble_eq_true rfl) ?_
  refine w_mmax dX7_quietParts_18 mw_7_35 (by decide) (Nat.le_of_ble_eq_true rfl) ?_
  obtain ⟨h3, eh3, hf⟩ := ob hf
  refine v_put dX7_quietParts_21 fp_7_21 (fun z => by cases z) (fun _ => rfl) (fun _ => rfl) eh3 ?_
  refine v_aload_n dX7_quietParts_24 rfl ?_
  refine v_iload dX7_quietParts_25 rfl ?_
  obtain ⟨h4, eh4, hf⟩ := ob hf
  refine v_put dX7_quietParts_27 fp_7_25 (fun z => by cases z) (fun _ => rfl) (fun _ => rfl) eh4 ?_
  refine v_aload_n dX7_quietParts_30 rfl ?_
  obtain ⟨x5, ex5, hf⟩ := ob hf
  refine v_getR dX7_quietParts_31 fl_7_11 ex5 ?_
  refine v_iconst dX7_quietParts_34 (by decide) (v := 0) ?_
  obtain ⟨x6, ex6, hf⟩ := ob hf
  refine v_aaload dX7_quietParts_35 (t := 4) (by decide) ex6 ?_
  refine v_aload_n dX7_quietParts_36 rfl ?_
  obtain ⟨q7, eq7, hf⟩ := ob hf
  refine v_callV dX7_quietParts_37 ⟨cb_X0_become, ml_7_38, im_X0_become⟩ se_0_X0_become (ckf_X0_become eq7) (ev_X0_become eq7) (by decide) (As := [.ref l1]) rfl (st := []) rfl (Nat.le_of_ble_eq_true rfl) rfl ?_
  refine v_aload_n dX7_quietParts_40 rfl ?_
  refine v_iconst dX7_quietParts_41 (by decide) (v := 0) ?_
  refine v_ldc2 dX7_quietParts_42 rfl col_7_42 ?_
  obtain ⟨q8, eq8, hf⟩ := ob hf
  refine v_callV dX7_quietParts_45 ⟨cb_X7_quiet, ml_7_44, im_X7_quiet⟩ se_7_X7_quiet (ckf_X7_quiet eq8) (ev_X7_quiet eq8) (by decide) (As := [.int (0 : Int32), .long (1000000000 : Int64)]) rfl (st := []) rfl (Nat.le_of_ble_eq_true rfl) rfl ?_
  refine v_l2i dX7_quietParts_48 ?_
  replace hf := Option.some.inj hf
  subst hf
  exact v_iret dX7_quietParts_49 rfl
theorem ckf_X7_quietParts {h : xa_H} {l0 : Nat} {l1 : Nat} {l2 : Nat} {l3 : Int32} {l4 : Int32} {r : (Int32 × xa_H)} (hf : f_X7_quietParts h l0 l1 l2 l3 l4 = some r) : ck [7] h l0 = some () := by
  obtain ⟨u, e, -⟩ := ob hf
  exact e
