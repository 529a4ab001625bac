def M_X12_readVillage : xa_M := (yX12_readVillage, cX12_readVillage, 2, none)
theorem cb_X12_readVillage : xa_CB M_X12_readVillage 0 := ⟨gws_at 1499 (by decide +kernel) rfl, gws_at 122 (by decide +kernel) rfl, by decide +kernel, Nat.le_of_ble_eq_true rfl⟩
def f_X12_readVillage_b134 (h : xa_H) (l0 : Nat) : Option xa_H :=
  (f_X12_fails h l0).bind fun q1 =>
  some q1.2
set_option maxRecDepth 20000 in
theorem e_X12_readVillage_b134 {G : xa_G} : ∀ (h : xa_H) (l0 : Nat) (r : xa_H), f_X12_readVillage_b134 h l0 = some r → xa_V G M_X12_readVillage 7 134 [some (.ref l0), none] [] h none r := by
  intro h l0 r hf
  unfold f_X12_readVillage_b134 at hf
  refine v_aload_n dX12_readVillage_134 rfl ?_
  obtain ⟨q1, eq1, hf⟩ := ob hf
  refine v_callV dX12_readVillage_135 ⟨cb_X12_fails, ml_12_149, im_X12_fails⟩ se_12_X12_fails (ckf_X12_fails eq1) (ev_X12_fails eq1) (by decide) (As := []) rfl (st := []) rfl (Nat.le_of_ble_eq_true rfl) rfl ?_
  refine v_pop dX12_readVillage_138 rfl ?_
  replace hf := Option.some.inj hf
  subst hf
  exact v_vret dX12_readVillage_139 rfl
def f_X12_readVillage_b111 (h : xa_H) (l0 : Nat) : Option xa_H :=
  (gI [12] 11 h l0).bind fun x1 =>
  if x1 = (-1 : Int32) then
    (f_X12_look h l0).bind fun q3 =>
    if q3.1 = (-1 : Int32) then
      (f_X12_isWhole q3.2 l0).bind fun q5 =>
      if q5 = 0 then
        f_X12_readVillage_b134 q3.2 l0
      else
        some q3.2
    else
      f_X12_readVillage_b134 q3.2 l0
  else
    some h
set_option maxRecDepth 20000 in
theorem e_X12_readVillage_b111 {G : xa_G} : ∀ (h : xa_H) (l0 : Nat) (r : xa_H), f_X12_readVillage_b111 h l0 = some r → xa_V G M_X12_readVillage 7 111 [some (.ref l0), none] [] h none r := by
  intro h l0 r hf
  unfold f_X12_readVillage_b111 at hf
  refine v_aload_n dX12_readVillage_111 rfl ?_
  obtain ⟨x1, ex1, hf⟩ := ob hf
  refine v_getI dX12_readVillage_112 fl_12_143 ex1 ?_
  refine v_iconst dX12_readVillage_115 (by decide) (v := -1) ?_
  refine v_icmp_ne dX12_readVillage_116 (tgt := 139) (by decide) (fun c2 => ?_) (fun c2 => ?_)
  · replace hf := (if_neg c2).symm.trans hf
    replace hf := Option.some.inj hf
    subst hf
    exact v_vret dX12_readVillage_139 rfl
  · replace hf := (if_pos c2).symm.trans hf
    refine v_aload_n dX12_readVillage_119 rfl ?_
    obtain ⟨q3, eq3, hf⟩ := ob hf
    refine v_callV dX12_readVillage_120 ⟨cb_X12_look, ml_12_153, im_X12_look⟩ se_12_X12_look (ckf_X12_look eq3) (ev_X12_look eq3) (by decide) (As := []) rfl (st := []) rfl (Nat.le_of_ble_eq_true rfl) rfl ?_
    refine v_iconst dX12_readVillage_123 (by decide) (v := -1) ?_
    refine v_icmp_ne dX12_readVillage_124 (tgt := 134) (by decide) (fun c4 => ?_) (fun c4 => ?_)
    · replace hf := (if_neg c4).symm.trans hf
      exact e_X12_readVillage_b134 q3.2 l0 r hf
    · replace hf := (if_pos c4).symm.trans hf
      refine v_aload_n dX12_readVillage_127 rfl ?_
      obtain ⟨q5, eq5, hf⟩ := ob hf
      refine v_callV dX12_readVillage_128 ⟨cb_X12_isWhole, ml_12_285, im_X12_isWhole⟩ se_12_X12_isWhole (ckf_X12_isWhole eq5) (ev_X12_isWhole eq5) (by decide) (As := []) rfl (st := []) rfl (Nat.le_of_ble_eq_true rfl) rfl ?_
      refine v_if_ne dX12_readVillage_131 (tgt := 139) (by decide) (fun c6 => ?_) (fun c6 => ?_)
      · replace hf := (if_neg c6).symm.trans hf
        replace hf := Option.some.inj hf
        subst hf
        exact v_vret dX12_readVillage_139 rfl
      · replace hf := (if_pos c6).symm.trans hf
        exact e_X12_readVillage_b134 q3.2 l0 r hf
def f_X12_readVillage_b93 (k55 : xa_H → Nat → Int32 → Option xa_H) (h : xa_H) (l0 : Nat) (s0 : Int32) : Option xa_H :=
  if s0 = 0 then
    k55 h l0 s0
  else
    (gI [12] 10 h l0).bind fun x2 =>
    (xp [12] 10 h l0 (.int (x2 + (1 : Int32)))).bind fun h3 =>
    k55 h3 l0 s0
set_option maxRecDepth 20000 in
theorem e_X12_readVillage_b93 {G : xa_G} {k55 : xa_H → Nat → Int32 → Option xa_H} (hk55 : ∀ (h : xa_H) (l0 : Nat) (l1 : Int32) (r : xa_H), k55 h l0 l1 = some r → xa_V G M_X12_readVillage 7 55 [some (.ref l0), some (.int l1)] [] h none r) : ∀ (h : xa_H) (l0 : Nat) (s0 : Int32) (r : xa_H), f_X12_readVillage_b93 k55 h l0 s0 = some r → xa_V G M_X12_readVillage 7 93 [some (.ref l0), none] [.int s0] h none r := by
  intro h l0 s0 r hf
  unfold f_X12_readVillage_b93 at hf
  refine v_istore_n (i := 1) rfl dX12_readVillage_93 (Nat.le_of_ble_eq_true rfl) (loc' := [some (.ref l0), some (.int s0)]) rfl ?_
  refine v_iload_n dX12_readVillage_94 rfl ?_
  refine v_if_eq dX12_readVillage_95 (tgt := 55) (by decide) (fun c1 => ?_) (fun c1 => ?_)
  · replace hf := (if_pos c1).symm.trans hf
    exact hk55 h l0 s0 r hf
  · replace hf := (if_neg c1).symm.trans hf
    refine v_aload_n dX12_readVillage_98 rfl ?_
    refine v_dup dX12_readVillage_99 rfl ?_
    obtain ⟨x2, ex2, hf⟩ := ob hf
    refine v_getI dX12_readVillage_100 fl_12_134 ex2 ?_
    refine v_iconst dX12_readVillage_103 (by decide) (v := 1) ?_
    refine v_iadd dX12_readVillage_104 ?_
    obtain ⟨h3, eh3, hf⟩ := ob hf
    refine v_put dX12_readVillage_105 fp_12_134 (fun z => by cases z) (fun _ => rfl) (fun _ => rfl) eh3 ?_
    refine v_goto dX12_readVillage_108 (tgt := 55) (by decide) ?_
    exact hk55 h3 l0 s0 r hf
def f_X12_readVillage_b92 (k55 : xa_H → Nat → Int32 → Option xa_H) (h : xa_H) (l0 : Nat) : Option xa_H :=
  f_X12_readVillage_b93 k55 h l0 (0 : Int32)
set_option maxRecDepth 20000 in
theorem e_X12_readVillage_b92 {G : xa_G} {k55 : xa_H → Nat → Int32 → Option xa_H} (hk55 : ∀ (h : xa_H) (l0 : Nat) (l1 : Int32) (r : xa_H), k55 h l0 l1 = some r → xa_V G M_X12_readVillage 7 55 [some (.ref l0), some (.int l1)] [] h none r) : ∀ (h : xa_H) (l0 : Nat) (r : xa_H), f_X12_readVillage_b92 k55 h l0 = some r → xa_V G M_X12_readVillage 7 92 [some (.ref l0), none] [] h none r := by
  intro h l0 r hf
  unfold f_X12_readVillage_b92 at hf
  refine v_iconst dX12_readVillage_92 (by decide) (v := 0) ?_
  exact e_X12_readVillage_b93 hk55 h l0 (0 : Int32) r hf
def f_X12_readVillage_b55 : Nat → xa_H → Nat → Int32 → Option xa_H
  | 0, _, _, _ => none
  | n + 1, h, l0, l1 =>
    if l1 = 0 then
      f_X12_readVillage_b111 h l0
    else
      (gI [12] 11 h l0).bind fun x2 =>
      if x2 = (-1 : Int32) then
        (f_X12_readClause h l0).bind fun q4 =>
        (gI [12] 11 q4 l0).bind fun x5 =>
        if x5 = (-1 : Int32) then
          (f_X12_look q4 l0).bind fun q7 =>
          if q7.1 = (59 : Int32) then
            f_X12_readVillage_b93 (fun h l0 l1 => f_X12_readVillage_b55 n h l0 l1) q7.2 l0 (1 : Int32)
          else
            f_X12_readVillage_b92 (fun h l0 l1 => f_X12_readVillage_b55 n h l0 l1) q7.2 l0
        else
          f_X12_readVillage_b92 (fun h l0 l1 => f_X12_readVillage_b55 n h l0 l1) q4 l0
      else
        f_X12_readVillage_b111 h l0
set_option maxRecDepth 20000 in
theorem e_X12_readVillage_b55 {G : xa_G} : ∀ (n : Nat) (h : xa_H) (l0 : Nat) (l1 : Int32) (r : xa_H), f_X12_readVillage_b55 n h l0 l1 = some r → xa_V G M_X12_readVillage 7 55 [some (.ref l0), some (.int l1)] [] h none r := by
  intro n
  induction n with
  | zero =>
    intro h l0 l1 r hf
    cases (show (none : Option xa_H) = some r from hf)
  | succ n ih =>
    intro h l0 l1 r hf
    rw [f_X12_readVillage_b55] at hf
    refine v_iload_n dX12_readVillage_55 rfl ?_
    refine v_if_eq dX12_readVillage_56 (tgt := 111) (by decide) (fun c1 => ?_) (fun c1 => ?_)
    · replace hf := (if_pos c1).symm.trans hf
      exact xa_weak (loc := [some (.ref l0), none]) ⟨rfl, trivial⟩ (e_X12_readVillage_b111 h l0 r hf)
    · replace hf := (if_neg c1).symm.trans hf
      refine v_aload_n dX12_readVillage_59 rfl ?_
      obtain ⟨x2, ex2, hf⟩ := ob hf
      refine v_getI dX12_readVillage_60 fl_12_143 ex2 ?_
      refine v_iconst dX12_readVillage_63 (by decide) (v := -1) ?_
      refine v_icmp_ne dX12_readVillage_64 (tgt := 111) (by decide) (fun c3 => ?_) (fun c3 => ?_)
      · replace hf := (if_neg c3).symm.trans hf
        exact xa_weak (loc := [some (.ref l0), none]) ⟨rfl, trivial⟩ (e_X12_readVillage_b111 h l0 r hf)
      · replace hf := (if_pos c3).symm.trans hf
        refine v_aload_n dX12_readVillage_67 rfl ?_
        obtain ⟨q4, eq4, hf⟩ := ob hf
        refine v_callV dX12_readVillage_68 ⟨cb_X12_readClause, ml_12_282, im_X12_readClause⟩ se_12_X12_readClause (ckf_X12_readClause eq4) (ev_X12_readClause eq4) (by decide) (As := []) rfl (st := []) rfl (Nat.le_of_ble_eq_true rfl) rfl ?_
        refine v_aload_n dX12_readVillage_71 rfl ?_
        obtain ⟨x5, ex5, hf⟩ := ob hf
        refine v_getI dX12_readVillage_72 fl_12_143 ex5 ?_
        refine v_iconst dX12_readVillage_75 (by decide) (v := -1) ?_
        refine v_icmp_ne dX12_readVillage_76 (tgt := 92) (by decide) (fun c6 => ?_) (fun c6 => ?_)
        · replace hf := (if_neg c6).symm.trans hf
          exact xa_weak (loc := [some (.ref l0), none]) ⟨rfl, trivial⟩ (e_X12_readVillage_b92 ih q4 l0 r hf)
        · replace hf := (if_pos c6).symm.trans hf
          refine v_aload_n dX12_readVillage_79 rfl ?_
          obtain ⟨q7, eq7, hf⟩ := ob hf
          refine v_callV dX12_readVillage_80 ⟨cb_X12_look, ml_12_153, im_X12_look⟩ se_12_X12_look (ckf_X12_look eq7) (ev_X12_look eq7) (by decide) (As := []) rfl (st := []) rfl (Nat.le_of_ble_eq_true rfl) rfl ?_
          refine v_bipush dX12_readVillage_83 (by decide) (v := 59) ?_
          refine v_icmp_ne dX12_readVillage_85 (tgt := 92) (by decide) (fun c8 => ?_) (fun c8 => ?_)
          · replace hf := (if_neg c8).symm.trans hf
            exact xa_weak (loc := [some (.ref l0), none]) ⟨rfl, trivial⟩ (e_X12_readVillage_b92 ih q7.2 l0 r hf)
          · replace hf := (if_pos c8).symm.trans hf
            refine v_iconst dX12_readVillage_88 (by decide) (v := 1) ?_
            refine v_goto dX12_readVillage_89 (tgt := 93) (by decide) ?_
            exact xa_weak (loc := [some (.ref l0), none]) ⟨rfl, trivial⟩ (e_X12_readVillage_b93 ih q7.2 l0 (1 : Int32) r hf)
def f_X12_readVillage_b30 : Nat → xa_H → Nat → Int32 → Option xa_H
  | 0, _, _, _ => none
  | n + 1, h, l0, l1 =>
    if (2 : Int32) ≤ l1 then
      f_X12_readVillage_b55 1048576 h l0 (1 : Int32)
    else
      (gR [12] 19 h l0).bind fun x2 =>
      (f_X12_usual h (115 : Int32) l1).bind fun q3 =>
      (pI h x2 l1 q3).bind fun h4 =>
      f_X12_readVillage_b30 n h4 l0 (l1 + (1 : Int32))
set_option maxRecDepth 20000 in
theorem e_X12_readVillage_b30 {G : xa_G} : ∀ (n : Nat) (h : xa_H) (l0 : Nat) (l1 : Int32) (r : xa_H), f_X12_readVillage_b30 n h l0 l1 = some r → xa_V G M_X12_readVillage 7 30 [some (.ref l0), some (.int l1)] [] h none r := by
  intro n
  induction n with
  | zero =>
    intro h l0 l1 r hf
    cases (show (none : Option xa_H) = some r from hf)
  | succ n ih =>
    intro h l0 l1 r hf
    rw [f_X12_readVillage_b30] at hf
    refine v_iload_n dX12_readVillage_30 rfl ?_
    refine v_iconst dX12_readVillage_31 (by decide) (v := 2) ?_
    refine v_icmp_ge dX12_readVillage_32 (tgt := 53) (by decide) (fun c1 => ?_) (fun c1 => ?_)
    · replace hf := (if_pos c1).symm.trans hf
      refine v_iconst dX12_readVillage_53 (by decide) (v := 1) ?_
      refine v_istore_n (i := 1) rfl dX12_readVillage_54 (Nat.le_of_ble_eq_true rfl) (loc' := [some (.ref l0), some (.int (1 : Int32))]) rfl ?_
      exact e_X12_readVillage_b55 1048576 h l0 (1 : Int32) r hf
    · replace hf := (if_neg c1).symm.trans hf
      refine v_aload_n dX12_readVillage_35 rfl ?_
      obtain ⟨x2, ex2, hf⟩ := ob hf
      refine v_getR dX12_readVillage_36 fl_12_40 ex2 ?_
      refine v_iload_n dX12_readVillage_39 rfl ?_
      refine v_bipush dX12_readVillage_40 (by decide) (v := 115) ?_
      refine v_iload_n dX12_readVillage_42 rfl ?_
      obtain ⟨q3, eq3, hf⟩ := ob hf
      refine v_callS dX12_readVillage_43 ⟨cb_X12_usual, ml_12_236, sm_X12_usual⟩ (ev_X12_usual eq3) (by decide) (As := [.int (115 : Int32), .int l1]) rfl (st := [.int l1, .ref x2]) rfl (Nat.le_of_ble_eq_true rfl) rfl ?_
      obtain ⟨h4, eh4, hf⟩ := ob hf
      refine v_iastoreI dX12_readVillage_46 eh4 ?_
      refine v_iinc dX12_readVillage_47 rfl (v := (l1 + (1 : Int32))) rfl (Nat.le_of_ble_eq_true rfl) (loc' := [some (.ref l0), some (.int (l1 + (1 : Int32)))]) rfl ?_
      refine v_goto dX12_readVillage_50 (tgt := 30) (by decide) ?_
      exact ih h4 l0 (l1 + (1 : Int32)) r hf
def f_X12_readVillage (h : xa_H) (l0 : Nat) : Option xa_H :=
  (ck [12] h l0).bind fun _ =>
  (gR [12] 1 h l0).bind fun x1 =>
  (gI [12] 6 h l0).bind fun x2 =>
  (f_X12_starts h l0 x1 (0 : Int32) x2).bind fun q3 =>
  (xp [12] 28 q3 l0 (.int (0 : Int32))).bind fun h4 =>
  (xp [12] 29 h4 l0 (.int (0 : Int32))).bind fun h5 =>
  (xp [12] 31 h5 l0 (.int (0 : Int32))).bind fun h6 =>
  f_X12_readVillage_b30 1048576 h6 l0 (0 : Int32)
set_option maxRecDepth 20000 in
theorem ev_X12_readVillage {G : xa_G} {h : xa_H} {l0 : Nat} {r : xa_H} (hf : f_X12_readVillage h l0 = some r) : xa_Ev G M_X12_readVillage 7 [.ref l0] h none r := by
  refine xa_entry (by decide +kernel) (loc := [some (.ref l0), none]) rfl (Nat.le_of_ble_eq_true rfl) ?_
  unfold f_X12_readVillage at hf
  obtain ⟨u0, eu0, hf⟩ := ob hf
  refine v_aload_n dX12_readVillage_0 rfl ?_
  refine v_aload_n dX12_readVillage_1 rfl ?_
  obtain ⟨x1, ex1, hf⟩ := ob hf
  refine v_getR dX12_readVillage_2 fl_12_9 ex1 ?_
  refine v_iconst dX12_readVillage_5 (by decide) (v := 0) ?_
  refine v_aload_n dX12_readVillage_6 rfl ?_
  obtain ⟨x2, ex2, hf⟩ := ob hf
  refine v_getI dX12_readVillage_7 fl_12_124 ex2 ?_
  obtain ⟨q3, eq3, hf⟩ := ob hf
  refine v_callV dX12_readVillage_10 ⟨cb_X12_starts, ml_12_222, im_X12_starts⟩ se_12_X12_starts (ckf_X12_starts eq3) (ev_X12_starts eq3) (by decide) (As := [.ref x1, .int (0 : Int32), .int x2]) rfl (st := []) rfl (Nat.le_of_ble_eq_true rfl) rfl ?_
  refine v_aload_n dX12_readVillage_13 rfl ?_
  refine v_iconst dX12_readVillage_14 (by decide) (v := 0) ?_
  obtain ⟨h4, eh4, hf⟩ := ob hf
  refine v_put dX12_readVillage_15 fp_12_260 (fun z => by cases z) (fun _ => rfl) (fun _ => rfl) eh4 ?_
  refine v_aload_n dX12_readVillage_18 rfl ?_
  refine v_iconst dX12_readVillage_19 (by decide) (v := 0) ?_
  obtain ⟨h5, eh5, hf⟩ := ob hf
  refine v_put dX12_readVillage_20 fp_12_263 (fun z => by cases z) (fun _ => rfl) (fun _ => rfl) eh5 ?_
  refine v_aload_n dX12_readVillage_23 rfl ?_
  refine v_iconst dX12_readVillage_24 (by decide) (v := 0) ?_
  obtain ⟨h6, eh6, hf⟩ := ob hf
  refine v_put dX12_readVillage_25 fp_12_257 (fun z => by cases z) (fun _ => rfl) (fun _ => rfl) eh6 ?_
  refine v_iconst dX12_readVillage_28 (by decide) (v := 0) ?_
  refine v_istore_n (i := 1) rfl dX12_readVillage_29 (Nat.le_of_ble_eq_true rfl) (loc' := [some (.ref l0), some (.int (0 : Int32))]) rfl ?_
  exact e_X12_readVillage_b30 1048576 h6 l0 (0 : Int32) r hf
theorem ckf_X12_readVillage {h : xa_H} {l0 : Nat} {r : xa_H} (hf : f_X12_readVillage h l0 = some r) : ck [12] h l0 = some () := by
  obtain ⟨u, e, -⟩ := ob hf
  exact e
def M_X12_fault : xa_M := (yX12_fault, cX12_fault, 2, some .int)
theorem cb_X12_fault : xa_CB M_X12_fault 1 := ⟨gws_at 1491 (by decide +kernel) rfl, gws_at 122 (by decide +kernel) rfl, by decide +kernel, Nat.le_of_ble_eq_true rfl⟩
def f_X12_fault_b55 (h : xa_H) (l0 : Nat) : Option (Int32 × xa_H) :=
  (gI [12] 11 h l0).bind fun x1 =>
  some (x1, h)
set_option maxRecDepth 20000 in
theorem e_X12_fault_b55 {G : xa_G} : ∀ (h : xa_H) (l0 : Nat) (r : (Int32 × xa_H)), f_X12_fault_b55 h l0 = some r → xa_V G M_X12_fault 190 55 [some (.ref l0), none] [] h (some (.int r.1)) r.2 := by
  intro h l0 r hf
  unfold f_X12_fault_b55 at hf
  refine v_aload_n dX12_fault_55 rfl ?_
  obtain ⟨x1, ex1, hf⟩ := ob hf
  refine v_getI dX12_fault_56 fl_12_143 ex1 ?_
  replace hf := Option.some.inj hf
  subst hf
  exact v_iret dX12_fault_59 rfl
def f_X12_fault_b46 (h : xa_H) (l0 : Nat) (l1 : Int32) : Option (Int32 × xa_H) :=
  if l1 = (2 : Int32) then
    (f_X12_readSong h l0).bind fun q2 =>
    f_X12_fault_b55 q2 l0
  else
    f_X12_fault_b55 h l0
set_option maxRecDepth 20000 in
theorem e_X12_fault_b46 {G : xa_G} : ∀ (h : xa_H) (l0 : Nat) (l1 : Int32) (r : (Int32 × xa_H)), f_X12_fault_b46 h l0 l1 = some r → xa_V G M_X12_fault 190 46 [some (.ref l0), some (.int l1)] [] h (some (.int r.1)) r.2 := by
  intro h l0 l1 r hf
  unfold f_X12_fault_b46 at hf
  refine v_iload_n dX12_fault_46 rfl ?_
  refine v_iconst dX12_fault_47 (by decide) (v := 2) ?_
  refine v_icmp_ne dX12_fault_48 (tgt := 55) (by decide) (fun c1 => ?_) (fun c1 => ?_)
  · replace hf := (if_neg c1).symm.trans hf
    exact xa_weak (loc := [some (.ref l0), none]) ⟨rfl, trivial⟩ (e_X12_fault_b55 h l0 r hf)
  · replace hf := (if_pos c1).symm.trans hf
    refine v_aload_n dX12_fault_51 rfl ?_
    obtain ⟨q2, eq2, hf⟩ := ob hf
    refine v_callV dX12_fault_52 ⟨cb_X12_readSong, ml_12_296, im_X12_readSong⟩ se_12_X12_readSong (ckf_X12_readSong eq2) (ev_X12_readSong eq2) (by decide) (As := []) rfl (st := []) rfl (Nat.le_of_ble_eq_true rfl) rfl ?_
    exact xa_weak (loc := [some (.ref l0), none]) ⟨rfl, trivial⟩ (e_X12_fault_b55 q2 l0 r hf)
def f_X12_fault_b28 (h : xa_H) (l0 : Nat) (l1 : Int32) : Option (Int32 × xa_H) :=
  if l1 = (1 : Int32) then
    (gR [12] 1 h l0).bind fun x2 =>
    (gI [12] 6 h l0).bind fun x3 =>
    (f_X12_goThrough h l0 x2 (0 : Int32) x3).bind fun q4 =>
    f_X12_fault_b46 q4 l0 l1
  else
    f_X12_fault_b46 h l0 l1
set_option maxRecDepth 20000 in
theorem e_X12_fault_b28 {G : xa_G} : ∀ (h : xa_H) (l0 : Nat) (l1 : Int32) (r : (Int32 × xa_H)), f_X12_fault_b28 h l0 l1 = some r → xa_V G M_X12_fault 190 28 [some (.ref l0), some (.int l1)] [] h (some (.int r.1)) r.2 := by
  intro h l0 l1 r hf
  unfold f_X12_fault_b28 at hf
  refine v_iload_n dX12_fault_28 rfl ?_
  refine v_iconst dX12_fault_29 (by decide) (v := 1) ?_
  refine v_icmp_ne dX12_fault_30 (tgt := 46) (by decide) (fun c1 => ?_) (fun c1 => ?_)
  · replace hf := (if_neg c1).symm.trans hf
    exact e_X12_fault_b46 h l0 l1 r hf
  · replace hf := (if_pos c1).symm.trans hf
    refine v_aload_n dX12_fault_33 rfl ?_
    refine v_aload_n dX12_fault_34 rfl ?_
    obtain ⟨x2, ex2, hf⟩ := ob hf
    refine v_getR dX12_fault_35 fl_12_9 ex2 ?_
    refine v_iconst dX12_fault_38 (by decide) (v := 0) ?_
    refine v_aload_n dX12_fault_39 rfl ?_
    obtain ⟨x3, ex3, hf⟩ := ob hf
    refine v_getI dX12_fault_40 fl_12_124 ex3 ?_
    obtain ⟨q4, eq4, hf⟩ := ob hf
    refine v_callV dX12_fault_43 ⟨cb_X12_goThrough, ml_12_293, im_X12_goThrough⟩ se_12_X12_goThrough (ckf_X12_goThrough eq4) (ev_X12_goThrough eq4) (by decide) (As := [.ref x2, .int (0 : Int32), .int x3]) rfl (st := []) rfl (Nat.le_of_ble_eq_true rfl) rfl ?_
    exact e_X12_fault_b46 q4 l0 l1 r hf
def f_X12_fault (h : xa_H) (l0 : Nat) (l1 : Int32) : Option (Int32 × xa_H) :=
  (ck [12] h l0).bind fun _ =>
  (xp [12] 0 h l0 (.int (0 : Int32))).bind fun h1 =>
  (f_X12_isIn h1 l1.toInt64 (0 : Int64) (2 : Int64)).bind fun q2 =>
  if q2 = 0 then
    some ((-2 : Int32), h1)
  else
    if l1 = 0 then
      (f_X12_readVillage h1 l0).bind fun q5 =>
      f_X12_fault_b28 q5 l0 l1
    else
      f_X12_fault_b28 h1 l0 l1
set_option maxRecDepth 20000 in
theorem ev_X12_fault {G : xa_G} {h : xa_H} {l0 : Nat} {l1 : Int32} {r : (Int32 × xa_H)} (hf : f_X12_fault h l0 l1 = some r) : xa_Ev G M_X12_fault 190 [.ref l0, .int l1] h (some (.int r.1)) r.2 := by
  refine xa_entry (by decide +kernel) (loc := [some (.ref l0), some (.int l1)]) rfl (Nat.le_of_ble_eq_true rfl) ?_
  unfold f_X12_fault at hf
  obtain ⟨u0, eu0, hf⟩ := ob hf
  refine v_aload_n dX12_fault_0 rfl ?_
  refine v_iconst dX12_fault_1 (by decide) (v := 0) ?_
  obtain ⟨h1, eh1, hf⟩ := ob hf
  refine v_put dX12_fault_2 fp_12_111 (fun z => by cases z) (fun _ => rfl) (fun _ => rfl) eh1 ?_
  refine v_iload_n dX12_fault_5 rfl ?_
  refine v_i2l dX12_fault_6 ?_
  refine v_lconst dX12_fault_7 (by decide) (v := 0) ?_
  refine v_ldc2 dX12_fault_8 rfl col_12_288 ?_
  obtain ⟨q2, eq2, hf⟩ := ob hf
  refine v_callS dX12_fault_11 ⟨cb_X12_isIn, ml_12_232, sm_X12_isIn⟩ (ev_X12_isIn eq2) (by decide) (As := [.long l1.toInt64, .long (0 : Int64), .long (2 : Int64)]) rfl (st := []) rfl (Nat.le_of_ble_eq_true rfl) rfl ?_
  refine v_if_ne dX12_fault_14 (tgt := 20) (by decide) (fun c3 => ?_) (fun c3 => ?_)
  · replace hf := (if_neg c3).symm.trans hf
    refine v_iload_n dX12_fault_20 rfl ?_
    refine v_if_ne dX12_fault_21 (tgt := 28) (by decide) (fun c4 => ?_) (fun c4 => ?_)
    · replace hf := (if_neg c4).symm.trans hf
      exact e_X12_fault_b28 h1 l0 l1 r hf
    · replace hf := (if_pos c4).symm.trans hf
      refine v_aload_n dX12_fault_24 rfl ?_
      obtain ⟨q5, eq5, hf⟩ := ob hf
      refine v_callV dX12_fault_25 ⟨cb_X12_readVillage, ml_12_290, im_X12_readVillage⟩ se_12_X12_readVillage (ckf_X12_readVillage eq5) (ev_X12_readVillage eq5) (by decide) (As := []) rfl (st := []) rfl (Nat.le_of_ble_eq_true rfl) rfl ?_
      exact e_X12_fault_b28 q5 l0 l1 r hf
  · replace hf := (if_pos c3).symm.trans hf
    refine v_bipush dX12_fault_17 (by decide) (v := -2) ?_
    replace hf := Option.some.inj hf
    subst hf
    exact v_iret dX12_fault_19 rfl
theorem ckf_X12_fault {h : xa_H} {l0 : Nat} {l1 : Int32} {r : (Int32 × xa_H)} (hf : f_X12_fault h l0 l1 = some r) : ck [12] h l0 = some () := by
  obtain ⟨u, e, -⟩ := ob hf
  exact e
def M_X12_put : xa_M := (yX12_put, cX12_put, 3, none)
theorem cb_X12_put : xa_CB M_X12_put 1 := ⟨gws_at 1483 (by decide +kernel) rfl, gws_at 122 (by decide +kernel) rfl, by decide +kernel, Nat.le_of_ble_eq_true rfl⟩
def f_X12_put_b43 (k3 : xa_H → Nat → Int32 → Int32 → Option xa_H) (h : xa_H) (l0 : Nat) (l1 : Int32) (l2 : Int32) : Option xa_H :=
  k3 h l0 l1 (l2 + (-8 : Int32))
set_option maxRecDepth 20000 in
theorem e_X12_put_b43 {G : xa_G} {k3 : xa_H → Nat → Int32 → Int32 → Option xa_H} (hk3 : ∀ (h : xa_H) (l0 : Nat) (l1 : Int32) (l2 : Int32) (r : xa_H), k3 h l0 l1 l2 = some r → xa_V G M_X12_put 0 3 [some (.ref l0), some (.int l1), some (.int l2)] [] h none r) : ∀ (h : xa_H) (l0 : Nat) (l1 : Int32) (l2 : Int32) (r : xa_H), f_X12_put_b43 k3 h l0 l1 l2 = some r → xa_V G M_X12_put 0 43 [some (.ref l0), some (.int l1), some (.int l2)] [] h none r := by
  intro h l0 l1 l2 r hf
  unfold f_X12_put_b43 at hf
  refine v_iinc dX12_put_43 rfl (v := (l2 + (-8 : Int32))) rfl (Nat.le_of_ble_eq_true rfl) (loc' := [some (.ref l0), some (.int l1), some (.int (l2 + (-8 : Int32)))]) rfl ?_
  refine v_goto dX12_put_46 (tgt := 3) (by decide) ?_
  exact hk3 h l0 l1 (l2 + (-8 : Int32)) r hf
def f_X12_put_b3 : Nat → xa_H → Nat → Int32 → Int32 → Option xa_H
  | 0, _, _, _, _ => none
  | n + 1, h, l0, l1, l2 =>
    if l2 < 0 then
      some h
    else
      if ((shr l1 l2) &&& (255 : Int32)) = 0 then
        f_X12_put_b43 (fun h l0 l1 l2 => f_X12_put_b3 n h l0 l1 l2) h l0 l1 l2
      else
        (gR [12] 1 h l0).bind fun x3 =>
        (gI [12] 6 h l0).bind fun x4 =>
        (pB h x3 x4 ((shr l1 l2)).toInt8.toInt32).bind fun h5 =>
        (gI [12] 6 h5 l0).bind fun x6 =>
        (xp [12] 6 h5 l0 (.int (x6 + (1 : Int32)))).bind fun h7 =>
        f_X12_put_b43 (fun h l0 l1 l2 => f_X12_put_b3 n h l0 l1 l2) h7 l0 l1 l2
set_option maxRecDepth 20000 in
theorem e_X12_put_b3 {G : xa_G} : ∀ (n : Nat) (h : xa_H) (l0 : Nat) (l1 : Int32) (l2 : Int32) (r : xa_H), f_X12_put_b3 n h l0 l1 l2 = some r → xa_V G M_X12_put 0 3 [some (.ref l0), some (.int l1), some (.int l2)] [] h none r := by
  intro n
  induction n with
  | zero =>
    intro h l0 l1 l2 r hf
    cases (show (none : Option xa_H) = some r from hf)
  | succ n ih =>
    intro h l0 l1 l2 r hf
    rw [f_X12_put_b3] at hf
    refine v_iload_n dX12_put_3 rfl ?_
    refine v_if_lt dX12_put_4 (tgt := 49) (by decide) (fun c1 => ?_) (fun c1 => ?_)
    · replace hf := (if_pos c1).symm.trans hf
      replace hf := Option.some.inj hf
      subst hf
      exact v_vret dX12_put_49 rfl
    · replace hf := (if_neg c1).symm.trans hf
      refine v_iload_n dX12_put_7 rfl ?_
      refine v_iload_n dX12_put_8 rfl ?_
      refine w_ishr dX12_put_9 ?_
      refine v_sipush dX12_put_10 (by decide) (v := 255) ?_
      refine v_iand dX12_put_13 ?_
      refine v_if_ne dX12_put_14 (tgt := 20) (by decide) (fun c2 => ?_) (fun c2 => ?_)
      · replace hf := (if_neg c2).symm.trans hf
        refine v_aload_n dX12_put_20 rfl ?_
        obtain ⟨x3, ex3, hf⟩ := ob hf
        refine v_getR dX12_put_21 fl_12_9 ex3 ?_
        refine v_aload_n dX12_put_24 rfl ?_
        obtain ⟨x4, ex4, hf⟩ := ob hf
        refine v_getI dX12_put_25 fl_12_124 ex4 ?_
        refine v_iload_n dX12_put_28 rfl ?_
        refine v_iload_n dX12_put_29 rfl ?_
        refine w_ishr dX12_put_30 ?_
        refine v_i2b dX12_put_31 ?_
        obtain ⟨h5, eh5, hf⟩ := ob hf
        refine v_bastoreB dX12_put_32 eh5 ?_
        refine v_aload_n dX12_put_33 rfl ?_
        refine v_dup dX12_put_34 rfl ?_
        obtain ⟨x6, ex6, hf⟩ := ob hf
        refine v_getI dX12_put_35 fl_12_124 ex6 ?_
        refine v_iconst dX12_put_38 (by decide) (v := 1) ?_
        refine v_iadd dX12_put_39 ?_
        obtain ⟨h7, eh7, hf⟩ := ob hf
        refine v_put dX12_put_40 fp_12_124 (fun z => by cases z) (fun _ => rfl) (fun _ => rfl) eh7 ?_
        exact e_X12_put_b43 ih h7 l0 l1 l2 r hf
      · replace hf := (if_pos c2).symm.trans hf
        refine v_goto dX12_put_17 (tgt := 43) (by decide) ?_
        exact e_X12_put_b43 ih h l0 l1 l2 r hf
def f_X12_put (h : xa_H) (l0 : Nat) (l1 : Int32) : Option xa_H :=
  (ck [12] h l0).bind fun _ =>
  f_X12_put_b3 1048576 h l0 l1 (24 : Int32)
set_option maxRecDepth 20000 in
theorem ev_X12_put {G : xa_G} {h : xa_H} {l0 : Nat} {l1 : Int32} {r : xa_H} (hf : f_X12_put h l0 l1 = some r) : xa_Ev G M_X12_put 0 [.ref l0, .int l1] h none r := by
  refine xa_entry (by decide +kernel) (loc := [some (.ref l0), some (.int l1), none]) rfl (Nat.le_of_ble_eq_true rfl) ?_
  unfold f_X12_put at hf
  obtain ⟨u0, eu0, hf⟩ := ob hf
  refine v_bipush dX12_put_0 (by decide) (v := 24) ?_
  refine v_istore_n (i := 2) rfl dX12_put_2 (Nat.le_of_ble_eq_true rfl) (loc' := [some (.ref l0), some (.int l1), some (.int (24 : Int32))]) rfl ?_
  exact e_X12_put_b3 1048576 h l0 l1 (24 : Int32) r hf
theorem ckf_X12_put {h : xa_H} {l0 : Nat} {l1 : Int32} {r : xa_H} (hf : f_X12_put h l0 l1 = some r) : ck [12] h l0 = some () := by
  obtain ⟨u, e, -⟩ := ob hf
  exact e
def M_X12_feed : xa_M := (yX12_feed, cX12_feed, 6, some .int)
theorem cb_X12_feed : xa_CB M_X12_feed 5 := ⟨gws_at 1476 (by decide +kernel) rfl, gws_at 122 (by decide +kernel) rfl, by decide +kernel, Nat.le_of_ble_eq_true rfl⟩
def f_X12_feed (h : xa_H) (l0 : Nat) (l1 : Int32) (l2 : Int32) (l3 : Int32) (l4 : Int32) (l5 : Int32) : Option (Int32 × xa_H) :=
  (ck [12] h l0).bind fun _ =>
  (xp [12] 0 h l0 (.int (0 : Int32))).bind fun h1 =>
  (gI [12] 6 h1 l0).bind fun x2 =>
  (f_X12_bytesIn h1 l1).bind fun q3 =>
  (f_X12_bytesIn h1 l2).bind fun q4 =>
  (f_X12_bytesIn h1 l3).bind fun q5 =>
  (f_X12_bytesIn h1 l4).bind fun q6 =>
  (f_X12_bytesIn h1 l5).bind fun q7 =>
  if (((((x2 + q3) + q4) + q5) + q6) + q7) ≤ (240 : Int32) then
    (f_X12_put h1 l0 l1).bind fun q9 =>
    (f_X12_put q9 l0 l2).bind fun q10 =>
    (f_X12_put q10 l0 l3).bind fun q11 =>
    (f_X12_put q11 l0 l4).bind fun q12 =>
    (f_X12_put q12 l0 l5).bind fun q13 =>
    (gI [12] 6 q13 l0).bind fun x14 =>
    some (x14, q13)
  else
    some ((-1 : Int32), h1)
set_option maxRecDepth 20000 in
theorem ev_X12_feed {G : xa_G} {h : xa_H} {l0 : Nat} {l1 : Int32} {l2 : Int32} {l3 : Int32} {l4 : Int32} {l5 : Int32} {r : (Int32 × xa_H)} (hf : f_X12_feed h l0 l1 l2 l3 l4 l5 = some r) : xa_Ev G M_X12_feed 1 [.ref l0, .int l1, .int l2, .int l3, .int l4, .int l5] h (some (.int r.1)) r.2 := by
  refine xa_entry (by decide +kernel) (loc := [some (.ref l0), some (.int l1), some (.int l2), some (.int l3), some (.int l4), some (.int l5)]) rfl (Nat.le_of_ble_eq_true rfl) ?_
  unfold f_X12_feed at hf
  obtain ⟨u0, eu0, hf⟩ := ob hf
  refine v_aload_n dX12_feed_0 rfl ?_
  refine v_iconst dX12_feed_1 (by decide) (v := 0) ?_
  obtain ⟨h1, eh1, hf⟩ := ob hf
  refine v_put dX12_feed_2 fp_12_111 (fun z => by cases z) (fun _ => rfl) (fun _ => rfl) eh1 ?_
  refine v_aload_n dX12_feed_5 rfl ?_
  obtain ⟨x2, ex2, hf⟩ := ob hf
  refine v_getI dX12_feed_6 fl_12_124 ex2 ?_
  refine v_iload_n dX12_feed_9 rfl ?_
  obtain ⟨q3, eq3, hf⟩ := ob hf
  refine v_callS dX12_feed_10 ⟨cb_X12_bytesIn, ml_12_126, sm_X12_bytesIn⟩ (ev_X12_bytesIn eq3) (by decide) (As := [.int l1]) rfl (st := [.int x2]) rfl (Nat.le_of_ble_eq_true rfl) rfl ?_
  refine v_iadd dX12_feed_13 ?_
  refine v_iload_n dX12_feed_14 rfl ?_
  obtain ⟨q4, eq4, hf⟩ := ob hf
  refine v_callS dX12_feed_15 ⟨cb_X12_bytesIn, ml_12_126, sm_X12_bytesIn⟩ (ev_X12_bytesIn eq4) (by decide) (As := [.int l2]) rfl (st := [.int (x2 + q3)]) rfl (Nat.le_of_ble_eq_true rfl) rfl ?_
  refine v_iadd dX12_feed_18 ?_
  refine v_iload_n dX12_feed_19 rfl ?_
  obtain ⟨q5, eq5, hf⟩ := ob hf
  refine v_callS dX12_feed_20 ⟨cb_X12_bytesIn, ml_12_126, sm_X12_bytesIn⟩ (ev_X12_bytesIn eq5) (by decide) (As := [.int l3]) rfl (st := [.int ((x2 + q3) + q4)]) rfl (Nat.le_of_ble_eq_true rfl) rfl ?_
  refine v_iadd dX12_feed_23 ?_
  refine v_iload dX12_feed_24 rfl ?_
  obtain ⟨q6, eq6, hf⟩ := ob hf
  refine v_callS dX12_feed_26 ⟨cb_X12_bytesIn, ml_12_126, sm_X12_bytesIn⟩ (ev_X12_bytesIn eq6) (by decide) (As := [.int l4]) rfl (st := [.int (((x2 + q3) + q4) + q5)]) rfl (Nat.le_of_ble_eq_true rfl) rfl ?_
  refine v_iadd dX12_feed_29 ?_
  refine v_iload dX12_feed_30 rfl ?_
  obtain ⟨q7, eq7, hf⟩ := ob hf
  refine v_callS dX12_feed_32 ⟨cb_X12_bytesIn, ml_12_126, sm_X12_bytesIn⟩ (ev_X12_bytesIn eq7) (by decide) (As := [.int l5]) rfl (st := [.int ((((x2 + q3) + q4) + q5) + q6)]) rfl (Nat.le_of_ble_eq_true rfl) rfl ?_
  refine v_iadd dX12_feed_35 ?_
  refine v_sipush dX12_feed_36 (by decide) (v := 240) ?_
  refine v_icmp_le dX12_feed_39 (tgt := 44) (by decide) (fun c8 => ?_) (fun c8 => ?_)
  · replace hf := (if_pos c8).symm.trans hf
    refine v_aload_n dX12_feed_44 rfl ?_
    refine v_iload_n dX12_feed_45 rfl ?_
    obtain ⟨q9, eq9, hf⟩ := ob hf
    refine v_callV dX12_feed_46 ⟨cb_X12_put, ml_12_130, im_X12_put⟩ se_12_X12_put (ckf_X12_put eq9) (ev_X12_put eq9) (by decide) (As := [.int l1]) rfl (st := []) rfl (Nat.le_of_ble_eq_true rfl) rfl ?_
    refine v_aload_n dX12_feed_49 rfl ?_
    refine v_iload_n dX12_feed_50 rfl ?_
    obtain ⟨q10, eq10, hf⟩ := ob hf
    refine v_callV dX12_feed_51 ⟨cb_X12_put, ml_12_130, im_X12_put⟩ se_12_X12_put (ckf_X12_put eq10) (ev_X12_put eq10) (by decide) (As := [.int l2]) rfl (st := []) rfl (Nat.le_of_ble_eq_true rfl) rfl ?_
    refine v_aload_n dX12_feed_54 rfl ?_
    refine v_iload_n dX12_feed_55 rfl ?_
    obtain ⟨q11, eq11, hf⟩ := ob hf
    refine v_callV dX12_feed_56 ⟨cb_X12_put, ml_12_130, im_X12_put⟩ se_12_X12_put (ckf_X12_put eq11) (ev_X12_put eq11) (by decide) (As := [.int l3]) rfl (st := []) rfl (Nat.le_of_ble_eq_true rfl) rfl ?_
    refine v_aload_n dX12_feed_59 rfl ?_
    refine v_iload dX12_feed_60 rfl ?_
    obtain ⟨q12, eq12, hf⟩ := ob hf
    refine v_callV dX12_feed_62 ⟨cb_X12_put, ml_12_130, im_X12_put⟩ se_12_X12_put (ckf_X12_put eq12) (ev_X12_put eq12) (by decide) (As := [.int l4]) rfl (st := []) rfl (Nat.le_of_ble_eq_true rfl) rfl ?_
    refine v_aload_n dX12_feed_65 rfl ?_
    refine v_iload dX12_feed_66 rfl ?_
    obtain ⟨q13, eq13, hf⟩ := ob hf
    refine v_callV dX12_feed_68 ⟨cb_X12_put, ml_12_130, im_X12_put⟩ se_12_X12_put (ckf_X12_put eq13) (ev_X12_put eq13) (by decide) (As := [.int l5]) rfl (st := []) rfl (Nat.le_of_ble_eq_true rfl) rfl ?_
    refine v_aload_n dX12_feed_71 rfl ?_
    obtain ⟨x14, ex14, hf⟩ := ob hf
    refine v_getI dX12_feed_72 fl_12_124 ex14 ?_
    replace hf := Option.some.inj hf
    subst hf
    exact v_iret dX12_feed_75 rfl
  · replace hf := (if_neg c8).symm.trans hf
    refine v_iconst dX12_feed_42 (by decide) (v := -1) ?_
    replace hf := Option.some.inj hf
    subst hf
    exact v_iret dX12_feed_43 rfl
theorem ckf_X12_feed {h : xa_H} {l0 : Nat} {l1 : Int32} {l2 : Int32} {l3 : Int32} {l4 : Int32} {l5 : Int32} {r : (Int32 × xa_H)} (hf : f_X12_feed h l0 l1 l2 l3 l4 l5 = some r) : ck [12] h l0 = some () := by
  obtain ⟨u, e, -⟩ := ob hf
  exact e
def M_X12_meets : xa_M := (yX12_meets, cX12_meets, 5, none)
theorem cb_X12_meets : xa_CB M_X12_meets 1 := ⟨gws_at 1844 (by decide +kernel) rfl, gws_at 122 (by decide +kernel) rfl, by decide +kernel, Nat.le_of_ble_eq_true rfl⟩
def f_X12_meets_b70 : Nat → xa_H → Nat → Nat → Int32 → Option xa_H
  | 0, _, _, _, _ => none
  | n + 1, h, l0, l1, l2 =>
    if (36 : Int32) ≤ l2 then
      (gI [12] 45 h l0).bind fun x2 =>
      (xp [12] 45 h l0 (.int (x2 + (1 : Int32)))).bind fun h3 =>
      some h3
    else
      (gR [12] 43 h l0).bind fun x4 =>
      (gI [12] 45 h l0).bind fun x5 =>
      (aI h l1 l2).bind fun x6 =>
      (pI h x4 (((36 : Int32) * x5) + l2) x6).bind fun h7 =>
      f_X12_meets_b70 n h7 l0 l1 (l2 + (1 : Int32))
set_option maxRecDepth 20000 in
theorem e_X12_meets_b70 {G : xa_G} : ∀ (n : Nat) (h : xa_H) (l0 : Nat) (l1 : Nat) (l2 : Int32) (r : xa_H), f_X12_meets_b70 n h l0 l1 l2 = some r → xa_V G M_X12_meets 0 70 [some (.ref l0), some (.ref l1), some (.int l2), none, none] [] h none r := by
  intro n
  induction n with
  | zero =>
    intro h l0 l1 l2 r hf
    cases (show (none : Option xa_H) = some r from hf)
  | succ n ih =>
    intro h l0 l1 l2 r hf
    rw [f_X12_meets_b70] at hf
    refine v_iload_n dX12_meets_70 rfl ?_
    refine v_bipush dX12_meets_71 (by decide) (v := 36) ?_
    refine v_icmp_ge dX12_meets_73 (tgt := 99) (by decide) (fun c1 => ?_) (fun c1 => ?_)
    · replace hf := (if_pos c1).symm.trans hf
      refine v_aload_n dX12_meets_99 rfl ?_
      refine v_dup dX12_meets_100 rfl ?_
      obtain ⟨x2, ex2, hf⟩ := ob hf
      refine v_getI dX12_meets_101 fl_12_447 ex2 ?_
      refine v_iconst dX12_meets_104 (by decide) (v := 1) ?_
      refine v_iadd dX12_meets_105 ?_
      obtain ⟨h3, eh3, hf⟩ := ob hf
      refine v_put dX12_meets_106 fp_12_447 (fun z => by cases z) (fun _ => rfl) (fun _ => rfl) eh3 ?_
      replace hf := Option.some.inj hf
      subst hf
      exact v_vret dX12_meets_109 rfl
    · replace hf := (if_neg c1).symm.trans hf
      refine v_aload_n dX12_meets_76 rfl ?_
      obtain ⟨x4, ex4, hf⟩ := ob hf
      refine v_getR dX12_meets_77 fl_12_90 ex4 ?_
      refine v_bipush dX12_meets_80 (by decide) (v := 36) ?_
      refine v_aload_n dX12_meets_82 rfl ?_
      obtain ⟨x5, ex5, hf⟩ := ob hf
      refine v_getI dX12_meets_83 fl_12_447 ex5 ?_
      refine v_imul dX12_meets_86 ?_
      refine v_iload_n dX12_meets_87 rfl ?_
      refine v_iadd dX12_meets_88 ?_
      refine v_aload_n dX12_meets_89 rfl ?_
      refine v_iload_n dX12_meets_90 rfl ?_
      obtain ⟨x6, ex6, hf⟩ := ob hf
      refine v_ialoadI dX12_meets_91 ex6 ?_
      obtain ⟨h7, eh7, hf⟩ := ob hf
      refine v_iastoreI dX12_meets_92 eh7 ?_
      refine v_iinc dX12_meets_93 rfl (v := (l2 + (1 : Int32))) rfl (Nat.le_of_ble_eq_true rfl) (loc' := [some (.ref l0), some (.ref l1), some (.int (l2 + (1 : Int32))), none, none]) rfl ?_
      refine v_goto dX12_meets_96 (tgt := 70) (by decide) ?_
      exact ih h7 l0 l1 (l2 + (1 : Int32)) r hf
def f_X12_meets_b57 (k2 : xa_H → Nat → Nat → Int32 → Option xa_H) (h : xa_H) (l0 : Nat) (l1 : Nat) (l2 : Int32) (l3 : Int32) : Option xa_H :=
  if l3 = 0 then
    k2 h l0 l1 (l2 + (1 : Int32))
  else
    some h
set_option maxRecDepth 20000 in
theorem e_X12_meets_b57 {G : xa_G} {k2 : xa_H → Nat → Nat → Int32 → Option xa_H} (hk2 : ∀ (h : xa_H) (l0 : Nat) (l1 : Nat) (l2 : Int32) (r : xa_H), k2 h l0 l1 l2 = some r → xa_V G M_X12_meets 0 2 [some (.ref l0), some (.ref l1), some (.int l2), none, none] [] h none r) : ∀ (h : xa_H) (l0 : Nat) (l1 : Nat) (l2 : Int32) (l3 : Int32) (r : xa_H), f_X12_meets_b57 k2 h l0 l1 l2 l3 = some r → xa_V G M_X12_meets 0 57 [some (.ref l0), some (.ref l1), some (.int l2), some (.int l3), none] [] h none r := by
  intro h l0 l1 l2 l3 r hf
  unfold f_X12_meets_b57 at hf
  refine v_iload_n dX12_meets_57 rfl ?_
  refine v_if_eq dX12_meets_58 (tgt := 62) (by decide) (fun c1 => ?_) (fun c1 => ?_)
  · replace hf := (if_pos c1).symm.trans hf
    refine v_iinc dX12_meets_62 rfl (v := (l2 + (1 : Int32))) rfl (Nat.le_of_ble_eq_true rfl) (loc' := [some (.ref l0), some (.ref l1), some (.int (l2 + (1 : Int32))), some (.int l3), none]) rfl ?_
    refine v_goto dX12_meets_65 (tgt := 2) (by decide) ?_
    exact xa_weak (loc := [some (.ref l0), some (.ref l1), some (.int (l2 + (1 : Int32))), none, none]) ⟨rfl, ⟨rfl, ⟨rfl, trivial⟩⟩⟩ (hk2 h l0 l1 (l2 + (1 : Int32)) r hf)
  · replace hf := (if_neg c1).symm.trans hf
    replace hf := Option.some.inj hf
    subst hf
    exact v_vret dX12_meets_61 rfl
def f_X12_meets_b50 (k2 : xa_H → Nat → Nat → Int32 → Option xa_H) (k15 : xa_H → Nat → Nat → Int32 → Int32 → Int32 → Option xa_H) (h : xa_H) (l0 : Nat) (l1 : Nat) (l2 : Int32) (l4 : Int32) (s0 : Int32) : Option xa_H :=
  k15 h l0 l1 l2 s0 (l4 + (1 : Int32))
set_option maxRecDepth 20000 in
theorem e_X12_meets_b50 {G : xa_G} {k2 : xa_H → Nat → Nat → Int32 → Option xa_H} (hk2 : ∀ (h : xa_H) (l0 : Nat) (l1 : Nat) (l2 : Int32) (r : xa_H), k2 h l0 l1 l2 = some r → xa_V G M_X12_meets 0 2 [some (.ref l0), some (.ref l1), some (.int l2), none, none] [] h none r) {k15 : xa_H → Nat → Nat → Int32 → Int32 → Int32 → Option xa_H} (hk15 : ∀ (h : xa_H) (l0 : Nat) (l1 : Nat) (l2 : Int32) (l3 : Int32) (l4 : Int32) (r : xa_H), k15 h l0 l1 l2 l3 l4 = some r → xa_V G M_X12_meets 0 15 [some (.ref l0), some (.ref l1), some (.int l2), some (.int l3), some (.int l4)] [] h none r) : ∀ (h : xa_H) (l0 : Nat) (l1 : Nat) (l2 : Int32) (l4 : Int32) (s0 : Int32) (r : xa_H), f_X12_meets_b50 k2 k15 h l0 l1 l2 l4 s0 = some r → xa_V G M_X12_meets 0 50 [some (.ref l0), some (.ref l1), some (.int l2), none, some (.int l4)] [.int s0] h none r := by
  intro h l0 l1 l2 l4 s0 r hf
  unfold f_X12_meets_b50 at hf
  refine v_istore_n (i := 3) rfl dX12_meets_50 (Nat.le_of_ble_eq_true rfl) (loc' := [some (.ref l0), some (.ref l1), some (.int l2), some (.int s0), some (.int l4)]) rfl ?_
  refine v_iinc dX12_meets_51 rfl (v := (l4 + (1 : Int32))) rfl (Nat.le_of_ble_eq_true rfl) (loc' := [some (.ref l0), some (.ref l1), some (.int l2), some (.int s0), some (.int (l4 + (1 : Int32)))]) rfl ?_
  refine v_goto dX12_meets_54 (tgt := 15) (by decide) ?_
  exact hk15 h l0 l1 l2 s0 (l4 + (1 : Int32)) r hf
def f_X12_meets_b15 (k2 : xa_H → Nat → Nat → Int32 → Option xa_H) : Nat → xa_H → Nat → Nat → Int32 → Int32 → Int32 → Option xa_H
  | 0, _, _, _, _, _, _ => none
  | n + 1, h, l0, l1, l2, l3, l4 =>
    if (36 : Int32) ≤ l4 then
      f_X12_meets_b57 k2 h l0 l1 l2 l3
    else
      if l3 = 0 then
        f_X12_meets_b57 k2 h l0 l1 l2 l3
      else
        (gR [12] 43 h l0).bind fun x3 =>
        (aI h x3 (((36 : Int32) * l2) + l4)).bind fun x4 =>
        (aI h l1 l4).bind fun x5 =>
        if x4 = x5 then
          f_X12_meets_b50 k2 (fun h l0 l1 l2 l3 l4 => f_X12_meets_b15 k2 n h l0 l1 l2 l3 l4) h l0 l1 l2 l4 (1 : Int32)
        else
          f_X12_meets_b50 k2 (fun h l0 l1 l2 l3 l4 => f_X12_meets_b15 k2 n h l0 l1 l2 l3 l4) h l0 l1 l2 l4 (0 : Int32)
set_option maxRecDepth 20000 in
theorem e_X12_meets_b15 {G : xa_G} {k2 : xa_H → Nat → Nat → Int32 → Option xa_H} (hk2 : ∀ (h : xa_H) (l0 : Nat) (l1 : Nat) (l2 : Int32) (r : xa_H), k2 h l0 l1 l2 = some r → xa_V G M_X12_meets 0 2 [some (.ref l0), some (.ref l1), some (.int l2), none, none] [] h none r) : ∀ (n : Nat) (h : xa_H) (l0 : Nat) (l1 : Nat) (l2 : Int32) (l3 : Int32) (l4 : Int32) (r : xa_H), f_X12_meets_b15 k2 n h l0 l1 l2 l3 l4 = some r → xa_V G M_X12_meets 0 15 [some (.ref l0), some (.ref l1), some (.int l2), some (.int l3), some (.int l4)] [] h none r := by
  intro n
  induction n with
  | zero =>
    intro h l0 l1 l2 l3 l4 r hf
    cases (show (none : Option xa_H) = some r from hf)
  | succ n ih =>
    intro h l0 l1 l2 l3 l4 r hf
    rw [f_X12_meets_b15] at hf
    refine v_iload dX12_meets_15 rfl ?_
    refine v_bipush dX12_meets_17 (by decide) (v := 36) ?_
    refine v_icmp_ge dX12_meets_19 (tgt := 57) (by decide) (fun c1 => ?_) (fun c1 => ?_)
    · replace hf := (if_pos c1).symm.trans hf
      exact xa_weak (loc := [some (.ref l0), some (.ref l1), some (.int l2), some (.int l3), none]) ⟨rfl, ⟨rfl, ⟨rfl, ⟨rfl, trivial⟩⟩⟩⟩ (e_X12_meets_b57 hk2 h l0 l1 l2 l3 r hf)
    · replace hf := (if_neg c1).symm.trans hf
      refine v_iload_n dX12_meets_22 rfl ?_
      refine v_if_eq dX12_meets_23 (tgt := 57) (by decide) (fun c2 => ?_) (fun c2 => ?_)
      · replace hf := (if_pos c2).symm.trans hf
        exact xa_weak (loc := [some (.ref l0), some (.ref l1), some (.int l2), some (.int l3), none]) ⟨rfl, ⟨rfl, ⟨rfl, ⟨rfl, trivial⟩⟩⟩⟩ (e_X12_meets_b57 hk2 h l0 l1 l2 l3 r hf)
      · replace hf := (if_neg c2).symm.trans hf
        refine v_aload_n dX12_meets_26 rfl ?_
        obtain ⟨x3, ex3, hf⟩ := ob hf
        refine v_getR dX12_meets_27 fl_12_90 ex3 ?_
        refine v_bipush dX12_meets_30 (by decide) (v := 36) ?_
        refine v_iload_n dX12_meets_32 rfl ?_
        refine v_imul dX12_meets_33 ?_
        refine v_iload dX12_meets_34 rfl ?_
        refine v_iadd dX12_meets_36 ?_
        obtain ⟨x4, ex4, hf⟩ := ob hf
        refine v_ialoadI dX12_meets_37 ex4 ?_
        refine v_aload_n dX12_meets_38 rfl ?_
        refine v_iload dX12_meets_39 rfl ?_
        obtain ⟨x5, ex5, hf⟩ := ob hf
        refine v_ialoadI dX12_meets_41 ex5 ?_
        refine v_icmp_ne dX12_meets_42 (tgt := 49) (by decide) (fun c6 => ?_) (fun c6 => ?_)
        · replace hf := (if_neg c6).symm.trans hf
          refine v_iconst dX12_meets_49 (by decide) (v := 0) ?_
          exact xa_weak (loc := [some (.ref l0), some (.ref l1), some (.int l2), none, some (.int l4)]) ⟨rfl, ⟨rfl, ⟨rfl, ⟨rfl, trivial⟩⟩⟩⟩ (e_X12_meets_b50 hk2 ih h l0 l1 l2 l4 (0 : Int32) r hf)
        · replace hf := (if_pos c6).symm.trans hf
          refine v_iconst dX12_meets_45 (by decide) (v := 1) ?_
          refine v_goto dX12_meets_46 (tgt := 50) (by decide) ?_
          exact xa_weak (loc := [some (.ref l0), some (.ref l1), some (.int l2), none, some (.int l4)]) ⟨rfl, ⟨rfl, ⟨rfl, ⟨rfl, trivial⟩⟩⟩⟩ (e_X12_meets_b50 hk2 ih h l0 l1 l2 l4 (1 : Int32) r hf)
def f_X12_meets_b2 : Nat → xa_H → Nat → Nat → Int32 → Option xa_H
  | 0, _, _, _, _ => none
  | n + 1, h, l0, l1, l2 =>
    (gI [12] 45 h l0).bind fun x1 =>
    if x1 ≤ l2 then
      f_X12_meets_b70 1048576 h l0 l1 (0 : Int32)
    else
      f_X12_meets_b15 (fun h l0 l1 l2 => f_X12_meets_b2 n h l0 l1 l2) 1048576 h l0 l1 l2 (1 : Int32) (0 : Int32)
set_option maxRecDepth 20000 in
theorem e_X12_meets_b2 {G : xa_G} : ∀ (n : Nat) (h : xa_H) (l0 : Nat) (l1 : Nat) (l2 : Int32) (r : xa_H), f_X12_meets_b2 n h l0 l1 l2 = some r → xa_V G M_X12_meets 0 2 [some (.ref l0), some (.ref l1), some (.int l2), none, none] [] h none r := by
  intro n
  induction n with
  | zero =>
    intro h l0 l1 l2 r hf
    cases (show (none : Option xa_H) = some r from hf)
  | succ n ih =>
    intro h l0 l1 l2 r hf
    rw [f_X12_meets_b2] at hf
    refine v_iload_n dX12_meets_2 rfl ?_
    refine v_aload_n dX12_meets_3 rfl ?_
    obtain ⟨x1, ex1, hf⟩ := ob hf
    refine v_getI dX12_meets_4 fl_12_447 ex1 ?_
    refine v_icmp_ge dX12_meets_7 (tgt := 68) (by decide) (fun c2 => ?_) (fun c2 => ?_)
    · replace hf := (if_pos c2).symm.trans hf
      refine v_iconst dX12_meets_68 (by decide) (v := 0) ?_
      refine v_istore_n (i := 2) rfl dX12_meets_69 (Nat.le_of_ble_eq_true rfl) (loc' := [some (.ref l0), some (.ref l1), some (.int (0 : Int32)), none, none]) rfl ?_
      exact e_X12_meets_b70 1048576 h l0 l1 (0 : Int32) r hf
    · replace hf := (if_neg c2).symm.trans hf
      refine v_iconst dX12_meets_10 (by decide) (v := 1) ?_
      refine v_istore_n (i := 3) rfl dX12_meets_11 (Nat.le_of_ble_eq_true rfl) (loc' := [some (.ref l0), some (.ref l1), some (.int l2), some (.int (1 : Int32)), none]) rfl ?_
      refine v_iconst dX12_meets_12 (by decide) (v := 0) ?_
      refine v_istore dX12_meets_13 (Nat.le_of_ble_eq_true rfl) (loc' := [some (.ref l0), some (.ref l1), some (.int l2), some (.int (1 : Int32)), some (.int (0 : Int32))]) rfl ?_
      exact e_X12_meets_b15 ih 1048576 h l0 l1 l2 (1 : Int32) (0 : Int32) r hf
def f_X12_meets (h : xa_H) (l0 : Nat) (l1 : Nat) : Option xa_H :=
  (ck [12] h l0).bind fun _ =>
  f_X12_meets_b2 1048576 h l0 l1 (0 : Int32)
set_option maxRecDepth 20000 in
theorem ev_X12_meets {G : xa_G} {h : xa_H} {l0 : Nat} {l1 : Nat} {r : xa_H} (hf : f_X12_meets h l0 l1 = some r) : xa_Ev G M_X12_meets 0 [.ref l0, .ref l1] h none r := by
  refine xa_entry (by decide +kernel) (loc := [some (.ref l0), some (.ref l1), none, none, none]) rfl (Nat.le_of_ble_eq_true rfl) ?_
  unfold f_X12_meets at hf
  obtain ⟨u0, eu0, hf⟩ := ob hf
  refine v_iconst dX12_meets_0 (by decide) (v := 0) ?_
  refine v_istore_n (i := 2) rfl dX12_meets_1 (Nat.le_of_ble_eq_true rfl) (loc' := [some (.ref l0), some (.ref l1), some (.int (0 : Int32)), none, none]) rfl ?_
  exact e_X12_meets_b2 1048576 h l0 l1 (0 : Int32) r hf
theorem ckf_X12_meets {h : xa_H} {l0 : Nat} {l1 : Nat} {r : xa_H} (hf : f_X12_meets h l0 l1 = some r) : ck [12] h l0 = some () := by
  obtain ⟨u, e, -⟩ := ob hf
  exact e
def M_X12_tries : xa_M := (yX12_tries, cX12_tries, 4, none)
theorem cb_X12_tries : xa_CB M_X12_tries 2 := ⟨gws_at 1840 (by decide +kernel) rfl, gws_at 122 (by decide +kernel) rfl, by decide +kernel, Nat.le_of_ble_eq_true rfl⟩
def f_X12_tries_b105 (h : xa_H) (l0 : Nat) (l1 : Int32) (l2 : Int32) (l3 : Int32) : Option xa_H :=
  (xp [12] 47 h l0 (.int l1)).bind fun h1 =>
  (xp [12] 48 h1 l0 (.int l3)).bind fun h2 =>
  (xp [12] 49 h2 l0 (.int l2)).bind fun h3 =>
  some h3
set_option maxRecDepth 20000 in
theorem e_X12_tries_b105 {G : xa_G} : ∀ (h : xa_H) (l0 : Nat) (l1 : Int32) (l2 : Int32) (l3 : Int32) (r : xa_H), f_X12_tries_b105 h l0 l1 l2 l3 = some r → xa_V G M_X12_tries 4 105 [some (.ref l0), some (.int l1), some (.int l2), some (.int l3)] [] h none r := by
  intro h l0 l1 l2 l3 r hf
  unfold f_X12_tries_b105 at hf
  refine v_aload_n dX12_tries_105 rfl ?_
  refine v_iload_n dX12_tries_106 rfl ?_
  obtain ⟨h1, eh1, hf⟩ := ob hf
  refine v_put dX12_tries_107 fp_12_456 (fun z => by cases z) (fun _ => rfl) (fun _ => rfl) eh1 ?_
  refine v_aload_n dX12_tries_110 rfl ?_
  refine v_iload_n dX12_tries_111 rfl ?_
  obtain ⟨h2, eh2, hf⟩ := ob hf
  refine v_put dX12_tries_112 fp_12_462 (fun z => by cases z) (fun _ => rfl) (fun _ => rfl) eh2 ?_
  refine v_aload_n dX12_tries_115 rfl ?_
  refine v_iload_n dX12_tries_116 rfl ?_
  obtain ⟨h3, eh3, hf⟩ := ob hf
  refine v_put dX12_tries_117 fp_12_459 (fun z => by cases z) (fun _ => rfl) (fun _ => rfl) eh3 ?_
  replace hf := Option.some.inj hf
  subst hf
  exact v_vret dX12_tries_120 rfl
def f_X12_tries_b52 (h : xa_H) (l0 : Nat) (l1 : Int32) (l2 : Int32) : Option xa_H :=
  (xp [12] 47 h l0 (.int l1)).bind fun h1 =>
  (xp [12] 49 h1 l0 (.int l2)).bind fun h2 =>
  some h2
set_option maxRecDepth 20000 in
theorem e_X12_tries_b52 {G : xa_G} : ∀ (h : xa_H) (l0 : Nat) (l1 : Int32) (l2 : Int32) (r : xa_H), f_X12_tries_b52 h l0 l1 l2 = some r → xa_V G M_X12_tries 4 52 [some (.ref l0), some (.int l1), some (.int l2), none] [] h none r := by
  intro h l0 l1 l2 r hf
  unfold f_X12_tries_b52 at hf
  refine v_aload_n dX12_tries_52 rfl ?_
  refine v_iload_n dX12_tries_53 rfl ?_
  obtain ⟨h1, eh1, hf⟩ := ob hf
  refine v_put dX12_tries_54 fp_12_456 (fun z => by cases z) (fun _ => rfl) (fun _ => rfl) eh1 ?_
  refine v_aload_n dX12_tries_57 rfl ?_
  refine v_iload_n dX12_tries_58 rfl ?_
  obtain ⟨h2, eh2, hf⟩ := ob hf
  refine v_put dX12_tries_59 fp_12_459 (fun z => by cases z) (fun _ => rfl) (fun _ => rfl) eh2 ?_
  replace hf := Option.some.inj hf
  subst hf
  exact v_vret dX12_tries_62 rfl
def f_X12_tries (h : xa_H) (l0 : Nat) (l1 : Int32) (l2 : Int32) : Option xa_H :=
  (ck [12] h l0).bind fun _ =>
  (gI [12] 46 h l0).bind fun x1 =>
  if x1 = 0 then
    (gR [12] 33 h l0).bind fun x22 =>
    (f_X12_meets h l0 x22).bind fun q23 =>
    some q23
  else
    (gI [12] 46 h l0).bind fun x3 =>
    if x3 = (1 : Int32) then
      (gR [12] 33 h l0).bind fun x15 =>
      (f_X12_hasRing h l0 x15).bind fun q16 =>
      if q16.1 = 0 then
        (gI [12] 47 q16.2 l0).bind fun x18 =>
        if x18 = (-1 : Int32) then
          f_X12_tries_b52 q16.2 l0 l1 l2
        else
          (gI [12] 47 q16.2 l0).bind fun x20 =>
          if l1 < x20 then
            f_X12_tries_b52 q16.2 l0 l1 l2
          else
            some q16.2
      else
        some q16.2
    else
      (gR [12] 33 h l0).bind fun x5 =>
      (f_X12_allFavours h l0 x5).bind fun q6 =>
      (gI [12] 47 h l0).bind fun x7 =>
      if x7 = (-1 : Int32) then
        f_X12_tries_b105 h l0 l1 l2 q6
      else
        (gI [12] 48 h l0).bind fun x9 =>
        if x9 < q6 then
          some h
        else
          (gI [12] 48 h l0).bind fun x11 =>
          if q6 = x11 then
            (gI [12] 47 h l0).bind fun x13 =>
            if l1 < x13 then
              f_X12_tries_b105 h l0 l1 l2 q6
            else
              some h
          else
            f_X12_tries_b105 h l0 l1 l2 q6
set_option maxRecDepth 20000 in
theorem ev_X12_tries {G : xa_G} {h : xa_H} {l0 : Nat} {l1 : Int32} {l2 : Int32} {r : xa_H} (hf : f_X12_tries h l0 l1 l2 = some r) : xa_Ev G M_X12_tries 4 [.ref l0, .int l1, .int l2] h none r := by
  refine xa_entry (by decide +kernel) (loc := [some (.ref l0), some (.int l1), some (.int l2), none]) rfl (Nat.le_of_ble_eq_true rfl) ?_
  unfold f_X12_tries at hf
  obtain ⟨u0, eu0, hf⟩ := ob hf
  refine v_aload_n dX12_tries_0 rfl ?_
  obtain ⟨x1, ex1, hf⟩ := ob hf
  refine v_getI dX12_tries_1 fl_12_450 ex1 ?_
  refine v_if_ne dX12_tries_4 (tgt := 16) (by decide) (fun c2 => ?_) (fun c2 => ?_)
  · replace hf := (if_neg c2).symm.trans hf
    refine v_aload_n dX12_tries_16 rfl ?_
    obtain ⟨x3, ex3, hf⟩ := ob hf
    refine v_getI dX12_tries_17 fl_12_450 ex3 ?_
    refine v_iconst dX12_tries_20 (by decide) (v := 1) ?_
    refine v_icmp_ne dX12_tries_21 (tgt := 63) (by decide) (fun c4 => ?_) (fun c4 => ?_)
    · replace hf := (if_neg c4).symm.trans hf
      refine v_aload_n dX12_tries_63 rfl ?_
      refine v_aload_n dX12_tries_64 rfl ?_
      obtain ⟨x5, ex5, hf⟩ := ob hf
      refine v_getR dX12_tries_65 fl_12_64 ex5 ?_
      obtain ⟨q6, eq6, hf⟩ := ob hf
      refine v_callV dX12_tries_68 ⟨cb_X12_allFavours, ml_12_363, im_X12_allFavours⟩ se_12_X12_allFavours (ckf_X12_allFavours eq6) (ev_X12_allFavours eq6) (by decide) (As := [.ref x5]) rfl (st := []) rfl (Nat.le_of_ble_eq_true rfl) rfl ?_
      refine v_istore_n (i := 3) rfl dX12_tries_71 (Nat.le_of_ble_eq_true rfl) (loc' := [some (.ref l0), some (.int l1), some (.int l2), some (.int q6)]) rfl ?_
      refine v_aload_n dX12_tries_72 rfl ?_
      obtain ⟨x7, ex7, hf⟩ := ob hf
      refine v_getI dX12_tries_73 fl_12_456 ex7 ?_
      refine v_iconst dX12_tries_76 (by decide) (v := -1) ?_
      refine v_icmp_eq dX12_tries_77 (tgt := 105) (by decide) (fun c8 => ?_) (fun c8 => ?_)
      · replace hf := (if_pos c8).symm.trans hf
        exact e_X12_tries_b105 h l0 l1 l2 q6 r hf
      · replace hf := (if_neg c8).symm.trans hf
        refine v_iload_n dX12_tries_80 rfl ?_
        refine v_aload_n dX12_tries_81 rfl ?_
        obtain ⟨x9, ex9, hf⟩ := ob hf
        refine v_getI dX12_tries_82 fl_12_462 ex9 ?_
        refine v_icmp_gt dX12_tries_85 (tgt := 104) (by decide) (fun c10 => ?_) (fun c10 => ?_)
        · replace hf := (if_pos c10).symm.trans hf
          replace hf := Option.some.inj hf
          subst hf
          exact v_vret dX12_tries_104 rfl
        · replace hf := (if_neg c10).symm.trans hf
          refine v_iload_n dX12_tries_88 rfl ?_
          refine v_aload_n dX12_tries_89 rfl ?_
          obtain ⟨x11, ex11, hf⟩ := ob hf
          refine v_getI dX12_tries_90 fl_12_462 ex11 ?_
          refine v_icmp_ne dX12_tries_93 (tgt := 105) (by decide) (fun c12 => ?_) (fun c12 => ?_)
          · replace hf := (if_neg c12).symm.trans hf
            exact e_X12_tries_b105 h l0 l1 l2 q6 r hf
          · replace hf := (if_pos c12).symm.trans hf
            refine v_iload_n dX12_tries_96 rfl ?_
            refine v_aload_n dX12_tries_97 rfl ?_
            obtain ⟨x13, ex13, hf⟩ := ob hf
            refine v_getI dX12_tries_98 fl_12_456 ex13 ?_
            refine v_icmp_lt dX12_tries_101 (tgt := 105) (by decide) (fun c14 => ?_) (fun c14 => ?_)
            · replace hf := (if_pos c14).symm.trans hf
              exact e_X12_tries_b105 h l0 l1 l2 q6 r hf
            · replace hf := (if_neg c14).symm.trans hf
              replace hf := Option.some.inj hf
              subst hf
              exact v_vret dX12_tries_104 rfl
    · replace hf := (if_pos c4).symm.trans hf
      refine v_aload_n dX12_tries_24 rfl ?_
      refine v_aload_n dX12_tries_25 rfl ?_
      obtain ⟨x15, ex15, hf⟩ := ob hf
      refine v_getR dX12_tries_26 fl_12_64 ex15 ?_
      obtain ⟨q16, eq16, hf⟩ := ob hf
      refine v_callV dX12_tries_29 ⟨cb_X12_hasRing, ml_12_366, im_X12_hasRing⟩ se_12_X12_hasRing (ckf_X12_hasRing eq16) (ev_X12_hasRing eq16) (by decide) (As := [.ref x15]) rfl (st := []) rfl (Nat.le_of_ble_eq_true rfl) rfl ?_
      refine v_if_ne dX12_tries_32 (tgt := 51) (by decide) (fun c17 => ?_) (fun c17 => ?_)
      · replace hf := (if_neg c17).symm.trans hf
        replace hf := Option.some.inj hf
        subst hf
        exact v_vret dX12_tries_51 rfl
      · replace hf := (if_pos c17).symm.trans hf
        refine v_aload_n dX12_tries_35 rfl ?_
        obtain ⟨x18, ex18, hf⟩ := ob hf
        refine v_getI dX12_tries_36 fl_12_456 ex18 ?_
        refine v_iconst dX12_tries_39 (by decide) (v := -1) ?_
        refine v_icmp_eq dX12_tries_40 (tgt := 52) (by decide) (fun c19 => ?_) (fun c19 => ?_)
        · replace hf := (if_pos c19).symm.trans hf
          exact e_X12_tries_b52 q16.2 l0 l1 l2 r hf
        · replace hf := (if_neg c19).symm.trans hf
          refine v_iload_n dX12_tries_43 rfl ?_
          refine v_aload_n dX12_tries_44 rfl ?_
          obtain ⟨x20, ex20, hf⟩ := ob hf
          refine v_getI dX12_tries_45 fl_12_456 ex20 ?_
          refine v_icmp_lt dX12_tries_48 (tgt := 52) (by decide) (fun c21 => ?_) (fun c21 => ?_)
          · replace hf := (if_pos c21).symm.trans hf
            exact e_X12_tries_b52 q16.2 l0 l1 l2 r hf
          · replace hf := (if_neg c21).symm.trans hf
            replace hf := Option.some.inj hf
            subst hf
            exact v_vret dX12_tries_51 rfl
  · replace hf := (if_pos c2).symm.trans hf
    refine v_aload_n dX12_tries_7 rfl ?_
    refine v_aload_n dX12_tries_8 rfl ?_
    obtain ⟨x22, ex22, hf⟩ := ob hf
    refine v_getR dX12_tries_9 fl_12_64 ex22 ?_
    obtain ⟨q23, eq23, hf⟩ := ob hf
    refine v_callV dX12_tries_12 ⟨cb_X12_meets, ml_12_453, im_X12_meets⟩ se_12_X12_meets (ckf_X12_meets eq23) (ev_X12_meets eq23) (by decide) (As := [.ref x22]) rfl (st := []) rfl (Nat.le_of_ble_eq_true rfl) rfl ?_
    replace hf := Option.some.inj hf
    subst hf
    exact v_vret dX12_tries_15 rfl
theorem ckf_X12_tries {h : xa_H} {l0 : Nat} {l1 : Int32} {l2 : Int32} {r : xa_H} (hf : f_X12_tries h l0 l1 l2 = some r) : ck [12] h l0 = some () := by
  obtain ⟨u, e, -⟩ := ob hf
  exact e
def M_X12_goWays : xa_M := (yX12_goWays, cX12_goWays, 6, none)
theorem cb_X12_goWays : xa_CB M_X12_goWays 3 := ⟨gws_at 1836 (by decide +kernel) rfl, gws_at 122 (by decide +kernel) rfl, by decide +kernel, Nat.le_of_ble_eq_true rfl⟩
def f_X12_goWays_b144 (c_X12_goWays : xa_H → Nat → Int32 → Int32 → Int32 → Option xa_H) : Nat → xa_H → Nat → Int32 → Int32 → Option xa_H
  | 0, _, _, _, _ => none
  | n + 1, h, l0, l1, l4 =>
    if (51 : Int32) ≤ l4 then
      some h
    else
      (gR [12] 33 h l0).bind fun x2 =>
      (gR [12] 44 h l0).bind fun x3 =>
      (aI h x3 (((51 : Int32) * l1) + l4)).bind fun x4 =>
      (pI h x2 l4 x4).bind fun h5 =>
      f_X12_goWays_b144 c_X12_goWays n h5 l0 l1 (l4 + (1 : Int32))
set_option maxRecDepth 20000 in
theorem e_X12_goWays_b144 {G : xa_G} {d d1 : Nat} {c_X12_goWays : xa_H → Nat → Int32 → Int32 → Int32 → Option xa_H} (hc_X12_goWays : ∀ {h : xa_H} {a0 : Nat} {a1 : Int32} {a2 : Int32} {a3 : Int32} {r : xa_H}, c_X12_goWays h a0 a1 a2 a3 = some r → xa_Ev G M_X12_goWays d1 [.ref a0, .int a1, .int a2, .int a3] h none r) (hck_X12_goWays : ∀ {h : xa_H} {a0 : Nat} {a1 : Int32} {a2 : Int32} {a3 : Int32} {r : xa_H}, c_X12_goWays h a0 a1 a2 a3 = some r → ck [12] h a0 = some ()) (hdx : 5 ≤ d) (hd1 : d1 + 1 ≤ d) : ∀ (n : Nat) (h : xa_H) (l0 : Nat) (l1 : Int32) (l4 : Int32) (r : xa_H), f_X12_goWays_b144 c_X12_goWays n h l0 l1 l4 = some r → xa_V G M_X12_goWays d 144 [some (.ref l0), some (.int l1), none, none, some (.int l4), none] [] h none r := by
  intro n
  induction n with
  | zero =>
    intro h l0 l1 l4 r hf
    cases (show (none : Option xa_H) = some r from hf)
  | succ n ih =>
    intro h l0 l1 l4 r hf
    rw [f_X12_goWays_b144] at hf
    refine v_iload dX12_goWays_144 rfl ?_
    refine v_bipush dX12_goWays_146 (by decide) (v := 51) ?_
    refine v_icmp_ge dX12_goWays_148 (tgt := 176) (by decide) (fun c1 => ?_) (fun c1 => ?_)
    · replace hf := (if_pos c1).symm.trans hf
      replace hf := Option.some.inj hf
      subst hf
      exact v_vret dX12_goWays_176 rfl
    · replace hf := (if_neg c1).symm.trans hf
      refine v_aload_n dX12_goWays_151 rfl ?_
      obtain ⟨x2, ex2, hf⟩ := ob hf
      refine v_getR dX12_goWays_152 fl_12_64 ex2 ?_
      refine v_iload dX12_goWays_155 rfl ?_
      refine v_aload_n dX12_goWays_157 rfl ?_
      obtain ⟨x3, ex3, hf⟩ := ob hf
      refine v_getR dX12_goWays_158 fl_12_93 ex3 ?_
      refine v_bipush dX12_goWays_161 (by decide) (v := 51) ?_
      refine v_iload_n dX12_goWays_163 rfl ?_
      refine v_imul dX12_goWays_164 ?_
      refine v_iload dX12_goWays_165 rfl ?_
      refine v_iadd dX12_goWays_167 ?_
      obtain ⟨x4, ex4, hf⟩ := ob hf
      refine v_ialoadI dX12_goWays_168 ex4 ?_
      obtain ⟨h5, eh5, hf⟩ := ob hf
      refine v_iastoreI dX12_goWays_169 eh5 ?_
      refine v_iinc dX12_goWays_170 rfl (v := (l4 + (1 : Int32))) rfl (Nat.le_of_ble_eq_true rfl) (loc' := [some (.ref l0), some (.int l1), none, none, some (.int (l4 + (1 : Int32))), none]) rfl ?_
      refine v_goto dX12_goWays_173 (tgt := 144) (by decide) ?_
      exact ih h5 l0 l1 (l4 + (1 : Int32)) r hf
def f_X12_goWays_b135 (c_X12_goWays : xa_H → Nat → Int32 → Int32 → Int32 → Option xa_H) (k50 : xa_H → Nat → Int32 → Int32 → Int32 → Int32 → Option xa_H) (h : xa_H) (l0 : Nat) (l1 : Int32) (l2 : Int32) (l3 : Int32) (l4 : Int32) : Option xa_H :=
  k50 h l0 l1 l2 l3 (l4 + (1 : Int32))
set_option maxRecDepth 20000 in
theorem e_X12_goWays_b135 {G : xa_G} {d d1 : Nat} {c_X12_goWays : xa_H → Nat → Int32 → Int32 → Int32 → Option xa_H} (hc_X12_goWays : ∀ {h : xa_H} {a0 : Nat} {a1 : Int32} {a2 : Int32} {a3 : Int32} {r : xa_H}, c_X12_goWays h a0 a1 a2 a3 = some r → xa_Ev G M_X12_goWays d1 [.ref a0, .int a1, .int a2, .int a3] h none r) (hck_X12_goWays : ∀ {h : xa_H} {a0 : Nat} {a1 : Int32} {a2 : Int32} {a3 : Int32} {r : xa_H}, c_X12_goWays h a0 a1 a2 a3 = some r → ck [12] h a0 = some ()) (hdx : 5 ≤ d) (hd1 : d1 + 1 ≤ d) {k50 : xa_H → Nat → Int32 → Int32 → Int32 → Int32 → Option xa_H} (hk50 : ∀ (h : xa_H) (l0 : Nat) (l1 : Int32) (l2 : Int32) (l3 : Int32) (l4 : Int32) (r : xa_H), k50 h l0 l1 l2 l3 l4 = some r → xa_V G M_X12_goWays d 50 [some (.ref l0), some (.int l1), some (.int l2), some (.int l3), some (.int l4), none] [] h none r) : ∀ (h : xa_H) (l0 : Nat) (l1 : Int32) (l2 : Int32) (l3 : Int32) (l4 : Int32) (r : xa_H), f_X12_goWays_b135 c_X12_goWays k50 h l0 l1 l2 l3 l4 = some r → xa_V G M_X12_goWays d 135 [some (.ref l0), some (.int l1), some (.int l2), some (.int l3), some (.int l4), none] [] h none r := by
  intro h l0 l1 l2 l3 l4 r hf
  unfold f_X12_goWays_b135 at hf
  refine v_iinc dX12_goWays_135 rfl (v := (l4 + (1 : Int32))) rfl (Nat.le_of_ble_eq_true rfl) (loc' := [some (.ref l0), some (.int l1), some (.int l2), some (.int l3), some (.int (l4 + (1 : Int32))), none]) rfl ?_
  refine v_goto dX12_goWays_138 (tgt := 50) (by decide) ?_
  exact hk50 h l0 l1 l2 l3 (l4 + (1 : Int32)) r hf
def f_X12_goWays_b62 (c_X12_goWays : xa_H → Nat → Int32 → Int32 → Int32 → Option xa_H) (k50 : xa_H → Nat → Int32 → Int32 → Int32 → Int32 → Option xa_H) : Nat → xa_H → Nat → Int32 → Int32 → Int32 → Int32 → Int32 → Option xa_H
  | 0, _, _, _, _, _, _, _ => none
  | n + 1, h, l0, l1, l2, l3, l4, l5 =>
    if (51 : Int32) ≤ l5 then
      (gR [12] 33 h l0).bind fun x2 =>
      (f_X12_can h l0 x2 l4).bind fun q3 =>
      if q3.1 = 0 then
        f_X12_goWays_b135 c_X12_goWays k50 q3.2 l0 l1 l2 l3 l4
      else
        (gR [12] 33 q3.2 l0).bind fun x5 =>
        (f_X12_crosses q3.2 l0 x5 l4).bind fun q6 =>
        (c_X12_goWays q6 l0 (l1 + (1 : Int32)) l2 (((10 : Int32) * l3) + l4)).bind fun q7 =>
        f_X12_goWays_b135 c_X12_goWays k50 q7 l0 l1 l2 l3 l4
    else
      (gR [12] 33 h l0).bind fun x8 =>
      (gR [12] 44 h l0).bind fun x9 =>
      (aI h x9 (((51 : Int32) * l1) + l5)).bind fun x10 =>
      (pI h x8 l5 x10).bind fun h11 =>
      f_X12_goWays_b62 c_X12_goWays k50 n h11 l0 l1 l2 l3 l4 (l5 + (1 : Int32))
set_option maxRecDepth 20000 in
theorem e_X12_goWays_b62 {G : xa_G} {d d1 : Nat} {c_X12_goWays : xa_H → Nat → Int32 → Int32 → Int32 → Option xa_H} (hc_X12_goWays : ∀ {h : xa_H} {a0 : Nat} {a1 : Int32} {a2 : Int32} {a3 : Int32} {r : xa_H}, c_X12_goWays h a0 a1 a2 a3 = some r → xa_Ev G M_X12_goWays d1 [.ref a0, .int a1, .int a2, .int a3] h none r) (hck_X12_goWays : ∀ {h : xa_H} {a0 : Nat} {a1 : Int32} {a2 : Int32} {a3 : Int32} {r : xa_H}, c_X12_goWays h a0 a1 a2 a3 = some r → ck [12] h a0 = some ()) (hdx : 5 ≤ d) (hd1 : d1 + 1 ≤ d) {k50 : xa_H → Nat → Int32 → Int32 → Int32 → Int32 → Option xa_H} (hk50 : ∀ (h : xa_H) (l0 : Nat) (l1 : Int32) (l2 : Int32) (l3 : Int32) (l4 : Int32) (r : xa_H), k50 h l0 l1 l2 l3 l4 = some r → xa_V G M_X12_goWays d 50 [some (.ref l0), some (.int l1), some (.int l2), some (.int l3), some (.int l4), none] [] h none r) : ∀ (n : Nat) (h : xa_H) (l0 : Nat) (l1 : Int32) (l2 : Int32) (l3 : Int32) (l4 : Int32) (l5 : Int32) (r : xa_H), f_X12_goWays_b62 c_X12_goWays k50 n h l0 l1 l2 l3 l4 l5 = some r → xa_V G M_X12_goWays d 62 [some (.ref l0), some (.int l1), some (.int l2), some (.int l3), some (.int l4), some (.int l5)] [] h none r := by
  intro n
  induction n with
  | zero =>
    intro h l0 l1 l2 l3 l4 l5 r hf
    cases (show (none : Option xa_H) = some r from hf)
  | succ n ih =>
    intro h l0 l1 l2 l3 l4 l5 r hf
    rw [f_X12_goWays_b62] at hf
    refine v_iload dX12_goWays_62 rfl ?_
    refine v_bipush dX12_goWays_64 (by decide) (v := 51) ?_
    refine v_icmp_ge dX12_goWays_66 (tgt := 94) (by decide) (fun c1 => ?_) (fun c1 => ?_)
    · replace hf := (if_pos c1).symm.trans hf
      refine v_aload_n dX12_goWays_94 rfl ?_
      refine v_aload_n dX12_goWays_95 rfl ?_
      obtain ⟨x2, ex2, hf⟩ := ob hf
      refine v_getR dX12_goWays_96 fl_12_64 ex2 ?_
      refine v_iload dX12_goWays_99 rfl ?_
      obtain ⟨q3, eq3, hf⟩ := ob hf
      refine v_callV dX12_goWays_101 ⟨cb_X12_can, ml_12_403, im_X12_can⟩ se_12_X12_can (ckf_X12_can eq3) (ev_X12_can eq3) (Nat.le_trans (by decide) hdx) (As := [.ref x2, .int l4]) rfl (st := []) rfl (Nat.le_of_ble_eq_true rfl) rfl ?_
      refine v_if_ne dX12_goWays_104 (tgt := 110) (by decide) (fun c4 => ?_) (fun c4 => ?_)
      · replace hf := (if_neg c4).symm.trans hf
        refine v_aload_n dX12_goWays_110 rfl ?_
        refine v_aload_n dX12_goWays_111 rfl ?_
        obtain ⟨x5, ex5, hf⟩ := ob hf
        refine v_getR dX12_goWays_112 fl_12_64 ex5 ?_
        refine v_iload dX12_goWays_115 rfl ?_
        obtain ⟨q6, eq6, hf⟩ := ob hf
        refine v_callV dX12_goWays_117 ⟨cb_X12_crosses, ml_12_391, im_X12_crosses⟩ se_12_X12_crosses (ckf_X12_crosses eq6) (ev_X12_crosses eq6) (Nat.le_trans (by decide) hdx) (As := [.ref x5, .int l4]) rfl (st := []) rfl (Nat.le_of_ble_eq_true rfl) rfl ?_
        refine v_aload_n dX12_goWays_120 rfl ?_
        refine v_iload_n dX12_goWays_121 rfl ?_
        refine v_iconst dX12_goWays_122 (by decide) (v := 1) ?_
        refine v_iadd dX12_goWays_123 ?_
        refine v_iload_n dX12_goWays_124 rfl ?_
        refine v_bipush dX12_goWays_125 (by decide) (v := 10) ?_
        refine v_iload_n dX12_goWays_127 rfl ?_
        refine v_imul dX12_goWays_128 ?_
        refine v_iload dX12_goWays_129 rfl ?_
        refine v_iadd dX12_goWays_131 ?_
        obtain ⟨q7, eq7, hf⟩ := ob hf
        refine v_callV dX12_goWays_132 ⟨cb_X12_goWays, ml_12_469, im_X12_goWays⟩ se_12_X12_goWays (hck_X12_goWays eq7) (hc_X12_goWays eq7) hd1 (As := [.int (l1 + (1 : Int32)), .int l2, .int (((10 : Int32) * l3) + l4)]) rfl (st := []) rfl (Nat.le_of_ble_eq_true rfl) rfl ?_
        exact xa_weak (loc := [some (.ref l0), some (.int l1), some (.int l2), some (.int l3), some (.int l4), none]) ⟨rfl, ⟨rfl, ⟨rfl, ⟨rfl, ⟨rfl, trivial⟩⟩⟩⟩⟩ (e_X12_goWays_b135 hc_X12_goWays hck_X12_goWays hdx hd1 hk50 q7 l0 l1 l2 l3 l4 r hf)
      · replace hf := (if_pos c4).symm.trans hf
        refine v_goto dX12_goWays_107 (tgt := 135) (by decide) ?_
        exact xa_weak (loc := [some (.ref l0), some (.int l1), some (.int l2), some (.int l3), some (.int l4), none]) ⟨rfl, ⟨rfl, ⟨rfl, ⟨rfl, ⟨rfl, trivial⟩⟩⟩⟩⟩ (e_X12_goWays_b135 hc_X12_goWays hck_X12_goWays hdx hd1 hk50 q3.2 l0 l1 l2 l3 l4 r hf)
    · replace hf := (if_neg c1).symm.trans hf
      refine v_aload_n dX12_goWays_69 rfl ?_
      obtain ⟨x8, ex8, hf⟩ := ob hf
      refine v_getR dX12_goWays_70 fl_12_64 ex8 ?_
      refine v_iload dX12_goWays_73 rfl ?_
      refine v_aload_n dX12_goWays_75 rfl ?_
      obtain ⟨x9, ex9, hf⟩ := ob hf
      refine v_getR dX12_goWays_76 fl_12_93 ex9 ?_
      refine v_bipush dX12_goWays_79 (by decide) (v := 51) ?_
      refine v_iload_n dX12_goWays_81 rfl ?_
      refine v_imul dX12_goWays_82 ?_
      refine v_iload dX12_goWays_83 rfl ?_
      refine v_iadd dX12_goWays_85 ?_
      obtain ⟨x10, ex10, hf⟩ := ob hf
      refine v_ialoadI dX12_goWays_86 ex10 ?_
      obtain ⟨h11, eh11, hf⟩ := ob hf
      refine v_iastoreI dX12_goWays_87 eh11 ?_
      refine v_iinc dX12_goWays_88 rfl (v := (l5 + (1 : Int32))) rfl (Nat.le_of_ble_eq_true rfl) (loc' := [some (.ref l0), some (.int l1), some (.int l2), some (.int l3), some (.int l4), some (.int (l5 + (1 : Int32)))]) rfl ?_
      refine v_goto dX12_goWays_91 (tgt := 62) (by decide) ?_
      exact ih h11 l0 l1 l2 l3 l4 (l5 + (1 : Int32)) r hf
def f_X12_goWays_b50 (c_X12_goWays : xa_H → Nat → Int32 → Int32 → Int32 → Option xa_H) : Nat → xa_H → Nat → Int32 → Int32 → Int32 → Int32 → Option xa_H
  | 0, _, _, _, _, _, _ => none
  | n + 1, h, l0, l1, l2, l3, l4 =>
    (gI [12] 26 h l0).bind fun x1 =>
    if x1 ≤ l4 then
      f_X12_goWays_b144 c_X12_goWays 1048576 h l0 l1 (0 : Int32)
    else
      f_X12_goWays_b62 c_X12_goWays (fun h l0 l1 l2 l3 l4 => f_X12_goWays_b50 c_X12_goWays n h l0 l1 l2 l3 l4) 1048576 h l0 l1 l2 l3 l4 (0 : Int32)
set_option maxRecDepth 20000 in
theorem e_X12_goWays_b50 {G : xa_G} {d d1 : Nat} {c_X12_goWays : xa_H → Nat → Int32 → Int32 → Int32 → Option xa_H} (hc_X12_goWays : ∀ {h : xa_H} {a0 : Nat} {a1 : Int32} {a2 : Int32} {a3 : Int32} {r : xa_H}, c_X12_goWays h a0 a1 a2 a3 = some r → xa_Ev G M_X12_goWays d1 [.ref a0, .int a1, .int a2, .int a3] h none r) (hck_X12_goWays : ∀ {h : xa_H} {a0 : Nat} {a1 : Int32} {a2 : Int32} {a3 : Int32} {r : xa_H}, c_X12_goWays h a0 a1 a2 a3 = some r → ck [12] h a0 = some ()) (hdx : 5 ≤ d) (hd1 : d1 + 1 ≤ d) : ∀ (n : Nat) (h : xa_H) (l0 : Nat) (l1 : Int32) (l2 : Int32) (l3 : Int32) (l4 : Int32) (r : xa_H), f_X12_goWays_b50 c_X12_goWays n h l0 l1 l2 l3 l4 = some r → xa_V G M_X12_goWays d 50 [some (.ref l0), some (.int l1), some (.int l2), some (.int l3), some (.int l4), none] [] h none r := by
  intro n
  induction n with
  | zero =>
    intro h l0 l1 l2 l3 l4 r hf
    cases (show (none : Option xa_H) = some r from hf)
  | succ n ih =>
    intro h l0 l1 l2 l3 l4 r hf
    rw [f_X12_goWays_b50] at hf
    refine v_iload dX12_goWays_50 rfl ?_
    refine v_aload_n dX12_goWays_52 rfl ?_
    obtain ⟨x1, ex1, hf⟩ := ob hf
    refine v_getI dX12_goWays_53 fl_12_307 ex1 ?_
    refine v_icmp_ge dX12_goWays_56 (tgt := 141) (by decide) (fun c2 => ?_) (fun c2 => ?_)
    · replace hf := (if_pos c2).symm.trans hf
      refine v_iconst dX12_goWays_141 (by decide) (v := 0) ?_
      refine v_istore dX12_goWays_142 (Nat.le_of_ble_eq_true rfl) (loc' := [some (.ref l0), some (.int l1), some (.int l2), some (.int l3), some (.int (0 : Int32)), none]) rfl ?_
      exact xa_weak (loc := [some (.ref l0), some (.int l1), none, none, some (.int (0 : Int32)), none]) ⟨rfl, ⟨rfl, ⟨rfl, trivial⟩⟩⟩ (e_X12_goWays_b144 hc_X12_goWays hck_X12_goWays hdx hd1 1048576 h l0 l1 (0 : Int32) r hf)
    · replace hf := (if_neg c2).symm.trans hf
      refine v_iconst dX12_goWays_59 (by decide) (v := 0) ?_
      refine v_istore dX12_goWays_60 (Nat.le_of_ble_eq_true rfl) (loc' := [some (.ref l0), some (.int l1), some (.int l2), some (.int l3), some (.int l4), some (.int (0 : Int32))]) rfl ?_
      exact e_X12_goWays_b62 hc_X12_goWays hck_X12_goWays hdx hd1 ih 1048576 h l0 l1 l2 l3 l4 (0 : Int32) r hf
def f_X12_goWays_b15 (c_X12_goWays : xa_H → Nat → Int32 → Int32 → Int32 → Option xa_H) : Nat → xa_H → Nat → Int32 → Int32 → Int32 → Int32 → Option xa_H
  | 0, _, _, _, _, _, _ => none
  | n + 1, h, l0, l1, l2, l3, l4 =>
    if (51 : Int32) ≤ l4 then
      f_X12_goWays_b50 c_X12_goWays 1048576 h l0 l1 l2 l3 (0 : Int32)
    else
      (gR [12] 44 h l0).bind fun x2 =>
      (gR [12] 33 h l0).bind fun x3 =>
      (aI h x3 l4).bind fun x4 =>
      (pI h x2 (((51 : Int32) * l1) + l4) x4).bind fun h5 =>
      f_X12_goWays_b15 c_X12_goWays n h5 l0 l1 l2 l3 (l4 + (1 : Int32))
set_option maxRecDepth 20000 in
theorem e_X12_goWays_b15 {G : xa_G} {d d1 : Nat} {c_X12_goWays : xa_H → Nat → Int32 → Int32 → Int32 → Option xa_H} (hc_X12_goWays : ∀ {h : xa_H} {a0 : Nat} {a1 : Int32} {a2 : Int32} {a3 : Int32} {r : xa_H}, c_X12_goWays h a0 a1 a2 a3 = some r → xa_Ev G M_X12_goWays d1 [.ref a0, .int a1, .int a2, .int a3] h none r) (hck_X12_goWays : ∀ {h : xa_H} {a0 : Nat} {a1 : Int32} {a2 : Int32} {a3 : Int32} {r : xa_H}, c_X12_goWays h a0 a1 a2 a3 = some r → ck [12] h a0 = some ()) (hdx : 5 ≤ d) (hd1 : d1 + 1 ≤ d) : ∀ (n : Nat) (h : xa_H) (l0 : Nat) (l1 : Int32) (l2 : Int32) (l3 : Int32) (l4 : Int32) (r : xa_H), f_X12_goWays_b15 c_X12_goWays n h l0 l1 l2 l3 l4 = some r → xa_V G M_X12_goWays d 15 [some (.ref l0), some (.int l1), some (.int l2), some (.int l3), some (.int l4), none] [] h none r := by
  intro n
  induction n with
  | zero =>
    intro h l0 l1 l2 l3 l4 r hf
    cases (show (none : Option xa_H) = some r from hf)
  | succ n ih =>
    intro h l0 l1 l2 l3 l4 r hf
    rw [f_X12_goWays_b15] at hf
    refine v_iload dX12_goWays_15 rfl ?_
    refine v_bipush dX12_goWays_17 (by decide) (v := 51) ?_
    refine v_icmp_ge dX12_goWays_19 (tgt := 47) (by decide) (fun c1 => ?_) (fun c1 => ?_)
    · replace hf := (if_pos c1).symm.trans hf
      refine v_iconst dX12_goWays_47 (by decide) (v := 0) ?_
      refine v_istore dX12_goWays_48 (Nat.le_of_ble_eq_true rfl) (loc' := [some (.ref l0), some (.int l1), some (.int l2), some (.int l3), some (.int (0 : Int32)), none]) rfl ?_
      exact e_X12_goWays_b50 hc_X12_goWays hck_X12_goWays hdx hd1 1048576 h l0 l1 l2 l3 (0 : Int32) r hf
    · replace hf := (if_neg c1).symm.trans hf
      refine v_aload_n dX12_goWays_22 rfl ?_
      obtain ⟨x2, ex2, hf⟩ := ob hf
      refine v_getR dX12_goWays_23 fl_12_93 ex2 ?_
      refine v_bipush dX12_goWays_26 (by decide) (v := 51) ?_
      refine v_iload_n dX12_goWays_28 rfl ?_
      refine v_imul dX12_goWays_29 ?_
      refine v_iload dX12_goWays_30 rfl ?_
      refine v_iadd dX12_goWays_32 ?_
      refine v_aload_n dX12_goWays_33 rfl ?_
      obtain ⟨x3, ex3, hf⟩ := ob hf
      refine v_getR dX12_goWays_34 fl_12_64 ex3 ?_
      refine v_iload dX12_goWays_37 rfl ?_
      obtain ⟨x4, ex4, hf⟩ := ob hf
      refine v_ialoadI dX12_goWays_39 ex4 ?_
      obtain ⟨h5, eh5, hf⟩ := ob hf
      refine v_iastoreI dX12_goWays_40 eh5 ?_
      refine v_iinc dX12_goWays_41 rfl (v := (l4 + (1 : Int32))) rfl (Nat.le_of_ble_eq_true rfl) (loc' := [some (.ref l0), some (.int l1), some (.int l2), some (.int l3), some (.int (l4 + (1 : Int32))), none]) rfl ?_
      refine v_goto dX12_goWays_44 (tgt := 15) (by decide) ?_
      exact ih h5 l0 l1 l2 l3 (l4 + (1 : Int32)) r hf
def g_X12_goWays (c_X12_goWays : xa_H → Nat → Int32 → Int32 → Int32 → Option xa_H) (h : xa_H) (l0 : Nat) (l1 : Int32) (l2 : Int32) (l3 : Int32) : Option xa_H :=
  (ck [12] h l0).bind fun _ =>
  (f_X12_tries h l0 l1 l3).bind fun q1 =>
  if l1 = l2 then
    some q1
  else
    f_X12_goWays_b15 c_X12_goWays 1048576 q1 l0 l1 l2 l3 (0 : Int32)
set_option maxRecDepth 20000 in
theorem eg_X12_goWays {G : xa_G} {d d1 : Nat} {c_X12_goWays : xa_H → Nat → Int32 → Int32 → Int32 → Option xa_H} (hc_X12_goWays : ∀ {h : xa_H} {a0 : Nat} {a1 : Int32} {a2 : Int32} {a3 : Int32} {r : xa_H}, c_X12_goWays h a0 a1 a2 a3 = some r → xa_Ev G M_X12_goWays d1 [.ref a0, .int a1, .int a2, .int a3] h none r) (hck_X12_goWays : ∀ {h : xa_H} {a0 : Nat} {a1 : Int32} {a2 : Int32} {a3 : Int32} {r : xa_H}, c_X12_goWays h a0 a1 a2 a3 = some r → ck [12] h a0 = some ()) (hdx : 5 ≤ d) (hd1 : d1 + 1 ≤ d) {h : xa_H} {l0 : Nat} {l1 : Int32} {l2 : Int32} {l3 : Int32} {r : xa_H} (hf : g_X12_goWays c_X12_goWays h l0 l1 l2 l3 = some r) : xa_Ev G M_X12_goWays d [.ref l0, .int l1, .int l2, .int l3] h none r := by
  refine xa_entry (by decide +kernel) (loc := [some (.ref l0), some (.int l1), some (.int l2), some (.int l3), none, none]) rfl (Nat.le_of_ble_eq_true rfl) ?_
  unfold g_X12_goWays at hf
  obtain ⟨u0, eu0, hf⟩ := ob hf
  refine v_aload_n dX12_goWays_0 rfl ?_
  refine v_iload_n dX12_goWays_1 rfl ?_
  refine v_iload_n dX12_goWays_2 rfl ?_
  obtain ⟨q1, eq1, hf⟩ := ob hf
  refine v_callV dX12_goWays_3 ⟨cb_X12_tries, ml_12_465, im_X12_tries⟩ se_12_X12_tries (ckf_X12_tries eq1) (ev_X12_tries eq1) (Nat.le_trans (by decide) hdx) (As := [.int l1, .int l3]) rfl (st := []) rfl (Nat.le_of_ble_eq_true rfl) rfl ?_
  refine v_iload_n dX12_goWays_6 rfl ?_
  refine v_iload_n dX12_goWays_7 rfl ?_
  refine v_icmp_ne dX12_goWays_8 (tgt := 12) (by decide) (fun c2 => ?_) (fun c2 => ?_)
  · replace hf := (if_neg c2).symm.trans hf
    refine v_iconst dX12_goWays_12 (by decide) (v := 0) ?_
    refine v_istore dX12_goWays_13 (Nat.le_of_ble_eq_true rfl) (loc' := [some (.ref l0), some (.int l1), some (.int l2), some (.int l3), some (.int (0 : Int32)), none]) rfl ?_
    exact e_X12_goWays_b15 hc_X12_goWays hck_X12_goWays hdx hd1 1048576 q1 l0 l1 l2 l3 (0 : Int32) r hf
  · replace hf := (if_pos c2).symm.trans hf
    replace hf := Option.some.inj hf
    subst hf
    exact v_vret dX12_goWays_11 rfl
theorem cg_X12_goWays {c_X12_goWays : xa_H → Nat → Int32 → Int32 → Int32 → Option xa_H} {h : xa_H} {l0 : Nat} {l1 : Int32} {l2 : Int32} {l3 : Int32} {r : xa_H} (hf : g_X12_goWays c_X12_goWays h l0 l1 l2 l3 = some r) : ck [12] h l0 = some () := by
  obtain ⟨u, e, -⟩ := ob hf
  exact e
def f_X12_goWays : Nat → xa_H → Nat → Int32 → Int32 → Int32 → Option xa_H
  | 0, _, _, _, _, _ => none
  | n + 1, h, a0, a1, a2, a3 => g_X12_goWays (f_X12_goWays n) h a0 a1 a2 a3
theorem ckf_X12_goWays {n : Nat} {h : xa_H} {a0 : Nat} {a1 : Int32} {a2 : Int32} {a3 : Int32} {r : xa_H} (hf : f_X12_goWays n h a0 a1 a2 a3 = some r) : ck [12] h a0 = some () := by
  cases n with
  | zero => cases (show (none : Option xa_H) = some r from hf)
  | succ n => exact cg_X12_goWays (c_X12_goWays := (f_X12_goWays n)) hf
theorem evg_X12_goWays {G : xa_G} : ∀ n : Nat, (∀ {h : xa_H} {a0 : Nat} {a1 : Int32} {a2 : Int32} {a3 : Int32} {r : xa_H}, f_X12_goWays n h a0 a1 a2 a3 = some r → xa_Ev G M_X12_goWays (5 + n) [.ref a0, .int a1, .int a2, .int a3] h none r) := by
  intro n
  induction n with
  | zero => exact (fun hf => by cases (show (none : Option xa_H) = some _ from hf))
  | succ n ih => exact (fun hf => eg_X12_goWays ih ckf_X12_goWays (by omega) (by omega) hf)
theorem ev_X12_goWays {G : xa_G} {n : Nat} {h : xa_H} {a0 : Nat} {a1 : Int32} {a2 : Int32} {a3 : Int32} {r : xa_H} (hf : f_X12_goWays n h a0 a1 a2 a3 = some r) : xa_Ev G M_X12_goWays (5 + n) [.ref a0, .int a1, .int a2, .int a3] h none r := (evg_X12_goWays n) hf
def M_X12_seeks : xa_M := (yX12_seeks, cX12_seeks, 3, none)
theorem cb_X12_seeks : xa_CB M_X12_seeks 2 := ⟨gws_at 1832 (by decide +kernel) rfl, gws_at 122 (by decide +kernel) rfl, by decide +kernel, Nat.le_of_ble_eq_true rfl⟩
def f_X12_seeks (h : xa_H) (l0 : Nat) (l1 : Int32) (l2 : Int32) : Option xa_H :=
  (ck [12] h l0).bind fun _ =>
  (xp [12] 46 h l0 (.int l1)).bind fun h1 =>
  (xp [12] 45 h1 l0 (.int (0 : Int32))).bind fun h2 =>
  (xp [12] 47 h2 l0 (.int (-1 : Int32))).bind fun h3 =>
  (xp [12] 48 h3 l0 (.int (0 : Int32))).bind fun h4 =>
  (xp [12] 49 h4 l0 (.int (-1 : Int32))).bind fun h5 =>
  (gR [12] 32 h5 l0).bind fun x6 =>
  (gR [12] 33 h5 l0).bind fun x7 =>
  (f_X12_copy h5 x6 x7).bind fun q8 =>
  (f_X12_goWays 8 q8 l0 (0 : Int32) l2 (0 : Int32)).bind fun q9 =>
  some q9
set_option maxRecDepth 20000 in
theorem ev_X12_seeks {G : xa_G} {h : xa_H} {l0 : Nat} {l1 : Int32} {l2 : Int32} {r : xa_H} (hf : f_X12_seeks h l0 l1 l2 = some r) : xa_Ev G M_X12_seeks 14 [.ref l0, .int l1, .int l2] h none r := by
  refine xa_entry (by decide +kernel) (loc := [some (.ref l0), some (.int l1), some (.int l2)]) rfl (Nat.le_of_ble_eq_true rfl) ?_
  unfold f_X12_seeks at hf
  obtain ⟨u0, eu0, hf⟩ := ob hf
  refine v_aload_n dX12_seeks_0 rfl ?_
  refine v_iload_n dX12_seeks_1 rfl ?_
  obtain ⟨h1, eh1, hf⟩ := ob hf
  refine v_put dX12_seeks_2 fp_12_450 (fun z => by cases z) (fun _ => rfl) (fun _ => rfl) eh1 ?_
  refine v_aload_n dX12_seeks_5 rfl ?_
  refine v_iconst dX12_seeks_6 (by decide) (v := 0) ?_
  obtain ⟨h2, eh2, hf⟩ := ob hf
  refine v_put dX12_seeks_7 fp_12_447 (fun z => by cases z) (fun _ => rfl) (fun _ => rfl) eh2 ?_
  refine v_aload_n dX12_seeks_10 rfl ?_
  refine v_iconst dX12_seeks_11 (by decide) (v := -1) ?_
  obtain ⟨h3, eh3, hf⟩ := ob hf
  refine v_put dX12_seeks_12 fp_12_456 (fun z => by cases z) (fun _ => rfl) (fun _ => rfl) eh3 ?_
  refine v_aload_n dX12_seeks_15 rfl ?_
  refine v_iconst dX12_seeks_16 (by decide) (v := 0) ?_
  obtain ⟨h4, eh4, hf⟩ := ob hf
  refine v_put dX12_seeks_17 fp_12_462 (fun z => by cases z) (fun _ => rfl) (fun _ => rfl) eh4 ?_
  refine v_aload_n dX12_seeks_20 rfl ?_
  refine v_iconst dX12_seeks_21 (by decide) (v := -1) ?_
  obtain ⟨h5, eh5, hf⟩ := ob hf
  refine v_put dX12_seeks_22 fp_12_459 (fun z => by cases z) (fun _ => rfl) (fun _ => rfl) eh5 ?_
  refine v_aload_n dX12_seeks_25 rfl ?_
  obtain ⟨x6, ex6, hf⟩ := ob hf
  refine v_getR dX12_seeks_26 fl_12_61 ex6 ?_
  refine v_aload_n dX12_seeks_29 rfl ?_
  obtain ⟨x7, ex7, hf⟩ := ob hf
  refine v_getR dX12_seeks_30 fl_12_64 ex7 ?_
  obtain ⟨q8, eq8, hf⟩ := ob hf
  refine v_callS dX12_seeks_33 ⟨cb_X12_copy, ml_12_428, sm_X12_copy⟩ (ev_X12_copy eq8) (by decide) (As := [.ref x6, .ref x7]) rfl (st := []) rfl (Nat.le_of_ble_eq_true rfl) rfl ?_
  refine v_aload_n dX12_seeks_36 rfl ?_
  refine v_iconst dX12_seeks_37 (by decide) (v := 0) ?_
  refine v_iload_n dX12_seeks_38 rfl ?_
  refine v_iconst dX12_seeks_39 (by decide) (v := 0) ?_
  obtain ⟨q9, eq9, hf⟩ := ob hf
  refine v_callV dX12_seeks_40 ⟨cb_X12_goWays, ml_12_469, im_X12_goWays⟩ se_12_X12_goWays (ckf_X12_goWays eq9) (ev_X12_goWays eq9) (by decide) (As := [.int (0 : Int32), .int l2, .int (0 : Int32)]) rfl (st := []) rfl (Nat.le_of_ble_eq_true rfl) rfl ?_
  replace hf := Option.some.inj hf
  subst hf
  exact v_vret dX12_seeks_43 rfl
theorem ckf_X12_seeks {h : xa_H} {l0 : Nat} {l1 : Int32} {l2 : Int32} {r : xa_H} (hf : f_X12_seeks h l0 l1 l2 = some r) : ck [12] h l0 = some () := by
  obtain ⟨u, e, -⟩ := ob hf
  exact e
def M_X12_fewest : xa_M := (yX12_fewest, cX12_fewest, 3, some .int)
theorem cb_X12_fewest : xa_CB M_X12_fewest 2 := ⟨gws_at 1852 (by decide +kernel) rfl, gws_at 122 (by decide +kernel) rfl, by decide +kernel, Nat.le_of_ble_eq_true rfl⟩
def f_X12_fewest (h : xa_H) (l0 : Nat) (l1 : Int32) (l2 : Int32) : Option (Int32 × xa_H) :=
  (ck [12] h l0).bind fun _ =>
  (xp [12] 0 h l0 (.int (0 : Int32))).bind fun h1 =>
  (gI [12] 26 h1 l0).bind fun x2 =>
  if x2 = 0 then
    some ((-1 : Int32), h1)
  else
    (f_X12_isIn h1 l1.toInt64 (0 : Int64) (4 : Int64)).bind fun q4 =>
    if q4 = 0 then
      some ((-1 : Int32), h1)
    else
      (f_X12_isIn h1 l2.toInt64 (0 : Int64) (1 : Int64)).bind fun q6 =>
      if q6 = 0 then
        some ((-1 : Int32), h1)
      else
        (f_X12_seeks h1 l0 (2 : Int32) l1).bind fun q8 =>
        if l2 = 0 then
          (gI [12] 48 q8 l0).bind fun x11 =>
          some (x11, q8)
        else
          (gI [12] 49 q8 l0).bind fun x10 =>
          some (x10, q8)
set_option maxRecDepth 20000 in
theorem ev_X12_fewest {G : xa_G} {h : xa_H} {l0 : Nat} {l1 : Int32} {l2 : Int32} {r : (Int32 × xa_H)} (hf : f_X12_fewest h l0 l1 l2 = some r) : xa_Ev G M_X12_fewest 15 [.ref l0, .int l1, .int l2] h (some (.int r.1)) r.2 := by
  refine xa_entry (by decide +kernel) (loc := [some (.ref l0), some (.int l1), some (.int l2)]) rfl (Nat.le_of_ble_eq_true rfl) ?_
  unfold f_X12_fewest at hf
  obtain ⟨u0, eu0, hf⟩ := ob hf
  refine v_aload_n dX12_fewest_0 rfl ?_
  refine v_iconst dX12_fewest_1 (by decide) (v := 0) ?_
  obtain ⟨h1, eh1, hf⟩ := ob hf
  refine v_put dX12_fewest_2 fp_12_111 (fun z => by cases z) (fun _ => rfl) (fun _ => rfl) eh1 ?_
  refine v_aload_n dX12_fewest_5 rfl ?_
  obtain ⟨x2, ex2, hf⟩ := ob hf
  refine v_getI dX12_fewest_6 fl_12_307 ex2 ?_
  refine v_if_eq dX12_fewest_9 (tgt := 34) (by decide) (fun c3 => ?_) (fun c3 => ?_)
  · replace hf := (if_pos c3).symm.trans hf
    refine v_iconst dX12_fewest_34 (by decide) (v := -1) ?_
    replace hf := Option.some.inj hf
    subst hf
    exact v_iret dX12_fewest_35 rfl
  · replace hf := (if_neg c3).symm.trans hf
    refine v_iload_n dX12_fewest_12 rfl ?_
    refine v_i2l dX12_fewest_13 ?_
    refine v_lconst dX12_fewest_14 (by decide) (v := 0) ?_
    refine v_ldc2 dX12_fewest_15 rfl col_12_473 ?_
    obtain ⟨q4, eq4, hf⟩ := ob hf
    refine v_callS dX12_fewest_18 ⟨cb_X12_isIn, ml_12_232, sm_X12_isIn⟩ (ev_X12_isIn eq4) (by decide) (As := [.long l1.toInt64, .long (0 : Int64), .long (4 : Int64)]) rfl (st := []) rfl (Nat.le_of_ble_eq_true rfl) rfl ?_
    refine v_if_eq dX12_fewest_21 (tgt := 34) (by decide) (fun c5 => ?_) (fun c5 => ?_)
    · replace hf := (if_pos c5).symm.trans hf
      refine v_iconst dX12_fewest_34 (by decide) (v := -1) ?_
      replace hf := Option.some.inj hf
      subst hf
      exact v_iret dX12_fewest_35 rfl
    · replace hf := (if_neg c5).symm.trans hf
      refine v_iload_n dX12_fewest_24 rfl ?_
      refine v_i2l dX12_fewest_25 ?_
      refine v_lconst dX12_fewest_26 (by decide) (v := 0) ?_
      refine v_lconst dX12_fewest_27 (by decide) (v := 1) ?_
      obtain ⟨q6, eq6, hf⟩ := ob hf
      refine v_callS dX12_fewest_28 ⟨cb_X12_isIn, ml_12_232, sm_X12_isIn⟩ (ev_X12_isIn eq6) (by decide) (As := [.long l2.toInt64, .long (0 : Int64), .long (1 : Int64)]) rfl (st := []) rfl (Nat.le_of_ble_eq_true rfl) rfl ?_
      refine v_if_ne dX12_fewest_31 (tgt := 36) (by decide) (fun c7 => ?_) (fun c7 => ?_)
      · replace hf := (if_neg c7).symm.trans hf
        refine v_aload_n dX12_fewest_36 rfl ?_
        refine v_iconst dX12_fewest_37 (by decide) (v := 2) ?_
        refine v_iload_n dX12_fewest_38 rfl ?_
        obtain ⟨q8, eq8, hf⟩ := ob hf
        refine v_callV dX12_fewest_39 ⟨cb_X12_seeks, ml_12_475, im_X12_seeks⟩ se_12_X12_seeks (ckf_X12_seeks eq8) (ev_X12_seeks eq8) (by decide) (As := [.int (2 : Int32), .int l1]) rfl (st := []) rfl (Nat.le_of_ble_eq_true rfl) rfl ?_
        refine v_iload_n dX12_fewest_42 rfl ?_
        refine v_if_ne dX12_fewest_43 (tgt := 53) (by decide) (fun c9 => ?_) (fun c9 => ?_)
        · replace hf := (if_neg c9).symm.trans hf
          refine v_aload_n dX12_fewest_53 rfl ?_
          obtain ⟨x10, ex10, hf⟩ := ob hf
          refine v_getI dX12_fewest_54 fl_12_459 ex10 ?_
          replace hf := Option.some.inj hf
          subst hf
          exact v_iret dX12_fewest_57 rfl
        · replace hf := (if_pos c9).symm.trans hf
          refine v_aload_n dX12_fewest_46 rfl ?_
          obtain ⟨x11, ex11, hf⟩ := ob hf
          refine v_getI dX12_fewest_47 fl_12_462 ex11 ?_
          refine v_goto dX12_fewest_50 (tgt := 57) (by decide) ?_
          replace hf := Option.some.inj hf
          subst hf
          exact v_iret dX12_fewest_57 rfl
      · replace hf := (if_pos c7).symm.trans hf
        refine v_iconst dX12_fewest_34 (by decide) (v := -1) ?_
        replace hf := Option.some.inj hf
        subst hf
        exact v_iret dX12_fewest_35 rfl
theorem ckf_X12_fewest {h : xa_H} {l0 : Nat} {l1 : Int32} {l2 : Int32} {r : (Int32 × xa_H)} (hf : f_X12_fewest h l0 l1 l2 = some r) : ck [12] h l0 = some () := by
  obtain ⟨u, e, -⟩ := ob hf
  exact e
def M_X12_forgives : xa_M := (yX12_forgives, cX12_forgives, 4, some .int)
theorem cb_X12_forgives : xa_CB M_X12_forgives 2 := ⟨gws_at 1752 (by decide +kernel) rfl, gws_at 122 (by decide +kernel) rfl, by decide +kernel, Nat.le_of_ble_eq_true rfl⟩
def f_X12_forgives_b21 (h : xa_H) (l0 : Nat) : Option (Int32 × xa_H) :=
  (f_X12_refused h l0 (0 : Int32) (-1000000 : Int32)).bind fun q1 =>
  some (q1.1, q1.2)
set_option maxRecDepth 20000 in
theorem e_X12_forgives_b21 {G : xa_G} : ∀ (h : xa_H) (l0 : Nat) (r : (Int32 × xa_H)), f_X12_forgives_b21 h l0 = some r → xa_V G M_X12_forgives 1 21 [some (.ref l0), none, none, none] [] h (some (.int r.1)) r.2 := by
  intro h l0 r hf
  unfold f_X12_forgives_b21 at hf
  refine v_aload_n dX12_forgives_21 rfl ?_
  refine v_iconst dX12_forgives_22 (by decide) (v := 0) ?_
  refine v_ldcw dX12_forgives_23 rfl co_12_380 ?_
  obtain ⟨q1, eq1, hf⟩ := ob hf
  refine v_callV dX12_forgives_26 ⟨cb_X12_refused, ml_12_397, im_X12_refused⟩ se_12_X12_refused (ckf_X12_refused eq1) (ev_X12_refused eq1) (by decide) (As := [.int (0 : Int32), .int (-1000000 : Int32)]) rfl (st := []) rfl (Nat.le_of_ble_eq_true rfl) rfl ?_
  replace hf := Option.some.inj hf
  subst hf
  exact v_iret dX12_forgives_29 rfl
def f_X12_forgives (h : xa_H) (l0 : Nat) (l1 : Int32) (l2 : Int32) : Option (Int32 × xa_H) :=
  (ck [12] h l0).bind fun _ =>
  (xp [12] 0 h l0 (.int (0 : Int32))).bind fun h1 =>
  (f_X12_isHouse h1 l0 l1).bind fun q2 =>
  if q2 = 0 then
    f_X12_forgives_b21 h1 l0
  else
    (f_X12_isHouse h1 l0 l2).bind fun q4 =>
    if q4 = 0 then
      f_X12_forgives_b21 h1 l0
    else
      if l1 = l2 then
        (f_X12_refused h1 l0 (1 : Int32) (-1000000 : Int32)).bind fun q14 =>
        some (q14.1, q14.2)
      else
        (gR [12] 32 h1 l0).bind fun x7 =>
        (aI h1 x7 (((6 : Int32) * l1) + l2)).bind fun x8 =>
        if x8 = 0 then
          (f_X12_refused h1 l0 (2 : Int32) (-1000000 : Int32)).bind fun q13 =>
          some (q13.1, q13.2)
        else
          (f_X12_remember h1 l0).bind fun q10 =>
          (gR [12] 32 q10 l0).bind fun x11 =>
          (f_X12_clears q10 x11 l1 l2).bind fun q12 =>
          some (x8, q12)
set_option maxRecDepth 20000 in
theorem ev_X12_forgives {G : xa_G} {h : xa_H} {l0 : Nat} {l1 : Int32} {l2 : Int32} {r : (Int32 × xa_H)} (hf : f_X12_forgives h l0 l1 l2 = some r) : xa_Ev G M_X12_forgives 1 [.ref l0, .int l1, .int l2] h (some (.int r.1)) r.2 := by
  refine xa_entry (by decide +kernel) (loc := [some (.ref l0), some (.int l1), some (.int l2), none]) rfl (Nat.le_of_ble_eq_true rfl) ?_
  unfold f_X12_forgives at hf
  obtain ⟨u0, eu0, hf⟩ := ob hf
  refine v_aload_n dX12_forgives_0 rfl ?_
  refine v_iconst dX12_forgives_1 (by decide) (v := 0) ?_
  obtain ⟨h1, eh1, hf⟩ := ob hf
  refine v_put dX12_forgives_2 fp_12_111 (fun z => by cases z) (fun _ => rfl) (fun _ => rfl) eh1 ?_
  refine v_aload_n dX12_forgives_5 rfl ?_
  refine v_iload_n dX12_forgives_6 rfl ?_
  obtain ⟨q2, eq2, hf⟩ := ob hf
  refine v_callV dX12_forgives_7 ⟨cb_X12_isHouse, ml_12_335, im_X12_isHouse⟩ se_12_X12_isHouse (ckf_X12_isHouse eq2) (ev_X12_isHouse eq2) (by decide) (As := [.int l1]) rfl (st := []) rfl (Nat.le_of_ble_eq_true rfl) rfl ?_
  refine v_if_eq dX12_forgives_10 (tgt := 21) (by decide) (fun c3 => ?_) (fun c3 => ?_)
  · replace hf := (if_pos c3).symm.trans hf
    exact xa_weak (loc := [some (.ref l0), none, none, none]) ⟨rfl, trivial⟩ (e_X12_forgives_b21 h1 l0 r hf)
  · replace hf := (if_neg c3).symm.trans hf
    refine v_aload_n dX12_forgives_13 rfl ?_
    refine v_iload_n dX12_forgives_14 rfl ?_
    obtain ⟨q4, eq4, hf⟩ := ob hf
    refine v_callV dX12_forgives_15 ⟨cb_X12_isHouse, ml_12_335, im_X12_isHouse⟩ se_12_X12_isHouse (ckf_X12_isHouse eq4) (ev_X12_isHouse eq4) (by decide) (As := [.int l2]) rfl (st := []) rfl (Nat.le_of_ble_eq_true rfl) rfl ?_
    refine v_if_ne dX12_forgives_18 (tgt := 30) (by decide) (fun c5 => ?_) (fun c5 => ?_)
    · replace hf := (if_neg c5).symm.trans hf
      refine v_iload_n dX12_forgives_30 rfl ?_
      refine v_iload_n dX12_forgives_31 rfl ?_
      refine v_icmp_ne dX12_forgives_32 (tgt := 44) (by decide) (fun c6 => ?_) (fun c6 => ?_)
      · replace hf := (if_neg c6).symm.trans hf
        refine v_aload_n dX12_forgives_44 rfl ?_
        obtain ⟨x7, ex7, hf⟩ := ob hf
        refine v_getR dX12_forgives_45 fl_12_61 ex7 ?_
        refine v_bipush dX12_forgives_48 (by decide) (v := 6) ?_
        refine v_iload_n dX12_forgives_50 rfl ?_
        refine v_imul dX12_forgives_51 ?_
        refine v_iload_n dX12_forgives_52 rfl ?_
        refine v_iadd dX12_forgives_53 ?_
        obtain ⟨x8, ex8, hf⟩ := ob hf
        refine v_ialoadI dX12_forgives_54 ex8 ?_
        refine v_istore_n (i := 3) rfl dX12_forgives_55 (Nat.le_of_ble_eq_true rfl) (loc' := [some (.ref l0), some (.int l1), some (.int l2), some (.int x8)]) rfl ?_
        refine v_iload_n dX12_forgives_56 rfl ?_
        refine v_if_ne dX12_forgives_57 (tgt := 69) (by decide) (fun c9 => ?_) (fun c9 => ?_)
        · replace hf := (if_neg c9).symm.trans hf
          refine v_aload_n dX12_forgives_69 rfl ?_
          obtain ⟨q10, eq10, hf⟩ := ob hf
          refine v_callV dX12_forgives_70 ⟨cb_X12_remember, ml_12_388, im_X12_remember⟩ se_12_X12_remember (ckf_X12_remember eq10) (ev_X12_remember eq10) (by decide) (As := []) rfl (st := []) rfl (Nat.le_of_ble_eq_true rfl) rfl ?_
          refine v_aload_n dX12_forgives_73 rfl ?_
          obtain ⟨x11, ex11, hf⟩ := ob hf
          refine v_getR dX12_forgives_74 fl_12_61 ex11 ?_
          refine v_iload_n dX12_forgives_77 rfl ?_
          refine v_iload_n dX12_forgives_78 rfl ?_
          obtain ⟨q12, eq12, hf⟩ := ob hf
          refine v_callS dX12_forgives_79 ⟨cb_X12_clears, ml_12_407, sm_X12_clears⟩ (ev_X12_clears eq12) (by decide) (As := [.ref x11, .int l1, .int l2]) rfl (st := []) rfl (Nat.le_of_ble_eq_true rfl) rfl ?_
          refine v_iload_n dX12_forgives_82 rfl ?_
          replace hf := Option.some.inj hf
          subst hf
          exact v_iret dX12_forgives_83 rfl
        · replace hf := (if_pos c9).symm.trans hf
          refine v_aload_n dX12_forgives_60 rfl ?_
          refine v_iconst dX12_forgives_61 (by decide) (v := 2) ?_
          refine v_ldcw dX12_forgives_62 rfl co_12_380 ?_
          obtain ⟨q13, eq13, hf⟩ := ob hf
          refine v_callV dX12_forgives_65 ⟨cb_X12_refused, ml_12_397, im_X12_refused⟩ se_12_X12_refused (ckf_X12_refused eq13) (ev_X12_refused eq13) (by decide) (As := [.int (2 : Int32), .int (-1000000 : Int32)]) rfl (st := []) rfl (Nat.le_of_ble_eq_true rfl) rfl ?_
          replace hf := Option.some.inj hf
          subst hf
          exact v_iret dX12_forgives_68 rfl
      · replace hf := (if_pos c6).symm.trans hf
        refine v_aload_n dX12_forgives_35 rfl ?_
        refine v_iconst dX12_forgives_36 (by decide) (v := 1) ?_
        refine v_ldcw dX12_forgives_37 rfl co_12_380 ?_
        obtain ⟨q14, eq14, hf⟩ := ob hf
        refine v_callV dX12_forgives_40 ⟨cb_X12_refused, ml_12_397, im_X12_refused⟩ se_12_X12_refused (ckf_X12_refused eq14) (ev_X12_refused eq14) (by decide) (As := [.int (1 : Int32), .int (-1000000 : Int32)]) rfl (st := []) rfl (Nat.le_of_ble_eq_true rfl) rfl ?_
        replace hf := Option.some.inj hf
        subst hf
        exact v_iret dX12_forgives_43 rfl
    · replace hf := (if_pos c5).symm.trans hf
      exact xa_weak (loc := [some (.ref l0), none, none, none]) ⟨rfl, trivial⟩ (e_X12_forgives_b21 h1 l0 r hf)
theorem ckf_X12_forgives {h : xa_H} {l0 : Nat} {l1 : Int32} {l2 : Int32} {r : (Int32 × xa_H)} (hf : f_X12_forgives h l0 l1 l2 = some r) : ck [12] h l0 = some () := by
  obtain ⟨u, e, -⟩ := ob hf
  exact e
def M_X12_perhaps : xa_M := (yX12_perhaps, cX12_perhaps, 3, none)
theorem cb_X12_perhaps : xa_CB M_X12_perhaps 2 := ⟨gws_at 1899 (by decide +kernel) rfl, gws_at 122 (by decide +kernel) rfl, by decide +kernel, Nat.le_of_ble_eq_true rfl⟩
def f_X12_perhaps (h : xa_H) (l0 : Nat) (l1 : Nat) (l2 : Int32) : Option xa_H :=
  (ck [12] h l0).bind fun _ =>
  (f_X12_can h l0 l1 l2).bind fun q1 =>
  if q1.1 = 0 then
    some q1.2
  else
    (f_X12_crosses q1.2 l0 l1 l2).bind fun q3 =>
    some q3
set_option maxRecDepth 20000 in
theorem ev_X12_perhaps {G : xa_G} {h : xa_H} {l0 : Nat} {l1 : Nat} {l2 : Int32} {r : xa_H} (hf : f_X12_perhaps h l0 l1 l2 = some r) : xa_Ev G M_X12_perhaps 3 [.ref l0, .ref l1, .int l2] h none r := by
  refine xa_entry (by decide +kernel) (loc := [some (.ref l0), some (.ref l1), some (.int l2)]) rfl (Nat.le_of_ble_eq_true rfl) ?_
  unfold f_X12_perhaps at hf
  obtain ⟨u0, eu0, hf⟩ := ob hf
  refine v_aload_n dX12_perhaps_0 rfl ?_
  refine v_aload_n dX12_perhaps_1 rfl ?_
  refine v_iload_n dX12_perhaps_2 rfl ?_
  obtain ⟨q1, eq1, hf⟩ := ob hf
  refine v_callV dX12_perhaps_3 ⟨cb_X12_can, ml_12_403, im_X12_can⟩ se_12_X12_can (ckf_X12_can eq1) (ev_X12_can eq1) (by decide) (As := [.ref l1, .int l2]) rfl (st := []) rfl (Nat.le_of_ble_eq_true rfl) rfl ?_
  refine v_if_eq dX12_perhaps_6 (tgt := 15) (by decide) (fun c2 => ?_) (fun c2 => ?_)
  · replace hf := (if_pos c2).symm.trans hf
    replace hf := Option.some.inj hf
    subst hf
    exact v_vret dX12_perhaps_15 rfl
  · replace hf := (if_neg c2).symm.trans hf
    refine v_aload_n dX12_perhaps_9 rfl ?_
    refine v_aload_n dX12_perhaps_10 rfl ?_
    refine v_iload_n dX12_perhaps_11 rfl ?_
    obtain ⟨q3, eq3, hf⟩ := ob hf
    refine v_callV dX12_perhaps_12 ⟨cb_X12_crosses, ml_12_391, im_X12_crosses⟩ se_12_X12_crosses (ckf_X12_crosses eq3) (ev_X12_crosses eq3) (by decide) (As := [.ref l1, .int l2]) rfl (st := []) rfl (Nat.le_of_ble_eq_true rfl) rfl ?_
    replace hf := Option.some.inj hf
    subst hf
    exact v_vret dX12_perhaps_15 rfl
theorem ckf_X12_perhaps {h : xa_H} {l0 : Nat} {l1 : Nat} {l2 : Int32} {r : xa_H} (hf : f_X12_perhaps h l0 l1 l2 = some r) : ck [12] h l0 = some () := by
  obtain ⟨u, e, -⟩ := ob hf
  exact e
def M_X12_gameOf : xa_M := (yX12_gameOf, cX12_gameOf, 7, some .int)
theorem cb_X12_gameOf : xa_CB M_X12_gameOf 5 := ⟨gws_at 1895 (by decide +kernel) rfl, gws_at 122 (by decide +kernel) rfl, by decide +kernel, Nat.le_of_ble_eq_true rfl⟩
def f_X12_gameOf_b84 (h : xa_H) (s0 : Int32) (s1 : Int32) : Option (Int32 × xa_H) :=
  some ((s1 - s0), h)
set_option maxRecDepth 20000 in
theorem e_X12_gameOf_b84 {G : xa_G} : ∀ (h : xa_H) (s0 : Int32) (s1 : Int32) (r : (Int32 × xa_H)), f_X12_gameOf_b84 h s0 s1 = some r → xa_V G M_X12_gameOf 4 84 [none, none, none, none, none, none, none] [.int s0, .int s1] h (some (.int r.1)) r.2 := by
  intro h s0 s1 r hf
  unfold f_X12_gameOf_b84 at hf
  refine v_isub dX12_gameOf_84 ?_
  replace hf := Option.some.inj hf
  subst hf
  exact v_iret dX12_gameOf_85 rfl
def f_X12_gameOf_b50 (h : xa_H) (l0 : Nat) (l3 : Int32) (l4 : Int32) (l5 : Int32) (s0 : Int32) : Option (Int32 × xa_H) :=
  (gR [12] 33 h l0).bind fun x1 =>
  (f_X12_in h l0 x1 s0).bind fun q2 =>
  (gR [12] 33 h l0).bind fun x3 =>
  (f_X12_out h l0 x3 s0).bind fun q4 =>
  if l5 = 0 then
    f_X12_gameOf_b84 h l3 (q2 - q4)
  else
    f_X12_gameOf_b84 h l4 (q2 - q4)
set_option maxRecDepth 20000 in
theorem e_X12_gameOf_b50 {G : xa_G} : ∀ (h : xa_H) (l0 : Nat) (l3 : Int32) (l4 : Int32) (l5 : Int32) (s0 : Int32) (r : (Int32 × xa_H)), f_X12_gameOf_b50 h l0 l3 l4 l5 s0 = some r → xa_V G M_X12_gameOf 4 50 [some (.ref l0), none, none, some (.int l3), some (.int l4), some (.int l5), none] [.int s0] h (some (.int r.1)) r.2 := by
  intro h l0 l3 l4 l5 s0 r hf
  unfold f_X12_gameOf_b50 at hf
  refine v_istore dX12_gameOf_50 (Nat.le_of_ble_eq_true rfl) (loc' := [some (.ref l0), none, none, some (.int l3), some (.int l4), some (.int l5), some (.int s0)]) rfl ?_
  refine v_aload_n dX12_gameOf_52 rfl ?_
  refine v_aload_n dX12_gameOf_53 rfl ?_
  obtain ⟨x1, ex1, hf⟩ := ob hf
  refine v_getR dX12_gameOf_54 fl_12_64 ex1 ?_
  refine v_iload dX12_gameOf_57 rfl ?_
  obtain ⟨q2, eq2, hf⟩ := ob hf
  refine v_callV dX12_gameOf_59 ⟨cb_X12_in, ml_12_370, im_X12_in⟩ se_12_X12_in (ckf_X12_in eq2) (ev_X12_in eq2) (by decide) (As := [.ref x1, .int s0]) rfl (st := []) rfl (Nat.le_of_ble_eq_true rfl) rfl ?_
  refine v_aload_n dX12_gameOf_62 rfl ?_
  refine v_aload_n dX12_gameOf_63 rfl ?_
  obtain ⟨x3, ex3, hf⟩ := ob hf
  refine v_getR dX12_gameOf_64 fl_12_64 ex3 ?_
  refine v_iload dX12_gameOf_67 rfl ?_
  obtain ⟨q4, eq4, hf⟩ := ob hf
  refine v_callV dX12_gameOf_69 ⟨cb_X12_out, ml_12_353, im_X12_out⟩ se_12_X12_out (ckf_X12_out eq4) (ev_X12_out eq4) (by decide) (As := [.ref x3, .int s0]) rfl (st := [.int q2]) rfl (Nat.le_of_ble_eq_true rfl) rfl ?_
  refine v_isub dX12_gameOf_72 ?_
  refine v_iload dX12_gameOf_73 rfl ?_
  refine v_if_ne dX12_gameOf_75 (tgt := 82) (by decide) (fun c5 => ?_) (fun c5 => ?_)
  · replace hf := (if_neg c5).symm.trans hf
    refine v_iload dX12_gameOf_82 rfl ?_
    exact xa_weak (loc := [none, none, none, none, none, none, none]) trivial (e_X12_gameOf_b84 h l4 (q2 - q4) r hf)
  · replace hf := (if_pos c5).symm.trans hf
    refine v_iload_n dX12_gameOf_78 rfl ?_
    refine v_goto dX12_gameOf_79 (tgt := 84) (by decide) ?_
    exact xa_weak (loc := [none, none, none, none, none, none, none]) trivial (e_X12_gameOf_b84 h l3 (q2 - q4) r hf)
def f_X12_gameOf_b40 (h : xa_H) (l0 : Nat) (l1 : Int32) (l2 : Int32) (l3 : Int32) (l4 : Int32) (l5 : Int32) : Option (Int32 × xa_H) :=
  if l5 = 0 then
    f_X12_gameOf_b50 h l0 l3 l4 l5 l1
  else
    f_X12_gameOf_b50 h l0 l3 l4 l5 l2
set_option maxRecDepth 20000 in
theorem e_X12_gameOf_b40 {G : xa_G} : ∀ (h : xa_H) (l0 : Nat) (l1 : Int32) (l2 : Int32) (l3 : Int32) (l4 : Int32) (l5 : Int32) (r : (Int32 × xa_H)), f_X12_gameOf_b40 h l0 l1 l2 l3 l4 l5 = some r → xa_V G M_X12_gameOf 4 40 [some (.ref l0), some (.int l1), some (.int l2), some (.int l3), some (.int l4), some (.int l5), none] [] h (some (.int r.1)) r.2 := by
  intro h l0 l1 l2 l3 l4 l5 r hf
  unfold f_X12_gameOf_b40 at hf
  refine v_iload dX12_gameOf_40 rfl ?_
  refine v_if_ne dX12_gameOf_42 (tgt := 49) (by decide) (fun c1 => ?_) (fun c1 => ?_)
  · replace hf := (if_neg c1).symm.trans hf
    refine v_iload_n dX12_gameOf_49 rfl ?_
    exact xa_weak (loc := [some (.ref l0), none, none, some (.int l3), some (.int l4), some (.int l5), none]) ⟨rfl, ⟨rfl, ⟨rfl, ⟨rfl, trivial⟩⟩⟩⟩ (e_X12_gameOf_b50 h l0 l3 l4 l5 l2 r hf)
  · replace hf := (if_pos c1).symm.trans hf
    refine v_iload_n dX12_gameOf_45 rfl ?_
    refine v_goto dX12_gameOf_46 (tgt := 50) (by decide) ?_
    exact xa_weak (loc := [some (.ref l0), none, none, some (.int l3), some (.int l4), some (.int l5), none]) ⟨rfl, ⟨rfl, ⟨rfl, ⟨rfl, trivial⟩⟩⟩⟩ (e_X12_gameOf_b50 h l0 l3 l4 l5 l1 r hf)
def f_X12_gameOf_b25 (h : xa_H) (l0 : Nat) (l1 : Int32) (l2 : Int32) (l3 : Int32) (l4 : Int32) (l5 : Int32) : Option (Int32 × xa_H) :=
  if l4 = (1 : Int32) then
    (gR [12] 33 h l0).bind fun x2 =>
    (f_X12_perhaps h l0 x2 l2).bind fun q3 =>
    f_X12_gameOf_b40 q3 l0 l1 l2 l3 l4 l5
  else
    f_X12_gameOf_b40 h l0 l1 l2 l3 l4 l5
set_option maxRecDepth 20000 in
theorem e_X12_gameOf_b25 {G : xa_G} : ∀ (h : xa_H) (l0 : Nat) (l1 : Int32) (l2 : Int32) (l3 : Int32) (l4 : Int32) (l5 : Int32) (r : (Int32 × xa_H)), f_X12_gameOf_b25 h l0 l1 l2 l3 l4 l5 = some r → xa_V G M_X12_gameOf 4 25 [some (.ref l0), some (.int l1), some (.int l2), some (.int l3), some (.int l4), some (.int l5), none] [] h (some (.int r.1)) r.2 := by
  intro h l0 l1 l2 l3 l4 l5 r hf
  unfold f_X12_gameOf_b25 at hf
  refine v_iload dX12_gameOf_25 rfl ?_
  refine v_iconst dX12_gameOf_27 (by decide) (v := 1) ?_
  refine v_icmp_ne dX12_gameOf_28 (tgt := 40) (by decide) (fun c1 => ?_) (fun c1 => ?_)
  · replace hf := (if_neg c1).symm.trans hf
    exact e_X12_gameOf_b40 h l0 l1 l2 l3 l4 l5 r hf
  · replace hf := (if_pos c1).symm.trans hf
    refine v_aload_n dX12_gameOf_31 rfl ?_
    refine v_aload_n dX12_gameOf_32 rfl ?_
    obtain ⟨x2, ex2, hf⟩ := ob hf
    refine v_getR dX12_gameOf_33 fl_12_64 ex2 ?_
    refine v_iload_n dX12_gameOf_36 rfl ?_
    obtain ⟨q3, eq3, hf⟩ := ob hf
    refine v_callV dX12_gameOf_37 ⟨cb_X12_perhaps, ml_12_492, im_X12_perhaps⟩ se_12_X12_perhaps (ckf_X12_perhaps eq3) (ev_X12_perhaps eq3) (by decide) (As := [.ref x2, .int l2]) rfl (st := []) rfl (Nat.le_of_ble_eq_true rfl) rfl ?_
    exact e_X12_gameOf_b40 q3 l0 l1 l2 l3 l4 l5 r hf
def f_X12_gameOf (h : xa_H) (l0 : Nat) (l1 : Int32) (l2 : Int32) (l3 : Int32) (l4 : Int32) (l5 : Int32) : Option (Int32 × xa_H) :=
  (ck [12] h l0).bind fun _ =>
  (gR [12] 32 h l0).bind fun x1 =>
  (gR [12] 33 h l0).bind fun x2 =>
  (f_X12_copy h x1 x2).bind fun q3 =>
  if l3 = (1 : Int32) then
    (gR [12] 33 q3 l0).bind fun x5 =>
    (f_X12_perhaps q3 l0 x5 l1).bind fun q6 =>
    f_X12_gameOf_b25 q6 l0 l1 l2 l3 l4 l5
  else
    f_X12_gameOf_b25 q3 l0 l1 l2 l3 l4 l5
set_option maxRecDepth 20000 in
theorem ev_X12_gameOf {G : xa_G} {h : xa_H} {l0 : Nat} {l1 : Int32} {l2 : Int32} {l3 : Int32} {l4 : Int32} {l5 : Int32} {r : (Int32 × xa_H)} (hf : f_X12_gameOf h l0 l1 l2 l3 l4 l5 = some r) : xa_Ev G M_X12_gameOf 4 [.ref l0, .int l1, .int l2, .int l3, .int l4, .int l5] h (some (.int r.1)) r.2 := by
  refine xa_entry (by decide +kernel) (loc := [some (.ref l0), some (.int l1), some (.int l2), some (.int l3), some (.int l4), some (.int l5), none]) rfl (Nat.le_of_ble_eq_true rfl) ?_
  unfold f_X12_gameOf at hf
  obtain ⟨u0, eu0, hf⟩ := ob hf
  refine v_aload_n dX12_gameOf_0 rfl ?_
  obtain ⟨x1, ex1, hf⟩ := ob hf
  refine v_getR dX12_gameOf_1 fl_12_61 ex1 ?_
  refine v_aload_n dX12_gameOf_4 rfl ?_
  obtain ⟨x2, ex2, hf⟩ := ob hf
  refine v_getR dX12_gameOf_5 fl_12_64 ex2 ?_
  obtain ⟨q3, eq3, hf⟩ := ob hf
  refine v_callS dX12_gameOf_8 ⟨cb_X12_copy, ml_12_428, sm_X12_copy⟩ (ev_X12_copy eq3) (by decide) (As := [.ref x1, .ref x2]) rfl (st := []) rfl (Nat.le_of_ble_eq_true rfl) rfl ?_
  refine v_iload_n dX12_gameOf_11 rfl ?_
  refine v_iconst dX12_gameOf_12 (by decide) (v := 1) ?_
  refine v_icmp_ne dX12_gameOf_13 (tgt := 25) (by decide) (fun c4 => ?_) (fun c4 => ?_)
  · replace hf := (if_neg c4).symm.trans hf
    exact e_X12_gameOf_b25 q3 l0 l1 l2 l3 l4 l5 r hf
  · replace hf := (if_pos c4).symm.trans hf
    refine v_aload_n dX12_gameOf_16 rfl ?_
    refine v_aload_n dX12_gameOf_17 rfl ?_
    obtain ⟨x5, ex5, hf⟩ := ob hf
    refine v_getR dX12_gameOf_18 fl_12_64 ex5 ?_
    refine v_iload_n dX12_gameOf_21 rfl ?_
    obtain ⟨q6, eq6, hf⟩ := ob hf
    refine v_callV dX12_gameOf_22 ⟨cb_X12_perhaps, ml_12_492, im_X12_perhaps⟩ se_12_X12_perhaps (ckf_X12_perhaps eq6) (ev_X12_perhaps eq6) (by decide) (As := [.ref x5, .int l1]) rfl (st := []) rfl (Nat.le_of_ble_eq_true rfl) rfl ?_
    exact e_X12_gameOf_b25 q6 l0 l1 l2 l3 l4 l5 r hf
theorem ckf_X12_gameOf {h : xa_H} {l0 : Nat} {l1 : Int32} {l2 : Int32} {l3 : Int32} {l4 : Int32} {l5 : Int32} {r : (Int32 × xa_H)} (hf : f_X12_gameOf h l0 l1 l2 l3 l4 l5 = some r) : ck [12] h l0 = some () := by
  obtain ⟨u, e, -⟩ := ob hf
  exact e
def M_X12_game : xa_M := (yX12_game, cX12_game, 6, some .int)
theorem cb_X12_game : xa_CB M_X12_game 5 := ⟨gws_at 1887 (by decide +kernel) rfl, gws_at 122 (by decide +kernel) rfl, by decide +kernel, Nat.le_of_ble_eq_true rfl⟩
def f_X12_game (h : xa_H) (l0 : Nat) (l1 : Int32) (l2 : Int32) (l3 : Int32) (l4 : Int32) (l5 : Int32) : Option (Int32 × xa_H) :=
  (ck [12] h l0).bind fun _ =>
  (xp [12] 0 h l0 (.int (0 : Int32))).bind fun h1 =>
  (f_X12_canPlay h1 l0 l1 l2).bind fun q2 =>
  if q2 = 0 then
    some ((-1000000 : Int32), h1)
  else
    (f_X12_isIn h1 l3.toInt64 (0 : Int64) (1 : Int64)).bind fun q4 =>
    if q4 = 0 then
      some ((-1000000 : Int32), h1)
    else
      (f_X12_isIn h1 l4.toInt64 (0 : Int64) (1 : Int64)).bind fun q6 =>
      if q6 = 0 then
        some ((-1000000 : Int32), h1)
      else
        (f_X12_isIn h1 l5.toInt64 (0 : Int64) (1 : Int64)).bind fun q8 =>
        if q8 = 0 then
          some ((-1000000 : Int32), h1)
        else
          (f_X12_gameOf h1 l0 l1 l2 l3 l4 l5).bind fun q10 =>
          some (q10.1, q10.2)
set_option maxRecDepth 20000 in
theorem ev_X12_game {G : xa_G} {h : xa_H} {l0 : Nat} {l1 : Int32} {l2 : Int32} {l3 : Int32} {l4 : Int32} {l5 : Int32} {r : (Int32 × xa_H)} (hf : f_X12_game h l0 l1 l2 l3 l4 l5 = some r) : xa_Ev G M_X12_game 5 [.ref l0, .int l1, .int l2, .int l3, .int l4, .int l5] h (some (.int r.1)) r.2 := by
  refine xa_entry (by decide +kernel) (loc := [some (.ref l0), some (.int l1), some (.int l2), some (.int l3), some (.int l4), some (.int l5)]) rfl (Nat.le_of_ble_eq_true rfl) ?_
  unfold f_X12_game at hf
  obtain ⟨u0, eu0, hf⟩ := ob hf
  refine v_aload_n dX12_game_0 rfl ?_
  refine v_iconst dX12_game_1 (by decide) (v := 0) ?_
  obtain ⟨h1, eh1, hf⟩ := ob hf
  refine v_put dX12_game_2 fp_12_111 (fun z => by cases z) (fun _ => rfl) (fun _ => rfl) eh1 ?_
  refine v_aload_n dX12_game_5 rfl ?_
  refine v_iload_n dX12_game_6 rfl ?_
  refine v_iload_n dX12_game_7 rfl ?_
  obtain ⟨q2, eq2, hf⟩ := ob hf
  refine v_callV dX12_game_8 ⟨cb_X12_canPlay, ml_12_495, im_X12_canPlay⟩ se_12_X12_canPlay (ckf_X12_canPlay eq2) (ev_X12_canPlay eq2) (by decide) (As := [.int l1, .int l2]) rfl (st := []) rfl (Nat.le_of_ble_eq_true rfl) rfl ?_
  refine v_if_eq dX12_game_11 (tgt := 60) (by decide) (fun c3 => ?_) (fun c3 => ?_)
  · replace hf := (if_pos c3).symm.trans hf
    refine v_ldcw dX12_game_60 rfl co_12_380 ?_
    replace hf := Option.some.inj hf
    subst hf
    exact v_iret dX12_game_63 rfl
  · replace hf := (if_neg c3).symm.trans hf
    refine v_iload_n dX12_game_14 rfl ?_
    refine v_i2l dX12_game_15 ?_
    refine v_lconst dX12_game_16 (by decide) (v := 0) ?_
    refine v_lconst dX12_game_17 (by decide) (v := 1) ?_
    obtain ⟨q4, eq4, hf⟩ := ob hf
    refine v_callS dX12_game_18 ⟨cb_X12_isIn, ml_12_232, sm_X12_isIn⟩ (ev_X12_isIn eq4) (by decide) (As := [.long l3.toInt64, .long (0 : Int64), .long (1 : Int64)]) rfl (st := []) rfl (Nat.le_of_ble_eq_true rfl) rfl ?_
    refine v_if_eq dX12_game_21 (tgt := 60) (by decide) (fun c5 => ?_) (fun c5 => ?_)
    · replace hf := (if_pos c5).symm.trans hf
      refine v_ldcw dX12_game_60 rfl co_12_380 ?_
      replace hf := Option.some.inj hf
      subst hf
      exact v_iret dX12_game_63 rfl
    · replace hf := (if_neg c5).symm.trans hf
      refine v_iload dX12_game_24 rfl ?_
      refine v_i2l dX12_game_26 ?_
      refine v_lconst dX12_game_27 (by decide) (v := 0) ?_
      refine v_lconst dX12_game_28 (by decide) (v := 1) ?_
      obtain ⟨q6, eq6, hf⟩ := ob hf
      refine v_callS dX12_game_29 ⟨cb_X12_isIn, ml_12_232, sm_X12_isIn⟩ (ev_X12_isIn eq6) (by decide) (As := [.long l4.toInt64, .long (0 : Int64), .long (1 : Int64)]) rfl (st := []) rfl (Nat.le_of_ble_eq_true rfl) rfl ?_
      refine v_if_eq dX12_game_32 (tgt := 60) (by decide) (fun c7 => ?_) (fun c7 => ?_)
      · replace hf := (if_pos c7).symm.trans hf
        refine v_ldcw dX12_game_60 rfl co_12_380 ?_
        replace hf := Option.some.inj hf
        subst hf
        exact v_iret dX12_game_63 rfl
      · replace hf := (if_neg c7).symm.trans hf
        refine v_iload dX12_game_35 rfl ?_
        refine v_i2l dX12_game_37 ?_
        refine v_lconst dX12_game_38 (by decide) (v := 0) ?_
        refine v_lconst dX12_game_39 (by decide) (v := 1) ?_
        obtain ⟨q8, eq8, hf⟩ := ob hf
        refine v_callS dX12_game_40 ⟨cb_X12_isIn, ml_12_232, sm_X12_isIn⟩ (ev_X12_isIn eq8) (by decide) (As := [.long l5.toInt64, .long (0 : Int64), .long (1 : Int64)]) rfl (st := []) rfl (Nat.le_of_ble_eq_true rfl) rfl ?_
        refine v_if_eq dX12_game_43 (tgt := 60) (by decide) (fun c9 => ?_) (fun c9 => ?_)
        · replace hf := (if_pos c9).symm.trans hf
          refine v_ldcw dX12_game_60 rfl co_12_380 ?_
          replace hf := Option.some.inj hf
          subst hf
          exact v_iret dX12_game_63 rfl
        · replace hf := (if_neg c9).symm.trans hf
          refine v_aload_n dX12_game_46 rfl ?_
          refine v_iload_n dX12_game_47 rfl ?_
          refine v_iload_n dX12_game_48 rfl ?_
          refine v_iload_n dX12_game_49 rfl ?_
          refine v_iload dX12_game_50 rfl ?_
          refine v_iload dX12_game_52 rfl ?_
          obtain ⟨q10, eq10, hf⟩ := ob hf
          refine v_callV dX12_game_54 ⟨cb_X12_gameOf, ml_12_498, im_X12_gameOf⟩ se_12_X12_gameOf (ckf_X12_gameOf eq10) (ev_X12_gameOf eq10) (by decide) (As := [.int l1, .int l2, .int l3, .int l4, .int l5]) rfl (st := []) rfl (Nat.le_of_ble_eq_true rfl) rfl ?_
          refine v_goto dX12_game_57 (tgt := 63) (by decide) ?_
          replace hf := Option.some.inj hf
          subst hf
          exact v_iret dX12_game_63 rfl
theorem ckf_X12_game {h : xa_H} {l0 : Nat} {l1 : Int32} {l2 : Int32} {l3 : Int32} {l4 : Int32} {l5 : Int32} {r : (Int32 × xa_H)} (hf : f_X12_game h l0 l1 l2 l3 l4 l5 = some r) : ck [12] h l0 = some () := by
  obtain ⟨u, e, -⟩ := ob hf
  exact e
def M_X12_give : xa_M := (yX12_give, cX12_give, 2, some .int)
theorem cb_X12_give : xa_CB M_X12_give 1 := ⟨gws_at 1763 (by decide +kernel) rfl, gws_at 122 (by decide +kernel) rfl, by decide +kernel, Nat.le_of_ble_eq_true rfl⟩
def f_X12_give (h : xa_H) (l0 : Nat) (l1 : Int32) : Option (Int32 × xa_H) :=
  (ck [12] h l0).bind fun _ =>
  (xp [12] 0 h l0 (.int (0 : Int32))).bind fun h1 =>
  (gI [12] 26 h1 l0).bind fun x2 =>
  if x2 = 0 then
    (f_X12_refused h1 l0 (0 : Int32) (-1 : Int32)).bind fun q17 =>
    some (q17.1, q17.2)
  else
    (f_X12_isIn h1 l1.toInt64 (1 : Int64) (50 : Int64)).bind fun q4 =>
    if q4 = 0 then
      (f_X12_refused h1 l0 (1 : Int32) (-1 : Int32)).bind fun q16 =>
      some (q16.1, q16.2)
    else
      (gR [12] 32 h1 l0).bind fun x6 =>
      (aI h1 x6 (49 : Int32)).bind fun x7 =>
      if (x7 + l1) ≤ (999 : Int32) then
        (f_X12_remember h1 l0).bind fun q9 =>
        (gR [12] 32 q9 l0).bind fun x10 =>
        (aI q9 x10 (49 : Int32)).bind fun x11 =>
        (pI q9 x10 (49 : Int32) (x11 + l1)).bind fun h12 =>
        (gR [12] 32 h12 l0).bind fun x13 =>
        (aI h12 x13 (49 : Int32)).bind fun x14 =>
        some (x14, h12)
      else
        (f_X12_refused h1 l0 (3 : Int32) (-1 : Int32)).bind fun q15 =>
        some (q15.1, q15.2)
set_option maxRecDepth 20000 in
theorem ev_X12_give {G : xa_G} {h : xa_H} {l0 : Nat} {l1 : Int32} {r : (Int32 × xa_H)} (hf : f_X12_give h l0 l1 = some r) : xa_Ev G M_X12_give 1 [.ref l0, .int l1] h (some (.int r.1)) r.2 := by
  refine xa_entry (by decide +kernel) (loc := [some (.ref l0), some (.int l1)]) rfl (Nat.le_of_ble_eq_true rfl) ?_
  unfold f_X12_give at hf
  obtain ⟨u0, eu0, hf⟩ := ob hf
  refine v_aload_n dX12_give_0 rfl ?_
  refine v_iconst dX12_give_1 (by decide) (v := 0) ?_
  obtain ⟨h1, eh1, hf⟩ := ob hf
  refine v_put dX12_give_2 fp_12_111 (fun z => by cases z) (fun _ => rfl) (fun _ => rfl) eh1 ?_
  refine v_aload_n dX12_give_5 rfl ?_
  obtain ⟨x2, ex2, hf⟩ := ob hf
  refine v_getI dX12_give_6 fl_12_307 ex2 ?_
  refine v_if_ne dX12_give_9 (tgt := 19) (by decide) (fun c3 => ?_) (fun c3 => ?_)
  · replace hf := (if_neg c3).symm.trans hf
    refine v_iload_n dX12_give_19 rfl ?_
    refine v_i2l dX12_give_20 ?_
    refine v_lconst dX12_give_21 (by decide) (v := 1) ?_
    refine v_ldc2 dX12_give_22 rfl col_12_411 ?_
    obtain ⟨q4, eq4, hf⟩ := ob hf
    refine v_callS dX12_give_25 ⟨cb_X12_isIn, ml_12_232, sm_X12_isIn⟩ (ev_X12_isIn eq4) (by decide) (As := [.long l1.toInt64, .long (1 : Int64), .long (50 : Int64)]) rfl (st := []) rfl (Nat.le_of_ble_eq_true rfl) rfl ?_
    refine v_if_ne dX12_give_28 (tgt := 38) (by decide) (fun c5 => ?_) (fun c5 => ?_)
    · replace hf := (if_neg c5).symm.trans hf
      refine v_aload_n dX12_give_38 rfl ?_
      obtain ⟨x6, ex6, hf⟩ := ob hf
      refine v_getR dX12_give_39 fl_12_61 ex6 ?_
      refine v_bipush dX12_give_42 (by decide) (v := 49) ?_
      obtain ⟨x7, ex7, hf⟩ := ob hf
      refine v_ialoadI dX12_give_44 ex7 ?_
      refine v_iload_n dX12_give_45 rfl ?_
      refine v_iadd dX12_give_46 ?_
      refine v_sipush dX12_give_47 (by decide) (v := 999) ?_
      refine v_icmp_le dX12_give_50 (tgt := 60) (by decide) (fun c8 => ?_) (fun c8 => ?_)
      · replace hf := (if_pos c8).symm.trans hf
        refine v_aload_n dX12_give_60 rfl ?_
        obtain ⟨q9, eq9, hf⟩ := ob hf
        refine v_callV dX12_give_61 ⟨cb_X12_remember, ml_12_388, im_X12_remember⟩ se_12_X12_remember (ckf_X12_remember eq9) (ev_X12_remember eq9) (by decide) (As := []) rfl (st := []) rfl (Nat.le_of_ble_eq_true rfl) rfl ?_
        refine v_aload_n dX12_give_64 rfl ?_
        obtain ⟨x10, ex10, hf⟩ := ob hf
        refine v_getR dX12_give_65 fl_12_61 ex10 ?_
        refine v_bipush dX12_give_68 (by decide) (v := 49) ?_
        refine v_dup2 dX12_give_70 rfl rfl ?_
        obtain ⟨x11, ex11, hf⟩ := ob hf
        refine v_ialoadI dX12_give_71 ex11 ?_
        refine v_iload_n dX12_give_72 rfl ?_
        refine v_iadd dX12_give_73 ?_
        obtain ⟨h12, eh12, hf⟩ := ob hf
        refine v_iastoreI dX12_give_74 eh12 ?_
        refine v_aload_n dX12_give_75 rfl ?_
        obtain ⟨x13, ex13, hf⟩ := ob hf
        refine v_getR dX12_give_76 fl_12_61 ex13 ?_
        refine v_bipush dX12_give_79 (by decide) (v := 49) ?_
        obtain ⟨x14, ex14, hf⟩ := ob hf
        refine v_ialoadI dX12_give_81 ex14 ?_
        replace hf := Option.some.inj hf
        subst hf
        exact v_iret dX12_give_82 rfl
      · replace hf := (if_neg c8).symm.trans hf
        refine v_aload_n dX12_give_53 rfl ?_
        refine v_iconst dX12_give_54 (by decide) (v := 3) ?_
        refine v_iconst dX12_give_55 (by decide) (v := -1) ?_
        obtain ⟨q15, eq15, hf⟩ := ob hf
        refine v_callV dX12_give_56 ⟨cb_X12_refused, ml_12_397, im_X12_refused⟩ se_12_X12_refused (ckf_X12_refused eq15) (ev_X12_refused eq15) (by decide) (As := [.int (3 : Int32), .int (-1 : Int32)]) rfl (st := []) rfl (Nat.le_of_ble_eq_true rfl) rfl ?_
        replace hf := Option.some.inj hf
        subst hf
        exact v_iret dX12_give_59 rfl
    · replace hf := (if_pos c5).symm.trans hf
      refine v_aload_n dX12_give_31 rfl ?_
      refine v_iconst dX12_give_32 (by decide) (v := 1) ?_
      refine v_iconst dX12_give_33 (by decide) (v := -1) ?_
      obtain ⟨q16, eq16, hf⟩ := ob hf
      refine v_callV dX12_give_34 ⟨cb_X12_refused, ml_12_397, im_X12_refused⟩ se_12_X12_refused (ckf_X12_refused eq16) (ev_X12_refused eq16) (by decide) (As := [.int (1 : Int32), .int (-1 : Int32)]) rfl (st := []) rfl (Nat.le_of_ble_eq_true rfl) rfl ?_
      replace hf := Option.some.inj hf
      subst hf
      exact v_iret dX12_give_37 rfl
  · replace hf := (if_pos c3).symm.trans hf
    refine v_aload_n dX12_give_12 rfl ?_
    refine v_iconst dX12_give_13 (by decide) (v := 0) ?_
    refine v_iconst dX12_give_14 (by decide) (v := -1) ?_
    obtain ⟨q17, eq17, hf⟩ := ob hf
    refine v_callV dX12_give_15 ⟨cb_X12_refused, ml_12_397, im_X12_refused⟩ se_12_X12_refused (ckf_X12_refused eq17) (ev_X12_refused eq17) (by decide) (As := [.int (0 : Int32), .int (-1 : Int32)]) rfl (st := []) rfl (Nat.le_of_ble_eq_true rfl) rfl ?_
    replace hf := Option.some.inj hf
    subst hf
    exact v_iret dX12_give_18 rfl
theorem ckf_X12_give {h : xa_H} {l0 : Nat} {l1 : Int32} {r : (Int32 × xa_H)} (hf : f_X12_give h l0 l1 = some r) : ck [12] h l0 = some () := by
  obtain ⟨u, e, -⟩ := ob hf
  exact e
def M_X12_gives : xa_M := (yX12_gives, cX12_gives, 5, some .int)
theorem cb_X12_gives : xa_CB M_X12_gives 3 := ⟨gws_at 1748 (by decide +kernel) rfl, gws_at 122 (by decide +kernel) rfl, by decide +kernel, Nat.le_of_ble_eq_true rfl⟩
def f_X12_gives_b47 (h : xa_H) (l0 : Nat) : Option (Int32 × xa_H) :=
  (f_X12_refused h l0 (1 : Int32) (-1000000 : Int32)).bind fun q1 =>
  some (q1.1, q1.2)
set_option maxRecDepth 20000 in
theorem e_X12_gives_b47 {G : xa_G} : ∀ (h : xa_H) (l0 : Nat) (r : (Int32 × xa_H)), f_X12_gives_b47 h l0 = some r → xa_V G M_X12_gives 1 47 [some (.ref l0), none, none, none, none] [] h (some (.int r.1)) r.2 := by
  intro h l0 r hf
  unfold f_X12_gives_b47 at hf
  refine v_aload_n dX12_gives_47 rfl ?_
  refine v_iconst dX12_gives_48 (by decide) (v := 1) ?_
  refine v_ldcw dX12_gives_49 rfl co_12_380 ?_
  obtain ⟨q1, eq1, hf⟩ := ob hf
  refine v_callV dX12_gives_52 ⟨cb_X12_refused, ml_12_397, im_X12_refused⟩ se_12_X12_refused (ckf_X12_refused eq1) (ev_X12_refused eq1) (by decide) (As := [.int (1 : Int32), .int (-1000000 : Int32)]) rfl (st := []) rfl (Nat.le_of_ble_eq_true rfl) rfl ?_
  replace hf := Option.some.inj hf
  subst hf
  exact v_iret dX12_gives_55 rfl
def f_X12_gives_b21 (h : xa_H) (l0 : Nat) : Option (Int32 × xa_H) :=
  (f_X12_refused h l0 (0 : Int32) (-1000000 : Int32)).bind fun q1 =>
  some (q1.1, q1.2)
set_option maxRecDepth 20000 in
theorem e_X12_gives_b21 {G : xa_G} : ∀ (h : xa_H) (l0 : Nat) (r : (Int32 × xa_H)), f_X12_gives_b21 h l0 = some r → xa_V G M_X12_gives 1 21 [some (.ref l0), none, none, none, none] [] h (some (.int r.1)) r.2 := by
  intro h l0 r hf
  unfold f_X12_gives_b21 at hf
  refine v_aload_n dX12_gives_21 rfl ?_
  refine v_iconst dX12_gives_22 (by decide) (v := 0) ?_
  refine v_ldcw dX12_gives_23 rfl co_12_380 ?_
  obtain ⟨q1, eq1, hf⟩ := ob hf
  refine v_callV dX12_gives_26 ⟨cb_X12_refused, ml_12_397, im_X12_refused⟩ se_12_X12_refused (ckf_X12_refused eq1) (ev_X12_refused eq1) (by decide) (As := [.int (0 : Int32), .int (-1000000 : Int32)]) rfl (st := []) rfl (Nat.le_of_ble_eq_true rfl) rfl ?_
  replace hf := Option.some.inj hf
  subst hf
  exact v_iret dX12_gives_29 rfl
def f_X12_gives (h : xa_H) (l0 : Nat) (l1 : Int32) (l2 : Int32) (l3 : Int32) : Option (Int32 × xa_H) :=
  (ck [12] h l0).bind fun _ =>
  (xp [12] 0 h l0 (.int (0 : Int32))).bind fun h1 =>
  (f_X12_isHouse h1 l0 l1).bind fun q2 =>
  if q2 = 0 then
    f_X12_gives_b21 h1 l0
  else
    (f_X12_isHouse h1 l0 l2).bind fun q4 =>
    if q4 = 0 then
      f_X12_gives_b21 h1 l0
    else
      if l1 = l2 then
        f_X12_gives_b47 h1 l0
      else
        (f_X12_isIn h1 l3.toInt64 (1 : Int64) (9 : Int64)).bind fun q7 =>
        if q7 = 0 then
          f_X12_gives_b47 h1 l0
        else
          (gR [12] 32 h1 l0).bind fun x9 =>
          (aI h1 x9 (((6 : Int32) * l1) + l2)).bind fun x10 =>
          (gR [12] 18 h1 l0).bind fun x11 =>
          (aI h1 x11 (1 : Int32)).bind fun x12 =>
          if (x10 + l3) ≤ x12 then
            (f_X12_remember h1 l0).bind fun q14 =>
            (gR [12] 32 q14 l0).bind fun x15 =>
            (pI q14 x15 (((6 : Int32) * l1) + l2) (x10 + l3)).bind fun h16 =>
            (gR [12] 32 h16 l0).bind fun x17 =>
            (pI h16 x17 (((6 : Int32) * l2) + l1) (-(x10 + l3))).bind fun h18 =>
            some ((x10 + l3), h18)
          else
            (f_X12_refused h1 l0 (3 : Int32) (-1000000 : Int32)).bind fun q19 =>
            some (q19.1, q19.2)
set_option maxRecDepth 20000 in
theorem ev_X12_gives {G : xa_G} {h : xa_H} {l0 : Nat} {l1 : Int32} {l2 : Int32} {l3 : Int32} {r : (Int32 × xa_H)} (hf : f_X12_gives h l0 l1 l2 l3 = some r) : xa_Ev G M_X12_gives 1 [.ref l0, .int l1, .int l2, .int l3] h (some (.int r.1)) r.2 := by
  refine xa_entry (by decide +kernel) (loc := [some (.ref l0), some (.int l1), some (.int l2), some (.int l3), none]) rfl (Nat.le_of_ble_eq_true rfl) ?_
  unfold f_X12_gives at hf
  obtain ⟨u0, eu0, hf⟩ := ob hf
  refine v_aload_n dX12_gives_0 rfl ?_
  refine v_iconst dX12_gives_1 (by decide) (v := 0) ?_
  obtain ⟨h1, eh1, hf⟩ := ob hf
  refine v_put dX12_gives_2 fp_12_111 (fun z => by cases z) (fun _ => rfl) (fun _ => rfl) eh1 ?_
  refine v_aload_n dX12_gives_5 rfl ?_
  refine v_iload_n dX12_gives_6 rfl ?_
  obtain ⟨q2, eq2, hf⟩ := ob hf
  refine v_callV dX12_gives_7 ⟨cb_X12_isHouse, ml_12_335, im_X12_isHouse⟩ se_12_X12_isHouse (ckf_X12_isHouse eq2) (ev_X12_isHouse eq2) (by decide) (As := [.int l1]) rfl (st := []) rfl (Nat.le_of_ble_eq_true rfl) rfl ?_
  refine v_if_eq dX12_gives_10 (tgt := 21) (by decide) (fun c3 => ?_) (fun c3 => ?_)
  · replace hf := (if_pos c3).symm.trans hf
    exact xa_weak (loc := [some (.ref l0), none, none, none, none]) ⟨rfl, trivial⟩ (e_X12_gives_b21 h1 l0 r hf)
  · replace hf := (if_neg c3).symm.trans hf
    refine v_aload_n dX12_gives_13 rfl ?_
    refine v_iload_n dX12_gives_14 rfl ?_
    obtain ⟨q4, eq4, hf⟩ := ob hf
    refine v_callV dX12_gives_15 ⟨cb_X12_isHouse, ml_12_335, im_X12_isHouse⟩ se_12_X12_isHouse (ckf_X12_isHouse eq4) (ev_X12_isHouse eq4) (by decide) (As := [.int l2]) rfl (st := []) rfl (Nat.le_of_ble_eq_true rfl) rfl ?_
    refine v_if_ne dX12_gives_18 (tgt := 30) (by decide) (fun c5 => ?_) (fun c5 => ?_)
    · replace hf := (if_neg c5).symm.trans hf
      refine v_iload_n dX12_gives_30 rfl ?_
      refine v_iload_n dX12_gives_31 rfl ?_
      refine v_icmp_eq dX12_gives_32 (tgt := 47) (by decide) (fun c6 => ?_) (fun c6 => ?_)
      · replace hf := (if_pos c6).symm.trans hf
        exact xa_weak (loc := [some (.ref l0), none, none, none, none]) ⟨rfl, trivial⟩ (e_X12_gives_b47 h1 l0 r hf)
      · replace hf := (if_neg c6).symm.trans hf
        refine v_iload_n dX12_gives_35 rfl ?_
        refine v_i2l dX12_gives_36 ?_
        refine v_lconst dX12_gives_37 (by decide) (v := 1) ?_
        refine v_ldc2 dX12_gives_38 rfl col_12_386 ?_
        obtain ⟨q7, eq7, hf⟩ := ob hf
        refine v_callS dX12_gives_41 ⟨cb_X12_isIn, ml_12_232, sm_X12_isIn⟩ (ev_X12_isIn eq7) (by decide) (As := [.long l3.toInt64, .long (1 : Int64), .long (9 : Int64)]) rfl (st := []) rfl (Nat.le_of_ble_eq_true rfl) rfl ?_
        refine v_if_ne dX12_gives_44 (tgt := 56) (by decide) (fun c8 => ?_) (fun c8 => ?_)
        · replace hf := (if_neg c8).symm.trans hf
          refine v_aload_n dX12_gives_56 rfl ?_
          obtain ⟨x9, ex9, hf⟩ := ob hf
          refine v_getR dX12_gives_57 fl_12_61 ex9 ?_
          refine v_bipush dX12_gives_60 (by decide) (v := 6) ?_
          refine v_iload_n dX12_gives_62 rfl ?_
          refine v_imul dX12_gives_63 ?_
          refine v_iload_n dX12_gives_64 rfl ?_
          refine v_iadd dX12_gives_65 ?_
          obtain ⟨x10, ex10, hf⟩ := ob hf
          refine v_ialoadI dX12_gives_66 ex10 ?_
          refine v_iload_n dX12_gives_67 rfl ?_
          refine v_iadd dX12_gives_68 ?_
          refine v_istore dX12_gives_69 (Nat.le_of_ble_eq_true rfl) (loc' := [some (.ref l0), some (.int l1), some (.int l2), some (.int l3), some (.int (x10 + l3))]) rfl ?_
          refine v_iload dX12_gives_71 rfl ?_
          refine v_aload_n dX12_gives_73 rfl ?_
          obtain ⟨x11, ex11, hf⟩ := ob hf
          refine v_getR dX12_gives_74 fl_12_37 ex11 ?_
          refine v_iconst dX12_gives_77 (by decide) (v := 1) ?_
          obtain ⟨x12, ex12, hf⟩ := ob hf
          refine v_ialoadI dX12_gives_78 ex12 ?_
          refine v_icmp_le dX12_gives_79 (tgt := 91) (by decide) (fun c13 => ?_) (fun c13 => ?_)
          · replace hf := (if_pos c13).symm.trans hf
            refine v_aload_n dX12_gives_91 rfl ?_
            obtain ⟨q14, eq14, hf⟩ := ob hf
            refine v_callV dX12_gives_92 ⟨cb_X12_remember, ml_12_388, im_X12_remember⟩ se_12_X12_remember (ckf_X12_remember eq14) (ev_X12_remember eq14) (by decide) (As := []) rfl (st := []) rfl (Nat.le_of_ble_eq_true rfl) rfl ?_
            refine v_aload_n dX12_gives_95 rfl ?_
            obtain ⟨x15, ex15, hf⟩ := ob hf
            refine v_getR dX12_gives_96 fl_12_61 ex15 ?_
            refine v_bipush dX12_gives_99 (by decide) (v := 6) ?_
            refine v_iload_n dX12_gives_101 rfl ?_
            refine v_imul dX12_gives_102 ?_
            refine v_iload_n dX12_gives_103 rfl ?_
            refine v_iadd dX12_gives_104 ?_
            refine v_iload dX12_gives_105 rfl ?_
            obtain ⟨h16, eh16, hf⟩ := ob hf
            refine v_iastoreI dX12_gives_107 eh16 ?_
            refine v_aload_n dX12_gives_108 rfl ?_
            obtain ⟨x17, ex17, hf⟩ := ob hf
            refine v_getR dX12_gives_109 fl_12_61 ex17 ?_
            refine v_bipush dX12_gives_112 (by decide) (v := 6) ?_
            refine v_iload_n dX12_gives_114 rfl ?_
            refine v_imul dX12_gives_115 ?_
            refine v_iload_n dX12_gives_116 rfl ?_
            refine v_iadd dX12_gives_117 ?_
            refine v_iload dX12_gives_118 rfl ?_
            refine v_ineg dX12_gives_120 ?_
            obtain ⟨h18, eh18, hf⟩ := ob hf
            refine v_iastoreI dX12_gives_121 eh18 ?_
            refine v_iload dX12_gives_122 rfl ?_
            replace hf := Option.some.inj hf
            subst hf
            exact v_iret dX12_gives_124 rfl
          · replace hf := (if_neg c13).symm.trans hf
            refine v_aload_n dX12_gives_82 rfl ?_
            refine v_iconst dX12_gives_83 (by decide) (v := 3) ?_
            refine v_ldcw dX12_gives_84 rfl co_12_380 ?_
            obtain ⟨q19, eq19, hf⟩ := ob hf
            refine v_callV dX12_gives_87 ⟨cb_X12_refused, ml_12_397, im_X12_refused⟩ se_12_X12_refused (ckf_X12_refused eq19) (ev_X12_refused eq19) (by decide) (As := [.int (3 : Int32), .int (-1000000 : Int32)]) rfl (st := []) rfl (Nat.le_of_ble_eq_true rfl) rfl ?_
            replace hf := Option.some.inj hf
            subst hf
            exact v_iret dX12_gives_90 rfl
        · replace hf := (if_pos c8).symm.trans hf
          exact xa_weak (loc := [some (.ref l0), none, none, none, none]) ⟨rfl, trivial⟩ (e_X12_gives_b47 h1 l0 r hf)
    · replace hf := (if_pos c5).symm.trans hf
      exact xa_weak (loc := [some (.ref l0), none, none, none, none]) ⟨rfl, trivial⟩ (e_X12_gives_b21 h1 l0 r hf)
theorem ckf_X12_gives {h : xa_H} {l0 : Nat} {l1 : Int32} {l2 : Int32} {l3 : Int32} {r : (Int32 × xa_H)} (hf : f_X12_gives h l0 l1 l2 l3 = some r) : ck [12] h l0 = some () := by
  obtain ⟨u, e, -⟩ := ob hf
  exact e
def M_X12_grace : xa_M := (yX12_grace, cX12_grace, 2, some .boolean)
theorem cb_X12_grace : xa_CB M_X12_grace 1 := ⟨gws_at 1675 (by decide +kernel) rfl, gws_at 122 (by decide +kernel) rfl, by decide +kernel, Nat.le_of_ble_eq_true rfl⟩
def f_X12_grace (h : xa_H) (l0 : Nat) (l1 : Int32) : Option (Int32 × xa_H) :=
  (ck [12] h l0).bind fun _ =>
  (xp [12] 0 h l0 (.int (0 : Int32))).bind fun h1 =>
  (f_X12_isIn h1 l1.toInt64 (0 : Int64) (9 : Int64)).bind fun q2 =>
  if q2 = 0 then
    some ((0 : Int32), h1)
  else
    (gI [12] 36 h1 l0).bind fun x4 =>
    if l1 = x4 then
      some ((0 : Int32), h1)
    else
      (xp [12] 36 h1 l0 (.int l1)).bind fun h6 =>
      some ((1 : Int32), h6)
set_option maxRecDepth 20000 in
theorem ev_X12_grace {G : xa_G} {h : xa_H} {l0 : Nat} {l1 : Int32} {r : (Int32 × xa_H)} (hf : f_X12_grace h l0 l1 = some r) : xa_Ev G M_X12_grace 1 [.ref l0, .int l1] h (some (.int r.1)) r.2 := by
  refine xa_entry (by decide +kernel) (loc := [some (.ref l0), some (.int l1)]) rfl (Nat.le_of_ble_eq_true rfl) ?_
  unfold f_X12_grace at hf
  obtain ⟨u0, eu0, hf⟩ := ob hf
  refine v_aload_n dX12_grace_0 rfl ?_
  refine v_iconst dX12_grace_1 (by decide) (v := 0) ?_
  obtain ⟨h1, eh1, hf⟩ := ob hf
  refine v_put dX12_grace_2 fp_12_111 (fun z => by cases z) (fun _ => rfl) (fun _ => rfl) eh1 ?_
  refine v_iload_n dX12_grace_5 rfl ?_
  refine v_i2l dX12_grace_6 ?_
  refine v_lconst dX12_grace_7 (by decide) (v := 0) ?_
  refine v_ldc2 dX12_grace_8 rfl col_12_386 ?_
  obtain ⟨q2, eq2, hf⟩ := ob hf
  refine v_callS dX12_grace_11 ⟨cb_X12_isIn, ml_12_232, sm_X12_isIn⟩ (ev_X12_isIn eq2) (by decide) (As := [.long l1.toInt64, .long (0 : Int64), .long (9 : Int64)]) rfl (st := []) rfl (Nat.le_of_ble_eq_true rfl) rfl ?_
  refine v_if_eq dX12_grace_14 (tgt := 25) (by decide) (fun c3 => ?_) (fun c3 => ?_)
  · replace hf := (if_pos c3).symm.trans hf
    refine v_iconst dX12_grace_25 (by decide) (v := 0) ?_
    replace hf := Option.some.inj hf
    subst hf
    exact v_zret dX12_grace_26 rfl (by decide)
  · replace hf := (if_neg c3).symm.trans hf
    refine v_iload_n dX12_grace_17 rfl ?_
    refine v_aload_n dX12_grace_18 rfl ?_
    obtain ⟨x4, ex4, hf⟩ := ob hf
    refine v_getI dX12_grace_19 fl_12_74 ex4 ?_
    refine v_icmp_ne dX12_grace_22 (tgt := 27) (by decide) (fun c5 => ?_) (fun c5 => ?_)
    · replace hf := (if_neg c5).symm.trans hf
      refine v_aload_n dX12_grace_27 rfl ?_
      refine v_iload_n dX12_grace_28 rfl ?_
      obtain ⟨h6, eh6, hf⟩ := ob hf
      refine v_put dX12_grace_29 fp_12_74 (fun z => by cases z) (fun _ => rfl) (fun _ => rfl) eh6 ?_
      refine v_iconst dX12_grace_32 (by decide) (v := 1) ?_
      replace hf := Option.some.inj hf
      subst hf
      exact v_zret dX12_grace_33 rfl (by decide)
    · replace hf := (if_pos c5).symm.trans hf
      refine v_iconst dX12_grace_25 (by decide) (v := 0) ?_
      replace hf := Option.some.inj hf
      subst hf
      exact v_zret dX12_grace_26 rfl (by decide)
theorem ckf_X12_grace {h : xa_H} {l0 : Nat} {l1 : Int32} {r : (Int32 × xa_H)} (hf : f_X12_grace h l0 l1 = some r) : ck [12] h l0 = some () := by
  obtain ⟨u, e, -⟩ := ob hf
  exact e
def M_X12_house : xa_M := (yX12_house, cX12_house, 3, some .int)
theorem cb_X12_house : xa_CB M_X12_house 2 := ⟨gws_at 1634 (by decide +kernel) rfl, gws_at 122 (by decide +kernel) rfl, by decide +kernel, Nat.le_of_ble_eq_true rfl⟩
def f_X12_house_b26 (h : xa_H) (l0 : Nat) (l1 : Int32) (l2 : Int32) (s0 : Int32) (s1 : Nat) : Option (Int32 × xa_H) :=
  (xp [12] 0 h s1 (.int s0)).bind fun h1 =>
  (gI [12] 0 h1 l0).bind fun x2 =>
  if x2 ≤ 0 then
    if l2 = (0 : Int32) then
      (gR [12] 32 h1 l0).bind fun x5 =>
      (aI h1 x5 ((36 : Int32) + l1)).bind fun x6 =>
      some (x6, h1)
    else if l2 = (1 : Int32) then
      (gR [12] 20 h1 l0).bind fun x8 =>
      (aI h1 x8 (((3 : Int32) * l1) + (1 : Int32))).bind fun x9 =>
      some (x9, h1)
    else if l2 = (2 : Int32) then
      (gR [12] 32 h1 l0).bind fun x11 =>
      (aI h1 x11 (48 : Int32)).bind fun x12 =>
      some (((shr x12 l1) &&& (1 : Int32)), h1)
    else if l2 = (3 : Int32) then
      (gR [12] 32 h1 l0).bind fun x14 =>
      (aI h1 x14 ((42 : Int32) + l1)).bind fun x15 =>
      some (x15, h1)
    else if l2 = (4 : Int32) then
      (gR [12] 32 h1 l0).bind fun x17 =>
      (f_X12_in h1 l0 x17 l1).bind fun q18 =>
      some (q18, h1)
    else if l2 = (5 : Int32) then
      (gR [12] 32 h1 l0).bind fun x20 =>
      (f_X12_out h1 l0 x20 l1).bind fun q21 =>
      some (q21, h1)
    else 
      (f_X12_cost h1 l0 l1).bind fun q22 =>
      some (q22.1, q22.2)
  else
    some ((0 : Int32), h1)
set_option maxRecDepth 20000 in
theorem e_X12_house_b26 {G : xa_G} : ∀ (h : xa_H) (l0 : Nat) (l1 : Int32) (l2 : Int32) (s0 : Int32) (s1 : Nat) (r : (Int32 × xa_H)), f_X12_house_b26 h l0 l1 l2 s0 s1 = some r → xa_V G M_X12_house 191 26 [some (.ref l0), some (.int l1), some (.int l2)] [.int s0, .ref s1] h (some (.int r.1)) r.2 := by
  intro h l0 l1 l2 s0 s1 r hf
  unfold f_X12_house_b26 at hf
  obtain ⟨h1, eh1, hf⟩ := ob hf
  refine v_put dX12_house_26 fp_12_111 (fun z => by cases z) (fun _ => rfl) (fun _ => rfl) eh1 ?_
  refine v_aload_n dX12_house_29 rfl ?_
  obtain ⟨x2, ex2, hf⟩ := ob hf
  refine v_getI dX12_house_30 fl_12_111 ex2 ?_
  refine v_if_le dX12_house_33 (tgt := 38) (by decide) (fun c3 => ?_) (fun c3 => ?_)
  · replace hf := (if_pos c3).symm.trans hf
    refine v_iload_n dX12_house_38 rfl ?_
    by_cases c4 : l2 = (0 : Int32)
    · replace hf := (if_pos c4).symm.trans hf
      refine v_tabIn dX12_house_39 (0 : Int32) c4 (by decide) (by decide) (off := 37) rfl (tgt := 76) (by decide) ?_
      refine v_aload_n dX12_house_76 rfl ?_
      obtain ⟨x5, ex5, hf⟩ := ob hf
      refine v_getR dX12_house_77 fl_12_61 ex5 ?_
      refine v_bipush dX12_house_80 (by decide) (v := 36) ?_
      refine v_iload_n dX12_house_82 rfl ?_
      refine v_iadd dX12_house_83 ?_
      obtain ⟨x6, ex6, hf⟩ := ob hf
      refine v_ialoadI dX12_house_84 ex6 ?_
      replace hf := Option.some.inj hf
      subst hf
      exact v_iret dX12_house_85 rfl
    replace hf := (if_neg c4).symm.trans hf
    by_cases c7 : l2 = (1 : Int32)
    · replace hf := (if_pos c7).symm.trans hf
      refine v_tabIn dX12_house_39 (1 : Int32) c7 (by decide) (by decide) (off := 47) rfl (tgt := 86) (by decide) ?_
      refine v_aload_n dX12_house_86 rfl ?_
      obtain ⟨x8, ex8, hf⟩ := ob hf
      refine v_getR dX12_house_87 fl_12_43 ex8 ?_
      refine v_iconst dX12_house_90 (by decide) (v := 3) ?_
      refine v_iload_n dX12_house_91 rfl ?_
      refine v_imul dX12_house_92 ?_
      refine v_iconst dX12_house_93 (by decide) (v := 1) ?_
      refine v_iadd dX12_house_94 ?_
      obtain ⟨x9, ex9, hf⟩ := ob hf
      refine v_ialoadI dX12_house_95 ex9 ?_
      replace hf := Option.some.inj hf
      subst hf
      exact v_iret dX12_house_96 rfl
    replace hf := (if_neg c7).symm.trans hf
    by_cases c10 : l2 = (2 : Int32)
    · replace hf := (if_pos c10).symm.trans hf
      refine v_tabIn dX12_house_39 (2 : Int32) c10 (by decide) (by decide) (off := 58) rfl (tgt := 97) (by decide) ?_
      refine v_aload_n dX12_house_97 rfl ?_
      obtain ⟨x11, ex11, hf⟩ := ob hf
      refine v_getR dX12_house_98 fl_12_61 ex11 ?_
      refine v_bipush dX12_house_101 (by decide) (v := 48) ?_
      obtain ⟨x12, ex12, hf⟩ := ob hf
      refine v_ialoadI dX12_house_103 ex12 ?_
      refine v_iload_n dX12_house_104 rfl ?_
      refine w_ishr dX12_house_105 ?_
      refine v_iconst dX12_house_106 (by decide) (v := 1) ?_
      refine v_iand dX12_house_107 ?_
      replace hf := Option.some.inj hf
      subst hf
      exact v_iret dX12_house_108 rfl
    replace hf := (if_neg c10).symm.trans hf
    by_cases c13 : l2 = (3 : Int32)
    · replace hf := (if_pos c13).symm.trans hf
      refine v_tabIn dX12_house_39 (3 : Int32) c13 (by decide) (by decide) (off := 70) rfl (tgt := 109) (by decide) ?_
      refine v_aload_n dX12_house_109 rfl ?_
      obtain ⟨x14, ex14, hf⟩ := ob hf
      refine v_getR dX12_house_110 fl_12_61 ex14 ?_
      refine v_bipush dX12_house_113 (by decide) (v := 42) ?_
      refine v_iload_n dX12_house_115 rfl ?_
      refine v_iadd dX12_house_116 ?_
      obtain ⟨x15, ex15, hf⟩ := ob hf
      refine v_ialoadI dX12_house_117 ex15 ?_
      replace hf := Option.some.inj hf
      subst hf
      exact v_iret dX12_house_118 rfl
    replace hf := (if_neg c13).symm.trans hf
    by_cases c16 : l2 = (4 : Int32)
    · replace hf := (if_pos c16).symm.trans hf
      refine v_tabIn dX12_house_39 (4 : Int32) c16 (by decide) (by decide) (off := 80) rfl (tgt := 119) (by decide) ?_
      refine v_aload_n dX12_house_119 rfl ?_
      refine v_aload_n dX12_house_120 rfl ?_
      obtain ⟨x17, ex17, hf⟩ := ob hf
      refine v_getR dX12_house_121 fl_12_61 ex17 ?_
      refine v_iload_n dX12_house_124 rfl ?_
      obtain ⟨q18, eq18, hf⟩ := ob hf
      refine v_callV dX12_house_125 ⟨cb_X12_in, ml_12_370, im_X12_in⟩ se_12_X12_in (ckf_X12_in eq18) (ev_X12_in eq18) (by decide) (As := [.ref x17, .int l1]) rfl (st := []) rfl (Nat.le_of_ble_eq_true rfl) rfl ?_
      replace hf := Option.some.inj hf
      subst hf
      exact v_iret dX12_house_128 rfl
    replace hf := (if_neg c16).symm.trans hf
    by_cases c19 : l2 = (5 : Int32)
    · replace hf := (if_pos c19).symm.trans hf
      refine v_tabIn dX12_house_39 (5 : Int32) c19 (by decide) (by decide) (off := 90) rfl (tgt := 129) (by decide) ?_
      refine v_aload_n dX12_house_129 rfl ?_
      refine v_aload_n dX12_house_130 rfl ?_
      obtain ⟨x20, ex20, hf⟩ := ob hf
      refine v_getR dX12_house_131 fl_12_61 ex20 ?_
      refine v_iload_n dX12_house_134 rfl ?_
      obtain ⟨q21, eq21, hf⟩ := ob hf
      refine v_callV dX12_house_135 ⟨cb_X12_out, ml_12_353, im_X12_out⟩ se_12_X12_out (ckf_X12_out eq21) (ev_X12_out eq21) (by decide) (As := [.ref x20, .int l1]) rfl (st := []) rfl (Nat.le_of_ble_eq_true rfl) rfl ?_
      replace hf := Option.some.inj hf
      subst hf
      exact v_iret dX12_house_138 rfl
    replace hf := (if_neg c19).symm.trans hf
    refine v_tabOut dX12_house_39 (by have zc4 := tsx (n := 0) (by decide) c4; have zc7 := tsx (n := 1) (by decide) c7; have zc10 := tsx (n := 2) (by decide) c10; have zc13 := tsx (n := 3) (by decide) c13; have zc16 := tsx (n := 4) (by decide) c16; have zc19 := tsx (n := 5) (by decide) c19; omega) (tgt := 139) (by decide) ?_
    refine v_aload_n dX12_house_139 rfl ?_
    refine v_iload_n dX12_house_140 rfl ?_
    obtain ⟨q22, eq22, hf⟩ := ob hf
    refine v_callV dX12_house_141 ⟨cb_X12_cost, ml_12_377, im_X12_cost⟩ se_12_X12_cost (ckf_X12_cost eq22) (ev_X12_cost eq22) (by decide) (As := [.int l1]) rfl (st := []) rfl (Nat.le_of_ble_eq_true rfl) rfl ?_
    replace hf := Option.some.inj hf
    subst hf
    exact v_iret dX12_house_144 rfl
  · replace hf := (if_neg c3).symm.trans hf
    refine v_iconst dX12_house_36 (by decide) (v := 0) ?_
    replace hf := Option.some.inj hf
    subst hf
    exact v_iret dX12_house_37 rfl
def f_X12_house_b25 (h : xa_H) (l0 : Nat) (l1 : Int32) (l2 : Int32) (s0 : Nat) : Option (Int32 × xa_H) :=
  f_X12_house_b26 h l0 l1 l2 (1 : Int32) s0
set_option maxRecDepth 20000 in
theorem e_X12_house_b25 {G : xa_G} : ∀ (h : xa_H) (l0 : Nat) (l1 : Int32) (l2 : Int32) (s0 : Nat) (r : (Int32 × xa_H)), f_X12_house_b25 h l0 l1 l2 s0 = some r → xa_V G M_X12_house 191 25 [some (.ref l0), some (.int l1), some (.int l2)] [.ref s0] h (some (.int r.1)) r.2 := by
  intro h l0 l1 l2 s0 r hf
  unfold f_X12_house_b25 at hf
  refine v_iconst dX12_house_25 (by decide) (v := 1) ?_
  exact e_X12_house_b26 h l0 l1 l2 (1 : Int32) s0 r hf
def f_X12_house (h : xa_H) (l0 : Nat) (l1 : Int32) (l2 : Int32) : Option (Int32 × xa_H) :=
  (ck [12] h l0).bind fun _ =>
  (f_X12_isHouse h l0 l1).bind fun q1 =>
  if q1 = 0 then
    f_X12_house_b25 h l0 l1 l2 l0
  else
    (f_X12_isIn h l2.toInt64 (0 : Int64) (6 : Int64)).bind fun q3 =>
    if q3 = 0 then
      f_X12_house_b25 h l0 l1 l2 l0
    else
      f_X12_house_b26 h l0 l1 l2 (0 : Int32) l0
set_option maxRecDepth 20000 in
theorem ev_X12_house {G : xa_G} {h : xa_H} {l0 : Nat} {l1 : Int32} {l2 : Int32} {r : (Int32 × xa_H)} (hf : f_X12_house h l0 l1 l2 = some r) : xa_Ev G M_X12_house 191 [.ref l0, .int l1, .int l2] h (some (.int r.1)) r.2 := by
  refine xa_entry (by decide +kernel) (loc := [some (.ref l0), some (.int l1), some (.int l2)]) rfl (Nat.le_of_ble_eq_true rfl) ?_
  unfold f_X12_house at hf
  obtain ⟨u0, eu0, hf⟩ := ob hf
  refine v_aload_n dX12_house_0 rfl ?_
  refine v_aload_n dX12_house_1 rfl ?_
  refine v_iload_n dX12_house_2 rfl ?_
  obtain ⟨q1, eq1, hf⟩ := ob hf
  refine v_callV dX12_house_3 ⟨cb_X12_isHouse, ml_12_335, im_X12_isHouse⟩ se_12_X12_isHouse (ckf_X12_isHouse eq1) (ev_X12_isHouse eq1) (by decide) (As := [.int l1]) rfl (st := [.ref l0]) rfl (Nat.le_of_ble_eq_true rfl) rfl ?_
  refine v_if_eq dX12_house_6 (tgt := 25) (by decide) (fun c2 => ?_) (fun c2 => ?_)
  · replace hf := (if_pos c2).symm.trans hf
    exact e_X12_house_b25 h l0 l1 l2 l0 r hf
  · replace hf := (if_neg c2).symm.trans hf
    refine v_iload_n dX12_house_9 rfl ?_
    refine v_i2l dX12_house_10 ?_
    refine v_lconst dX12_house_11 (by decide) (v := 0) ?_
    refine v_ldc2 dX12_house_12 rfl col_12_375 ?_
    obtain ⟨q3, eq3, hf⟩ := ob hf
    refine v_callS dX12_house_15 ⟨cb_X12_isIn, ml_12_232, sm_X12_isIn⟩ (ev_X12_isIn eq3) (by decide) (As := [.long l2.toInt64, .long (0 : Int64), .long (6 : Int64)]) rfl (st := [.ref l0]) rfl (Nat.le_of_ble_eq_true rfl) rfl ?_
    refine v_if_eq dX12_house_18 (tgt := 25) (by decide) (fun c4 => ?_) (fun c4 => ?_)
    · replace hf := (if_pos c4).symm.trans hf
      exact e_X12_house_b25 h l0 l1 l2 l0 r hf
    · replace hf := (if_neg c4).symm.trans hf
      refine v_iconst dX12_house_21 (by decide) (v := 0) ?_
      refine v_goto dX12_house_22 (tgt := 26) (by decide) ?_
      exact e_X12_house_b26 h l0 l1 l2 (0 : Int32) l0 r hf
theorem ckf_X12_house {h : xa_H} {l0 : Nat} {l1 : Int32} {l2 : Int32} {r : (Int32 × xa_H)} (hf : f_X12_house h l0 l1 l2 = some r) : ck [12] h l0 = some () := by
  obtain ⟨u, e, -⟩ := ob hf
  exact e
def M_X12_image : xa_M := (yX12_image, cX12_image, 2, some .int)
theorem cb_X12_image : xa_CB M_X12_image 0 := ⟨gws_at 1954 (by decide +kernel) rfl, gws_at 122 (by decide +kernel) rfl, by decide +kernel, Nat.le_of_ble_eq_true rfl⟩
def f_X12_image_b16 : Nat → xa_H → Nat → Int32 → Option (Int32 × xa_H)
  | 0, _, _, _ => none
  | n + 1, h, l0, l1 =>
    if (232 : Int32) ≤ l1 then
      (xp [12] 56 h l0 (.int (1 : Int32))).bind fun h2 =>
      (gR [12] 32 h2 l0).bind fun x3 =>
      (aI h2 x3 (50 : Int32)).bind fun x4 =>
      some (x4, h2)
    else
      (gR [12] 55 h l0).bind fun x5 =>
      (gR [12] 32 h l0).bind fun x6 =>
      (aI h x6 l1).bind fun x7 =>
      (pI h x5 l1 x7).bind fun h8 =>
      f_X12_image_b16 n h8 l0 (l1 + (1 : Int32))
set_option maxRecDepth 20000 in
theorem e_X12_image_b16 {G : xa_G} : ∀ (n : Nat) (h : xa_H) (l0 : Nat) (l1 : Int32) (r : (Int32 × xa_H)), f_X12_image_b16 n h l0 l1 = some r → xa_V G M_X12_image 0 16 [some (.ref l0), some (.int l1)] [] h (some (.int r.1)) r.2 := by
  intro n
  induction n with
  | zero =>
    intro h l0 l1 r hf
    cases (show (none : Option (Int32 × xa_H)) = some r from hf)
  | succ n ih =>
    intro h l0 l1 r hf
    rw [f_X12_image_b16] at hf
    refine v_iload_n dX12_image_16 rfl ?_
    refine v_sipush dX12_image_17 (by decide) (v := 232) ?_
    refine v_icmp_ge dX12_image_20 (tgt := 41) (by decide) (fun c1 => ?_) (fun c1 => ?_)
    · replace hf := (if_pos c1).symm.trans hf
      refine v_aload_n dX12_image_41 rfl ?_
      refine v_iconst dX12_image_42 (by decide) (v := 1) ?_
      obtain ⟨h2, eh2, hf⟩ := ob hf
      refine v_put dX12_image_43 fp_12_323 (fun z => by cases z) (fun _ => rfl) (fun _ => rfl) eh2 ?_
      refine v_aload_n dX12_image_46 rfl ?_
      obtain ⟨x3, ex3, hf⟩ := ob hf
      refine v_getR dX12_image_47 fl_12_61 ex3 ?_
      refine v_bipush dX12_image_50 (by decide) (v := 50) ?_
      obtain ⟨x4, ex4, hf⟩ := ob hf
      refine v_ialoadI dX12_image_52 ex4 ?_
      replace hf := Option.some.inj hf
      subst hf
      exact v_iret dX12_image_53 rfl
    · replace hf := (if_neg c1).symm.trans hf
      refine v_aload_n dX12_image_23 rfl ?_
      obtain ⟨x5, ex5, hf⟩ := ob hf
      refine v_getR dX12_image_24 fl_12_108 ex5 ?_
      refine v_iload_n dX12_image_27 rfl ?_
      refine v_aload_n dX12_image_28 rfl ?_
      obtain ⟨x6, ex6, hf⟩ := ob hf
      refine v_getR dX12_image_29 fl_12_61 ex6 ?_
      refine v_iload_n dX12_image_32 rfl ?_
      obtain ⟨x7, ex7, hf⟩ := ob hf
      refine v_ialoadI dX12_image_33 ex7 ?_
      obtain ⟨h8, eh8, hf⟩ := ob hf
      refine v_iastoreI dX12_image_34 eh8 ?_
      refine v_iinc dX12_image_35 rfl (v := (l1 + (1 : Int32))) rfl (Nat.le_of_ble_eq_true rfl) (loc' := [some (.ref l0), some (.int (l1 + (1 : Int32)))]) rfl ?_
      refine v_goto dX12_image_38 (tgt := 16) (by decide) ?_
      exact ih h8 l0 (l1 + (1 : Int32)) r hf
def f_X12_image (h : xa_H) (l0 : Nat) : Option (Int32 × xa_H) :=
  (ck [12] h l0).bind fun _ =>
  (xp [12] 0 h l0 (.int (0 : Int32))).bind fun h1 =>
  (gI [12] 26 h1 l0).bind fun x2 =>
  if x2 = 0 then
    some ((-1 : Int32), h1)
  else
    f_X12_image_b16 1048576 h1 l0 (0 : Int32)
set_option maxRecDepth 20000 in
theorem ev_X12_image {G : xa_G} {h : xa_H} {l0 : Nat} {r : (Int32 × xa_H)} (hf : f_X12_image h l0 = some r) : xa_Ev G M_X12_image 0 [.ref l0] h (some (.int r.1)) r.2 := by
  refine xa_entry (by decide +kernel) (loc := [some (.ref l0), none]) rfl (Nat.le_of_ble_eq_true rfl) ?_
  unfold f_X12_image at hf
  obtain ⟨u0, eu0, hf⟩ := ob hf
  refine v_aload_n dX12_image_0 rfl ?_
  refine v_iconst dX12_image_1 (by decide) (v := 0) ?_
  obtain ⟨h1, eh1, hf⟩ := ob hf
  refine v_put dX12_image_2 fp_12_111 (fun z => by cases z) (fun _ => rfl) (fun _ => rfl) eh1 ?_
  refine v_aload_n dX12_image_5 rfl ?_
  obtain ⟨x2, ex2, hf⟩ := ob hf
  refine v_getI dX12_image_6 fl_12_307 ex2 ?_
  refine v_if_ne dX12_image_9 (tgt := 14) (by decide) (fun c3 => ?_) (fun c3 => ?_)
  · replace hf := (if_neg c3).symm.trans hf
    refine v_iconst dX12_image_14 (by decide) (v := 0) ?_
    refine v_istore_n (i := 1) rfl dX12_image_15 (Nat.le_of_ble_eq_true rfl) (loc' := [some (.ref l0), some (.int (0 : Int32))]) rfl ?_
    exact e_X12_image_b16 1048576 h1 l0 (0 : Int32) r hf
  · replace hf := (if_pos c3).symm.trans hf
    refine v_iconst dX12_image_12 (by decide) (v := -1) ?_
    replace hf := Option.some.inj hf
    subst hf
    exact v_iret dX12_image_13 rfl
theorem ckf_X12_image {h : xa_H} {l0 : Nat} {r : (Int32 × xa_H)} (hf : f_X12_image h l0 = some r) : ck [12] h l0 = some () := by
  obtain ⟨u, e, -⟩ := ob hf
  exact e
def M_X12_init : xa_M := (yX12_init, cX12_init, 1, none)
theorem cb_X12_init : xa_CB M_X12_init 0 := ⟨gws_at 1292 (by decide +kernel) rfl, gws_at 122 (by decide +kernel) rfl, by decide +kernel, Nat.le_of_ble_eq_true rfl⟩
def f_X12_init (h : xa_H) (l0 : Nat) : Option xa_H :=
  (ck [12] h l0).bind fun _ =>
  (nAB h (240 : Int32)).bind fun h1 =>
  (xp [12] 1 h1 l0 (.ref h.2.1)).bind fun h2 =>
  (nAB h2 (960 : Int32)).bind fun h3 =>
  (xp [12] 2 h3 l0 (.ref h2.2.1)).bind fun h4 =>
  (nAI h4 (4 : Int32)).bind fun h5 =>
  (xp [12] 3 h5 l0 (.ref h4.2.1)).bind fun h6 =>
  (nAI h6 (128 : Int32)).bind fun h7 =>
  (xp [12] 4 h7 l0 (.ref h6.2.1)).bind fun h8 =>
  (gR [12] 1 h8 l0).bind fun x9 =>
  (xp [12] 5 h8 l0 (.ref x9)).bind fun h10 =>
  (xp [12] 15 h10 l0 (.ref (1000000010 + 5))).bind fun h11 =>
  (xp [12] 16 h11 l0 (.ref (1000000010 + 0))).bind fun h12 =>
  (nAI h12 (2 : Int32)).bind fun h13 =>
  (xp [12] 18 h13 l0 (.ref h12.2.1)).bind fun h14 =>
  (nAI h14 (2 : Int32)).bind fun h15 =>
  (xp [12] 19 h15 l0 (.ref h14.2.1)).bind fun h16 =>
  (nAI h16 (18 : Int32)).bind fun h17 =>
  (xp [12] 20 h17 l0 (.ref h16.2.1)).bind fun h18 =>
  (nAI h18 (18 : Int32)).bind fun h19 =>
  (xp [12] 21 h19 l0 (.ref h18.2.1)).bind fun h20 =>
  (nAI h20 (36 : Int32)).bind fun h21 =>
  (xp [12] 22 h21 l0 (.ref h20.2.1)).bind fun h22 =>
  (nAI h22 (36 : Int32)).bind fun h23 =>
  (xp [12] 23 h23 l0 (.ref h22.2.1)).bind fun h24 =>
  (nAI h24 (80 : Int32)).bind fun h25 =>
  (xp [12] 24 h25 l0 (.ref h24.2.1)).bind fun h26 =>
  (nAI h26 (5 : Int32)).bind fun h27 =>
  (xp [12] 25 h27 l0 (.ref h26.2.1)).bind fun h28 =>
  (nAI h28 (232 : Int32)).bind fun h29 =>
  (xp [12] 32 h29 l0 (.ref h28.2.1)).bind fun h30 =>
  (nAI h30 (51 : Int32)).bind fun h31 =>
  (xp [12] 33 h31 l0 (.ref h30.2.1)).bind fun h32 =>
  (nAI h32 (6 : Int32)).bind fun h33 =>
  (xp [12] 34 h33 l0 (.ref h32.2.1)).bind fun h34 =>
  (xp [12] 35 h34 l0 (.int (-1 : Int32))).bind fun h35 =>
  (xp [12] 36 h35 l0 (.int (2 : Int32))).bind fun h36 =>
  (nAI h36 (36 : Int32)).bind fun h37 =>
  (xp [12] 37 h37 l0 (.ref h36.2.1)).bind fun h38 =>
  (nAI h38 (6 : Int32)).bind fun h39 =>
  (xp [12] 38 h39 l0 (.ref h38.2.1)).bind fun h40 =>
  (nAI h40 (9280 : Int32)).bind fun h41 =>
  (xp [12] 39 h41 l0 (.ref h40.2.1)).bind fun h42 =>
  (nAI h42 (6 : Int32)).bind fun h43 =>
  (xp [12] 42 h43 l0 (.ref h42.2.1)).bind fun h44 =>
  (nAI h44 (57600 : Int32)).bind fun h45 =>
  (xp [12] 43 h45 l0 (.ref h44.2.1)).bind fun h46 =>
  (nAI h46 (255 : Int32)).bind fun h47 =>
  (xp [12] 44 h47 l0 (.ref h46.2.1)).bind fun h48 =>
  (nAI h48 (50 : Int32)).bind fun h49 =>
  (xp [12] 50 h49 l0 (.ref h48.2.1)).bind fun h50 =>
  (nAI h50 (4 : Int32)).bind fun h51 =>
  (xp [12] 52 h51 l0 (.ref h50.2.1)).bind fun h52 =>
  (nAI h52 (459 : Int32)).bind fun h53 =>
  (xp [12] 53 h53 l0 (.ref h52.2.1)).bind fun h54 =>
  (nAI h54 (6 : Int32)).bind fun h55 =>
  (xp [12] 54 h55 l0 (.ref h54.2.1)).bind fun h56 =>
  (nAI h56 (232 : Int32)).bind fun h57 =>
  (xp [12] 55 h57 l0 (.ref h56.2.1)).bind fun h58 =>
  some h58
set_option maxRecDepth 20000 in
theorem ev_X12_init {G : xa_G} {h : xa_H} {l0 : Nat} {r : xa_H} (hf : f_X12_init h l0 = some r) : xa_Ev G M_X12_init 1 [.ref l0] h none r := by
  refine xa_entry (by decide +kernel) (loc := [some (.ref l0)]) rfl (Nat.le_of_ble_eq_true rfl) ?_
  unfold f_X12_init at hf
  obtain ⟨u0, eu0, hf⟩ := ob hf
  refine v_aload_n dX12_init_0 rfl ?_
  refine v_objInit dX12_init_1 oi_12_3 (by decide) (Nat.le_of_ble_eq_true rfl) ?_
  refine v_aload_n dX12_init_4 rfl ?_
  refine v_sipush dX12_init_5 (by decide) (v := 240) ?_
  obtain ⟨h1, eh1, hf⟩ := ob hf
  refine w_newaB dX12_init_8 ac_byte eh1 ?_
  obtain ⟨h2, eh2, hf⟩ := ob hf
  refine v_put dX12_init_10 fp_12_9 (fun _ => rfl) (fun _ => rfl) (fun _ => rfl) eh2 ?_
  refine v_aload_n dX12_init_13 rfl ?_
  refine v_sipush dX12_init_14 (by decide) (v := 960) ?_
  obtain ⟨h3, eh3, hf⟩ := ob hf
  refine w_newaB dX12_init_17 ac_byte eh3 ?_
  obtain ⟨h4, eh4, hf⟩ := ob hf
  refine v_put dX12_init_19 fp_12_13 (fun _ => rfl) (fun _ => rfl) (fun _ => rfl) eh4 ?_
  refine v_aload_n dX12_init_22 rfl ?_
  refine v_iconst dX12_init_23 (by decide) (v := 4) ?_
  obtain ⟨h5, eh5, hf⟩ := ob hf
  refine w_newaI dX12_init_24 ac_int eh5 ?_
  obtain ⟨h6, eh6, hf⟩ := ob hf
  refine v_put dX12_init_26 fp_12_16 (fun _ => rfl) (fun _ => rfl) (fun _ => rfl) eh6 ?_
  refine v_aload_n dX12_init_29 rfl ?_
  refine v_sipush dX12_init_30 (by decide) (v := 128) ?_
  obtain ⟨h7, eh7, hf⟩ := ob hf
  refine w_newaI dX12_init_33 ac_int eh7 ?_
  obtain ⟨h8, eh8, hf⟩ := ob hf
  refine v_put dX12_init_35 fp_12_20 (fun _ => rfl) (fun _ => rfl) (fun _ => rfl) eh8 ?_
  refine v_aload_n dX12_init_38 rfl ?_
  refine v_aload_n dX12_init_39 rfl ?_
  obtain ⟨x9, ex9, hf⟩ := ob hf
  refine v_getR dX12_init_40 fl_12_9 ex9 ?_
  obtain ⟨h10, eh10, hf⟩ := ob hf
  refine v_put dX12_init_43 fp_12_23 (fun z => by cases z) (fun _ => rfl) (fun _ => rfl) eh10 ?_
  refine v_aload_n dX12_init_46 rfl ?_
  refine v_ldcs dX12_init_47 (List.mem_of_getElem? (i := 5) rfl) ?_
  obtain ⟨h11, eh11, hf⟩ := ob hf
  refine v_put dX12_init_49 fp_12_28 (fun _ => rfl) (fun _ => rfl) (fun _ => rfl) eh11 ?_
  refine v_aload_n dX12_init_52 rfl ?_
  refine v_ldcs dX12_init_53 (List.mem_of_getElem? (i := 6) rfl) ?_
  obtain ⟨h12, eh12, hf⟩ := ob hf
  refine v_put dX12_init_55 fp_12_34 (fun _ => rfl) (fun _ => rfl) (fun _ => rfl) eh12 ?_
  refine v_aload_n dX12_init_58 rfl ?_
  refine v_iconst dX12_init_59 (by decide) (v := 2) ?_
  obtain ⟨h13, eh13, hf⟩ := ob hf
  refine w_newaI dX12_init_60 ac_int eh13 ?_
  obtain ⟨h14, eh14, hf⟩ := ob hf
  refine v_put dX12_init_62 fp_12_37 (fun _ => rfl) (fun _ => rfl) (fun _ => rfl) eh14 ?_
  refine v_aload_n dX12_init_65 rfl ?_
  refine v_iconst dX12_init_66 (by decide) (v := 2) ?_
  obtain ⟨h15, eh15, hf⟩ := ob hf
  refine w_newaI dX12_init_67 ac_int eh15 ?_
  obtain ⟨h16, eh16, hf⟩ := ob hf
  refine v_put dX12_init_69 fp_12_40 (fun _ => rfl) (fun _ => rfl) (fun _ => rfl) eh16 ?_
  refine v_aload_n dX12_init_72 rfl ?_
  refine v_bipush dX12_init_73 (by decide) (v := 18) ?_
  obtain ⟨h17, eh17, hf⟩ := ob hf
  refine w_newaI dX12_init_75 ac_int eh17 ?_
  obtain ⟨h18, eh18, hf⟩ := ob hf
  refine v_put dX12_init_77 fp_12_43 (fun _ => rfl) (fun _ => rfl) (fun _ => rfl) eh18 ?_
  refine v_aload_n dX12_init_80 rfl ?_
  refine v_bipush dX12_init_81 (by decide) (v := 18) ?_
  obtain ⟨h19, eh19, hf⟩ := ob hf
  refine w_newaI dX12_init_83 ac_int eh19 ?_
  obtain ⟨h20, eh20, hf⟩ := ob hf
  refine v_put dX12_init_85 fp_12_46 (fun _ => rfl) (fun _ => rfl) (fun _ => rfl) eh20 ?_
  refine v_aload_n dX12_init_88 rfl ?_
  refine v_bipush dX12_init_89 (by decide) (v := 36) ?_
  obtain ⟨h21, eh21, hf⟩ := ob hf
  refine w_newaI dX12_init_91 ac_int eh21 ?_
  obtain ⟨h22, eh22, hf⟩ := ob hf
  refine v_put dX12_init_93 fp_12_49 (fun _ => rfl) (fun _ => rfl) (fun _ => rfl) eh22 ?_
  refine v_aload_n dX12_init_96 rfl ?_
  refine v_bipush dX12_init_97 (by decide) (v := 36) ?_
  obtain ⟨h23, eh23, hf⟩ := ob hf
  refine w_newaI dX12_init_99 ac_int eh23 ?_
  obtain ⟨h24, eh24, hf⟩ := ob hf
  refine v_put dX12_init_101 fp_12_52 (fun _ => rfl) (fun _ => rfl) (fun _ => rfl) eh24 ?_
  refine v_aload_n dX12_init_104 rfl ?_
  refine v_bipush dX12_init_105 (by decide) (v := 80) ?_
  obtain ⟨h25, eh25, hf⟩ := ob hf
  refine w_newaI dX12_init_107 ac_int eh25 ?_
  obtain ⟨h26, eh26, hf⟩ := ob hf
  refine v_put dX12_init_109 fp_12_55 (fun _ => rfl) (fun _ => rfl) (fun _ => rfl) eh26 ?_
  refine v_aload_n dX12_init_112 rfl ?_
  refine v_iconst dX12_init_113 (by decide) (v := 5) ?_
  obtain ⟨h27, eh27, hf⟩ := ob hf
  refine w_newaI dX12_init_114 ac_int eh27 ?_
  obtain ⟨h28, eh28, hf⟩ := ob hf
  refine v_put dX12_init_116 fp_12_58 (fun _ => rfl) (fun _ => rfl) (fun _ => rfl) eh28 ?_
  refine v_aload_n dX12_init_119 rfl ?_
  refine v_sipush dX12_init_120 (by decide) (v := 232) ?_
  obtain ⟨h29, eh29, hf⟩ := ob hf
  refine w_newaI dX12_init_123 ac_int eh29 ?_
  obtain ⟨h30, eh30, hf⟩ := ob hf
  refine v_put dX12_init_125 fp_12_61 (fun _ => rfl) (fun _ => rfl) (fun _ => rfl) eh30 ?_
  refine v_aload_n dX12_init_128 rfl ?_
  refine v_bipush dX12_init_129 (by decide) (v := 51) ?_
  obtain ⟨h31, eh31, hf⟩ := ob hf
  refine w_newaI dX12_init_131 ac_int eh31 ?_
  obtain ⟨h32, eh32, hf⟩ := ob hf
  refine v_put dX12_init_133 fp_12_64 (fun _ => rfl) (fun _ => rfl) (fun _ => rfl) eh32 ?_
  refine v_aload_n dX12_init_136 rfl ?_
  refine v_bipush dX12_init_137 (by decide) (v := 6) ?_
  obtain ⟨h33, eh33, hf⟩ := ob hf
  refine w_newaI dX12_init_139 ac_int eh33 ?_
  obtain ⟨h34, eh34, hf⟩ := ob hf
  refine v_put dX12_init_141 fp_12_67 (fun _ => rfl) (fun _ => rfl) (fun _ => rfl) eh34 ?_
  refine v_aload_n dX12_init_144 rfl ?_
  refine v_iconst dX12_init_145 (by decide) (v := -1) ?_
  obtain ⟨h35, eh35, hf⟩ := ob hf
  refine v_put dX12_init_146 fp_12_70 (fun z => by cases z) (fun _ => rfl) (fun _ => rfl) eh35 ?_
  refine v_aload_n dX12_init_149 rfl ?_
  refine v_iconst dX12_init_150 (by decide) (v := 2) ?_
  obtain ⟨h36, eh36, hf⟩ := ob hf
  refine v_put dX12_init_151 fp_12_74 (fun z => by cases z) (fun _ => rfl) (fun _ => rfl) eh36 ?_
  refine v_aload_n dX12_init_154 rfl ?_
  refine v_bipush dX12_init_155 (by decide) (v := 36) ?_
  obtain ⟨h37, eh37, hf⟩ := ob hf
  refine w_newaI dX12_init_157 ac_int eh37 ?_
  obtain ⟨h38, eh38, hf⟩ := ob hf
  refine v_put dX12_init_159 fp_12_77 (fun _ => rfl) (fun _ => rfl) (fun _ => rfl) eh38 ?_
  refine v_aload_n dX12_init_162 rfl ?_
  refine v_bipush dX12_init_163 (by decide) (v := 6) ?_
  obtain ⟨h39, eh39, hf⟩ := ob hf
  refine w_newaI dX12_init_165 ac_int eh39 ?_
  obtain ⟨h40, eh40, hf⟩ := ob hf
  refine v_put dX12_init_167 fp_12_80 (fun _ => rfl) (fun _ => rfl) (fun _ => rfl) eh40 ?_
  refine v_aload_n dX12_init_170 rfl ?_
  refine v_sipush dX12_init_171 (by decide) (v := 9280) ?_
  obtain ⟨h41, eh41, hf⟩ := ob hf
  refine w_newaI dX12_init_174 ac_int eh41 ?_
  obtain ⟨h42, eh42, hf⟩ := ob hf
  refine v_put dX12_init_176 fp_12_83 (fun _ => rfl) (fun _ => rfl) (fun _ => rfl) eh42 ?_
  refine v_aload_n dX12_init_179 rfl ?_
  refine v_bipush dX12_init_180 (by decide) (v := 6) ?_
  obtain ⟨h43, eh43, hf⟩ := ob hf
  refine w_newaI dX12_init_182 ac_int eh43 ?_
  obtain ⟨h44, eh44, hf⟩ := ob hf
  refine v_put dX12_init_184 fp_12_86 (fun _ => rfl) (fun _ => rfl) (fun _ => rfl) eh44 ?_
  refine v_aload_n dX12_init_187 rfl ?_
  refine v_ldc dX12_init_188 rfl co_12_89 ?_
  obtain ⟨h45, eh45, hf⟩ := ob hf
  refine w_newaI dX12_init_190 ac_int eh45 ?_
  obtain ⟨h46, eh46, hf⟩ := ob hf
  refine v_put dX12_init_192 fp_12_90 (fun _ => rfl) (fun _ => rfl) (fun _ => rfl) eh46 ?_
  refine v_aload_n dX12_init_195 rfl ?_
  refine v_sipush dX12_init_196 (by decide) (v := 255) ?_
  obtain ⟨h47, eh47, hf⟩ := ob hf
  refine w_newaI dX12_init_199 ac_int eh47 ?_
  obtain ⟨h48, eh48, hf⟩ := ob hf
  refine v_put dX12_init_201 fp_12_93 (fun _ => rfl) (fun _ => rfl) (fun _ => rfl) eh48 ?_
  refine v_aload_n dX12_init_204 rfl ?_
  refine v_bipush dX12_init_205 (by decide) (v := 50) ?_
  obtain ⟨h49, eh49, hf⟩ := ob hf
  refine w_newaI dX12_init_207 ac_int eh49 ?_
  obtain ⟨h50, eh50, hf⟩ := ob hf
  refine v_put dX12_init_209 fp_12_96 (fun _ => rfl) (fun _ => rfl) (fun _ => rfl) eh50 ?_
  refine v_aload_n dX12_init_212 rfl ?_
  refine v_iconst dX12_init_213 (by decide) (v := 4) ?_
  obtain ⟨h51, eh51, hf⟩ := ob hf
  refine w_newaI dX12_init_214 ac_int eh51 ?_
  obtain ⟨h52, eh52, hf⟩ := ob hf
  refine v_put dX12_init_216 fp_12_99 (fun _ => rfl) (fun _ => rfl) (fun _ => rfl) eh52 ?_
  refine v_aload_n dX12_init_219 rfl ?_
  refine v_sipush dX12_init_220 (by decide) (v := 459) ?_
  obtain ⟨h53, eh53, hf⟩ := ob hf
  refine w_newaI dX12_init_223 ac_int eh53 ?_
  obtain ⟨h54, eh54, hf⟩ := ob hf
  refine v_put dX12_init_225 fp_12_102 (fun _ => rfl) (fun _ => rfl) (fun _ => rfl) eh54 ?_
  refine v_aload_n dX12_init_228 rfl ?_
  refine v_bipush dX12_init_229 (by decide) (v := 6) ?_
  obtain ⟨h55, eh55, hf⟩ := ob hf
  refine w_newaI dX12_init_231 ac_int eh55 ?_
  obtain ⟨h56, eh56, hf⟩ := ob hf
  refine v_put dX12_init_233 fp_12_105 (fun _ => rfl) (fun _ => rfl) (fun _ => rfl) eh56 ?_
  refine v_aload_n dX12_init_236 rfl ?_
  refine v_sipush dX12_init_237 (by decide) (v := 232) ?_
  obtain ⟨h57, eh57, hf⟩ := ob hf
  refine w_newaI dX12_init_240 ac_int eh57 ?_
  obtain ⟨h58, eh58, hf⟩ := ob hf
  refine v_put dX12_init_242 fp_12_108 (fun _ => rfl) (fun _ => rfl) (fun _ => rfl) eh58 ?_
  replace hf := Option.some.inj hf
  subst hf
  exact v_vret dX12_init_245 rfl
theorem ckf_X12_init {h : xa_H} {l0 : Nat} {r : xa_H} (hf : f_X12_init h l0 = some r) : ck [12] h l0 = some () := by
  obtain ⟨u, e, -⟩ := ob hf
  exact e
