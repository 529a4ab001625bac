def M_X12_isHouse : xa_M := (yX12_isHouse, cX12_isHouse, 2, some .boolean)
theorem cb_X12_isHouse : xa_CB M_X12_isHouse 1 := ⟨gws_at 1638 (by decide +kernel) rfl, gws_at 122 (by decide +kernel) rfl, by decide +kernel, Nat.le_of_ble_eq_true rfl⟩
def f_X12_isHouse (h : xa_H) (l0 : Nat) (l1 : Int32) : Option Int32 :=
  (ck [12] h l0).bind fun _ =>
  if l1 < 0 then
    some (0 : Int32)
  else
    (gI [12] 26 h l0).bind fun x2 =>
    if x2 ≤ l1 then
      some (0 : Int32)
    else
      some (1 : Int32)
set_option maxRecDepth 20000 in
theorem ev_X12_isHouse {G : xa_G} {h : xa_H} {l0 : Nat} {l1 : Int32} {r : Int32} (hf : f_X12_isHouse h l0 l1 = some r) : xa_Ev G M_X12_isHouse 0 [.ref l0, .int l1] h (some (.int r)) h := by
  refine xa_entry (by decide +kernel) (loc := [some (.ref l0), some (.int l1)]) rfl (Nat.le_of_ble_eq_true rfl) ?_
  unfold f_X12_isHouse at hf
  obtain ⟨u0, eu0, hf⟩ := ob hf
  refine v_iload_n dX12_isHouse_0 rfl ?_
  refine v_if_lt dX12_isHouse_1 (tgt := 16) (by decide) (fun c1 => ?_) (fun c1 => ?_)
  · replace hf := (if_pos c1).symm.trans hf
    refine v_iconst dX12_isHouse_16 (by decide) (v := 0) ?_
    replace hf := Option.some.inj hf
    subst hf
    exact v_zret dX12_isHouse_17 rfl (by decide)
  · replace hf := (if_neg c1).symm.trans hf
    refine v_iload_n dX12_isHouse_4 rfl ?_
    refine v_aload_n dX12_isHouse_5 rfl ?_
    obtain ⟨x2, ex2, hf⟩ := ob hf
    refine v_getI dX12_isHouse_6 fl_12_307 ex2 ?_
    refine v_icmp_ge dX12_isHouse_9 (tgt := 16) (by decide) (fun c3 => ?_) (fun c3 => ?_)
    · replace hf := (if_pos c3).symm.trans hf
      refine v_iconst dX12_isHouse_16 (by decide) (v := 0) ?_
      replace hf := Option.some.inj hf
      subst hf
      exact v_zret dX12_isHouse_17 rfl (by decide)
    · replace hf := (if_neg c3).symm.trans hf
      refine v_iconst dX12_isHouse_12 (by decide) (v := 1) ?_
      refine v_goto dX12_isHouse_13 (tgt := 17) (by decide) ?_
      replace hf := Option.some.inj hf
      subst hf
      exact v_zret dX12_isHouse_17 rfl (by decide)
theorem ckf_X12_isHouse {h : xa_H} {l0 : Nat} {l1 : Int32} {r : Int32} (hf : f_X12_isHouse h l0 l1 = some r) : ck [12] h l0 = some () := by
  obtain ⟨u, e, -⟩ := ob hf
  exact e
def M_X12_isIn : xa_M := (yX12_isIn, cX12_isIn, 6, some .boolean)
theorem cb_X12_isIn : xa_CB M_X12_isIn 3 := ⟨gws_at 1495 (by decide +kernel) rfl, gws_at 122 (by decide +kernel) rfl, by decide +kernel, Nat.le_of_ble_eq_true rfl⟩
def f_X12_isIn (h : xa_H) (l0 : Int64) (l2 : Int64) (l4 : Int64) : Option Int32 :=
  if (lg_cmp l0 l2) < 0 then
    some (0 : Int32)
  else
    if 0 < (lg_cmp l0 l4) then
      some (0 : Int32)
    else
      some (1 : Int32)
set_option maxRecDepth 20000 in
theorem ev_X12_isIn {G : xa_G} {h : xa_H} {l0 : Int64} {l2 : Int64} {l4 : Int64} {r : Int32} (hf : f_X12_isIn h l0 l2 l4 = some r) : xa_Ev G M_X12_isIn 0 [.long l0, .long l2, .long l4] h (some (.int r)) h := by
  refine xa_entry (by decide +kernel) (loc := [some (.long l0), none, some (.long l2), none, some (.long l4), none]) rfl (Nat.le_of_ble_eq_true rfl) ?_
  unfold f_X12_isIn at hf
  refine v_lload_n dX12_isIn_0 rfl ?_
  refine v_lload_n dX12_isIn_1 rfl ?_
  refine v_lcmp dX12_isIn_2 ?_
  refine v_if_lt dX12_isIn_3 (tgt := 17) (by decide) (fun c1 => ?_) (fun c1 => ?_)
  · replace hf := (if_pos c1).symm.trans hf
    refine v_iconst dX12_isIn_17 (by decide) (v := 0) ?_
    replace hf := Option.some.inj hf
    subst hf
    exact v_zret dX12_isIn_18 rfl (by decide)
  · replace hf := (if_neg c1).symm.trans hf
    refine v_lload_n dX12_isIn_6 rfl ?_
    refine v_lload dX12_isIn_7 rfl ?_
    refine v_lcmp dX12_isIn_9 ?_
    refine v_if_gt dX12_isIn_10 (tgt := 17) (by decide) (fun c2 => ?_) (fun c2 => ?_)
    · replace hf := (if_pos c2).symm.trans hf
      refine v_iconst dX12_isIn_17 (by decide) (v := 0) ?_
      replace hf := Option.some.inj hf
      subst hf
      exact v_zret dX12_isIn_18 rfl (by decide)
    · replace hf := (if_neg c2).symm.trans hf
      refine v_iconst dX12_isIn_13 (by decide) (v := 1) ?_
      refine v_goto dX12_isIn_14 (tgt := 18) (by decide) ?_
      replace hf := Option.some.inj hf
      subst hf
      exact v_zret dX12_isIn_18 rfl (by decide)
def M_X12_isSong : xa_M := (yX12_isSong, cX12_isSong, 2, some .boolean)
theorem cb_X12_isSong : xa_CB M_X12_isSong 1 := ⟨gws_at 1670 (by decide +kernel) rfl, gws_at 122 (by decide +kernel) rfl, by decide +kernel, Nat.le_of_ble_eq_true rfl⟩
def f_X12_isSong (h : xa_H) (l0 : Nat) (l1 : Int32) : Option Int32 :=
  (ck [12] h l0).bind fun _ =>
  if l1 < 0 then
    some (0 : Int32)
  else
    (gI [12] 30 h l0).bind fun x2 =>
    if x2 ≤ l1 then
      some (0 : Int32)
    else
      some (1 : Int32)
set_option maxRecDepth 20000 in
theorem ev_X12_isSong {G : xa_G} {h : xa_H} {l0 : Nat} {l1 : Int32} {r : Int32} (hf : f_X12_isSong h l0 l1 = some r) : xa_Ev G M_X12_isSong 0 [.ref l0, .int l1] h (some (.int r)) h := by
  refine xa_entry (by decide +kernel) (loc := [some (.ref l0), some (.int l1)]) rfl (Nat.le_of_ble_eq_true rfl) ?_
  unfold f_X12_isSong at hf
  obtain ⟨u0, eu0, hf⟩ := ob hf
  refine v_iload_n dX12_isSong_0 rfl ?_
  refine v_if_lt dX12_isSong_1 (tgt := 16) (by decide) (fun c1 => ?_) (fun c1 => ?_)
  · replace hf := (if_pos c1).symm.trans hf
    refine v_iconst dX12_isSong_16 (by decide) (v := 0) ?_
    replace hf := Option.some.inj hf
    subst hf
    exact v_zret dX12_isSong_17 rfl (by decide)
  · replace hf := (if_neg c1).symm.trans hf
    refine v_iload_n dX12_isSong_4 rfl ?_
    refine v_aload_n dX12_isSong_5 rfl ?_
    obtain ⟨x2, ex2, hf⟩ := ob hf
    refine v_getI dX12_isSong_6 fl_12_302 ex2 ?_
    refine v_icmp_ge dX12_isSong_9 (tgt := 16) (by decide) (fun c3 => ?_) (fun c3 => ?_)
    · replace hf := (if_pos c3).symm.trans hf
      refine v_iconst dX12_isSong_16 (by decide) (v := 0) ?_
      replace hf := Option.some.inj hf
      subst hf
      exact v_zret dX12_isSong_17 rfl (by decide)
    · replace hf := (if_neg c3).symm.trans hf
      refine v_iconst dX12_isSong_12 (by decide) (v := 1) ?_
      refine v_goto dX12_isSong_13 (tgt := 17) (by decide) ?_
      replace hf := Option.some.inj hf
      subst hf
      exact v_zret dX12_isSong_17 rfl (by decide)
theorem ckf_X12_isSong {h : xa_H} {l0 : Nat} {l1 : Int32} {r : Int32} (hf : f_X12_isSong h l0 l1 = some r) : ck [12] h l0 = some () := by
  obtain ⟨u, e, -⟩ := ob hf
  exact e
def M_X12_copy : xa_M := (yX12_copy, cX12_copy, 3, none)
theorem cb_X12_copy : xa_CB M_X12_copy 2 := ⟨gws_at 1800 (by decide +kernel) rfl, gws_at 122 (by decide +kernel) rfl, by decide +kernel, Nat.le_of_ble_eq_true rfl⟩
def f_X12_copy_b2 : Nat → xa_H → Nat → Nat → Int32 → Option xa_H
  | 0, _, _, _, _ => none
  | n + 1, h, l0, l1, l2 =>
    if (51 : Int32) ≤ l2 then
      some h
    else
      (aI h l0 l2).bind fun x2 =>
      (pI h l1 l2 x2).bind fun h3 =>
      f_X12_copy_b2 n h3 l0 l1 (l2 + (1 : Int32))
set_option maxRecDepth 20000 in
theorem e_X12_copy_b2 {G : xa_G} : ∀ (n : Nat) (h : xa_H) (l0 : Nat) (l1 : Nat) (l2 : Int32) (r : xa_H), f_X12_copy_b2 n h l0 l1 l2 = some r → xa_V G M_X12_copy 0 2 [some (.ref l0), some (.ref l1), some (.int l2)] [] h none r := by
  intro n
  induction n with
  | zero =>
    intro h l0 l1 l2 r hf
    cases (show (none : Option xa_H) = some r from hf)
  | succ n ih =>
    intro h l0 l1 l2 r hf
    rw [f_X12_copy_b2] at hf
    refine v_iload_n dX12_copy_2 rfl ?_
    refine v_bipush dX12_copy_3 (by decide) (v := 51) ?_
    refine v_icmp_ge dX12_copy_5 (tgt := 20) (by decide) (fun c1 => ?_) (fun c1 => ?_)
    · replace hf := (if_pos c1).symm.trans hf
      replace hf := Option.some.inj hf
      subst hf
      exact v_vret dX12_copy_20 rfl
    · replace hf := (if_neg c1).symm.trans hf
      refine v_aload_n dX12_copy_8 rfl ?_
      refine v_iload_n dX12_copy_9 rfl ?_
      refine v_aload_n dX12_copy_10 rfl ?_
      refine v_iload_n dX12_copy_11 rfl ?_
      obtain ⟨x2, ex2, hf⟩ := ob hf
      refine v_ialoadI dX12_copy_12 ex2 ?_
      obtain ⟨h3, eh3, hf⟩ := ob hf
      refine v_iastoreI dX12_copy_13 eh3 ?_
      refine v_iinc dX12_copy_14 rfl (v := (l2 + (1 : Int32))) rfl (Nat.le_of_ble_eq_true rfl) (loc' := [some (.ref l0), some (.ref l1), some (.int (l2 + (1 : Int32)))]) rfl ?_
      refine v_goto dX12_copy_17 (tgt := 2) (by decide) ?_
      exact ih h3 l0 l1 (l2 + (1 : Int32)) r hf
def f_X12_copy (h : xa_H) (l0 : Nat) (l1 : Nat) : Option xa_H :=
  f_X12_copy_b2 1048576 h l0 l1 (0 : Int32)
set_option maxRecDepth 20000 in
theorem ev_X12_copy {G : xa_G} {h : xa_H} {l0 : Nat} {l1 : Nat} {r : xa_H} (hf : f_X12_copy h l0 l1 = some r) : xa_Ev G M_X12_copy 0 [.ref l0, .ref l1] h none r := by
  refine xa_entry (by decide +kernel) (loc := [some (.ref l0), some (.ref l1), none]) rfl (Nat.le_of_ble_eq_true rfl) ?_
  unfold f_X12_copy at hf
  refine v_iconst dX12_copy_0 (by decide) (v := 0) ?_
  refine v_istore_n (i := 2) rfl dX12_copy_1 (Nat.le_of_ble_eq_true rfl) (loc' := [some (.ref l0), some (.ref l1), some (.int (0 : Int32))]) rfl ?_
  exact e_X12_copy_b2 1048576 h l0 l1 (0 : Int32) r hf
def M_X12_has : xa_M := (yX12_has, cX12_has, 2, some .boolean)
theorem cb_X12_has : xa_CB M_X12_has 2 := ⟨gws_at 1531 (by decide +kernel) rfl, gws_at 122 (by decide +kernel) rfl, by decide +kernel, Nat.le_of_ble_eq_true rfl⟩
def f_X12_has (h : xa_H) (l0 : Int32) (l1 : Int32) : Option Int32 :=
  if ((shr l0 l1) &&& (1 : Int32)) = (1 : Int32) then
    some (1 : Int32)
  else
    some (0 : Int32)
set_option maxRecDepth 20000 in
theorem ev_X12_has {G : xa_G} {h : xa_H} {l0 : Int32} {l1 : Int32} {r : Int32} (hf : f_X12_has h l0 l1 = some r) : xa_Ev G M_X12_has 0 [.int l0, .int l1] h (some (.int r)) h := by
  refine xa_entry (by decide +kernel) (loc := [some (.int l0), some (.int l1)]) rfl (Nat.le_of_ble_eq_true rfl) ?_
  unfold f_X12_has at hf
  refine v_iload_n dX12_has_0 rfl ?_
  refine v_iload_n dX12_has_1 rfl ?_
  refine w_ishr dX12_has_2 ?_
  refine v_iconst dX12_has_3 (by decide) (v := 1) ?_
  refine v_iand dX12_has_4 ?_
  refine v_iconst dX12_has_5 (by decide) (v := 1) ?_
  refine v_icmp_ne dX12_has_6 (tgt := 13) (by decide) (fun c1 => ?_) (fun c1 => ?_)
  · replace hf := (if_neg c1).symm.trans hf
    refine v_iconst dX12_has_13 (by decide) (v := 0) ?_
    replace hf := Option.some.inj hf
    subst hf
    exact v_zret dX12_has_14 rfl (by decide)
  · replace hf := (if_pos c1).symm.trans hf
    refine v_iconst dX12_has_9 (by decide) (v := 1) ?_
    refine v_goto dX12_has_10 (tgt := 14) (by decide) ?_
    replace hf := Option.some.inj hf
    subst hf
    exact v_zret dX12_has_14 rfl (by decide)
def M_X12_laysNext : xa_M := (yX12_laysNext, cX12_laysNext, 8, none)
theorem cb_X12_laysNext : xa_CB M_X12_laysNext 2 := ⟨gws_at 1692 (by decide +kernel) rfl, gws_at 122 (by decide +kernel) rfl, by decide +kernel, Nat.le_of_ble_eq_true rfl⟩
def f_X12_laysNext_b116 (k2 : xa_H → Nat → Nat → Int32 → Int32 → Option xa_H) (k13 : xa_H → Nat → Nat → Int32 → Int32 → Int32 → Option xa_H) (h : xa_H) (l0 : Nat) (l1 : Nat) (l2 : Int32) (l3 : Int32) (l4 : Int32) (l7 : Int32) : Option xa_H :=
  (gR [12] 37 h l0).bind fun x1 =>
  (pI h x1 (((6 : Int32) * l3) + l4) l7).bind fun h2 =>
  k13 h2 l0 l1 l2 l3 (l4 + (1 : Int32))
set_option maxRecDepth 20000 in
theorem e_X12_laysNext_b116 {G : xa_G} {k2 : xa_H → Nat → Nat → Int32 → Int32 → Option xa_H} (hk2 : ∀ (h : xa_H) (l0 : Nat) (l1 : Nat) (l2 : Int32) (l3 : Int32) (r : xa_H), k2 h l0 l1 l2 l3 = some r → xa_V G M_X12_laysNext 0 2 [some (.ref l0), some (.ref l1), some (.int l2), some (.int l3), none, none, none, none] [] h none r) {k13 : xa_H → Nat → Nat → Int32 → Int32 → Int32 → Option xa_H} (hk13 : ∀ (h : xa_H) (l0 : Nat) (l1 : Nat) (l2 : Int32) (l3 : Int32) (l4 : Int32) (r : xa_H), k13 h l0 l1 l2 l3 l4 = some r → xa_V G M_X12_laysNext 0 13 [some (.ref l0), some (.ref l1), some (.int l2), some (.int l3), some (.int l4), none, none, none] [] h none r) : ∀ (h : xa_H) (l0 : Nat) (l1 : Nat) (l2 : Int32) (l3 : Int32) (l4 : Int32) (l7 : Int32) (r : xa_H), f_X12_laysNext_b116 k2 k13 h l0 l1 l2 l3 l4 l7 = some r → xa_V G M_X12_laysNext 0 116 [some (.ref l0), some (.ref l1), some (.int l2), some (.int l3), some (.int l4), none, none, some (.int l7)] [] h none r := by
  intro h l0 l1 l2 l3 l4 l7 r hf
  unfold f_X12_laysNext_b116 at hf
  refine v_aload_n dX12_laysNext_116 rfl ?_
  obtain ⟨x1, ex1, hf⟩ := ob hf
  refine v_getR dX12_laysNext_117 fl_12_77 ex1 ?_
  refine v_bipush dX12_laysNext_120 (by decide) (v := 6) ?_
  refine v_iload_n dX12_laysNext_122 rfl ?_
  refine v_imul dX12_laysNext_123 ?_
  refine v_iload dX12_laysNext_124 rfl ?_
  refine v_iadd dX12_laysNext_126 ?_
  refine v_iload dX12_laysNext_127 rfl ?_
  obtain ⟨h2, eh2, hf⟩ := ob hf
  refine v_iastoreI dX12_laysNext_129 eh2 ?_
  refine v_iinc dX12_laysNext_130 rfl (v := (l4 + (1 : Int32))) rfl (Nat.le_of_ble_eq_true rfl) (loc' := [some (.ref l0), some (.ref l1), some (.int l2), some (.int l3), some (.int (l4 + (1 : Int32))), none, none, some (.int l7)]) rfl ?_
  refine v_goto dX12_laysNext_133 (tgt := 13) (by decide) ?_
  exact xa_weak (loc := [some (.ref l0), some (.ref l1), some (.int l2), some (.int l3), some (.int (l4 + (1 : Int32))), none, none, none]) ⟨rfl, ⟨rfl, ⟨rfl, ⟨rfl, ⟨rfl, trivial⟩⟩⟩⟩⟩ (hk13 h2 l0 l1 l2 l3 (l4 + (1 : Int32)) r hf)
def f_X12_laysNext_b96 (k2 : xa_H → Nat → Nat → Int32 → Int32 → Option xa_H) (k13 : xa_H → Nat → Nat → Int32 → Int32 → Int32 → Option xa_H) (h : xa_H) (l0 : Nat) (l1 : Nat) (l2 : Int32) (l3 : Int32) (l4 : Int32) (l5 : Int32) (l6 : Int32) (l7 : Int32) : Option xa_H :=
  if 0 ≤ l5 then
    f_X12_laysNext_b116 k2 k13 h l0 l1 l2 l3 l4 l7
  else
    if 0 ≤ l6 then
      f_X12_laysNext_b116 k2 k13 h l0 l1 l2 l3 l4 l7
    else
      f_X12_laysNext_b116 k2 k13 h l0 l1 l2 l3 l4 (l7 - (l5 * l6))
set_option maxRecDepth 20000 in
theorem e_X12_laysNext_b96 {G : xa_G} {k2 : xa_H → Nat → Nat → Int32 → Int32 → Option xa_H} (hk2 : ∀ (h : xa_H) (l0 : Nat) (l1 : Nat) (l2 : Int32) (l3 : Int32) (r : xa_H), k2 h l0 l1 l2 l3 = some r → xa_V G M_X12_laysNext 0 2 [some (.ref l0), some (.ref l1), some (.int l2), some (.int l3), none, none, none, none] [] h none r) {k13 : xa_H → Nat → Nat → Int32 → Int32 → Int32 → Option xa_H} (hk13 : ∀ (h : xa_H) (l0 : Nat) (l1 : Nat) (l2 : Int32) (l3 : Int32) (l4 : Int32) (r : xa_H), k13 h l0 l1 l2 l3 l4 = some r → xa_V G M_X12_laysNext 0 13 [some (.ref l0), some (.ref l1), some (.int l2), some (.int l3), some (.int l4), none, none, none] [] h none r) : ∀ (h : xa_H) (l0 : Nat) (l1 : Nat) (l2 : Int32) (l3 : Int32) (l4 : Int32) (l5 : Int32) (l6 : Int32) (l7 : Int32) (r : xa_H), f_X12_laysNext_b96 k2 k13 h l0 l1 l2 l3 l4 l5 l6 l7 = some r → xa_V G M_X12_laysNext 0 96 [some (.ref l0), some (.ref l1), some (.int l2), some (.int l3), some (.int l4), some (.int l5), some (.int l6), some (.int l7)] [] h none r := by
  intro h l0 l1 l2 l3 l4 l5 l6 l7 r hf
  unfold f_X12_laysNext_b96 at hf
  refine v_iload dX12_laysNext_96 rfl ?_
  refine v_if_ge dX12_laysNext_98 (tgt := 116) (by decide) (fun c1 => ?_) (fun c1 => ?_)
  · replace hf := (if_pos c1).symm.trans hf
    exact xa_weak (loc := [some (.ref l0), some (.ref l1), some (.int l2), some (.int l3), some (.int l4), none, none, some (.int l7)]) ⟨rfl, ⟨rfl, ⟨rfl, ⟨rfl, ⟨rfl, ⟨rfl, trivial⟩⟩⟩⟩⟩⟩ (e_X12_laysNext_b116 hk2 hk13 h l0 l1 l2 l3 l4 l7 r hf)
  · replace hf := (if_neg c1).symm.trans hf
    refine v_iload dX12_laysNext_101 rfl ?_
    refine v_if_ge dX12_laysNext_103 (tgt := 116) (by decide) (fun c2 => ?_) (fun c2 => ?_)
    · replace hf := (if_pos c2).symm.trans hf
      exact xa_weak (loc := [some (.ref l0), some (.ref l1), some (.int l2), some (.int l3), some (.int l4), none, none, some (.int l7)]) ⟨rfl, ⟨rfl, ⟨rfl, ⟨rfl, ⟨rfl, ⟨rfl, trivial⟩⟩⟩⟩⟩⟩ (e_X12_laysNext_b116 hk2 hk13 h l0 l1 l2 l3 l4 l7 r hf)
    · replace hf := (if_neg c2).symm.trans hf
      refine v_iload dX12_laysNext_106 rfl ?_
      refine v_iload dX12_laysNext_108 rfl ?_
      refine v_iload dX12_laysNext_110 rfl ?_
      refine v_imul dX12_laysNext_112 ?_
      refine v_isub dX12_laysNext_113 ?_
      refine v_istore dX12_laysNext_114 (Nat.le_of_ble_eq_true rfl) (loc' := [some (.ref l0), some (.ref l1), some (.int l2), some (.int l3), some (.int l4), some (.int l5), some (.int l6), some (.int (l7 - (l5 * l6)))]) rfl ?_
      exact xa_weak (loc := [some (.ref l0), some (.ref l1), some (.int l2), some (.int l3), some (.int l4), none, none, some (.int (l7 - (l5 * l6)))]) ⟨rfl, ⟨rfl, ⟨rfl, ⟨rfl, ⟨rfl, ⟨rfl, trivial⟩⟩⟩⟩⟩⟩ (e_X12_laysNext_b116 hk2 hk13 h l0 l1 l2 l3 l4 (l7 - (l5 * l6)) r hf)
def f_X12_laysNext_b65 (k2 : xa_H → Nat → Nat → Int32 → Int32 → Option xa_H) (k13 : xa_H → Nat → Nat → Int32 → Int32 → Int32 → Option xa_H) (h : xa_H) (l0 : Nat) (l1 : Nat) (l2 : Int32) (l3 : Int32) (l4 : Int32) (l7 : Int32) : Option xa_H :=
  f_X12_laysNext_b116 k2 k13 h l0 l1 l2 l3 l4 (-l7)
set_option maxRecDepth 20000 in
theorem e_X12_laysNext_b65 {G : xa_G} {k2 : xa_H → Nat → Nat → Int32 → Int32 → Option xa_H} (hk2 : ∀ (h : xa_H) (l0 : Nat) (l1 : Nat) (l2 : Int32) (l3 : Int32) (r : xa_H), k2 h l0 l1 l2 l3 = some r → xa_V G M_X12_laysNext 0 2 [some (.ref l0), some (.ref l1), some (.int l2), some (.int l3), none, none, none, none] [] h none r) {k13 : xa_H → Nat → Nat → Int32 → Int32 → Int32 → Option xa_H} (hk13 : ∀ (h : xa_H) (l0 : Nat) (l1 : Nat) (l2 : Int32) (l3 : Int32) (l4 : Int32) (r : xa_H), k13 h l0 l1 l2 l3 l4 = some r → xa_V G M_X12_laysNext 0 13 [some (.ref l0), some (.ref l1), some (.int l2), some (.int l3), some (.int l4), none, none, none] [] h none r) : ∀ (h : xa_H) (l0 : Nat) (l1 : Nat) (l2 : Int32) (l3 : Int32) (l4 : Int32) (l7 : Int32) (r : xa_H), f_X12_laysNext_b65 k2 k13 h l0 l1 l2 l3 l4 l7 = some r → xa_V G M_X12_laysNext 0 65 [some (.ref l0), some (.ref l1), some (.int l2), some (.int l3), some (.int l4), none, none, some (.int l7)] [] h none r := by
  intro h l0 l1 l2 l3 l4 l7 r hf
  unfold f_X12_laysNext_b65 at hf
  refine v_iload dX12_laysNext_65 rfl ?_
  refine v_ineg dX12_laysNext_67 ?_
  refine v_istore dX12_laysNext_68 (Nat.le_of_ble_eq_true rfl) (loc' := [some (.ref l0), some (.ref l1), some (.int l2), some (.int l3), some (.int l4), none, none, some (.int (-l7))]) rfl ?_
  refine v_goto dX12_laysNext_70 (tgt := 116) (by decide) ?_
  exact e_X12_laysNext_b116 hk2 hk13 h l0 l1 l2 l3 l4 (-l7) r hf
def f_X12_laysNext_b13 (k2 : xa_H → Nat → Nat → Int32 → Int32 → Option xa_H) : Nat → xa_H → Nat → Nat → Int32 → Int32 → Int32 → Option xa_H
  | 0, _, _, _, _, _, _ => none
  | n + 1, h, l0, l1, l2, l3, l4 =>
    (gI [12] 26 h l0).bind fun x1 =>
    if x1 ≤ l4 then
      k2 h l0 l1 l2 (l3 + (1 : Int32))
    else
      (aI h l1 (((6 : Int32) * l3) + l2)).bind fun x3 =>
      (aI h l1 (((6 : Int32) * l2) + l4)).bind fun x4 =>
      (aI h l1 (((6 : Int32) * l3) + l4)).bind fun x5 =>
      if l3 = l2 then
        f_X12_laysNext_b65 k2 (fun h l0 l1 l2 l3 l4 => f_X12_laysNext_b13 k2 n h l0 l1 l2 l3 l4) h l0 l1 l2 l3 l4 x5
      else
        if l4 = l2 then
          f_X12_laysNext_b65 k2 (fun h l0 l1 l2 l3 l4 => f_X12_laysNext_b13 k2 n h l0 l1 l2 l3 l4) h l0 l1 l2 l3 l4 x5
        else
          if x3 ≤ 0 then
            f_X12_laysNext_b96 k2 (fun h l0 l1 l2 l3 l4 => f_X12_laysNext_b13 k2 n h l0 l1 l2 l3 l4) h l0 l1 l2 l3 l4 x3 x4 x5
          else
            if x4 ≤ 0 then
              f_X12_laysNext_b96 k2 (fun h l0 l1 l2 l3 l4 => f_X12_laysNext_b13 k2 n h l0 l1 l2 l3 l4) h l0 l1 l2 l3 l4 x3 x4 x5
            else
              f_X12_laysNext_b116 k2 (fun h l0 l1 l2 l3 l4 => f_X12_laysNext_b13 k2 n h l0 l1 l2 l3 l4) h l0 l1 l2 l3 l4 (x5 + (x3 * x4))
set_option maxRecDepth 20000 in
theorem e_X12_laysNext_b13 {G : xa_G} {k2 : xa_H → Nat → Nat → Int32 → Int32 → Option xa_H} (hk2 : ∀ (h : xa_H) (l0 : Nat) (l1 : Nat) (l2 : Int32) (l3 : Int32) (r : xa_H), k2 h l0 l1 l2 l3 = some r → xa_V G M_X12_laysNext 0 2 [some (.ref l0), some (.ref l1), some (.int l2), some (.int l3), none, none, none, none] [] h none r) : ∀ (n : Nat) (h : xa_H) (l0 : Nat) (l1 : Nat) (l2 : Int32) (l3 : Int32) (l4 : Int32) (r : xa_H), f_X12_laysNext_b13 k2 n h l0 l1 l2 l3 l4 = some r → xa_V G M_X12_laysNext 0 13 [some (.ref l0), some (.ref l1), some (.int l2), some (.int l3), some (.int l4), none, none, none] [] h none r := by
  intro n
  induction n with
  | zero =>
    intro h l0 l1 l2 l3 l4 r hf
    cases (show (none : Option xa_H) = some r from hf)
  | succ n ih =>
    intro h l0 l1 l2 l3 l4 r hf
    rw [f_X12_laysNext_b13] at hf
    refine v_iload dX12_laysNext_13 rfl ?_
    refine v_aload_n dX12_laysNext_15 rfl ?_
    obtain ⟨x1, ex1, hf⟩ := ob hf
    refine v_getI dX12_laysNext_16 fl_12_307 ex1 ?_
    refine v_icmp_ge dX12_laysNext_19 (tgt := 136) (by decide) (fun c2 => ?_) (fun c2 => ?_)
    · replace hf := (if_pos c2).symm.trans hf
      refine v_iinc dX12_laysNext_136 rfl (v := (l3 + (1 : Int32))) rfl (Nat.le_of_ble_eq_true rfl) (loc' := [some (.ref l0), some (.ref l1), some (.int l2), some (.int (l3 + (1 : Int32))), some (.int l4), none, none, none]) rfl ?_
      refine v_goto dX12_laysNext_139 (tgt := 2) (by decide) ?_
      exact xa_weak (loc := [some (.ref l0), some (.ref l1), some (.int l2), some (.int (l3 + (1 : Int32))), none, none, none, none]) ⟨rfl, ⟨rfl, ⟨rfl, ⟨rfl, trivial⟩⟩⟩⟩ (hk2 h l0 l1 l2 (l3 + (1 : Int32)) r hf)
    · replace hf := (if_neg c2).symm.trans hf
      refine v_aload_n dX12_laysNext_22 rfl ?_
      refine v_bipush dX12_laysNext_23 (by decide) (v := 6) ?_
      refine v_iload_n dX12_laysNext_25 rfl ?_
      refine v_imul dX12_laysNext_26 ?_
      refine v_iload_n dX12_laysNext_27 rfl ?_
      refine v_iadd dX12_laysNext_28 ?_
      obtain ⟨x3, ex3, hf⟩ := ob hf
      refine v_ialoadI dX12_laysNext_29 ex3 ?_
      refine v_istore dX12_laysNext_30 (Nat.le_of_ble_eq_true rfl) (loc' := [some (.ref l0), some (.ref l1), some (.int l2), some (.int l3), some (.int l4), some (.int x3), none, none]) rfl ?_
      refine v_aload_n dX12_laysNext_32 rfl ?_
      refine v_bipush dX12_laysNext_33 (by decide) (v := 6) ?_
      refine v_iload_n dX12_laysNext_35 rfl ?_
      refine v_imul dX12_laysNext_36 ?_
      refine v_iload dX12_laysNext_37 rfl ?_
      refine v_iadd dX12_laysNext_39 ?_
      obtain ⟨x4, ex4, hf⟩ := ob hf
      refine v_ialoadI dX12_laysNext_40 ex4 ?_
      refine v_istore dX12_laysNext_41 (Nat.le_of_ble_eq_true rfl) (loc' := [some (.ref l0), some (.ref l1), some (.int l2), some (.int l3), some (.int l4), some (.int x3), some (.int x4), none]) rfl ?_
      refine v_aload_n dX12_laysNext_43 rfl ?_
      refine v_bipush dX12_laysNext_44 (by decide) (v := 6) ?_
      refine v_iload_n dX12_laysNext_46 rfl ?_
      refine v_imul dX12_laysNext_47 ?_
      refine v_iload dX12_laysNext_48 rfl ?_
      refine v_iadd dX12_laysNext_50 ?_
      obtain ⟨x5, ex5, hf⟩ := ob hf
      refine v_ialoadI dX12_laysNext_51 ex5 ?_
      refine v_istore dX12_laysNext_52 (Nat.le_of_ble_eq_true rfl) (loc' := [some (.ref l0), some (.ref l1), some (.int l2), some (.int l3), some (.int l4), some (.int x3), some (.int x4), some (.int x5)]) rfl ?_
      refine v_iload_n dX12_laysNext_54 rfl ?_
      refine v_iload_n dX12_laysNext_55 rfl ?_
      refine v_icmp_eq dX12_laysNext_56 (tgt := 65) (by decide) (fun c6 => ?_) (fun c6 => ?_)
      · replace hf := (if_pos c6).symm.trans hf
        exact xa_weak (loc := [some (.ref l0), some (.ref l1), some (.int l2), some (.int l3), some (.int l4), none, none, some (.int x5)]) ⟨rfl, ⟨rfl, ⟨rfl, ⟨rfl, ⟨rfl, ⟨rfl, trivial⟩⟩⟩⟩⟩⟩ (e_X12_laysNext_b65 hk2 ih h l0 l1 l2 l3 l4 x5 r hf)
      · replace hf := (if_neg c6).symm.trans hf
        refine v_iload dX12_laysNext_59 rfl ?_
        refine v_iload_n dX12_laysNext_61 rfl ?_
        refine v_icmp_ne dX12_laysNext_62 (tgt := 73) (by decide) (fun c7 => ?_) (fun c7 => ?_)
        · replace hf := (if_neg c7).symm.trans hf
          refine v_iload dX12_laysNext_73 rfl ?_
          refine v_if_le dX12_laysNext_75 (tgt := 96) (by decide) (fun c8 => ?_) (fun c8 => ?_)
          · replace hf := (if_pos c8).symm.trans hf
            exact e_X12_laysNext_b96 hk2 ih h l0 l1 l2 l3 l4 x3 x4 x5 r hf
          · replace hf := (if_neg c8).symm.trans hf
            refine v_iload dX12_laysNext_78 rfl ?_
            refine v_if_le dX12_laysNext_80 (tgt := 96) (by decide) (fun c9 => ?_) (fun c9 => ?_)
            · replace hf := (if_pos c9).symm.trans hf
              exact e_X12_laysNext_b96 hk2 ih h l0 l1 l2 l3 l4 x3 x4 x5 r hf
            · replace hf := (if_neg c9).symm.trans hf
              refine v_iload dX12_laysNext_83 rfl ?_
              refine v_iload dX12_laysNext_85 rfl ?_
              refine v_iload dX12_laysNext_87 rfl ?_
              refine v_imul dX12_laysNext_89 ?_
              refine v_iadd dX12_laysNext_90 ?_
              refine v_istore dX12_laysNext_91 (Nat.le_of_ble_eq_true rfl) (loc' := [some (.ref l0), some (.ref l1), some (.int l2), some (.int l3), some (.int l4), some (.int x3), some (.int x4), some (.int (x5 + (x3 * x4)))]) rfl ?_
              refine v_goto dX12_laysNext_93 (tgt := 116) (by decide) ?_
              exact xa_weak (loc := [some (.ref l0), some (.ref l1), some (.int l2), some (.int l3), some (.int l4), none, none, some (.int (x5 + (x3 * x4)))]) ⟨rfl, ⟨rfl, ⟨rfl, ⟨rfl, ⟨rfl, ⟨rfl, trivial⟩⟩⟩⟩⟩⟩ (e_X12_laysNext_b116 hk2 ih h l0 l1 l2 l3 l4 (x5 + (x3 * x4)) r hf)
        · replace hf := (if_pos c7).symm.trans hf
          exact xa_weak (loc := [some (.ref l0), some (.ref l1), some (.int l2), some (.int l3), some (.int l4), none, none, some (.int x5)]) ⟨rfl, ⟨rfl, ⟨rfl, ⟨rfl, ⟨rfl, ⟨rfl, trivial⟩⟩⟩⟩⟩⟩ (e_X12_laysNext_b65 hk2 ih h l0 l1 l2 l3 l4 x5 r hf)
def f_X12_laysNext_b2 : Nat → xa_H → Nat → Nat → Int32 → Int32 → Option xa_H
  | 0, _, _, _, _, _ => none
  | n + 1, h, l0, l1, l2, l3 =>
    (gI [12] 26 h l0).bind fun x1 =>
    if x1 ≤ l3 then
      some h
    else
      f_X12_laysNext_b13 (fun h l0 l1 l2 l3 => f_X12_laysNext_b2 n h l0 l1 l2 l3) 1048576 h l0 l1 l2 l3 (0 : Int32)
set_option maxRecDepth 20000 in
theorem e_X12_laysNext_b2 {G : xa_G} : ∀ (n : Nat) (h : xa_H) (l0 : Nat) (l1 : Nat) (l2 : Int32) (l3 : Int32) (r : xa_H), f_X12_laysNext_b2 n h l0 l1 l2 l3 = some r → xa_V G M_X12_laysNext 0 2 [some (.ref l0), some (.ref l1), some (.int l2), some (.int l3), none, none, none, none] [] h none r := by
  intro n
  induction n with
  | zero =>
    intro h l0 l1 l2 l3 r hf
    cases (show (none : Option xa_H) = some r from hf)
  | succ n ih =>
    intro h l0 l1 l2 l3 r hf
    rw [f_X12_laysNext_b2] at hf
    refine v_iload_n dX12_laysNext_2 rfl ?_
    refine v_aload_n dX12_laysNext_3 rfl ?_
    obtain ⟨x1, ex1, hf⟩ := ob hf
    refine v_getI dX12_laysNext_4 fl_12_307 ex1 ?_
    refine v_icmp_ge dX12_laysNext_7 (tgt := 142) (by decide) (fun c2 => ?_) (fun c2 => ?_)
    · replace hf := (if_pos c2).symm.trans hf
      replace hf := Option.some.inj hf
      subst hf
      exact v_vret dX12_laysNext_142 rfl
    · replace hf := (if_neg c2).symm.trans hf
      refine v_iconst dX12_laysNext_10 (by decide) (v := 0) ?_
      refine v_istore dX12_laysNext_11 (Nat.le_of_ble_eq_true rfl) (loc' := [some (.ref l0), some (.ref l1), some (.int l2), some (.int l3), some (.int (0 : Int32)), none, none, none]) rfl ?_
      exact e_X12_laysNext_b13 ih 1048576 h l0 l1 l2 l3 (0 : Int32) r hf
def f_X12_laysNext (h : xa_H) (l0 : Nat) (l1 : Nat) (l2 : Int32) : Option xa_H :=
  (ck [12] h l0).bind fun _ =>
  f_X12_laysNext_b2 1048576 h l0 l1 l2 (0 : Int32)
set_option maxRecDepth 20000 in
theorem ev_X12_laysNext {G : xa_G} {h : xa_H} {l0 : Nat} {l1 : Nat} {l2 : Int32} {r : xa_H} (hf : f_X12_laysNext h l0 l1 l2 = some r) : xa_Ev G M_X12_laysNext 0 [.ref l0, .ref l1, .int l2] h none r := by
  refine xa_entry (by decide +kernel) (loc := [some (.ref l0), some (.ref l1), some (.int l2), none, none, none, none, none]) rfl (Nat.le_of_ble_eq_true rfl) ?_
  unfold f_X12_laysNext at hf
  obtain ⟨u0, eu0, hf⟩ := ob hf
  refine v_iconst dX12_laysNext_0 (by decide) (v := 0) ?_
  refine v_istore_n (i := 3) rfl dX12_laysNext_1 (Nat.le_of_ble_eq_true rfl) (loc' := [some (.ref l0), some (.ref l1), some (.int l2), some (.int (0 : Int32)), none, none, none, none]) rfl ?_
  exact e_X12_laysNext_b2 1048576 h l0 l1 l2 (0 : Int32) r hf
theorem ckf_X12_laysNext {h : xa_H} {l0 : Nat} {l1 : Nat} {l2 : Int32} {r : xa_H} (hf : f_X12_laysNext h l0 l1 l2 = some r) : ck [12] h l0 = some () := by
  obtain ⟨u, e, -⟩ := ob hf
  exact e
def M_X12_stops : xa_M := (yX12_stops, cX12_stops, 5, some .int)
theorem cb_X12_stops : xa_CB M_X12_stops 2 := ⟨gws_at 1688 (by decide +kernel) rfl, gws_at 122 (by decide +kernel) rfl, by decide +kernel, Nat.le_of_ble_eq_true rfl⟩
def f_X12_stops_b43 (k32 : xa_H → Nat → Int32 → Option (Int32 × xa_H)) : Nat → xa_H → Nat → Int32 → Int32 → Option (Int32 × xa_H)
  | 0, _, _, _, _ => none
  | n + 1, h, l0, l3, l4 =>
    (gI [12] 26 h l0).bind fun x1 =>
    if x1 ≤ l4 then
      k32 h l0 (l3 + (1 : Int32))
    else
      (gR [12] 37 h l0).bind fun x3 =>
      (aI h x3 (((6 : Int32) * l3) + l4)).bind fun x4 =>
      (gR [12] 18 h l0).bind fun x5 =>
      (aI h x5 (1 : Int32)).bind fun x6 =>
      if x4 ≤ x6 then
        f_X12_stops_b43 k32 n h l0 l3 (l4 + (1 : Int32))
      else
        some ((3 : Int32), h)
set_option maxRecDepth 20000 in
theorem e_X12_stops_b43 {G : xa_G} {k32 : xa_H → Nat → Int32 → Option (Int32 × xa_H)} (hk32 : ∀ (h : xa_H) (l0 : Nat) (l3 : Int32) (r : (Int32 × xa_H)), k32 h l0 l3 = some r → xa_V G M_X12_stops 1 32 [some (.ref l0), none, none, some (.int l3), none] [] h (some (.int r.1)) r.2) : ∀ (n : Nat) (h : xa_H) (l0 : Nat) (l3 : Int32) (l4 : Int32) (r : (Int32 × xa_H)), f_X12_stops_b43 k32 n h l0 l3 l4 = some r → xa_V G M_X12_stops 1 43 [some (.ref l0), none, none, some (.int l3), some (.int l4)] [] h (some (.int r.1)) r.2 := by
  intro n
  induction n with
  | zero =>
    intro h l0 l3 l4 r hf
    cases (show (none : Option (Int32 × xa_H)) = some r from hf)
  | succ n ih =>
    intro h l0 l3 l4 r hf
    rw [f_X12_stops_b43] at hf
    refine v_iload dX12_stops_43 rfl ?_
    refine v_aload_n dX12_stops_45 rfl ?_
    obtain ⟨x1, ex1, hf⟩ := ob hf
    refine v_getI dX12_stops_46 fl_12_307 ex1 ?_
    refine v_icmp_ge dX12_stops_49 (tgt := 81) (by decide) (fun c2 => ?_) (fun c2 => ?_)
    · replace hf := (if_pos c2).symm.trans hf
      refine v_iinc dX12_stops_81 rfl (v := (l3 + (1 : Int32))) rfl (Nat.le_of_ble_eq_true rfl) (loc' := [some (.ref l0), none, none, some (.int (l3 + (1 : Int32))), some (.int l4)]) rfl ?_
      refine v_goto dX12_stops_84 (tgt := 32) (by decide) ?_
      exact xa_weak (loc := [some (.ref l0), none, none, some (.int (l3 + (1 : Int32))), none]) ⟨rfl, ⟨rfl, trivial⟩⟩ (hk32 h l0 (l3 + (1 : Int32)) r hf)
    · replace hf := (if_neg c2).symm.trans hf
      refine v_aload_n dX12_stops_52 rfl ?_
      obtain ⟨x3, ex3, hf⟩ := ob hf
      refine v_getR dX12_stops_53 fl_12_77 ex3 ?_
      refine v_bipush dX12_stops_56 (by decide) (v := 6) ?_
      refine v_iload_n dX12_stops_58 rfl ?_
      refine v_imul dX12_stops_59 ?_
      refine v_iload dX12_stops_60 rfl ?_
      refine v_iadd dX12_stops_62 ?_
      obtain ⟨x4, ex4, hf⟩ := ob hf
      refine v_ialoadI dX12_stops_63 ex4 ?_
      refine v_aload_n dX12_stops_64 rfl ?_
      obtain ⟨x5, ex5, hf⟩ := ob hf
      refine v_getR dX12_stops_65 fl_12_37 ex5 ?_
      refine v_iconst dX12_stops_68 (by decide) (v := 1) ?_
      obtain ⟨x6, ex6, hf⟩ := ob hf
      refine v_ialoadI dX12_stops_69 ex6 ?_
      refine v_icmp_le dX12_stops_70 (tgt := 75) (by decide) (fun c7 => ?_) (fun c7 => ?_)
      · replace hf := (if_pos c7).symm.trans hf
        refine v_iinc dX12_stops_75 rfl (v := (l4 + (1 : Int32))) rfl (Nat.le_of_ble_eq_true rfl) (loc' := [some (.ref l0), none, none, some (.int l3), some (.int (l4 + (1 : Int32)))]) rfl ?_
        refine v_goto dX12_stops_78 (tgt := 43) (by decide) ?_
        exact ih h l0 l3 (l4 + (1 : Int32)) r hf
      · replace hf := (if_neg c7).symm.trans hf
        refine v_iconst dX12_stops_73 (by decide) (v := 3) ?_
        replace hf := Option.some.inj hf
        subst hf
        exact v_iret dX12_stops_74 rfl
def f_X12_stops_b32 : Nat → xa_H → Nat → Int32 → Option (Int32 × xa_H)
  | 0, _, _, _ => none
  | n + 1, h, l0, l3 =>
    (gI [12] 26 h l0).bind fun x1 =>
    if x1 ≤ l3 then
      some ((-1 : Int32), h)
    else
      f_X12_stops_b43 (fun h l0 l3 => f_X12_stops_b32 n h l0 l3) 1048576 h l0 l3 (0 : Int32)
set_option maxRecDepth 20000 in
theorem e_X12_stops_b32 {G : xa_G} : ∀ (n : Nat) (h : xa_H) (l0 : Nat) (l3 : Int32) (r : (Int32 × xa_H)), f_X12_stops_b32 n h l0 l3 = some r → xa_V G M_X12_stops 1 32 [some (.ref l0), none, none, some (.int l3), none] [] h (some (.int r.1)) r.2 := by
  intro n
  induction n with
  | zero =>
    intro h l0 l3 r hf
    cases (show (none : Option (Int32 × xa_H)) = some r from hf)
  | succ n ih =>
    intro h l0 l3 r hf
    rw [f_X12_stops_b32] at hf
    refine v_iload_n dX12_stops_32 rfl ?_
    refine v_aload_n dX12_stops_33 rfl ?_
    obtain ⟨x1, ex1, hf⟩ := ob hf
    refine v_getI dX12_stops_34 fl_12_307 ex1 ?_
    refine v_icmp_ge dX12_stops_37 (tgt := 87) (by decide) (fun c2 => ?_) (fun c2 => ?_)
    · replace hf := (if_pos c2).symm.trans hf
      refine v_iconst dX12_stops_87 (by decide) (v := -1) ?_
      replace hf := Option.some.inj hf
      subst hf
      exact v_iret dX12_stops_88 rfl
    · replace hf := (if_neg c2).symm.trans hf
      refine v_iconst dX12_stops_40 (by decide) (v := 0) ?_
      refine v_istore dX12_stops_41 (Nat.le_of_ble_eq_true rfl) (loc' := [some (.ref l0), none, none, some (.int l3), some (.int (0 : Int32))]) rfl ?_
      exact e_X12_stops_b43 ih 1048576 h l0 l3 (0 : Int32) r hf
def f_X12_stops (h : xa_H) (l0 : Nat) (l1 : Nat) (l2 : Int32) : Option (Int32 × xa_H) :=
  (ck [12] h l0).bind fun _ =>
  (aI h l1 (48 : Int32)).bind fun x1 =>
  (f_X12_has h x1 l2).bind fun q2 =>
  if q2 = 0 then
    (aI h l1 ((36 : Int32) + l2)).bind fun x4 =>
    if x4 = 0 then
      some ((3 : Int32), h)
    else
      (f_X12_laysNext h l0 l1 l2).bind fun q6 =>
      f_X12_stops_b32 1048576 q6 l0 (0 : Int32)
  else
    some ((2 : Int32), h)
set_option maxRecDepth 20000 in
theorem ev_X12_stops {G : xa_G} {h : xa_H} {l0 : Nat} {l1 : Nat} {l2 : Int32} {r : (Int32 × xa_H)} (hf : f_X12_stops h l0 l1 l2 = some r) : xa_Ev G M_X12_stops 1 [.ref l0, .ref l1, .int l2] h (some (.int r.1)) r.2 := by
  refine xa_entry (by decide +kernel) (loc := [some (.ref l0), some (.ref l1), some (.int l2), none, none]) rfl (Nat.le_of_ble_eq_true rfl) ?_
  unfold f_X12_stops at hf
  obtain ⟨u0, eu0, hf⟩ := ob hf
  refine v_aload_n dX12_stops_0 rfl ?_
  refine v_bipush dX12_stops_1 (by decide) (v := 48) ?_
  obtain ⟨x1, ex1, hf⟩ := ob hf
  refine v_ialoadI dX12_stops_3 ex1 ?_
  refine v_iload_n dX12_stops_4 rfl ?_
  obtain ⟨q2, eq2, hf⟩ := ob hf
  refine v_callS dX12_stops_5 ⟨cb_X12_has, ml_12_244, sm_X12_has⟩ (ev_X12_has eq2) (by decide) (As := [.int x1, .int l2]) rfl (st := []) rfl (Nat.le_of_ble_eq_true rfl) rfl ?_
  refine v_if_eq dX12_stops_8 (tgt := 13) (by decide) (fun c3 => ?_) (fun c3 => ?_)
  · replace hf := (if_pos c3).symm.trans hf
    refine v_aload_n dX12_stops_13 rfl ?_
    refine v_bipush dX12_stops_14 (by decide) (v := 36) ?_
    refine v_iload_n dX12_stops_16 rfl ?_
    refine v_iadd dX12_stops_17 ?_
    obtain ⟨x4, ex4, hf⟩ := ob hf
    refine v_ialoadI dX12_stops_18 ex4 ?_
    refine v_if_ne dX12_stops_19 (tgt := 24) (by decide) (fun c5 => ?_) (fun c5 => ?_)
    · replace hf := (if_neg c5).symm.trans hf
      refine v_aload_n dX12_stops_24 rfl ?_
      refine v_aload_n dX12_stops_25 rfl ?_
      refine v_iload_n dX12_stops_26 rfl ?_
      obtain ⟨q6, eq6, hf⟩ := ob hf
      refine v_callV dX12_stops_27 ⟨cb_X12_laysNext, ml_12_331, im_X12_laysNext⟩ se_12_X12_laysNext (ckf_X12_laysNext eq6) (ev_X12_laysNext eq6) (by decide) (As := [.ref l1, .int l2]) rfl (st := []) rfl (Nat.le_of_ble_eq_true rfl) rfl ?_
      refine v_iconst dX12_stops_30 (by decide) (v := 0) ?_
      refine v_istore_n (i := 3) rfl dX12_stops_31 (Nat.le_of_ble_eq_true rfl) (loc' := [some (.ref l0), some (.ref l1), some (.int l2), some (.int (0 : Int32)), none]) rfl ?_
      exact xa_weak (loc := [some (.ref l0), none, none, some (.int (0 : Int32)), none]) ⟨rfl, ⟨rfl, trivial⟩⟩ (e_X12_stops_b32 1048576 q6 l0 (0 : Int32) r hf)
    · replace hf := (if_pos c5).symm.trans hf
      refine v_iconst dX12_stops_22 (by decide) (v := 3) ?_
      replace hf := Option.some.inj hf
      subst hf
      exact v_iret dX12_stops_23 rfl
  · replace hf := (if_neg c3).symm.trans hf
    refine v_iconst dX12_stops_11 (by decide) (v := 2) ?_
    replace hf := Option.some.inj hf
    subst hf
    exact v_iret dX12_stops_12 rfl
theorem ckf_X12_stops {h : xa_H} {l0 : Nat} {l1 : Nat} {l2 : Int32} {r : (Int32 × xa_H)} (hf : f_X12_stops h l0 l1 l2 = some r) : ck [12] h l0 = some () := by
  obtain ⟨u, e, -⟩ := ob hf
  exact e
def M_X12_can : xa_M := (yX12_can, cX12_can, 3, some .boolean)
theorem cb_X12_can : xa_CB M_X12_can 2 := ⟨gws_at 1744 (by decide +kernel) rfl, gws_at 122 (by decide +kernel) rfl, by decide +kernel, Nat.le_of_ble_eq_true rfl⟩
def f_X12_can (h : xa_H) (l0 : Nat) (l1 : Nat) (l2 : Int32) : Option (Int32 × xa_H) :=
  (ck [12] h l0).bind fun _ =>
  (f_X12_isHouse h l0 l2).bind fun q1 =>
  if q1 = 0 then
    some ((0 : Int32), h)
  else
    (f_X12_stops h l0 l1 l2).bind fun q3 =>
    if q3.1 = (-1 : Int32) then
      some ((1 : Int32), q3.2)
    else
      some ((0 : Int32), q3.2)
set_option maxRecDepth 20000 in
theorem ev_X12_can {G : xa_G} {h : xa_H} {l0 : Nat} {l1 : Nat} {l2 : Int32} {r : (Int32 × xa_H)} (hf : f_X12_can h l0 l1 l2 = some r) : xa_Ev G M_X12_can 2 [.ref l0, .ref l1, .int l2] h (some (.int r.1)) r.2 := by
  refine xa_entry (by decide +kernel) (loc := [some (.ref l0), some (.ref l1), some (.int l2)]) rfl (Nat.le_of_ble_eq_true rfl) ?_
  unfold f_X12_can at hf
  obtain ⟨u0, eu0, hf⟩ := ob hf
  refine v_aload_n dX12_can_0 rfl ?_
  refine v_iload_n dX12_can_1 rfl ?_
  obtain ⟨q1, eq1, hf⟩ := ob hf
  refine v_callV dX12_can_2 ⟨cb_X12_isHouse, ml_12_335, im_X12_isHouse⟩ se_12_X12_isHouse (ckf_X12_isHouse eq1) (ev_X12_isHouse eq1) (by decide) (As := [.int l2]) rfl (st := []) rfl (Nat.le_of_ble_eq_true rfl) rfl ?_
  refine v_if_eq dX12_can_5 (tgt := 22) (by decide) (fun c2 => ?_) (fun c2 => ?_)
  · replace hf := (if_pos c2).symm.trans hf
    refine v_iconst dX12_can_22 (by decide) (v := 0) ?_
    replace hf := Option.some.inj hf
    subst hf
    exact v_zret dX12_can_23 rfl (by decide)
  · replace hf := (if_neg c2).symm.trans hf
    refine v_aload_n dX12_can_8 rfl ?_
    refine v_aload_n dX12_can_9 rfl ?_
    refine v_iload_n dX12_can_10 rfl ?_
    obtain ⟨q3, eq3, hf⟩ := ob hf
    refine v_callV dX12_can_11 ⟨cb_X12_stops, ml_12_338, im_X12_stops⟩ se_12_X12_stops (ckf_X12_stops eq3) (ev_X12_stops eq3) (by decide) (As := [.ref l1, .int l2]) rfl (st := []) rfl (Nat.le_of_ble_eq_true rfl) rfl ?_
    refine v_iconst dX12_can_14 (by decide) (v := -1) ?_
    refine v_icmp_ne dX12_can_15 (tgt := 22) (by decide) (fun c4 => ?_) (fun c4 => ?_)
    · replace hf := (if_neg c4).symm.trans hf
      refine v_iconst dX12_can_22 (by decide) (v := 0) ?_
      replace hf := Option.some.inj hf
      subst hf
      exact v_zret dX12_can_23 rfl (by decide)
    · replace hf := (if_pos c4).symm.trans hf
      refine v_iconst dX12_can_18 (by decide) (v := 1) ?_
      refine v_goto dX12_can_19 (tgt := 23) (by decide) ?_
      replace hf := Option.some.inj hf
      subst hf
      exact v_zret dX12_can_23 rfl (by decide)
theorem ckf_X12_can {h : xa_H} {l0 : Nat} {l1 : Nat} {l2 : Int32} {r : (Int32 × xa_H)} (hf : f_X12_can h l0 l1 l2 = some r) : ck [12] h l0 = some () := by
  obtain ⟨u, e, -⟩ := ob hf
  exact e
def M_X12_inverse : xa_M := (yX12_inverse, cX12_inverse, 7, some .long)
theorem cb_X12_inverse : xa_CB M_X12_inverse 1 := ⟨gws_at 1715 (by decide +kernel) rfl, gws_at 122 (by decide +kernel) rfl, by decide +kernel, Nat.le_of_ble_eq_true rfl⟩
def f_X12_inverse_b32 (k10 : xa_H → Int64 → Int64 → Int32 → Option Int64) (h : xa_H) (l2 : Int64) (l4 : Int64) (l6 : Int32) : Option Int64 :=
  k10 h l2 (lrem (l4 * l4) (1000003 : Int64)) (l6 / (2 : Int32))
set_option maxRecDepth 20000 in
theorem e_X12_inverse_b32 {G : xa_G} {k10 : xa_H → Int64 → Int64 → Int32 → Option Int64} (hk10 : ∀ (h : xa_H) (l2 : Int64) (l4 : Int64) (l6 : Int32) (r : Int64), k10 h l2 l4 l6 = some r → xa_V G M_X12_inverse 0 10 [none, none, some (.long l2), none, some (.long l4), none, some (.int l6)] [] h (some (.long r)) h) : ∀ (h : xa_H) (l2 : Int64) (l4 : Int64) (l6 : Int32) (r : Int64), f_X12_inverse_b32 k10 h l2 l4 l6 = some r → xa_V G M_X12_inverse 0 32 [none, none, some (.long l2), none, some (.long l4), none, some (.int l6)] [] h (some (.long r)) h := by
  intro h l2 l4 l6 r hf
  unfold f_X12_inverse_b32 at hf
  refine v_lload dX12_inverse_32 rfl ?_
  refine v_lload dX12_inverse_34 rfl ?_
  refine v_lmul dX12_inverse_36 ?_
  refine v_ldc2 dX12_inverse_37 rfl col_12_328 ?_
  refine w_lrem dX12_inverse_40 (by decide) ?_
  refine v_lstore dX12_inverse_41 (Nat.le_of_ble_eq_true rfl) (loc' := [none, none, some (.long l2), none, some (.long (lrem (l4 * l4) (1000003 : Int64))), none, some (.int l6)]) rfl ?_
  refine v_iload dX12_inverse_43 rfl ?_
  refine v_iconst dX12_inverse_45 (by decide) (v := 2) ?_
  refine v_idiv dX12_inverse_46 (by decide) ?_
  refine v_istore dX12_inverse_47 (Nat.le_of_ble_eq_true rfl) (loc' := [none, none, some (.long l2), none, some (.long (lrem (l4 * l4) (1000003 : Int64))), none, some (.int (l6 / (2 : Int32)))]) rfl ?_
  refine v_goto dX12_inverse_49 (tgt := 10) (by decide) ?_
  exact hk10 h l2 (lrem (l4 * l4) (1000003 : Int64)) (l6 / (2 : Int32)) r hf
def f_X12_inverse_b10 : Nat → xa_H → Int64 → Int64 → Int32 → Option Int64
  | 0, _, _, _, _ => none
  | n + 1, h, l2, l4, l6 =>
    if l6 ≤ 0 then
      some l2
    else
      if (irem l6 (2 : Int32)) = (1 : Int32) then
        f_X12_inverse_b32 (fun h l2 l4 l6 => f_X12_inverse_b10 n h l2 l4 l6) h (lrem (l2 * l4) (1000003 : Int64)) l4 l6
      else
        f_X12_inverse_b32 (fun h l2 l4 l6 => f_X12_inverse_b10 n h l2 l4 l6) h l2 l4 l6
set_option maxRecDepth 20000 in
theorem e_X12_inverse_b10 {G : xa_G} : ∀ (n : Nat) (h : xa_H) (l2 : Int64) (l4 : Int64) (l6 : Int32) (r : Int64), f_X12_inverse_b10 n h l2 l4 l6 = some r → xa_V G M_X12_inverse 0 10 [none, none, some (.long l2), none, some (.long l4), none, some (.int l6)] [] h (some (.long r)) h := by
  intro n
  induction n with
  | zero =>
    intro h l2 l4 l6 r hf
    cases (show (none : Option Int64) = some r from hf)
  | succ n ih =>
    intro h l2 l4 l6 r hf
    rw [f_X12_inverse_b10] at hf
    refine v_iload dX12_inverse_10 rfl ?_
    refine v_if_le dX12_inverse_12 (tgt := 52) (by decide) (fun c1 => ?_) (fun c1 => ?_)
    · replace hf := (if_pos c1).symm.trans hf
      refine v_lload_n dX12_inverse_52 rfl ?_
      replace hf := Option.some.inj hf
      subst hf
      exact v_lret dX12_inverse_53 rfl
    · replace hf := (if_neg c1).symm.trans hf
      refine v_iload dX12_inverse_15 rfl ?_
      refine v_iconst dX12_inverse_17 (by decide) (v := 2) ?_
      refine w_irem dX12_inverse_18 (by decide) ?_
      refine v_iconst dX12_inverse_19 (by decide) (v := 1) ?_
      refine v_icmp_ne dX12_inverse_20 (tgt := 32) (by decide) (fun c2 => ?_) (fun c2 => ?_)
      · replace hf := (if_neg c2).symm.trans hf
        exact e_X12_inverse_b32 ih h l2 l4 l6 r hf
      · replace hf := (if_pos c2).symm.trans hf
        refine v_lload_n dX12_inverse_23 rfl ?_
        refine v_lload dX12_inverse_24 rfl ?_
        refine v_lmul dX12_inverse_26 ?_
        refine v_ldc2 dX12_inverse_27 rfl col_12_328 ?_
        refine w_lrem dX12_inverse_30 (by decide) ?_
        refine v_lstore_n (i := 2) rfl dX12_inverse_31 (Nat.le_of_ble_eq_true rfl) (loc' := [none, none, some (.long (lrem (l2 * l4) (1000003 : Int64))), none, some (.long l4), none, some (.int l6)]) rfl ?_
        exact e_X12_inverse_b32 ih h (lrem (l2 * l4) (1000003 : Int64)) l4 l6 r hf
def f_X12_inverse (h : xa_H) (l0 : Int64) : Option Int64 :=
  f_X12_inverse_b10 1048576 h (1 : Int64) l0 (1000001 : Int32)
set_option maxRecDepth 20000 in
theorem ev_X12_inverse {G : xa_G} {h : xa_H} {l0 : Int64} {r : Int64} (hf : f_X12_inverse h l0 = some r) : xa_Ev G M_X12_inverse 0 [.long l0] h (some (.long r)) h := by
  refine xa_entry (by decide +kernel) (loc := [some (.long l0), none, none, none, none, none, none]) rfl (Nat.le_of_ble_eq_true rfl) ?_
  unfold f_X12_inverse at hf
  refine v_lconst dX12_inverse_0 (by decide) (v := 1) ?_
  refine v_lstore_n (i := 2) rfl dX12_inverse_1 (Nat.le_of_ble_eq_true rfl) (loc' := [some (.long l0), none, some (.long (1 : Int64)), none, none, none, none]) rfl ?_
  refine v_lload_n dX12_inverse_2 rfl ?_
  refine v_lstore dX12_inverse_3 (Nat.le_of_ble_eq_true rfl) (loc' := [some (.long l0), none, some (.long (1 : Int64)), none, some (.long l0), none, none]) rfl ?_
  refine v_ldcw dX12_inverse_5 rfl co_12_330 ?_
  refine v_istore dX12_inverse_8 (Nat.le_of_ble_eq_true rfl) (loc' := [some (.long l0), none, some (.long (1 : Int64)), none, some (.long l0), none, some (.int (1000001 : Int32))]) rfl ?_
  exact xa_weak (loc := [none, none, some (.long (1 : Int64)), none, some (.long l0), none, some (.int (1000001 : Int32))]) ⟨rfl, ⟨rfl, ⟨rfl, trivial⟩⟩⟩ (e_X12_inverse_b10 1048576 h (1 : Int64) l0 (1000001 : Int32) r hf)
def M_X12_power : xa_M := (yX12_power, cX12_power, 6, some .long)
theorem cb_X12_power : xa_CB M_X12_power 2 := ⟨gws_at 1711 (by decide +kernel) rfl, gws_at 122 (by decide +kernel) rfl, by decide +kernel, Nat.le_of_ble_eq_true rfl⟩
def f_X12_power_b5 : Nat → xa_H → Int64 → Int32 → Int64 → Int32 → Option Int64
  | 0, _, _, _, _, _ => none
  | n + 1, h, l0, l2, l3, l5 =>
    if l2 ≤ l5 then
      some l3
    else
      f_X12_power_b5 n h l0 l2 (lrem (l3 * l0) (1000003 : Int64)) (l5 + (1 : Int32))
set_option maxRecDepth 20000 in
theorem e_X12_power_b5 {G : xa_G} : ∀ (n : Nat) (h : xa_H) (l0 : Int64) (l2 : Int32) (l3 : Int64) (l5 : Int32) (r : Int64), f_X12_power_b5 n h l0 l2 l3 l5 = some r → xa_V G M_X12_power 0 5 [some (.long l0), none, some (.int l2), some (.long l3), none, some (.int l5)] [] h (some (.long r)) h := by
  intro n
  induction n with
  | zero =>
    intro h l0 l2 l3 l5 r hf
    cases (show (none : Option Int64) = some r from hf)
  | succ n ih =>
    intro h l0 l2 l3 l5 r hf
    rw [f_X12_power_b5] at hf
    refine v_iload dX12_power_5 rfl ?_
    refine v_iload_n dX12_power_7 rfl ?_
    refine v_icmp_ge dX12_power_8 (tgt := 25) (by decide) (fun c1 => ?_) (fun c1 => ?_)
    · replace hf := (if_pos c1).symm.trans hf
      refine v_lload_n dX12_power_25 rfl ?_
      replace hf := Option.some.inj hf
      subst hf
      exact v_lret dX12_power_26 rfl
    · replace hf := (if_neg c1).symm.trans hf
      refine v_lload_n dX12_power_11 rfl ?_
      refine v_lload_n dX12_power_12 rfl ?_
      refine v_lmul dX12_power_13 ?_
      refine v_ldc2 dX12_power_14 rfl col_12_328 ?_
      refine w_lrem dX12_power_17 (by decide) ?_
      refine v_lstore_n (i := 3) rfl dX12_power_18 (Nat.le_of_ble_eq_true rfl) (loc' := [some (.long l0), none, some (.int l2), some (.long (lrem (l3 * l0) (1000003 : Int64))), none, some (.int l5)]) rfl ?_
      refine v_iinc dX12_power_19 rfl (v := (l5 + (1 : Int32))) rfl (Nat.le_of_ble_eq_true rfl) (loc' := [some (.long l0), none, some (.int l2), some (.long (lrem (l3 * l0) (1000003 : Int64))), none, some (.int (l5 + (1 : Int32)))]) rfl ?_
      refine v_goto dX12_power_22 (tgt := 5) (by decide) ?_
      exact ih h l0 l2 (lrem (l3 * l0) (1000003 : Int64)) (l5 + (1 : Int32)) r hf
def f_X12_power (h : xa_H) (l0 : Int64) (l2 : Int32) : Option Int64 :=
  f_X12_power_b5 1048576 h l0 l2 (1 : Int64) (0 : Int32)
set_option maxRecDepth 20000 in
theorem ev_X12_power {G : xa_G} {h : xa_H} {l0 : Int64} {l2 : Int32} {r : Int64} (hf : f_X12_power h l0 l2 = some r) : xa_Ev G M_X12_power 0 [.long l0, .int l2] h (some (.long r)) h := by
  refine xa_entry (by decide +kernel) (loc := [some (.long l0), none, some (.int l2), none, none, none]) rfl (Nat.le_of_ble_eq_true rfl) ?_
  unfold f_X12_power at hf
  refine v_lconst dX12_power_0 (by decide) (v := 1) ?_
  refine v_lstore_n (i := 3) rfl dX12_power_1 (Nat.le_of_ble_eq_true rfl) (loc' := [some (.long l0), none, some (.int l2), some (.long (1 : Int64)), none, none]) rfl ?_
  refine v_iconst dX12_power_2 (by decide) (v := 0) ?_
  refine v_istore dX12_power_3 (Nat.le_of_ble_eq_true rfl) (loc' := [some (.long l0), none, some (.int l2), some (.long (1 : Int64)), none, some (.int (0 : Int32))]) rfl ?_
  exact e_X12_power_b5 1048576 h l0 l2 (1 : Int64) (0 : Int32) r hf
def M_X12_freshWorth : xa_M := (yX12_freshWorth, cX12_freshWorth, 8, some .int)
theorem cb_X12_freshWorth : xa_CB M_X12_freshWorth 2 := ⟨gws_at 1708 (by decide +kernel) rfl, gws_at 122 (by decide +kernel) rfl, by decide +kernel, Nat.le_of_ble_eq_true rfl⟩
def f_X12_freshWorth_b8 : Nat → xa_H → Nat → Nat → Int32 → Int64 → Int64 → Int32 → Option Int32
  | 0, _, _, _, _, _, _, _ => none
  | n + 1, h, l0, l1, l2, l3, l5, l7 =>
    (gI [12] 26 h l0).bind fun x1 =>
    if x1 ≤ l7 then
      (aI h l1 ((36 : Int32) + l2)).bind fun x3 =>
      (f_X12_inverse h x3.toInt64).bind fun q4 =>
      some ((lrem ((lrem (l3 + l5) (1000003 : Int64)) * q4) (1000003 : Int64))).toInt32
    else
      (aI h l1 ((36 : Int32) + l7)).bind fun x5 =>
      (aI h l1 (((6 : Int32) * l7) + l2)).bind fun x6 =>
      (f_X12_power h x5.toInt64 (imax (0 : Int32) x6)).bind fun q7 =>
      (aI h l1 ((36 : Int32) + l7)).bind fun x8 =>
      (aI h l1 (((6 : Int32) * l2) + l7)).bind fun x9 =>
      (f_X12_power h x8.toInt64 (imax (0 : Int32) x9)).bind fun q10 =>
      f_X12_freshWorth_b8 n h l0 l1 l2 (lrem (l3 * q7) (1000003 : Int64)) (lrem (l5 * q10) (1000003 : Int64)) (l7 + (1 : Int32))
set_option maxRecDepth 20000 in
theorem e_X12_freshWorth_b8 {G : xa_G} : ∀ (n : Nat) (h : xa_H) (l0 : Nat) (l1 : Nat) (l2 : Int32) (l3 : Int64) (l5 : Int64) (l7 : Int32) (r : Int32), f_X12_freshWorth_b8 n h l0 l1 l2 l3 l5 l7 = some r → xa_V G M_X12_freshWorth 1 8 [some (.ref l0), some (.ref l1), some (.int l2), some (.long l3), none, some (.long l5), none, some (.int l7)] [] h (some (.int r)) h := by
  intro n
  induction n with
  | zero =>
    intro h l0 l1 l2 l3 l5 l7 r hf
    cases (show (none : Option Int32) = some r from hf)
  | succ n ih =>
    intro h l0 l1 l2 l3 l5 l7 r hf
    rw [f_X12_freshWorth_b8] at hf
    refine v_iload dX12_freshWorth_8 rfl ?_
    refine v_aload_n dX12_freshWorth_10 rfl ?_
    obtain ⟨x1, ex1, hf⟩ := ob hf
    refine v_getI dX12_freshWorth_11 fl_12_307 ex1 ?_
    refine v_icmp_ge dX12_freshWorth_14 (tgt := 87) (by decide) (fun c2 => ?_) (fun c2 => ?_)
    · replace hf := (if_pos c2).symm.trans hf
      refine v_lload_n dX12_freshWorth_87 rfl ?_
      refine v_lload dX12_freshWorth_88 rfl ?_
      refine v_ladd dX12_freshWorth_90 ?_
      refine v_ldc2 dX12_freshWorth_91 rfl col_12_328 ?_
      refine w_lrem dX12_freshWorth_94 (by decide) ?_
      refine v_aload_n dX12_freshWorth_95 rfl ?_
      refine v_bipush dX12_freshWorth_96 (by decide) (v := 36) ?_
      refine v_iload_n dX12_freshWorth_98 rfl ?_
      refine v_iadd dX12_freshWorth_99 ?_
      obtain ⟨x3, ex3, hf⟩ := ob hf
      refine v_ialoadI dX12_freshWorth_100 ex3 ?_
      refine v_i2l dX12_freshWorth_101 ?_
      obtain ⟨q4, eq4, hf⟩ := ob hf
      refine v_callS dX12_freshWorth_102 ⟨cb_X12_inverse, ml_12_346, sm_X12_inverse⟩ (ev_X12_inverse eq4) (by decide) (As := [.long x3.toInt64]) rfl (st := [.long (lrem (l3 + l5) (1000003 : Int64))]) rfl (Nat.le_of_ble_eq_true rfl) rfl ?_
      refine v_lmul dX12_freshWorth_105 ?_
      refine v_ldc2 dX12_freshWorth_106 rfl col_12_328 ?_
      refine w_lrem dX12_freshWorth_109 (by decide) ?_
      refine v_l2i dX12_freshWorth_110 ?_
      replace hf := Option.some.inj hf
      subst hf
      exact v_iret dX12_freshWorth_111 rfl
    · replace hf := (if_neg c2).symm.trans hf
      refine v_lload_n dX12_freshWorth_17 rfl ?_
      refine v_aload_n dX12_freshWorth_18 rfl ?_
      refine v_bipush dX12_freshWorth_19 (by decide) (v := 36) ?_
      refine v_iload dX12_freshWorth_21 rfl ?_
      refine v_iadd dX12_freshWorth_23 ?_
      obtain ⟨x5, ex5, hf⟩ := ob hf
      refine v_ialoadI dX12_freshWorth_24 ex5 ?_
      refine v_i2l dX12_freshWorth_25 ?_
      refine v_iconst dX12_freshWorth_26 (by decide) (v := 0) ?_
      refine v_aload_n dX12_freshWorth_27 rfl ?_
      refine v_bipush dX12_freshWorth_28 (by decide) (v := 6) ?_
      refine v_iload dX12_freshWorth_30 rfl ?_
      refine v_imul dX12_freshWorth_32 ?_
      refine v_iload_n dX12_freshWorth_33 rfl ?_
      refine v_iadd dX12_freshWorth_34 ?_
      obtain ⟨x6, ex6, hf⟩ := ob hf
      refine v_ialoadI dX12_freshWorth_35 ex6 ?_
      refine w_mmax dX12_freshWorth_36 mw_12_326 (by decide) (Nat.le_of_ble_eq_true rfl) ?_
      obtain ⟨q7, eq7, hf⟩ := ob hf
      refine v_callS dX12_freshWorth_39 ⟨cb_X12_power, ml_12_342, sm_X12_power⟩ (ev_X12_power eq7) (by decide) (As := [.long x5.toInt64, .int (imax (0 : Int32) x6)]) rfl (st := [.long l3]) rfl (Nat.le_of_ble_eq_true rfl) rfl ?_
      refine v_lmul dX12_freshWorth_42 ?_
      refine v_ldc2 dX12_freshWorth_43 rfl col_12_328 ?_
      refine w_lrem dX12_freshWorth_46 (by decide) ?_
      refine v_lstore_n (i := 3) rfl dX12_freshWorth_47 (Nat.le_of_ble_eq_true rfl) (loc' := [some (.ref l0), some (.ref l1), some (.int l2), some (.long (lrem (l3 * q7) (1000003 : Int64))), none, some (.long l5), none, some (.int l7)]) rfl ?_
      refine v_lload dX12_freshWorth_48 rfl ?_
      refine v_aload_n dX12_freshWorth_50 rfl ?_
      refine v_bipush dX12_freshWorth_51 (by decide) (v := 36) ?_
      refine v_iload dX12_freshWorth_53 rfl ?_
      refine v_iadd dX12_freshWorth_55 ?_
      obtain ⟨x8, ex8, hf⟩ := ob hf
      refine v_ialoadI dX12_freshWorth_56 ex8 ?_
      refine v_i2l dX12_freshWorth_57 ?_
      refine v_iconst dX12_freshWorth_58 (by decide) (v := 0) ?_
      refine v_aload_n dX12_freshWorth_59 rfl ?_
      refine v_bipush dX12_freshWorth_60 (by decide) (v := 6) ?_
      refine v_iload_n dX12_freshWorth_62 rfl ?_
      refine v_imul dX12_freshWorth_63 ?_
      refine v_iload dX12_freshWorth_64 rfl ?_
      refine v_iadd dX12_freshWorth_66 ?_
      obtain ⟨x9, ex9, hf⟩ := ob hf
      refine v_ialoadI dX12_freshWorth_67 ex9 ?_
      refine w_mmax dX12_freshWorth_68 mw_12_326 (by decide) (Nat.le_of_ble_eq_true rfl) ?_
      obtain ⟨q10, eq10, hf⟩ := ob hf
      refine v_callS dX12_freshWorth_71 ⟨cb_X12_power, ml_12_342, sm_X12_power⟩ (ev_X12_power eq10) (by decide) (As := [.long x8.toInt64, .int (imax (0 : Int32) x9)]) rfl (st := [.long l5]) rfl (Nat.le_of_ble_eq_true rfl) rfl ?_
      refine v_lmul dX12_freshWorth_74 ?_
      refine v_ldc2 dX12_freshWorth_75 rfl col_12_328 ?_
      refine w_lrem dX12_freshWorth_78 (by decide) ?_
      refine v_lstore dX12_freshWorth_79 (Nat.le_of_ble_eq_true rfl) (loc' := [some (.ref l0), some (.ref l1), some (.int l2), some (.long (lrem (l3 * q7) (1000003 : Int64))), none, some (.long (lrem (l5 * q10) (1000003 : Int64))), none, some (.int l7)]) rfl ?_
      refine v_iinc dX12_freshWorth_81 rfl (v := (l7 + (1 : Int32))) rfl (Nat.le_of_ble_eq_true rfl) (loc' := [some (.ref l0), some (.ref l1), some (.int l2), some (.long (lrem (l3 * q7) (1000003 : Int64))), none, some (.long (lrem (l5 * q10) (1000003 : Int64))), none, some (.int (l7 + (1 : Int32)))]) rfl ?_
      refine v_goto dX12_freshWorth_84 (tgt := 8) (by decide) ?_
      exact ih h l0 l1 l2 (lrem (l3 * q7) (1000003 : Int64)) (lrem (l5 * q10) (1000003 : Int64)) (l7 + (1 : Int32)) r hf
def f_X12_freshWorth (h : xa_H) (l0 : Nat) (l1 : Nat) (l2 : Int32) : Option Int32 :=
  (ck [12] h l0).bind fun _ =>
  f_X12_freshWorth_b8 1048576 h l0 l1 l2 (1 : Int64) (1 : Int64) (0 : Int32)
set_option maxRecDepth 20000 in
theorem ev_X12_freshWorth {G : xa_G} {h : xa_H} {l0 : Nat} {l1 : Nat} {l2 : Int32} {r : Int32} (hf : f_X12_freshWorth h l0 l1 l2 = some r) : xa_Ev G M_X12_freshWorth 1 [.ref l0, .ref l1, .int l2] h (some (.int r)) h := by
  refine xa_entry (by decide +kernel) (loc := [some (.ref l0), some (.ref l1), some (.int l2), none, none, none, none, none]) rfl (Nat.le_of_ble_eq_true rfl) ?_
  unfold f_X12_freshWorth at hf
  obtain ⟨u0, eu0, hf⟩ := ob hf
  refine v_lconst dX12_freshWorth_0 (by decide) (v := 1) ?_
  refine v_lstore_n (i := 3) rfl dX12_freshWorth_1 (Nat.le_of_ble_eq_true rfl) (loc' := [some (.ref l0), some (.ref l1), some (.int l2), some (.long (1 : Int64)), none, none, none, none]) rfl ?_
  refine v_lconst dX12_freshWorth_2 (by decide) (v := 1) ?_
  refine v_lstore dX12_freshWorth_3 (Nat.le_of_ble_eq_true rfl) (loc' := [some (.ref l0), some (.ref l1), some (.int l2), some (.long (1 : Int64)), none, some (.long (1 : Int64)), none, none]) rfl ?_
  refine v_iconst dX12_freshWorth_5 (by decide) (v := 0) ?_
  refine v_istore dX12_freshWorth_6 (Nat.le_of_ble_eq_true rfl) (loc' := [some (.ref l0), some (.ref l1), some (.int l2), some (.long (1 : Int64)), none, some (.long (1 : Int64)), none, some (.int (0 : Int32))]) rfl ?_
  exact e_X12_freshWorth_b8 1048576 h l0 l1 l2 (1 : Int64) (1 : Int64) (0 : Int32) r hf
theorem ckf_X12_freshWorth {h : xa_H} {l0 : Nat} {l1 : Nat} {l2 : Int32} {r : Int32} (hf : f_X12_freshWorth h l0 l1 l2 = some r) : ck [12] h l0 = some () := by
  obtain ⟨u, e, -⟩ := ob hf
  exact e
def M_X12_crosses : xa_M := (yX12_crosses, cX12_crosses, 6, none)
theorem cb_X12_crosses : xa_CB M_X12_crosses 2 := ⟨gws_at 1704 (by decide +kernel) rfl, gws_at 122 (by decide +kernel) rfl, by decide +kernel, Nat.le_of_ble_eq_true rfl⟩
def f_X12_crosses_b28 (k16 : xa_H → Nat → Nat → Int32 → Int32 → Int32 → Option xa_H) : Nat → xa_H → Nat → Nat → Int32 → Int32 → Int32 → Int32 → Option xa_H
  | 0, _, _, _, _, _, _, _ => none
  | n + 1, h, l0, l1, l2, l3, l4, l5 =>
    (gI [12] 26 h l0).bind fun x1 =>
    if x1 ≤ l5 then
      k16 h l0 l1 l2 l3 (l4 + (1 : Int32))
    else
      (gR [12] 37 h l0).bind fun x3 =>
      (aI h x3 (((6 : Int32) * l4) + l5)).bind fun x4 =>
      (pI h l1 (((6 : Int32) * l4) + l5) x4).bind fun h5 =>
      f_X12_crosses_b28 k16 n h5 l0 l1 l2 l3 l4 (l5 + (1 : Int32))
set_option maxRecDepth 20000 in
theorem e_X12_crosses_b28 {G : xa_G} {k16 : xa_H → Nat → Nat → Int32 → Int32 → Int32 → Option xa_H} (hk16 : ∀ (h : xa_H) (l0 : Nat) (l1 : Nat) (l2 : Int32) (l3 : Int32) (l4 : Int32) (r : xa_H), k16 h l0 l1 l2 l3 l4 = some r → xa_V G M_X12_crosses 2 16 [some (.ref l0), some (.ref l1), some (.int l2), some (.int l3), some (.int l4), none] [] h none r) : ∀ (n : Nat) (h : xa_H) (l0 : Nat) (l1 : Nat) (l2 : Int32) (l3 : Int32) (l4 : Int32) (l5 : Int32) (r : xa_H), f_X12_crosses_b28 k16 n h l0 l1 l2 l3 l4 l5 = some r → xa_V G M_X12_crosses 2 28 [some (.ref l0), some (.ref l1), some (.int l2), some (.int l3), some (.int l4), some (.int l5)] [] h none r := by
  intro n
  induction n with
  | zero =>
    intro h l0 l1 l2 l3 l4 l5 r hf
    cases (show (none : Option xa_H) = some r from hf)
  | succ n ih =>
    intro h l0 l1 l2 l3 l4 l5 r hf
    rw [f_X12_crosses_b28] at hf
    refine v_iload dX12_crosses_28 rfl ?_
    refine v_aload_n dX12_crosses_30 rfl ?_
    obtain ⟨x1, ex1, hf⟩ := ob hf
    refine v_getI dX12_crosses_31 fl_12_307 ex1 ?_
    refine v_icmp_ge dX12_crosses_34 (tgt := 66) (by decide) (fun c2 => ?_) (fun c2 => ?_)
    · replace hf := (if_pos c2).symm.trans hf
      refine v_iinc dX12_crosses_66 rfl (v := (l4 + (1 : Int32))) rfl (Nat.le_of_ble_eq_true rfl) (loc' := [some (.ref l0), some (.ref l1), some (.int l2), some (.int l3), some (.int (l4 + (1 : Int32))), some (.int l5)]) rfl ?_
      refine v_goto dX12_crosses_69 (tgt := 16) (by decide) ?_
      exact xa_weak (loc := [some (.ref l0), some (.ref l1), some (.int l2), some (.int l3), some (.int (l4 + (1 : Int32))), none]) ⟨rfl, ⟨rfl, ⟨rfl, ⟨rfl, ⟨rfl, trivial⟩⟩⟩⟩⟩ (hk16 h l0 l1 l2 l3 (l4 + (1 : Int32)) r hf)
    · replace hf := (if_neg c2).symm.trans hf
      refine v_aload_n dX12_crosses_37 rfl ?_
      refine v_bipush dX12_crosses_38 (by decide) (v := 6) ?_
      refine v_iload dX12_crosses_40 rfl ?_
      refine v_imul dX12_crosses_42 ?_
      refine v_iload dX12_crosses_43 rfl ?_
      refine v_iadd dX12_crosses_45 ?_
      refine v_aload_n dX12_crosses_46 rfl ?_
      obtain ⟨x3, ex3, hf⟩ := ob hf
      refine v_getR dX12_crosses_47 fl_12_77 ex3 ?_
      refine v_bipush dX12_crosses_50 (by decide) (v := 6) ?_
      refine v_iload dX12_crosses_52 rfl ?_
      refine v_imul dX12_crosses_54 ?_
      refine v_iload dX12_crosses_55 rfl ?_
      refine v_iadd dX12_crosses_57 ?_
      obtain ⟨x4, ex4, hf⟩ := ob hf
      refine v_ialoadI dX12_crosses_58 ex4 ?_
      obtain ⟨h5, eh5, hf⟩ := ob hf
      refine v_iastoreI dX12_crosses_59 eh5 ?_
      refine v_iinc dX12_crosses_60 rfl (v := (l5 + (1 : Int32))) rfl (Nat.le_of_ble_eq_true rfl) (loc' := [some (.ref l0), some (.ref l1), some (.int l2), some (.int l3), some (.int l4), some (.int (l5 + (1 : Int32)))]) rfl ?_
      refine v_goto dX12_crosses_63 (tgt := 28) (by decide) ?_
      exact ih h5 l0 l1 l2 l3 l4 (l5 + (1 : Int32)) r hf
def f_X12_crosses_b16 : Nat → xa_H → Nat → Nat → Int32 → Int32 → Int32 → Option xa_H
  | 0, _, _, _, _, _, _ => none
  | n + 1, h, l0, l1, l2, l3, l4 =>
    (gI [12] 26 h l0).bind fun x1 =>
    if x1 ≤ l4 then
      (pI h l1 ((36 : Int32) + l2) l3).bind fun h3 =>
      (aI h3 l1 ((42 : Int32) + l2)).bind fun x4 =>
      (pI h3 l1 ((42 : Int32) + l2) (x4 + (1 : Int32))).bind fun h5 =>
      (aI h5 l1 (50 : Int32)).bind fun x6 =>
      (pI h5 l1 (50 : Int32) (x6 + (1 : Int32))).bind fun h7 =>
      some h7
    else
      f_X12_crosses_b28 (fun h l0 l1 l2 l3 l4 => f_X12_crosses_b16 n h l0 l1 l2 l3 l4) 1048576 h l0 l1 l2 l3 l4 (0 : Int32)
set_option maxRecDepth 20000 in
theorem e_X12_crosses_b16 {G : xa_G} : ∀ (n : Nat) (h : xa_H) (l0 : Nat) (l1 : Nat) (l2 : Int32) (l3 : Int32) (l4 : Int32) (r : xa_H), f_X12_crosses_b16 n h l0 l1 l2 l3 l4 = some r → xa_V G M_X12_crosses 2 16 [some (.ref l0), some (.ref l1), some (.int l2), some (.int l3), some (.int l4), none] [] h none r := by
  intro n
  induction n with
  | zero =>
    intro h l0 l1 l2 l3 l4 r hf
    cases (show (none : Option xa_H) = some r from hf)
  | succ n ih =>
    intro h l0 l1 l2 l3 l4 r hf
    rw [f_X12_crosses_b16] at hf
    refine v_iload dX12_crosses_16 rfl ?_
    refine v_aload_n dX12_crosses_18 rfl ?_
    obtain ⟨x1, ex1, hf⟩ := ob hf
    refine v_getI dX12_crosses_19 fl_12_307 ex1 ?_
    refine v_icmp_ge dX12_crosses_22 (tgt := 72) (by decide) (fun c2 => ?_) (fun c2 => ?_)
    · replace hf := (if_pos c2).symm.trans hf
      refine v_aload_n dX12_crosses_72 rfl ?_
      refine v_bipush dX12_crosses_73 (by decide) (v := 36) ?_
      refine v_iload_n dX12_crosses_75 rfl ?_
      refine v_iadd dX12_crosses_76 ?_
      refine v_iload_n dX12_crosses_77 rfl ?_
      obtain ⟨h3, eh3, hf⟩ := ob hf
      refine v_iastoreI dX12_crosses_78 eh3 ?_
      refine v_aload_n dX12_crosses_79 rfl ?_
      refine v_bipush dX12_crosses_80 (by decide) (v := 42) ?_
      refine v_iload_n dX12_crosses_82 rfl ?_
      refine v_iadd dX12_crosses_83 ?_
      refine v_dup2 dX12_crosses_84 rfl rfl ?_
      obtain ⟨x4, ex4, hf⟩ := ob hf
      refine v_ialoadI dX12_crosses_85 ex4 ?_
      refine v_iconst dX12_crosses_86 (by decide) (v := 1) ?_
      refine v_iadd dX12_crosses_87 ?_
      obtain ⟨h5, eh5, hf⟩ := ob hf
      refine v_iastoreI dX12_crosses_88 eh5 ?_
      refine v_aload_n dX12_crosses_89 rfl ?_
      refine v_bipush dX12_crosses_90 (by decide) (v := 50) ?_
      refine v_dup2 dX12_crosses_92 rfl rfl ?_
      obtain ⟨x6, ex6, hf⟩ := ob hf
      refine v_ialoadI dX12_crosses_93 ex6 ?_
      refine v_iconst dX12_crosses_94 (by decide) (v := 1) ?_
      refine v_iadd dX12_crosses_95 ?_
      obtain ⟨h7, eh7, hf⟩ := ob hf
      refine v_iastoreI dX12_crosses_96 eh7 ?_
      replace hf := Option.some.inj hf
      subst hf
      exact v_vret dX12_crosses_97 rfl
    · replace hf := (if_neg c2).symm.trans hf
      refine v_iconst dX12_crosses_25 (by decide) (v := 0) ?_
      refine v_istore dX12_crosses_26 (Nat.le_of_ble_eq_true rfl) (loc' := [some (.ref l0), some (.ref l1), some (.int l2), some (.int l3), some (.int l4), some (.int (0 : Int32))]) rfl ?_
      exact e_X12_crosses_b28 ih 1048576 h l0 l1 l2 l3 l4 (0 : Int32) r hf
def f_X12_crosses (h : xa_H) (l0 : Nat) (l1 : Nat) (l2 : Int32) : Option xa_H :=
  (ck [12] h l0).bind fun _ =>
  (f_X12_freshWorth h l0 l1 l2).bind fun q1 =>
  (f_X12_laysNext h l0 l1 l2).bind fun q2 =>
  f_X12_crosses_b16 1048576 q2 l0 l1 l2 q1 (0 : Int32)
set_option maxRecDepth 20000 in
theorem ev_X12_crosses {G : xa_G} {h : xa_H} {l0 : Nat} {l1 : Nat} {l2 : Int32} {r : xa_H} (hf : f_X12_crosses h l0 l1 l2 = some r) : xa_Ev G M_X12_crosses 2 [.ref l0, .ref l1, .int l2] h none r := by
  refine xa_entry (by decide +kernel) (loc := [some (.ref l0), some (.ref l1), some (.int l2), none, none, none]) rfl (Nat.le_of_ble_eq_true rfl) ?_
  unfold f_X12_crosses at hf
  obtain ⟨u0, eu0, hf⟩ := ob hf
  refine v_aload_n dX12_crosses_0 rfl ?_
  refine v_aload_n dX12_crosses_1 rfl ?_
  refine v_iload_n dX12_crosses_2 rfl ?_
  obtain ⟨q1, eq1, hf⟩ := ob hf
  refine v_callV dX12_crosses_3 ⟨cb_X12_freshWorth, ml_12_350, im_X12_freshWorth⟩ se_12_X12_freshWorth (ckf_X12_freshWorth eq1) (ev_X12_freshWorth eq1) (by decide) (As := [.ref l1, .int l2]) rfl (st := []) rfl (Nat.le_of_ble_eq_true rfl) rfl ?_
  refine v_istore_n (i := 3) rfl dX12_crosses_6 (Nat.le_of_ble_eq_true rfl) (loc' := [some (.ref l0), some (.ref l1), some (.int l2), some (.int q1), none, none]) rfl ?_
  refine v_aload_n dX12_crosses_7 rfl ?_
  refine v_aload_n dX12_crosses_8 rfl ?_
  refine v_iload_n dX12_crosses_9 rfl ?_
  obtain ⟨q2, eq2, hf⟩ := ob hf
  refine v_callV dX12_crosses_10 ⟨cb_X12_laysNext, ml_12_331, im_X12_laysNext⟩ se_12_X12_laysNext (ckf_X12_laysNext eq2) (ev_X12_laysNext eq2) (by decide) (As := [.ref l1, .int l2]) rfl (st := []) rfl (Nat.le_of_ble_eq_true rfl) rfl ?_
  refine v_iconst dX12_crosses_13 (by decide) (v := 0) ?_
  refine v_istore dX12_crosses_14 (Nat.le_of_ble_eq_true rfl) (loc' := [some (.ref l0), some (.ref l1), some (.int l2), some (.int q1), some (.int (0 : Int32)), none]) rfl ?_
  exact e_X12_crosses_b16 1048576 q2 l0 l1 l2 q1 (0 : Int32) r hf
theorem ckf_X12_crosses {h : xa_H} {l0 : Nat} {l1 : Nat} {l2 : Int32} {r : xa_H} (hf : f_X12_crosses h l0 l1 l2 = some r) : ck [12] h l0 = some () := by
  obtain ⟨u, e, -⟩ := ob hf
  exact e
def M_X12_sings : xa_M := (yX12_sings, cX12_sings, 5, some .boolean)
theorem cb_X12_sings : xa_CB M_X12_sings 2 := ⟨gws_at 1804 (by decide +kernel) rfl, gws_at 122 (by decide +kernel) rfl, by decide +kernel, Nat.le_of_ble_eq_true rfl⟩
def f_X12_sings_b2 : Nat → xa_H → Nat → Nat → Int32 → Int32 → Option (Int32 × xa_H)
  | 0, _, _, _, _, _ => none
  | n + 1, h, l0, l1, l2, l3 =>
    (gR [12] 25 h l0).bind fun x1 =>
    (aI h x1 l2).bind fun x2 =>
    if x2 ≤ l3 then
      some ((1 : Int32), h)
    else
      (gR [12] 24 h l0).bind fun x4 =>
      (aI h x4 (((16 : Int32) * l2) + l3)).bind fun x5 =>
      (f_X12_can h l0 l1 x5).bind fun q6 =>
      if q6.1 = 0 then
        some ((0 : Int32), q6.2)
      else
        (f_X12_crosses q6.2 l0 l1 x5).bind fun q8 =>
        f_X12_sings_b2 n q8 l0 l1 l2 (l3 + (1 : Int32))
set_option maxRecDepth 20000 in
theorem e_X12_sings_b2 {G : xa_G} : ∀ (n : Nat) (h : xa_H) (l0 : Nat) (l1 : Nat) (l2 : Int32) (l3 : Int32) (r : (Int32 × xa_H)), f_X12_sings_b2 n h l0 l1 l2 l3 = some r → xa_V G M_X12_sings 3 2 [some (.ref l0), some (.ref l1), some (.int l2), some (.int l3), none] [] h (some (.int r.1)) r.2 := by
  intro n
  induction n with
  | zero =>
    intro h l0 l1 l2 l3 r hf
    cases (show (none : Option (Int32 × xa_H)) = some r from hf)
  | succ n ih =>
    intro h l0 l1 l2 l3 r hf
    rw [f_X12_sings_b2] at hf
    refine v_iload_n dX12_sings_2 rfl ?_
    refine v_aload_n dX12_sings_3 rfl ?_
    obtain ⟨x1, ex1, hf⟩ := ob hf
    refine v_getR dX12_sings_4 fl_12_58 ex1 ?_
    refine v_iload_n dX12_sings_7 rfl ?_
    obtain ⟨x2, ex2, hf⟩ := ob hf
    refine v_ialoadI dX12_sings_8 ex2 ?_
    refine v_icmp_ge dX12_sings_9 (tgt := 50) (by decide) (fun c3 => ?_) (fun c3 => ?_)
    · replace hf := (if_pos c3).symm.trans hf
      refine v_iconst dX12_sings_50 (by decide) (v := 1) ?_
      replace hf := Option.some.inj hf
      subst hf
      exact v_zret dX12_sings_51 rfl (by decide)
    · replace hf := (if_neg c3).symm.trans hf
      refine v_aload_n dX12_sings_12 rfl ?_
      obtain ⟨x4, ex4, hf⟩ := ob hf
      refine v_getR dX12_sings_13 fl_12_55 ex4 ?_
      refine v_bipush dX12_sings_16 (by decide) (v := 16) ?_
      refine v_iload_n dX12_sings_18 rfl ?_
      refine v_imul dX12_sings_19 ?_
      refine v_iload_n dX12_sings_20 rfl ?_
      refine v_iadd dX12_sings_21 ?_
      obtain ⟨x5, ex5, hf⟩ := ob hf
      refine v_ialoadI dX12_sings_22 ex5 ?_
      refine v_istore dX12_sings_23 (Nat.le_of_ble_eq_true rfl) (loc' := [some (.ref l0), some (.ref l1), some (.int l2), some (.int l3), some (.int x5)]) rfl ?_
      refine v_aload_n dX12_sings_25 rfl ?_
      refine v_aload_n dX12_sings_26 rfl ?_
      refine v_iload dX12_sings_27 rfl ?_
      obtain ⟨q6, eq6, hf⟩ := ob hf
      refine v_callV dX12_sings_29 ⟨cb_X12_can, ml_12_403, im_X12_can⟩ se_12_X12_can (ckf_X12_can eq6) (ev_X12_can eq6) (by decide) (As := [.ref l1, .int x5]) rfl (st := []) rfl (Nat.le_of_ble_eq_true rfl) rfl ?_
      refine v_if_ne dX12_sings_32 (tgt := 37) (by decide) (fun c7 => ?_) (fun c7 => ?_)
      · replace hf := (if_neg c7).symm.trans hf
        refine v_aload_n dX12_sings_37 rfl ?_
        refine v_aload_n dX12_sings_38 rfl ?_
        refine v_iload dX12_sings_39 rfl ?_
        obtain ⟨q8, eq8, hf⟩ := ob hf
        refine v_callV dX12_sings_41 ⟨cb_X12_crosses, ml_12_391, im_X12_crosses⟩ se_12_X12_crosses (ckf_X12_crosses eq8) (ev_X12_crosses eq8) (by decide) (As := [.ref l1, .int x5]) rfl (st := []) rfl (Nat.le_of_ble_eq_true rfl) rfl ?_
        refine v_iinc dX12_sings_44 rfl (v := (l3 + (1 : Int32))) rfl (Nat.le_of_ble_eq_true rfl) (loc' := [some (.ref l0), some (.ref l1), some (.int l2), some (.int (l3 + (1 : Int32))), some (.int x5)]) rfl ?_
        refine v_goto dX12_sings_47 (tgt := 2) (by decide) ?_
        exact xa_weak (loc := [some (.ref l0), some (.ref l1), some (.int l2), some (.int (l3 + (1 : Int32))), none]) ⟨rfl, ⟨rfl, ⟨rfl, ⟨rfl, trivial⟩⟩⟩⟩ (ih q8 l0 l1 l2 (l3 + (1 : Int32)) r hf)
      · replace hf := (if_pos c7).symm.trans hf
        refine v_iconst dX12_sings_35 (by decide) (v := 0) ?_
        replace hf := Option.some.inj hf
        subst hf
        exact v_zret dX12_sings_36 rfl (by decide)
def f_X12_sings (h : xa_H) (l0 : Nat) (l1 : Nat) (l2 : Int32) : Option (Int32 × xa_H) :=
  (ck [12] h l0).bind fun _ =>
  f_X12_sings_b2 1048576 h l0 l1 l2 (0 : Int32)
set_option maxRecDepth 20000 in
theorem ev_X12_sings {G : xa_G} {h : xa_H} {l0 : Nat} {l1 : Nat} {l2 : Int32} {r : (Int32 × xa_H)} (hf : f_X12_sings h l0 l1 l2 = some r) : xa_Ev G M_X12_sings 3 [.ref l0, .ref l1, .int l2] h (some (.int r.1)) r.2 := by
  refine xa_entry (by decide +kernel) (loc := [some (.ref l0), some (.ref l1), some (.int l2), none, none]) rfl (Nat.le_of_ble_eq_true rfl) ?_
  unfold f_X12_sings at hf
  obtain ⟨u0, eu0, hf⟩ := ob hf
  refine v_iconst dX12_sings_0 (by decide) (v := 0) ?_
  refine v_istore_n (i := 3) rfl dX12_sings_1 (Nat.le_of_ble_eq_true rfl) (loc' := [some (.ref l0), some (.ref l1), some (.int l2), some (.int (0 : Int32)), none]) rfl ?_
  exact e_X12_sings_b2 1048576 h l0 l1 l2 (0 : Int32) r hf
theorem ckf_X12_sings {h : xa_H} {l0 : Nat} {l1 : Nat} {l2 : Int32} {r : (Int32 × xa_H)} (hf : f_X12_sings h l0 l1 l2 = some r) : ck [12] h l0 = some () := by
  obtain ⟨u, e, -⟩ := ob hf
  exact e
def M_X12_singsOften : xa_M := (yX12_singsOften, cX12_singsOften, 4, some .boolean)
theorem cb_X12_singsOften : xa_CB M_X12_singsOften 2 := ⟨gws_at 1797 (by decide +kernel) rfl, gws_at 122 (by decide +kernel) rfl, by decide +kernel, Nat.le_of_ble_eq_true rfl⟩
def f_X12_singsOften_b13 : Nat → xa_H → Nat → Int32 → Int32 → Int32 → Option (Int32 × xa_H)
  | 0, _, _, _, _, _ => none
  | n + 1, h, l0, l1, l2, l3 =>
    if l2 ≤ l3 then
      some ((1 : Int32), h)
    else
      (gR [12] 33 h l0).bind fun x2 =>
      (f_X12_sings h l0 x2 l1).bind fun q3 =>
      if q3.1 = 0 then
        some ((0 : Int32), q3.2)
      else
        f_X12_singsOften_b13 n q3.2 l0 l1 l2 (l3 + (1 : Int32))
set_option maxRecDepth 20000 in
theorem e_X12_singsOften_b13 {G : xa_G} : ∀ (n : Nat) (h : xa_H) (l0 : Nat) (l1 : Int32) (l2 : Int32) (l3 : Int32) (r : (Int32 × xa_H)), f_X12_singsOften_b13 n h l0 l1 l2 l3 = some r → xa_V G M_X12_singsOften 4 13 [some (.ref l0), some (.int l1), some (.int l2), some (.int l3)] [] h (some (.int r.1)) r.2 := by
  intro n
  induction n with
  | zero =>
    intro h l0 l1 l2 l3 r hf
    cases (show (none : Option (Int32 × xa_H)) = some r from hf)
  | succ n ih =>
    intro h l0 l1 l2 l3 r hf
    rw [f_X12_singsOften_b13] at hf
    refine v_iload_n dX12_singsOften_13 rfl ?_
    refine v_iload_n dX12_singsOften_14 rfl ?_
    refine v_icmp_ge dX12_singsOften_15 (tgt := 38) (by decide) (fun c1 => ?_) (fun c1 => ?_)
    · replace hf := (if_pos c1).symm.trans hf
      refine v_iconst dX12_singsOften_38 (by decide) (v := 1) ?_
      replace hf := Option.some.inj hf
      subst hf
      exact v_zret dX12_singsOften_39 rfl (by decide)
    · replace hf := (if_neg c1).symm.trans hf
      refine v_aload_n dX12_singsOften_18 rfl ?_
      refine v_aload_n dX12_singsOften_19 rfl ?_
      obtain ⟨x2, ex2, hf⟩ := ob hf
      refine v_getR dX12_singsOften_20 fl_12_64 ex2 ?_
      refine v_iload_n dX12_singsOften_23 rfl ?_
      obtain ⟨q3, eq3, hf⟩ := ob hf
      refine v_callV dX12_singsOften_24 ⟨cb_X12_sings, ml_12_432, im_X12_sings⟩ se_12_X12_sings (ckf_X12_sings eq3) (ev_X12_sings eq3) (by decide) (As := [.ref x2, .int l1]) rfl (st := []) rfl (Nat.le_of_ble_eq_true rfl) rfl ?_
      refine v_if_ne dX12_singsOften_27 (tgt := 32) (by decide) (fun c4 => ?_) (fun c4 => ?_)
      · replace hf := (if_neg c4).symm.trans hf
        refine v_iinc dX12_singsOften_32 rfl (v := (l3 + (1 : Int32))) rfl (Nat.le_of_ble_eq_true rfl) (loc' := [some (.ref l0), some (.int l1), some (.int l2), some (.int (l3 + (1 : Int32)))]) rfl ?_
        refine v_goto dX12_singsOften_35 (tgt := 13) (by decide) ?_
        exact ih q3.2 l0 l1 l2 (l3 + (1 : Int32)) r hf
      · replace hf := (if_pos c4).symm.trans hf
        refine v_iconst dX12_singsOften_30 (by decide) (v := 0) ?_
        replace hf := Option.some.inj hf
        subst hf
        exact v_zret dX12_singsOften_31 rfl (by decide)
def f_X12_singsOften (h : xa_H) (l0 : Nat) (l1 : Int32) (l2 : Int32) : Option (Int32 × xa_H) :=
  (ck [12] h l0).bind fun _ =>
  (gR [12] 32 h l0).bind fun x1 =>
  (gR [12] 33 h l0).bind fun x2 =>
  (f_X12_copy h x1 x2).bind fun q3 =>
  f_X12_singsOften_b13 1048576 q3 l0 l1 l2 (0 : Int32)
set_option maxRecDepth 20000 in
theorem ev_X12_singsOften {G : xa_G} {h : xa_H} {l0 : Nat} {l1 : Int32} {l2 : Int32} {r : (Int32 × xa_H)} (hf : f_X12_singsOften h l0 l1 l2 = some r) : xa_Ev G M_X12_singsOften 4 [.ref l0, .int l1, .int l2] h (some (.int r.1)) r.2 := by
  refine xa_entry (by decide +kernel) (loc := [some (.ref l0), some (.int l1), some (.int l2), none]) rfl (Nat.le_of_ble_eq_true rfl) ?_
  unfold f_X12_singsOften at hf
  obtain ⟨u0, eu0, hf⟩ := ob hf
  refine v_aload_n dX12_singsOften_0 rfl ?_
  obtain ⟨x1, ex1, hf⟩ := ob hf
  refine v_getR dX12_singsOften_1 fl_12_61 ex1 ?_
  refine v_aload_n dX12_singsOften_4 rfl ?_
  obtain ⟨x2, ex2, hf⟩ := ob hf
  refine v_getR dX12_singsOften_5 fl_12_64 ex2 ?_
  obtain ⟨q3, eq3, hf⟩ := ob hf
  refine v_callS dX12_singsOften_8 ⟨cb_X12_copy, ml_12_428, sm_X12_copy⟩ (ev_X12_copy eq3) (by decide) (As := [.ref x1, .ref x2]) rfl (st := []) rfl (Nat.le_of_ble_eq_true rfl) rfl ?_
  refine v_iconst dX12_singsOften_11 (by decide) (v := 0) ?_
  refine v_istore_n (i := 3) rfl dX12_singsOften_12 (Nat.le_of_ble_eq_true rfl) (loc' := [some (.ref l0), some (.int l1), some (.int l2), some (.int (0 : Int32))]) rfl ?_
  exact e_X12_singsOften_b13 1048576 q3 l0 l1 l2 (0 : Int32) r hf
theorem ckf_X12_singsOften {h : xa_H} {l0 : Nat} {l1 : Int32} {l2 : Int32} {r : (Int32 × xa_H)} (hf : f_X12_singsOften h l0 l1 l2 = some r) : ck [12] h l0 = some () := by
  obtain ⟨u, e, -⟩ := ob hf
  exact e
def M_X12_after : xa_M := (yX12_after, cX12_after, 5, some .int)
theorem cb_X12_after : xa_CB M_X12_after 4 := ⟨gws_at 1792 (by decide +kernel) rfl, gws_at 122 (by decide +kernel) rfl, by decide +kernel, Nat.le_of_ble_eq_true rfl⟩
def f_X12_after (h : xa_H) (l0 : Nat) (l1 : Int32) (l2 : Int32) (l3 : Int32) (l4 : Int32) : Option (Int32 × xa_H) :=
  (ck [12] h l0).bind fun _ =>
  (xp [12] 0 h l0 (.int (0 : Int32))).bind fun h1 =>
  (f_X12_isSong h1 l0 l1).bind fun q2 =>
  if q2 = 0 then
    some ((-1000000 : Int32), h1)
  else
    (f_X12_isIn h1 l2.toInt64 (0 : Int64) (60 : Int64)).bind fun q4 =>
    if q4 = 0 then
      some ((-1000000 : Int32), h1)
    else
      (f_X12_isHouse h1 l0 l3).bind fun q6 =>
      if q6 = 0 then
        some ((-1000000 : Int32), h1)
      else
        (f_X12_isHouse h1 l0 l4).bind fun q8 =>
        if q8 = 0 then
          some ((-1000000 : Int32), h1)
        else
          (f_X12_singsOften h1 l0 l1 l2).bind fun q10 =>
          if q10.1 = 0 then
            some ((-1000000 : Int32), q10.2)
          else
            (gR [12] 33 q10.2 l0).bind fun x12 =>
            (aI q10.2 x12 (((6 : Int32) * l3) + l4)).bind fun x13 =>
            some (x13, q10.2)
set_option maxRecDepth 20000 in
theorem ev_X12_after {G : xa_G} {h : xa_H} {l0 : Nat} {l1 : Int32} {l2 : Int32} {l3 : Int32} {l4 : Int32} {r : (Int32 × xa_H)} (hf : f_X12_after h l0 l1 l2 l3 l4 = some r) : xa_Ev G M_X12_after 5 [.ref l0, .int l1, .int l2, .int l3, .int l4] h (some (.int r.1)) r.2 := by
  refine xa_entry (by decide +kernel) (loc := [some (.ref l0), some (.int l1), some (.int l2), some (.int l3), some (.int l4)]) rfl (Nat.le_of_ble_eq_true rfl) ?_
  unfold f_X12_after at hf
  obtain ⟨u0, eu0, hf⟩ := ob hf
  refine v_aload_n dX12_after_0 rfl ?_
  refine v_iconst dX12_after_1 (by decide) (v := 0) ?_
  obtain ⟨h1, eh1, hf⟩ := ob hf
  refine v_put dX12_after_2 fp_12_111 (fun z => by cases z) (fun _ => rfl) (fun _ => rfl) eh1 ?_
  refine v_aload_n dX12_after_5 rfl ?_
  refine v_iload_n dX12_after_6 rfl ?_
  obtain ⟨q2, eq2, hf⟩ := ob hf
  refine v_callV dX12_after_7 ⟨cb_X12_isSong, ml_12_381, im_X12_isSong⟩ se_12_X12_isSong (ckf_X12_isSong eq2) (ev_X12_isSong eq2) (by decide) (As := [.int l1]) rfl (st := []) rfl (Nat.le_of_ble_eq_true rfl) rfl ?_
  refine v_if_eq dX12_after_10 (tgt := 51) (by decide) (fun c3 => ?_) (fun c3 => ?_)
  · replace hf := (if_pos c3).symm.trans hf
    refine v_ldcw dX12_after_51 rfl co_12_380 ?_
    replace hf := Option.some.inj hf
    subst hf
    exact v_iret dX12_after_54 rfl
  · replace hf := (if_neg c3).symm.trans hf
    refine v_iload_n dX12_after_13 rfl ?_
    refine v_i2l dX12_after_14 ?_
    refine v_lconst dX12_after_15 (by decide) (v := 0) ?_
    refine v_ldc2 dX12_after_16 rfl col_12_435 ?_
    obtain ⟨q4, eq4, hf⟩ := ob hf
    refine v_callS dX12_after_19 ⟨cb_X12_isIn, ml_12_232, sm_X12_isIn⟩ (ev_X12_isIn eq4) (by decide) (As := [.long l2.toInt64, .long (0 : Int64), .long (60 : Int64)]) rfl (st := []) rfl (Nat.le_of_ble_eq_true rfl) rfl ?_
    refine v_if_eq dX12_after_22 (tgt := 51) (by decide) (fun c5 => ?_) (fun c5 => ?_)
    · replace hf := (if_pos c5).symm.trans hf
      refine v_ldcw dX12_after_51 rfl co_12_380 ?_
      replace hf := Option.some.inj hf
      subst hf
      exact v_iret dX12_after_54 rfl
    · replace hf := (if_neg c5).symm.trans hf
      refine v_aload_n dX12_after_25 rfl ?_
      refine v_iload_n dX12_after_26 rfl ?_
      obtain ⟨q6, eq6, hf⟩ := ob hf
      refine v_callV dX12_after_27 ⟨cb_X12_isHouse, ml_12_335, im_X12_isHouse⟩ se_12_X12_isHouse (ckf_X12_isHouse eq6) (ev_X12_isHouse eq6) (by decide) (As := [.int l3]) rfl (st := []) rfl (Nat.le_of_ble_eq_true rfl) rfl ?_
      refine v_if_eq dX12_after_30 (tgt := 51) (by decide) (fun c7 => ?_) (fun c7 => ?_)
      · replace hf := (if_pos c7).symm.trans hf
        refine v_ldcw dX12_after_51 rfl co_12_380 ?_
        replace hf := Option.some.inj hf
        subst hf
        exact v_iret dX12_after_54 rfl
      · replace hf := (if_neg c7).symm.trans hf
        refine v_aload_n dX12_after_33 rfl ?_
        refine v_iload dX12_after_34 rfl ?_
        obtain ⟨q8, eq8, hf⟩ := ob hf
        refine v_callV dX12_after_36 ⟨cb_X12_isHouse, ml_12_335, im_X12_isHouse⟩ se_12_X12_isHouse (ckf_X12_isHouse eq8) (ev_X12_isHouse eq8) (by decide) (As := [.int l4]) rfl (st := []) rfl (Nat.le_of_ble_eq_true rfl) rfl ?_
        refine v_if_eq dX12_after_39 (tgt := 51) (by decide) (fun c9 => ?_) (fun c9 => ?_)
        · replace hf := (if_pos c9).symm.trans hf
          refine v_ldcw dX12_after_51 rfl co_12_380 ?_
          replace hf := Option.some.inj hf
          subst hf
          exact v_iret dX12_after_54 rfl
        · replace hf := (if_neg c9).symm.trans hf
          refine v_aload_n dX12_after_42 rfl ?_
          refine v_iload_n dX12_after_43 rfl ?_
          refine v_iload_n dX12_after_44 rfl ?_
          obtain ⟨q10, eq10, hf⟩ := ob hf
          refine v_callV dX12_after_45 ⟨cb_X12_singsOften, ml_12_437, im_X12_singsOften⟩ se_12_X12_singsOften (ckf_X12_singsOften eq10) (ev_X12_singsOften eq10) (by decide) (As := [.int l1, .int l2]) rfl (st := []) rfl (Nat.le_of_ble_eq_true rfl) rfl ?_
          refine v_if_ne dX12_after_48 (tgt := 55) (by decide) (fun c11 => ?_) (fun c11 => ?_)
          · replace hf := (if_neg c11).symm.trans hf
            refine v_aload_n dX12_after_55 rfl ?_
            obtain ⟨x12, ex12, hf⟩ := ob hf
            refine v_getR dX12_after_56 fl_12_64 ex12 ?_
            refine v_bipush dX12_after_59 (by decide) (v := 6) ?_
            refine v_iload_n dX12_after_61 rfl ?_
            refine v_imul dX12_after_62 ?_
            refine v_iload dX12_after_63 rfl ?_
            refine v_iadd dX12_after_65 ?_
            obtain ⟨x13, ex13, hf⟩ := ob hf
            refine v_ialoadI dX12_after_66 ex13 ?_
            replace hf := Option.some.inj hf
            subst hf
            exact v_iret dX12_after_67 rfl
          · replace hf := (if_pos c11).symm.trans hf
            refine v_ldcw dX12_after_51 rfl co_12_380 ?_
            replace hf := Option.some.inj hf
            subst hf
            exact v_iret dX12_after_54 rfl
theorem ckf_X12_after {h : xa_H} {l0 : Nat} {l1 : Int32} {l2 : Int32} {l3 : Int32} {l4 : Int32} {r : (Int32 × xa_H)} (hf : f_X12_after h l0 l1 l2 l3 l4 = some r) : ck [12] h l0 = some () := by
  obtain ⟨u, e, -⟩ := ob hf
  exact e
def M_X12_areSame : xa_M := (yX12_areSame, cX12_areSame, 4, some .boolean)
theorem cb_X12_areSame : xa_CB M_X12_areSame 3 := ⟨gws_at 1815 (by decide +kernel) rfl, gws_at 122 (by decide +kernel) rfl, by decide +kernel, Nat.le_of_ble_eq_true rfl⟩
def f_X12_areSame_b2 : Nat → xa_H → Nat → Nat → Int32 → Int32 → Option Int32
  | 0, _, _, _, _, _ => none
  | n + 1, h, l0, l1, l2, l3 =>
    if l2 ≤ l3 then
      some (1 : Int32)
    else
      (aI h l0 l3).bind fun x2 =>
      (aI h l1 l3).bind fun x3 =>
      if x2 = x3 then
        f_X12_areSame_b2 n h l0 l1 l2 (l3 + (1 : Int32))
      else
        some (0 : Int32)
set_option maxRecDepth 20000 in
theorem e_X12_areSame_b2 {G : xa_G} : ∀ (n : Nat) (h : xa_H) (l0 : Nat) (l1 : Nat) (l2 : Int32) (l3 : Int32) (r : Int32), f_X12_areSame_b2 n h l0 l1 l2 l3 = some r → xa_V G M_X12_areSame 0 2 [some (.ref l0), some (.ref l1), some (.int l2), some (.int l3)] [] h (some (.int r)) h := by
  intro n
  induction n with
  | zero =>
    intro h l0 l1 l2 l3 r hf
    cases (show (none : Option Int32) = some r from hf)
  | succ n ih =>
    intro h l0 l1 l2 l3 r hf
    rw [f_X12_areSame_b2] at hf
    refine v_iload_n dX12_areSame_2 rfl ?_
    refine v_iload_n dX12_areSame_3 rfl ?_
    refine v_icmp_ge dX12_areSame_4 (tgt := 24) (by decide) (fun c1 => ?_) (fun c1 => ?_)
    · replace hf := (if_pos c1).symm.trans hf
      refine v_iconst dX12_areSame_24 (by decide) (v := 1) ?_
      replace hf := Option.some.inj hf
      subst hf
      exact v_zret dX12_areSame_25 rfl (by decide)
    · replace hf := (if_neg c1).symm.trans hf
      refine v_aload_n dX12_areSame_7 rfl ?_
      refine v_iload_n dX12_areSame_8 rfl ?_
      obtain ⟨x2, ex2, hf⟩ := ob hf
      refine v_ialoadI dX12_areSame_9 ex2 ?_
      refine v_aload_n dX12_areSame_10 rfl ?_
      refine v_iload_n dX12_areSame_11 rfl ?_
      obtain ⟨x3, ex3, hf⟩ := ob hf
      refine v_ialoadI dX12_areSame_12 ex3 ?_
      refine v_icmp_eq dX12_areSame_13 (tgt := 18) (by decide) (fun c4 => ?_) (fun c4 => ?_)
      · replace hf := (if_pos c4).symm.trans hf
        refine v_iinc dX12_areSame_18 rfl (v := (l3 + (1 : Int32))) rfl (Nat.le_of_ble_eq_true rfl) (loc' := [some (.ref l0), some (.ref l1), some (.int l2), some (.int (l3 + (1 : Int32)))]) rfl ?_
        refine v_goto dX12_areSame_21 (tgt := 2) (by decide) ?_
        exact ih h l0 l1 l2 (l3 + (1 : Int32)) r hf
      · replace hf := (if_neg c4).symm.trans hf
        refine v_iconst dX12_areSame_16 (by decide) (v := 0) ?_
        replace hf := Option.some.inj hf
        subst hf
        exact v_zret dX12_areSame_17 rfl (by decide)
def f_X12_areSame (h : xa_H) (l0 : Nat) (l1 : Nat) (l2 : Int32) : Option Int32 :=
  f_X12_areSame_b2 1048576 h l0 l1 l2 (0 : Int32)
set_option maxRecDepth 20000 in
theorem ev_X12_areSame {G : xa_G} {h : xa_H} {l0 : Nat} {l1 : Nat} {l2 : Int32} {r : Int32} (hf : f_X12_areSame h l0 l1 l2 = some r) : xa_Ev G M_X12_areSame 0 [.ref l0, .ref l1, .int l2] h (some (.int r)) h := by
  refine xa_entry (by decide +kernel) (loc := [some (.ref l0), some (.ref l1), some (.int l2), none]) rfl (Nat.le_of_ble_eq_true rfl) ?_
  unfold f_X12_areSame at hf
  refine v_iconst dX12_areSame_0 (by decide) (v := 0) ?_
  refine v_istore_n (i := 3) rfl dX12_areSame_1 (Nat.le_of_ble_eq_true rfl) (loc' := [some (.ref l0), some (.ref l1), some (.int l2), some (.int (0 : Int32))]) rfl ?_
  exact e_X12_areSame_b2 1048576 h l0 l1 l2 (0 : Int32) r hf
def M_X12_again : xa_M := (yX12_again, cX12_again, 4, some .int)
theorem cb_X12_again : xa_CB M_X12_again 2 := ⟨gws_at 1812 (by decide +kernel) rfl, gws_at 122 (by decide +kernel) rfl, by decide +kernel, Nat.le_of_ble_eq_true rfl⟩
def f_X12_again_b84 (k45 : xa_H → Nat → Int32 → Int32 → Int32 → Option (Int32 × xa_H)) (h : xa_H) (l0 : Nat) (l1 : Int32) (l2 : Int32) (l3 : Int32) (s0 : Int32) (s1 : Nat) (s2 : Nat) : Option (Int32 × xa_H) :=
  (f_X12_areSame h s2 s1 s0).bind fun q1 =>
  if q1 = 0 then
    k45 h l0 l1 l2 (l3 + (1 : Int32))
  else
    some (l3, h)
set_option maxRecDepth 20000 in
theorem e_X12_again_b84 {G : xa_G} {k45 : xa_H → Nat → Int32 → Int32 → Int32 → Option (Int32 × xa_H)} (hk45 : ∀ (h : xa_H) (l0 : Nat) (l1 : Int32) (l2 : Int32) (l3 : Int32) (r : (Int32 × xa_H)), k45 h l0 l1 l2 l3 = some r → xa_V G M_X12_again 4 45 [some (.ref l0), some (.int l1), some (.int l2), some (.int l3)] [] h (some (.int r.1)) r.2) : ∀ (h : xa_H) (l0 : Nat) (l1 : Int32) (l2 : Int32) (l3 : Int32) (s0 : Int32) (s1 : Nat) (s2 : Nat) (r : (Int32 × xa_H)), f_X12_again_b84 k45 h l0 l1 l2 l3 s0 s1 s2 = some r → xa_V G M_X12_again 4 84 [some (.ref l0), some (.int l1), some (.int l2), some (.int l3)] [.int s0, .ref s1, .ref s2] h (some (.int r.1)) r.2 := by
  intro h l0 l1 l2 l3 s0 s1 s2 r hf
  unfold f_X12_again_b84 at hf
  obtain ⟨q1, eq1, hf⟩ := ob hf
  refine v_callS dX12_again_84 ⟨cb_X12_areSame, ml_12_440, sm_X12_areSame⟩ (ev_X12_areSame eq1) (by decide) (As := [.ref s2, .ref s1, .int s0]) rfl (st := []) rfl (Nat.le_of_ble_eq_true rfl) rfl ?_
  refine v_if_eq dX12_again_87 (tgt := 92) (by decide) (fun c2 => ?_) (fun c2 => ?_)
  · replace hf := (if_pos c2).symm.trans hf
    refine v_iinc dX12_again_92 rfl (v := (l3 + (1 : Int32))) rfl (Nat.le_of_ble_eq_true rfl) (loc' := [some (.ref l0), some (.int l1), some (.int l2), some (.int (l3 + (1 : Int32)))]) rfl ?_
    refine v_goto dX12_again_95 (tgt := 45) (by decide) ?_
    exact hk45 h l0 l1 l2 (l3 + (1 : Int32)) r hf
  · replace hf := (if_neg c2).symm.trans hf
    refine v_iload_n dX12_again_90 rfl ?_
    replace hf := Option.some.inj hf
    subst hf
    exact v_iret dX12_again_91 rfl
def f_X12_again_b45 : Nat → xa_H → Nat → Int32 → Int32 → Int32 → Option (Int32 × xa_H)
  | 0, _, _, _, _, _ => none
  | n + 1, h, l0, l1, l2, l3 =>
    if (60 : Int32) < l3 then
      some ((-1 : Int32), h)
    else
      (gR [12] 33 h l0).bind fun x2 =>
      (f_X12_sings h l0 x2 l1).bind fun q3 =>
      if q3.1 = 0 then
        some ((-1 : Int32), q3.2)
      else
        (gR [12] 33 q3.2 l0).bind fun x5 =>
        (gR [12] 32 q3.2 l0).bind fun x6 =>
        if l2 = 0 then
          f_X12_again_b84 (fun h l0 l1 l2 l3 => f_X12_again_b45 n h l0 l1 l2 l3) q3.2 l0 l1 l2 l3 (36 : Int32) x6 x5
        else
          f_X12_again_b84 (fun h l0 l1 l2 l3 => f_X12_again_b45 n h l0 l1 l2 l3) q3.2 l0 l1 l2 l3 (42 : Int32) x6 x5
set_option maxRecDepth 20000 in
theorem e_X12_again_b45 {G : xa_G} : ∀ (n : Nat) (h : xa_H) (l0 : Nat) (l1 : Int32) (l2 : Int32) (l3 : Int32) (r : (Int32 × xa_H)), f_X12_again_b45 n h l0 l1 l2 l3 = some r → xa_V G M_X12_again 4 45 [some (.ref l0), some (.int l1), some (.int l2), some (.int l3)] [] h (some (.int r.1)) r.2 := by
  intro n
  induction n with
  | zero =>
    intro h l0 l1 l2 l3 r hf
    cases (show (none : Option (Int32 × xa_H)) = some r from hf)
  | succ n ih =>
    intro h l0 l1 l2 l3 r hf
    rw [f_X12_again_b45] at hf
    refine v_iload_n dX12_again_45 rfl ?_
    refine v_bipush dX12_again_46 (by decide) (v := 60) ?_
    refine v_icmp_gt dX12_again_48 (tgt := 98) (by decide) (fun c1 => ?_) (fun c1 => ?_)
    · replace hf := (if_pos c1).symm.trans hf
      refine v_iconst dX12_again_98 (by decide) (v := -1) ?_
      replace hf := Option.some.inj hf
      subst hf
      exact v_iret dX12_again_99 rfl
    · replace hf := (if_neg c1).symm.trans hf
      refine v_aload_n dX12_again_51 rfl ?_
      refine v_aload_n dX12_again_52 rfl ?_
      obtain ⟨x2, ex2, hf⟩ := ob hf
      refine v_getR dX12_again_53 fl_12_64 ex2 ?_
      refine v_iload_n dX12_again_56 rfl ?_
      obtain ⟨q3, eq3, hf⟩ := ob hf
      refine v_callV dX12_again_57 ⟨cb_X12_sings, ml_12_432, im_X12_sings⟩ se_12_X12_sings (ckf_X12_sings eq3) (ev_X12_sings eq3) (by decide) (As := [.ref x2, .int l1]) rfl (st := []) rfl (Nat.le_of_ble_eq_true rfl) rfl ?_
      refine v_if_ne dX12_again_60 (tgt := 65) (by decide) (fun c4 => ?_) (fun c4 => ?_)
      · replace hf := (if_neg c4).symm.trans hf
        refine v_aload_n dX12_again_65 rfl ?_
        obtain ⟨x5, ex5, hf⟩ := ob hf
        refine v_getR dX12_again_66 fl_12_64 ex5 ?_
        refine v_aload_n dX12_again_69 rfl ?_
        obtain ⟨x6, ex6, hf⟩ := ob hf
        refine v_getR dX12_again_70 fl_12_61 ex6 ?_
        refine v_iload_n dX12_again_73 rfl ?_
        refine v_if_ne dX12_again_74 (tgt := 82) (by decide) (fun c7 => ?_) (fun c7 => ?_)
        · replace hf := (if_neg c7).symm.trans hf
          refine v_bipush dX12_again_82 (by decide) (v := 42) ?_
          exact e_X12_again_b84 ih q3.2 l0 l1 l2 l3 (42 : Int32) x6 x5 r hf
        · replace hf := (if_pos c7).symm.trans hf
          refine v_bipush dX12_again_77 (by decide) (v := 36) ?_
          refine v_goto dX12_again_79 (tgt := 84) (by decide) ?_
          exact e_X12_again_b84 ih q3.2 l0 l1 l2 l3 (36 : Int32) x6 x5 r hf
      · replace hf := (if_pos c4).symm.trans hf
        refine v_iconst dX12_again_63 (by decide) (v := -1) ?_
        replace hf := Option.some.inj hf
        subst hf
        exact v_iret dX12_again_64 rfl
def f_X12_again (h : xa_H) (l0 : Nat) (l1 : Int32) (l2 : Int32) : Option (Int32 × xa_H) :=
  (ck [12] h l0).bind fun _ =>
  (xp [12] 0 h l0 (.int (0 : Int32))).bind fun h1 =>
  (f_X12_isSong h1 l0 l1).bind fun q2 =>
  if q2 = 0 then
    some ((-1 : Int32), h1)
  else
    (gI [12] 26 h1 l0).bind fun x4 =>
    if x4 = 0 then
      some ((-1 : Int32), h1)
    else
      (f_X12_isIn h1 l2.toInt64 (0 : Int64) (1 : Int64)).bind fun q6 =>
      if q6 = 0 then
        some ((-1 : Int32), h1)
      else
        (gR [12] 32 h1 l0).bind fun x8 =>
        (gR [12] 33 h1 l0).bind fun x9 =>
        (f_X12_copy h1 x8 x9).bind fun q10 =>
        f_X12_again_b45 1048576 q10 l0 l1 l2 (1 : Int32)
set_option maxRecDepth 20000 in
theorem ev_X12_again {G : xa_G} {h : xa_H} {l0 : Nat} {l1 : Int32} {l2 : Int32} {r : (Int32 × xa_H)} (hf : f_X12_again h l0 l1 l2 = some r) : xa_Ev G M_X12_again 4 [.ref l0, .int l1, .int l2] h (some (.int r.1)) r.2 := by
  refine xa_entry (by decide +kernel) (loc := [some (.ref l0), some (.int l1), some (.int l2), none]) rfl (Nat.le_of_ble_eq_true rfl) ?_
  unfold f_X12_again at hf
  obtain ⟨u0, eu0, hf⟩ := ob hf
  refine v_aload_n dX12_again_0 rfl ?_
  refine v_iconst dX12_again_1 (by decide) (v := 0) ?_
  obtain ⟨h1, eh1, hf⟩ := ob hf
  refine v_put dX12_again_2 fp_12_111 (fun z => by cases z) (fun _ => rfl) (fun _ => rfl) eh1 ?_
  refine v_aload_n dX12_again_5 rfl ?_
  refine v_iload_n dX12_again_6 rfl ?_
  obtain ⟨q2, eq2, hf⟩ := ob hf
  refine v_callV dX12_again_7 ⟨cb_X12_isSong, ml_12_381, im_X12_isSong⟩ se_12_X12_isSong (ckf_X12_isSong eq2) (ev_X12_isSong eq2) (by decide) (As := [.int l1]) rfl (st := []) rfl (Nat.le_of_ble_eq_true rfl) rfl ?_
  refine v_if_eq dX12_again_10 (tgt := 30) (by decide) (fun c3 => ?_) (fun c3 => ?_)
  · replace hf := (if_pos c3).symm.trans hf
    refine v_iconst dX12_again_30 (by decide) (v := -1) ?_
    replace hf := Option.some.inj hf
    subst hf
    exact v_iret dX12_again_31 rfl
  · replace hf := (if_neg c3).symm.trans hf
    refine v_aload_n dX12_again_13 rfl ?_
    obtain ⟨x4, ex4, hf⟩ := ob hf
    refine v_getI dX12_again_14 fl_12_307 ex4 ?_
    refine v_if_eq dX12_again_17 (tgt := 30) (by decide) (fun c5 => ?_) (fun c5 => ?_)
    · replace hf := (if_pos c5).symm.trans hf
      refine v_iconst dX12_again_30 (by decide) (v := -1) ?_
      replace hf := Option.some.inj hf
      subst hf
      exact v_iret dX12_again_31 rfl
    · replace hf := (if_neg c5).symm.trans hf
      refine v_iload_n dX12_again_20 rfl ?_
      refine v_i2l dX12_again_21 ?_
      refine v_lconst dX12_again_22 (by decide) (v := 0) ?_
      refine v_lconst dX12_again_23 (by decide) (v := 1) ?_
      obtain ⟨q6, eq6, hf⟩ := ob hf
      refine v_callS dX12_again_24 ⟨cb_X12_isIn, ml_12_232, sm_X12_isIn⟩ (ev_X12_isIn eq6) (by decide) (As := [.long l2.toInt64, .long (0 : Int64), .long (1 : Int64)]) rfl (st := []) rfl (Nat.le_of_ble_eq_true rfl) rfl ?_
      refine v_if_ne dX12_again_27 (tgt := 32) (by decide) (fun c7 => ?_) (fun c7 => ?_)
      · replace hf := (if_neg c7).symm.trans hf
        refine v_aload_n dX12_again_32 rfl ?_
        obtain ⟨x8, ex8, hf⟩ := ob hf
        refine v_getR dX12_again_33 fl_12_61 ex8 ?_
        refine v_aload_n dX12_again_36 rfl ?_
        obtain ⟨x9, ex9, hf⟩ := ob hf
        refine v_getR dX12_again_37 fl_12_64 ex9 ?_
        obtain ⟨q10, eq10, hf⟩ := ob hf
        refine v_callS dX12_again_40 ⟨cb_X12_copy, ml_12_428, sm_X12_copy⟩ (ev_X12_copy eq10) (by decide) (As := [.ref x8, .ref x9]) rfl (st := []) rfl (Nat.le_of_ble_eq_true rfl) rfl ?_
        refine v_iconst dX12_again_43 (by decide) (v := 1) ?_
        refine v_istore_n (i := 3) rfl dX12_again_44 (Nat.le_of_ble_eq_true rfl) (loc' := [some (.ref l0), some (.int l1), some (.int l2), some (.int (1 : Int32))]) rfl ?_
        exact e_X12_again_b45 1048576 q10 l0 l1 l2 (1 : Int32) r hf
      · replace hf := (if_pos c7).symm.trans hf
        refine v_iconst dX12_again_30 (by decide) (v := -1) ?_
        replace hf := Option.some.inj hf
        subst hf
        exact v_iret dX12_again_31 rfl
theorem ckf_X12_again {h : xa_H} {l0 : Nat} {l1 : Int32} {l2 : Int32} {r : (Int32 × xa_H)} (hf : f_X12_again h l0 l1 l2 = some r) : ck [12] h l0 = some () := by
  obtain ⟨u, e, -⟩ := ob hf
  exact e
def M_X12_out : xa_M := (yX12_out, cX12_out, 5, some .int)
theorem cb_X12_out : xa_CB M_X12_out 2 := ⟨gws_at 1648 (by decide +kernel) rfl, gws_at 122 (by decide +kernel) rfl, by decide +kernel, Nat.le_of_ble_eq_true rfl⟩
def f_X12_out_b5 : Nat → xa_H → Nat → Nat → Int32 → Int32 → Int32 → Option Int32
  | 0, _, _, _, _, _, _ => none
  | n + 1, h, l0, l1, l2, l3, l4 =>
    (gI [12] 26 h l0).bind fun x1 =>
    if x1 ≤ l4 then
      some l3
    else
      (aI h l1 (((6 : Int32) * l2) + l4)).bind fun x3 =>
      f_X12_out_b5 n h l0 l1 l2 (l3 + (imax (0 : Int32) x3)) (l4 + (1 : Int32))
set_option maxRecDepth 20000 in
theorem e_X12_out_b5 {G : xa_G} : ∀ (n : Nat) (h : xa_H) (l0 : Nat) (l1 : Nat) (l2 : Int32) (l3 : Int32) (l4 : Int32) (r : Int32), f_X12_out_b5 n h l0 l1 l2 l3 l4 = some r → xa_V G M_X12_out 1 5 [some (.ref l0), some (.ref l1), some (.int l2), some (.int l3), some (.int l4)] [] h (some (.int r)) h := by
  intro n
  induction n with
  | zero =>
    intro h l0 l1 l2 l3 l4 r hf
    cases (show (none : Option Int32) = some r from hf)
  | succ n ih =>
    intro h l0 l1 l2 l3 l4 r hf
    rw [f_X12_out_b5] at hf
    refine v_iload dX12_out_5 rfl ?_
    refine v_aload_n dX12_out_7 rfl ?_
    obtain ⟨x1, ex1, hf⟩ := ob hf
    refine v_getI dX12_out_8 fl_12_307 ex1 ?_
    refine v_icmp_ge dX12_out_11 (tgt := 36) (by decide) (fun c2 => ?_) (fun c2 => ?_)
    · replace hf := (if_pos c2).symm.trans hf
      refine v_iload_n dX12_out_36 rfl ?_
      replace hf := Option.some.inj hf
      subst hf
      exact v_iret dX12_out_37 rfl
    · replace hf := (if_neg c2).symm.trans hf
      refine v_iload_n dX12_out_14 rfl ?_
      refine v_iconst dX12_out_15 (by decide) (v := 0) ?_
      refine v_aload_n dX12_out_16 rfl ?_
      refine v_bipush dX12_out_17 (by decide) (v := 6) ?_
      refine v_iload_n dX12_out_19 rfl ?_
      refine v_imul dX12_out_20 ?_
      refine v_iload dX12_out_21 rfl ?_
      refine v_iadd dX12_out_23 ?_
      obtain ⟨x3, ex3, hf⟩ := ob hf
      refine v_ialoadI dX12_out_24 ex3 ?_
      refine w_mmax dX12_out_25 mw_12_326 (by decide) (Nat.le_of_ble_eq_true rfl) ?_
      refine v_iadd dX12_out_28 ?_
      refine v_istore_n (i := 3) rfl dX12_out_29 (Nat.le_of_ble_eq_true rfl) (loc' := [some (.ref l0), some (.ref l1), some (.int l2), some (.int (l3 + (imax (0 : Int32) x3))), some (.int l4)]) rfl ?_
      refine v_iinc dX12_out_30 rfl (v := (l4 + (1 : Int32))) rfl (Nat.le_of_ble_eq_true rfl) (loc' := [some (.ref l0), some (.ref l1), some (.int l2), some (.int (l3 + (imax (0 : Int32) x3))), some (.int (l4 + (1 : Int32)))]) rfl ?_
      refine v_goto dX12_out_33 (tgt := 5) (by decide) ?_
      exact ih h l0 l1 l2 (l3 + (imax (0 : Int32) x3)) (l4 + (1 : Int32)) r hf
def f_X12_out (h : xa_H) (l0 : Nat) (l1 : Nat) (l2 : Int32) : Option Int32 :=
  (ck [12] h l0).bind fun _ =>
  f_X12_out_b5 1048576 h l0 l1 l2 (0 : Int32) (0 : Int32)
set_option maxRecDepth 20000 in
theorem ev_X12_out {G : xa_G} {h : xa_H} {l0 : Nat} {l1 : Nat} {l2 : Int32} {r : Int32} (hf : f_X12_out h l0 l1 l2 = some r) : xa_Ev G M_X12_out 1 [.ref l0, .ref l1, .int l2] h (some (.int r)) h := by
  refine xa_entry (by decide +kernel) (loc := [some (.ref l0), some (.ref l1), some (.int l2), none, none]) rfl (Nat.le_of_ble_eq_true rfl) ?_
  unfold f_X12_out at hf
  obtain ⟨u0, eu0, hf⟩ := ob hf
  refine v_iconst dX12_out_0 (by decide) (v := 0) ?_
  refine v_istore_n (i := 3) rfl dX12_out_1 (Nat.le_of_ble_eq_true rfl) (loc' := [some (.ref l0), some (.ref l1), some (.int l2), some (.int (0 : Int32)), none]) rfl ?_
  refine v_iconst dX12_out_2 (by decide) (v := 0) ?_
  refine v_istore dX12_out_3 (Nat.le_of_ble_eq_true rfl) (loc' := [some (.ref l0), some (.ref l1), some (.int l2), some (.int (0 : Int32)), some (.int (0 : Int32))]) rfl ?_
  exact e_X12_out_b5 1048576 h l0 l1 l2 (0 : Int32) (0 : Int32) r hf
theorem ckf_X12_out {h : xa_H} {l0 : Nat} {l1 : Nat} {l2 : Int32} {r : Int32} (hf : f_X12_out h l0 l1 l2 = some r) : ck [12] h l0 = some () := by
  obtain ⟨u, e, -⟩ := ob hf
  exact e
def M_X12_allFavours : xa_M := (yX12_allFavours, cX12_allFavours, 4, some .int)
theorem cb_X12_allFavours : xa_CB M_X12_allFavours 1 := ⟨gws_at 1724 (by decide +kernel) rfl, gws_at 122 (by decide +kernel) rfl, by decide +kernel, Nat.le_of_ble_eq_true rfl⟩
def f_X12_allFavours_b4 : Nat → xa_H → Nat → Nat → Int32 → Int32 → Option Int32
  | 0, _, _, _, _, _ => none
  | n + 1, h, l0, l1, l2, l3 =>
    (gI [12] 26 h l0).bind fun x1 =>
    if x1 ≤ l3 then
      some l2
    else
      (f_X12_out h l0 l1 l3).bind fun q3 =>
      f_X12_allFavours_b4 n h l0 l1 (l2 + q3) (l3 + (1 : Int32))
set_option maxRecDepth 20000 in
theorem e_X12_allFavours_b4 {G : xa_G} : ∀ (n : Nat) (h : xa_H) (l0 : Nat) (l1 : Nat) (l2 : Int32) (l3 : Int32) (r : Int32), f_X12_allFavours_b4 n h l0 l1 l2 l3 = some r → xa_V G M_X12_allFavours 2 4 [some (.ref l0), some (.ref l1), some (.int l2), some (.int l3)] [] h (some (.int r)) h := by
  intro n
  induction n with
  | zero =>
    intro h l0 l1 l2 l3 r hf
    cases (show (none : Option Int32) = some r from hf)
  | succ n ih =>
    intro h l0 l1 l2 l3 r hf
    rw [f_X12_allFavours_b4] at hf
    refine v_iload_n dX12_allFavours_4 rfl ?_
    refine v_aload_n dX12_allFavours_5 rfl ?_
    obtain ⟨x1, ex1, hf⟩ := ob hf
    refine v_getI dX12_allFavours_6 fl_12_307 ex1 ?_
    refine v_icmp_ge dX12_allFavours_9 (tgt := 27) (by decide) (fun c2 => ?_) (fun c2 => ?_)
    · replace hf := (if_pos c2).symm.trans hf
      refine v_iload_n dX12_allFavours_27 rfl ?_
      replace hf := Option.some.inj hf
      subst hf
      exact v_iret dX12_allFavours_28 rfl
    · replace hf := (if_neg c2).symm.trans hf
      refine v_iload_n dX12_allFavours_12 rfl ?_
      refine v_aload_n dX12_allFavours_13 rfl ?_
      refine v_aload_n dX12_allFavours_14 rfl ?_
      refine v_iload_n dX12_allFavours_15 rfl ?_
      obtain ⟨q3, eq3, hf⟩ := ob hf
      refine v_callV dX12_allFavours_16 ⟨cb_X12_out, ml_12_353, im_X12_out⟩ se_12_X12_out (ckf_X12_out eq3) (ev_X12_out eq3) (by decide) (As := [.ref l1, .int l3]) rfl (st := [.int l2]) rfl (Nat.le_of_ble_eq_true rfl) rfl ?_
      refine v_iadd dX12_allFavours_19 ?_
      refine v_istore_n (i := 2) rfl dX12_allFavours_20 (Nat.le_of_ble_eq_true rfl) (loc' := [some (.ref l0), some (.ref l1), some (.int (l2 + q3)), some (.int l3)]) rfl ?_
      refine v_iinc dX12_allFavours_21 rfl (v := (l3 + (1 : Int32))) rfl (Nat.le_of_ble_eq_true rfl) (loc' := [some (.ref l0), some (.ref l1), some (.int (l2 + q3)), some (.int (l3 + (1 : Int32)))]) rfl ?_
      refine v_goto dX12_allFavours_24 (tgt := 4) (by decide) ?_
      exact ih h l0 l1 (l2 + q3) (l3 + (1 : Int32)) r hf
def f_X12_allFavours (h : xa_H) (l0 : Nat) (l1 : Nat) : Option Int32 :=
  (ck [12] h l0).bind fun _ =>
  f_X12_allFavours_b4 1048576 h l0 l1 (0 : Int32) (0 : Int32)
set_option maxRecDepth 20000 in
theorem ev_X12_allFavours {G : xa_G} {h : xa_H} {l0 : Nat} {l1 : Nat} {r : Int32} (hf : f_X12_allFavours h l0 l1 = some r) : xa_Ev G M_X12_allFavours 2 [.ref l0, .ref l1] h (some (.int r)) h := by
  refine xa_entry (by decide +kernel) (loc := [some (.ref l0), some (.ref l1), none, none]) rfl (Nat.le_of_ble_eq_true rfl) ?_
  unfold f_X12_allFavours at hf
  obtain ⟨u0, eu0, hf⟩ := ob hf
  refine v_iconst dX12_allFavours_0 (by decide) (v := 0) ?_
  refine v_istore_n (i := 2) rfl dX12_allFavours_1 (Nat.le_of_ble_eq_true rfl) (loc' := [some (.ref l0), some (.ref l1), some (.int (0 : Int32)), none]) rfl ?_
  refine v_iconst dX12_allFavours_2 (by decide) (v := 0) ?_
  refine v_istore_n (i := 3) rfl dX12_allFavours_3 (Nat.le_of_ble_eq_true rfl) (loc' := [some (.ref l0), some (.ref l1), some (.int (0 : Int32)), some (.int (0 : Int32))]) rfl ?_
  exact e_X12_allFavours_b4 1048576 h l0 l1 (0 : Int32) (0 : Int32) r hf
theorem ckf_X12_allFavours {h : xa_H} {l0 : Nat} {l1 : Nat} {r : Int32} (hf : f_X12_allFavours h l0 l1 = some r) : ck [12] h l0 = some () := by
  obtain ⟨u, e, -⟩ := ob hf
  exact e
def M_X12_in : xa_M := (yX12_in, cX12_in, 5, some .int)
theorem cb_X12_in : xa_CB M_X12_in 2 := ⟨gws_at 1643 (by decide +kernel) rfl, gws_at 122 (by decide +kernel) rfl, by decide +kernel, Nat.le_of_ble_eq_true rfl⟩
def f_X12_in_b5 : Nat → xa_H → Nat → Nat → Int32 → Int32 → Int32 → Option Int32
  | 0, _, _, _, _, _, _ => none
  | n + 1, h, l0, l1, l2, l3, l4 =>
    (gI [12] 26 h l0).bind fun x1 =>
    if x1 ≤ l4 then
      some l3
    else
      (aI h l1 (((6 : Int32) * l4) + l2)).bind fun x3 =>
      f_X12_in_b5 n h l0 l1 l2 (l3 + (imax (0 : Int32) x3)) (l4 + (1 : Int32))
set_option maxRecDepth 20000 in
theorem e_X12_in_b5 {G : xa_G} : ∀ (n : Nat) (h : xa_H) (l0 : Nat) (l1 : Nat) (l2 : Int32) (l3 : Int32) (l4 : Int32) (r : Int32), f_X12_in_b5 n h l0 l1 l2 l3 l4 = some r → xa_V G M_X12_in 1 5 [some (.ref l0), some (.ref l1), some (.int l2), some (.int l3), some (.int l4)] [] h (some (.int r)) h := by
  intro n
  induction n with
  | zero =>
    intro h l0 l1 l2 l3 l4 r hf
    cases (show (none : Option Int32) = some r from hf)
  | succ n ih =>
    intro h l0 l1 l2 l3 l4 r hf
    rw [f_X12_in_b5] at hf
    refine v_iload dX12_in_5 rfl ?_
    refine v_aload_n dX12_in_7 rfl ?_
    obtain ⟨x1, ex1, hf⟩ := ob hf
    refine v_getI dX12_in_8 fl_12_307 ex1 ?_
    refine v_icmp_ge dX12_in_11 (tgt := 36) (by decide) (fun c2 => ?_) (fun c2 => ?_)
    · replace hf := (if_pos c2).symm.trans hf
      refine v_iload_n dX12_in_36 rfl ?_
      replace hf := Option.some.inj hf
      subst hf
      exact v_iret dX12_in_37 rfl
    · replace hf := (if_neg c2).symm.trans hf
      refine v_iload_n dX12_in_14 rfl ?_
      refine v_iconst dX12_in_15 (by decide) (v := 0) ?_
      refine v_aload_n dX12_in_16 rfl ?_
      refine v_bipush dX12_in_17 (by decide) (v := 6) ?_
      refine v_iload dX12_in_19 rfl ?_
      refine v_imul dX12_in_21 ?_
      refine v_iload_n dX12_in_22 rfl ?_
      refine v_iadd dX12_in_23 ?_
      obtain ⟨x3, ex3, hf⟩ := ob hf
      refine v_ialoadI dX12_in_24 ex3 ?_
      refine w_mmax dX12_in_25 mw_12_326 (by decide) (Nat.le_of_ble_eq_true rfl) ?_
      refine v_iadd dX12_in_28 ?_
      refine v_istore_n (i := 3) rfl dX12_in_29 (Nat.le_of_ble_eq_true rfl) (loc' := [some (.ref l0), some (.ref l1), some (.int l2), some (.int (l3 + (imax (0 : Int32) x3))), some (.int l4)]) rfl ?_
      refine v_iinc dX12_in_30 rfl (v := (l4 + (1 : Int32))) rfl (Nat.le_of_ble_eq_true rfl) (loc' := [some (.ref l0), some (.ref l1), some (.int l2), some (.int (l3 + (imax (0 : Int32) x3))), some (.int (l4 + (1 : Int32)))]) rfl ?_
      refine v_goto dX12_in_33 (tgt := 5) (by decide) ?_
      exact ih h l0 l1 l2 (l3 + (imax (0 : Int32) x3)) (l4 + (1 : Int32)) r hf
def f_X12_in (h : xa_H) (l0 : Nat) (l1 : Nat) (l2 : Int32) : Option Int32 :=
  (ck [12] h l0).bind fun _ =>
  f_X12_in_b5 1048576 h l0 l1 l2 (0 : Int32) (0 : Int32)
set_option maxRecDepth 20000 in
theorem ev_X12_in {G : xa_G} {h : xa_H} {l0 : Nat} {l1 : Nat} {l2 : Int32} {r : Int32} (hf : f_X12_in h l0 l1 l2 = some r) : xa_Ev G M_X12_in 1 [.ref l0, .ref l1, .int l2] h (some (.int r)) h := by
  refine xa_entry (by decide +kernel) (loc := [some (.ref l0), some (.ref l1), some (.int l2), none, none]) rfl (Nat.le_of_ble_eq_true rfl) ?_
  unfold f_X12_in at hf
  obtain ⟨u0, eu0, hf⟩ := ob hf
  refine v_iconst dX12_in_0 (by decide) (v := 0) ?_
  refine v_istore_n (i := 3) rfl dX12_in_1 (Nat.le_of_ble_eq_true rfl) (loc' := [some (.ref l0), some (.ref l1), some (.int l2), some (.int (0 : Int32)), none]) rfl ?_
  refine v_iconst dX12_in_2 (by decide) (v := 0) ?_
  refine v_istore dX12_in_3 (Nat.le_of_ble_eq_true rfl) (loc' := [some (.ref l0), some (.ref l1), some (.int l2), some (.int (0 : Int32)), some (.int (0 : Int32))]) rfl ?_
  exact e_X12_in_b5 1048576 h l0 l1 l2 (0 : Int32) (0 : Int32) r hf
theorem ckf_X12_in {h : xa_H} {l0 : Nat} {l1 : Nat} {l2 : Int32} {r : Int32} (hf : f_X12_in h l0 l1 l2 = some r) : ck [12] h l0 = some () := by
  obtain ⟨u, e, -⟩ := ob hf
  exact e
def M_X12_valueOf : xa_M := (yX12_valueOf, cX12_valueOf, 3, some .int)
theorem cb_X12_valueOf : xa_CB M_X12_valueOf 2 := ⟨gws_at 1930 (by decide +kernel) rfl, gws_at 122 (by decide +kernel) rfl, by decide +kernel, Nat.le_of_ble_eq_true rfl⟩
def f_X12_valueOf (h : xa_H) (l0 : Nat) (l1 : Int32) (l2 : Int32) : Option Int32 :=
  (ck [12] h l0).bind fun _ =>
  if l1 = (0 : Int32) then
    (gR [12] 32 h l0).bind fun x2 =>
    (f_X12_in h l0 x2 l2).bind fun q3 =>
    some q3
  else if l1 = (1 : Int32) then
    (gR [12] 32 h l0).bind fun x5 =>
    (f_X12_out h l0 x5 l2).bind fun q6 =>
    some q6
  else if l1 = (2 : Int32) then
    (gR [12] 32 h l0).bind fun x8 =>
    (aI h x8 ((36 : Int32) + l2)).bind fun x9 =>
    some x9
  else if l1 = (3 : Int32) then
    (gR [12] 32 h l0).bind fun x11 =>
    (aI h x11 ((42 : Int32) + l2)).bind fun x12 =>
    some x12
  else 
    (gR [12] 20 h l0).bind fun x13 =>
    (aI h x13 (((3 : Int32) * l2) + (1 : Int32))).bind fun x14 =>
    some x14
set_option maxRecDepth 20000 in
theorem ev_X12_valueOf {G : xa_G} {h : xa_H} {l0 : Nat} {l1 : Int32} {l2 : Int32} {r : Int32} (hf : f_X12_valueOf h l0 l1 l2 = some r) : xa_Ev G M_X12_valueOf 2 [.ref l0, .int l1, .int l2] h (some (.int r)) h := by
  refine xa_entry (by decide +kernel) (loc := [some (.ref l0), some (.int l1), some (.int l2)]) rfl (Nat.le_of_ble_eq_true rfl) ?_
  unfold f_X12_valueOf at hf
  obtain ⟨u0, eu0, hf⟩ := ob hf
  refine v_iload_n dX12_valueOf_0 rfl ?_
  by_cases c1 : l1 = (0 : Int32)
  · replace hf := (if_pos c1).symm.trans hf
    refine v_tabIn dX12_valueOf_1 (0 : Int32) c1 (by decide) (by decide) (off := 31) rfl (tgt := 32) (by decide) ?_
    refine v_aload_n dX12_valueOf_32 rfl ?_
    refine v_aload_n dX12_valueOf_33 rfl ?_
    obtain ⟨x2, ex2, hf⟩ := ob hf
    refine v_getR dX12_valueOf_34 fl_12_61 ex2 ?_
    refine v_iload_n dX12_valueOf_37 rfl ?_
    obtain ⟨q3, eq3, hf⟩ := ob hf
    refine v_callV dX12_valueOf_38 ⟨cb_X12_in, ml_12_370, im_X12_in⟩ se_12_X12_in (ckf_X12_in eq3) (ev_X12_in eq3) (by decide) (As := [.ref x2, .int l2]) rfl (st := []) rfl (Nat.le_of_ble_eq_true rfl) rfl ?_
    replace hf := Option.some.inj hf
    subst hf
    exact v_iret dX12_valueOf_41 rfl
  replace hf := (if_neg c1).symm.trans hf
  by_cases c4 : l1 = (1 : Int32)
  · replace hf := (if_pos c4).symm.trans hf
    refine v_tabIn dX12_valueOf_1 (1 : Int32) c4 (by decide) (by decide) (off := 41) rfl (tgt := 42) (by decide) ?_
    refine v_aload_n dX12_valueOf_42 rfl ?_
    refine v_aload_n dX12_valueOf_43 rfl ?_
    obtain ⟨x5, ex5, hf⟩ := ob hf
    refine v_getR dX12_valueOf_44 fl_12_61 ex5 ?_
    refine v_iload_n dX12_valueOf_47 rfl ?_
    obtain ⟨q6, eq6, hf⟩ := ob hf
    refine v_callV dX12_valueOf_48 ⟨cb_X12_out, ml_12_353, im_X12_out⟩ se_12_X12_out (ckf_X12_out eq6) (ev_X12_out eq6) (by decide) (As := [.ref x5, .int l2]) rfl (st := []) rfl (Nat.le_of_ble_eq_true rfl) rfl ?_
    replace hf := Option.some.inj hf
    subst hf
    exact v_iret dX12_valueOf_51 rfl
  replace hf := (if_neg c4).symm.trans hf
  by_cases c7 : l1 = (2 : Int32)
  · replace hf := (if_pos c7).symm.trans hf
    refine v_tabIn dX12_valueOf_1 (2 : Int32) c7 (by decide) (by decide) (off := 51) rfl (tgt := 52) (by decide) ?_
    refine v_aload_n dX12_valueOf_52 rfl ?_
    obtain ⟨x8, ex8, hf⟩ := ob hf
    refine v_getR dX12_valueOf_53 fl_12_61 ex8 ?_
    refine v_bipush dX12_valueOf_56 (by decide) (v := 36) ?_
    refine v_iload_n dX12_valueOf_58 rfl ?_
    refine v_iadd dX12_valueOf_59 ?_
    obtain ⟨x9, ex9, hf⟩ := ob hf
    refine v_ialoadI dX12_valueOf_60 ex9 ?_
    replace hf := Option.some.inj hf
    subst hf
    exact v_iret dX12_valueOf_61 rfl
  replace hf := (if_neg c7).symm.trans hf
  by_cases c10 : l1 = (3 : Int32)
  · replace hf := (if_pos c10).symm.trans hf
    refine v_tabIn dX12_valueOf_1 (3 : Int32) c10 (by decide) (by decide) (off := 61) rfl (tgt := 62) (by decide) ?_
    refine v_aload_n dX12_valueOf_62 rfl ?_
    obtain ⟨x11, ex11, hf⟩ := ob hf
    refine v_getR dX12_valueOf_63 fl_12_61 ex11 ?_
    refine v_bipush dX12_valueOf_66 (by decide) (v := 42) ?_
    refine v_iload_n dX12_valueOf_68 rfl ?_
    refine v_iadd dX12_valueOf_69 ?_
    obtain ⟨x12, ex12, hf⟩ := ob hf
    refine v_ialoadI dX12_valueOf_70 ex12 ?_
    replace hf := Option.some.inj hf
    subst hf
    exact v_iret dX12_valueOf_71 rfl
  replace hf := (if_neg c10).symm.trans hf
  refine v_tabOut dX12_valueOf_1 (by have zc1 := tsx (n := 0) (by decide) c1; have zc4 := tsx (n := 1) (by decide) c4; have zc7 := tsx (n := 2) (by decide) c7; have zc10 := tsx (n := 3) (by decide) c10; omega) (tgt := 72) (by decide) ?_
  refine v_aload_n dX12_valueOf_72 rfl ?_
  obtain ⟨x13, ex13, hf⟩ := ob hf
  refine v_getR dX12_valueOf_73 fl_12_43 ex13 ?_
  refine v_iconst dX12_valueOf_76 (by decide) (v := 3) ?_
  refine v_iload_n dX12_valueOf_77 rfl ?_
  refine v_imul dX12_valueOf_78 ?_
  refine v_iconst dX12_valueOf_79 (by decide) (v := 1) ?_
  refine v_iadd dX12_valueOf_80 ?_
  obtain ⟨x14, ex14, hf⟩ := ob hf
  refine v_ialoadI dX12_valueOf_81 ex14 ?_
  replace hf := Option.some.inj hf
  subst hf
  exact v_iret dX12_valueOf_82 rfl
theorem ckf_X12_valueOf {h : xa_H} {l0 : Nat} {l1 : Int32} {l2 : Int32} {r : Int32} (hf : f_X12_valueOf h l0 l1 l2 = some r) : ck [12] h l0 = some () := by
  obtain ⟨u, e, -⟩ := ob hf
  exact e
def M_X12_greatest : xa_M := (yX12_greatest, cX12_greatest, 4, some .int)
theorem cb_X12_greatest : xa_CB M_X12_greatest 1 := ⟨gws_at 1926 (by decide +kernel) rfl, gws_at 122 (by decide +kernel) rfl, by decide +kernel, Nat.le_of_ble_eq_true rfl⟩
def f_X12_greatest_b32 (k4 : xa_H → Nat → Int32 → Int32 → Int32 → Option Int32) (h : xa_H) (l0 : Nat) (l1 : Int32) (l3 : Int32) (s0 : Int32) : Option Int32 :=
  k4 h l0 l1 s0 (l3 + (1 : Int32))
set_option maxRecDepth 20000 in
theorem e_X12_greatest_b32 {G : xa_G} {k4 : xa_H → Nat → Int32 → Int32 → Int32 → Option Int32} (hk4 : ∀ (h : xa_H) (l0 : Nat) (l1 : Int32) (l2 : Int32) (l3 : Int32) (r : Int32), k4 h l0 l1 l2 l3 = some r → xa_V G M_X12_greatest 3 4 [some (.ref l0), some (.int l1), some (.int l2), some (.int l3)] [] h (some (.int r)) h) : ∀ (h : xa_H) (l0 : Nat) (l1 : Int32) (l3 : Int32) (s0 : Int32) (r : Int32), f_X12_greatest_b32 k4 h l0 l1 l3 s0 = some r → xa_V G M_X12_greatest 3 32 [some (.ref l0), some (.int l1), none, some (.int l3)] [.int s0] h (some (.int r)) h := by
  intro h l0 l1 l3 s0 r hf
  unfold f_X12_greatest_b32 at hf
  refine v_istore_n (i := 2) rfl dX12_greatest_32 (Nat.le_of_ble_eq_true rfl) (loc' := [some (.ref l0), some (.int l1), some (.int s0), some (.int l3)]) rfl ?_
  refine v_iinc dX12_greatest_33 rfl (v := (l3 + (1 : Int32))) rfl (Nat.le_of_ble_eq_true rfl) (loc' := [some (.ref l0), some (.int l1), some (.int s0), some (.int (l3 + (1 : Int32)))]) rfl ?_
  refine v_goto dX12_greatest_36 (tgt := 4) (by decide) ?_
  exact hk4 h l0 l1 s0 (l3 + (1 : Int32)) r hf
def f_X12_greatest_b4 : Nat → xa_H → Nat → Int32 → Int32 → Int32 → Option Int32
  | 0, _, _, _, _, _ => none
  | n + 1, h, l0, l1, l2, l3 =>
    (gI [12] 26 h l0).bind fun x1 =>
    if x1 ≤ l3 then
      some l2
    else
      (f_X12_valueOf h l0 l1 l3).bind fun q3 =>
      (f_X12_valueOf h l0 l1 l2).bind fun q4 =>
      if q3 ≤ q4 then
        f_X12_greatest_b32 (fun h l0 l1 l2 l3 => f_X12_greatest_b4 n h l0 l1 l2 l3) h l0 l1 l3 l2
      else
        f_X12_greatest_b32 (fun h l0 l1 l2 l3 => f_X12_greatest_b4 n h l0 l1 l2 l3) h l0 l1 l3 l3
set_option maxRecDepth 20000 in
theorem e_X12_greatest_b4 {G : xa_G} : ∀ (n : Nat) (h : xa_H) (l0 : Nat) (l1 : Int32) (l2 : Int32) (l3 : Int32) (r : Int32), f_X12_greatest_b4 n h l0 l1 l2 l3 = some r → xa_V G M_X12_greatest 3 4 [some (.ref l0), some (.int l1), some (.int l2), some (.int l3)] [] h (some (.int r)) h := by
  intro n
  induction n with
  | zero =>
    intro h l0 l1 l2 l3 r hf
    cases (show (none : Option Int32) = some r from hf)
  | succ n ih =>
    intro h l0 l1 l2 l3 r hf
    rw [f_X12_greatest_b4] at hf
    refine v_iload_n dX12_greatest_4 rfl ?_
    refine v_aload_n dX12_greatest_5 rfl ?_
    obtain ⟨x1, ex1, hf⟩ := ob hf
    refine v_getI dX12_greatest_6 fl_12_307 ex1 ?_
    refine v_icmp_ge dX12_greatest_9 (tgt := 39) (by decide) (fun c2 => ?_) (fun c2 => ?_)
    · replace hf := (if_pos c2).symm.trans hf
      refine v_iload_n dX12_greatest_39 rfl ?_
      replace hf := Option.some.inj hf
      subst hf
      exact v_iret dX12_greatest_40 rfl
    · replace hf := (if_neg c2).symm.trans hf
      refine v_aload_n dX12_greatest_12 rfl ?_
      refine v_iload_n dX12_greatest_13 rfl ?_
      refine v_iload_n dX12_greatest_14 rfl ?_
      obtain ⟨q3, eq3, hf⟩ := ob hf
      refine v_callV dX12_greatest_15 ⟨cb_X12_valueOf, ml_12_510, im_X12_valueOf⟩ se_12_X12_valueOf (ckf_X12_valueOf eq3) (ev_X12_valueOf eq3) (by decide) (As := [.int l1, .int l3]) rfl (st := []) rfl (Nat.le_of_ble_eq_true rfl) rfl ?_
      refine v_aload_n dX12_greatest_18 rfl ?_
      refine v_iload_n dX12_greatest_19 rfl ?_
      refine v_iload_n dX12_greatest_20 rfl ?_
      obtain ⟨q4, eq4, hf⟩ := ob hf
      refine v_callV dX12_greatest_21 ⟨cb_X12_valueOf, ml_12_510, im_X12_valueOf⟩ se_12_X12_valueOf (ckf_X12_valueOf eq4) (ev_X12_valueOf eq4) (by decide) (As := [.int l1, .int l2]) rfl (st := [.int q3]) rfl (Nat.le_of_ble_eq_true rfl) rfl ?_
      refine v_icmp_le dX12_greatest_24 (tgt := 31) (by decide) (fun c5 => ?_) (fun c5 => ?_)
      · replace hf := (if_pos c5).symm.trans hf
        refine v_iload_n dX12_greatest_31 rfl ?_
        exact xa_weak (loc := [some (.ref l0), some (.int l1), none, some (.int l3)]) ⟨rfl, ⟨rfl, ⟨rfl, trivial⟩⟩⟩ (e_X12_greatest_b32 ih h l0 l1 l3 l2 r hf)
      · replace hf := (if_neg c5).symm.trans hf
        refine v_iload_n dX12_greatest_27 rfl ?_
        refine v_goto dX12_greatest_28 (tgt := 32) (by decide) ?_
        exact xa_weak (loc := [some (.ref l0), some (.int l1), none, some (.int l3)]) ⟨rfl, ⟨rfl, ⟨rfl, trivial⟩⟩⟩ (e_X12_greatest_b32 ih h l0 l1 l3 l3 r hf)
def f_X12_greatest (h : xa_H) (l0 : Nat) (l1 : Int32) : Option Int32 :=
  (ck [12] h l0).bind fun _ =>
  f_X12_greatest_b4 1048576 h l0 l1 (0 : Int32) (1 : Int32)
set_option maxRecDepth 20000 in
theorem ev_X12_greatest {G : xa_G} {h : xa_H} {l0 : Nat} {l1 : Int32} {r : Int32} (hf : f_X12_greatest h l0 l1 = some r) : xa_Ev G M_X12_greatest 3 [.ref l0, .int l1] h (some (.int r)) h := by
  refine xa_entry (by decide +kernel) (loc := [some (.ref l0), some (.int l1), none, none]) rfl (Nat.le_of_ble_eq_true rfl) ?_
  unfold f_X12_greatest at hf
  obtain ⟨u0, eu0, hf⟩ := ob hf
  refine v_iconst dX12_greatest_0 (by decide) (v := 0) ?_
  refine v_istore_n (i := 2) rfl dX12_greatest_1 (Nat.le_of_ble_eq_true rfl) (loc' := [some (.ref l0), some (.int l1), some (.int (0 : Int32)), none]) rfl ?_
  refine v_iconst dX12_greatest_2 (by decide) (v := 1) ?_
  refine v_istore_n (i := 3) rfl dX12_greatest_3 (Nat.le_of_ble_eq_true rfl) (loc' := [some (.ref l0), some (.int l1), some (.int (0 : Int32)), some (.int (1 : Int32))]) rfl ?_
  exact e_X12_greatest_b4 1048576 h l0 l1 (0 : Int32) (1 : Int32) r hf
theorem ckf_X12_greatest {h : xa_H} {l0 : Nat} {l1 : Int32} {r : Int32} (hf : f_X12_greatest h l0 l1 = some r) : ck [12] h l0 = some () := by
  obtain ⟨u, e, -⟩ := ob hf
  exact e
def M_X12_laysSteps : xa_M := (yX12_laysSteps, cX12_laysSteps, 8, none)
theorem cb_X12_laysSteps : xa_CB M_X12_laysSteps 2 := ⟨gws_at 1736 (by decide +kernel) rfl, gws_at 122 (by decide +kernel) rfl, by decide +kernel, Nat.le_of_ble_eq_true rfl⟩
def f_X12_laysSteps_b149 (k28 : xa_H → Nat → Nat → Int32 → Int32 → Option xa_H) (k121 : xa_H → Nat → Nat → Int32 → Int32 → Int32 → Option xa_H) (h : xa_H) (l0 : Nat) (l1 : Nat) (l4 : Int32) (l5 : Int32) (l6 : Int32) : Option xa_H :=
  k121 h l0 l1 l4 l5 (l6 + (1 : Int32))
set_option maxRecDepth 20000 in
theorem e_X12_laysSteps_b149 {G : xa_G} {k28 : xa_H → Nat → Nat → Int32 → Int32 → Option xa_H} (hk28 : ∀ (h : xa_H) (l0 : Nat) (l1 : Nat) (l3 : Int32) (l4 : Int32) (r : xa_H), k28 h l0 l1 l3 l4 = some r → xa_V G M_X12_laysSteps 1 28 [some (.ref l0), some (.ref l1), none, some (.int l3), some (.int l4), none, none, none] [] h none r) {k121 : xa_H → Nat → Nat → Int32 → Int32 → Int32 → Option xa_H} (hk121 : ∀ (h : xa_H) (l0 : Nat) (l1 : Nat) (l4 : Int32) (l5 : Int32) (l6 : Int32) (r : xa_H), k121 h l0 l1 l4 l5 l6 = some r → xa_V G M_X12_laysSteps 1 121 [some (.ref l0), some (.ref l1), none, none, some (.int l4), some (.int l5), some (.int l6), none] [] h none r) : ∀ (h : xa_H) (l0 : Nat) (l1 : Nat) (l4 : Int32) (l5 : Int32) (l6 : Int32) (r : xa_H), f_X12_laysSteps_b149 k28 k121 h l0 l1 l4 l5 l6 = some r → xa_V G M_X12_laysSteps 1 149 [some (.ref l0), some (.ref l1), none, none, some (.int l4), some (.int l5), some (.int l6), none] [] h none r := by
  intro h l0 l1 l4 l5 l6 r hf
  unfold f_X12_laysSteps_b149 at hf
  refine v_iinc dX12_laysSteps_149 rfl (v := (l6 + (1 : Int32))) rfl (Nat.le_of_ble_eq_true rfl) (loc' := [some (.ref l0), some (.ref l1), none, none, some (.int l4), some (.int l5), some (.int (l6 + (1 : Int32))), none]) rfl ?_
  refine v_goto dX12_laysSteps_152 (tgt := 121) (by decide) ?_
  exact hk121 h l0 l1 l4 l5 (l6 + (1 : Int32)) r hf
def f_X12_laysSteps_b121 (k28 : xa_H → Nat → Nat → Int32 → Int32 → Option xa_H) : Nat → xa_H → Nat → Nat → Int32 → Int32 → Int32 → Option xa_H
  | 0, _, _, _, _, _, _ => none
  | n + 1, h, l0, l1, l4, l5, l6 =>
    (gI [12] 26 h l0).bind fun x1 =>
    if x1 ≤ l6 then
      k28 h l0 l1 l5 (l4 + (1 : Int32))
    else
      (f_X12_has h l5 l6).bind fun q3 =>
      if q3 = 0 then
        f_X12_laysSteps_b149 k28 (fun h l0 l1 l4 l5 l6 => f_X12_laysSteps_b121 k28 n h l0 l1 l4 l5 l6) h l0 l1 l4 l5 l6
      else
        (gR [12] 38 h l0).bind fun x5 =>
        (pI h x5 l6 l4).bind fun h6 =>
        f_X12_laysSteps_b149 k28 (fun h l0 l1 l4 l5 l6 => f_X12_laysSteps_b121 k28 n h l0 l1 l4 l5 l6) h6 l0 l1 l4 l5 l6
set_option maxRecDepth 20000 in
theorem e_X12_laysSteps_b121 {G : xa_G} {k28 : xa_H → Nat → Nat → Int32 → Int32 → Option xa_H} (hk28 : ∀ (h : xa_H) (l0 : Nat) (l1 : Nat) (l3 : Int32) (l4 : Int32) (r : xa_H), k28 h l0 l1 l3 l4 = some r → xa_V G M_X12_laysSteps 1 28 [some (.ref l0), some (.ref l1), none, some (.int l3), some (.int l4), none, none, none] [] h none r) : ∀ (n : Nat) (h : xa_H) (l0 : Nat) (l1 : Nat) (l4 : Int32) (l5 : Int32) (l6 : Int32) (r : xa_H), f_X12_laysSteps_b121 k28 n h l0 l1 l4 l5 l6 = some r → xa_V G M_X12_laysSteps 1 121 [some (.ref l0), some (.ref l1), none, none, some (.int l4), some (.int l5), some (.int l6), none] [] h none r := by
  intro n
  induction n with
  | zero =>
    intro h l0 l1 l4 l5 l6 r hf
    cases (show (none : Option xa_H) = some r from hf)
  | succ n ih =>
    intro h l0 l1 l4 l5 l6 r hf
    rw [f_X12_laysSteps_b121] at hf
    refine v_iload dX12_laysSteps_121 rfl ?_
    refine v_aload_n dX12_laysSteps_123 rfl ?_
    obtain ⟨x1, ex1, hf⟩ := ob hf
    refine v_getI dX12_laysSteps_124 fl_12_307 ex1 ?_
    refine v_icmp_ge dX12_laysSteps_127 (tgt := 155) (by decide) (fun c2 => ?_) (fun c2 => ?_)
    · replace hf := (if_pos c2).symm.trans hf
      refine v_iload dX12_laysSteps_155 rfl ?_
      refine v_istore_n (i := 3) rfl dX12_laysSteps_157 (Nat.le_of_ble_eq_true rfl) (loc' := [some (.ref l0), some (.ref l1), none, some (.int l5), some (.int l4), some (.int l5), some (.int l6), none]) rfl ?_
      refine v_iinc dX12_laysSteps_158 rfl (v := (l4 + (1 : Int32))) rfl (Nat.le_of_ble_eq_true rfl) (loc' := [some (.ref l0), some (.ref l1), none, some (.int l5), some (.int (l4 + (1 : Int32))), some (.int l5), some (.int l6), none]) rfl ?_
      refine v_goto dX12_laysSteps_161 (tgt := 28) (by decide) ?_
      exact xa_weak (loc := [some (.ref l0), some (.ref l1), none, some (.int l5), some (.int (l4 + (1 : Int32))), none, none, none]) ⟨rfl, ⟨rfl, ⟨rfl, ⟨rfl, trivial⟩⟩⟩⟩ (hk28 h l0 l1 l5 (l4 + (1 : Int32)) r hf)
    · replace hf := (if_neg c2).symm.trans hf
      refine v_iload dX12_laysSteps_130 rfl ?_
      refine v_iload dX12_laysSteps_132 rfl ?_
      obtain ⟨q3, eq3, hf⟩ := ob hf
      refine v_callS dX12_laysSteps_134 ⟨cb_X12_has, ml_12_244, sm_X12_has⟩ (ev_X12_has eq3) (by decide) (As := [.int l5, .int l6]) rfl (st := []) rfl (Nat.le_of_ble_eq_true rfl) rfl ?_
      refine v_if_eq dX12_laysSteps_137 (tgt := 149) (by decide) (fun c4 => ?_) (fun c4 => ?_)
      · replace hf := (if_pos c4).symm.trans hf
        exact e_X12_laysSteps_b149 hk28 ih h l0 l1 l4 l5 l6 r hf
      · replace hf := (if_neg c4).symm.trans hf
        refine v_aload_n dX12_laysSteps_140 rfl ?_
        obtain ⟨x5, ex5, hf⟩ := ob hf
        refine v_getR dX12_laysSteps_141 fl_12_80 ex5 ?_
        refine v_iload dX12_laysSteps_144 rfl ?_
        refine v_iload dX12_laysSteps_146 rfl ?_
        obtain ⟨h6, eh6, hf⟩ := ob hf
        refine v_iastoreI dX12_laysSteps_148 eh6 ?_
        exact e_X12_laysSteps_b149 hk28 ih h6 l0 l1 l4 l5 l6 r hf
def f_X12_laysSteps_b106 (k28 : xa_H → Nat → Nat → Int32 → Int32 → Option xa_H) (k43 : xa_H → Nat → Nat → Int32 → Int32 → Int32 → Int32 → Option xa_H) (k55 : xa_H → Nat → Nat → Int32 → Int32 → Int32 → Int32 → Int32 → Option xa_H) (h : xa_H) (l0 : Nat) (l1 : Nat) (l3 : Int32) (l4 : Int32) (l5 : Int32) (l6 : Int32) (l7 : Int32) : Option xa_H :=
  k55 h l0 l1 l3 l4 l5 l6 (l7 + (1 : Int32))
set_option maxRecDepth 20000 in
theorem e_X12_laysSteps_b106 {G : xa_G} {k28 : xa_H → Nat → Nat → Int32 → Int32 → Option xa_H} (hk28 : ∀ (h : xa_H) (l0 : Nat) (l1 : Nat) (l3 : Int32) (l4 : Int32) (r : xa_H), k28 h l0 l1 l3 l4 = some r → xa_V G M_X12_laysSteps 1 28 [some (.ref l0), some (.ref l1), none, some (.int l3), some (.int l4), none, none, none] [] h none r) {k43 : xa_H → Nat → Nat → Int32 → Int32 → Int32 → Int32 → Option xa_H} (hk43 : ∀ (h : xa_H) (l0 : Nat) (l1 : Nat) (l3 : Int32) (l4 : Int32) (l5 : Int32) (l6 : Int32) (r : xa_H), k43 h l0 l1 l3 l4 l5 l6 = some r → xa_V G M_X12_laysSteps 1 43 [some (.ref l0), some (.ref l1), none, some (.int l3), some (.int l4), some (.int l5), some (.int l6), none] [] h none r) {k55 : xa_H → Nat → Nat → Int32 → Int32 → Int32 → Int32 → Int32 → Option xa_H} (hk55 : ∀ (h : xa_H) (l0 : Nat) (l1 : Nat) (l3 : Int32) (l4 : Int32) (l5 : Int32) (l6 : Int32) (l7 : Int32) (r : xa_H), k55 h l0 l1 l3 l4 l5 l6 l7 = some r → xa_V G M_X12_laysSteps 1 55 [some (.ref l0), some (.ref l1), none, some (.int l3), some (.int l4), some (.int l5), some (.int l6), some (.int l7)] [] h none r) : ∀ (h : xa_H) (l0 : Nat) (l1 : Nat) (l3 : Int32) (l4 : Int32) (l5 : Int32) (l6 : Int32) (l7 : Int32) (r : xa_H), f_X12_laysSteps_b106 k28 k43 k55 h l0 l1 l3 l4 l5 l6 l7 = some r → xa_V G M_X12_laysSteps 1 106 [some (.ref l0), some (.ref l1), none, some (.int l3), some (.int l4), some (.int l5), some (.int l6), some (.int l7)] [] h none r := by
  intro h l0 l1 l3 l4 l5 l6 l7 r hf
  unfold f_X12_laysSteps_b106 at hf
  refine v_iinc dX12_laysSteps_106 rfl (v := (l7 + (1 : Int32))) rfl (Nat.le_of_ble_eq_true rfl) (loc' := [some (.ref l0), some (.ref l1), none, some (.int l3), some (.int l4), some (.int l5), some (.int l6), some (.int (l7 + (1 : Int32)))]) rfl ?_
  refine v_goto dX12_laysSteps_109 (tgt := 55) (by decide) ?_
  exact hk55 h l0 l1 l3 l4 l5 l6 (l7 + (1 : Int32)) r hf
def f_X12_laysSteps_b55 (k28 : xa_H → Nat → Nat → Int32 → Int32 → Option xa_H) (k43 : xa_H → Nat → Nat → Int32 → Int32 → Int32 → Int32 → Option xa_H) : Nat → xa_H → Nat → Nat → Int32 → Int32 → Int32 → Int32 → Int32 → Option xa_H
  | 0, _, _, _, _, _, _, _, _ => none
  | n + 1, h, l0, l1, l3, l4, l5, l6, l7 =>
    (gI [12] 26 h l0).bind fun x1 =>
    if x1 ≤ l7 then
      k43 h l0 l1 l3 l4 l5 (l6 + (1 : Int32))
    else
      (f_X12_has h l3 l6).bind fun q3 =>
      if q3 = 0 then
        f_X12_laysSteps_b106 k28 k43 (fun h l0 l1 l3 l4 l5 l6 l7 => f_X12_laysSteps_b55 k28 k43 n h l0 l1 l3 l4 l5 l6 l7) h l0 l1 l3 l4 l5 l6 l7
      else
        (aI h l1 (((6 : Int32) * l6) + l7)).bind fun x5 =>
        if x5 ≤ 0 then
          f_X12_laysSteps_b106 k28 k43 (fun h l0 l1 l3 l4 l5 l6 l7 => f_X12_laysSteps_b55 k28 k43 n h l0 l1 l3 l4 l5 l6 l7) h l0 l1 l3 l4 l5 l6 l7
        else
          (gR [12] 38 h l0).bind fun x7 =>
          (aI h x7 l7).bind fun x8 =>
          if x8 = (-1 : Int32) then
            f_X12_laysSteps_b106 k28 k43 (fun h l0 l1 l3 l4 l5 l6 l7 => f_X12_laysSteps_b55 k28 k43 n h l0 l1 l3 l4 l5 l6 l7) h l0 l1 l3 l4 (l5 ||| (shl (1 : Int32) l7)) l6 l7
          else
            f_X12_laysSteps_b106 k28 k43 (fun h l0 l1 l3 l4 l5 l6 l7 => f_X12_laysSteps_b55 k28 k43 n h l0 l1 l3 l4 l5 l6 l7) h l0 l1 l3 l4 l5 l6 l7
set_option maxRecDepth 20000 in
theorem e_X12_laysSteps_b55 {G : xa_G} {k28 : xa_H → Nat → Nat → Int32 → Int32 → Option xa_H} (hk28 : ∀ (h : xa_H) (l0 : Nat) (l1 : Nat) (l3 : Int32) (l4 : Int32) (r : xa_H), k28 h l0 l1 l3 l4 = some r → xa_V G M_X12_laysSteps 1 28 [some (.ref l0), some (.ref l1), none, some (.int l3), some (.int l4), none, none, none] [] h none r) {k43 : xa_H → Nat → Nat → Int32 → Int32 → Int32 → Int32 → Option xa_H} (hk43 : ∀ (h : xa_H) (l0 : Nat) (l1 : Nat) (l3 : Int32) (l4 : Int32) (l5 : Int32) (l6 : Int32) (r : xa_H), k43 h l0 l1 l3 l4 l5 l6 = some r → xa_V G M_X12_laysSteps 1 43 [some (.ref l0), some (.ref l1), none, some (.int l3), some (.int l4), some (.int l5), some (.int l6), none] [] h none r) : ∀ (n : Nat) (h : xa_H) (l0 : Nat) (l1 : Nat) (l3 : Int32) (l4 : Int32) (l5 : Int32) (l6 : Int32) (l7 : Int32) (r : xa_H), f_X12_laysSteps_b55 k28 k43 n h l0 l1 l3 l4 l5 l6 l7 = some r → xa_V G M_X12_laysSteps 1 55 [some (.ref l0), some (.ref l1), none, some (.int l3), some (.int l4), some (.int l5), some (.int l6), some (.int l7)] [] h none r := by
  intro n
  induction n with
  | zero =>
    intro h l0 l1 l3 l4 l5 l6 l7 r hf
    cases (show (none : Option xa_H) = some r from hf)
  | succ n ih =>
    intro h l0 l1 l3 l4 l5 l6 l7 r hf
    rw [f_X12_laysSteps_b55] at hf
    refine v_iload dX12_laysSteps_55 rfl ?_
    refine v_aload_n dX12_laysSteps_57 rfl ?_
    obtain ⟨x1, ex1, hf⟩ := ob hf
    refine v_getI dX12_laysSteps_58 fl_12_307 ex1 ?_
    refine v_icmp_ge dX12_laysSteps_61 (tgt := 112) (by decide) (fun c2 => ?_) (fun c2 => ?_)
    · replace hf := (if_pos c2).symm.trans hf
      refine v_iinc dX12_laysSteps_112 rfl (v := (l6 + (1 : Int32))) rfl (Nat.le_of_ble_eq_true rfl) (loc' := [some (.ref l0), some (.ref l1), none, some (.int l3), some (.int l4), some (.int l5), some (.int (l6 + (1 : Int32))), some (.int l7)]) rfl ?_
      refine v_goto dX12_laysSteps_115 (tgt := 43) (by decide) ?_
      exact xa_weak (loc := [some (.ref l0), some (.ref l1), none, some (.int l3), some (.int l4), some (.int l5), some (.int (l6 + (1 : Int32))), none]) ⟨rfl, ⟨rfl, ⟨rfl, ⟨rfl, ⟨rfl, ⟨rfl, trivial⟩⟩⟩⟩⟩⟩ (hk43 h l0 l1 l3 l4 l5 (l6 + (1 : Int32)) r hf)
    · replace hf := (if_neg c2).symm.trans hf
      refine v_iload_n dX12_laysSteps_64 rfl ?_
      refine v_iload dX12_laysSteps_65 rfl ?_
      obtain ⟨q3, eq3, hf⟩ := ob hf
      refine v_callS dX12_laysSteps_67 ⟨cb_X12_has, ml_12_244, sm_X12_has⟩ (ev_X12_has eq3) (by decide) (As := [.int l3, .int l6]) rfl (st := []) rfl (Nat.le_of_ble_eq_true rfl) rfl ?_
      refine v_if_eq dX12_laysSteps_70 (tgt := 106) (by decide) (fun c4 => ?_) (fun c4 => ?_)
      · replace hf := (if_pos c4).symm.trans hf
        exact e_X12_laysSteps_b106 hk28 hk43 ih h l0 l1 l3 l4 l5 l6 l7 r hf
      · replace hf := (if_neg c4).symm.trans hf
        refine v_aload_n dX12_laysSteps_73 rfl ?_
        refine v_bipush dX12_laysSteps_74 (by decide) (v := 6) ?_
        refine v_iload dX12_laysSteps_76 rfl ?_
        refine v_imul dX12_laysSteps_78 ?_
        refine v_iload dX12_laysSteps_79 rfl ?_
        refine v_iadd dX12_laysSteps_81 ?_
        obtain ⟨x5, ex5, hf⟩ := ob hf
        refine v_ialoadI dX12_laysSteps_82 ex5 ?_
        refine v_if_le dX12_laysSteps_83 (tgt := 106) (by decide) (fun c6 => ?_) (fun c6 => ?_)
        · replace hf := (if_pos c6).symm.trans hf
          exact e_X12_laysSteps_b106 hk28 hk43 ih h l0 l1 l3 l4 l5 l6 l7 r hf
        · replace hf := (if_neg c6).symm.trans hf
          refine v_aload_n dX12_laysSteps_86 rfl ?_
          obtain ⟨x7, ex7, hf⟩ := ob hf
          refine v_getR dX12_laysSteps_87 fl_12_80 ex7 ?_
          refine v_iload dX12_laysSteps_90 rfl ?_
          obtain ⟨x8, ex8, hf⟩ := ob hf
          refine v_ialoadI dX12_laysSteps_92 ex8 ?_
          refine v_iconst dX12_laysSteps_93 (by decide) (v := -1) ?_
          refine v_icmp_ne dX12_laysSteps_94 (tgt := 106) (by decide) (fun c9 => ?_) (fun c9 => ?_)
          · replace hf := (if_neg c9).symm.trans hf
            exact e_X12_laysSteps_b106 hk28 hk43 ih h l0 l1 l3 l4 l5 l6 l7 r hf
          · replace hf := (if_pos c9).symm.trans hf
            refine v_iload dX12_laysSteps_97 rfl ?_
            refine v_iconst dX12_laysSteps_99 (by decide) (v := 1) ?_
            refine v_iload dX12_laysSteps_100 rfl ?_
            refine w_ishl dX12_laysSteps_102 ?_
            refine v_ior dX12_laysSteps_103 ?_
            refine v_istore dX12_laysSteps_104 (Nat.le_of_ble_eq_true rfl) (loc' := [some (.ref l0), some (.ref l1), none, some (.int l3), some (.int l4), some (.int (l5 ||| (shl (1 : Int32) l7))), some (.int l6), some (.int l7)]) rfl ?_
            exact e_X12_laysSteps_b106 hk28 hk43 ih h l0 l1 l3 l4 (l5 ||| (shl (1 : Int32) l7)) l6 l7 r hf
def f_X12_laysSteps_b43 (k28 : xa_H → Nat → Nat → Int32 → Int32 → Option xa_H) : Nat → xa_H → Nat → Nat → Int32 → Int32 → Int32 → Int32 → Option xa_H
  | 0, _, _, _, _, _, _, _ => none
  | n + 1, h, l0, l1, l3, l4, l5, l6 =>
    (gI [12] 26 h l0).bind fun x1 =>
    if x1 ≤ l6 then
      f_X12_laysSteps_b121 k28 1048576 h l0 l1 l4 l5 (0 : Int32)
    else
      f_X12_laysSteps_b55 k28 (fun h l0 l1 l3 l4 l5 l6 => f_X12_laysSteps_b43 k28 n h l0 l1 l3 l4 l5 l6) 1048576 h l0 l1 l3 l4 l5 l6 (0 : Int32)
set_option maxRecDepth 20000 in
theorem e_X12_laysSteps_b43 {G : xa_G} {k28 : xa_H → Nat → Nat → Int32 → Int32 → Option xa_H} (hk28 : ∀ (h : xa_H) (l0 : Nat) (l1 : Nat) (l3 : Int32) (l4 : Int32) (r : xa_H), k28 h l0 l1 l3 l4 = some r → xa_V G M_X12_laysSteps 1 28 [some (.ref l0), some (.ref l1), none, some (.int l3), some (.int l4), none, none, none] [] h none r) : ∀ (n : Nat) (h : xa_H) (l0 : Nat) (l1 : Nat) (l3 : Int32) (l4 : Int32) (l5 : Int32) (l6 : Int32) (r : xa_H), f_X12_laysSteps_b43 k28 n h l0 l1 l3 l4 l5 l6 = some r → xa_V G M_X12_laysSteps 1 43 [some (.ref l0), some (.ref l1), none, some (.int l3), some (.int l4), some (.int l5), some (.int l6), none] [] h none r := by
  intro n
  induction n with
  | zero =>
    intro h l0 l1 l3 l4 l5 l6 r hf
    cases (show (none : Option xa_H) = some r from hf)
  | succ n ih =>
    intro h l0 l1 l3 l4 l5 l6 r hf
    rw [f_X12_laysSteps_b43] at hf
    refine v_iload dX12_laysSteps_43 rfl ?_
    refine v_aload_n dX12_laysSteps_45 rfl ?_
    obtain ⟨x1, ex1, hf⟩ := ob hf
    refine v_getI dX12_laysSteps_46 fl_12_307 ex1 ?_
    refine v_icmp_ge dX12_laysSteps_49 (tgt := 118) (by decide) (fun c2 => ?_) (fun c2 => ?_)
    · replace hf := (if_pos c2).symm.trans hf
      refine v_iconst dX12_laysSteps_118 (by decide) (v := 0) ?_
      refine v_istore dX12_laysSteps_119 (Nat.le_of_ble_eq_true rfl) (loc' := [some (.ref l0), some (.ref l1), none, some (.int l3), some (.int l4), some (.int l5), some (.int (0 : Int32)), none]) rfl ?_
      exact xa_weak (loc := [some (.ref l0), some (.ref l1), none, none, some (.int l4), some (.int l5), some (.int (0 : Int32)), none]) ⟨rfl, ⟨rfl, ⟨rfl, ⟨rfl, ⟨rfl, trivial⟩⟩⟩⟩⟩ (e_X12_laysSteps_b121 hk28 1048576 h l0 l1 l4 l5 (0 : Int32) r hf)
    · replace hf := (if_neg c2).symm.trans hf
      refine v_iconst dX12_laysSteps_52 (by decide) (v := 0) ?_
      refine v_istore dX12_laysSteps_53 (Nat.le_of_ble_eq_true rfl) (loc' := [some (.ref l0), some (.ref l1), none, some (.int l3), some (.int l4), some (.int l5), some (.int l6), some (.int (0 : Int32))]) rfl ?_
      exact e_X12_laysSteps_b55 hk28 ih 1048576 h l0 l1 l3 l4 l5 l6 (0 : Int32) r hf
def f_X12_laysSteps_b28 : Nat → xa_H → Nat → Nat → Int32 → Int32 → Option xa_H
  | 0, _, _, _, _, _ => none
  | n + 1, h, l0, l1, l3, l4 =>
    (gI [12] 26 h l0).bind fun x1 =>
    if x1 < l4 then
      some h
    else
      f_X12_laysSteps_b43 (fun h l0 l1 l3 l4 => f_X12_laysSteps_b28 n h l0 l1 l3 l4) 1048576 h l0 l1 l3 l4 (0 : Int32) (0 : Int32)
set_option maxRecDepth 20000 in
theorem e_X12_laysSteps_b28 {G : xa_G} : ∀ (n : Nat) (h : xa_H) (l0 : Nat) (l1 : Nat) (l3 : Int32) (l4 : Int32) (r : xa_H), f_X12_laysSteps_b28 n h l0 l1 l3 l4 = some r → xa_V G M_X12_laysSteps 1 28 [some (.ref l0), some (.ref l1), none, some (.int l3), some (.int l4), none, none, none] [] h none r := by
  intro n
  induction n with
  | zero =>
    intro h l0 l1 l3 l4 r hf
    cases (show (none : Option xa_H) = some r from hf)
  | succ n ih =>
    intro h l0 l1 l3 l4 r hf
    rw [f_X12_laysSteps_b28] at hf
    refine v_iload dX12_laysSteps_28 rfl ?_
    refine v_aload_n dX12_laysSteps_30 rfl ?_
    obtain ⟨x1, ex1, hf⟩ := ob hf
    refine v_getI dX12_laysSteps_31 fl_12_307 ex1 ?_
    refine v_icmp_gt dX12_laysSteps_34 (tgt := 164) (by decide) (fun c2 => ?_) (fun c2 => ?_)
    · replace hf := (if_pos c2).symm.trans hf
      replace hf := Option.some.inj hf
      subst hf
      exact v_vret dX12_laysSteps_164 rfl
    · replace hf := (if_neg c2).symm.trans hf
      refine v_iconst dX12_laysSteps_37 (by decide) (v := 0) ?_
      refine v_istore dX12_laysSteps_38 (Nat.le_of_ble_eq_true rfl) (loc' := [some (.ref l0), some (.ref l1), none, some (.int l3), some (.int l4), some (.int (0 : Int32)), none, none]) rfl ?_
      refine v_iconst dX12_laysSteps_40 (by decide) (v := 0) ?_
      refine v_istore dX12_laysSteps_41 (Nat.le_of_ble_eq_true rfl) (loc' := [some (.ref l0), some (.ref l1), none, some (.int l3), some (.int l4), some (.int (0 : Int32)), some (.int (0 : Int32)), none]) rfl ?_
      exact e_X12_laysSteps_b43 ih 1048576 h l0 l1 l3 l4 (0 : Int32) (0 : Int32) r hf
def f_X12_laysSteps_b2 : Nat → xa_H → Nat → Nat → Int32 → Int32 → Option xa_H
  | 0, _, _, _, _, _ => none
  | n + 1, h, l0, l1, l2, l3 =>
    if (6 : Int32) ≤ l3 then
      f_X12_laysSteps_b28 1048576 h l0 l1 (shl (1 : Int32) l2) (1 : Int32)
    else
      (gR [12] 38 h l0).bind fun x2 =>
      (pI h x2 l3 (-1 : Int32)).bind fun h3 =>
      f_X12_laysSteps_b2 n h3 l0 l1 l2 (l3 + (1 : Int32))
set_option maxRecDepth 20000 in
theorem e_X12_laysSteps_b2 {G : xa_G} : ∀ (n : Nat) (h : xa_H) (l0 : Nat) (l1 : Nat) (l2 : Int32) (l3 : Int32) (r : xa_H), f_X12_laysSteps_b2 n h l0 l1 l2 l3 = some r → xa_V G M_X12_laysSteps 1 2 [some (.ref l0), some (.ref l1), some (.int l2), some (.int l3), none, none, none, none] [] h none r := by
  intro n
  induction n with
  | zero =>
    intro h l0 l1 l2 l3 r hf
    cases (show (none : Option xa_H) = some r from hf)
  | succ n ih =>
    intro h l0 l1 l2 l3 r hf
    rw [f_X12_laysSteps_b2] at hf
    refine v_iload_n dX12_laysSteps_2 rfl ?_
    refine v_bipush dX12_laysSteps_3 (by decide) (v := 6) ?_
    refine v_icmp_ge dX12_laysSteps_5 (tgt := 21) (by decide) (fun c1 => ?_) (fun c1 => ?_)
    · replace hf := (if_pos c1).symm.trans hf
      refine v_iconst dX12_laysSteps_21 (by decide) (v := 1) ?_
      refine v_iload_n dX12_laysSteps_22 rfl ?_
      refine w_ishl dX12_laysSteps_23 ?_
      refine v_istore_n (i := 3) rfl dX12_laysSteps_24 (Nat.le_of_ble_eq_true rfl) (loc' := [some (.ref l0), some (.ref l1), some (.int l2), some (.int (shl (1 : Int32) l2)), none, none, none, none]) rfl ?_
      refine v_iconst dX12_laysSteps_25 (by decide) (v := 1) ?_
      refine v_istore dX12_laysSteps_26 (Nat.le_of_ble_eq_true rfl) (loc' := [some (.ref l0), some (.ref l1), some (.int l2), some (.int (shl (1 : Int32) l2)), some (.int (1 : Int32)), none, none, none]) rfl ?_
      exact xa_weak (loc := [some (.ref l0), some (.ref l1), none, some (.int (shl (1 : Int32) l2)), some (.int (1 : Int32)), none, none, none]) ⟨rfl, ⟨rfl, ⟨rfl, ⟨rfl, trivial⟩⟩⟩⟩ (e_X12_laysSteps_b28 1048576 h l0 l1 (shl (1 : Int32) l2) (1 : Int32) r hf)
    · replace hf := (if_neg c1).symm.trans hf
      refine v_aload_n dX12_laysSteps_8 rfl ?_
      obtain ⟨x2, ex2, hf⟩ := ob hf
      refine v_getR dX12_laysSteps_9 fl_12_80 ex2 ?_
      refine v_iload_n dX12_laysSteps_12 rfl ?_
      refine v_iconst dX12_laysSteps_13 (by decide) (v := -1) ?_
      obtain ⟨h3, eh3, hf⟩ := ob hf
      refine v_iastoreI dX12_laysSteps_14 eh3 ?_
      refine v_iinc dX12_laysSteps_15 rfl (v := (l3 + (1 : Int32))) rfl (Nat.le_of_ble_eq_true rfl) (loc' := [some (.ref l0), some (.ref l1), some (.int l2), some (.int (l3 + (1 : Int32))), none, none, none, none]) rfl ?_
      refine v_goto dX12_laysSteps_18 (tgt := 2) (by decide) ?_
      exact ih h3 l0 l1 l2 (l3 + (1 : Int32)) r hf
def f_X12_laysSteps (h : xa_H) (l0 : Nat) (l1 : Nat) (l2 : Int32) : Option xa_H :=
  (ck [12] h l0).bind fun _ =>
  f_X12_laysSteps_b2 1048576 h l0 l1 l2 (0 : Int32)
set_option maxRecDepth 20000 in
theorem ev_X12_laysSteps {G : xa_G} {h : xa_H} {l0 : Nat} {l1 : Nat} {l2 : Int32} {r : xa_H} (hf : f_X12_laysSteps h l0 l1 l2 = some r) : xa_Ev G M_X12_laysSteps 1 [.ref l0, .ref l1, .int l2] h none r := by
  refine xa_entry (by decide +kernel) (loc := [some (.ref l0), some (.ref l1), some (.int l2), none, none, none, none, none]) rfl (Nat.le_of_ble_eq_true rfl) ?_
  unfold f_X12_laysSteps at hf
  obtain ⟨u0, eu0, hf⟩ := ob hf
  refine v_iconst dX12_laysSteps_0 (by decide) (v := 0) ?_
  refine v_istore_n (i := 3) rfl dX12_laysSteps_1 (Nat.le_of_ble_eq_true rfl) (loc' := [some (.ref l0), some (.ref l1), some (.int l2), some (.int (0 : Int32)), none, none, none, none]) rfl ?_
  exact e_X12_laysSteps_b2 1048576 h l0 l1 l2 (0 : Int32) r hf
theorem ckf_X12_laysSteps {h : xa_H} {l0 : Nat} {l1 : Nat} {l2 : Int32} {r : xa_H} (hf : f_X12_laysSteps h l0 l1 l2 = some r) : ck [12] h l0 = some () := by
  obtain ⟨u, e, -⟩ := ob hf
  exact e
def M_X12_shortestRing : xa_M := (yX12_shortestRing, cX12_shortestRing, 4, some .int)
theorem cb_X12_shortestRing : xa_CB M_X12_shortestRing 1 := ⟨gws_at 1732 (by decide +kernel) rfl, gws_at 122 (by decide +kernel) rfl, by decide +kernel, Nat.le_of_ble_eq_true rfl⟩
def f_X12_shortestRing_b50 (k4 : xa_H → Nat → Nat → Int32 → Int32 → Option (Int32 × xa_H)) (h : xa_H) (l0 : Nat) (l1 : Nat) (l2 : Int32) (l3 : Int32) : Option (Int32 × xa_H) :=
  k4 h l0 l1 l2 (l3 + (1 : Int32))
set_option maxRecDepth 20000 in
theorem e_X12_shortestRing_b50 {G : xa_G} {k4 : xa_H → Nat → Nat → Int32 → Int32 → Option (Int32 × xa_H)} (hk4 : ∀ (h : xa_H) (l0 : Nat) (l1 : Nat) (l2 : Int32) (l3 : Int32) (r : (Int32 × xa_H)), k4 h l0 l1 l2 l3 = some r → xa_V G M_X12_shortestRing 2 4 [some (.ref l0), some (.ref l1), some (.int l2), some (.int l3)] [] h (some (.int r.1)) r.2) : ∀ (h : xa_H) (l0 : Nat) (l1 : Nat) (l2 : Int32) (l3 : Int32) (r : (Int32 × xa_H)), f_X12_shortestRing_b50 k4 h l0 l1 l2 l3 = some r → xa_V G M_X12_shortestRing 2 50 [some (.ref l0), some (.ref l1), some (.int l2), some (.int l3)] [] h (some (.int r.1)) r.2 := by
  intro h l0 l1 l2 l3 r hf
  unfold f_X12_shortestRing_b50 at hf
  refine v_iinc dX12_shortestRing_50 rfl (v := (l3 + (1 : Int32))) rfl (Nat.le_of_ble_eq_true rfl) (loc' := [some (.ref l0), some (.ref l1), some (.int l2), some (.int (l3 + (1 : Int32)))]) rfl ?_
  refine v_goto dX12_shortestRing_53 (tgt := 4) (by decide) ?_
  exact hk4 h l0 l1 l2 (l3 + (1 : Int32)) r hf
def f_X12_shortestRing_b43 (k4 : xa_H → Nat → Nat → Int32 → Int32 → Option (Int32 × xa_H)) (h : xa_H) (l0 : Nat) (l1 : Nat) (l3 : Int32) : Option (Int32 × xa_H) :=
  (gR [12] 38 h l0).bind fun x1 =>
  (aI h x1 l3).bind fun x2 =>
  f_X12_shortestRing_b50 k4 h l0 l1 x2 l3
set_option maxRecDepth 20000 in
theorem e_X12_shortestRing_b43 {G : xa_G} {k4 : xa_H → Nat → Nat → Int32 → Int32 → Option (Int32 × xa_H)} (hk4 : ∀ (h : xa_H) (l0 : Nat) (l1 : Nat) (l2 : Int32) (l3 : Int32) (r : (Int32 × xa_H)), k4 h l0 l1 l2 l3 = some r → xa_V G M_X12_shortestRing 2 4 [some (.ref l0), some (.ref l1), some (.int l2), some (.int l3)] [] h (some (.int r.1)) r.2) : ∀ (h : xa_H) (l0 : Nat) (l1 : Nat) (l3 : Int32) (r : (Int32 × xa_H)), f_X12_shortestRing_b43 k4 h l0 l1 l3 = some r → xa_V G M_X12_shortestRing 2 43 [some (.ref l0), some (.ref l1), none, some (.int l3)] [] h (some (.int r.1)) r.2 := by
  intro h l0 l1 l3 r hf
  unfold f_X12_shortestRing_b43 at hf
  refine v_aload_n dX12_shortestRing_43 rfl ?_
  obtain ⟨x1, ex1, hf⟩ := ob hf
  refine v_getR dX12_shortestRing_44 fl_12_80 ex1 ?_
  refine v_iload_n dX12_shortestRing_47 rfl ?_
  obtain ⟨x2, ex2, hf⟩ := ob hf
  refine v_ialoadI dX12_shortestRing_48 ex2 ?_
  refine v_istore_n (i := 2) rfl dX12_shortestRing_49 (Nat.le_of_ble_eq_true rfl) (loc' := [some (.ref l0), some (.ref l1), some (.int x2), some (.int l3)]) rfl ?_
  exact e_X12_shortestRing_b50 hk4 h l0 l1 x2 l3 r hf
def f_X12_shortestRing_b4 : Nat → xa_H → Nat → Nat → Int32 → Int32 → Option (Int32 × xa_H)
  | 0, _, _, _, _, _ => none
  | n + 1, h, l0, l1, l2, l3 =>
    (gI [12] 26 h l0).bind fun x1 =>
    if x1 ≤ l3 then
      some (l2, h)
    else
      (f_X12_laysSteps h l0 l1 l3).bind fun q3 =>
      (gR [12] 38 q3 l0).bind fun x4 =>
      (aI q3 x4 l3).bind fun x5 =>
      if x5 = (-1 : Int32) then
        f_X12_shortestRing_b50 (fun h l0 l1 l2 l3 => f_X12_shortestRing_b4 n h l0 l1 l2 l3) q3 l0 l1 l2 l3
      else
        if l2 = (-1 : Int32) then
          f_X12_shortestRing_b43 (fun h l0 l1 l2 l3 => f_X12_shortestRing_b4 n h l0 l1 l2 l3) q3 l0 l1 l3
        else
          (gR [12] 38 q3 l0).bind fun x8 =>
          (aI q3 x8 l3).bind fun x9 =>
          if l2 ≤ x9 then
            f_X12_shortestRing_b50 (fun h l0 l1 l2 l3 => f_X12_shortestRing_b4 n h l0 l1 l2 l3) q3 l0 l1 l2 l3
          else
            f_X12_shortestRing_b43 (fun h l0 l1 l2 l3 => f_X12_shortestRing_b4 n h l0 l1 l2 l3) q3 l0 l1 l3
set_option maxRecDepth 20000 in
theorem e_X12_shortestRing_b4 {G : xa_G} : ∀ (n : Nat) (h : xa_H) (l0 : Nat) (l1 : Nat) (l2 : Int32) (l3 : Int32) (r : (Int32 × xa_H)), f_X12_shortestRing_b4 n h l0 l1 l2 l3 = some r → xa_V G M_X12_shortestRing 2 4 [some (.ref l0), some (.ref l1), some (.int l2), some (.int l3)] [] h (some (.int r.1)) r.2 := by
  intro n
  induction n with
  | zero =>
    intro h l0 l1 l2 l3 r hf
    cases (show (none : Option (Int32 × xa_H)) = some r from hf)
  | succ n ih =>
    intro h l0 l1 l2 l3 r hf
    rw [f_X12_shortestRing_b4] at hf
    refine v_iload_n dX12_shortestRing_4 rfl ?_
    refine v_aload_n dX12_shortestRing_5 rfl ?_
    obtain ⟨x1, ex1, hf⟩ := ob hf
    refine v_getI dX12_shortestRing_6 fl_12_307 ex1 ?_
    refine v_icmp_ge dX12_shortestRing_9 (tgt := 56) (by decide) (fun c2 => ?_) (fun c2 => ?_)
    · replace hf := (if_pos c2).symm.trans hf
      refine v_iload_n dX12_shortestRing_56 rfl ?_
      replace hf := Option.some.inj hf
      subst hf
      exact v_iret dX12_shortestRing_57 rfl
    · replace hf := (if_neg c2).symm.trans hf
      refine v_aload_n dX12_shortestRing_12 rfl ?_
      refine v_aload_n dX12_shortestRing_13 rfl ?_
      refine v_iload_n dX12_shortestRing_14 rfl ?_
      obtain ⟨q3, eq3, hf⟩ := ob hf
      refine v_callV dX12_shortestRing_15 ⟨cb_X12_laysSteps, ml_12_356, im_X12_laysSteps⟩ se_12_X12_laysSteps (ckf_X12_laysSteps eq3) (ev_X12_laysSteps eq3) (by decide) (As := [.ref l1, .int l3]) rfl (st := []) rfl (Nat.le_of_ble_eq_true rfl) rfl ?_
      refine v_aload_n dX12_shortestRing_18 rfl ?_
      obtain ⟨x4, ex4, hf⟩ := ob hf
      refine v_getR dX12_shortestRing_19 fl_12_80 ex4 ?_
      refine v_iload_n dX12_shortestRing_22 rfl ?_
      obtain ⟨x5, ex5, hf⟩ := ob hf
      refine v_ialoadI dX12_shortestRing_23 ex5 ?_
      refine v_iconst dX12_shortestRing_24 (by decide) (v := -1) ?_
      refine v_icmp_eq dX12_shortestRing_25 (tgt := 50) (by decide) (fun c6 => ?_) (fun c6 => ?_)
      · replace hf := (if_pos c6).symm.trans hf
        exact e_X12_shortestRing_b50 ih q3 l0 l1 l2 l3 r hf
      · replace hf := (if_neg c6).symm.trans hf
        refine v_iload_n dX12_shortestRing_28 rfl ?_
        refine v_iconst dX12_shortestRing_29 (by decide) (v := -1) ?_
        refine v_icmp_eq dX12_shortestRing_30 (tgt := 43) (by decide) (fun c7 => ?_) (fun c7 => ?_)
        · replace hf := (if_pos c7).symm.trans hf
          exact xa_weak (loc := [some (.ref l0), some (.ref l1), none, some (.int l3)]) ⟨rfl, ⟨rfl, ⟨rfl, trivial⟩⟩⟩ (e_X12_shortestRing_b43 ih q3 l0 l1 l3 r hf)
        · replace hf := (if_neg c7).symm.trans hf
          refine v_aload_n dX12_shortestRing_33 rfl ?_
          obtain ⟨x8, ex8, hf⟩ := ob hf
          refine v_getR dX12_shortestRing_34 fl_12_80 ex8 ?_
          refine v_iload_n dX12_shortestRing_37 rfl ?_
          obtain ⟨x9, ex9, hf⟩ := ob hf
          refine v_ialoadI dX12_shortestRing_38 ex9 ?_
          refine v_iload_n dX12_shortestRing_39 rfl ?_
          refine v_icmp_ge dX12_shortestRing_40 (tgt := 50) (by decide) (fun c10 => ?_) (fun c10 => ?_)
          · replace hf := (if_pos c10).symm.trans hf
            exact e_X12_shortestRing_b50 ih q3 l0 l1 l2 l3 r hf
          · replace hf := (if_neg c10).symm.trans hf
            exact xa_weak (loc := [some (.ref l0), some (.ref l1), none, some (.int l3)]) ⟨rfl, ⟨rfl, ⟨rfl, trivial⟩⟩⟩ (e_X12_shortestRing_b43 ih q3 l0 l1 l3 r hf)
def f_X12_shortestRing (h : xa_H) (l0 : Nat) (l1 : Nat) : Option (Int32 × xa_H) :=
  (ck [12] h l0).bind fun _ =>
  f_X12_shortestRing_b4 1048576 h l0 l1 (-1 : Int32) (0 : Int32)
set_option maxRecDepth 20000 in
theorem ev_X12_shortestRing {G : xa_G} {h : xa_H} {l0 : Nat} {l1 : Nat} {r : (Int32 × xa_H)} (hf : f_X12_shortestRing h l0 l1 = some r) : xa_Ev G M_X12_shortestRing 2 [.ref l0, .ref l1] h (some (.int r.1)) r.2 := by
  refine xa_entry (by decide +kernel) (loc := [some (.ref l0), some (.ref l1), none, none]) rfl (Nat.le_of_ble_eq_true rfl) ?_
  unfold f_X12_shortestRing at hf
  obtain ⟨u0, eu0, hf⟩ := ob hf
  refine v_iconst dX12_shortestRing_0 (by decide) (v := -1) ?_
  refine v_istore_n (i := 2) rfl dX12_shortestRing_1 (Nat.le_of_ble_eq_true rfl) (loc' := [some (.ref l0), some (.ref l1), some (.int (-1 : Int32)), none]) rfl ?_
  refine v_iconst dX12_shortestRing_2 (by decide) (v := 0) ?_
  refine v_istore_n (i := 3) rfl dX12_shortestRing_3 (Nat.le_of_ble_eq_true rfl) (loc' := [some (.ref l0), some (.ref l1), some (.int (-1 : Int32)), some (.int (0 : Int32))]) rfl ?_
  exact e_X12_shortestRing_b4 1048576 h l0 l1 (-1 : Int32) (0 : Int32) r hf
theorem ckf_X12_shortestRing {h : xa_H} {l0 : Nat} {l1 : Nat} {r : (Int32 × xa_H)} (hf : f_X12_shortestRing h l0 l1 = some r) : ck [12] h l0 = some () := by
  obtain ⟨u, e, -⟩ := ob hf
  exact e
