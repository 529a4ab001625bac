def M_X12_hasRing : xa_M := (yX12_hasRing, cX12_hasRing, 2, some .boolean)
theorem cb_X12_hasRing : xa_CB M_X12_hasRing 1 := ⟨gws_at 1728 (by decide +kernel) rfl, gws_at 122 (by decide +kernel) rfl, by decide +kernel, Nat.le_of_ble_eq_true rfl⟩
def f_X12_hasRing (h : xa_H) (l0 : Nat) (l1 : Nat) : Option (Int32 × xa_H) :=
  (ck [12] h l0).bind fun _ =>
  (f_X12_shortestRing h l0 l1).bind fun q1 =>
  if q1.1 = (-1 : Int32) then
    some ((0 : Int32), q1.2)
  else
    some ((1 : Int32), q1.2)
set_option maxRecDepth 20000 in
theorem ev_X12_hasRing {G : xa_G} {h : xa_H} {l0 : Nat} {l1 : Nat} {r : (Int32 × xa_H)} (hf : f_X12_hasRing h l0 l1 = some r) : xa_Ev G M_X12_hasRing 3 [.ref l0, .ref l1] h (some (.int r.1)) r.2 := by
  refine xa_entry (by decide +kernel) (loc := [some (.ref l0), some (.ref l1)]) rfl (Nat.le_of_ble_eq_true rfl) ?_
  unfold f_X12_hasRing at hf
  obtain ⟨u0, eu0, hf⟩ := ob hf
  refine v_aload_n dX12_hasRing_0 rfl ?_
  refine v_aload_n dX12_hasRing_1 rfl ?_
  obtain ⟨q1, eq1, hf⟩ := ob hf
  refine v_callV dX12_hasRing_2 ⟨cb_X12_shortestRing, ml_12_359, im_X12_shortestRing⟩ se_12_X12_shortestRing (ckf_X12_shortestRing eq1) (ev_X12_shortestRing eq1) (by decide) (As := [.ref l1]) rfl (st := []) rfl (Nat.le_of_ble_eq_true rfl) rfl ?_
  refine v_iconst dX12_hasRing_5 (by decide) (v := -1) ?_
  refine v_icmp_eq dX12_hasRing_6 (tgt := 13) (by decide) (fun c2 => ?_) (fun c2 => ?_)
  · replace hf := (if_pos c2).symm.trans hf
    refine v_iconst dX12_hasRing_13 (by decide) (v := 0) ?_
    replace hf := Option.some.inj hf
    subst hf
    exact v_zret dX12_hasRing_14 rfl (by decide)
  · replace hf := (if_neg c2).symm.trans hf
    refine v_iconst dX12_hasRing_9 (by decide) (v := 1) ?_
    refine v_goto dX12_hasRing_10 (tgt := 14) (by decide) ?_
    replace hf := Option.some.inj hf
    subst hf
    exact v_zret dX12_hasRing_14 rfl (by decide)
theorem ckf_X12_hasRing {h : xa_H} {l0 : Nat} {l1 : Nat} {r : (Int32 × xa_H)} (hf : f_X12_hasRing h l0 l1 = some r) : ck [12] h l0 = some () := by
  obtain ⟨u, e, -⟩ := ob hf
  exact e
def M_X12_levels : xa_M := (yX12_levels, cX12_levels, 5, some .int)
theorem cb_X12_levels : xa_CB M_X12_levels 0 := ⟨gws_at 1946 (by decide +kernel) rfl, gws_at 122 (by decide +kernel) rfl, by decide +kernel, Nat.le_of_ble_eq_true rfl⟩
def f_X12_levels_b128 : Nat → xa_H → Nat → Int32 → Int32 → Option (Int32 × xa_H)
  | 0, _, _, _, _ => none
  | n + 1, h, l0, l1, l2 =>
    (gI [12] 26 h l0).bind fun x1 =>
    if x1 ≤ l2 then
      some (l1, h)
    else
      (gR [12] 54 h l0).bind fun x3 =>
      (aI h x3 l2).bind fun x4 =>
      f_X12_levels_b128 n h l0 (imax l1 x4) (l2 + (1 : Int32))
set_option maxRecDepth 20000 in
theorem e_X12_levels_b128 {G : xa_G} : ∀ (n : Nat) (h : xa_H) (l0 : Nat) (l1 : Int32) (l2 : Int32) (r : (Int32 × xa_H)), f_X12_levels_b128 n h l0 l1 l2 = some r → xa_V G M_X12_levels 4 128 [some (.ref l0), some (.int l1), some (.int l2), none, none] [] h (some (.int r.1)) r.2 := by
  intro n
  induction n with
  | zero =>
    intro h l0 l1 l2 r hf
    cases (show (none : Option (Int32 × xa_H)) = some r from hf)
  | succ n ih =>
    intro h l0 l1 l2 r hf
    rw [f_X12_levels_b128] at hf
    refine v_iload_n dX12_levels_128 rfl ?_
    refine v_aload_n dX12_levels_129 rfl ?_
    obtain ⟨x1, ex1, hf⟩ := ob hf
    refine v_getI dX12_levels_130 fl_12_307 ex1 ?_
    refine v_icmp_ge dX12_levels_133 (tgt := 153) (by decide) (fun c2 => ?_) (fun c2 => ?_)
    · replace hf := (if_pos c2).symm.trans hf
      refine v_iload_n dX12_levels_153 rfl ?_
      replace hf := Option.some.inj hf
      subst hf
      exact v_iret dX12_levels_154 rfl
    · replace hf := (if_neg c2).symm.trans hf
      refine v_iload_n dX12_levels_136 rfl ?_
      refine v_aload_n dX12_levels_137 rfl ?_
      obtain ⟨x3, ex3, hf⟩ := ob hf
      refine v_getR dX12_levels_138 fl_12_105 ex3 ?_
      refine v_iload_n dX12_levels_141 rfl ?_
      obtain ⟨x4, ex4, hf⟩ := ob hf
      refine v_ialoadI dX12_levels_142 ex4 ?_
      refine w_mmax dX12_levels_143 mw_12_326 (by decide) (Nat.le_of_ble_eq_true rfl) ?_
      refine v_istore_n (i := 1) rfl dX12_levels_146 (Nat.le_of_ble_eq_true rfl) (loc' := [some (.ref l0), some (.int (imax l1 x4)), some (.int l2), none, none]) rfl ?_
      refine v_iinc dX12_levels_147 rfl (v := (l2 + (1 : Int32))) rfl (Nat.le_of_ble_eq_true rfl) (loc' := [some (.ref l0), some (.int (imax l1 x4)), some (.int (l2 + (1 : Int32))), none, none]) rfl ?_
      refine v_goto dX12_levels_150 (tgt := 128) (by decide) ?_
      exact ih h l0 (imax l1 x4) (l2 + (1 : Int32)) r hf
def f_X12_levels_b108 (k38 : xa_H → Nat → Int32 → Int32 → Option (Int32 × xa_H)) (k48 : xa_H → Nat → Int32 → Int32 → Int32 → Option (Int32 × xa_H)) (k59 : xa_H → Nat → Int32 → Int32 → Int32 → Int32 → Option (Int32 × xa_H)) (h : xa_H) (l0 : Nat) (l1 : Int32) (l2 : Int32) (l3 : Int32) (l4 : Int32) : Option (Int32 × xa_H) :=
  k59 h l0 l1 l2 l3 (l4 + (1 : Int32))
set_option maxRecDepth 20000 in
theorem e_X12_levels_b108 {G : xa_G} {k38 : xa_H → Nat → Int32 → Int32 → Option (Int32 × xa_H)} (hk38 : ∀ (h : xa_H) (l0 : Nat) (l1 : Int32) (l2 : Int32) (r : (Int32 × xa_H)), k38 h l0 l1 l2 = some r → xa_V G M_X12_levels 4 38 [some (.ref l0), some (.int l1), some (.int l2), none, none] [] h (some (.int r.1)) r.2) {k48 : xa_H → Nat → Int32 → Int32 → Int32 → Option (Int32 × xa_H)} (hk48 : ∀ (h : xa_H) (l0 : Nat) (l1 : Int32) (l2 : Int32) (l3 : Int32) (r : (Int32 × xa_H)), k48 h l0 l1 l2 l3 = some r → xa_V G M_X12_levels 4 48 [some (.ref l0), some (.int l1), some (.int l2), some (.int l3), none] [] h (some (.int r.1)) r.2) {k59 : xa_H → Nat → Int32 → Int32 → Int32 → Int32 → Option (Int32 × xa_H)} (hk59 : ∀ (h : xa_H) (l0 : Nat) (l1 : Int32) (l2 : Int32) (l3 : Int32) (l4 : Int32) (r : (Int32 × xa_H)), k59 h l0 l1 l2 l3 l4 = some r → xa_V G M_X12_levels 4 59 [some (.ref l0), some (.int l1), some (.int l2), some (.int l3), some (.int l4)] [] h (some (.int r.1)) r.2) : ∀ (h : xa_H) (l0 : Nat) (l1 : Int32) (l2 : Int32) (l3 : Int32) (l4 : Int32) (r : (Int32 × xa_H)), f_X12_levels_b108 k38 k48 k59 h l0 l1 l2 l3 l4 = some r → xa_V G M_X12_levels 4 108 [some (.ref l0), some (.int l1), some (.int l2), some (.int l3), some (.int l4)] [] h (some (.int r.1)) r.2 := by
  intro h l0 l1 l2 l3 l4 r hf
  unfold f_X12_levels_b108 at hf
  refine v_iinc dX12_levels_108 rfl (v := (l4 + (1 : Int32))) rfl (Nat.le_of_ble_eq_true rfl) (loc' := [some (.ref l0), some (.int l1), some (.int l2), some (.int l3), some (.int (l4 + (1 : Int32)))]) rfl ?_
  refine v_goto dX12_levels_111 (tgt := 59) (by decide) ?_
  exact hk59 h l0 l1 l2 l3 (l4 + (1 : Int32)) r hf
def f_X12_levels_b59 (k38 : xa_H → Nat → Int32 → Int32 → Option (Int32 × xa_H)) (k48 : xa_H → Nat → Int32 → Int32 → Int32 → Option (Int32 × xa_H)) : Nat → xa_H → Nat → Int32 → Int32 → Int32 → Int32 → Option (Int32 × xa_H)
  | 0, _, _, _, _, _, _ => none
  | n + 1, h, l0, l1, l2, l3, l4 =>
    (gI [12] 26 h l0).bind fun x1 =>
    if x1 ≤ l4 then
      k48 h l0 l1 l2 (l3 + (1 : Int32))
    else
      (gR [12] 32 h l0).bind fun x3 =>
      (aI h x3 (((6 : Int32) * l3) + l4)).bind fun x4 =>
      if x4 ≤ 0 then
        f_X12_levels_b108 k38 k48 (fun h l0 l1 l2 l3 l4 => f_X12_levels_b59 k38 k48 n h l0 l1 l2 l3 l4) h l0 l1 l2 l3 l4
      else
        (gR [12] 54 h l0).bind fun x6 =>
        (gR [12] 54 h l0).bind fun x7 =>
        (aI h x7 l4).bind fun x8 =>
        (gR [12] 54 h l0).bind fun x9 =>
        (aI h x9 l3).bind fun x10 =>
        (pI h x6 l4 (imax x8 (x10 + (1 : Int32)))).bind fun h11 =>
        f_X12_levels_b108 k38 k48 (fun h l0 l1 l2 l3 l4 => f_X12_levels_b59 k38 k48 n h l0 l1 l2 l3 l4) h11 l0 l1 l2 l3 l4
set_option maxRecDepth 20000 in
theorem e_X12_levels_b59 {G : xa_G} {k38 : xa_H → Nat → Int32 → Int32 → Option (Int32 × xa_H)} (hk38 : ∀ (h : xa_H) (l0 : Nat) (l1 : Int32) (l2 : Int32) (r : (Int32 × xa_H)), k38 h l0 l1 l2 = some r → xa_V G M_X12_levels 4 38 [some (.ref l0), some (.int l1), some (.int l2), none, none] [] h (some (.int r.1)) r.2) {k48 : xa_H → Nat → Int32 → Int32 → Int32 → Option (Int32 × xa_H)} (hk48 : ∀ (h : xa_H) (l0 : Nat) (l1 : Int32) (l2 : Int32) (l3 : Int32) (r : (Int32 × xa_H)), k48 h l0 l1 l2 l3 = some r → xa_V G M_X12_levels 4 48 [some (.ref l0), some (.int l1), some (.int l2), some (.int l3), none] [] h (some (.int r.1)) r.2) : ∀ (n : Nat) (h : xa_H) (l0 : Nat) (l1 : Int32) (l2 : Int32) (l3 : Int32) (l4 : Int32) (r : (Int32 × xa_H)), f_X12_levels_b59 k38 k48 n h l0 l1 l2 l3 l4 = some r → xa_V G M_X12_levels 4 59 [some (.ref l0), some (.int l1), some (.int l2), some (.int l3), some (.int l4)] [] h (some (.int r.1)) r.2 := by
  intro n
  induction n with
  | zero =>
    intro h l0 l1 l2 l3 l4 r hf
    cases (show (none : Option (Int32 × xa_H)) = some r from hf)
  | succ n ih =>
    intro h l0 l1 l2 l3 l4 r hf
    rw [f_X12_levels_b59] at hf
    refine v_iload dX12_levels_59 rfl ?_
    refine v_aload_n dX12_levels_61 rfl ?_
    obtain ⟨x1, ex1, hf⟩ := ob hf
    refine v_getI dX12_levels_62 fl_12_307 ex1 ?_
    refine v_icmp_ge dX12_levels_65 (tgt := 114) (by decide) (fun c2 => ?_) (fun c2 => ?_)
    · replace hf := (if_pos c2).symm.trans hf
      refine v_iinc dX12_levels_114 rfl (v := (l3 + (1 : Int32))) rfl (Nat.le_of_ble_eq_true rfl) (loc' := [some (.ref l0), some (.int l1), some (.int l2), some (.int (l3 + (1 : Int32))), some (.int l4)]) rfl ?_
      refine v_goto dX12_levels_117 (tgt := 48) (by decide) ?_
      exact xa_weak (loc := [some (.ref l0), some (.int l1), some (.int l2), some (.int (l3 + (1 : Int32))), none]) ⟨rfl, ⟨rfl, ⟨rfl, ⟨rfl, trivial⟩⟩⟩⟩ (hk48 h l0 l1 l2 (l3 + (1 : Int32)) r hf)
    · replace hf := (if_neg c2).symm.trans hf
      refine v_aload_n dX12_levels_68 rfl ?_
      obtain ⟨x3, ex3, hf⟩ := ob hf
      refine v_getR dX12_levels_69 fl_12_61 ex3 ?_
      refine v_bipush dX12_levels_72 (by decide) (v := 6) ?_
      refine v_iload_n dX12_levels_74 rfl ?_
      refine v_imul dX12_levels_75 ?_
      refine v_iload dX12_levels_76 rfl ?_
      refine v_iadd dX12_levels_78 ?_
      obtain ⟨x4, ex4, hf⟩ := ob hf
      refine v_ialoadI dX12_levels_79 ex4 ?_
      refine v_if_le dX12_levels_80 (tgt := 108) (by decide) (fun c5 => ?_) (fun c5 => ?_)
      · replace hf := (if_pos c5).symm.trans hf
        exact e_X12_levels_b108 hk38 hk48 ih h l0 l1 l2 l3 l4 r hf
      · replace hf := (if_neg c5).symm.trans hf
        refine v_aload_n dX12_levels_83 rfl ?_
        obtain ⟨x6, ex6, hf⟩ := ob hf
        refine v_getR dX12_levels_84 fl_12_105 ex6 ?_
        refine v_iload dX12_levels_87 rfl ?_
        refine v_aload_n dX12_levels_89 rfl ?_
        obtain ⟨x7, ex7, hf⟩ := ob hf
        refine v_getR dX12_levels_90 fl_12_105 ex7 ?_
        refine v_iload dX12_levels_93 rfl ?_
        obtain ⟨x8, ex8, hf⟩ := ob hf
        refine v_ialoadI dX12_levels_95 ex8 ?_
        refine v_aload_n dX12_levels_96 rfl ?_
        obtain ⟨x9, ex9, hf⟩ := ob hf
        refine v_getR dX12_levels_97 fl_12_105 ex9 ?_
        refine v_iload_n dX12_levels_100 rfl ?_
        obtain ⟨x10, ex10, hf⟩ := ob hf
        refine v_ialoadI dX12_levels_101 ex10 ?_
        refine v_iconst dX12_levels_102 (by decide) (v := 1) ?_
        refine v_iadd dX12_levels_103 ?_
        refine w_mmax dX12_levels_104 mw_12_326 (by decide) (Nat.le_of_ble_eq_true rfl) ?_
        obtain ⟨h11, eh11, hf⟩ := ob hf
        refine v_iastoreI dX12_levels_107 eh11 ?_
        exact e_X12_levels_b108 hk38 hk48 ih h11 l0 l1 l2 l3 l4 r hf
def f_X12_levels_b48 (k38 : xa_H → Nat → Int32 → Int32 → Option (Int32 × xa_H)) : Nat → xa_H → Nat → Int32 → Int32 → Int32 → Option (Int32 × xa_H)
  | 0, _, _, _, _, _ => none
  | n + 1, h, l0, l1, l2, l3 =>
    (gI [12] 26 h l0).bind fun x1 =>
    if x1 ≤ l3 then
      k38 h l0 l1 (l2 + (1 : Int32))
    else
      f_X12_levels_b59 k38 (fun h l0 l1 l2 l3 => f_X12_levels_b48 k38 n h l0 l1 l2 l3) 1048576 h l0 l1 l2 l3 (0 : Int32)
set_option maxRecDepth 20000 in
theorem e_X12_levels_b48 {G : xa_G} {k38 : xa_H → Nat → Int32 → Int32 → Option (Int32 × xa_H)} (hk38 : ∀ (h : xa_H) (l0 : Nat) (l1 : Int32) (l2 : Int32) (r : (Int32 × xa_H)), k38 h l0 l1 l2 = some r → xa_V G M_X12_levels 4 38 [some (.ref l0), some (.int l1), some (.int l2), none, none] [] h (some (.int r.1)) r.2) : ∀ (n : Nat) (h : xa_H) (l0 : Nat) (l1 : Int32) (l2 : Int32) (l3 : Int32) (r : (Int32 × xa_H)), f_X12_levels_b48 k38 n h l0 l1 l2 l3 = some r → xa_V G M_X12_levels 4 48 [some (.ref l0), some (.int l1), some (.int l2), some (.int l3), none] [] h (some (.int r.1)) r.2 := by
  intro n
  induction n with
  | zero =>
    intro h l0 l1 l2 l3 r hf
    cases (show (none : Option (Int32 × xa_H)) = some r from hf)
  | succ n ih =>
    intro h l0 l1 l2 l3 r hf
    rw [f_X12_levels_b48] at hf
    refine v_iload_n dX12_levels_48 rfl ?_
    refine v_aload_n dX12_levels_49 rfl ?_
    obtain ⟨x1, ex1, hf⟩ := ob hf
    refine v_getI dX12_levels_50 fl_12_307 ex1 ?_
    refine v_icmp_ge dX12_levels_53 (tgt := 120) (by decide) (fun c2 => ?_) (fun c2 => ?_)
    · replace hf := (if_pos c2).symm.trans hf
      refine v_iinc dX12_levels_120 rfl (v := (l2 + (1 : Int32))) rfl (Nat.le_of_ble_eq_true rfl) (loc' := [some (.ref l0), some (.int l1), some (.int (l2 + (1 : Int32))), some (.int l3), none]) rfl ?_
      refine v_goto dX12_levels_123 (tgt := 38) (by decide) ?_
      exact xa_weak (loc := [some (.ref l0), some (.int l1), some (.int (l2 + (1 : Int32))), none, none]) ⟨rfl, ⟨rfl, ⟨rfl, trivial⟩⟩⟩ (hk38 h l0 l1 (l2 + (1 : Int32)) r hf)
    · replace hf := (if_neg c2).symm.trans hf
      refine v_iconst dX12_levels_56 (by decide) (v := 0) ?_
      refine v_istore dX12_levels_57 (Nat.le_of_ble_eq_true rfl) (loc' := [some (.ref l0), some (.int l1), some (.int l2), some (.int l3), some (.int (0 : Int32))]) rfl ?_
      exact e_X12_levels_b59 hk38 ih 1048576 h l0 l1 l2 l3 (0 : Int32) r hf
def f_X12_levels_b38 : Nat → xa_H → Nat → Int32 → Int32 → Option (Int32 × xa_H)
  | 0, _, _, _, _ => none
  | n + 1, h, l0, l1, l2 =>
    (gI [12] 26 h l0).bind fun x1 =>
    if x1 ≤ l2 then
      f_X12_levels_b128 1048576 h l0 l1 (0 : Int32)
    else
      f_X12_levels_b48 (fun h l0 l1 l2 => f_X12_levels_b38 n h l0 l1 l2) 1048576 h l0 l1 l2 (0 : Int32)
set_option maxRecDepth 20000 in
theorem e_X12_levels_b38 {G : xa_G} : ∀ (n : Nat) (h : xa_H) (l0 : Nat) (l1 : Int32) (l2 : Int32) (r : (Int32 × xa_H)), f_X12_levels_b38 n h l0 l1 l2 = some r → xa_V G M_X12_levels 4 38 [some (.ref l0), some (.int l1), some (.int l2), none, none] [] h (some (.int r.1)) r.2 := by
  intro n
  induction n with
  | zero =>
    intro h l0 l1 l2 r hf
    cases (show (none : Option (Int32 × xa_H)) = some r from hf)
  | succ n ih =>
    intro h l0 l1 l2 r hf
    rw [f_X12_levels_b38] at hf
    refine v_iload_n dX12_levels_38 rfl ?_
    refine v_aload_n dX12_levels_39 rfl ?_
    obtain ⟨x1, ex1, hf⟩ := ob hf
    refine v_getI dX12_levels_40 fl_12_307 ex1 ?_
    refine v_icmp_ge dX12_levels_43 (tgt := 126) (by decide) (fun c2 => ?_) (fun c2 => ?_)
    · replace hf := (if_pos c2).symm.trans hf
      refine v_iconst dX12_levels_126 (by decide) (v := 0) ?_
      refine v_istore_n (i := 2) rfl dX12_levels_127 (Nat.le_of_ble_eq_true rfl) (loc' := [some (.ref l0), some (.int l1), some (.int (0 : Int32)), none, none]) rfl ?_
      exact e_X12_levels_b128 1048576 h l0 l1 (0 : Int32) r hf
    · replace hf := (if_neg c2).symm.trans hf
      refine v_iconst dX12_levels_46 (by decide) (v := 0) ?_
      refine v_istore_n (i := 3) rfl dX12_levels_47 (Nat.le_of_ble_eq_true rfl) (loc' := [some (.ref l0), some (.int l1), some (.int l2), some (.int (0 : Int32)), none]) rfl ?_
      exact e_X12_levels_b48 ih 1048576 h l0 l1 l2 (0 : Int32) r hf
def f_X12_levels_b15 : Nat → xa_H → Nat → Int32 → Option (Int32 × xa_H)
  | 0, _, _, _ => none
  | n + 1, h, l0, l1 =>
    if (6 : Int32) ≤ l1 then
      f_X12_levels_b38 1048576 h l0 (1 : Int32) (0 : Int32)
    else
      (gR [12] 54 h l0).bind fun x2 =>
      (pI h x2 l1 (1 : Int32)).bind fun h3 =>
      f_X12_levels_b15 n h3 l0 (l1 + (1 : Int32))
set_option maxRecDepth 20000 in
theorem e_X12_levels_b15 {G : xa_G} : ∀ (n : Nat) (h : xa_H) (l0 : Nat) (l1 : Int32) (r : (Int32 × xa_H)), f_X12_levels_b15 n h l0 l1 = some r → xa_V G M_X12_levels 4 15 [some (.ref l0), some (.int l1), none, none, none] [] h (some (.int r.1)) r.2 := by
  intro n
  induction n with
  | zero =>
    intro h l0 l1 r hf
    cases (show (none : Option (Int32 × xa_H)) = some r from hf)
  | succ n ih =>
    intro h l0 l1 r hf
    rw [f_X12_levels_b15] at hf
    refine v_iload_n dX12_levels_15 rfl ?_
    refine v_bipush dX12_levels_16 (by decide) (v := 6) ?_
    refine v_icmp_ge dX12_levels_18 (tgt := 34) (by decide) (fun c1 => ?_) (fun c1 => ?_)
    · replace hf := (if_pos c1).symm.trans hf
      refine v_iconst dX12_levels_34 (by decide) (v := 1) ?_
      refine v_istore_n (i := 1) rfl dX12_levels_35 (Nat.le_of_ble_eq_true rfl) (loc' := [some (.ref l0), some (.int (1 : Int32)), none, none, none]) rfl ?_
      refine v_iconst dX12_levels_36 (by decide) (v := 0) ?_
      refine v_istore_n (i := 2) rfl dX12_levels_37 (Nat.le_of_ble_eq_true rfl) (loc' := [some (.ref l0), some (.int (1 : Int32)), some (.int (0 : Int32)), none, none]) rfl ?_
      exact e_X12_levels_b38 1048576 h l0 (1 : Int32) (0 : Int32) r hf
    · replace hf := (if_neg c1).symm.trans hf
      refine v_aload_n dX12_levels_21 rfl ?_
      obtain ⟨x2, ex2, hf⟩ := ob hf
      refine v_getR dX12_levels_22 fl_12_105 ex2 ?_
      refine v_iload_n dX12_levels_25 rfl ?_
      refine v_iconst dX12_levels_26 (by decide) (v := 1) ?_
      obtain ⟨h3, eh3, hf⟩ := ob hf
      refine v_iastoreI dX12_levels_27 eh3 ?_
      refine v_iinc dX12_levels_28 rfl (v := (l1 + (1 : Int32))) rfl (Nat.le_of_ble_eq_true rfl) (loc' := [some (.ref l0), some (.int (l1 + (1 : Int32))), none, none, none]) rfl ?_
      refine v_goto dX12_levels_31 (tgt := 15) (by decide) ?_
      exact ih h3 l0 (l1 + (1 : Int32)) r hf
def f_X12_levels (h : xa_H) (l0 : Nat) : Option (Int32 × xa_H) :=
  (ck [12] h l0).bind fun _ =>
  (gR [12] 32 h l0).bind fun x1 =>
  (f_X12_hasRing h l0 x1).bind fun q2 =>
  if q2.1 = 0 then
    f_X12_levels_b15 1048576 q2.2 l0 (0 : Int32)
  else
    some ((-1 : Int32), q2.2)
set_option maxRecDepth 20000 in
theorem ev_X12_levels {G : xa_G} {h : xa_H} {l0 : Nat} {r : (Int32 × xa_H)} (hf : f_X12_levels h l0 = some r) : xa_Ev G M_X12_levels 4 [.ref l0] h (some (.int r.1)) r.2 := by
  refine xa_entry (by decide +kernel) (loc := [some (.ref l0), none, none, none, none]) rfl (Nat.le_of_ble_eq_true rfl) ?_
  unfold f_X12_levels at hf
  obtain ⟨u0, eu0, hf⟩ := ob hf
  refine v_aload_n dX12_levels_0 rfl ?_
  refine v_aload_n dX12_levels_1 rfl ?_
  obtain ⟨x1, ex1, hf⟩ := ob hf
  refine v_getR dX12_levels_2 fl_12_61 ex1 ?_
  obtain ⟨q2, eq2, hf⟩ := ob hf
  refine v_callV dX12_levels_5 ⟨cb_X12_hasRing, ml_12_366, im_X12_hasRing⟩ se_12_X12_hasRing (ckf_X12_hasRing eq2) (ev_X12_hasRing eq2) (by decide) (As := [.ref x1]) rfl (st := []) rfl (Nat.le_of_ble_eq_true rfl) rfl ?_
  refine v_if_eq dX12_levels_8 (tgt := 13) (by decide) (fun c3 => ?_) (fun c3 => ?_)
  · replace hf := (if_pos c3).symm.trans hf
    refine v_iconst dX12_levels_13 (by decide) (v := 0) ?_
    refine v_istore_n (i := 1) rfl dX12_levels_14 (Nat.le_of_ble_eq_true rfl) (loc' := [some (.ref l0), some (.int (0 : Int32)), none, none, none]) rfl ?_
    exact e_X12_levels_b15 1048576 q2.2 l0 (0 : Int32) r hf
  · replace hf := (if_neg c3).symm.trans hf
    refine v_iconst dX12_levels_11 (by decide) (v := -1) ?_
    replace hf := Option.some.inj hf
    subst hf
    exact v_iret dX12_levels_12 rfl
theorem ckf_X12_levels {h : xa_H} {l0 : Nat} {r : (Int32 × xa_H)} (hf : f_X12_levels h l0 = some r) : ck [12] h l0 = some () := by
  obtain ⟨u, e, -⟩ := ob hf
  exact e
def M_X12_mostBetween : xa_M := (yX12_mostBetween, cX12_mostBetween, 3, some .int)
theorem cb_X12_mostBetween : xa_CB M_X12_mostBetween 0 := ⟨gws_at 1950 (by decide +kernel) rfl, gws_at 122 (by decide +kernel) rfl, by decide +kernel, Nat.le_of_ble_eq_true rfl⟩
def f_X12_mostBetween_b4 : Nat → xa_H → Nat → Int32 → Int32 → Option Int32
  | 0, _, _, _, _ => none
  | n + 1, h, l0, l1, l2 =>
    if (36 : Int32) ≤ l2 then
      some l1
    else
      (gR [12] 32 h l0).bind fun x2 =>
      (aI h x2 l2).bind fun x3 =>
      f_X12_mostBetween_b4 n h l0 (imax l1 x3) (l2 + (1 : Int32))
set_option maxRecDepth 20000 in
theorem e_X12_mostBetween_b4 {G : xa_G} : ∀ (n : Nat) (h : xa_H) (l0 : Nat) (l1 : Int32) (l2 : Int32) (r : Int32), f_X12_mostBetween_b4 n h l0 l1 l2 = some r → xa_V G M_X12_mostBetween 1 4 [some (.ref l0), some (.int l1), some (.int l2)] [] h (some (.int r)) h := by
  intro n
  induction n with
  | zero =>
    intro h l0 l1 l2 r hf
    cases (show (none : Option Int32) = some r from hf)
  | succ n ih =>
    intro h l0 l1 l2 r hf
    rw [f_X12_mostBetween_b4] at hf
    refine v_iload_n dX12_mostBetween_4 rfl ?_
    refine v_bipush dX12_mostBetween_5 (by decide) (v := 36) ?_
    refine v_icmp_ge dX12_mostBetween_7 (tgt := 27) (by decide) (fun c1 => ?_) (fun c1 => ?_)
    · replace hf := (if_pos c1).symm.trans hf
      refine v_iload_n dX12_mostBetween_27 rfl ?_
      replace hf := Option.some.inj hf
      subst hf
      exact v_iret dX12_mostBetween_28 rfl
    · replace hf := (if_neg c1).symm.trans hf
      refine v_iload_n dX12_mostBetween_10 rfl ?_
      refine v_aload_n dX12_mostBetween_11 rfl ?_
      obtain ⟨x2, ex2, hf⟩ := ob hf
      refine v_getR dX12_mostBetween_12 fl_12_61 ex2 ?_
      refine v_iload_n dX12_mostBetween_15 rfl ?_
      obtain ⟨x3, ex3, hf⟩ := ob hf
      refine v_ialoadI dX12_mostBetween_16 ex3 ?_
      refine w_mmax dX12_mostBetween_17 mw_12_326 (by decide) (Nat.le_of_ble_eq_true rfl) ?_
      refine v_istore_n (i := 1) rfl dX12_mostBetween_20 (Nat.le_of_ble_eq_true rfl) (loc' := [some (.ref l0), some (.int (imax l1 x3)), some (.int l2)]) rfl ?_
      refine v_iinc dX12_mostBetween_21 rfl (v := (l2 + (1 : Int32))) rfl (Nat.le_of_ble_eq_true rfl) (loc' := [some (.ref l0), some (.int (imax l1 x3)), some (.int (l2 + (1 : Int32)))]) rfl ?_
      refine v_goto dX12_mostBetween_24 (tgt := 4) (by decide) ?_
      exact ih h l0 (imax l1 x3) (l2 + (1 : Int32)) r hf
def f_X12_mostBetween (h : xa_H) (l0 : Nat) : Option Int32 :=
  (ck [12] h l0).bind fun _ =>
  f_X12_mostBetween_b4 1048576 h l0 (0 : Int32) (0 : Int32)
set_option maxRecDepth 20000 in
theorem ev_X12_mostBetween {G : xa_G} {h : xa_H} {l0 : Nat} {r : Int32} (hf : f_X12_mostBetween h l0 = some r) : xa_Ev G M_X12_mostBetween 1 [.ref l0] h (some (.int r)) h := by
  refine xa_entry (by decide +kernel) (loc := [some (.ref l0), none, none]) rfl (Nat.le_of_ble_eq_true rfl) ?_
  unfold f_X12_mostBetween at hf
  obtain ⟨u0, eu0, hf⟩ := ob hf
  refine v_iconst dX12_mostBetween_0 (by decide) (v := 0) ?_
  refine v_istore_n (i := 1) rfl dX12_mostBetween_1 (Nat.le_of_ble_eq_true rfl) (loc' := [some (.ref l0), some (.int (0 : Int32)), none]) rfl ?_
  refine v_iconst dX12_mostBetween_2 (by decide) (v := 0) ?_
  refine v_istore_n (i := 2) rfl dX12_mostBetween_3 (Nat.le_of_ble_eq_true rfl) (loc' := [some (.ref l0), some (.int (0 : Int32)), some (.int (0 : Int32))]) rfl ?_
  exact e_X12_mostBetween_b4 1048576 h l0 (0 : Int32) (0 : Int32) r hf
theorem ckf_X12_mostBetween {h : xa_H} {l0 : Nat} {r : Int32} (hf : f_X12_mostBetween h l0 = some r) : ck [12] h l0 = some () := by
  obtain ⟨u, e, -⟩ := ob hf
  exact e
def M_X12_pairs : xa_M := (yX12_pairs, cX12_pairs, 4, some .int)
theorem cb_X12_pairs : xa_CB M_X12_pairs 0 := ⟨gws_at 1934 (by decide +kernel) rfl, gws_at 122 (by decide +kernel) rfl, by decide +kernel, Nat.le_of_ble_eq_true rfl⟩
def f_X12_pairs_b39 (k4 : xa_H → Nat → Int32 → Int32 → Option Int32) (k14 : xa_H → Nat → Int32 → Int32 → Int32 → Option Int32) (h : xa_H) (l0 : Nat) (l2 : Int32) (l3 : Int32) (s0 : Int32) (s1 : Int32) : Option Int32 :=
  k14 h l0 (s1 + s0) l2 (l3 + (1 : Int32))
set_option maxRecDepth 20000 in
theorem e_X12_pairs_b39 {G : xa_G} {k4 : xa_H → Nat → Int32 → Int32 → Option Int32} (hk4 : ∀ (h : xa_H) (l0 : Nat) (l1 : Int32) (l2 : Int32) (r : Int32), k4 h l0 l1 l2 = some r → xa_V G M_X12_pairs 0 4 [some (.ref l0), some (.int l1), some (.int l2), none] [] h (some (.int r)) h) {k14 : xa_H → Nat → Int32 → Int32 → Int32 → Option Int32} (hk14 : ∀ (h : xa_H) (l0 : Nat) (l1 : Int32) (l2 : Int32) (l3 : Int32) (r : Int32), k14 h l0 l1 l2 l3 = some r → xa_V G M_X12_pairs 0 14 [some (.ref l0), some (.int l1), some (.int l2), some (.int l3)] [] h (some (.int r)) h) : ∀ (h : xa_H) (l0 : Nat) (l2 : Int32) (l3 : Int32) (s0 : Int32) (s1 : Int32) (r : Int32), f_X12_pairs_b39 k4 k14 h l0 l2 l3 s0 s1 = some r → xa_V G M_X12_pairs 0 39 [some (.ref l0), none, some (.int l2), some (.int l3)] [.int s0, .int s1] h (some (.int r)) h := by
  intro h l0 l2 l3 s0 s1 r hf
  unfold f_X12_pairs_b39 at hf
  refine v_iadd dX12_pairs_39 ?_
  refine v_istore_n (i := 1) rfl dX12_pairs_40 (Nat.le_of_ble_eq_true rfl) (loc' := [some (.ref l0), some (.int (s1 + s0)), some (.int l2), some (.int l3)]) rfl ?_
  refine v_iinc dX12_pairs_41 rfl (v := (l3 + (1 : Int32))) rfl (Nat.le_of_ble_eq_true rfl) (loc' := [some (.ref l0), some (.int (s1 + s0)), some (.int l2), some (.int (l3 + (1 : Int32)))]) rfl ?_
  refine v_goto dX12_pairs_44 (tgt := 14) (by decide) ?_
  exact hk14 h l0 (s1 + s0) l2 (l3 + (1 : Int32)) r hf
def f_X12_pairs_b14 (k4 : xa_H → Nat → Int32 → Int32 → Option Int32) : Nat → xa_H → Nat → Int32 → Int32 → Int32 → Option Int32
  | 0, _, _, _, _, _ => none
  | n + 1, h, l0, l1, l2, l3 =>
    if l2 ≤ l3 then
      k4 h l0 l1 (l2 + (1 : Int32))
    else
      (gR [12] 32 h l0).bind fun x2 =>
      (aI h x2 (((6 : Int32) * l2) + l3)).bind fun x3 =>
      if x3 = 0 then
        f_X12_pairs_b39 k4 (fun h l0 l1 l2 l3 => f_X12_pairs_b14 k4 n h l0 l1 l2 l3) h l0 l2 l3 (0 : Int32) l1
      else
        f_X12_pairs_b39 k4 (fun h l0 l1 l2 l3 => f_X12_pairs_b14 k4 n h l0 l1 l2 l3) h l0 l2 l3 (1 : Int32) l1
set_option maxRecDepth 20000 in
theorem e_X12_pairs_b14 {G : xa_G} {k4 : xa_H → Nat → Int32 → Int32 → Option Int32} (hk4 : ∀ (h : xa_H) (l0 : Nat) (l1 : Int32) (l2 : Int32) (r : Int32), k4 h l0 l1 l2 = some r → xa_V G M_X12_pairs 0 4 [some (.ref l0), some (.int l1), some (.int l2), none] [] h (some (.int r)) h) : ∀ (n : Nat) (h : xa_H) (l0 : Nat) (l1 : Int32) (l2 : Int32) (l3 : Int32) (r : Int32), f_X12_pairs_b14 k4 n h l0 l1 l2 l3 = some r → xa_V G M_X12_pairs 0 14 [some (.ref l0), some (.int l1), some (.int l2), some (.int l3)] [] h (some (.int r)) h := by
  intro n
  induction n with
  | zero =>
    intro h l0 l1 l2 l3 r hf
    cases (show (none : Option Int32) = some r from hf)
  | succ n ih =>
    intro h l0 l1 l2 l3 r hf
    rw [f_X12_pairs_b14] at hf
    refine v_iload_n dX12_pairs_14 rfl ?_
    refine v_iload_n dX12_pairs_15 rfl ?_
    refine v_icmp_ge dX12_pairs_16 (tgt := 47) (by decide) (fun c1 => ?_) (fun c1 => ?_)
    · replace hf := (if_pos c1).symm.trans hf
      refine v_iinc dX12_pairs_47 rfl (v := (l2 + (1 : Int32))) rfl (Nat.le_of_ble_eq_true rfl) (loc' := [some (.ref l0), some (.int l1), some (.int (l2 + (1 : Int32))), some (.int l3)]) rfl ?_
      refine v_goto dX12_pairs_50 (tgt := 4) (by decide) ?_
      exact xa_weak (loc := [some (.ref l0), some (.int l1), some (.int (l2 + (1 : Int32))), none]) ⟨rfl, ⟨rfl, ⟨rfl, trivial⟩⟩⟩ (hk4 h l0 l1 (l2 + (1 : Int32)) r hf)
    · replace hf := (if_neg c1).symm.trans hf
      refine v_iload_n dX12_pairs_19 rfl ?_
      refine v_aload_n dX12_pairs_20 rfl ?_
      obtain ⟨x2, ex2, hf⟩ := ob hf
      refine v_getR dX12_pairs_21 fl_12_61 ex2 ?_
      refine v_bipush dX12_pairs_24 (by decide) (v := 6) ?_
      refine v_iload_n dX12_pairs_26 rfl ?_
      refine v_imul dX12_pairs_27 ?_
      refine v_iload_n dX12_pairs_28 rfl ?_
      refine v_iadd dX12_pairs_29 ?_
      obtain ⟨x3, ex3, hf⟩ := ob hf
      refine v_ialoadI dX12_pairs_30 ex3 ?_
      refine v_if_eq dX12_pairs_31 (tgt := 38) (by decide) (fun c4 => ?_) (fun c4 => ?_)
      · replace hf := (if_pos c4).symm.trans hf
        refine v_iconst dX12_pairs_38 (by decide) (v := 0) ?_
        exact xa_weak (loc := [some (.ref l0), none, some (.int l2), some (.int l3)]) ⟨rfl, ⟨rfl, ⟨rfl, trivial⟩⟩⟩ (e_X12_pairs_b39 hk4 ih h l0 l2 l3 (0 : Int32) l1 r hf)
      · replace hf := (if_neg c4).symm.trans hf
        refine v_iconst dX12_pairs_34 (by decide) (v := 1) ?_
        refine v_goto dX12_pairs_35 (tgt := 39) (by decide) ?_
        exact xa_weak (loc := [some (.ref l0), none, some (.int l2), some (.int l3)]) ⟨rfl, ⟨rfl, ⟨rfl, trivial⟩⟩⟩ (e_X12_pairs_b39 hk4 ih h l0 l2 l3 (1 : Int32) l1 r hf)
def f_X12_pairs_b4 : Nat → xa_H → Nat → Int32 → Int32 → Option Int32
  | 0, _, _, _, _ => none
  | n + 1, h, l0, l1, l2 =>
    (gI [12] 26 h l0).bind fun x1 =>
    if x1 ≤ l2 then
      some l1
    else
      f_X12_pairs_b14 (fun h l0 l1 l2 => f_X12_pairs_b4 n h l0 l1 l2) 1048576 h l0 l1 l2 (0 : Int32)
set_option maxRecDepth 20000 in
theorem e_X12_pairs_b4 {G : xa_G} : ∀ (n : Nat) (h : xa_H) (l0 : Nat) (l1 : Int32) (l2 : Int32) (r : Int32), f_X12_pairs_b4 n h l0 l1 l2 = some r → xa_V G M_X12_pairs 0 4 [some (.ref l0), some (.int l1), some (.int l2), none] [] h (some (.int r)) h := by
  intro n
  induction n with
  | zero =>
    intro h l0 l1 l2 r hf
    cases (show (none : Option Int32) = some r from hf)
  | succ n ih =>
    intro h l0 l1 l2 r hf
    rw [f_X12_pairs_b4] at hf
    refine v_iload_n dX12_pairs_4 rfl ?_
    refine v_aload_n dX12_pairs_5 rfl ?_
    obtain ⟨x1, ex1, hf⟩ := ob hf
    refine v_getI dX12_pairs_6 fl_12_307 ex1 ?_
    refine v_icmp_ge dX12_pairs_9 (tgt := 53) (by decide) (fun c2 => ?_) (fun c2 => ?_)
    · replace hf := (if_pos c2).symm.trans hf
      refine v_iload_n dX12_pairs_53 rfl ?_
      replace hf := Option.some.inj hf
      subst hf
      exact v_iret dX12_pairs_54 rfl
    · replace hf := (if_neg c2).symm.trans hf
      refine v_iconst dX12_pairs_12 (by decide) (v := 0) ?_
      refine v_istore_n (i := 3) rfl dX12_pairs_13 (Nat.le_of_ble_eq_true rfl) (loc' := [some (.ref l0), some (.int l1), some (.int l2), some (.int (0 : Int32))]) rfl ?_
      exact e_X12_pairs_b14 ih 1048576 h l0 l1 l2 (0 : Int32) r hf
def f_X12_pairs (h : xa_H) (l0 : Nat) : Option Int32 :=
  (ck [12] h l0).bind fun _ =>
  f_X12_pairs_b4 1048576 h l0 (0 : Int32) (0 : Int32)
set_option maxRecDepth 20000 in
theorem ev_X12_pairs {G : xa_G} {h : xa_H} {l0 : Nat} {r : Int32} (hf : f_X12_pairs h l0 = some r) : xa_Ev G M_X12_pairs 0 [.ref l0] h (some (.int r)) h := by
  refine xa_entry (by decide +kernel) (loc := [some (.ref l0), none, none, none]) rfl (Nat.le_of_ble_eq_true rfl) ?_
  unfold f_X12_pairs at hf
  obtain ⟨u0, eu0, hf⟩ := ob hf
  refine v_iconst dX12_pairs_0 (by decide) (v := 0) ?_
  refine v_istore_n (i := 1) rfl dX12_pairs_1 (Nat.le_of_ble_eq_true rfl) (loc' := [some (.ref l0), some (.int (0 : Int32)), none, none]) rfl ?_
  refine v_iconst dX12_pairs_2 (by decide) (v := 0) ?_
  refine v_istore_n (i := 2) rfl dX12_pairs_3 (Nat.le_of_ble_eq_true rfl) (loc' := [some (.ref l0), some (.int (0 : Int32)), some (.int (0 : Int32)), none]) rfl ?_
  exact e_X12_pairs_b4 1048576 h l0 (0 : Int32) (0 : Int32) r hf
theorem ckf_X12_pairs {h : xa_H} {l0 : Nat} {r : Int32} (hf : f_X12_pairs h l0 = some r) : ck [12] h l0 = some () := by
  obtain ⟨u, e, -⟩ := ob hf
  exact e
def M_X12_thoseThatCan : xa_M := (yX12_thoseThatCan, cX12_thoseThatCan, 3, some .int)
theorem cb_X12_thoseThatCan : xa_CB M_X12_thoseThatCan 0 := ⟨gws_at 1942 (by decide +kernel) rfl, gws_at 122 (by decide +kernel) rfl, by decide +kernel, Nat.le_of_ble_eq_true rfl⟩
def f_X12_thoseThatCan_b32 (k4 : xa_H → Nat → Int32 → Int32 → Option (Int32 × xa_H)) (h : xa_H) (l0 : Nat) (l2 : Int32) (s0 : Int32) (s1 : Int32) : Option (Int32 × xa_H) :=
  k4 h l0 (s1 ||| s0) (l2 + (1 : Int32))
set_option maxRecDepth 20000 in
theorem e_X12_thoseThatCan_b32 {G : xa_G} {k4 : xa_H → Nat → Int32 → Int32 → Option (Int32 × xa_H)} (hk4 : ∀ (h : xa_H) (l0 : Nat) (l1 : Int32) (l2 : Int32) (r : (Int32 × xa_H)), k4 h l0 l1 l2 = some r → xa_V G M_X12_thoseThatCan 3 4 [some (.ref l0), some (.int l1), some (.int l2)] [] h (some (.int r.1)) r.2) : ∀ (h : xa_H) (l0 : Nat) (l2 : Int32) (s0 : Int32) (s1 : Int32) (r : (Int32 × xa_H)), f_X12_thoseThatCan_b32 k4 h l0 l2 s0 s1 = some r → xa_V G M_X12_thoseThatCan 3 32 [some (.ref l0), none, some (.int l2)] [.int s0, .int s1] h (some (.int r.1)) r.2 := by
  intro h l0 l2 s0 s1 r hf
  unfold f_X12_thoseThatCan_b32 at hf
  refine v_ior dX12_thoseThatCan_32 ?_
  refine v_istore_n (i := 1) rfl dX12_thoseThatCan_33 (Nat.le_of_ble_eq_true rfl) (loc' := [some (.ref l0), some (.int (s1 ||| s0)), some (.int l2)]) rfl ?_
  refine v_iinc dX12_thoseThatCan_34 rfl (v := (l2 + (1 : Int32))) rfl (Nat.le_of_ble_eq_true rfl) (loc' := [some (.ref l0), some (.int (s1 ||| s0)), some (.int (l2 + (1 : Int32)))]) rfl ?_
  refine v_goto dX12_thoseThatCan_37 (tgt := 4) (by decide) ?_
  exact hk4 h l0 (s1 ||| s0) (l2 + (1 : Int32)) r hf
def f_X12_thoseThatCan_b4 : Nat → xa_H → Nat → Int32 → Int32 → Option (Int32 × xa_H)
  | 0, _, _, _, _ => none
  | n + 1, h, l0, l1, l2 =>
    (gI [12] 26 h l0).bind fun x1 =>
    if x1 ≤ l2 then
      some (l1, h)
    else
      (gR [12] 32 h l0).bind fun x3 =>
      (f_X12_can h l0 x3 l2).bind fun q4 =>
      if q4.1 = 0 then
        f_X12_thoseThatCan_b32 (fun h l0 l1 l2 => f_X12_thoseThatCan_b4 n h l0 l1 l2) q4.2 l0 l2 (0 : Int32) l1
      else
        f_X12_thoseThatCan_b32 (fun h l0 l1 l2 => f_X12_thoseThatCan_b4 n h l0 l1 l2) q4.2 l0 l2 (shl (1 : Int32) l2) l1
set_option maxRecDepth 20000 in
theorem e_X12_thoseThatCan_b4 {G : xa_G} : ∀ (n : Nat) (h : xa_H) (l0 : Nat) (l1 : Int32) (l2 : Int32) (r : (Int32 × xa_H)), f_X12_thoseThatCan_b4 n h l0 l1 l2 = some r → xa_V G M_X12_thoseThatCan 3 4 [some (.ref l0), some (.int l1), some (.int l2)] [] h (some (.int r.1)) r.2 := by
  intro n
  induction n with
  | zero =>
    intro h l0 l1 l2 r hf
    cases (show (none : Option (Int32 × xa_H)) = some r from hf)
  | succ n ih =>
    intro h l0 l1 l2 r hf
    rw [f_X12_thoseThatCan_b4] at hf
    refine v_iload_n dX12_thoseThatCan_4 rfl ?_
    refine v_aload_n dX12_thoseThatCan_5 rfl ?_
    obtain ⟨x1, ex1, hf⟩ := ob hf
    refine v_getI dX12_thoseThatCan_6 fl_12_307 ex1 ?_
    refine v_icmp_ge dX12_thoseThatCan_9 (tgt := 40) (by decide) (fun c2 => ?_) (fun c2 => ?_)
    · replace hf := (if_pos c2).symm.trans hf
      refine v_iload_n dX12_thoseThatCan_40 rfl ?_
      replace hf := Option.some.inj hf
      subst hf
      exact v_iret dX12_thoseThatCan_41 rfl
    · replace hf := (if_neg c2).symm.trans hf
      refine v_iload_n dX12_thoseThatCan_12 rfl ?_
      refine v_aload_n dX12_thoseThatCan_13 rfl ?_
      refine v_aload_n dX12_thoseThatCan_14 rfl ?_
      obtain ⟨x3, ex3, hf⟩ := ob hf
      refine v_getR dX12_thoseThatCan_15 fl_12_61 ex3 ?_
      refine v_iload_n dX12_thoseThatCan_18 rfl ?_
      obtain ⟨q4, eq4, hf⟩ := ob hf
      refine v_callV dX12_thoseThatCan_19 ⟨cb_X12_can, ml_12_403, im_X12_can⟩ se_12_X12_can (ckf_X12_can eq4) (ev_X12_can eq4) (by decide) (As := [.ref x3, .int l2]) rfl (st := [.int l1]) rfl (Nat.le_of_ble_eq_true rfl) rfl ?_
      refine v_if_eq dX12_thoseThatCan_22 (tgt := 31) (by decide) (fun c5 => ?_) (fun c5 => ?_)
      · replace hf := (if_pos c5).symm.trans hf
        refine v_iconst dX12_thoseThatCan_31 (by decide) (v := 0) ?_
        exact xa_weak (loc := [some (.ref l0), none, some (.int l2)]) ⟨rfl, ⟨rfl, trivial⟩⟩ (e_X12_thoseThatCan_b32 ih q4.2 l0 l2 (0 : Int32) l1 r hf)
      · replace hf := (if_neg c5).symm.trans hf
        refine v_iconst dX12_thoseThatCan_25 (by decide) (v := 1) ?_
        refine v_iload_n dX12_thoseThatCan_26 rfl ?_
        refine w_ishl dX12_thoseThatCan_27 ?_
        refine v_goto dX12_thoseThatCan_28 (tgt := 32) (by decide) ?_
        exact xa_weak (loc := [some (.ref l0), none, some (.int l2)]) ⟨rfl, ⟨rfl, trivial⟩⟩ (e_X12_thoseThatCan_b32 ih q4.2 l0 l2 (shl (1 : Int32) l2) l1 r hf)
def f_X12_thoseThatCan (h : xa_H) (l0 : Nat) : Option (Int32 × xa_H) :=
  (ck [12] h l0).bind fun _ =>
  f_X12_thoseThatCan_b4 1048576 h l0 (0 : Int32) (0 : Int32)
set_option maxRecDepth 20000 in
theorem ev_X12_thoseThatCan {G : xa_G} {h : xa_H} {l0 : Nat} {r : (Int32 × xa_H)} (hf : f_X12_thoseThatCan h l0 = some r) : xa_Ev G M_X12_thoseThatCan 3 [.ref l0] h (some (.int r.1)) r.2 := by
  refine xa_entry (by decide +kernel) (loc := [some (.ref l0), none, none]) rfl (Nat.le_of_ble_eq_true rfl) ?_
  unfold f_X12_thoseThatCan at hf
  obtain ⟨u0, eu0, hf⟩ := ob hf
  refine v_iconst dX12_thoseThatCan_0 (by decide) (v := 0) ?_
  refine v_istore_n (i := 1) rfl dX12_thoseThatCan_1 (Nat.le_of_ble_eq_true rfl) (loc' := [some (.ref l0), some (.int (0 : Int32)), none]) rfl ?_
  refine v_iconst dX12_thoseThatCan_2 (by decide) (v := 0) ?_
  refine v_istore_n (i := 2) rfl dX12_thoseThatCan_3 (Nat.le_of_ble_eq_true rfl) (loc' := [some (.ref l0), some (.int (0 : Int32)), some (.int (0 : Int32))]) rfl ?_
  exact e_X12_thoseThatCan_b4 1048576 h l0 (0 : Int32) (0 : Int32) r hf
theorem ckf_X12_thoseThatCan {h : xa_H} {l0 : Nat} {r : (Int32 × xa_H)} (hf : f_X12_thoseThatCan h l0 = some r) : ck [12] h l0 = some () := by
  obtain ⟨u, e, -⟩ := ob hf
  exact e
def M_X12_thoseWho : xa_M := (yX12_thoseWho, cX12_thoseWho, 5, some .int)
theorem cb_X12_thoseWho : xa_CB M_X12_thoseWho 2 := ⟨gws_at 1938 (by decide +kernel) rfl, gws_at 122 (by decide +kernel) rfl, by decide +kernel, Nat.le_of_ble_eq_true rfl⟩
def f_X12_thoseWho_b67 (k5 : xa_H → Nat → Int32 → Int32 → Int32 → Int32 → Option Int32) (h : xa_H) (l0 : Nat) (l1 : Int32) (l2 : Int32) (l4 : Int32) (s0 : Int32) (s1 : Int32) : Option Int32 :=
  k5 h l0 l1 l2 (s1 ||| s0) (l4 + (1 : Int32))
set_option maxRecDepth 20000 in
theorem e_X12_thoseWho_b67 {G : xa_G} {k5 : xa_H → Nat → Int32 → Int32 → Int32 → Int32 → Option Int32} (hk5 : ∀ (h : xa_H) (l0 : Nat) (l1 : Int32) (l2 : Int32) (l3 : Int32) (l4 : Int32) (r : Int32), k5 h l0 l1 l2 l3 l4 = some r → xa_V G M_X12_thoseWho 2 5 [some (.ref l0), some (.int l1), some (.int l2), some (.int l3), some (.int l4)] [] h (some (.int r)) h) : ∀ (h : xa_H) (l0 : Nat) (l1 : Int32) (l2 : Int32) (l4 : Int32) (s0 : Int32) (s1 : Int32) (r : Int32), f_X12_thoseWho_b67 k5 h l0 l1 l2 l4 s0 s1 = some r → xa_V G M_X12_thoseWho 2 67 [some (.ref l0), some (.int l1), some (.int l2), none, some (.int l4)] [.int s0, .int s1] h (some (.int r)) h := by
  intro h l0 l1 l2 l4 s0 s1 r hf
  unfold f_X12_thoseWho_b67 at hf
  refine v_ior dX12_thoseWho_67 ?_
  refine v_istore_n (i := 3) rfl dX12_thoseWho_68 (Nat.le_of_ble_eq_true rfl) (loc' := [some (.ref l0), some (.int l1), some (.int l2), some (.int (s1 ||| s0)), some (.int l4)]) rfl ?_
  refine v_iinc dX12_thoseWho_69 rfl (v := (l4 + (1 : Int32))) rfl (Nat.le_of_ble_eq_true rfl) (loc' := [some (.ref l0), some (.int l1), some (.int l2), some (.int (s1 ||| s0)), some (.int (l4 + (1 : Int32)))]) rfl ?_
  refine v_goto dX12_thoseWho_72 (tgt := 5) (by decide) ?_
  exact hk5 h l0 l1 l2 (s1 ||| s0) (l4 + (1 : Int32)) r hf
def f_X12_thoseWho_b66 (k5 : xa_H → Nat → Int32 → Int32 → Int32 → Int32 → Option Int32) (h : xa_H) (l0 : Nat) (l1 : Int32) (l2 : Int32) (l4 : Int32) (s0 : Int32) : Option Int32 :=
  f_X12_thoseWho_b67 k5 h l0 l1 l2 l4 (0 : Int32) s0
set_option maxRecDepth 20000 in
theorem e_X12_thoseWho_b66 {G : xa_G} {k5 : xa_H → Nat → Int32 → Int32 → Int32 → Int32 → Option Int32} (hk5 : ∀ (h : xa_H) (l0 : Nat) (l1 : Int32) (l2 : Int32) (l3 : Int32) (l4 : Int32) (r : Int32), k5 h l0 l1 l2 l3 l4 = some r → xa_V G M_X12_thoseWho 2 5 [some (.ref l0), some (.int l1), some (.int l2), some (.int l3), some (.int l4)] [] h (some (.int r)) h) : ∀ (h : xa_H) (l0 : Nat) (l1 : Int32) (l2 : Int32) (l4 : Int32) (s0 : Int32) (r : Int32), f_X12_thoseWho_b66 k5 h l0 l1 l2 l4 s0 = some r → xa_V G M_X12_thoseWho 2 66 [some (.ref l0), some (.int l1), some (.int l2), none, some (.int l4)] [.int s0] h (some (.int r)) h := by
  intro h l0 l1 l2 l4 s0 r hf
  unfold f_X12_thoseWho_b66 at hf
  refine v_iconst dX12_thoseWho_66 (by decide) (v := 0) ?_
  exact e_X12_thoseWho_b67 hk5 h l0 l1 l2 l4 (0 : Int32) s0 r hf
def f_X12_thoseWho_b55 (k5 : xa_H → Nat → Int32 → Int32 → Int32 → Int32 → Option Int32) (h : xa_H) (l0 : Nat) (l1 : Int32) (l2 : Int32) (l4 : Int32) (s0 : Int32) (s1 : Int32) : Option Int32 :=
  if s0 = l2 then
    f_X12_thoseWho_b67 k5 h l0 l1 l2 l4 (shl (1 : Int32) l4) s1
  else
    f_X12_thoseWho_b66 k5 h l0 l1 l2 l4 s1
set_option maxRecDepth 20000 in
theorem e_X12_thoseWho_b55 {G : xa_G} {k5 : xa_H → Nat → Int32 → Int32 → Int32 → Int32 → Option Int32} (hk5 : ∀ (h : xa_H) (l0 : Nat) (l1 : Int32) (l2 : Int32) (l3 : Int32) (l4 : Int32) (r : Int32), k5 h l0 l1 l2 l3 l4 = some r → xa_V G M_X12_thoseWho 2 5 [some (.ref l0), some (.int l1), some (.int l2), some (.int l3), some (.int l4)] [] h (some (.int r)) h) : ∀ (h : xa_H) (l0 : Nat) (l1 : Int32) (l2 : Int32) (l4 : Int32) (s0 : Int32) (s1 : Int32) (r : Int32), f_X12_thoseWho_b55 k5 h l0 l1 l2 l4 s0 s1 = some r → xa_V G M_X12_thoseWho 2 55 [some (.ref l0), some (.int l1), some (.int l2), none, some (.int l4)] [.int s0, .int s1] h (some (.int r)) h := by
  intro h l0 l1 l2 l4 s0 s1 r hf
  unfold f_X12_thoseWho_b55 at hf
  refine v_iload_n dX12_thoseWho_55 rfl ?_
  refine v_icmp_ne dX12_thoseWho_56 (tgt := 66) (by decide) (fun c1 => ?_) (fun c1 => ?_)
  · replace hf := (if_neg c1).symm.trans hf
    exact e_X12_thoseWho_b66 hk5 h l0 l1 l2 l4 s1 r hf
  · replace hf := (if_pos c1).symm.trans hf
    refine v_iconst dX12_thoseWho_59 (by decide) (v := 1) ?_
    refine v_iload dX12_thoseWho_60 rfl ?_
    refine w_ishl dX12_thoseWho_62 ?_
    refine v_goto dX12_thoseWho_63 (tgt := 67) (by decide) ?_
    exact e_X12_thoseWho_b67 hk5 h l0 l1 l2 l4 (shl (1 : Int32) l4) s1 r hf
def f_X12_thoseWho_b33 (k5 : xa_H → Nat → Int32 → Int32 → Int32 → Int32 → Option Int32) (h : xa_H) (l0 : Nat) (l1 : Int32) (l2 : Int32) (l4 : Int32) (s0 : Int32) (s1 : Int32) : Option Int32 :=
  if s0 = l1 then
    (gR [12] 32 h l0).bind fun x2 =>
    (f_X12_in h l0 x2 l4).bind fun q3 =>
    if q3 ≤ 0 then
      f_X12_thoseWho_b55 k5 h l0 l1 l2 l4 (0 : Int32) s1
    else
      f_X12_thoseWho_b55 k5 h l0 l1 l2 l4 (1 : Int32) s1
  else
    f_X12_thoseWho_b66 k5 h l0 l1 l2 l4 s1
set_option maxRecDepth 20000 in
theorem e_X12_thoseWho_b33 {G : xa_G} {k5 : xa_H → Nat → Int32 → Int32 → Int32 → Int32 → Option Int32} (hk5 : ∀ (h : xa_H) (l0 : Nat) (l1 : Int32) (l2 : Int32) (l3 : Int32) (l4 : Int32) (r : Int32), k5 h l0 l1 l2 l3 l4 = some r → xa_V G M_X12_thoseWho 2 5 [some (.ref l0), some (.int l1), some (.int l2), some (.int l3), some (.int l4)] [] h (some (.int r)) h) : ∀ (h : xa_H) (l0 : Nat) (l1 : Int32) (l2 : Int32) (l4 : Int32) (s0 : Int32) (s1 : Int32) (r : Int32), f_X12_thoseWho_b33 k5 h l0 l1 l2 l4 s0 s1 = some r → xa_V G M_X12_thoseWho 2 33 [some (.ref l0), some (.int l1), some (.int l2), none, some (.int l4)] [.int s0, .int s1] h (some (.int r)) h := by
  intro h l0 l1 l2 l4 s0 s1 r hf
  unfold f_X12_thoseWho_b33 at hf
  refine v_iload_n dX12_thoseWho_33 rfl ?_
  refine v_icmp_ne dX12_thoseWho_34 (tgt := 66) (by decide) (fun c1 => ?_) (fun c1 => ?_)
  · replace hf := (if_neg c1).symm.trans hf
    exact e_X12_thoseWho_b66 hk5 h l0 l1 l2 l4 s1 r hf
  · replace hf := (if_pos c1).symm.trans hf
    refine v_aload_n dX12_thoseWho_37 rfl ?_
    refine v_aload_n dX12_thoseWho_38 rfl ?_
    obtain ⟨x2, ex2, hf⟩ := ob hf
    refine v_getR dX12_thoseWho_39 fl_12_61 ex2 ?_
    refine v_iload dX12_thoseWho_42 rfl ?_
    obtain ⟨q3, eq3, hf⟩ := ob hf
    refine v_callV dX12_thoseWho_44 ⟨cb_X12_in, ml_12_370, im_X12_in⟩ se_12_X12_in (ckf_X12_in eq3) (ev_X12_in eq3) (by decide) (As := [.ref x2, .int l4]) rfl (st := [.int s1]) rfl (Nat.le_of_ble_eq_true rfl) rfl ?_
    refine v_if_le dX12_thoseWho_47 (tgt := 54) (by decide) (fun c4 => ?_) (fun c4 => ?_)
    · replace hf := (if_pos c4).symm.trans hf
      refine v_iconst dX12_thoseWho_54 (by decide) (v := 0) ?_
      exact e_X12_thoseWho_b55 hk5 h l0 l1 l2 l4 (0 : Int32) s1 r hf
    · replace hf := (if_neg c4).symm.trans hf
      refine v_iconst dX12_thoseWho_50 (by decide) (v := 1) ?_
      refine v_goto dX12_thoseWho_51 (tgt := 55) (by decide) ?_
      exact e_X12_thoseWho_b55 hk5 h l0 l1 l2 l4 (1 : Int32) s1 r hf
def f_X12_thoseWho_b5 : Nat → xa_H → Nat → Int32 → Int32 → Int32 → Int32 → Option Int32
  | 0, _, _, _, _, _, _ => none
  | n + 1, h, l0, l1, l2, l3, l4 =>
    (gI [12] 26 h l0).bind fun x1 =>
    if x1 ≤ l4 then
      some l3
    else
      (gR [12] 32 h l0).bind fun x3 =>
      (f_X12_out h l0 x3 l4).bind fun q4 =>
      if q4 ≤ 0 then
        f_X12_thoseWho_b33 (fun h l0 l1 l2 l3 l4 => f_X12_thoseWho_b5 n h l0 l1 l2 l3 l4) h l0 l1 l2 l4 (0 : Int32) l3
      else
        f_X12_thoseWho_b33 (fun h l0 l1 l2 l3 l4 => f_X12_thoseWho_b5 n h l0 l1 l2 l3 l4) h l0 l1 l2 l4 (1 : Int32) l3
set_option maxRecDepth 20000 in
theorem e_X12_thoseWho_b5 {G : xa_G} : ∀ (n : Nat) (h : xa_H) (l0 : Nat) (l1 : Int32) (l2 : Int32) (l3 : Int32) (l4 : Int32) (r : Int32), f_X12_thoseWho_b5 n h l0 l1 l2 l3 l4 = some r → xa_V G M_X12_thoseWho 2 5 [some (.ref l0), some (.int l1), some (.int l2), some (.int l3), some (.int l4)] [] h (some (.int r)) h := by
  intro n
  induction n with
  | zero =>
    intro h l0 l1 l2 l3 l4 r hf
    cases (show (none : Option Int32) = some r from hf)
  | succ n ih =>
    intro h l0 l1 l2 l3 l4 r hf
    rw [f_X12_thoseWho_b5] at hf
    refine v_iload dX12_thoseWho_5 rfl ?_
    refine v_aload_n dX12_thoseWho_7 rfl ?_
    obtain ⟨x1, ex1, hf⟩ := ob hf
    refine v_getI dX12_thoseWho_8 fl_12_307 ex1 ?_
    refine v_icmp_ge dX12_thoseWho_11 (tgt := 75) (by decide) (fun c2 => ?_) (fun c2 => ?_)
    · replace hf := (if_pos c2).symm.trans hf
      refine v_iload_n dX12_thoseWho_75 rfl ?_
      replace hf := Option.some.inj hf
      subst hf
      exact v_iret dX12_thoseWho_76 rfl
    · replace hf := (if_neg c2).symm.trans hf
      refine v_iload_n dX12_thoseWho_14 rfl ?_
      refine v_aload_n dX12_thoseWho_15 rfl ?_
      refine v_aload_n dX12_thoseWho_16 rfl ?_
      obtain ⟨x3, ex3, hf⟩ := ob hf
      refine v_getR dX12_thoseWho_17 fl_12_61 ex3 ?_
      refine v_iload dX12_thoseWho_20 rfl ?_
      obtain ⟨q4, eq4, hf⟩ := ob hf
      refine v_callV dX12_thoseWho_22 ⟨cb_X12_out, ml_12_353, im_X12_out⟩ se_12_X12_out (ckf_X12_out eq4) (ev_X12_out eq4) (by decide) (As := [.ref x3, .int l4]) rfl (st := [.int l3]) rfl (Nat.le_of_ble_eq_true rfl) rfl ?_
      refine v_if_le dX12_thoseWho_25 (tgt := 32) (by decide) (fun c5 => ?_) (fun c5 => ?_)
      · replace hf := (if_pos c5).symm.trans hf
        refine v_iconst dX12_thoseWho_32 (by decide) (v := 0) ?_
        exact xa_weak (loc := [some (.ref l0), some (.int l1), some (.int l2), none, some (.int l4)]) ⟨rfl, ⟨rfl, ⟨rfl, ⟨rfl, trivial⟩⟩⟩⟩ (e_X12_thoseWho_b33 ih h l0 l1 l2 l4 (0 : Int32) l3 r hf)
      · replace hf := (if_neg c5).symm.trans hf
        refine v_iconst dX12_thoseWho_28 (by decide) (v := 1) ?_
        refine v_goto dX12_thoseWho_29 (tgt := 33) (by decide) ?_
        exact xa_weak (loc := [some (.ref l0), some (.int l1), some (.int l2), none, some (.int l4)]) ⟨rfl, ⟨rfl, ⟨rfl, ⟨rfl, trivial⟩⟩⟩⟩ (e_X12_thoseWho_b33 ih h l0 l1 l2 l4 (1 : Int32) l3 r hf)
def f_X12_thoseWho (h : xa_H) (l0 : Nat) (l1 : Int32) (l2 : Int32) : Option Int32 :=
  (ck [12] h l0).bind fun _ =>
  f_X12_thoseWho_b5 1048576 h l0 l1 l2 (0 : Int32) (0 : Int32)
set_option maxRecDepth 20000 in
theorem ev_X12_thoseWho {G : xa_G} {h : xa_H} {l0 : Nat} {l1 : Int32} {l2 : Int32} {r : Int32} (hf : f_X12_thoseWho h l0 l1 l2 = some r) : xa_Ev G M_X12_thoseWho 2 [.ref l0, .int l1, .int l2] h (some (.int r)) h := by
  refine xa_entry (by decide +kernel) (loc := [some (.ref l0), some (.int l1), some (.int l2), none, none]) rfl (Nat.le_of_ble_eq_true rfl) ?_
  unfold f_X12_thoseWho at hf
  obtain ⟨u0, eu0, hf⟩ := ob hf
  refine v_iconst dX12_thoseWho_0 (by decide) (v := 0) ?_
  refine v_istore_n (i := 3) rfl dX12_thoseWho_1 (Nat.le_of_ble_eq_true rfl) (loc' := [some (.ref l0), some (.int l1), some (.int l2), some (.int (0 : Int32)), none]) rfl ?_
  refine v_iconst dX12_thoseWho_2 (by decide) (v := 0) ?_
  refine v_istore dX12_thoseWho_3 (Nat.le_of_ble_eq_true rfl) (loc' := [some (.ref l0), some (.int l1), some (.int l2), some (.int (0 : Int32)), some (.int (0 : Int32))]) rfl ?_
  exact e_X12_thoseWho_b5 1048576 h l0 l1 l2 (0 : Int32) (0 : Int32) r hf
theorem ckf_X12_thoseWho {h : xa_H} {l0 : Nat} {l1 : Int32} {l2 : Int32} {r : Int32} (hf : f_X12_thoseWho h l0 l1 l2 = some r) : ck [12] h l0 = some () := by
  obtain ⟨u, e, -⟩ := ob hf
  exact e
def M_X12_all : xa_M := (yX12_all, cX12_all, 2, some .int)
theorem cb_X12_all : xa_CB M_X12_all 1 := ⟨gws_at 1922 (by decide +kernel) rfl, gws_at 122 (by decide +kernel) rfl, by decide +kernel, Nat.le_of_ble_eq_true rfl⟩
def f_X12_all (h : xa_H) (l0 : Nat) (l1 : Int32) : Option (Int32 × xa_H) :=
  (ck [12] h l0).bind fun _ =>
  (xp [12] 0 h l0 (.int (0 : Int32))).bind fun h1 =>
  (gI [12] 26 h1 l0).bind fun x2 =>
  if x2 = 0 then
    some ((-1000000 : Int32), h1)
  else
    if l1 = (0 : Int32) then
      (f_X12_greatest h1 l0 l1).bind fun q5 =>
      some (q5, h1)
    else if l1 = (1 : Int32) then
      (f_X12_greatest h1 l0 l1).bind fun q7 =>
      some (q7, h1)
    else if l1 = (2 : Int32) then
      (f_X12_greatest h1 l0 l1).bind fun q9 =>
      some (q9, h1)
    else if l1 = (3 : Int32) then
      (f_X12_greatest h1 l0 l1).bind fun q11 =>
      some (q11, h1)
    else if l1 = (4 : Int32) then
      (f_X12_greatest h1 l0 l1).bind fun q13 =>
      some (q13, h1)
    else if l1 = (5 : Int32) then
      (gR [12] 32 h1 l0).bind fun x15 =>
      (f_X12_allFavours h1 l0 x15).bind fun q16 =>
      some (q16, h1)
    else if l1 = (6 : Int32) then
      (f_X12_pairs h1 l0).bind fun q18 =>
      some (q18, h1)
    else if l1 = (7 : Int32) then
      (f_X12_thoseWho h1 l0 (1 : Int32) (0 : Int32)).bind fun q20 =>
      some (q20, h1)
    else if l1 = (8 : Int32) then
      (f_X12_thoseWho h1 l0 (0 : Int32) (1 : Int32)).bind fun q22 =>
      some (q22, h1)
    else if l1 = (9 : Int32) then
      (f_X12_thoseWho h1 l0 (0 : Int32) (0 : Int32)).bind fun q24 =>
      some (q24, h1)
    else if l1 = (10 : Int32) then
      (gR [12] 32 h1 l0).bind fun x26 =>
      (aI h1 x26 (48 : Int32)).bind fun x27 =>
      some (x27, h1)
    else if l1 = (11 : Int32) then
      (f_X12_thoseThatCan h1 l0).bind fun q29 =>
      some (q29.1, q29.2)
    else if l1 = (12 : Int32) then
      (f_X12_levels h1 l0).bind fun q31 =>
      some (q31.1, q31.2)
    else if l1 = (13 : Int32) then
      (f_X12_mostBetween h1 l0).bind fun q33 =>
      some (q33, h1)
    else 
      some ((-1000000 : Int32), h1)
set_option maxRecDepth 20000 in
theorem ev_X12_all {G : xa_G} {h : xa_H} {l0 : Nat} {l1 : Int32} {r : (Int32 × xa_H)} (hf : f_X12_all h l0 l1 = some r) : xa_Ev G M_X12_all 5 [.ref l0, .int l1] h (some (.int r.1)) r.2 := by
  refine xa_entry (by decide +kernel) (loc := [some (.ref l0), some (.int l1)]) rfl (Nat.le_of_ble_eq_true rfl) ?_
  unfold f_X12_all at hf
  obtain ⟨u0, eu0, hf⟩ := ob hf
  refine v_aload_n dX12_all_0 rfl ?_
  refine v_iconst dX12_all_1 (by decide) (v := 0) ?_
  obtain ⟨h1, eh1, hf⟩ := ob hf
  refine v_put dX12_all_2 fp_12_111 (fun z => by cases z) (fun _ => rfl) (fun _ => rfl) eh1 ?_
  refine v_aload_n dX12_all_5 rfl ?_
  obtain ⟨x2, ex2, hf⟩ := ob hf
  refine v_getI dX12_all_6 fl_12_307 ex2 ?_
  refine v_if_ne dX12_all_9 (tgt := 16) (by decide) (fun c3 => ?_) (fun c3 => ?_)
  · replace hf := (if_neg c3).symm.trans hf
    refine v_iload_n dX12_all_16 rfl ?_
    by_cases c4 : l1 = (0 : Int32)
    · replace hf := (if_pos c4).symm.trans hf
      refine v_tabIn dX12_all_17 (0 : Int32) c4 (by decide) (by decide) (off := 71) rfl (tgt := 88) (by decide) ?_
      refine v_aload_n dX12_all_88 rfl ?_
      refine v_iload_n dX12_all_89 rfl ?_
      obtain ⟨q5, eq5, hf⟩ := ob hf
      refine v_callV dX12_all_90 ⟨cb_X12_greatest, ml_12_513, im_X12_greatest⟩ se_12_X12_greatest (ckf_X12_greatest eq5) (ev_X12_greatest eq5) (by decide) (As := [.int l1]) rfl (st := []) rfl (Nat.le_of_ble_eq_true rfl) rfl ?_
      replace hf := Option.some.inj hf
      subst hf
      exact v_iret dX12_all_93 rfl
    replace hf := (if_neg c4).symm.trans hf
    by_cases c6 : l1 = (1 : Int32)
    · replace hf := (if_pos c6).symm.trans hf
      refine v_tabIn dX12_all_17 (1 : Int32) c6 (by decide) (by decide) (off := 71) rfl (tgt := 88) (by decide) ?_
      refine v_aload_n dX12_all_88 rfl ?_
      refine v_iload_n dX12_all_89 rfl ?_
      obtain ⟨q7, eq7, hf⟩ := ob hf
      refine v_callV dX12_all_90 ⟨cb_X12_greatest, ml_12_513, im_X12_greatest⟩ se_12_X12_greatest (ckf_X12_greatest eq7) (ev_X12_greatest eq7) (by decide) (As := [.int l1]) rfl (st := []) rfl (Nat.le_of_ble_eq_true rfl) rfl ?_
      replace hf := Option.some.inj hf
      subst hf
      exact v_iret dX12_all_93 rfl
    replace hf := (if_neg c6).symm.trans hf
    by_cases c8 : l1 = (2 : Int32)
    · replace hf := (if_pos c8).symm.trans hf
      refine v_tabIn dX12_all_17 (2 : Int32) c8 (by decide) (by decide) (off := 71) rfl (tgt := 88) (by decide) ?_
      refine v_aload_n dX12_all_88 rfl ?_
      refine v_iload_n dX12_all_89 rfl ?_
      obtain ⟨q9, eq9, hf⟩ := ob hf
      refine v_callV dX12_all_90 ⟨cb_X12_greatest, ml_12_513, im_X12_greatest⟩ se_12_X12_greatest (ckf_X12_greatest eq9) (ev_X12_greatest eq9) (by decide) (As := [.int l1]) rfl (st := []) rfl (Nat.le_of_ble_eq_true rfl) rfl ?_
      replace hf := Option.some.inj hf
      subst hf
      exact v_iret dX12_all_93 rfl
    replace hf := (if_neg c8).symm.trans hf
    by_cases c10 : l1 = (3 : Int32)
    · replace hf := (if_pos c10).symm.trans hf
      refine v_tabIn dX12_all_17 (3 : Int32) c10 (by decide) (by decide) (off := 71) rfl (tgt := 88) (by decide) ?_
      refine v_aload_n dX12_all_88 rfl ?_
      refine v_iload_n dX12_all_89 rfl ?_
      obtain ⟨q11, eq11, hf⟩ := ob hf
      refine v_callV dX12_all_90 ⟨cb_X12_greatest, ml_12_513, im_X12_greatest⟩ se_12_X12_greatest (ckf_X12_greatest eq11) (ev_X12_greatest eq11) (by decide) (As := [.int l1]) rfl (st := []) rfl (Nat.le_of_ble_eq_true rfl) rfl ?_
      replace hf := Option.some.inj hf
      subst hf
      exact v_iret dX12_all_93 rfl
    replace hf := (if_neg c10).symm.trans hf
    by_cases c12 : l1 = (4 : Int32)
    · replace hf := (if_pos c12).symm.trans hf
      refine v_tabIn dX12_all_17 (4 : Int32) c12 (by decide) (by decide) (off := 71) rfl (tgt := 88) (by decide) ?_
      refine v_aload_n dX12_all_88 rfl ?_
      refine v_iload_n dX12_all_89 rfl ?_
      obtain ⟨q13, eq13, hf⟩ := ob hf
      refine v_callV dX12_all_90 ⟨cb_X12_greatest, ml_12_513, im_X12_greatest⟩ se_12_X12_greatest (ckf_X12_greatest eq13) (ev_X12_greatest eq13) (by decide) (As := [.int l1]) rfl (st := []) rfl (Nat.le_of_ble_eq_true rfl) rfl ?_
      replace hf := Option.some.inj hf
      subst hf
      exact v_iret dX12_all_93 rfl
    replace hf := (if_neg c12).symm.trans hf
    by_cases c14 : l1 = (5 : Int32)
    · replace hf := (if_pos c14).symm.trans hf
      refine v_tabIn dX12_all_17 (5 : Int32) c14 (by decide) (by decide) (off := 77) rfl (tgt := 94) (by decide) ?_
      refine v_aload_n dX12_all_94 rfl ?_
      refine v_aload_n dX12_all_95 rfl ?_
      obtain ⟨x15, ex15, hf⟩ := ob hf
      refine v_getR dX12_all_96 fl_12_61 ex15 ?_
      obtain ⟨q16, eq16, hf⟩ := ob hf
      refine v_callV dX12_all_99 ⟨cb_X12_allFavours, ml_12_363, im_X12_allFavours⟩ se_12_X12_allFavours (ckf_X12_allFavours eq16) (ev_X12_allFavours eq16) (by decide) (As := [.ref x15]) rfl (st := []) rfl (Nat.le_of_ble_eq_true rfl) rfl ?_
      replace hf := Option.some.inj hf
      subst hf
      exact v_iret dX12_all_102 rfl
    replace hf := (if_neg c14).symm.trans hf
    by_cases c17 : l1 = (6 : Int32)
    · replace hf := (if_pos c17).symm.trans hf
      refine v_tabIn dX12_all_17 (6 : Int32) c17 (by decide) (by decide) (off := 86) rfl (tgt := 103) (by decide) ?_
      refine v_aload_n dX12_all_103 rfl ?_
      obtain ⟨q18, eq18, hf⟩ := ob hf
      refine v_callV dX12_all_104 ⟨cb_X12_pairs, ml_12_516, im_X12_pairs⟩ se_12_X12_pairs (ckf_X12_pairs eq18) (ev_X12_pairs eq18) (by decide) (As := []) rfl (st := []) rfl (Nat.le_of_ble_eq_true rfl) rfl ?_
      replace hf := Option.some.inj hf
      subst hf
      exact v_iret dX12_all_107 rfl
    replace hf := (if_neg c17).symm.trans hf
    by_cases c19 : l1 = (7 : Int32)
    · replace hf := (if_pos c19).symm.trans hf
      refine v_tabIn dX12_all_17 (7 : Int32) c19 (by decide) (by decide) (off := 91) rfl (tgt := 108) (by decide) ?_
      refine v_aload_n dX12_all_108 rfl ?_
      refine v_iconst dX12_all_109 (by decide) (v := 1) ?_
      refine v_iconst dX12_all_110 (by decide) (v := 0) ?_
      obtain ⟨q20, eq20, hf⟩ := ob hf
      refine v_callV dX12_all_111 ⟨cb_X12_thoseWho, ml_12_519, im_X12_thoseWho⟩ se_12_X12_thoseWho (ckf_X12_thoseWho eq20) (ev_X12_thoseWho eq20) (by decide) (As := [.int (1 : Int32), .int (0 : Int32)]) rfl (st := []) rfl (Nat.le_of_ble_eq_true rfl) rfl ?_
      replace hf := Option.some.inj hf
      subst hf
      exact v_iret dX12_all_114 rfl
    replace hf := (if_neg c19).symm.trans hf
    by_cases c21 : l1 = (8 : Int32)
    · replace hf := (if_pos c21).symm.trans hf
      refine v_tabIn dX12_all_17 (8 : Int32) c21 (by decide) (by decide) (off := 98) rfl (tgt := 115) (by decide) ?_
      refine v_aload_n dX12_all_115 rfl ?_
      refine v_iconst dX12_all_116 (by decide) (v := 0) ?_
      refine v_iconst dX12_all_117 (by decide) (v := 1) ?_
      obtain ⟨q22, eq22, hf⟩ := ob hf
      refine v_callV dX12_all_118 ⟨cb_X12_thoseWho, ml_12_519, im_X12_thoseWho⟩ se_12_X12_thoseWho (ckf_X12_thoseWho eq22) (ev_X12_thoseWho eq22) (by decide) (As := [.int (0 : Int32), .int (1 : Int32)]) rfl (st := []) rfl (Nat.le_of_ble_eq_true rfl) rfl ?_
      replace hf := Option.some.inj hf
      subst hf
      exact v_iret dX12_all_121 rfl
    replace hf := (if_neg c21).symm.trans hf
    by_cases c23 : l1 = (9 : Int32)
    · replace hf := (if_pos c23).symm.trans hf
      refine v_tabIn dX12_all_17 (9 : Int32) c23 (by decide) (by decide) (off := 105) rfl (tgt := 122) (by decide) ?_
      refine v_aload_n dX12_all_122 rfl ?_
      refine v_iconst dX12_all_123 (by decide) (v := 0) ?_
      refine v_iconst dX12_all_124 (by decide) (v := 0) ?_
      obtain ⟨q24, eq24, hf⟩ := ob hf
      refine v_callV dX12_all_125 ⟨cb_X12_thoseWho, ml_12_519, im_X12_thoseWho⟩ se_12_X12_thoseWho (ckf_X12_thoseWho eq24) (ev_X12_thoseWho eq24) (by decide) (As := [.int (0 : Int32), .int (0 : Int32)]) rfl (st := []) rfl (Nat.le_of_ble_eq_true rfl) rfl ?_
      replace hf := Option.some.inj hf
      subst hf
      exact v_iret dX12_all_128 rfl
    replace hf := (if_neg c23).symm.trans hf
    by_cases c25 : l1 = (10 : Int32)
    · replace hf := (if_pos c25).symm.trans hf
      refine v_tabIn dX12_all_17 (10 : Int32) c25 (by decide) (by decide) (off := 112) rfl (tgt := 129) (by decide) ?_
      refine v_aload_n dX12_all_129 rfl ?_
      obtain ⟨x26, ex26, hf⟩ := ob hf
      refine v_getR dX12_all_130 fl_12_61 ex26 ?_
      refine v_bipush dX12_all_133 (by decide) (v := 48) ?_
      obtain ⟨x27, ex27, hf⟩ := ob hf
      refine v_ialoadI dX12_all_135 ex27 ?_
      replace hf := Option.some.inj hf
      subst hf
      exact v_iret dX12_all_136 rfl
    replace hf := (if_neg c25).symm.trans hf
    by_cases c28 : l1 = (11 : Int32)
    · replace hf := (if_pos c28).symm.trans hf
      refine v_tabIn dX12_all_17 (11 : Int32) c28 (by decide) (by decide) (off := 120) rfl (tgt := 137) (by decide) ?_
      refine v_aload_n dX12_all_137 rfl ?_
      obtain ⟨q29, eq29, hf⟩ := ob hf
      refine v_callV dX12_all_138 ⟨cb_X12_thoseThatCan, ml_12_523, im_X12_thoseThatCan⟩ se_12_X12_thoseThatCan (ckf_X12_thoseThatCan eq29) (ev_X12_thoseThatCan eq29) (by decide) (As := []) rfl (st := []) rfl (Nat.le_of_ble_eq_true rfl) rfl ?_
      replace hf := Option.some.inj hf
      subst hf
      exact v_iret dX12_all_141 rfl
    replace hf := (if_neg c28).symm.trans hf
    by_cases c30 : l1 = (12 : Int32)
    · replace hf := (if_pos c30).symm.trans hf
      refine v_tabIn dX12_all_17 (12 : Int32) c30 (by decide) (by decide) (off := 125) rfl (tgt := 142) (by decide) ?_
      refine v_aload_n dX12_all_142 rfl ?_
      obtain ⟨q31, eq31, hf⟩ := ob hf
      refine v_callV dX12_all_143 ⟨cb_X12_levels, ml_12_526, im_X12_levels⟩ se_12_X12_levels (ckf_X12_levels eq31) (ev_X12_levels eq31) (by decide) (As := []) rfl (st := []) rfl (Nat.le_of_ble_eq_true rfl) rfl ?_
      replace hf := Option.some.inj hf
      subst hf
      exact v_iret dX12_all_146 rfl
    replace hf := (if_neg c30).symm.trans hf
    by_cases c32 : l1 = (13 : Int32)
    · replace hf := (if_pos c32).symm.trans hf
      refine v_tabIn dX12_all_17 (13 : Int32) c32 (by decide) (by decide) (off := 130) rfl (tgt := 147) (by decide) ?_
      refine v_aload_n dX12_all_147 rfl ?_
      obtain ⟨q33, eq33, hf⟩ := ob hf
      refine v_callV dX12_all_148 ⟨cb_X12_mostBetween, ml_12_529, im_X12_mostBetween⟩ se_12_X12_mostBetween (ckf_X12_mostBetween eq33) (ev_X12_mostBetween eq33) (by decide) (As := []) rfl (st := []) rfl (Nat.le_of_ble_eq_true rfl) rfl ?_
      replace hf := Option.some.inj hf
      subst hf
      exact v_iret dX12_all_151 rfl
    replace hf := (if_neg c32).symm.trans hf
    refine v_tabOut dX12_all_17 (by have zc4 := tsx (n := 0) (by decide) c4; have zc6 := tsx (n := 1) (by decide) c6; have zc8 := tsx (n := 2) (by decide) c8; have zc10 := tsx (n := 3) (by decide) c10; have zc12 := tsx (n := 4) (by decide) c12; have zc14 := tsx (n := 5) (by decide) c14; have zc17 := tsx (n := 6) (by decide) c17; have zc19 := tsx (n := 7) (by decide) c19; have zc21 := tsx (n := 8) (by decide) c21; have zc23 := tsx (n := 9) (by decide) c23; have zc25 := tsx (n := 10) (by decide) c25; have zc28 := tsx (n := 11) (by decide) c28; have zc30 := tsx (n := 12) (by decide) c30; have zc32 := tsx (n := 13) (by decide) c32; omega) (tgt := 152) (by decide) ?_
    refine v_ldcw dX12_all_152 rfl co_12_380 ?_
    replace hf := Option.some.inj hf
    subst hf
    exact v_iret dX12_all_155 rfl
  · replace hf := (if_pos c3).symm.trans hf
    refine v_ldcw dX12_all_12 rfl co_12_380 ?_
    replace hf := Option.some.inj hf
    subst hf
    exact v_iret dX12_all_15 rfl
theorem ckf_X12_all {h : xa_H} {l0 : Nat} {l1 : Int32} {r : (Int32 × xa_H)} (hf : f_X12_all h l0 l1 = some r) : ck [12] h l0 = some () := by
  obtain ⟨u, e, -⟩ := ob hf
  exact e
def M_X12_lays : xa_M := (yX12_lays, cX12_lays, 3, none)
theorem cb_X12_lays : xa_CB M_X12_lays 1 := ⟨gws_at 1630 (by decide +kernel) rfl, gws_at 122 (by decide +kernel) rfl, by decide +kernel, Nat.le_of_ble_eq_true rfl⟩
def f_X12_lays_b100 : Nat → xa_H → Nat → Nat → Int32 → Option xa_H
  | 0, _, _, _, _ => none
  | n + 1, h, l0, l1, l2 =>
    (gI [12] 26 h l0).bind fun x1 =>
    if x1 ≤ l2 then
      (gR [12] 18 h l0).bind fun x3 =>
      (aI h x3 (0 : Int32)).bind fun x4 =>
      (pI h l1 (49 : Int32) x4).bind fun h5 =>
      some h5
    else
      (gR [12] 20 h l0).bind fun x6 =>
      (aI h x6 ((3 : Int32) * l2)).bind fun x7 =>
      (pI h l1 ((36 : Int32) + l2) x7).bind fun h8 =>
      (aI h8 l1 (48 : Int32)).bind fun x9 =>
      (gR [12] 20 h8 l0).bind fun x10 =>
      (aI h8 x10 (((3 : Int32) * l2) + (2 : Int32))).bind fun x11 =>
      (pI h8 l1 (48 : Int32) (x9 ||| (shl x11 l2))).bind fun h12 =>
      f_X12_lays_b100 n h12 l0 l1 (l2 + (1 : Int32))
set_option maxRecDepth 20000 in
theorem e_X12_lays_b100 {G : xa_G} : ∀ (n : Nat) (h : xa_H) (l0 : Nat) (l1 : Nat) (l2 : Int32) (r : xa_H), f_X12_lays_b100 n h l0 l1 l2 = some r → xa_V G M_X12_lays 0 100 [some (.ref l0), some (.ref l1), some (.int l2)] [] h none r := by
  intro n
  induction n with
  | zero =>
    intro h l0 l1 l2 r hf
    cases (show (none : Option xa_H) = some r from hf)
  | succ n ih =>
    intro h l0 l1 l2 r hf
    rw [f_X12_lays_b100] at hf
    refine v_iload_n dX12_lays_100 rfl ?_
    refine v_aload_n dX12_lays_101 rfl ?_
    obtain ⟨x1, ex1, hf⟩ := ob hf
    refine v_getI dX12_lays_102 fl_12_307 ex1 ?_
    refine v_icmp_ge dX12_lays_105 (tgt := 147) (by decide) (fun c2 => ?_) (fun c2 => ?_)
    · replace hf := (if_pos c2).symm.trans hf
      refine v_aload_n dX12_lays_147 rfl ?_
      refine v_bipush dX12_lays_148 (by decide) (v := 49) ?_
      refine v_aload_n dX12_lays_150 rfl ?_
      obtain ⟨x3, ex3, hf⟩ := ob hf
      refine v_getR dX12_lays_151 fl_12_37 ex3 ?_
      refine v_iconst dX12_lays_154 (by decide) (v := 0) ?_
      obtain ⟨x4, ex4, hf⟩ := ob hf
      refine v_ialoadI dX12_lays_155 ex4 ?_
      obtain ⟨h5, eh5, hf⟩ := ob hf
      refine v_iastoreI dX12_lays_156 eh5 ?_
      replace hf := Option.some.inj hf
      subst hf
      exact v_vret dX12_lays_157 rfl
    · replace hf := (if_neg c2).symm.trans hf
      refine v_aload_n dX12_lays_108 rfl ?_
      refine v_bipush dX12_lays_109 (by decide) (v := 36) ?_
      refine v_iload_n dX12_lays_111 rfl ?_
      refine v_iadd dX12_lays_112 ?_
      refine v_aload_n dX12_lays_113 rfl ?_
      obtain ⟨x6, ex6, hf⟩ := ob hf
      refine v_getR dX12_lays_114 fl_12_43 ex6 ?_
      refine v_iconst dX12_lays_117 (by decide) (v := 3) ?_
      refine v_iload_n dX12_lays_118 rfl ?_
      refine v_imul dX12_lays_119 ?_
      obtain ⟨x7, ex7, hf⟩ := ob hf
      refine v_ialoadI dX12_lays_120 ex7 ?_
      obtain ⟨h8, eh8, hf⟩ := ob hf
      refine v_iastoreI dX12_lays_121 eh8 ?_
      refine v_aload_n dX12_lays_122 rfl ?_
      refine v_bipush dX12_lays_123 (by decide) (v := 48) ?_
      refine v_dup2 dX12_lays_125 rfl rfl ?_
      obtain ⟨x9, ex9, hf⟩ := ob hf
      refine v_ialoadI dX12_lays_126 ex9 ?_
      refine v_aload_n dX12_lays_127 rfl ?_
      obtain ⟨x10, ex10, hf⟩ := ob hf
      refine v_getR dX12_lays_128 fl_12_43 ex10 ?_
      refine v_iconst dX12_lays_131 (by decide) (v := 3) ?_
      refine v_iload_n dX12_lays_132 rfl ?_
      refine v_imul dX12_lays_133 ?_
      refine v_iconst dX12_lays_134 (by decide) (v := 2) ?_
      refine v_iadd dX12_lays_135 ?_
      obtain ⟨x11, ex11, hf⟩ := ob hf
      refine v_ialoadI dX12_lays_136 ex11 ?_
      refine v_iload_n dX12_lays_137 rfl ?_
      refine w_ishl dX12_lays_138 ?_
      refine v_ior dX12_lays_139 ?_
      obtain ⟨h12, eh12, hf⟩ := ob hf
      refine v_iastoreI dX12_lays_140 eh12 ?_
      refine v_iinc dX12_lays_141 rfl (v := (l2 + (1 : Int32))) rfl (Nat.le_of_ble_eq_true rfl) (loc' := [some (.ref l0), some (.ref l1), some (.int (l2 + (1 : Int32)))]) rfl ?_
      refine v_goto dX12_lays_144 (tgt := 100) (by decide) ?_
      exact ih h12 l0 l1 (l2 + (1 : Int32)) r hf
def f_X12_lays_b20 : Nat → xa_H → Nat → Nat → Int32 → Option xa_H
  | 0, _, _, _, _ => none
  | n + 1, h, l0, l1, l2 =>
    (gI [12] 27 h l0).bind fun x1 =>
    if ((3 : Int32) * x1) ≤ l2 then
      f_X12_lays_b100 1048576 h l0 l1 (0 : Int32)
    else
      (gR [12] 22 h l0).bind fun x3 =>
      (aI h x3 l2).bind fun x4 =>
      (gR [12] 22 h l0).bind fun x5 =>
      (aI h x5 (l2 + (1 : Int32))).bind fun x6 =>
      (aI h l1 (((6 : Int32) * x4) + x6)).bind fun x7 =>
      (gR [12] 22 h l0).bind fun x8 =>
      (aI h x8 (l2 + (2 : Int32))).bind fun x9 =>
      (pI h l1 (((6 : Int32) * x4) + x6) (x7 + x9)).bind fun h10 =>
      (gR [12] 22 h10 l0).bind fun x11 =>
      (aI h10 x11 (l2 + (1 : Int32))).bind fun x12 =>
      (gR [12] 22 h10 l0).bind fun x13 =>
      (aI h10 x13 l2).bind fun x14 =>
      (aI h10 l1 (((6 : Int32) * x12) + x14)).bind fun x15 =>
      (gR [12] 22 h10 l0).bind fun x16 =>
      (aI h10 x16 (l2 + (2 : Int32))).bind fun x17 =>
      (pI h10 l1 (((6 : Int32) * x12) + x14) (x15 - x17)).bind fun h18 =>
      f_X12_lays_b20 n h18 l0 l1 (l2 + (3 : Int32))
set_option maxRecDepth 20000 in
theorem e_X12_lays_b20 {G : xa_G} : ∀ (n : Nat) (h : xa_H) (l0 : Nat) (l1 : Nat) (l2 : Int32) (r : xa_H), f_X12_lays_b20 n h l0 l1 l2 = some r → xa_V G M_X12_lays 0 20 [some (.ref l0), some (.ref l1), some (.int l2)] [] h none r := by
  intro n
  induction n with
  | zero =>
    intro h l0 l1 l2 r hf
    cases (show (none : Option xa_H) = some r from hf)
  | succ n ih =>
    intro h l0 l1 l2 r hf
    rw [f_X12_lays_b20] at hf
    refine v_iload_n dX12_lays_20 rfl ?_
    refine v_iconst dX12_lays_21 (by decide) (v := 3) ?_
    refine v_aload_n dX12_lays_22 rfl ?_
    obtain ⟨x1, ex1, hf⟩ := ob hf
    refine v_getI dX12_lays_23 fl_12_310 ex1 ?_
    refine v_imul dX12_lays_26 ?_
    refine v_icmp_ge dX12_lays_27 (tgt := 98) (by decide) (fun c2 => ?_) (fun c2 => ?_)
    · replace hf := (if_pos c2).symm.trans hf
      refine v_iconst dX12_lays_98 (by decide) (v := 0) ?_
      refine v_istore_n (i := 2) rfl dX12_lays_99 (Nat.le_of_ble_eq_true rfl) (loc' := [some (.ref l0), some (.ref l1), some (.int (0 : Int32))]) rfl ?_
      exact e_X12_lays_b100 1048576 h l0 l1 (0 : Int32) r hf
    · replace hf := (if_neg c2).symm.trans hf
      refine v_aload_n dX12_lays_30 rfl ?_
      refine v_bipush dX12_lays_31 (by decide) (v := 6) ?_
      refine v_aload_n dX12_lays_33 rfl ?_
      obtain ⟨x3, ex3, hf⟩ := ob hf
      refine v_getR dX12_lays_34 fl_12_49 ex3 ?_
      refine v_iload_n dX12_lays_37 rfl ?_
      obtain ⟨x4, ex4, hf⟩ := ob hf
      refine v_ialoadI dX12_lays_38 ex4 ?_
      refine v_imul dX12_lays_39 ?_
      refine v_aload_n dX12_lays_40 rfl ?_
      obtain ⟨x5, ex5, hf⟩ := ob hf
      refine v_getR dX12_lays_41 fl_12_49 ex5 ?_
      refine v_iload_n dX12_lays_44 rfl ?_
      refine v_iconst dX12_lays_45 (by decide) (v := 1) ?_
      refine v_iadd dX12_lays_46 ?_
      obtain ⟨x6, ex6, hf⟩ := ob hf
      refine v_ialoadI dX12_lays_47 ex6 ?_
      refine v_iadd dX12_lays_48 ?_
      refine v_dup2 dX12_lays_49 rfl rfl ?_
      obtain ⟨x7, ex7, hf⟩ := ob hf
      refine v_ialoadI dX12_lays_50 ex7 ?_
      refine v_aload_n dX12_lays_51 rfl ?_
      obtain ⟨x8, ex8, hf⟩ := ob hf
      refine v_getR dX12_lays_52 fl_12_49 ex8 ?_
      refine v_iload_n dX12_lays_55 rfl ?_
      refine v_iconst dX12_lays_56 (by decide) (v := 2) ?_
      refine v_iadd dX12_lays_57 ?_
      obtain ⟨x9, ex9, hf⟩ := ob hf
      refine v_ialoadI dX12_lays_58 ex9 ?_
      refine v_iadd dX12_lays_59 ?_
      obtain ⟨h10, eh10, hf⟩ := ob hf
      refine v_iastoreI dX12_lays_60 eh10 ?_
      refine v_aload_n dX12_lays_61 rfl ?_
      refine v_bipush dX12_lays_62 (by decide) (v := 6) ?_
      refine v_aload_n dX12_lays_64 rfl ?_
      obtain ⟨x11, ex11, hf⟩ := ob hf
      refine v_getR dX12_lays_65 fl_12_49 ex11 ?_
      refine v_iload_n dX12_lays_68 rfl ?_
      refine v_iconst dX12_lays_69 (by decide) (v := 1) ?_
      refine v_iadd dX12_lays_70 ?_
      obtain ⟨x12, ex12, hf⟩ := ob hf
      refine v_ialoadI dX12_lays_71 ex12 ?_
      refine v_imul dX12_lays_72 ?_
      refine v_aload_n dX12_lays_73 rfl ?_
      obtain ⟨x13, ex13, hf⟩ := ob hf
      refine v_getR dX12_lays_74 fl_12_49 ex13 ?_
      refine v_iload_n dX12_lays_77 rfl ?_
      obtain ⟨x14, ex14, hf⟩ := ob hf
      refine v_ialoadI dX12_lays_78 ex14 ?_
      refine v_iadd dX12_lays_79 ?_
      refine v_dup2 dX12_lays_80 rfl rfl ?_
      obtain ⟨x15, ex15, hf⟩ := ob hf
      refine v_ialoadI dX12_lays_81 ex15 ?_
      refine v_aload_n dX12_lays_82 rfl ?_
      obtain ⟨x16, ex16, hf⟩ := ob hf
      refine v_getR dX12_lays_83 fl_12_49 ex16 ?_
      refine v_iload_n dX12_lays_86 rfl ?_
      refine v_iconst dX12_lays_87 (by decide) (v := 2) ?_
      refine v_iadd dX12_lays_88 ?_
      obtain ⟨x17, ex17, hf⟩ := ob hf
      refine v_ialoadI dX12_lays_89 ex17 ?_
      refine v_isub dX12_lays_90 ?_
      obtain ⟨h18, eh18, hf⟩ := ob hf
      refine v_iastoreI dX12_lays_91 eh18 ?_
      refine v_iinc dX12_lays_92 rfl (v := (l2 + (3 : Int32))) rfl (Nat.le_of_ble_eq_true rfl) (loc' := [some (.ref l0), some (.ref l1), some (.int (l2 + (3 : Int32)))]) rfl ?_
      refine v_goto dX12_lays_95 (tgt := 20) (by decide) ?_
      exact ih h18 l0 l1 (l2 + (3 : Int32)) r hf
def f_X12_lays_b2 : Nat → xa_H → Nat → Nat → Int32 → Option xa_H
  | 0, _, _, _, _ => none
  | n + 1, h, l0, l1, l2 =>
    (aN h l1).bind fun x1 =>
    if x1 ≤ l2 then
      f_X12_lays_b20 1048576 h l0 l1 (0 : Int32)
    else
      (pI h l1 l2 (0 : Int32)).bind fun h3 =>
      f_X12_lays_b2 n h3 l0 l1 (l2 + (1 : Int32))
set_option maxRecDepth 20000 in
theorem e_X12_lays_b2 {G : xa_G} : ∀ (n : Nat) (h : xa_H) (l0 : Nat) (l1 : Nat) (l2 : Int32) (r : xa_H), f_X12_lays_b2 n h l0 l1 l2 = some r → xa_V G M_X12_lays 0 2 [some (.ref l0), some (.ref l1), some (.int l2)] [] h none r := by
  intro n
  induction n with
  | zero =>
    intro h l0 l1 l2 r hf
    cases (show (none : Option xa_H) = some r from hf)
  | succ n ih =>
    intro h l0 l1 l2 r hf
    rw [f_X12_lays_b2] at hf
    refine v_iload_n dX12_lays_2 rfl ?_
    refine v_aload_n dX12_lays_3 rfl ?_
    obtain ⟨x1, ex1, hf⟩ := ob hf
    refine v_alen dX12_lays_4 ex1 ?_
    refine v_icmp_ge dX12_lays_5 (tgt := 18) (by decide) (fun c2 => ?_) (fun c2 => ?_)
    · replace hf := (if_pos c2).symm.trans hf
      refine v_iconst dX12_lays_18 (by decide) (v := 0) ?_
      refine v_istore_n (i := 2) rfl dX12_lays_19 (Nat.le_of_ble_eq_true rfl) (loc' := [some (.ref l0), some (.ref l1), some (.int (0 : Int32))]) rfl ?_
      exact e_X12_lays_b20 1048576 h l0 l1 (0 : Int32) r hf
    · replace hf := (if_neg c2).symm.trans hf
      refine v_aload_n dX12_lays_8 rfl ?_
      refine v_iload_n dX12_lays_9 rfl ?_
      refine v_iconst dX12_lays_10 (by decide) (v := 0) ?_
      obtain ⟨h3, eh3, hf⟩ := ob hf
      refine v_iastoreI dX12_lays_11 eh3 ?_
      refine v_iinc dX12_lays_12 rfl (v := (l2 + (1 : Int32))) rfl (Nat.le_of_ble_eq_true rfl) (loc' := [some (.ref l0), some (.ref l1), some (.int (l2 + (1 : Int32)))]) rfl ?_
      refine v_goto dX12_lays_15 (tgt := 2) (by decide) ?_
      exact ih h3 l0 l1 (l2 + (1 : Int32)) r hf
def f_X12_lays (h : xa_H) (l0 : Nat) (l1 : Nat) : Option xa_H :=
  (ck [12] h l0).bind fun _ =>
  f_X12_lays_b2 1048576 h l0 l1 (0 : Int32)
set_option maxRecDepth 20000 in
theorem ev_X12_lays {G : xa_G} {h : xa_H} {l0 : Nat} {l1 : Nat} {r : xa_H} (hf : f_X12_lays h l0 l1 = some r) : xa_Ev G M_X12_lays 0 [.ref l0, .ref l1] h none r := by
  refine xa_entry (by decide +kernel) (loc := [some (.ref l0), some (.ref l1), none]) rfl (Nat.le_of_ble_eq_true rfl) ?_
  unfold f_X12_lays at hf
  obtain ⟨u0, eu0, hf⟩ := ob hf
  refine v_iconst dX12_lays_0 (by decide) (v := 0) ?_
  refine v_istore_n (i := 2) rfl dX12_lays_1 (Nat.le_of_ble_eq_true rfl) (loc' := [some (.ref l0), some (.ref l1), some (.int (0 : Int32))]) rfl ?_
  exact e_X12_lays_b2 1048576 h l0 l1 (0 : Int32) r hf
theorem ckf_X12_lays {h : xa_H} {l0 : Nat} {l1 : Nat} {r : xa_H} (hf : f_X12_lays h l0 l1 = some r) : ck [12] h l0 = some () := by
  obtain ⟨u, e, -⟩ := ob hf
  exact e
def M_X12_wouldOwe : xa_M := (yX12_wouldOwe, cX12_wouldOwe, 6, some .int)
theorem cb_X12_wouldOwe : xa_CB M_X12_wouldOwe 4 := ⟨gws_at 1878 (by decide +kernel) rfl, gws_at 122 (by decide +kernel) rfl, by decide +kernel, Nat.le_of_ble_eq_true rfl⟩
def f_X12_wouldOwe_b11 : Nat → xa_H → Nat → Int32 → Int32 → Int32 → Int32 → Int32 → Option (Int32 × xa_H)
  | 0, _, _, _, _, _, _, _ => none
  | n + 1, h, l0, l1, l2, l3, l4, l5 =>
    if l2 ≤ l5 then
      (gR [12] 33 h l0).bind fun x2 =>
      (aI h x2 (((6 : Int32) * l3) + l4)).bind fun x3 =>
      some (x3, h)
    else
      (gR [12] 33 h l0).bind fun x4 =>
      (f_X12_sings h l0 x4 l1).bind fun q5 =>
      if q5.1 = 0 then
        some ((-1000000 : Int32), q5.2)
      else
        f_X12_wouldOwe_b11 n q5.2 l0 l1 l2 l3 l4 (l5 + (1 : Int32))
set_option maxRecDepth 20000 in
theorem e_X12_wouldOwe_b11 {G : xa_G} : ∀ (n : Nat) (h : xa_H) (l0 : Nat) (l1 : Int32) (l2 : Int32) (l3 : Int32) (l4 : Int32) (l5 : Int32) (r : (Int32 × xa_H)), f_X12_wouldOwe_b11 n h l0 l1 l2 l3 l4 l5 = some r → xa_V G M_X12_wouldOwe 4 11 [some (.ref l0), some (.int l1), some (.int l2), some (.int l3), some (.int l4), some (.int l5)] [] h (some (.int r.1)) r.2 := by
  intro n
  induction n with
  | zero =>
    intro h l0 l1 l2 l3 l4 l5 r hf
    cases (show (none : Option (Int32 × xa_H)) = some r from hf)
  | succ n ih =>
    intro h l0 l1 l2 l3 l4 l5 r hf
    rw [f_X12_wouldOwe_b11] at hf
    refine v_iload dX12_wouldOwe_11 rfl ?_
    refine v_iload_n dX12_wouldOwe_13 rfl ?_
    refine v_icmp_ge dX12_wouldOwe_14 (tgt := 39) (by decide) (fun c1 => ?_) (fun c1 => ?_)
    · replace hf := (if_pos c1).symm.trans hf
      refine v_aload_n dX12_wouldOwe_39 rfl ?_
      obtain ⟨x2, ex2, hf⟩ := ob hf
      refine v_getR dX12_wouldOwe_40 fl_12_64 ex2 ?_
      refine v_bipush dX12_wouldOwe_43 (by decide) (v := 6) ?_
      refine v_iload_n dX12_wouldOwe_45 rfl ?_
      refine v_imul dX12_wouldOwe_46 ?_
      refine v_iload dX12_wouldOwe_47 rfl ?_
      refine v_iadd dX12_wouldOwe_49 ?_
      obtain ⟨x3, ex3, hf⟩ := ob hf
      refine v_ialoadI dX12_wouldOwe_50 ex3 ?_
      replace hf := Option.some.inj hf
      subst hf
      exact v_iret dX12_wouldOwe_51 rfl
    · replace hf := (if_neg c1).symm.trans hf
      refine v_aload_n dX12_wouldOwe_17 rfl ?_
      refine v_aload_n dX12_wouldOwe_18 rfl ?_
      obtain ⟨x4, ex4, hf⟩ := ob hf
      refine v_getR dX12_wouldOwe_19 fl_12_64 ex4 ?_
      refine v_iload_n dX12_wouldOwe_22 rfl ?_
      obtain ⟨q5, eq5, hf⟩ := ob hf
      refine v_callV dX12_wouldOwe_23 ⟨cb_X12_sings, ml_12_432, im_X12_sings⟩ se_12_X12_sings (ckf_X12_sings eq5) (ev_X12_sings eq5) (by decide) (As := [.ref x4, .int l1]) rfl (st := []) rfl (Nat.le_of_ble_eq_true rfl) rfl ?_
      refine v_if_ne dX12_wouldOwe_26 (tgt := 33) (by decide) (fun c6 => ?_) (fun c6 => ?_)
      · replace hf := (if_neg c6).symm.trans hf
        refine v_iinc dX12_wouldOwe_33 rfl (v := (l5 + (1 : Int32))) rfl (Nat.le_of_ble_eq_true rfl) (loc' := [some (.ref l0), some (.int l1), some (.int l2), some (.int l3), some (.int l4), some (.int (l5 + (1 : Int32)))]) rfl ?_
        refine v_goto dX12_wouldOwe_36 (tgt := 11) (by decide) ?_
        exact ih q5.2 l0 l1 l2 l3 l4 (l5 + (1 : Int32)) r hf
      · replace hf := (if_pos c6).symm.trans hf
        refine v_ldcw dX12_wouldOwe_29 rfl co_12_380 ?_
        replace hf := Option.some.inj hf
        subst hf
        exact v_iret dX12_wouldOwe_32 rfl
def f_X12_wouldOwe (h : xa_H) (l0 : Nat) (l1 : Int32) (l2 : Int32) (l3 : Int32) (l4 : Int32) : Option (Int32 × xa_H) :=
  (ck [12] h l0).bind fun _ =>
  (gR [12] 33 h l0).bind fun x1 =>
  (f_X12_lays h l0 x1).bind fun q2 =>
  f_X12_wouldOwe_b11 1048576 q2 l0 l1 l2 l3 l4 (0 : Int32)
set_option maxRecDepth 20000 in
theorem ev_X12_wouldOwe {G : xa_G} {h : xa_H} {l0 : Nat} {l1 : Int32} {l2 : Int32} {l3 : Int32} {l4 : Int32} {r : (Int32 × xa_H)} (hf : f_X12_wouldOwe h l0 l1 l2 l3 l4 = some r) : xa_Ev G M_X12_wouldOwe 4 [.ref l0, .int l1, .int l2, .int l3, .int l4] h (some (.int r.1)) r.2 := by
  refine xa_entry (by decide +kernel) (loc := [some (.ref l0), some (.int l1), some (.int l2), some (.int l3), some (.int l4), none]) rfl (Nat.le_of_ble_eq_true rfl) ?_
  unfold f_X12_wouldOwe at hf
  obtain ⟨u0, eu0, hf⟩ := ob hf
  refine v_aload_n dX12_wouldOwe_0 rfl ?_
  refine v_aload_n dX12_wouldOwe_1 rfl ?_
  obtain ⟨x1, ex1, hf⟩ := ob hf
  refine v_getR dX12_wouldOwe_2 fl_12_64 ex1 ?_
  obtain ⟨q2, eq2, hf⟩ := ob hf
  refine v_callV dX12_wouldOwe_5 ⟨cb_X12_lays, ml_12_313, im_X12_lays⟩ se_12_X12_lays (ckf_X12_lays eq2) (ev_X12_lays eq2) (by decide) (As := [.ref x1]) rfl (st := []) rfl (Nat.le_of_ble_eq_true rfl) rfl ?_
  refine v_iconst dX12_wouldOwe_8 (by decide) (v := 0) ?_
  refine v_istore dX12_wouldOwe_9 (Nat.le_of_ble_eq_true rfl) (loc' := [some (.ref l0), some (.int l1), some (.int l2), some (.int l3), some (.int l4), some (.int (0 : Int32))]) rfl ?_
  exact e_X12_wouldOwe_b11 1048576 q2 l0 l1 l2 l3 l4 (0 : Int32) r hf
theorem ckf_X12_wouldOwe {h : xa_H} {l0 : Nat} {l1 : Int32} {l2 : Int32} {l3 : Int32} {l4 : Int32} {r : (Int32 × xa_H)} (hf : f_X12_wouldOwe h l0 l1 l2 l3 l4 = some r) : ck [12] h l0 = some () := by
  obtain ⟨u, e, -⟩ := ob hf
  exact e
def M_X12_doesFit : xa_M := (yX12_doesFit, cX12_doesFit, 3, some .boolean)
theorem cb_X12_doesFit : xa_CB M_X12_doesFit 1 := ⟨gws_at 1874 (by decide +kernel) rfl, gws_at 122 (by decide +kernel) rfl, by decide +kernel, Nat.le_of_ble_eq_true rfl⟩
def f_X12_doesFit_b72 (k2 : xa_H → Nat → Int32 → Int32 → Option (Int32 × xa_H)) (h : xa_H) (l0 : Nat) (l1 : Int32) (l2 : Int32) (s0 : Int32) (s1 : Int32) : Option (Int32 × xa_H) :=
  if s1 = s0 then
    k2 h l0 l1 (l2 + (5 : Int32))
  else
    some ((0 : Int32), h)
set_option maxRecDepth 20000 in
theorem e_X12_doesFit_b72 {G : xa_G} {k2 : xa_H → Nat → Int32 → Int32 → Option (Int32 × xa_H)} (hk2 : ∀ (h : xa_H) (l0 : Nat) (l1 : Int32) (l2 : Int32) (r : (Int32 × xa_H)), k2 h l0 l1 l2 = some r → xa_V G M_X12_doesFit 5 2 [some (.ref l0), some (.int l1), some (.int l2)] [] h (some (.int r.1)) r.2) : ∀ (h : xa_H) (l0 : Nat) (l1 : Int32) (l2 : Int32) (s0 : Int32) (s1 : Int32) (r : (Int32 × xa_H)), f_X12_doesFit_b72 k2 h l0 l1 l2 s0 s1 = some r → xa_V G M_X12_doesFit 5 72 [some (.ref l0), some (.int l1), some (.int l2)] [.int s0, .int s1] h (some (.int r.1)) r.2 := by
  intro h l0 l1 l2 s0 s1 r hf
  unfold f_X12_doesFit_b72 at hf
  refine v_icmp_eq dX12_doesFit_72 (tgt := 77) (by decide) (fun c1 => ?_) (fun c1 => ?_)
  · replace hf := (if_pos c1).symm.trans hf
    refine v_iinc dX12_doesFit_77 rfl (v := (l2 + (5 : Int32))) rfl (Nat.le_of_ble_eq_true rfl) (loc' := [some (.ref l0), some (.int l1), some (.int (l2 + (5 : Int32)))]) rfl ?_
    refine v_goto dX12_doesFit_80 (tgt := 2) (by decide) ?_
    exact hk2 h l0 l1 (l2 + (5 : Int32)) r hf
  · replace hf := (if_neg c1).symm.trans hf
    refine v_iconst dX12_doesFit_75 (by decide) (v := 0) ?_
    replace hf := Option.some.inj hf
    subst hf
    exact v_zret dX12_doesFit_76 rfl (by decide)
def f_X12_doesFit_b55 (k2 : xa_H → Nat → Int32 → Int32 → Option (Int32 × xa_H)) (h : xa_H) (l0 : Nat) (l1 : Int32) (l2 : Int32) (s0 : Int32) : Option (Int32 × xa_H) :=
  (gR [12] 50 h l0).bind fun x1 =>
  (aI h x1 (l2 + (4 : Int32))).bind fun x2 =>
  if x2 = (1 : Int32) then
    f_X12_doesFit_b72 k2 h l0 l1 l2 (1 : Int32) s0
  else
    f_X12_doesFit_b72 k2 h l0 l1 l2 (0 : Int32) s0
set_option maxRecDepth 20000 in
theorem e_X12_doesFit_b55 {G : xa_G} {k2 : xa_H → Nat → Int32 → Int32 → Option (Int32 × xa_H)} (hk2 : ∀ (h : xa_H) (l0 : Nat) (l1 : Int32) (l2 : Int32) (r : (Int32 × xa_H)), k2 h l0 l1 l2 = some r → xa_V G M_X12_doesFit 5 2 [some (.ref l0), some (.int l1), some (.int l2)] [] h (some (.int r.1)) r.2) : ∀ (h : xa_H) (l0 : Nat) (l1 : Int32) (l2 : Int32) (s0 : Int32) (r : (Int32 × xa_H)), f_X12_doesFit_b55 k2 h l0 l1 l2 s0 = some r → xa_V G M_X12_doesFit 5 55 [some (.ref l0), some (.int l1), some (.int l2)] [.int s0] h (some (.int r.1)) r.2 := by
  intro h l0 l1 l2 s0 r hf
  unfold f_X12_doesFit_b55 at hf
  refine v_aload_n dX12_doesFit_55 rfl ?_
  obtain ⟨x1, ex1, hf⟩ := ob hf
  refine v_getR dX12_doesFit_56 fl_12_96 ex1 ?_
  refine v_iload_n dX12_doesFit_59 rfl ?_
  refine v_iconst dX12_doesFit_60 (by decide) (v := 4) ?_
  refine v_iadd dX12_doesFit_61 ?_
  obtain ⟨x2, ex2, hf⟩ := ob hf
  refine v_ialoadI dX12_doesFit_62 ex2 ?_
  refine v_iconst dX12_doesFit_63 (by decide) (v := 1) ?_
  refine v_icmp_ne dX12_doesFit_64 (tgt := 71) (by decide) (fun c3 => ?_) (fun c3 => ?_)
  · replace hf := (if_neg c3).symm.trans hf
    refine v_iconst dX12_doesFit_71 (by decide) (v := 0) ?_
    exact e_X12_doesFit_b72 hk2 h l0 l1 l2 (0 : Int32) s0 r hf
  · replace hf := (if_pos c3).symm.trans hf
    refine v_iconst dX12_doesFit_67 (by decide) (v := 1) ?_
    refine v_goto dX12_doesFit_68 (tgt := 72) (by decide) ?_
    exact e_X12_doesFit_b72 hk2 h l0 l1 l2 (1 : Int32) s0 r hf
def f_X12_doesFit_b2 : Nat → xa_H → Nat → Int32 → Int32 → Option (Int32 × xa_H)
  | 0, _, _, _, _ => none
  | n + 1, h, l0, l1, l2 =>
    (gI [12] 51 h l0).bind fun x1 =>
    if ((5 : Int32) * x1) ≤ l2 then
      some ((1 : Int32), h)
    else
      (gR [12] 50 h l0).bind fun x3 =>
      (aI h x3 (l2 + (2 : Int32))).bind fun x4 =>
      (gR [12] 50 h l0).bind fun x5 =>
      (aI h x5 l2).bind fun x6 =>
      (gR [12] 50 h l0).bind fun x7 =>
      (aI h x7 (l2 + (1 : Int32))).bind fun x8 =>
      (f_X12_wouldOwe h l0 l1 x4 x6 x8).bind fun q9 =>
      (gR [12] 50 q9.2 l0).bind fun x10 =>
      (aI q9.2 x10 (l2 + (3 : Int32))).bind fun x11 =>
      if q9.1 = x11 then
        f_X12_doesFit_b55 (fun h l0 l1 l2 => f_X12_doesFit_b2 n h l0 l1 l2) q9.2 l0 l1 l2 (1 : Int32)
      else
        f_X12_doesFit_b55 (fun h l0 l1 l2 => f_X12_doesFit_b2 n h l0 l1 l2) q9.2 l0 l1 l2 (0 : Int32)
set_option maxRecDepth 20000 in
theorem e_X12_doesFit_b2 {G : xa_G} : ∀ (n : Nat) (h : xa_H) (l0 : Nat) (l1 : Int32) (l2 : Int32) (r : (Int32 × xa_H)), f_X12_doesFit_b2 n h l0 l1 l2 = some r → xa_V G M_X12_doesFit 5 2 [some (.ref l0), some (.int l1), some (.int l2)] [] h (some (.int r.1)) r.2 := by
  intro n
  induction n with
  | zero =>
    intro h l0 l1 l2 r hf
    cases (show (none : Option (Int32 × xa_H)) = some r from hf)
  | succ n ih =>
    intro h l0 l1 l2 r hf
    rw [f_X12_doesFit_b2] at hf
    refine v_iload_n dX12_doesFit_2 rfl ?_
    refine v_iconst dX12_doesFit_3 (by decide) (v := 5) ?_
    refine v_aload_n dX12_doesFit_4 rfl ?_
    obtain ⟨x1, ex1, hf⟩ := ob hf
    refine v_getI dX12_doesFit_5 fl_12_317 ex1 ?_
    refine v_imul dX12_doesFit_8 ?_
    refine v_icmp_ge dX12_doesFit_9 (tgt := 83) (by decide) (fun c2 => ?_) (fun c2 => ?_)
    · replace hf := (if_pos c2).symm.trans hf
      refine v_iconst dX12_doesFit_83 (by decide) (v := 1) ?_
      replace hf := Option.some.inj hf
      subst hf
      exact v_zret dX12_doesFit_84 rfl (by decide)
    · replace hf := (if_neg c2).symm.trans hf
      refine v_aload_n dX12_doesFit_12 rfl ?_
      refine v_iload_n dX12_doesFit_13 rfl ?_
      refine v_aload_n dX12_doesFit_14 rfl ?_
      obtain ⟨x3, ex3, hf⟩ := ob hf
      refine v_getR dX12_doesFit_15 fl_12_96 ex3 ?_
      refine v_iload_n dX12_doesFit_18 rfl ?_
      refine v_iconst dX12_doesFit_19 (by decide) (v := 2) ?_
      refine v_iadd dX12_doesFit_20 ?_
      obtain ⟨x4, ex4, hf⟩ := ob hf
      refine v_ialoadI dX12_doesFit_21 ex4 ?_
      refine v_aload_n dX12_doesFit_22 rfl ?_
      obtain ⟨x5, ex5, hf⟩ := ob hf
      refine v_getR dX12_doesFit_23 fl_12_96 ex5 ?_
      refine v_iload_n dX12_doesFit_26 rfl ?_
      obtain ⟨x6, ex6, hf⟩ := ob hf
      refine v_ialoadI dX12_doesFit_27 ex6 ?_
      refine v_aload_n dX12_doesFit_28 rfl ?_
      obtain ⟨x7, ex7, hf⟩ := ob hf
      refine v_getR dX12_doesFit_29 fl_12_96 ex7 ?_
      refine v_iload_n dX12_doesFit_32 rfl ?_
      refine v_iconst dX12_doesFit_33 (by decide) (v := 1) ?_
      refine v_iadd dX12_doesFit_34 ?_
      obtain ⟨x8, ex8, hf⟩ := ob hf
      refine v_ialoadI dX12_doesFit_35 ex8 ?_
      obtain ⟨q9, eq9, hf⟩ := ob hf
      refine v_callV dX12_doesFit_36 ⟨cb_X12_wouldOwe, ml_12_482, im_X12_wouldOwe⟩ se_12_X12_wouldOwe (ckf_X12_wouldOwe eq9) (ev_X12_wouldOwe eq9) (by decide) (As := [.int l1, .int x4, .int x6, .int x8]) rfl (st := []) rfl (Nat.le_of_ble_eq_true rfl) rfl ?_
      refine v_aload_n dX12_doesFit_39 rfl ?_
      obtain ⟨x10, ex10, hf⟩ := ob hf
      refine v_getR dX12_doesFit_40 fl_12_96 ex10 ?_
      refine v_iload_n dX12_doesFit_43 rfl ?_
      refine v_iconst dX12_doesFit_44 (by decide) (v := 3) ?_
      refine v_iadd dX12_doesFit_45 ?_
      obtain ⟨x11, ex11, hf⟩ := ob hf
      refine v_ialoadI dX12_doesFit_46 ex11 ?_
      refine v_icmp_ne dX12_doesFit_47 (tgt := 54) (by decide) (fun c12 => ?_) (fun c12 => ?_)
      · replace hf := (if_neg c12).symm.trans hf
        refine v_iconst dX12_doesFit_54 (by decide) (v := 0) ?_
        exact e_X12_doesFit_b55 ih q9.2 l0 l1 l2 (0 : Int32) r hf
      · replace hf := (if_pos c12).symm.trans hf
        refine v_iconst dX12_doesFit_50 (by decide) (v := 1) ?_
        refine v_goto dX12_doesFit_51 (tgt := 55) (by decide) ?_
        exact e_X12_doesFit_b55 ih q9.2 l0 l1 l2 (1 : Int32) r hf
def f_X12_doesFit (h : xa_H) (l0 : Nat) (l1 : Int32) : Option (Int32 × xa_H) :=
  (ck [12] h l0).bind fun _ =>
  f_X12_doesFit_b2 1048576 h l0 l1 (0 : Int32)
set_option maxRecDepth 20000 in
theorem ev_X12_doesFit {G : xa_G} {h : xa_H} {l0 : Nat} {l1 : Int32} {r : (Int32 × xa_H)} (hf : f_X12_doesFit h l0 l1 = some r) : xa_Ev G M_X12_doesFit 5 [.ref l0, .int l1] h (some (.int r.1)) r.2 := by
  refine xa_entry (by decide +kernel) (loc := [some (.ref l0), some (.int l1), none]) rfl (Nat.le_of_ble_eq_true rfl) ?_
  unfold f_X12_doesFit at hf
  obtain ⟨u0, eu0, hf⟩ := ob hf
  refine v_iconst dX12_doesFit_0 (by decide) (v := 0) ?_
  refine v_istore_n (i := 2) rfl dX12_doesFit_1 (Nat.le_of_ble_eq_true rfl) (loc' := [some (.ref l0), some (.int l1), some (.int (0 : Int32))]) rfl ?_
  exact e_X12_doesFit_b2 1048576 h l0 l1 (0 : Int32) r hf
theorem ckf_X12_doesFit {h : xa_H} {l0 : Nat} {l1 : Int32} {r : (Int32 × xa_H)} (hf : f_X12_doesFit h l0 l1 = some r) : ck [12] h l0 = some () := by
  obtain ⟨u, e, -⟩ := ob hf
  exact e
def M_X12_fits : xa_M := (yX12_fits, cX12_fits, 3, some .int)
theorem cb_X12_fits : xa_CB M_X12_fits 0 := ⟨gws_at 1870 (by decide +kernel) rfl, gws_at 122 (by decide +kernel) rfl, by decide +kernel, Nat.le_of_ble_eq_true rfl⟩
def f_X12_fits_b42 (k18 : xa_H → Nat → Int32 → Int32 → Option (Int32 × xa_H)) (h : xa_H) (l0 : Nat) (l2 : Int32) (s0 : Int32) (s1 : Int32) : Option (Int32 × xa_H) :=
  k18 h l0 (s1 ||| s0) (l2 + (1 : Int32))
set_option maxRecDepth 20000 in
theorem e_X12_fits_b42 {G : xa_G} {k18 : xa_H → Nat → Int32 → Int32 → Option (Int32 × xa_H)} (hk18 : ∀ (h : xa_H) (l0 : Nat) (l1 : Int32) (l2 : Int32) (r : (Int32 × xa_H)), k18 h l0 l1 l2 = some r → xa_V G M_X12_fits 6 18 [some (.ref l0), some (.int l1), some (.int l2)] [] h (some (.int r.1)) r.2) : ∀ (h : xa_H) (l0 : Nat) (l2 : Int32) (s0 : Int32) (s1 : Int32) (r : (Int32 × xa_H)), f_X12_fits_b42 k18 h l0 l2 s0 s1 = some r → xa_V G M_X12_fits 6 42 [some (.ref l0), none, some (.int l2)] [.int s0, .int s1] h (some (.int r.1)) r.2 := by
  intro h l0 l2 s0 s1 r hf
  unfold f_X12_fits_b42 at hf
  refine v_ior dX12_fits_42 ?_
  refine v_istore_n (i := 1) rfl dX12_fits_43 (Nat.le_of_ble_eq_true rfl) (loc' := [some (.ref l0), some (.int (s1 ||| s0)), some (.int l2)]) rfl ?_
  refine v_iinc dX12_fits_44 rfl (v := (l2 + (1 : Int32))) rfl (Nat.le_of_ble_eq_true rfl) (loc' := [some (.ref l0), some (.int (s1 ||| s0)), some (.int (l2 + (1 : Int32)))]) rfl ?_
  refine v_goto dX12_fits_47 (tgt := 18) (by decide) ?_
  exact hk18 h l0 (s1 ||| s0) (l2 + (1 : Int32)) r hf
def f_X12_fits_b18 : Nat → xa_H → Nat → Int32 → Int32 → Option (Int32 × xa_H)
  | 0, _, _, _, _ => none
  | n + 1, h, l0, l1, l2 =>
    (gI [12] 30 h l0).bind fun x1 =>
    if x1 ≤ l2 then
      some (l1, h)
    else
      (f_X12_doesFit h l0 l2).bind fun q3 =>
      if q3.1 = 0 then
        f_X12_fits_b42 (fun h l0 l1 l2 => f_X12_fits_b18 n h l0 l1 l2) q3.2 l0 l2 (0 : Int32) l1
      else
        f_X12_fits_b42 (fun h l0 l1 l2 => f_X12_fits_b18 n h l0 l1 l2) q3.2 l0 l2 (shl (1 : Int32) l2) l1
set_option maxRecDepth 20000 in
theorem e_X12_fits_b18 {G : xa_G} : ∀ (n : Nat) (h : xa_H) (l0 : Nat) (l1 : Int32) (l2 : Int32) (r : (Int32 × xa_H)), f_X12_fits_b18 n h l0 l1 l2 = some r → xa_V G M_X12_fits 6 18 [some (.ref l0), some (.int l1), some (.int l2)] [] h (some (.int r.1)) r.2 := by
  intro n
  induction n with
  | zero =>
    intro h l0 l1 l2 r hf
    cases (show (none : Option (Int32 × xa_H)) = some r from hf)
  | succ n ih =>
    intro h l0 l1 l2 r hf
    rw [f_X12_fits_b18] at hf
    refine v_iload_n dX12_fits_18 rfl ?_
    refine v_aload_n dX12_fits_19 rfl ?_
    obtain ⟨x1, ex1, hf⟩ := ob hf
    refine v_getI dX12_fits_20 fl_12_302 ex1 ?_
    refine v_icmp_ge dX12_fits_23 (tgt := 50) (by decide) (fun c2 => ?_) (fun c2 => ?_)
    · replace hf := (if_pos c2).symm.trans hf
      refine v_iload_n dX12_fits_50 rfl ?_
      replace hf := Option.some.inj hf
      subst hf
      exact v_iret dX12_fits_51 rfl
    · replace hf := (if_neg c2).symm.trans hf
      refine v_iload_n dX12_fits_26 rfl ?_
      refine v_aload_n dX12_fits_27 rfl ?_
      refine v_iload_n dX12_fits_28 rfl ?_
      obtain ⟨q3, eq3, hf⟩ := ob hf
      refine v_callV dX12_fits_29 ⟨cb_X12_doesFit, ml_12_486, im_X12_doesFit⟩ se_12_X12_doesFit (ckf_X12_doesFit eq3) (ev_X12_doesFit eq3) (by decide) (As := [.int l2]) rfl (st := [.int l1]) rfl (Nat.le_of_ble_eq_true rfl) rfl ?_
      refine v_if_eq dX12_fits_32 (tgt := 41) (by decide) (fun c4 => ?_) (fun c4 => ?_)
      · replace hf := (if_pos c4).symm.trans hf
        refine v_iconst dX12_fits_41 (by decide) (v := 0) ?_
        exact xa_weak (loc := [some (.ref l0), none, some (.int l2)]) ⟨rfl, ⟨rfl, trivial⟩⟩ (e_X12_fits_b42 ih q3.2 l0 l2 (0 : Int32) l1 r hf)
      · replace hf := (if_neg c4).symm.trans hf
        refine v_iconst dX12_fits_35 (by decide) (v := 1) ?_
        refine v_iload_n dX12_fits_36 rfl ?_
        refine w_ishl dX12_fits_37 ?_
        refine v_goto dX12_fits_38 (tgt := 42) (by decide) ?_
        exact xa_weak (loc := [some (.ref l0), none, some (.int l2)]) ⟨rfl, ⟨rfl, trivial⟩⟩ (e_X12_fits_b42 ih q3.2 l0 l2 (shl (1 : Int32) l2) l1 r hf)
def f_X12_fits (h : xa_H) (l0 : Nat) : Option (Int32 × xa_H) :=
  (ck [12] h l0).bind fun _ =>
  (xp [12] 0 h l0 (.int (0 : Int32))).bind fun h1 =>
  (gI [12] 26 h1 l0).bind fun x2 =>
  if x2 = 0 then
    some ((-1 : Int32), h1)
  else
    f_X12_fits_b18 1048576 h1 l0 (0 : Int32) (0 : Int32)
set_option maxRecDepth 20000 in
theorem ev_X12_fits {G : xa_G} {h : xa_H} {l0 : Nat} {r : (Int32 × xa_H)} (hf : f_X12_fits h l0 = some r) : xa_Ev G M_X12_fits 6 [.ref l0] h (some (.int r.1)) r.2 := by
  refine xa_entry (by decide +kernel) (loc := [some (.ref l0), none, none]) rfl (Nat.le_of_ble_eq_true rfl) ?_
  unfold f_X12_fits at hf
  obtain ⟨u0, eu0, hf⟩ := ob hf
  refine v_aload_n dX12_fits_0 rfl ?_
  refine v_iconst dX12_fits_1 (by decide) (v := 0) ?_
  obtain ⟨h1, eh1, hf⟩ := ob hf
  refine v_put dX12_fits_2 fp_12_111 (fun z => by cases z) (fun _ => rfl) (fun _ => rfl) eh1 ?_
  refine v_aload_n dX12_fits_5 rfl ?_
  obtain ⟨x2, ex2, hf⟩ := ob hf
  refine v_getI dX12_fits_6 fl_12_307 ex2 ?_
  refine v_if_ne dX12_fits_9 (tgt := 14) (by decide) (fun c3 => ?_) (fun c3 => ?_)
  · replace hf := (if_neg c3).symm.trans hf
    refine v_iconst dX12_fits_14 (by decide) (v := 0) ?_
    refine v_istore_n (i := 1) rfl dX12_fits_15 (Nat.le_of_ble_eq_true rfl) (loc' := [some (.ref l0), some (.int (0 : Int32)), none]) rfl ?_
    refine v_iconst dX12_fits_16 (by decide) (v := 0) ?_
    refine v_istore_n (i := 2) rfl dX12_fits_17 (Nat.le_of_ble_eq_true rfl) (loc' := [some (.ref l0), some (.int (0 : Int32)), some (.int (0 : Int32))]) rfl ?_
    exact e_X12_fits_b18 1048576 h1 l0 (0 : Int32) (0 : Int32) r hf
  · replace hf := (if_pos c3).symm.trans hf
    refine v_iconst dX12_fits_12 (by decide) (v := -1) ?_
    replace hf := Option.some.inj hf
    subst hf
    exact v_iret dX12_fits_13 rfl
theorem ckf_X12_fits {h : xa_H} {l0 : Nat} {r : (Int32 × xa_H)} (hf : f_X12_fits h l0 = some r) : ck [12] h l0 = some () := by
  obtain ⟨u, e, -⟩ := ob hf
  exact e
def M_X12_ask : xa_M := (yX12_ask, cX12_ask, 11, some .int)
theorem cb_X12_ask : xa_CB M_X12_ask 2 := ⟨gws_at 1882 (by decide +kernel) rfl, gws_at 122 (by decide +kernel) rfl, by decide +kernel, Nat.le_of_ble_eq_true rfl⟩
def f_X12_ask_b210 (k48 : xa_H → Nat → Int32 → Int32 → Int32 → Int32 → Int32 → Int32 → Option (Int32 × xa_H)) (h : xa_H) (l0 : Nat) (l1 : Int32) (l2 : Int32) (l3 : Int32) (l4 : Int32) (l5 : Int32) (l6 : Int32) : Option (Int32 × xa_H) :=
  k48 h l0 l1 l2 l3 l4 l5 (l6 + (1 : Int32))
set_option maxRecDepth 20000 in
theorem e_X12_ask_b210 {G : xa_G} {k48 : xa_H → Nat → Int32 → Int32 → Int32 → Int32 → Int32 → Int32 → Option (Int32 × xa_H)} (hk48 : ∀ (h : xa_H) (l0 : Nat) (l1 : Int32) (l2 : Int32) (l3 : Int32) (l4 : Int32) (l5 : Int32) (l6 : Int32) (r : (Int32 × xa_H)), k48 h l0 l1 l2 l3 l4 l5 l6 = some r → xa_V G M_X12_ask 7 48 [some (.ref l0), some (.int l1), some (.int l2), some (.int l3), some (.int l4), some (.int l5), some (.int l6), none, none, none, none] [] h (some (.int r.1)) r.2) : ∀ (h : xa_H) (l0 : Nat) (l1 : Int32) (l2 : Int32) (l3 : Int32) (l4 : Int32) (l5 : Int32) (l6 : Int32) (r : (Int32 × xa_H)), f_X12_ask_b210 k48 h l0 l1 l2 l3 l4 l5 l6 = some r → xa_V G M_X12_ask 7 210 [some (.ref l0), some (.int l1), some (.int l2), some (.int l3), some (.int l4), some (.int l5), some (.int l6), none, none, none, none] [] h (some (.int r.1)) r.2 := by
  intro h l0 l1 l2 l3 l4 l5 l6 r hf
  unfold f_X12_ask_b210 at hf
  refine v_iinc dX12_ask_210 rfl (v := (l6 + (1 : Int32))) rfl (Nat.le_of_ble_eq_true rfl) (loc' := [some (.ref l0), some (.int l1), some (.int l2), some (.int l3), some (.int l4), some (.int l5), some (.int (l6 + (1 : Int32))), none, none, none, none]) rfl ?_
  refine v_goto dX12_ask_213 (tgt := 48) (by decide) ?_
  exact hk48 h l0 l1 l2 l3 l4 l5 (l6 + (1 : Int32)) r hf
def f_X12_ask_b202 (k48 : xa_H → Nat → Int32 → Int32 → Int32 → Int32 → Int32 → Int32 → Option (Int32 × xa_H)) (h : xa_H) (l0 : Nat) (l1 : Int32) (l2 : Int32) (l3 : Int32) (l6 : Int32) (l7 : Int32) : Option (Int32 × xa_H) :=
  f_X12_ask_b210 k48 h l0 l1 l2 l3 l6 l7 l6
set_option maxRecDepth 20000 in
theorem e_X12_ask_b202 {G : xa_G} {k48 : xa_H → Nat → Int32 → Int32 → Int32 → Int32 → Int32 → Int32 → Option (Int32 × xa_H)} (hk48 : ∀ (h : xa_H) (l0 : Nat) (l1 : Int32) (l2 : Int32) (l3 : Int32) (l4 : Int32) (l5 : Int32) (l6 : Int32) (r : (Int32 × xa_H)), k48 h l0 l1 l2 l3 l4 l5 l6 = some r → xa_V G M_X12_ask 7 48 [some (.ref l0), some (.int l1), some (.int l2), some (.int l3), some (.int l4), some (.int l5), some (.int l6), none, none, none, none] [] h (some (.int r.1)) r.2) : ∀ (h : xa_H) (l0 : Nat) (l1 : Int32) (l2 : Int32) (l3 : Int32) (l6 : Int32) (l7 : Int32) (r : (Int32 × xa_H)), f_X12_ask_b202 k48 h l0 l1 l2 l3 l6 l7 = some r → xa_V G M_X12_ask 7 202 [some (.ref l0), some (.int l1), some (.int l2), some (.int l3), none, none, some (.int l6), some (.int l7), none, none, none] [] h (some (.int r.1)) r.2 := by
  intro h l0 l1 l2 l3 l6 l7 r hf
  unfold f_X12_ask_b202 at hf
  refine v_iload dX12_ask_202 rfl ?_
  refine v_istore dX12_ask_204 (Nat.le_of_ble_eq_true rfl) (loc' := [some (.ref l0), some (.int l1), some (.int l2), some (.int l3), some (.int l6), none, some (.int l6), some (.int l7), none, none, none]) rfl ?_
  refine v_iload dX12_ask_206 rfl ?_
  refine v_istore dX12_ask_208 (Nat.le_of_ble_eq_true rfl) (loc' := [some (.ref l0), some (.int l1), some (.int l2), some (.int l3), some (.int l6), some (.int l7), some (.int l6), some (.int l7), none, none, none]) rfl ?_
  exact xa_weak (loc := [some (.ref l0), some (.int l1), some (.int l2), some (.int l3), some (.int l6), some (.int l7), some (.int l6), none, none, none, none]) ⟨rfl, ⟨rfl, ⟨rfl, ⟨rfl, ⟨rfl, ⟨rfl, ⟨rfl, trivial⟩⟩⟩⟩⟩⟩⟩ (e_X12_ask_b210 hk48 h l0 l1 l2 l3 l6 l7 l6 r hf)
def f_X12_ask_b162 (k48 : xa_H → Nat → Int32 → Int32 → Int32 → Int32 → Int32 → Int32 → Option (Int32 × xa_H)) (k96 : xa_H → Nat → Int32 → Int32 → Int32 → Int32 → Int32 → Int32 → Int32 → Int32 → Option (Int32 × xa_H)) (k111 : xa_H → Nat → Int32 → Int32 → Int32 → Int32 → Int32 → Int32 → Int32 → Int32 → Int32 → Int32 → Option (Int32 × xa_H)) (h : xa_H) (l0 : Nat) (l1 : Int32) (l2 : Int32) (l3 : Int32) (l4 : Int32) (l5 : Int32) (l6 : Int32) (l7 : Int32) (l8 : Int32) (l10 : Int32) (s0 : Int32) (s1 : Int32) : Option (Int32 × xa_H) :=
  k111 h l0 l1 l2 l3 l4 l5 l6 l7 l8 (s1 + s0) (l10 + (1 : Int32))
set_option maxRecDepth 20000 in
theorem e_X12_ask_b162 {G : xa_G} {k48 : xa_H → Nat → Int32 → Int32 → Int32 → Int32 → Int32 → Int32 → Option (Int32 × xa_H)} (hk48 : ∀ (h : xa_H) (l0 : Nat) (l1 : Int32) (l2 : Int32) (l3 : Int32) (l4 : Int32) (l5 : Int32) (l6 : Int32) (r : (Int32 × xa_H)), k48 h l0 l1 l2 l3 l4 l5 l6 = some r → xa_V G M_X12_ask 7 48 [some (.ref l0), some (.int l1), some (.int l2), some (.int l3), some (.int l4), some (.int l5), some (.int l6), none, none, none, none] [] h (some (.int r.1)) r.2) {k96 : xa_H → Nat → Int32 → Int32 → Int32 → Int32 → Int32 → Int32 → Int32 → Int32 → Option (Int32 × xa_H)} (hk96 : ∀ (h : xa_H) (l0 : Nat) (l1 : Int32) (l2 : Int32) (l3 : Int32) (l4 : Int32) (l5 : Int32) (l6 : Int32) (l7 : Int32) (l8 : Int32) (r : (Int32 × xa_H)), k96 h l0 l1 l2 l3 l4 l5 l6 l7 l8 = some r → xa_V G M_X12_ask 7 96 [some (.ref l0), some (.int l1), some (.int l2), some (.int l3), some (.int l4), some (.int l5), some (.int l6), some (.int l7), some (.int l8), none, none] [] h (some (.int r.1)) r.2) {k111 : xa_H → Nat → Int32 → Int32 → Int32 → Int32 → Int32 → Int32 → Int32 → Int32 → Int32 → Int32 → Option (Int32 × xa_H)} (hk111 : ∀ (h : xa_H) (l0 : Nat) (l1 : Int32) (l2 : Int32) (l3 : Int32) (l4 : Int32) (l5 : Int32) (l6 : Int32) (l7 : Int32) (l8 : Int32) (l9 : Int32) (l10 : Int32) (r : (Int32 × xa_H)), k111 h l0 l1 l2 l3 l4 l5 l6 l7 l8 l9 l10 = some r → xa_V G M_X12_ask 7 111 [some (.ref l0), some (.int l1), some (.int l2), some (.int l3), some (.int l4), some (.int l5), some (.int l6), some (.int l7), some (.int l8), some (.int l9), some (.int l10)] [] h (some (.int r.1)) r.2) : ∀ (h : xa_H) (l0 : Nat) (l1 : Int32) (l2 : Int32) (l3 : Int32) (l4 : Int32) (l5 : Int32) (l6 : Int32) (l7 : Int32) (l8 : Int32) (l10 : Int32) (s0 : Int32) (s1 : Int32) (r : (Int32 × xa_H)), f_X12_ask_b162 k48 k96 k111 h l0 l1 l2 l3 l4 l5 l6 l7 l8 l10 s0 s1 = some r → xa_V G M_X12_ask 7 162 [some (.ref l0), some (.int l1), some (.int l2), some (.int l3), some (.int l4), some (.int l5), some (.int l6), some (.int l7), some (.int l8), none, some (.int l10)] [.int s0, .int s1] h (some (.int r.1)) r.2 := by
  intro h l0 l1 l2 l3 l4 l5 l6 l7 l8 l10 s0 s1 r hf
  unfold f_X12_ask_b162 at hf
  refine v_iadd dX12_ask_162 ?_
  refine v_istore dX12_ask_163 (Nat.le_of_ble_eq_true rfl) (loc' := [some (.ref l0), some (.int l1), some (.int l2), some (.int l3), some (.int l4), some (.int l5), some (.int l6), some (.int l7), some (.int l8), some (.int (s1 + s0)), some (.int l10)]) rfl ?_
  refine v_iinc dX12_ask_165 rfl (v := (l10 + (1 : Int32))) rfl (Nat.le_of_ble_eq_true rfl) (loc' := [some (.ref l0), some (.int l1), some (.int l2), some (.int l3), some (.int l4), some (.int l5), some (.int l6), some (.int l7), some (.int l8), some (.int (s1 + s0)), some (.int (l10 + (1 : Int32)))]) rfl ?_
  refine v_goto dX12_ask_168 (tgt := 111) (by decide) ?_
  exact hk111 h l0 l1 l2 l3 l4 l5 l6 l7 l8 (s1 + s0) (l10 + (1 : Int32)) r hf
def f_X12_ask_b161 (k48 : xa_H → Nat → Int32 → Int32 → Int32 → Int32 → Int32 → Int32 → Option (Int32 × xa_H)) (k96 : xa_H → Nat → Int32 → Int32 → Int32 → Int32 → Int32 → Int32 → Int32 → Int32 → Option (Int32 × xa_H)) (k111 : xa_H → Nat → Int32 → Int32 → Int32 → Int32 → Int32 → Int32 → Int32 → Int32 → Int32 → Int32 → Option (Int32 × xa_H)) (h : xa_H) (l0 : Nat) (l1 : Int32) (l2 : Int32) (l3 : Int32) (l4 : Int32) (l5 : Int32) (l6 : Int32) (l7 : Int32) (l8 : Int32) (l10 : Int32) (s0 : Int32) : Option (Int32 × xa_H) :=
  f_X12_ask_b162 k48 k96 k111 h l0 l1 l2 l3 l4 l5 l6 l7 l8 l10 (0 : Int32) s0
set_option maxRecDepth 20000 in
theorem e_X12_ask_b161 {G : xa_G} {k48 : xa_H → Nat → Int32 → Int32 → Int32 → Int32 → Int32 → Int32 → Option (Int32 × xa_H)} (hk48 : ∀ (h : xa_H) (l0 : Nat) (l1 : Int32) (l2 : Int32) (l3 : Int32) (l4 : Int32) (l5 : Int32) (l6 : Int32) (r : (Int32 × xa_H)), k48 h l0 l1 l2 l3 l4 l5 l6 = some r → xa_V G M_X12_ask 7 48 [some (.ref l0), some (.int l1), some (.int l2), some (.int l3), some (.int l4), some (.int l5), some (.int l6), none, none, none, none] [] h (some (.int r.1)) r.2) {k96 : xa_H → Nat → Int32 → Int32 → Int32 → Int32 → Int32 → Int32 → Int32 → Int32 → Option (Int32 × xa_H)} (hk96 : ∀ (h : xa_H) (l0 : Nat) (l1 : Int32) (l2 : Int32) (l3 : Int32) (l4 : Int32) (l5 : Int32) (l6 : Int32) (l7 : Int32) (l8 : Int32) (r : (Int32 × xa_H)), k96 h l0 l1 l2 l3 l4 l5 l6 l7 l8 = some r → xa_V G M_X12_ask 7 96 [some (.ref l0), some (.int l1), some (.int l2), some (.int l3), some (.int l4), some (.int l5), some (.int l6), some (.int l7), some (.int l8), none, none] [] h (some (.int r.1)) r.2) {k111 : xa_H → Nat → Int32 → Int32 → Int32 → Int32 → Int32 → Int32 → Int32 → Int32 → Int32 → Int32 → Option (Int32 × xa_H)} (hk111 : ∀ (h : xa_H) (l0 : Nat) (l1 : Int32) (l2 : Int32) (l3 : Int32) (l4 : Int32) (l5 : Int32) (l6 : Int32) (l7 : Int32) (l8 : Int32) (l9 : Int32) (l10 : Int32) (r : (Int32 × xa_H)), k111 h l0 l1 l2 l3 l4 l5 l6 l7 l8 l9 l10 = some r → xa_V G M_X12_ask 7 111 [some (.ref l0), some (.int l1), some (.int l2), some (.int l3), some (.int l4), some (.int l5), some (.int l6), some (.int l7), some (.int l8), some (.int l9), some (.int l10)] [] h (some (.int r.1)) r.2) : ∀ (h : xa_H) (l0 : Nat) (l1 : Int32) (l2 : Int32) (l3 : Int32) (l4 : Int32) (l5 : Int32) (l6 : Int32) (l7 : Int32) (l8 : Int32) (l10 : Int32) (s0 : Int32) (r : (Int32 × xa_H)), f_X12_ask_b161 k48 k96 k111 h l0 l1 l2 l3 l4 l5 l6 l7 l8 l10 s0 = some r → xa_V G M_X12_ask 7 161 [some (.ref l0), some (.int l1), some (.int l2), some (.int l3), some (.int l4), some (.int l5), some (.int l6), some (.int l7), some (.int l8), none, some (.int l10)] [.int s0] h (some (.int r.1)) r.2 := by
  intro h l0 l1 l2 l3 l4 l5 l6 l7 l8 l10 s0 r hf
  unfold f_X12_ask_b161 at hf
  refine v_iconst dX12_ask_161 (by decide) (v := 0) ?_
  exact e_X12_ask_b162 hk48 hk96 hk111 h l0 l1 l2 l3 l4 l5 l6 l7 l8 l10 (0 : Int32) s0 r hf
def f_X12_ask_b111 (k48 : xa_H → Nat → Int32 → Int32 → Int32 → Int32 → Int32 → Int32 → Option (Int32 × xa_H)) (k96 : xa_H → Nat → Int32 → Int32 → Int32 → Int32 → Int32 → Int32 → Int32 → Int32 → Option (Int32 × xa_H)) : Nat → xa_H → Nat → Int32 → Int32 → Int32 → Int32 → Int32 → Int32 → Int32 → Int32 → Int32 → Int32 → Option (Int32 × xa_H)
  | 0, _, _, _, _, _, _, _, _, _, _, _, _ => none
  | n + 1, h, l0, l1, l2, l3, l4, l5, l6, l7, l8, l9, l10 =>
    (gI [12] 30 h l0).bind fun x1 =>
    if x1 ≤ l10 then
      k96 h l0 l1 l2 l3 l4 l5 l6 (imax l7 l9) (l8 + (1 : Int32))
    else
      (f_X12_has h l3 l8).bind fun q3 =>
      if q3 = 0 then
        f_X12_ask_b161 k48 k96 (fun h l0 l1 l2 l3 l4 l5 l6 l7 l8 l9 l10 => f_X12_ask_b111 k48 k96 n h l0 l1 l2 l3 l4 l5 l6 l7 l8 l9 l10) h l0 l1 l2 l3 l4 l5 l6 l7 l8 l10 l9
      else
        (f_X12_has h l3 l10).bind fun q5 =>
        if q5 = 0 then
          f_X12_ask_b161 k48 k96 (fun h l0 l1 l2 l3 l4 l5 l6 l7 l8 l9 l10 => f_X12_ask_b111 k48 k96 n h l0 l1 l2 l3 l4 l5 l6 l7 l8 l9 l10) h l0 l1 l2 l3 l4 l5 l6 l7 l8 l10 l9
        else
          (gR [12] 52 h l0).bind fun x7 =>
          (aI h x7 l10).bind fun x8 =>
          (gR [12] 52 h l0).bind fun x9 =>
          (aI h x9 l8).bind fun x10 =>
          if x8 = x10 then
            f_X12_ask_b162 k48 k96 (fun h l0 l1 l2 l3 l4 l5 l6 l7 l8 l9 l10 => f_X12_ask_b111 k48 k96 n h l0 l1 l2 l3 l4 l5 l6 l7 l8 l9 l10) h l0 l1 l2 l3 l4 l5 l6 l7 l8 l10 (1 : Int32) l9
          else
            f_X12_ask_b161 k48 k96 (fun h l0 l1 l2 l3 l4 l5 l6 l7 l8 l9 l10 => f_X12_ask_b111 k48 k96 n h l0 l1 l2 l3 l4 l5 l6 l7 l8 l9 l10) h l0 l1 l2 l3 l4 l5 l6 l7 l8 l10 l9
set_option maxRecDepth 20000 in
theorem e_X12_ask_b111 {G : xa_G} {k48 : xa_H → Nat → Int32 → Int32 → Int32 → Int32 → Int32 → Int32 → Option (Int32 × xa_H)} (hk48 : ∀ (h : xa_H) (l0 : Nat) (l1 : Int32) (l2 : Int32) (l3 : Int32) (l4 : Int32) (l5 : Int32) (l6 : Int32) (r : (Int32 × xa_H)), k48 h l0 l1 l2 l3 l4 l5 l6 = some r → xa_V G M_X12_ask 7 48 [some (.ref l0), some (.int l1), some (.int l2), some (.int l3), some (.int l4), some (.int l5), some (.int l6), none, none, none, none] [] h (some (.int r.1)) r.2) {k96 : xa_H → Nat → Int32 → Int32 → Int32 → Int32 → Int32 → Int32 → Int32 → Int32 → Option (Int32 × xa_H)} (hk96 : ∀ (h : xa_H) (l0 : Nat) (l1 : Int32) (l2 : Int32) (l3 : Int32) (l4 : Int32) (l5 : Int32) (l6 : Int32) (l7 : Int32) (l8 : Int32) (r : (Int32 × xa_H)), k96 h l0 l1 l2 l3 l4 l5 l6 l7 l8 = some r → xa_V G M_X12_ask 7 96 [some (.ref l0), some (.int l1), some (.int l2), some (.int l3), some (.int l4), some (.int l5), some (.int l6), some (.int l7), some (.int l8), none, none] [] h (some (.int r.1)) r.2) : ∀ (n : Nat) (h : xa_H) (l0 : Nat) (l1 : Int32) (l2 : Int32) (l3 : Int32) (l4 : Int32) (l5 : Int32) (l6 : Int32) (l7 : Int32) (l8 : Int32) (l9 : Int32) (l10 : Int32) (r : (Int32 × xa_H)), f_X12_ask_b111 k48 k96 n h l0 l1 l2 l3 l4 l5 l6 l7 l8 l9 l10 = some r → xa_V G M_X12_ask 7 111 [some (.ref l0), some (.int l1), some (.int l2), some (.int l3), some (.int l4), some (.int l5), some (.int l6), some (.int l7), some (.int l8), some (.int l9), some (.int l10)] [] h (some (.int r.1)) r.2 := by
  intro n
  induction n with
  | zero =>
    intro h l0 l1 l2 l3 l4 l5 l6 l7 l8 l9 l10 r hf
    cases (show (none : Option (Int32 × xa_H)) = some r from hf)
  | succ n ih =>
    intro h l0 l1 l2 l3 l4 l5 l6 l7 l8 l9 l10 r hf
    rw [f_X12_ask_b111] at hf
    refine v_iload dX12_ask_111 rfl ?_
    refine v_aload_n dX12_ask_113 rfl ?_
    obtain ⟨x1, ex1, hf⟩ := ob hf
    refine v_getI dX12_ask_114 fl_12_302 ex1 ?_
    refine v_icmp_ge dX12_ask_117 (tgt := 171) (by decide) (fun c2 => ?_) (fun c2 => ?_)
    · replace hf := (if_pos c2).symm.trans hf
      refine v_iload dX12_ask_171 rfl ?_
      refine v_iload dX12_ask_173 rfl ?_
      refine w_mmax dX12_ask_175 mw_12_326 (by decide) (Nat.le_of_ble_eq_true rfl) ?_
      refine v_istore dX12_ask_178 (Nat.le_of_ble_eq_true rfl) (loc' := [some (.ref l0), some (.int l1), some (.int l2), some (.int l3), some (.int l4), some (.int l5), some (.int l6), some (.int (imax l7 l9)), some (.int l8), some (.int l9), some (.int l10)]) rfl ?_
      refine v_iinc dX12_ask_180 rfl (v := (l8 + (1 : Int32))) rfl (Nat.le_of_ble_eq_true rfl) (loc' := [some (.ref l0), some (.int l1), some (.int l2), some (.int l3), some (.int l4), some (.int l5), some (.int l6), some (.int (imax l7 l9)), some (.int (l8 + (1 : Int32))), some (.int l9), some (.int l10)]) rfl ?_
      refine v_goto dX12_ask_183 (tgt := 96) (by decide) ?_
      exact xa_weak (loc := [some (.ref l0), some (.int l1), some (.int l2), some (.int l3), some (.int l4), some (.int l5), some (.int l6), some (.int (imax l7 l9)), some (.int (l8 + (1 : Int32))), none, none]) ⟨rfl, ⟨rfl, ⟨rfl, ⟨rfl, ⟨rfl, ⟨rfl, ⟨rfl, ⟨rfl, ⟨rfl, trivial⟩⟩⟩⟩⟩⟩⟩⟩⟩ (hk96 h l0 l1 l2 l3 l4 l5 l6 (imax l7 l9) (l8 + (1 : Int32)) r hf)
    · replace hf := (if_neg c2).symm.trans hf
      refine v_iload dX12_ask_120 rfl ?_
      refine v_iload_n dX12_ask_122 rfl ?_
      refine v_iload dX12_ask_123 rfl ?_
      obtain ⟨q3, eq3, hf⟩ := ob hf
      refine v_callS dX12_ask_125 ⟨cb_X12_has, ml_12_244, sm_X12_has⟩ (ev_X12_has eq3) (by decide) (As := [.int l3, .int l8]) rfl (st := [.int l9]) rfl (Nat.le_of_ble_eq_true rfl) rfl ?_
      refine v_if_eq dX12_ask_128 (tgt := 161) (by decide) (fun c4 => ?_) (fun c4 => ?_)
      · replace hf := (if_pos c4).symm.trans hf
        exact xa_weak (loc := [some (.ref l0), some (.int l1), some (.int l2), some (.int l3), some (.int l4), some (.int l5), some (.int l6), some (.int l7), some (.int l8), none, some (.int l10)]) ⟨rfl, ⟨rfl, ⟨rfl, ⟨rfl, ⟨rfl, ⟨rfl, ⟨rfl, ⟨rfl, ⟨rfl, ⟨rfl, trivial⟩⟩⟩⟩⟩⟩⟩⟩⟩⟩ (e_X12_ask_b161 hk48 hk96 ih h l0 l1 l2 l3 l4 l5 l6 l7 l8 l10 l9 r hf)
      · replace hf := (if_neg c4).symm.trans hf
        refine v_iload_n dX12_ask_131 rfl ?_
        refine v_iload dX12_ask_132 rfl ?_
        obtain ⟨q5, eq5, hf⟩ := ob hf
        refine v_callS dX12_ask_134 ⟨cb_X12_has, ml_12_244, sm_X12_has⟩ (ev_X12_has eq5) (by decide) (As := [.int l3, .int l10]) rfl (st := [.int l9]) rfl (Nat.le_of_ble_eq_true rfl) rfl ?_
        refine v_if_eq dX12_ask_137 (tgt := 161) (by decide) (fun c6 => ?_) (fun c6 => ?_)
        · replace hf := (if_pos c6).symm.trans hf
          exact xa_weak (loc := [some (.ref l0), some (.int l1), some (.int l2), some (.int l3), some (.int l4), some (.int l5), some (.int l6), some (.int l7), some (.int l8), none, some (.int l10)]) ⟨rfl, ⟨rfl, ⟨rfl, ⟨rfl, ⟨rfl, ⟨rfl, ⟨rfl, ⟨rfl, ⟨rfl, ⟨rfl, trivial⟩⟩⟩⟩⟩⟩⟩⟩⟩⟩ (e_X12_ask_b161 hk48 hk96 ih h l0 l1 l2 l3 l4 l5 l6 l7 l8 l10 l9 r hf)
        · replace hf := (if_neg c6).symm.trans hf
          refine v_aload_n dX12_ask_140 rfl ?_
          obtain ⟨x7, ex7, hf⟩ := ob hf
          refine v_getR dX12_ask_141 fl_12_99 ex7 ?_
          refine v_iload dX12_ask_144 rfl ?_
          obtain ⟨x8, ex8, hf⟩ := ob hf
          refine v_ialoadI dX12_ask_146 ex8 ?_
          refine v_aload_n dX12_ask_147 rfl ?_
          obtain ⟨x9, ex9, hf⟩ := ob hf
          refine v_getR dX12_ask_148 fl_12_99 ex9 ?_
          refine v_iload dX12_ask_151 rfl ?_
          obtain ⟨x10, ex10, hf⟩ := ob hf
          refine v_ialoadI dX12_ask_153 ex10 ?_
          refine v_icmp_ne dX12_ask_154 (tgt := 161) (by decide) (fun c11 => ?_) (fun c11 => ?_)
          · replace hf := (if_neg c11).symm.trans hf
            exact xa_weak (loc := [some (.ref l0), some (.int l1), some (.int l2), some (.int l3), some (.int l4), some (.int l5), some (.int l6), some (.int l7), some (.int l8), none, some (.int l10)]) ⟨rfl, ⟨rfl, ⟨rfl, ⟨rfl, ⟨rfl, ⟨rfl, ⟨rfl, ⟨rfl, ⟨rfl, ⟨rfl, trivial⟩⟩⟩⟩⟩⟩⟩⟩⟩⟩ (e_X12_ask_b161 hk48 hk96 ih h l0 l1 l2 l3 l4 l5 l6 l7 l8 l10 l9 r hf)
          · replace hf := (if_pos c11).symm.trans hf
            refine v_iconst dX12_ask_157 (by decide) (v := 1) ?_
            refine v_goto dX12_ask_158 (tgt := 162) (by decide) ?_
            exact xa_weak (loc := [some (.ref l0), some (.int l1), some (.int l2), some (.int l3), some (.int l4), some (.int l5), some (.int l6), some (.int l7), some (.int l8), none, some (.int l10)]) ⟨rfl, ⟨rfl, ⟨rfl, ⟨rfl, ⟨rfl, ⟨rfl, ⟨rfl, ⟨rfl, ⟨rfl, ⟨rfl, trivial⟩⟩⟩⟩⟩⟩⟩⟩⟩⟩ (e_X12_ask_b162 hk48 hk96 ih h l0 l1 l2 l3 l4 l5 l6 l7 l8 l10 (1 : Int32) l9 r hf)
def f_X12_ask_b96 (k48 : xa_H → Nat → Int32 → Int32 → Int32 → Int32 → Int32 → Int32 → Option (Int32 × xa_H)) : Nat → xa_H → Nat → Int32 → Int32 → Int32 → Int32 → Int32 → Int32 → Int32 → Int32 → Option (Int32 × xa_H)
  | 0, _, _, _, _, _, _, _, _, _, _ => none
  | n + 1, h, l0, l1, l2, l3, l4, l5, l6, l7, l8 =>
    (gI [12] 30 h l0).bind fun x1 =>
    if x1 ≤ l8 then
      if l4 = (-1 : Int32) then
        f_X12_ask_b202 k48 h l0 l1 l2 l3 l6 l7
      else
        if l7 < l5 then
          f_X12_ask_b202 k48 h l0 l1 l2 l3 l6 l7
        else
          f_X12_ask_b210 k48 h l0 l1 l2 l3 l4 l5 l6
    else
      f_X12_ask_b111 k48 (fun h l0 l1 l2 l3 l4 l5 l6 l7 l8 => f_X12_ask_b96 k48 n h l0 l1 l2 l3 l4 l5 l6 l7 l8) 1048576 h l0 l1 l2 l3 l4 l5 l6 l7 l8 (0 : Int32) (0 : Int32)
set_option maxRecDepth 20000 in
theorem e_X12_ask_b96 {G : xa_G} {k48 : xa_H → Nat → Int32 → Int32 → Int32 → Int32 → Int32 → Int32 → Option (Int32 × xa_H)} (hk48 : ∀ (h : xa_H) (l0 : Nat) (l1 : Int32) (l2 : Int32) (l3 : Int32) (l4 : Int32) (l5 : Int32) (l6 : Int32) (r : (Int32 × xa_H)), k48 h l0 l1 l2 l3 l4 l5 l6 = some r → xa_V G M_X12_ask 7 48 [some (.ref l0), some (.int l1), some (.int l2), some (.int l3), some (.int l4), some (.int l5), some (.int l6), none, none, none, none] [] h (some (.int r.1)) r.2) : ∀ (n : Nat) (h : xa_H) (l0 : Nat) (l1 : Int32) (l2 : Int32) (l3 : Int32) (l4 : Int32) (l5 : Int32) (l6 : Int32) (l7 : Int32) (l8 : Int32) (r : (Int32 × xa_H)), f_X12_ask_b96 k48 n h l0 l1 l2 l3 l4 l5 l6 l7 l8 = some r → xa_V G M_X12_ask 7 96 [some (.ref l0), some (.int l1), some (.int l2), some (.int l3), some (.int l4), some (.int l5), some (.int l6), some (.int l7), some (.int l8), none, none] [] h (some (.int r.1)) r.2 := by
  intro n
  induction n with
  | zero =>
    intro h l0 l1 l2 l3 l4 l5 l6 l7 l8 r hf
    cases (show (none : Option (Int32 × xa_H)) = some r from hf)
  | succ n ih =>
    intro h l0 l1 l2 l3 l4 l5 l6 l7 l8 r hf
    rw [f_X12_ask_b96] at hf
    refine v_iload dX12_ask_96 rfl ?_
    refine v_aload_n dX12_ask_98 rfl ?_
    obtain ⟨x1, ex1, hf⟩ := ob hf
    refine v_getI dX12_ask_99 fl_12_302 ex1 ?_
    refine v_icmp_ge dX12_ask_102 (tgt := 186) (by decide) (fun c2 => ?_) (fun c2 => ?_)
    · replace hf := (if_pos c2).symm.trans hf
      refine v_iload dX12_ask_186 rfl ?_
      refine v_iconst dX12_ask_188 (by decide) (v := -1) ?_
      refine v_icmp_eq dX12_ask_189 (tgt := 202) (by decide) (fun c3 => ?_) (fun c3 => ?_)
      · replace hf := (if_pos c3).symm.trans hf
        exact xa_weak (loc := [some (.ref l0), some (.int l1), some (.int l2), some (.int l3), none, none, some (.int l6), some (.int l7), none, none, none]) ⟨rfl, ⟨rfl, ⟨rfl, ⟨rfl, ⟨rfl, ⟨rfl, trivial⟩⟩⟩⟩⟩⟩ (e_X12_ask_b202 hk48 h l0 l1 l2 l3 l6 l7 r hf)
      · replace hf := (if_neg c3).symm.trans hf
        refine v_iload dX12_ask_192 rfl ?_
        refine v_iload dX12_ask_194 rfl ?_
        refine v_icmp_lt dX12_ask_196 (tgt := 202) (by decide) (fun c4 => ?_) (fun c4 => ?_)
        · replace hf := (if_pos c4).symm.trans hf
          exact xa_weak (loc := [some (.ref l0), some (.int l1), some (.int l2), some (.int l3), none, none, some (.int l6), some (.int l7), none, none, none]) ⟨rfl, ⟨rfl, ⟨rfl, ⟨rfl, ⟨rfl, ⟨rfl, trivial⟩⟩⟩⟩⟩⟩ (e_X12_ask_b202 hk48 h l0 l1 l2 l3 l6 l7 r hf)
        · replace hf := (if_neg c4).symm.trans hf
          refine v_goto dX12_ask_199 (tgt := 210) (by decide) ?_
          exact xa_weak (loc := [some (.ref l0), some (.int l1), some (.int l2), some (.int l3), some (.int l4), some (.int l5), some (.int l6), none, none, none, none]) ⟨rfl, ⟨rfl, ⟨rfl, ⟨rfl, ⟨rfl, ⟨rfl, ⟨rfl, trivial⟩⟩⟩⟩⟩⟩⟩ (e_X12_ask_b210 hk48 h l0 l1 l2 l3 l4 l5 l6 r hf)
    · replace hf := (if_neg c2).symm.trans hf
      refine v_iconst dX12_ask_105 (by decide) (v := 0) ?_
      refine v_istore dX12_ask_106 (Nat.le_of_ble_eq_true rfl) (loc' := [some (.ref l0), some (.int l1), some (.int l2), some (.int l3), some (.int l4), some (.int l5), some (.int l6), some (.int l7), some (.int l8), some (.int (0 : Int32)), none]) rfl ?_
      refine v_iconst dX12_ask_108 (by decide) (v := 0) ?_
      refine v_istore dX12_ask_109 (Nat.le_of_ble_eq_true rfl) (loc' := [some (.ref l0), some (.int l1), some (.int l2), some (.int l3), some (.int l4), some (.int l5), some (.int l6), some (.int l7), some (.int l8), some (.int (0 : Int32)), some (.int (0 : Int32))]) rfl ?_
      exact e_X12_ask_b111 hk48 ih 1048576 h l0 l1 l2 l3 l4 l5 l6 l7 l8 (0 : Int32) (0 : Int32) r hf
def f_X12_ask_b58 (k48 : xa_H → Nat → Int32 → Int32 → Int32 → Int32 → Int32 → Int32 → Option (Int32 × xa_H)) : Nat → xa_H → Nat → Int32 → Int32 → Int32 → Int32 → Int32 → Int32 → Int32 → Option (Int32 × xa_H)
  | 0, _, _, _, _, _, _, _, _, _ => none
  | n + 1, h, l0, l1, l2, l3, l4, l5, l6, l7 =>
    (gI [12] 30 h l0).bind fun x1 =>
    if x1 ≤ l7 then
      f_X12_ask_b96 k48 1048576 h l0 l1 l2 l3 l4 l5 l6 (0 : Int32) (0 : Int32)
    else
      (gR [12] 52 h l0).bind fun x3 =>
      (f_X12_wouldOwe h l0 l7 l6 l1 l2).bind fun q4 =>
      (pI q4.2 x3 l7 q4.1).bind fun h5 =>
      f_X12_ask_b58 k48 n h5 l0 l1 l2 l3 l4 l5 l6 (l7 + (1 : Int32))
set_option maxRecDepth 20000 in
theorem e_X12_ask_b58 {G : xa_G} {k48 : xa_H → Nat → Int32 → Int32 → Int32 → Int32 → Int32 → Int32 → Option (Int32 × xa_H)} (hk48 : ∀ (h : xa_H) (l0 : Nat) (l1 : Int32) (l2 : Int32) (l3 : Int32) (l4 : Int32) (l5 : Int32) (l6 : Int32) (r : (Int32 × xa_H)), k48 h l0 l1 l2 l3 l4 l5 l6 = some r → xa_V G M_X12_ask 7 48 [some (.ref l0), some (.int l1), some (.int l2), some (.int l3), some (.int l4), some (.int l5), some (.int l6), none, none, none, none] [] h (some (.int r.1)) r.2) : ∀ (n : Nat) (h : xa_H) (l0 : Nat) (l1 : Int32) (l2 : Int32) (l3 : Int32) (l4 : Int32) (l5 : Int32) (l6 : Int32) (l7 : Int32) (r : (Int32 × xa_H)), f_X12_ask_b58 k48 n h l0 l1 l2 l3 l4 l5 l6 l7 = some r → xa_V G M_X12_ask 7 58 [some (.ref l0), some (.int l1), some (.int l2), some (.int l3), some (.int l4), some (.int l5), some (.int l6), some (.int l7), none, none, none] [] h (some (.int r.1)) r.2 := by
  intro n
  induction n with
  | zero =>
    intro h l0 l1 l2 l3 l4 l5 l6 l7 r hf
    cases (show (none : Option (Int32 × xa_H)) = some r from hf)
  | succ n ih =>
    intro h l0 l1 l2 l3 l4 l5 l6 l7 r hf
    rw [f_X12_ask_b58] at hf
    refine v_iload dX12_ask_58 rfl ?_
    refine v_aload_n dX12_ask_60 rfl ?_
    obtain ⟨x1, ex1, hf⟩ := ob hf
    refine v_getI dX12_ask_61 fl_12_302 ex1 ?_
    refine v_icmp_ge dX12_ask_64 (tgt := 90) (by decide) (fun c2 => ?_) (fun c2 => ?_)
    · replace hf := (if_pos c2).symm.trans hf
      refine v_iconst dX12_ask_90 (by decide) (v := 0) ?_
      refine v_istore dX12_ask_91 (Nat.le_of_ble_eq_true rfl) (loc' := [some (.ref l0), some (.int l1), some (.int l2), some (.int l3), some (.int l4), some (.int l5), some (.int l6), some (.int (0 : Int32)), none, none, none]) rfl ?_
      refine v_iconst dX12_ask_93 (by decide) (v := 0) ?_
      refine v_istore dX12_ask_94 (Nat.le_of_ble_eq_true rfl) (loc' := [some (.ref l0), some (.int l1), some (.int l2), some (.int l3), some (.int l4), some (.int l5), some (.int l6), some (.int (0 : Int32)), some (.int (0 : Int32)), none, none]) rfl ?_
      exact e_X12_ask_b96 hk48 1048576 h l0 l1 l2 l3 l4 l5 l6 (0 : Int32) (0 : Int32) r hf
    · replace hf := (if_neg c2).symm.trans hf
      refine v_aload_n dX12_ask_67 rfl ?_
      obtain ⟨x3, ex3, hf⟩ := ob hf
      refine v_getR dX12_ask_68 fl_12_99 ex3 ?_
      refine v_iload dX12_ask_71 rfl ?_
      refine v_aload_n dX12_ask_73 rfl ?_
      refine v_iload dX12_ask_74 rfl ?_
      refine v_iload dX12_ask_76 rfl ?_
      refine v_iload_n dX12_ask_78 rfl ?_
      refine v_iload_n dX12_ask_79 rfl ?_
      obtain ⟨q4, eq4, hf⟩ := ob hf
      refine v_callV dX12_ask_80 ⟨cb_X12_wouldOwe, ml_12_482, im_X12_wouldOwe⟩ se_12_X12_wouldOwe (ckf_X12_wouldOwe eq4) (ev_X12_wouldOwe eq4) (by decide) (As := [.int l7, .int l6, .int l1, .int l2]) rfl (st := [.int l7, .ref x3]) rfl (Nat.le_of_ble_eq_true rfl) rfl ?_
      obtain ⟨h5, eh5, hf⟩ := ob hf
      refine v_iastoreI dX12_ask_83 eh5 ?_
      refine v_iinc dX12_ask_84 rfl (v := (l7 + (1 : Int32))) rfl (Nat.le_of_ble_eq_true rfl) (loc' := [some (.ref l0), some (.int l1), some (.int l2), some (.int l3), some (.int l4), some (.int l5), some (.int l6), some (.int (l7 + (1 : Int32))), none, none, none]) rfl ?_
      refine v_goto dX12_ask_87 (tgt := 58) (by decide) ?_
      exact ih h5 l0 l1 l2 l3 l4 l5 l6 (l7 + (1 : Int32)) r hf
def f_X12_ask_b48 : Nat → xa_H → Nat → Int32 → Int32 → Int32 → Int32 → Int32 → Int32 → Option (Int32 × xa_H)
  | 0, _, _, _, _, _, _, _, _ => none
  | n + 1, h, l0, l1, l2, l3, l4, l5, l6 =>
    if (9 : Int32) < l6 then
      some (l4, h)
    else
      f_X12_ask_b58 (fun h l0 l1 l2 l3 l4 l5 l6 => f_X12_ask_b48 n h l0 l1 l2 l3 l4 l5 l6) 1048576 h l0 l1 l2 l3 l4 l5 l6 (0 : Int32)
set_option maxRecDepth 20000 in
theorem e_X12_ask_b48 {G : xa_G} : ∀ (n : Nat) (h : xa_H) (l0 : Nat) (l1 : Int32) (l2 : Int32) (l3 : Int32) (l4 : Int32) (l5 : Int32) (l6 : Int32) (r : (Int32 × xa_H)), f_X12_ask_b48 n h l0 l1 l2 l3 l4 l5 l6 = some r → xa_V G M_X12_ask 7 48 [some (.ref l0), some (.int l1), some (.int l2), some (.int l3), some (.int l4), some (.int l5), some (.int l6), none, none, none, none] [] h (some (.int r.1)) r.2 := by
  intro n
  induction n with
  | zero =>
    intro h l0 l1 l2 l3 l4 l5 l6 r hf
    cases (show (none : Option (Int32 × xa_H)) = some r from hf)
  | succ n ih =>
    intro h l0 l1 l2 l3 l4 l5 l6 r hf
    rw [f_X12_ask_b48] at hf
    refine v_iload dX12_ask_48 rfl ?_
    refine v_bipush dX12_ask_50 (by decide) (v := 9) ?_
    refine v_icmp_gt dX12_ask_52 (tgt := 216) (by decide) (fun c1 => ?_) (fun c1 => ?_)
    · replace hf := (if_pos c1).symm.trans hf
      refine v_iload dX12_ask_216 rfl ?_
      replace hf := Option.some.inj hf
      subst hf
      exact v_iret dX12_ask_218 rfl
    · replace hf := (if_neg c1).symm.trans hf
      refine v_iconst dX12_ask_55 (by decide) (v := 0) ?_
      refine v_istore dX12_ask_56 (Nat.le_of_ble_eq_true rfl) (loc' := [some (.ref l0), some (.int l1), some (.int l2), some (.int l3), some (.int l4), some (.int l5), some (.int l6), some (.int (0 : Int32)), none, none, none]) rfl ?_
      exact e_X12_ask_b58 ih 1048576 h l0 l1 l2 l3 l4 l5 l6 (0 : Int32) r hf
def f_X12_ask (h : xa_H) (l0 : Nat) (l1 : Int32) (l2 : Int32) : Option (Int32 × xa_H) :=
  (ck [12] h l0).bind fun _ =>
  (xp [12] 0 h l0 (.int (0 : Int32))).bind fun h1 =>
  (f_X12_isHouse h1 l0 l1).bind fun q2 =>
  if q2 = 0 then
    some ((-1 : Int32), h1)
  else
    (f_X12_isHouse h1 l0 l2).bind fun q4 =>
    if q4 = 0 then
      some ((-1 : Int32), h1)
    else
      if l1 = l2 then
        some ((-1 : Int32), h1)
      else
        (f_X12_fits h1 l0).bind fun q7 =>
        if q7.1 = 0 then
          some ((-1 : Int32), q7.2)
        else
          f_X12_ask_b48 1048576 q7.2 l0 l1 l2 q7.1 (-1 : Int32) (0 : Int32) (1 : Int32)
set_option maxRecDepth 20000 in
theorem ev_X12_ask {G : xa_G} {h : xa_H} {l0 : Nat} {l1 : Int32} {l2 : Int32} {r : (Int32 × xa_H)} (hf : f_X12_ask h l0 l1 l2 = some r) : xa_Ev G M_X12_ask 7 [.ref l0, .int l1, .int l2] h (some (.int r.1)) r.2 := by
  refine xa_entry (by decide +kernel) (loc := [some (.ref l0), some (.int l1), some (.int l2), none, none, none, none, none, none, none, none]) rfl (Nat.le_of_ble_eq_true rfl) ?_
  unfold f_X12_ask at hf
  obtain ⟨u0, eu0, hf⟩ := ob hf
  refine v_aload_n dX12_ask_0 rfl ?_
  refine v_iconst dX12_ask_1 (by decide) (v := 0) ?_
  obtain ⟨h1, eh1, hf⟩ := ob hf
  refine v_put dX12_ask_2 fp_12_111 (fun z => by cases z) (fun _ => rfl) (fun _ => rfl) eh1 ?_
  refine v_aload_n dX12_ask_5 rfl ?_
  refine v_iload_n dX12_ask_6 rfl ?_
  obtain ⟨q2, eq2, hf⟩ := ob hf
  refine v_callV dX12_ask_7 ⟨cb_X12_isHouse, ml_12_335, im_X12_isHouse⟩ se_12_X12_isHouse (ckf_X12_isHouse eq2) (ev_X12_isHouse eq2) (by decide) (As := [.int l1]) rfl (st := []) rfl (Nat.le_of_ble_eq_true rfl) rfl ?_
  refine v_if_eq dX12_ask_10 (tgt := 26) (by decide) (fun c3 => ?_) (fun c3 => ?_)
  · replace hf := (if_pos c3).symm.trans hf
    refine v_iconst dX12_ask_26 (by decide) (v := -1) ?_
    replace hf := Option.some.inj hf
    subst hf
    exact v_iret dX12_ask_27 rfl
  · replace hf := (if_neg c3).symm.trans hf
    refine v_aload_n dX12_ask_13 rfl ?_
    refine v_iload_n dX12_ask_14 rfl ?_
    obtain ⟨q4, eq4, hf⟩ := ob hf
    refine v_callV dX12_ask_15 ⟨cb_X12_isHouse, ml_12_335, im_X12_isHouse⟩ se_12_X12_isHouse (ckf_X12_isHouse eq4) (ev_X12_isHouse eq4) (by decide) (As := [.int l2]) rfl (st := []) rfl (Nat.le_of_ble_eq_true rfl) rfl ?_
    refine v_if_eq dX12_ask_18 (tgt := 26) (by decide) (fun c5 => ?_) (fun c5 => ?_)
    · replace hf := (if_pos c5).symm.trans hf
      refine v_iconst dX12_ask_26 (by decide) (v := -1) ?_
      replace hf := Option.some.inj hf
      subst hf
      exact v_iret dX12_ask_27 rfl
    · replace hf := (if_neg c5).symm.trans hf
      refine v_iload_n dX12_ask_21 rfl ?_
      refine v_iload_n dX12_ask_22 rfl ?_
      refine v_icmp_ne dX12_ask_23 (tgt := 28) (by decide) (fun c6 => ?_) (fun c6 => ?_)
      · replace hf := (if_neg c6).symm.trans hf
        refine v_aload_n dX12_ask_28 rfl ?_
        obtain ⟨q7, eq7, hf⟩ := ob hf
        refine v_callV dX12_ask_29 ⟨cb_X12_fits, ml_12_489, im_X12_fits⟩ se_12_X12_fits (ckf_X12_fits eq7) (ev_X12_fits eq7) (by decide) (As := []) rfl (st := []) rfl (Nat.le_of_ble_eq_true rfl) rfl ?_
        refine v_istore_n (i := 3) rfl dX12_ask_32 (Nat.le_of_ble_eq_true rfl) (loc' := [some (.ref l0), some (.int l1), some (.int l2), some (.int q7.1), none, none, none, none, none, none, none]) rfl ?_
        refine v_iload_n dX12_ask_33 rfl ?_
        refine v_if_ne dX12_ask_34 (tgt := 39) (by decide) (fun c8 => ?_) (fun c8 => ?_)
        · replace hf := (if_neg c8).symm.trans hf
          refine v_iconst dX12_ask_39 (by decide) (v := -1) ?_
          refine v_istore dX12_ask_40 (Nat.le_of_ble_eq_true rfl) (loc' := [some (.ref l0), some (.int l1), some (.int l2), some (.int q7.1), some (.int (-1 : Int32)), none, none, none, none, none, none]) rfl ?_
          refine v_iconst dX12_ask_42 (by decide) (v := 0) ?_
          refine v_istore dX12_ask_43 (Nat.le_of_ble_eq_true rfl) (loc' := [some (.ref l0), some (.int l1), some (.int l2), some (.int q7.1), some (.int (-1 : Int32)), some (.int (0 : Int32)), none, none, none, none, none]) rfl ?_
          refine v_iconst dX12_ask_45 (by decide) (v := 1) ?_
          refine v_istore dX12_ask_46 (Nat.le_of_ble_eq_true rfl) (loc' := [some (.ref l0), some (.int l1), some (.int l2), some (.int q7.1), some (.int (-1 : Int32)), some (.int (0 : Int32)), some (.int (1 : Int32)), none, none, none, none]) rfl ?_
          exact e_X12_ask_b48 1048576 q7.2 l0 l1 l2 q7.1 (-1 : Int32) (0 : Int32) (1 : Int32) r hf
        · replace hf := (if_pos c8).symm.trans hf
          refine v_iconst dX12_ask_37 (by decide) (v := -1) ?_
          replace hf := Option.some.inj hf
          subst hf
          exact v_iret dX12_ask_38 rfl
      · replace hf := (if_pos c6).symm.trans hf
        refine v_iconst dX12_ask_26 (by decide) (v := -1) ?_
        replace hf := Option.some.inj hf
        subst hf
        exact v_iret dX12_ask_27 rfl
theorem ckf_X12_ask {h : xa_H} {l0 : Nat} {l1 : Int32} {l2 : Int32} {r : (Int32 × xa_H)} (hf : f_X12_ask h l0 l1 l2 = some r) : ck [12] h l0 = some () := by
  obtain ⟨u, e, -⟩ := ob hf
  exact e
def M_X12_fails : xa_M := (yX12_fails, cX12_fails, 1, some .boolean)
theorem cb_X12_fails : xa_CB M_X12_fails 0 := ⟨gws_at 1518 (by decide +kernel) rfl, gws_at 122 (by decide +kernel) rfl, by decide +kernel, Nat.le_of_ble_eq_true rfl⟩
def f_X12_fails (h : xa_H) (l0 : Nat) : Option (Int32 × xa_H) :=
  (ck [12] h l0).bind fun _ =>
  (gI [12] 11 h l0).bind fun x1 =>
  if x1 = (-1 : Int32) then
    (gI [12] 10 h l0).bind fun x3 =>
    (xp [12] 11 h l0 (.int x3)).bind fun h4 =>
    some ((0 : Int32), h4)
  else
    some ((0 : Int32), h)
set_option maxRecDepth 20000 in
theorem ev_X12_fails {G : xa_G} {h : xa_H} {l0 : Nat} {r : (Int32 × xa_H)} (hf : f_X12_fails h l0 = some r) : xa_Ev G M_X12_fails 0 [.ref l0] h (some (.int r.1)) r.2 := by
  refine xa_entry (by decide +kernel) (loc := [some (.ref l0)]) rfl (Nat.le_of_ble_eq_true rfl) ?_
  unfold f_X12_fails at hf
  obtain ⟨u0, eu0, hf⟩ := ob hf
  refine v_aload_n dX12_fails_0 rfl ?_
  obtain ⟨x1, ex1, hf⟩ := ob hf
  refine v_getI dX12_fails_1 fl_12_143 ex1 ?_
  refine v_iconst dX12_fails_4 (by decide) (v := -1) ?_
  refine v_icmp_ne dX12_fails_5 (tgt := 16) (by decide) (fun c2 => ?_) (fun c2 => ?_)
  · replace hf := (if_neg c2).symm.trans hf
    refine v_iconst dX12_fails_16 (by decide) (v := 0) ?_
    replace hf := Option.some.inj hf
    subst hf
    exact v_zret dX12_fails_17 rfl (by decide)
  · replace hf := (if_pos c2).symm.trans hf
    refine v_aload_n dX12_fails_8 rfl ?_
    refine v_aload_n dX12_fails_9 rfl ?_
    obtain ⟨x3, ex3, hf⟩ := ob hf
    refine v_getI dX12_fails_10 fl_12_134 ex3 ?_
    obtain ⟨h4, eh4, hf⟩ := ob hf
    refine v_put dX12_fails_13 fp_12_143 (fun z => by cases z) (fun _ => rfl) (fun _ => rfl) eh4 ?_
    refine v_iconst dX12_fails_16 (by decide) (v := 0) ?_
    replace hf := Option.some.inj hf
    subst hf
    exact v_zret dX12_fails_17 rfl (by decide)
theorem ckf_X12_fails {h : xa_H} {l0 : Nat} {r : (Int32 × xa_H)} (hf : f_X12_fails h l0 = some r) : ck [12] h l0 = some () := by
  obtain ⟨u, e, -⟩ := ob hf
  exact e
def M_X12_goesIn : xa_M := (yX12_goesIn, cX12_goesIn, 1, some .boolean)
theorem cb_X12_goesIn : xa_CB M_X12_goesIn 0 := ⟨gws_at 1603 (by decide +kernel) rfl, gws_at 122 (by decide +kernel) rfl, by decide +kernel, Nat.le_of_ble_eq_true rfl⟩
def f_X12_goesIn (h : xa_H) (l0 : Nat) : Option (Int32 × xa_H) :=
  (ck [12] h l0).bind fun _ =>
  (gI [12] 12 h l0).bind fun x1 =>
  if x1 = (6 : Int32) then
    (f_X12_fails h l0).bind fun q7 =>
    (zq q7.1).bind fun z8 =>
    some (z8, q7.2)
  else
    (gI [12] 12 h l0).bind fun x3 =>
    (xp [12] 12 h l0 (.int (x3 + (1 : Int32)))).bind fun h4 =>
    (gI [12] 10 h4 l0).bind fun x5 =>
    (xp [12] 10 h4 l0 (.int (x5 + (1 : Int32)))).bind fun h6 =>
    some ((1 : Int32), h6)
set_option maxRecDepth 20000 in
theorem ev_X12_goesIn {G : xa_G} {h : xa_H} {l0 : Nat} {r : (Int32 × xa_H)} (hf : f_X12_goesIn h l0 = some r) : xa_Ev G M_X12_goesIn 1 [.ref l0] h (some (.int r.1)) r.2 := by
  refine xa_entry (by decide +kernel) (loc := [some (.ref l0)]) rfl (Nat.le_of_ble_eq_true rfl) ?_
  unfold f_X12_goesIn at hf
  obtain ⟨u0, eu0, hf⟩ := ob hf
  refine v_aload_n dX12_goesIn_0 rfl ?_
  obtain ⟨x1, ex1, hf⟩ := ob hf
  refine v_getI dX12_goesIn_1 fl_12_146 ex1 ?_
  refine v_bipush dX12_goesIn_4 (by decide) (v := 6) ?_
  refine v_icmp_ne dX12_goesIn_6 (tgt := 14) (by decide) (fun c2 => ?_) (fun c2 => ?_)
  · replace hf := (if_neg c2).symm.trans hf
    refine v_aload_n dX12_goesIn_14 rfl ?_
    refine v_dup dX12_goesIn_15 rfl ?_
    obtain ⟨x3, ex3, hf⟩ := ob hf
    refine v_getI dX12_goesIn_16 fl_12_146 ex3 ?_
    refine v_iconst dX12_goesIn_19 (by decide) (v := 1) ?_
    refine v_iadd dX12_goesIn_20 ?_
    obtain ⟨h4, eh4, hf⟩ := ob hf
    refine v_put dX12_goesIn_21 fp_12_146 (fun z => by cases z) (fun _ => rfl) (fun _ => rfl) eh4 ?_
    refine v_aload_n dX12_goesIn_24 rfl ?_
    refine v_dup dX12_goesIn_25 rfl ?_
    obtain ⟨x5, ex5, hf⟩ := ob hf
    refine v_getI dX12_goesIn_26 fl_12_134 ex5 ?_
    refine v_iconst dX12_goesIn_29 (by decide) (v := 1) ?_
    refine v_iadd dX12_goesIn_30 ?_
    obtain ⟨h6, eh6, hf⟩ := ob hf
    refine v_put dX12_goesIn_31 fp_12_134 (fun z => by cases z) (fun _ => rfl) (fun _ => rfl) eh6 ?_
    refine v_iconst dX12_goesIn_34 (by decide) (v := 1) ?_
    replace hf := Option.some.inj hf
    subst hf
    exact v_zret dX12_goesIn_35 rfl (by decide)
  · replace hf := (if_pos c2).symm.trans hf
    refine v_aload_n dX12_goesIn_9 rfl ?_
    obtain ⟨q7, eq7, hf⟩ := ob hf
    refine v_callV dX12_goesIn_10 ⟨cb_X12_fails, ml_12_149, im_X12_fails⟩ se_12_X12_fails (ckf_X12_fails eq7) (ev_X12_fails eq7) (by decide) (As := []) rfl (st := []) rfl (Nat.le_of_ble_eq_true rfl) rfl ?_
    obtain ⟨z8, ez8, hf⟩ := ob hf
    obtain ⟨wz8, qz8⟩ := zq_of ez8
    rw [wz8] at hf
    replace hf := Option.some.inj hf
    subst hf
    exact v_zret dX12_goesIn_13 rfl qz8
theorem ckf_X12_goesIn {h : xa_H} {l0 : Nat} {r : (Int32 × xa_H)} (hf : f_X12_goesIn h l0 = some r) : ck [12] h l0 = some () := by
  obtain ⟨u, e, -⟩ := ob hf
  exact e
def M_X12_isAmong : xa_M := (yX12_isAmong, cX12_isAmong, 3, some .boolean)
theorem cb_X12_isAmong : xa_CB M_X12_isAmong 2 := ⟨gws_at 1571 (by decide +kernel) rfl, gws_at 122 (by decide +kernel) rfl, by decide +kernel, Nat.le_of_ble_eq_true rfl⟩
def f_X12_isAmong_b2 : Nat → xa_H → Nat → Int32 → Int32 → Option Int32
  | 0, _, _, _, _ => none
  | n + 1, h, l0, l1, l2 =>
    (sLen l0).bind fun x1 =>
    if x1 ≤ l2 then
      some (0 : Int32)
    else
      (sAt l0 l2).bind fun x3 =>
      if x3 = l1 then
        some (1 : Int32)
      else
        f_X12_isAmong_b2 n h l0 l1 (l2 + (1 : Int32))
set_option maxRecDepth 20000 in
theorem e_X12_isAmong_b2 {G : xa_G} : ∀ (n : Nat) (h : xa_H) (l0 : Nat) (l1 : Int32) (l2 : Int32) (r : Int32), f_X12_isAmong_b2 n h l0 l1 l2 = some r → xa_V G M_X12_isAmong 4 2 [some (.ref l0), some (.int l1), some (.int l2)] [] h (some (.int r)) h := by
  intro n
  induction n with
  | zero =>
    intro h l0 l1 l2 r hf
    cases (show (none : Option Int32) = some r from hf)
  | succ n ih =>
    intro h l0 l1 l2 r hf
    rw [f_X12_isAmong_b2] at hf
    refine v_iload_n dX12_isAmong_2 rfl ?_
    refine v_aload_n dX12_isAmong_3 rfl ?_
    obtain ⟨x1, ex1, hf⟩ := ob hf
    refine v_slen dX12_isAmong_4 ml_12_114 (by decide) (Nat.le_of_ble_eq_true rfl) ex1 ?_
    refine v_icmp_ge dX12_isAmong_7 (tgt := 27) (by decide) (fun c2 => ?_) (fun c2 => ?_)
    · replace hf := (if_pos c2).symm.trans hf
      refine v_iconst dX12_isAmong_27 (by decide) (v := 0) ?_
      replace hf := Option.some.inj hf
      subst hf
      exact v_zret dX12_isAmong_28 rfl (by decide)
    · replace hf := (if_neg c2).symm.trans hf
      refine v_aload_n dX12_isAmong_10 rfl ?_
      refine v_iload_n dX12_isAmong_11 rfl ?_
      obtain ⟨x3, ex3, hf⟩ := ob hf
      refine v_sat dX12_isAmong_12 ml_12_120 (by decide) (Nat.le_of_ble_eq_true rfl) ex3 ?_
      refine v_iload_n dX12_isAmong_15 rfl ?_
      refine v_icmp_ne dX12_isAmong_16 (tgt := 21) (by decide) (fun c4 => ?_) (fun c4 => ?_)
      · replace hf := (if_neg c4).symm.trans hf
        refine v_iinc dX12_isAmong_21 rfl (v := (l2 + (1 : Int32))) rfl (Nat.le_of_ble_eq_true rfl) (loc' := [some (.ref l0), some (.int l1), some (.int (l2 + (1 : Int32)))]) rfl ?_
        refine v_goto dX12_isAmong_24 (tgt := 2) (by decide) ?_
        exact ih h l0 l1 (l2 + (1 : Int32)) r hf
      · replace hf := (if_pos c4).symm.trans hf
        refine v_iconst dX12_isAmong_19 (by decide) (v := 1) ?_
        replace hf := Option.some.inj hf
        subst hf
        exact v_zret dX12_isAmong_20 rfl (by decide)
def f_X12_isAmong (h : xa_H) (l0 : Nat) (l1 : Int32) : Option Int32 :=
  f_X12_isAmong_b2 1048576 h l0 l1 (0 : Int32)
set_option maxRecDepth 20000 in
theorem ev_X12_isAmong {G : xa_G} {h : xa_H} {l0 : Nat} {l1 : Int32} {r : Int32} (hf : f_X12_isAmong h l0 l1 = some r) : xa_Ev G M_X12_isAmong 4 [.ref l0, .int l1] h (some (.int r)) h := by
  refine xa_entry (by decide +kernel) (loc := [some (.ref l0), some (.int l1), none]) rfl (Nat.le_of_ble_eq_true rfl) ?_
  unfold f_X12_isAmong at hf
  refine v_iconst dX12_isAmong_0 (by decide) (v := 0) ?_
  refine v_istore_n (i := 2) rfl dX12_isAmong_1 (Nat.le_of_ble_eq_true rfl) (loc' := [some (.ref l0), some (.int l1), some (.int (0 : Int32))]) rfl ?_
  exact e_X12_isAmong_b2 1048576 h l0 l1 (0 : Int32) r hf
def M_X12_isDigit : xa_M := (yX12_isDigit, cX12_isDigit, 1, some .boolean)
theorem cb_X12_isDigit : xa_CB M_X12_isDigit 0 := ⟨gws_at 1545 (by decide +kernel) rfl, gws_at 122 (by decide +kernel) rfl, by decide +kernel, Nat.le_of_ble_eq_true rfl⟩
def f_X12_isDigit (h : xa_H) (l0 : Nat) : Option Int32 :=
  (ck [12] h l0).bind fun _ =>
  (gI [12] 10 h l0).bind fun x1 =>
  (gI [12] 9 h l0).bind fun x2 =>
  if x2 ≤ x1 then
    some (0 : Int32)
  else
    (gR [12] 5 h l0).bind fun x4 =>
    (gI [12] 8 h l0).bind fun x5 =>
    (gI [12] 10 h l0).bind fun x6 =>
    (aB h x4 (x5 + x6)).bind fun x7 =>
    if x7 < (48 : Int32) then
      some (0 : Int32)
    else
      (gR [12] 5 h l0).bind fun x9 =>
      (gI [12] 8 h l0).bind fun x10 =>
      (gI [12] 10 h l0).bind fun x11 =>
      (aB h x9 (x10 + x11)).bind fun x12 =>
      if (57 : Int32) < x12 then
        some (0 : Int32)
      else
        some (1 : Int32)
set_option maxRecDepth 20000 in
theorem ev_X12_isDigit {G : xa_G} {h : xa_H} {l0 : Nat} {r : Int32} (hf : f_X12_isDigit h l0 = some r) : xa_Ev G M_X12_isDigit 0 [.ref l0] h (some (.int r)) h := by
  refine xa_entry (by decide +kernel) (loc := [some (.ref l0)]) rfl (Nat.le_of_ble_eq_true rfl) ?_
  unfold f_X12_isDigit at hf
  obtain ⟨u0, eu0, hf⟩ := ob hf
  refine v_aload_n dX12_isDigit_0 rfl ?_
  obtain ⟨x1, ex1, hf⟩ := ob hf
  refine v_getI dX12_isDigit_1 fl_12_134 ex1 ?_
  refine v_aload_n dX12_isDigit_4 rfl ?_
  obtain ⟨x2, ex2, hf⟩ := ob hf
  refine v_getI dX12_isDigit_5 fl_12_137 ex2 ?_
  refine v_icmp_ge dX12_isDigit_8 (tgt := 53) (by decide) (fun c3 => ?_) (fun c3 => ?_)
  · replace hf := (if_pos c3).symm.trans hf
    refine v_iconst dX12_isDigit_53 (by decide) (v := 0) ?_
    replace hf := Option.some.inj hf
    subst hf
    exact v_zret dX12_isDigit_54 rfl (by decide)
  · replace hf := (if_neg c3).symm.trans hf
    refine v_aload_n dX12_isDigit_11 rfl ?_
    obtain ⟨x4, ex4, hf⟩ := ob hf
    refine v_getR dX12_isDigit_12 fl_12_23 ex4 ?_
    refine v_aload_n dX12_isDigit_15 rfl ?_
    obtain ⟨x5, ex5, hf⟩ := ob hf
    refine v_getI dX12_isDigit_16 fl_12_140 ex5 ?_
    refine v_aload_n dX12_isDigit_19 rfl ?_
    obtain ⟨x6, ex6, hf⟩ := ob hf
    refine v_getI dX12_isDigit_20 fl_12_134 ex6 ?_
    refine v_iadd dX12_isDigit_23 ?_
    obtain ⟨x7, ex7, hf⟩ := ob hf
    refine v_baloadB dX12_isDigit_24 ex7 ?_
    refine v_bipush dX12_isDigit_25 (by decide) (v := 48) ?_
    refine v_icmp_lt dX12_isDigit_27 (tgt := 53) (by decide) (fun c8 => ?_) (fun c8 => ?_)
    · replace hf := (if_pos c8).symm.trans hf
      refine v_iconst dX12_isDigit_53 (by decide) (v := 0) ?_
      replace hf := Option.some.inj hf
      subst hf
      exact v_zret dX12_isDigit_54 rfl (by decide)
    · replace hf := (if_neg c8).symm.trans hf
      refine v_aload_n dX12_isDigit_30 rfl ?_
      obtain ⟨x9, ex9, hf⟩ := ob hf
      refine v_getR dX12_isDigit_31 fl_12_23 ex9 ?_
      refine v_aload_n dX12_isDigit_34 rfl ?_
      obtain ⟨x10, ex10, hf⟩ := ob hf
      refine v_getI dX12_isDigit_35 fl_12_140 ex10 ?_
      refine v_aload_n dX12_isDigit_38 rfl ?_
      obtain ⟨x11, ex11, hf⟩ := ob hf
      refine v_getI dX12_isDigit_39 fl_12_134 ex11 ?_
      refine v_iadd dX12_isDigit_42 ?_
      obtain ⟨x12, ex12, hf⟩ := ob hf
      refine v_baloadB dX12_isDigit_43 ex12 ?_
      refine v_bipush dX12_isDigit_44 (by decide) (v := 57) ?_
      refine v_icmp_gt dX12_isDigit_46 (tgt := 53) (by decide) (fun c13 => ?_) (fun c13 => ?_)
      · replace hf := (if_pos c13).symm.trans hf
        refine v_iconst dX12_isDigit_53 (by decide) (v := 0) ?_
        replace hf := Option.some.inj hf
        subst hf
        exact v_zret dX12_isDigit_54 rfl (by decide)
      · replace hf := (if_neg c13).symm.trans hf
        refine v_iconst dX12_isDigit_49 (by decide) (v := 1) ?_
        refine v_goto dX12_isDigit_50 (tgt := 54) (by decide) ?_
        replace hf := Option.some.inj hf
        subst hf
        exact v_zret dX12_isDigit_54 rfl (by decide)
theorem ckf_X12_isDigit {h : xa_H} {l0 : Nat} {r : Int32} (hf : f_X12_isDigit h l0 = some r) : ck [12] h l0 = some () := by
  obtain ⟨u, e, -⟩ := ob hf
  exact e
def M_X12_look : xa_M := (yX12_look, cX12_look, 1, some .int)
theorem cb_X12_look : xa_CB M_X12_look 0 := ⟨gws_at 1514 (by decide +kernel) rfl, gws_at 122 (by decide +kernel) rfl, by decide +kernel, Nat.le_of_ble_eq_true rfl⟩
def f_X12_look_b43 (h : xa_H) (l0 : Nat) : Option (Int32 × xa_H) :=
  (gI [12] 10 h l0).bind fun x1 =>
  (gI [12] 9 h l0).bind fun x2 =>
  if x2 ≤ x1 then
    some ((-1 : Int32), h)
  else
    (gR [12] 5 h l0).bind fun x4 =>
    (gI [12] 8 h l0).bind fun x5 =>
    (gI [12] 10 h l0).bind fun x6 =>
    (aB h x4 (x5 + x6)).bind fun x7 =>
    some ((x7 &&& (255 : Int32)), h)
set_option maxRecDepth 20000 in
theorem e_X12_look_b43 {G : xa_G} : ∀ (h : xa_H) (l0 : Nat) (r : (Int32 × xa_H)), f_X12_look_b43 h l0 = some r → xa_V G M_X12_look 0 43 [some (.ref l0)] [] h (some (.int r.1)) r.2 := by
  intro h l0 r hf
  unfold f_X12_look_b43 at hf
  refine v_aload_n dX12_look_43 rfl ?_
  obtain ⟨x1, ex1, hf⟩ := ob hf
  refine v_getI dX12_look_44 fl_12_134 ex1 ?_
  refine v_aload_n dX12_look_47 rfl ?_
  obtain ⟨x2, ex2, hf⟩ := ob hf
  refine v_getI dX12_look_48 fl_12_137 ex2 ?_
  refine v_icmp_ge dX12_look_51 (tgt := 75) (by decide) (fun c3 => ?_) (fun c3 => ?_)
  · replace hf := (if_pos c3).symm.trans hf
    refine v_iconst dX12_look_75 (by decide) (v := -1) ?_
    replace hf := Option.some.inj hf
    subst hf
    exact v_iret dX12_look_76 rfl
  · replace hf := (if_neg c3).symm.trans hf
    refine v_aload_n dX12_look_54 rfl ?_
    obtain ⟨x4, ex4, hf⟩ := ob hf
    refine v_getR dX12_look_55 fl_12_23 ex4 ?_
    refine v_aload_n dX12_look_58 rfl ?_
    obtain ⟨x5, ex5, hf⟩ := ob hf
    refine v_getI dX12_look_59 fl_12_140 ex5 ?_
    refine v_aload_n dX12_look_62 rfl ?_
    obtain ⟨x6, ex6, hf⟩ := ob hf
    refine v_getI dX12_look_63 fl_12_134 ex6 ?_
    refine v_iadd dX12_look_66 ?_
    obtain ⟨x7, ex7, hf⟩ := ob hf
    refine v_baloadB dX12_look_67 ex7 ?_
    refine v_sipush dX12_look_68 (by decide) (v := 255) ?_
    refine v_iand dX12_look_71 ?_
    refine v_goto dX12_look_72 (tgt := 76) (by decide) ?_
    replace hf := Option.some.inj hf
    subst hf
    exact v_iret dX12_look_76 rfl
def f_X12_look_b0 : Nat → xa_H → Nat → Option (Int32 × xa_H)
  | 0, _, _ => none
  | n + 1, h, l0 =>
    (gI [12] 10 h l0).bind fun x1 =>
    (gI [12] 9 h l0).bind fun x2 =>
    if x2 ≤ x1 then
      f_X12_look_b43 h l0
    else
      (gR [12] 5 h l0).bind fun x4 =>
      (gI [12] 8 h l0).bind fun x5 =>
      (gI [12] 10 h l0).bind fun x6 =>
      (aB h x4 (x5 + x6)).bind fun x7 =>
      if x7 = (32 : Int32) then
        (gI [12] 10 h l0).bind fun x9 =>
        (xp [12] 10 h l0 (.int (x9 + (1 : Int32)))).bind fun h10 =>
        f_X12_look_b0 n h10 l0
      else
        f_X12_look_b43 h l0
set_option maxRecDepth 20000 in
theorem e_X12_look_b0 {G : xa_G} : ∀ (n : Nat) (h : xa_H) (l0 : Nat) (r : (Int32 × xa_H)), f_X12_look_b0 n h l0 = some r → xa_V G M_X12_look 0 0 [some (.ref l0)] [] h (some (.int r.1)) r.2 := by
  intro n
  induction n with
  | zero =>
    intro h l0 r hf
    cases (show (none : Option (Int32 × xa_H)) = some r from hf)
  | succ n ih =>
    intro h l0 r hf
    rw [f_X12_look_b0] at hf
    refine v_aload_n dX12_look_0 rfl ?_
    obtain ⟨x1, ex1, hf⟩ := ob hf
    refine v_getI dX12_look_1 fl_12_134 ex1 ?_
    refine v_aload_n dX12_look_4 rfl ?_
    obtain ⟨x2, ex2, hf⟩ := ob hf
    refine v_getI dX12_look_5 fl_12_137 ex2 ?_
    refine v_icmp_ge dX12_look_8 (tgt := 43) (by decide) (fun c3 => ?_) (fun c3 => ?_)
    · replace hf := (if_pos c3).symm.trans hf
      exact e_X12_look_b43 h l0 r hf
    · replace hf := (if_neg c3).symm.trans hf
      refine v_aload_n dX12_look_11 rfl ?_
      obtain ⟨x4, ex4, hf⟩ := ob hf
      refine v_getR dX12_look_12 fl_12_23 ex4 ?_
      refine v_aload_n dX12_look_15 rfl ?_
      obtain ⟨x5, ex5, hf⟩ := ob hf
      refine v_getI dX12_look_16 fl_12_140 ex5 ?_
      refine v_aload_n dX12_look_19 rfl ?_
      obtain ⟨x6, ex6, hf⟩ := ob hf
      refine v_getI dX12_look_20 fl_12_134 ex6 ?_
      refine v_iadd dX12_look_23 ?_
      obtain ⟨x7, ex7, hf⟩ := ob hf
      refine v_baloadB dX12_look_24 ex7 ?_
      refine v_bipush dX12_look_25 (by decide) (v := 32) ?_
      refine v_icmp_ne dX12_look_27 (tgt := 43) (by decide) (fun c8 => ?_) (fun c8 => ?_)
      · replace hf := (if_neg c8).symm.trans hf
        exact e_X12_look_b43 h l0 r hf
      · replace hf := (if_pos c8).symm.trans hf
        refine v_aload_n dX12_look_30 rfl ?_
        refine v_dup dX12_look_31 rfl ?_
        obtain ⟨x9, ex9, hf⟩ := ob hf
        refine v_getI dX12_look_32 fl_12_134 ex9 ?_
        refine v_iconst dX12_look_35 (by decide) (v := 1) ?_
        refine v_iadd dX12_look_36 ?_
        obtain ⟨h10, eh10, hf⟩ := ob hf
        refine v_put dX12_look_37 fp_12_134 (fun z => by cases z) (fun _ => rfl) (fun _ => rfl) eh10 ?_
        refine v_goto dX12_look_40 (tgt := 0) (by decide) ?_
        exact ih h10 l0 r hf
def f_X12_look (h : xa_H) (l0 : Nat) : Option (Int32 × xa_H) :=
  (ck [12] h l0).bind fun _ =>
  f_X12_look_b0 1048576 h l0
set_option maxRecDepth 20000 in
theorem ev_X12_look {G : xa_G} {h : xa_H} {l0 : Nat} {r : (Int32 × xa_H)} (hf : f_X12_look h l0 = some r) : xa_Ev G M_X12_look 0 [.ref l0] h (some (.int r.1)) r.2 := by
  refine xa_entry (by decide +kernel) (loc := [some (.ref l0)]) rfl (Nat.le_of_ble_eq_true rfl) ?_
  unfold f_X12_look at hf
  obtain ⟨u0, eu0, hf⟩ := ob hf
  exact e_X12_look_b0 1048576 h l0 r hf
theorem ckf_X12_look {h : xa_H} {l0 : Nat} {r : (Int32 × xa_H)} (hf : f_X12_look h l0 = some r) : ck [12] h l0 = some () := by
  obtain ⟨u, e, -⟩ := ob hf
  exact e
def M_X12_within : xa_M := (yX12_within, cX12_within, 2, some .int)
theorem cb_X12_within : xa_CB M_X12_within 1 := ⟨gws_at 1606 (by decide +kernel) rfl, gws_at 122 (by decide +kernel) rfl, by decide +kernel, Nat.le_of_ble_eq_true rfl⟩
def f_X12_within (h : xa_H) (l0 : Int64) : Option Int32 :=
  some ((lmax (-1000000 : Int64) (lmin (1000000 : Int64) l0))).toInt32
set_option maxRecDepth 20000 in
theorem ev_X12_within {G : xa_G} {h : xa_H} {l0 : Int64} {r : Int32} (hf : f_X12_within h l0 = some r) : xa_Ev G M_X12_within 1 [.long l0] h (some (.int r)) h := by
  refine xa_entry (by decide +kernel) (loc := [some (.long l0), none]) rfl (Nat.le_of_ble_eq_true rfl) ?_
  unfold f_X12_within at hf
  refine v_ldc2 dX12_within_0 rfl col_12_156 ?_
  refine v_ldc2 dX12_within_3 rfl col_12_158 ?_
  refine v_lload_n dX12_within_6 rfl ?_
  refine w_mminL dX12_within_7 mw_12_160 (by decide) (Nat.le_of_ble_eq_true rfl) ?_
  refine w_mmaxL dX12_within_10 mw_12_166 (by decide) (Nat.le_of_ble_eq_true rfl) ?_
  refine v_l2i dX12_within_13 ?_
  replace hf := Option.some.inj hf
  subst hf
  exact v_iret dX12_within_14 rfl
def M_X12_takes : xa_M := (yX12_takes, cX12_takes, 2, some .boolean)
theorem cb_X12_takes : xa_CB M_X12_takes 1 := ⟨gws_at 1575 (by decide +kernel) rfl, gws_at 122 (by decide +kernel) rfl, by decide +kernel, Nat.le_of_ble_eq_true rfl⟩
def f_X12_takes_b16 (h : xa_H) (l0 : Nat) : Option (Int32 × xa_H) :=
  (f_X12_fails h l0).bind fun q1 =>
  (zq q1.1).bind fun z2 =>
  some (z2, q1.2)
set_option maxRecDepth 20000 in
theorem e_X12_takes_b16 {G : xa_G} : ∀ (h : xa_H) (l0 : Nat) (r : (Int32 × xa_H)), f_X12_takes_b16 h l0 = some r → xa_V G M_X12_takes 1 16 [some (.ref l0), none] [] h (some (.int r.1)) r.2 := by
  intro h l0 r hf
  unfold f_X12_takes_b16 at hf
  refine v_aload_n dX12_takes_16 rfl ?_
  obtain ⟨q1, eq1, hf⟩ := ob hf
  refine v_callV dX12_takes_17 ⟨cb_X12_fails, ml_12_149, im_X12_fails⟩ se_12_X12_fails (ckf_X12_fails eq1) (ev_X12_fails eq1) (by decide) (As := []) rfl (st := []) rfl (Nat.le_of_ble_eq_true rfl) rfl ?_
  obtain ⟨z2, ez2, hf⟩ := ob hf
  obtain ⟨wz2, qz2⟩ := zq_of ez2
  rw [wz2] at hf
  replace hf := Option.some.inj hf
  subst hf
  exact v_zret dX12_takes_20 rfl qz2
def f_X12_takes (h : xa_H) (l0 : Nat) (l1 : Int32) : Option (Int32 × xa_H) :=
  (ck [12] h l0).bind fun _ =>
  (gI [12] 11 h l0).bind fun x1 =>
  if x1 = (-1 : Int32) then
    (f_X12_look h l0).bind fun q3 =>
    if q3.1 = l1 then
      (gI [12] 10 q3.2 l0).bind fun x5 =>
      (xp [12] 10 q3.2 l0 (.int (x5 + (1 : Int32)))).bind fun h6 =>
      some ((1 : Int32), h6)
    else
      f_X12_takes_b16 q3.2 l0
  else
    f_X12_takes_b16 h l0
set_option maxRecDepth 20000 in
theorem ev_X12_takes {G : xa_G} {h : xa_H} {l0 : Nat} {l1 : Int32} {r : (Int32 × xa_H)} (hf : f_X12_takes h l0 l1 = some r) : xa_Ev G M_X12_takes 1 [.ref l0, .int l1] h (some (.int r.1)) r.2 := by
  refine xa_entry (by decide +kernel) (loc := [some (.ref l0), some (.int l1)]) rfl (Nat.le_of_ble_eq_true rfl) ?_
  unfold f_X12_takes at hf
  obtain ⟨u0, eu0, hf⟩ := ob hf
  refine v_aload_n dX12_takes_0 rfl ?_
  obtain ⟨x1, ex1, hf⟩ := ob hf
  refine v_getI dX12_takes_1 fl_12_143 ex1 ?_
  refine v_iconst dX12_takes_4 (by decide) (v := -1) ?_
  refine v_icmp_ne dX12_takes_5 (tgt := 16) (by decide) (fun c2 => ?_) (fun c2 => ?_)
  · replace hf := (if_neg c2).symm.trans hf
    exact xa_weak (loc := [some (.ref l0), none]) ⟨rfl, trivial⟩ (e_X12_takes_b16 h l0 r hf)
  · replace hf := (if_pos c2).symm.trans hf
    refine v_aload_n dX12_takes_8 rfl ?_
    obtain ⟨q3, eq3, hf⟩ := ob hf
    refine v_callV dX12_takes_9 ⟨cb_X12_look, ml_12_153, im_X12_look⟩ se_12_X12_look (ckf_X12_look eq3) (ev_X12_look eq3) (by decide) (As := []) rfl (st := []) rfl (Nat.le_of_ble_eq_true rfl) rfl ?_
    refine v_iload_n dX12_takes_12 rfl ?_
    refine v_icmp_eq dX12_takes_13 (tgt := 21) (by decide) (fun c4 => ?_) (fun c4 => ?_)
    · replace hf := (if_pos c4).symm.trans hf
      refine v_aload_n dX12_takes_21 rfl ?_
      refine v_dup dX12_takes_22 rfl ?_
      obtain ⟨x5, ex5, hf⟩ := ob hf
      refine v_getI dX12_takes_23 fl_12_134 ex5 ?_
      refine v_iconst dX12_takes_26 (by decide) (v := 1) ?_
      refine v_iadd dX12_takes_27 ?_
      obtain ⟨h6, eh6, hf⟩ := ob hf
      refine v_put dX12_takes_28 fp_12_134 (fun z => by cases z) (fun _ => rfl) (fun _ => rfl) eh6 ?_
      refine v_iconst dX12_takes_31 (by decide) (v := 1) ?_
      replace hf := Option.some.inj hf
      subst hf
      exact v_zret dX12_takes_32 rfl (by decide)
    · replace hf := (if_neg c4).symm.trans hf
      exact xa_weak (loc := [some (.ref l0), none]) ⟨rfl, trivial⟩ (e_X12_takes_b16 q3.2 l0 r hf)
theorem ckf_X12_takes {h : xa_H} {l0 : Nat} {l1 : Int32} {r : (Int32 × xa_H)} (hf : f_X12_takes h l0 l1 = some r) : ck [12] h l0 = some () := by
  obtain ⟨u, e, -⟩ := ob hf
  exact e
