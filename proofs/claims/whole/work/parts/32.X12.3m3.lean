def M_X12_atom : xa_M := (yX12_atom, cX12_atom, 4, some .int)
theorem cb_X12_atom : xa_CB M_X12_atom 0 := ⟨gws_at 1599 (by decide +kernel) rfl, gws_at 122 (by decide +kernel) rfl, by decide +kernel, Nat.le_of_ble_eq_true rfl⟩
def M_X12_sum : xa_M := (yX12_sum, cX12_sum, 5, some .int)
theorem cb_X12_sum : xa_CB M_X12_sum 0 := ⟨gws_at 1591 (by decide +kernel) rfl, gws_at 122 (by decide +kernel) rfl, by decide +kernel, Nat.le_of_ble_eq_true rfl⟩
def M_X12_term : xa_M := (yX12_term, cX12_term, 5, some .int)
theorem cb_X12_term : xa_CB M_X12_term 0 := ⟨gws_at 1595 (by decide +kernel) rfl, gws_at 122 (by decide +kernel) rfl, by decide +kernel, Nat.le_of_ble_eq_true rfl⟩
def f_X12_atom_b156 (c_X12_atom : xa_H → Nat → Option (Int32 × xa_H)) (c_X12_sum : xa_H → Nat → Option (Int32 × xa_H)) (c_X12_term : xa_H → Nat → Option (Int32 × xa_H)) (h : xa_H) (l2 : Int32) : Option (Int32 × xa_H) :=
  some (l2, h)
set_option maxRecDepth 20000 in
theorem e_X12_atom_b156 {G : xa_G} {d d1 : Nat} {c_X12_atom : xa_H → Nat → Option (Int32 × xa_H)} (hc_X12_atom : ∀ {h : xa_H} {a0 : Nat} {r : (Int32 × xa_H)}, c_X12_atom h a0 = some r → xa_Ev G M_X12_atom d1 [.ref a0] h (some (.int r.1)) r.2) (hck_X12_atom : ∀ {h : xa_H} {a0 : Nat} {r : (Int32 × xa_H)}, c_X12_atom h a0 = some r → ck [12] h a0 = some ()) {c_X12_sum : xa_H → Nat → Option (Int32 × xa_H)} (hc_X12_sum : ∀ {h : xa_H} {a0 : Nat} {r : (Int32 × xa_H)}, c_X12_sum h a0 = some r → xa_Ev G M_X12_sum d1 [.ref a0] h (some (.int r.1)) r.2) (hck_X12_sum : ∀ {h : xa_H} {a0 : Nat} {r : (Int32 × xa_H)}, c_X12_sum h a0 = some r → ck [12] h a0 = some ()) {c_X12_term : xa_H → Nat → Option (Int32 × xa_H)} (hc_X12_term : ∀ {h : xa_H} {a0 : Nat} {r : (Int32 × xa_H)}, c_X12_term h a0 = some r → xa_Ev G M_X12_term d1 [.ref a0] h (some (.int r.1)) r.2) (hck_X12_term : ∀ {h : xa_H} {a0 : Nat} {r : (Int32 × xa_H)}, c_X12_term h a0 = some r → ck [12] h a0 = some ()) (hdx : 5 ≤ d) (hd1 : d1 + 1 ≤ d) : ∀ (h : xa_H) (l2 : Int32) (r : (Int32 × xa_H)), f_X12_atom_b156 c_X12_atom c_X12_sum c_X12_term h l2 = some r → xa_V G M_X12_atom d 156 [none, none, some (.int l2), none] [] h (some (.int r.1)) r.2 := by
  intro h l2 r hf
  unfold f_X12_atom_b156 at hf
  refine v_iload_n dX12_atom_156 rfl ?_
  replace hf := Option.some.inj hf
  subst hf
  exact v_iret dX12_atom_157 rfl
def f_X12_atom_b90 (c_X12_atom : xa_H → Nat → Option (Int32 × xa_H)) (c_X12_sum : xa_H → Nat → Option (Int32 × xa_H)) (c_X12_term : xa_H → Nat → Option (Int32 × xa_H)) : Nat → xa_H → Nat → Int32 → Int32 → Option (Int32 × xa_H)
  | 0, _, _, _, _ => none
  | n + 1, h, l0, l2, l3 =>
    (f_X12_isDigit h l0).bind fun q1 =>
    if q1 = 0 then
      f_X12_atom_b156 c_X12_atom c_X12_sum c_X12_term h l2
    else
      (gI [12] 11 h l0).bind fun x3 =>
      if x3 = (-1 : Int32) then
        if l3 = (4 : Int32) then
          (f_X12_fails h l0).bind fun q12 =>
          some ((0 : Int32), q12.2)
        else
          (gR [12] 5 h l0).bind fun x6 =>
          (gI [12] 8 h l0).bind fun x7 =>
          (gI [12] 10 h l0).bind fun x8 =>
          (aB h x6 (x7 + x8)).bind fun x9 =>
          (gI [12] 10 h l0).bind fun x10 =>
          (xp [12] 10 h l0 (.int (x10 + (1 : Int32)))).bind fun h11 =>
          f_X12_atom_b90 c_X12_atom c_X12_sum c_X12_term n h11 l0 ((((10 : Int32) * l2) + x9) - (48 : Int32)) (l3 + (1 : Int32))
      else
        f_X12_atom_b156 c_X12_atom c_X12_sum c_X12_term h l2
set_option maxRecDepth 20000 in
theorem e_X12_atom_b90 {G : xa_G} {d d1 : Nat} {c_X12_atom : xa_H → Nat → Option (Int32 × xa_H)} (hc_X12_atom : ∀ {h : xa_H} {a0 : Nat} {r : (Int32 × xa_H)}, c_X12_atom h a0 = some r → xa_Ev G M_X12_atom d1 [.ref a0] h (some (.int r.1)) r.2) (hck_X12_atom : ∀ {h : xa_H} {a0 : Nat} {r : (Int32 × xa_H)}, c_X12_atom h a0 = some r → ck [12] h a0 = some ()) {c_X12_sum : xa_H → Nat → Option (Int32 × xa_H)} (hc_X12_sum : ∀ {h : xa_H} {a0 : Nat} {r : (Int32 × xa_H)}, c_X12_sum h a0 = some r → xa_Ev G M_X12_sum d1 [.ref a0] h (some (.int r.1)) r.2) (hck_X12_sum : ∀ {h : xa_H} {a0 : Nat} {r : (Int32 × xa_H)}, c_X12_sum h a0 = some r → ck [12] h a0 = some ()) {c_X12_term : xa_H → Nat → Option (Int32 × xa_H)} (hc_X12_term : ∀ {h : xa_H} {a0 : Nat} {r : (Int32 × xa_H)}, c_X12_term h a0 = some r → xa_Ev G M_X12_term d1 [.ref a0] h (some (.int r.1)) r.2) (hck_X12_term : ∀ {h : xa_H} {a0 : Nat} {r : (Int32 × xa_H)}, c_X12_term h a0 = some r → ck [12] h a0 = some ()) (hdx : 5 ≤ d) (hd1 : d1 + 1 ≤ d) : ∀ (n : Nat) (h : xa_H) (l0 : Nat) (l2 : Int32) (l3 : Int32) (r : (Int32 × xa_H)), f_X12_atom_b90 c_X12_atom c_X12_sum c_X12_term n h l0 l2 l3 = some r → xa_V G M_X12_atom d 90 [some (.ref l0), none, some (.int l2), some (.int l3)] [] h (some (.int r.1)) r.2 := by
  intro n
  induction n with
  | zero =>
    intro h l0 l2 l3 r hf
    cases (show (none : Option (Int32 × xa_H)) = some r from hf)
  | succ n ih =>
    intro h l0 l2 l3 r hf
    rw [f_X12_atom_b90] at hf
    refine v_aload_n dX12_atom_90 rfl ?_
    obtain ⟨q1, eq1, hf⟩ := ob hf
    refine v_callV dX12_atom_91 ⟨cb_X12_isDigit, ml_12_183, im_X12_isDigit⟩ se_12_X12_isDigit (ckf_X12_isDigit eq1) (ev_X12_isDigit eq1) (Nat.le_trans (by decide) hdx) (As := []) rfl (st := []) rfl (Nat.le_of_ble_eq_true rfl) rfl ?_
    refine v_if_eq dX12_atom_94 (tgt := 156) (by decide) (fun c2 => ?_) (fun c2 => ?_)
    · replace hf := (if_pos c2).symm.trans hf
      exact xa_weak (loc := [none, none, some (.int l2), none]) ⟨rfl, trivial⟩ (e_X12_atom_b156 hc_X12_atom hck_X12_atom hc_X12_sum hck_X12_sum hc_X12_term hck_X12_term hdx hd1 h l2 r hf)
    · replace hf := (if_neg c2).symm.trans hf
      refine v_aload_n dX12_atom_97 rfl ?_
      obtain ⟨x3, ex3, hf⟩ := ob hf
      refine v_getI dX12_atom_98 fl_12_143 ex3 ?_
      refine v_iconst dX12_atom_101 (by decide) (v := -1) ?_
      refine v_icmp_ne dX12_atom_102 (tgt := 156) (by decide) (fun c4 => ?_) (fun c4 => ?_)
      · replace hf := (if_neg c4).symm.trans hf
        exact xa_weak (loc := [none, none, some (.int l2), none]) ⟨rfl, trivial⟩ (e_X12_atom_b156 hc_X12_atom hck_X12_atom hc_X12_sum hck_X12_sum hc_X12_term hck_X12_term hdx hd1 h l2 r hf)
      · replace hf := (if_pos c4).symm.trans hf
        refine v_iload_n dX12_atom_105 rfl ?_
        refine v_iconst dX12_atom_106 (by decide) (v := 4) ?_
        refine v_icmp_ne dX12_atom_107 (tgt := 117) (by decide) (fun c5 => ?_) (fun c5 => ?_)
        · replace hf := (if_neg c5).symm.trans hf
          refine v_bipush dX12_atom_117 (by decide) (v := 10) ?_
          refine v_iload_n dX12_atom_119 rfl ?_
          refine v_imul dX12_atom_120 ?_
          refine v_aload_n dX12_atom_121 rfl ?_
          obtain ⟨x6, ex6, hf⟩ := ob hf
          refine v_getR dX12_atom_122 fl_12_23 ex6 ?_
          refine v_aload_n dX12_atom_125 rfl ?_
          obtain ⟨x7, ex7, hf⟩ := ob hf
          refine v_getI dX12_atom_126 fl_12_140 ex7 ?_
          refine v_aload_n dX12_atom_129 rfl ?_
          obtain ⟨x8, ex8, hf⟩ := ob hf
          refine v_getI dX12_atom_130 fl_12_134 ex8 ?_
          refine v_iadd dX12_atom_133 ?_
          obtain ⟨x9, ex9, hf⟩ := ob hf
          refine v_baloadB dX12_atom_134 ex9 ?_
          refine v_iadd dX12_atom_135 ?_
          refine v_bipush dX12_atom_136 (by decide) (v := 48) ?_
          refine v_isub dX12_atom_138 ?_
          refine v_istore_n (i := 2) rfl dX12_atom_139 (Nat.le_of_ble_eq_true rfl) (loc' := [some (.ref l0), none, some (.int ((((10 : Int32) * l2) + x9) - (48 : Int32))), some (.int l3)]) rfl ?_
          refine v_aload_n dX12_atom_140 rfl ?_
          refine v_dup dX12_atom_141 rfl ?_
          obtain ⟨x10, ex10, hf⟩ := ob hf
          refine v_getI dX12_atom_142 fl_12_134 ex10 ?_
          refine v_iconst dX12_atom_145 (by decide) (v := 1) ?_
          refine v_iadd dX12_atom_146 ?_
          obtain ⟨h11, eh11, hf⟩ := ob hf
          refine v_put dX12_atom_147 fp_12_134 (fun z => by cases z) (fun _ => rfl) (fun _ => rfl) eh11 ?_
          refine v_iinc dX12_atom_150 rfl (v := (l3 + (1 : Int32))) rfl (Nat.le_of_ble_eq_true rfl) (loc' := [some (.ref l0), none, some (.int ((((10 : Int32) * l2) + x9) - (48 : Int32))), some (.int (l3 + (1 : Int32)))]) rfl ?_
          refine v_goto dX12_atom_153 (tgt := 90) (by decide) ?_
          exact ih h11 l0 ((((10 : Int32) * l2) + x9) - (48 : Int32)) (l3 + (1 : Int32)) r hf
        · replace hf := (if_pos c5).symm.trans hf
          refine v_aload_n dX12_atom_110 rfl ?_
          obtain ⟨q12, eq12, hf⟩ := ob hf
          refine v_callV dX12_atom_111 ⟨cb_X12_fails, ml_12_149, im_X12_fails⟩ se_12_X12_fails (ckf_X12_fails eq12) (ev_X12_fails eq12) (Nat.le_trans (by decide) hdx) (As := []) rfl (st := []) rfl (Nat.le_of_ble_eq_true rfl) rfl ?_
          refine v_pop dX12_atom_114 rfl ?_
          refine v_iconst dX12_atom_115 (by decide) (v := 0) ?_
          replace hf := Option.some.inj hf
          subst hf
          exact v_iret dX12_atom_116 rfl
def f_X12_atom_b86 (c_X12_atom : xa_H → Nat → Option (Int32 × xa_H)) (c_X12_sum : xa_H → Nat → Option (Int32 × xa_H)) (c_X12_term : xa_H → Nat → Option (Int32 × xa_H)) (h : xa_H) (l0 : Nat) : Option (Int32 × xa_H) :=
  f_X12_atom_b90 c_X12_atom c_X12_sum c_X12_term 1048576 h l0 (0 : Int32) (0 : Int32)
set_option maxRecDepth 20000 in
theorem e_X12_atom_b86 {G : xa_G} {d d1 : Nat} {c_X12_atom : xa_H → Nat → Option (Int32 × xa_H)} (hc_X12_atom : ∀ {h : xa_H} {a0 : Nat} {r : (Int32 × xa_H)}, c_X12_atom h a0 = some r → xa_Ev G M_X12_atom d1 [.ref a0] h (some (.int r.1)) r.2) (hck_X12_atom : ∀ {h : xa_H} {a0 : Nat} {r : (Int32 × xa_H)}, c_X12_atom h a0 = some r → ck [12] h a0 = some ()) {c_X12_sum : xa_H → Nat → Option (Int32 × xa_H)} (hc_X12_sum : ∀ {h : xa_H} {a0 : Nat} {r : (Int32 × xa_H)}, c_X12_sum h a0 = some r → xa_Ev G M_X12_sum d1 [.ref a0] h (some (.int r.1)) r.2) (hck_X12_sum : ∀ {h : xa_H} {a0 : Nat} {r : (Int32 × xa_H)}, c_X12_sum h a0 = some r → ck [12] h a0 = some ()) {c_X12_term : xa_H → Nat → Option (Int32 × xa_H)} (hc_X12_term : ∀ {h : xa_H} {a0 : Nat} {r : (Int32 × xa_H)}, c_X12_term h a0 = some r → xa_Ev G M_X12_term d1 [.ref a0] h (some (.int r.1)) r.2) (hck_X12_term : ∀ {h : xa_H} {a0 : Nat} {r : (Int32 × xa_H)}, c_X12_term h a0 = some r → ck [12] h a0 = some ()) (hdx : 5 ≤ d) (hd1 : d1 + 1 ≤ d) : ∀ (h : xa_H) (l0 : Nat) (r : (Int32 × xa_H)), f_X12_atom_b86 c_X12_atom c_X12_sum c_X12_term h l0 = some r → xa_V G M_X12_atom d 86 [some (.ref l0), none, none, none] [] h (some (.int r.1)) r.2 := by
  intro h l0 r hf
  unfold f_X12_atom_b86 at hf
  refine v_iconst dX12_atom_86 (by decide) (v := 0) ?_
  refine v_istore_n (i := 2) rfl dX12_atom_87 (Nat.le_of_ble_eq_true rfl) (loc' := [some (.ref l0), none, some (.int (0 : Int32)), none]) rfl ?_
  refine v_iconst dX12_atom_88 (by decide) (v := 0) ?_
  refine v_istore_n (i := 3) rfl dX12_atom_89 (Nat.le_of_ble_eq_true rfl) (loc' := [some (.ref l0), none, some (.int (0 : Int32)), some (.int (0 : Int32))]) rfl ?_
  exact e_X12_atom_b90 hc_X12_atom hck_X12_atom hc_X12_sum hck_X12_sum hc_X12_term hck_X12_term hdx hd1 1048576 h l0 (0 : Int32) (0 : Int32) r hf
def g_X12_atom (c_X12_atom : xa_H → Nat → Option (Int32 × xa_H)) (c_X12_sum : xa_H → Nat → Option (Int32 × xa_H)) (c_X12_term : xa_H → Nat → Option (Int32 × xa_H)) (h : xa_H) (l0 : Nat) : Option (Int32 × xa_H) :=
  (ck [12] h l0).bind fun _ =>
  (f_X12_look h l0).bind fun q1 =>
  (f_X12_isAmong q1.2 (1000000010 + 0) q1.1).bind fun q2 =>
  if q2 = 0 then
    if q1.1 = (91 : Int32) then
      (f_X12_goesIn q1.2 l0).bind fun q8 =>
      if q8.1 = 0 then
        some ((0 : Int32), q8.2)
      else
        (c_X12_sum q8.2 l0).bind fun q10 =>
        (f_X12_takes q10.2 l0 (93 : Int32)).bind fun q11 =>
        if q11.1 = 0 then
          some ((0 : Int32), q11.2)
        else
          (gI [12] 12 q11.2 l0).bind fun x13 =>
          (xp [12] 12 q11.2 l0 (.int (x13 - (1 : Int32)))).bind fun h14 =>
          some (q10.1, h14)
    else
      (f_X12_isDigit q1.2 l0).bind fun q5 =>
      if q5 = 0 then
        (f_X12_fails q1.2 l0).bind fun q7 =>
        f_X12_atom_b86 c_X12_atom c_X12_sum c_X12_term q7.2 l0
      else
        f_X12_atom_b86 c_X12_atom c_X12_sum c_X12_term q1.2 l0
  else
    (gI [12] 10 q1.2 l0).bind fun x15 =>
    (xp [12] 10 q1.2 l0 (.int (x15 + (1 : Int32)))).bind fun h16 =>
    (gR [12] 4 h16 l0).bind fun x17 =>
    (aI h16 x17 q1.1).bind fun x18 =>
    some (x18, h16)
set_option maxRecDepth 20000 in
theorem eg_X12_atom {G : xa_G} {d d1 : Nat} {c_X12_atom : xa_H → Nat → Option (Int32 × xa_H)} (hc_X12_atom : ∀ {h : xa_H} {a0 : Nat} {r : (Int32 × xa_H)}, c_X12_atom h a0 = some r → xa_Ev G M_X12_atom d1 [.ref a0] h (some (.int r.1)) r.2) (hck_X12_atom : ∀ {h : xa_H} {a0 : Nat} {r : (Int32 × xa_H)}, c_X12_atom h a0 = some r → ck [12] h a0 = some ()) {c_X12_sum : xa_H → Nat → Option (Int32 × xa_H)} (hc_X12_sum : ∀ {h : xa_H} {a0 : Nat} {r : (Int32 × xa_H)}, c_X12_sum h a0 = some r → xa_Ev G M_X12_sum d1 [.ref a0] h (some (.int r.1)) r.2) (hck_X12_sum : ∀ {h : xa_H} {a0 : Nat} {r : (Int32 × xa_H)}, c_X12_sum h a0 = some r → ck [12] h a0 = some ()) {c_X12_term : xa_H → Nat → Option (Int32 × xa_H)} (hc_X12_term : ∀ {h : xa_H} {a0 : Nat} {r : (Int32 × xa_H)}, c_X12_term h a0 = some r → xa_Ev G M_X12_term d1 [.ref a0] h (some (.int r.1)) r.2) (hck_X12_term : ∀ {h : xa_H} {a0 : Nat} {r : (Int32 × xa_H)}, c_X12_term h a0 = some r → ck [12] h a0 = some ()) (hdx : 5 ≤ d) (hd1 : d1 + 1 ≤ d) {h : xa_H} {l0 : Nat} {r : (Int32 × xa_H)} (hf : g_X12_atom c_X12_atom c_X12_sum c_X12_term h l0 = some r) : xa_Ev G M_X12_atom d [.ref l0] h (some (.int r.1)) r.2 := by
  refine xa_entry (by decide +kernel) (loc := [some (.ref l0), none, none, none]) rfl (Nat.le_of_ble_eq_true rfl) ?_
  unfold g_X12_atom at hf
  obtain ⟨u0, eu0, hf⟩ := ob hf
  refine v_aload_n dX12_atom_0 rfl ?_
  obtain ⟨q1, eq1, hf⟩ := ob hf
  refine v_callV dX12_atom_1 ⟨cb_X12_look, ml_12_153, im_X12_look⟩ se_12_X12_look (ckf_X12_look eq1) (ev_X12_look eq1) (Nat.le_trans (by decide) hdx) (As := []) rfl (st := []) rfl (Nat.le_of_ble_eq_true rfl) rfl ?_
  refine v_istore_n (i := 1) rfl dX12_atom_4 (Nat.le_of_ble_eq_true rfl) (loc' := [some (.ref l0), some (.int q1.1), none, none]) rfl ?_
  refine v_ldcs dX12_atom_5 (List.mem_of_getElem? (i := 6) rfl) ?_
  refine v_iload_n dX12_atom_7 rfl ?_
  obtain ⟨q2, eq2, hf⟩ := ob hf
  refine v_callS dX12_atom_8 ⟨cb_X12_isAmong, ml_12_169, sm_X12_isAmong⟩ (ev_X12_isAmong eq2) (Nat.le_trans (by decide) hdx) (As := [.ref (1000000010 + 0), .int q1.1]) rfl (st := []) rfl (Nat.le_of_ble_eq_true rfl) rfl ?_
  refine v_if_eq dX12_atom_11 (tgt := 31) (by decide) (fun c3 => ?_) (fun c3 => ?_)
  · replace hf := (if_pos c3).symm.trans hf
    refine v_iload_n dX12_atom_31 rfl ?_
    refine v_bipush dX12_atom_32 (by decide) (v := 91) ?_
    refine v_icmp_ne dX12_atom_34 (tgt := 74) (by decide) (fun c4 => ?_) (fun c4 => ?_)
    · replace hf := (if_neg c4).symm.trans hf
      refine v_aload_n dX12_atom_74 rfl ?_
      obtain ⟨q5, eq5, hf⟩ := ob hf
      refine v_callV dX12_atom_75 ⟨cb_X12_isDigit, ml_12_183, im_X12_isDigit⟩ se_12_X12_isDigit (ckf_X12_isDigit eq5) (ev_X12_isDigit eq5) (Nat.le_trans (by decide) hdx) (As := []) rfl (st := []) rfl (Nat.le_of_ble_eq_true rfl) rfl ?_
      refine v_if_ne dX12_atom_78 (tgt := 86) (by decide) (fun c6 => ?_) (fun c6 => ?_)
      · replace hf := (if_neg c6).symm.trans hf
        exact xa_weak (loc := [some (.ref l0), none, none, none]) ⟨rfl, trivial⟩ (e_X12_atom_b86 hc_X12_atom hck_X12_atom hc_X12_sum hck_X12_sum hc_X12_term hck_X12_term hdx hd1 q1.2 l0 r hf)
      · replace hf := (if_pos c6).symm.trans hf
        refine v_aload_n dX12_atom_81 rfl ?_
        obtain ⟨q7, eq7, hf⟩ := ob hf
        refine v_callV dX12_atom_82 ⟨cb_X12_fails, ml_12_149, im_X12_fails⟩ se_12_X12_fails (ckf_X12_fails eq7) (ev_X12_fails eq7) (Nat.le_trans (by decide) hdx) (As := []) rfl (st := []) rfl (Nat.le_of_ble_eq_true rfl) rfl ?_
        refine v_pop dX12_atom_85 rfl ?_
        exact xa_weak (loc := [some (.ref l0), none, none, none]) ⟨rfl, trivial⟩ (e_X12_atom_b86 hc_X12_atom hck_X12_atom hc_X12_sum hck_X12_sum hc_X12_term hck_X12_term hdx hd1 q7.2 l0 r hf)
    · replace hf := (if_pos c4).symm.trans hf
      refine v_aload_n dX12_atom_37 rfl ?_
      obtain ⟨q8, eq8, hf⟩ := ob hf
      refine v_callV dX12_atom_38 ⟨cb_X12_goesIn, ml_12_173, im_X12_goesIn⟩ se_12_X12_goesIn (ckf_X12_goesIn eq8) (ev_X12_goesIn eq8) (Nat.le_trans (by decide) hdx) (As := []) rfl (st := []) rfl (Nat.le_of_ble_eq_true rfl) rfl ?_
      refine v_if_ne dX12_atom_41 (tgt := 46) (by decide) (fun c9 => ?_) (fun c9 => ?_)
      · replace hf := (if_neg c9).symm.trans hf
        refine v_aload_n dX12_atom_46 rfl ?_
        obtain ⟨q10, eq10, hf⟩ := ob hf
        refine v_callV dX12_atom_47 ⟨cb_X12_sum, ml_12_176, im_X12_sum⟩ se_12_X12_sum (hck_X12_sum eq10) (hc_X12_sum eq10) hd1 (As := []) rfl (st := []) rfl (Nat.le_of_ble_eq_true rfl) rfl ?_
        refine v_istore_n (i := 2) rfl dX12_atom_50 (Nat.le_of_ble_eq_true rfl) (loc' := [some (.ref l0), some (.int q1.1), some (.int q10.1), none]) rfl ?_
        refine v_aload_n dX12_atom_51 rfl ?_
        refine v_bipush dX12_atom_52 (by decide) (v := 93) ?_
        obtain ⟨q11, eq11, hf⟩ := ob hf
        refine v_callV dX12_atom_54 ⟨cb_X12_takes, ml_12_179, im_X12_takes⟩ se_12_X12_takes (ckf_X12_takes eq11) (ev_X12_takes eq11) (Nat.le_trans (by decide) hdx) (As := [.int (93 : Int32)]) rfl (st := []) rfl (Nat.le_of_ble_eq_true rfl) rfl ?_
        refine v_if_ne dX12_atom_57 (tgt := 62) (by decide) (fun c12 => ?_) (fun c12 => ?_)
        · replace hf := (if_neg c12).symm.trans hf
          refine v_aload_n dX12_atom_62 rfl ?_
          refine v_dup dX12_atom_63 rfl ?_
          obtain ⟨x13, ex13, hf⟩ := ob hf
          refine v_getI dX12_atom_64 fl_12_146 ex13 ?_
          refine v_iconst dX12_atom_67 (by decide) (v := 1) ?_
          refine v_isub dX12_atom_68 ?_
          obtain ⟨h14, eh14, hf⟩ := ob hf
          refine v_put dX12_atom_69 fp_12_146 (fun z => by cases z) (fun _ => rfl) (fun _ => rfl) eh14 ?_
          refine v_iload_n dX12_atom_72 rfl ?_
          replace hf := Option.some.inj hf
          subst hf
          exact v_iret dX12_atom_73 rfl
        · replace hf := (if_pos c12).symm.trans hf
          refine v_iconst dX12_atom_60 (by decide) (v := 0) ?_
          replace hf := Option.some.inj hf
          subst hf
          exact v_iret dX12_atom_61 rfl
      · replace hf := (if_pos c9).symm.trans hf
        refine v_iconst dX12_atom_44 (by decide) (v := 0) ?_
        replace hf := Option.some.inj hf
        subst hf
        exact v_iret dX12_atom_45 rfl
  · replace hf := (if_neg c3).symm.trans hf
    refine v_aload_n dX12_atom_14 rfl ?_
    refine v_dup dX12_atom_15 rfl ?_
    obtain ⟨x15, ex15, hf⟩ := ob hf
    refine v_getI dX12_atom_16 fl_12_134 ex15 ?_
    refine v_iconst dX12_atom_19 (by decide) (v := 1) ?_
    refine v_iadd dX12_atom_20 ?_
    obtain ⟨h16, eh16, hf⟩ := ob hf
    refine v_put dX12_atom_21 fp_12_134 (fun z => by cases z) (fun _ => rfl) (fun _ => rfl) eh16 ?_
    refine v_aload_n dX12_atom_24 rfl ?_
    obtain ⟨x17, ex17, hf⟩ := ob hf
    refine v_getR dX12_atom_25 fl_12_20 ex17 ?_
    refine v_iload_n dX12_atom_28 rfl ?_
    obtain ⟨x18, ex18, hf⟩ := ob hf
    refine v_ialoadI dX12_atom_29 ex18 ?_
    replace hf := Option.some.inj hf
    subst hf
    exact v_iret dX12_atom_30 rfl
theorem cg_X12_atom {c_X12_atom : xa_H → Nat → Option (Int32 × xa_H)} {c_X12_sum : xa_H → Nat → Option (Int32 × xa_H)} {c_X12_term : xa_H → Nat → Option (Int32 × xa_H)} {h : xa_H} {l0 : Nat} {r : (Int32 × xa_H)} (hf : g_X12_atom c_X12_atom c_X12_sum c_X12_term h l0 = some r) : ck [12] h l0 = some () := by
  obtain ⟨u, e, -⟩ := ob hf
  exact e
def f_X12_sum_b84 (c_X12_atom : xa_H → Nat → Option (Int32 × xa_H)) (c_X12_sum : xa_H → Nat → Option (Int32 × xa_H)) (c_X12_term : xa_H → Nat → Option (Int32 × xa_H)) (h : xa_H) (l1 : Int32) : Option (Int32 × xa_H) :=
  some (l1, h)
set_option maxRecDepth 20000 in
theorem e_X12_sum_b84 {G : xa_G} {d d1 : Nat} {c_X12_atom : xa_H → Nat → Option (Int32 × xa_H)} (hc_X12_atom : ∀ {h : xa_H} {a0 : Nat} {r : (Int32 × xa_H)}, c_X12_atom h a0 = some r → xa_Ev G M_X12_atom d1 [.ref a0] h (some (.int r.1)) r.2) (hck_X12_atom : ∀ {h : xa_H} {a0 : Nat} {r : (Int32 × xa_H)}, c_X12_atom h a0 = some r → ck [12] h a0 = some ()) {c_X12_sum : xa_H → Nat → Option (Int32 × xa_H)} (hc_X12_sum : ∀ {h : xa_H} {a0 : Nat} {r : (Int32 × xa_H)}, c_X12_sum h a0 = some r → xa_Ev G M_X12_sum d1 [.ref a0] h (some (.int r.1)) r.2) (hck_X12_sum : ∀ {h : xa_H} {a0 : Nat} {r : (Int32 × xa_H)}, c_X12_sum h a0 = some r → ck [12] h a0 = some ()) {c_X12_term : xa_H → Nat → Option (Int32 × xa_H)} (hc_X12_term : ∀ {h : xa_H} {a0 : Nat} {r : (Int32 × xa_H)}, c_X12_term h a0 = some r → xa_Ev G M_X12_term d1 [.ref a0] h (some (.int r.1)) r.2) (hck_X12_term : ∀ {h : xa_H} {a0 : Nat} {r : (Int32 × xa_H)}, c_X12_term h a0 = some r → ck [12] h a0 = some ()) (hdx : 5 ≤ d) (hd1 : d1 + 1 ≤ d) : ∀ (h : xa_H) (l1 : Int32) (r : (Int32 × xa_H)), f_X12_sum_b84 c_X12_atom c_X12_sum c_X12_term h l1 = some r → xa_V G M_X12_sum d 84 [none, some (.int l1), none, none, none] [] h (some (.int r.1)) r.2 := by
  intro h l1 r hf
  unfold f_X12_sum_b84 at hf
  refine v_iload_n dX12_sum_84 rfl ?_
  replace hf := Option.some.inj hf
  subst hf
  exact v_iret dX12_sum_85 rfl
def f_X12_sum_b77 (c_X12_atom : xa_H → Nat → Option (Int32 × xa_H)) (c_X12_sum : xa_H → Nat → Option (Int32 × xa_H)) (c_X12_term : xa_H → Nat → Option (Int32 × xa_H)) (k5 : xa_H → Nat → Int32 → Option (Int32 × xa_H)) (h : xa_H) (l0 : Nat) (s0 : Int64) : Option (Int32 × xa_H) :=
  (f_X12_within h s0).bind fun q1 =>
  k5 h l0 q1
set_option maxRecDepth 20000 in
theorem e_X12_sum_b77 {G : xa_G} {d d1 : Nat} {c_X12_atom : xa_H → Nat → Option (Int32 × xa_H)} (hc_X12_atom : ∀ {h : xa_H} {a0 : Nat} {r : (Int32 × xa_H)}, c_X12_atom h a0 = some r → xa_Ev G M_X12_atom d1 [.ref a0] h (some (.int r.1)) r.2) (hck_X12_atom : ∀ {h : xa_H} {a0 : Nat} {r : (Int32 × xa_H)}, c_X12_atom h a0 = some r → ck [12] h a0 = some ()) {c_X12_sum : xa_H → Nat → Option (Int32 × xa_H)} (hc_X12_sum : ∀ {h : xa_H} {a0 : Nat} {r : (Int32 × xa_H)}, c_X12_sum h a0 = some r → xa_Ev G M_X12_sum d1 [.ref a0] h (some (.int r.1)) r.2) (hck_X12_sum : ∀ {h : xa_H} {a0 : Nat} {r : (Int32 × xa_H)}, c_X12_sum h a0 = some r → ck [12] h a0 = some ()) {c_X12_term : xa_H → Nat → Option (Int32 × xa_H)} (hc_X12_term : ∀ {h : xa_H} {a0 : Nat} {r : (Int32 × xa_H)}, c_X12_term h a0 = some r → xa_Ev G M_X12_term d1 [.ref a0] h (some (.int r.1)) r.2) (hck_X12_term : ∀ {h : xa_H} {a0 : Nat} {r : (Int32 × xa_H)}, c_X12_term h a0 = some r → ck [12] h a0 = some ()) (hdx : 5 ≤ d) (hd1 : d1 + 1 ≤ d) {k5 : xa_H → Nat → Int32 → Option (Int32 × xa_H)} (hk5 : ∀ (h : xa_H) (l0 : Nat) (l1 : Int32) (r : (Int32 × xa_H)), k5 h l0 l1 = some r → xa_V G M_X12_sum d 5 [some (.ref l0), some (.int l1), none, none, none] [] h (some (.int r.1)) r.2) : ∀ (h : xa_H) (l0 : Nat) (s0 : Int64) (r : (Int32 × xa_H)), f_X12_sum_b77 c_X12_atom c_X12_sum c_X12_term k5 h l0 s0 = some r → xa_V G M_X12_sum d 77 [some (.ref l0), none, none, none, none] [.long s0] h (some (.int r.1)) r.2 := by
  intro h l0 s0 r hf
  unfold f_X12_sum_b77 at hf
  obtain ⟨q1, eq1, hf⟩ := ob hf
  refine v_callS dX12_sum_77 ⟨cb_X12_within, ml_12_189, sm_X12_within⟩ (ev_X12_within eq1) (Nat.le_trans (by decide) hdx) (As := [.long s0]) rfl (st := []) rfl (Nat.le_of_ble_eq_true rfl) rfl ?_
  refine v_istore_n (i := 1) rfl dX12_sum_80 (Nat.le_of_ble_eq_true rfl) (loc' := [some (.ref l0), some (.int q1), none, none, none]) rfl ?_
  refine v_goto dX12_sum_81 (tgt := 5) (by decide) ?_
  exact hk5 h l0 q1 r hf
def f_X12_sum_b45 (c_X12_atom : xa_H → Nat → Option (Int32 × xa_H)) (c_X12_sum : xa_H → Nat → Option (Int32 × xa_H)) (c_X12_term : xa_H → Nat → Option (Int32 × xa_H)) (k5 : xa_H → Nat → Int32 → Option (Int32 × xa_H)) (h : xa_H) (l0 : Nat) (l1 : Int32) (s0 : Int32) : Option (Int32 × xa_H) :=
  (gI [12] 10 h l0).bind fun x1 =>
  (xp [12] 10 h l0 (.int (x1 + (1 : Int32)))).bind fun h2 =>
  (c_X12_term h2 l0).bind fun q3 =>
  if s0 = 0 then
    f_X12_sum_b77 c_X12_atom c_X12_sum c_X12_term k5 q3.2 l0 (l1.toInt64 - (q3.1).toInt64)
  else
    f_X12_sum_b77 c_X12_atom c_X12_sum c_X12_term k5 q3.2 l0 (l1.toInt64 + (q3.1).toInt64)
set_option maxRecDepth 20000 in
theorem e_X12_sum_b45 {G : xa_G} {d d1 : Nat} {c_X12_atom : xa_H → Nat → Option (Int32 × xa_H)} (hc_X12_atom : ∀ {h : xa_H} {a0 : Nat} {r : (Int32 × xa_H)}, c_X12_atom h a0 = some r → xa_Ev G M_X12_atom d1 [.ref a0] h (some (.int r.1)) r.2) (hck_X12_atom : ∀ {h : xa_H} {a0 : Nat} {r : (Int32 × xa_H)}, c_X12_atom h a0 = some r → ck [12] h a0 = some ()) {c_X12_sum : xa_H → Nat → Option (Int32 × xa_H)} (hc_X12_sum : ∀ {h : xa_H} {a0 : Nat} {r : (Int32 × xa_H)}, c_X12_sum h a0 = some r → xa_Ev G M_X12_sum d1 [.ref a0] h (some (.int r.1)) r.2) (hck_X12_sum : ∀ {h : xa_H} {a0 : Nat} {r : (Int32 × xa_H)}, c_X12_sum h a0 = some r → ck [12] h a0 = some ()) {c_X12_term : xa_H → Nat → Option (Int32 × xa_H)} (hc_X12_term : ∀ {h : xa_H} {a0 : Nat} {r : (Int32 × xa_H)}, c_X12_term h a0 = some r → xa_Ev G M_X12_term d1 [.ref a0] h (some (.int r.1)) r.2) (hck_X12_term : ∀ {h : xa_H} {a0 : Nat} {r : (Int32 × xa_H)}, c_X12_term h a0 = some r → ck [12] h a0 = some ()) (hdx : 5 ≤ d) (hd1 : d1 + 1 ≤ d) {k5 : xa_H → Nat → Int32 → Option (Int32 × xa_H)} (hk5 : ∀ (h : xa_H) (l0 : Nat) (l1 : Int32) (r : (Int32 × xa_H)), k5 h l0 l1 = some r → xa_V G M_X12_sum d 5 [some (.ref l0), some (.int l1), none, none, none] [] h (some (.int r.1)) r.2) : ∀ (h : xa_H) (l0 : Nat) (l1 : Int32) (s0 : Int32) (r : (Int32 × xa_H)), f_X12_sum_b45 c_X12_atom c_X12_sum c_X12_term k5 h l0 l1 s0 = some r → xa_V G M_X12_sum d 45 [some (.ref l0), some (.int l1), none, none, none] [.int s0] h (some (.int r.1)) r.2 := by
  intro h l0 l1 s0 r hf
  unfold f_X12_sum_b45 at hf
  refine v_istore_n (i := 2) rfl dX12_sum_45 (Nat.le_of_ble_eq_true rfl) (loc' := [some (.ref l0), some (.int l1), some (.int s0), none, none]) rfl ?_
  refine v_aload_n dX12_sum_46 rfl ?_
  refine v_dup dX12_sum_47 rfl ?_
  obtain ⟨x1, ex1, hf⟩ := ob hf
  refine v_getI dX12_sum_48 fl_12_134 ex1 ?_
  refine v_iconst dX12_sum_51 (by decide) (v := 1) ?_
  refine v_iadd dX12_sum_52 ?_
  obtain ⟨h2, eh2, hf⟩ := ob hf
  refine v_put dX12_sum_53 fp_12_134 (fun z => by cases z) (fun _ => rfl) (fun _ => rfl) eh2 ?_
  refine v_aload_n dX12_sum_56 rfl ?_
  obtain ⟨q3, eq3, hf⟩ := ob hf
  refine v_callV dX12_sum_57 ⟨cb_X12_term, ml_12_193, im_X12_term⟩ se_12_X12_term (hck_X12_term eq3) (hc_X12_term eq3) hd1 (As := []) rfl (st := []) rfl (Nat.le_of_ble_eq_true rfl) rfl ?_
  refine v_i2l dX12_sum_60 ?_
  refine v_lstore_n (i := 3) rfl dX12_sum_61 (Nat.le_of_ble_eq_true rfl) (loc' := [some (.ref l0), some (.int l1), some (.int s0), some (.long (q3.1).toInt64), none]) rfl ?_
  refine v_iload_n dX12_sum_62 rfl ?_
  refine v_if_eq dX12_sum_63 (tgt := 73) (by decide) (fun c4 => ?_) (fun c4 => ?_)
  · replace hf := (if_pos c4).symm.trans hf
    refine v_iload_n dX12_sum_73 rfl ?_
    refine v_i2l dX12_sum_74 ?_
    refine v_lload_n dX12_sum_75 rfl ?_
    refine v_lsub dX12_sum_76 ?_
    exact xa_weak (loc := [some (.ref l0), none, none, none, none]) ⟨rfl, trivial⟩ (e_X12_sum_b77 hc_X12_atom hck_X12_atom hc_X12_sum hck_X12_sum hc_X12_term hck_X12_term hdx hd1 hk5 q3.2 l0 (l1.toInt64 - (q3.1).toInt64) r hf)
  · replace hf := (if_neg c4).symm.trans hf
    refine v_iload_n dX12_sum_66 rfl ?_
    refine v_i2l dX12_sum_67 ?_
    refine v_lload_n dX12_sum_68 rfl ?_
    refine v_ladd dX12_sum_69 ?_
    refine v_goto dX12_sum_70 (tgt := 77) (by decide) ?_
    exact xa_weak (loc := [some (.ref l0), none, none, none, none]) ⟨rfl, trivial⟩ (e_X12_sum_b77 hc_X12_atom hck_X12_atom hc_X12_sum hck_X12_sum hc_X12_term hck_X12_term hdx hd1 hk5 q3.2 l0 (l1.toInt64 + (q3.1).toInt64) r hf)
def f_X12_sum_b31 (c_X12_atom : xa_H → Nat → Option (Int32 × xa_H)) (c_X12_sum : xa_H → Nat → Option (Int32 × xa_H)) (c_X12_term : xa_H → Nat → Option (Int32 × xa_H)) (k5 : xa_H → Nat → Int32 → Option (Int32 × xa_H)) (h : xa_H) (l0 : Nat) (l1 : Int32) : Option (Int32 × xa_H) :=
  (f_X12_look h l0).bind fun q1 =>
  if q1.1 = (43 : Int32) then
    f_X12_sum_b45 c_X12_atom c_X12_sum c_X12_term k5 q1.2 l0 l1 (1 : Int32)
  else
    f_X12_sum_b45 c_X12_atom c_X12_sum c_X12_term k5 q1.2 l0 l1 (0 : Int32)
set_option maxRecDepth 20000 in
theorem e_X12_sum_b31 {G : xa_G} {d d1 : Nat} {c_X12_atom : xa_H → Nat → Option (Int32 × xa_H)} (hc_X12_atom : ∀ {h : xa_H} {a0 : Nat} {r : (Int32 × xa_H)}, c_X12_atom h a0 = some r → xa_Ev G M_X12_atom d1 [.ref a0] h (some (.int r.1)) r.2) (hck_X12_atom : ∀ {h : xa_H} {a0 : Nat} {r : (Int32 × xa_H)}, c_X12_atom h a0 = some r → ck [12] h a0 = some ()) {c_X12_sum : xa_H → Nat → Option (Int32 × xa_H)} (hc_X12_sum : ∀ {h : xa_H} {a0 : Nat} {r : (Int32 × xa_H)}, c_X12_sum h a0 = some r → xa_Ev G M_X12_sum d1 [.ref a0] h (some (.int r.1)) r.2) (hck_X12_sum : ∀ {h : xa_H} {a0 : Nat} {r : (Int32 × xa_H)}, c_X12_sum h a0 = some r → ck [12] h a0 = some ()) {c_X12_term : xa_H → Nat → Option (Int32 × xa_H)} (hc_X12_term : ∀ {h : xa_H} {a0 : Nat} {r : (Int32 × xa_H)}, c_X12_term h a0 = some r → xa_Ev G M_X12_term d1 [.ref a0] h (some (.int r.1)) r.2) (hck_X12_term : ∀ {h : xa_H} {a0 : Nat} {r : (Int32 × xa_H)}, c_X12_term h a0 = some r → ck [12] h a0 = some ()) (hdx : 5 ≤ d) (hd1 : d1 + 1 ≤ d) {k5 : xa_H → Nat → Int32 → Option (Int32 × xa_H)} (hk5 : ∀ (h : xa_H) (l0 : Nat) (l1 : Int32) (r : (Int32 × xa_H)), k5 h l0 l1 = some r → xa_V G M_X12_sum d 5 [some (.ref l0), some (.int l1), none, none, none] [] h (some (.int r.1)) r.2) : ∀ (h : xa_H) (l0 : Nat) (l1 : Int32) (r : (Int32 × xa_H)), f_X12_sum_b31 c_X12_atom c_X12_sum c_X12_term k5 h l0 l1 = some r → xa_V G M_X12_sum d 31 [some (.ref l0), some (.int l1), none, none, none] [] h (some (.int r.1)) r.2 := by
  intro h l0 l1 r hf
  unfold f_X12_sum_b31 at hf
  refine v_aload_n dX12_sum_31 rfl ?_
  obtain ⟨q1, eq1, hf⟩ := ob hf
  refine v_callV dX12_sum_32 ⟨cb_X12_look, ml_12_153, im_X12_look⟩ se_12_X12_look (ckf_X12_look eq1) (ev_X12_look eq1) (Nat.le_trans (by decide) hdx) (As := []) rfl (st := []) rfl (Nat.le_of_ble_eq_true rfl) rfl ?_
  refine v_bipush dX12_sum_35 (by decide) (v := 43) ?_
  refine v_icmp_ne dX12_sum_37 (tgt := 44) (by decide) (fun c2 => ?_) (fun c2 => ?_)
  · replace hf := (if_neg c2).symm.trans hf
    refine v_iconst dX12_sum_44 (by decide) (v := 0) ?_
    exact e_X12_sum_b45 hc_X12_atom hck_X12_atom hc_X12_sum hck_X12_sum hc_X12_term hck_X12_term hdx hd1 hk5 q1.2 l0 l1 (0 : Int32) r hf
  · replace hf := (if_pos c2).symm.trans hf
    refine v_iconst dX12_sum_40 (by decide) (v := 1) ?_
    refine v_goto dX12_sum_41 (tgt := 45) (by decide) ?_
    exact e_X12_sum_b45 hc_X12_atom hck_X12_atom hc_X12_sum hck_X12_sum hc_X12_term hck_X12_term hdx hd1 hk5 q1.2 l0 l1 (1 : Int32) r hf
def f_X12_sum_b5 (c_X12_atom : xa_H → Nat → Option (Int32 × xa_H)) (c_X12_sum : xa_H → Nat → Option (Int32 × xa_H)) (c_X12_term : xa_H → Nat → Option (Int32 × xa_H)) : Nat → xa_H → Nat → Int32 → Option (Int32 × xa_H)
  | 0, _, _, _ => none
  | n + 1, h, l0, l1 =>
    (gI [12] 11 h l0).bind fun x1 =>
    if x1 = (-1 : Int32) then
      (f_X12_look h l0).bind fun q3 =>
      if q3.1 = (43 : Int32) then
        f_X12_sum_b31 c_X12_atom c_X12_sum c_X12_term (fun h l0 l1 => f_X12_sum_b5 c_X12_atom c_X12_sum c_X12_term n h l0 l1) q3.2 l0 l1
      else
        (f_X12_look q3.2 l0).bind fun q5 =>
        if q5.1 = (45 : Int32) then
          f_X12_sum_b31 c_X12_atom c_X12_sum c_X12_term (fun h l0 l1 => f_X12_sum_b5 c_X12_atom c_X12_sum c_X12_term n h l0 l1) q5.2 l0 l1
        else
          f_X12_sum_b84 c_X12_atom c_X12_sum c_X12_term q5.2 l1
    else
      f_X12_sum_b84 c_X12_atom c_X12_sum c_X12_term h l1
set_option maxRecDepth 20000 in
theorem e_X12_sum_b5 {G : xa_G} {d d1 : Nat} {c_X12_atom : xa_H → Nat → Option (Int32 × xa_H)} (hc_X12_atom : ∀ {h : xa_H} {a0 : Nat} {r : (Int32 × xa_H)}, c_X12_atom h a0 = some r → xa_Ev G M_X12_atom d1 [.ref a0] h (some (.int r.1)) r.2) (hck_X12_atom : ∀ {h : xa_H} {a0 : Nat} {r : (Int32 × xa_H)}, c_X12_atom h a0 = some r → ck [12] h a0 = some ()) {c_X12_sum : xa_H → Nat → Option (Int32 × xa_H)} (hc_X12_sum : ∀ {h : xa_H} {a0 : Nat} {r : (Int32 × xa_H)}, c_X12_sum h a0 = some r → xa_Ev G M_X12_sum d1 [.ref a0] h (some (.int r.1)) r.2) (hck_X12_sum : ∀ {h : xa_H} {a0 : Nat} {r : (Int32 × xa_H)}, c_X12_sum h a0 = some r → ck [12] h a0 = some ()) {c_X12_term : xa_H → Nat → Option (Int32 × xa_H)} (hc_X12_term : ∀ {h : xa_H} {a0 : Nat} {r : (Int32 × xa_H)}, c_X12_term h a0 = some r → xa_Ev G M_X12_term d1 [.ref a0] h (some (.int r.1)) r.2) (hck_X12_term : ∀ {h : xa_H} {a0 : Nat} {r : (Int32 × xa_H)}, c_X12_term h a0 = some r → ck [12] h a0 = some ()) (hdx : 5 ≤ d) (hd1 : d1 + 1 ≤ d) : ∀ (n : Nat) (h : xa_H) (l0 : Nat) (l1 : Int32) (r : (Int32 × xa_H)), f_X12_sum_b5 c_X12_atom c_X12_sum c_X12_term n h l0 l1 = some r → xa_V G M_X12_sum d 5 [some (.ref l0), some (.int l1), none, none, none] [] h (some (.int r.1)) r.2 := by
  intro n
  induction n with
  | zero =>
    intro h l0 l1 r hf
    cases (show (none : Option (Int32 × xa_H)) = some r from hf)
  | succ n ih =>
    intro h l0 l1 r hf
    rw [f_X12_sum_b5] at hf
    refine v_aload_n dX12_sum_5 rfl ?_
    obtain ⟨x1, ex1, hf⟩ := ob hf
    refine v_getI dX12_sum_6 fl_12_143 ex1 ?_
    refine v_iconst dX12_sum_9 (by decide) (v := -1) ?_
    refine v_icmp_ne dX12_sum_10 (tgt := 84) (by decide) (fun c2 => ?_) (fun c2 => ?_)
    · replace hf := (if_neg c2).symm.trans hf
      exact xa_weak (loc := [none, some (.int l1), none, none, none]) ⟨rfl, trivial⟩ (e_X12_sum_b84 hc_X12_atom hck_X12_atom hc_X12_sum hck_X12_sum hc_X12_term hck_X12_term hdx hd1 h l1 r hf)
    · replace hf := (if_pos c2).symm.trans hf
      refine v_aload_n dX12_sum_13 rfl ?_
      obtain ⟨q3, eq3, hf⟩ := ob hf
      refine v_callV dX12_sum_14 ⟨cb_X12_look, ml_12_153, im_X12_look⟩ se_12_X12_look (ckf_X12_look eq3) (ev_X12_look eq3) (Nat.le_trans (by decide) hdx) (As := []) rfl (st := []) rfl (Nat.le_of_ble_eq_true rfl) rfl ?_
      refine v_bipush dX12_sum_17 (by decide) (v := 43) ?_
      refine v_icmp_eq dX12_sum_19 (tgt := 31) (by decide) (fun c4 => ?_) (fun c4 => ?_)
      · replace hf := (if_pos c4).symm.trans hf
        exact e_X12_sum_b31 hc_X12_atom hck_X12_atom hc_X12_sum hck_X12_sum hc_X12_term hck_X12_term hdx hd1 ih q3.2 l0 l1 r hf
      · replace hf := (if_neg c4).symm.trans hf
        refine v_aload_n dX12_sum_22 rfl ?_
        obtain ⟨q5, eq5, hf⟩ := ob hf
        refine v_callV dX12_sum_23 ⟨cb_X12_look, ml_12_153, im_X12_look⟩ se_12_X12_look (ckf_X12_look eq5) (ev_X12_look eq5) (Nat.le_trans (by decide) hdx) (As := []) rfl (st := []) rfl (Nat.le_of_ble_eq_true rfl) rfl ?_
        refine v_bipush dX12_sum_26 (by decide) (v := 45) ?_
        refine v_icmp_ne dX12_sum_28 (tgt := 84) (by decide) (fun c6 => ?_) (fun c6 => ?_)
        · replace hf := (if_neg c6).symm.trans hf
          exact xa_weak (loc := [none, some (.int l1), none, none, none]) ⟨rfl, trivial⟩ (e_X12_sum_b84 hc_X12_atom hck_X12_atom hc_X12_sum hck_X12_sum hc_X12_term hck_X12_term hdx hd1 q5.2 l1 r hf)
        · replace hf := (if_pos c6).symm.trans hf
          exact e_X12_sum_b31 hc_X12_atom hck_X12_atom hc_X12_sum hck_X12_sum hc_X12_term hck_X12_term hdx hd1 ih q5.2 l0 l1 r hf
def g_X12_sum (c_X12_atom : xa_H → Nat → Option (Int32 × xa_H)) (c_X12_sum : xa_H → Nat → Option (Int32 × xa_H)) (c_X12_term : xa_H → Nat → Option (Int32 × xa_H)) (h : xa_H) (l0 : Nat) : Option (Int32 × xa_H) :=
  (ck [12] h l0).bind fun _ =>
  (c_X12_term h l0).bind fun q1 =>
  f_X12_sum_b5 c_X12_atom c_X12_sum c_X12_term 1048576 q1.2 l0 q1.1
set_option maxRecDepth 20000 in
theorem eg_X12_sum {G : xa_G} {d d1 : Nat} {c_X12_atom : xa_H → Nat → Option (Int32 × xa_H)} (hc_X12_atom : ∀ {h : xa_H} {a0 : Nat} {r : (Int32 × xa_H)}, c_X12_atom h a0 = some r → xa_Ev G M_X12_atom d1 [.ref a0] h (some (.int r.1)) r.2) (hck_X12_atom : ∀ {h : xa_H} {a0 : Nat} {r : (Int32 × xa_H)}, c_X12_atom h a0 = some r → ck [12] h a0 = some ()) {c_X12_sum : xa_H → Nat → Option (Int32 × xa_H)} (hc_X12_sum : ∀ {h : xa_H} {a0 : Nat} {r : (Int32 × xa_H)}, c_X12_sum h a0 = some r → xa_Ev G M_X12_sum d1 [.ref a0] h (some (.int r.1)) r.2) (hck_X12_sum : ∀ {h : xa_H} {a0 : Nat} {r : (Int32 × xa_H)}, c_X12_sum h a0 = some r → ck [12] h a0 = some ()) {c_X12_term : xa_H → Nat → Option (Int32 × xa_H)} (hc_X12_term : ∀ {h : xa_H} {a0 : Nat} {r : (Int32 × xa_H)}, c_X12_term h a0 = some r → xa_Ev G M_X12_term d1 [.ref a0] h (some (.int r.1)) r.2) (hck_X12_term : ∀ {h : xa_H} {a0 : Nat} {r : (Int32 × xa_H)}, c_X12_term h a0 = some r → ck [12] h a0 = some ()) (hdx : 5 ≤ d) (hd1 : d1 + 1 ≤ d) {h : xa_H} {l0 : Nat} {r : (Int32 × xa_H)} (hf : g_X12_sum c_X12_atom c_X12_sum c_X12_term h l0 = some r) : xa_Ev G M_X12_sum d [.ref l0] h (some (.int r.1)) r.2 := by
  refine xa_entry (by decide +kernel) (loc := [some (.ref l0), none, none, none, none]) rfl (Nat.le_of_ble_eq_true rfl) ?_
  unfold g_X12_sum at hf
  obtain ⟨u0, eu0, hf⟩ := ob hf
  refine v_aload_n dX12_sum_0 rfl ?_
  obtain ⟨q1, eq1, hf⟩ := ob hf
  refine v_callV dX12_sum_1 ⟨cb_X12_term, ml_12_193, im_X12_term⟩ se_12_X12_term (hck_X12_term eq1) (hc_X12_term eq1) hd1 (As := []) rfl (st := []) rfl (Nat.le_of_ble_eq_true rfl) rfl ?_
  refine v_istore_n (i := 1) rfl dX12_sum_4 (Nat.le_of_ble_eq_true rfl) (loc' := [some (.ref l0), some (.int q1.1), none, none, none]) rfl ?_
  exact e_X12_sum_b5 hc_X12_atom hck_X12_atom hc_X12_sum hck_X12_sum hc_X12_term hck_X12_term hdx hd1 1048576 q1.2 l0 q1.1 r hf
theorem cg_X12_sum {c_X12_atom : xa_H → Nat → Option (Int32 × xa_H)} {c_X12_sum : xa_H → Nat → Option (Int32 × xa_H)} {c_X12_term : xa_H → Nat → Option (Int32 × xa_H)} {h : xa_H} {l0 : Nat} {r : (Int32 × xa_H)} (hf : g_X12_sum c_X12_atom c_X12_sum c_X12_term h l0 = some r) : ck [12] h l0 = some () := by
  obtain ⟨u, e, -⟩ := ob hf
  exact e
def f_X12_term_b94 (c_X12_atom : xa_H → Nat → Option (Int32 × xa_H)) (c_X12_sum : xa_H → Nat → Option (Int32 × xa_H)) (c_X12_term : xa_H → Nat → Option (Int32 × xa_H)) (h : xa_H) (l1 : Int32) : Option (Int32 × xa_H) :=
  some (l1, h)
set_option maxRecDepth 20000 in
theorem e_X12_term_b94 {G : xa_G} {d d1 : Nat} {c_X12_atom : xa_H → Nat → Option (Int32 × xa_H)} (hc_X12_atom : ∀ {h : xa_H} {a0 : Nat} {r : (Int32 × xa_H)}, c_X12_atom h a0 = some r → xa_Ev G M_X12_atom d1 [.ref a0] h (some (.int r.1)) r.2) (hck_X12_atom : ∀ {h : xa_H} {a0 : Nat} {r : (Int32 × xa_H)}, c_X12_atom h a0 = some r → ck [12] h a0 = some ()) {c_X12_sum : xa_H → Nat → Option (Int32 × xa_H)} (hc_X12_sum : ∀ {h : xa_H} {a0 : Nat} {r : (Int32 × xa_H)}, c_X12_sum h a0 = some r → xa_Ev G M_X12_sum d1 [.ref a0] h (some (.int r.1)) r.2) (hck_X12_sum : ∀ {h : xa_H} {a0 : Nat} {r : (Int32 × xa_H)}, c_X12_sum h a0 = some r → ck [12] h a0 = some ()) {c_X12_term : xa_H → Nat → Option (Int32 × xa_H)} (hc_X12_term : ∀ {h : xa_H} {a0 : Nat} {r : (Int32 × xa_H)}, c_X12_term h a0 = some r → xa_Ev G M_X12_term d1 [.ref a0] h (some (.int r.1)) r.2) (hck_X12_term : ∀ {h : xa_H} {a0 : Nat} {r : (Int32 × xa_H)}, c_X12_term h a0 = some r → ck [12] h a0 = some ()) (hdx : 5 ≤ d) (hd1 : d1 + 1 ≤ d) : ∀ (h : xa_H) (l1 : Int32) (r : (Int32 × xa_H)), f_X12_term_b94 c_X12_atom c_X12_sum c_X12_term h l1 = some r → xa_V G M_X12_term d 94 [none, some (.int l1), none, none, none] [] h (some (.int r.1)) r.2 := by
  intro h l1 r hf
  unfold f_X12_term_b94 at hf
  refine v_iload_n dX12_term_94 rfl ?_
  replace hf := Option.some.inj hf
  subst hf
  exact v_iret dX12_term_95 rfl
def f_X12_term_b87 (c_X12_atom : xa_H → Nat → Option (Int32 × xa_H)) (c_X12_sum : xa_H → Nat → Option (Int32 × xa_H)) (c_X12_term : xa_H → Nat → Option (Int32 × xa_H)) (k5 : xa_H → Nat → Int32 → Option (Int32 × xa_H)) (h : xa_H) (l0 : Nat) (s0 : Int64) : Option (Int32 × xa_H) :=
  (f_X12_within h s0).bind fun q1 =>
  k5 h l0 q1
set_option maxRecDepth 20000 in
theorem e_X12_term_b87 {G : xa_G} {d d1 : Nat} {c_X12_atom : xa_H → Nat → Option (Int32 × xa_H)} (hc_X12_atom : ∀ {h : xa_H} {a0 : Nat} {r : (Int32 × xa_H)}, c_X12_atom h a0 = some r → xa_Ev G M_X12_atom d1 [.ref a0] h (some (.int r.1)) r.2) (hck_X12_atom : ∀ {h : xa_H} {a0 : Nat} {r : (Int32 × xa_H)}, c_X12_atom h a0 = some r → ck [12] h a0 = some ()) {c_X12_sum : xa_H → Nat → Option (Int32 × xa_H)} (hc_X12_sum : ∀ {h : xa_H} {a0 : Nat} {r : (Int32 × xa_H)}, c_X12_sum h a0 = some r → xa_Ev G M_X12_sum d1 [.ref a0] h (some (.int r.1)) r.2) (hck_X12_sum : ∀ {h : xa_H} {a0 : Nat} {r : (Int32 × xa_H)}, c_X12_sum h a0 = some r → ck [12] h a0 = some ()) {c_X12_term : xa_H → Nat → Option (Int32 × xa_H)} (hc_X12_term : ∀ {h : xa_H} {a0 : Nat} {r : (Int32 × xa_H)}, c_X12_term h a0 = some r → xa_Ev G M_X12_term d1 [.ref a0] h (some (.int r.1)) r.2) (hck_X12_term : ∀ {h : xa_H} {a0 : Nat} {r : (Int32 × xa_H)}, c_X12_term h a0 = some r → ck [12] h a0 = some ()) (hdx : 5 ≤ d) (hd1 : d1 + 1 ≤ d) {k5 : xa_H → Nat → Int32 → Option (Int32 × xa_H)} (hk5 : ∀ (h : xa_H) (l0 : Nat) (l1 : Int32) (r : (Int32 × xa_H)), k5 h l0 l1 = some r → xa_V G M_X12_term d 5 [some (.ref l0), some (.int l1), none, none, none] [] h (some (.int r.1)) r.2) : ∀ (h : xa_H) (l0 : Nat) (s0 : Int64) (r : (Int32 × xa_H)), f_X12_term_b87 c_X12_atom c_X12_sum c_X12_term k5 h l0 s0 = some r → xa_V G M_X12_term d 87 [some (.ref l0), none, none, none, none] [.long s0] h (some (.int r.1)) r.2 := by
  intro h l0 s0 r hf
  unfold f_X12_term_b87 at hf
  obtain ⟨q1, eq1, hf⟩ := ob hf
  refine v_callS dX12_term_87 ⟨cb_X12_within, ml_12_189, sm_X12_within⟩ (ev_X12_within eq1) (Nat.le_trans (by decide) hdx) (As := [.long s0]) rfl (st := []) rfl (Nat.le_of_ble_eq_true rfl) rfl ?_
  refine v_istore_n (i := 1) rfl dX12_term_90 (Nat.le_of_ble_eq_true rfl) (loc' := [some (.ref l0), some (.int q1), none, none, none]) rfl ?_
  refine v_goto dX12_term_91 (tgt := 5) (by decide) ?_
  exact hk5 h l0 q1 r hf
def f_X12_term_b45 (c_X12_atom : xa_H → Nat → Option (Int32 × xa_H)) (c_X12_sum : xa_H → Nat → Option (Int32 × xa_H)) (c_X12_term : xa_H → Nat → Option (Int32 × xa_H)) (k5 : xa_H → Nat → Int32 → Option (Int32 × xa_H)) (h : xa_H) (l0 : Nat) (l1 : Int32) (s0 : Int32) : Option (Int32 × xa_H) :=
  (gI [12] 10 h l0).bind fun x1 =>
  (xp [12] 10 h l0 (.int (x1 + (1 : Int32)))).bind fun h2 =>
  (c_X12_atom h2 l0).bind fun q3 =>
  if s0 = 0 then
    if (lg_cmp (q3.1).toInt64 (0 : Int64)) = 0 then
      f_X12_term_b87 c_X12_atom c_X12_sum c_X12_term k5 q3.2 l0 (0 : Int64)
    else
      if (q3.1).toInt64 = 0 then none else
      f_X12_term_b87 c_X12_atom c_X12_sum c_X12_term k5 q3.2 l0 (l1.toInt64 / (q3.1).toInt64)
  else
    f_X12_term_b87 c_X12_atom c_X12_sum c_X12_term k5 q3.2 l0 (l1.toInt64 * (q3.1).toInt64)
set_option maxRecDepth 20000 in
theorem e_X12_term_b45 {G : xa_G} {d d1 : Nat} {c_X12_atom : xa_H → Nat → Option (Int32 × xa_H)} (hc_X12_atom : ∀ {h : xa_H} {a0 : Nat} {r : (Int32 × xa_H)}, c_X12_atom h a0 = some r → xa_Ev G M_X12_atom d1 [.ref a0] h (some (.int r.1)) r.2) (hck_X12_atom : ∀ {h : xa_H} {a0 : Nat} {r : (Int32 × xa_H)}, c_X12_atom h a0 = some r → ck [12] h a0 = some ()) {c_X12_sum : xa_H → Nat → Option (Int32 × xa_H)} (hc_X12_sum : ∀ {h : xa_H} {a0 : Nat} {r : (Int32 × xa_H)}, c_X12_sum h a0 = some r → xa_Ev G M_X12_sum d1 [.ref a0] h (some (.int r.1)) r.2) (hck_X12_sum : ∀ {h : xa_H} {a0 : Nat} {r : (Int32 × xa_H)}, c_X12_sum h a0 = some r → ck [12] h a0 = some ()) {c_X12_term : xa_H → Nat → Option (Int32 × xa_H)} (hc_X12_term : ∀ {h : xa_H} {a0 : Nat} {r : (Int32 × xa_H)}, c_X12_term h a0 = some r → xa_Ev G M_X12_term d1 [.ref a0] h (some (.int r.1)) r.2) (hck_X12_term : ∀ {h : xa_H} {a0 : Nat} {r : (Int32 × xa_H)}, c_X12_term h a0 = some r → ck [12] h a0 = some ()) (hdx : 5 ≤ d) (hd1 : d1 + 1 ≤ d) {k5 : xa_H → Nat → Int32 → Option (Int32 × xa_H)} (hk5 : ∀ (h : xa_H) (l0 : Nat) (l1 : Int32) (r : (Int32 × xa_H)), k5 h l0 l1 = some r → xa_V G M_X12_term d 5 [some (.ref l0), some (.int l1), none, none, none] [] h (some (.int r.1)) r.2) : ∀ (h : xa_H) (l0 : Nat) (l1 : Int32) (s0 : Int32) (r : (Int32 × xa_H)), f_X12_term_b45 c_X12_atom c_X12_sum c_X12_term k5 h l0 l1 s0 = some r → xa_V G M_X12_term d 45 [some (.ref l0), some (.int l1), none, none, none] [.int s0] h (some (.int r.1)) r.2 := by
  intro h l0 l1 s0 r hf
  unfold f_X12_term_b45 at hf
  refine v_istore_n (i := 2) rfl dX12_term_45 (Nat.le_of_ble_eq_true rfl) (loc' := [some (.ref l0), some (.int l1), some (.int s0), none, none]) rfl ?_
  refine v_aload_n dX12_term_46 rfl ?_
  refine v_dup dX12_term_47 rfl ?_
  obtain ⟨x1, ex1, hf⟩ := ob hf
  refine v_getI dX12_term_48 fl_12_134 ex1 ?_
  refine v_iconst dX12_term_51 (by decide) (v := 1) ?_
  refine v_iadd dX12_term_52 ?_
  obtain ⟨h2, eh2, hf⟩ := ob hf
  refine v_put dX12_term_53 fp_12_134 (fun z => by cases z) (fun _ => rfl) (fun _ => rfl) eh2 ?_
  refine v_aload_n dX12_term_56 rfl ?_
  obtain ⟨q3, eq3, hf⟩ := ob hf
  refine v_callV dX12_term_57 ⟨cb_X12_atom, ml_12_186, im_X12_atom⟩ se_12_X12_atom (hck_X12_atom eq3) (hc_X12_atom eq3) hd1 (As := []) rfl (st := []) rfl (Nat.le_of_ble_eq_true rfl) rfl ?_
  refine v_i2l dX12_term_60 ?_
  refine v_lstore_n (i := 3) rfl dX12_term_61 (Nat.le_of_ble_eq_true rfl) (loc' := [some (.ref l0), some (.int l1), some (.int s0), some (.long (q3.1).toInt64), none]) rfl ?_
  refine v_iload_n dX12_term_62 rfl ?_
  refine v_if_eq dX12_term_63 (tgt := 73) (by decide) (fun c4 => ?_) (fun c4 => ?_)
  · replace hf := (if_pos c4).symm.trans hf
    refine v_lload_n dX12_term_73 rfl ?_
    refine v_lconst dX12_term_74 (by decide) (v := 0) ?_
    refine v_lcmp dX12_term_75 ?_
    refine v_if_ne dX12_term_76 (tgt := 83) (by decide) (fun c5 => ?_) (fun c5 => ?_)
    · replace hf := (if_neg c5).symm.trans hf
      refine v_iload_n dX12_term_83 rfl ?_
      refine v_i2l dX12_term_84 ?_
      refine v_lload_n dX12_term_85 rfl ?_
      by_cases z6 : (q3.1).toInt64 = 0
      · replace hf := (if_pos z6).symm.trans hf
        cases hf
      replace hf := (if_neg z6).symm.trans hf
      refine v_ldiv dX12_term_86 z6 ?_
      exact xa_weak (loc := [some (.ref l0), none, none, none, none]) ⟨rfl, trivial⟩ (e_X12_term_b87 hc_X12_atom hck_X12_atom hc_X12_sum hck_X12_sum hc_X12_term hck_X12_term hdx hd1 hk5 q3.2 l0 (l1.toInt64 / (q3.1).toInt64) r hf)
    · replace hf := (if_pos c5).symm.trans hf
      refine v_lconst dX12_term_79 (by decide) (v := 0) ?_
      refine v_goto dX12_term_80 (tgt := 87) (by decide) ?_
      exact xa_weak (loc := [some (.ref l0), none, none, none, none]) ⟨rfl, trivial⟩ (e_X12_term_b87 hc_X12_atom hck_X12_atom hc_X12_sum hck_X12_sum hc_X12_term hck_X12_term hdx hd1 hk5 q3.2 l0 (0 : Int64) r hf)
  · replace hf := (if_neg c4).symm.trans hf
    refine v_iload_n dX12_term_66 rfl ?_
    refine v_i2l dX12_term_67 ?_
    refine v_lload_n dX12_term_68 rfl ?_
    refine v_lmul dX12_term_69 ?_
    refine v_goto dX12_term_70 (tgt := 87) (by decide) ?_
    exact xa_weak (loc := [some (.ref l0), none, none, none, none]) ⟨rfl, trivial⟩ (e_X12_term_b87 hc_X12_atom hck_X12_atom hc_X12_sum hck_X12_sum hc_X12_term hck_X12_term hdx hd1 hk5 q3.2 l0 (l1.toInt64 * (q3.1).toInt64) r hf)
def f_X12_term_b31 (c_X12_atom : xa_H → Nat → Option (Int32 × xa_H)) (c_X12_sum : xa_H → Nat → Option (Int32 × xa_H)) (c_X12_term : xa_H → Nat → Option (Int32 × xa_H)) (k5 : xa_H → Nat → Int32 → Option (Int32 × xa_H)) (h : xa_H) (l0 : Nat) (l1 : Int32) : Option (Int32 × xa_H) :=
  (f_X12_look h l0).bind fun q1 =>
  if q1.1 = (42 : Int32) then
    f_X12_term_b45 c_X12_atom c_X12_sum c_X12_term k5 q1.2 l0 l1 (1 : Int32)
  else
    f_X12_term_b45 c_X12_atom c_X12_sum c_X12_term k5 q1.2 l0 l1 (0 : Int32)
set_option maxRecDepth 20000 in
theorem e_X12_term_b31 {G : xa_G} {d d1 : Nat} {c_X12_atom : xa_H → Nat → Option (Int32 × xa_H)} (hc_X12_atom : ∀ {h : xa_H} {a0 : Nat} {r : (Int32 × xa_H)}, c_X12_atom h a0 = some r → xa_Ev G M_X12_atom d1 [.ref a0] h (some (.int r.1)) r.2) (hck_X12_atom : ∀ {h : xa_H} {a0 : Nat} {r : (Int32 × xa_H)}, c_X12_atom h a0 = some r → ck [12] h a0 = some ()) {c_X12_sum : xa_H → Nat → Option (Int32 × xa_H)} (hc_X12_sum : ∀ {h : xa_H} {a0 : Nat} {r : (Int32 × xa_H)}, c_X12_sum h a0 = some r → xa_Ev G M_X12_sum d1 [.ref a0] h (some (.int r.1)) r.2) (hck_X12_sum : ∀ {h : xa_H} {a0 : Nat} {r : (Int32 × xa_H)}, c_X12_sum h a0 = some r → ck [12] h a0 = some ()) {c_X12_term : xa_H → Nat → Option (Int32 × xa_H)} (hc_X12_term : ∀ {h : xa_H} {a0 : Nat} {r : (Int32 × xa_H)}, c_X12_term h a0 = some r → xa_Ev G M_X12_term d1 [.ref a0] h (some (.int r.1)) r.2) (hck_X12_term : ∀ {h : xa_H} {a0 : Nat} {r : (Int32 × xa_H)}, c_X12_term h a0 = some r → ck [12] h a0 = some ()) (hdx : 5 ≤ d) (hd1 : d1 + 1 ≤ d) {k5 : xa_H → Nat → Int32 → Option (Int32 × xa_H)} (hk5 : ∀ (h : xa_H) (l0 : Nat) (l1 : Int32) (r : (Int32 × xa_H)), k5 h l0 l1 = some r → xa_V G M_X12_term d 5 [some (.ref l0), some (.int l1), none, none, none] [] h (some (.int r.1)) r.2) : ∀ (h : xa_H) (l0 : Nat) (l1 : Int32) (r : (Int32 × xa_H)), f_X12_term_b31 c_X12_atom c_X12_sum c_X12_term k5 h l0 l1 = some r → xa_V G M_X12_term d 31 [some (.ref l0), some (.int l1), none, none, none] [] h (some (.int r.1)) r.2 := by
  intro h l0 l1 r hf
  unfold f_X12_term_b31 at hf
  refine v_aload_n dX12_term_31 rfl ?_
  obtain ⟨q1, eq1, hf⟩ := ob hf
  refine v_callV dX12_term_32 ⟨cb_X12_look, ml_12_153, im_X12_look⟩ se_12_X12_look (ckf_X12_look eq1) (ev_X12_look eq1) (Nat.le_trans (by decide) hdx) (As := []) rfl (st := []) rfl (Nat.le_of_ble_eq_true rfl) rfl ?_
  refine v_bipush dX12_term_35 (by decide) (v := 42) ?_
  refine v_icmp_ne dX12_term_37 (tgt := 44) (by decide) (fun c2 => ?_) (fun c2 => ?_)
  · replace hf := (if_neg c2).symm.trans hf
    refine v_iconst dX12_term_44 (by decide) (v := 0) ?_
    exact e_X12_term_b45 hc_X12_atom hck_X12_atom hc_X12_sum hck_X12_sum hc_X12_term hck_X12_term hdx hd1 hk5 q1.2 l0 l1 (0 : Int32) r hf
  · replace hf := (if_pos c2).symm.trans hf
    refine v_iconst dX12_term_40 (by decide) (v := 1) ?_
    refine v_goto dX12_term_41 (tgt := 45) (by decide) ?_
    exact e_X12_term_b45 hc_X12_atom hck_X12_atom hc_X12_sum hck_X12_sum hc_X12_term hck_X12_term hdx hd1 hk5 q1.2 l0 l1 (1 : Int32) r hf
def f_X12_term_b5 (c_X12_atom : xa_H → Nat → Option (Int32 × xa_H)) (c_X12_sum : xa_H → Nat → Option (Int32 × xa_H)) (c_X12_term : xa_H → Nat → Option (Int32 × xa_H)) : Nat → xa_H → Nat → Int32 → Option (Int32 × xa_H)
  | 0, _, _, _ => none
  | n + 1, h, l0, l1 =>
    (gI [12] 11 h l0).bind fun x1 =>
    if x1 = (-1 : Int32) then
      (f_X12_look h l0).bind fun q3 =>
      if q3.1 = (42 : Int32) then
        f_X12_term_b31 c_X12_atom c_X12_sum c_X12_term (fun h l0 l1 => f_X12_term_b5 c_X12_atom c_X12_sum c_X12_term n h l0 l1) q3.2 l0 l1
      else
        (f_X12_look q3.2 l0).bind fun q5 =>
        if q5.1 = (47 : Int32) then
          f_X12_term_b31 c_X12_atom c_X12_sum c_X12_term (fun h l0 l1 => f_X12_term_b5 c_X12_atom c_X12_sum c_X12_term n h l0 l1) q5.2 l0 l1
        else
          f_X12_term_b94 c_X12_atom c_X12_sum c_X12_term q5.2 l1
    else
      f_X12_term_b94 c_X12_atom c_X12_sum c_X12_term h l1
set_option maxRecDepth 20000 in
theorem e_X12_term_b5 {G : xa_G} {d d1 : Nat} {c_X12_atom : xa_H → Nat → Option (Int32 × xa_H)} (hc_X12_atom : ∀ {h : xa_H} {a0 : Nat} {r : (Int32 × xa_H)}, c_X12_atom h a0 = some r → xa_Ev G M_X12_atom d1 [.ref a0] h (some (.int r.1)) r.2) (hck_X12_atom : ∀ {h : xa_H} {a0 : Nat} {r : (Int32 × xa_H)}, c_X12_atom h a0 = some r → ck [12] h a0 = some ()) {c_X12_sum : xa_H → Nat → Option (Int32 × xa_H)} (hc_X12_sum : ∀ {h : xa_H} {a0 : Nat} {r : (Int32 × xa_H)}, c_X12_sum h a0 = some r → xa_Ev G M_X12_sum d1 [.ref a0] h (some (.int r.1)) r.2) (hck_X12_sum : ∀ {h : xa_H} {a0 : Nat} {r : (Int32 × xa_H)}, c_X12_sum h a0 = some r → ck [12] h a0 = some ()) {c_X12_term : xa_H → Nat → Option (Int32 × xa_H)} (hc_X12_term : ∀ {h : xa_H} {a0 : Nat} {r : (Int32 × xa_H)}, c_X12_term h a0 = some r → xa_Ev G M_X12_term d1 [.ref a0] h (some (.int r.1)) r.2) (hck_X12_term : ∀ {h : xa_H} {a0 : Nat} {r : (Int32 × xa_H)}, c_X12_term h a0 = some r → ck [12] h a0 = some ()) (hdx : 5 ≤ d) (hd1 : d1 + 1 ≤ d) : ∀ (n : Nat) (h : xa_H) (l0 : Nat) (l1 : Int32) (r : (Int32 × xa_H)), f_X12_term_b5 c_X12_atom c_X12_sum c_X12_term n h l0 l1 = some r → xa_V G M_X12_term d 5 [some (.ref l0), some (.int l1), none, none, none] [] h (some (.int r.1)) r.2 := by
  intro n
  induction n with
  | zero =>
    intro h l0 l1 r hf
    cases (show (none : Option (Int32 × xa_H)) = some r from hf)
  | succ n ih =>
    intro h l0 l1 r hf
    rw [f_X12_term_b5] at hf
    refine v_aload_n dX12_term_5 rfl ?_
    obtain ⟨x1, ex1, hf⟩ := ob hf
    refine v_getI dX12_term_6 fl_12_143 ex1 ?_
    refine v_iconst dX12_term_9 (by decide) (v := -1) ?_
    refine v_icmp_ne dX12_term_10 (tgt := 94) (by decide) (fun c2 => ?_) (fun c2 => ?_)
    · replace hf := (if_neg c2).symm.trans hf
      exact xa_weak (loc := [none, some (.int l1), none, none, none]) ⟨rfl, trivial⟩ (e_X12_term_b94 hc_X12_atom hck_X12_atom hc_X12_sum hck_X12_sum hc_X12_term hck_X12_term hdx hd1 h l1 r hf)
    · replace hf := (if_pos c2).symm.trans hf
      refine v_aload_n dX12_term_13 rfl ?_
      obtain ⟨q3, eq3, hf⟩ := ob hf
      refine v_callV dX12_term_14 ⟨cb_X12_look, ml_12_153, im_X12_look⟩ se_12_X12_look (ckf_X12_look eq3) (ev_X12_look eq3) (Nat.le_trans (by decide) hdx) (As := []) rfl (st := []) rfl (Nat.le_of_ble_eq_true rfl) rfl ?_
      refine v_bipush dX12_term_17 (by decide) (v := 42) ?_
      refine v_icmp_eq dX12_term_19 (tgt := 31) (by decide) (fun c4 => ?_) (fun c4 => ?_)
      · replace hf := (if_pos c4).symm.trans hf
        exact e_X12_term_b31 hc_X12_atom hck_X12_atom hc_X12_sum hck_X12_sum hc_X12_term hck_X12_term hdx hd1 ih q3.2 l0 l1 r hf
      · replace hf := (if_neg c4).symm.trans hf
        refine v_aload_n dX12_term_22 rfl ?_
        obtain ⟨q5, eq5, hf⟩ := ob hf
        refine v_callV dX12_term_23 ⟨cb_X12_look, ml_12_153, im_X12_look⟩ se_12_X12_look (ckf_X12_look eq5) (ev_X12_look eq5) (Nat.le_trans (by decide) hdx) (As := []) rfl (st := []) rfl (Nat.le_of_ble_eq_true rfl) rfl ?_
        refine v_bipush dX12_term_26 (by decide) (v := 47) ?_
        refine v_icmp_ne dX12_term_28 (tgt := 94) (by decide) (fun c6 => ?_) (fun c6 => ?_)
        · replace hf := (if_neg c6).symm.trans hf
          exact xa_weak (loc := [none, some (.int l1), none, none, none]) ⟨rfl, trivial⟩ (e_X12_term_b94 hc_X12_atom hck_X12_atom hc_X12_sum hck_X12_sum hc_X12_term hck_X12_term hdx hd1 q5.2 l1 r hf)
        · replace hf := (if_pos c6).symm.trans hf
          exact e_X12_term_b31 hc_X12_atom hck_X12_atom hc_X12_sum hck_X12_sum hc_X12_term hck_X12_term hdx hd1 ih q5.2 l0 l1 r hf
def g_X12_term (c_X12_atom : xa_H → Nat → Option (Int32 × xa_H)) (c_X12_sum : xa_H → Nat → Option (Int32 × xa_H)) (c_X12_term : xa_H → Nat → Option (Int32 × xa_H)) (h : xa_H) (l0 : Nat) : Option (Int32 × xa_H) :=
  (ck [12] h l0).bind fun _ =>
  (c_X12_atom h l0).bind fun q1 =>
  f_X12_term_b5 c_X12_atom c_X12_sum c_X12_term 1048576 q1.2 l0 q1.1
set_option maxRecDepth 20000 in
theorem eg_X12_term {G : xa_G} {d d1 : Nat} {c_X12_atom : xa_H → Nat → Option (Int32 × xa_H)} (hc_X12_atom : ∀ {h : xa_H} {a0 : Nat} {r : (Int32 × xa_H)}, c_X12_atom h a0 = some r → xa_Ev G M_X12_atom d1 [.ref a0] h (some (.int r.1)) r.2) (hck_X12_atom : ∀ {h : xa_H} {a0 : Nat} {r : (Int32 × xa_H)}, c_X12_atom h a0 = some r → ck [12] h a0 = some ()) {c_X12_sum : xa_H → Nat → Option (Int32 × xa_H)} (hc_X12_sum : ∀ {h : xa_H} {a0 : Nat} {r : (Int32 × xa_H)}, c_X12_sum h a0 = some r → xa_Ev G M_X12_sum d1 [.ref a0] h (some (.int r.1)) r.2) (hck_X12_sum : ∀ {h : xa_H} {a0 : Nat} {r : (Int32 × xa_H)}, c_X12_sum h a0 = some r → ck [12] h a0 = some ()) {c_X12_term : xa_H → Nat → Option (Int32 × xa_H)} (hc_X12_term : ∀ {h : xa_H} {a0 : Nat} {r : (Int32 × xa_H)}, c_X12_term h a0 = some r → xa_Ev G M_X12_term d1 [.ref a0] h (some (.int r.1)) r.2) (hck_X12_term : ∀ {h : xa_H} {a0 : Nat} {r : (Int32 × xa_H)}, c_X12_term h a0 = some r → ck [12] h a0 = some ()) (hdx : 5 ≤ d) (hd1 : d1 + 1 ≤ d) {h : xa_H} {l0 : Nat} {r : (Int32 × xa_H)} (hf : g_X12_term c_X12_atom c_X12_sum c_X12_term h l0 = some r) : xa_Ev G M_X12_term d [.ref l0] h (some (.int r.1)) r.2 := by
  refine xa_entry (by decide +kernel) (loc := [some (.ref l0), none, none, none, none]) rfl (Nat.le_of_ble_eq_true rfl) ?_
  unfold g_X12_term at hf
  obtain ⟨u0, eu0, hf⟩ := ob hf
  refine v_aload_n dX12_term_0 rfl ?_
  obtain ⟨q1, eq1, hf⟩ := ob hf
  refine v_callV dX12_term_1 ⟨cb_X12_atom, ml_12_186, im_X12_atom⟩ se_12_X12_atom (hck_X12_atom eq1) (hc_X12_atom eq1) hd1 (As := []) rfl (st := []) rfl (Nat.le_of_ble_eq_true rfl) rfl ?_
  refine v_istore_n (i := 1) rfl dX12_term_4 (Nat.le_of_ble_eq_true rfl) (loc' := [some (.ref l0), some (.int q1.1), none, none, none]) rfl ?_
  exact e_X12_term_b5 hc_X12_atom hck_X12_atom hc_X12_sum hck_X12_sum hc_X12_term hck_X12_term hdx hd1 1048576 q1.2 l0 q1.1 r hf
theorem cg_X12_term {c_X12_atom : xa_H → Nat → Option (Int32 × xa_H)} {c_X12_sum : xa_H → Nat → Option (Int32 × xa_H)} {c_X12_term : xa_H → Nat → Option (Int32 × xa_H)} {h : xa_H} {l0 : Nat} {r : (Int32 × xa_H)} (hf : g_X12_term c_X12_atom c_X12_sum c_X12_term h l0 = some r) : ck [12] h l0 = some () := by
  obtain ⟨u, e, -⟩ := ob hf
  exact e
def fg_X12_atom : Nat → (xa_H → Nat → Option (Int32 × xa_H)) × (xa_H → Nat → Option (Int32 × xa_H)) × (xa_H → Nat → Option (Int32 × xa_H))
  | 0 => (fun _ _ => none, fun _ _ => none, fun _ _ => none)
  | n + 1 => (g_X12_atom ((fg_X12_atom n).1) ((fg_X12_atom n).2.1) ((fg_X12_atom n).2.2), g_X12_sum ((fg_X12_atom n).1) ((fg_X12_atom n).2.1) ((fg_X12_atom n).2.2), g_X12_term ((fg_X12_atom n).1) ((fg_X12_atom n).2.1) ((fg_X12_atom n).2.2))
def f_X12_atom (n : Nat) : xa_H → Nat → Option (Int32 × xa_H) := (fg_X12_atom n).1
def f_X12_sum (n : Nat) : xa_H → Nat → Option (Int32 × xa_H) := (fg_X12_atom n).2.1
def f_X12_term (n : Nat) : xa_H → Nat → Option (Int32 × xa_H) := (fg_X12_atom n).2.2
theorem ckf_X12_atom {n : Nat} {h : xa_H} {a0 : Nat} {r : (Int32 × xa_H)} (hf : f_X12_atom n h a0 = some r) : ck [12] h a0 = some () := by
  cases n with
  | zero => cases (show (none : Option (Int32 × xa_H)) = some r from hf)
  | succ n => exact cg_X12_atom (c_X12_atom := (fg_X12_atom n).1) (c_X12_sum := (fg_X12_atom n).2.1) (c_X12_term := (fg_X12_atom n).2.2) hf
theorem ckf_X12_sum {n : Nat} {h : xa_H} {a0 : Nat} {r : (Int32 × xa_H)} (hf : f_X12_sum n h a0 = some r) : ck [12] h a0 = some () := by
  cases n with
  | zero => cases (show (none : Option (Int32 × xa_H)) = some r from hf)
  | succ n => exact cg_X12_sum (c_X12_atom := (fg_X12_atom n).1) (c_X12_sum := (fg_X12_atom n).2.1) (c_X12_term := (fg_X12_atom n).2.2) hf
theorem ckf_X12_term {n : Nat} {h : xa_H} {a0 : Nat} {r : (Int32 × xa_H)} (hf : f_X12_term n h a0 = some r) : ck [12] h a0 = some () := by
  cases n with
  | zero => cases (show (none : Option (Int32 × xa_H)) = some r from hf)
  | succ n => exact cg_X12_term (c_X12_atom := (fg_X12_atom n).1) (c_X12_sum := (fg_X12_atom n).2.1) (c_X12_term := (fg_X12_atom n).2.2) hf
theorem evg_X12_atom {G : xa_G} : ∀ n : Nat, (∀ {h : xa_H} {a0 : Nat} {r : (Int32 × xa_H)}, f_X12_atom n h a0 = some r → xa_Ev G M_X12_atom (5 + n) [.ref a0] h (some (.int r.1)) r.2) ∧ (∀ {h : xa_H} {a0 : Nat} {r : (Int32 × xa_H)}, f_X12_sum n h a0 = some r → xa_Ev G M_X12_sum (5 + n) [.ref a0] h (some (.int r.1)) r.2) ∧ (∀ {h : xa_H} {a0 : Nat} {r : (Int32 × xa_H)}, f_X12_term n h a0 = some r → xa_Ev G M_X12_term (5 + n) [.ref a0] h (some (.int r.1)) r.2) := by
  intro n
  induction n with
  | zero => exact ⟨(fun hf => by cases (show (none : Option (Int32 × xa_H)) = some _ from hf)), (fun hf => by cases (show (none : Option (Int32 × xa_H)) = some _ from hf)), (fun hf => by cases (show (none : Option (Int32 × xa_H)) = some _ from hf))⟩
  | succ n ih => exact ⟨(fun hf => eg_X12_atom ih.1 ckf_X12_atom ih.2.1 ckf_X12_sum ih.2.2 ckf_X12_term (by omega) (by omega) hf), (fun hf => eg_X12_sum ih.1 ckf_X12_atom ih.2.1 ckf_X12_sum ih.2.2 ckf_X12_term (by omega) (by omega) hf), (fun hf => eg_X12_term ih.1 ckf_X12_atom ih.2.1 ckf_X12_sum ih.2.2 ckf_X12_term (by omega) (by omega) hf)⟩
theorem ev_X12_atom {G : xa_G} {n : Nat} {h : xa_H} {a0 : Nat} {r : (Int32 × xa_H)} (hf : f_X12_atom n h a0 = some r) : xa_Ev G M_X12_atom (5 + n) [.ref a0] h (some (.int r.1)) r.2 := (evg_X12_atom n).1 hf
theorem ev_X12_sum {G : xa_G} {n : Nat} {h : xa_H} {a0 : Nat} {r : (Int32 × xa_H)} (hf : f_X12_sum n h a0 = some r) : xa_Ev G M_X12_sum (5 + n) [.ref a0] h (some (.int r.1)) r.2 := (evg_X12_atom n).2.1 hf
theorem ev_X12_term {G : xa_G} {n : Nat} {h : xa_H} {a0 : Nat} {r : (Int32 × xa_H)} (hf : f_X12_term n h a0 = some r) : xa_Ev G M_X12_term (5 + n) [.ref a0] h (some (.int r.1)) r.2 := (evg_X12_atom n).2.2 hf
def M_X12_back : xa_M := (yX12_back, cX12_back, 2, some .int)
theorem cb_X12_back : xa_CB M_X12_back 0 := ⟨gws_at 1958 (by decide +kernel) rfl, gws_at 122 (by decide +kernel) rfl, by decide +kernel, Nat.le_of_ble_eq_true rfl⟩
def f_X12_back_b16 : Nat → xa_H → Nat → Int32 → Option (Int32 × xa_H)
  | 0, _, _, _ => none
  | n + 1, h, l0, l1 =>
    if (232 : Int32) ≤ l1 then
      (xp [12] 40 h l0 (.int (0 : Int32))).bind fun h2 =>
      (gR [12] 32 h2 l0).bind fun x3 =>
      (aI h2 x3 (50 : Int32)).bind fun x4 =>
      some (x4, h2)
    else
      (gR [12] 32 h l0).bind fun x5 =>
      (gR [12] 55 h l0).bind fun x6 =>
      (aI h x6 l1).bind fun x7 =>
      (pI h x5 l1 x7).bind fun h8 =>
      f_X12_back_b16 n h8 l0 (l1 + (1 : Int32))
set_option maxRecDepth 20000 in
theorem e_X12_back_b16 {G : xa_G} : ∀ (n : Nat) (h : xa_H) (l0 : Nat) (l1 : Int32) (r : (Int32 × xa_H)), f_X12_back_b16 n h l0 l1 = some r → xa_V G M_X12_back 0 16 [some (.ref l0), some (.int l1)] [] h (some (.int r.1)) r.2 := by
  intro n
  induction n with
  | zero =>
    intro h l0 l1 r hf
    cases (show (none : Option (Int32 × xa_H)) = some r from hf)
  | succ n ih =>
    intro h l0 l1 r hf
    rw [f_X12_back_b16] at hf
    refine v_iload_n dX12_back_16 rfl ?_
    refine v_sipush dX12_back_17 (by decide) (v := 232) ?_
    refine v_icmp_ge dX12_back_20 (tgt := 41) (by decide) (fun c1 => ?_) (fun c1 => ?_)
    · replace hf := (if_pos c1).symm.trans hf
      refine v_aload_n dX12_back_41 rfl ?_
      refine v_iconst dX12_back_42 (by decide) (v := 0) ?_
      obtain ⟨h2, eh2, hf⟩ := ob hf
      refine v_put dX12_back_43 fp_12_320 (fun z => by cases z) (fun _ => rfl) (fun _ => rfl) eh2 ?_
      refine v_aload_n dX12_back_46 rfl ?_
      obtain ⟨x3, ex3, hf⟩ := ob hf
      refine v_getR dX12_back_47 fl_12_61 ex3 ?_
      refine v_bipush dX12_back_50 (by decide) (v := 50) ?_
      obtain ⟨x4, ex4, hf⟩ := ob hf
      refine v_ialoadI dX12_back_52 ex4 ?_
      replace hf := Option.some.inj hf
      subst hf
      exact v_iret dX12_back_53 rfl
    · replace hf := (if_neg c1).symm.trans hf
      refine v_aload_n dX12_back_23 rfl ?_
      obtain ⟨x5, ex5, hf⟩ := ob hf
      refine v_getR dX12_back_24 fl_12_61 ex5 ?_
      refine v_iload_n dX12_back_27 rfl ?_
      refine v_aload_n dX12_back_28 rfl ?_
      obtain ⟨x6, ex6, hf⟩ := ob hf
      refine v_getR dX12_back_29 fl_12_108 ex6 ?_
      refine v_iload_n dX12_back_32 rfl ?_
      obtain ⟨x7, ex7, hf⟩ := ob hf
      refine v_ialoadI dX12_back_33 ex7 ?_
      obtain ⟨h8, eh8, hf⟩ := ob hf
      refine v_iastoreI dX12_back_34 eh8 ?_
      refine v_iinc dX12_back_35 rfl (v := (l1 + (1 : Int32))) rfl (Nat.le_of_ble_eq_true rfl) (loc' := [some (.ref l0), some (.int (l1 + (1 : Int32)))]) rfl ?_
      refine v_goto dX12_back_38 (tgt := 16) (by decide) ?_
      exact ih h8 l0 (l1 + (1 : Int32)) r hf
def f_X12_back (h : xa_H) (l0 : Nat) : Option (Int32 × xa_H) :=
  (ck [12] h l0).bind fun _ =>
  (xp [12] 0 h l0 (.int (0 : Int32))).bind fun h1 =>
  (gI [12] 56 h1 l0).bind fun x2 =>
  if x2 = 0 then
    some ((-1 : Int32), h1)
  else
    f_X12_back_b16 1048576 h1 l0 (0 : Int32)
set_option maxRecDepth 20000 in
theorem ev_X12_back {G : xa_G} {h : xa_H} {l0 : Nat} {r : (Int32 × xa_H)} (hf : f_X12_back h l0 = some r) : xa_Ev G M_X12_back 0 [.ref l0] h (some (.int r.1)) r.2 := by
  refine xa_entry (by decide +kernel) (loc := [some (.ref l0), none]) rfl (Nat.le_of_ble_eq_true rfl) ?_
  unfold f_X12_back at hf
  obtain ⟨u0, eu0, hf⟩ := ob hf
  refine v_aload_n dX12_back_0 rfl ?_
  refine v_iconst dX12_back_1 (by decide) (v := 0) ?_
  obtain ⟨h1, eh1, hf⟩ := ob hf
  refine v_put dX12_back_2 fp_12_111 (fun z => by cases z) (fun _ => rfl) (fun _ => rfl) eh1 ?_
  refine v_aload_n dX12_back_5 rfl ?_
  obtain ⟨x2, ex2, hf⟩ := ob hf
  refine v_getI dX12_back_6 fl_12_323 ex2 ?_
  refine v_if_ne dX12_back_9 (tgt := 14) (by decide) (fun c3 => ?_) (fun c3 => ?_)
  · replace hf := (if_neg c3).symm.trans hf
    refine v_iconst dX12_back_14 (by decide) (v := 0) ?_
    refine v_istore_n (i := 1) rfl dX12_back_15 (Nat.le_of_ble_eq_true rfl) (loc' := [some (.ref l0), some (.int (0 : Int32))]) rfl ?_
    exact e_X12_back_b16 1048576 h1 l0 (0 : Int32) r hf
  · replace hf := (if_pos c3).symm.trans hf
    refine v_iconst dX12_back_12 (by decide) (v := -1) ?_
    replace hf := Option.some.inj hf
    subst hf
    exact v_iret dX12_back_13 rfl
theorem ckf_X12_back {h : xa_H} {l0 : Nat} {r : (Int32 × xa_H)} (hf : f_X12_back h l0 = some r) : ck [12] h l0 = some () := by
  obtain ⟨u, e, -⟩ := ob hf
  exact e
def M_X12_bytesIn : xa_M := (yX12_bytesIn, cX12_bytesIn, 3, some .int)
theorem cb_X12_bytesIn : xa_CB M_X12_bytesIn 1 := ⟨gws_at 1479 (by decide +kernel) rfl, gws_at 122 (by decide +kernel) rfl, by decide +kernel, Nat.le_of_ble_eq_true rfl⟩
def f_X12_bytesIn_b25 (k5 : xa_H → Int32 → Int32 → Int32 → Option Int32) (h : xa_H) (l0 : Int32) (l2 : Int32) (s0 : Int32) (s1 : Int32) : Option Int32 :=
  k5 h l0 (s1 + s0) (l2 + (-8 : Int32))
set_option maxRecDepth 20000 in
theorem e_X12_bytesIn_b25 {G : xa_G} {k5 : xa_H → Int32 → Int32 → Int32 → Option Int32} (hk5 : ∀ (h : xa_H) (l0 : Int32) (l1 : Int32) (l2 : Int32) (r : Int32), k5 h l0 l1 l2 = some r → xa_V G M_X12_bytesIn 0 5 [some (.int l0), some (.int l1), some (.int l2)] [] h (some (.int r)) h) : ∀ (h : xa_H) (l0 : Int32) (l2 : Int32) (s0 : Int32) (s1 : Int32) (r : Int32), f_X12_bytesIn_b25 k5 h l0 l2 s0 s1 = some r → xa_V G M_X12_bytesIn 0 25 [some (.int l0), none, some (.int l2)] [.int s0, .int s1] h (some (.int r)) h := by
  intro h l0 l2 s0 s1 r hf
  unfold f_X12_bytesIn_b25 at hf
  refine v_iadd dX12_bytesIn_25 ?_
  refine v_istore_n (i := 1) rfl dX12_bytesIn_26 (Nat.le_of_ble_eq_true rfl) (loc' := [some (.int l0), some (.int (s1 + s0)), some (.int l2)]) rfl ?_
  refine v_iinc dX12_bytesIn_27 rfl (v := (l2 + (-8 : Int32))) rfl (Nat.le_of_ble_eq_true rfl) (loc' := [some (.int l0), some (.int (s1 + s0)), some (.int (l2 + (-8 : Int32)))]) rfl ?_
  refine v_goto dX12_bytesIn_30 (tgt := 5) (by decide) ?_
  exact hk5 h l0 (s1 + s0) (l2 + (-8 : Int32)) r hf
def f_X12_bytesIn_b5 : Nat → xa_H → Int32 → Int32 → Int32 → Option Int32
  | 0, _, _, _, _ => none
  | n + 1, h, l0, l1, l2 =>
    if l2 < 0 then
      some l1
    else
      if ((shr l0 l2) &&& (255 : Int32)) = 0 then
        f_X12_bytesIn_b25 (fun h l0 l1 l2 => f_X12_bytesIn_b5 n h l0 l1 l2) h l0 l2 (0 : Int32) l1
      else
        f_X12_bytesIn_b25 (fun h l0 l1 l2 => f_X12_bytesIn_b5 n h l0 l1 l2) h l0 l2 (1 : Int32) l1
set_option maxRecDepth 20000 in
theorem e_X12_bytesIn_b5 {G : xa_G} : ∀ (n : Nat) (h : xa_H) (l0 : Int32) (l1 : Int32) (l2 : Int32) (r : Int32), f_X12_bytesIn_b5 n h l0 l1 l2 = some r → xa_V G M_X12_bytesIn 0 5 [some (.int l0), some (.int l1), some (.int l2)] [] h (some (.int r)) h := by
  intro n
  induction n with
  | zero =>
    intro h l0 l1 l2 r hf
    cases (show (none : Option Int32) = some r from hf)
  | succ n ih =>
    intro h l0 l1 l2 r hf
    rw [f_X12_bytesIn_b5] at hf
    refine v_iload_n dX12_bytesIn_5 rfl ?_
    refine v_if_lt dX12_bytesIn_6 (tgt := 33) (by decide) (fun c1 => ?_) (fun c1 => ?_)
    · replace hf := (if_pos c1).symm.trans hf
      refine v_iload_n dX12_bytesIn_33 rfl ?_
      replace hf := Option.some.inj hf
      subst hf
      exact v_iret dX12_bytesIn_34 rfl
    · replace hf := (if_neg c1).symm.trans hf
      refine v_iload_n dX12_bytesIn_9 rfl ?_
      refine v_iload_n dX12_bytesIn_10 rfl ?_
      refine v_iload_n dX12_bytesIn_11 rfl ?_
      refine w_ishr dX12_bytesIn_12 ?_
      refine v_sipush dX12_bytesIn_13 (by decide) (v := 255) ?_
      refine v_iand dX12_bytesIn_16 ?_
      refine v_if_eq dX12_bytesIn_17 (tgt := 24) (by decide) (fun c2 => ?_) (fun c2 => ?_)
      · replace hf := (if_pos c2).symm.trans hf
        refine v_iconst dX12_bytesIn_24 (by decide) (v := 0) ?_
        exact xa_weak (loc := [some (.int l0), none, some (.int l2)]) ⟨rfl, ⟨rfl, trivial⟩⟩ (e_X12_bytesIn_b25 ih h l0 l2 (0 : Int32) l1 r hf)
      · replace hf := (if_neg c2).symm.trans hf
        refine v_iconst dX12_bytesIn_20 (by decide) (v := 1) ?_
        refine v_goto dX12_bytesIn_21 (tgt := 25) (by decide) ?_
        exact xa_weak (loc := [some (.int l0), none, some (.int l2)]) ⟨rfl, ⟨rfl, trivial⟩⟩ (e_X12_bytesIn_b25 ih h l0 l2 (1 : Int32) l1 r hf)
def f_X12_bytesIn (h : xa_H) (l0 : Int32) : Option Int32 :=
  f_X12_bytesIn_b5 1048576 h l0 (0 : Int32) (24 : Int32)
set_option maxRecDepth 20000 in
theorem ev_X12_bytesIn {G : xa_G} {h : xa_H} {l0 : Int32} {r : Int32} (hf : f_X12_bytesIn h l0 = some r) : xa_Ev G M_X12_bytesIn 0 [.int l0] h (some (.int r)) h := by
  refine xa_entry (by decide +kernel) (loc := [some (.int l0), none, none]) rfl (Nat.le_of_ble_eq_true rfl) ?_
  unfold f_X12_bytesIn at hf
  refine v_iconst dX12_bytesIn_0 (by decide) (v := 0) ?_
  refine v_istore_n (i := 1) rfl dX12_bytesIn_1 (Nat.le_of_ble_eq_true rfl) (loc' := [some (.int l0), some (.int (0 : Int32)), none]) rfl ?_
  refine v_bipush dX12_bytesIn_2 (by decide) (v := 24) ?_
  refine v_istore_n (i := 2) rfl dX12_bytesIn_4 (Nat.le_of_ble_eq_true rfl) (loc' := [some (.int l0), some (.int (0 : Int32)), some (.int (24 : Int32))]) rfl ?_
  exact e_X12_bytesIn_b5 1048576 h l0 (0 : Int32) (24 : Int32) r hf
def M_X12_canPlay : xa_M := (yX12_canPlay, cX12_canPlay, 3, some .boolean)
theorem cb_X12_canPlay : xa_CB M_X12_canPlay 2 := ⟨gws_at 1891 (by decide +kernel) rfl, gws_at 122 (by decide +kernel) rfl, by decide +kernel, Nat.le_of_ble_eq_true rfl⟩
def f_X12_canPlay (h : xa_H) (l0 : Nat) (l1 : Int32) (l2 : Int32) : Option Int32 :=
  (ck [12] h l0).bind fun _ =>
  (f_X12_isHouse h l0 l1).bind fun q1 =>
  if q1 = 0 then
    some (0 : Int32)
  else
    (f_X12_isHouse h l0 l2).bind fun q3 =>
    if q3 = 0 then
      some (0 : Int32)
    else
      if l1 = l2 then
        some (0 : Int32)
      else
        some (1 : Int32)
set_option maxRecDepth 20000 in
theorem ev_X12_canPlay {G : xa_G} {h : xa_H} {l0 : Nat} {l1 : Int32} {l2 : Int32} {r : Int32} (hf : f_X12_canPlay h l0 l1 l2 = some r) : xa_Ev G M_X12_canPlay 1 [.ref l0, .int l1, .int l2] h (some (.int r)) h := by
  refine xa_entry (by decide +kernel) (loc := [some (.ref l0), some (.int l1), some (.int l2)]) rfl (Nat.le_of_ble_eq_true rfl) ?_
  unfold f_X12_canPlay at hf
  obtain ⟨u0, eu0, hf⟩ := ob hf
  refine v_aload_n dX12_canPlay_0 rfl ?_
  refine v_iload_n dX12_canPlay_1 rfl ?_
  obtain ⟨q1, eq1, hf⟩ := ob hf
  refine v_callV dX12_canPlay_2 ⟨cb_X12_isHouse, ml_12_335, im_X12_isHouse⟩ se_12_X12_isHouse (ckf_X12_isHouse eq1) (ev_X12_isHouse eq1) (by decide) (As := [.int l1]) rfl (st := []) rfl (Nat.le_of_ble_eq_true rfl) rfl ?_
  refine v_if_eq dX12_canPlay_5 (tgt := 25) (by decide) (fun c2 => ?_) (fun c2 => ?_)
  · replace hf := (if_pos c2).symm.trans hf
    refine v_iconst dX12_canPlay_25 (by decide) (v := 0) ?_
    replace hf := Option.some.inj hf
    subst hf
    exact v_zret dX12_canPlay_26 rfl (by decide)
  · replace hf := (if_neg c2).symm.trans hf
    refine v_aload_n dX12_canPlay_8 rfl ?_
    refine v_iload_n dX12_canPlay_9 rfl ?_
    obtain ⟨q3, eq3, hf⟩ := ob hf
    refine v_callV dX12_canPlay_10 ⟨cb_X12_isHouse, ml_12_335, im_X12_isHouse⟩ se_12_X12_isHouse (ckf_X12_isHouse eq3) (ev_X12_isHouse eq3) (by decide) (As := [.int l2]) rfl (st := []) rfl (Nat.le_of_ble_eq_true rfl) rfl ?_
    refine v_if_eq dX12_canPlay_13 (tgt := 25) (by decide) (fun c4 => ?_) (fun c4 => ?_)
    · replace hf := (if_pos c4).symm.trans hf
      refine v_iconst dX12_canPlay_25 (by decide) (v := 0) ?_
      replace hf := Option.some.inj hf
      subst hf
      exact v_zret dX12_canPlay_26 rfl (by decide)
    · replace hf := (if_neg c4).symm.trans hf
      refine v_iload_n dX12_canPlay_16 rfl ?_
      refine v_iload_n dX12_canPlay_17 rfl ?_
      refine v_icmp_eq dX12_canPlay_18 (tgt := 25) (by decide) (fun c5 => ?_) (fun c5 => ?_)
      · replace hf := (if_pos c5).symm.trans hf
        refine v_iconst dX12_canPlay_25 (by decide) (v := 0) ?_
        replace hf := Option.some.inj hf
        subst hf
        exact v_zret dX12_canPlay_26 rfl (by decide)
      · replace hf := (if_neg c5).symm.trans hf
        refine v_iconst dX12_canPlay_21 (by decide) (v := 1) ?_
        refine v_goto dX12_canPlay_22 (tgt := 26) (by decide) ?_
        replace hf := Option.some.inj hf
        subst hf
        exact v_zret dX12_canPlay_26 rfl (by decide)
theorem ckf_X12_canPlay {h : xa_H} {l0 : Nat} {l1 : Int32} {l2 : Int32} {r : Int32} (hf : f_X12_canPlay h l0 l1 l2 = some r) : ck [12] h l0 = some () := by
  obtain ⟨u, e, -⟩ := ob hf
  exact e
def M_X12_chain : xa_M := (yX12_chain, cX12_chain, 3, some .int)
theorem cb_X12_chain : xa_CB M_X12_chain 2 := ⟨gws_at 1860 (by decide +kernel) rfl, gws_at 122 (by decide +kernel) rfl, by decide +kernel, Nat.le_of_ble_eq_true rfl⟩
def f_X12_chain (h : xa_H) (l0 : Nat) (l1 : Int32) (l2 : Int32) : Option (Int32 × xa_H) :=
  (ck [12] h l0).bind fun _ =>
  (xp [12] 0 h l0 (.int (0 : Int32))).bind fun h1 =>
  (f_X12_isHouse h1 l0 l1).bind fun q2 =>
  if q2 = 0 then
    some ((-1 : Int32), h1)
  else
    (f_X12_isHouse h1 l0 l2).bind fun q4 =>
    if q4 = 0 then
      some ((-1 : Int32), h1)
    else
      (gR [12] 32 h1 l0).bind fun x6 =>
      (f_X12_laysSteps h1 l0 x6 l1).bind fun q7 =>
      if l1 = l2 then
        some ((0 : Int32), q7)
      else
        (gR [12] 38 q7 l0).bind fun x9 =>
        (aI q7 x9 l2).bind fun x10 =>
        some (x10, q7)
set_option maxRecDepth 20000 in
theorem ev_X12_chain {G : xa_G} {h : xa_H} {l0 : Nat} {l1 : Int32} {l2 : Int32} {r : (Int32 × xa_H)} (hf : f_X12_chain h l0 l1 l2 = some r) : xa_Ev G M_X12_chain 2 [.ref l0, .int l1, .int l2] h (some (.int r.1)) r.2 := by
  refine xa_entry (by decide +kernel) (loc := [some (.ref l0), some (.int l1), some (.int l2)]) rfl (Nat.le_of_ble_eq_true rfl) ?_
  unfold f_X12_chain at hf
  obtain ⟨u0, eu0, hf⟩ := ob hf
  refine v_aload_n dX12_chain_0 rfl ?_
  refine v_iconst dX12_chain_1 (by decide) (v := 0) ?_
  obtain ⟨h1, eh1, hf⟩ := ob hf
  refine v_put dX12_chain_2 fp_12_111 (fun z => by cases z) (fun _ => rfl) (fun _ => rfl) eh1 ?_
  refine v_aload_n dX12_chain_5 rfl ?_
  refine v_iload_n dX12_chain_6 rfl ?_
  obtain ⟨q2, eq2, hf⟩ := ob hf
  refine v_callV dX12_chain_7 ⟨cb_X12_isHouse, ml_12_335, im_X12_isHouse⟩ se_12_X12_isHouse (ckf_X12_isHouse eq2) (ev_X12_isHouse eq2) (by decide) (As := [.int l1]) rfl (st := []) rfl (Nat.le_of_ble_eq_true rfl) rfl ?_
  refine v_if_eq dX12_chain_10 (tgt := 21) (by decide) (fun c3 => ?_) (fun c3 => ?_)
  · replace hf := (if_pos c3).symm.trans hf
    refine v_iconst dX12_chain_21 (by decide) (v := -1) ?_
    replace hf := Option.some.inj hf
    subst hf
    exact v_iret dX12_chain_22 rfl
  · replace hf := (if_neg c3).symm.trans hf
    refine v_aload_n dX12_chain_13 rfl ?_
    refine v_iload_n dX12_chain_14 rfl ?_
    obtain ⟨q4, eq4, hf⟩ := ob hf
    refine v_callV dX12_chain_15 ⟨cb_X12_isHouse, ml_12_335, im_X12_isHouse⟩ se_12_X12_isHouse (ckf_X12_isHouse eq4) (ev_X12_isHouse eq4) (by decide) (As := [.int l2]) rfl (st := []) rfl (Nat.le_of_ble_eq_true rfl) rfl ?_
    refine v_if_ne dX12_chain_18 (tgt := 23) (by decide) (fun c5 => ?_) (fun c5 => ?_)
    · replace hf := (if_neg c5).symm.trans hf
      refine v_aload_n dX12_chain_23 rfl ?_
      refine v_aload_n dX12_chain_24 rfl ?_
      obtain ⟨x6, ex6, hf⟩ := ob hf
      refine v_getR dX12_chain_25 fl_12_61 ex6 ?_
      refine v_iload_n dX12_chain_28 rfl ?_
      obtain ⟨q7, eq7, hf⟩ := ob hf
      refine v_callV dX12_chain_29 ⟨cb_X12_laysSteps, ml_12_356, im_X12_laysSteps⟩ se_12_X12_laysSteps (ckf_X12_laysSteps eq7) (ev_X12_laysSteps eq7) (by decide) (As := [.ref x6, .int l1]) rfl (st := []) rfl (Nat.le_of_ble_eq_true rfl) rfl ?_
      refine v_iload_n dX12_chain_32 rfl ?_
      refine v_iload_n dX12_chain_33 rfl ?_
      refine v_icmp_ne dX12_chain_34 (tgt := 41) (by decide) (fun c8 => ?_) (fun c8 => ?_)
      · replace hf := (if_neg c8).symm.trans hf
        refine v_aload_n dX12_chain_41 rfl ?_
        obtain ⟨x9, ex9, hf⟩ := ob hf
        refine v_getR dX12_chain_42 fl_12_80 ex9 ?_
        refine v_iload_n dX12_chain_45 rfl ?_
        obtain ⟨x10, ex10, hf⟩ := ob hf
        refine v_ialoadI dX12_chain_46 ex10 ?_
        replace hf := Option.some.inj hf
        subst hf
        exact v_iret dX12_chain_47 rfl
      · replace hf := (if_pos c8).symm.trans hf
        refine v_iconst dX12_chain_37 (by decide) (v := 0) ?_
        refine v_goto dX12_chain_38 (tgt := 47) (by decide) ?_
        replace hf := Option.some.inj hf
        subst hf
        exact v_iret dX12_chain_47 rfl
    · replace hf := (if_pos c5).symm.trans hf
      refine v_iconst dX12_chain_21 (by decide) (v := -1) ?_
      replace hf := Option.some.inj hf
      subst hf
      exact v_iret dX12_chain_22 rfl
theorem ckf_X12_chain {h : xa_H} {l0 : Nat} {l1 : Int32} {l2 : Int32} {r : (Int32 × xa_H)} (hf : f_X12_chain h l0 l1 l2 = some r) : ck [12] h l0 = some () := by
  obtain ⟨u, e, -⟩ := ob hf
  exact e
def M_X12_isSign : xa_M := (yX12_isSign, cX12_isSign, 1, some .boolean)
theorem cb_X12_isSign : xa_CB M_X12_isSign 1 := ⟨gws_at 1613 (by decide +kernel) rfl, gws_at 122 (by decide +kernel) rfl, by decide +kernel, Nat.le_of_ble_eq_true rfl⟩
def f_X12_isSign_b18 (h : xa_H) : Option Int32 :=
  some (1 : Int32)
set_option maxRecDepth 20000 in
theorem e_X12_isSign_b18 {G : xa_G} : ∀ (h : xa_H) (r : Int32), f_X12_isSign_b18 h = some r → xa_V G M_X12_isSign 0 18 [none] [] h (some (.int r)) h := by
  intro h r hf
  unfold f_X12_isSign_b18 at hf
  refine v_iconst dX12_isSign_18 (by decide) (v := 1) ?_
  refine v_goto dX12_isSign_19 (tgt := 23) (by decide) ?_
  replace hf := Option.some.inj hf
  subst hf
  exact v_zret dX12_isSign_23 rfl (by decide)
def f_X12_isSign (h : xa_H) (l0 : Int32) : Option Int32 :=
  if l0 = (61 : Int32) then
    f_X12_isSign_b18 h
  else
    if l0 = (60 : Int32) then
      f_X12_isSign_b18 h
    else
      if l0 = (62 : Int32) then
        f_X12_isSign_b18 h
      else
        some (0 : Int32)
set_option maxRecDepth 20000 in
theorem ev_X12_isSign {G : xa_G} {h : xa_H} {l0 : Int32} {r : Int32} (hf : f_X12_isSign h l0 = some r) : xa_Ev G M_X12_isSign 0 [.int l0] h (some (.int r)) h := by
  refine xa_entry (by decide +kernel) (loc := [some (.int l0)]) rfl (Nat.le_of_ble_eq_true rfl) ?_
  unfold f_X12_isSign at hf
  refine v_iload_n dX12_isSign_0 rfl ?_
  refine v_bipush dX12_isSign_1 (by decide) (v := 61) ?_
  refine v_icmp_eq dX12_isSign_3 (tgt := 18) (by decide) (fun c1 => ?_) (fun c1 => ?_)
  · replace hf := (if_pos c1).symm.trans hf
    exact xa_weak (loc := [none]) trivial (e_X12_isSign_b18 h r hf)
  · replace hf := (if_neg c1).symm.trans hf
    refine v_iload_n dX12_isSign_6 rfl ?_
    refine v_bipush dX12_isSign_7 (by decide) (v := 60) ?_
    refine v_icmp_eq dX12_isSign_9 (tgt := 18) (by decide) (fun c2 => ?_) (fun c2 => ?_)
    · replace hf := (if_pos c2).symm.trans hf
      exact xa_weak (loc := [none]) trivial (e_X12_isSign_b18 h r hf)
    · replace hf := (if_neg c2).symm.trans hf
      refine v_iload_n dX12_isSign_12 rfl ?_
      refine v_bipush dX12_isSign_13 (by decide) (v := 62) ?_
      refine v_icmp_ne dX12_isSign_15 (tgt := 22) (by decide) (fun c3 => ?_) (fun c3 => ?_)
      · replace hf := (if_neg c3).symm.trans hf
        refine v_iconst dX12_isSign_22 (by decide) (v := 0) ?_
        replace hf := Option.some.inj hf
        subst hf
        exact v_zret dX12_isSign_23 rfl (by decide)
      · replace hf := (if_pos c3).symm.trans hf
        exact xa_weak (loc := [none]) trivial (e_X12_isSign_b18 h r hf)
def M_X12_compares : xa_M := (yX12_compares, cX12_compares, 6, some .boolean)
theorem cb_X12_compares : xa_CB M_X12_compares 2 := ⟨gws_at 1587 (by decide +kernel) rfl, gws_at 122 (by decide +kernel) rfl, by decide +kernel, Nat.le_of_ble_eq_true rfl⟩
def f_X12_compares_b12 (h : xa_H) (l0 : Nat) (s0 : Int32) : Option (Int32 × xa_H) :=
  (gI [12] 11 h l0).bind fun x1 =>
  if x1 = (-1 : Int32) then
    (f_X12_look h l0).bind fun q3 =>
    (f_X12_isSign q3.2 q3.1).bind fun q4 =>
    if q4 = 0 then
      (f_X12_fails q3.2 l0).bind fun q14 =>
      (zq q14.1).bind fun z15 =>
      some (z15, q14.2)
    else
      (gI [12] 10 q3.2 l0).bind fun x6 =>
      (xp [12] 10 q3.2 l0 (.int (x6 + (1 : Int32)))).bind fun h7 =>
      (f_X12_sum 120 h7 l0).bind fun q8 =>
      if q3.1 = (61 : Int32) then
        if s0 = q8.1 then
          some ((1 : Int32), q8.2)
        else
          some ((0 : Int32), q8.2)
      else
        if q3.1 = (60 : Int32) then
          if q8.1 ≤ s0 then
            some ((0 : Int32), q8.2)
          else
            some ((1 : Int32), q8.2)
        else
          if s0 ≤ q8.1 then
            some ((0 : Int32), q8.2)
          else
            some ((1 : Int32), q8.2)
  else
    some ((0 : Int32), h)
set_option maxRecDepth 20000 in
theorem e_X12_compares_b12 {G : xa_G} : ∀ (h : xa_H) (l0 : Nat) (s0 : Int32) (r : (Int32 × xa_H)), f_X12_compares_b12 h l0 s0 = some r → xa_V G M_X12_compares 126 12 [some (.ref l0), none, none, none, none, none] [.int s0] h (some (.int r.1)) r.2 := by
  intro h l0 s0 r hf
  unfold f_X12_compares_b12 at hf
  refine v_istore_n (i := 3) rfl dX12_compares_12 (Nat.le_of_ble_eq_true rfl) (loc' := [some (.ref l0), none, none, some (.int s0), none, none]) rfl ?_
  refine v_aload_n dX12_compares_13 rfl ?_
  obtain ⟨x1, ex1, hf⟩ := ob hf
  refine v_getI dX12_compares_14 fl_12_143 ex1 ?_
  refine v_iconst dX12_compares_17 (by decide) (v := -1) ?_
  refine v_icmp_eq dX12_compares_18 (tgt := 23) (by decide) (fun c2 => ?_) (fun c2 => ?_)
  · replace hf := (if_pos c2).symm.trans hf
    refine v_aload_n dX12_compares_23 rfl ?_
    obtain ⟨q3, eq3, hf⟩ := ob hf
    refine v_callV dX12_compares_24 ⟨cb_X12_look, ml_12_153, im_X12_look⟩ se_12_X12_look (ckf_X12_look eq3) (ev_X12_look eq3) (by decide) (As := []) rfl (st := []) rfl (Nat.le_of_ble_eq_true rfl) rfl ?_
    refine v_istore dX12_compares_27 (Nat.le_of_ble_eq_true rfl) (loc' := [some (.ref l0), none, none, some (.int s0), some (.int q3.1), none]) rfl ?_
    refine v_iload dX12_compares_29 rfl ?_
    obtain ⟨q4, eq4, hf⟩ := ob hf
    refine v_callS dX12_compares_31 ⟨cb_X12_isSign, ml_12_196, sm_X12_isSign⟩ (ev_X12_isSign eq4) (by decide) (As := [.int q3.1]) rfl (st := []) rfl (Nat.le_of_ble_eq_true rfl) rfl ?_
    refine v_if_ne dX12_compares_34 (tgt := 42) (by decide) (fun c5 => ?_) (fun c5 => ?_)
    · replace hf := (if_neg c5).symm.trans hf
      refine v_aload_n dX12_compares_42 rfl ?_
      refine v_dup dX12_compares_43 rfl ?_
      obtain ⟨x6, ex6, hf⟩ := ob hf
      refine v_getI dX12_compares_44 fl_12_134 ex6 ?_
      refine v_iconst dX12_compares_47 (by decide) (v := 1) ?_
      refine v_iadd dX12_compares_48 ?_
      obtain ⟨h7, eh7, hf⟩ := ob hf
      refine v_put dX12_compares_49 fp_12_134 (fun z => by cases z) (fun _ => rfl) (fun _ => rfl) eh7 ?_
      refine v_aload_n dX12_compares_52 rfl ?_
      obtain ⟨q8, eq8, hf⟩ := ob hf
      refine v_callV dX12_compares_53 ⟨cb_X12_sum, ml_12_176, im_X12_sum⟩ se_12_X12_sum (ckf_X12_sum eq8) (ev_X12_sum eq8) (by decide) (As := []) rfl (st := []) rfl (Nat.le_of_ble_eq_true rfl) rfl ?_
      refine v_istore dX12_compares_56 (Nat.le_of_ble_eq_true rfl) (loc' := [some (.ref l0), none, none, some (.int s0), some (.int q3.1), some (.int q8.1)]) rfl ?_
      refine v_iload dX12_compares_58 rfl ?_
      refine v_bipush dX12_compares_60 (by decide) (v := 61) ?_
      refine v_icmp_ne dX12_compares_62 (tgt := 79) (by decide) (fun c9 => ?_) (fun c9 => ?_)
      · replace hf := (if_neg c9).symm.trans hf
        refine v_iload dX12_compares_79 rfl ?_
        refine v_bipush dX12_compares_81 (by decide) (v := 60) ?_
        refine v_icmp_ne dX12_compares_83 (tgt := 100) (by decide) (fun c10 => ?_) (fun c10 => ?_)
        · replace hf := (if_neg c10).symm.trans hf
          refine v_iload_n dX12_compares_100 rfl ?_
          refine v_iload dX12_compares_101 rfl ?_
          refine v_icmp_le dX12_compares_103 (tgt := 110) (by decide) (fun c11 => ?_) (fun c11 => ?_)
          · replace hf := (if_pos c11).symm.trans hf
            refine v_iconst dX12_compares_110 (by decide) (v := 0) ?_
            replace hf := Option.some.inj hf
            subst hf
            exact v_zret dX12_compares_111 rfl (by decide)
          · replace hf := (if_neg c11).symm.trans hf
            refine v_iconst dX12_compares_106 (by decide) (v := 1) ?_
            refine v_goto dX12_compares_107 (tgt := 111) (by decide) ?_
            replace hf := Option.some.inj hf
            subst hf
            exact v_zret dX12_compares_111 rfl (by decide)
        · replace hf := (if_pos c10).symm.trans hf
          refine v_iload_n dX12_compares_86 rfl ?_
          refine v_iload dX12_compares_87 rfl ?_
          refine v_icmp_ge dX12_compares_89 (tgt := 96) (by decide) (fun c12 => ?_) (fun c12 => ?_)
          · replace hf := (if_pos c12).symm.trans hf
            refine v_iconst dX12_compares_96 (by decide) (v := 0) ?_
            refine v_goto dX12_compares_97 (tgt := 111) (by decide) ?_
            replace hf := Option.some.inj hf
            subst hf
            exact v_zret dX12_compares_111 rfl (by decide)
          · replace hf := (if_neg c12).symm.trans hf
            refine v_iconst dX12_compares_92 (by decide) (v := 1) ?_
            refine v_goto dX12_compares_93 (tgt := 111) (by decide) ?_
            replace hf := Option.some.inj hf
            subst hf
            exact v_zret dX12_compares_111 rfl (by decide)
      · replace hf := (if_pos c9).symm.trans hf
        refine v_iload_n dX12_compares_65 rfl ?_
        refine v_iload dX12_compares_66 rfl ?_
        refine v_icmp_ne dX12_compares_68 (tgt := 75) (by decide) (fun c13 => ?_) (fun c13 => ?_)
        · replace hf := (if_neg c13).symm.trans hf
          refine v_iconst dX12_compares_75 (by decide) (v := 0) ?_
          refine v_goto dX12_compares_76 (tgt := 111) (by decide) ?_
          replace hf := Option.some.inj hf
          subst hf
          exact v_zret dX12_compares_111 rfl (by decide)
        · replace hf := (if_pos c13).symm.trans hf
          refine v_iconst dX12_compares_71 (by decide) (v := 1) ?_
          refine v_goto dX12_compares_72 (tgt := 111) (by decide) ?_
          replace hf := Option.some.inj hf
          subst hf
          exact v_zret dX12_compares_111 rfl (by decide)
    · replace hf := (if_pos c5).symm.trans hf
      refine v_aload_n dX12_compares_37 rfl ?_
      obtain ⟨q14, eq14, hf⟩ := ob hf
      refine v_callV dX12_compares_38 ⟨cb_X12_fails, ml_12_149, im_X12_fails⟩ se_12_X12_fails (ckf_X12_fails eq14) (ev_X12_fails eq14) (by decide) (As := []) rfl (st := []) rfl (Nat.le_of_ble_eq_true rfl) rfl ?_
      obtain ⟨z15, ez15, hf⟩ := ob hf
      obtain ⟨wz15, qz15⟩ := zq_of ez15
      rw [wz15] at hf
      replace hf := Option.some.inj hf
      subst hf
      exact v_zret dX12_compares_41 rfl qz15
  · replace hf := (if_neg c2).symm.trans hf
    refine v_iconst dX12_compares_21 (by decide) (v := 0) ?_
    replace hf := Option.some.inj hf
    subst hf
    exact v_zret dX12_compares_22 rfl (by decide)
def f_X12_compares (h : xa_H) (l0 : Nat) (l1 : Int32) (l2 : Int32) : Option (Int32 × xa_H) :=
  (ck [12] h l0).bind fun _ =>
  if l1 = 0 then
    (f_X12_sum 120 h l0).bind fun q2 =>
    f_X12_compares_b12 q2.2 l0 q2.1
  else
    f_X12_compares_b12 h l0 l2
set_option maxRecDepth 20000 in
theorem ev_X12_compares {G : xa_G} {h : xa_H} {l0 : Nat} {l1 : Int32} {l2 : Int32} {r : (Int32 × xa_H)} (hf : f_X12_compares h l0 l1 l2 = some r) : xa_Ev G M_X12_compares 126 [.ref l0, .int l1, .int l2] h (some (.int r.1)) r.2 := by
  refine xa_entry (by decide +kernel) (loc := [some (.ref l0), some (.int l1), some (.int l2), none, none, none]) rfl (Nat.le_of_ble_eq_true rfl) ?_
  unfold f_X12_compares at hf
  obtain ⟨u0, eu0, hf⟩ := ob hf
  refine v_iload_n dX12_compares_0 rfl ?_
  refine v_if_eq dX12_compares_1 (tgt := 8) (by decide) (fun c1 => ?_) (fun c1 => ?_)
  · replace hf := (if_pos c1).symm.trans hf
    refine v_aload_n dX12_compares_8 rfl ?_
    obtain ⟨q2, eq2, hf⟩ := ob hf
    refine v_callV dX12_compares_9 ⟨cb_X12_sum, ml_12_176, im_X12_sum⟩ se_12_X12_sum (ckf_X12_sum eq2) (ev_X12_sum eq2) (by decide) (As := []) rfl (st := []) rfl (Nat.le_of_ble_eq_true rfl) rfl ?_
    exact xa_weak (loc := [some (.ref l0), none, none, none, none, none]) ⟨rfl, trivial⟩ (e_X12_compares_b12 q2.2 l0 q2.1 r hf)
  · replace hf := (if_neg c1).symm.trans hf
    refine v_iload_n dX12_compares_4 rfl ?_
    refine v_goto dX12_compares_5 (tgt := 12) (by decide) ?_
    exact xa_weak (loc := [some (.ref l0), none, none, none, none, none]) ⟨rfl, trivial⟩ (e_X12_compares_b12 h l0 l2 r hf)
theorem ckf_X12_compares {h : xa_H} {l0 : Nat} {l1 : Int32} {l2 : Int32} {r : (Int32 × xa_H)} (hf : f_X12_compares h l0 l1 l2 = some r) : ck [12] h l0 = some () := by
  obtain ⟨u, e, -⟩ := ob hf
  exact e
def M_X12_condition : xa_M := (yX12_condition, cX12_condition, 5, some .boolean)
theorem cb_X12_condition : xa_CB M_X12_condition 2 := ⟨gws_at 1579 (by decide +kernel) rfl, gws_at 122 (by decide +kernel) rfl, by decide +kernel, Nat.le_of_ble_eq_true rfl⟩
def M_X12_part : xa_M := (yX12_part, cX12_part, 5, some .boolean)
theorem cb_X12_part : xa_CB M_X12_part 2 := ⟨gws_at 1583 (by decide +kernel) rfl, gws_at 122 (by decide +kernel) rfl, by decide +kernel, Nat.le_of_ble_eq_true rfl⟩
def M_X12_unit : xa_M := (yX12_unit, cX12_unit, 3, some .boolean)
theorem cb_X12_unit : xa_CB M_X12_unit 0 := ⟨gws_at 1617 (by decide +kernel) rfl, gws_at 122 (by decide +kernel) rfl, by decide +kernel, Nat.le_of_ble_eq_true rfl⟩
def f_X12_condition_b60 (c_X12_condition : xa_H → Nat → Int32 → Int32 → Option (Int32 × xa_H)) (c_X12_part : xa_H → Nat → Int32 → Int32 → Option (Int32 × xa_H)) (c_X12_unit : xa_H → Nat → Option (Int32 × xa_H)) (h : xa_H) (l3 : Int32) : Option (Int32 × xa_H) :=
  (zq l3).bind fun z1 =>
  some (z1, h)
set_option maxRecDepth 20000 in
theorem e_X12_condition_b60 {G : xa_G} {d d1 : Nat} {c_X12_condition : xa_H → Nat → Int32 → Int32 → Option (Int32 × xa_H)} (hc_X12_condition : ∀ {h : xa_H} {a0 : Nat} {a1 : Int32} {a2 : Int32} {r : (Int32 × xa_H)}, c_X12_condition h a0 a1 a2 = some r → xa_Ev G M_X12_condition d1 [.ref a0, .int a1, .int a2] h (some (.int r.1)) r.2) (hck_X12_condition : ∀ {h : xa_H} {a0 : Nat} {a1 : Int32} {a2 : Int32} {r : (Int32 × xa_H)}, c_X12_condition h a0 a1 a2 = some r → ck [12] h a0 = some ()) {c_X12_part : xa_H → Nat → Int32 → Int32 → Option (Int32 × xa_H)} (hc_X12_part : ∀ {h : xa_H} {a0 : Nat} {a1 : Int32} {a2 : Int32} {r : (Int32 × xa_H)}, c_X12_part h a0 a1 a2 = some r → xa_Ev G M_X12_part d1 [.ref a0, .int a1, .int a2] h (some (.int r.1)) r.2) (hck_X12_part : ∀ {h : xa_H} {a0 : Nat} {a1 : Int32} {a2 : Int32} {r : (Int32 × xa_H)}, c_X12_part h a0 a1 a2 = some r → ck [12] h a0 = some ()) {c_X12_unit : xa_H → Nat → Option (Int32 × xa_H)} (hc_X12_unit : ∀ {h : xa_H} {a0 : Nat} {r : (Int32 × xa_H)}, c_X12_unit h a0 = some r → xa_Ev G M_X12_unit d1 [.ref a0] h (some (.int r.1)) r.2) (hck_X12_unit : ∀ {h : xa_H} {a0 : Nat} {r : (Int32 × xa_H)}, c_X12_unit h a0 = some r → ck [12] h a0 = some ()) (hdx : 127 ≤ d) (hd1 : d1 + 1 ≤ d) : ∀ (h : xa_H) (l3 : Int32) (r : (Int32 × xa_H)), f_X12_condition_b60 c_X12_condition c_X12_part c_X12_unit h l3 = some r → xa_V G M_X12_condition d 60 [none, none, none, some (.int l3), none] [] h (some (.int r.1)) r.2 := by
  intro h l3 r hf
  unfold f_X12_condition_b60 at hf
  refine v_iload_n dX12_condition_60 rfl ?_
  obtain ⟨z1, ez1, hf⟩ := ob hf
  obtain ⟨wz1, qz1⟩ := zq_of ez1
  rw [wz1] at hf
  replace hf := Option.some.inj hf
  subst hf
  exact v_zret dX12_condition_61 rfl qz1
def f_X12_condition_b56 (c_X12_condition : xa_H → Nat → Int32 → Int32 → Option (Int32 × xa_H)) (c_X12_part : xa_H → Nat → Int32 → Int32 → Option (Int32 × xa_H)) (c_X12_unit : xa_H → Nat → Option (Int32 × xa_H)) (k7 : xa_H → Nat → Int32 → Option (Int32 × xa_H)) (h : xa_H) (l0 : Nat) (s0 : Int32) : Option (Int32 × xa_H) :=
  k7 h l0 s0
set_option maxRecDepth 20000 in
theorem e_X12_condition_b56 {G : xa_G} {d d1 : Nat} {c_X12_condition : xa_H → Nat → Int32 → Int32 → Option (Int32 × xa_H)} (hc_X12_condition : ∀ {h : xa_H} {a0 : Nat} {a1 : Int32} {a2 : Int32} {r : (Int32 × xa_H)}, c_X12_condition h a0 a1 a2 = some r → xa_Ev G M_X12_condition d1 [.ref a0, .int a1, .int a2] h (some (.int r.1)) r.2) (hck_X12_condition : ∀ {h : xa_H} {a0 : Nat} {a1 : Int32} {a2 : Int32} {r : (Int32 × xa_H)}, c_X12_condition h a0 a1 a2 = some r → ck [12] h a0 = some ()) {c_X12_part : xa_H → Nat → Int32 → Int32 → Option (Int32 × xa_H)} (hc_X12_part : ∀ {h : xa_H} {a0 : Nat} {a1 : Int32} {a2 : Int32} {r : (Int32 × xa_H)}, c_X12_part h a0 a1 a2 = some r → xa_Ev G M_X12_part d1 [.ref a0, .int a1, .int a2] h (some (.int r.1)) r.2) (hck_X12_part : ∀ {h : xa_H} {a0 : Nat} {a1 : Int32} {a2 : Int32} {r : (Int32 × xa_H)}, c_X12_part h a0 a1 a2 = some r → ck [12] h a0 = some ()) {c_X12_unit : xa_H → Nat → Option (Int32 × xa_H)} (hc_X12_unit : ∀ {h : xa_H} {a0 : Nat} {r : (Int32 × xa_H)}, c_X12_unit h a0 = some r → xa_Ev G M_X12_unit d1 [.ref a0] h (some (.int r.1)) r.2) (hck_X12_unit : ∀ {h : xa_H} {a0 : Nat} {r : (Int32 × xa_H)}, c_X12_unit h a0 = some r → ck [12] h a0 = some ()) (hdx : 127 ≤ d) (hd1 : d1 + 1 ≤ d) {k7 : xa_H → Nat → Int32 → Option (Int32 × xa_H)} (hk7 : ∀ (h : xa_H) (l0 : Nat) (l3 : Int32) (r : (Int32 × xa_H)), k7 h l0 l3 = some r → xa_V G M_X12_condition d 7 [some (.ref l0), none, none, some (.int l3), none] [] h (some (.int r.1)) r.2) : ∀ (h : xa_H) (l0 : Nat) (s0 : Int32) (r : (Int32 × xa_H)), f_X12_condition_b56 c_X12_condition c_X12_part c_X12_unit k7 h l0 s0 = some r → xa_V G M_X12_condition d 56 [some (.ref l0), none, none, none, none] [.int s0] h (some (.int r.1)) r.2 := by
  intro h l0 s0 r hf
  unfold f_X12_condition_b56 at hf
  refine v_istore_n (i := 3) rfl dX12_condition_56 (Nat.le_of_ble_eq_true rfl) (loc' := [some (.ref l0), none, none, some (.int s0), none]) rfl ?_
  refine v_goto dX12_condition_57 (tgt := 7) (by decide) ?_
  exact hk7 h l0 s0 r hf
def f_X12_condition_b51 (c_X12_condition : xa_H → Nat → Int32 → Int32 → Option (Int32 × xa_H)) (c_X12_part : xa_H → Nat → Int32 → Int32 → Option (Int32 × xa_H)) (c_X12_unit : xa_H → Nat → Option (Int32 × xa_H)) (k7 : xa_H → Nat → Int32 → Option (Int32 × xa_H)) (h : xa_H) (l0 : Nat) : Option (Int32 × xa_H) :=
  f_X12_condition_b56 c_X12_condition c_X12_part c_X12_unit k7 h l0 (1 : Int32)
set_option maxRecDepth 20000 in
theorem e_X12_condition_b51 {G : xa_G} {d d1 : Nat} {c_X12_condition : xa_H → Nat → Int32 → Int32 → Option (Int32 × xa_H)} (hc_X12_condition : ∀ {h : xa_H} {a0 : Nat} {a1 : Int32} {a2 : Int32} {r : (Int32 × xa_H)}, c_X12_condition h a0 a1 a2 = some r → xa_Ev G M_X12_condition d1 [.ref a0, .int a1, .int a2] h (some (.int r.1)) r.2) (hck_X12_condition : ∀ {h : xa_H} {a0 : Nat} {a1 : Int32} {a2 : Int32} {r : (Int32 × xa_H)}, c_X12_condition h a0 a1 a2 = some r → ck [12] h a0 = some ()) {c_X12_part : xa_H → Nat → Int32 → Int32 → Option (Int32 × xa_H)} (hc_X12_part : ∀ {h : xa_H} {a0 : Nat} {a1 : Int32} {a2 : Int32} {r : (Int32 × xa_H)}, c_X12_part h a0 a1 a2 = some r → xa_Ev G M_X12_part d1 [.ref a0, .int a1, .int a2] h (some (.int r.1)) r.2) (hck_X12_part : ∀ {h : xa_H} {a0 : Nat} {a1 : Int32} {a2 : Int32} {r : (Int32 × xa_H)}, c_X12_part h a0 a1 a2 = some r → ck [12] h a0 = some ()) {c_X12_unit : xa_H → Nat → Option (Int32 × xa_H)} (hc_X12_unit : ∀ {h : xa_H} {a0 : Nat} {r : (Int32 × xa_H)}, c_X12_unit h a0 = some r → xa_Ev G M_X12_unit d1 [.ref a0] h (some (.int r.1)) r.2) (hck_X12_unit : ∀ {h : xa_H} {a0 : Nat} {r : (Int32 × xa_H)}, c_X12_unit h a0 = some r → ck [12] h a0 = some ()) (hdx : 127 ≤ d) (hd1 : d1 + 1 ≤ d) {k7 : xa_H → Nat → Int32 → Option (Int32 × xa_H)} (hk7 : ∀ (h : xa_H) (l0 : Nat) (l3 : Int32) (r : (Int32 × xa_H)), k7 h l0 l3 = some r → xa_V G M_X12_condition d 7 [some (.ref l0), none, none, some (.int l3), none] [] h (some (.int r.1)) r.2) : ∀ (h : xa_H) (l0 : Nat) (r : (Int32 × xa_H)), f_X12_condition_b51 c_X12_condition c_X12_part c_X12_unit k7 h l0 = some r → xa_V G M_X12_condition d 51 [some (.ref l0), none, none, none, none] [] h (some (.int r.1)) r.2 := by
  intro h l0 r hf
  unfold f_X12_condition_b51 at hf
  refine v_iconst dX12_condition_51 (by decide) (v := 1) ?_
  refine v_goto dX12_condition_52 (tgt := 56) (by decide) ?_
  exact e_X12_condition_b56 hc_X12_condition hck_X12_condition hc_X12_part hck_X12_part hc_X12_unit hck_X12_unit hdx hd1 hk7 h l0 (1 : Int32) r hf
def f_X12_condition_b7 (c_X12_condition : xa_H → Nat → Int32 → Int32 → Option (Int32 × xa_H)) (c_X12_part : xa_H → Nat → Int32 → Int32 → Option (Int32 × xa_H)) (c_X12_unit : xa_H → Nat → Option (Int32 × xa_H)) : Nat → xa_H → Nat → Int32 → Option (Int32 × xa_H)
  | 0, _, _, _ => none
  | n + 1, h, l0, l3 =>
    (gI [12] 11 h l0).bind fun x1 =>
    if x1 = (-1 : Int32) then
      (f_X12_look h l0).bind fun q3 =>
      if q3.1 = (124 : Int32) then
        (gI [12] 10 q3.2 l0).bind fun x5 =>
        (xp [12] 10 q3.2 l0 (.int (x5 + (1 : Int32)))).bind fun h6 =>
        (c_X12_part h6 l0 (0 : Int32) (0 : Int32)).bind fun q7 =>
        if l3 = 0 then
          if q7.1 = 0 then
            f_X12_condition_b56 c_X12_condition c_X12_part c_X12_unit (fun h l0 l3 => f_X12_condition_b7 c_X12_condition c_X12_part c_X12_unit n h l0 l3) q7.2 l0 (0 : Int32)
          else
            f_X12_condition_b51 c_X12_condition c_X12_part c_X12_unit (fun h l0 l3 => f_X12_condition_b7 c_X12_condition c_X12_part c_X12_unit n h l0 l3) q7.2 l0
        else
          f_X12_condition_b51 c_X12_condition c_X12_part c_X12_unit (fun h l0 l3 => f_X12_condition_b7 c_X12_condition c_X12_part c_X12_unit n h l0 l3) q7.2 l0
      else
        f_X12_condition_b60 c_X12_condition c_X12_part c_X12_unit q3.2 l3
    else
      f_X12_condition_b60 c_X12_condition c_X12_part c_X12_unit h l3
set_option maxRecDepth 20000 in
theorem e_X12_condition_b7 {G : xa_G} {d d1 : Nat} {c_X12_condition : xa_H → Nat → Int32 → Int32 → Option (Int32 × xa_H)} (hc_X12_condition : ∀ {h : xa_H} {a0 : Nat} {a1 : Int32} {a2 : Int32} {r : (Int32 × xa_H)}, c_X12_condition h a0 a1 a2 = some r → xa_Ev G M_X12_condition d1 [.ref a0, .int a1, .int a2] h (some (.int r.1)) r.2) (hck_X12_condition : ∀ {h : xa_H} {a0 : Nat} {a1 : Int32} {a2 : Int32} {r : (Int32 × xa_H)}, c_X12_condition h a0 a1 a2 = some r → ck [12] h a0 = some ()) {c_X12_part : xa_H → Nat → Int32 → Int32 → Option (Int32 × xa_H)} (hc_X12_part : ∀ {h : xa_H} {a0 : Nat} {a1 : Int32} {a2 : Int32} {r : (Int32 × xa_H)}, c_X12_part h a0 a1 a2 = some r → xa_Ev G M_X12_part d1 [.ref a0, .int a1, .int a2] h (some (.int r.1)) r.2) (hck_X12_part : ∀ {h : xa_H} {a0 : Nat} {a1 : Int32} {a2 : Int32} {r : (Int32 × xa_H)}, c_X12_part h a0 a1 a2 = some r → ck [12] h a0 = some ()) {c_X12_unit : xa_H → Nat → Option (Int32 × xa_H)} (hc_X12_unit : ∀ {h : xa_H} {a0 : Nat} {r : (Int32 × xa_H)}, c_X12_unit h a0 = some r → xa_Ev G M_X12_unit d1 [.ref a0] h (some (.int r.1)) r.2) (hck_X12_unit : ∀ {h : xa_H} {a0 : Nat} {r : (Int32 × xa_H)}, c_X12_unit h a0 = some r → ck [12] h a0 = some ()) (hdx : 127 ≤ d) (hd1 : d1 + 1 ≤ d) : ∀ (n : Nat) (h : xa_H) (l0 : Nat) (l3 : Int32) (r : (Int32 × xa_H)), f_X12_condition_b7 c_X12_condition c_X12_part c_X12_unit n h l0 l3 = some r → xa_V G M_X12_condition d 7 [some (.ref l0), none, none, some (.int l3), none] [] h (some (.int r.1)) r.2 := by
  intro n
  induction n with
  | zero =>
    intro h l0 l3 r hf
    cases (show (none : Option (Int32 × xa_H)) = some r from hf)
  | succ n ih =>
    intro h l0 l3 r hf
    rw [f_X12_condition_b7] at hf
    refine v_aload_n dX12_condition_7 rfl ?_
    obtain ⟨x1, ex1, hf⟩ := ob hf
    refine v_getI dX12_condition_8 fl_12_143 ex1 ?_
    refine v_iconst dX12_condition_11 (by decide) (v := -1) ?_
    refine v_icmp_ne dX12_condition_12 (tgt := 60) (by decide) (fun c2 => ?_) (fun c2 => ?_)
    · replace hf := (if_neg c2).symm.trans hf
      exact xa_weak (loc := [none, none, none, some (.int l3), none]) ⟨rfl, trivial⟩ (e_X12_condition_b60 hc_X12_condition hck_X12_condition hc_X12_part hck_X12_part hc_X12_unit hck_X12_unit hdx hd1 h l3 r hf)
    · replace hf := (if_pos c2).symm.trans hf
      refine v_aload_n dX12_condition_15 rfl ?_
      obtain ⟨q3, eq3, hf⟩ := ob hf
      refine v_callV dX12_condition_16 ⟨cb_X12_look, ml_12_153, im_X12_look⟩ se_12_X12_look (ckf_X12_look eq3) (ev_X12_look eq3) (Nat.le_trans (by decide) hdx) (As := []) rfl (st := []) rfl (Nat.le_of_ble_eq_true rfl) rfl ?_
      refine v_bipush dX12_condition_19 (by decide) (v := 124) ?_
      refine v_icmp_ne dX12_condition_21 (tgt := 60) (by decide) (fun c4 => ?_) (fun c4 => ?_)
      · replace hf := (if_neg c4).symm.trans hf
        exact xa_weak (loc := [none, none, none, some (.int l3), none]) ⟨rfl, trivial⟩ (e_X12_condition_b60 hc_X12_condition hck_X12_condition hc_X12_part hck_X12_part hc_X12_unit hck_X12_unit hdx hd1 q3.2 l3 r hf)
      · replace hf := (if_pos c4).symm.trans hf
        refine v_aload_n dX12_condition_24 rfl ?_
        refine v_dup dX12_condition_25 rfl ?_
        obtain ⟨x5, ex5, hf⟩ := ob hf
        refine v_getI dX12_condition_26 fl_12_134 ex5 ?_
        refine v_iconst dX12_condition_29 (by decide) (v := 1) ?_
        refine v_iadd dX12_condition_30 ?_
        obtain ⟨h6, eh6, hf⟩ := ob hf
        refine v_put dX12_condition_31 fp_12_134 (fun z => by cases z) (fun _ => rfl) (fun _ => rfl) eh6 ?_
        refine v_aload_n dX12_condition_34 rfl ?_
        refine v_iconst dX12_condition_35 (by decide) (v := 0) ?_
        refine v_iconst dX12_condition_36 (by decide) (v := 0) ?_
        obtain ⟨q7, eq7, hf⟩ := ob hf
        refine v_callV dX12_condition_37 ⟨cb_X12_part, ml_12_209, im_X12_part⟩ se_12_X12_part (hck_X12_part eq7) (hc_X12_part eq7) hd1 (As := [.int (0 : Int32), .int (0 : Int32)]) rfl (st := []) rfl (Nat.le_of_ble_eq_true rfl) rfl ?_
        refine v_istore dX12_condition_40 (Nat.le_of_ble_eq_true rfl) (loc' := [some (.ref l0), none, none, some (.int l3), some (.int q7.1)]) rfl ?_
        refine v_iload_n dX12_condition_42 rfl ?_
        refine v_if_ne dX12_condition_43 (tgt := 51) (by decide) (fun c8 => ?_) (fun c8 => ?_)
        · replace hf := (if_neg c8).symm.trans hf
          exact xa_weak (loc := [some (.ref l0), none, none, none, none]) ⟨rfl, trivial⟩ (e_X12_condition_b51 hc_X12_condition hck_X12_condition hc_X12_part hck_X12_part hc_X12_unit hck_X12_unit hdx hd1 ih q7.2 l0 r hf)
        · replace hf := (if_pos c8).symm.trans hf
          refine v_iload dX12_condition_46 rfl ?_
          refine v_if_eq dX12_condition_48 (tgt := 55) (by decide) (fun c9 => ?_) (fun c9 => ?_)
          · replace hf := (if_pos c9).symm.trans hf
            refine v_iconst dX12_condition_55 (by decide) (v := 0) ?_
            exact xa_weak (loc := [some (.ref l0), none, none, none, none]) ⟨rfl, trivial⟩ (e_X12_condition_b56 hc_X12_condition hck_X12_condition hc_X12_part hck_X12_part hc_X12_unit hck_X12_unit hdx hd1 ih q7.2 l0 (0 : Int32) r hf)
          · replace hf := (if_neg c9).symm.trans hf
            exact xa_weak (loc := [some (.ref l0), none, none, none, none]) ⟨rfl, trivial⟩ (e_X12_condition_b51 hc_X12_condition hck_X12_condition hc_X12_part hck_X12_part hc_X12_unit hck_X12_unit hdx hd1 ih q7.2 l0 r hf)
def g_X12_condition (c_X12_condition : xa_H → Nat → Int32 → Int32 → Option (Int32 × xa_H)) (c_X12_part : xa_H → Nat → Int32 → Int32 → Option (Int32 × xa_H)) (c_X12_unit : xa_H → Nat → Option (Int32 × xa_H)) (h : xa_H) (l0 : Nat) (l1 : Int32) (l2 : Int32) : Option (Int32 × xa_H) :=
  (ck [12] h l0).bind fun _ =>
  (c_X12_part h l0 l1 l2).bind fun q1 =>
  f_X12_condition_b7 c_X12_condition c_X12_part c_X12_unit 1048576 q1.2 l0 q1.1
set_option maxRecDepth 20000 in
theorem eg_X12_condition {G : xa_G} {d d1 : Nat} {c_X12_condition : xa_H → Nat → Int32 → Int32 → Option (Int32 × xa_H)} (hc_X12_condition : ∀ {h : xa_H} {a0 : Nat} {a1 : Int32} {a2 : Int32} {r : (Int32 × xa_H)}, c_X12_condition h a0 a1 a2 = some r → xa_Ev G M_X12_condition d1 [.ref a0, .int a1, .int a2] h (some (.int r.1)) r.2) (hck_X12_condition : ∀ {h : xa_H} {a0 : Nat} {a1 : Int32} {a2 : Int32} {r : (Int32 × xa_H)}, c_X12_condition h a0 a1 a2 = some r → ck [12] h a0 = some ()) {c_X12_part : xa_H → Nat → Int32 → Int32 → Option (Int32 × xa_H)} (hc_X12_part : ∀ {h : xa_H} {a0 : Nat} {a1 : Int32} {a2 : Int32} {r : (Int32 × xa_H)}, c_X12_part h a0 a1 a2 = some r → xa_Ev G M_X12_part d1 [.ref a0, .int a1, .int a2] h (some (.int r.1)) r.2) (hck_X12_part : ∀ {h : xa_H} {a0 : Nat} {a1 : Int32} {a2 : Int32} {r : (Int32 × xa_H)}, c_X12_part h a0 a1 a2 = some r → ck [12] h a0 = some ()) {c_X12_unit : xa_H → Nat → Option (Int32 × xa_H)} (hc_X12_unit : ∀ {h : xa_H} {a0 : Nat} {r : (Int32 × xa_H)}, c_X12_unit h a0 = some r → xa_Ev G M_X12_unit d1 [.ref a0] h (some (.int r.1)) r.2) (hck_X12_unit : ∀ {h : xa_H} {a0 : Nat} {r : (Int32 × xa_H)}, c_X12_unit h a0 = some r → ck [12] h a0 = some ()) (hdx : 127 ≤ d) (hd1 : d1 + 1 ≤ d) {h : xa_H} {l0 : Nat} {l1 : Int32} {l2 : Int32} {r : (Int32 × xa_H)} (hf : g_X12_condition c_X12_condition c_X12_part c_X12_unit h l0 l1 l2 = some r) : xa_Ev G M_X12_condition d [.ref l0, .int l1, .int l2] h (some (.int r.1)) r.2 := by
  refine xa_entry (by decide +kernel) (loc := [some (.ref l0), some (.int l1), some (.int l2), none, none]) rfl (Nat.le_of_ble_eq_true rfl) ?_
  unfold g_X12_condition at hf
  obtain ⟨u0, eu0, hf⟩ := ob hf
  refine v_aload_n dX12_condition_0 rfl ?_
  refine v_iload_n dX12_condition_1 rfl ?_
  refine v_iload_n dX12_condition_2 rfl ?_
  obtain ⟨q1, eq1, hf⟩ := ob hf
  refine v_callV dX12_condition_3 ⟨cb_X12_part, ml_12_209, im_X12_part⟩ se_12_X12_part (hck_X12_part eq1) (hc_X12_part eq1) hd1 (As := [.int l1, .int l2]) rfl (st := []) rfl (Nat.le_of_ble_eq_true rfl) rfl ?_
  refine v_istore_n (i := 3) rfl dX12_condition_6 (Nat.le_of_ble_eq_true rfl) (loc' := [some (.ref l0), some (.int l1), some (.int l2), some (.int q1.1), none]) rfl ?_
  exact xa_weak (loc := [some (.ref l0), none, none, some (.int q1.1), none]) ⟨rfl, ⟨rfl, trivial⟩⟩ (e_X12_condition_b7 hc_X12_condition hck_X12_condition hc_X12_part hck_X12_part hc_X12_unit hck_X12_unit hdx hd1 1048576 q1.2 l0 q1.1 r hf)
theorem cg_X12_condition {c_X12_condition : xa_H → Nat → Int32 → Int32 → Option (Int32 × xa_H)} {c_X12_part : xa_H → Nat → Int32 → Int32 → Option (Int32 × xa_H)} {c_X12_unit : xa_H → Nat → Option (Int32 × xa_H)} {h : xa_H} {l0 : Nat} {l1 : Int32} {l2 : Int32} {r : (Int32 × xa_H)} (hf : g_X12_condition c_X12_condition c_X12_part c_X12_unit h l0 l1 l2 = some r) : ck [12] h l0 = some () := by
  obtain ⟨u, e, -⟩ := ob hf
  exact e
def f_X12_part_b69 (c_X12_condition : xa_H → Nat → Int32 → Int32 → Option (Int32 × xa_H)) (c_X12_part : xa_H → Nat → Int32 → Int32 → Option (Int32 × xa_H)) (c_X12_unit : xa_H → Nat → Option (Int32 × xa_H)) (h : xa_H) (l3 : Int32) : Option (Int32 × xa_H) :=
  (zq l3).bind fun z1 =>
  some (z1, h)
set_option maxRecDepth 20000 in
theorem e_X12_part_b69 {G : xa_G} {d d1 : Nat} {c_X12_condition : xa_H → Nat → Int32 → Int32 → Option (Int32 × xa_H)} (hc_X12_condition : ∀ {h : xa_H} {a0 : Nat} {a1 : Int32} {a2 : Int32} {r : (Int32 × xa_H)}, c_X12_condition h a0 a1 a2 = some r → xa_Ev G M_X12_condition d1 [.ref a0, .int a1, .int a2] h (some (.int r.1)) r.2) (hck_X12_condition : ∀ {h : xa_H} {a0 : Nat} {a1 : Int32} {a2 : Int32} {r : (Int32 × xa_H)}, c_X12_condition h a0 a1 a2 = some r → ck [12] h a0 = some ()) {c_X12_part : xa_H → Nat → Int32 → Int32 → Option (Int32 × xa_H)} (hc_X12_part : ∀ {h : xa_H} {a0 : Nat} {a1 : Int32} {a2 : Int32} {r : (Int32 × xa_H)}, c_X12_part h a0 a1 a2 = some r → xa_Ev G M_X12_part d1 [.ref a0, .int a1, .int a2] h (some (.int r.1)) r.2) (hck_X12_part : ∀ {h : xa_H} {a0 : Nat} {a1 : Int32} {a2 : Int32} {r : (Int32 × xa_H)}, c_X12_part h a0 a1 a2 = some r → ck [12] h a0 = some ()) {c_X12_unit : xa_H → Nat → Option (Int32 × xa_H)} (hc_X12_unit : ∀ {h : xa_H} {a0 : Nat} {r : (Int32 × xa_H)}, c_X12_unit h a0 = some r → xa_Ev G M_X12_unit d1 [.ref a0] h (some (.int r.1)) r.2) (hck_X12_unit : ∀ {h : xa_H} {a0 : Nat} {r : (Int32 × xa_H)}, c_X12_unit h a0 = some r → ck [12] h a0 = some ()) (hdx : 127 ≤ d) (hd1 : d1 + 1 ≤ d) : ∀ (h : xa_H) (l3 : Int32) (r : (Int32 × xa_H)), f_X12_part_b69 c_X12_condition c_X12_part c_X12_unit h l3 = some r → xa_V G M_X12_part d 69 [none, none, none, some (.int l3), none] [] h (some (.int r.1)) r.2 := by
  intro h l3 r hf
  unfold f_X12_part_b69 at hf
  refine v_iload_n dX12_part_69 rfl ?_
  obtain ⟨z1, ez1, hf⟩ := ob hf
  obtain ⟨wz1, qz1⟩ := zq_of ez1
  rw [wz1] at hf
  replace hf := Option.some.inj hf
  subst hf
  exact v_zret dX12_part_70 rfl qz1
def f_X12_part_b65 (c_X12_condition : xa_H → Nat → Int32 → Int32 → Option (Int32 × xa_H)) (c_X12_part : xa_H → Nat → Int32 → Int32 → Option (Int32 × xa_H)) (c_X12_unit : xa_H → Nat → Option (Int32 × xa_H)) (k18 : xa_H → Nat → Int32 → Option (Int32 × xa_H)) (h : xa_H) (l0 : Nat) (s0 : Int32) : Option (Int32 × xa_H) :=
  k18 h l0 s0
set_option maxRecDepth 20000 in
theorem e_X12_part_b65 {G : xa_G} {d d1 : Nat} {c_X12_condition : xa_H → Nat → Int32 → Int32 → Option (Int32 × xa_H)} (hc_X12_condition : ∀ {h : xa_H} {a0 : Nat} {a1 : Int32} {a2 : Int32} {r : (Int32 × xa_H)}, c_X12_condition h a0 a1 a2 = some r → xa_Ev G M_X12_condition d1 [.ref a0, .int a1, .int a2] h (some (.int r.1)) r.2) (hck_X12_condition : ∀ {h : xa_H} {a0 : Nat} {a1 : Int32} {a2 : Int32} {r : (Int32 × xa_H)}, c_X12_condition h a0 a1 a2 = some r → ck [12] h a0 = some ()) {c_X12_part : xa_H → Nat → Int32 → Int32 → Option (Int32 × xa_H)} (hc_X12_part : ∀ {h : xa_H} {a0 : Nat} {a1 : Int32} {a2 : Int32} {r : (Int32 × xa_H)}, c_X12_part h a0 a1 a2 = some r → xa_Ev G M_X12_part d1 [.ref a0, .int a1, .int a2] h (some (.int r.1)) r.2) (hck_X12_part : ∀ {h : xa_H} {a0 : Nat} {a1 : Int32} {a2 : Int32} {r : (Int32 × xa_H)}, c_X12_part h a0 a1 a2 = some r → ck [12] h a0 = some ()) {c_X12_unit : xa_H → Nat → Option (Int32 × xa_H)} (hc_X12_unit : ∀ {h : xa_H} {a0 : Nat} {r : (Int32 × xa_H)}, c_X12_unit h a0 = some r → xa_Ev G M_X12_unit d1 [.ref a0] h (some (.int r.1)) r.2) (hck_X12_unit : ∀ {h : xa_H} {a0 : Nat} {r : (Int32 × xa_H)}, c_X12_unit h a0 = some r → ck [12] h a0 = some ()) (hdx : 127 ≤ d) (hd1 : d1 + 1 ≤ d) {k18 : xa_H → Nat → Int32 → Option (Int32 × xa_H)} (hk18 : ∀ (h : xa_H) (l0 : Nat) (l3 : Int32) (r : (Int32 × xa_H)), k18 h l0 l3 = some r → xa_V G M_X12_part d 18 [some (.ref l0), none, none, some (.int l3), none] [] h (some (.int r.1)) r.2) : ∀ (h : xa_H) (l0 : Nat) (s0 : Int32) (r : (Int32 × xa_H)), f_X12_part_b65 c_X12_condition c_X12_part c_X12_unit k18 h l0 s0 = some r → xa_V G M_X12_part d 65 [some (.ref l0), none, none, none, none] [.int s0] h (some (.int r.1)) r.2 := by
  intro h l0 s0 r hf
  unfold f_X12_part_b65 at hf
  refine v_istore_n (i := 3) rfl dX12_part_65 (Nat.le_of_ble_eq_true rfl) (loc' := [some (.ref l0), none, none, some (.int s0), none]) rfl ?_
  refine v_goto dX12_part_66 (tgt := 18) (by decide) ?_
  exact hk18 h l0 s0 r hf
def f_X12_part_b64 (c_X12_condition : xa_H → Nat → Int32 → Int32 → Option (Int32 × xa_H)) (c_X12_part : xa_H → Nat → Int32 → Int32 → Option (Int32 × xa_H)) (c_X12_unit : xa_H → Nat → Option (Int32 × xa_H)) (k18 : xa_H → Nat → Int32 → Option (Int32 × xa_H)) (h : xa_H) (l0 : Nat) : Option (Int32 × xa_H) :=
  f_X12_part_b65 c_X12_condition c_X12_part c_X12_unit k18 h l0 (0 : Int32)
set_option maxRecDepth 20000 in
theorem e_X12_part_b64 {G : xa_G} {d d1 : Nat} {c_X12_condition : xa_H → Nat → Int32 → Int32 → Option (Int32 × xa_H)} (hc_X12_condition : ∀ {h : xa_H} {a0 : Nat} {a1 : Int32} {a2 : Int32} {r : (Int32 × xa_H)}, c_X12_condition h a0 a1 a2 = some r → xa_Ev G M_X12_condition d1 [.ref a0, .int a1, .int a2] h (some (.int r.1)) r.2) (hck_X12_condition : ∀ {h : xa_H} {a0 : Nat} {a1 : Int32} {a2 : Int32} {r : (Int32 × xa_H)}, c_X12_condition h a0 a1 a2 = some r → ck [12] h a0 = some ()) {c_X12_part : xa_H → Nat → Int32 → Int32 → Option (Int32 × xa_H)} (hc_X12_part : ∀ {h : xa_H} {a0 : Nat} {a1 : Int32} {a2 : Int32} {r : (Int32 × xa_H)}, c_X12_part h a0 a1 a2 = some r → xa_Ev G M_X12_part d1 [.ref a0, .int a1, .int a2] h (some (.int r.1)) r.2) (hck_X12_part : ∀ {h : xa_H} {a0 : Nat} {a1 : Int32} {a2 : Int32} {r : (Int32 × xa_H)}, c_X12_part h a0 a1 a2 = some r → ck [12] h a0 = some ()) {c_X12_unit : xa_H → Nat → Option (Int32 × xa_H)} (hc_X12_unit : ∀ {h : xa_H} {a0 : Nat} {r : (Int32 × xa_H)}, c_X12_unit h a0 = some r → xa_Ev G M_X12_unit d1 [.ref a0] h (some (.int r.1)) r.2) (hck_X12_unit : ∀ {h : xa_H} {a0 : Nat} {r : (Int32 × xa_H)}, c_X12_unit h a0 = some r → ck [12] h a0 = some ()) (hdx : 127 ≤ d) (hd1 : d1 + 1 ≤ d) {k18 : xa_H → Nat → Int32 → Option (Int32 × xa_H)} (hk18 : ∀ (h : xa_H) (l0 : Nat) (l3 : Int32) (r : (Int32 × xa_H)), k18 h l0 l3 = some r → xa_V G M_X12_part d 18 [some (.ref l0), none, none, some (.int l3), none] [] h (some (.int r.1)) r.2) : ∀ (h : xa_H) (l0 : Nat) (r : (Int32 × xa_H)), f_X12_part_b64 c_X12_condition c_X12_part c_X12_unit k18 h l0 = some r → xa_V G M_X12_part d 64 [some (.ref l0), none, none, none, none] [] h (some (.int r.1)) r.2 := by
  intro h l0 r hf
  unfold f_X12_part_b64 at hf
  refine v_iconst dX12_part_64 (by decide) (v := 0) ?_
  exact e_X12_part_b65 hc_X12_condition hck_X12_condition hc_X12_part hck_X12_part hc_X12_unit hck_X12_unit hdx hd1 hk18 h l0 (0 : Int32) r hf
def f_X12_part_b18 (c_X12_condition : xa_H → Nat → Int32 → Int32 → Option (Int32 × xa_H)) (c_X12_part : xa_H → Nat → Int32 → Int32 → Option (Int32 × xa_H)) (c_X12_unit : xa_H → Nat → Option (Int32 × xa_H)) : Nat → xa_H → Nat → Int32 → Option (Int32 × xa_H)
  | 0, _, _, _ => none
  | n + 1, h, l0, l3 =>
    (gI [12] 11 h l0).bind fun x1 =>
    if x1 = (-1 : Int32) then
      (f_X12_look h l0).bind fun q3 =>
      if q3.1 = (38 : Int32) then
        (gI [12] 10 q3.2 l0).bind fun x5 =>
        (xp [12] 10 q3.2 l0 (.int (x5 + (1 : Int32)))).bind fun h6 =>
        (c_X12_unit h6 l0).bind fun q7 =>
        if l3 = 0 then
          f_X12_part_b64 c_X12_condition c_X12_part c_X12_unit (fun h l0 l3 => f_X12_part_b18 c_X12_condition c_X12_part c_X12_unit n h l0 l3) q7.2 l0
        else
          if q7.1 = 0 then
            f_X12_part_b64 c_X12_condition c_X12_part c_X12_unit (fun h l0 l3 => f_X12_part_b18 c_X12_condition c_X12_part c_X12_unit n h l0 l3) q7.2 l0
          else
            f_X12_part_b65 c_X12_condition c_X12_part c_X12_unit (fun h l0 l3 => f_X12_part_b18 c_X12_condition c_X12_part c_X12_unit n h l0 l3) q7.2 l0 (1 : Int32)
      else
        f_X12_part_b69 c_X12_condition c_X12_part c_X12_unit q3.2 l3
    else
      f_X12_part_b69 c_X12_condition c_X12_part c_X12_unit h l3
set_option maxRecDepth 20000 in
theorem e_X12_part_b18 {G : xa_G} {d d1 : Nat} {c_X12_condition : xa_H → Nat → Int32 → Int32 → Option (Int32 × xa_H)} (hc_X12_condition : ∀ {h : xa_H} {a0 : Nat} {a1 : Int32} {a2 : Int32} {r : (Int32 × xa_H)}, c_X12_condition h a0 a1 a2 = some r → xa_Ev G M_X12_condition d1 [.ref a0, .int a1, .int a2] h (some (.int r.1)) r.2) (hck_X12_condition : ∀ {h : xa_H} {a0 : Nat} {a1 : Int32} {a2 : Int32} {r : (Int32 × xa_H)}, c_X12_condition h a0 a1 a2 = some r → ck [12] h a0 = some ()) {c_X12_part : xa_H → Nat → Int32 → Int32 → Option (Int32 × xa_H)} (hc_X12_part : ∀ {h : xa_H} {a0 : Nat} {a1 : Int32} {a2 : Int32} {r : (Int32 × xa_H)}, c_X12_part h a0 a1 a2 = some r → xa_Ev G M_X12_part d1 [.ref a0, .int a1, .int a2] h (some (.int r.1)) r.2) (hck_X12_part : ∀ {h : xa_H} {a0 : Nat} {a1 : Int32} {a2 : Int32} {r : (Int32 × xa_H)}, c_X12_part h a0 a1 a2 = some r → ck [12] h a0 = some ()) {c_X12_unit : xa_H → Nat → Option (Int32 × xa_H)} (hc_X12_unit : ∀ {h : xa_H} {a0 : Nat} {r : (Int32 × xa_H)}, c_X12_unit h a0 = some r → xa_Ev G M_X12_unit d1 [.ref a0] h (some (.int r.1)) r.2) (hck_X12_unit : ∀ {h : xa_H} {a0 : Nat} {r : (Int32 × xa_H)}, c_X12_unit h a0 = some r → ck [12] h a0 = some ()) (hdx : 127 ≤ d) (hd1 : d1 + 1 ≤ d) : ∀ (n : Nat) (h : xa_H) (l0 : Nat) (l3 : Int32) (r : (Int32 × xa_H)), f_X12_part_b18 c_X12_condition c_X12_part c_X12_unit n h l0 l3 = some r → xa_V G M_X12_part d 18 [some (.ref l0), none, none, some (.int l3), none] [] h (some (.int r.1)) r.2 := by
  intro n
  induction n with
  | zero =>
    intro h l0 l3 r hf
    cases (show (none : Option (Int32 × xa_H)) = some r from hf)
  | succ n ih =>
    intro h l0 l3 r hf
    rw [f_X12_part_b18] at hf
    refine v_aload_n dX12_part_18 rfl ?_
    obtain ⟨x1, ex1, hf⟩ := ob hf
    refine v_getI dX12_part_19 fl_12_143 ex1 ?_
    refine v_iconst dX12_part_22 (by decide) (v := -1) ?_
    refine v_icmp_ne dX12_part_23 (tgt := 69) (by decide) (fun c2 => ?_) (fun c2 => ?_)
    · replace hf := (if_neg c2).symm.trans hf
      exact xa_weak (loc := [none, none, none, some (.int l3), none]) ⟨rfl, trivial⟩ (e_X12_part_b69 hc_X12_condition hck_X12_condition hc_X12_part hck_X12_part hc_X12_unit hck_X12_unit hdx hd1 h l3 r hf)
    · replace hf := (if_pos c2).symm.trans hf
      refine v_aload_n dX12_part_26 rfl ?_
      obtain ⟨q3, eq3, hf⟩ := ob hf
      refine v_callV dX12_part_27 ⟨cb_X12_look, ml_12_153, im_X12_look⟩ se_12_X12_look (ckf_X12_look eq3) (ev_X12_look eq3) (Nat.le_trans (by decide) hdx) (As := []) rfl (st := []) rfl (Nat.le_of_ble_eq_true rfl) rfl ?_
      refine v_bipush dX12_part_30 (by decide) (v := 38) ?_
      refine v_icmp_ne dX12_part_32 (tgt := 69) (by decide) (fun c4 => ?_) (fun c4 => ?_)
      · replace hf := (if_neg c4).symm.trans hf
        exact xa_weak (loc := [none, none, none, some (.int l3), none]) ⟨rfl, trivial⟩ (e_X12_part_b69 hc_X12_condition hck_X12_condition hc_X12_part hck_X12_part hc_X12_unit hck_X12_unit hdx hd1 q3.2 l3 r hf)
      · replace hf := (if_pos c4).symm.trans hf
        refine v_aload_n dX12_part_35 rfl ?_
        refine v_dup dX12_part_36 rfl ?_
        obtain ⟨x5, ex5, hf⟩ := ob hf
        refine v_getI dX12_part_37 fl_12_134 ex5 ?_
        refine v_iconst dX12_part_40 (by decide) (v := 1) ?_
        refine v_iadd dX12_part_41 ?_
        obtain ⟨h6, eh6, hf⟩ := ob hf
        refine v_put dX12_part_42 fp_12_134 (fun z => by cases z) (fun _ => rfl) (fun _ => rfl) eh6 ?_
        refine v_aload_n dX12_part_45 rfl ?_
        obtain ⟨q7, eq7, hf⟩ := ob hf
        refine v_callV dX12_part_46 ⟨cb_X12_unit, ml_12_199, im_X12_unit⟩ se_12_X12_unit (hck_X12_unit eq7) (hc_X12_unit eq7) hd1 (As := []) rfl (st := []) rfl (Nat.le_of_ble_eq_true rfl) rfl ?_
        refine v_istore dX12_part_49 (Nat.le_of_ble_eq_true rfl) (loc' := [some (.ref l0), none, none, some (.int l3), some (.int q7.1)]) rfl ?_
        refine v_iload_n dX12_part_51 rfl ?_
        refine v_if_eq dX12_part_52 (tgt := 64) (by decide) (fun c8 => ?_) (fun c8 => ?_)
        · replace hf := (if_pos c8).symm.trans hf
          exact xa_weak (loc := [some (.ref l0), none, none, none, none]) ⟨rfl, trivial⟩ (e_X12_part_b64 hc_X12_condition hck_X12_condition hc_X12_part hck_X12_part hc_X12_unit hck_X12_unit hdx hd1 ih q7.2 l0 r hf)
        · replace hf := (if_neg c8).symm.trans hf
          refine v_iload dX12_part_55 rfl ?_
          refine v_if_eq dX12_part_57 (tgt := 64) (by decide) (fun c9 => ?_) (fun c9 => ?_)
          · replace hf := (if_pos c9).symm.trans hf
            exact xa_weak (loc := [some (.ref l0), none, none, none, none]) ⟨rfl, trivial⟩ (e_X12_part_b64 hc_X12_condition hck_X12_condition hc_X12_part hck_X12_part hc_X12_unit hck_X12_unit hdx hd1 ih q7.2 l0 r hf)
          · replace hf := (if_neg c9).symm.trans hf
            refine v_iconst dX12_part_60 (by decide) (v := 1) ?_
            refine v_goto dX12_part_61 (tgt := 65) (by decide) ?_
            exact xa_weak (loc := [some (.ref l0), none, none, none, none]) ⟨rfl, trivial⟩ (e_X12_part_b65 hc_X12_condition hck_X12_condition hc_X12_part hck_X12_part hc_X12_unit hck_X12_unit hdx hd1 ih q7.2 l0 (1 : Int32) r hf)
def f_X12_part_b17 (c_X12_condition : xa_H → Nat → Int32 → Int32 → Option (Int32 × xa_H)) (c_X12_part : xa_H → Nat → Int32 → Int32 → Option (Int32 × xa_H)) (c_X12_unit : xa_H → Nat → Option (Int32 × xa_H)) (h : xa_H) (l0 : Nat) (s0 : Int32) : Option (Int32 × xa_H) :=
  f_X12_part_b18 c_X12_condition c_X12_part c_X12_unit 1048576 h l0 s0
set_option maxRecDepth 20000 in
theorem e_X12_part_b17 {G : xa_G} {d d1 : Nat} {c_X12_condition : xa_H → Nat → Int32 → Int32 → Option (Int32 × xa_H)} (hc_X12_condition : ∀ {h : xa_H} {a0 : Nat} {a1 : Int32} {a2 : Int32} {r : (Int32 × xa_H)}, c_X12_condition h a0 a1 a2 = some r → xa_Ev G M_X12_condition d1 [.ref a0, .int a1, .int a2] h (some (.int r.1)) r.2) (hck_X12_condition : ∀ {h : xa_H} {a0 : Nat} {a1 : Int32} {a2 : Int32} {r : (Int32 × xa_H)}, c_X12_condition h a0 a1 a2 = some r → ck [12] h a0 = some ()) {c_X12_part : xa_H → Nat → Int32 → Int32 → Option (Int32 × xa_H)} (hc_X12_part : ∀ {h : xa_H} {a0 : Nat} {a1 : Int32} {a2 : Int32} {r : (Int32 × xa_H)}, c_X12_part h a0 a1 a2 = some r → xa_Ev G M_X12_part d1 [.ref a0, .int a1, .int a2] h (some (.int r.1)) r.2) (hck_X12_part : ∀ {h : xa_H} {a0 : Nat} {a1 : Int32} {a2 : Int32} {r : (Int32 × xa_H)}, c_X12_part h a0 a1 a2 = some r → ck [12] h a0 = some ()) {c_X12_unit : xa_H → Nat → Option (Int32 × xa_H)} (hc_X12_unit : ∀ {h : xa_H} {a0 : Nat} {r : (Int32 × xa_H)}, c_X12_unit h a0 = some r → xa_Ev G M_X12_unit d1 [.ref a0] h (some (.int r.1)) r.2) (hck_X12_unit : ∀ {h : xa_H} {a0 : Nat} {r : (Int32 × xa_H)}, c_X12_unit h a0 = some r → ck [12] h a0 = some ()) (hdx : 127 ≤ d) (hd1 : d1 + 1 ≤ d) : ∀ (h : xa_H) (l0 : Nat) (s0 : Int32) (r : (Int32 × xa_H)), f_X12_part_b17 c_X12_condition c_X12_part c_X12_unit h l0 s0 = some r → xa_V G M_X12_part d 17 [some (.ref l0), none, none, none, none] [.int s0] h (some (.int r.1)) r.2 := by
  intro h l0 s0 r hf
  unfold f_X12_part_b17 at hf
  refine v_istore_n (i := 3) rfl dX12_part_17 (Nat.le_of_ble_eq_true rfl) (loc' := [some (.ref l0), none, none, some (.int s0), none]) rfl ?_
  exact e_X12_part_b18 hc_X12_condition hck_X12_condition hc_X12_part hck_X12_part hc_X12_unit hck_X12_unit hdx hd1 1048576 h l0 s0 r hf
def g_X12_part (c_X12_condition : xa_H → Nat → Int32 → Int32 → Option (Int32 × xa_H)) (c_X12_part : xa_H → Nat → Int32 → Int32 → Option (Int32 × xa_H)) (c_X12_unit : xa_H → Nat → Option (Int32 × xa_H)) (h : xa_H) (l0 : Nat) (l1 : Int32) (l2 : Int32) : Option (Int32 × xa_H) :=
  (ck [12] h l0).bind fun _ =>
  if l1 = 0 then
    (c_X12_unit h l0).bind fun q2 =>
    f_X12_part_b17 c_X12_condition c_X12_part c_X12_unit q2.2 l0 q2.1
  else
    (f_X12_compares h l0 (1 : Int32) l2).bind fun q3 =>
    f_X12_part_b17 c_X12_condition c_X12_part c_X12_unit q3.2 l0 q3.1
set_option maxRecDepth 20000 in
theorem eg_X12_part {G : xa_G} {d d1 : Nat} {c_X12_condition : xa_H → Nat → Int32 → Int32 → Option (Int32 × xa_H)} (hc_X12_condition : ∀ {h : xa_H} {a0 : Nat} {a1 : Int32} {a2 : Int32} {r : (Int32 × xa_H)}, c_X12_condition h a0 a1 a2 = some r → xa_Ev G M_X12_condition d1 [.ref a0, .int a1, .int a2] h (some (.int r.1)) r.2) (hck_X12_condition : ∀ {h : xa_H} {a0 : Nat} {a1 : Int32} {a2 : Int32} {r : (Int32 × xa_H)}, c_X12_condition h a0 a1 a2 = some r → ck [12] h a0 = some ()) {c_X12_part : xa_H → Nat → Int32 → Int32 → Option (Int32 × xa_H)} (hc_X12_part : ∀ {h : xa_H} {a0 : Nat} {a1 : Int32} {a2 : Int32} {r : (Int32 × xa_H)}, c_X12_part h a0 a1 a2 = some r → xa_Ev G M_X12_part d1 [.ref a0, .int a1, .int a2] h (some (.int r.1)) r.2) (hck_X12_part : ∀ {h : xa_H} {a0 : Nat} {a1 : Int32} {a2 : Int32} {r : (Int32 × xa_H)}, c_X12_part h a0 a1 a2 = some r → ck [12] h a0 = some ()) {c_X12_unit : xa_H → Nat → Option (Int32 × xa_H)} (hc_X12_unit : ∀ {h : xa_H} {a0 : Nat} {r : (Int32 × xa_H)}, c_X12_unit h a0 = some r → xa_Ev G M_X12_unit d1 [.ref a0] h (some (.int r.1)) r.2) (hck_X12_unit : ∀ {h : xa_H} {a0 : Nat} {r : (Int32 × xa_H)}, c_X12_unit h a0 = some r → ck [12] h a0 = some ()) (hdx : 127 ≤ d) (hd1 : d1 + 1 ≤ d) {h : xa_H} {l0 : Nat} {l1 : Int32} {l2 : Int32} {r : (Int32 × xa_H)} (hf : g_X12_part c_X12_condition c_X12_part c_X12_unit h l0 l1 l2 = some r) : xa_Ev G M_X12_part d [.ref l0, .int l1, .int l2] h (some (.int r.1)) r.2 := by
  refine xa_entry (by decide +kernel) (loc := [some (.ref l0), some (.int l1), some (.int l2), none, none]) rfl (Nat.le_of_ble_eq_true rfl) ?_
  unfold g_X12_part at hf
  obtain ⟨u0, eu0, hf⟩ := ob hf
  refine v_iload_n dX12_part_0 rfl ?_
  refine v_if_eq dX12_part_1 (tgt := 13) (by decide) (fun c1 => ?_) (fun c1 => ?_)
  · replace hf := (if_pos c1).symm.trans hf
    refine v_aload_n dX12_part_13 rfl ?_
    obtain ⟨q2, eq2, hf⟩ := ob hf
    refine v_callV dX12_part_14 ⟨cb_X12_unit, ml_12_199, im_X12_unit⟩ se_12_X12_unit (hck_X12_unit eq2) (hc_X12_unit eq2) hd1 (As := []) rfl (st := []) rfl (Nat.le_of_ble_eq_true rfl) rfl ?_
    exact xa_weak (loc := [some (.ref l0), none, none, none, none]) ⟨rfl, trivial⟩ (e_X12_part_b17 hc_X12_condition hck_X12_condition hc_X12_part hck_X12_part hc_X12_unit hck_X12_unit hdx hd1 q2.2 l0 q2.1 r hf)
  · replace hf := (if_neg c1).symm.trans hf
    refine v_aload_n dX12_part_4 rfl ?_
    refine v_iconst dX12_part_5 (by decide) (v := 1) ?_
    refine v_iload_n dX12_part_6 rfl ?_
    obtain ⟨q3, eq3, hf⟩ := ob hf
    refine v_callV dX12_part_7 ⟨cb_X12_compares, ml_12_206, im_X12_compares⟩ se_12_X12_compares (ckf_X12_compares eq3) (ev_X12_compares eq3) (Nat.le_trans (by decide) hdx) (As := [.int (1 : Int32), .int l2]) rfl (st := []) rfl (Nat.le_of_ble_eq_true rfl) rfl ?_
    refine v_goto dX12_part_10 (tgt := 17) (by decide) ?_
    exact xa_weak (loc := [some (.ref l0), none, none, none, none]) ⟨rfl, trivial⟩ (e_X12_part_b17 hc_X12_condition hck_X12_condition hc_X12_part hck_X12_part hc_X12_unit hck_X12_unit hdx hd1 q3.2 l0 q3.1 r hf)
theorem cg_X12_part {c_X12_condition : xa_H → Nat → Int32 → Int32 → Option (Int32 × xa_H)} {c_X12_part : xa_H → Nat → Int32 → Int32 → Option (Int32 × xa_H)} {c_X12_unit : xa_H → Nat → Option (Int32 × xa_H)} {h : xa_H} {l0 : Nat} {l1 : Int32} {l2 : Int32} {r : (Int32 × xa_H)} (hf : g_X12_part c_X12_condition c_X12_part c_X12_unit h l0 l1 l2 = some r) : ck [12] h l0 = some () := by
  obtain ⟨u, e, -⟩ := ob hf
  exact e
def g_X12_unit (c_X12_condition : xa_H → Nat → Int32 → Int32 → Option (Int32 × xa_H)) (c_X12_part : xa_H → Nat → Int32 → Int32 → Option (Int32 × xa_H)) (c_X12_unit : xa_H → Nat → Option (Int32 × xa_H)) (h : xa_H) (l0 : Nat) : Option (Int32 × xa_H) :=
  (ck [12] h l0).bind fun _ =>
  (f_X12_look h l0).bind fun q1 =>
  if q1.1 = (33 : Int32) then
    (f_X12_goesIn q1.2 l0).bind fun q14 =>
    if q14.1 = 0 then
      some ((0 : Int32), q14.2)
    else
      (c_X12_unit q14.2 l0).bind fun q16 =>
      (gI [12] 12 q16.2 l0).bind fun x17 =>
      (xp [12] 12 q16.2 l0 (.int (x17 - (1 : Int32)))).bind fun h18 =>
      if q16.1 = 0 then
        some ((1 : Int32), h18)
      else
        some ((0 : Int32), h18)
  else
    if q1.1 = (40 : Int32) then
      (f_X12_goesIn q1.2 l0).bind fun q6 =>
      if q6.1 = 0 then
        some ((0 : Int32), q6.2)
      else
        (c_X12_condition q6.2 l0 (0 : Int32) (0 : Int32)).bind fun q8 =>
        (f_X12_takes q8.2 l0 (41 : Int32)).bind fun q9 =>
        if q9.1 = 0 then
          some ((0 : Int32), q9.2)
        else
          (gI [12] 12 q9.2 l0).bind fun x11 =>
          (xp [12] 12 q9.2 l0 (.int (x11 - (1 : Int32)))).bind fun h12 =>
          (zq q8.1).bind fun z13 =>
          some (z13, h12)
    else
      (f_X12_compares q1.2 l0 (0 : Int32) (0 : Int32)).bind fun q4 =>
      (zq q4.1).bind fun z5 =>
      some (z5, q4.2)
set_option maxRecDepth 20000 in
theorem eg_X12_unit {G : xa_G} {d d1 : Nat} {c_X12_condition : xa_H → Nat → Int32 → Int32 → Option (Int32 × xa_H)} (hc_X12_condition : ∀ {h : xa_H} {a0 : Nat} {a1 : Int32} {a2 : Int32} {r : (Int32 × xa_H)}, c_X12_condition h a0 a1 a2 = some r → xa_Ev G M_X12_condition d1 [.ref a0, .int a1, .int a2] h (some (.int r.1)) r.2) (hck_X12_condition : ∀ {h : xa_H} {a0 : Nat} {a1 : Int32} {a2 : Int32} {r : (Int32 × xa_H)}, c_X12_condition h a0 a1 a2 = some r → ck [12] h a0 = some ()) {c_X12_part : xa_H → Nat → Int32 → Int32 → Option (Int32 × xa_H)} (hc_X12_part : ∀ {h : xa_H} {a0 : Nat} {a1 : Int32} {a2 : Int32} {r : (Int32 × xa_H)}, c_X12_part h a0 a1 a2 = some r → xa_Ev G M_X12_part d1 [.ref a0, .int a1, .int a2] h (some (.int r.1)) r.2) (hck_X12_part : ∀ {h : xa_H} {a0 : Nat} {a1 : Int32} {a2 : Int32} {r : (Int32 × xa_H)}, c_X12_part h a0 a1 a2 = some r → ck [12] h a0 = some ()) {c_X12_unit : xa_H → Nat → Option (Int32 × xa_H)} (hc_X12_unit : ∀ {h : xa_H} {a0 : Nat} {r : (Int32 × xa_H)}, c_X12_unit h a0 = some r → xa_Ev G M_X12_unit d1 [.ref a0] h (some (.int r.1)) r.2) (hck_X12_unit : ∀ {h : xa_H} {a0 : Nat} {r : (Int32 × xa_H)}, c_X12_unit h a0 = some r → ck [12] h a0 = some ()) (hdx : 127 ≤ d) (hd1 : d1 + 1 ≤ d) {h : xa_H} {l0 : Nat} {r : (Int32 × xa_H)} (hf : g_X12_unit c_X12_condition c_X12_part c_X12_unit h l0 = some r) : xa_Ev G M_X12_unit d [.ref l0] h (some (.int r.1)) r.2 := by
  refine xa_entry (by decide +kernel) (loc := [some (.ref l0), none, none]) rfl (Nat.le_of_ble_eq_true rfl) ?_
  unfold g_X12_unit at hf
  obtain ⟨u0, eu0, hf⟩ := ob hf
  refine v_aload_n dX12_unit_0 rfl ?_
  obtain ⟨q1, eq1, hf⟩ := ob hf
  refine v_callV dX12_unit_1 ⟨cb_X12_look, ml_12_153, im_X12_look⟩ se_12_X12_look (ckf_X12_look eq1) (ev_X12_look eq1) (Nat.le_trans (by decide) hdx) (As := []) rfl (st := []) rfl (Nat.le_of_ble_eq_true rfl) rfl ?_
  refine v_istore_n (i := 1) rfl dX12_unit_4 (Nat.le_of_ble_eq_true rfl) (loc' := [some (.ref l0), some (.int q1.1), none]) rfl ?_
  refine v_iload_n dX12_unit_5 rfl ?_
  refine v_bipush dX12_unit_6 (by decide) (v := 33) ?_
  refine v_icmp_ne dX12_unit_8 (tgt := 45) (by decide) (fun c2 => ?_) (fun c2 => ?_)
  · replace hf := (if_neg c2).symm.trans hf
    refine v_iload_n dX12_unit_45 rfl ?_
    refine v_bipush dX12_unit_46 (by decide) (v := 40) ?_
    refine v_icmp_ne dX12_unit_48 (tgt := 90) (by decide) (fun c3 => ?_) (fun c3 => ?_)
    · replace hf := (if_neg c3).symm.trans hf
      refine v_aload_n dX12_unit_90 rfl ?_
      refine v_iconst dX12_unit_91 (by decide) (v := 0) ?_
      refine v_iconst dX12_unit_92 (by decide) (v := 0) ?_
      obtain ⟨q4, eq4, hf⟩ := ob hf
      refine v_callV dX12_unit_93 ⟨cb_X12_compares, ml_12_206, im_X12_compares⟩ se_12_X12_compares (ckf_X12_compares eq4) (ev_X12_compares eq4) (Nat.le_trans (by decide) hdx) (As := [.int (0 : Int32), .int (0 : Int32)]) rfl (st := []) rfl (Nat.le_of_ble_eq_true rfl) rfl ?_
      obtain ⟨z5, ez5, hf⟩ := ob hf
      obtain ⟨wz5, qz5⟩ := zq_of ez5
      rw [wz5] at hf
      replace hf := Option.some.inj hf
      subst hf
      exact v_zret dX12_unit_96 rfl qz5
    · replace hf := (if_pos c3).symm.trans hf
      refine v_aload_n dX12_unit_51 rfl ?_
      obtain ⟨q6, eq6, hf⟩ := ob hf
      refine v_callV dX12_unit_52 ⟨cb_X12_goesIn, ml_12_173, im_X12_goesIn⟩ se_12_X12_goesIn (ckf_X12_goesIn eq6) (ev_X12_goesIn eq6) (Nat.le_trans (by decide) hdx) (As := []) rfl (st := []) rfl (Nat.le_of_ble_eq_true rfl) rfl ?_
      refine v_if_ne dX12_unit_55 (tgt := 60) (by decide) (fun c7 => ?_) (fun c7 => ?_)
      · replace hf := (if_neg c7).symm.trans hf
        refine v_aload_n dX12_unit_60 rfl ?_
        refine v_iconst dX12_unit_61 (by decide) (v := 0) ?_
        refine v_iconst dX12_unit_62 (by decide) (v := 0) ?_
        obtain ⟨q8, eq8, hf⟩ := ob hf
        refine v_callV dX12_unit_63 ⟨cb_X12_condition, ml_12_202, im_X12_condition⟩ se_12_X12_condition (hck_X12_condition eq8) (hc_X12_condition eq8) hd1 (As := [.int (0 : Int32), .int (0 : Int32)]) rfl (st := []) rfl (Nat.le_of_ble_eq_true rfl) rfl ?_
        refine v_istore_n (i := 2) rfl dX12_unit_66 (Nat.le_of_ble_eq_true rfl) (loc' := [some (.ref l0), some (.int q1.1), some (.int q8.1)]) rfl ?_
        refine v_aload_n dX12_unit_67 rfl ?_
        refine v_bipush dX12_unit_68 (by decide) (v := 41) ?_
        obtain ⟨q9, eq9, hf⟩ := ob hf
        refine v_callV dX12_unit_70 ⟨cb_X12_takes, ml_12_179, im_X12_takes⟩ se_12_X12_takes (ckf_X12_takes eq9) (ev_X12_takes eq9) (Nat.le_trans (by decide) hdx) (As := [.int (41 : Int32)]) rfl (st := []) rfl (Nat.le_of_ble_eq_true rfl) rfl ?_
        refine v_if_ne dX12_unit_73 (tgt := 78) (by decide) (fun c10 => ?_) (fun c10 => ?_)
        · replace hf := (if_neg c10).symm.trans hf
          refine v_aload_n dX12_unit_78 rfl ?_
          refine v_dup dX12_unit_79 rfl ?_
          obtain ⟨x11, ex11, hf⟩ := ob hf
          refine v_getI dX12_unit_80 fl_12_146 ex11 ?_
          refine v_iconst dX12_unit_83 (by decide) (v := 1) ?_
          refine v_isub dX12_unit_84 ?_
          obtain ⟨h12, eh12, hf⟩ := ob hf
          refine v_put dX12_unit_85 fp_12_146 (fun z => by cases z) (fun _ => rfl) (fun _ => rfl) eh12 ?_
          refine v_iload_n dX12_unit_88 rfl ?_
          obtain ⟨z13, ez13, hf⟩ := ob hf
          obtain ⟨wz13, qz13⟩ := zq_of ez13
          rw [wz13] at hf
          replace hf := Option.some.inj hf
          subst hf
          exact v_zret dX12_unit_89 rfl qz13
        · replace hf := (if_pos c10).symm.trans hf
          refine v_iconst dX12_unit_76 (by decide) (v := 0) ?_
          replace hf := Option.some.inj hf
          subst hf
          exact v_zret dX12_unit_77 rfl (by decide)
      · replace hf := (if_pos c7).symm.trans hf
        refine v_iconst dX12_unit_58 (by decide) (v := 0) ?_
        replace hf := Option.some.inj hf
        subst hf
        exact v_zret dX12_unit_59 rfl (by decide)
  · replace hf := (if_pos c2).symm.trans hf
    refine v_aload_n dX12_unit_11 rfl ?_
    obtain ⟨q14, eq14, hf⟩ := ob hf
    refine v_callV dX12_unit_12 ⟨cb_X12_goesIn, ml_12_173, im_X12_goesIn⟩ se_12_X12_goesIn (ckf_X12_goesIn eq14) (ev_X12_goesIn eq14) (Nat.le_trans (by decide) hdx) (As := []) rfl (st := []) rfl (Nat.le_of_ble_eq_true rfl) rfl ?_
    refine v_if_ne dX12_unit_15 (tgt := 20) (by decide) (fun c15 => ?_) (fun c15 => ?_)
    · replace hf := (if_neg c15).symm.trans hf
      refine v_aload_n dX12_unit_20 rfl ?_
      obtain ⟨q16, eq16, hf⟩ := ob hf
      refine v_callV dX12_unit_21 ⟨cb_X12_unit, ml_12_199, im_X12_unit⟩ se_12_X12_unit (hck_X12_unit eq16) (hc_X12_unit eq16) hd1 (As := []) rfl (st := []) rfl (Nat.le_of_ble_eq_true rfl) rfl ?_
      refine v_istore_n (i := 2) rfl dX12_unit_24 (Nat.le_of_ble_eq_true rfl) (loc' := [some (.ref l0), some (.int q1.1), some (.int q16.1)]) rfl ?_
      refine v_aload_n dX12_unit_25 rfl ?_
      refine v_dup dX12_unit_26 rfl ?_
      obtain ⟨x17, ex17, hf⟩ := ob hf
      refine v_getI dX12_unit_27 fl_12_146 ex17 ?_
      refine v_iconst dX12_unit_30 (by decide) (v := 1) ?_
      refine v_isub dX12_unit_31 ?_
      obtain ⟨h18, eh18, hf⟩ := ob hf
      refine v_put dX12_unit_32 fp_12_146 (fun z => by cases z) (fun _ => rfl) (fun _ => rfl) eh18 ?_
      refine v_iload_n dX12_unit_35 rfl ?_
      refine v_if_ne dX12_unit_36 (tgt := 43) (by decide) (fun c19 => ?_) (fun c19 => ?_)
      · replace hf := (if_neg c19).symm.trans hf
        refine v_iconst dX12_unit_43 (by decide) (v := 0) ?_
        replace hf := Option.some.inj hf
        subst hf
        exact v_zret dX12_unit_44 rfl (by decide)
      · replace hf := (if_pos c19).symm.trans hf
        refine v_iconst dX12_unit_39 (by decide) (v := 1) ?_
        refine v_goto dX12_unit_40 (tgt := 44) (by decide) ?_
        replace hf := Option.some.inj hf
        subst hf
        exact v_zret dX12_unit_44 rfl (by decide)
    · replace hf := (if_pos c15).symm.trans hf
      refine v_iconst dX12_unit_18 (by decide) (v := 0) ?_
      replace hf := Option.some.inj hf
      subst hf
      exact v_zret dX12_unit_19 rfl (by decide)
theorem cg_X12_unit {c_X12_condition : xa_H → Nat → Int32 → Int32 → Option (Int32 × xa_H)} {c_X12_part : xa_H → Nat → Int32 → Int32 → Option (Int32 × xa_H)} {c_X12_unit : xa_H → Nat → Option (Int32 × xa_H)} {h : xa_H} {l0 : Nat} {r : (Int32 × xa_H)} (hf : g_X12_unit c_X12_condition c_X12_part c_X12_unit h l0 = some r) : ck [12] h l0 = some () := by
  obtain ⟨u, e, -⟩ := ob hf
  exact e
def fg_X12_condition : Nat → (xa_H → Nat → Int32 → Int32 → Option (Int32 × xa_H)) × (xa_H → Nat → Int32 → Int32 → Option (Int32 × xa_H)) × (xa_H → Nat → Option (Int32 × xa_H))
  | 0 => (fun _ _ _ _ => none, fun _ _ _ _ => none, fun _ _ => none)
  | n + 1 => (g_X12_condition ((fg_X12_condition n).1) ((fg_X12_condition n).2.1) ((fg_X12_condition n).2.2), g_X12_part ((fg_X12_condition n).1) ((fg_X12_condition n).2.1) ((fg_X12_condition n).2.2), g_X12_unit ((fg_X12_condition n).1) ((fg_X12_condition n).2.1) ((fg_X12_condition n).2.2))
def f_X12_condition (n : Nat) : xa_H → Nat → Int32 → Int32 → Option (Int32 × xa_H) := (fg_X12_condition n).1
def f_X12_part (n : Nat) : xa_H → Nat → Int32 → Int32 → Option (Int32 × xa_H) := (fg_X12_condition n).2.1
def f_X12_unit (n : Nat) : xa_H → Nat → Option (Int32 × xa_H) := (fg_X12_condition n).2.2
theorem ckf_X12_condition {n : Nat} {h : xa_H} {a0 : Nat} {a1 : Int32} {a2 : Int32} {r : (Int32 × xa_H)} (hf : f_X12_condition n h a0 a1 a2 = some r) : ck [12] h a0 = some () := by
  cases n with
  | zero => cases (show (none : Option (Int32 × xa_H)) = some r from hf)
  | succ n => exact cg_X12_condition (c_X12_condition := (fg_X12_condition n).1) (c_X12_part := (fg_X12_condition n).2.1) (c_X12_unit := (fg_X12_condition n).2.2) hf
theorem ckf_X12_part {n : Nat} {h : xa_H} {a0 : Nat} {a1 : Int32} {a2 : Int32} {r : (Int32 × xa_H)} (hf : f_X12_part n h a0 a1 a2 = some r) : ck [12] h a0 = some () := by
  cases n with
  | zero => cases (show (none : Option (Int32 × xa_H)) = some r from hf)
  | succ n => exact cg_X12_part (c_X12_condition := (fg_X12_condition n).1) (c_X12_part := (fg_X12_condition n).2.1) (c_X12_unit := (fg_X12_condition n).2.2) hf
theorem ckf_X12_unit {n : Nat} {h : xa_H} {a0 : Nat} {r : (Int32 × xa_H)} (hf : f_X12_unit n h a0 = some r) : ck [12] h a0 = some () := by
  cases n with
  | zero => cases (show (none : Option (Int32 × xa_H)) = some r from hf)
  | succ n => exact cg_X12_unit (c_X12_condition := (fg_X12_condition n).1) (c_X12_part := (fg_X12_condition n).2.1) (c_X12_unit := (fg_X12_condition n).2.2) hf
theorem evg_X12_condition {G : xa_G} : ∀ n : Nat, (∀ {h : xa_H} {a0 : Nat} {a1 : Int32} {a2 : Int32} {r : (Int32 × xa_H)}, f_X12_condition n h a0 a1 a2 = some r → xa_Ev G M_X12_condition (127 + n) [.ref a0, .int a1, .int a2] h (some (.int r.1)) r.2) ∧ (∀ {h : xa_H} {a0 : Nat} {a1 : Int32} {a2 : Int32} {r : (Int32 × xa_H)}, f_X12_part n h a0 a1 a2 = some r → xa_Ev G M_X12_part (127 + n) [.ref a0, .int a1, .int a2] h (some (.int r.1)) r.2) ∧ (∀ {h : xa_H} {a0 : Nat} {r : (Int32 × xa_H)}, f_X12_unit n h a0 = some r → xa_Ev G M_X12_unit (127 + n) [.ref a0] h (some (.int r.1)) r.2) := by
  intro n
  induction n with
  | zero => exact ⟨(fun hf => by cases (show (none : Option (Int32 × xa_H)) = some _ from hf)), (fun hf => by cases (show (none : Option (Int32 × xa_H)) = some _ from hf)), (fun hf => by cases (show (none : Option (Int32 × xa_H)) = some _ from hf))⟩
  | succ n ih => exact ⟨(fun hf => eg_X12_condition ih.1 ckf_X12_condition ih.2.1 ckf_X12_part ih.2.2 ckf_X12_unit (by omega) (by omega) hf), (fun hf => eg_X12_part ih.1 ckf_X12_condition ih.2.1 ckf_X12_part ih.2.2 ckf_X12_unit (by omega) (by omega) hf), (fun hf => eg_X12_unit ih.1 ckf_X12_condition ih.2.1 ckf_X12_part ih.2.2 ckf_X12_unit (by omega) (by omega) hf)⟩
theorem ev_X12_condition {G : xa_G} {n : Nat} {h : xa_H} {a0 : Nat} {a1 : Int32} {a2 : Int32} {r : (Int32 × xa_H)} (hf : f_X12_condition n h a0 a1 a2 = some r) : xa_Ev G M_X12_condition (127 + n) [.ref a0, .int a1, .int a2] h (some (.int r.1)) r.2 := (evg_X12_condition n).1 hf
theorem ev_X12_part {G : xa_G} {n : Nat} {h : xa_H} {a0 : Nat} {a1 : Int32} {a2 : Int32} {r : (Int32 × xa_H)} (hf : f_X12_part n h a0 a1 a2 = some r) : xa_Ev G M_X12_part (127 + n) [.ref a0, .int a1, .int a2] h (some (.int r.1)) r.2 := (evg_X12_condition n).2.1 hf
theorem ev_X12_unit {G : xa_G} {n : Nat} {h : xa_H} {a0 : Nat} {r : (Int32 × xa_H)} (hf : f_X12_unit n h a0 = some r) : xa_Ev G M_X12_unit (127 + n) [.ref a0] h (some (.int r.1)) r.2 := (evg_X12_condition n).2.2 hf
def M_X12_clause : xa_M := (yX12_clause, cX12_clause, 5, none)
theorem cb_X12_clause : xa_CB M_X12_clause 0 := ⟨gws_at 1568 (by decide +kernel) rfl, gws_at 122 (by decide +kernel) rfl, by decide +kernel, Nat.le_of_ble_eq_true rfl⟩
def f_X12_clause_b134 (h : xa_H) (l0 : Nat) (l1 : Int32) (l2 : Int32) (l3 : Int32) : Option xa_H :=
  (gI [12] 11 h l0).bind fun x1 =>
  if x1 = (-1 : Int32) then
    (gI [12] 17 h l0).bind fun x3 =>
    if x3 = 0 then
      (gI [12] 13 h l0).bind fun x5 =>
      if l1 = x5 then
        if l2 = 0 then
          some h
        else
          (xp [12] 17 h l0 (.int (1 : Int32))).bind fun h8 =>
          (xp [12] 14 h8 l0 (.int l3)).bind fun h9 =>
          some h9
      else
        some h
    else
      some h
  else
    some h
set_option maxRecDepth 20000 in
theorem e_X12_clause_b134 {G : xa_G} : ∀ (h : xa_H) (l0 : Nat) (l1 : Int32) (l2 : Int32) (l3 : Int32) (r : xa_H), f_X12_clause_b134 h l0 l1 l2 l3 = some r → xa_V G M_X12_clause 188 134 [some (.ref l0), some (.int l1), some (.int l2), some (.int l3), none] [] h none r := by
  intro h l0 l1 l2 l3 r hf
  unfold f_X12_clause_b134 at hf
  refine v_aload_n dX12_clause_134 rfl ?_
  obtain ⟨x1, ex1, hf⟩ := ob hf
  refine v_getI dX12_clause_135 fl_12_143 ex1 ?_
  refine v_iconst dX12_clause_138 (by decide) (v := -1) ?_
  refine v_icmp_ne dX12_clause_139 (tgt := 161) (by decide) (fun c2 => ?_) (fun c2 => ?_)
  · replace hf := (if_neg c2).symm.trans hf
    replace hf := Option.some.inj hf
    subst hf
    exact v_vret dX12_clause_161 rfl
  · replace hf := (if_pos c2).symm.trans hf
    refine v_aload_n dX12_clause_142 rfl ?_
    obtain ⟨x3, ex3, hf⟩ := ob hf
    refine v_getI dX12_clause_143 fl_12_212 ex3 ?_
    refine v_if_ne dX12_clause_146 (tgt := 161) (by decide) (fun c4 => ?_) (fun c4 => ?_)
    · replace hf := (if_neg c4).symm.trans hf
      replace hf := Option.some.inj hf
      subst hf
      exact v_vret dX12_clause_161 rfl
    · replace hf := (if_pos c4).symm.trans hf
      refine v_iload_n dX12_clause_149 rfl ?_
      refine v_aload_n dX12_clause_150 rfl ?_
      obtain ⟨x5, ex5, hf⟩ := ob hf
      refine v_getI dX12_clause_151 fl_12_216 ex5 ?_
      refine v_icmp_ne dX12_clause_154 (tgt := 161) (by decide) (fun c6 => ?_) (fun c6 => ?_)
      · replace hf := (if_neg c6).symm.trans hf
        replace hf := Option.some.inj hf
        subst hf
        exact v_vret dX12_clause_161 rfl
      · replace hf := (if_pos c6).symm.trans hf
        refine v_iload_n dX12_clause_157 rfl ?_
        refine v_if_ne dX12_clause_158 (tgt := 162) (by decide) (fun c7 => ?_) (fun c7 => ?_)
        · replace hf := (if_neg c7).symm.trans hf
          refine v_aload_n dX12_clause_162 rfl ?_
          refine v_iconst dX12_clause_163 (by decide) (v := 1) ?_
          obtain ⟨h8, eh8, hf⟩ := ob hf
          refine v_put dX12_clause_164 fp_12_212 (fun z => by cases z) (fun _ => rfl) (fun _ => rfl) eh8 ?_
          refine v_aload_n dX12_clause_167 rfl ?_
          refine v_iload_n dX12_clause_168 rfl ?_
          obtain ⟨h9, eh9, hf⟩ := ob hf
          refine v_put dX12_clause_169 fp_12_219 (fun z => by cases z) (fun _ => rfl) (fun _ => rfl) eh9 ?_
          replace hf := Option.some.inj hf
          subst hf
          exact v_vret dX12_clause_172 rfl
        · replace hf := (if_pos c7).symm.trans hf
          replace hf := Option.some.inj hf
          subst hf
          exact v_vret dX12_clause_161 rfl
def f_X12_clause_b64 (h : xa_H) (l0 : Nat) (l1 : Int32) : Option xa_H :=
  (f_X12_condition 60 h l0 (0 : Int32) (0 : Int32)).bind fun q1 =>
  (f_X12_takes q1.2 l0 (63 : Int32)).bind fun q2 =>
  if q2.1 = 0 then
    some q2.2
  else
    (f_X12_sum 120 q2.2 l0).bind fun q4 =>
    f_X12_clause_b134 q4.2 l0 l1 q1.1 q4.1
set_option maxRecDepth 20000 in
theorem e_X12_clause_b64 {G : xa_G} : ∀ (h : xa_H) (l0 : Nat) (l1 : Int32) (r : xa_H), f_X12_clause_b64 h l0 l1 = some r → xa_V G M_X12_clause 188 64 [some (.ref l0), some (.int l1), none, none, none] [] h none r := by
  intro h l0 l1 r hf
  unfold f_X12_clause_b64 at hf
  refine v_aload_n dX12_clause_64 rfl ?_
  refine v_iconst dX12_clause_65 (by decide) (v := 0) ?_
  refine v_iconst dX12_clause_66 (by decide) (v := 0) ?_
  obtain ⟨q1, eq1, hf⟩ := ob hf
  refine v_callV dX12_clause_67 ⟨cb_X12_condition, ml_12_202, im_X12_condition⟩ se_12_X12_condition (ckf_X12_condition eq1) (ev_X12_condition eq1) (by decide) (As := [.int (0 : Int32), .int (0 : Int32)]) rfl (st := []) rfl (Nat.le_of_ble_eq_true rfl) rfl ?_
  refine v_istore_n (i := 2) rfl dX12_clause_70 (Nat.le_of_ble_eq_true rfl) (loc' := [some (.ref l0), some (.int l1), some (.int q1.1), none, none]) rfl ?_
  refine v_aload_n dX12_clause_71 rfl ?_
  refine v_bipush dX12_clause_72 (by decide) (v := 63) ?_
  obtain ⟨q2, eq2, hf⟩ := ob hf
  refine v_callV dX12_clause_74 ⟨cb_X12_takes, ml_12_179, im_X12_takes⟩ se_12_X12_takes (ckf_X12_takes eq2) (ev_X12_takes eq2) (by decide) (As := [.int (63 : Int32)]) rfl (st := []) rfl (Nat.le_of_ble_eq_true rfl) rfl ?_
  refine v_if_ne dX12_clause_77 (tgt := 81) (by decide) (fun c3 => ?_) (fun c3 => ?_)
  · replace hf := (if_neg c3).symm.trans hf
    refine v_aload_n dX12_clause_81 rfl ?_
    obtain ⟨q4, eq4, hf⟩ := ob hf
    refine v_callV dX12_clause_82 ⟨cb_X12_sum, ml_12_176, im_X12_sum⟩ se_12_X12_sum (ckf_X12_sum eq4) (ev_X12_sum eq4) (by decide) (As := []) rfl (st := []) rfl (Nat.le_of_ble_eq_true rfl) rfl ?_
    refine v_istore_n (i := 3) rfl dX12_clause_85 (Nat.le_of_ble_eq_true rfl) (loc' := [some (.ref l0), some (.int l1), some (.int q1.1), some (.int q4.1), none]) rfl ?_
    refine v_goto dX12_clause_86 (tgt := 134) (by decide) ?_
    exact e_X12_clause_b134 q4.2 l0 l1 q1.1 q4.1 r hf
  · replace hf := (if_pos c3).symm.trans hf
    replace hf := Option.some.inj hf
    subst hf
    exact v_vret dX12_clause_80 rfl
def f_X12_clause (h : xa_H) (l0 : Nat) : Option xa_H :=
  (ck [12] h l0).bind fun _ =>
  (f_X12_look h l0).bind fun q1 =>
  (f_X12_isAmong q1.2 (1000000010 + 5) q1.1).bind fun q2 =>
  if q2 = 0 then
    (f_X12_fails q1.2 l0).bind fun q21 =>
    some q21.2
  else
    (gI [12] 10 q1.2 l0).bind fun x4 =>
    (xp [12] 10 q1.2 l0 (.int (x4 + (1 : Int32)))).bind fun h5 =>
    (f_X12_takes h5 l0 (58 : Int32)).bind fun q6 =>
    if q6.1 = 0 then
      some q6.2
    else
      (f_X12_look q6.2 l0).bind fun q8 =>
      if q8.1 = (33 : Int32) then
        f_X12_clause_b64 q8.2 l0 q1.1
      else
        if q8.1 = (40 : Int32) then
          f_X12_clause_b64 q8.2 l0 q1.1
        else
          (f_X12_sum 120 q8.2 l0).bind fun q11 =>
          (gI [12] 11 q11.2 l0).bind fun x12 =>
          if x12 = (-1 : Int32) then
            (f_X12_look q11.2 l0).bind fun q14 =>
            (f_X12_isSign q14.2 q14.1).bind fun q15 =>
            if q15 = 0 then
              f_X12_clause_b134 q14.2 l0 q1.1 (1 : Int32) q11.1
            else
              (f_X12_condition 60 q14.2 l0 (1 : Int32) q11.1).bind fun q17 =>
              (f_X12_takes q17.2 l0 (63 : Int32)).bind fun q18 =>
              if q18.1 = 0 then
                some q18.2
              else
                (f_X12_sum 120 q18.2 l0).bind fun q20 =>
                f_X12_clause_b134 q20.2 l0 q1.1 q17.1 q20.1
          else
            f_X12_clause_b134 q11.2 l0 q1.1 (1 : Int32) q11.1
set_option maxRecDepth 20000 in
theorem ev_X12_clause {G : xa_G} {h : xa_H} {l0 : Nat} {r : xa_H} (hf : f_X12_clause h l0 = some r) : xa_Ev G M_X12_clause 188 [.ref l0] h none r := by
  refine xa_entry (by decide +kernel) (loc := [some (.ref l0), none, none, none, none]) rfl (Nat.le_of_ble_eq_true rfl) ?_
  unfold f_X12_clause at hf
  obtain ⟨u0, eu0, hf⟩ := ob hf
  refine v_aload_n dX12_clause_0 rfl ?_
  obtain ⟨q1, eq1, hf⟩ := ob hf
  refine v_callV dX12_clause_1 ⟨cb_X12_look, ml_12_153, im_X12_look⟩ se_12_X12_look (ckf_X12_look eq1) (ev_X12_look eq1) (by decide) (As := []) rfl (st := []) rfl (Nat.le_of_ble_eq_true rfl) rfl ?_
  refine v_istore_n (i := 1) rfl dX12_clause_4 (Nat.le_of_ble_eq_true rfl) (loc' := [some (.ref l0), some (.int q1.1), none, none, none]) rfl ?_
  refine v_ldcs dX12_clause_5 (List.mem_of_getElem? (i := 5) rfl) ?_
  refine v_iload_n dX12_clause_7 rfl ?_
  obtain ⟨q2, eq2, hf⟩ := ob hf
  refine v_callS dX12_clause_8 ⟨cb_X12_isAmong, ml_12_169, sm_X12_isAmong⟩ (ev_X12_isAmong eq2) (by decide) (As := [.ref (1000000010 + 5), .int q1.1]) rfl (st := []) rfl (Nat.le_of_ble_eq_true rfl) rfl ?_
  refine v_if_ne dX12_clause_11 (tgt := 20) (by decide) (fun c3 => ?_) (fun c3 => ?_)
  · replace hf := (if_neg c3).symm.trans hf
    refine v_aload_n dX12_clause_20 rfl ?_
    refine v_dup dX12_clause_21 rfl ?_
    obtain ⟨x4, ex4, hf⟩ := ob hf
    refine v_getI dX12_clause_22 fl_12_134 ex4 ?_
    refine v_iconst dX12_clause_25 (by decide) (v := 1) ?_
    refine v_iadd dX12_clause_26 ?_
    obtain ⟨h5, eh5, hf⟩ := ob hf
    refine v_put dX12_clause_27 fp_12_134 (fun z => by cases z) (fun _ => rfl) (fun _ => rfl) eh5 ?_
    refine v_aload_n dX12_clause_30 rfl ?_
    refine v_bipush dX12_clause_31 (by decide) (v := 58) ?_
    obtain ⟨q6, eq6, hf⟩ := ob hf
    refine v_callV dX12_clause_33 ⟨cb_X12_takes, ml_12_179, im_X12_takes⟩ se_12_X12_takes (ckf_X12_takes eq6) (ev_X12_takes eq6) (by decide) (As := [.int (58 : Int32)]) rfl (st := []) rfl (Nat.le_of_ble_eq_true rfl) rfl ?_
    refine v_if_ne dX12_clause_36 (tgt := 40) (by decide) (fun c7 => ?_) (fun c7 => ?_)
    · replace hf := (if_neg c7).symm.trans hf
      refine v_iconst dX12_clause_40 (by decide) (v := 1) ?_
      refine v_istore_n (i := 2) rfl dX12_clause_41 (Nat.le_of_ble_eq_true rfl) (loc' := [some (.ref l0), some (.int q1.1), some (.int (1 : Int32)), none, none]) rfl ?_
      refine v_iconst dX12_clause_42 (by decide) (v := 0) ?_
      refine v_istore_n (i := 3) rfl dX12_clause_43 (Nat.le_of_ble_eq_true rfl) (loc' := [some (.ref l0), some (.int q1.1), some (.int (1 : Int32)), some (.int (0 : Int32)), none]) rfl ?_
      refine v_aload_n dX12_clause_44 rfl ?_
      obtain ⟨q8, eq8, hf⟩ := ob hf
      refine v_callV dX12_clause_45 ⟨cb_X12_look, ml_12_153, im_X12_look⟩ se_12_X12_look (ckf_X12_look eq8) (ev_X12_look eq8) (by decide) (As := []) rfl (st := []) rfl (Nat.le_of_ble_eq_true rfl) rfl ?_
      refine v_istore dX12_clause_48 (Nat.le_of_ble_eq_true rfl) (loc' := [some (.ref l0), some (.int q1.1), some (.int (1 : Int32)), some (.int (0 : Int32)), some (.int q8.1)]) rfl ?_
      refine v_iload dX12_clause_50 rfl ?_
      refine v_bipush dX12_clause_52 (by decide) (v := 33) ?_
      refine v_icmp_eq dX12_clause_54 (tgt := 64) (by decide) (fun c9 => ?_) (fun c9 => ?_)
      · replace hf := (if_pos c9).symm.trans hf
        exact xa_weak (loc := [some (.ref l0), some (.int q1.1), none, none, none]) ⟨rfl, ⟨rfl, trivial⟩⟩ (e_X12_clause_b64 q8.2 l0 q1.1 r hf)
      · replace hf := (if_neg c9).symm.trans hf
        refine v_iload dX12_clause_57 rfl ?_
        refine v_bipush dX12_clause_59 (by decide) (v := 40) ?_
        refine v_icmp_ne dX12_clause_61 (tgt := 89) (by decide) (fun c10 => ?_) (fun c10 => ?_)
        · replace hf := (if_neg c10).symm.trans hf
          refine v_aload_n dX12_clause_89 rfl ?_
          obtain ⟨q11, eq11, hf⟩ := ob hf
          refine v_callV dX12_clause_90 ⟨cb_X12_sum, ml_12_176, im_X12_sum⟩ se_12_X12_sum (ckf_X12_sum eq11) (ev_X12_sum eq11) (by decide) (As := []) rfl (st := []) rfl (Nat.le_of_ble_eq_true rfl) rfl ?_
          refine v_istore_n (i := 3) rfl dX12_clause_93 (Nat.le_of_ble_eq_true rfl) (loc' := [some (.ref l0), some (.int q1.1), some (.int (1 : Int32)), some (.int q11.1), some (.int q8.1)]) rfl ?_
          refine v_aload_n dX12_clause_94 rfl ?_
          obtain ⟨x12, ex12, hf⟩ := ob hf
          refine v_getI dX12_clause_95 fl_12_143 ex12 ?_
          refine v_iconst dX12_clause_98 (by decide) (v := -1) ?_
          refine v_icmp_ne dX12_clause_99 (tgt := 134) (by decide) (fun c13 => ?_) (fun c13 => ?_)
          · replace hf := (if_neg c13).symm.trans hf
            exact xa_weak (loc := [some (.ref l0), some (.int q1.1), some (.int (1 : Int32)), some (.int q11.1), none]) ⟨rfl, ⟨rfl, ⟨rfl, ⟨rfl, trivial⟩⟩⟩⟩ (e_X12_clause_b134 q11.2 l0 q1.1 (1 : Int32) q11.1 r hf)
          · replace hf := (if_pos c13).symm.trans hf
            refine v_aload_n dX12_clause_102 rfl ?_
            obtain ⟨q14, eq14, hf⟩ := ob hf
            refine v_callV dX12_clause_103 ⟨cb_X12_look, ml_12_153, im_X12_look⟩ se_12_X12_look (ckf_X12_look eq14) (ev_X12_look eq14) (by decide) (As := []) rfl (st := []) rfl (Nat.le_of_ble_eq_true rfl) rfl ?_
            obtain ⟨q15, eq15, hf⟩ := ob hf
            refine v_callS dX12_clause_106 ⟨cb_X12_isSign, ml_12_196, sm_X12_isSign⟩ (ev_X12_isSign eq15) (by decide) (As := [.int q14.1]) rfl (st := []) rfl (Nat.le_of_ble_eq_true rfl) rfl ?_
            refine v_if_eq dX12_clause_109 (tgt := 134) (by decide) (fun c16 => ?_) (fun c16 => ?_)
            · replace hf := (if_pos c16).symm.trans hf
              exact xa_weak (loc := [some (.ref l0), some (.int q1.1), some (.int (1 : Int32)), some (.int q11.1), none]) ⟨rfl, ⟨rfl, ⟨rfl, ⟨rfl, trivial⟩⟩⟩⟩ (e_X12_clause_b134 q14.2 l0 q1.1 (1 : Int32) q11.1 r hf)
            · replace hf := (if_neg c16).symm.trans hf
              refine v_aload_n dX12_clause_112 rfl ?_
              refine v_iconst dX12_clause_113 (by decide) (v := 1) ?_
              refine v_iload_n dX12_clause_114 rfl ?_
              obtain ⟨q17, eq17, hf⟩ := ob hf
              refine v_callV dX12_clause_115 ⟨cb_X12_condition, ml_12_202, im_X12_condition⟩ se_12_X12_condition (ckf_X12_condition eq17) (ev_X12_condition eq17) (by decide) (As := [.int (1 : Int32), .int q11.1]) rfl (st := []) rfl (Nat.le_of_ble_eq_true rfl) rfl ?_
              refine v_istore_n (i := 2) rfl dX12_clause_118 (Nat.le_of_ble_eq_true rfl) (loc' := [some (.ref l0), some (.int q1.1), some (.int q17.1), some (.int q11.1), some (.int q8.1)]) rfl ?_
              refine v_aload_n dX12_clause_119 rfl ?_
              refine v_bipush dX12_clause_120 (by decide) (v := 63) ?_
              obtain ⟨q18, eq18, hf⟩ := ob hf
              refine v_callV dX12_clause_122 ⟨cb_X12_takes, ml_12_179, im_X12_takes⟩ se_12_X12_takes (ckf_X12_takes eq18) (ev_X12_takes eq18) (by decide) (As := [.int (63 : Int32)]) rfl (st := []) rfl (Nat.le_of_ble_eq_true rfl) rfl ?_
              refine v_if_ne dX12_clause_125 (tgt := 129) (by decide) (fun c19 => ?_) (fun c19 => ?_)
              · replace hf := (if_neg c19).symm.trans hf
                refine v_aload_n dX12_clause_129 rfl ?_
                obtain ⟨q20, eq20, hf⟩ := ob hf
                refine v_callV dX12_clause_130 ⟨cb_X12_sum, ml_12_176, im_X12_sum⟩ se_12_X12_sum (ckf_X12_sum eq20) (ev_X12_sum eq20) (by decide) (As := []) rfl (st := []) rfl (Nat.le_of_ble_eq_true rfl) rfl ?_
                refine v_istore_n (i := 3) rfl dX12_clause_133 (Nat.le_of_ble_eq_true rfl) (loc' := [some (.ref l0), some (.int q1.1), some (.int q17.1), some (.int q20.1), some (.int q8.1)]) rfl ?_
                exact xa_weak (loc := [some (.ref l0), some (.int q1.1), some (.int q17.1), some (.int q20.1), none]) ⟨rfl, ⟨rfl, ⟨rfl, ⟨rfl, trivial⟩⟩⟩⟩ (e_X12_clause_b134 q20.2 l0 q1.1 q17.1 q20.1 r hf)
              · replace hf := (if_pos c19).symm.trans hf
                replace hf := Option.some.inj hf
                subst hf
                exact v_vret dX12_clause_128 rfl
        · replace hf := (if_pos c10).symm.trans hf
          exact xa_weak (loc := [some (.ref l0), some (.int q1.1), none, none, none]) ⟨rfl, ⟨rfl, trivial⟩⟩ (e_X12_clause_b64 q8.2 l0 q1.1 r hf)
    · replace hf := (if_pos c7).symm.trans hf
      replace hf := Option.some.inj hf
      subst hf
      exact v_vret dX12_clause_39 rfl
  · replace hf := (if_pos c3).symm.trans hf
    refine v_aload_n dX12_clause_14 rfl ?_
    obtain ⟨q21, eq21, hf⟩ := ob hf
    refine v_callV dX12_clause_15 ⟨cb_X12_fails, ml_12_149, im_X12_fails⟩ se_12_X12_fails (ckf_X12_fails eq21) (ev_X12_fails eq21) (by decide) (As := []) rfl (st := []) rfl (Nat.le_of_ble_eq_true rfl) rfl ?_
    refine v_pop dX12_clause_18 rfl ?_
    replace hf := Option.some.inj hf
    subst hf
    exact v_vret dX12_clause_19 rfl
theorem ckf_X12_clause {h : xa_H} {l0 : Nat} {r : xa_H} (hf : f_X12_clause h l0 = some r) : ck [12] h l0 = some () := by
  obtain ⟨u, e, -⟩ := ob hf
  exact e
